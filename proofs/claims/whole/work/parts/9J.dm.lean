section DM
/-! the best of what is tried, whatever the order of trying -/
def bs_con (q r : sp_Q4) : sp_Q4 := if q.1 = 0 then r else if (if r.2.2.2 = q.2.2.2 then (if r.1 < q.1 then true else (if r.1 = q.1 then (if q.2.1 ≤ r.2.1 then false else true) else false)) else (if r.2.2.2 ≤ q.2.2.2 then false else true)) = true then r else q
def bs_try (q r : sp_Q4) : sp_Q4 := if q.1 ≤ 0 then r else if q.2.2.2 < r.2.2.2 then r else q
section B
variable {K W : Nat → Nat → Int32}
def bs_c (K W : Nat → Nat → Int32) (i j : Nat) : sp_Q4 := (nI (2 * i + 2), nI (j + 1), K i j, W i j)
abbrev bs_b (W : Nat → Nat → Int32) (a b i j : Nat) : Prop := (W i j).toInt < (W a b).toInt ∨ ((W a b).toInt = (W i j).toInt ∧ (a < i ∨ (a = i ∧ b < j)))
def bs_B (K W : Nat → Nat → Int32) (D : Nat → Nat → Prop) (q : sp_Q4) : Prop := ∃ i j, D i j ∧ q = bs_c K W i j ∧ ∀ a b, D a b → ¬ bs_b W a b i j
def bs_S (K W : Nat → Nat → Int32) (D : Nat → Nat → Prop) (q : sp_Q4) : Prop := (q.1 = 0 ∧ ∀ a b, ¬ D a b) ∨ bs_B K W D q
theorem bs_uniq {D : Nat → Nat → Prop} {q r : sp_Q4} (h : bs_B K W D q) (h2 : bs_B K W D r) : q = r := by
  obtain ⟨i, j, d, rfl, n⟩ := h
  obtain ⟨a, b, e, rfl, m⟩ := h2
  have x := n a b e
  have y := m i j d
  unfold bs_b at x y
  have e1 : i = a := by omega
  have e2 : j = b := by omega
  rw [e1, e2]
theorem bs_S.cg {D E : Nat → Nat → Prop} {q : sp_Q4} (h : bs_S K W D q) (e : ∀ a b, D a b ↔ E a b) : bs_S K W E q := by
  have e : D = E := funext fun a => funext fun b => propext (e a b)
  rw [← e]; exact h
/-- what any step does that takes what is better -/
theorem bs_step {D : Nat → Nat → Prop} {q q2 : sp_Q4} {i j : Nat} (h : bs_S K W D q) (h0 : q.1 = 0 → q2 = bs_c K W i j) (h1 : ∀ a b, D a b → q = bs_c K W a b → (bs_b W i j a b → q2 = bs_c K W i j) ∧ (¬ bs_b W i j a b → q2 = q)) : bs_S K W (fun a b => D a b ∨ (a = i ∧ b = j)) q2 := by
  refine Or.inr ?_
  rcases h with ⟨h, n⟩ | ⟨a, b, d, rfl, n⟩
  · rw [h0 h]
    refine ⟨i, j, Or.inr ⟨rfl, rfl⟩, rfl, fun a b hd => ?_⟩
    rcases hd with hd | ⟨rfl, rfl⟩
    · exact absurd hd (n a b)
    · unfold bs_b; omega
  · obtain ⟨x, y⟩ := h1 a b d rfl
    by_cases c : bs_b W i j a b
    · rw [x c]
      refine ⟨i, j, Or.inr ⟨rfl, rfl⟩, rfl, fun a2 b2 hd => ?_⟩
      rcases hd with hd | ⟨rfl, rfl⟩
      · have := n a2 b2 hd
        unfold bs_b at this c ⊢
        omega
      · unfold bs_b; omega
    · rw [y c]
      refine ⟨a, b, Or.inl d, rfl, fun a2 b2 hd => ?_⟩
      rcases hd with hd | ⟨rfl, rfl⟩
      · exact n a2 b2 hd
      · exact c
theorem bs_lt {x y : Int32} : x < y ↔ x.toInt < y.toInt := Int32.lt_iff_toInt_lt
theorem bs_le {x y : Int32} : x ≤ y ↔ x.toInt ≤ y.toInt := Int32.le_iff_toInt_le
theorem bs_eq {x y : Int32} : x = y ↔ x.toInt = y.toInt := ⟨fun e => by rw [e], fun e => Int32.toInt_inj.mp e⟩
theorem bs_ni {n : Nat} (h : n < 10000) : (nI n).toInt = n := nI_toInt (by omega)
theorem bs_S.con {D : Nat → Nat → Prop} {q : sp_Q4} {i j : Nat} (h : bs_S K W D q) (hD : ∀ a b, D a b → a < 1000 ∧ b < 1000) (hi : i < 1000) (hj : j < 1000) : bs_S K W (fun a b => D a b ∨ (a = i ∧ b = j)) (bs_con q (bs_c K W i j)) := by
  refine bs_step h (fun h => by unfold bs_con; rw [if_pos h]) (fun a b hd hq => ?_)
  obtain ⟨d1, d2⟩ := hD a b hd
  subst hq
  have z : ¬ (bs_c K W a b).1 = 0 := fun e => by
    have := bs_eq.mp (show nI (2 * a + 2) = 0 from e)
    rw [bs_ni (by omega)] at this
    have : ((2 * a + 2 : Nat) : Int) = 0 := this
    omega
  have e : bs_con (bs_c K W a b) (bs_c K W i j) = if bs_b W i j a b then bs_c K W i j else bs_c K W a b := by
    unfold bs_con
    rw [if_neg z]
    unfold bs_b
    show (if (if W i j = W a b then (if nI (2 * i + 2) < nI (2 * a + 2) then true else (if nI (2 * i + 2) = nI (2 * a + 2) then (if nI (b + 1) ≤ nI (j + 1) then false else true) else false)) else (if W i j ≤ W a b then false else true)) = true then _ else _) = _
    simp only [bs_lt, bs_le, bs_eq, bs_ni (show 2 * i + 2 < 10000 by omega), bs_ni (show 2 * a + 2 < 10000 by omega), bs_ni (show b + 1 < 10000 by omega), bs_ni (show j + 1 < 10000 by omega)]
    generalize (W i j).toInt = u
    generalize (W a b).toInt = v
    by_cases c1 : u = v
    · rw [if_pos c1]
      by_cases c2 : ((2 * i + 2 : Nat) : Int) < ((2 * a + 2 : Nat) : Int)
      · rw [if_pos c2, if_pos rfl, if_pos (by omega)]
      · rw [if_neg c2]
        by_cases c3 : ((2 * i + 2 : Nat) : Int) = ((2 * a + 2 : Nat) : Int)
        · rw [if_pos c3]
          by_cases c4 : ((b + 1 : Nat) : Int) ≤ ((j + 1 : Nat) : Int)
          · rw [if_pos c4, if_neg (by decide), if_neg (by omega)]
          · rw [if_neg c4, if_pos rfl, if_pos (by omega)]
        · rw [if_neg c3, if_neg (by decide), if_neg (by omega)]
    · rw [if_neg c1]
      by_cases c2 : u ≤ v
      · rw [if_pos c2, if_neg (by decide), if_neg (by omega)]
      · rw [if_neg c2, if_pos rfl, if_pos (by omega)]
  exact ⟨fun c => by rw [e, if_pos c], fun c => by rw [e, if_neg c]⟩
theorem bs_S.tr {D : Nat → Nat → Prop} {q : sp_Q4} {i j : Nat} (h : bs_S K W D q) (hD : ∀ a b, D a b → a < 1000 ∧ (a < i ∨ (a = i ∧ b < j))) : bs_S K W (fun a b => D a b ∨ (a = i ∧ b = j)) (bs_try q (bs_c K W i j)) := by
  refine bs_step h (fun h => by unfold bs_try; rw [h, if_pos (by decide)]) (fun a b hd hq => ?_)
  obtain ⟨d1, d2⟩ := hD a b hd
  subst hq
  have z : ¬ (bs_c K W a b).1 ≤ 0 := fun e => by
    have := bs_le.mp (show nI (2 * a + 2) ≤ 0 from e)
    rw [bs_ni (by omega)] at this
    have : ((2 * a + 2 : Nat) : Int) ≤ 0 := this
    omega
  have e : bs_try (bs_c K W a b) (bs_c K W i j) = if bs_b W i j a b then bs_c K W i j else bs_c K W a b := by
    unfold bs_try
    rw [if_neg z]
    unfold bs_b
    show (if W a b < W i j then _ else _) = _
    simp only [bs_lt]
    by_cases c1 : (W a b).toInt < (W i j).toInt
    · rw [if_pos c1, if_pos (Or.inl c1)]
    · rw [if_neg c1, if_neg (by omega)]
  exact ⟨fun c => by rw [e, if_pos c], fun c => by rw [e, if_neg c]⟩
/-- prices outside, pages inside -/
def bs_f2i (K W : Nat → Nat → Int32) (j : Nat) (q : sp_Q4) : Nat → sp_Q4
  | 0 => q
  | n + 1 => bs_con (bs_f2i K W j q n) (bs_c K W n j)
def bs_f2 (K W : Nat → Nat → Int32) (N : Nat) (q : sp_Q4) : Nat → sp_Q4
  | 0 => q
  | n + 1 => bs_f2i K W n (bs_f2 K W N q n) N
theorem bs_f2i_S {N j : Nat} {q : sp_Q4} (hN : N ≤ 100) (hj : j < 100) (h : bs_S K W (fun a b => a < N ∧ b < j) q) : ∀ n, n ≤ N → bs_S K W (fun a b => (a < N ∧ b < j) ∨ (a < n ∧ b = j)) (bs_f2i K W j q n)
  | 0, _ => h.cg (fun a b => by omega)
  | n + 1, hn => ((bs_f2i_S hN hj h n (by omega)).con (i := n) (j := j) (fun a b hd => by omega) (by omega) (by omega)).cg (fun a b => by omega)
theorem bs_f2_S {N : Nat} {q : sp_Q4} (hN : N ≤ 100) (h : q.1 = 0) : ∀ n, n ≤ 60 → bs_S K W (fun a b => a < N ∧ b < n) (bs_f2 K W N q n)
  | 0, _ => Or.inl ⟨h, fun a b => by omega⟩
  | n + 1, hn => (bs_f2i_S hN (by omega) (bs_f2_S hN h n (by omega)) N (Nat.le_refl _)).cg (fun a b => by omega)
/-- pages outside, prices inside -/
def bs_gi (K W : Nat → Nat → Int32) (i : Nat) (q : sp_Q4) : Nat → sp_Q4
  | 0 => q
  | n + 1 => bs_try (bs_gi K W i q n) (bs_c K W i n)
def bs_g (K W : Nat → Nat → Int32) : Nat → sp_Q4
  | 0 => (0, 0, 0, 0)
  | n + 1 => bs_gi K W n (bs_g K W n) 60
theorem bs_gi_S {i : Nat} {q : sp_Q4} (hi : i < 100) (h : bs_S K W (fun a b => a < i ∧ b < 60) q) : ∀ n, n ≤ 60 → bs_S K W (fun a b => (a < i ∧ b < 60) ∨ (a = i ∧ b < n)) (bs_gi K W i q n)
  | 0, _ => h.cg (fun a b => by omega)
  | n + 1, hn => ((bs_gi_S hi h n (by omega)).tr (i := i) (j := n) (fun a b hd => by omega)).cg (fun a b => by omega)
theorem bs_g_S : ∀ n, n ≤ 100 → bs_S K W (fun a b => a < n ∧ b < 60) (bs_g K W n)
  | 0, _ => Or.inl ⟨rfl, fun a b => by omega⟩
  | n + 1, hn => (bs_gi_S (by omega) (bs_g_S n (by omega)) 60 (Nat.le_refl _)).cg (fun a b => by omega)
theorem bs_same {N : Nat} {q : sp_Q4} (h0 : 0 < N) (hN : N ≤ 100) (h : q.1 = 0) : bs_f2 K W N q 60 = bs_g K W N := by
  have a := bs_f2_S (K := K) (W := W) hN h 60 (Nat.le_refl _)
  have b := bs_g_S (K := K) (W := W) N hN
  rcases a with ⟨-, a⟩ | a
  · exact absurd ⟨h0, by decide⟩ (a 0 0)
  · rcases b with ⟨-, b⟩ | b
    · exact absurd ⟨h0, by decide⟩ (b 0 0)
    · exact bs_uniq a b
end B
/-! the class' best, as four numbers -/
def bs_q (T : mo_S) : sp_Q4 := (T.1 127 0, T.1 128 0, T.1 129 0, T.1 130 0)
def bs_w (c v g : Int32) : Int32 := (c * v + c * g / 4) - 2 * sp_X12_kilograms c g
theorem bs_q_con {T : mo_S} {g v c : Int32} : bs_q (cx_X3_consider T g v c) = bs_con (bs_q T) (g, v, c, bs_w c v g) := by
  have up : bs_q (mo_up (mo_up (mo_up (mo_up T 127 0 g) 128 0 v) 129 0 c) 130 0 (bs_w c v g)) = (g, v, c, bs_w c v g) := by
    unfold bs_q
    simp only [mo_up_ne, ne_eq, Nat.reduceEqDiff, not_false_eq_true, mo_up_at, pk_us]
  have hw : (((c * v) + ((c * g) / 4)) - (2 * (cx_X11_kilogramsFor c g))) = bs_w c v g := rfl
  unfold cx_X3_consider cx_X3_isBetter bs_con
  rw [hw]
  by_cases e : T.1 127 0 = 0
  · rw [if_pos e, if_pos (show (bs_q T).1 = 0 from e)]; exact up
  · rw [if_neg e, if_neg (show ¬ (bs_q T).1 = 0 from e)]
    show bs_q (if mo_b (if bs_w c v g = T.1 130 0 then (if g < T.1 127 0 then true else (if g = T.1 127 0 then (if T.1 128 0 ≤ v then false else true) else false)) else (if bs_w c v g ≤ T.1 130 0 then false else true)) = 0 then T else _) = if (if bs_w c v g = T.1 130 0 then (if g < T.1 127 0 then true else (if g = T.1 127 0 then (if T.1 128 0 ≤ v then false else true) else false)) else (if bs_w c v g ≤ T.1 130 0 then false else true)) = true then _ else _
    cases (if bs_w c v g = T.1 130 0 then (if g < T.1 127 0 then true else (if g = T.1 127 0 then (if T.1 128 0 ≤ v then false else true) else false)) else (if bs_w c v g ≤ T.1 130 0 then false else true))
    · rfl
    · exact up
theorem bs_q_clear {C : mo_S} : (bs_q (cx_X3_clear C)).1 = 0 := by
  unfold bs_q cx_X3_clear
  show (mo_up C 127 0 0).1 127 0 = 0
  rw [mo_up_at, pk_us]
end DM
