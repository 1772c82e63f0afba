section DL
theorem sp_mgR_at {S : mo_S} {p q : Nat} : ∀ n r, (sp_mgR S p q n).1 23 r = if r < n ∧ S.1 23 r = nI q then nI p else S.1 23 r
  | 0, r => by rw [if_neg (fun e => absurd e.1 (by omega))]; rfl
  | n + 1, r => by
    simp only [sp_mgR]
    have i1 := sp_mgR_at (S := S) (p := p) (q := q) n
    have e1 : (sp_mgR S p q n).1 23 n = S.1 23 n := by rw [i1, if_neg (fun e => absurd e.1 (by omega))]
    rw [e1]
    by_cases c : S.1 23 n = nI q
    · rw [if_pos c, mo_up_at]
      by_cases e : r = n
      · rw [e, pk_us, if_pos ⟨by omega, c⟩]
      · rw [pk_un e, i1]
        by_cases d : r < n ∧ S.1 23 r = nI q
        · rw [if_pos d, if_pos ⟨by omega, d.2⟩]
        · rw [if_neg d, if_neg (fun z => d ⟨by omega, z.2⟩)]
    · rw [if_neg c, i1]
      by_cases d : r < n ∧ S.1 23 r = nI q
      · rw [if_pos d, if_pos ⟨by omega, d.2⟩]
      · rw [if_neg d, if_neg (fun z => d ⟨by
          have z1 := z.1
          by_cases e : r = n
          · subst e; exact absurd z.2 c
          · omega, z.2⟩)]
def cl_mg (f : Nat → Int32) (p q n i : Nat) : Int32 := if i % 12 = q ∧ i / 12 < n then 0 else if i % 12 = p ∧ i / 12 < n then sp_least (f i + f (12 * (i / 12) + q)) 100 else f i
theorem sp_mgW_at {S : mo_S} {p q : Nat} (hp : p < 12) (hq : q < 12) (hpq : p ≠ q) : ∀ n i, (sp_mgW S p q n).1 26 i = cl_mg (S.1 26) p q n i
  | 0, i => by unfold cl_mg; rw [if_neg (by omega), if_neg (by omega)]; rfl
  | n + 1, i => by
    simp only [sp_mgW]
    have i1 := sp_mgW_at (S := S) hp hq hpq n
    rw [i1, i1, mo_up_at]
    have e1 : cl_mg (S.1 26) p q n (12 * n + p) = S.1 26 (12 * n + p) := by unfold cl_mg; rw [if_neg (by omega), if_neg (by omega)]
    have e2 : cl_mg (S.1 26) p q n (12 * n + q) = S.1 26 (12 * n + q) := by unfold cl_mg; rw [if_neg (by omega), if_neg (by omega)]
    rw [e1, e2]
    by_cases a : i = 12 * n + q
    · rw [a, pk_us]; unfold cl_mg; rw [if_pos (by omega)]
    · rw [pk_un a, mo_up_at]
      by_cases b : i = 12 * n + p
      · rw [b, pk_us]
        unfold cl_mg
        rw [if_neg (by omega), if_pos (by omega), show (12 * n + p) / 12 = n by omega]
      · rw [pk_un b, i1]
        have q1 : (i % 12 = q ∧ i / 12 < n + 1) = (i % 12 = q ∧ i / 12 < n) := propext (by omega)
        have q2 : (i % 12 = p ∧ i / 12 < n + 1) = (i % 12 = p ∧ i / 12 < n) := propext (by omega)
        unfold cl_mg
        simp only [q1, q2]
theorem cx_tk_at {C : mo_S} {p q : Nat} (hp : p < 12) (hq : q < 12) (hpq : p ≠ q) : ∀ n i, (cx_tk C p q n).1 26 i = if i % 12 = p ∧ i / 12 < n then sp_least (C.1 26 i + C.1 26 (12 * (i / 12) + q)) 100 else C.1 26 i
  | 0, i => by rw [if_neg (by omega)]; rfl
  | n + 1, i => by
    simp only [cx_tk]
    have i1 := cx_tk_at (C := C) hp hq hpq n
    rw [mo_up_at, i1, i1, if_neg (by omega), if_neg (by omega), cj_least]
    by_cases b : i = 12 * n + p
    · rw [b, pk_us, if_pos (by omega), show (12 * n + p) / 12 = n by omega]
    · rw [pk_un b, i1]
      by_cases d : i % 12 = p ∧ i / 12 < n
      · rw [if_pos d, if_pos (by omega)]
      · rw [if_neg d, if_neg (by omega)]
theorem cx_fl_26 {C : mo_S} {q : Nat} (hq : q < 12) (n i : Nat) : (cx_fl C 26 (fun j => 12 * j + q) 0 n).1 26 i = if i % 12 = q ∧ i / 12 < n then 0 else C.1 26 i := by
  by_cases e : i % 12 = q ∧ i / 12 < n
  · rw [if_pos e]
    have := cx_fl_at (C := C) (f := 26) (e := fun j => 12 * j + q) (v := 0) n (i / 12) e.2
    rw [show 12 * (i / 12) + q = i by omega] at this
    exact this
  · rw [if_neg e]
    exact cx_fl_no n (fun j hj => by show 12 * j + q ≠ i; omega)
/-- the model's merger, as fields -/
theorem sp_merge_f {S : mo_S} {p q : Nat} : (∀ k, k ∉ [0, 4, 5, 9, 10, 11, 12, 14, 15, 23, 26] → (sp_merge S p q).1 k = S.1 k) ∧ (sp_merge S p q).1 0 = upd (S.1 0) 0 0 ∧ (sp_merge S p q).1 4 = upd (upd (S.1 4) p (sp_least (S.1 4 p + S.1 4 q) 100000)) q 0 ∧ (sp_merge S p q).1 5 = upd (upd (S.1 5) p (sp_least (S.1 5 p + S.1 5 q) 1000)) q 0 ∧ (sp_merge S p q).1 9 = upd (upd (S.1 9) p (S.1 9 p + S.1 9 q)) q 0 ∧ (sp_merge S p q).1 10 = upd (upd (S.1 10) p (S.1 10 p + S.1 10 q)) q 0 ∧ (sp_merge S p q).1 11 = upd (upd (S.1 11) p (S.1 11 p + S.1 11 q)) q 0 ∧ (sp_merge S p q).1 12 = upd (S.1 12) q 2 ∧ (sp_merge S p q).1 14 = upd (S.1 14) q 0 ∧ (sp_merge S p q).1 15 = upd (S.1 15) q 0 := by
  have r : ∀ k, k ≠ 12 → k ≠ 26 → k ≠ 23 → (sp_merge S p q).1 k = (sp_mg0 S p q).1 k := fun k a b c => by unfold sp_merge; rw [mo_up_ne a, sp_mgW_ne b, sp_mgR_ne c]
  refine ⟨fun k hk => ?_, ?_, ?_, ?_, ?_, ?_, ?_, ?_, ?_, ?_⟩
  · simp only [List.mem_cons, List.mem_nil_iff, or_false, not_or] at hk
    rw [r k (by omega) (by omega) (by omega)]
    unfold sp_mg0
    rw [mo_up_ne (by omega), mo_up_ne (by omega), mo_up_ne (by omega), mo_up_ne (by omega), mo_up_ne (by omega), mo_up_ne (by omega), mo_up_ne (by omega), mo_up_ne (by omega), mo_up_ne (by omega), mo_up_ne (by omega), mo_up_ne (by omega), mo_up_ne (by omega), mo_up_ne (by omega)]
  all_goals first
    | (rw [r _ (by decide) (by decide) (by decide)]; unfold sp_mg0; simp only [mo_up_ne, ne_eq, Nat.reduceEqDiff, not_false_eq_true, mo_up_at]; done)
    | (unfold sp_merge; rw [mo_up_at, sp_mgW_ne (by decide), sp_mgR_ne (by decide)]; unfold sp_mg0; simp only [mo_up_ne, ne_eq, Nat.reduceEqDiff, not_false_eq_true, mo_up_at]; done)
theorem sp_merge_23 {S : mo_S} {p q : Nat} (r : Nat) : (sp_merge S p q).1 23 r = if r < sp_R S ∧ S.1 23 r = nI q then nI p else S.1 23 r := by
  have e : (sp_mg0 S p q).1 23 = S.1 23 := by unfold sp_mg0; simp only [mo_up_ne, ne_eq, Nat.reduceEqDiff, not_false_eq_true]
  unfold sp_merge
  rw [mo_up_ne (by decide), sp_mgW_ne (by decide), sp_mgR_at, e]
theorem sp_merge_26 {S : mo_S} {p q : Nat} (hp : p < 12) (hq : q < 12) (hpq : p ≠ q) (i : Nat) : (sp_merge S p q).1 26 i = cl_mg (S.1 26) p q (sp_W S) i := by
  have e : (sp_mg0 S p q).1 26 = S.1 26 := by unfold sp_mg0; simp only [mo_up_ne, ne_eq, Nat.reduceEqDiff, not_false_eq_true]
  unfold sp_merge
  rw [mo_up_ne (by decide), sp_mgW_at hp hq hpq, sp_mgR_ne (by decide), e]
/-- the class' -/
theorem cx_merge_f {C : mo_S} {p q : Nat} : (∀ k, k ∉ [4, 5, 9, 10, 11, 12, 23, 26] → (sp_mgR (cx_X5_takeOver C p q) p q (sp_R C)).1 k = C.1 k) ∧ (sp_mgR (cx_X5_takeOver C p q) p q (sp_R C)).1 4 = upd (upd (C.1 4) p (sp_least (C.1 4 p + C.1 4 q) 100000)) q 0 ∧ (sp_mgR (cx_X5_takeOver C p q) p q (sp_R C)).1 5 = upd (upd (C.1 5) p (sp_least (C.1 5 p + C.1 5 q) 1000)) q 0 ∧ (sp_mgR (cx_X5_takeOver C p q) p q (sp_R C)).1 9 = upd (upd (C.1 9) p (C.1 9 p + C.1 9 q)) q 0 ∧ (sp_mgR (cx_X5_takeOver C p q) p q (sp_R C)).1 10 = upd (upd (C.1 10) p (C.1 10 p + C.1 10 q)) q 0 ∧ (sp_mgR (cx_X5_takeOver C p q) p q (sp_R C)).1 11 = upd (upd (C.1 11) p (C.1 11 p + C.1 11 q)) q 0 ∧ (sp_mgR (cx_X5_takeOver C p q) p q (sp_R C)).1 12 = upd (C.1 12) q 2 := by
  refine ⟨fun k hk => ?_, ?_, ?_, ?_, ?_, ?_, ?_⟩
  · simp only [List.mem_cons, List.mem_nil_iff, or_false, not_or] at hk
    rw [sp_mgR_ne (by omega), cx_takeOver_ne (by omega) (by omega) (by omega) (by omega) (by omega) (by omega) (by omega)]
  all_goals
    rw [sp_mgR_ne (by decide)]
    unfold cx_X5_takeOver cx_X5_leave
    rw [cx_fl_ne (by decide)]
    simp only [mo_up_ne, ne_eq, Nat.reduceEqDiff, not_false_eq_true, mo_up_at, cx_tk_ne, cx_X5_addSize, cj_least]
theorem cx_merge_23 {C : mo_S} {p q : Nat} (r : Nat) : (sp_mgR (cx_X5_takeOver C p q) p q (sp_R C)).1 23 r = if r < sp_R C ∧ C.1 23 r = nI q then nI p else C.1 23 r := by
  rw [sp_mgR_at, cx_takeOver_ne (by decide) (by decide) (by decide) (by decide) (by decide) (by decide) (by decide)]
theorem cx_merge_26 {C : mo_S} {p q : Nat} (hp : p < 12) (hq : q < 12) (hpq : p ≠ q) (i : Nat) : (sp_mgR (cx_X5_takeOver C p q) p q (sp_R C)).1 26 i = cl_mg (C.1 26) p q 5 i := by
  rw [sp_mgR_ne (by decide)]
  unfold cx_X5_takeOver cx_X5_leave
  rw [cx_fl_26 hq, mo_up_ne (by decide), mo_up_ne (by decide), mo_up_ne (by decide), mo_up_ne (by decide), mo_up_ne (by decide), mo_up_ne (by decide), cx_tk_at hp hq hpq, mo_up_ne (by decide), mo_up_ne (by decide)]
  unfold cx_X5_addSize cl_mg
  rw [mo_up_ne (by decide), mo_up_ne (by decide), mo_up_ne (by decide)]
theorem mo_J.mgR {S : mo_S} {F : mo_Fn} (h : mo_J S F) {p q : Nat} (hp : p < 12) : ∀ n, mo_J (sp_mgR S p q n) F
  | 0 => h
  | n + 1 => by
    simp only [sp_mgR]
    split
    · refine (h.mgR hp n).up (by decide) ?_
      rw [nI_toInt (by omega)]
      show (-2 : Int) ≤ _ ∧ _ ≤ (11 : Int)
      omega
    · exact h.mgR hp n
theorem sp_least_in {a b : Int32} {m n : Nat} (ha : 0 ≤ a.toInt ∧ a.toInt ≤ m) (hb : 0 ≤ b.toInt ∧ b.toInt ≤ m) (hm : m < 1000000000) (hn : n < 2147483648) : (0 : Int) ≤ (sp_least (a + b) (nI n)).toInt ∧ (sp_least (a + b) (nI n)).toInt ≤ n := by
  unfold sp_least
  have e : (a + b).toInt = a.toInt + b.toInt := by rw [Int32.toInt_add, Int.bmod_eq_of_le (by omega) (by omega)]
  split
  · rename_i c
    have c := Int32.lt_iff_toInt_lt.mp c
    rw [nI_toInt hn] at c
    omega
  · rw [nI_toInt hn]; omega
theorem mo_J.mgW {S : mo_S} {F : mo_Fn} (h : mo_J S F) {p q : Nat} : ∀ n, mo_J (sp_mgW S p q n) F
  | 0 => h
  | n + 1 => by
    simp only [sp_mgW]
    have i1 := h.mgW (p := p) (q := q) n
    exact (i1.up (k := 26) (by decide) (sp_least_in (m := 100) (n := 100) (i1.1 26 _ (by decide)) (i1.1 26 _ (by decide)) (by decide) (by decide))).up (k := 26) (by decide) (by decide)
theorem mo_J.mg {S : mo_S} {F : mo_Fn} (h : mo_J S F) {p q : Nat} (hp : p < 12) : mo_J (sp_merge S p q) F := by
  unfold sp_merge
  refine (mo_J.mgW (mo_J.mgR ?_ hp _) _).up (by decide) (by decide)
  unfold sp_mg0
  have l4 := sp_least_in (m := 100000) (n := 100000) (h.1 4 p (by decide)) (h.1 4 q (by decide)) (by decide) (by decide)
  have l5 := sp_least_in (m := 1000) (n := 1000) (h.1 5 p (by decide)) (h.1 5 q (by decide)) (by decide) (by decide)
  have h1 := ((((((h.upA (k := 0) (i := 0) (v := 0) (by decide)).up (k := 4) (i := p) (by decide) l4).up (k := 5) (i := p) (by decide) l5).upA (k := 10) (i := p) (v := S.1 10 p + S.1 10 q) (by decide)).upA (k := 11) (i := p) (v := S.1 11 p + S.1 11 q) (by decide)).upA (k := 9) (i := p) (v := S.1 9 p + S.1 9 q) (by decide))
  have h2 := (((h1.up (k := 4) (i := q) (v := 0) (by decide) (by decide)).up (k := 5) (i := q) (v := 0) (by decide) (by decide)).upA (k := 10) (i := q) (v := 0) (by decide))
  exact (((h2.upA (k := 11) (by decide)).upA (k := 9) (by decide)).up (k := 14) (by decide) (by decide)).up (k := 15) (by decide) (by decide)
theorem mo_K.mg {S : mo_S} {F : mo_Fn} {B : Int} {p q : Nat} (h : mo_K B S F) (hB : B ≤ 2000000000) (hp : p < sp_P S) (hq : q < sp_P S) (hpq : p ≠ q) : mo_K B (sp_merge S p q) F := by
  have hP := h.1.1.P.2
  have hI := h.1.2.2.2
  have nn := hI.1
  have pr := mo_sum_pr (g := fun p => (S.1 10 p).toInt) (p := p) (q := q) (n := 12) (by omega) (by omega) hpq nn
  have pr11 := mo_sum_pr (g := fun p => ((S.1 11 p).toInt.natAbs : Int)) (p := p) (q := q) (n := 12) (by omega) (by omega) hpq (fun i => by show (0 : Int) ≤ ((S.1 11 i).toInt.natAbs : Int); omega)
  have pl := mo_pl_nn h.1.1 (sp_R S)
  have b1 := hI.2.1
  have b2 := hI.2.2
  have hM := h.1.1.M.2
  try dsimp only at pr pr11
  have c1 : (S.1 10 p + S.1 10 q).toInt = (S.1 10 p).toInt + (S.1 10 q).toInt := by
    rw [Int32.toInt_add, Int.bmod_eq_of_le (by have := nn p; have := nn q; omega) (by omega)]
  have c2 : (S.1 11 p + S.1 11 q).toInt = (S.1 11 p).toInt + (S.1 11 q).toInt := by
    rw [Int32.toInt_add, Int.bmod_eq_of_le (by omega) (by omega)]
  obtain ⟨n, f0, f4, f5, f9, f10, f11, f12, f14, f15⟩ := sp_merge_f (S := S) (p := p) (q := q)
  have ud : ∀ (f : Nat → Int32) (a : Int32) r, sp_P S ≤ r → upd (upd f p a) q 0 r = f r := fun f a r hr => by rw [pk_un (by omega), pk_un (by omega)]
  have n1 : ∀ r : Nat, r < 12 → ¬ nI r = (-1 : Int32) := fun r hr => cj_ne (by omega) (by decide)
  refine h.chg (h.1.1.mg (by omega)) (fun a ha => ?_) (fun k hk r hr => ?_) (fun x r hr hx => ?_) (fun x r _ _ _ => by rw [n 58 (by decide)]) (fun r hr => ?_) ⟨fun r => ?_, ?_, ?_⟩
  · exact n a (fun z => by
      simp only [List.mem_cons, List.mem_nil_iff, or_false, not_or] at ha z
      omega)
  · simp only [List.mem_cons, List.mem_nil_iff, or_false] at hk
    rcases hk with rfl | rfl | rfl | rfl | rfl | rfl
    · rw [f9]; exact ud _ _ r hr
    · rw [f10]; exact ud _ _ r hr
    · rw [f11]; exact ud _ _ r hr
    · rw [f12]; exact pk_un (by omega)
    · rw [f14]; exact pk_un (by omega)
    · rw [f15]; exact pk_un (by omega)
  · rw [sp_merge_26 (by omega) (by omega) hpq]
    unfold cl_mg
    rw [if_neg (by omega), if_neg (by omega)]
  · rw [sp_merge_23]
    split
    · rw [nI_toInt (by omega)]; omega
    · exact h.1.2.2.1.1 r hr
  · rw [f10]
    by_cases e : r = q
    · rw [e, pk_us]; decide
    · rw [pk_un e]
      by_cases e2 : r = p
      · rw [e2, pk_us, c1]; have := nn p; have := nn q; omega
      · rw [pk_un e2]; exact nn r
  · have e1 : mo_pl (sp_merge S p q) (sp_R (sp_merge S p q)) = mo_pl S (sp_R S) := by
      rw [sp_R_cg (n 21 (by decide))]
      unfold mo_pl
      refine mo_sum_cg _ (fun r hr => ?_)
      rw [n 22 (by decide), sp_merge_23]
      by_cases e : r < sp_R S ∧ S.1 23 r = nI q
      · rw [if_pos e, if_neg (n1 p (by omega)), e.2, if_neg (n1 q (by omega))]
      · rw [if_neg e]
    rw [e1]
    have s := mo_sum_2 (f := fun r => ((sp_merge S p q).1 10 r).toInt) (g := fun p => (S.1 10 p).toInt) (p := p) (q := q) (n := 12) (by omega) (by omega) hpq (fun i _ h1 h2 => by rw [f10, pk_un h2, pk_un h1])
    rw [s, f10, pk_us, pk_un hpq, pk_us, c1]
    show _ + ((S.1 10 p).toInt + (S.1 10 q).toInt - (S.1 10 p).toInt) + (0 - (S.1 10 q).toInt) + _ ≤ B
    omega
  · have s := mo_sum_2 (f := fun r => (((sp_merge S p q).1 11 r).toInt.natAbs : Int)) (g := fun p => ((S.1 11 p).toInt.natAbs : Int)) (p := p) (q := q) (n := 12) (by omega) (by omega) hpq (fun i _ h1 h2 => by rw [f11, pk_un h2, pk_un h1])
    have eM : sp_M (sp_merge S p q) = sp_M S := by unfold sp_M; rw [n 2 (by decide)]
    rw [s, eM, f11, pk_us, pk_un hpq, pk_us, c2]
    show _ + ((((S.1 11 p).toInt + (S.1 11 q).toInt).natAbs : Int) - ((S.1 11 p).toInt.natAbs : Int)) + (0 - ((S.1 11 q).toInt.natAbs : Int)) ≤ _
    omega
theorem cl_R.mg {B : Int} {C S : mo_S} {F : mo_Fn} {OL : Nat → List od_q} (h : cl_R B C S F OL) (hB : B ≤ 2000000000) {p q : Nat} (hp : p < sp_P S) (hq : q < sp_P S) (hpq : p ≠ q) : cl_R B (sp_mgR (cx_X5_takeOver C p q) p q (sp_R C)) (sp_merge S p q) F OL := by
  have hP := h.J.P.2
  obtain ⟨n, f0, f4, f5, f9, f10, f11, f12, f14, f15⟩ := sp_merge_f (S := S) (p := p) (q := q)
  obtain ⟨m, g4, g5, g9, g10, g11, g12⟩ := cx_merge_f (C := C) (p := p) (q := q)
  have hIZ := h.2.2.1.2.1.2.1
  have hz : ∀ i, sp_W S ≤ i / 12 → S.1 26 i = 0 := fun i hi => by
    have := hIZ (i / 12) (i % 12) (by omega) (Or.inl hi)
    rw [show 12 * (i / 12) + i % 12 = i by omega] at this
    exact this
  refine ⟨⟨fun k hk => ?_, fun r => ⟨fun hr => ?_, ?_, ?_⟩, fun r j hr hj => ?_, fun j hj => ?_, ⟨?_, ?_⟩, fun x r y hx hr hy => ?_, fun a ha => ?_⟩, h.2.1.cg (fun k hk => m k (fun z => by simp only [List.mem_cons, List.mem_nil_iff, or_false] at z; omega)) (fun k hk => n k (fun z => by simp only [List.mem_cons, List.mem_nil_iff, or_false] at z; omega)), h.2.2.mg hB hp hq hpq⟩
  · by_cases e4 : k = 4
    · rw [e4, f4, g4, h.1.k 4 (by decide)]
    by_cases e5 : k = 5
    · rw [e5, f5, g5, h.1.k 5 (by decide)]
    by_cases e9 : k = 9
    · rw [e9, f9, g9, h.1.k 9 (by decide)]
    by_cases e10 : k = 10
    · rw [e10, f10, g10, h.1.k 10 (by decide)]
    by_cases e11 : k = 11
    · rw [e11, f11, g11, h.1.k 11 (by decide)]
    by_cases e12 : k = 12
    · rw [e12, f12, g12, h.1.k 12 (by decide)]
    by_cases e23 : k = 23
    · rw [e23]
      funext r
      rw [cx_merge_23, sp_merge_23, h.1.sz.2.1, h.1.k 23 (by decide)]
    by_cases e26 : k = 26
    · rw [e26]
      funext i
      rw [cx_merge_26 (by omega) (by omega) hpq, sp_merge_26 (by omega) (by omega) hpq, h.1.k 26 (by decide)]
      have hW := h.J.W.2
      unfold cl_mg
      by_cases c : i / 12 < sp_W S
      · have q1 : (i / 12 < 5) = (i / 12 < sp_W S) := propext (by omega)
        simp only [q1]
      · by_cases c5 : i / 12 < 5
        · have z1 := hz i (by omega)
          have z2 := hz (12 * (i / 12) + q) (by omega)
          rw [z1, z2]
          simp only [c, c5, and_true, and_false, if_false]
          split
          · rfl
          · split
            · rfl
            · rfl
        · simp only [c, c5]
    have k0 : k ≠ 0 := fun e => by subst e; revert hk; decide
    have k14 : k ≠ 14 ∧ k ≠ 15 := ⟨fun e => (by subst e; revert hk; decide), fun e => (by subst e; revert hk; decide)⟩
    rw [n k (fun z => by simp only [List.mem_cons, List.mem_nil_iff, or_false] at z; omega), m k (fun z => by simp only [List.mem_cons, List.mem_nil_iff, or_false] at z; omega), h.1.k k hk]
  · rw [f12] at hr
    have e : r ≠ q := fun e => hr (by rw [e, pk_us])
    rw [pk_un e] at hr
    rw [m 14 (by decide), m 15 (by decide), f14, f15, pk_un e, pk_un e]
    exact (h.1.2.1 r).1 hr
  · rw [m 14 (by decide)]; exact (h.1.2.1 r).2.1
  · rw [m 15 (by decide)]; exact (h.1.2.1 r).2.2
  · rw [n 60 (by decide), n 61 (by decide)]
    exact h.1.2.2.1 r j (by rw [sp_P_cg (n 1 (by decide))] at hr; exact hr) hj
  · have eX : ps_tx (sp_merge S p q) = ps_tx S := by funext k; unfold ps_tx; rw [n 27 (by decide)]
    rw [m 115 (by decide), eX]
    exact h.1.2.2.2.1 j hj
  · rw [m 134 (by decide), n 2 (by decide)]; exact h.1.2.2.2.2.1.1
  · rw [m 133 (by decide)]; exact h.1.2.2.2.2.1.2
  · unfold cl_row
    rw [m 126 (by decide), n 56 (by decide), n 55 (by decide)]
    exact h.1.2.2.2.2.2.1 x r y (by unfold sp_M at hx ⊢; rw [n 2 (by decide)] at hx; exact hx) hr hy
  · rw [n 67 (by decide), n 3 (by decide), n 63 (by decide)]
    exact h.1.2.2.2.2.2.2 a (by unfold sp_A at ha ⊢; rw [n 62 (by decide)] at ha; exact ha)
theorem cl_mergeq {B : Int} {C S : mo_S} {F : mo_Fn} {OL : Nat → List od_q} (h : cl_R B C S F OL) (hB : B ≤ 2000000000) (x1 x2 : Int32) {r : Option Value} {S2 : mo_S} (hq : (r = some (.int 0) ∧ ∃ k : Int32, ((k = 1 ∧ (sp_in x1 0 (S.1 1 0 - 1) && sp_in x2 0 (S.1 1 0 - 1)) = false)) ∧ S2 = mo_up S 0 0 k) ∨ ((sp_in x1 0 (S.1 1 0 - 1) && sp_in x2 0 (S.1 1 0 - 1)) = true ∧ (∃ p q, x1 = nI p ∧ x2 = nI q ∧ p < sp_P S ∧ q < sp_P S ∧ ((sp_X12_areTwo (mo_up S 0 0 0) (nI p) (nI q) = false ∧ S2 = (mo_up S 0 0 0) ∧ r = some (.int (-1))) ∨ (sp_X12_areTwo (mo_up S 0 0 0) (nI p) (nI q) = true ∧ S2 = sp_merge S p q ∧ r = some (.int 1)))))) : ∃ v : Int32, r = some (.int v) ∧ cl_st B [cl_IO] (cx_X11_merge C x1 x2) (v, S2) := by
  unfold cx_X11_merge
  rw [h.1.k 1 (by decide)]
  rcases hq with ⟨e, k, ⟨rfl, a⟩, rfl⟩ | ⟨a, p, q, rfl, rfl, hp, hq, hh⟩
  · refine ⟨0, e, ?_⟩
    cases b1 : sp_in x1 0 (S.1 1 0 - 1)
    · simp only [mo_b_t, mo_b_f, cl_10, eq_self, Bool.false_eq_true, Bool.not_true, Bool.not_false, if_true, if_false, cl_bt, cl_bf, Bool.true_and, Bool.false_and]
      exact cl_st.E0 rfl h
    · rw [b1, Bool.true_and] at a
      simp only [a, mo_b_t, mo_b_f, cl_10, eq_self, Bool.false_eq_true, Bool.not_true, Bool.not_false, if_true, if_false, cl_bt, cl_bf, Bool.true_and, Bool.false_and]
      exact cl_st.E0 rfl h
  · have hP := h.J.P.2
    obtain ⟨a1, a2⟩ := (Bool.and_eq_true _ _).mp a |> fun z => (⟨z.1, z.2⟩ : _ ∧ _)
    have h0 := h.u0 (v := 0)
    rw [if_pos a1, if_pos a2, nI_clamp (by omega), nI_clamp (by omega), cl_two h0.1 (by omega) (by omega)]
    rcases hh with ⟨t, rfl, e⟩ | ⟨t, rfl, e⟩
    · refine ⟨_, e, ?_⟩
      rw [t, if_pos (by decide : mo_b false = 0)]
      exact cl_st.ok0 h
    · refine ⟨_, e, ?_⟩
      rw [t, if_neg (by decide : ¬ mo_b true = 0)]
      refine cl_st.ok (F := F) (OL := OL) ?_ ((h.mg hB hp hq (cl_two_ne t)).le (by omega))
      rw [sp_merge_f.2.1, pk_us]
end DL
