section M21
/-! WHAT A FORMULA IS: from the place p (behind blanks) on; a fault and its place, or: where it ends (behind blanks), the model's codes, the class' codes, the value -/
abbrev ps_F : Type := (Int32 → Int32) → Int32
abbrev ps_R : Type := (Nat × Nat) ⊕ (Nat × List (Int32 × Int32) × List Int32 × ps_F)
def ps_bind (r : ps_R) (f : Nat → List (Int32 × Int32) → List Int32 → ps_F → ps_R) : ps_R := match r with
  | .inl e => .inl e
  | .inr (h, L, C, F) => f h L C F
/-- a sign: behind it -/
def ps_sg (t : Nat → Nat) (n p c : Nat) (f : Nat → ps_R) : ps_R := if p < n ∧ t p = c then f (ps_skn t n (p + 1)) else .inl (1, p)
def ps_op (t : Nat → Nat) (n : Nat) (inner : Option (Nat → ps_R)) (p : Nat) (f : (Nat → ps_R) → Nat → ps_R) : ps_R := if p < n ∧ t p = 40 then (match inner with
  | none => .inl (3, p)
  | some s => f s (ps_skn t n (p + 1))) else .inl (1, p)
def ps_brk (t : Nat → Nat) (n : Nat) (inner : Option (Nat → ps_R)) (p : Nat) : ps_R := ps_op t n inner p fun s q => ps_bind (s q) fun h L C F => ps_sg t n h 41 fun h2 => .inr (h2, L, C, F)
def ps_two (t : Nat → Nat) (n : Nat) (inner : Option (Nat → ps_R)) (low : Bool) (p : Nat) : ps_R := ps_op t n inner p fun s q => ps_bind (s q) fun h L C F => ps_sg t n h 44 fun h2 => ps_bind (s h2) fun h3 L2 C2 F2 => ps_sg t n h3 41 fun h4 =>
  .inr (h4, L ++ L2 ++ [(if low = true then 6 else 7, 0)], C ++ C2 ++ [if low = true then -13 else -14], fun v => sp_X12_worked (if low = true then 6 else 7) (F v) (F2 v))
/-- what a relation is told by -/
def ps_rel (c : Nat) : Option (Int32 × Int32) := if c = 60 then some (9, -15) else if c = 62 then some (10, -16) else if c = 61 then some (11, -17) else none
def ps_if (t : Nat → Nat) (n : Nat) (inner : Option (Nat → ps_R)) (p : Nat) : ps_R := ps_op t n inner p fun s q => ps_bind (s q) fun h L C F => match ps_rel (ps_bt t n h) with
  | none => .inl (1, h)
  | some (m, cc) => ps_bind (s (ps_skn t n (h + 1))) fun h3 L2 C2 F2 => ps_sg t n h3 44 fun h4 => ps_bind (s h4) fun h5 L3 C3 F3 => ps_sg t n h5 44 fun h6 => ps_bind (s h6) fun h7 L4 C4 F4 => ps_sg t n h7 41 fun h8 =>
    .inr (h8, L ++ L2 ++ [(m, 0)] ++ L3 ++ L4 ++ [(8, 0)], C ++ C2 ++ C3 ++ C4 ++ [cc], fun v => if sp_X12_worked m (F v) (F2 v) = 1 then F3 v else F4 v)
def ps_unit (t : Nat → Nat) (n : Nat) (inner : Option (Nat → ps_R)) (p : Nat) : ps_R :=
  if ps_dig (ps_bt t n p) = true then (if 9999 < (ps_fig t n p).2 then .inl (2, p) else .inr (ps_skn t n (ps_fig t n p).1, [(0, nI (ps_fig t n p).2)], [nI (ps_fig t n p).2], fun _ => nI (ps_fig t n p).2))
  else match ps_fnd t n p ps_nn 8 with
    | some k => .inr (ps_skn t n (p + (ps_nn k).length), [(1, nI k)], [-1 - nI k], fun v => v (nI k))
    | none => if ps_wd t n p [105, 102] = true then ps_if t n inner (ps_skn t n (p + 2))
      else if ps_wd t n p [109, 105, 110] = true then ps_two t n inner true (ps_skn t n (p + 3))
      else if ps_wd t n p [109, 97, 120] = true then ps_two t n inner false (ps_skn t n (p + 3))
      else ps_brk t n inner p
/-- .. joined by a or b, on and on -/
def ps_jn (t : Nat → Nat) (n : Nat) (u : Nat → ps_R) (a b : Nat) (oa ob ca cb : Int32) : Nat → Nat → List (Int32 × Int32) → List Int32 → ps_F → ps_R
  | 0, h, L, C, F => .inr (h, L, C, F)
  | m + 1, h, L, C, F => if ps_bt t n h = a then ps_bind (u (ps_skn t n (h + 1))) fun h2 L2 C2 F2 => ps_jn t n u a b oa ob ca cb m h2 (L ++ L2 ++ [(oa, 0)]) (C ++ C2 ++ [ca]) (fun v => sp_X12_worked oa (F v) (F2 v))
    else if ps_bt t n h = b then ps_bind (u (ps_skn t n (h + 1))) fun h2 L2 C2 F2 => ps_jn t n u a b oa ob ca cb m h2 (L ++ L2 ++ [(ob, 0)]) (C ++ C2 ++ [cb]) (fun v => sp_X12_worked ob (F v) (F2 v))
    else .inr (h, L, C, F)
def ps_prod (t : Nat → Nat) (n : Nat) (inner : Option (Nat → ps_R)) (p : Nat) : ps_R := ps_bind (ps_unit t n inner p) fun h L C F => ps_jn t n (ps_unit t n inner) 42 47 4 5 (-11) (-12) n h L C F
def ps_lev (t : Nat → Nat) (n : Nat) (inner : Option (Nat → ps_R)) (p : Nat) : ps_R := ps_bind (ps_prod t n inner p) fun h L C F => ps_jn t n (ps_prod t n inner) 43 45 2 3 (-9) (-10) n h L C F
def ps_sum (t : Nat → Nat) (n : Nat) : Nat → Nat → ps_R
  | 0 => ps_lev t n none
  | k + 1 => ps_lev t n (some (ps_sum t n k))
def ps_inner (t : Nat → Nat) (n : Nat) : Nat → Option (Nat → ps_R)
  | 0 => none
  | k + 1 => some (ps_sum t n k)
theorem ps_sum_is (t : Nat → Nat) (n k : Nat) : ps_sum t n k = ps_lev t n (ps_inner t n k) := by cases k <;> rfl
/-! what the model's state has to do with it -/
/-- all but the reader's own cells -/
def ps_eq (S T : mo_S) : Prop := ∀ k, k ≠ 31 → k ≠ 32 → k ≠ 33 → k ≠ 34 → k ≠ 35 → k ≠ 40 → k ≠ 41 → T.1 k = S.1 k
def ps_low (B : Nat) (S T : mo_S) : Prop := ∀ i, i < B → T.1 40 i = S.1 40 i ∧ T.1 41 i = S.1 41 i
/-- what a method asks for: at h, o brackets open, c codes, order O -/
def ps_P (S : mo_S) (N h o c O : Nat) : Prop := ps_at S N h ∧ S.1 32 0 = 0 ∧ S.1 34 0 = nI o ∧ o ≤ 8 ∧ S.1 35 0 = nI c ∧ c ≤ h ∧ S.1 29 0 = nI O ∧ O ≤ 9
/-- T: from S (at h) the codes L were read, up to e -/
def ps_G (S : mo_S) (N h c O : Nat) (T : mo_S) (e : Nat) (L : List (Int32 × Int32)) : Prop := ps_eq S T ∧ ps_at T N e ∧ h + L.length ≤ e ∧ T.1 32 0 = 0 ∧ T.1 33 0 = S.1 33 0 ∧ T.1 34 0 = S.1 34 0 ∧ T.1 35 0 = nI (c + L.length) ∧ ps_low (350 * O + c) S T ∧ ∀ j, j < L.length → T.1 40 (350 * O + c + j) = (L.getD j (0, 0)).1 ∧ T.1 41 (350 * O + c + j) = (L.getD j (0, 0)).2
/-- T: from S a fault was found -/
def ps_B (S : mo_S) (N c O : Nat) (T : mo_S) (why place : Nat) : Prop := ps_eq S T ∧ (∃ e, ps_at T N e) ∧ T.1 32 0 = nI why ∧ 1 ≤ why ∧ why ≤ 3 ∧ T.1 33 0 = nI place ∧ ps_low (350 * O + c) S T
/-- a fault is known: only the place of the reader and the brackets change -/
def ps_Ft (S : mo_S) (N : Nat) : Prop := (∃ e, ps_at S N e) ∧ ∃ f : Nat, 1 ≤ f ∧ f ≤ 3 ∧ S.1 32 0 = nI f
def ps_FR (S : mo_S) (N : Nat) (T : mo_S) : Prop := (∀ k, k ≠ 31 → k ≠ 34 → T.1 k = S.1 k) ∧ ∃ e, ps_at T N e
def ps_Q (S : mo_S) (N h c O : Nat) (r : ps_R) (T : mo_S) : Prop := match r with
  | .inl (w, pl) => ps_B S N c O T w pl
  | .inr (h2, L, _, _) => ∃ e, ps_G S N h c O T e L ∧ ps_skn (ps_tx S) N e = h2
theorem ps_eq.r (S : mo_S) : ps_eq S S := fun _ _ _ _ _ _ _ _ => rfl
theorem ps_eq.t {S T U : mo_S} (h : ps_eq S T) (h2 : ps_eq T U) : ps_eq S U := fun k a b c d e f g => (h2 k a b c d e f g).trans (h k a b c d e f g)
theorem ps_eq.tx {S T : mo_S} (h : ps_eq S T) : ps_tx T = ps_tx S := by
  funext a
  unfold ps_tx
  rw [h 27 (by decide) (by decide) (by decide) (by decide) (by decide) (by decide) (by decide)]
theorem ps_low.r (B : Nat) (S : mo_S) : ps_low B S S := fun _ _ => ⟨rfl, rfl⟩
theorem ps_low.t {B B2 : Nat} {S T U : mo_S} (h : ps_low B S T) (h2 : ps_low B2 T U) (hB : B ≤ B2) : ps_low B S U := fun i hi => ⟨(h2 i (by omega)).1.trans (h i hi).1, (h2 i (by omega)).2.trans (h i hi).2⟩
theorem ps_FR.r {S : mo_S} {N : Nat} (h : ps_Ft S N) : ps_FR S N S := ⟨fun _ _ _ => rfl, h.1⟩
theorem ps_FR.t {S T U : mo_S} {N : Nat} (h : ps_FR S N T) (h2 : ps_FR T N U) : ps_FR S N U := ⟨fun k a b => (h2.1 k a b).trans (h.1 k a b), h2.2⟩
theorem ps_FR.f {S T : mo_S} {N : Nat} (h : ps_FR S N T) (hf : ps_Ft S N) : ps_Ft T N := ⟨h.2, by obtain ⟨f, a, b, c⟩ := hf.2; exact ⟨f, a, b, (congrFun (h.1 32 (by decide) (by decide)) 0).trans c⟩⟩
theorem ps_B.f {S T : mo_S} {N c O w pl : Nat} (h : ps_B S N c O T w pl) : ps_Ft T N := ⟨h.2.1, w, h.2.2.2.1, h.2.2.2.2.1, h.2.2.1⟩
theorem ps_B.fr {S T U : mo_S} {N c O w pl : Nat} (h : ps_B S N c O T w pl) (h2 : ps_FR T N U) : ps_B S N c O U w pl := by
  obtain ⟨a1, a2, a3, a4, a5, a6, a7⟩ := h
  refine ⟨fun k b1 b2 b3 b4 b5 b6 b7 => (h2.1 k b1 b4).trans (a1 k b1 b2 b3 b4 b5 b6 b7), h2.2, by rw [h2.1 32 (by decide) (by decide)]; exact a3, a4, a5, by rw [h2.1 33 (by decide) (by decide)]; exact a6, fun i hi => ?_⟩
  rw [h2.1 40 (by decide) (by decide), h2.1 41 (by decide) (by decide)]
  exact a7 i hi
theorem ps_Ft.ne {S : mo_S} {N : Nat} (h : ps_Ft S N) : ¬ S.1 32 0 ≤ 0 ∧ ¬ S.1 32 0 = 0 := by
  obtain ⟨f, a, b, c⟩ := h.2
  rw [c]
  exact ⟨nI_nle (by omega) (by omega), nI_ne0 (by omega) (by omega)⟩
theorem ps_FR.h {S : mo_S} {N e : Nat} {v : Int32} (h : ps_at (mo_up S 31 0 v) N e) : ps_FR S N (mo_up S 31 0 v) := ⟨fun k a b => mo_up_ne a, e, h⟩
theorem ps_G.r {S : mo_S} {N h o c O : Nat} (h0 : ps_P S N h o c O) : ps_G S N h c O S h [] := ⟨ps_eq.r S, h0.1, Nat.le_refl _, h0.2.1, rfl, rfl, h0.2.2.2.2.1, ps_low.r _ S, fun j hj => absurd hj (Nat.not_lt_zero j)⟩
theorem ps_gd_l {α : Type} {L L2 : List α} {j : Nat} {x : α} (h : j < L.length) : (L ++ L2).getD j x = L.getD j x := by rw [List.getD_eq_getElem?_getD, List.getD_eq_getElem?_getD, List.getElem?_append_left h]
theorem ps_gd_r {α : Type} {L L2 : List α} {j : Nat} {x : α} (h : L.length ≤ j) : (L ++ L2).getD j x = L2.getD (j - L.length) x := by rw [List.getD_eq_getElem?_getD, List.getD_eq_getElem?_getD, List.getElem?_append_right h]
/-- it goes on from there -/
theorem ps_G.P {S T : mo_S} {N h o c O e : Nat} {L : List (Int32 × Int32)} (h0 : ps_P S N h o c O) (h1 : ps_G S N h c O T e L) : ps_P T N e o (c + L.length) O := by
  obtain ⟨a1, a2, a3, a4, a5, a6, a7, a8, a9⟩ := h1
  obtain ⟨b1, b2, b3, b4, b5, b6, b7, b8⟩ := h0
  exact ⟨a2, a4, a6.trans b3, b4, a7, by omega, by rw [a1 29 (by decide) (by decide) (by decide) (by decide) (by decide) (by decide) (by decide)]; exact b7, b8⟩
theorem ps_G.mv {S T : mo_S} {N h c O e e2 : Nat} {L : List (Int32 × Int32)} (h1 : ps_G S N h c O T e L) (h2 : e ≤ e2) (h3 : e2 ≤ N) : ps_G S N h c O (mo_up T 31 0 (nI e2)) e2 L := by
  obtain ⟨a1, a2, a3, a4, a5, a6, a7, a8, a9⟩ := h1
  refine ⟨fun k b1 b2 b3 b4 b5 b6 b7 => by rw [mo_up_ne b1]; exact a1 k b1 b2 b3 b4 b5 b6 b7, a2.up h3, by omega, by rw [mo_up_ne (by decide)]; exact a4, by rw [mo_up_ne (by decide)]; exact a5, by rw [mo_up_ne (by decide)]; exact a6, by rw [mo_up_ne (by decide)]; exact a7, fun i hi => ?_, fun j hj => ?_⟩
  · rw [mo_up_ne (by decide), mo_up_ne (by decide)]; exact a8 i hi
  · rw [mo_up_ne (by decide), mo_up_ne (by decide)]; exact a9 j hj
theorem ps_G.t {S T U : mo_S} {N h o c O e h2 e2 : Nat} {L L2 : List (Int32 × Int32)} (h0 : ps_P S N h o c O) (h1 : ps_G S N h c O T e L) (h3 : ps_G T N h2 (c + L.length) O U e2 L2) (he : e ≤ h2) : ps_G S N h c O U e2 (L ++ L2) := by
  obtain ⟨a1, a2, a3, a4, a5, a6, a7, a8, a9⟩ := h1
  obtain ⟨b1, b2, b3, b4, b5, b6, b7, b8, b9⟩ := h3
  refine ⟨a1.t b1, b2, by rw [List.length_append]; omega, b4, b5.trans a5, b6.trans a6, by rw [List.length_append, ← Nat.add_assoc]; exact b7, a8.t b8 (by omega), fun j hj => ?_⟩
  by_cases q : j < L.length
  · have e1 := a9 j q
    have e2 := b8 (350 * O + c + j) (by omega)
    rw [e2.1, e2.2, e1.1, e1.2, ps_gd_l q]
    exact ⟨rfl, rfl⟩
  · have e1 := b9 (j - L.length) (by rw [List.length_append] at hj; omega)
    rw [show 350 * O + (c + L.length) + (j - L.length) = 350 * O + c + j by omega] at e1
    rw [e1.1, e1.2, ps_gd_r (by omega)]
    exact ⟨rfl, rfl⟩
theorem ps_G.em {S T : mo_S} {N h o c O e : Nat} {L : List (Int32 × Int32)} {x y : Int32} (h0 : ps_P S N h o c O) (h1 : ps_G S N h c O T e L) (h2 : h + L.length + 1 ≤ e) : ps_G S N h c O (ps_em T O (c + L.length) x y) e (L ++ [(x, y)]) := by
  have hP := h1.P h0
  obtain ⟨a1, a2, a3, a4, a5, a6, a7, a8, a9⟩ := h1
  have e40 : (ps_em T O (c + L.length) x y).1 40 = upd (T.1 40) (350 * O + (c + L.length)) x := by unfold ps_em; rw [mo_up_ne (by decide), mo_up_ne (by decide), mo_up_at]
  have e41 : (ps_em T O (c + L.length) x y).1 41 = upd (T.1 41) (350 * O + (c + L.length)) y := by unfold ps_em; rw [mo_up_ne (by decide), mo_up_at, mo_up_ne (by decide)]
  have en : ∀ k, k ≠ 35 → k ≠ 40 → k ≠ 41 → (ps_em T O (c + L.length) x y).1 k = T.1 k := fun k q1 q2 q3 => by unfold ps_em; rw [mo_up_ne q1, mo_up_ne q3, mo_up_ne q2]
  refine ⟨fun k b1 b2 b3 b4 b5 b6 b7 => by rw [en k b5 b6 b7]; exact a1 k b1 b2 b3 b4 b5 b6 b7, ?_, by rw [List.length_append]; simp only [List.length_cons, List.length_nil]; omega, by rw [en 32 (by decide) (by decide) (by decide)]; exact a4, by rw [en 33 (by decide) (by decide) (by decide)]; exact a5, by rw [en 34 (by decide) (by decide) (by decide)]; exact a6, ?_, fun i hi => ?_, fun j hj => ?_⟩
  · exact ⟨by rw [en 30 (by decide) (by decide) (by decide)]; exact a2.1, a2.2.1, by rw [en 31 (by decide) (by decide) (by decide)]; exact a2.2.2.1, a2.2.2.2⟩
  · unfold ps_em
    rw [mo_up_at, pk_us, List.length_append]
    rfl
  · rw [e40, e41, pk_un (by omega), pk_un (by omega)]; exact a8 i hi
  · rw [e40, e41]
    by_cases q : j < L.length
    · rw [pk_un (by omega), pk_un (by omega), ps_gd_l q]; exact a9 j q
    · have q2 : j = L.length := by rw [List.length_append] at hj; simp only [List.length_cons, List.length_nil] at hj; omega
      subst q2
      rw [show 350 * O + c + L.length = 350 * O + (c + L.length) by omega, pk_us, pk_us, ps_gd_r (Nat.le_refl _), Nat.sub_self]
      exact ⟨rfl, rfl⟩
theorem ps_G.wr {S T : mo_S} {N h c O e e2 w pl : Nat} {L : List (Int32 × Int32)} (h1 : ps_G S N h c O T e L) (h2 : e2 ≤ N) (hw : 1 ≤ w ∧ w ≤ 3) : ps_B S N c O (ps_wr T e2 w pl) w pl := by
  obtain ⟨a1, a2, a3, a4, a5, a6, a7, a8, a9⟩ := h1
  have en : ∀ k, k ≠ 31 → k ≠ 32 → k ≠ 33 → (ps_wr T e2 w pl).1 k = T.1 k := fun k q1 q2 q3 => by unfold ps_wr; rw [mo_up_ne q3, mo_up_ne q2, mo_up_ne q1]
  refine ⟨fun k b1 b2 b3 b4 b5 b6 b7 => by rw [en k b1 b2 b3]; exact a1 k b1 b2 b3 b4 b5 b6 b7, ⟨e2, by rw [en 30 (by decide) (by decide) (by decide)]; exact a2.1, a2.2.1, by unfold ps_wr; rw [mo_up_ne (by decide), mo_up_ne (by decide), mo_up_at, pk_us], h2⟩, by unfold ps_wr; rw [mo_up_ne (by decide), mo_up_at, pk_us], hw.1, hw.2, by unfold ps_wr; rw [mo_up_at, pk_us], fun i hi => ?_⟩
  rw [en 40 (by decide) (by decide) (by decide), en 41 (by decide) (by decide) (by decide)]
  exact a8 i hi
theorem ps_B.t {S T U : mo_S} {N h o c O e w pl : Nat} {L : List (Int32 × Int32)} (h1 : ps_G S N h c O T e L) (h2 : ps_B T N (c + L.length) O U w pl) : ps_B S N c O U w pl := by
  obtain ⟨a1, a2, a3, a4, a5, a6, a7, a8, a9⟩ := h1
  obtain ⟨b1, b2, b3, b4, b5, b6, b7⟩ := h2
  exact ⟨a1.t b1, b2, b3, b4, b5, b6, a8.t b7 (by omega)⟩
end M21
