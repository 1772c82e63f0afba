section RO
/-- the clauses so far: of each kind the last one, and its number -/
abbrev od_q : Type := Int32 × Int32 × List (Int32 × Int32) × List Int32 × ps_F
abbrev od_R : Type := Int32 → Option (Nat × od_q)
def od_st (r : od_R) (i : Nat) (q : od_q) : od_R := fun w => if w = q.1 then some (i, q) else r w
def od_c (y : Option (Nat × od_q)) : Int32 := match y with | none => -1 | some (i, _) => nI i
def od_k (y : Option (Nat × od_q)) : List Int32 := match y with | none => [-1] | some (_, q) => q.2.2.2.1
def od_pg (y : Option (Nat × od_q)) : Int32 := match y with | none => 64 | some (_, q) => q.2.1
def od_vl (w : Nat) (y : Option (Nat × od_q)) : Int32 := match y with | none => ([10, 12, 100, 0, 0, 0, 0] : List Int32).getD (w - 5) 0 | some (_, q) => if w = 10 then 1 - q.2.1 else q.2.1
/-- what a kind of clause tells stands in order i -/
def od_It (w : Nat) (C : mo_S) (i : Nat) (y : Option (Nat × od_q)) : Prop :=
  (w = 0 → C.1 111 i = nI (od_k y).length ∧ (od_k y).length ≤ 300 ∧ ∀ j, j < (od_k y).length → C.1 112 (300 * i + j) = (od_k y).getD j 0) ∧
  (1 ≤ w → w ≤ 3 → C.1 101 (3 * i + (w - 1)) = od_pg y ∧ C.1 102 (3 * i + (w - 1)) = od_c y) ∧
  (w = 4 → C.1 110 i = (if y.isSome then 1 else 0) ∧ C.1 100 i = od_c y ∧ (y.isSome = true → C.1 113 i = nI (od_k y).length ∧ (od_k y).length ≤ 300 ∧ ∀ j, j < (od_k y).length → C.1 114 (300 * i + j) = (od_k y).getD j 0)) ∧
  (5 ≤ w → w ≤ 11 → C.1 (98 + w) i = od_vl w y)
def od_cl (w i f x : Nat) : Prop := (w = 0 ∧ ((f = 111 ∧ x = i) ∨ (f = 112 ∧ x / 300 = i))) ∨ (1 ≤ w ∧ w ≤ 3 ∧ (f = 101 ∨ f = 102) ∧ x = 3 * i + (w - 1)) ∨ (w = 4 ∧ (((f = 100 ∨ f = 110 ∨ f = 113) ∧ x = i) ∨ (f = 114 ∧ x / 300 = i))) ∨ (5 ≤ w ∧ w ≤ 11 ∧ f = 98 + w ∧ x = i)
theorem od_It.cg {w i : Nat} {C C2 : mo_S} {y : Option (Nat × od_q)} (h : od_It w C i y) (hh : ∀ f x, od_cl w i f x → C2.1 f x = C.1 f x) : od_It w C2 i y := by
  obtain ⟨h0, h1, h4, h5⟩ := h
  refine ⟨fun e => ?_, fun e1 e2 => ?_, fun e => ?_, fun e1 e2 => ?_⟩
  · obtain ⟨a, b, c⟩ := h0 e
    refine ⟨by rw [hh 111 i (by unfold od_cl; omega)]; exact a, b, fun j hj => ?_⟩
    rw [hh 112 (300 * i + j) (by unfold od_cl; omega)]
    exact c j hj
  · rw [hh 101 _ (by unfold od_cl; omega), hh 102 _ (by unfold od_cl; omega)]
    exact h1 e1 e2
  · obtain ⟨a, b, c⟩ := h4 e
    refine ⟨by rw [hh 110 i (by unfold od_cl; omega)]; exact a, by rw [hh 100 i (by unfold od_cl; omega)]; exact b, fun q => ?_⟩
    obtain ⟨q1, q2, q3⟩ := c q
    refine ⟨by rw [hh 113 i (by unfold od_cl; omega)]; exact q1, q2, fun j hj => ?_⟩
    rw [hh 114 (300 * i + j) (by unfold od_cl; omega)]
    exact q3 j hj
  · rw [hh (98 + w) i (by unfold od_cl; omega)]
    exact h5 e1 e2
/-- order i holds what they tell -/
def od_S (C : mo_S) (i : Nat) (r : od_R) : Prop := ∀ w : Nat, w < 12 → od_It w C i (r (nI w))
theorem od_S.st {C C2 : mo_S} {i ci w0 : Nat} {r : od_R} {q : od_q} (h : od_S C i r) (hq : q.1 = nI w0) (hw0 : w0 < 12) (hn : od_It w0 C2 i (some (ci, q))) (hs : ∀ w, w < 12 → w ≠ w0 → ∀ f x, od_cl w i f x → C2.1 f x = C.1 f x) : od_S C2 i (od_st r ci q) := fun w hw => by
  unfold od_st
  by_cases e : w = w0
  · rw [e, if_pos hq.symm]; exact hn
  · rw [if_neg (fun z => e (mo_niinj (by omega) (by omega) (z.trans hq)))]
    exact (h w hw).cg (hs w hw e)
/-- order i's numbers -/
def od_at (i f x : Nat) : Prop := ((f = 36 ∨ f = 100 ∨ (103 ≤ f ∧ f ≤ 111) ∨ f = 113) ∧ x = i) ∨ ((f = 101 ∨ f = 102) ∧ x / 3 = i) ∨ ((f = 112 ∨ f = 114) ∧ x / 300 = i)
theorem od_cl_at {w i f x : Nat} (h : od_cl w i f x) : od_at i f x := by unfold od_cl at h; unfold od_at; omega
theorem od_S.cg {C C2 : mo_S} {i : Nat} {r : od_R} (h : od_S C i r) (hh : ∀ f x, od_at i f x → C2.1 f x = C.1 f x) : od_S C2 i r := fun w hw => (h w hw).cg (fun f x q => hh f x (od_cl_at q))
/-- what reading changes: scratch, and the order that is being made -/
def od_eq (C2 C : mo_S) : Prop := ∀ f x, f ∉ rd_Xs → (od_at 11 f x → f = 36) → C2.1 f x = C.1 f x
theorem od_eq.t {A B C : mo_S} (h : od_eq A B) (h2 : od_eq B C) : od_eq A C := fun f x a b => (h f x a b).trans (h2 f x a b)
theorem od_eq.of {A C : mo_S} (h : cx_eqX rd_Xs A C) : od_eq A C := fun f x a _ => by rw [h f a]
def od_W (W2 W : cw_W) : Prop := ∀ k i, ¬ ((k = 29 ∨ k = 30) ∧ i = 11) → W2 k i = W k i
theorem od_W.r (W : cw_W) : od_W W W := fun _ _ _ => rfl
theorem od_W.t {A B C : cw_W} (h : od_W A B) (h2 : od_W B C) : od_W A C := fun k i a => (h k i a).trans (h2 k i a)
def cw_wf (W : cw_W) (z y : Nat) : cw_W := fun k i => if k = z ∧ i = 11 then y else W k i
theorem cw_wf_W {W : cw_W} {z y : Nat} (hz : z = 29 ∨ z = 30) : od_W (cw_wf W z y) W := fun k i h => if_neg (fun q => h ⟨by rw [q.1]; exact hz, q.2⟩)
def od_fm29 (C : mo_S) (cd : Nat) (f : Nat → Int32) : mo_S := (fun k x => if k = 112 ∧ x / 300 = 11 then f (x % 300) else if k = 111 ∧ x = 11 then nI cd else C.1 k x, C.2)
def od_fm30 (C : mo_S) (cd : Nat) (f : Nat → Int32) : mo_S := (fun k x => if k = 114 ∧ x / 300 = 11 then f (x % 300) else if k = 113 ∧ x = 11 then nI cd else if k = 110 ∧ x = 11 then 1 else C.1 k x, C.2)
theorem od_fm29_ne {C : mo_S} {cd : Nat} {f : Nat → Int32} {k x : Nat} (h1 : ¬ (k = 112 ∧ x / 300 = 11)) (h2 : ¬ (k = 111 ∧ x = 11)) : (od_fm29 C cd f).1 k x = C.1 k x := (if_neg h1).trans (if_neg h2)
theorem od_fm30_ne {C : mo_S} {cd : Nat} {f : Nat → Int32} {k x : Nat} (h1 : ¬ (k = 114 ∧ x / 300 = 11)) (h2 : ¬ (k = 113 ∧ x = 11)) (h3 : ¬ (k = 110 ∧ x = 11)) : (od_fm30 C cd f).1 k x = C.1 k x := (if_neg h1).trans ((if_neg h2).trans (if_neg h3))
theorem od_fm29_L {C : mo_S} {cd : Nat} {f : Nat → Int32} : (od_fm29 C cd f).1 111 11 = nI cd := by
  first | rfl | simp [od_fm29]
theorem od_fm30_L {C : mo_S} {cd : Nat} {f : Nat → Int32} : (od_fm30 C cd f).1 113 11 = nI cd := by
  first | rfl | simp [od_fm30]
theorem od_fm30_1 {C : mo_S} {cd : Nat} {f : Nat → Int32} : (od_fm30 C cd f).1 110 11 = 1 := by
  first | rfl | simp [od_fm30]
theorem od_fm29_F {C : mo_S} {cd : Nat} {f : Nat → Int32} {j : Nat} (hj : j < 300) : (od_fm29 C cd f).1 112 (300 * 11 + j) = f j := by
  show (if _ then _ else _) = _
  rw [if_pos ⟨rfl, by omega⟩, show (300 * 11 + j) % 300 = j by omega]
theorem od_fm30_F {C : mo_S} {cd : Nat} {f : Nat → Int32} {j : Nat} (hj : j < 300) : (od_fm30 C cd f).1 114 (300 * 11 + j) = f j := by
  show (if _ then _ else _) = _
  rw [if_pos ⟨rfl, by omega⟩, show (300 * 11 + j) % 300 = j by omega]
theorem od_fm29_eq {C : mo_S} {cd : Nat} {f : Nat → Int32} : od_eq (od_fm29 C cd f) C := fun k x _ h => od_fm29_ne (fun q => absurd (h (Or.inr (Or.inr ⟨Or.inl q.1, q.2⟩))) (by omega)) (fun q => absurd (h (Or.inl ⟨by omega, q.2⟩)) (by omega))
theorem od_fm30_eq {C : mo_S} {cd : Nat} {f : Nat → Int32} : od_eq (od_fm30 C cd f) C := fun k x _ h => od_fm30_ne (fun q => absurd (h (Or.inr (Or.inr ⟨Or.inr q.1, q.2⟩))) (by omega)) (fun q => absurd (h (Or.inl ⟨by omega, q.2⟩)) (by omega)) (fun q => absurd (h (Or.inl ⟨by omega, q.2⟩)) (by omega))
def od_sm (C2 C : mo_S) : Prop := (∀ f x, ¬ od_at 11 f x → ¬ (f = 133 ∧ x = 0) → C2.1 f x = C.1 f x) ∧ C2.2 = C.2
theorem od_sm.f {C2 C : mo_S} (h : od_sm C2 C) (f : Nat) (h1 : f < 100 ∨ f = 132 ∨ f = 134) (h3 : f ≠ 36) : C2.1 f = C.1 f := funext fun x => h.1 f x (fun q => by unfold od_at at q; omega) (fun q => by omega)
theorem od_sm.sz {C2 C : mo_S} (h : od_sm C2 C) : sp_P C2 = sp_P C ∧ sp_R C2 = sp_R C ∧ sp_O C2 = sp_O C ∧ sp_A C2 = sp_A C ∧ cw_M C2 = cw_M C := by
  unfold sp_P sp_R sp_O sp_A cw_M
  rw [h.f 1 (by omega) (by omega), h.f 21 (by omega) (by omega), h.f 29 (by omega) (by omega), h.f 62 (by omega) (by omega), h.f 134 (by omega) (by omega)]
  exact ⟨rfl, rfl, rfl, rfl, rfl⟩
theorem od_sm.B {C2 C : mo_S} (h : od_sm C2 C) (hB : cw_B C) (h111 : (C2.1 111 11).toNatClampNeg ≤ 300) (h113 : (C2.1 113 11).toNatClampNeg ≤ 300) : cw_B C2 := by
  obtain ⟨s0, s1, s2, s3, sM⟩ := h.sz
  obtain ⟨a0, a1, a2, a3, aM, aC, aL⟩ := hB
  refine ⟨by rw [h.f 1 (by omega) (by omega), s0]; exact a0, by rw [h.f 21 (by omega) (by omega), s1]; exact a1, by rw [h.f 29 (by omega) (by omega), s2]; exact a2, by rw [h.f 62 (by omega) (by omega), s3]; exact a3, by rw [h.f 134 (by omega) (by omega), sM]; exact aM, fun l hl => ?_, fun i => ?_⟩
  · obtain ⟨cp, b1, b2, b3, b4⟩ := aC l hl
    refine ⟨cp, by rw [h.f 132 (by omega) (by omega)]; exact b1, b2, ?_, b4⟩
    have e : cw_n C2 l = cw_n C l := by
      obtain rfl | rfl | rfl | rfl : l = 0 ∨ l = 1 ∨ l = 2 ∨ l = 3 := by omega
      · exact s0
      · exact s1
      · exact s2
      · exact s3
    rw [e]; exact b3
  · by_cases e : i = 11
    · rw [e]; exact ⟨h111, h113⟩
    · rw [h.1 111 i (fun q => by unfold od_at at q; omega) (fun q => by omega), h.1 113 i (fun q => by unfold od_at at q; omega) (fun q => by omega)]; exact aL i
theorem od_lv {C2 C : mo_S} {k i : Nat} (h : od_sm C2 C) (hl : cw_lv C2 k i) : (28 ≤ k ∧ k ≤ 32 ∧ i = 11 ∧ (k = 30 → ¬ C2.1 110 11 = 0)) ∨ cw_lv C k i := by
  obtain ⟨s0, s1, s2, s3, sM⟩ := h.sz
  have f132 := congrFun (h.f 132 (by omega) (by omega))
  have sO : ∀ i, cw_ol C2 i → i = 11 ∨ cw_ol C i := fun i q => by
    rcases q with q | q | q
    · exact Or.inr (Or.inl (by rw [← s2]; exact q))
    · exact Or.inr (Or.inr (Or.inl q))
    · exact Or.inl q.1
  have hk : k < 35 := by
    rcases Nat.lt_or_ge k 35 with q | q
    · exact q
    · exfalso
      obtain ⟨m, rfl⟩ : ∃ m, k = m + 35 := ⟨k - 35, by omega⟩
      exact hl
  match k, hk, hl with
  | 0, _, hl => have h0 : i = 0 := hl; exact Or.inr h0
  | 1, _, hl => have h0 : i < 4 := hl; exact Or.inr h0
  | 2, _, hl => exact Or.inr ⟨hl.1, by rw [← f132 i]; exact hl.2⟩
  | 3, _, hl => have h0 : i = 0 := hl; exact Or.inr h0
  | 4, _, hl => have h0 : i = 0 := hl; exact Or.inr h0
  | 5, _, hl => have h0 : i = 0 := hl; exact Or.inr h0
  | 6, _, hl => have h0 : i = 0 := hl; exact Or.inr h0
  | 7, _, hl => have h0 : i = 0 := hl; exact Or.inr h0
  | 8, _, hl => have h0 : i = 0 := hl; exact Or.inr h0
  | 9, _, hl => have h0 : i = 0 := hl; exact Or.inr h0
  | 10, _, hl => have h0 : i = 0 := hl; exact Or.inr h0
  | 11, _, hl => have h0 : i = 0 := hl; exact Or.inr h0
  | 12, _, hl => have h0 : i = 0 := hl; exact Or.inr h0
  | 13, _, hl => have h0 : i = 0 := hl; exact Or.inr h0
  | 14, _, hl => have h0 : i = 0 := hl; exact Or.inr h0
  | 15, _, hl => have h0 : i = 0 := hl; exact Or.inr h0
  | 16, _, hl => have h0 : i = 0 := hl; exact Or.inr h0
  | 17, _, hl => have h0 : i = 0 := hl; exact Or.inr h0
  | 18, _, hl => have h0 : i = 0 := hl; exact Or.inr h0
  | 19, _, hl => have h0 : i = 0 := hl; exact Or.inr h0
  | 20, _, hl => exact Or.inr (by have hl : i < sp_P C2 := hl; rw [s0] at hl; exact hl)
  | 21, _, hl => exact Or.inr (by have hl : i < sp_P C2 := hl; rw [s0] at hl; exact hl)
  | 22, _, hl => exact Or.inr (by have hl : i < sp_P C2 := hl; rw [s0] at hl; exact hl)
  | 23, _, hl => exact Or.inr (by have hl : i < sp_P C2 := hl; rw [s0] at hl; exact hl)
  | 24, _, hl => exact Or.inr (by have hl : i < sp_P C2 := hl; rw [s0] at hl; exact hl)
  | 25, _, hl => exact Or.inr (by have hl : i < sp_P C2 := hl; rw [s0] at hl; exact hl)
  | 26, _, hl => exact Or.inr (by have hl : i < sp_P C2 := hl; rw [s0] at hl; exact hl)
  | 27, _, hl => exact Or.inr (by have hl : i < sp_R C2 := hl; rw [s1] at hl; exact hl)
  | 28, _, hl =>
    rcases sO i hl with q | q
    · exact Or.inl ⟨by decide, by decide, q, fun e => absurd e (by decide)⟩
    · exact Or.inr q
  | 29, _, hl =>
    rcases sO i hl with q | q
    · exact Or.inl ⟨by decide, by decide, q, fun e => absurd e (by decide)⟩
    · exact Or.inr q
  | 30, _, hl =>
    by_cases e : i = 11
    · exact Or.inl ⟨by decide, by decide, e, fun _ => by rw [← e]; exact hl.2⟩
    · refine Or.inr ⟨(sO i hl.1).resolve_left e, ?_⟩
      rw [← h.1 110 i (fun q => by unfold od_at at q; omega) (fun q => by omega)]
      exact hl.2
  | 31, _, hl =>
    rcases sO i hl with q | q
    · exact Or.inl ⟨by decide, by decide, q, fun e => absurd e (by decide)⟩
    · exact Or.inr q
  | 32, _, hl =>
    rcases sO i hl with q | q
    · exact Or.inl ⟨by decide, by decide, q, fun e => absurd e (by decide)⟩
    · exact Or.inr q
  | 33, _, hl => exact Or.inr (by have hl : i < sp_A C2 := hl; rw [s3] at hl; exact hl)
  | 34, _, hl => exact Or.inr (by have hl : i < cw_M C2 := hl; rw [sM] at hl; exact hl)
  | k + 35, hk, _ => exact absurd hk (by omega)
theorem od_lv0 {C : mo_S} {k i : Nat} (hB : cw_B C) (h133 : C.1 133 0 = 0) (hl : cw_lv C k i) : ¬ (28 ≤ k ∧ k ≤ 32 ∧ i = 11) := fun q => by
  have z : ¬ cw_ol C 11 := fun z => by
    rcases z with z | z | z
    · have := hB.2.2.1.2; omega
    · exact absurd z (by decide)
    · exact absurd (h133.symm.trans z.2) (by decide)
  obtain ⟨q1, q2, rfl⟩ := q
  obtain rfl | rfl | rfl | rfl | rfl : k = 28 ∨ k = 29 ∨ k = 30 ∨ k = 31 ∨ k = 32 := by omega
  · exact z hl
  · exact z hl
  · exact z hl.1
  · exact z hl
  · exact z hl
theorem od_lv99 {C : mo_S} {i : Nat} (hl : cw_lv C 99 i) : False := hl
theorem od_sm.sm {C2 C : mo_S} (h : od_sm C2 C) {k i : Nat} (hl : cw_lv C k i) (hn : ¬ (28 ≤ k ∧ k ≤ 32 ∧ i = 11)) : cw_sm C2 C k i := by
  have h99 : k ≠ 99 := fun e => by rw [e] at hl; exact hl
  refine ⟨fun f x ho => h.1 f x (fun q => hn ?_) (fun q => h99 ?_), fun hk => ⟨congrFun (h.f 132 (by omega) (by omega)) _, ?_⟩, fun a b => ⟨?_, ?_, ?_⟩, fun _ => congrFun (h.f 134 (by omega) (by omega)) _, fun _ => h.2⟩
  · unfold od_at at q
    rcases q with ⟨q1, q2⟩ | ⟨q1, q2⟩ | ⟨q1, q2⟩
    · obtain rfl | rfl | rfl | rfl | rfl | rfl | rfl | rfl | rfl | rfl | rfl | rfl : f = 36 ∨ f = 100 ∨ f = 103 ∨ f = 104 ∨ f = 105 ∨ f = 106 ∨ f = 107 ∨ f = 108 ∨ f = 109 ∨ f = 110 ∨ f = 111 ∨ f = 113 := by omega
      all_goals first
        | (have e : ((28 : Nat), x) = (k, i) := ho; cases e; exact ⟨by decide, by decide, q2⟩)
        | (have e : ((99 : Nat), (0 : Nat)) = (k, i) := ho; cases e; exact absurd rfl h99)
    · obtain rfl | rfl : f = 101 ∨ f = 102 := q1
      · have e : ((31 : Nat), x / 3) = (k, i) := ho; cases e; exact ⟨by decide, by decide, q2⟩
      · have e : ((32 : Nat), x / 3) = (k, i) := ho; cases e; exact ⟨by decide, by decide, q2⟩
    · obtain rfl | rfl : f = 112 ∨ f = 114 := q1
      · have e : ((29 : Nat), x / 300) = (k, i) := ho; cases e; exact ⟨by decide, by decide, q2⟩
      · have e : ((30 : Nat), x / 300) = (k, i) := ho; cases e; exact ⟨by decide, by decide, q2⟩
  · rw [q.1] at ho
    have e : ((99 : Nat), (0 : Nat)) = (k, i) := ho
    cases e; rfl
  · have := cw_sz_lt i
    refine congrFun (h.f _ (by omega) (fun e => ?_)) _
    unfold cw_sz at e
    split at e <;> exact absurd e (by decide)
  · exact h.1 110 i (fun q => hn ⟨a, by omega, by unfold od_at at q; omega⟩) (fun q => by omega)
  · exact h.1 111 i (fun q => hn ⟨a, by omega, by unfold od_at at q; omega⟩) (fun q => by omega)
  · exact h.1 113 i (fun q => hn ⟨a, by omega, by unfold od_at at q; omega⟩) (fun q => by omega)
section CT
variable {G : ev_G} {K : Nat → Prop} {g0 g : ev_H} {W : cw_W} {C : mo_S}
/-- the order that is being made is let go -/
theorem cw_T.drop (hT : cw_T G K g0 W g C) (hA : ∀ a, a < sp_A C → (C.1 63 a).toNatClampNeg < sp_P C) : cw_T G K g0 W g (mo_up C 133 0 0) := by
  have hs : od_sm (mo_up C 133 0 0) C := ⟨fun f x _ h => cw_up_at (fun q => h q), rfl⟩
  have h110 : ∀ f i, f ≠ 133 → (mo_up C 133 0 0).1 f i = C.1 f i := fun f i h => cw_up_at (fun q => h q.1)
  have hB : cw_B (mo_up C 133 0 0) := hs.B hT.B (by rw [h110 _ _ (by decide)]; exact (hT.B.2.2.2.2.2.2 11).1) (by rw [h110 _ _ (by decide)]; exact (hT.B.2.2.2.2.2.2 11).2)
  have hn : ∀ k i, cw_lv (mo_up C 133 0 0) k i → ¬ (28 ≤ k ∧ k ≤ 32 ∧ i = 11) := fun k i h => od_lv0 hB (by rw [mo_up_at, pk_us]) h
  refine hT.grow (l := 4) (fun _ _ => False) rfl (fun _ _ _ _ => rfl) hA hB (fun _ _ => rfl) (fun k i hl => Or.inl ?_) (fun _ _ _ _ h => h.elim)
  have h1 : cw_lv C k i := by
    rcases od_lv hs hl with q | q
    · exact absurd ⟨q.1, q.2.1, q.2.2.1⟩ (hn k i hl)
    · exact q
  refine ⟨h1, fun y => ?_, hs.sm h1 (hn k i hl), rfl⟩
  have hi4 : i < 4 := by
    rcases y with rfl | rfl
    · exact h1
    · exact h1.1
  omega
/-- .. is there -/
theorem cw_T.mk {W2 : cw_W} {C2 : mo_S} {g2 : ev_H} (hT : cw_T G K g0 W g C) (h133 : C.1 133 0 = 0) (hA : ∀ a, a < sp_A C → (C.1 63 a).toNatClampNeg < sp_P C) (hs : od_sm C2 C) (h111 : (C2.1 111 11).toNatClampNeg ≤ 300) (h113 : (C2.1 113 11).toNatClampNeg ≤ 300)
    (hW : ∀ k i, ¬ (28 ≤ k ∧ k ≤ 32 ∧ i = 11) → W2 k i = W k i) (hK : ∀ a, K a → g2 a = g a) (hg : ∀ k i, cw_lv C k i → g2 (W k i) = g (W k i))
    (hN : ∀ k, 28 ≤ k → k ≤ 32 → (k = 30 → ¬ C2.1 110 11 = 0) → cw_at G W2 C2 g2 k 11 ∧ ¬ K (W2 k 11) ∧ ∀ k' i', cw_lv C k' i' → W k' i' ≠ W2 k 11)
    (hD : ∀ k k', 28 ≤ k → k ≤ 32 → 28 ≤ k' → k' ≤ 32 → (k = 30 ∨ k' = 30 → ¬ C2.1 110 11 = 0) → W2 k 11 = W2 k' 11 → k = k') : cw_T G K g0 W2 g2 C2 := by
  have h0 : ∀ k i, cw_lv C k i → ¬ (28 ≤ k ∧ k ≤ 32 ∧ i = 11) := fun k i h => od_lv0 hT.B h133 h
  refine hT.grow (l := 4) (fun k i => 28 ≤ k ∧ k ≤ 32 ∧ i = 11 ∧ (k = 30 → ¬ C2.1 110 11 = 0)) (hW 99 0 (by omega)) (fun k i h _ => hW k i (h0 k i h)) hA (hs.B hT.B h111 h113) hK (fun k i hl => ?_) (fun k i k' i' h1 h2 e => ?_)
  · rcases od_lv hs hl with q | q
    · obtain ⟨q1, q2, rfl, q4⟩ := q
      exact Or.inr ⟨⟨q1, q2, rfl, q4⟩, (hN k q1 q2 q4).1, (hN k q1 q2 q4).2.1⟩
    · refine Or.inl ⟨q, fun y => ?_, hs.sm q (h0 k i q), hg k i q⟩
      have hi4 : i < 4 := by
        rcases y with rfl | rfl
        · exact q
        · exact q.1
      omega
  · obtain ⟨a1, a2, rfl, a4⟩ := h1
    rcases od_lv hs h2 with q | q
    · obtain ⟨b1, b2, rfl, b4⟩ := q
      exact ⟨hD k k' a1 a2 b1 b2 (fun z => z.elim a4 b4) e, rfl⟩
    · rw [hW k' i' (h0 k' i' q)] at e
      exact absurd e.symm ((hN k a1 a2 a4).2.2 k' i' q)
theorem cw_T.fm29 {y cd : Nat} {f : Nat → Int32} (hT : cw_T G K g0 W g C) (hA : ∀ a, a < sp_A C → (C.1 63 a).toNatClampNeg < sp_P C) (h133 : C.1 133 0 = 1) (hy : g y = some (.inl (G.2.2.2 0, cd, .inl f))) (hcd : cd ≤ 300) (hne : ∀ k i, cw_lv C k i → W k i ≠ y) (hK : ¬ K y) : cw_T G K g0 (cw_wf W 29 y) (ev_up g (W 28 11) (.inr (5, [.int (C.1 36 11), .ref y, (if C.1 110 11 = 0 then .null else .ref (W 30 11)), .int (C.1 100 11), .ref (W 31 11), .ref (W 32 11), .int (C.1 103 11), .int (C.1 104 11), .int (C.1 105 11), .int (C.1 106 11), .int (C.1 107 11), .int (C.1 108 11), .int (C.1 109 11)]))) (od_fm29 C cd f) := by
  have hD0 := hT.2.2.2
  have h28 : cw_lv C 28 11 := Or.inr (Or.inr ⟨rfl, h133⟩)
  have h29 : cw_lv C 29 11 := Or.inr (Or.inr ⟨rfl, h133⟩)
  have hWn : ∀ k i, ¬ (k = 29 ∧ i = 11) → cw_wf W 29 y k i = W k i := fun k i h => if_neg h
  have hWz : cw_wf W 29 y 29 11 = y := if_pos ⟨rfl, rfl⟩
  have hW28 : cw_wf W 29 y 28 11 = W 28 11 := hWn 28 11 (fun q => absurd q.1 (by decide))
  have eL : (od_fm29 C cd f).1 111 11 = nI cd := od_fm29_L
  have eF : ∀ j, j < cd → (od_fm29 C cd f).1 112 (300 * 11 + j) = f j := fun j hj => od_fm29_F (by omega)
  have hgo : ∀ b, b ≠ W 28 11 → (ev_up g (W 28 11) (.inr (5, [.int (C.1 36 11), .ref y, (if C.1 110 11 = 0 then .null else .ref (W 30 11)), .int (C.1 100 11), .ref (W 31 11), .ref (W 32 11), .int (C.1 103 11), .int (C.1 104 11), .int (C.1 105 11), .int (C.1 106 11), .int (C.1 107 11), .int (C.1 108 11), .int (C.1 109 11)]))) b = g b := fun b hb => ev_up_n _ _ hb
  have hlv0 : ∀ k i, cw_lv (mo_up C 133 0 0) k i → cw_lv C k i ∧ ¬ (28 ≤ k ∧ k ≤ 32 ∧ i = 11) := fun k i h => by
    have hB := (hT.drop hA).B
    have hn := od_lv0 hB (by rw [mo_up_at, pk_us]) h
    rcases od_lv (C2 := mo_up C 133 0 0) (C := C) ⟨fun f x _ h => cw_up_at (fun q => h q), rfl⟩ h with q | q
    · exact absurd ⟨q.1, q.2.1, q.2.2.1⟩ hn
    · exact ⟨q, hn⟩
  have hl9 : ∀ k, 28 ≤ k → k ≤ 32 → ¬ k = 29 → (k = 30 → ¬ (od_fm29 C cd f).1 110 11 = 0) → cw_lv C k 11 := fun k k1 k2 kz k3 => by
    obtain rfl | rfl | rfl | rfl | rfl : k = 28 ∨ k = 29 ∨ k = 30 ∨ k = 31 ∨ k = 32 := by omega
    · exact h28
    · exact h29
    · exact ⟨h29, by rw [← od_fm29_ne (C := C) (cd := cd) (f := f) (k := 110) (x := 11) (fun q => absurd q.1 (by decide)) (fun q => absurd q.1 (by decide))]; exact k3 rfl⟩
    · exact h29
    · exact h29
  refine (hT.drop hA).mk (by rw [mo_up_at, pk_us]) hA ⟨fun k x h1 h2 => ?_, rfl⟩ ?_ ?_ (fun k i h => hWn k i (fun q => h ⟨by omega, by omega, q.2⟩)) (fun a ha => hgo a (fun q => (hT.2.2.1 28 11 h28).2 (q ▸ ha))) (fun k i h => hgo _ (fun e => ?_)) (fun k k1 k2 hk => ⟨?_, ?_, fun k' i' h' e => ?_⟩) (fun k k' a1 a2 b1 b2 h30 e => ?_)
  · rw [cw_up_at (fun q => h2 ⟨q.1, q.2⟩)]
    exact od_fm29_ne (fun q => h1 (Or.inr (Or.inr ⟨by omega, q.2⟩))) (fun q => h1 (Or.inl ⟨by omega, q.2⟩))
  · rw [eL, nI_clamp (by omega)]; exact hcd
  · rw [od_fm29_ne (C := C) (cd := cd) (f := f) (k := 113) (x := 11) (fun q => absurd q.1 (by decide)) (fun q => absurd q.1 (by decide))]; exact (hT.B.2.2.2.2.2.2 11).2
  · have q := hlv0 k i h
    have r := hD0 k i 28 11 q.1 h28 e
    exact q.2 ⟨by omega, by omega, r.2⟩
  · obtain rfl | rfl | rfl | rfl | rfl : k = 28 ∨ k = 29 ∨ k = 30 ∨ k = 31 ∨ k = 32 := by omega
    · refine cw_at_ob (by decide) ob28 ?_
      rw [od_fm29_ne (C := C) (cd := cd) (f := f) (k := 36) (x := 11) (fun q => absurd q.1 (by decide)) (fun q => absurd q.1 (by decide)), od_fm29_ne (C := C) (cd := cd) (f := f) (k := 110) (x := 11) (fun q => absurd q.1 (by decide)) (fun q => absurd q.1 (by decide)), od_fm29_ne (C := C) (cd := cd) (f := f) (k := 100) (x := 11) (fun q => absurd q.1 (by decide)) (fun q => absurd q.1 (by decide)), od_fm29_ne (C := C) (cd := cd) (f := f) (k := 103) (x := 11) (fun q => absurd q.1 (by decide)) (fun q => absurd q.1 (by decide)), od_fm29_ne (C := C) (cd := cd) (f := f) (k := 104) (x := 11) (fun q => absurd q.1 (by decide)) (fun q => absurd q.1 (by decide)), od_fm29_ne (C := C) (cd := cd) (f := f) (k := 105) (x := 11) (fun q => absurd q.1 (by decide)) (fun q => absurd q.1 (by decide)), od_fm29_ne (C := C) (cd := cd) (f := f) (k := 106) (x := 11) (fun q => absurd q.1 (by decide)) (fun q => absurd q.1 (by decide)), od_fm29_ne (C := C) (cd := cd) (f := f) (k := 107) (x := 11) (fun q => absurd q.1 (by decide)) (fun q => absurd q.1 (by decide)), od_fm29_ne (C := C) (cd := cd) (f := f) (k := 108) (x := 11) (fun q => absurd q.1 (by decide)) (fun q => absurd q.1 (by decide)), od_fm29_ne (C := C) (cd := cd) (f := f) (k := 109) (x := 11) (fun q => absurd q.1 (by decide)) (fun q => absurd q.1 (by decide)), hW28, hWn 30 11 (fun q => absurd q.1 (by decide)), hWn 31 11 (fun q => absurd q.1 (by decide)), hWn 32 11 (fun q => absurd q.1 (by decide)), hWz]; exact ev_up_s _ _ _
    · exact cw_at_ar (by decide) ar29 ⟨f, by rw [eL, nI_clamp (by omega), hWz, hgo y (hne 28 11 h28).symm]; exact hy, fun j hj => ((eF j (by rw [eL, nI_clamp (by omega)] at hj; exact hj))).symm⟩
    · have h30 : cw_lv C 30 11 := ⟨h29, by rw [← od_fm29_ne (C := C) (cd := cd) (f := f) (k := 110) (x := 11) (fun q => absurd q.1 (by decide)) (fun q => absurd q.1 (by decide))]; exact hk rfl⟩
      exact cw_at_ar (by decide) ar30 (by rw [hWn 30 11 (fun q => absurd q.1 (by decide))]; exact ((hT.at (k := 30) (i := 11) h30).2.1 _ _ ar30).mv (hgo _ (fun e => absurd (hD0 30 11 28 11 h30 h28 e).1 (by decide))) (by rw [od_fm29_ne (C := C) (cd := cd) (f := f) (k := 113) (x := 11) (fun q => absurd q.1 (by decide)) (fun q => absurd q.1 (by decide))]) (fun j hj => od_fm29_ne (C := C) (cd := cd) (f := f) (k := 114) (x := 300 * 11 + j) (fun q => absurd q.1 (by decide)) (fun q => absurd q.1 (by decide))))
    · exact cw_at_ar (by decide) ar31 (by rw [hWn 31 11 (fun q => absurd q.1 (by decide))]; exact ((hT.at (k := 31) (i := 11) h29).2.1 _ _ ar31).mv (hgo _ (fun e => absurd (hD0 31 11 28 11 h29 h28 e).1 (by decide))) rfl (fun j hj => od_fm29_ne (C := C) (cd := cd) (f := f) (k := 101) (x := 3 * 11 + j) (fun q => absurd q.1 (by decide)) (fun q => absurd q.1 (by decide))))
    · exact cw_at_ar (by decide) ar32 (by rw [hWn 32 11 (fun q => absurd q.1 (by decide))]; exact ((hT.at (k := 32) (i := 11) h29).2.1 _ _ ar32).mv (hgo _ (fun e => absurd (hD0 32 11 28 11 h29 h28 e).1 (by decide))) rfl (fun j hj => od_fm29_ne (C := C) (cd := cd) (f := f) (k := 102) (x := 3 * 11 + j) (fun q => absurd q.1 (by decide)) (fun q => absurd q.1 (by decide))))
  · by_cases z : k = 29
    · rw [z, hWz]; exact hK
    · rw [hWn k 11 (fun q => z q.1)]
      exact (hT.2.2.1 k 11 (hl9 k k1 k2 z hk)).2
  · have q := hlv0 k' i' h'
    by_cases z : k = 29
    · rw [z, hWz] at e; exact hne k' i' q.1 e
    · rw [hWn k 11 (fun q => z q.1)] at e
      have r := hD0 k' i' k 11 q.1 (hl9 k k1 k2 z hk) e
      exact q.2 ⟨by omega, by omega, r.2⟩
  · by_cases z : k = 29
    · by_cases z2 : k' = 29
      · rw [z, z2]
      · rw [z, hWz, hWn k' 11 (fun q => z2 q.1)] at e
        exact absurd e.symm (hne k' 11 (hl9 k' b1 b2 z2 (fun q => h30 (Or.inr q))))
    · by_cases z2 : k' = 29
      · rw [z2, hWz, hWn k 11 (fun q => z q.1)] at e
        exact absurd e (hne k 11 (hl9 k a1 a2 z (fun q => h30 (Or.inl q))))
      · rw [hWn k 11 (fun q => z q.1), hWn k' 11 (fun q => z2 q.1)] at e
        exact (hD0 k 11 k' 11 (hl9 k a1 a2 z (fun q => h30 (Or.inl q))) (hl9 k' b1 b2 z2 (fun q => h30 (Or.inr q))) e).1
theorem cw_T.fm30 {y cd : Nat} {f : Nat → Int32} (hT : cw_T G K g0 W g C) (hA : ∀ a, a < sp_A C → (C.1 63 a).toNatClampNeg < sp_P C) (h133 : C.1 133 0 = 1) (hy : g y = some (.inl (G.2.2.2 0, cd, .inl f))) (hcd : cd ≤ 300) (hne : ∀ k i, cw_lv C k i → W k i ≠ y) (hK : ¬ K y) : cw_T G K g0 (cw_wf W 30 y) (ev_up g (W 28 11) (.inr (5, [.int (C.1 36 11), .ref (W 29 11), .ref y, .int (C.1 100 11), .ref (W 31 11), .ref (W 32 11), .int (C.1 103 11), .int (C.1 104 11), .int (C.1 105 11), .int (C.1 106 11), .int (C.1 107 11), .int (C.1 108 11), .int (C.1 109 11)]))) (od_fm30 C cd f) := by
  have hD0 := hT.2.2.2
  have h28 : cw_lv C 28 11 := Or.inr (Or.inr ⟨rfl, h133⟩)
  have h29 : cw_lv C 29 11 := Or.inr (Or.inr ⟨rfl, h133⟩)
  have hWn : ∀ k i, ¬ (k = 30 ∧ i = 11) → cw_wf W 30 y k i = W k i := fun k i h => if_neg h
  have hWz : cw_wf W 30 y 30 11 = y := if_pos ⟨rfl, rfl⟩
  have hW28 : cw_wf W 30 y 28 11 = W 28 11 := hWn 28 11 (fun q => absurd q.1 (by decide))
  have eL : (od_fm30 C cd f).1 113 11 = nI cd := od_fm30_L
  have eF : ∀ j, j < cd → (od_fm30 C cd f).1 114 (300 * 11 + j) = f j := fun j hj => od_fm30_F (by omega)
  have hgo : ∀ b, b ≠ W 28 11 → (ev_up g (W 28 11) (.inr (5, [.int (C.1 36 11), .ref (W 29 11), .ref y, .int (C.1 100 11), .ref (W 31 11), .ref (W 32 11), .int (C.1 103 11), .int (C.1 104 11), .int (C.1 105 11), .int (C.1 106 11), .int (C.1 107 11), .int (C.1 108 11), .int (C.1 109 11)]))) b = g b := fun b hb => ev_up_n _ _ hb
  have hlv0 : ∀ k i, cw_lv (mo_up C 133 0 0) k i → cw_lv C k i ∧ ¬ (28 ≤ k ∧ k ≤ 32 ∧ i = 11) := fun k i h => by
    have hB := (hT.drop hA).B
    have hn := od_lv0 hB (by rw [mo_up_at, pk_us]) h
    rcases od_lv (C2 := mo_up C 133 0 0) (C := C) ⟨fun f x _ h => cw_up_at (fun q => h q), rfl⟩ h with q | q
    · exact absurd ⟨q.1, q.2.1, q.2.2.1⟩ hn
    · exact ⟨q, hn⟩
  have e110 : (od_fm30 C cd f).1 110 11 = 1 := od_fm30_1
  have hl9 : ∀ k, 28 ≤ k → k ≤ 32 → ¬ k = 30 → (k = 30 → ¬ (od_fm30 C cd f).1 110 11 = 0) → cw_lv C k 11 := fun k k1 k2 kz k3 => by
    obtain rfl | rfl | rfl | rfl | rfl : k = 28 ∨ k = 29 ∨ k = 30 ∨ k = 31 ∨ k = 32 := by omega
    · exact h28
    · exact h29
    · exact absurd rfl kz
    · exact h29
    · exact h29
  refine (hT.drop hA).mk (by rw [mo_up_at, pk_us]) hA ⟨fun k x h1 h2 => ?_, rfl⟩ ?_ ?_ (fun k i h => hWn k i (fun q => h ⟨by omega, by omega, q.2⟩)) (fun a ha => hgo a (fun q => (hT.2.2.1 28 11 h28).2 (q ▸ ha))) (fun k i h => hgo _ (fun e => ?_)) (fun k k1 k2 hk => ⟨?_, ?_, fun k' i' h' e => ?_⟩) (fun k k' a1 a2 b1 b2 h30 e => ?_)
  · rw [cw_up_at (fun q => h2 ⟨q.1, q.2⟩)]
    exact od_fm30_ne (fun q => h1 (Or.inr (Or.inr ⟨by omega, q.2⟩))) (fun q => h1 (Or.inl ⟨by omega, q.2⟩)) (fun q => h1 (Or.inl ⟨by omega, q.2⟩))
  · rw [od_fm30_ne (C := C) (cd := cd) (f := f) (k := 111) (x := 11) (fun q => absurd q.1 (by decide)) (fun q => absurd q.1 (by decide)) (fun q => absurd q.1 (by decide))]; exact (hT.B.2.2.2.2.2.2 11).1
  · rw [eL, nI_clamp (by omega)]; exact hcd
  · have q := hlv0 k i h
    have r := hD0 k i 28 11 q.1 h28 e
    exact q.2 ⟨by omega, by omega, r.2⟩
  · obtain rfl | rfl | rfl | rfl | rfl : k = 28 ∨ k = 29 ∨ k = 30 ∨ k = 31 ∨ k = 32 := by omega
    · refine cw_at_ob (by decide) ob28 ?_
      rw [od_fm30_ne (C := C) (cd := cd) (f := f) (k := 36) (x := 11) (fun q => absurd q.1 (by decide)) (fun q => absurd q.1 (by decide)) (fun q => absurd q.1 (by decide)), od_fm30_ne (C := C) (cd := cd) (f := f) (k := 100) (x := 11) (fun q => absurd q.1 (by decide)) (fun q => absurd q.1 (by decide)) (fun q => absurd q.1 (by decide)), od_fm30_ne (C := C) (cd := cd) (f := f) (k := 103) (x := 11) (fun q => absurd q.1 (by decide)) (fun q => absurd q.1 (by decide)) (fun q => absurd q.1 (by decide)), od_fm30_ne (C := C) (cd := cd) (f := f) (k := 104) (x := 11) (fun q => absurd q.1 (by decide)) (fun q => absurd q.1 (by decide)) (fun q => absurd q.1 (by decide)), od_fm30_ne (C := C) (cd := cd) (f := f) (k := 105) (x := 11) (fun q => absurd q.1 (by decide)) (fun q => absurd q.1 (by decide)) (fun q => absurd q.1 (by decide)), od_fm30_ne (C := C) (cd := cd) (f := f) (k := 106) (x := 11) (fun q => absurd q.1 (by decide)) (fun q => absurd q.1 (by decide)) (fun q => absurd q.1 (by decide)), od_fm30_ne (C := C) (cd := cd) (f := f) (k := 107) (x := 11) (fun q => absurd q.1 (by decide)) (fun q => absurd q.1 (by decide)) (fun q => absurd q.1 (by decide)), od_fm30_ne (C := C) (cd := cd) (f := f) (k := 108) (x := 11) (fun q => absurd q.1 (by decide)) (fun q => absurd q.1 (by decide)) (fun q => absurd q.1 (by decide)), od_fm30_ne (C := C) (cd := cd) (f := f) (k := 109) (x := 11) (fun q => absurd q.1 (by decide)) (fun q => absurd q.1 (by decide)) (fun q => absurd q.1 (by decide)), e110, if_neg (show ¬ (1 : Int32) = 0 by decide), hW28, hWn 29 11 (fun q => absurd q.1 (by decide)), hWn 31 11 (fun q => absurd q.1 (by decide)), hWn 32 11 (fun q => absurd q.1 (by decide)), hWz]; exact ev_up_s _ _ _
    · exact cw_at_ar (by decide) ar29 (by rw [hWn 29 11 (fun q => absurd q.1 (by decide))]; exact ((hT.at (k := 29) (i := 11) h29).2.1 _ _ ar29).mv (hgo _ (fun e => absurd (hD0 29 11 28 11 h29 h28 e).1 (by decide))) (by rw [od_fm30_ne (C := C) (cd := cd) (f := f) (k := 111) (x := 11) (fun q => absurd q.1 (by decide)) (fun q => absurd q.1 (by decide)) (fun q => absurd q.1 (by decide))]) (fun j hj => od_fm30_ne (C := C) (cd := cd) (f := f) (k := 112) (x := 300 * 11 + j) (fun q => absurd q.1 (by decide)) (fun q => absurd q.1 (by decide)) (fun q => absurd q.1 (by decide))))
    · exact cw_at_ar (by decide) ar30 ⟨f, by rw [eL, nI_clamp (by omega), hWz, hgo y (hne 28 11 h28).symm]; exact hy, fun j hj => ((eF j (by rw [eL, nI_clamp (by omega)] at hj; exact hj))).symm⟩
    · exact cw_at_ar (by decide) ar31 (by rw [hWn 31 11 (fun q => absurd q.1 (by decide))]; exact ((hT.at (k := 31) (i := 11) h29).2.1 _ _ ar31).mv (hgo _ (fun e => absurd (hD0 31 11 28 11 h29 h28 e).1 (by decide))) rfl (fun j hj => od_fm30_ne (C := C) (cd := cd) (f := f) (k := 101) (x := 3 * 11 + j) (fun q => absurd q.1 (by decide)) (fun q => absurd q.1 (by decide)) (fun q => absurd q.1 (by decide))))
    · exact cw_at_ar (by decide) ar32 (by rw [hWn 32 11 (fun q => absurd q.1 (by decide))]; exact ((hT.at (k := 32) (i := 11) h29).2.1 _ _ ar32).mv (hgo _ (fun e => absurd (hD0 32 11 28 11 h29 h28 e).1 (by decide))) rfl (fun j hj => od_fm30_ne (C := C) (cd := cd) (f := f) (k := 102) (x := 3 * 11 + j) (fun q => absurd q.1 (by decide)) (fun q => absurd q.1 (by decide)) (fun q => absurd q.1 (by decide))))
  · by_cases z : k = 30
    · rw [z, hWz]; exact hK
    · rw [hWn k 11 (fun q => z q.1)]
      exact (hT.2.2.1 k 11 (hl9 k k1 k2 z hk)).2
  · have q := hlv0 k' i' h'
    by_cases z : k = 30
    · rw [z, hWz] at e; exact hne k' i' q.1 e
    · rw [hWn k 11 (fun q => z q.1)] at e
      have r := hD0 k' i' k 11 q.1 (hl9 k k1 k2 z hk) e
      exact q.2 ⟨by omega, by omega, r.2⟩
  · by_cases z : k = 30
    · by_cases z2 : k' = 30
      · rw [z, z2]
      · rw [z, hWz, hWn k' 11 (fun q => z2 q.1)] at e
        exact absurd e.symm (hne k' 11 (hl9 k' b1 b2 z2 (fun q => h30 (Or.inr q))))
    · by_cases z2 : k' = 30
      · rw [z2, hWz, hWn k 11 (fun q => z q.1)] at e
        exact absurd e (hne k 11 (hl9 k a1 a2 z (fun q => h30 (Or.inl q))))
      · rw [hWn k 11 (fun q => z q.1), hWn k' 11 (fun q => z2 q.1)] at e
        exact (hD0 k 11 k' 11 (hl9 k a1 a2 z (fun q => h30 (Or.inl q))) (hl9 k' b1 b2 z2 (fun q => h30 (Or.inr q))) e).1
end CT
end RO
