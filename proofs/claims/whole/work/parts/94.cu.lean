section CU
/-! CLASS AND MODEL between calls: C the class' state, S the model's, OL b the clauses of order b -/
def cl_K : List Nat := [1, 2, 3, 4, 5, 6, 7, 8, 9, 10, 11, 12, 13, 16, 17, 18, 19, 20, 21, 22, 23, 24, 25, 26, 28, 29, 33, 58, 59, 60, 61, 62, 63, 64, 65, 66, 68, 73, 74, 75, 76, 77]
def cl_row (S : mo_S) (m p x : Nat) : Int32 := if S.1 56 (12 * m + p) = 1 then S.1 55 (4 * (12 * m + p) + x) else -2000000000
def cl_S (C S : mo_S) : Prop := (∀ k, k ∈ cl_K → C.1 k = S.1 k) ∧ (∀ p, (¬ S.1 12 p = 2 → C.1 14 p = S.1 14 p ∧ C.1 15 p = S.1 15 p) ∧ (∃ a : Nat, C.1 14 p = nI a ∧ a ≤ 100000) ∧ ∃ a : Nat, C.1 15 p = nI a ∧ a ≤ 100) ∧ (∀ p j, sp_P S ≤ p → j < 8 → S.1 60 (8 * p + j) = 0 ∧ S.1 61 (8 * p + j) = 0) ∧ (∀ j, j < 300 → C.1 115 j = nI (ps_tx S j)) ∧ (C.1 134 0 = S.1 2 0 ∧ C.1 133 0 = 0) ∧ (∀ m p x, m < sp_M S → p < 12 → x < 4 → C.1 126 (48 * m + 4 * p + x) = cl_row S m p x) ∧ ∀ a, a < sp_A S → S.1 67 a = S.1 3 (S.1 63 a).toNatClampNeg
def cl_OL (S : mo_S) (F : mo_Fn) (b : Nat) (l : List od_q) : Prop := l.length ≤ 12 ∧ S.1 37 b = nI l.length ∧ ∀ n q, l[n]? = some q → S.1 38 (12 * b + n) = q.1 ∧ ps_okC q ∧ (¬ (q.1 = 0 ∨ q.1 = 4) → S.1 39 (12 * b + n) = q.2.1) ∧ ((q.1 = 0 ∨ q.1 = 4) → F (12 * b + n) = q.2.2.2.2)
def cl_O (C S : mo_S) (F : mo_Fn) (OL : Nat → List od_q) : Prop := od_S C 10 (fun _ => none) ∧ ∀ b, b < sp_O S → C.1 36 b = S.1 36 b ∧ od_S C b (od_rl 0 (fun _ => none) (OL b)) ∧ cl_OL S F b (OL b)
def cl_R (B : Int) (C S : mo_S) (F : mo_Fn) (OL : Nat → List od_q) : Prop := cl_S C S ∧ cl_O C S F OL ∧ mo_K B S F
section R
variable {B : Int} {C S : mo_S} {F : mo_Fn} {OL : Nat → List od_q}
theorem cl_S.k (h : cl_S C S) (k : Nat) (hk : k ∈ cl_K) : C.1 k = S.1 k := h.1 k hk
theorem cl_S.sz (h : cl_S C S) : sp_P C = sp_P S ∧ sp_R C = sp_R S ∧ sp_O C = sp_O S ∧ sp_A C = sp_A S ∧ sp_M C = sp_M S ∧ sp_W C = sp_W S ∧ sp_Z C = sp_Z S ∧ cw_M C = sp_M S := by
  unfold sp_P sp_R sp_O sp_A sp_M sp_W sp_Z cw_M
  rw [h.k 1 (by decide), h.k 21 (by decide), h.k 29 (by decide), h.k 62 (by decide), h.k 2 (by decide), h.k 24 (by decide), h.k 73 (by decide), h.2.2.2.2.1.1]
  exact ⟨rfl, rfl, rfl, rfl, rfl, rfl, rfl, rfl⟩
/-- the model's other fields -/
theorem cl_S.s (h : cl_S C S) {T : mo_S} (hT : ∀ k, k ∈ cl_K ++ [14, 15, 27, 55, 56, 60, 61, 67] → T.1 k = S.1 k) : cl_S C T := by
  obtain ⟨h1, h2, h3, h4, h5, h6, h7⟩ := h
  have eP : sp_P T = sp_P S := by unfold sp_P; rw [hT 1 (by decide)]
  have eM : sp_M T = sp_M S := by unfold sp_M; rw [hT 2 (by decide)]
  have eX : ps_tx T = ps_tx S := by funext k; unfold ps_tx; rw [hT 27 (by decide)]
  refine ⟨fun k hk => (h1 k hk).trans (hT k (List.mem_append_left _ hk)).symm, fun p => ?_, fun p j hp hj => ?_, fun j hj => by rw [eX]; exact h4 j hj, ⟨by rw [hT 2 (by decide)]; exact h5.1, h5.2⟩, fun m p x hm hp hx => ?_, fun a ha => by rw [hT 67 (by decide), hT 3 (by decide), hT 63 (by decide)]; exact h7 a (by unfold sp_A at ha ⊢; rw [hT 62 (by decide)] at ha; exact ha)⟩
  · rw [hT 12 (by decide), hT 14 (by decide), hT 15 (by decide)]; exact h2 p
  · rw [hT 60 (by decide), hT 61 (by decide)]; exact h3 p j (by rw [← eP]; exact hp) hj
  · unfold cl_row; rw [hT 56 (by decide), hT 55 (by decide)]; exact h6 m p x (by rw [← eM]; exact hm) hp hx
/-- the class' other fields -/
theorem cl_S.c (h : cl_S C S) {T : mo_S} (hT : ∀ k, k ∈ cl_K ++ [14, 15, 60, 61, 115, 126, 133, 134] → T.1 k = C.1 k) : cl_S T S := by
  obtain ⟨h1, h2, h3, h4, h5, h6, h7⟩ := h
  refine ⟨fun k hk => (hT k (List.mem_append_left _ hk)).trans (h1 k hk), fun p => ?_, fun p j hp hj => ?_, fun j hj => by rw [hT 115 (by decide)]; exact h4 j hj, ⟨by rw [hT 134 (by decide)]; exact h5.1, by rw [hT 133 (by decide)]; exact h5.2⟩, fun m p x hm hp hx => ?_, h7⟩
  · rw [hT 14 (by decide), hT 15 (by decide)]; exact h2 p
  · exact h3 p j hp hj
  · rw [hT 126 (by decide)]; exact h6 m p x hm hp hx
/-- a field of both -/
theorem cl_S.up (h : cl_S C S) {k i : Nat} {v : Int32} (hk : k ∈ cl_K ∧ k ∉ [1, 2, 3, 12, 14, 15, 27, 55, 56, 59, 60, 61, 62, 63, 115, 126, 133, 134]) : cl_S (mo_up C k i v) (mo_up S k i v) := by
  obtain ⟨hk, hn⟩ := hk
  simp only [List.mem_cons, List.mem_nil_iff, or_false, not_or] at hn
  obtain ⟨h1, h2, h3, h4, h5, h6, h7⟩ := h
  have eP : sp_P (mo_up S k i v) = sp_P S := by unfold sp_P; rw [mo_up_ne (by omega)]
  have eM : sp_M (mo_up S k i v) = sp_M S := by unfold sp_M; rw [mo_up_ne (by omega)]
  have eX : ps_tx (mo_up S k i v) = ps_tx S := by funext x; unfold ps_tx; rw [mo_up_ne (by omega)]
  refine ⟨fun a ha => ?_, fun p => ?_, fun p j hp hj => ?_, fun j hj => by rw [eX, mo_up_ne (by omega)]; exact h4 j hj, ⟨by rw [mo_up_ne (by omega), mo_up_ne (by omega)]; exact h5.1, by rw [mo_up_ne (by omega)]; exact h5.2⟩, fun m p x hm hp hx => ?_, fun a ha => ?_⟩
  · by_cases e : a = k
    · rw [e, mo_up_at, mo_up_at, h1 k hk]
    · rw [mo_up_ne e, mo_up_ne e]; exact h1 a ha
  · rw [mo_up_ne (by omega), mo_up_ne (by omega), mo_up_ne (by omega), mo_up_ne (by omega), mo_up_ne (by omega)]; exact h2 p
  · rw [mo_up_ne (by omega), mo_up_ne (by omega)]; exact h3 p j (by rw [← eP]; exact hp) hj
  · unfold cl_row; rw [mo_up_ne (by omega), mo_up_ne (by omega), mo_up_ne (by omega)]; exact h6 m p x (by rw [← eM]; exact hm) hp hx
  · have c67 : k ≠ 67 := fun e => by subst e; revert hk; decide
    have eA : sp_A (mo_up S k i v) = sp_A S := by unfold sp_A; rw [mo_up_ne (by omega)]
    rw [mo_up_ne (by omega), mo_up_ne (by omega), mo_up_ne (by omega)]
    exact h7 a (by rw [← eA]; exact ha)
theorem cl_S.u0 (h : cl_S C S) {v : Int32} : cl_S C (mo_up S 0 0 v) := h.s (fun k hk => mo_up_ne (fun e => by subst e; revert hk; decide))
/-- a bid -/
theorem cl_S.bid (h : cl_S C S) {p a b : Nat} (ha : a ≤ 100000) (hb : b ≤ 100) : cl_S (mo_up (mo_up C 14 p (nI a)) 15 p (nI b)) (mo_up (mo_up S 14 p (nI a)) 15 p (nI b)) := by
  obtain ⟨h1, h2, h3, h4, h5, h6, h7⟩ := h
  have n : ∀ (T : mo_S) k, k ≠ 14 → k ≠ 15 → (mo_up (mo_up T 14 p (nI a)) 15 p (nI b)).1 k = T.1 k := fun T k a b => by rw [mo_up_ne b, mo_up_ne a]
  have e14 : ∀ T : mo_S, (mo_up (mo_up T 14 p (nI a)) 15 p (nI b)).1 14 = upd (T.1 14) p (nI a) := fun T => by rw [mo_up_ne (by decide), mo_up_at]
  have e15 : ∀ T : mo_S, (mo_up (mo_up T 14 p (nI a)) 15 p (nI b)).1 15 = upd (T.1 15) p (nI b) := fun T => by rw [mo_up_at, mo_up_ne (by decide)]
  have kn : ∀ k, k ∈ cl_K → k ≠ 14 ∧ k ≠ 15 := by decide
  have eP : sp_P (mo_up (mo_up S 14 p (nI a)) 15 p (nI b)) = sp_P S := by unfold sp_P; rw [n S 1 (by decide) (by decide)]
  have eM : sp_M (mo_up (mo_up S 14 p (nI a)) 15 p (nI b)) = sp_M S := by unfold sp_M; rw [n S 2 (by decide) (by decide)]
  have eX : ps_tx (mo_up (mo_up S 14 p (nI a)) 15 p (nI b)) = ps_tx S := by funext x; unfold ps_tx; rw [n S 27 (by decide) (by decide)]
  refine ⟨fun k hk => by rw [n C k (kn k hk).1 (kn k hk).2, n S k (kn k hk).1 (kn k hk).2]; exact h1 k hk, fun q => ?_, fun q j hq hj => ?_, fun j hj => by rw [eX, n C 115 (by decide) (by decide)]; exact h4 j hj, ⟨by rw [n C 134 (by decide) (by decide), n S 2 (by decide) (by decide)]; exact h5.1, by rw [n C 133 (by decide) (by decide)]; exact h5.2⟩, fun m q x hm hq hx => ?_, fun a ha => by rw [n S 67 (by decide) (by decide), n S 3 (by decide) (by decide), n S 63 (by decide) (by decide)]; exact h7 a (by unfold sp_A at ha ⊢; rw [n S 62 (by decide) (by decide)] at ha; exact ha)⟩
  · rw [e14, e14, e15, e15, n S 12 (by decide) (by decide)]
    by_cases e : q = p
    · rw [e, pk_us, pk_us, pk_us, pk_us]
      exact ⟨fun _ => ⟨rfl, rfl⟩, ⟨a, rfl, ha⟩, ⟨b, rfl, hb⟩⟩
    · rw [pk_un e, pk_un e, pk_un e, pk_un e]
      exact h2 q
  · rw [n S 60 (by decide) (by decide), n S 61 (by decide) (by decide)]; exact h3 q j (by rw [← eP]; exact hq) hj
  · unfold cl_row; rw [n C 126 (by decide) (by decide), n S 56 (by decide) (by decide), n S 55 (by decide) (by decide)]; exact h6 m q x (by rw [← eM]; exact hm) hq hx
theorem cl_O.cg (h : cl_O C S F OL) {T U : mo_S} (hC : ∀ k, k = 36 ∨ (100 ≤ k ∧ k ≤ 114) → T.1 k = C.1 k) (hS : ∀ k, k = 29 ∨ (36 ≤ k ∧ k ≤ 39) → U.1 k = S.1 k) : cl_O T U F OL := by
  have eO : sp_O U = sp_O S := by unfold sp_O; rw [hS 29 (by decide)]
  have a : ∀ i f x, od_at i f x → T.1 f x = C.1 f x := fun i f x q => by rw [hC f (by unfold od_at at q; omega)]
  obtain ⟨h1, h2⟩ := h
  refine ⟨h1.cg (a 10), fun b hb => ?_⟩
  obtain ⟨q1, q2, q3⟩ := h2 b (by rw [← eO]; exact hb)
  refine ⟨by rw [hC 36 (by decide), hS 36 (by decide)]; exact q1, q2.cg (a b), ?_⟩
  unfold cl_OL
  rw [hS 37 (by decide), hS 38 (by decide), hS 39 (by decide)]
  exact q3
theorem cl_O.up (h : cl_O C S F OL) {k i : Nat} {v : Int32} (hk : k < 100 ∧ k ≠ 29 ∧ ¬ (36 ≤ k ∧ k ≤ 39)) : cl_O (mo_up C k i v) (mo_up S k i v) F OL := h.cg (fun a ha => mo_up_ne (by omega)) (fun a ha => mo_up_ne (by omega))
theorem cl_O.s (h : cl_O C S F OL) {U : mo_S} (hS : ∀ k, k = 29 ∨ (36 ≤ k ∧ k ≤ 39) → U.1 k = S.1 k) : cl_O C U F OL := h.cg (fun _ _ => rfl) hS
theorem cl_O.c (h : cl_O C S F OL) {T : mo_S} (hC : ∀ k, k = 36 ∨ (100 ≤ k ∧ k ≤ 114) → T.1 k = C.1 k) : cl_O T S F OL := h.cg hC (fun _ _ => rfl)
theorem cl_R.u0 (h : cl_R B C S F OL) {v : Int32} : cl_R B C (mo_up S 0 0 v) F OL := ⟨h.1.u0, h.2.1.s (fun k hk => mo_up_ne (by omega)), h.2.2.u0⟩
theorem cl_R.le (h : cl_R B C S F OL) {B2 : Int} (hB : B ≤ B2) : cl_R B2 C S F OL := ⟨h.1, h.2.1, h.2.2.le hB⟩
theorem cl_R.x (h : cl_R B C S F OL) {T : mo_S} (hx : cx_eqX cw_X T C) : cl_R B T S F OL := by
  have q : ∀ k, k ∈ cl_K ++ [14, 15, 60, 61, 115, 126, 133, 134] → k ∉ cw_X := by decide
  exact ⟨h.1.c (fun k hk => hx k (q k hk)), h.2.1.c (fun k hk => hx k (fun z => by simp only [cw_X, List.mem_cons, List.mem_nil_iff, or_false] at z; omega)), h.2.2⟩
/-- .. one field of both -/
theorem cl_R.up (h : cl_R B C S F OL) {k i : Nat} {v : Int32} (hk : k ∈ cl_K ∧ k ∉ [1, 2, 3, 12, 14, 15, 27, 29, 55, 56, 59, 60, 61, 62, 63, 115, 126, 133, 134]) (hK : mo_K B (mo_up S k i v) F) : cl_R B (mo_up C k i v) (mo_up S k i v) F OL := by
  have q : ∀ k, k ∈ cl_K ∧ k ∉ [1, 2, 3, 12, 14, 15, 27, 29, 55, 56, 59, 60, 61, 62, 63, 115, 126, 133, 134] → (k ∈ cl_K ∧ k ∉ [1, 2, 3, 12, 14, 15, 27, 55, 56, 59, 60, 61, 62, 63, 115, 126, 133, 134]) ∧ (k < 100 ∧ k ≠ 29 ∧ ¬ (36 ≤ k ∧ k ≤ 39)) := fun k hk => by
    obtain ⟨a, b⟩ := hk
    have c : ∀ k, k ∈ cl_K → k < 100 ∧ ¬ (36 ≤ k ∧ k ≤ 39) := by decide
    simp only [List.mem_cons, List.mem_nil_iff, or_false, not_or] at b
    refine ⟨⟨a, ?_⟩, (c k a).1, by omega, (c k a).2⟩
    simp only [List.mem_cons, List.mem_nil_iff, or_false, not_or]
    omega
  exact ⟨h.1.up (q k hk).1, h.2.1.up (q k hk).2, hK⟩
/-- what the class asks of appeals -/
theorem cl_R.A (h : cl_R B C S F OL) : ∀ a, a < sp_A C → (C.1 63 a).toNatClampNeg < sp_P C := fun a ha => by
  obtain ⟨sP, -, -, sA, -⟩ := h.1.sz
  rw [sA] at ha
  rw [sP, h.1.k 63 (by decide)]
  have h1 := h.2.2.1.2.2.1.2.1 a ha
  have h2 := (h.2.2.1.1.1 63 a (by decide)).1
  have h3 : (0 : Int) ≤ (S.1 63 a).toInt := h2
  show (S.1 63 a).toInt.toNat < _
  omega
theorem cl_R.J (h : cl_R B C S F OL) : mo_J S F := h.2.2.1.1
theorem cl_R.W (h : cl_R B C S F OL) : C.1 24 0 = nI (sp_W C) ∧ sp_W C ≤ 5 := by
  rw [h.1.k 24 (by decide), h.1.sz.2.2.2.2.2.1]
  exact h.J.W
end R
/-- what a call answers: E names the exceptions, in the law's order -/
def cl_st (B : Int) (E : List String) (u : cx_Out) (q : Int32 × mo_S) : Prop := (match u.1 with
  | .inl e => ∃ k, E[k]? = some e ∧ q.2.1 0 0 = nI (k + 1)
  | .inr v => q.2.1 0 0 = 0 ∧ q.1 = v) ∧ ∃ F OL, cl_R (B + 2000) u.2 q.2 F OL
def cl_IO : String := "java/lang/IndexOutOfBoundsException"
def cl_IA : String := "java/lang/IllegalArgumentException"
def cl_IS : String := "java/lang/IllegalStateException"
section ST
variable {B : Int} {C S : mo_S} {F : mo_Fn} {OL : Nat → List od_q} {E : List String}
theorem cl_st.E0 {r : Int32} {e : String} (hE : E[0]? = some e) (h : cl_R B C S F OL) : cl_st B E (.inl e, C) (r, mo_up S 0 0 1) := ⟨⟨0, hE, by show (mo_up S 0 0 1).1 0 0 = _; rw [mo_up_at, pk_us]; rfl⟩, F, OL, h.u0.le (by omega)⟩
theorem cl_st.E1 {r : Int32} {S0 : mo_S} {e : String} (hE : E[1]? = some e) (h : cl_R B C S0 F OL) : cl_st B E (.inl e, C) (r, mo_up S0 0 0 2) := ⟨⟨1, hE, by show (mo_up S0 0 0 2).1 0 0 = _; rw [mo_up_at, pk_us]; rfl⟩, F, OL, h.u0.le (by omega)⟩
theorem cl_st.ok {r : Int32} {T U : mo_S} (h0 : U.1 0 0 = 0) (h : cl_R (B + 2000) T U F OL) : cl_st B E (.inr r, T) (r, U) := ⟨⟨h0, rfl⟩, F, OL, h⟩
theorem cl_st.ok0 {r : Int32} (h : cl_R B C S F OL) : cl_st B E (.inr r, C) (r, mo_up S 0 0 0) := ⟨⟨by show (mo_up S 0 0 0).1 0 0 = _; rw [mo_up_at, pk_us], rfl⟩, F, OL, h.u0.le (by omega)⟩
end ST
theorem mo_b_t : mo_b true = 1 := rfl
theorem mo_b_f : mo_b false = 0 := rfl
theorem cl_10 : ((1 : Int32) = 0) = False := eq_false (by decide)
theorem cl_bt {x : Int32} {S : mo_S} : sp_bad true x S = mo_up S 0 0 x := rfl
theorem cl_bf {x : Int32} {S : mo_S} : sp_bad false x S = S := rfl
theorem cl_00 {S : mo_S} {a b : Int32} : mo_up (mo_up S 0 0 a) 0 0 b = mo_up S 0 0 b := by
  unfold mo_up
  refine Prod.ext ?_ rfl
  funext k i
  by_cases h : k = 0 ∧ i = 0
  · simp [h]
  · simp [h]
end CU
