section DH
/-! partings go by what they see -/
theorem pt_lf_cg {f L : Nat} {I J : Nat → Bool} : ∀ n, (∀ j, j < n → I j = J j) → pt_lf f I L n = pt_lf f J L n
  | 0, _ => rfl
  | n + 1, h => by simp only [pt_lf]; rw [pt_lf_cg n (fun j hj => h j (by omega)), h n (by omega)]
theorem pt_s_cg {f L p : Nat} {I J : Nat → Bool} (h : ∀ j, j ≤ p → I j = J j) : pt_s f I L p = pt_s f J L p := by
  unfold pt_s
  rw [pt_lf_cg p (fun j hj => h j (by omega)), h p (Nat.le_refl _)]
theorem pt_top_in {R : Nat → Option Nat} : ∀ {n b : Nat}, pt_top R n = some b → b < n
  | 0, b, h => by cases h
  | n + 1, b, h => by
    unfold pt_top at h
    cases e : R n with
    | none => rw [e] at h; have := pt_top_in h; omega
    | some x =>
      rw [e] at h
      cases e2 : pt_top R n with
      | none => rw [e2] at h; cases h; omega
      | some c =>
        rw [e2] at h
        dsimp only at h
        have := pt_top_in e2
        split at h <;> cases h <;> omega
theorem pt_top_cg {R Q : Nat → Option Nat} : ∀ n, (∀ j, j < n → R j = Q j) → pt_top R n = pt_top Q n
  | 0, _ => rfl
  | n + 1, h => by
    simp only [pt_top]
    rw [pt_top_cg n (fun j hj => h j (by omega)), h n (by omega)]
    cases Q n with
    | none => rfl
    | some x =>
      cases e2 : pt_top Q n with
      | none => rfl
      | some c => 
        have := pt_top_in e2
        dsimp only
        rw [h c (by omega)]
theorem pt_giv_cg {P : Nat} {sh th : Nat → Nat} {R Q : Nat → Option Nat} (h1 : ∀ j, j < P → sh j = th j) (h2 : ∀ j, j < P → R j = Q j) : ∀ k, (∀ j, j < P → (pt_giv P sh R k).1 j = (pt_giv P th Q k).1 j) ∧ ∀ j, j < P → (pt_giv P sh R k).2 j = (pt_giv P th Q k).2 j
  | 0 => ⟨h1, h2⟩
  | k + 1 => by
    obtain ⟨i1, i2⟩ := pt_giv_cg h1 h2 k
    simp only [pt_giv]
    rw [pt_top_cg P i2]
    cases pt_top (pt_giv P th Q k).2 P with
    | none => exact ⟨i1, i2⟩
    | some b =>
      dsimp only
      refine ⟨fun j hj => ?_, fun j hj => ?_⟩
      · rw [i1 j hj]
      · unfold pt_off; rw [i2 j hj]
theorem pt_share_cg {f P L p : Nat} {m : Bool} {I J : Nat → Bool} {u v : Nat → Nat} (hp : p < P) (h1 : ∀ j, j < P → I j = J j) (h2 : ∀ j, j < P → u j = v j) : pt_share f m I u P L p = pt_share f m J v P L p := by
  have a1 : pt_sm u P = pt_sm v P := pt_sm_cong h2
  have a2 : pt_lf f I L P = pt_lf f J L P := pt_lf_cg P h1
  have a3 : ∀ j, j < P → pt_s f I L j = pt_s f J L j := fun j hj => pt_s_cg (fun i hi => h1 i (by omega))
  have a4 : ∀ A B j, j < P → pt_q A B u j = pt_q A B v j := fun A B j hj => by unfold pt_q; rw [h2 j hj]
  have a5 : ∀ A B j, j < P → pt_R A B u j = pt_R A B v j := fun A B j hj => by unfold pt_R pt_r; rw [h2 j hj]
  have a6 : ∀ A B, pt_ov A B u P = pt_ov A B v P := fun A B => by unfold pt_ov; rw [pt_sm_cong (fun j hj => a4 A B j hj)]
  unfold pt_share
  rw [a1, a2, a3 p hp, a4 _ _ p hp, a6, (pt_giv_cg (P := P) (fun j hj => by rw [a3 j hj, a4 _ _ j hj]) (a5 _ _) _).1 p hp]
theorem pt_b1_c2 {I J : Nat → Bool} {K K2 C C2 : Nat → Int32} {v : Int32} {r : Int32 × (Nat → Int32)} : ∀ n, (∀ p, p < n → I p = J p ∧ (I p = true → K p = K2 p ∧ C p = C2 p)) → pt_b1 I K C v r n = pt_b1 J K2 C2 v r n
  | 0, _ => rfl
  | n + 1, h => by
    simp only [pt_b1]
    rw [pt_b1_c2 n (fun p hp => h p (by omega))]
    obtain ⟨a, b⟩ := h n (by omega)
    by_cases e : I n = true
    · obtain ⟨b1, b2⟩ := b e
      rw [a, b1, b2]
    · rw [if_neg (fun q => e q.1), if_neg (fun q => e (by rw [a]; exact q.1))]
theorem pt_bA_c2 {I J : Nat → Bool} {K K2 C C2 : Nat → Int32} {L : Int32} {P : Nat} (h : ∀ p, p < P → I p = J p ∧ (I p = true → K p = K2 p ∧ C p = C2 p)) : ∀ n, pt_bA I K C L P n = pt_bA J K2 C2 L P n
  | 0 => rfl
  | n + 1 => by simp only [pt_bA]; rw [pt_bA_c2 h n, pt_b1_c2 P h]
theorem cl_bnd {x a b : Int32} (hab : a ≤ b) : cx_X11_bounded x a b = sp_X12_bounded x a b := by
  unfold cx_X11_bounded sp_X12_bounded cj_max cj_min
  by_cases c1 : a ≤ x
  · rw [if_pos c1]
    by_cases c2 : x ≤ b
    · rw [if_pos c2, if_neg (Int32.not_lt.mpr c2)]
      by_cases c3 : a < x
      · rw [if_pos c3]
      · rw [if_neg c3, Int32.le_antisymm c1 (Int32.not_lt.mp c3)]
    · rw [if_neg c2, if_pos (Int32.not_le.mp c2)]
      by_cases c3 : a < b
      · rw [if_pos c3]
      · rw [if_neg c3, Int32.le_antisymm hab (Int32.not_lt.mp c3)]
  · have c1' := Int32.not_le.mp c1
    rw [if_neg c1]
    have c2 : x ≤ b := Int32.le_iff_toInt_le.mpr (by have := Int32.lt_iff_toInt_lt.mp c1'; have := Int32.le_iff_toInt_le.mp hab; omega)
    rw [if_neg (Int32.not_lt.mpr c2), if_neg (Int32.not_lt.mpr (Int32.le_iff_toInt_le.mpr (by have := Int32.lt_iff_toInt_lt.mp c1'; omega)))]
theorem cl_m1 {n k c : Int32} (hc : -1 - k = c) : (-1 - n = c) ↔ n = k := by
  refine ⟨fun e => ?_, fun e => by rw [e]; exact hc⟩
  rw [← cx_m1 n, e, ← hc, cx_m1]
/-- the named values -/
theorem cl_nam {C T : mo_S} {p : Nat} {g m : Int32} (h42 : T.1 42 0 = C.1 3 p) (h43 : T.1 43 0 = C.1 4 p) (h44 : T.1 44 0 = C.1 5 p) (h45 : T.1 45 0 = g) (h46 : T.1 46 0 = C.1 7 p) (h47 : T.1 47 0 = C.1 10 p) (h48 : T.1 48 0 = C.1 13 p) (h2 : T.1 2 0 = m) : cx_v C p g m = sp_X12_named T := by
  funext n
  unfold cx_v cx_X10_named sp_X12_named
  rw [h42, h43, h44, h45, h46, h47, h48, h2]
  by_cases c0 : n = 0
  · subst c0; rfl
  by_cases c1 : n = 1
  · subst c1; rfl
  by_cases c2 : n = 2
  · subst c2; rfl
  by_cases c3 : n = 3
  · subst c3; rfl
  by_cases c4 : n = 4
  · subst c4; rfl
  by_cases c5 : n = 5
  · subst c5; rfl
  by_cases c6 : n = 6
  · subst c6; rfl
  rw [if_neg c0, if_neg c1, if_neg c2, if_neg c3, if_neg c4, if_neg c5, if_neg c6]
  rw [if_neg (fun e => c6 ((cl_m1 (k := 6) (by decide)).mp e)), if_neg (fun e => c5 ((cl_m1 (k := 5) (by decide)).mp e)), if_neg (fun e => c4 ((cl_m1 (k := 4) (by decide)).mp e)), if_neg (fun e => c3 ((cl_m1 (k := 3) (by decide)).mp e)), if_neg (fun e => c2 ((cl_m1 (k := 2) (by decide)).mp e)), if_neg (fun e => c1 ((cl_m1 (k := 1) (by decide)).mp e)), if_neg (fun e => c0 ((cl_m1 (k := 0) (by decide)).mp e))]
section R
variable {C S : mo_S} {F : mo_Fn} {OL : Nat → List od_q}
/-- the value of a formula that is told -/
theorem cl_Q.val (h : cl_Q C S F OL) {x : Int32} (hx : x = 0 ∨ x = 4) (v : Int32 → Int32) : (∀ c, sp_teller S x = some c → od_F (od_of OL (cx_now C) x) v = F c v ∧ (od_of OL (cx_now C) x).isSome = true) ∧ (sp_teller S x = none → od_of OL (cx_now C) x = none) := by
  obtain ⟨a1, a2⟩ := h.tel x
  refine ⟨fun c e => ?_, a1⟩
  obtain ⟨j, q, b1, b2, b3, b4, b5, b6⟩ := a2 c e
  have r := ((h.2.1.2 _ b3).2.2.2.2 j q b4).2.2.2 (by rw [b5]; exact hx)
  rw [b6, b1, r]
  exact ⟨rfl, rfl⟩
theorem cl_Q.part (h : cl_Q C S F OL) {p : Nat} {T : mo_S} (hT : sp_eqF T S) (hv : cx_v C p (C.1 6 p) (C.1 2 0) = sp_X12_named T) (h43 : T.1 43 0 = C.1 4 p) : cx_part C (cl_Pf OL) (cx_now C) p = sp_part T F := by
  unfold cx_part sp_part cl_Pf
  rw [sp_eqF_teller hT, hv]
  obtain ⟨a1, a2⟩ := h.val (x := 0) (Or.inl rfl) (sp_X12_named T)
  cases e : sp_teller S 0 with
  | none =>
    rw [a2 e]
    have e0 : od_F none (sp_X12_named T) = T.1 43 0 := by
      show sp_X12_named T 0 = _
      unfold sp_X12_named
      rw [if_pos rfl]
    rw [e0, cl_bnd (by decide)]
    have r := h.J.1 4 p (by decide)
    have r1 : (0 : Int) ≤ (S.1 4 p).toInt := r.1
    have r2 : (S.1 4 p).toInt ≤ 100000 := r.2
    rw [h43, h.1.k 4 (by decide)]
    unfold sp_X12_bounded
    rw [if_pos (Int32.le_iff_toInt_le.mpr (by show (0 : Int) ≤ _; exact r1)), if_pos (Int32.le_iff_toInt_le.mpr (by show _ ≤ (1000000 : Int); omega))]
  | some c =>
    rw [(a1 c e).1, cl_bnd (by decide)]
theorem cl_Q.prc (h : cl_Q C S F OL) {p : Nat} {g : Int32} {T : mo_S} (hT : sp_eqF T S) (hv : cx_v C p g (C.1 2 0) = sp_X12_named T) : cx_price C (cl_Qf OL) (cx_now C) p g = sp_price T F := by
  unfold cx_price sp_price cl_Qf
  rw [sp_eqF_teller hT, hv]
  obtain ⟨a1, a2⟩ := h.val (x := 4) (Or.inr rfl) (sp_X12_named T)
  have h110 := ((h.nS 4 (by omega)).2.2.1 rfl).1
  rw [show nI 4 = (4 : Int32) from rfl] at h110
  cases e : sp_teller S 4 with
  | none =>
    rw [a2 e] at h110
    rw [if_pos (by rw [h110]; rfl)]
  | some c =>
    rw [(a1 c e).2] at h110
    rw [if_neg (by rw [h110]; decide), (a1 c e).1, cl_bnd (by decide)]
theorem cl_Q.means (h : cl_Q C S F OL) {p : Nat} (hp : p < 2147483648) (g : Int32) : sp_eqF (mo_up (sp_X12_means S (nI p)) 45 0 g) S ∧ cx_v C p g (C.1 2 0) = sp_X12_named (mo_up (sp_X12_means S (nI p)) 45 0 g) ∧ (mo_up (sp_X12_means S (nI p)) 45 0 g).1 43 0 = C.1 4 p ∧ mo_up (sp_X12_means S (nI p)) 45 0 (S.1 6 p) = sp_X12_means S (nI p) := by
  unfold sp_X12_means
  rw [nI_clamp hp]
  refine ⟨sp_eqF_up (by decide) (sp_eqF_up (by decide) (sp_eqF_up (by decide) (sp_eqF_up (by decide) (sp_eqF_up (by decide) (sp_eqF_up (by decide) (sp_eqF_up (by decide) (sp_eqF_up (by decide) (sp_eqF_r S)))))))), cl_nam ?_ ?_ ?_ ?_ ?_ ?_ ?_ ?_, ?_, ?_⟩
  · rw [mo_up_ne (by decide), mo_up_ne (by decide), mo_up_ne (by decide), mo_up_ne (by decide), mo_up_ne (by decide), mo_up_ne (by decide), mo_up_ne (by decide), mo_up_at, pk_us, h.1.k 3 (by decide)]
  · rw [mo_up_ne (by decide), mo_up_ne (by decide), mo_up_ne (by decide), mo_up_ne (by decide), mo_up_ne (by decide), mo_up_ne (by decide), mo_up_at, pk_us, h.1.k 4 (by decide)]
  · rw [mo_up_ne (by decide), mo_up_ne (by decide), mo_up_ne (by decide), mo_up_ne (by decide), mo_up_ne (by decide), mo_up_at, pk_us, h.1.k 5 (by decide)]
  · rw [mo_up_at, pk_us]
  · rw [mo_up_ne (by decide), mo_up_ne (by decide), mo_up_ne (by decide), mo_up_at, pk_us, h.1.k 7 (by decide)]
  · rw [mo_up_ne (by decide), mo_up_ne (by decide), mo_up_at, pk_us, h.1.k 10 (by decide)]
  · rw [mo_up_ne (by decide), mo_up_at, pk_us, h.1.k 13 (by decide)]
  · rw [mo_up_ne (by decide), mo_up_ne (by decide), mo_up_ne (by decide), mo_up_ne (by decide), mo_up_ne (by decide), mo_up_ne (by decide), mo_up_ne (by decide), mo_up_ne (by decide), h.1.k 2 (by decide)]
  · rw [mo_up_ne (by decide), mo_up_ne (by decide), mo_up_ne (by decide), mo_up_ne (by decide), mo_up_ne (by decide), mo_up_ne (by decide), mo_up_at, pk_us, h.1.k 4 (by decide)]
  · unfold mo_up
    refine Prod.ext ?_ rfl
    funext k i
    dsimp only
    by_cases e : k = 45 ∧ i = 0
    · rw [if_pos e, if_neg (by omega), if_neg (by omega), if_neg (by omega), if_pos e]
    · rw [if_neg e]
end R
section R
variable {B : Int} {C S : mo_S} {F : mo_Fn} {OL : Nat → List od_q}
abbrev cl_R.part (h : cl_R B C S F OL) {p : Nat} {T : mo_S} (hT : sp_eqF T S) (hv : cx_v C p (C.1 6 p) (C.1 2 0) = sp_X12_named T) (h43 : T.1 43 0 = C.1 4 p) := h.q.part hT hv h43
abbrev cl_R.prc (h : cl_R B C S F OL) {p : Nat} {g : Int32} {T : mo_S} (hT : sp_eqF T S) (hv : cx_v C p g (C.1 2 0) = sp_X12_named T) := h.q.prc hT hv
abbrev cl_R.means (h : cl_R B C S F OL) {p : Nat} (hp : p < 2147483648) (g : Int32) := h.q.means hp g
theorem cl_R.s (h : cl_R B C S F OL) {T : mo_S} (e : sp_eqB T S) : cl_R B C T F OL := by
  have q : ∀ k, k ∈ cl_K ++ [14, 15, 27, 55, 56, 60, 61, 67] → k < 42 ∨ (52 < k ∧ k < 69) ∨ 72 < k := by decide
  exact ⟨h.1.s (fun k hk => e k (q k hk)), h.2.1.s (fun k hk => e k (by omega)), h.2.2.congB e⟩
end R
theorem cl_tellsq {B : Int} {C S : mo_S} {F : mo_Fn} {OL : Nat → List od_q} (h : cl_R B C S F OL) (x1 x2 : Int32) {r : Option Value} {S2 : mo_S} (hq : (r = some (.int 0) ∧ ∃ k : Int32, ((k = 1 ∧ sp_in x1 0 (S.1 1 0 - 1) = false) ∨ (k = 2 ∧ sp_in x1 0 (S.1 1 0 - 1) = true ∧ sp_in x2 0 8 = false)) ∧ S2 = mo_up S 0 0 k) ∨ (sp_in x1 0 (S.1 1 0 - 1) = true ∧ sp_in x2 0 8 = true ∧ (∃ p, x1 = nI p ∧ p < sp_P S ∧ sp_eqM S2 (mo_up S 0 0 0) ∧ r = some (.int (sp_tells (mo_up S 0 0 0) F p x2)))) ) : ∃ v : Int32, r = some (.int v) ∧ cl_st B [cl_IO, cl_IA] (cx_X11_tells C (cl_Pf OL) (cl_Qf OL) x1 x2) (v, S2) := by
  unfold cx_X11_tells
  rw [h.1.k 1 (by decide)]
  simp only [cx_within_in]
  rcases hq with ⟨e, k, hk, rfl⟩ | ⟨a, b, p, rfl, hp, hM, e⟩
  · refine ⟨0, e, ?_⟩
    rcases hk with ⟨rfl, a⟩ | ⟨rfl, a, b⟩
    · simp only [a, mo_b_t, mo_b_f, cl_10, eq_self, Bool.false_eq_true, Bool.not_true, Bool.not_false, if_true, if_false, cl_bt, cl_bf, Bool.true_and, Bool.false_and]
      exact cl_st.E0 rfl h
    · simp only [a, b, mo_b_t, mo_b_f, cl_10, eq_self, Bool.false_eq_true, Bool.not_true, Bool.not_false, if_true, if_false, cl_bt, cl_bf, Bool.true_and, Bool.false_and]
      exact cl_st.E1 rfl h
  · refine ⟨_, e, ?_⟩
    have hP := h.J.P.2
    have h0 := h.u0 (v := 0)
    have hS2 : ∀ v : Int32, cl_st B [cl_IO, cl_IA] (.inr v, C) (v, S2) := fun v => by
      have hh := h0.s (T := S2) (fun k hk => hM k (by omega))
      refine cl_st.ok (F := F) (OL := OL) ?_ (hh.le (by omega))
      rw [hM 0 (by omega), mo_up_at, pk_us]
    have hZ6 : (mo_up S 0 0 0).1 6 p = C.1 6 p := by rw [h0.1.k 6 (by decide)]
    obtain ⟨m1, m2, m3, m4⟩ := h0.means (p := p) (by omega) (C.1 6 p)
    rw [← hZ6, m4] at m1 m2 m3
    simp only [a, b, mo_b_t, mo_b_f, cl_10, eq_self, Bool.false_eq_true, Bool.not_true, Bool.not_false, if_true, if_false, cl_bt, cl_bf, Bool.true_and, Bool.false_and]
    rw [nI_clamp (by omega)]
    have z2 := Int32.le_iff_toInt_le.mp (of_decide_eq_true b).1
    have z3 := Int32.le_iff_toInt_le.mp (of_decide_eq_true b).2
    have z2 : (0 : Int) ≤ x2.toInt := z2
    have z3 : x2.toInt ≤ 8 := z3
    unfold sp_tells
    generalize hZ : mo_up S 0 0 0 = Z at h0 m1 m2 m3 hZ6
    have hz3 := h0.J.N (k := 3) p 2 (by decide)
    by_cases c0 : x2 = 0
    · rw [if_pos c0, if_pos c0, h0.part m1 (by rw [← hZ6]; exact m2) m3]
      exact hS2 _
    rw [if_neg c0, if_neg c0]
    by_cases c1 : x2 = 1
    · rw [if_pos c1, if_pos c1]
      unfold cx_X4_pagesFor
      have ez : Z.1 3 p = S.1 3 p := by rw [← hZ, mo_up_ne (by decide)]
      have hz4 : (S.1 3 p).toNatClampNeg < 3 := by rw [← ez]; omega
      rw [h.1.k 3 (by decide), (h0.pg (k := (S.1 3 p).toNatClampNeg) hz4).1]
      have e3 : nI (S.1 3 p).toNatClampNeg = Z.1 3 p := by
        rw [← ez]
        exact hz3.1.symm
      rw [e3]
      exact hS2 _
    rw [if_neg c1, if_neg c1]
    by_cases c2 : x2 = 2
    · rw [if_pos c2, if_pos c2, ← hZ6, h0.prc m1 m2]
      exact hS2 _
    rw [if_neg c2, if_neg c2]
    by_cases c3 : x2 = 3
    · rw [if_pos c3, if_pos c3, show C.1 103 (cx_now C) = sp_X12_much Z (nI 5) from h0.vl (x := 5) (by omega) (by omega) (by omega), c3]
      exact hS2 _
    rw [if_neg c3, if_neg c3]
    by_cases c4 : x2 = 4
    · rw [if_pos c4, if_pos c4, show C.1 104 (cx_now C) = sp_X12_much Z (nI 6) from h0.vl (x := 6) (by omega) (by omega) (by omega), c4]
      exact hS2 _
    rw [if_neg c4, if_neg c4]
    by_cases c5 : x2 = 5
    · rw [if_pos c5, if_pos c5, show C.1 105 (cx_now C) = sp_X12_much Z (nI 7) from h0.vl (x := 7) (by omega) (by omega) (by omega), c5]
      exact hS2 _
    rw [if_neg c5, if_neg c5]
    by_cases c6 : x2 = 6
    · rw [if_pos c6, if_pos c6, show C.1 106 (cx_now C) = sp_X12_much Z (nI 8) from h0.vl (x := 8) (by omega) (by omega) (by omega), c6]
      exact hS2 _
    rw [if_neg c6, if_neg c6]
    by_cases c7 : x2 = 7
    · rw [if_pos c7, if_pos c7, show C.1 107 (cx_now C) = sp_X12_much Z (nI 9) from h0.vl (x := 9) (by omega) (by omega) (by omega), c7]
      exact hS2 _
    rw [if_neg c7, if_neg c7]
    have c8 : x2 = 8 := by
      refine Int32.toInt_inj.mp ?_
      have n : ∀ k : Int32, x2 ≠ k → x2.toInt ≠ k.toInt := fun k hk e => hk (Int32.toInt_inj.mp e)
      have a0 : x2.toInt ≠ 0 := n 0 c0
      have a1 : x2.toInt ≠ 1 := n 1 c1
      have a2 : x2.toInt ≠ 2 := n 2 c2
      have a3 : x2.toInt ≠ 3 := n 3 c3
      have a4 : x2.toInt ≠ 4 := n 4 c4
      have a5 : x2.toInt ≠ 5 := n 5 c5
      have a6 : x2.toInt ≠ 6 := n 6 c6
      have a7 : x2.toInt ≠ 7 := n 7 c7
      show _ = (8 : Int)
      omega
    rw [if_pos c8, show C.1 109 (cx_now C) = sp_X12_much Z (nI 11) from h0.vl (x := 11) (by omega) (by omega) (by omega)]
    exact hS2 _
end DH
