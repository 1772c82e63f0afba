section DJ
/-- both are admitted and they are not one -/
theorem cl_two {C S : mo_S} (h : cl_S C S) {p q : Nat} (hp : p < 12) (hq : q < 12) : cx_X11_areTwoAdmitted C p q = sp_X12_areTwo S (nI p) (nI q) := by
  unfold cx_X11_areTwoAdmitted cx_X11_isAdmittedAt cx_X5_isAdmitted sp_X12_areTwo
  rw [nI_clamp (by omega), nI_clamp (by omega), h.k 12 (by decide)]
  by_cases e : nI p = nI q
  · rw [if_pos e, if_pos e]
  · rw [if_neg e, if_neg e]
    by_cases a : S.1 12 p = 1
    · simp only [if_pos a, mo_b_t, cl_10, if_false]
      by_cases b : S.1 12 q = 1
      · simp only [if_pos b, mo_b_t, cl_10, if_false]
      · simp only [if_neg b, mo_b_f, if_true]
    · simp only [if_neg a, mo_b_f, if_true]
theorem cl_two_ne {S : mo_S} {p q : Nat} (h : sp_X12_areTwo S (nI p) (nI q) = true) : p ≠ q := fun e => by
  subst e
  unfold sp_X12_areTwo at h
  rw [if_pos rfl] at h
  cases h
section R
variable {C S : mo_S} {F : mo_Fn} {OL : Nat → List od_q}
theorem cl_Q.part2 (h : cl_Q C S F OL) {C2 : mo_S} {p : Nat} {T : mo_S} (hT : sp_eqF T S) (hv : cx_v C2 p (C2.1 6 p) (C2.1 2 0) = sp_X12_named T) (h43 : (0 : Int) ≤ (T.1 43 0).toInt ∧ (T.1 43 0).toInt ≤ 1000000) : cx_part C2 (cl_Pf OL) (cx_now C) p = sp_part T F := by
  unfold cx_part sp_part cl_Pf
  rw [sp_eqF_teller hT, hv]
  obtain ⟨a1, a2⟩ := h.val (x := 0) (Or.inl rfl) (sp_X12_named T)
  cases e : sp_teller S 0 with
  | none =>
    rw [a2 e]
    have e0 : od_F none (sp_X12_named T) = T.1 43 0 := by
      show sp_X12_named T 0 = _
      unfold sp_X12_named
      rw [if_pos rfl]
    rw [e0, cl_bnd (by decide)]
    unfold sp_X12_bounded
    rw [if_pos (Int32.le_iff_toInt_le.mpr (by show (0 : Int) ≤ _; exact h43.1)), if_pos (Int32.le_iff_toInt_le.mpr (by show _ ≤ (1000000 : Int); exact h43.2))]
  | some c =>
    rw [(a1 c e).1, cl_bnd (by decide)]
theorem cl_one_up {C : mo_S} {p q r k : Nat} (hk : k = 4 ∨ k = 5 ∨ k = 10) (h : r ≠ p) : (cx_one C p q).1 k r = C.1 k r := by
  unfold cx_one cx_X5_addSize
  rcases hk with rfl | rfl | rfl
  · rw [mo_up_ne (by decide), mo_up_ne (by decide), mo_up_ne (by decide), mo_up_at, pk_un h]
  · rw [mo_up_ne (by decide), mo_up_ne (by decide), mo_up_at, pk_un h, mo_up_ne (by decide)]
  · rw [mo_up_ne (by decide), mo_up_at, pk_un h, mo_up_ne (by decide), mo_up_ne (by decide)]
theorem cl_one_at {C : mo_S} {p q : Nat} : (cx_one C p q).1 4 p = cj_min (C.1 4 p + C.1 4 q) 100000 ∧ (cx_one C p q).1 5 p = cj_min (C.1 5 p + C.1 5 q) 1000 ∧ (cx_one C p q).1 10 p = C.1 10 p + C.1 10 q := by
  unfold cx_one cx_X5_addSize
  refine ⟨?_, ?_, ?_⟩
  · rw [mo_up_ne (by decide), mo_up_ne (by decide), mo_up_ne (by decide), mo_up_at, pk_us]
  · rw [mo_up_ne (by decide), mo_up_ne (by decide), mo_up_at, pk_us]
  · rw [mo_up_ne (by decide), mo_up_at, pk_us]
theorem cl_one_12 {C : mo_S} {p q : Nat} : (cx_one C p q).1 12 = upd (C.1 12) q 2 := by
  unfold cx_one cx_X5_addSize
  rw [mo_up_at, mo_up_ne (by decide), mo_up_ne (by decide), mo_up_ne (by decide)]
theorem cl_gnI (h : cl_Q C S F OL) {p q r : Nat} (hq : q < 12) (hr : r < 12) : cx_I (cx_one C p q) r = sp_I (sp_gn S p q) r := by
  unfold cx_I sp_I sp_X12_isIn
  rw [nI_clamp (by omega), cl_one_12]
  have e53 : (sp_gn S p q).1 53 0 = nI q := by unfold sp_gn; rw [mo_up_ne (by decide), mo_up_at, pk_us]
  have e12 : (sp_gn S p q).1 12 = S.1 12 := by unfold sp_gn; rw [mo_up_ne (by decide), mo_up_ne (by decide)]
  rw [e53, e12]
  by_cases e : r = q
  · subst e
    rw [pk_us, if_pos rfl]
    split <;> exact decide_eq_false (by decide)
  · rw [pk_un e, if_neg (fun z => e (mo_niinj (by omega) (by omega) z)), h.1.k 12 (by decide)]
    by_cases e : S.1 12 r = 1
    · rw [if_pos e]; exact decide_eq_true e
    · rw [if_neg e]; exact decide_eq_false e
theorem cl_gnE (h : cl_Q C S F OL) {p q r : Nat} (hp : p < 12) (hq : q < 12) (hr : r < 12) : sp_eqF (sp_envW (sp_gn S p q) (nI r)) S ∧ cx_v (cx_one C p q) r ((cx_one C p q).1 6 r) ((cx_one C p q).1 2 0) = sp_X12_named (sp_envW (sp_gn S p q) (nI r)) ∧ (0 : Int) ≤ ((sp_envW (sp_gn S p q) (nI r)).1 43 0).toInt ∧ ((sp_envW (sp_gn S p q) (nI r)).1 43 0).toInt ≤ 1000000 := by
  have hF : sp_eqF (sp_gn S p q) S := sp_eqF_up (by decide) (sp_eqF_up (by decide) (sp_eqF_r S))
  have hn : ∀ k, k ≠ 53 → k ≠ 54 → (sp_gn S p q).1 k = S.1 k := fun k e1 e2 => by unfold sp_gn; rw [mo_up_ne e2, mo_up_ne e1]
  have e53 : (sp_gn S p q).1 53 0 = nI q := by unfold sp_gn; rw [mo_up_ne (by decide), mo_up_at, pk_us]
  have e54 : (sp_gn S p q).1 54 0 = nI p := by unfold sp_gn; rw [mo_up_at, pk_us]
  have hC : ∀ k, k ∈ cl_K → ((sp_gn S p q).1 k = C.1 k) := fun k hk => by rw [hn k (fun e => by subst e; revert hk; decide) (fun e => by subst e; revert hk; decide), h.1.k k hk]
  refine ⟨sp_eqF_t (sp_eqN_F (sp_eqN_envW _ _)) hF, ?_⟩
  have b4 : ∀ r, (0 : Int) ≤ ((sp_gn S p q).1 4 r).toInt ∧ ((sp_gn S p q).1 4 r).toInt ≤ 100000 := fun r => by
    rw [hn 4 (by decide) (by decide)]
    exact h.J.1 4 r (by decide)
  have m54 : (sp_X12_means (sp_gn S p q) (nI r)).1 54 0 = nI p := by
    unfold sp_X12_means
    rw [mo_up_ne (by decide), mo_up_ne (by decide), mo_up_ne (by decide), mo_up_ne (by decide), mo_up_ne (by decide), mo_up_ne (by decide), mo_up_ne (by decide), e54]
  have m53 : (sp_X12_means (sp_gn S p q) (nI r)).1 53 0 = nI q := by
    unfold sp_X12_means
    rw [mo_up_ne (by decide), mo_up_ne (by decide), mo_up_ne (by decide), mo_up_ne (by decide), mo_up_ne (by decide), mo_up_ne (by decide), mo_up_ne (by decide), e53]
  have mk : ∀ k, k < 42 → (sp_X12_means (sp_gn S p q) (nI r)).1 k = (sp_gn S p q).1 k := fun k hk => by
    unfold sp_X12_means
    rw [mo_up_ne (by omega), mo_up_ne (by omega), mo_up_ne (by omega), mo_up_ne (by omega), mo_up_ne (by omega), mo_up_ne (by omega), mo_up_ne (by omega)]
  have m42 : (sp_X12_means (sp_gn S p q) (nI r)).1 42 0 = (sp_gn S p q).1 3 r ∧ (sp_X12_means (sp_gn S p q) (nI r)).1 43 0 = (sp_gn S p q).1 4 r ∧ (sp_X12_means (sp_gn S p q) (nI r)).1 44 0 = (sp_gn S p q).1 5 r ∧ (sp_X12_means (sp_gn S p q) (nI r)).1 45 0 = (sp_gn S p q).1 6 r ∧ (sp_X12_means (sp_gn S p q) (nI r)).1 46 0 = (sp_gn S p q).1 7 r ∧ (sp_X12_means (sp_gn S p q) (nI r)).1 47 0 = (sp_gn S p q).1 10 r ∧ (sp_X12_means (sp_gn S p q) (nI r)).1 48 0 = (sp_gn S p q).1 13 r := by
    unfold sp_X12_means
    rw [nI_clamp (by omega)]
    generalize sp_gn S p q = Z
    simp only [mo_up, Nat.reduceEqDiff, false_and, and_self, if_false, if_true, and_true, reduceIte]
  obtain ⟨n42, n43, n44, n45, n46, n47, n48⟩ := m42
  unfold sp_envW
  rw [m54, m53, nI_clamp (by omega), nI_clamp (by omega), mk 4 (by decide), mk 5 (by decide), mk 10 (by decide)]
  by_cases e : r = p
  · subst e
    rw [if_pos rfl]
    obtain ⟨o4, o5, o10⟩ := cl_one_at (C := C) (p := r) (q := q)
    refine ⟨cl_nam ?_ ?_ ?_ ?_ ?_ ?_ ?_ ?_, ?_⟩
    · rw [mo_up_ne (by decide), mo_up_ne (by decide), mo_up_ne (by decide), n42, hC 3 (by decide), cx_one_ne (by decide) (by decide) (by decide) (by decide)]
    · rw [mo_up_ne (by decide), mo_up_ne (by decide), mo_up_at, pk_us, o4, cj_least, hC 4 (by decide)]
    · rw [mo_up_ne (by decide), mo_up_at, pk_us, o5, cj_least, hC 5 (by decide)]
    · rw [mo_up_ne (by decide), mo_up_ne (by decide), mo_up_ne (by decide), n45, hC 6 (by decide), cx_one_ne (by decide) (by decide) (by decide) (by decide)]
    · rw [mo_up_ne (by decide), mo_up_ne (by decide), mo_up_ne (by decide), n46, hC 7 (by decide), cx_one_ne (by decide) (by decide) (by decide) (by decide)]
    · rw [mo_up_at, pk_us, o10, hC 10 (by decide)]
    · rw [mo_up_ne (by decide), mo_up_ne (by decide), mo_up_ne (by decide), n48, hC 13 (by decide), cx_one_ne (by decide) (by decide) (by decide) (by decide)]
    · rw [mo_up_ne (by decide), mo_up_ne (by decide), mo_up_ne (by decide), mk 2 (by decide), hC 2 (by decide), cx_one_ne (by decide) (by decide) (by decide) (by decide)]
    · rw [mo_up_ne (by decide), mo_up_ne (by decide), mo_up_at, pk_us]
      unfold sp_least
      have b1 := b4 r
      have b2 := b4 q
      split
      · rw [Int32.toInt_add, Int.bmod_eq_of_le (by omega) (by omega)]
        omega
      · decide
  · rw [if_neg (fun z => e (mo_niinj (by omega) (by omega) z))]
    refine ⟨cl_nam ?_ ?_ ?_ ?_ ?_ ?_ ?_ ?_, ?_⟩
    · rw [n42, hC 3 (by decide), cx_one_ne (by decide) (by decide) (by decide) (by decide)]
    · rw [n43, hC 4 (by decide), cl_one_up (by decide) e]
    · rw [n44, hC 5 (by decide), cl_one_up (by decide) e]
    · rw [n45, hC 6 (by decide), cx_one_ne (by decide) (by decide) (by decide) (by decide)]
    · rw [n46, hC 7 (by decide), cx_one_ne (by decide) (by decide) (by decide) (by decide)]
    · rw [n47, hC 10 (by decide), cl_one_up (by decide) e]
    · rw [n48, hC 13 (by decide), cx_one_ne (by decide) (by decide) (by decide) (by decide)]
    · rw [mk 2 (by decide), hC 2 (by decide), cx_one_ne (by decide) (by decide) (by decide) (by decide)]
    · rw [n43]
      have := b4 r
      omega
/-- the shares behind the merger -/
theorem cl_gnS (h : cl_Q C S F OL) {p q : Nat} (hp : p < sp_P S) (hq : q < sp_P S) {x : Int32} (hx : x = 0 ∨ 0 < x) : cx_sh (cx_one C p q) (cl_w (cx_one C p q) OL (cx_now C) x) (sp_f S) (sp_L S) (cx_now C) x p = sp_shN (sp_gn S p q) F x p := by
  have hP := h.J.P.2
  have hF : sp_eqF (sp_gn S p q) S := sp_eqF_up (by decide) (sp_eqF_up (by decide) (sp_eqF_r S))
  have hn : ∀ k, k ≠ 53 → k ≠ 54 → (sp_gn S p q).1 k = S.1 k := fun k e1 e2 => by unfold sp_gn; rw [mo_up_ne e2, mo_up_ne e1]
  have eP : sp_P (sp_gn S p q) = sp_P S := sp_P_cg (hn 1 (by decide) (by decide))
  have e1 : sp_P (cx_one C p q) = sp_P S := by rw [sp_P_cg (cx_one_ne (by decide) (by decide) (by decide) (by decide)), h.1.sz.1]
  have eR : sp_R (sp_gn S p q) = sp_R S := sp_R_cg (hn 21 (by decide) (by decide))
  have eL : sp_L (sp_gn S p q) = sp_L S := by unfold sp_L; rw [eR, sp_pool_cg (hn 22 (by decide) (by decide)) (hn 23 (by decide) (by decide))]
  have ef : sp_f (sp_gn S p q) = sp_f S := by unfold sp_f; rw [sp_eqF_much hF]
  unfold cx_sh sp_shN sp_sh
  rw [e1, eP, eL, ef, sp_eqF_much hF, cx_one_ne (k := 14) (by decide) (by decide) (by decide) (by decide), cx_one_ne (k := 15) (by decide) (by decide) (by decide) (by decide), cx_one_ne (k := 108) (by decide) (by decide) (by decide) (by decide), hn 14 (by decide) (by decide), hn 15 (by decide) (by decide)]
  by_cases e : x = 3
  · rw [if_pos e, if_pos e, pt_bA_c2 (fun r hr => ⟨cl_gnI h (by omega) (by omega), fun hi => (h.1.2.1 r).1 (fun z => ?_)⟩)]
    unfold cx_I at hi
    rw [cl_one_12] at hi
    by_cases e : r = q
    · rw [e, pk_us] at hi
      exact absurd hi (by decide)
    · rw [pk_un e, h.1.k 12 (by decide), z] at hi
      exact absurd hi (by decide)
  · rw [if_neg e, if_neg e, h.keep]
    have ek : decide ((1 : Int32) - sp_X12_much S 10 = 0) = decide (sp_X12_much S 10 = 1) := by
      by_cases z : sp_X12_much S 10 = 1
      · rw [z]; rfl
      · rw [decide_eq_false z]
        refine decide_eq_false (fun y => z ?_)
        have := congrArg (fun q => q + sp_X12_much S 10) y
        rw [Int32.sub_add_cancel, Int32.zero_add] at this
        exact this.symm
    rw [ek, pt_share_cg hp (fun j hj => cl_gnI h (p := p) (q := q) (r := j) (by omega) (by omega)) (v := sp_w (sp_gn S p q) F x) (fun j hj => ?_)]
    unfold cl_w sp_w
    rw [cl_gnI h (by omega) (by omega)]
    have ew : cx_weight (cx_one C p q) (cl_Pf OL) (cx_now C) j x = sp_weight (sp_gn S p q) F (nI j) x := by
      unfold cx_weight sp_weight
      rw [nI_clamp (by omega)]
      by_cases e : x = 0
      · rw [if_pos e, if_pos (by rw [e]; decide)]
        obtain ⟨m1, m2, m3⟩ := cl_gnE h (p := p) (q := q) (r := j) (by omega) (by omega) (by omega)
        exact h.part2 m1 m2 m3
      · have hx := hx.resolve_left e
        rw [if_neg e, if_neg (Int32.not_le.mpr hx), hn 8 (by decide) (by decide), cx_one_ne (k := 8) (by decide) (by decide) (by decide) (by decide), h.1.k 8 (by decide)]
    rw [ew]
end R
theorem cl_gainq {B : Int} {C S : mo_S} {F : mo_Fn} {OL : Nat → List od_q} (h : cl_R B C S F OL) (x1 x2 : Int32) {r : Option Value} {S2 : mo_S} (hq : (r = some (.int 0) ∧ ∃ k : Int32, ((k = 1 ∧ (sp_in x1 0 (S.1 1 0 - 1) && sp_in x2 0 (S.1 1 0 - 1)) = false)) ∧ S2 = mo_up S 0 0 k) ∨ ((sp_in x1 0 (S.1 1 0 - 1) && sp_in x2 0 (S.1 1 0 - 1)) = true ∧ (∃ p q, x1 = nI p ∧ x2 = nI q ∧ p < sp_P S ∧ q < sp_P S ∧ sp_eqM S2 (mo_up S 0 0 0) ∧ r = some (.int (sp_gain (mo_up S 0 0 0) F p q))))) : ∃ v : Int32, r = some (.int v) ∧ cl_st B [cl_IO] (cx_X11_gain C (cl_w C OL (cx_now C) (C.1 109 (cx_now C))) (cl_w (cx_one C x1.toNatClampNeg x2.toNatClampNeg) OL (cx_now C) (C.1 109 (cx_now C))) (sp_f (mo_up S 0 0 0)) (sp_L (mo_up S 0 0 0)) x1 x2) (v, S2) := by
  unfold cx_X11_gain
  rw [h.1.k 1 (by decide)]
  rcases hq with ⟨e, k, ⟨rfl, a⟩, rfl⟩ | ⟨a, p, q, rfl, rfl, hp, hq, hM, e⟩
  · refine ⟨0, e, ?_⟩
    cases b1 : sp_in x1 0 (S.1 1 0 - 1)
    · simp only [mo_b_t, mo_b_f, cl_10, eq_self, Bool.false_eq_true, Bool.not_true, Bool.not_false, if_true, if_false, cl_bt, cl_bf, Bool.true_and, Bool.false_and]
      exact cl_st.E0 rfl h
    · rw [b1, Bool.true_and] at a
      simp only [a, mo_b_t, mo_b_f, cl_10, eq_self, Bool.false_eq_true, Bool.not_true, Bool.not_false, if_true, if_false, cl_bt, cl_bf, Bool.true_and, Bool.false_and]
      exact cl_st.E0 rfl h
  · refine ⟨_, e, ?_⟩
    have hP := h.J.P.2
    obtain ⟨a1, a2⟩ := (Bool.and_eq_true _ _).mp a |> fun z => (⟨z.1, z.2⟩ : _ ∧ _)
    have h0 := h.u0 (v := 0)
    have hS2 : ∀ v : Int32, cl_st B [cl_IO] (.inr v, C) (v, S2) := fun v => by
      have hh := h0.s (T := S2) (fun k hk => hM k (by omega))
      refine cl_st.ok (F := F) (OL := OL) ?_ (hh.le (by omega))
      rw [hM 0 (by omega), mo_up_at, pk_us]
    have zP : sp_P (mo_up S 0 0 0) = sp_P S := kl_P (by decide)
    rw [if_pos a1, if_pos a2, nI_clamp (by omega), nI_clamp (by omega), cl_two h0.1 (by omega) (by omega)]
    unfold sp_gain
    generalize hZ : mo_up S 0 0 0 = Z at h0 zP
    rw [← zP] at hp hq
    have e109 : C.1 109 (cx_now C) = sp_X12_much Z 11 := h0.vl (x := 11) (by omega) (by omega) (by omega)
    obtain ⟨f, f3, ef⟩ := h0.J.way
    have hx : sp_X12_much Z 11 = 0 ∨ 0 < sp_X12_much Z 11 := by
      rw [ef]
      by_cases f0 : f = 0
      · exact Or.inl (by rw [f0]; rfl)
      · exact Or.inr (nI_lt (a := 0) (by omega) (by omega))
    rw [e109]
    cases t : sp_X12_areTwo Z (nI p) (nI q)
    · rw [if_pos rfl]
      simp only [mo_b_f, if_true]
      exact hS2 _
    · rw [if_neg (by decide : ¬ mo_b true = 0), if_neg (by decide : ¬ true = false), cl_gnS h0.q hp hq hx, h0.q.sh hp hx, h0.q.sh hq hx]
      exact hS2 _
end DJ
