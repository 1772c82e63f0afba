section DA
theorem cl_ward {B : Int} {C S : mo_S} {F : mo_Fn} {OL : Nat → List od_q} (h : cl_R B C S F OL) (x1 : Int32) : cl_st B [cl_IA] (cx_X11_ward C x1) (sp_X12_ward S x1) := by
  have hK := h.2.2.ward x1
  unfold cx_X11_ward
  unfold sp_X12_ward at hK ⊢
  rw [h.1.sz.2.2.2.2.2.1, h.1.k 24 (by decide)]
  simp only [cx_within_in]
  have hW := h.J.W
  cases a : sp_in x1 0 1000
  · simp only [mo_b_t, mo_b_f, cl_10, eq_self, Bool.false_eq_true, Bool.not_true, Bool.not_false, if_true, if_false, cl_bt, cl_bf, Bool.true_and, Bool.false_and]
    exact ⟨⟨0, rfl, by show (mo_up _ 0 0 1).1 0 0 = _; rw [mo_up_at, pk_us]; rfl⟩, F, OL, h.u0.u0.le (by omega)⟩
  · by_cases c : S.1 24 0 = 5
    · have c2 : ¬ S.1 24 0 < 5 := by rw [c]; decide
      simp only [c, if_neg c2, mo_b_t, mo_b_f, cl_10, eq_self, Bool.false_eq_true, Bool.not_true, Bool.not_false, if_true, if_false, cl_bt, cl_bf, Bool.true_and, Bool.false_and]
      simp only [show ¬ (5 : Int32) < 5 by decide, if_false]
      exact cl_st.ok0 h
    · have c2 : S.1 24 0 < 5 := by
        rw [hW.1] at c ⊢
        have : sp_W S < 5 := by
          rcases Nat.lt_or_ge (sp_W S) 5 with q | q
          · exact q
          · exact absurd (by rw [show sp_W S = 5 by omega]; rfl) c
        exact nI_lt (b := 5) this (by decide)
      simp only [a, c, mo_b_t, mo_b_f, cl_10, eq_self, Bool.false_eq_true, Bool.not_true, Bool.not_false, if_true, if_false, cl_bt, cl_bf, Bool.true_and, Bool.false_and] at hK
      simp only [c, c2, mo_b_t, mo_b_f, cl_10, eq_self, Bool.false_eq_true, Bool.not_true, Bool.not_false, if_true, if_false, cl_bt, cl_bf, Bool.true_and, Bool.false_and]
      refine cl_st.ok (F := F) (OL := OL) (by rw [mo_up_ne (by decide), mo_up_ne (by decide), mo_up_at, pk_us]) ⟨?_, ?_, hK.le (by omega)⟩
      · exact (h.u0.1.up (by decide)).up (by decide)
      · exact (h.u0.2.1.up (by decide)).up (by decide)
/-- less stock -/
theorem mo_K.stk {S : mo_S} {F : mo_Fn} {B : Int} {p : Nat} {v : Int32} (h : mo_K B S F) (hp : p < sp_P S) (hv : 0 ≤ v.toInt ∧ v.toInt ≤ (S.1 10 p).toInt) : mo_K B (mo_up S 10 p v) F := by
  obtain ⟨⟨h1, h2, h3, h4⟩, h5⟩ := h
  have n : ∀ a, a ≠ 10 → (mo_up S 10 p v).1 a = S.1 a := fun a ha => mo_up_ne ha
  refine ⟨⟨h1.upA (by decide), ⟨fun q hq => ?_, ?_, ?_⟩, ?_, ?_⟩, h5.cg (fun a ha => n a (fun e => by subst e; revert ha; decide))⟩
  · rw [kl_P (by decide)] at hq
    rw [mo_up_at, pk_un (by omega), n 8 (by decide), n 9 (by decide), n 11 (by decide), n 12 (by decide), n 13 (by decide), n 14 (by decide), n 15 (by decide), n 16 (by decide), n 18 (by decide), n 59 (by decide)]
    exact h2.1 q hq
  · unfold mo_IZ at h2; unfold sp_P sp_W at h2 ⊢; rw [n 1 (by decide), n 24 (by decide), n 26 (by decide)]; exact h2.2.1
  · unfold mo_IZ at h2; unfold sp_P at h2 ⊢; rw [n 1 (by decide), n 58 (by decide)]; exact h2.2.2
  · unfold mo_IP sp_P sp_R sp_A sp_M sp_O at h3 ⊢
    rw [n 1 (by decide), n 2 (by decide), n 21 (by decide), n 23 (by decide), n 29 (by decide), n 59 (by decide), n 62 (by decide), n 63 (by decide), n 56 (by decide), n 55 (by decide), n 60 (by decide), n 61 (by decide), n 33 (by decide), n 53 (by decide), n 54 (by decide)]
    exact h3
  · obtain ⟨b1, b2, b3⟩ := h4
    refine ⟨fun q => ?_, ?_, by rw [n 11 (by decide)]; unfold sp_M; rw [n 2 (by decide)]; exact b3⟩
    · rw [mo_up_at]
      by_cases e : q = p
      · rw [e, pk_us]; exact hv.1
      · rw [pk_un e]; exact b1 q
    · have e1 : mo_pl (mo_up S 10 p v) (sp_R (mo_up S 10 p v)) = mo_pl S (sp_R S) := by
        unfold mo_pl sp_R
        rw [n 21 (by decide), n 22 (by decide), n 23 (by decide)]
      rw [e1]
      refine Int.le_trans (Int.add_le_add_right (mo_sum_le 12 (fun i _ => ?_)) _) b2
      rw [mo_up_at]
      by_cases e : i = p
      · rw [e, pk_us]; exact hv.2
      · rw [pk_un e]; exact Int.le_refl _
theorem cl_steal {B : Int} {C S : mo_S} {F : mo_Fn} {OL : Nat → List od_q} (h : cl_R B C S F OL) (x1 : Int32) : cl_st B [cl_IO] (cx_X11_steal C x1) (sp_X12_steal S x1) := by
  unfold cx_X11_steal sp_X12_steal
  rw [h.1.k 1 (by decide), h.1.k 10 (by decide), h.1.k 21 (by decide), h.1.k 22 (by decide), h.1.k 23 (by decide)]
  have hR := h.J.R
  cases a : sp_in x1 0 (S.1 21 0 - 1)
  · simp only [mo_b_t, mo_b_f, cl_10, eq_self, Bool.false_eq_true, Bool.not_true, Bool.not_false, if_true, if_false, cl_bt, cl_bf, Bool.true_and, Bool.false_and]
    exact cl_st.E0 rfl h
  · simp only [mo_b_t, mo_b_f, cl_10, eq_self, Bool.false_eq_true, Bool.not_true, Bool.not_false, if_true, if_false, cl_bt, cl_bf, Bool.true_and, Bool.false_and]
    obtain ⟨-, p1, e1⟩ := mo_vin (N := 80) hR.1 hR.2 (by decide) a
    have h0 := h.u0 (v := 0)
    have r23 := fun {T : mo_S} {B : Int} (hT : mo_K B T F) (eR : sp_R T = sp_R S) (eP : sp_P T = sp_P S) => hT.r23 (r := x1.toNatClampNeg) (v := -2) (by rw [eR]; exact p1) ⟨by decide, by show (-2 : Int) < _; omega⟩
    by_cases c : S.1 23 x1.toNatClampNeg = -2
    · rw [if_pos c, if_pos c]
      exact cl_st.ok0 h
    · rw [if_neg c, if_neg c]
      by_cases c2 : S.1 23 x1.toNatClampNeg < 0
      · rw [if_pos c2, if_pos c2]
        refine cl_st.ok (F := F) (OL := OL) (by rw [mo_up_ne (by decide), mo_up_at, pk_us]) ⟨h0.1.up (by decide), h0.2.1.up (by decide), r23 h0.2.2 (by unfold sp_R; rw [mo_up_ne (by decide)]) (kl_P (by decide))⟩
      · rw [if_neg c2, if_neg c2]
        have hlt := h.2.2.1.2.2.1.1 x1.toNatClampNeg p1
        obtain ⟨j, hj, ej⟩ := nI_of c2
        rw [ej, nI_toInt hj] at hlt
        have hjP : j < sp_P S := by omega
        rw [ej, nI_clamp hj, if_neg (by rw [h.J.P.1]; exact nI_ge hjP (by have := h.J.P.2; omega))]
        have s10 := h.2.2.1.2.2.2.1 j
        have d22 := (h.J.1 22 x1.toNatClampNeg (by decide))
        have d0 : (0 : Int) ≤ (S.1 22 x1.toNatClampNeg).toInt := d22.1
        have d1 : (S.1 22 x1.toNatClampNeg).toInt ≤ 2000 := d22.2
        have hsub : (S.1 10 j - S.1 22 x1.toNatClampNeg).toInt = (S.1 10 j).toInt - (S.1 22 x1.toNatClampNeg).toInt := by
          have l1 := Int32.toInt_lt (S.1 10 j)
          rw [Int32.toInt_sub]
          exact Int.bmod_eq_of_le (by omega) (by omega)
        have ev : cj_max (S.1 10 j - S.1 22 x1.toNatClampNeg) 0 = if S.1 10 j ≤ S.1 22 x1.toNatClampNeg then 0 else S.1 10 j - S.1 22 x1.toNatClampNeg := by
          unfold cj_max
          by_cases q : S.1 10 j ≤ S.1 22 x1.toNatClampNeg
          · rw [if_pos q]
            have q2 := Int32.le_iff_toInt_le.mp q
            by_cases q3 : S.1 10 j - S.1 22 x1.toNatClampNeg < 0
            · rw [if_pos q3]
            · rw [if_neg q3]
              refine Int32.toInt_inj.mp ?_
              have q4 := Int32.le_iff_toInt_le.mp (Int32.not_lt.mp q3)
              have q5 : (0 : Int) ≤ (S.1 10 j - S.1 22 x1.toNatClampNeg).toInt := q4
              show _ = (0 : Int)
              omega
          · rw [if_neg q]
            have q2 : ¬ (S.1 10 j).toInt ≤ (S.1 22 x1.toNatClampNeg).toInt := fun z => q (Int32.le_iff_toInt_le.mpr z)
            rw [if_neg (fun q3 => by
              have q4 := Int32.lt_iff_toInt_lt.mp q3
              have q5 : (S.1 10 j - S.1 22 x1.toNatClampNeg).toInt < 0 := q4
              omega)]
        rw [ev]
        generalize hv : (if S.1 10 j ≤ S.1 22 x1.toNatClampNeg then (0 : Int32) else S.1 10 j - S.1 22 x1.toNatClampNeg) = v
        have hvb : 0 ≤ v.toInt ∧ v.toInt ≤ (S.1 10 j).toInt := by
          rw [← hv]
          by_cases q : S.1 10 j ≤ S.1 22 x1.toNatClampNeg
          · rw [if_pos q]; exact ⟨by decide, s10⟩
          · rw [if_neg q, hsub]
            have q2 : ¬ (S.1 10 j).toInt ≤ (S.1 22 x1.toNatClampNeg).toInt := fun z => q (Int32.le_iff_toInt_le.mpr z)
            omega
        have hk10 : mo_K B (mo_up (mo_up S 0 0 0) 10 j v) F := h0.2.2.stk (by rw [kl_P (by decide)]; exact hjP) ⟨hvb.1, by rw [mo_up_ne (by decide)]; exact hvb.2⟩
        refine cl_st.ok (F := F) (OL := OL) (by rw [mo_up_ne (by decide), mo_up_ne (by decide), mo_up_at, pk_us]) ⟨(h0.1.up (by decide)).up (by decide), (h0.2.1.up (by decide)).up (by decide), r23 hk10 ?_ ?_⟩
        · unfold sp_R; rw [mo_up_ne (by decide), mo_up_ne (by decide)]
        · rw [kl_P (by decide), kl_P (by decide)]
theorem mo_K.pgs {S : mo_S} {F : mo_Fn} {B : Int} {p : Nat} {v : Int32} (h : mo_K B S F) (hp : p < sp_P S) (hv : (2 : Int32).toInt ≤ v.toInt ∧ v.toInt ≤ (64 : Int32).toInt) : mo_K B (mo_up S 6 p v) F := by
  have lo : (2 : Int) ≤ v.toInt := hv.1
  have hi : v.toInt ≤ 64 := hv.2
  have n : ∀ a, a ≠ 6 → (mo_up S 6 p v).1 a = S.1 a := fun a ha => mo_up_ne ha
  obtain ⟨h1, ⟨h2, h3⟩, h4, h5⟩ := h.1.1
  have hq := sp_eqF_up (S := S) (T := S) (k := 6) (i := p) (v := v) (by decide) (sp_eqF_r S)
  refine h.cg ⟨fun j b hj => ?_, ⟨h2.cong hq, ?_⟩, fun q hq => ?_, by rw [n 54 (by decide), n 53 (by decide)]; exact h5⟩ (fun a ha => n a (fun e => by subst e; revert ha; decide))
  · by_cases e : j = 6
    · subst e
      rw [mo_up_at]
      by_cases e2 : b = p
      · rw [e2, pk_us]
        exact ⟨by show (0 : Int) ≤ _; omega, by show _ ≤ (64 : Int); omega⟩
      · rw [pk_un e2]; exact h1 _ b hj
    · rw [n j e]; exact h1 j b hj
  · unfold sp_O at h3 ⊢
    rw [n 29 (by decide), n 37 (by decide), n 38 (by decide), n 39 (by decide)]
    exact h3
  · rw [kl_P (by decide)] at hq
    have r := h4 q hq
    rw [n 7 (by decide), mo_up_at]
    by_cases e2 : q = p
    · rw [e2, pk_us]
      rw [e2] at r
      exact ⟨lo, r.2⟩
    · rw [pk_un e2]; exact r
theorem mo_K.prc {S : mo_S} {F : mo_Fn} {B : Int} {p : Nat} {v : Int32} (h : mo_K B S F) (hp : p < sp_P S) (hv : (1 : Int32).toInt ≤ v.toInt ∧ v.toInt ≤ (100 : Int32).toInt) : mo_K B (mo_up S 7 p v) F := by
  have lo : (1 : Int) ≤ v.toInt := hv.1
  have hi : v.toInt ≤ 100 := hv.2
  have n : ∀ a, a ≠ 7 → (mo_up S 7 p v).1 a = S.1 a := fun a ha => mo_up_ne ha
  obtain ⟨h1, ⟨h2, h3⟩, h4, h5⟩ := h.1.1
  have hq := sp_eqF_up (S := S) (T := S) (k := 7) (i := p) (v := v) (by decide) (sp_eqF_r S)
  refine h.cg ⟨fun j b hj => ?_, ⟨h2.cong hq, ?_⟩, fun q hq => ?_, by rw [n 54 (by decide), n 53 (by decide)]; exact h5⟩ (fun a ha => n a (fun e => by subst e; revert ha; decide))
  · by_cases e : j = 7
    · subst e
      rw [mo_up_at]
      by_cases e2 : b = p
      · rw [e2, pk_us]
        exact ⟨by show (0 : Int) ≤ _; omega, by show _ ≤ (100 : Int); omega⟩
      · rw [pk_un e2]; exact h1 _ b hj
    · rw [n j e]; exact h1 j b hj
  · unfold sp_O at h3 ⊢
    rw [n 29 (by decide), n 37 (by decide), n 38 (by decide), n 39 (by decide)]
    exact h3
  · rw [kl_P (by decide)] at hq
    have r := h4 q hq
    rw [n 6 (by decide), mo_up_at]
    by_cases e2 : q = p
    · rw [e2, pk_us]
      rw [e2] at r
      exact ⟨r.1, lo⟩
    · rw [pk_un e2]; exact r
theorem cl_set {B : Int} {C S : mo_S} {F : mo_Fn} {OL : Nat → List od_q} (h : cl_R B C S F OL) (x1 x2 x3 : Int32) : cl_st B [cl_IO, cl_IA] (cx_X11_set C x1 x2 x3) (sp_X12_set S x1 x2 x3) := by
  unfold cx_X11_set sp_X12_set cx_X11_settable sp_X12_isSet cx_X5_change
  rw [h.1.k 1 (by decide), h.1.k 5 (by decide), h.1.k 6 (by decide), h.1.k 7 (by decide), h.1.k 8 (by decide), h.1.k 12 (by decide)]
  simp only [cx_within_in]
  have hP := h.J.P
  have h0 := h.u0 (v := 0)
  cases a : sp_in x1 0 (S.1 1 0 - 1)
  · simp only [mo_b_t, mo_b_f, cl_10, eq_self, Bool.false_eq_true, Bool.not_true, Bool.not_false, if_true, if_false, cl_bt, cl_bf, Bool.true_and, Bool.false_and]
    exact cl_st.E0 rfl h
  · obtain ⟨-, p1, e1⟩ := mo_vin (N := 12) hP.1 hP.2 (by decide) a
    have fin : ∀ k, k ∈ [5, 6, 7, 8] → mo_K B (mo_up (mo_up S 0 0 0) k x1.toNatClampNeg x3) F → cl_st B [cl_IO, cl_IA] (.inr (S.1 k x1.toNatClampNeg), mo_up C k x1.toNatClampNeg x3) (S.1 k x1.toNatClampNeg, mo_up (mo_up S 0 0 0) k x1.toNatClampNeg x3) := fun k hk hK => by
      have q : ∀ k, k ∈ [5, 6, 7, 8] → (k ∈ cl_K ∧ k ∉ [1, 2, 3, 12, 14, 15, 27, 29, 55, 56, 59, 60, 61, 62, 63, 115, 126, 133, 134]) ∧ (0 : Nat) ≠ k := by decide
      exact cl_st.ok (F := F) (OL := OL) (by rw [mo_up_ne (q k hk).2, mo_up_at, pk_us]) ((h0.up (q k hk).1 hK).le (by omega))
    by_cases c0 : x2 = 0
    · subst c0
      cases b : sp_in x3 0 1000
      · simp only [mo_b_t, mo_b_f, cl_10, eq_self, Bool.false_eq_true, Bool.not_true, Bool.not_false, if_true, if_false, cl_bt, cl_bf, Bool.true_and, Bool.false_and]
        exact cl_st.E1 rfl h.u0
      · simp only [mo_b_t, mo_b_f, cl_10, eq_self, Bool.false_eq_true, Bool.not_true, Bool.not_false, if_true, if_false, cl_bt, cl_bf, Bool.true_and, Bool.false_and]
        by_cases c : S.1 12 x1.toNatClampNeg = 2
        · rw [if_pos c, if_pos c]; exact cl_st.ok0 h
        · rw [if_neg c, if_neg c]
          exact fin 5 (by decide) (h0.2.2.up (by decide) (kl_in b))
    · by_cases c1 : x2 = 1
      · subst c1
        cases b : sp_in x3 2 64
        · simp only [c0, mo_b_t, mo_b_f, cl_10, eq_self, Bool.false_eq_true, Bool.not_true, Bool.not_false, if_true, if_false, cl_bt, cl_bf, Bool.true_and, Bool.false_and]
          exact cl_st.E1 rfl h.u0
        · simp only [c0, mo_b_t, mo_b_f, cl_10, eq_self, Bool.false_eq_true, Bool.not_true, Bool.not_false, if_true, if_false, cl_bt, cl_bf, Bool.true_and, Bool.false_and]
          by_cases c : S.1 12 x1.toNatClampNeg = 2
          · rw [if_pos c, if_pos c]; exact cl_st.ok0 h
          · rw [if_neg c, if_neg c]
            exact fin 6 (by decide) (h0.2.2.pgs (by rw [kl_P (by decide)]; exact p1) (kl_in b))
      · by_cases c2 : x2 = 2
        · subst c2
          cases b : sp_in x3 1 100
          · simp only [c0, c1, mo_b_t, mo_b_f, cl_10, eq_self, Bool.false_eq_true, Bool.not_true, Bool.not_false, if_true, if_false, cl_bt, cl_bf, Bool.true_and, Bool.false_and]
            exact cl_st.E1 rfl h.u0
          · simp only [c0, c1, mo_b_t, mo_b_f, cl_10, eq_self, Bool.false_eq_true, Bool.not_true, Bool.not_false, if_true, if_false, cl_bt, cl_bf, Bool.true_and, Bool.false_and]
            by_cases c : S.1 12 x1.toNatClampNeg = 2
            · rw [if_pos c, if_pos c]; exact cl_st.ok0 h
            · rw [if_neg c, if_neg c]
              exact fin 7 (by decide) (h0.2.2.prc (by rw [kl_P (by decide)]; exact p1) (kl_in b))
        · by_cases c3 : x2 = 3
          · subst c3
            cases b : sp_in x3 0 1000
            · simp only [c0, c1, c2, mo_b_t, mo_b_f, cl_10, eq_self, Bool.false_eq_true, Bool.not_true, Bool.not_false, if_true, if_false, cl_bt, cl_bf, Bool.true_and, Bool.false_and]
              exact cl_st.E1 rfl h.u0
            · simp only [c0, c1, c2, mo_b_t, mo_b_f, cl_10, eq_self, Bool.false_eq_true, Bool.not_true, Bool.not_false, if_true, if_false, cl_bt, cl_bf, Bool.true_and, Bool.false_and]
              by_cases c : S.1 12 x1.toNatClampNeg = 2
              · rw [if_pos c, if_pos c]; exact cl_st.ok0 h
              · rw [if_neg c, if_neg c]
                exact fin 8 (by decide) (h0.2.2.upP (by decide) (by rw [kl_P (by decide)]; exact p1) (kl_in b))
          · simp only [c0, c1, c2, c3, mo_b_t, mo_b_f, cl_10, eq_self, Bool.false_eq_true, Bool.not_true, Bool.not_false, if_true, if_false, cl_bt, cl_bf, Bool.true_and, Bool.false_and]
            exact cl_st.E1 rfl h.u0
theorem cl_abs {x y : Int32} (hx : 0 ≤ x.toInt ∧ x.toInt ≤ 100000) (hy : 0 ≤ y.toInt ∧ y.toInt ≤ 100000) : cj_abs (x - y) = sp_X12_far x y := by
  have hs : (x - y).toInt = x.toInt - y.toInt := by
    rw [Int32.toInt_sub]
    exact Int.bmod_eq_of_le (by omega) (by omega)
  unfold cj_abs sp_X12_far
  by_cases q : y ≤ x
  · have q2 := Int32.le_iff_toInt_le.mp q
    rw [if_pos q, if_pos (Int32.le_iff_toInt_le.mpr (by rw [hs]; show (0 : Int) ≤ _; omega))]
  · have q2 : ¬ y.toInt ≤ x.toInt := fun z => q (Int32.le_iff_toInt_le.mpr z)
    rw [if_neg q, if_neg (fun z => by
      have z2 := Int32.le_iff_toInt_le.mp z
      rw [hs] at z2
      have z3 : (0 : Int) ≤ x.toInt - y.toInt := z2
      omega)]
    refine Int32.toInt_inj.mp ?_
    have e0 : (0 : Int32).toInt = 0 := rfl
    rw [Int32.toInt_sub, hs, e0, Int32.toInt_sub, Int.bmod_eq_of_le (by omega) (by omega), Int.bmod_eq_of_le (by omega) (by omega)]
    omega
/-- how far two appeals are apart -/
theorem cl_R.far {B : Int} {C S : mo_S} {F : mo_Fn} {OL : Nat → List od_q} (h : cl_R B C S F OL) {x1 x2 : Int32} (h1 : x1.toNatClampNeg < sp_A S) (h2 : x2.toNatClampNeg < sp_A S) : sp_X12_apartOf S x1 x2 = ((cj_abs (S.1 65 x1.toNatClampNeg - S.1 65 x2.toNatClampNeg)) + ((cj_abs (S.1 66 x1.toNatClampNeg - S.1 66 x2.toNatClampNeg)) * 100)) + (if S.1 3 (S.1 63 x1.toNatClampNeg).toNatClampNeg = S.1 3 (S.1 63 x2.toNatClampNeg).toNatClampNeg then 0 else 10000) := by
  have r := fun k a (hk : k < 42 ∨ 52 < k) => h.J.1 k a hk
  have b65 : ∀ a, 0 ≤ (S.1 65 a).toInt ∧ (S.1 65 a).toInt ≤ 100000 := fun a => r 65 a (by decide)
  have b66 : ∀ a, 0 ≤ (S.1 66 a).toInt ∧ (S.1 66 a).toInt ≤ 100000 := fun a => ⟨(r 66 a (by decide)).1, Int.le_trans (r 66 a (by decide)).2 (by decide)⟩
  unfold sp_X12_apartOf
  rw [cl_abs (b65 _) (b65 _), cl_abs (b66 _) (b66 _), h.1.2.2.2.2.2.2 _ h1, h.1.2.2.2.2.2.2 _ h2, Int32.mul_comm 100]
theorem cl_apart {B : Int} {C S : mo_S} {F : mo_Fn} {OL : Nat → List od_q} (h : cl_R B C S F OL) (x1 x2 : Int32) : cl_st B [cl_IO] (cx_X11_apart C x1 x2) (sp_X12_apart S x1 x2) := by
  unfold cx_X11_apart sp_X12_apart sp_X12_isAppeal cx_X0_farFrom
  rw [mo_up_ne (show (62 : Nat) ≠ 0 by decide)]
  rw [h.1.k 62 (by decide), h.1.k 65 (by decide), h.1.k 66 (by decide), h.1.k 63 (by decide), h.1.k 3 (by decide)]
  have hA := h.J.A
  cases a : sp_in x1 0 (S.1 62 0 - 1)
  · simp only [mo_b_t, mo_b_f, cl_10, eq_self, Bool.false_eq_true, Bool.not_true, Bool.not_false, if_true, if_false, cl_bt, cl_bf, Bool.true_and, Bool.false_and]
    exact ⟨⟨0, rfl, by show (mo_up _ 0 0 1).1 0 0 = _; rw [mo_up_at, pk_us]; rfl⟩, F, OL, h.u0.u0.le (by omega)⟩
  · cases b : sp_in x2 0 (S.1 62 0 - 1)
    · simp only [mo_b_t, mo_b_f, cl_10, eq_self, Bool.false_eq_true, Bool.not_true, Bool.not_false, if_true, if_false, cl_bt, cl_bf, Bool.true_and, Bool.false_and]
      exact ⟨⟨0, rfl, by show (mo_up _ 0 0 1).1 0 0 = _; rw [mo_up_at, pk_us]; rfl⟩, F, OL, h.u0.u0.le (by omega)⟩
    · simp only [mo_b_t, mo_b_f, cl_10, eq_self, Bool.false_eq_true, Bool.not_true, Bool.not_false, if_true, if_false, cl_bt, cl_bf, Bool.true_and, Bool.false_and]
      obtain ⟨-, p1, e1⟩ := mo_vin (N := 20) hA.1 hA.2 (by decide) a
      obtain ⟨-, p2, e2⟩ := mo_vin (N := 20) hA.1 hA.2 (by decide) b
      rw [show sp_X12_apartOf (mo_up S 0 0 0) x1 x2 = sp_X12_apartOf S x1 x2 from by unfold sp_X12_apartOf; rw [mo_up_ne (by decide), mo_up_ne (by decide), mo_up_ne (by decide)]]
      rw [h.far p1 p2]
      exact cl_st.ok0 h
end DA
