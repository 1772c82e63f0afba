section DB
/-- one more source -/
theorem cl_src {B : Int} {C S : mo_S} {F : mo_Fn} {OL : Nat → List od_q} (h : cl_R B C S F OL) {p k : Nat} {a b : Int32} (hp : p < sp_P S) (hk : S.1 59 p = nI k) (hk8 : k < 8) (ha : 0 ≤ a.toInt ∧ a.toInt ≤ 100000) (hb : a.toInt ≤ b.toInt ∧ b.toInt ≤ 100000) : cl_R B (mo_up (mo_up (mo_up C 60 (8 * p + k) a) 61 (8 * p + k) b) 59 p (nI (k + 1))) (mo_up (mo_up (mo_up S 60 (8 * p + k) a) 61 (8 * p + k) b) 59 p (nI (k + 1))) F OL := by
  obtain ⟨⟨h1, h2, h3, h4, h5, h6, h7⟩, hO, hK⟩ := h
  have hP := hK.1.1.P.2
  have n : ∀ (T : mo_S) x, x ≠ 59 → x ≠ 60 → x ≠ 61 → (mo_up (mo_up (mo_up T 60 (8 * p + k) a) 61 (8 * p + k) b) 59 p (nI (k + 1))).1 x = T.1 x := fun T x y1 y2 y3 => by rw [mo_up_ne y1, mo_up_ne y3, mo_up_ne y2]
  have n59 : ∀ T : mo_S, (mo_up (mo_up (mo_up T 60 (8 * p + k) a) 61 (8 * p + k) b) 59 p (nI (k + 1))).1 59 = upd (T.1 59) p (nI (k + 1)) := fun T => by rw [mo_up_at, mo_up_ne (by decide), mo_up_ne (by decide)]
  have n60 : ∀ T : mo_S, (mo_up (mo_up (mo_up T 60 (8 * p + k) a) 61 (8 * p + k) b) 59 p (nI (k + 1))).1 60 = upd (T.1 60) (8 * p + k) a := fun T => by rw [mo_up_ne (by decide), mo_up_ne (by decide), mo_up_at]
  have n61 : ∀ T : mo_S, (mo_up (mo_up (mo_up T 60 (8 * p + k) a) 61 (8 * p + k) b) 59 p (nI (k + 1))).1 61 = upd (T.1 61) (8 * p + k) b := fun T => by rw [mo_up_ne (by decide), mo_up_at, mo_up_ne (by decide)]
  have eP : sp_P (mo_up (mo_up (mo_up S 60 (8 * p + k) a) 61 (8 * p + k) b) 59 p (nI (k + 1))) = sp_P S := by unfold sp_P; rw [n S 1 (by decide) (by decide) (by decide)]
  refine ⟨⟨fun x hx => ?_, fun q => ?_, fun q j hq hj => ?_, fun j hj => ?_, ?_, fun m q x hm hq hx => ?_, fun x hx => ?_⟩, hO.cg (fun x hx => n C x (by omega) (by omega) (by omega)) (fun x hx => n S x (by omega) (by omega) (by omega)), ?_⟩
  · by_cases e59 : x = 59
    · subst e59; rw [n59, n59, h1 59 hx]
    · by_cases e60 : x = 60
      · subst e60; rw [n60, n60, h1 60 hx]
      · by_cases e61 : x = 61
        · subst e61; rw [n61, n61, h1 61 hx]
        · rw [n C x e59 e60 e61, n S x e59 e60 e61]; exact h1 x hx
  · rw [n C 14 (by decide) (by decide) (by decide), n C 15 (by decide) (by decide) (by decide), n S 12 (by decide) (by decide) (by decide), n S 14 (by decide) (by decide) (by decide), n S 15 (by decide) (by decide) (by decide)]; exact h2 q
  · rw [eP] at hq
    rw [n60, n61, pk_un (by omega), pk_un (by omega)]
    exact h3 q j hq hj
  · rw [n C 115 (by decide) (by decide) (by decide), show ps_tx (mo_up (mo_up (mo_up S 60 (8 * p + k) a) 61 (8 * p + k) b) 59 p (nI (k + 1))) = ps_tx S by funext y; unfold ps_tx; rw [n S 27 (by decide) (by decide) (by decide)]]
    exact h4 j hj
  · rw [n C 134 (by decide) (by decide) (by decide), n C 133 (by decide) (by decide) (by decide), n S 2 (by decide) (by decide) (by decide)]; exact h5
  · unfold cl_row
    rw [n C 126 (by decide) (by decide) (by decide), n S 56 (by decide) (by decide) (by decide), n S 55 (by decide) (by decide) (by decide)]
    exact h6 m q x (by unfold sp_M at hm ⊢; rw [n S 2 (by decide) (by decide) (by decide)] at hm; exact hm) hq hx
  · rw [n S 67 (by decide) (by decide) (by decide), n S 3 (by decide) (by decide) (by decide), n S 63 (by decide) (by decide) (by decide)]
    exact h7 x (by unfold sp_A at hx ⊢; rw [n S 62 (by decide) (by decide) (by decide)] at hx; exact hx)
  · obtain ⟨⟨i1, i2, i3, i4⟩, i5⟩ := hK
    have j1 : mo_J (mo_up S 60 (8 * p + k) a) F := i1.up (by decide) ⟨ha.1, ha.2⟩
    have j2 : mo_J (mo_up (mo_up S 60 (8 * p + k) a) 61 (8 * p + k) b) F := j1.up (by decide) ⟨by show (0 : Int) ≤ _; omega, hb.2⟩
    have j3 : mo_J (mo_up (mo_up (mo_up S 60 (8 * p + k) a) 61 (8 * p + k) b) 59 p (nI (k + 1))) F := j2.up (by decide) ⟨by rw [nI_toInt (by omega)]; show (0 : Int) ≤ _; omega, by rw [nI_toInt (by omega)]; show _ ≤ (8 : Int); omega⟩
    refine ⟨⟨j3, ⟨fun q hq => ?_, ?_, ?_⟩, ?_, i4.cg (fun x hx => n S x (fun e => by subst e; revert hx; decide) (fun e => by subst e; revert hx; decide) (fun e => by subst e; revert hx; decide))⟩, i5.cg (fun x hx => n S x (fun e => by subst e; revert hx; decide) (fun e => by subst e; revert hx; decide) (fun e => by subst e; revert hx; decide))⟩
    · rw [eP] at hq
      rw [n59, pk_un (by omega), n S 8 (by decide) (by decide) (by decide), n S 9 (by decide) (by decide) (by decide), n S 10 (by decide) (by decide) (by decide), n S 11 (by decide) (by decide) (by decide), n S 12 (by decide) (by decide) (by decide), n S 13 (by decide) (by decide) (by decide), n S 14 (by decide) (by decide) (by decide), n S 15 (by decide) (by decide) (by decide), n S 16 (by decide) (by decide) (by decide), n S 18 (by decide) (by decide) (by decide)]
      exact i2.1 q hq
    · rw [eP, n S 26 (by decide) (by decide) (by decide)]
      unfold sp_W
      rw [n S 24 (by decide) (by decide) (by decide)]
      exact i2.2.1
    · rw [eP, n S 58 (by decide) (by decide) (by decide)]
      exact i2.2.2
    · obtain ⟨b1, b2, b3, b4, b5, b6⟩ := i3
      refine ⟨?_, ?_, ?_, ?_, fun q j hj => ?_, ?_⟩
      · unfold sp_R; rw [eP, n S 21 (by decide) (by decide) (by decide), n S 23 (by decide) (by decide) (by decide)]; exact b1
      · unfold sp_A; rw [eP, n S 62 (by decide) (by decide) (by decide), n S 63 (by decide) (by decide) (by decide)]; exact b2
      · unfold sp_M; rw [eP, n S 2 (by decide) (by decide) (by decide), n S 56 (by decide) (by decide) (by decide)]; exact b3
      · rw [n S 55 (by decide) (by decide) (by decide), n S 56 (by decide) (by decide) (by decide)]; exact b4
      · rw [n59] at hj
        rw [n60, n61]
        by_cases e : 8 * q + j = 8 * p + k
        · rw [e, pk_us, pk_us]
          exact Int32.le_iff_toInt_le.mpr hb.1
        · rw [pk_un e, pk_un e]
          by_cases eq : q = p
          · subst eq
            rw [pk_us, nI_clamp (by omega)] at hj
            exact b5 q j (by rw [hk, nI_clamp (by omega)]; omega)
          · rw [pk_un eq] at hj
            exact b5 q j hj
      · unfold sp_O; rw [n S 29 (by decide) (by decide) (by decide), n S 33 (by decide) (by decide) (by decide), n S 53 (by decide) (by decide) (by decide), n S 54 (by decide) (by decide) (by decide)]; exact b6
theorem cl_source {B : Int} {C S : mo_S} {F : mo_Fn} {OL : Nat → List od_q} (h : cl_R B C S F OL) (x1 x2 x3 : Int32) : cl_st B [cl_IO, cl_IA] (cx_X11_source C x1 x2 x3) (sp_X12_source S x1 x2 x3) := by
  unfold cx_X11_source sp_X12_source cx_X9_add
  rw [show sp_K C x1.toNatClampNeg = sp_K S x1.toNatClampNeg from by unfold sp_K; rw [h.1.k 59 (by decide)]]
  rw [h.1.k 1 (by decide), h.1.k 59 (by decide)]
  simp only [cx_within_in]
  have hP := h.J.P
  have h0 := h.u0 (v := 0)
  cases a : sp_in x1 0 (S.1 1 0 - 1)
  · simp only [mo_b_t, mo_b_f, cl_10, eq_self, Bool.false_eq_true, Bool.not_true, Bool.not_false, if_true, if_false, cl_bt, cl_bf, Bool.true_and, Bool.false_and]
    exact cl_st.E0 rfl h
  · obtain ⟨-, p1, e1⟩ := mo_vin (N := 12) hP.1 hP.2 (by decide) a
    cases b : sp_in x2 0 100000
    · simp only [mo_b_t, mo_b_f, cl_10, eq_self, Bool.false_eq_true, Bool.not_true, Bool.not_false, if_true, if_false, cl_bt, cl_bf, Bool.true_and, Bool.false_and]
      exact cl_st.E1 rfl h.u0
    · cases b2 : sp_in x3 x2 100000
      · simp only [mo_b_t, mo_b_f, cl_10, eq_self, Bool.false_eq_true, Bool.not_true, Bool.not_false, if_true, if_false, cl_bt, cl_bf, Bool.true_and, Bool.false_and]
        exact cl_st.E1 rfl h.u0
      · have i2 := kl_in b
        have i3 := kl_in b2
        have j2 : (0 : Int) ≤ x2.toInt := i2.1
        have k2 : x2.toInt ≤ 100000 := i2.2
        have k3 : x3.toInt ≤ 100000 := i3.2
        obtain ⟨ek, ek8⟩ := h.J.N (k := 59) x1.toNatClampNeg 8 (by decide)
        have eK : sp_K S x1.toNatClampNeg = (S.1 59 x1.toNatClampNeg).toNatClampNeg := rfl
        generalize hk : (S.1 59 x1.toNatClampNeg).toNatClampNeg = k at ek ek8 eK
        have e8 : (8 * x1 + S.1 59 x1.toNatClampNeg).toNatClampNeg = 8 * x1.toNatClampNeg + k := by
          rw [ek]
          have e1' := e1
          generalize x1.toNatClampNeg = q at e1' p1 ⊢
          rw [e1', show (8 : Int32) = nI 8 from rfl, pk_mul, nI_add, nI_clamp (by omega)]
        by_cases c : k = 8
        · have c1 : S.1 59 x1.toNatClampNeg = 8 := by rw [ek, c]; rfl
          have c2 : ¬ S.1 59 x1.toNatClampNeg < 8 := by rw [c1]; decide
          simp only [if_neg c2, if_pos c1, mo_b_t, mo_b_f, cl_10, eq_self, Bool.false_eq_true, Bool.not_true, Bool.not_false, if_true, if_false, cl_bt, cl_bf, Bool.true_and, Bool.false_and]
          exact cl_st.ok0 h
        · have c1 : ¬ S.1 59 x1.toNatClampNeg = 8 := fun q => c (mo_niinj (by omega) (by decide) (ek.symm.trans q))
          have c2 : S.1 59 x1.toNatClampNeg < 8 := by rw [ek]; exact nI_lt (b := 8) (by omega) (by decide)
          simp only [if_pos c2, if_neg c1, mo_b_t, mo_b_f, cl_10, eq_self, Bool.false_eq_true, Bool.not_true, Bool.not_false, if_true, if_false, cl_bt, cl_bf, Bool.true_and, Bool.false_and]
          rw [e8, eK, ek, show nI k + 1 = nI (k + 1) from nI_1 k]
          refine cl_st.ok (F := F) (OL := OL) (by rw [mo_up_ne (by decide), mo_up_ne (by decide), mo_up_ne (by decide), mo_up_at, pk_us]) (cl_R.le (F := F) (OL := OL) ?_ (show B ≤ B + 2000 by omega))
          exact cl_src h0 (by rw [kl_P (by decide)]; exact p1) (by rw [mo_up_ne (by decide)]; exact ek) (by omega) ⟨j2, k2⟩ ⟨i3.1, k3⟩
/-- a row of the ledger -/
theorem cl_R.has {B : Int} {C S : mo_S} {F : mo_Fn} {OL : Nat → List od_q} (h : cl_R B C S F OL) {p : Nat} (hp : p < 12) (m : Int32) : cx_X2_has C p m = sp_X12_isRow S (nI p) m ∧ ∀ x, x < 4 → sp_X12_isRow S (nI p) m = true → cx_cell C p m x = S.1 55 (4 * (12 * m.toNatClampNeg + p) + x) := by
  have hM := h.J.M
  have h56 := fun i => h.J.N (k := 56) i 1 (by decide)
  unfold cx_X2_has sp_X12_isRow
  have hr : cx_hr C m = sp_in m 0 (S.1 2 0 - 1) := by
    unfold cx_hr
    rw [h.1.2.2.2.2.1.1]
  unfold cx_cell
  rw [hr]
  cases a : sp_in m 0 (S.1 2 0 - 1)
  · simp only [mo_b_f, eq_self, if_true, Bool.false_eq_true, if_false]
    exact ⟨trivial, fun x _ q => q.elim⟩
  · obtain ⟨-, p1, e1⟩ := mo_vin (N := 600) hM.1 hM.2 (by decide) a
    have e2 : (12 * m + nI p).toNatClampNeg = 12 * m.toNatClampNeg + p := by
      have e1' := e1
      generalize m.toNatClampNeg = q at e1' p1 ⊢
      rw [e1', show (12 : Int32) = nI 12 from rfl, pk_mul, nI_add, nI_clamp (by omega)]
    rw [e2]
    have hrow := fun x (hx : x < 4) => h.1.2.2.2.2.2.1 m.toNatClampNeg p x p1 hp hx
    have hrow' : ∀ x, x < 4 → C.1 126 (48 * m.toNatClampNeg + (4 * p + x)) = cl_row S m.toNatClampNeg p x := fun x hx => by rw [← hrow x hx, Nat.add_assoc]
    simp only [if_true, mo_b_t, cl_10, if_false]
    rw [hrow' 0 (by decide)]
    obtain ⟨q1, q2⟩ := h56 (12 * m.toNatClampNeg + p)
    by_cases z : S.1 56 (12 * m.toNatClampNeg + p) = 0
    · have z1 : ¬ S.1 56 (12 * m.toNatClampNeg + p) = 1 := by rw [z]; decide
      unfold cl_row
      rw [if_neg z1, if_pos rfl, if_pos z]
      exact ⟨rfl, fun x _ q => absurd q Bool.false_ne_true⟩
    · have z1 : S.1 56 (12 * m.toNatClampNeg + p) = 1 := by
        generalize (S.1 56 (12 * m.toNatClampNeg + p)).toNatClampNeg = y at q1 q2
        obtain rfl | rfl : y = 0 ∨ y = 1 := by omega
        · exact absurd q1 z
        · exact q1
      have z2 := h.2.2.1.2.2.1.2.2.2.1 _ z1
      have z3 : ¬ cl_row S m.toNatClampNeg p 0 = -2000000000 := by
        unfold cl_row
        rw [if_pos z1]
        intro q
        have q3 : 4 * (12 * m.toNatClampNeg + p) + 0 = 4 * (12 * m.toNatClampNeg + p) := rfl
        rw [q3] at q
        rw [q] at z2
        exact absurd z2 (by decide)
      rw [if_neg z3, if_neg z]
      refine ⟨rfl, fun x hx _ => ?_⟩
      rw [hrow' x hx]
      unfold cl_row
      rw [if_pos z1]
theorem cl_correct {B : Int} {C S : mo_S} {F : mo_Fn} {OL : Nat → List od_q} (h : cl_R B C S F OL) (x1 x2 x3 : Int32) : cl_st B [cl_IO, cl_IA] (cx_X11_correct C x1 x2 x3) (sp_X12_correct S x1 x2 x3) := by
  have hK := h.2.2.correct x1 x2 x3
  unfold cx_X11_correct cx_X2_tellAnew
  unfold sp_X12_correct at hK ⊢
  rw [show cx_tn C = (S.1 73 0).toNatClampNeg from by unfold cx_tn; rw [h.1.k 73 (by decide)]]
  rw [h.1.k 1 (by decide), h.1.k 2 (by decide), h.1.k 73 (by decide)]
  simp only [cx_within_in]
  have hP := h.J.P
  have hZ := h.J.Z
  have h0 := h.u0 (v := 0)
  cases a : sp_in x1 0 (S.1 1 0 - 1)
  · simp only [mo_b_t, mo_b_f, cl_10, eq_self, Bool.false_eq_true, Bool.not_true, Bool.not_false, if_true, if_false, cl_bt, cl_bf, Bool.true_and, Bool.false_and]
    exact cl_st.E0 rfl h
  · obtain ⟨-, p1, e1⟩ := mo_vin (N := 12) hP.1 hP.2 (by decide) a
    cases b : sp_in x3 0 1000000
    · simp only [mo_b_t, mo_b_f, cl_10, eq_self, Bool.false_eq_true, Bool.not_true, Bool.not_false, if_true, if_false, cl_bt, cl_bf, Bool.true_and, Bool.false_and]
      exact cl_st.E1 rfl h.u0
    · have hrw := (h.has (p := x1.toNatClampNeg) (by omega) x2).1
      rw [← e1] at hrw
      have hrw2 : sp_X12_isRow (mo_up S 0 0 0) x1 x2 = sp_X12_isRow S x1 x2 := by unfold sp_X12_isRow; rw [mo_up_ne (by decide), mo_up_ne (by decide)]
      rw [hrw]
      cases c : sp_X12_isRow S x1 x2
      · simp only [hrw2, c, mo_b_t, mo_b_f, cl_10, eq_self, Bool.false_eq_true, Bool.not_true, Bool.not_false, if_true, if_false, cl_bt, cl_bf, Bool.true_and, Bool.false_and]
        exact cl_st.ok0 h
      · by_cases z : S.1 73 0 = 60
        · have z2 : ¬ S.1 73 0 < 60 := by rw [z]; decide
          simp only [hrw2, c, if_neg z2, if_pos z, mo_b_t, mo_b_f, cl_10, eq_self, Bool.false_eq_true, Bool.not_true, Bool.not_false, if_true, if_false, cl_bt, cl_bf, Bool.true_and, Bool.false_and]
          exact cl_st.ok0 h
        · have z2 : S.1 73 0 < 60 := by
            rw [hZ.1] at z ⊢
            have : sp_Z S < 60 := by
              rcases Nat.lt_or_ge (sp_Z S) 60 with q | q
              · exact q
              · exact absurd (by rw [show sp_Z S = 60 by omega]; rfl) z
            exact nI_lt (b := 60) this (by decide)
          simp only [a, b, hrw2, c, z, mo_b_t, mo_b_f, cl_10, eq_self, Bool.false_eq_true, Bool.not_true, Bool.not_false, if_true, if_false, cl_bt, cl_bf, Bool.true_and, Bool.false_and] at hK
          simp only [hrw2, c, if_pos z2, if_neg z, mo_b_t, mo_b_f, cl_10, eq_self, Bool.false_eq_true, Bool.not_true, Bool.not_false, if_true, if_false, cl_bt, cl_bf, Bool.true_and, Bool.false_and]
          rw [← e1]
          refine cl_st.ok (F := F) (OL := OL) (by rw [mo_up_ne (by decide), mo_up_ne (by decide), mo_up_ne (by decide), mo_up_ne (by decide), mo_up_ne (by decide), mo_up_at, pk_us]) ⟨?_, ?_, hK.le (by omega)⟩
          · exact ((((h0.1.up (by decide)).up (by decide)).up (by decide)).up (by decide)).up (by decide)
          · exact ((((h0.2.1.up (by decide)).up (by decide)).up (by decide)).up (by decide)).up (by decide)
end DB
