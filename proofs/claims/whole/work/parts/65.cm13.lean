section CM13
theorem cx_two12 {C : mo_S} {p q : Nat} (h : ¬ mo_b (cx_X11_areTwoAdmitted C p q) = 0) : C.1 12 p = 1 ∧ C.1 12 q = 1 := by
  have h := mo_b1 h
  unfold cx_X11_areTwoAdmitted cx_X11_isAdmittedAt cx_X5_isAdmitted at h
  by_cases a : C.1 12 p = 1
  · by_cases b : C.1 12 q = 1
    · exact ⟨a, b⟩
    · exfalso; revert h; simp [a, b, mo_b]
  · exfalso; revert h; simp [a, mo_b]
/-- while they are as one -/
def cx_one (C : mo_S) (p q : Nat) : mo_S := mo_up (cx_X5_addSize C p q) 12 q 2
theorem cx_one_ne {C : mo_S} {p q k : Nat} (h4 : k ≠ 4) (h5 : k ≠ 5) (h10 : k ≠ 10) (h12 : k ≠ 12) : (cx_one C p q).1 k = C.1 k := by
  unfold cx_one cx_X5_addSize
  rw [mo_up_ne h12, mo_up_ne h10, mo_up_ne h5, mo_up_ne h4]
theorem cx_gain_back {C V : mo_S} {p q : Nat} {v4 v5 v10 : Int32} (h : cx_eqX [123, 124, 125] V (cx_one C p q)) (h12 : C.1 12 q = 1) (e4 : v4 = C.1 4 p) (e5 : v5 = C.1 5 p) (e10 : v10 = C.1 10 p) : cx_eqX [123, 124, 125] (mo_up (mo_up (mo_up (mo_up V 4 p v4) 5 p v5) 10 p v10) 12 q 1) C := by
  subst e4 e5 e10
  intro k hk
  have hk2 := h k hk
  funext j
  have hj := congrFun hk2 j
  unfold cx_one cx_X5_addSize at hj
  simp only [mo_up] at hj ⊢
  by_cases k12 : k = 12
  · subst k12
    by_cases j12 : j = q
    · subst j12; simp [h12]
    · simp [j12] at hj ⊢; exact hj
  · by_cases k10 : k = 10
    · subst k10
      by_cases jp : j = p
      · subst jp; simp
      · simp [jp] at hj ⊢; exact hj
    · by_cases k5 : k = 5
      · subst k5
        by_cases jp : j = p
        · subst jp; simp
        · simp [jp] at hj ⊢; exact hj
      · by_cases k4 : k = 4
        · subst k4
          by_cases jp : j = p
          · subst jp; simp
          · simp [jp] at hj ⊢; exact hj
        · simp [k12, k10, k5, k4] at hj ⊢; exact hj
def cx_X11_gain (C : mo_S) (w : Nat → Nat) (w2 : Nat → Nat) (f : Nat) (L : Nat) (x1 : Int32) (x2 : Int32) : cx_Out :=
  (if sp_in x1 0 (C.1 1 0 - 1) = true then (if sp_in x2 0 (C.1 1 0 - 1) = true then (if (mo_b (cx_X11_areTwoAdmitted C (x1).toNatClampNeg (x2).toNatClampNeg)) = 0 then ((.inr ((-2000000000))), C) else ((.inr (((cx_sh (cx_one C (x1).toNatClampNeg (x2).toNatClampNeg) w2 f L (cx_now C) (C.1 109 (cx_now C)) (x1).toNatClampNeg) - ((cx_sh C w f L (cx_now C) (C.1 109 (cx_now C)) (x1).toNatClampNeg) + (cx_sh C w f L (cx_now C) (C.1 109 (cx_now C)) (x2).toNatClampNeg))))), C)) else ((.inl "java/lang/IndexOutOfBoundsException"), C)) else ((.inl "java/lang/IndexOutOfBoundsException"), C))
theorem c_X11_gain {G : ev_G} {W : cw_W} {d D0 : Nat} {C : mo_S} {x1 : Int32} {x2 : Int32} {w : Nat → Nat} {w2 : Nat → Nat} {f : Nat} {L : Nat} {Pf Qf : cx_Fn} {c : Nat → Nat} (hE : ev_En G) (h4 : ev_En4 G D0) (hd : 8 ≤ d) (hH : cx_pH C Pf Qf w c f L (cx_now C) (C.1 109 (cx_now C))) (hH2 : cx_pH (cx_one C (x1).toNatClampNeg (x2).toNatClampNeg) Pf Qf w2 c f L (cx_now C) (C.1 109 (cx_now C))) : cw_PS G W d 1 8 mX11_gain [.ref (W 0 0), .int x1, .int x2] C (cx_X11_gain C w w2 f L x1 x2) := by
  refine cw_startR (lv0 := [some (.ref (W 0 0)), some (.int x1), some (.int x2), none, none, none, none, none, none, none]) (by decide +kernel) rfl (Nat.le_of_ble_eq_true rfl) rfl ?_
  intro K g0 g hT
  have hBP := hT.B.1
  refine ev_aload_n dX11_gain_0 rfl rfl ?_
  refine ev_iload_n dX11_gain_1 rfl rfl ?_
  refine cw_paperAt hE h4 rfl hT dX11_gain_2 lX11_109 (Nat.le_of_ble_eq_true rfl) (by omega) (by decide) (by decide) (fun c_2 g hT => ?_) (fun q9 c_2 e_2 u_2 hP2 g hT => ?_)
  · have e9 : cx_X11_gain C w w2 f L x1 x2 = ((.inl "java/lang/IndexOutOfBoundsException"), C) := by unfold cx_X11_gain; rw [if_neg (cl_nf c_2)]
    exact ⟨W, C, ⟨rfl, by rw [e9]; rfl, by rw [e9]; exact (cx_eqX.r _)⟩, hT⟩
  subst u_2
  refine ev_astore_n (lv' := [some (.ref (W 0 0)), some (.int x1), some (.int x2), some (.ref (W 20 (x1).toNatClampNeg)), none, none, none, none, none, none]) dX11_gain_5 rfl (Nat.le_of_ble_eq_true rfl) rfl ?_
  refine ev_aload_n dX11_gain_6 rfl rfl ?_
  refine ev_iload_n dX11_gain_7 rfl rfl ?_
  refine cw_paperAt hE h4 rfl hT dX11_gain_8 lX11_109 (Nat.le_of_ble_eq_true rfl) (by omega) (by decide) (by decide) (fun c_8 g hT => ?_) (fun q9 c_8 e_8 u_8 hP8 g hT => ?_)
  · have e9 : cx_X11_gain C w w2 f L x1 x2 = ((.inl "java/lang/IndexOutOfBoundsException"), C) := by unfold cx_X11_gain; rw [if_pos c_2, if_neg (cl_nf c_8)]
    exact ⟨W, C, ⟨rfl, by rw [e9]; rfl, by rw [e9]; exact (cx_eqX.r _)⟩, hT⟩
  subst u_8
  refine ev_astore (lv' := [some (.ref (W 0 0)), some (.int x1), some (.int x2), some (.ref (W 20 (x1).toNatClampNeg)), some (.ref (W 20 (x2).toNatClampNeg)), none, none, none, none, none]) dX11_gain_11 (Nat.le_of_ble_eq_true rfl) rfl ?_
  refine ev_aload_n dX11_gain_13 rfl rfl ?_
  refine ev_iload_n dX11_gain_14 rfl rfl ?_
  refine ev_iload_n dX11_gain_15 rfl rfl ?_
  refine cw_call2 (d' := d - 1) hE hT dX11_gain_16 rfl kX11_areTwoAdmitted lX11_246 iX11_areTwoAdmitted vX11_areTwoAdmitted (k := 0) (i := 0) rfl ob0 rfl (Nat.le_of_ble_eq_true rfl) (by omega) (by have w9 := (c_X11_areTwoAdmitted (W := W) (d := d - 1) (C := C) (p := (x1).toNatClampNeg) (q := (x2).toNatClampNeg) hE (by omega) hP2 hP8); rw [← e_2] at w9; rw [← e_8] at w9; exact w9) (fun g hT => ?_)
  refine ev_if_ne (tgt := 26) dX11_gain_19 (by decide) (fun c_19 => ?_) (fun c_19 => ?_)
  · refine ev_aload_n dX11_gain_26 rfl rfl ?_
    have hol := cx_now_ol C
    have hp0 := hP2
    have hq0 := hP8
    refine cw_call0 (d' := d - 1) hE hT dX11_gain_27 rfl kX11_orderNow lX11_185 iX11_orderNow vX11_orderNow (k := 0) (i := 0) rfl ob0 rfl (Nat.le_of_ble_eq_true rfl) (by omega) (c_X11_orderNow hE (by omega)) (fun g hT => ?_)
    refine ev_astore (lv' := [some (.ref (W 0 0)), some (.int x1), some (.int x2), some (.ref (W 20 (x1).toNatClampNeg)), some (.ref (W 20 (x2).toNatClampNeg)), some (.ref (W 28 (cx_now C))), none, none, none, none]) dX11_gain_30 (Nat.le_of_ble_eq_true rfl) rfl ?_
    refine ev_aload_n dX11_gain_32 rfl rfl ?_
    refine ev_aload dX11_gain_33 rfl ?_
    refine ev_aload dX11_gain_35 rfl ?_
    refine cw_getf hE hT dX11_gain_37 fX11_221 (k := 28) (i := (cx_now C)) hol ob28 rfl ?_
    refine cw_callr2 (d' := d - 1) (b := 1) (n0 := 8) hE hT dX11_gain_40 rfl kX11_partPool lX11_234 iX11_partPool vX11_partPool (k := 0) (i := 0) rfl ob0 rfl (Nat.le_of_ble_eq_true rfl) (by omega) (c_X11_partPool (d := d - 1) hE h4 (by omega) hH) (Nat.le_refl _) (Nat.le_refl _) (fun v9 W9 V g q9 hT => ?_) (fun E W2 C2 g q9 _ => by cases q9.2.1)
    obtain ⟨e8, e9, hv1, hv2⟩ := q9
    have e7 := e8.symm
    subst e7
    cases e9
    have hP2 : (x1).toNatClampNeg < sp_P V := lvP hP2 (hv1 1 (by decide))
    have hP8 : (x2).toNatClampNeg < sp_P V := lvP hP8 (hv1 1 (by decide))
    refine ev_aload_n dX11_gain_43 rfl rfl ?_
    refine cw_getf hE hT dX11_gain_44 fX11_62 (k := 0) (i := 0) rfl ob0 rfl ?_
    refine ev_iload_n dX11_gain_47 rfl rfl ?_
    refine cw_call1 (d' := d - 1) hE hT dX11_gain_48 rfl kX6_shareOf lX11_238 iX6_shareOf vX6_shareOf (k := 9) (i := 0) rfl ob9 rfl (Nat.le_of_ble_eq_true rfl) (by omega) (by have w9 := c_X6_shareOf (G := G) (W := W) (d := d - 1) (C := V) (q := (x1).toNatClampNeg) hE (by omega); rw [← e_2] at w9; exact w9) (fun g hT => ?_)
    rw [show cx_X6_shareOf V (x1).toNatClampNeg = (cx_sh C w f L (cx_now C) (C.1 109 (cx_now C)) (x1).toNatClampNeg) by rw [cx_share_eq (by omega)]; exact hv2 _ hp0]
    refine ev_aload_n dX11_gain_51 rfl rfl ?_
    refine cw_getf hE hT dX11_gain_52 fX11_62 (k := 0) (i := 0) rfl ob0 rfl ?_
    refine ev_iload_n dX11_gain_55 rfl rfl ?_
    refine cw_call1 (d' := d - 1) hE hT dX11_gain_56 rfl kX6_shareOf lX11_238 iX6_shareOf vX6_shareOf (k := 9) (i := 0) rfl ob9 rfl (Nat.le_of_ble_eq_true rfl) (by omega) (by have w9 := c_X6_shareOf (G := G) (W := W) (d := d - 1) (C := V) (q := (x2).toNatClampNeg) hE (by omega); rw [← e_8] at w9; exact w9) (fun g hT => ?_)
    rw [show cx_X6_shareOf V (x2).toNatClampNeg = (cx_sh C w f L (cx_now C) (C.1 109 (cx_now C)) (x2).toNatClampNeg) by rw [cx_share_eq (by omega)]; exact hv2 _ hq0]
    refine ev_iadd dX11_gain_59 ?_
    refine ev_istore (lv' := [some (.ref (W 0 0)), some (.int x1), some (.int x2), some (.ref (W 20 (x1).toNatClampNeg)), some (.ref (W 20 (x2).toNatClampNeg)), some (.ref (W 28 (cx_now C))), some (.int ((cx_sh C w f L (cx_now C) (C.1 109 (cx_now C)) (x1).toNatClampNeg) + (cx_sh C w f L (cx_now C) (C.1 109 (cx_now C)) (x2).toNatClampNeg))), none, none, none]) dX11_gain_60 (Nat.le_of_ble_eq_true rfl) rfl ?_
    refine ev_aload_n dX11_gain_62 rfl rfl ?_
    refine cw_getf hE hT dX11_gain_63 fX11_261 (k := 20) (i := (x1).toNatClampNeg) hP2 ob20 rfl ?_
    refine ev_istore (lv' := [some (.ref (W 0 0)), some (.int x1), some (.int x2), some (.ref (W 20 (x1).toNatClampNeg)), some (.ref (W 20 (x2).toNatClampNeg)), some (.ref (W 28 (cx_now C))), some (.int ((cx_sh C w f L (cx_now C) (C.1 109 (cx_now C)) (x1).toNatClampNeg) + (cx_sh C w f L (cx_now C) (C.1 109 (cx_now C)) (x2).toNatClampNeg))), some (.int (V.1 4 (x1).toNatClampNeg)), none, none]) dX11_gain_66 (Nat.le_of_ble_eq_true rfl) rfl ?_
    refine ev_aload_n dX11_gain_68 rfl rfl ?_
    refine cw_getf hE hT dX11_gain_69 fX11_264 (k := 20) (i := (x1).toNatClampNeg) hP2 ob20 rfl ?_
    refine ev_istore (lv' := [some (.ref (W 0 0)), some (.int x1), some (.int x2), some (.ref (W 20 (x1).toNatClampNeg)), some (.ref (W 20 (x2).toNatClampNeg)), some (.ref (W 28 (cx_now C))), some (.int ((cx_sh C w f L (cx_now C) (C.1 109 (cx_now C)) (x1).toNatClampNeg) + (cx_sh C w f L (cx_now C) (C.1 109 (cx_now C)) (x2).toNatClampNeg))), some (.int (V.1 4 (x1).toNatClampNeg)), some (.int (V.1 5 (x1).toNatClampNeg)), none]) dX11_gain_72 (Nat.le_of_ble_eq_true rfl) rfl ?_
    refine ev_aload_n dX11_gain_74 rfl rfl ?_
    refine cw_getf hE hT dX11_gain_75 fX11_142 (k := 20) (i := (x1).toNatClampNeg) hP2 ob20 rfl ?_
    refine ev_istore (lv' := [some (.ref (W 0 0)), some (.int x1), some (.int x2), some (.ref (W 20 (x1).toNatClampNeg)), some (.ref (W 20 (x2).toNatClampNeg)), some (.ref (W 28 (cx_now C))), some (.int ((cx_sh C w f L (cx_now C) (C.1 109 (cx_now C)) (x1).toNatClampNeg) + (cx_sh C w f L (cx_now C) (C.1 109 (cx_now C)) (x2).toNatClampNeg))), some (.int (V.1 4 (x1).toNatClampNeg)), some (.int (V.1 5 (x1).toNatClampNeg)), some (.int (V.1 10 (x1).toNatClampNeg))]) dX11_gain_78 (Nat.le_of_ble_eq_true rfl) rfl ?_
    refine ev_aload_n dX11_gain_80 rfl rfl ?_
    refine ev_aload dX11_gain_81 rfl ?_
    refine cw_call1 (d' := d - 1) hE hT dX11_gain_83 rfl kX5_addSize lX11_267 iX5_addSize vX5_addSize (k := 20) (i := (x1).toNatClampNeg) hP2 ob20 rfl (Nat.le_of_ble_eq_true rfl) (by omega) (c_X5_addSize hE (by omega) hP2 hP8) (fun g hT => ?_)
    refine ev_aload dX11_gain_86 rfl ?_
    refine ev_iconst (v := 2) dX11_gain_88 (by decide) ?_
    refine cw_putf (k := 20) (i := (x2).toNatClampNeg) (f := 12) (x := (x2).toNatClampNeg) hE hT dX11_gain_89 pX11_117 hP8 ob20 (Nat.le_of_ble_eq_true rfl) rfl rfl rfl (by decide) (by decide) pu20_9 (fun g hT => ?_)
    have hD : cx_eqX [123, 124, 125] (mo_up (cx_X5_addSize V (x1).toNatClampNeg (x2).toNatClampNeg) 12 (x2).toNatClampNeg 2) (cx_one C (x1).toNatClampNeg (x2).toNatClampNeg) := (hv1.add (by decide) (by decide) (by decide)).upB rfl
    have hD9 : ∀ k, k ∉ [4, 5, 10, 12, 123, 124, 125] → ((mo_up (cx_X5_addSize V (x1).toNatClampNeg (x2).toNatClampNeg) 12 (x2).toNatClampNeg 2)).1 k = C.1 k := fun k hk => by
      rw [hD k (fun q => hk (by revert q; simp; omega)), cx_one_ne (fun q => hk (by rw [q]; decide)) (fun q => hk (by rw [q]; decide)) (fun q => hk (by rw [q]; decide)) (fun q => hk (by rw [q]; decide))]
    have hol : cw_ol (mo_up (cx_X5_addSize V (x1).toNatClampNeg (x2).toNatClampNeg) 12 (x2).toNatClampNeg 2) (cx_now C) := cx_olI (by rw [sp_O_cg (hD9 29 (by decide))]; exact cx_now_b C)
    refine ev_aload_n dX11_gain_92 rfl rfl ?_
    refine ev_aload dX11_gain_93 rfl ?_
    refine ev_aload dX11_gain_95 rfl ?_
    refine cw_geti (v2 := (C.1 109 (cx_now C))) hE hT dX11_gain_97 fX11_221 (k := 28) (i := (cx_now C)) hol ob28 rfl (by rw [hD9 109 (by decide)]) ?_
    refine cw_callr2 (d' := d - 1) (b := 1) (n0 := 8) hE hT dX11_gain_100 rfl kX11_partPool lX11_234 iX11_partPool vX11_partPool (k := 0) (i := 0) rfl ob0 rfl (Nat.le_of_ble_eq_true rfl) (by omega) (c_X11_partPool (d := d - 1) hE h4 (by omega) (hH2.cg hD)) (Nat.le_refl _) (Nat.le_refl _) (fun v9 W9 V2 g q9 hT => ?_) (fun E W2 C2 g q9 _ => by cases q9.2.1)
    obtain ⟨e8, e9, hv3, hv4⟩ := q9
    have e7 := e8.symm
    subst e7
    cases e9
    have hP2 : (x1).toNatClampNeg < sp_P V2 := by rw [sp_P_cg (hv3 1 (by decide)), sp_P_cg (hD9 1 (by decide))]; exact hp0
    have hP8 : (x2).toNatClampNeg < sp_P V2 := by rw [sp_P_cg (hv3 1 (by decide)), sp_P_cg (hD9 1 (by decide))]; exact hq0
    refine ev_aload_n dX11_gain_103 rfl rfl ?_
    refine ev_iload dX11_gain_104 rfl ?_
    refine cw_putf (k := 20) (i := (x1).toNatClampNeg) (f := 4) (x := (x1).toNatClampNeg) hE hT dX11_gain_106 pX11_261 hP2 ob20 (Nat.le_of_ble_eq_true rfl) rfl rfl rfl (by decide) (by decide) pu20_1 (fun g hT => ?_)
    refine ev_aload_n dX11_gain_109 rfl rfl ?_
    refine ev_iload dX11_gain_110 rfl ?_
    refine cw_putf (k := 20) (i := (x1).toNatClampNeg) (f := 5) (x := (x1).toNatClampNeg) hE hT dX11_gain_112 pX11_264 hP2 ob20 (Nat.le_of_ble_eq_true rfl) rfl rfl rfl (by decide) (by decide) pu20_2 (fun g hT => ?_)
    refine ev_aload_n dX11_gain_115 rfl rfl ?_
    refine ev_iload dX11_gain_116 rfl ?_
    refine cw_putf (k := 20) (i := (x1).toNatClampNeg) (f := 10) (x := (x1).toNatClampNeg) hE hT dX11_gain_118 pX11_142 hP2 ob20 (Nat.le_of_ble_eq_true rfl) rfl rfl rfl (by decide) (by decide) pu20_7 (fun g hT => ?_)
    refine ev_aload dX11_gain_121 rfl ?_
    refine ev_iconst (v := 1) dX11_gain_123 (by decide) ?_
    refine cw_putf (k := 20) (i := (x2).toNatClampNeg) (f := 12) (x := (x2).toNatClampNeg) hE hT dX11_gain_124 pX11_117 hP8 ob20 (Nat.le_of_ble_eq_true rfl) rfl rfl rfl (by decide) (by decide) pu20_9 (fun g hT => ?_)
    refine ev_aload_n dX11_gain_127 rfl rfl ?_
    refine cw_getf hE hT dX11_gain_128 fX11_62 (k := 0) (i := 0) rfl ob0 rfl ?_
    refine ev_iload_n dX11_gain_131 rfl rfl ?_
    refine cw_call1 (d' := d - 1) hE hT dX11_gain_132 rfl kX6_shareOf lX11_238 iX6_shareOf vX6_shareOf (k := 9) (i := 0) rfl ob9 rfl (Nat.le_of_ble_eq_true rfl) (by omega) (by have w9 := c_X6_shareOf (G := G) (W := W) (d := d - 1) (C := (mo_up (mo_up (mo_up (mo_up V2 4 (x1).toNatClampNeg (V.1 4 (x1).toNatClampNeg)) 5 (x1).toNatClampNeg (V.1 5 (x1).toNatClampNeg)) 10 (x1).toNatClampNeg (V.1 10 (x1).toNatClampNeg)) 12 (x2).toNatClampNeg 1)) (q := (x1).toNatClampNeg) hE (by omega); rw [← e_2] at w9; exact w9) (fun g hT => ?_)
    rw [show cx_X6_shareOf (mo_up (mo_up (mo_up (mo_up V2 4 (x1).toNatClampNeg (V.1 4 (x1).toNatClampNeg)) 5 (x1).toNatClampNeg (V.1 5 (x1).toNatClampNeg)) 10 (x1).toNatClampNeg (V.1 10 (x1).toNatClampNeg)) 12 (x2).toNatClampNeg 1) (x1).toNatClampNeg = (cx_sh (cx_one C (x1).toNatClampNeg (x2).toNatClampNeg) w2 f L (cx_now C) (C.1 109 (cx_now C)) (x1).toNatClampNeg) by rw [cx_share_eq (by omega)]; rw [mo_up_ne (by decide), mo_up_ne (by decide), mo_up_ne (by decide), mo_up_ne (by decide), hv4 _ (by rw [sp_P_cg (hD9 1 (by decide))]; exact hp0)]; exact cx_sh_cg hD]
    refine ev_iload dX11_gain_135 rfl ?_
    refine ev_isub dX11_gain_137 ?_
    have e9 : cx_X11_gain C w w2 f L x1 x2 = ((.inr (((cx_sh (cx_one C (x1).toNatClampNeg (x2).toNatClampNeg) w2 f L (cx_now C) (C.1 109 (cx_now C)) (x1).toNatClampNeg) - ((cx_sh C w f L (cx_now C) (C.1 109 (cx_now C)) (x1).toNatClampNeg) + (cx_sh C w f L (cx_now C) (C.1 109 (cx_now C)) (x2).toNatClampNeg))))), C) := by unfold cx_X11_gain; rw [if_pos c_2, if_pos c_8, if_neg c_19]
    exact ev_iret dX11_gain_138 rfl rfl ⟨W, (mo_up (mo_up (mo_up (mo_up V2 4 (x1).toNatClampNeg (V.1 4 (x1).toNatClampNeg)) 5 (x1).toNatClampNeg (V.1 5 (x1).toNatClampNeg)) 10 (x1).toNatClampNeg (V.1 10 (x1).toNatClampNeg)) 12 (x2).toNatClampNeg 1), ⟨rfl, by rw [e9]; rfl, by rw [e9]; exact ((cx_gain_back (hv3.t hD) (cx_two12 c_19).2 (congrFun (hv1 4 (by decide)) _) (congrFun (hv1 5 (by decide)) _) (congrFun (hv1 10 (by decide)) _)).mono (by decide))⟩, hT⟩
  · refine ev_ldcw dX11_gain_22 nX11_260 ?_
    have e9 : cx_X11_gain C w w2 f L x1 x2 = ((.inr ((-2000000000))), C) := by unfold cx_X11_gain; rw [if_pos c_2, if_pos c_8, if_pos c_19]
    exact ev_iret dX11_gain_25 rfl rfl ⟨W, C, ⟨rfl, by rw [e9]; rfl, by rw [e9]; exact (cx_eqX.r _)⟩, hT⟩
end CM13
