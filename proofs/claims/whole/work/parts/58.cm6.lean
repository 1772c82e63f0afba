section CM6
theorem cl_nf {b : Bool} (h : b = false) : ¬ b = true := fun q => by rw [h] at q; cases q
def cx_X11_set (C : mo_S) (x1 : Int32) (x2 : Int32) (x3 : Int32) : cx_Out :=
  (if sp_in x1 0 (C.1 1 0 - 1) = true then (if (mo_b (cx_X11_settable x2 x3)) = 0 then ((.inl "java/lang/IllegalArgumentException"), C) else (if (C.1 12 (x1).toNatClampNeg) = 2 then ((.inr ((-1))), C) else ((.inr ((cx_X5_change C (x1).toNatClampNeg x2 x3).1)), (cx_X5_change C (x1).toNatClampNeg x2 x3).2))) else ((.inl "java/lang/IndexOutOfBoundsException"), C))
theorem c_X11_set {G : ev_G} {W : cw_W} {d D0 : Nat} {C : mo_S} {x1 : Int32} {x2 : Int32} {x3 : Int32} (hE : ev_En G) (h4 : ev_En4 G D0) (hd : 7 ≤ d) : cw_P G W d 1 8 mX11_set [.ref (W 0 0), .int x1, .int x2, .int x3] C (cx_X11_set C x1 x2 x3) := by
  refine cw_startR (lv0 := [some (.ref (W 0 0)), some (.int x1), some (.int x2), some (.int x3), none]) (by decide +kernel) rfl (Nat.le_of_ble_eq_true rfl) rfl ?_
  intro K g0 g hT
  have hBP := hT.B.1
  have hBR := hT.B.2.1
  have hBA := hT.B.2.2.2.1
  refine ev_aload_n dX11_set_0 rfl rfl ?_
  refine ev_iload_n dX11_set_1 rfl rfl ?_
  refine cw_paperAt hE h4 rfl hT dX11_set_2 lX11_109 (Nat.le_of_ble_eq_true rfl) (by omega) (by decide) (by decide) (fun c_2 g hT => ?_) (fun q9 c_2 e_2 u_2 hP2 g hT => ?_)
  · have e9 : cx_X11_set C x1 x2 x3 = ((.inl "java/lang/IndexOutOfBoundsException"), C) := by unfold cx_X11_set; rw [if_neg (cl_nf c_2)]
    exact ⟨W, (cx_X11_set C x1 x2 x3).2, ⟨rfl, by rw [e9]; rfl, rfl⟩, by rw [e9]; exact hT⟩
  subst u_2
  refine ev_astore dX11_set_5 (Nat.le_of_ble_eq_true rfl) rfl ?_
  refine ev_iload_n dX11_set_7 rfl rfl ?_
  refine ev_iload_n dX11_set_8 rfl rfl ?_
  refine ev_pS2 (d' := d - 1) dX11_set_9 rfl kX11_settable lX11_113 sX11_settable (Nat.le_of_ble_eq_true rfl) (by omega) (c_X11_settable (by omega)) ?_
  refine cw_need hE h4 rfl dX11_set_12 lX11_85 (Nat.le_of_ble_eq_true rfl) (by omega) (by decide) (by decide) (fun c_12 => ?_) (fun c_12 => ?_)
  · have e9 : cx_X11_set C x1 x2 x3 = ((.inl "java/lang/IllegalArgumentException"), C) := by unfold cx_X11_set; rw [if_pos c_2, if_pos c_12]
    exact ⟨W, (cx_X11_set C x1 x2 x3).2, ⟨rfl, by rw [e9]; rfl, rfl⟩, by rw [e9]; exact hT⟩
  refine ev_aload dX11_set_15 rfl ?_
  refine cw_getf hE hT dX11_set_17 fX11_117 (k := 20) (i := (x1).toNatClampNeg) hP2 ob20 rfl ?_
  refine ev_iconst (v := 2) dX11_set_20 (by decide) ?_
  refine ev_icmp_ne (tgt := 26) dX11_set_21 (by decide) (fun c_21 => ?_) (fun c_21 => ?_)
  · refine ev_aload dX11_set_26 rfl ?_
    refine ev_iload_n dX11_set_28 rfl rfl ?_
    refine ev_iload_n dX11_set_29 rfl rfl ?_
    refine cw_call2 (d' := d - 1) hE hT dX11_set_30 rfl kX5_change lX11_120 iX5_change vX5_change (k := 20) (i := (x1).toNatClampNeg) hP2 ob20 rfl (Nat.le_of_ble_eq_true rfl) (by omega) (c_X5_change hE hP2) (fun g hT => ?_)
    have e9 : cx_X11_set C x1 x2 x3 = ((.inr ((cx_X5_change C (x1).toNatClampNeg x2 x3).1)), (cx_X5_change C (x1).toNatClampNeg x2 x3).2) := by unfold cx_X11_set; rw [if_pos c_2, if_neg c_12, if_neg c_21]
    exact ev_iret dX11_set_33 rfl rfl ⟨W, (cx_X11_set C x1 x2 x3).2, ⟨rfl, by rw [e9]; rfl, rfl⟩, by rw [e9]; exact hT⟩
  · refine ev_iconst (v := (-1)) dX11_set_24 (by decide) ?_
    have e9 : cx_X11_set C x1 x2 x3 = ((.inr ((-1))), C) := by unfold cx_X11_set; rw [if_pos c_2, if_neg c_12, if_pos c_21]
    exact ev_iret dX11_set_25 rfl rfl ⟨W, (cx_X11_set C x1 x2 x3).2, ⟨rfl, by rw [e9]; rfl, rfl⟩, by rw [e9]; exact hT⟩
def cx_X11_told (C : mo_S) (x1 : Int32) (x2 : Int32) : cx_Out :=
  (if sp_in x1 0 (C.1 1 0 - 1) = true then (if (mo_b (cx_X11_within x2 0 10)) = 0 then ((.inl "java/lang/IllegalArgumentException"), C) else ((.inr ((cx_X5_field C (x1).toNatClampNeg x2))), C)) else ((.inl "java/lang/IndexOutOfBoundsException"), C))
theorem c_X11_told {G : ev_G} {W : cw_W} {d D0 : Nat} {C : mo_S} {x1 : Int32} {x2 : Int32} (hE : ev_En G) (h4 : ev_En4 G D0) (hd : 7 ≤ d) : cw_P G W d 1 8 mX11_told [.ref (W 0 0), .int x1, .int x2] C (cx_X11_told C x1 x2) := by
  refine cw_startR (lv0 := [some (.ref (W 0 0)), some (.int x1), some (.int x2), none]) (by decide +kernel) rfl (Nat.le_of_ble_eq_true rfl) rfl ?_
  intro K g0 g hT
  have hBP := hT.B.1
  have hBR := hT.B.2.1
  have hBA := hT.B.2.2.2.1
  refine ev_aload_n dX11_told_0 rfl rfl ?_
  refine ev_iload_n dX11_told_1 rfl rfl ?_
  refine cw_paperAt hE h4 rfl hT dX11_told_2 lX11_109 (Nat.le_of_ble_eq_true rfl) (by omega) (by decide) (by decide) (fun c_2 g hT => ?_) (fun q9 c_2 e_2 u_2 hP2 g hT => ?_)
  · have e9 : cx_X11_told C x1 x2 = ((.inl "java/lang/IndexOutOfBoundsException"), C) := by unfold cx_X11_told; rw [if_neg (cl_nf c_2)]
    exact ⟨W, (cx_X11_told C x1 x2).2, ⟨rfl, by rw [e9]; rfl, rfl⟩, by rw [e9]; exact hT⟩
  subst u_2
  refine ev_astore_n dX11_told_5 rfl (Nat.le_of_ble_eq_true rfl) rfl ?_
  refine ev_iload_n dX11_told_6 rfl rfl ?_
  refine ev_iconst (v := 0) dX11_told_7 (by decide) ?_
  refine ev_bipush (v := 10) dX11_told_8 (by decide) ?_
  refine ev_pS3 (d' := d - 1) dX11_told_10 rfl kX11_within lX11_80 sX11_within (Nat.le_of_ble_eq_true rfl) (by omega) (c_X11_within) ?_
  refine cw_need hE h4 rfl dX11_told_13 lX11_85 (Nat.le_of_ble_eq_true rfl) (by omega) (by decide) (by decide) (fun c_13 => ?_) (fun c_13 => ?_)
  · have e9 : cx_X11_told C x1 x2 = ((.inl "java/lang/IllegalArgumentException"), C) := by unfold cx_X11_told; rw [if_pos c_2, if_pos c_13]
    exact ⟨W, (cx_X11_told C x1 x2).2, ⟨rfl, by rw [e9]; rfl, rfl⟩, by rw [e9]; exact hT⟩
  refine ev_aload_n dX11_told_16 rfl rfl ?_
  refine ev_iload_n dX11_told_17 rfl rfl ?_
  refine cw_call1 (d' := d - 1) hE hT dX11_told_18 rfl kX5_field lX11_124 iX5_field vX5_field (k := 20) (i := (x1).toNatClampNeg) hP2 ob20 rfl (Nat.le_of_ble_eq_true rfl) (by omega) (c_X5_field hE hP2) (fun g hT => ?_)
  have e9 : cx_X11_told C x1 x2 = ((.inr ((cx_X5_field C (x1).toNatClampNeg x2))), C) := by unfold cx_X11_told; rw [if_pos c_2, if_neg c_13]
  exact ev_iret dX11_told_21 rfl rfl ⟨W, (cx_X11_told C x1 x2).2, ⟨rfl, by rw [e9]; rfl, rfl⟩, by rw [e9]; exact hT⟩
def cx_X11_where (C : mo_S) (x1 : Int32) : cx_Out :=
  (if sp_in x1 0 (C.1 21 0 - 1) = true then ((.inr ((C.1 23 (x1).toNatClampNeg))), C) else ((.inl "java/lang/IndexOutOfBoundsException"), C))
theorem c_X11_where {G : ev_G} {W : cw_W} {d D0 : Nat} {C : mo_S} {x1 : Int32} (hE : ev_En G) (h4 : ev_En4 G D0) (hd : 7 ≤ d) : cw_P G W d 1 8 mX11_where [.ref (W 0 0), .int x1] C (cx_X11_where C x1) := by
  refine cw_startR (lv0 := [some (.ref (W 0 0)), some (.int x1)]) (by decide +kernel) rfl (Nat.le_of_ble_eq_true rfl) rfl ?_
  intro K g0 g hT
  have hBP := hT.B.1
  have hBR := hT.B.2.1
  have hBA := hT.B.2.2.2.1
  refine ev_aload_n dX11_where_0 rfl rfl ?_
  refine ev_iload_n dX11_where_1 rfl rfl ?_
  refine cw_reelAt hE h4 rfl hT dX11_where_2 lX11_131 (Nat.le_of_ble_eq_true rfl) (by omega) (by decide) (by decide) (fun c_2 g hT => ?_) (fun q9 c_2 e_2 u_2 hR2 g hT => ?_)
  · have e9 : cx_X11_where C x1 = ((.inl "java/lang/IndexOutOfBoundsException"), C) := by unfold cx_X11_where; rw [if_neg (cl_nf c_2)]
    exact ⟨W, (cx_X11_where C x1).2, ⟨rfl, by rw [e9]; rfl, rfl⟩, by rw [e9]; exact hT⟩
  subst u_2
  refine cw_getf hE hT dX11_where_5 fX11_135 (k := 27) (i := (x1).toNatClampNeg) hR2 ob27 rfl ?_
  have e9 : cx_X11_where C x1 = ((.inr ((C.1 23 (x1).toNatClampNeg))), C) := by unfold cx_X11_where; rw [if_pos c_2]
  exact ev_iret dX11_where_8 rfl rfl ⟨W, (cx_X11_where C x1).2, ⟨rfl, by rw [e9]; rfl, rfl⟩, by rw [e9]; exact hT⟩
def cx_X11_find (C : mo_S) (x1 : Int32) : cx_Out :=
  (if sp_in x1 0 (C.1 21 0 - 1) = true then (if (C.1 23 (x1).toNatClampNeg) = (-2) then ((.inr ((C.1 22 (x1).toNatClampNeg))), (mo_up C 23 (x1).toNatClampNeg (-1))) else ((.inr ((-1))), C)) else ((.inl "java/lang/IndexOutOfBoundsException"), C))
theorem c_X11_find {G : ev_G} {W : cw_W} {d D0 : Nat} {C : mo_S} {x1 : Int32} (hE : ev_En G) (h4 : ev_En4 G D0) (hd : 7 ≤ d) : cw_P G W d 1 8 mX11_find [.ref (W 0 0), .int x1] C (cx_X11_find C x1) := by
  refine cw_startR (lv0 := [some (.ref (W 0 0)), some (.int x1), none]) (by decide +kernel) rfl (Nat.le_of_ble_eq_true rfl) rfl ?_
  intro K g0 g hT
  have hBP := hT.B.1
  have hBR := hT.B.2.1
  have hBA := hT.B.2.2.2.1
  refine ev_aload_n dX11_find_0 rfl rfl ?_
  refine ev_iload_n dX11_find_1 rfl rfl ?_
  refine cw_reelAt hE h4 rfl hT dX11_find_2 lX11_131 (Nat.le_of_ble_eq_true rfl) (by omega) (by decide) (by decide) (fun c_2 g hT => ?_) (fun q9 c_2 e_2 u_2 hR2 g hT => ?_)
  · have e9 : cx_X11_find C x1 = ((.inl "java/lang/IndexOutOfBoundsException"), C) := by unfold cx_X11_find; rw [if_neg (cl_nf c_2)]
    exact ⟨W, (cx_X11_find C x1).2, ⟨rfl, by rw [e9]; rfl, rfl⟩, by rw [e9]; exact hT⟩
  subst u_2
  refine ev_astore_n dX11_find_5 rfl (Nat.le_of_ble_eq_true rfl) rfl ?_
  refine ev_aload_n dX11_find_6 rfl rfl ?_
  refine cw_getf hE hT dX11_find_7 fX11_135 (k := 27) (i := (x1).toNatClampNeg) hR2 ob27 rfl ?_
  refine ev_bipush (v := (-2)) dX11_find_10 (by decide) ?_
  refine ev_icmp_eq (tgt := 17) dX11_find_12 (by decide) (fun c_12 => ?_) (fun c_12 => ?_)
  · refine ev_aload_n dX11_find_17 rfl rfl ?_
    refine ev_iconst (v := (-1)) dX11_find_18 (by decide) ?_
    refine cw_putf (k := 27) (i := (x1).toNatClampNeg) (f := 23) (x := (x1).toNatClampNeg) hE hT dX11_find_19 pX11_135 hR2 ob27 (Nat.le_of_ble_eq_true rfl) rfl rfl rfl (by decide) (by decide) pu27_1 (fun g hT => ?_)
    refine ev_aload_n dX11_find_22 rfl rfl ?_
    refine cw_geti (v2 := (C.1 22 (x1).toNatClampNeg)) hE hT dX11_find_23 fX11_145 (k := 27) (i := (x1).toNatClampNeg) hR2 ob27 rfl (by simp [mo_up]) ?_
    have e9 : cx_X11_find C x1 = ((.inr ((C.1 22 (x1).toNatClampNeg))), (mo_up C 23 (x1).toNatClampNeg (-1))) := by unfold cx_X11_find; rw [if_pos c_2, if_pos c_12]
    exact ev_iret dX11_find_26 rfl rfl ⟨W, (cx_X11_find C x1).2, ⟨rfl, by rw [e9]; rfl, rfl⟩, by rw [e9]; exact hT⟩
  · refine ev_iconst (v := (-1)) dX11_find_15 (by decide) ?_
    have e9 : cx_X11_find C x1 = ((.inr ((-1))), C) := by unfold cx_X11_find; rw [if_pos c_2, if_neg c_12]
    exact ev_iret dX11_find_16 rfl rfl ⟨W, (cx_X11_find C x1).2, ⟨rfl, by rw [e9]; rfl, rfl⟩, by rw [e9]; exact hT⟩
def cx_X11_force (C : mo_S) (x1 : Int32) : cx_Out :=
  (if (mo_b (cx_X11_within x1 0 600)) = 0 then ((.inl "java/lang/IllegalArgumentException"), C) else ((.inr ((sp_opt (sp_force C x1 (sp_O C))))), C))
theorem c_X11_force {G : ev_G} {W : cw_W} {d D0 : Nat} {C : mo_S} {x1 : Int32} (hE : ev_En G) (h4 : ev_En4 G D0) (hd : 7 ≤ d) : cw_P G W d 1 8 mX11_force [.ref (W 0 0), .int x1] C (cx_X11_force C x1) := by
  refine cw_startR (lv0 := [some (.ref (W 0 0)), some (.int x1)]) (by decide +kernel) rfl (Nat.le_of_ble_eq_true rfl) rfl ?_
  intro K g0 g hT
  have hBP := hT.B.1
  have hBR := hT.B.2.1
  have hBA := hT.B.2.2.2.1
  refine ev_iload_n dX11_force_0 rfl rfl ?_
  refine ev_iconst (v := 0) dX11_force_1 (by decide) ?_
  refine ev_sipush (v := 600) dX11_force_2 (by decide) ?_
  refine ev_pS3 (d' := d - 1) dX11_force_5 rfl kX11_within lX11_80 sX11_within (Nat.le_of_ble_eq_true rfl) (by omega) (c_X11_within) ?_
  refine cw_need hE h4 rfl dX11_force_8 lX11_85 (Nat.le_of_ble_eq_true rfl) (by omega) (by decide) (by decide) (fun c_8 => ?_) (fun c_8 => ?_)
  · have e9 : cx_X11_force C x1 = ((.inl "java/lang/IllegalArgumentException"), C) := by unfold cx_X11_force; rw [if_pos c_8]
    exact ⟨W, (cx_X11_force C x1).2, ⟨rfl, by rw [e9]; rfl, rfl⟩, by rw [e9]; exact hT⟩
  refine ev_aload_n dX11_force_11 rfl rfl ?_
  refine ev_iload_n dX11_force_12 rfl rfl ?_
  refine cw_call1 (d' := d - 1) hE hT dX11_force_13 rfl kX11_numberInForce lX11_182 iX11_numberInForce vX11_numberInForce (k := 0) (i := 0) rfl ob0 rfl (Nat.le_of_ble_eq_true rfl) (by omega) (c_X11_numberInForce hE (by omega)) (fun g hT => ?_)
  have e9 : cx_X11_force C x1 = ((.inr ((sp_opt (sp_force C x1 (sp_O C))))), C) := by unfold cx_X11_force; rw [if_neg c_8]
  exact ev_iret dX11_force_16 rfl rfl ⟨W, (cx_X11_force C x1).2, ⟨rfl, by rw [e9]; rfl, rfl⟩, by rw [e9]; exact hT⟩
def cx_X11_bid (C : mo_S) (x1 : Int32) (x2 : Int32) (x3 : Int32) : cx_Out :=
  (if sp_in x1 0 (C.1 1 0 - 1) = true then (if (mo_b (if (mo_b (cx_X11_within x2 1 100000)) = 0 then false else (if (mo_b (cx_X11_within x3 0 100)) = 0 then false else true))) = 0 then ((.inl "java/lang/IllegalArgumentException"), C) else (if (mo_b (cx_X5_isAdmitted C (x1).toNatClampNeg)) = 0 then ((.inr ((-1))), C) else ((.inr (1)), (mo_up (mo_up C 14 (x1).toNatClampNeg x2) 15 (x1).toNatClampNeg x3)))) else ((.inl "java/lang/IndexOutOfBoundsException"), C))
theorem c_X11_bid {G : ev_G} {W : cw_W} {d D0 : Nat} {C : mo_S} {x1 : Int32} {x2 : Int32} {x3 : Int32} (hE : ev_En G) (h4 : ev_En4 G D0) (hd : 7 ≤ d) : cw_P G W d 1 8 mX11_bid [.ref (W 0 0), .int x1, .int x2, .int x3] C (cx_X11_bid C x1 x2 x3) := by
  refine cw_startR (lv0 := [some (.ref (W 0 0)), some (.int x1), some (.int x2), some (.int x3), none]) (by decide +kernel) rfl (Nat.le_of_ble_eq_true rfl) rfl ?_
  intro K g0 g hT
  have hBP := hT.B.1
  have hBR := hT.B.2.1
  have hBA := hT.B.2.2.2.1
  refine ev_aload_n dX11_bid_0 rfl rfl ?_
  refine ev_iload_n dX11_bid_1 rfl rfl ?_
  refine cw_paperAt hE h4 rfl hT dX11_bid_2 lX11_109 (Nat.le_of_ble_eq_true rfl) (by omega) (by decide) (by decide) (fun c_2 g hT => ?_) (fun q9 c_2 e_2 u_2 hP2 g hT => ?_)
  · have e9 : cx_X11_bid C x1 x2 x3 = ((.inl "java/lang/IndexOutOfBoundsException"), C) := by unfold cx_X11_bid; rw [if_neg (cl_nf c_2)]
    exact ⟨W, (cx_X11_bid C x1 x2 x3).2, ⟨rfl, by rw [e9]; rfl, rfl⟩, by rw [e9]; exact hT⟩
  subst u_2
  refine ev_astore dX11_bid_5 (Nat.le_of_ble_eq_true rfl) rfl ?_
  refine ev_iload_n dX11_bid_7 rfl rfl ?_
  refine ev_iconst (v := 1) dX11_bid_8 (by decide) ?_
  refine ev_ldc dX11_bid_9 nX11_84 ?_
  refine ev_pS3 (d' := d - 1) dX11_bid_11 rfl kX11_within lX11_80 sX11_within (Nat.le_of_ble_eq_true rfl) (by omega) (c_X11_within) ?_
  have K_32 : ∀ (g : ev_H) (hT : cw_T G K g0 W g C), ∀ x9 : Int32, x9 = (mo_b (if (mo_b (cx_X11_within x2 1 100000)) = 0 then false else (if (mo_b (cx_X11_within x3 0 100)) = 0 then false else true))) → ev_V G d 1 8 mX11_bid (fun o g' => ∃ W2 C2, (W2 = W ∧ o = cx_o (cx_X11_bid C x1 x2 x3).1 ∧ C2 = (cx_X11_bid C x1 x2 x3).2) ∧ cw_T G K g0 W2 g' C2) g 32 [some (.ref (W 0 0)), some (.int x1), some (.int x2), some (.int x3), some (.ref (W 20 (x1).toNatClampNeg))] (.int x9 :: []) := by
    intro g hT x9 h9
    subst h9
    refine cw_need hE h4 rfl dX11_bid_32 lX11_85 (Nat.le_of_ble_eq_true rfl) (by omega) (by decide) (by decide) (fun c_32 => ?_) (fun c_32 => ?_)
    · have e9 : cx_X11_bid C x1 x2 x3 = ((.inl "java/lang/IllegalArgumentException"), C) := by unfold cx_X11_bid; rw [if_pos c_2, if_pos c_32]
      exact ⟨W, (cx_X11_bid C x1 x2 x3).2, ⟨rfl, by rw [e9]; rfl, rfl⟩, by rw [e9]; exact hT⟩
    refine ev_aload dX11_bid_35 rfl ?_
    refine cw_call0 (d' := d - 1) hE hT dX11_bid_37 rfl kX5_isAdmitted lX11_224 iX5_isAdmitted vX5_isAdmitted (k := 20) (i := (x1).toNatClampNeg) hP2 ob20 rfl (Nat.le_of_ble_eq_true rfl) (by omega) (c_X5_isAdmitted hE hP2) (fun g hT => ?_)
    refine ev_if_ne (tgt := 45) dX11_bid_40 (by decide) (fun c_40 => ?_) (fun c_40 => ?_)
    · refine ev_aload dX11_bid_45 rfl ?_
      refine ev_iload_n dX11_bid_47 rfl rfl ?_
      refine cw_putf (k := 20) (i := (x1).toNatClampNeg) (f := 14) (x := (x1).toNatClampNeg) hE hT dX11_bid_48 pX11_228 hP2 ob20 (Nat.le_of_ble_eq_true rfl) rfl rfl rfl (by decide) (by decide) pu20_11 (fun g hT => ?_)
      refine ev_aload dX11_bid_51 rfl ?_
      refine ev_iload_n dX11_bid_53 rfl rfl ?_
      refine cw_putf (k := 20) (i := (x1).toNatClampNeg) (f := 15) (x := (x1).toNatClampNeg) hE hT dX11_bid_54 pX11_231 hP2 ob20 (Nat.le_of_ble_eq_true rfl) rfl rfl rfl (by decide) (by decide) pu20_12 (fun g hT => ?_)
      refine ev_iconst (v := 1) dX11_bid_57 (by decide) ?_
      have e9 : cx_X11_bid C x1 x2 x3 = ((.inr (1)), (mo_up (mo_up C 14 (x1).toNatClampNeg x2) 15 (x1).toNatClampNeg x3)) := by unfold cx_X11_bid; rw [if_pos c_2, if_neg c_32, if_neg c_40]
      exact ev_iret dX11_bid_58 rfl rfl ⟨W, (cx_X11_bid C x1 x2 x3).2, ⟨rfl, by rw [e9]; rfl, rfl⟩, by rw [e9]; exact hT⟩
    · refine ev_iconst (v := (-1)) dX11_bid_43 (by decide) ?_
      have e9 : cx_X11_bid C x1 x2 x3 = ((.inr ((-1))), C) := by unfold cx_X11_bid; rw [if_pos c_2, if_neg c_32, if_pos c_40]
      exact ev_iret dX11_bid_44 rfl rfl ⟨W, (cx_X11_bid C x1 x2 x3).2, ⟨rfl, by rw [e9]; rfl, rfl⟩, by rw [e9]; exact hT⟩
  refine ev_if_eq (tgt := 31) dX11_bid_14 (by decide) (fun c_14 => ?_) (fun c_14 => ?_)
  · refine ev_iconst (v := 0) dX11_bid_31 (by decide) ?_
    exact K_32 g hT _ (by rw [if_pos c_14]; rfl)
  · refine ev_iload_n dX11_bid_17 rfl rfl ?_
    refine ev_iconst (v := 0) dX11_bid_18 (by decide) ?_
    refine ev_bipush (v := 100) dX11_bid_19 (by decide) ?_
    refine ev_pS3 (d' := d - 1) dX11_bid_21 rfl kX11_within lX11_80 sX11_within (Nat.le_of_ble_eq_true rfl) (by omega) (c_X11_within) ?_
    refine ev_if_eq (tgt := 31) dX11_bid_24 (by decide) (fun c_24 => ?_) (fun c_24 => ?_)
    · refine ev_iconst (v := 0) dX11_bid_31 (by decide) ?_
      exact K_32 g hT _ (by rw [if_neg c_14, if_pos c_24]; rfl)
    · refine ev_iconst (v := 1) dX11_bid_27 (by decide) ?_
      refine ev_goto (tgt := 32) dX11_bid_28 (by decide) ?_
      exact K_32 g hT _ (by rw [if_neg c_14, if_neg c_24]; rfl)
def cx_X11_breach (C : mo_S) (x1 : Int32) (x2 : Int32) : cx_Out :=
  (if sp_in x1 0 (C.1 1 0 - 1) = true then (if (mo_b (cx_X11_within x2 0 4)) = 0 then ((.inl "java/lang/IllegalArgumentException"), C) else ((.inr ((cx_X1_field C (x1).toNatClampNeg x2))), C)) else ((.inl "java/lang/IndexOutOfBoundsException"), C))
theorem c_X11_breach {G : ev_G} {W : cw_W} {d D0 : Nat} {C : mo_S} {x1 : Int32} {x2 : Int32} (hE : ev_En G) (h4 : ev_En4 G D0) (hd : 7 ≤ d) : cw_P G W d 1 8 mX11_breach [.ref (W 0 0), .int x1, .int x2] C (cx_X11_breach C x1 x2) := by
  refine cw_startR (lv0 := [some (.ref (W 0 0)), some (.int x1), some (.int x2), none]) (by decide +kernel) rfl (Nat.le_of_ble_eq_true rfl) rfl ?_
  intro K g0 g hT
  have hBP := hT.B.1
  have hBR := hT.B.2.1
  have hBA := hT.B.2.2.2.1
  refine ev_aload_n dX11_breach_0 rfl rfl ?_
  refine ev_iload_n dX11_breach_1 rfl rfl ?_
  refine cw_paperAt hE h4 rfl hT dX11_breach_2 lX11_109 (Nat.le_of_ble_eq_true rfl) (by omega) (by decide) (by decide) (fun c_2 g hT => ?_) (fun q9 c_2 e_2 u_2 hP2 g hT => ?_)
  · have e9 : cx_X11_breach C x1 x2 = ((.inl "java/lang/IndexOutOfBoundsException"), C) := by unfold cx_X11_breach; rw [if_neg (cl_nf c_2)]
    exact ⟨W, (cx_X11_breach C x1 x2).2, ⟨rfl, by rw [e9]; rfl, rfl⟩, by rw [e9]; exact hT⟩
  subst u_2
  refine ev_astore_n dX11_breach_5 rfl (Nat.le_of_ble_eq_true rfl) rfl ?_
  refine ev_iload_n dX11_breach_6 rfl rfl ?_
  refine ev_iconst (v := 0) dX11_breach_7 (by decide) ?_
  refine ev_iconst (v := 4) dX11_breach_8 (by decide) ?_
  refine ev_pS3 (d' := d - 1) dX11_breach_9 rfl kX11_within lX11_80 sX11_within (Nat.le_of_ble_eq_true rfl) (by omega) (c_X11_within) ?_
  refine cw_need hE h4 rfl dX11_breach_12 lX11_85 (Nat.le_of_ble_eq_true rfl) (by omega) (by decide) (by decide) (fun c_12 => ?_) (fun c_12 => ?_)
  · have e9 : cx_X11_breach C x1 x2 = ((.inl "java/lang/IllegalArgumentException"), C) := by unfold cx_X11_breach; rw [if_pos c_2, if_pos c_12]
    exact ⟨W, (cx_X11_breach C x1 x2).2, ⟨rfl, by rw [e9]; rfl, rfl⟩, by rw [e9]; exact hT⟩
  refine ev_aload_n dX11_breach_15 rfl rfl ?_
  refine cw_getf hE hT dX11_breach_16 fX11_270 (k := 20) (i := (x1).toNatClampNeg) hP2 ob20 rfl ?_
  refine ev_iload_n dX11_breach_19 rfl rfl ?_
  refine cw_call1 (d' := d - 1) hE hT dX11_breach_20 rfl kX1_field lX11_274 iX1_field vX1_field (k := 23) (i := (x1).toNatClampNeg) hP2 ob23 rfl (Nat.le_of_ble_eq_true rfl) (by omega) (c_X1_field hE hP2) (fun g hT => ?_)
  have e9 : cx_X11_breach C x1 x2 = ((.inr ((cx_X1_field C (x1).toNatClampNeg x2))), C) := by unfold cx_X11_breach; rw [if_pos c_2, if_neg c_12]
  exact ev_iret dX11_breach_23 rfl rfl ⟨W, (cx_X11_breach C x1 x2).2, ⟨rfl, by rw [e9]; rfl, rfl⟩, by rw [e9]; exact hT⟩
def cx_X11_grant (C : mo_S) (x1 : Int32) (x2 : Int32) : cx_Out :=
  (if sp_in x1 0 (C.1 62 0 - 1) = true then (if (mo_b (cx_X11_within x2 (C.1 2 0) 600)) = 0 then ((.inl "java/lang/IllegalArgumentException"), C) else (if (mo_b (cx_X0_isGranted C (x1).toNatClampNeg)) = 0 then ((.inr (1)), (mo_up C 68 (x1).toNatClampNeg x2)) else ((.inr ((-1))), C))) else ((.inl "java/lang/IndexOutOfBoundsException"), C))
theorem c_X11_grant {G : ev_G} {W : cw_W} {d D0 : Nat} {C : mo_S} {x1 : Int32} {x2 : Int32} (hE : ev_En G) (h4 : ev_En4 G D0) (hd : 7 ≤ d) : cw_P G W d 1 8 mX11_grant [.ref (W 0 0), .int x1, .int x2] C (cx_X11_grant C x1 x2) := by
  refine cw_startR (lv0 := [some (.ref (W 0 0)), some (.int x1), some (.int x2), none]) (by decide +kernel) rfl (Nat.le_of_ble_eq_true rfl) rfl ?_
  intro K g0 g hT
  have hBP := hT.B.1
  have hBR := hT.B.2.1
  have hBA := hT.B.2.2.2.1
  refine ev_aload_n dX11_grant_0 rfl rfl ?_
  refine ev_iload_n dX11_grant_1 rfl rfl ?_
  refine cw_appealAt hE h4 rfl hT dX11_grant_2 lX11_291 (Nat.le_of_ble_eq_true rfl) (by omega) (by decide) (by decide) (fun c_2 g hT => ?_) (fun q9 c_2 e_2 u_2 hA2 g hT => ?_)
  · have e9 : cx_X11_grant C x1 x2 = ((.inl "java/lang/IndexOutOfBoundsException"), C) := by unfold cx_X11_grant; rw [if_neg (cl_nf c_2)]
    exact ⟨W, (cx_X11_grant C x1 x2).2, ⟨rfl, by rw [e9]; rfl, rfl⟩, by rw [e9]; exact hT⟩
  subst u_2
  refine ev_astore_n dX11_grant_5 rfl (Nat.le_of_ble_eq_true rfl) rfl ?_
  refine ev_iload_n dX11_grant_6 rfl rfl ?_
  refine ev_aload_n dX11_grant_7 rfl rfl ?_
  refine cw_getf hE hT dX11_grant_8 fX11_33 (k := 0) (i := 0) rfl ob0 rfl ?_
  refine ev_sipush (v := 600) dX11_grant_11 (by decide) ?_
  refine ev_pS3 (d' := d - 1) dX11_grant_14 rfl kX11_within lX11_80 sX11_within (Nat.le_of_ble_eq_true rfl) (by omega) (c_X11_within) ?_
  refine cw_need hE h4 rfl dX11_grant_17 lX11_85 (Nat.le_of_ble_eq_true rfl) (by omega) (by decide) (by decide) (fun c_17 => ?_) (fun c_17 => ?_)
  · have e9 : cx_X11_grant C x1 x2 = ((.inl "java/lang/IllegalArgumentException"), C) := by unfold cx_X11_grant; rw [if_pos c_2, if_pos c_17]
    exact ⟨W, (cx_X11_grant C x1 x2).2, ⟨rfl, by rw [e9]; rfl, rfl⟩, by rw [e9]; exact hT⟩
  refine ev_aload_n dX11_grant_20 rfl rfl ?_
  refine cw_call0 (d' := d - 1) hE hT dX11_grant_21 rfl kX0_isGranted lX11_299 iX0_isGranted vX0_isGranted (k := 33) (i := (x1).toNatClampNeg) hA2 ob33 rfl (Nat.le_of_ble_eq_true rfl) (by omega) (c_X0_isGranted hE hA2) (fun g hT => ?_)
  refine ev_if_eq (tgt := 29) dX11_grant_24 (by decide) (fun c_24 => ?_) (fun c_24 => ?_)
  · refine ev_aload_n dX11_grant_29 rfl rfl ?_
    refine ev_iload_n dX11_grant_30 rfl rfl ?_
    refine cw_putf (k := 33) (i := (x1).toNatClampNeg) (f := 68) (x := (x1).toNatClampNeg) hE hT dX11_grant_31 pX11_302 hA2 ob33 (Nat.le_of_ble_eq_true rfl) rfl rfl rfl (by decide) (by decide) pu33_4 (fun g hT => ?_)
    refine ev_iconst (v := 1) dX11_grant_34 (by decide) ?_
    have e9 : cx_X11_grant C x1 x2 = ((.inr (1)), (mo_up C 68 (x1).toNatClampNeg x2)) := by unfold cx_X11_grant; rw [if_pos c_2, if_neg c_17, if_pos c_24]
    exact ev_iret dX11_grant_35 rfl rfl ⟨W, (cx_X11_grant C x1 x2).2, ⟨rfl, by rw [e9]; rfl, rfl⟩, by rw [e9]; exact hT⟩
  · refine ev_iconst (v := (-1)) dX11_grant_27 (by decide) ?_
    have e9 : cx_X11_grant C x1 x2 = ((.inr ((-1))), C) := by unfold cx_X11_grant; rw [if_pos c_2, if_neg c_17, if_neg c_24]
    exact ev_iret dX11_grant_28 rfl rfl ⟨W, (cx_X11_grant C x1 x2).2, ⟨rfl, by rw [e9]; rfl, rfl⟩, by rw [e9]; exact hT⟩
def cx_X11_steal (C : mo_S) (x1 : Int32) : cx_Out :=
  (if sp_in x1 0 (C.1 21 0 - 1) = true then (if (C.1 23 (x1).toNatClampNeg) = (-2) then ((.inr ((-3))), C) else (if (C.1 23 (x1).toNatClampNeg) < 0 then ((.inr ((C.1 23 (x1).toNatClampNeg))), (mo_up C 23 (x1).toNatClampNeg (-2))) else (if (C.1 1 0) ≤ (C.1 23 (x1).toNatClampNeg) then ((.inr ((C.1 23 (x1).toNatClampNeg))), (mo_up C 23 (x1).toNatClampNeg (-2))) else ((.inr ((C.1 23 (x1).toNatClampNeg))), (mo_up (mo_up C 10 (C.1 23 (x1).toNatClampNeg).toNatClampNeg (cj_max ((C.1 10 (C.1 23 (x1).toNatClampNeg).toNatClampNeg) - (C.1 22 (x1).toNatClampNeg)) 0)) 23 (x1).toNatClampNeg (-2)))))) else ((.inl "java/lang/IndexOutOfBoundsException"), C))
theorem c_X11_steal {G : ev_G} {W : cw_W} {d D0 : Nat} {C : mo_S} {x1 : Int32} (hE : ev_En G) (h4 : ev_En4 G D0) (hd : 7 ≤ d) : cw_P G W d 1 8 mX11_steal [.ref (W 0 0), .int x1] C (cx_X11_steal C x1) := by
  refine cw_startR (lv0 := [some (.ref (W 0 0)), some (.int x1), none, none, none]) (by decide +kernel) rfl (Nat.le_of_ble_eq_true rfl) rfl ?_
  intro K g0 g hT
  have hBP := hT.B.1
  have hBR := hT.B.2.1
  have hBA := hT.B.2.2.2.1
  refine ev_aload_n dX11_steal_0 rfl rfl ?_
  refine ev_iload_n dX11_steal_1 rfl rfl ?_
  refine cw_reelAt hE h4 rfl hT dX11_steal_2 lX11_131 (Nat.le_of_ble_eq_true rfl) (by omega) (by decide) (by decide) (fun c_2 g hT => ?_) (fun q9 c_2 e_2 u_2 hR2 g hT => ?_)
  · have e9 : cx_X11_steal C x1 = ((.inl "java/lang/IndexOutOfBoundsException"), C) := by unfold cx_X11_steal; rw [if_neg (cl_nf c_2)]
    exact ⟨W, (cx_X11_steal C x1).2, ⟨rfl, by rw [e9]; rfl, rfl⟩, by rw [e9]; exact hT⟩
  subst u_2
  refine ev_astore_n dX11_steal_5 rfl (Nat.le_of_ble_eq_true rfl) rfl ?_
  refine ev_aload_n dX11_steal_6 rfl rfl ?_
  refine cw_getf hE hT dX11_steal_7 fX11_135 (k := 27) (i := (x1).toNatClampNeg) hR2 ob27 rfl ?_
  refine ev_istore_n dX11_steal_10 rfl (Nat.le_of_ble_eq_true rfl) rfl ?_
  refine ev_iload_n dX11_steal_11 rfl rfl ?_
  refine ev_bipush (v := (-2)) dX11_steal_12 (by decide) ?_
  refine ev_icmp_ne (tgt := 20) dX11_steal_14 (by decide) (fun c_14 => ?_) (fun c_14 => ?_)
  · refine ev_iload_n dX11_steal_20 rfl rfl ?_
    refine ev_if_lt (tgt := 67) dX11_steal_21 (by decide) (fun c_21 => ?_) (fun c_21 => ?_)
    · refine ev_aload_n dX11_steal_67 rfl rfl ?_
      refine ev_bipush (v := (-2)) dX11_steal_68 (by decide) ?_
      refine cw_putf (k := 27) (i := (x1).toNatClampNeg) (f := 23) (x := (x1).toNatClampNeg) hE hT dX11_steal_70 pX11_135 hR2 ob27 (Nat.le_of_ble_eq_true rfl) rfl rfl rfl (by decide) (by decide) pu27_1 (fun g hT => ?_)
      refine ev_iload_n dX11_steal_73 rfl rfl ?_
      have e9 : cx_X11_steal C x1 = ((.inr ((C.1 23 (x1).toNatClampNeg))), (mo_up C 23 (x1).toNatClampNeg (-2))) := by unfold cx_X11_steal; rw [if_pos c_2, if_neg c_14, if_pos c_21]
      exact ev_iret dX11_steal_74 rfl rfl ⟨W, (cx_X11_steal C x1).2, ⟨rfl, by rw [e9]; rfl, rfl⟩, by rw [e9]; exact hT⟩
    · refine ev_iload_n dX11_steal_24 rfl rfl ?_
      refine ev_aload_n dX11_steal_25 rfl rfl ?_
      refine cw_getf hE hT dX11_steal_26 fX11_10 (k := 0) (i := 0) rfl ob0 rfl ?_
      refine cw_size (l := 0) (v := (C.1 1 0)) hE hT dX11_steal_29 lX11_89 (by decide) (Nat.le_of_ble_eq_true rfl) (by omega) rfl ?_
      refine ev_icmp_ge (tgt := 67) dX11_steal_32 (by decide) (fun c_32 => ?_) (fun c_32 => ?_)
      · refine ev_aload_n dX11_steal_67 rfl rfl ?_
        refine ev_bipush (v := (-2)) dX11_steal_68 (by decide) ?_
        refine cw_putf (k := 27) (i := (x1).toNatClampNeg) (f := 23) (x := (x1).toNatClampNeg) hE hT dX11_steal_70 pX11_135 hR2 ob27 (Nat.le_of_ble_eq_true rfl) rfl rfl rfl (by decide) (by decide) pu27_1 (fun g hT => ?_)
        refine ev_iload_n dX11_steal_73 rfl rfl ?_
        have e9 : cx_X11_steal C x1 = ((.inr ((C.1 23 (x1).toNatClampNeg))), (mo_up C 23 (x1).toNatClampNeg (-2))) := by unfold cx_X11_steal; rw [if_pos c_2, if_neg c_14, if_neg c_21, if_pos c_32]
        exact ev_iret dX11_steal_74 rfl rfl ⟨W, (cx_X11_steal C x1).2, ⟨rfl, by rw [e9]; rfl, rfl⟩, by rw [e9]; exact hT⟩
      · obtain ⟨eN, hN⟩ := cl_in_n hBP.1 hBP.2 (by decide) (cl_in_ok hBP.1 hBP.2 (by decide) c_21 (Int32.not_le.mp c_32))
        refine ev_aload_n dX11_steal_35 rfl rfl ?_
        refine cw_getf hE hT dX11_steal_36 fX11_10 (k := 0) (i := 0) rfl ob0 rfl ?_
        refine ev_iload_n dX11_steal_39 rfl rfl ?_
        refine cw_get (l := 0) (q := (C.1 23 (x1).toNatClampNeg).toNatClampNeg) hE hT dX11_steal_40 lX11_138 (by decide) eN hN (Nat.le_of_ble_eq_true rfl) (by omega) ?_
        refine ev_cast hE dX11_steal_43 lkX11_100 ((hT.at (k := 20) (i := (C.1 23 (x1).toNatClampNeg).toNatClampNeg) hN).1 _ _ ob20) rfl ?_
        refine ev_astore dX11_steal_46 (Nat.le_of_ble_eq_true rfl) rfl ?_
        refine ev_aload dX11_steal_48 rfl ?_
        refine ev_aload dX11_steal_50 rfl ?_
        refine cw_getf hE hT dX11_steal_52 fX11_142 (k := 20) (i := (C.1 23 (x1).toNatClampNeg).toNatClampNeg) hN ob20 rfl ?_
        refine ev_aload_n dX11_steal_55 rfl rfl ?_
        refine cw_getf hE hT dX11_steal_56 fX11_145 (k := 27) (i := (x1).toNatClampNeg) hR2 ob27 rfl ?_
        refine ev_isub dX11_steal_59 ?_
        refine ev_iconst (v := 0) dX11_steal_60 (by decide) ?_
        refine ev_mmax dX11_steal_61 lX11_148 (Nat.le_of_ble_eq_true rfl) (by omega) ?_
        refine cw_putf (k := 20) (i := (C.1 23 (x1).toNatClampNeg).toNatClampNeg) (f := 10) (x := (C.1 23 (x1).toNatClampNeg).toNatClampNeg) hE hT dX11_steal_64 pX11_142 hN ob20 (Nat.le_of_ble_eq_true rfl) rfl rfl rfl (by decide) (by decide) pu20_7 (fun g hT => ?_)
        refine ev_aload_n dX11_steal_67 rfl rfl ?_
        refine ev_bipush (v := (-2)) dX11_steal_68 (by decide) ?_
        refine cw_putf (k := 27) (i := (x1).toNatClampNeg) (f := 23) (x := (x1).toNatClampNeg) hE hT dX11_steal_70 pX11_135 hR2 ob27 (Nat.le_of_ble_eq_true rfl) rfl rfl rfl (by decide) (by decide) pu27_1 (fun g hT => ?_)
        refine ev_iload_n dX11_steal_73 rfl rfl ?_
        have e9 : cx_X11_steal C x1 = ((.inr ((C.1 23 (x1).toNatClampNeg))), (mo_up (mo_up C 10 (C.1 23 (x1).toNatClampNeg).toNatClampNeg (cj_max ((C.1 10 (C.1 23 (x1).toNatClampNeg).toNatClampNeg) - (C.1 22 (x1).toNatClampNeg)) 0)) 23 (x1).toNatClampNeg (-2))) := by unfold cx_X11_steal; rw [if_pos c_2, if_neg c_14, if_neg c_21, if_neg c_32]
        exact ev_iret dX11_steal_74 rfl rfl ⟨W, (cx_X11_steal C x1).2, ⟨rfl, by rw [e9]; rfl, rfl⟩, by rw [e9]; exact hT⟩
  · refine ev_bipush (v := (-3)) dX11_steal_17 (by decide) ?_
    have e9 : cx_X11_steal C x1 = ((.inr ((-3))), C) := by unfold cx_X11_steal; rw [if_pos c_2, if_pos c_14]
    exact ev_iret dX11_steal_19 rfl rfl ⟨W, (cx_X11_steal C x1).2, ⟨rfl, by rw [e9]; rfl, rfl⟩, by rw [e9]; exact hT⟩
def cx_X11_ward (C : mo_S) (x1 : Int32) : cx_Out :=
  (if (mo_b (cx_X11_within x1 0 1000)) = 0 then ((.inl "java/lang/IllegalArgumentException"), C) else (if (C.1 24 0) < 5 then ((.inr ((((C.1 24 0) + 1) - 1))), (mo_up (mo_up C 25 (sp_W C) x1) 24 0 ((C.1 24 0) + 1))) else ((.inr ((-1))), C)))
theorem c_X11_ward {G : ev_G} {W : cw_W} {d D0 : Nat} {C : mo_S} {x1 : Int32} (hE : ev_En G) (h4 : ev_En4 G D0) (hd : 7 ≤ d) (hW : C.1 24 0 = nI (sp_W C)) (hW2 : sp_W C ≤ 5) : cw_P G W d 1 8 mX11_ward [.ref (W 0 0), .int x1] C (cx_X11_ward C x1) := by
  refine cw_startR (lv0 := [some (.ref (W 0 0)), some (.int x1)]) (by decide +kernel) rfl (Nat.le_of_ble_eq_true rfl) rfl ?_
  intro K g0 g hT
  have hBP := hT.B.1
  have hBR := hT.B.2.1
  have hBA := hT.B.2.2.2.1
  refine ev_iload_n dX11_ward_0 rfl rfl ?_
  refine ev_iconst (v := 0) dX11_ward_1 (by decide) ?_
  refine ev_sipush (v := 1000) dX11_ward_2 (by decide) ?_
  refine ev_pS3 (d' := d - 1) dX11_ward_5 rfl kX11_within lX11_80 sX11_within (Nat.le_of_ble_eq_true rfl) (by omega) (c_X11_within) ?_
  refine cw_need hE h4 rfl dX11_ward_8 lX11_85 (Nat.le_of_ble_eq_true rfl) (by omega) (by decide) (by decide) (fun c_8 => ?_) (fun c_8 => ?_)
  · have e9 : cx_X11_ward C x1 = ((.inl "java/lang/IllegalArgumentException"), C) := by unfold cx_X11_ward; rw [if_pos c_8]
    exact ⟨W, (cx_X11_ward C x1).2, ⟨rfl, by rw [e9]; rfl, rfl⟩, by rw [e9]; exact hT⟩
  refine ev_aload_n dX11_ward_11 rfl rfl ?_
  refine cw_getf hE hT dX11_ward_12 fX11_29 (k := 0) (i := 0) rfl ob0 rfl ?_
  refine ev_if_lt (tgt := 30) dX11_ward_15 (by decide) (fun c_15 => ?_) (fun c_15 => ?_)
  · exact absurd (show nI (sp_W C) < 0 by rw [← hW]; exact c_15) (nI_pos (by omega))
  · refine ev_aload_n dX11_ward_18 rfl rfl ?_
    refine cw_getf hE hT dX11_ward_19 fX11_29 (k := 0) (i := 0) rfl ob0 rfl ?_
    refine ev_aload_n dX11_ward_22 rfl rfl ?_
    refine cw_getf hE hT dX11_ward_23 fX11_25 (k := 0) (i := 0) rfl ob0 rfl ?_
    refine cw_alenv (n := 5) (v := 5) hE hT dX11_ward_26 (k := 3) (i := 0) rfl ar3 rfl ?_
    refine ev_icmp_lt (tgt := 32) dX11_ward_27 (by decide) (fun c_27 => ?_) (fun c_27 => ?_)
    · have h5 : sp_W C < 5 := Nat.lt_of_not_le fun q => absurd (show nI (sp_W C) < nI 5 by rw [← hW]; exact c_27) (nI_nlt (a := sp_W C) (b := 5) q (by omega))
      refine ev_aload_n dX11_ward_32 rfl rfl ?_
      refine cw_getf hE hT dX11_ward_33 fX11_25 (k := 0) (i := 0) rfl ob0 rfl ?_
      refine ev_aload_n dX11_ward_36 rfl rfl ?_
      refine cw_getf hE hT dX11_ward_37 fX11_29 (k := 0) (i := 0) rfl ob0 rfl ?_
      refine ev_iload_n dX11_ward_40 rfl rfl ?_
      refine cw_ias (q := (sp_W C)) (f := 25) (ix := (sp_W C)) hE hT dX11_ward_41 (k := 3) (i := 0) rfl ar3 hW h5 (by decide) rfl (by decide) (by decide) (pa3 (i := 0)) (fun g hT => ?_)
      refine ev_aload_n dX11_ward_42 rfl rfl ?_
      refine ev_dup dX11_ward_43 rfl ?_
      refine cw_geti (v2 := (C.1 24 0)) hE hT dX11_ward_44 fX11_29 (k := 0) (i := 0) rfl ob0 rfl (by simp [mo_up]) ?_
      refine ev_iconst (v := 1) dX11_ward_47 (by decide) ?_
      refine ev_iadd dX11_ward_48 ?_
      refine cw_putf (k := 0) (i := 0) (f := 24) (x := 0) hE hT dX11_ward_49 pX11_29 rfl ob0 (Nat.le_of_ble_eq_true rfl) rfl rfl rfl (by decide) (by decide) pu0_5 (fun g hT => ?_)
      refine ev_aload_n dX11_ward_52 rfl rfl ?_
      refine cw_geti (v2 := ((C.1 24 0) + 1)) hE hT dX11_ward_53 fX11_29 (k := 0) (i := 0) rfl ob0 rfl (by simp [mo_up]) ?_
      refine ev_iconst (v := 1) dX11_ward_56 (by decide) ?_
      refine ev_isub dX11_ward_57 ?_
      have e9 : cx_X11_ward C x1 = ((.inr ((((C.1 24 0) + 1) - 1))), (mo_up (mo_up C 25 (sp_W C) x1) 24 0 ((C.1 24 0) + 1))) := by unfold cx_X11_ward; rw [if_neg c_8, if_pos c_27]
      exact ev_iret dX11_ward_58 rfl rfl ⟨W, (cx_X11_ward C x1).2, ⟨rfl, by rw [e9]; rfl, rfl⟩, by rw [e9]; exact hT⟩
    · refine ev_iconst (v := (-1)) dX11_ward_30 (by decide) ?_
      have e9 : cx_X11_ward C x1 = ((.inr ((-1))), C) := by unfold cx_X11_ward; rw [if_neg c_8, if_neg c_27]
      exact ev_iret dX11_ward_31 rfl rfl ⟨W, (cx_X11_ward C x1).2, ⟨rfl, by rw [e9]; rfl, rfl⟩, by rw [e9]; exact hT⟩
def cx_X11_loyal (C : mo_S) (x1 : Int32) (x2 : Int32) (x3 : Int32) : cx_Out :=
  (if sp_in x2 0 (C.1 1 0 - 1) = true then (if x1 < 0 then ((.inl "java/lang/IndexOutOfBoundsException"), C) else (if (C.1 24 0) ≤ x1 then ((.inl "java/lang/IndexOutOfBoundsException"), C) else (if (mo_b (cx_X11_within x3 0 100)) = 0 then ((.inl "java/lang/IllegalArgumentException"), C) else ((.inr ((C.1 26 (12 * (x1).toNatClampNeg + (x2).toNatClampNeg)))), (mo_up C 26 (12 * (x1).toNatClampNeg + (x2).toNatClampNeg) x3))))) else ((.inl "java/lang/IndexOutOfBoundsException"), C))
theorem c_X11_loyal {G : ev_G} {W : cw_W} {d D0 : Nat} {C : mo_S} {x1 : Int32} {x2 : Int32} {x3 : Int32} (hE : ev_En G) (h4 : ev_En4 G D0) (hd : 7 ≤ d) (hW : C.1 24 0 = nI (sp_W C)) (hW2 : sp_W C ≤ 5) : cw_P G W d 1 8 mX11_loyal [.ref (W 0 0), .int x1, .int x2, .int x3] C (cx_X11_loyal C x1 x2 x3) := by
  refine cw_startR (lv0 := [some (.ref (W 0 0)), some (.int x1), some (.int x2), some (.int x3), none, none]) (by decide +kernel) rfl (Nat.le_of_ble_eq_true rfl) rfl ?_
  intro K g0 g hT
  have hBP := hT.B.1
  have hBR := hT.B.2.1
  have hBA := hT.B.2.2.2.1
  refine ev_aload_n dX11_loyal_0 rfl rfl ?_
  refine ev_iload_n dX11_loyal_1 rfl rfl ?_
  refine cw_paperAt hE h4 rfl hT dX11_loyal_2 lX11_109 (Nat.le_of_ble_eq_true rfl) (by omega) (by decide) (by decide) (fun c_2 g hT => ?_) (fun q9 c_2 e_2 u_2 hP2 g hT => ?_)
  · have e9 : cx_X11_loyal C x1 x2 x3 = ((.inl "java/lang/IndexOutOfBoundsException"), C) := by unfold cx_X11_loyal; rw [if_neg (cl_nf c_2)]
    exact ⟨W, (cx_X11_loyal C x1 x2 x3).2, ⟨rfl, by rw [e9]; rfl, rfl⟩, by rw [e9]; exact hT⟩
  subst u_2
  refine ev_astore dX11_loyal_5 (Nat.le_of_ble_eq_true rfl) rfl ?_
  refine ev_iload_n dX11_loyal_7 rfl rfl ?_
  refine ev_if_lt (tgt := 29) dX11_loyal_8 (by decide) (fun c_8 => ?_) (fun c_8 => ?_)
  · refine ev_throwS hE h4 rfl rfl dX11_loyal_29 dX11_loyal_32 dX11_loyal_33 dX11_loyal_35 dX11_loyal_38 (by decide) lkX11_156 ini_IndexOutOfBoundsException ev_th_160 (by decide +kernel) (by decide +kernel) (by omega) (Nat.le_of_ble_eq_true rfl) (by decide) (by decide) ?_
    have e9 : cx_X11_loyal C x1 x2 x3 = ((.inl "java/lang/IndexOutOfBoundsException"), C) := by unfold cx_X11_loyal; rw [if_pos c_2, if_pos c_8]
    exact ⟨W, (cx_X11_loyal C x1 x2 x3).2, ⟨rfl, by rw [e9]; rfl, rfl⟩, by rw [e9]; exact hT⟩
  · refine ev_iload_n dX11_loyal_11 rfl rfl ?_
    refine ev_aload_n dX11_loyal_12 rfl rfl ?_
    refine cw_getf hE hT dX11_loyal_13 fX11_29 (k := 0) (i := 0) rfl ob0 rfl ?_
    refine ev_icmp_ge (tgt := 29) dX11_loyal_16 (by decide) (fun c_16 => ?_) (fun c_16 => ?_)
    · refine ev_throwS hE h4 rfl rfl dX11_loyal_29 dX11_loyal_32 dX11_loyal_33 dX11_loyal_35 dX11_loyal_38 (by decide) lkX11_156 ini_IndexOutOfBoundsException ev_th_160 (by decide +kernel) (by decide +kernel) (by omega) (Nat.le_of_ble_eq_true rfl) (by decide) (by decide) ?_
      have e9 : cx_X11_loyal C x1 x2 x3 = ((.inl "java/lang/IndexOutOfBoundsException"), C) := by unfold cx_X11_loyal; rw [if_pos c_2, if_neg c_8, if_pos c_16]
      exact ⟨W, (cx_X11_loyal C x1 x2 x3).2, ⟨rfl, by rw [e9]; rfl, rfl⟩, by rw [e9]; exact hT⟩
    · obtain ⟨eW, hWq⟩ := cl_in_n hW hW2 (by decide) (cl_in_ok hW hW2 (by decide) c_8 (Int32.not_le.mp c_16))
      have h5 : (x1).toNatClampNeg < 5 := by omega
      refine ev_iload_n dX11_loyal_19 rfl rfl ?_
      refine ev_aload dX11_loyal_20 rfl ?_
      refine cw_getf hE hT dX11_loyal_22 fX11_153 (k := 20) (i := (x2).toNatClampNeg) hP2 ob20 rfl ?_
      refine cw_alenv (n := 5) (v := 5) hE hT dX11_loyal_25 (k := 21) (i := (x2).toNatClampNeg) hP2 ar21 rfl ?_
      refine ev_icmp_lt (tgt := 39) dX11_loyal_26 (by decide) (fun c_26 => ?_) (fun c_26 => ?_)
      · refine ev_iload_n dX11_loyal_39 rfl rfl ?_
        refine ev_iconst (v := 0) dX11_loyal_40 (by decide) ?_
        refine ev_bipush (v := 100) dX11_loyal_41 (by decide) ?_
        refine ev_pS3 (d' := d - 1) dX11_loyal_43 rfl kX11_within lX11_80 sX11_within (Nat.le_of_ble_eq_true rfl) (by omega) (c_X11_within) ?_
        refine cw_need hE h4 rfl dX11_loyal_46 lX11_85 (Nat.le_of_ble_eq_true rfl) (by omega) (by decide) (by decide) (fun c_46 => ?_) (fun c_46 => ?_)
        · have e9 : cx_X11_loyal C x1 x2 x3 = ((.inl "java/lang/IllegalArgumentException"), C) := by unfold cx_X11_loyal; rw [if_pos c_2, if_neg c_8, if_neg c_16, if_pos c_46]
          exact ⟨W, (cx_X11_loyal C x1 x2 x3).2, ⟨rfl, by rw [e9]; rfl, rfl⟩, by rw [e9]; exact hT⟩
        refine ev_aload dX11_loyal_49 rfl ?_
        refine cw_getf hE hT dX11_loyal_51 fX11_153 (k := 20) (i := (x2).toNatClampNeg) hP2 ob20 rfl ?_
        refine ev_iload_n dX11_loyal_54 rfl rfl ?_
        refine cw_ial (q := (x1).toNatClampNeg) (v := (C.1 26 (12 * (x1).toNatClampNeg + (x2).toNatClampNeg))) hE hT dX11_loyal_55 (k := 21) (i := (x2).toNatClampNeg) hP2 ar21 eW h5 (by decide) rfl ?_
        refine ev_istore dX11_loyal_56 (Nat.le_of_ble_eq_true rfl) rfl ?_
        refine ev_aload dX11_loyal_58 rfl ?_
        refine cw_getf hE hT dX11_loyal_60 fX11_153 (k := 20) (i := (x2).toNatClampNeg) hP2 ob20 rfl ?_
        refine ev_iload_n dX11_loyal_63 rfl rfl ?_
        refine ev_iload_n dX11_loyal_64 rfl rfl ?_
        refine cw_ias (q := (x1).toNatClampNeg) (f := 26) (ix := (12 * (x1).toNatClampNeg + (x2).toNatClampNeg)) hE hT dX11_loyal_65 (k := 21) (i := (x2).toNatClampNeg) hP2 ar21 eW h5 (by decide) (by show (21, (12 * (x1).toNatClampNeg + (x2).toNatClampNeg) % 12) = (21, (x2).toNatClampNeg); rw [Nat.mul_add_mod, Nat.mod_eq_of_lt (by omega)]) (by decide) (by decide) (pa21 (i := (x2).toNatClampNeg)) (fun g hT => ?_)
        refine ev_iload dX11_loyal_66 rfl ?_
        have e9 : cx_X11_loyal C x1 x2 x3 = ((.inr ((C.1 26 (12 * (x1).toNatClampNeg + (x2).toNatClampNeg)))), (mo_up C 26 (12 * (x1).toNatClampNeg + (x2).toNatClampNeg) x3)) := by unfold cx_X11_loyal; rw [if_pos c_2, if_neg c_8, if_neg c_16, if_neg c_46]
        exact ev_iret dX11_loyal_68 rfl rfl ⟨W, (cx_X11_loyal C x1 x2 x3).2, ⟨rfl, by rw [e9]; rfl, rfl⟩, by rw [e9]; exact hT⟩
      · exact absurd (by rw [eW]; exact nI_lt (b := 5) h5 (by decide)) c_26
def cx_X11_demand (C : mo_S) (x1 : Int32) (x2 : Int32) : cx_Out :=
  (if sp_in x1 0 (C.1 1 0 - 1) = true then (if (mo_b (cx_X11_within x2 1 100)) = 0 then ((.inl "java/lang/IllegalArgumentException"), C) else ((.inr ((sp_demand C (x1).toNatClampNeg x2 (sp_W C)))), C)) else ((.inl "java/lang/IndexOutOfBoundsException"), C))
theorem c_X11_demand {G : ev_G} {W : cw_W} {d D0 : Nat} {C : mo_S} {x1 : Int32} {x2 : Int32} (hE : ev_En G) (h4 : ev_En4 G D0) (hd : 7 ≤ d) (hW : C.1 24 0 = nI (sp_W C)) (hW2 : sp_W C ≤ 5) : cw_P G W d 1 8 mX11_demand [.ref (W 0 0), .int x1, .int x2] C (cx_X11_demand C x1 x2) := by
  refine cw_startR (lv0 := [some (.ref (W 0 0)), some (.int x1), some (.int x2), none]) (by decide +kernel) rfl (Nat.le_of_ble_eq_true rfl) rfl ?_
  intro K g0 g hT
  have hBP := hT.B.1
  have hBR := hT.B.2.1
  have hBA := hT.B.2.2.2.1
  refine ev_aload_n dX11_demand_0 rfl rfl ?_
  refine ev_iload_n dX11_demand_1 rfl rfl ?_
  refine cw_paperAt hE h4 rfl hT dX11_demand_2 lX11_109 (Nat.le_of_ble_eq_true rfl) (by omega) (by decide) (by decide) (fun c_2 g hT => ?_) (fun q9 c_2 e_2 u_2 hP2 g hT => ?_)
  · have e9 : cx_X11_demand C x1 x2 = ((.inl "java/lang/IndexOutOfBoundsException"), C) := by unfold cx_X11_demand; rw [if_neg (cl_nf c_2)]
    exact ⟨W, (cx_X11_demand C x1 x2).2, ⟨rfl, by rw [e9]; rfl, rfl⟩, by rw [e9]; exact hT⟩
  subst u_2
  refine ev_astore_n dX11_demand_5 rfl (Nat.le_of_ble_eq_true rfl) rfl ?_
  refine ev_iload_n dX11_demand_6 rfl rfl ?_
  refine ev_iconst (v := 1) dX11_demand_7 (by decide) ?_
  refine ev_bipush (v := 100) dX11_demand_8 (by decide) ?_
  refine ev_pS3 (d' := d - 1) dX11_demand_10 rfl kX11_within lX11_80 sX11_within (Nat.le_of_ble_eq_true rfl) (by omega) (c_X11_within) ?_
  refine cw_need hE h4 rfl dX11_demand_13 lX11_85 (Nat.le_of_ble_eq_true rfl) (by omega) (by decide) (by decide) (fun c_13 => ?_) (fun c_13 => ?_)
  · have e9 : cx_X11_demand C x1 x2 = ((.inl "java/lang/IllegalArgumentException"), C) := by unfold cx_X11_demand; rw [if_pos c_2, if_pos c_13]
    exact ⟨W, (cx_X11_demand C x1 x2).2, ⟨rfl, by rw [e9]; rfl, rfl⟩, by rw [e9]; exact hT⟩
  refine ev_aload_n dX11_demand_16 rfl rfl ?_
  refine ev_aload_n dX11_demand_17 rfl rfl ?_
  refine ev_iload_n dX11_demand_18 rfl rfl ?_
  refine cw_call2 (d' := d - 1) hE hT dX11_demand_19 rfl kX11_demandOf lX11_161 iX11_demandOf vX11_demandOf (k := 0) (i := 0) rfl ob0 rfl (Nat.le_of_ble_eq_true rfl) (by omega) (c_X11_demandOf hE hP2 hW hW2) (fun g hT => ?_)
  have e9 : cx_X11_demand C x1 x2 = ((.inr ((sp_demand C (x1).toNatClampNeg x2 (sp_W C)))), C) := by unfold cx_X11_demand; rw [if_pos c_2, if_neg c_13]
  exact ev_iret dX11_demand_22 rfl rfl ⟨W, (cx_X11_demand C x1 x2).2, ⟨rfl, by rw [e9]; rfl, rfl⟩, by rw [e9]; exact hT⟩
def cx_X11_swap (C : mo_S) (x1 : Int32) (x2 : Int32) (x3 : Int32) : cx_Out :=
  (if sp_in x1 0 (C.1 1 0 - 1) = true then (if sp_in x2 0 (C.1 1 0 - 1) = true then (if (mo_b (cx_X11_within x3 1 100000)) = 0 then ((.inl "java/lang/IllegalArgumentException"), C) else (if (mo_b (cx_X11_areTwoAdmitted C (x1).toNatClampNeg (x2).toNatClampNeg)) = 0 then ((.inr ((-1))), C) else (if x3 ≤ (C.1 10 (x1).toNatClampNeg) then (if (C.1 105 (cx_now C)) = 0 then ((.inr ((-3))), C) else ((.inr (((x3 * (C.1 105 (cx_now C))) / 100))), (cx_X5_takeFrom (mo_up (mo_up C 10 (x1).toNatClampNeg ((C.1 10 (x1).toNatClampNeg) - x3)) 10 (x2).toNatClampNeg (((mo_up C 10 (x1).toNatClampNeg ((C.1 10 (x1).toNatClampNeg) - x3)).1 10 (x2).toNatClampNeg) + ((x3 * (C.1 105 (cx_now C))) / 100))) (x2).toNatClampNeg (x1).toNatClampNeg ((x3 * (C.1 105 (cx_now C))) / 100)))) else ((.inr ((-2))), C)))) else ((.inl "java/lang/IndexOutOfBoundsException"), C)) else ((.inl "java/lang/IndexOutOfBoundsException"), C))
theorem c_X11_swap {G : ev_G} {W : cw_W} {d D0 : Nat} {C : mo_S} {x1 : Int32} {x2 : Int32} {x3 : Int32} (hE : ev_En G) (h4 : ev_En4 G D0) (hd : 7 ≤ d) : cw_P G W d 1 8 mX11_swap [.ref (W 0 0), .int x1, .int x2, .int x3] C (cx_X11_swap C x1 x2 x3) := by
  refine cw_startR (lv0 := [some (.ref (W 0 0)), some (.int x1), some (.int x2), some (.int x3), none, none, none, none]) (by decide +kernel) rfl (Nat.le_of_ble_eq_true rfl) rfl ?_
  intro K g0 g hT
  have hBP := hT.B.1
  have hBR := hT.B.2.1
  have hBA := hT.B.2.2.2.1
  refine ev_aload_n dX11_swap_0 rfl rfl ?_
  refine ev_iload_n dX11_swap_1 rfl rfl ?_
  refine cw_paperAt hE h4 rfl hT dX11_swap_2 lX11_109 (Nat.le_of_ble_eq_true rfl) (by omega) (by decide) (by decide) (fun c_2 g hT => ?_) (fun q9 c_2 e_2 u_2 hP2 g hT => ?_)
  · have e9 : cx_X11_swap C x1 x2 x3 = ((.inl "java/lang/IndexOutOfBoundsException"), C) := by unfold cx_X11_swap; rw [if_neg (cl_nf c_2)]
    exact ⟨W, (cx_X11_swap C x1 x2 x3).2, ⟨rfl, by rw [e9]; rfl, rfl⟩, by rw [e9]; exact hT⟩
  subst u_2
  refine ev_astore dX11_swap_5 (Nat.le_of_ble_eq_true rfl) rfl ?_
  refine ev_aload_n dX11_swap_7 rfl rfl ?_
  refine ev_iload_n dX11_swap_8 rfl rfl ?_
  refine cw_paperAt hE h4 rfl hT dX11_swap_9 lX11_109 (Nat.le_of_ble_eq_true rfl) (by omega) (by decide) (by decide) (fun c_9 g hT => ?_) (fun q9 c_9 e_9 u_9 hP9 g hT => ?_)
  · have e9 : cx_X11_swap C x1 x2 x3 = ((.inl "java/lang/IndexOutOfBoundsException"), C) := by unfold cx_X11_swap; rw [if_pos c_2, if_neg (cl_nf c_9)]
    exact ⟨W, (cx_X11_swap C x1 x2 x3).2, ⟨rfl, by rw [e9]; rfl, rfl⟩, by rw [e9]; exact hT⟩
  subst u_9
  refine ev_astore dX11_swap_12 (Nat.le_of_ble_eq_true rfl) rfl ?_
  refine ev_iload_n dX11_swap_14 rfl rfl ?_
  refine ev_iconst (v := 1) dX11_swap_15 (by decide) ?_
  refine ev_ldc dX11_swap_16 nX11_84 ?_
  refine ev_pS3 (d' := d - 1) dX11_swap_18 rfl kX11_within lX11_80 sX11_within (Nat.le_of_ble_eq_true rfl) (by omega) (c_X11_within) ?_
  refine cw_need hE h4 rfl dX11_swap_21 lX11_85 (Nat.le_of_ble_eq_true rfl) (by omega) (by decide) (by decide) (fun c_21 => ?_) (fun c_21 => ?_)
  · have e9 : cx_X11_swap C x1 x2 x3 = ((.inl "java/lang/IllegalArgumentException"), C) := by unfold cx_X11_swap; rw [if_pos c_2, if_pos c_9, if_pos c_21]
    exact ⟨W, (cx_X11_swap C x1 x2 x3).2, ⟨rfl, by rw [e9]; rfl, rfl⟩, by rw [e9]; exact hT⟩
  refine ev_aload_n dX11_swap_24 rfl rfl ?_
  refine ev_iload_n dX11_swap_25 rfl rfl ?_
  refine ev_iload_n dX11_swap_26 rfl rfl ?_
  refine cw_call2 (d' := d - 1) hE hT dX11_swap_27 rfl kX11_areTwoAdmitted lX11_246 iX11_areTwoAdmitted vX11_areTwoAdmitted (k := 0) (i := 0) rfl ob0 rfl (Nat.le_of_ble_eq_true rfl) (by omega) (by have w9 := (c_X11_areTwoAdmitted (W := W) (d := d - 1) (C := C) (p := (x1).toNatClampNeg) (q := (x2).toNatClampNeg) hE (by omega) hP2 hP9); rw [← e_2] at w9; rw [← e_9] at w9; exact w9) (fun g hT => ?_)
  refine ev_if_ne (tgt := 35) dX11_swap_30 (by decide) (fun c_30 => ?_) (fun c_30 => ?_)
  · refine ev_aload dX11_swap_35 rfl ?_
    refine cw_getf hE hT dX11_swap_37 fX11_142 (k := 20) (i := (x1).toNatClampNeg) hP2 ob20 rfl ?_
    refine ev_iload_n dX11_swap_40 rfl rfl ?_
    refine ev_icmp_ge (tgt := 47) dX11_swap_41 (by decide) (fun c_41 => ?_) (fun c_41 => ?_)
    · refine ev_aload_n dX11_swap_47 rfl rfl ?_
      refine cw_call0 (d' := d - 1) hE hT dX11_swap_48 rfl kX11_orderNow lX11_185 iX11_orderNow vX11_orderNow (k := 0) (i := 0) rfl ob0 rfl (Nat.le_of_ble_eq_true rfl) (by omega) (c_X11_orderNow hE (by omega)) (fun g hT => ?_)
      refine cw_getf hE hT dX11_swap_51 fX11_212 (k := 28) (i := (cx_now C)) (cx_now_ol C) ob28 rfl ?_
      refine ev_istore dX11_swap_54 (Nat.le_of_ble_eq_true rfl) rfl ?_
      refine ev_iload dX11_swap_56 rfl ?_
      refine ev_if_ne (tgt := 64) dX11_swap_58 (by decide) (fun c_58 => ?_) (fun c_58 => ?_)
      · refine ev_iload_n dX11_swap_64 rfl rfl ?_
        refine ev_iload dX11_swap_65 rfl ?_
        refine ev_imul dX11_swap_67 ?_
        refine ev_bipush (v := 100) dX11_swap_68 (by decide) ?_
        refine ev_idiv dX11_swap_70 (by decide) ?_
        refine ev_istore dX11_swap_71 (Nat.le_of_ble_eq_true rfl) rfl ?_
        refine ev_aload dX11_swap_73 rfl ?_
        refine ev_dup dX11_swap_75 rfl ?_
        refine cw_getf hE hT dX11_swap_76 fX11_142 (k := 20) (i := (x1).toNatClampNeg) hP2 ob20 rfl ?_
        refine ev_iload_n dX11_swap_79 rfl rfl ?_
        refine ev_isub dX11_swap_80 ?_
        refine cw_putf (k := 20) (i := (x1).toNatClampNeg) (f := 10) (x := (x1).toNatClampNeg) hE hT dX11_swap_81 pX11_142 hP2 ob20 (Nat.le_of_ble_eq_true rfl) rfl rfl rfl (by decide) (by decide) pu20_7 (fun g hT => ?_)
        refine ev_aload dX11_swap_84 rfl ?_
        refine ev_dup dX11_swap_86 rfl ?_
        refine cw_getf hE hT dX11_swap_87 fX11_142 (k := 20) (i := (x2).toNatClampNeg) hP9 ob20 rfl ?_
        refine ev_iload dX11_swap_90 rfl ?_
        refine ev_iadd dX11_swap_92 ?_
        refine cw_putf (k := 20) (i := (x2).toNatClampNeg) (f := 10) (x := (x2).toNatClampNeg) hE hT dX11_swap_93 pX11_142 hP9 ob20 (Nat.le_of_ble_eq_true rfl) rfl rfl rfl (by decide) (by decide) pu20_7 (fun g hT => ?_)
        refine ev_aload dX11_swap_96 rfl ?_
        refine ev_iload_n dX11_swap_98 rfl rfl ?_
        refine ev_iload dX11_swap_99 rfl ?_
        refine cw_call2 (d' := d - 1) hE hT dX11_swap_101 rfl kX5_takeFrom lX11_249 iX5_takeFrom vX5_takeFrom (k := 20) (i := (x2).toNatClampNeg) hP9 ob20 rfl (Nat.le_of_ble_eq_true rfl) (by omega) (by have w9 := (c_X5_takeFrom (W := W) (d := d - 1) (C := (mo_up (mo_up C 10 (x1).toNatClampNeg ((C.1 10 (x1).toNatClampNeg) - x3)) 10 (x2).toNatClampNeg (((mo_up C 10 (x1).toNatClampNeg ((C.1 10 (x1).toNatClampNeg) - x3)).1 10 (x2).toNatClampNeg) + ((x3 * (C.1 105 (cx_now C))) / 100)))) (q := (x1).toNatClampNeg) (x1 := ((x3 * (C.1 105 (cx_now C))) / 100)) hE hP9 (Nat.lt_of_lt_of_le hP2 hBP.2)); rw [← e_2] at w9; exact w9) (fun g hT => ?_)
        refine ev_iload dX11_swap_104 rfl ?_
        have e9 : cx_X11_swap C x1 x2 x3 = ((.inr (((x3 * (C.1 105 (cx_now C))) / 100))), (cx_X5_takeFrom (mo_up (mo_up C 10 (x1).toNatClampNeg ((C.1 10 (x1).toNatClampNeg) - x3)) 10 (x2).toNatClampNeg (((mo_up C 10 (x1).toNatClampNeg ((C.1 10 (x1).toNatClampNeg) - x3)).1 10 (x2).toNatClampNeg) + ((x3 * (C.1 105 (cx_now C))) / 100))) (x2).toNatClampNeg (x1).toNatClampNeg ((x3 * (C.1 105 (cx_now C))) / 100))) := by unfold cx_X11_swap; rw [if_pos c_2, if_pos c_9, if_neg c_21, if_neg c_30, if_pos c_41, if_neg c_58]
        exact ev_iret dX11_swap_106 rfl rfl ⟨W, (cx_X11_swap C x1 x2 x3).2, ⟨rfl, by rw [e9]; rfl, rfl⟩, by rw [e9]; exact hT⟩
      · refine ev_bipush (v := (-3)) dX11_swap_61 (by decide) ?_
        have e9 : cx_X11_swap C x1 x2 x3 = ((.inr ((-3))), C) := by unfold cx_X11_swap; rw [if_pos c_2, if_pos c_9, if_neg c_21, if_neg c_30, if_pos c_41, if_pos c_58]
        exact ev_iret dX11_swap_63 rfl rfl ⟨W, (cx_X11_swap C x1 x2 x3).2, ⟨rfl, by rw [e9]; rfl, rfl⟩, by rw [e9]; exact hT⟩
    · refine ev_bipush (v := (-2)) dX11_swap_44 (by decide) ?_
      have e9 : cx_X11_swap C x1 x2 x3 = ((.inr ((-2))), C) := by unfold cx_X11_swap; rw [if_pos c_2, if_pos c_9, if_neg c_21, if_neg c_30, if_neg c_41]
      exact ev_iret dX11_swap_46 rfl rfl ⟨W, (cx_X11_swap C x1 x2 x3).2, ⟨rfl, by rw [e9]; rfl, rfl⟩, by rw [e9]; exact hT⟩
  · refine ev_iconst (v := (-1)) dX11_swap_33 (by decide) ?_
    have e9 : cx_X11_swap C x1 x2 x3 = ((.inr ((-1))), C) := by unfold cx_X11_swap; rw [if_pos c_2, if_pos c_9, if_neg c_21, if_pos c_30]
    exact ev_iret dX11_swap_34 rfl rfl ⟨W, (cx_X11_swap C x1 x2 x3).2, ⟨rfl, by rw [e9]; rfl, rfl⟩, by rw [e9]; exact hT⟩
def cx_X11_netted (C : mo_S) (x1 : Int32) (x2 : Int32) : cx_Out :=
  (if sp_in x1 0 (C.1 1 0 - 1) = true then (if sp_in x2 0 (C.1 1 0 - 1) = true then ((.inr (((cx_X5_tookFrom C (x1).toNatClampNeg (x2).toNatClampNeg) - (cx_X5_tookFrom C (x2).toNatClampNeg (x1).toNatClampNeg)))), C) else ((.inl "java/lang/IndexOutOfBoundsException"), C)) else ((.inl "java/lang/IndexOutOfBoundsException"), C))
theorem c_X11_netted {G : ev_G} {W : cw_W} {d D0 : Nat} {C : mo_S} {x1 : Int32} {x2 : Int32} (hE : ev_En G) (h4 : ev_En4 G D0) (hd : 7 ≤ d) : cw_P G W d 1 8 mX11_netted [.ref (W 0 0), .int x1, .int x2] C (cx_X11_netted C x1 x2) := by
  refine cw_startR (lv0 := [some (.ref (W 0 0)), some (.int x1), some (.int x2), none, none]) (by decide +kernel) rfl (Nat.le_of_ble_eq_true rfl) rfl ?_
  intro K g0 g hT
  have hBP := hT.B.1
  have hBR := hT.B.2.1
  have hBA := hT.B.2.2.2.1
  refine ev_aload_n dX11_netted_0 rfl rfl ?_
  refine ev_iload_n dX11_netted_1 rfl rfl ?_
  refine cw_paperAt hE h4 rfl hT dX11_netted_2 lX11_109 (Nat.le_of_ble_eq_true rfl) (by omega) (by decide) (by decide) (fun c_2 g hT => ?_) (fun q9 c_2 e_2 u_2 hP2 g hT => ?_)
  · have e9 : cx_X11_netted C x1 x2 = ((.inl "java/lang/IndexOutOfBoundsException"), C) := by unfold cx_X11_netted; rw [if_neg (cl_nf c_2)]
    exact ⟨W, (cx_X11_netted C x1 x2).2, ⟨rfl, by rw [e9]; rfl, rfl⟩, by rw [e9]; exact hT⟩
  subst u_2
  refine ev_astore_n dX11_netted_5 rfl (Nat.le_of_ble_eq_true rfl) rfl ?_
  refine ev_aload_n dX11_netted_6 rfl rfl ?_
  refine ev_iload_n dX11_netted_7 rfl rfl ?_
  refine cw_paperAt hE h4 rfl hT dX11_netted_8 lX11_109 (Nat.le_of_ble_eq_true rfl) (by omega) (by decide) (by decide) (fun c_8 g hT => ?_) (fun q9 c_8 e_8 u_8 hP8 g hT => ?_)
  · have e9 : cx_X11_netted C x1 x2 = ((.inl "java/lang/IndexOutOfBoundsException"), C) := by unfold cx_X11_netted; rw [if_pos c_2, if_neg (cl_nf c_8)]
    exact ⟨W, (cx_X11_netted C x1 x2).2, ⟨rfl, by rw [e9]; rfl, rfl⟩, by rw [e9]; exact hT⟩
  subst u_8
  refine ev_astore dX11_netted_11 (Nat.le_of_ble_eq_true rfl) rfl ?_
  refine ev_aload_n dX11_netted_13 rfl rfl ?_
  refine ev_iload_n dX11_netted_14 rfl rfl ?_
  refine cw_call1 (d' := d - 1) hE hT dX11_netted_15 rfl kX5_tookFrom lX11_253 iX5_tookFrom vX5_tookFrom (k := 20) (i := (x1).toNatClampNeg) hP2 ob20 rfl (Nat.le_of_ble_eq_true rfl) (by omega) (by have w9 := (c_X5_tookFrom (W := W) (d := d - 1) (C := C) (q := (x2).toNatClampNeg) hE hP2 (Nat.lt_of_lt_of_le hP8 hBP.2)); rw [← e_8] at w9; exact w9) (fun g hT => ?_)
  refine ev_aload dX11_netted_18 rfl ?_
  refine ev_iload_n dX11_netted_20 rfl rfl ?_
  refine cw_call1 (d' := d - 1) hE hT dX11_netted_21 rfl kX5_tookFrom lX11_253 iX5_tookFrom vX5_tookFrom (k := 20) (i := (x2).toNatClampNeg) hP8 ob20 rfl (Nat.le_of_ble_eq_true rfl) (by omega) (by have w9 := (c_X5_tookFrom (W := W) (d := d - 1) (C := C) (q := (x1).toNatClampNeg) hE hP8 (Nat.lt_of_lt_of_le hP2 hBP.2)); rw [← e_2] at w9; exact w9) (fun g hT => ?_)
  refine ev_isub dX11_netted_24 ?_
  have e9 : cx_X11_netted C x1 x2 = ((.inr (((cx_X5_tookFrom C (x1).toNatClampNeg (x2).toNatClampNeg) - (cx_X5_tookFrom C (x2).toNatClampNeg (x1).toNatClampNeg)))), C) := by unfold cx_X11_netted; rw [if_pos c_2, if_pos c_8]
  exact ev_iret dX11_netted_25 rfl rfl ⟨W, (cx_X11_netted C x1 x2).2, ⟨rfl, by rw [e9]; rfl, rfl⟩, by rw [e9]; exact hT⟩
def cx_X11_apart (C : mo_S) (x1 : Int32) (x2 : Int32) : cx_Out :=
  (if sp_in x1 0 (C.1 62 0 - 1) = true then (if sp_in x2 0 (C.1 62 0 - 1) = true then ((.inr ((cx_X0_farFrom C (x1).toNatClampNeg (x2).toNatClampNeg))), C) else ((.inl "java/lang/IndexOutOfBoundsException"), C)) else ((.inl "java/lang/IndexOutOfBoundsException"), C))
theorem c_X11_apart {G : ev_G} {W : cw_W} {d D0 : Nat} {C : mo_S} {x1 : Int32} {x2 : Int32} (hE : ev_En G) (h4 : ev_En4 G D0) (hd : 7 ≤ d) (hA : ∀ a, a < sp_A C → (C.1 63 a).toNatClampNeg < sp_P C) : cw_P G W d 1 8 mX11_apart [.ref (W 0 0), .int x1, .int x2] C (cx_X11_apart C x1 x2) := by
  refine cw_startR (lv0 := [some (.ref (W 0 0)), some (.int x1), some (.int x2), none, none]) (by decide +kernel) rfl (Nat.le_of_ble_eq_true rfl) rfl ?_
  intro K g0 g hT
  have hBP := hT.B.1
  have hBR := hT.B.2.1
  have hBA := hT.B.2.2.2.1
  refine ev_aload_n dX11_apart_0 rfl rfl ?_
  refine ev_iload_n dX11_apart_1 rfl rfl ?_
  refine cw_appealAt hE h4 rfl hT dX11_apart_2 lX11_291 (Nat.le_of_ble_eq_true rfl) (by omega) (by decide) (by decide) (fun c_2 g hT => ?_) (fun q9 c_2 e_2 u_2 hA2 g hT => ?_)
  · have e9 : cx_X11_apart C x1 x2 = ((.inl "java/lang/IndexOutOfBoundsException"), C) := by unfold cx_X11_apart; rw [if_neg (cl_nf c_2)]
    exact ⟨W, (cx_X11_apart C x1 x2).2, ⟨rfl, by rw [e9]; rfl, rfl⟩, by rw [e9]; exact hT⟩
  subst u_2
  refine ev_astore_n dX11_apart_5 rfl (Nat.le_of_ble_eq_true rfl) rfl ?_
  refine ev_aload_n dX11_apart_6 rfl rfl ?_
  refine ev_iload_n dX11_apart_7 rfl rfl ?_
  refine cw_appealAt hE h4 rfl hT dX11_apart_8 lX11_291 (Nat.le_of_ble_eq_true rfl) (by omega) (by decide) (by decide) (fun c_8 g hT => ?_) (fun q9 c_8 e_8 u_8 hA8 g hT => ?_)
  · have e9 : cx_X11_apart C x1 x2 = ((.inl "java/lang/IndexOutOfBoundsException"), C) := by unfold cx_X11_apart; rw [if_pos c_2, if_neg (cl_nf c_8)]
    exact ⟨W, (cx_X11_apart C x1 x2).2, ⟨rfl, by rw [e9]; rfl, rfl⟩, by rw [e9]; exact hT⟩
  subst u_8
  refine ev_astore dX11_apart_11 (Nat.le_of_ble_eq_true rfl) rfl ?_
  refine ev_aload_n dX11_apart_13 rfl rfl ?_
  refine ev_aload dX11_apart_14 rfl ?_
  refine cw_call1 (d' := d - 1) hE hT dX11_apart_16 rfl kX0_farFrom lX11_295 iX0_farFrom vX0_farFrom (k := 33) (i := (x1).toNatClampNeg) hA2 ob33 rfl (Nat.le_of_ble_eq_true rfl) (by omega) (c_X0_farFrom hE (by omega) hA2 hA8 (hA _ hA2) (hA _ hA8)) (fun g hT => ?_)
  have e9 : cx_X11_apart C x1 x2 = ((.inr ((cx_X0_farFrom C (x1).toNatClampNeg (x2).toNatClampNeg))), C) := by unfold cx_X11_apart; rw [if_pos c_2, if_pos c_8]
  exact ev_iret dX11_apart_19 rfl rfl ⟨W, (cx_X11_apart C x1 x2).2, ⟨rfl, by rw [e9]; rfl, rfl⟩, by rw [e9]; exact hT⟩
def cx_X11_source (C : mo_S) (x1 : Int32) (x2 : Int32) (x3 : Int32) : cx_Out :=
  (if sp_in x1 0 (C.1 1 0 - 1) = true then (if (mo_b (if (mo_b (cx_X11_within x2 0 100000)) = 0 then false else (if (mo_b (cx_X11_within x3 x2 100000)) = 0 then false else true))) = 0 then ((.inl "java/lang/IllegalArgumentException"), C) else ((.inr ((cx_X9_add C (x1).toNatClampNeg x2 x3).1)), (cx_X9_add C (x1).toNatClampNeg x2 x3).2)) else ((.inl "java/lang/IndexOutOfBoundsException"), C))
theorem c_X11_source {G : ev_G} {W : cw_W} {d D0 : Nat} {C : mo_S} {x1 : Int32} {x2 : Int32} {x3 : Int32} (hE : ev_En G) (h4 : ev_En4 G D0) (hd : 7 ≤ d) (hS : ∀ p, p < sp_P C → C.1 59 p = nI (sp_K C p) ∧ sp_K C p ≤ 8) : cw_P G W d 1 8 mX11_source [.ref (W 0 0), .int x1, .int x2, .int x3] C (cx_X11_source C x1 x2 x3) := by
  refine cw_startR (lv0 := [some (.ref (W 0 0)), some (.int x1), some (.int x2), some (.int x3), none]) (by decide +kernel) rfl (Nat.le_of_ble_eq_true rfl) rfl ?_
  intro K g0 g hT
  have hBP := hT.B.1
  have hBR := hT.B.2.1
  have hBA := hT.B.2.2.2.1
  refine ev_aload_n dX11_source_0 rfl rfl ?_
  refine ev_iload_n dX11_source_1 rfl rfl ?_
  refine cw_paperAt hE h4 rfl hT dX11_source_2 lX11_109 (Nat.le_of_ble_eq_true rfl) (by omega) (by decide) (by decide) (fun c_2 g hT => ?_) (fun q9 c_2 e_2 u_2 hP2 g hT => ?_)
  · have e9 : cx_X11_source C x1 x2 x3 = ((.inl "java/lang/IndexOutOfBoundsException"), C) := by unfold cx_X11_source; rw [if_neg (cl_nf c_2)]
    exact ⟨W, (cx_X11_source C x1 x2 x3).2, ⟨rfl, by rw [e9]; rfl, rfl⟩, by rw [e9]; exact hT⟩
  subst u_2
  refine ev_astore dX11_source_5 (Nat.le_of_ble_eq_true rfl) rfl ?_
  refine ev_iload_n dX11_source_7 rfl rfl ?_
  refine ev_iconst (v := 0) dX11_source_8 (by decide) ?_
  refine ev_ldc dX11_source_9 nX11_84 ?_
  refine ev_pS3 (d' := d - 1) dX11_source_11 rfl kX11_within lX11_80 sX11_within (Nat.le_of_ble_eq_true rfl) (by omega) (c_X11_within) ?_
  have K_32 : ∀ (g : ev_H) (hT : cw_T G K g0 W g C), ∀ x9 : Int32, x9 = (mo_b (if (mo_b (cx_X11_within x2 0 100000)) = 0 then false else (if (mo_b (cx_X11_within x3 x2 100000)) = 0 then false else true))) → ev_V G d 1 8 mX11_source (fun o g' => ∃ W2 C2, (W2 = W ∧ o = cx_o (cx_X11_source C x1 x2 x3).1 ∧ C2 = (cx_X11_source C x1 x2 x3).2) ∧ cw_T G K g0 W2 g' C2) g 32 [some (.ref (W 0 0)), some (.int x1), some (.int x2), some (.int x3), some (.ref (W 20 (x1).toNatClampNeg))] (.int x9 :: []) := by
    intro g hT x9 h9
    subst h9
    refine cw_need hE h4 rfl dX11_source_32 lX11_85 (Nat.le_of_ble_eq_true rfl) (by omega) (by decide) (by decide) (fun c_32 => ?_) (fun c_32 => ?_)
    · have e9 : cx_X11_source C x1 x2 x3 = ((.inl "java/lang/IllegalArgumentException"), C) := by unfold cx_X11_source; rw [if_pos c_2, if_pos c_32]
      exact ⟨W, (cx_X11_source C x1 x2 x3).2, ⟨rfl, by rw [e9]; rfl, rfl⟩, by rw [e9]; exact hT⟩
    refine ev_aload dX11_source_35 rfl ?_
    refine cw_getf hE hT dX11_source_37 fX11_277 (k := 20) (i := (x1).toNatClampNeg) hP2 ob20 rfl ?_
    refine ev_iload_n dX11_source_40 rfl rfl ?_
    refine ev_iload_n dX11_source_41 rfl rfl ?_
    refine cw_call2 (d' := d - 1) hE hT dX11_source_42 rfl kX9_add lX11_281 iX9_add vX9_add (k := 24) (i := (x1).toNatClampNeg) hP2 ob24 rfl (Nat.le_of_ble_eq_true rfl) (by omega) (c_X9_add hE hP2 (hS _ hP2).1 (hS _ hP2).2) (fun g hT => ?_)
    have e9 : cx_X11_source C x1 x2 x3 = ((.inr ((cx_X9_add C (x1).toNatClampNeg x2 x3).1)), (cx_X9_add C (x1).toNatClampNeg x2 x3).2) := by unfold cx_X11_source; rw [if_pos c_2, if_neg c_32]
    exact ev_iret dX11_source_45 rfl rfl ⟨W, (cx_X11_source C x1 x2 x3).2, ⟨rfl, by rw [e9]; rfl, rfl⟩, by rw [e9]; exact hT⟩
  refine ev_if_eq (tgt := 31) dX11_source_14 (by decide) (fun c_14 => ?_) (fun c_14 => ?_)
  · refine ev_iconst (v := 0) dX11_source_31 (by decide) ?_
    exact K_32 g hT _ (by rw [if_pos c_14]; rfl)
  · refine ev_iload_n dX11_source_17 rfl rfl ?_
    refine ev_iload_n dX11_source_18 rfl rfl ?_
    refine ev_ldc dX11_source_19 nX11_84 ?_
    refine ev_pS3 (d' := d - 1) dX11_source_21 rfl kX11_within lX11_80 sX11_within (Nat.le_of_ble_eq_true rfl) (by omega) (c_X11_within) ?_
    refine ev_if_eq (tgt := 31) dX11_source_24 (by decide) (fun c_24 => ?_) (fun c_24 => ?_)
    · refine ev_iconst (v := 0) dX11_source_31 (by decide) ?_
      exact K_32 g hT _ (by rw [if_neg c_14, if_pos c_24]; rfl)
    · refine ev_iconst (v := 1) dX11_source_27 (by decide) ?_
      refine ev_goto (tgt := 32) dX11_source_28 (by decide) ?_
      exact K_32 g hT _ (by rw [if_neg c_14, if_neg c_24]; rfl)
def cx_X11_borne (C : mo_S) (x1 : Int32) (x2 : Int32) : cx_Out :=
  (if sp_in x1 0 (C.1 1 0 - 1) = true then (if (mo_b (cx_X11_within x2 0 3)) = 0 then ((.inl "java/lang/IllegalArgumentException"), C) else ((.inr ((cx_X9_field C (x1).toNatClampNeg x2))), C)) else ((.inl "java/lang/IndexOutOfBoundsException"), C))
theorem c_X11_borne {G : ev_G} {W : cw_W} {d D0 : Nat} {C : mo_S} {x1 : Int32} {x2 : Int32} (hE : ev_En G) (h4 : ev_En4 G D0) (hd : 7 ≤ d) (hS : ∀ p, p < sp_P C → C.1 59 p = nI (sp_K C p) ∧ sp_K C p ≤ 8) : cw_P G W d 1 8 mX11_borne [.ref (W 0 0), .int x1, .int x2] C (cx_X11_borne C x1 x2) := by
  refine cw_startR (lv0 := [some (.ref (W 0 0)), some (.int x1), some (.int x2), none]) (by decide +kernel) rfl (Nat.le_of_ble_eq_true rfl) rfl ?_
  intro K g0 g hT
  have hBP := hT.B.1
  have hBR := hT.B.2.1
  have hBA := hT.B.2.2.2.1
  refine ev_aload_n dX11_borne_0 rfl rfl ?_
  refine ev_iload_n dX11_borne_1 rfl rfl ?_
  refine cw_paperAt hE h4 rfl hT dX11_borne_2 lX11_109 (Nat.le_of_ble_eq_true rfl) (by omega) (by decide) (by decide) (fun c_2 g hT => ?_) (fun q9 c_2 e_2 u_2 hP2 g hT => ?_)
  · have e9 : cx_X11_borne C x1 x2 = ((.inl "java/lang/IndexOutOfBoundsException"), C) := by unfold cx_X11_borne; rw [if_neg (cl_nf c_2)]
    exact ⟨W, (cx_X11_borne C x1 x2).2, ⟨rfl, by rw [e9]; rfl, rfl⟩, by rw [e9]; exact hT⟩
  subst u_2
  refine ev_astore_n dX11_borne_5 rfl (Nat.le_of_ble_eq_true rfl) rfl ?_
  refine ev_iload_n dX11_borne_6 rfl rfl ?_
  refine ev_iconst (v := 0) dX11_borne_7 (by decide) ?_
  refine ev_iconst (v := 3) dX11_borne_8 (by decide) ?_
  refine ev_pS3 (d' := d - 1) dX11_borne_9 rfl kX11_within lX11_80 sX11_within (Nat.le_of_ble_eq_true rfl) (by omega) (c_X11_within) ?_
  refine cw_need hE h4 rfl dX11_borne_12 lX11_85 (Nat.le_of_ble_eq_true rfl) (by omega) (by decide) (by decide) (fun c_12 => ?_) (fun c_12 => ?_)
  · have e9 : cx_X11_borne C x1 x2 = ((.inl "java/lang/IllegalArgumentException"), C) := by unfold cx_X11_borne; rw [if_pos c_2, if_pos c_12]
    exact ⟨W, (cx_X11_borne C x1 x2).2, ⟨rfl, by rw [e9]; rfl, rfl⟩, by rw [e9]; exact hT⟩
  refine ev_aload_n dX11_borne_15 rfl rfl ?_
  refine cw_getf hE hT dX11_borne_16 fX11_277 (k := 20) (i := (x1).toNatClampNeg) hP2 ob20 rfl ?_
  refine ev_iload_n dX11_borne_19 rfl rfl ?_
  refine cw_call1 (d' := d - 1) hE hT dX11_borne_20 rfl kX9_field lX11_285 iX9_field vX9_field (k := 24) (i := (x1).toNatClampNeg) hP2 ob24 rfl (Nat.le_of_ble_eq_true rfl) (by omega) (c_X9_field hE (by omega) hP2 (hS _ hP2).1 (hS _ hP2).2) (fun g hT => ?_)
  have e9 : cx_X11_borne C x1 x2 = ((.inr ((cx_X9_field C (x1).toNatClampNeg x2))), C) := by unfold cx_X11_borne; rw [if_pos c_2, if_neg c_12]
  exact ev_iret dX11_borne_23 rfl rfl ⟨W, (cx_X11_borne C x1 x2).2, ⟨rfl, by rw [e9]; rfl, rfl⟩, by rw [e9]; exact hT⟩
end CM6
