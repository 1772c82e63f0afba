section CH
def cx_pay (C : mo_S) (b p : Nat) (y : Int32) : mo_S :=
  (if ((C.1 6 p) - (cx_X4_pagesFor C b (C.1 3 p).toNatClampNeg)) ≤ 0 then (if y = (-1) then C else (if y = (C.1 7 p) then C else (cx_X1_add (mo_up C 9 p ((C.1 9 p) - (C.1 103 b))) p (C.1 2 0) 2 (sp_opt (sp_force (mo_up C 9 p ((C.1 9 p) - (C.1 103 b))) (C.1 2 0) (sp_O (mo_up C 9 p ((C.1 9 p) - (C.1 103 b)))))) (if ((C.1 6 p) - (cx_X4_pagesFor C b (C.1 3 p).toNatClampNeg)) ≤ 0 then (C.1 100 b) else (cx_X4_pagesClauseFor (mo_up C 9 p ((C.1 9 p) - (C.1 103 b))) b (C.1 3 p).toNatClampNeg))))) else (if y = (-1) then (cx_X1_add (mo_up C 9 p ((C.1 9 p) - (((C.1 6 p) - (cx_X4_pagesFor C b (C.1 3 p).toNatClampNeg)) * (C.1 103 b)))) p (C.1 2 0) 1 (sp_opt (sp_force (mo_up C 9 p ((C.1 9 p) - (((C.1 6 p) - (cx_X4_pagesFor C b (C.1 3 p).toNatClampNeg)) * (C.1 103 b)))) (C.1 2 0) (sp_O (mo_up C 9 p ((C.1 9 p) - (((C.1 6 p) - (cx_X4_pagesFor C b (C.1 3 p).toNatClampNeg)) * (C.1 103 b))))))) (if ((C.1 6 p) - (cx_X4_pagesFor C b (C.1 3 p).toNatClampNeg)) ≤ 0 then (C.1 100 b) else (cx_X4_pagesClauseFor (mo_up C 9 p ((C.1 9 p) - (((C.1 6 p) - (cx_X4_pagesFor C b (C.1 3 p).toNatClampNeg)) * (C.1 103 b)))) b (C.1 3 p).toNatClampNeg))) else (if y = (C.1 7 p) then (cx_X1_add (mo_up C 9 p ((C.1 9 p) - (((C.1 6 p) - (cx_X4_pagesFor C b (C.1 3 p).toNatClampNeg)) * (C.1 103 b)))) p (C.1 2 0) 1 (sp_opt (sp_force (mo_up C 9 p ((C.1 9 p) - (((C.1 6 p) - (cx_X4_pagesFor C b (C.1 3 p).toNatClampNeg)) * (C.1 103 b)))) (C.1 2 0) (sp_O (mo_up C 9 p ((C.1 9 p) - (((C.1 6 p) - (cx_X4_pagesFor C b (C.1 3 p).toNatClampNeg)) * (C.1 103 b))))))) (if ((C.1 6 p) - (cx_X4_pagesFor C b (C.1 3 p).toNatClampNeg)) ≤ 0 then (C.1 100 b) else (cx_X4_pagesClauseFor (mo_up C 9 p ((C.1 9 p) - (((C.1 6 p) - (cx_X4_pagesFor C b (C.1 3 p).toNatClampNeg)) * (C.1 103 b)))) b (C.1 3 p).toNatClampNeg))) else (cx_X1_add (mo_up (mo_up C 9 p ((C.1 9 p) - (((C.1 6 p) - (cx_X4_pagesFor C b (C.1 3 p).toNatClampNeg)) * (C.1 103 b)))) 9 p (((C.1 9 p) - (((C.1 6 p) - (cx_X4_pagesFor C b (C.1 3 p).toNatClampNeg)) * (C.1 103 b))) - (C.1 103 b))) p (C.1 2 0) 3 (sp_opt (sp_force (mo_up (mo_up C 9 p ((C.1 9 p) - (((C.1 6 p) - (cx_X4_pagesFor C b (C.1 3 p).toNatClampNeg)) * (C.1 103 b)))) 9 p (((C.1 9 p) - (((C.1 6 p) - (cx_X4_pagesFor C b (C.1 3 p).toNatClampNeg)) * (C.1 103 b))) - (C.1 103 b))) (C.1 2 0) (sp_O (mo_up (mo_up C 9 p ((C.1 9 p) - (((C.1 6 p) - (cx_X4_pagesFor C b (C.1 3 p).toNatClampNeg)) * (C.1 103 b)))) 9 p (((C.1 9 p) - (((C.1 6 p) - (cx_X4_pagesFor C b (C.1 3 p).toNatClampNeg)) * (C.1 103 b))) - (C.1 103 b)))))) (if ((C.1 6 p) - (cx_X4_pagesFor C b (C.1 3 p).toNatClampNeg)) ≤ 0 then (C.1 100 b) else (cx_X4_pagesClauseFor (mo_up (mo_up C 9 p ((C.1 9 p) - (((C.1 6 p) - (cx_X4_pagesFor C b (C.1 3 p).toNatClampNeg)) * (C.1 103 b)))) 9 p (((C.1 9 p) - (((C.1 6 p) - (cx_X4_pagesFor C b (C.1 3 p).toNatClampNeg)) * (C.1 103 b))) - (C.1 103 b))) b (C.1 3 p).toNatClampNeg))))))
theorem c_X11_payBreaches {G : ev_G} {W : cw_W} {d D0 : Nat} {C : mo_S} {b p : Nat} {Pf Qf : cx_Fn} (hE : ev_En G) (h4 : ev_En4 G D0) (hd : 5 ≤ d) (hc : cx_cd C Pf Qf) (hb : b < sp_O C ∨ b = 10) (hp : p < sp_P C) (hk : C.1 3 p = nI (C.1 3 p).toNatClampNeg ∧ (C.1 3 p).toNatClampNeg < 3) : cw_R G W d 0 0 mX11_payBreaches [.ref (W 0 0), .ref (W 28 b), .ref (W 20 p)] C (fun o W2 C2 => W2 = W ∧ o = .inl none ∧ ∃ V, cx_eqV V C ∧ C2 = cx_pay V b p (cx_price C Qf b p (C.1 6 p))) := by
  refine cw_startR (lv0 := [some (.ref (W 0 0)), some (.ref (W 28 b)), some (.ref (W 20 p)), none, none, none, none]) (by decide +kernel) rfl (Nat.le_of_ble_eq_true rfl) rfl ?_
  intro K g0 g hT
  have hol := cx_olI hb
  refine ev_aload_n dX11_payBreaches_0 rfl rfl ?_
  refine cw_getf hE hT dX11_payBreaches_1 fX11_199 (k := 20) (i := p) hp ob20 rfl ?_
  refine ev_aload_n dX11_payBreaches_4 rfl rfl ?_
  refine ev_aload_n dX11_payBreaches_5 rfl rfl ?_
  refine cw_getf hE hT dX11_payBreaches_6 fX11_193 (k := 20) (i := p) hp ob20 rfl ?_
  refine cw_call1 (d' := d - 1) hE hT dX11_payBreaches_9 rfl kX4_pagesFor lX11_196 iX4_pagesFor vX4_pagesFor (k := 28) (i := b) hol ob28 rfl (Nat.le_of_ble_eq_true rfl) (by omega) (by have w9 := (c_X4_pagesFor (W := W) (d := d - 1) (C := C) (q := (C.1 3 p).toNatClampNeg) hE hol hk.2); rw [← hk.1] at w9; exact w9) (fun g hT => ?_)
  refine ev_isub dX11_payBreaches_12 ?_
  refine ev_istore_n (lv' := [some (.ref (W 0 0)), some (.ref (W 28 b)), some (.ref (W 20 p)), some (.int ((C.1 6 p) - (cx_X4_pagesFor C b (C.1 3 p).toNatClampNeg))), none, none, none]) dX11_payBreaches_13 rfl (Nat.le_of_ble_eq_true rfl) rfl ?_
  refine ev_aload_n dX11_payBreaches_14 rfl rfl ?_
  refine ev_aload_n dX11_payBreaches_15 rfl rfl ?_
  refine ev_aload_n dX11_payBreaches_16 rfl rfl ?_
  refine ev_aload_n dX11_payBreaches_17 rfl rfl ?_
  refine cw_getf hE hT dX11_payBreaches_18 fX11_199 (k := 20) (i := p) hp ob20 rfl ?_
  refine cw_callr3 (d' := d - 1) (b := 0) (n0 := 0) hE hT dX11_payBreaches_21 rfl kX11_priceValue lX11_202 iX11_priceValue vX11_priceValue (k := 0) (i := 0) rfl ob0 rfl (Nat.le_of_ble_eq_true rfl) (by omega) (c_X11_priceValue (d := d - 1) hE h4 (by omega) hc hb hp) (Nat.le_refl _) (Nat.le_refl _) (fun v9 W9 V g q9 hT => ?_) (fun E W2 C2 g q9 _ => by cases q9.2.1)
  obtain ⟨e8, e9, hv⟩ := q9
  have e7 := e8.symm
  subst e7
  cases e9
  rw [show ((C.1 6 p) - (cx_X4_pagesFor C b (C.1 3 p).toNatClampNeg)) = ((V.1 6 p) - (cx_X4_pagesFor V b (V.1 3 p).toNatClampNeg)) by unfold cx_X4_pagesFor; rw [hv.1 6 (by decide), hv.1 101 (by decide), hv.1 3 (by decide)]]
  have hk1 := hk.1
  have hk2 := hk.2
  have hkV : V.1 3 p = nI (V.1 3 p).toNatClampNeg ∧ (V.1 3 p).toNatClampNeg < 3 := by rw [hv.1 3 (by decide)]; exact hk
  have hp : p < sp_P V := lvP hp (hv.1 1 (by decide))
  have hb : b < sp_O V ∨ b = 10 := by rw [sp_O_cg (hv.1 29 (by decide))]; exact hb
  have hol := cx_olI hb
  refine ev_istore (lv' := [some (.ref (W 0 0)), some (.ref (W 28 b)), some (.ref (W 20 p)), some (.int ((V.1 6 p) - (cx_X4_pagesFor V b (V.1 3 p).toNatClampNeg))), some (.int (cx_price C Qf b p (C.1 6 p))), none, none]) dX11_payBreaches_24 (Nat.le_of_ble_eq_true rfl) rfl ?_
  refine ev_iconst (v := 0) dX11_payBreaches_26 (by decide) ?_
  refine ev_istore (lv' := [some (.ref (W 0 0)), some (.ref (W 28 b)), some (.ref (W 20 p)), some (.int ((V.1 6 p) - (cx_X4_pagesFor V b (V.1 3 p).toNatClampNeg))), some (.int (cx_price C Qf b p (C.1 6 p))), some (.int 0), none]) dX11_payBreaches_27 (Nat.le_of_ble_eq_true rfl) rfl ?_
  refine ev_iload_n dX11_payBreaches_29 rfl rfl ?_
  refine ev_if_le (tgt := 54) dX11_payBreaches_30 (by decide) (fun c_30 => ?_) (fun c_30 => ?_)
  · refine ev_iload dX11_payBreaches_54 rfl ?_
    refine ev_iconst (v := (-1)) dX11_payBreaches_56 (by decide) ?_
    refine ev_icmp_eq (tgt := 88) dX11_payBreaches_57 (by decide) (fun c_57 => ?_) (fun c_57 => ?_)
    · refine ev_iload dX11_payBreaches_88 rfl ?_
      refine ev_if_eq (tgt := 137) dX11_payBreaches_90 (by decide) (fun c_90 => ?_) (fun c_90 => ?_)
      · have e9 : cx_pay V b p (cx_price C Qf b p (C.1 6 p)) = V := by unfold cx_pay; rw [if_pos c_30, if_pos c_57]
        exact ev_vret dX11_payBreaches_137 rfl ⟨W, V, ⟨rfl, rfl, V, hv, e9.symm⟩, hT⟩
      · exact absurd (by decide) c_90
    · refine ev_iload dX11_payBreaches_60 rfl ?_
      refine ev_aload_n dX11_payBreaches_62 rfl rfl ?_
      refine cw_getf hE hT dX11_payBreaches_63 fX11_444 (k := 20) (i := p) hp ob20 rfl ?_
      refine ev_icmp_eq (tgt := 88) dX11_payBreaches_66 (by decide) (fun c_66 => ?_) (fun c_66 => ?_)
      · refine ev_iload dX11_payBreaches_88 rfl ?_
        refine ev_if_eq (tgt := 137) dX11_payBreaches_90 (by decide) (fun c_90 => ?_) (fun c_90 => ?_)
        · have e9 : cx_pay V b p (cx_price C Qf b p (C.1 6 p)) = V := by unfold cx_pay; rw [if_pos c_30, if_neg c_57, if_pos c_66]
          exact ev_vret dX11_payBreaches_137 rfl ⟨W, V, ⟨rfl, rfl, V, hv, e9.symm⟩, hT⟩
        · exact absurd (by decide) c_90
      · refine ev_iload dX11_payBreaches_69 rfl ?_
        refine ev_iconst (v := 2) dX11_payBreaches_71 (by decide) ?_
        refine ev_ior dX11_payBreaches_72 ?_
        rw [show ((0 : Int32) ||| 2) = 2 by decide]
        refine ev_istore (lv' := [some (.ref (W 0 0)), some (.ref (W 28 b)), some (.ref (W 20 p)), some (.int ((V.1 6 p) - (cx_X4_pagesFor V b (V.1 3 p).toNatClampNeg))), some (.int (cx_price C Qf b p (C.1 6 p))), some (.int 2), none]) dX11_payBreaches_73 (Nat.le_of_ble_eq_true rfl) rfl ?_
        refine ev_aload_n dX11_payBreaches_75 rfl rfl ?_
        refine ev_dup dX11_payBreaches_76 rfl ?_
        refine cw_getf hE hT dX11_payBreaches_77 fX11_432 (k := 20) (i := p) hp ob20 rfl ?_
        refine ev_aload_n dX11_payBreaches_80 rfl rfl ?_
        refine cw_getf hE hT dX11_payBreaches_81 fX11_206 (k := 28) (i := b) hol ob28 rfl ?_
        refine ev_isub dX11_payBreaches_84 ?_
        refine cw_putf (k := 20) (i := p) (f := 9) (x := p) hE hT dX11_payBreaches_85 pX11_432 hp ob20 (Nat.le_of_ble_eq_true rfl) rfl rfl rfl (by decide) (by decide) pu20_6 (fun g hT => ?_)
        refine ev_iload dX11_payBreaches_88 rfl ?_
        refine ev_if_eq (tgt := 137) dX11_payBreaches_90 (by decide) (fun c_90 => ?_) (fun c_90 => ?_)
        · exact absurd c_90 (by decide)
        · refine ev_iload_n dX11_payBreaches_93 rfl rfl ?_
          have K_112 : ∀ (g : ev_H) (hT : cw_T G K g0 W g (mo_up V 9 p ((V.1 9 p) - (V.1 103 b)))), ∀ x9 : Int32, x9 = (if ((V.1 6 p) - (cx_X4_pagesFor V b (V.1 3 p).toNatClampNeg)) ≤ 0 then (V.1 100 b) else (cx_X4_pagesClauseFor (mo_up V 9 p ((V.1 9 p) - (V.1 103 b))) b (V.1 3 p).toNatClampNeg)) → ev_V G d 0 0 mX11_payBreaches (fun o g' => ∃ W2 C2, (W2 = W ∧ o = .inl none ∧ ∃ V, cx_eqV V C ∧ C2 = cx_pay V b p (cx_price C Qf b p (C.1 6 p))) ∧ cw_T G K g0 W2 g' C2) g 112 [some (.ref (W 0 0)), some (.ref (W 28 b)), some (.ref (W 20 p)), some (.int ((V.1 6 p) - (cx_X4_pagesFor V b (V.1 3 p).toNatClampNeg))), some (.int (cx_price C Qf b p (C.1 6 p))), some (.int 2), none] (.int x9 :: []) := by
            intro g hT x9 h9
            subst h9
            refine ev_istore (lv' := [some (.ref (W 0 0)), some (.ref (W 28 b)), some (.ref (W 20 p)), some (.int ((V.1 6 p) - (cx_X4_pagesFor V b (V.1 3 p).toNatClampNeg))), some (.int (cx_price C Qf b p (C.1 6 p))), some (.int 2), some (.int (if ((V.1 6 p) - (cx_X4_pagesFor V b (V.1 3 p).toNatClampNeg)) ≤ 0 then (V.1 100 b) else (cx_X4_pagesClauseFor (mo_up V 9 p ((V.1 9 p) - (V.1 103 b))) b (V.1 3 p).toNatClampNeg)))]) dX11_payBreaches_112 (Nat.le_of_ble_eq_true rfl) rfl ?_
            refine ev_aload_n dX11_payBreaches_114 rfl rfl ?_
            refine cw_getf hE hT dX11_payBreaches_115 fX11_270 (k := 20) (i := p) hp ob20 rfl ?_
            refine ev_aload_n dX11_payBreaches_118 rfl rfl ?_
            refine cw_geti (v2 := (V.1 2 0)) hE hT dX11_payBreaches_119 fX11_33 (k := 0) (i := 0) rfl ob0 rfl (by simp [mo_up]) ?_
            refine ev_iload dX11_payBreaches_122 rfl ?_
            refine ev_aload_n dX11_payBreaches_124 rfl rfl ?_
            refine ev_aload_n dX11_payBreaches_125 rfl rfl ?_
            refine cw_geti (v2 := (V.1 2 0)) hE hT dX11_payBreaches_126 fX11_33 (k := 0) (i := 0) rfl ob0 rfl (by simp [mo_up]) ?_
            refine cw_call1 (d' := d - 1) hE hT dX11_payBreaches_129 rfl kX11_numberInForce lX11_182 iX11_numberInForce vX11_numberInForce (k := 0) (i := 0) rfl ob0 rfl (Nat.le_of_ble_eq_true rfl) (by omega) (c_X11_numberInForce hE (by omega)) (fun g hT => ?_)
            refine ev_iload dX11_payBreaches_132 rfl ?_
            refine cw_call4 (d' := d - 1) hE hT dX11_payBreaches_134 rfl kX1_add lX11_458 iX1_add vX1_add (k := 23) (i := p) hp ob23 rfl (Nat.le_of_ble_eq_true rfl) (by omega) (c_X1_add hE (by omega) hp) (fun g hT => ?_)
            have e9 : cx_pay V b p (cx_price C Qf b p (C.1 6 p)) = (cx_X1_add (mo_up V 9 p ((V.1 9 p) - (V.1 103 b))) p (V.1 2 0) 2 (sp_opt (sp_force (mo_up V 9 p ((V.1 9 p) - (V.1 103 b))) (V.1 2 0) (sp_O (mo_up V 9 p ((V.1 9 p) - (V.1 103 b)))))) (if ((V.1 6 p) - (cx_X4_pagesFor V b (V.1 3 p).toNatClampNeg)) ≤ 0 then (V.1 100 b) else (cx_X4_pagesClauseFor (mo_up V 9 p ((V.1 9 p) - (V.1 103 b))) b (V.1 3 p).toNatClampNeg))) := by unfold cx_pay; rw [if_pos c_30, if_neg c_57, if_neg c_66]
            exact ev_vret dX11_payBreaches_137 rfl ⟨W, (cx_X1_add (mo_up V 9 p ((V.1 9 p) - (V.1 103 b))) p (V.1 2 0) 2 (sp_opt (sp_force (mo_up V 9 p ((V.1 9 p) - (V.1 103 b))) (V.1 2 0) (sp_O (mo_up V 9 p ((V.1 9 p) - (V.1 103 b)))))) (if ((V.1 6 p) - (cx_X4_pagesFor V b (V.1 3 p).toNatClampNeg)) ≤ 0 then (V.1 100 b) else (cx_X4_pagesClauseFor (mo_up V 9 p ((V.1 9 p) - (V.1 103 b))) b (V.1 3 p).toNatClampNeg))), ⟨rfl, rfl, V, hv, e9.symm⟩, hT⟩
          refine ev_if_le (tgt := 108) dX11_payBreaches_94 (by decide) (fun c_94 => ?_) (fun c_94 => ?_)
          · refine ev_aload_n dX11_payBreaches_108 rfl rfl ?_
            refine cw_geti (v2 := (V.1 100 b)) hE hT dX11_payBreaches_109 fX11_455 (k := 28) (i := b) hol ob28 rfl (by simp [mo_up]) ?_
            exact K_112 g hT _ (by rw [if_pos c_94])
          · refine ev_aload_n dX11_payBreaches_97 rfl rfl ?_
            refine ev_aload_n dX11_payBreaches_98 rfl rfl ?_
            refine cw_geti (v2 := (V.1 3 p)) hE hT dX11_payBreaches_99 fX11_193 (k := 20) (i := p) hp ob20 rfl (by simp [mo_up]) ?_
            refine cw_call1 (d' := d - 1) hE hT dX11_payBreaches_102 rfl kX4_pagesClauseFor lX11_452 iX4_pagesClauseFor vX4_pagesClauseFor (k := 28) (i := b) hol ob28 rfl (Nat.le_of_ble_eq_true rfl) (by omega) (by have w9 := (c_X4_pagesClauseFor (W := W) (d := d - 1) (C := (mo_up V 9 p ((V.1 9 p) - (V.1 103 b)))) (q := (V.1 3 p).toNatClampNeg) hE hol hkV.2); rw [← hkV.1] at w9; exact w9) (fun g hT => ?_)
            refine ev_goto (tgt := 112) dX11_payBreaches_105 (by decide) ?_
            exact K_112 g hT _ (by rw [if_neg c_94])
  · refine ev_iload dX11_payBreaches_33 rfl ?_
    refine ev_iconst (v := 1) dX11_payBreaches_35 (by decide) ?_
    refine ev_ior dX11_payBreaches_36 ?_
    rw [show ((0 : Int32) ||| 1) = 1 by decide]
    refine ev_istore (lv' := [some (.ref (W 0 0)), some (.ref (W 28 b)), some (.ref (W 20 p)), some (.int ((V.1 6 p) - (cx_X4_pagesFor V b (V.1 3 p).toNatClampNeg))), some (.int (cx_price C Qf b p (C.1 6 p))), some (.int 1), none]) dX11_payBreaches_37 (Nat.le_of_ble_eq_true rfl) rfl ?_
    refine ev_aload_n dX11_payBreaches_39 rfl rfl ?_
    refine ev_dup dX11_payBreaches_40 rfl ?_
    refine cw_getf hE hT dX11_payBreaches_41 fX11_432 (k := 20) (i := p) hp ob20 rfl ?_
    refine ev_iload_n dX11_payBreaches_44 rfl rfl ?_
    refine ev_aload_n dX11_payBreaches_45 rfl rfl ?_
    refine cw_getf hE hT dX11_payBreaches_46 fX11_206 (k := 28) (i := b) hol ob28 rfl ?_
    refine ev_imul dX11_payBreaches_49 ?_
    refine ev_isub dX11_payBreaches_50 ?_
    refine cw_putf (k := 20) (i := p) (f := 9) (x := p) hE hT dX11_payBreaches_51 pX11_432 hp ob20 (Nat.le_of_ble_eq_true rfl) rfl rfl rfl (by decide) (by decide) pu20_6 (fun g hT => ?_)
    refine ev_iload dX11_payBreaches_54 rfl ?_
    refine ev_iconst (v := (-1)) dX11_payBreaches_56 (by decide) ?_
    refine ev_icmp_eq (tgt := 88) dX11_payBreaches_57 (by decide) (fun c_57 => ?_) (fun c_57 => ?_)
    · refine ev_iload dX11_payBreaches_88 rfl ?_
      refine ev_if_eq (tgt := 137) dX11_payBreaches_90 (by decide) (fun c_90 => ?_) (fun c_90 => ?_)
      · exact absurd c_90 (by decide)
      · refine ev_iload_n dX11_payBreaches_93 rfl rfl ?_
        have K_112 : ∀ (g : ev_H) (hT : cw_T G K g0 W g (mo_up V 9 p ((V.1 9 p) - (((V.1 6 p) - (cx_X4_pagesFor V b (V.1 3 p).toNatClampNeg)) * (V.1 103 b))))), ∀ x9 : Int32, x9 = (if ((V.1 6 p) - (cx_X4_pagesFor V b (V.1 3 p).toNatClampNeg)) ≤ 0 then (V.1 100 b) else (cx_X4_pagesClauseFor (mo_up V 9 p ((V.1 9 p) - (((V.1 6 p) - (cx_X4_pagesFor V b (V.1 3 p).toNatClampNeg)) * (V.1 103 b)))) b (V.1 3 p).toNatClampNeg)) → ev_V G d 0 0 mX11_payBreaches (fun o g' => ∃ W2 C2, (W2 = W ∧ o = .inl none ∧ ∃ V, cx_eqV V C ∧ C2 = cx_pay V b p (cx_price C Qf b p (C.1 6 p))) ∧ cw_T G K g0 W2 g' C2) g 112 [some (.ref (W 0 0)), some (.ref (W 28 b)), some (.ref (W 20 p)), some (.int ((V.1 6 p) - (cx_X4_pagesFor V b (V.1 3 p).toNatClampNeg))), some (.int (cx_price C Qf b p (C.1 6 p))), some (.int 1), none] (.int x9 :: []) := by
          intro g hT x9 h9
          subst h9
          refine ev_istore (lv' := [some (.ref (W 0 0)), some (.ref (W 28 b)), some (.ref (W 20 p)), some (.int ((V.1 6 p) - (cx_X4_pagesFor V b (V.1 3 p).toNatClampNeg))), some (.int (cx_price C Qf b p (C.1 6 p))), some (.int 1), some (.int (if ((V.1 6 p) - (cx_X4_pagesFor V b (V.1 3 p).toNatClampNeg)) ≤ 0 then (V.1 100 b) else (cx_X4_pagesClauseFor (mo_up V 9 p ((V.1 9 p) - (((V.1 6 p) - (cx_X4_pagesFor V b (V.1 3 p).toNatClampNeg)) * (V.1 103 b)))) b (V.1 3 p).toNatClampNeg)))]) dX11_payBreaches_112 (Nat.le_of_ble_eq_true rfl) rfl ?_
          refine ev_aload_n dX11_payBreaches_114 rfl rfl ?_
          refine cw_getf hE hT dX11_payBreaches_115 fX11_270 (k := 20) (i := p) hp ob20 rfl ?_
          refine ev_aload_n dX11_payBreaches_118 rfl rfl ?_
          refine cw_geti (v2 := (V.1 2 0)) hE hT dX11_payBreaches_119 fX11_33 (k := 0) (i := 0) rfl ob0 rfl (by simp [mo_up]) ?_
          refine ev_iload dX11_payBreaches_122 rfl ?_
          refine ev_aload_n dX11_payBreaches_124 rfl rfl ?_
          refine ev_aload_n dX11_payBreaches_125 rfl rfl ?_
          refine cw_geti (v2 := (V.1 2 0)) hE hT dX11_payBreaches_126 fX11_33 (k := 0) (i := 0) rfl ob0 rfl (by simp [mo_up]) ?_
          refine cw_call1 (d' := d - 1) hE hT dX11_payBreaches_129 rfl kX11_numberInForce lX11_182 iX11_numberInForce vX11_numberInForce (k := 0) (i := 0) rfl ob0 rfl (Nat.le_of_ble_eq_true rfl) (by omega) (c_X11_numberInForce hE (by omega)) (fun g hT => ?_)
          refine ev_iload dX11_payBreaches_132 rfl ?_
          refine cw_call4 (d' := d - 1) hE hT dX11_payBreaches_134 rfl kX1_add lX11_458 iX1_add vX1_add (k := 23) (i := p) hp ob23 rfl (Nat.le_of_ble_eq_true rfl) (by omega) (c_X1_add hE (by omega) hp) (fun g hT => ?_)
          have e9 : cx_pay V b p (cx_price C Qf b p (C.1 6 p)) = (cx_X1_add (mo_up V 9 p ((V.1 9 p) - (((V.1 6 p) - (cx_X4_pagesFor V b (V.1 3 p).toNatClampNeg)) * (V.1 103 b)))) p (V.1 2 0) 1 (sp_opt (sp_force (mo_up V 9 p ((V.1 9 p) - (((V.1 6 p) - (cx_X4_pagesFor V b (V.1 3 p).toNatClampNeg)) * (V.1 103 b)))) (V.1 2 0) (sp_O (mo_up V 9 p ((V.1 9 p) - (((V.1 6 p) - (cx_X4_pagesFor V b (V.1 3 p).toNatClampNeg)) * (V.1 103 b))))))) (if ((V.1 6 p) - (cx_X4_pagesFor V b (V.1 3 p).toNatClampNeg)) ≤ 0 then (V.1 100 b) else (cx_X4_pagesClauseFor (mo_up V 9 p ((V.1 9 p) - (((V.1 6 p) - (cx_X4_pagesFor V b (V.1 3 p).toNatClampNeg)) * (V.1 103 b)))) b (V.1 3 p).toNatClampNeg))) := by unfold cx_pay; rw [if_neg c_30, if_pos c_57]
          exact ev_vret dX11_payBreaches_137 rfl ⟨W, (cx_X1_add (mo_up V 9 p ((V.1 9 p) - (((V.1 6 p) - (cx_X4_pagesFor V b (V.1 3 p).toNatClampNeg)) * (V.1 103 b)))) p (V.1 2 0) 1 (sp_opt (sp_force (mo_up V 9 p ((V.1 9 p) - (((V.1 6 p) - (cx_X4_pagesFor V b (V.1 3 p).toNatClampNeg)) * (V.1 103 b)))) (V.1 2 0) (sp_O (mo_up V 9 p ((V.1 9 p) - (((V.1 6 p) - (cx_X4_pagesFor V b (V.1 3 p).toNatClampNeg)) * (V.1 103 b))))))) (if ((V.1 6 p) - (cx_X4_pagesFor V b (V.1 3 p).toNatClampNeg)) ≤ 0 then (V.1 100 b) else (cx_X4_pagesClauseFor (mo_up V 9 p ((V.1 9 p) - (((V.1 6 p) - (cx_X4_pagesFor V b (V.1 3 p).toNatClampNeg)) * (V.1 103 b)))) b (V.1 3 p).toNatClampNeg))), ⟨rfl, rfl, V, hv, e9.symm⟩, hT⟩
        refine ev_if_le (tgt := 108) dX11_payBreaches_94 (by decide) (fun c_94 => ?_) (fun c_94 => ?_)
        · refine ev_aload_n dX11_payBreaches_108 rfl rfl ?_
          refine cw_geti (v2 := (V.1 100 b)) hE hT dX11_payBreaches_109 fX11_455 (k := 28) (i := b) hol ob28 rfl (by simp [mo_up]) ?_
          exact K_112 g hT _ (by rw [if_pos c_94])
        · refine ev_aload_n dX11_payBreaches_97 rfl rfl ?_
          refine ev_aload_n dX11_payBreaches_98 rfl rfl ?_
          refine cw_geti (v2 := (V.1 3 p)) hE hT dX11_payBreaches_99 fX11_193 (k := 20) (i := p) hp ob20 rfl (by simp [mo_up]) ?_
          refine cw_call1 (d' := d - 1) hE hT dX11_payBreaches_102 rfl kX4_pagesClauseFor lX11_452 iX4_pagesClauseFor vX4_pagesClauseFor (k := 28) (i := b) hol ob28 rfl (Nat.le_of_ble_eq_true rfl) (by omega) (by have w9 := (c_X4_pagesClauseFor (W := W) (d := d - 1) (C := (mo_up V 9 p ((V.1 9 p) - (((V.1 6 p) - (cx_X4_pagesFor V b (V.1 3 p).toNatClampNeg)) * (V.1 103 b))))) (q := (V.1 3 p).toNatClampNeg) hE hol hkV.2); rw [← hkV.1] at w9; exact w9) (fun g hT => ?_)
          refine ev_goto (tgt := 112) dX11_payBreaches_105 (by decide) ?_
          exact K_112 g hT _ (by rw [if_neg c_94])
    · refine ev_iload dX11_payBreaches_60 rfl ?_
      refine ev_aload_n dX11_payBreaches_62 rfl rfl ?_
      refine cw_geti (v2 := (V.1 7 p)) hE hT dX11_payBreaches_63 fX11_444 (k := 20) (i := p) hp ob20 rfl (by simp [mo_up]) ?_
      refine ev_icmp_eq (tgt := 88) dX11_payBreaches_66 (by decide) (fun c_66 => ?_) (fun c_66 => ?_)
      · refine ev_iload dX11_payBreaches_88 rfl ?_
        refine ev_if_eq (tgt := 137) dX11_payBreaches_90 (by decide) (fun c_90 => ?_) (fun c_90 => ?_)
        · exact absurd c_90 (by decide)
        · refine ev_iload_n dX11_payBreaches_93 rfl rfl ?_
          have K_112 : ∀ (g : ev_H) (hT : cw_T G K g0 W g (mo_up V 9 p ((V.1 9 p) - (((V.1 6 p) - (cx_X4_pagesFor V b (V.1 3 p).toNatClampNeg)) * (V.1 103 b))))), ∀ x9 : Int32, x9 = (if ((V.1 6 p) - (cx_X4_pagesFor V b (V.1 3 p).toNatClampNeg)) ≤ 0 then (V.1 100 b) else (cx_X4_pagesClauseFor (mo_up V 9 p ((V.1 9 p) - (((V.1 6 p) - (cx_X4_pagesFor V b (V.1 3 p).toNatClampNeg)) * (V.1 103 b)))) b (V.1 3 p).toNatClampNeg)) → ev_V G d 0 0 mX11_payBreaches (fun o g' => ∃ W2 C2, (W2 = W ∧ o = .inl none ∧ ∃ V, cx_eqV V C ∧ C2 = cx_pay V b p (cx_price C Qf b p (C.1 6 p))) ∧ cw_T G K g0 W2 g' C2) g 112 [some (.ref (W 0 0)), some (.ref (W 28 b)), some (.ref (W 20 p)), some (.int ((V.1 6 p) - (cx_X4_pagesFor V b (V.1 3 p).toNatClampNeg))), some (.int (cx_price C Qf b p (C.1 6 p))), some (.int 1), none] (.int x9 :: []) := by
            intro g hT x9 h9
            subst h9
            refine ev_istore (lv' := [some (.ref (W 0 0)), some (.ref (W 28 b)), some (.ref (W 20 p)), some (.int ((V.1 6 p) - (cx_X4_pagesFor V b (V.1 3 p).toNatClampNeg))), some (.int (cx_price C Qf b p (C.1 6 p))), some (.int 1), some (.int (if ((V.1 6 p) - (cx_X4_pagesFor V b (V.1 3 p).toNatClampNeg)) ≤ 0 then (V.1 100 b) else (cx_X4_pagesClauseFor (mo_up V 9 p ((V.1 9 p) - (((V.1 6 p) - (cx_X4_pagesFor V b (V.1 3 p).toNatClampNeg)) * (V.1 103 b)))) b (V.1 3 p).toNatClampNeg)))]) dX11_payBreaches_112 (Nat.le_of_ble_eq_true rfl) rfl ?_
            refine ev_aload_n dX11_payBreaches_114 rfl rfl ?_
            refine cw_getf hE hT dX11_payBreaches_115 fX11_270 (k := 20) (i := p) hp ob20 rfl ?_
            refine ev_aload_n dX11_payBreaches_118 rfl rfl ?_
            refine cw_geti (v2 := (V.1 2 0)) hE hT dX11_payBreaches_119 fX11_33 (k := 0) (i := 0) rfl ob0 rfl (by simp [mo_up]) ?_
            refine ev_iload dX11_payBreaches_122 rfl ?_
            refine ev_aload_n dX11_payBreaches_124 rfl rfl ?_
            refine ev_aload_n dX11_payBreaches_125 rfl rfl ?_
            refine cw_geti (v2 := (V.1 2 0)) hE hT dX11_payBreaches_126 fX11_33 (k := 0) (i := 0) rfl ob0 rfl (by simp [mo_up]) ?_
            refine cw_call1 (d' := d - 1) hE hT dX11_payBreaches_129 rfl kX11_numberInForce lX11_182 iX11_numberInForce vX11_numberInForce (k := 0) (i := 0) rfl ob0 rfl (Nat.le_of_ble_eq_true rfl) (by omega) (c_X11_numberInForce hE (by omega)) (fun g hT => ?_)
            refine ev_iload dX11_payBreaches_132 rfl ?_
            refine cw_call4 (d' := d - 1) hE hT dX11_payBreaches_134 rfl kX1_add lX11_458 iX1_add vX1_add (k := 23) (i := p) hp ob23 rfl (Nat.le_of_ble_eq_true rfl) (by omega) (c_X1_add hE (by omega) hp) (fun g hT => ?_)
            have e9 : cx_pay V b p (cx_price C Qf b p (C.1 6 p)) = (cx_X1_add (mo_up V 9 p ((V.1 9 p) - (((V.1 6 p) - (cx_X4_pagesFor V b (V.1 3 p).toNatClampNeg)) * (V.1 103 b)))) p (V.1 2 0) 1 (sp_opt (sp_force (mo_up V 9 p ((V.1 9 p) - (((V.1 6 p) - (cx_X4_pagesFor V b (V.1 3 p).toNatClampNeg)) * (V.1 103 b)))) (V.1 2 0) (sp_O (mo_up V 9 p ((V.1 9 p) - (((V.1 6 p) - (cx_X4_pagesFor V b (V.1 3 p).toNatClampNeg)) * (V.1 103 b))))))) (if ((V.1 6 p) - (cx_X4_pagesFor V b (V.1 3 p).toNatClampNeg)) ≤ 0 then (V.1 100 b) else (cx_X4_pagesClauseFor (mo_up V 9 p ((V.1 9 p) - (((V.1 6 p) - (cx_X4_pagesFor V b (V.1 3 p).toNatClampNeg)) * (V.1 103 b)))) b (V.1 3 p).toNatClampNeg))) := by unfold cx_pay; rw [if_neg c_30, if_neg c_57, if_pos c_66]
            exact ev_vret dX11_payBreaches_137 rfl ⟨W, (cx_X1_add (mo_up V 9 p ((V.1 9 p) - (((V.1 6 p) - (cx_X4_pagesFor V b (V.1 3 p).toNatClampNeg)) * (V.1 103 b)))) p (V.1 2 0) 1 (sp_opt (sp_force (mo_up V 9 p ((V.1 9 p) - (((V.1 6 p) - (cx_X4_pagesFor V b (V.1 3 p).toNatClampNeg)) * (V.1 103 b)))) (V.1 2 0) (sp_O (mo_up V 9 p ((V.1 9 p) - (((V.1 6 p) - (cx_X4_pagesFor V b (V.1 3 p).toNatClampNeg)) * (V.1 103 b))))))) (if ((V.1 6 p) - (cx_X4_pagesFor V b (V.1 3 p).toNatClampNeg)) ≤ 0 then (V.1 100 b) else (cx_X4_pagesClauseFor (mo_up V 9 p ((V.1 9 p) - (((V.1 6 p) - (cx_X4_pagesFor V b (V.1 3 p).toNatClampNeg)) * (V.1 103 b)))) b (V.1 3 p).toNatClampNeg))), ⟨rfl, rfl, V, hv, e9.symm⟩, hT⟩
          refine ev_if_le (tgt := 108) dX11_payBreaches_94 (by decide) (fun c_94 => ?_) (fun c_94 => ?_)
          · refine ev_aload_n dX11_payBreaches_108 rfl rfl ?_
            refine cw_geti (v2 := (V.1 100 b)) hE hT dX11_payBreaches_109 fX11_455 (k := 28) (i := b) hol ob28 rfl (by simp [mo_up]) ?_
            exact K_112 g hT _ (by rw [if_pos c_94])
          · refine ev_aload_n dX11_payBreaches_97 rfl rfl ?_
            refine ev_aload_n dX11_payBreaches_98 rfl rfl ?_
            refine cw_geti (v2 := (V.1 3 p)) hE hT dX11_payBreaches_99 fX11_193 (k := 20) (i := p) hp ob20 rfl (by simp [mo_up]) ?_
            refine cw_call1 (d' := d - 1) hE hT dX11_payBreaches_102 rfl kX4_pagesClauseFor lX11_452 iX4_pagesClauseFor vX4_pagesClauseFor (k := 28) (i := b) hol ob28 rfl (Nat.le_of_ble_eq_true rfl) (by omega) (by have w9 := (c_X4_pagesClauseFor (W := W) (d := d - 1) (C := (mo_up V 9 p ((V.1 9 p) - (((V.1 6 p) - (cx_X4_pagesFor V b (V.1 3 p).toNatClampNeg)) * (V.1 103 b))))) (q := (V.1 3 p).toNatClampNeg) hE hol hkV.2); rw [← hkV.1] at w9; exact w9) (fun g hT => ?_)
            refine ev_goto (tgt := 112) dX11_payBreaches_105 (by decide) ?_
            exact K_112 g hT _ (by rw [if_neg c_94])
      · refine ev_iload dX11_payBreaches_69 rfl ?_
        refine ev_iconst (v := 2) dX11_payBreaches_71 (by decide) ?_
        refine ev_ior dX11_payBreaches_72 ?_
        rw [show ((1 : Int32) ||| 2) = 3 by decide]
        refine ev_istore (lv' := [some (.ref (W 0 0)), some (.ref (W 28 b)), some (.ref (W 20 p)), some (.int ((V.1 6 p) - (cx_X4_pagesFor V b (V.1 3 p).toNatClampNeg))), some (.int (cx_price C Qf b p (C.1 6 p))), some (.int 3), none]) dX11_payBreaches_73 (Nat.le_of_ble_eq_true rfl) rfl ?_
        refine ev_aload_n dX11_payBreaches_75 rfl rfl ?_
        refine ev_dup dX11_payBreaches_76 rfl ?_
        refine cw_geti (v2 := ((V.1 9 p) - (((V.1 6 p) - (cx_X4_pagesFor V b (V.1 3 p).toNatClampNeg)) * (V.1 103 b)))) hE hT dX11_payBreaches_77 fX11_432 (k := 20) (i := p) hp ob20 rfl (by simp [mo_up]) ?_
        refine ev_aload_n dX11_payBreaches_80 rfl rfl ?_
        refine cw_geti (v2 := (V.1 103 b)) hE hT dX11_payBreaches_81 fX11_206 (k := 28) (i := b) hol ob28 rfl (by simp [mo_up]) ?_
        refine ev_isub dX11_payBreaches_84 ?_
        refine cw_putf (k := 20) (i := p) (f := 9) (x := p) hE hT dX11_payBreaches_85 pX11_432 hp ob20 (Nat.le_of_ble_eq_true rfl) rfl rfl rfl (by decide) (by decide) pu20_6 (fun g hT => ?_)
        refine ev_iload dX11_payBreaches_88 rfl ?_
        refine ev_if_eq (tgt := 137) dX11_payBreaches_90 (by decide) (fun c_90 => ?_) (fun c_90 => ?_)
        · exact absurd c_90 (by decide)
        · refine ev_iload_n dX11_payBreaches_93 rfl rfl ?_
          have K_112 : ∀ (g : ev_H) (hT : cw_T G K g0 W g (mo_up (mo_up V 9 p ((V.1 9 p) - (((V.1 6 p) - (cx_X4_pagesFor V b (V.1 3 p).toNatClampNeg)) * (V.1 103 b)))) 9 p (((V.1 9 p) - (((V.1 6 p) - (cx_X4_pagesFor V b (V.1 3 p).toNatClampNeg)) * (V.1 103 b))) - (V.1 103 b)))), ∀ x9 : Int32, x9 = (if ((V.1 6 p) - (cx_X4_pagesFor V b (V.1 3 p).toNatClampNeg)) ≤ 0 then (V.1 100 b) else (cx_X4_pagesClauseFor (mo_up (mo_up V 9 p ((V.1 9 p) - (((V.1 6 p) - (cx_X4_pagesFor V b (V.1 3 p).toNatClampNeg)) * (V.1 103 b)))) 9 p (((V.1 9 p) - (((V.1 6 p) - (cx_X4_pagesFor V b (V.1 3 p).toNatClampNeg)) * (V.1 103 b))) - (V.1 103 b))) b (V.1 3 p).toNatClampNeg)) → ev_V G d 0 0 mX11_payBreaches (fun o g' => ∃ W2 C2, (W2 = W ∧ o = .inl none ∧ ∃ V, cx_eqV V C ∧ C2 = cx_pay V b p (cx_price C Qf b p (C.1 6 p))) ∧ cw_T G K g0 W2 g' C2) g 112 [some (.ref (W 0 0)), some (.ref (W 28 b)), some (.ref (W 20 p)), some (.int ((V.1 6 p) - (cx_X4_pagesFor V b (V.1 3 p).toNatClampNeg))), some (.int (cx_price C Qf b p (C.1 6 p))), some (.int 3), none] (.int x9 :: []) := by
            intro g hT x9 h9
            subst h9
            refine ev_istore (lv' := [some (.ref (W 0 0)), some (.ref (W 28 b)), some (.ref (W 20 p)), some (.int ((V.1 6 p) - (cx_X4_pagesFor V b (V.1 3 p).toNatClampNeg))), some (.int (cx_price C Qf b p (C.1 6 p))), some (.int 3), some (.int (if ((V.1 6 p) - (cx_X4_pagesFor V b (V.1 3 p).toNatClampNeg)) ≤ 0 then (V.1 100 b) else (cx_X4_pagesClauseFor (mo_up (mo_up V 9 p ((V.1 9 p) - (((V.1 6 p) - (cx_X4_pagesFor V b (V.1 3 p).toNatClampNeg)) * (V.1 103 b)))) 9 p (((V.1 9 p) - (((V.1 6 p) - (cx_X4_pagesFor V b (V.1 3 p).toNatClampNeg)) * (V.1 103 b))) - (V.1 103 b))) b (V.1 3 p).toNatClampNeg)))]) dX11_payBreaches_112 (Nat.le_of_ble_eq_true rfl) rfl ?_
            refine ev_aload_n dX11_payBreaches_114 rfl rfl ?_
            refine cw_getf hE hT dX11_payBreaches_115 fX11_270 (k := 20) (i := p) hp ob20 rfl ?_
            refine ev_aload_n dX11_payBreaches_118 rfl rfl ?_
            refine cw_geti (v2 := (V.1 2 0)) hE hT dX11_payBreaches_119 fX11_33 (k := 0) (i := 0) rfl ob0 rfl (by simp [mo_up]) ?_
            refine ev_iload dX11_payBreaches_122 rfl ?_
            refine ev_aload_n dX11_payBreaches_124 rfl rfl ?_
            refine ev_aload_n dX11_payBreaches_125 rfl rfl ?_
            refine cw_geti (v2 := (V.1 2 0)) hE hT dX11_payBreaches_126 fX11_33 (k := 0) (i := 0) rfl ob0 rfl (by simp [mo_up]) ?_
            refine cw_call1 (d' := d - 1) hE hT dX11_payBreaches_129 rfl kX11_numberInForce lX11_182 iX11_numberInForce vX11_numberInForce (k := 0) (i := 0) rfl ob0 rfl (Nat.le_of_ble_eq_true rfl) (by omega) (c_X11_numberInForce hE (by omega)) (fun g hT => ?_)
            refine ev_iload dX11_payBreaches_132 rfl ?_
            refine cw_call4 (d' := d - 1) hE hT dX11_payBreaches_134 rfl kX1_add lX11_458 iX1_add vX1_add (k := 23) (i := p) hp ob23 rfl (Nat.le_of_ble_eq_true rfl) (by omega) (c_X1_add hE (by omega) hp) (fun g hT => ?_)
            have e9 : cx_pay V b p (cx_price C Qf b p (C.1 6 p)) = (cx_X1_add (mo_up (mo_up V 9 p ((V.1 9 p) - (((V.1 6 p) - (cx_X4_pagesFor V b (V.1 3 p).toNatClampNeg)) * (V.1 103 b)))) 9 p (((V.1 9 p) - (((V.1 6 p) - (cx_X4_pagesFor V b (V.1 3 p).toNatClampNeg)) * (V.1 103 b))) - (V.1 103 b))) p (V.1 2 0) 3 (sp_opt (sp_force (mo_up (mo_up V 9 p ((V.1 9 p) - (((V.1 6 p) - (cx_X4_pagesFor V b (V.1 3 p).toNatClampNeg)) * (V.1 103 b)))) 9 p (((V.1 9 p) - (((V.1 6 p) - (cx_X4_pagesFor V b (V.1 3 p).toNatClampNeg)) * (V.1 103 b))) - (V.1 103 b))) (V.1 2 0) (sp_O (mo_up (mo_up V 9 p ((V.1 9 p) - (((V.1 6 p) - (cx_X4_pagesFor V b (V.1 3 p).toNatClampNeg)) * (V.1 103 b)))) 9 p (((V.1 9 p) - (((V.1 6 p) - (cx_X4_pagesFor V b (V.1 3 p).toNatClampNeg)) * (V.1 103 b))) - (V.1 103 b)))))) (if ((V.1 6 p) - (cx_X4_pagesFor V b (V.1 3 p).toNatClampNeg)) ≤ 0 then (V.1 100 b) else (cx_X4_pagesClauseFor (mo_up (mo_up V 9 p ((V.1 9 p) - (((V.1 6 p) - (cx_X4_pagesFor V b (V.1 3 p).toNatClampNeg)) * (V.1 103 b)))) 9 p (((V.1 9 p) - (((V.1 6 p) - (cx_X4_pagesFor V b (V.1 3 p).toNatClampNeg)) * (V.1 103 b))) - (V.1 103 b))) b (V.1 3 p).toNatClampNeg))) := by unfold cx_pay; rw [if_neg c_30, if_neg c_57, if_neg c_66]
            exact ev_vret dX11_payBreaches_137 rfl ⟨W, (cx_X1_add (mo_up (mo_up V 9 p ((V.1 9 p) - (((V.1 6 p) - (cx_X4_pagesFor V b (V.1 3 p).toNatClampNeg)) * (V.1 103 b)))) 9 p (((V.1 9 p) - (((V.1 6 p) - (cx_X4_pagesFor V b (V.1 3 p).toNatClampNeg)) * (V.1 103 b))) - (V.1 103 b))) p (V.1 2 0) 3 (sp_opt (sp_force (mo_up (mo_up V 9 p ((V.1 9 p) - (((V.1 6 p) - (cx_X4_pagesFor V b (V.1 3 p).toNatClampNeg)) * (V.1 103 b)))) 9 p (((V.1 9 p) - (((V.1 6 p) - (cx_X4_pagesFor V b (V.1 3 p).toNatClampNeg)) * (V.1 103 b))) - (V.1 103 b))) (V.1 2 0) (sp_O (mo_up (mo_up V 9 p ((V.1 9 p) - (((V.1 6 p) - (cx_X4_pagesFor V b (V.1 3 p).toNatClampNeg)) * (V.1 103 b)))) 9 p (((V.1 9 p) - (((V.1 6 p) - (cx_X4_pagesFor V b (V.1 3 p).toNatClampNeg)) * (V.1 103 b))) - (V.1 103 b)))))) (if ((V.1 6 p) - (cx_X4_pagesFor V b (V.1 3 p).toNatClampNeg)) ≤ 0 then (V.1 100 b) else (cx_X4_pagesClauseFor (mo_up (mo_up V 9 p ((V.1 9 p) - (((V.1 6 p) - (cx_X4_pagesFor V b (V.1 3 p).toNatClampNeg)) * (V.1 103 b)))) 9 p (((V.1 9 p) - (((V.1 6 p) - (cx_X4_pagesFor V b (V.1 3 p).toNatClampNeg)) * (V.1 103 b))) - (V.1 103 b))) b (V.1 3 p).toNatClampNeg))), ⟨rfl, rfl, V, hv, e9.symm⟩, hT⟩
          refine ev_if_le (tgt := 108) dX11_payBreaches_94 (by decide) (fun c_94 => ?_) (fun c_94 => ?_)
          · refine ev_aload_n dX11_payBreaches_108 rfl rfl ?_
            refine cw_geti (v2 := (V.1 100 b)) hE hT dX11_payBreaches_109 fX11_455 (k := 28) (i := b) hol ob28 rfl (by simp [mo_up]) ?_
            exact K_112 g hT _ (by rw [if_pos c_94])
          · refine ev_aload_n dX11_payBreaches_97 rfl rfl ?_
            refine ev_aload_n dX11_payBreaches_98 rfl rfl ?_
            refine cw_geti (v2 := (V.1 3 p)) hE hT dX11_payBreaches_99 fX11_193 (k := 20) (i := p) hp ob20 rfl (by simp [mo_up]) ?_
            refine cw_call1 (d' := d - 1) hE hT dX11_payBreaches_102 rfl kX4_pagesClauseFor lX11_452 iX4_pagesClauseFor vX4_pagesClauseFor (k := 28) (i := b) hol ob28 rfl (Nat.le_of_ble_eq_true rfl) (by omega) (by have w9 := (c_X4_pagesClauseFor (W := W) (d := d - 1) (C := (mo_up (mo_up V 9 p ((V.1 9 p) - (((V.1 6 p) - (cx_X4_pagesFor V b (V.1 3 p).toNatClampNeg)) * (V.1 103 b)))) 9 p (((V.1 9 p) - (((V.1 6 p) - (cx_X4_pagesFor V b (V.1 3 p).toNatClampNeg)) * (V.1 103 b))) - (V.1 103 b)))) (q := (V.1 3 p).toNatClampNeg) hE hol hkV.2); rw [← hkV.1] at w9; exact w9) (fun g hT => ?_)
            refine ev_goto (tgt := 112) dX11_payBreaches_105 (by decide) ?_
            exact K_112 g hT _ (by rw [if_neg c_94])
theorem cx_eqX.upR {X : List Nat} {T C : mo_S} {f i : Nat} {v : Int32} (h : cx_eqX X T C) : cx_eqX X (mo_up T f i v) (mo_up C f i v) := h.upB rfl
theorem cx_eqX.ite {X : List Nat} {c : Prop} [Decidable c] {a a' b b' : mo_S} (h1 : c → cx_eqX X a a') (h2 : ¬ c → cx_eqX X b b') : cx_eqX X (if c then a else b) (if c then a' else b') := by
  by_cases h : c
  · rw [if_pos h, if_pos h]; exact h1 h
  · rw [if_neg h, if_neg h]; exact h2 h
theorem sp_force_cg {T C : mo_S} {m : Int32} (h : T.1 36 = C.1 36) : ∀ n, sp_force T m n = sp_force C m n
  | 0 => rfl
  | n + 1 => by simp only [sp_force]; rw [sp_force_cg h n, h]
theorem cx_pay_cg {V C : mo_S} {b p : Nat} {y : Int32} (h : cx_eqX [123] V C) : cx_eqX [123] (cx_pay V b p y) (cx_pay C b p y) := by
  have h2 := h 2 (by decide)
  have h3 := h 3 (by decide)
  have h6 := h 6 (by decide)
  have h7 := h 7 (by decide)
  have h9 := h 9 (by decide)
  have h16 := h 16 (by decide)
  have h100 := h 100 (by decide)
  have h101 := h 101 (by decide)
  have h102 := h 102 (by decide)
  have h103 := h 103 (by decide)
  have e1 : ∀ (S : mo_S) (z : Int32) m n, sp_force (mo_up S 9 p z) m n = sp_force S m n := fun S z m n => sp_force_cg (by rw [mo_up_ne (by decide)]) n
  have e3 : ∀ (S : mo_S) (z : Int32), sp_O (mo_up S 9 p z) = sp_O S := fun S z => sp_O_cg (by rw [mo_up_ne (by decide)])
  have e5 : ∀ m n, sp_force V m n = sp_force C m n := fun m n => sp_force_cg (h 36 (by decide)) n
  have e6 : sp_O V = sp_O C := sp_O_cg (h 29 (by decide))
  unfold cx_pay cx_X1_add cx_X4_pagesFor cx_X4_pagesClauseFor
  simp only [mo_up_ne (show (16 : Nat) ≠ 9 by decide), mo_up_ne (show (102 : Nat) ≠ 9 by decide), mo_up_at, e1, e3, e5, e6, h2, h3, h6, h7, h9, h16, h100, h101, h102, h103]
  repeat' (first | exact h | refine cx_eqX.ite (fun _ => ?_) (fun _ => ?_) | refine cx_eqX.upR ?_)
/-- how much is printed, how much that takes -/
def cx_prc (C : mo_S) (p : Nat) : Int32 := cj_min (C.1 5 p) (nI ((10 * (C.1 10 p).toNatClampNeg + 9) / (3 * (C.1 6 p).toNatClampNeg)))
def cx_usd (C : mo_S) (p : Nat) : Int32 := cx_X11_kilogramsFor (cx_prc C p) (C.1 6 p)
def cx_r1 (C : mo_S) (p : Nat) : mo_S := mo_up (mo_up C 10 p (C.1 10 p - cx_usd C p)) 9 p (C.1 9 p + cj_min (cx_prc C p) (sp_demand C p (C.1 7 p) (sp_W C)) * C.1 7 p)
def cx_r2 (C : mo_S) (Qf : cx_Fn) (b p : Nat) : mo_S := if cx_prc C p ≤ 0 then cx_r1 C p else cx_pay (cx_r1 C p) b p (cx_price (cx_r1 C p) Qf b p (C.1 6 p))
/-- a month of a paper -/
def cx_run (C : mo_S) (Qf : cx_Fn) (b p : Nat) : mo_S := mo_up (mo_up (cx_r2 C Qf b p) 10 p ((cx_r2 C Qf b p).1 10 p + cx_usd C p / 20 * C.1 106 b / 100)) 13 p (cx_usd C p)
theorem sp_demand_cg {T C : mo_S} {p : Nat} {v : Int32} (h25 : T.1 25 = C.1 25) (h26 : T.1 26 = C.1 26) : ∀ n, sp_demand T p v n = sp_demand C p v n
  | 0 => rfl
  | n + 1 => by simp only [sp_demand]; rw [sp_demand_cg h25 h26 n, h25, h26]
theorem cx_pay_ne {C : mo_S} {b p k : Nat} {y : Int32} (h : k ≠ 9 ∧ k ≠ 16 ∧ k ≠ 17 ∧ k ≠ 18 ∧ k ≠ 19 ∧ k ≠ 20) : (cx_pay C b p y).1 k = C.1 k := by
  unfold cx_pay cx_X1_add
  have e : ∀ f i v (S : mo_S), f = 9 ∨ f = 16 ∨ f = 17 ∨ f = 18 ∨ f = 19 ∨ f = 20 → (mo_up S f i v).1 k = S.1 k := fun f i v S hf => mo_up_ne (by omega)
  repeat' split
  all_goals simp only [e _ _ _ _ (Or.inl rfl), e 16 _ _ _ (by decide), e 17 _ _ _ (by decide), e 18 _ _ _ (by decide), e 19 _ _ _ (by decide), e 20 _ _ _ (by decide)]
theorem c_X11_runMonth {G : ev_G} {W : cw_W} {d : Nat} {C : mo_S} {b : Nat} {p : Nat} {Pf Qf : cx_Fn} (hE : ev_En G) {D0 : Nat} (h4 : ev_En4 G D0) (hd : 7 ≤ d) (hc : cx_cd C Pf Qf) (hb : b < sp_O C ∨ b = 10) (hp : p < sp_P C) (hk : C.1 3 p = nI (C.1 3 p).toNatClampNeg ∧ (C.1 3 p).toNatClampNeg < 3) (hs : C.1 10 p = nI (C.1 10 p).toNatClampNeg ∧ (C.1 10 p).toNatClampNeg ≤ 100000000) (hg : C.1 6 p = nI (C.1 6 p).toNatClampNeg ∧ 1 ≤ (C.1 6 p).toNatClampNeg ∧ (C.1 6 p).toNatClampNeg ≤ 1000) (hW : C.1 24 0 = nI (sp_W C)) (hW2 : sp_W C ≤ 5) : cw_R G W d 0 0 mX11_runMonth [.ref (W 0 0), .ref (W 28 b), .ref (W 20 p)] C (fun o W2 C2 => W2 = W ∧ o = .inl none ∧ cx_eqX [123] C2 (cx_run C Qf b p)) := by
  refine cw_startR (lv0 := [some (.ref (W 0 0)), some (.ref (W 28 b)), some (.ref (W 20 p)), none, none]) (by decide +kernel) rfl (Nat.le_of_ble_eq_true rfl) rfl ?_
  intro K g0 g hT
  have hol := cx_olI hb
  refine ev_aload_n dX11_runMonth_0 rfl rfl ?_
  refine cw_getf hE hT dX11_runMonth_1 fX11_264 (k := 20) (i := p) hp ob20 rfl ?_
  refine ev_aload_n dX11_runMonth_4 rfl rfl ?_
  refine cw_getf hE hT dX11_runMonth_5 fX11_142 (k := 20) (i := p) hp ob20 rfl ?_
  refine ev_aload_n dX11_runMonth_8 rfl rfl ?_
  refine cw_getf hE hT dX11_runMonth_9 fX11_199 (k := 20) (i := p) hp ob20 rfl ?_
  refine ev_pS2 (d' := d - 1) dX11_runMonth_12 rfl kX11_mostCopies lX11_438 sX11_mostCopies (Nat.le_of_ble_eq_true rfl) (by omega) (by have w9 := c_X11_mostCopies (G := G) (d := d - 1) (g := g) (k := (C.1 10 p).toNatClampNeg) (n := (C.1 6 p).toNatClampNeg) hs.2 hg.2.1 hg.2.2; rw [← hs.1, ← hg.1] at w9; exact w9) ?_
  refine ev_mmin dX11_runMonth_15 lX11_337 (Nat.le_of_ble_eq_true rfl) (by omega) ?_
  rw [show cj_min (C.1 5 p) (nI ((10 * (C.1 10 p).toNatClampNeg + 9) / (3 * (C.1 6 p).toNatClampNeg))) = cx_prc C p from rfl]
  refine ev_istore_n (lv' := [some (.ref (W 0 0)), some (.ref (W 28 b)), some (.ref (W 20 p)), some (.int (cx_prc C p)), none]) dX11_runMonth_18 rfl (Nat.le_of_ble_eq_true rfl) rfl ?_
  refine ev_iload_n dX11_runMonth_19 rfl rfl ?_
  refine ev_aload_n dX11_runMonth_20 rfl rfl ?_
  refine cw_getf hE hT dX11_runMonth_21 fX11_199 (k := 20) (i := p) hp ob20 rfl ?_
  refine ev_pS2 (d' := d - 1) dX11_runMonth_24 rfl kX11_kilogramsFor lX11_441 sX11_kilogramsFor (Nat.le_of_ble_eq_true rfl) (by omega) c_X11_kilogramsFor ?_
  rw [show cx_X11_kilogramsFor (cx_prc C p) (C.1 6 p) = cx_usd C p from rfl]
  refine ev_istore (lv' := [some (.ref (W 0 0)), some (.ref (W 28 b)), some (.ref (W 20 p)), some (.int (cx_prc C p)), some (.int (cx_usd C p))]) dX11_runMonth_27 (Nat.le_of_ble_eq_true rfl) rfl ?_
  refine ev_aload_n dX11_runMonth_29 rfl rfl ?_
  refine ev_dup dX11_runMonth_30 rfl ?_
  refine cw_getf hE hT dX11_runMonth_31 fX11_142 (k := 20) (i := p) hp ob20 rfl ?_
  refine ev_iload dX11_runMonth_34 rfl ?_
  refine ev_isub dX11_runMonth_36 ?_
  refine cw_putf (k := 20) (i := p) (f := 10) (x := p) hE hT dX11_runMonth_37 pX11_142 hp ob20 (Nat.le_of_ble_eq_true rfl) rfl rfl rfl (by decide) (by decide) pu20_7 (fun g hT => ?_)
  refine ev_aload_n dX11_runMonth_40 rfl rfl ?_
  refine ev_dup dX11_runMonth_41 rfl ?_
  refine cw_geti (v2 := (C.1 9 p)) hE hT dX11_runMonth_42 fX11_432 (k := 20) (i := p) hp ob20 rfl (by simp [mo_up]) ?_
  refine ev_iload_n dX11_runMonth_45 rfl rfl ?_
  refine ev_aload_n dX11_runMonth_46 rfl rfl ?_
  refine ev_aload_n dX11_runMonth_47 rfl rfl ?_
  refine ev_aload_n dX11_runMonth_48 rfl rfl ?_
  refine cw_geti (v2 := (C.1 7 p)) hE hT dX11_runMonth_49 fX11_444 (k := 20) (i := p) hp ob20 rfl (by simp [mo_up]) ?_
  refine cw_call2 (d' := d - 1) hE hT dX11_runMonth_52 rfl kX11_demandOf lX11_161 iX11_demandOf vX11_demandOf (k := 0) (i := 0) rfl ob0 rfl (Nat.le_of_ble_eq_true rfl) (by omega) (c_X11_demandOf hE hp hW hW2) (fun g hT => ?_)
  rw [show sp_demand (mo_up C 10 p ((C.1 10 p) - (cx_usd C p))) p (C.1 7 p) (sp_W (mo_up C 10 p ((C.1 10 p) - (cx_usd C p)))) = sp_demand C p (C.1 7 p) (sp_W C) from sp_demand_cg (by rw [mo_up_ne (by decide)]) (by rw [mo_up_ne (by decide)]) _]
  refine ev_mmin dX11_runMonth_55 lX11_337 (Nat.le_of_ble_eq_true rfl) (by omega) ?_
  refine ev_aload_n dX11_runMonth_58 rfl rfl ?_
  refine cw_geti (v2 := (C.1 7 p)) hE hT dX11_runMonth_59 fX11_444 (k := 20) (i := p) hp ob20 rfl (by simp [mo_up]) ?_
  refine ev_imul dX11_runMonth_62 ?_
  refine ev_iadd dX11_runMonth_63 ?_
  refine cw_putf (k := 20) (i := p) (f := 9) (x := p) hE hT dX11_runMonth_64 pX11_432 hp ob20 (Nat.le_of_ble_eq_true rfl) rfl rfl rfl (by decide) (by decide) pu20_6 (fun g hT => ?_)
  refine ev_iload_n dX11_runMonth_67 rfl rfl ?_
  refine ev_if_le (tgt := 77) dX11_runMonth_68 (by decide) (fun c_68 => ?_) (fun c_68 => ?_)
  · refine ev_aload_n dX11_runMonth_77 rfl rfl ?_
    refine ev_dup dX11_runMonth_78 rfl ?_
    refine cw_geti (v2 := ((C.1 10 p) - (cx_usd C p))) hE hT dX11_runMonth_79 fX11_142 (k := 20) (i := p) hp ob20 rfl (by simp [mo_up]) ?_
    refine ev_iload dX11_runMonth_82 rfl ?_
    refine ev_bipush (v := 20) dX11_runMonth_84 (by decide) ?_
    refine ev_idiv dX11_runMonth_86 (by decide) ?_
    refine ev_aload_n dX11_runMonth_87 rfl rfl ?_
    refine cw_geti (v2 := (C.1 106 b)) hE hT dX11_runMonth_88 fX11_215 (k := 28) (i := b) hol ob28 rfl (by simp [mo_up]) ?_
    refine ev_imul dX11_runMonth_91 ?_
    refine ev_bipush (v := 100) dX11_runMonth_92 (by decide) ?_
    refine ev_idiv dX11_runMonth_94 (by decide) ?_
    refine ev_iadd dX11_runMonth_95 ?_
    refine cw_putf (k := 20) (i := p) (f := 10) (x := p) hE hT dX11_runMonth_96 pX11_142 hp ob20 (Nat.le_of_ble_eq_true rfl) rfl rfl rfl (by decide) (by decide) pu20_7 (fun g hT => ?_)
    refine ev_aload_n dX11_runMonth_99 rfl rfl ?_
    refine ev_iload dX11_runMonth_100 rfl ?_
    refine cw_putf (k := 20) (i := p) (f := 13) (x := p) hE hT dX11_runMonth_102 pX11_449 hp ob20 (Nat.le_of_ble_eq_true rfl) rfl rfl rfl (by decide) (by decide) pu20_10 (fun g hT => ?_)
    have er : cx_r2 C Qf b p = cx_r1 C p := if_pos c_68
    exact ev_vret dX11_runMonth_105 rfl ⟨W, (mo_up (mo_up (mo_up (mo_up C 10 p ((C.1 10 p) - (cx_usd C p))) 9 p ((C.1 9 p) + ((cj_min (cx_prc C p) (sp_demand C p (C.1 7 p) (sp_W C))) * (C.1 7 p)))) 10 p (((C.1 10 p) - (cx_usd C p)) + ((((cx_usd C p) / 20) * (C.1 106 b)) / 100))) 13 p (cx_usd C p)), ⟨rfl, rfl, by unfold cx_run; rw [er, show (cx_r1 C p).1 10 p = C.1 10 p - cx_usd C p by unfold cx_r1; rw [mo_up_ne (by decide), mo_up_at, pk_us]]; exact cx_eqX.r _⟩, hT⟩
  · refine ev_aload_n dX11_runMonth_71 rfl rfl ?_
    refine ev_aload_n dX11_runMonth_72 rfl rfl ?_
    refine ev_aload_n dX11_runMonth_73 rfl rfl ?_
    have hr1 : cx_r1 C p = (mo_up (mo_up C 10 p ((C.1 10 p) - (cx_usd C p))) 9 p ((C.1 9 p) + ((cj_min (cx_prc C p) (sp_demand C p (C.1 7 p) (sp_W C))) * (C.1 7 p)))) := rfl
    refine cw_callr2 (d' := d - 1) (b := 0) (n0 := 0) hE hT dX11_runMonth_74 rfl kX11_payBreaches lX11_446 iX11_payBreaches vX11_payBreaches (k := 0) (i := 0) rfl ob0 rfl (Nat.le_of_ble_eq_true rfl) (by omega) (c_X11_payBreaches (d := d - 1) hE h4 (by omega) (hc.cg rfl rfl rfl rfl rfl rfl) hb hp hk) (Nat.le_refl _) (Nat.le_refl _) (fun v9 W9 V2 g q9 hT => ?_) (fun E W2 C2 g q9 _ => by cases q9.2.1)
    obtain ⟨e8, e9, V, hv, e6⟩ := q9
    have e7 := e8.symm
    subst e7
    cases e9
    have hv2 : cx_eqX [123] V2 (cx_r2 C Qf b p) := by unfold cx_r2; rw [if_neg c_68, e6]; exact cx_pay_cg hv.x
    have hp : p < sp_P V2 := by rw [e6, sp_P_cg (cx_pay_ne (by decide)), sp_P_cg (hv.1 1 (by decide))]; exact hp
    have hol : cw_ol V2 b := cx_olI (by rw [e6, sp_O_cg (cx_pay_ne (by decide)), sp_O_cg (hv.1 29 (by decide))]; exact hb)
    have h106 : V2.1 106 = C.1 106 := by rw [e6, cx_pay_ne (by decide), hv.1 106 (by decide)]; rfl
    refine ev_aload_n dX11_runMonth_77 rfl rfl ?_
    refine ev_dup dX11_runMonth_78 rfl ?_
    refine cw_getf hE hT dX11_runMonth_79 fX11_142 (k := 20) (i := p) hp ob20 rfl ?_
    refine ev_iload dX11_runMonth_82 rfl ?_
    refine ev_bipush (v := 20) dX11_runMonth_84 (by decide) ?_
    refine ev_idiv dX11_runMonth_86 (by decide) ?_
    refine ev_aload_n dX11_runMonth_87 rfl rfl ?_
    refine cw_getf hE hT dX11_runMonth_88 fX11_215 (k := 28) (i := b) hol ob28 rfl ?_
    refine ev_imul dX11_runMonth_91 ?_
    refine ev_bipush (v := 100) dX11_runMonth_92 (by decide) ?_
    refine ev_idiv dX11_runMonth_94 (by decide) ?_
    refine ev_iadd dX11_runMonth_95 ?_
    refine cw_putf (k := 20) (i := p) (f := 10) (x := p) hE hT dX11_runMonth_96 pX11_142 hp ob20 (Nat.le_of_ble_eq_true rfl) rfl rfl rfl (by decide) (by decide) pu20_7 (fun g hT => ?_)
    refine ev_aload_n dX11_runMonth_99 rfl rfl ?_
    refine ev_iload dX11_runMonth_100 rfl ?_
    refine cw_putf (k := 20) (i := p) (f := 13) (x := p) hE hT dX11_runMonth_102 pX11_449 hp ob20 (Nat.le_of_ble_eq_true rfl) rfl rfl rfl (by decide) (by decide) pu20_10 (fun g hT => ?_)
    exact ev_vret dX11_runMonth_105 rfl ⟨W, (mo_up (mo_up V2 10 p ((V2.1 10 p) + ((((cx_usd C p) / 20) * (V2.1 106 b)) / 100))) 13 p (cx_usd C p)), ⟨rfl, rfl, (hv2.upB (by rw [hv2 10 (by decide), h106])).upB rfl⟩, hT⟩
end CH
