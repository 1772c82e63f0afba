section CH
def cx_pay (C : mo_S) (b p : Nat) (y : Int32) : mo_S :=
  (if ((C.1 6 p) - (cx_X4_pagesFor C b (C.1 3 p).toNatClampNeg)) ≤ 0 then (if y = (-1) then C else (if y = (C.1 7 p) then C else (cx_X1_add (mo_up C 9 p ((C.1 9 p) - (C.1 103 b))) p (C.1 2 0) 2 (sp_opt (sp_force (mo_up C 9 p ((C.1 9 p) - (C.1 103 b))) (C.1 2 0) (sp_O (mo_up C 9 p ((C.1 9 p) - (C.1 103 b)))))) (if ((C.1 6 p) - (cx_X4_pagesFor C b (C.1 3 p).toNatClampNeg)) ≤ 0 then (C.1 100 b) else (cx_X4_pagesClauseFor (mo_up C 9 p ((C.1 9 p) - (C.1 103 b))) b (C.1 3 p).toNatClampNeg))))) else (if y = (-1) then (cx_X1_add (mo_up C 9 p ((C.1 9 p) - (((C.1 6 p) - (cx_X4_pagesFor C b (C.1 3 p).toNatClampNeg)) * (C.1 103 b)))) p (C.1 2 0) 1 (sp_opt (sp_force (mo_up C 9 p ((C.1 9 p) - (((C.1 6 p) - (cx_X4_pagesFor C b (C.1 3 p).toNatClampNeg)) * (C.1 103 b)))) (C.1 2 0) (sp_O (mo_up C 9 p ((C.1 9 p) - (((C.1 6 p) - (cx_X4_pagesFor C b (C.1 3 p).toNatClampNeg)) * (C.1 103 b))))))) (if ((C.1 6 p) - (cx_X4_pagesFor C b (C.1 3 p).toNatClampNeg)) ≤ 0 then (C.1 100 b) else (cx_X4_pagesClauseFor (mo_up C 9 p ((C.1 9 p) - (((C.1 6 p) - (cx_X4_pagesFor C b (C.1 3 p).toNatClampNeg)) * (C.1 103 b)))) b (C.1 3 p).toNatClampNeg))) else (if y = (C.1 7 p) then (cx_X1_add (mo_up C 9 p ((C.1 9 p) - (((C.1 6 p) - (cx_X4_pagesFor C b (C.1 3 p).toNatClampNeg)) * (C.1 103 b)))) p (C.1 2 0) 1 (sp_opt (sp_force (mo_up C 9 p ((C.1 9 p) - (((C.1 6 p) - (cx_X4_pagesFor C b (C.1 3 p).toNatClampNeg)) * (C.1 103 b)))) (C.1 2 0) (sp_O (mo_up C 9 p ((C.1 9 p) - (((C.1 6 p) - (cx_X4_pagesFor C b (C.1 3 p).toNatClampNeg)) * (C.1 103 b))))))) (if ((C.1 6 p) - (cx_X4_pagesFor C b (C.1 3 p).toNatClampNeg)) ≤ 0 then (C.1 100 b) else (cx_X4_pagesClauseFor (mo_up C 9 p ((C.1 9 p) - (((C.1 6 p) - (cx_X4_pagesFor C b (C.1 3 p).toNatClampNeg)) * (C.1 103 b)))) b (C.1 3 p).toNatClampNeg))) else (cx_X1_add (mo_up (mo_up C 9 p ((C.1 9 p) - (((C.1 6 p) - (cx_X4_pagesFor C b (C.1 3 p).toNatClampNeg)) * (C.1 103 b)))) 9 p (((C.1 9 p) - (((C.1 6 p) - (cx_X4_pagesFor C b (C.1 3 p).toNatClampNeg)) * (C.1 103 b))) - (C.1 103 b))) p (C.1 2 0) 3 (sp_opt (sp_force (mo_up (mo_up C 9 p ((C.1 9 p) - (((C.1 6 p) - (cx_X4_pagesFor C b (C.1 3 p).toNatClampNeg)) * (C.1 103 b)))) 9 p (((C.1 9 p) - (((C.1 6 p) - (cx_X4_pagesFor C b (C.1 3 p).toNatClampNeg)) * (C.1 103 b))) - (C.1 103 b))) (C.1 2 0) (sp_O (mo_up (mo_up C 9 p ((C.1 9 p) - (((C.1 6 p) - (cx_X4_pagesFor C b (C.1 3 p).toNatClampNeg)) * (C.1 103 b)))) 9 p (((C.1 9 p) - (((C.1 6 p) - (cx_X4_pagesFor C b (C.1 3 p).toNatClampNeg)) * (C.1 103 b))) - (C.1 103 b)))))) (if ((C.1 6 p) - (cx_X4_pagesFor C b (C.1 3 p).toNatClampNeg)) ≤ 0 then (C.1 100 b) else (cx_X4_pagesClauseFor (mo_up (mo_up C 9 p ((C.1 9 p) - (((C.1 6 p) - (cx_X4_pagesFor C b (C.1 3 p).toNatClampNeg)) * (C.1 103 b)))) 9 p (((C.1 9 p) - (((C.1 6 p) - (cx_X4_pagesFor C b (C.1 3 p).toNatClampNeg)) * (C.1 103 b))) - (C.1 103 b))) b (C.1 3 p).toNatClampNeg))))))
theorem c_X11_payBreaches {G : ev_G} {W : cw_W} {d D0 : Nat} {C : mo_S} {b p : Nat} {Pf Qf : cx_Fn} (hE : ev_En G) (h4 : ev_En4 G D0) (hd : 5 ≤ d) (hc : cx_cd C Pf Qf) (hb : b < sp_O C ∨ b = 10) (hp : p < sp_P C) (hk : C.1 3 p = nI (C.1 3 p).toNatClampNeg ∧ (C.1 3 p).toNatClampNeg < 3) : cw_R G W d 0 0 mX11_payBreaches [.ref (W 0 0), .ref (W 28 b), .ref (W 20 p)] C (fun o W2 C2 => W2 = W ∧ o = .inl none ∧ ∃ V, cx_eqV V C ∧ C2 = cx_pay V b p (cx_price C Qf b p (C.1 6 p))) := by
  refine cw_startR (lv0 := [some (.ref (W 0 0)), some (.ref (W 28 b)), some (.ref (W 20 p)), none, none, none, none]) (by decide +kernel) rfl (Nat.le_of_ble_eq_true rfl) rfl ?_
  intro K g0 g hT
  have hol := cx_olI hb
  refine ev_aload_n dX11_payBreaches_0 rfl rfl ?_
  refine cw_getf hE hT dX11_payBreaches_1 fX11_199 (k := 20) (i := p) hp ob20 rfl ?_
  refine ev_aload_n dX11_payBreaches_4 rfl rfl ?_
  refine ev_aload_n dX11_payBreaches_5 rfl rfl ?_
  refine cw_getf hE hT dX11_payBreaches_6 fX11_193 (k := 20) (i := p) hp ob20 rfl ?_
  refine cw_call1 (d' := d - 1) hE hT dX11_payBreaches_9 rfl kX4_pagesFor lX11_196 iX4_pagesFor vX4_pagesFor (k := 28) (i := b) hol ob28 rfl (Nat.le_of_ble_eq_true rfl) (by omega) (by have w9 := (c_X4_pagesFor (W := W) (d := d - 1) (C := C) (q := (C.1 3 p).toNatClampNeg) hE hol hk.2); rw [← hk.1] at w9; exact w9) (fun g hT => ?_)
  refine ev_isub dX11_payBreaches_12 ?_
  refine ev_istore_n (lv' := [some (.ref (W 0 0)), some (.ref (W 28 b)), some (.ref (W 20 p)), some (.int ((C.1 6 p) - (cx_X4_pagesFor C b (C.1 3 p).toNatClampNeg))), none, none, none]) dX11_payBreaches_13 rfl (Nat.le_of_ble_eq_true rfl) rfl ?_
  refine ev_aload_n dX11_payBreaches_14 rfl rfl ?_
  refine ev_aload_n dX11_payBreaches_15 rfl rfl ?_
  refine ev_aload_n dX11_payBreaches_16 rfl rfl ?_
  refine ev_aload_n dX11_payBreaches_17 rfl rfl ?_
  refine cw_getf hE hT dX11_payBreaches_18 fX11_199 (k := 20) (i := p) hp ob20 rfl ?_
  refine cw_callr3 (d' := d - 1) (b := 0) (n0 := 0) hE hT dX11_payBreaches_21 rfl kX11_priceValue lX11_202 iX11_priceValue vX11_priceValue (k := 0) (i := 0) rfl ob0 rfl (Nat.le_of_ble_eq_true rfl) (by omega) (c_X11_priceValue (d := d - 1) hE h4 (by omega) hc hb hp) (Nat.le_refl _) (Nat.le_refl _) (fun v9 W9 V g q9 hT => ?_) (fun E W2 C2 g q9 _ => by cases q9.2.1)
  obtain ⟨e8, e9, hv⟩ := q9
  have e7 := e8.symm
  subst e7
  cases e9
  rw [show ((C.1 6 p) - (cx_X4_pagesFor C b (C.1 3 p).toNatClampNeg)) = ((V.1 6 p) - (cx_X4_pagesFor V b (V.1 3 p).toNatClampNeg)) by unfold cx_X4_pagesFor; rw [hv.1 6 (by decide), hv.1 101 (by decide), hv.1 3 (by decide)]]
  have hk1 := hk.1
  have hk2 := hk.2
  have hkV : V.1 3 p = nI (V.1 3 p).toNatClampNeg ∧ (V.1 3 p).toNatClampNeg < 3 := by rw [hv.1 3 (by decide)]; exact hk
  have hp : p < sp_P V := lvP hp (hv.1 1 (by decide))
  have hb : b < sp_O V ∨ b = 10 := by rw [sp_O_cg (hv.1 29 (by decide))]; exact hb
  have hol := cx_olI hb
  refine ev_istore (lv' := [some (.ref (W 0 0)), some (.ref (W 28 b)), some (.ref (W 20 p)), some (.int ((V.1 6 p) - (cx_X4_pagesFor V b (V.1 3 p).toNatClampNeg))), some (.int (cx_price C Qf b p (C.1 6 p))), none, none]) dX11_payBreaches_24 (Nat.le_of_ble_eq_true rfl) rfl ?_
  refine ev_iconst (v := 0) dX11_payBreaches_26 (by decide) ?_
  refine ev_istore (lv' := [some (.ref (W 0 0)), some (.ref (W 28 b)), some (.ref (W 20 p)), some (.int ((V.1 6 p) - (cx_X4_pagesFor V b (V.1 3 p).toNatClampNeg))), some (.int (cx_price C Qf b p (C.1 6 p))), some (.int 0), none]) dX11_payBreaches_27 (Nat.le_of_ble_eq_true rfl) rfl ?_
  refine ev_iload_n dX11_payBreaches_29 rfl rfl ?_
  refine ev_if_le (tgt := 54) dX11_payBreaches_30 (by decide) (fun c_30 => ?_) (fun c_30 => ?_)
  · refine ev_iload dX11_payBreaches_54 rfl ?_
    refine ev_iconst (v := (-1)) dX11_payBreaches_56 (by decide) ?_
    refine ev_icmp_eq (tgt := 88) dX11_payBreaches_57 (by decide) (fun c_57 => ?_) (fun c_57 => ?_)
    · refine ev_iload dX11_payBreaches_88 rfl ?_
      refine ev_if_eq (tgt := 137) dX11_payBreaches_90 (by decide) (fun c_90 => ?_) (fun c_90 => ?_)
      · have e9 : cx_pay V b p (cx_price C Qf b p (C.1 6 p)) = V := by unfold cx_pay; rw [if_pos c_30, if_pos c_57]
        exact ev_vret dX11_payBreaches_137 rfl ⟨W, V, ⟨rfl, rfl, V, hv, e9.symm⟩, hT⟩
      · exact absurd (by decide) c_90
    · refine ev_iload dX11_payBreaches_60 rfl ?_
      refine ev_aload_n dX11_payBreaches_62 rfl rfl ?_
      refine cw_getf hE hT dX11_payBreaches_63 fX11_444 (k := 20) (i := p) hp ob20 rfl ?_
      refine ev_icmp_eq (tgt := 88) dX11_payBreaches_66 (by decide) (fun c_66 => ?_) (fun c_66 => ?_)
      · refine ev_iload dX11_payBreaches_88 rfl ?_
        refine ev_if_eq (tgt := 137) dX11_payBreaches_90 (by decide) (fun c_90 => ?_) (fun c_90 => ?_)
        · have e9 : cx_pay V b p (cx_price C Qf b p (C.1 6 p)) = V := by unfold cx_pay; rw [if_pos c_30, if_neg c_57, if_pos c_66]
          exact ev_vret dX11_payBreaches_137 rfl ⟨W, V, ⟨rfl, rfl, V, hv, e9.symm⟩, hT⟩
        · exact absurd (by decide) c_90
      · refine ev_iload dX11_payBreaches_69 rfl ?_
        refine ev_iconst (v := 2) dX11_payBreaches_71 (by decide) ?_
        refine ev_ior dX11_payBreaches_72 ?_
        rw [show ((0 : Int32) ||| 2) = 2 by decide]
        refine ev_istore (lv' := [some (.ref (W 0 0)), some (.ref (W 28 b)), some (.ref (W 20 p)), some (.int ((V.1 6 p) - (cx_X4_pagesFor V b (V.1 3 p).toNatClampNeg))), some (.int (cx_price C Qf b p (C.1 6 p))), some (.int 2), none]) dX11_payBreaches_73 (Nat.le_of_ble_eq_true rfl) rfl ?_
        refine ev_aload_n dX11_payBreaches_75 rfl rfl ?_
        refine ev_dup dX11_payBreaches_76 rfl ?_
        refine cw_getf hE hT dX11_payBreaches_77 fX11_432 (k := 20) (i := p) hp ob20 rfl ?_
        refine ev_aload_n dX11_payBreaches_80 rfl rfl ?_
        refine cw_getf hE hT dX11_payBreaches_81 fX11_206 (k := 28) (i := b) hol ob28 rfl ?_
        refine ev_isub dX11_payBreaches_84 ?_
        refine cw_putf (k := 20) (i := p) (f := 9) (x := p) hE hT dX11_payBreaches_85 pX11_432 hp ob20 (Nat.le_of_ble_eq_true rfl) rfl rfl rfl (by decide) (by decide) pu20_6 (fun g hT => ?_)
        refine ev_iload dX11_payBreaches_88 rfl ?_
        refine ev_if_eq (tgt := 137) dX11_payBreaches_90 (by decide) (fun c_90 => ?_) (fun c_90 => ?_)
        · exact absurd c_90 (by decide)
        · refine ev_iload_n dX11_payBreaches_93 rfl rfl ?_
          have K_112 : ∀ (g : ev_H) (hT : cw_T G K g0 W g (mo_up V 9 p ((V.1 9 p) - (V.1 103 b)))), ∀ x9 : Int32, x9 = (if ((V.1 6 p) - (cx_X4_pagesFor V b (V.1 3 p).toNatClampNeg)) ≤ 0 then (V.1 100 b) else (cx_X4_pagesClauseFor (mo_up V 9 p ((V.1 9 p) - (V.1 103 b))) b (V.1 3 p).toNatClampNeg)) → ev_V G d 0 0 mX11_payBreaches (fun o g' => ∃ W2 C2, (W2 = W ∧ o = .inl none ∧ ∃ V, cx_eqV V C ∧ C2 = cx_pay V b p (cx_price C Qf b p (C.1 6 p))) ∧ cw_T G K g0 W2 g' C2) g 112 [some (.ref (W 0 0)), some (.ref (W 28 b)), some (.ref (W 20 p)), some (.int ((V.1 6 p) - (cx_X4_pagesFor V b (V.1 3 p).toNatClampNeg))), some (.int (cx_price C Qf b p (C.1 6 p))), some (.int 2), none] (.int x9 :: []) := by
            intro g hT x9 h9
            subst h9
            refine ev_istore (lv' := [some (.ref (W 0 0)), some (.ref (W 28 b)), some (.ref (W 20 p)), some (.int ((V.1 6 p) - (cx_X4_pagesFor V b (V.1 3 p).toNatClampNeg))), some (.int (cx_price C Qf b p (C.1 6 p))), some (.int 2), some (.int (if ((V.1 6 p) - (cx_X4_pagesFor V b (V.1 3 p).toNatClampNeg)) ≤ 0 then (V.1 100 b) else (cx_X4_pagesClauseFor (mo_up V 9 p ((V.1 9 p) - (V.1 103 b))) b (V.1 3 p).toNatClampNeg)))]) dX11_payBreaches_112 (Nat.le_of_ble_eq_true rfl) rfl ?_
            refine ev_aload_n dX11_payBreaches_114 rfl rfl ?_
            refine cw_getf hE hT dX11_payBreaches_115 fX11_270 (k := 20) (i := p) hp ob20 rfl ?_
            refine ev_aload_n dX11_payBreaches_118 rfl rfl ?_
            refine cw_geti (v2 := (V.1 2 0)) hE hT dX11_payBreaches_119 fX11_33 (k := 0) (i := 0) rfl ob0 rfl (by simp [mo_up]) ?_
            refine ev_iload dX11_payBreaches_122 rfl ?_
            refine ev_aload_n dX11_payBreaches_124 rfl rfl ?_
            refine ev_aload_n dX11_payBreaches_125 rfl rfl ?_
            refine cw_geti (v2 := (V.1 2 0)) hE hT dX11_payBreaches_126 fX11_33 (k := 0) (i := 0) rfl ob0 rfl (by simp [mo_up]) ?_
            refine cw_call1 (d' := d - 1) hE hT dX11_payBreaches_129 rfl kX11_numberInForce lX11_182 iX11_numberInForce vX11_numberInForce (k := 0) (i := 0) rfl ob0 rfl (Nat.le_of_ble_eq_true rfl) (by omega) (c_X11_numberInForce hE (by omega)) (fun g hT => ?_)
            refine ev_iload dX11_payBreaches_132 rfl ?_
            refine cw_call4 (d' := d - 1) hE hT dX11_payBreaches_134 rfl kX1_add lX11_458 iX1_add vX1_add (k := 23) (i := p) hp ob23 rfl (Nat.le_of_ble_eq_true rfl) (by omega) (c_X1_add hE (by omega) hp) (fun g hT => ?_)
            have e9 : cx_pay V b p (cx_price C Qf b p (C.1 6 p)) = (cx_X1_add (mo_up V 9 p ((V.1 9 p) - (V.1 103 b))) p (V.1 2 0) 2 (sp_opt (sp_force (mo_up V 9 p ((V.1 9 p) - (V.1 103 b))) (V.1 2 0) (sp_O (mo_up V 9 p ((V.1 9 p) - (V.1 103 b)))))) (if ((V.1 6 p) - (cx_X4_pagesFor V b (V.1 3 p).toNatClampNeg)) ≤ 0 then (V.1 100 b) else (cx_X4_pagesClauseFor (mo_up V 9 p ((V.1 9 p) - (V.1 103 b))) b (V.1 3 p).toNatClampNeg))) := by unfold cx_pay; rw [if_pos c_30, if_neg c_57, if_neg c_66]
            exact ev_vret dX11_payBreaches_137 rfl ⟨W, (cx_X1_add (mo_up V 9 p ((V.1 9 p) - (V.1 103 b))) p (V.1 2 0) 2 (sp_opt (sp_force (mo_up V 9 p ((V.1 9 p) - (V.1 103 b))) (V.1 2 0) (sp_O (mo_up V 9 p ((V.1 9 p) - (V.1 103 b)))))) (if ((V.1 6 p) - (cx_X4_pagesFor V b (V.1 3 p).toNatClampNeg)) ≤ 0 then (V.1 100 b) else (cx_X4_pagesClauseFor (mo_up V 9 p ((V.1 9 p) - (V.1 103 b))) b (V.1 3 p).toNatClampNeg))), ⟨rfl, rfl, V, hv, e9.symm⟩, hT⟩
          refine ev_if_le (tgt := 108) dX11_payBreaches_94 (by decide) (fun c_94 => ?_) (fun c_94 => ?_)
          · refine ev_aload_n dX11_payBreaches_108 rfl rfl ?_
            refine cw_geti (v2 := (V.1 100 b)) hE hT dX11_payBreaches_109 fX11_455 (k := 28) (i := b) hol ob28 rfl (by simp [mo_up]) ?_
            exact K_112 g hT _ (by rw [if_pos c_94])
          · refine ev_aload_n dX11_payBreaches_97 rfl rfl ?_
            refine ev_aload_n dX11_payBreaches_98 rfl rfl ?_
            refine cw_geti (v2 := (V.1 3 p)) hE hT dX11_payBreaches_99 fX11_193 (k := 20) (i := p) hp ob20 rfl (by simp [mo_up]) ?_
            refine cw_call1 (d' := d - 1) hE hT dX11_payBreaches_102 rfl kX4_pagesClauseFor lX11_452 iX4_pagesClauseFor vX4_pagesClauseFor (k := 28) (i := b) hol ob28 rfl (Nat.le_of_ble_eq_true rfl) (by omega) (by have w9 := (c_X4_pagesClauseFor (W := W) (d := d - 1) (C := (mo_up V 9 p ((V.1 9 p) - (V.1 103 b)))) (q := (V.1 3 p).toNatClampNeg) hE hol hkV.2); rw [← hkV.1] at w9; exact w9) (fun g hT => ?_)
            refine ev_goto (tgt := 112) dX11_payBreaches_105 (by decide) ?_
            exact K_112 g hT _ (by rw [if_neg c_94])
  · refine ev_iload dX11_payBreaches_33 rfl ?_
    refine ev_iconst (v := 1) dX11_payBreaches_35 (by decide) ?_
    refine ev_ior dX11_payBreaches_36 ?_
    rw [show ((0 : Int32) ||| 1) = 1 by decide]
    refine ev_istore (lv' := [some (.ref (W 0 0)), some (.ref (W 28 b)), some (.ref (W 20 p)), some (.int ((V.1 6 p) - (cx_X4_pagesFor V b (V.1 3 p).toNatClampNeg))), some (.int (cx_price C Qf b p (C.1 6 p))), some (.int 1), none]) dX11_payBreaches_37 (Nat.le_of_ble_eq_true rfl) rfl ?_
    refine ev_aload_n dX11_payBreaches_39 rfl rfl ?_
    refine ev_dup dX11_payBreaches_40 rfl ?_
    refine cw_getf hE hT dX11_payBreaches_41 fX11_432 (k := 20) (i := p) hp ob20 rfl ?_
    refine ev_iload_n dX11_payBreaches_44 rfl rfl ?_
    refine ev_aload_n dX11_payBreaches_45 rfl rfl ?_
    refine cw_getf hE hT dX11_payBreaches_46 fX11_206 (k := 28) (i := b) hol ob28 rfl ?_
    refine ev_imul dX11_payBreaches_49 ?_
    refine ev_isub dX11_payBreaches_50 ?_
    refine cw_putf (k := 20) (i := p) (f := 9) (x := p) hE hT dX11_payBreaches_51 pX11_432 hp ob20 (Nat.le_of_ble_eq_true rfl) rfl rfl rfl (by decide) (by decide) pu20_6 (fun g hT => ?_)
    refine ev_iload dX11_payBreaches_54 rfl ?_
    refine ev_iconst (v := (-1)) dX11_payBreaches_56 (by decide) ?_
    refine ev_icmp_eq (tgt := 88) dX11_payBreaches_57 (by decide) (fun c_57 => ?_) (fun c_57 => ?_)
    · refine ev_iload dX11_payBreaches_88 rfl ?_
      refine ev_if_eq (tgt := 137) dX11_payBreaches_90 (by decide) (fun c_90 => ?_) (fun c_90 => ?_)
      · exact absurd c_90 (by decide)
      · refine ev_iload_n dX11_payBreaches_93 rfl rfl ?_
        have K_112 : ∀ (g : ev_H) (hT : cw_T G K g0 W g (mo_up V 9 p ((V.1 9 p) - (((V.1 6 p) - (cx_X4_pagesFor V b (V.1 3 p).toNatClampNeg)) * (V.1 103 b))))), ∀ x9 : Int32, x9 = (if ((V.1 6 p) - (cx_X4_pagesFor V b (V.1 3 p).toNatClampNeg)) ≤ 0 then (V.1 100 b) else (cx_X4_pagesClauseFor (mo_up V 9 p ((V.1 9 p) - (((V.1 6 p) - (cx_X4_pagesFor V b (V.1 3 p).toNatClampNeg)) * (V.1 103 b)))) b (V.1 3 p).toNatClampNeg)) → ev_V G d 0 0 mX11_payBreaches (fun o g' => ∃ W2 C2, (W2 = W ∧ o = .inl none ∧ ∃ V, cx_eqV V C ∧ C2 = cx_pay V b p (cx_price C Qf b p (C.1 6 p))) ∧ cw_T G K g0 W2 g' C2) g 112 [some (.ref (W 0 0)), some (.ref (W 28 b)), some (.ref (W 20 p)), some (.int ((V.1 6 p) - (cx_X4_pagesFor V b (V.1 3 p).toNatClampNeg))), some (.int (cx_price C Qf b p (C.1 6 p))), some (.int 1), none] (.int x9 :: []) := by
          intro g hT x9 h9
          subst h9
          refine ev_istore (lv' := [some (.ref (W 0 0)), some (.ref (W 28 b)), some (.ref (W 20 p)), some (.int ((V.1 6 p) - (cx_X4_pagesFor V b (V.1 3 p).toNatClampNeg))), some (.int (cx_price C Qf b p (C.1 6 p))), some (.int 1), some (.int (if ((V.1 6 p) - (cx_X4_pagesFor V b (V.1 3 p).toNatClampNeg)) ≤ 0 then (V.1 100 b) else (cx_X4_pagesClauseFor (mo_up V 9 p ((V.1 9 p) - (((V.1 6 p) - (cx_X4_pagesFor V b (V.1 3 p).toNatClampNeg)) * (V.1 103 b)))) b (V.1 3 p).toNatClampNeg)))]) dX11_payBreaches_112 (Nat.le_of_ble_eq_true rfl) rfl ?_
          refine ev_aload_n dX11_payBreaches_114 rfl rfl ?_
          refine cw_getf hE hT dX11_payBreaches_115 fX11_270 (k := 20) (i := p) hp ob20 rfl ?_
          refine ev_aload_n dX11_payBreaches_118 rfl rfl ?_
          refine cw_geti (v2 := (V.1 2 0)) hE hT dX11_payBreaches_119 fX11_33 (k := 0) (i := 0) rfl ob0 rfl (by simp [mo_up]) ?_
          refine ev_iload dX11_payBreaches_122 rfl ?_
          refine ev_aload_n dX11_payBreaches_124 rfl rfl ?_
          refine ev_aload_n dX11_payBreaches_125 rfl rfl ?_
          refine cw_geti (v2 := (V.1 2 0)) hE hT dX11_payBreaches_126 fX11_33 (k := 0) (i := 0) rfl ob0 rfl (by simp [mo_up]) ?_
          refine cw_call1 (d' := d - 1) hE hT dX11_payBreaches_129 rfl kX11_numberInForce lX11_182 iX11_numberInForce vX11_numberInForce (k := 0) (i := 0) rfl ob0 rfl (Nat.le_of_ble_eq_true rfl) (by omega) (c_X11_numberInForce hE (by omega)) (fun g hT => ?_)
          refine ev_iload dX11_payBreaches_132 rfl ?_
          refine cw_call4 (d' := d - 1) hE hT dX11_payBreaches_134 rfl kX1_add lX11_458 iX1_add vX1_add (k := 23) (i := p) hp ob23 rfl (Nat.le_of_ble_eq_true rfl) (by omega) (c_X1_add hE (by omega) hp) (fun g hT => ?_)
          have e9 : cx_pay V b p (cx_price C Qf b p (C.1 6 p)) = (cx_X1_add (mo_up V 9 p ((V.1 9 p) - (((V.1 6 p) - (cx_X4_pagesFor V b (V.1 3 p).toNatClampNeg)) * (V.1 103 b)))) p (V.1 2 0) 1 (sp_opt (sp_force (mo_up V 9 p ((V.1 9 p) - (((V.1 6 p) - (cx_X4_pagesFor V b (V.1 3 p).toNatClampNeg)) * (V.1 103 b)))) (V.1 2 0) (sp_O (mo_up V 9 p ((V.1 9 p) - (((V.1 6 p) - (cx_X4_pagesFor V b (V.1 3 p).toNatClampNeg)) * (V.1 103 b))))))) (if ((V.1 6 p) - (cx_X4_pagesFor V b (V.1 3 p).toNatClampNeg)) ≤ 0 then (V.1 100 b) else (cx_X4_pagesClauseFor (mo_up V 9 p ((V.1 9 p) - (((V.1 6 p) - (cx_X4_pagesFor V b (V.1 3 p).toNatClampNeg)) * (V.1 103 b)))) b (V.1 3 p).toNatClampNeg))) := by unfold cx_pay; rw [if_neg c_30, if_pos c_57]
          exact ev_vret dX11_payBreaches_137 rfl ⟨W, (cx_X1_add (mo_up V 9 p ((V.1 9 p) - (((V.1 6 p) - (cx_X4_pagesFor V b (V.1 3 p).toNatClampNeg)) * (V.1 103 b)))) p (V.1 2 0) 1 (sp_opt (sp_force (mo_up V 9 p ((V.1 9 p) - (((V.1 6 p) - (cx_X4_pagesFor V b (V.1 3 p).toNatClampNeg)) * (V.1 103 b)))) (V.1 2 0) (sp_O (mo_up V 9 p ((V.1 9 p) - (((V.1 6 p) - (cx_X4_pagesFor V b (V.1 3 p).toNatClampNeg)) * (V.1 103 b))))))) (if ((V.1 6 p) - (cx_X4_pagesFor V b (V.1 3 p).toNatClampNeg)) ≤ 0 then (V.1 100 b) else (cx_X4_pagesClauseFor (mo_up V 9 p ((V.1 9 p) - (((V.1 6 p) - (cx_X4_pagesFor V b (V.1 3 p).toNatClampNeg)) * (V.1 103 b)))) b (V.1 3 p).toNatClampNeg))), ⟨rfl, rfl, V, hv, e9.symm⟩, hT⟩
        refine ev_if_le (tgt := 108) dX11_payBreaches_94 (by decide) (fun c_94 => ?_) (fun c_94 => ?_)
        · refine ev_aload_n dX11_payBreaches_108 rfl rfl ?_
          refine cw_geti (v2 := (V.1 100 b)) hE hT dX11_payBreaches_109 fX11_455 (k := 28) (i := b) hol ob28 rfl (by simp [mo_up]) ?_
          exact K_112 g hT _ (by rw [if_pos c_94])
        · refine ev_aload_n dX11_payBreaches_97 rfl rfl ?_
          refine ev_aload_n dX11_payBreaches_98 rfl rfl ?_
          refine cw_geti (v2 := (V.1 3 p)) hE hT dX11_payBreaches_99 fX11_193 (k := 20) (i := p) hp ob20 rfl (by simp [mo_up]) ?_
          refine cw_call1 (d' := d - 1) hE hT dX11_payBreaches_102 rfl kX4_pagesClauseFor lX11_452 iX4_pagesClauseFor vX4_pagesClauseFor (k := 28) (i := b) hol ob28 rfl (Nat.le_of_ble_eq_true rfl) (by omega) (by have w9 := (c_X4_pagesClauseFor (W := W) (d := d - 1) (C := (mo_up V 9 p ((V.1 9 p) - (((V.1 6 p) - (cx_X4_pagesFor V b (V.1 3 p).toNatClampNeg)) * (V.1 103 b))))) (q := (V.1 3 p).toNatClampNeg) hE hol hkV.2); rw [← hkV.1] at w9; exact w9) (fun g hT => ?_)
          refine ev_goto (tgt := 112) dX11_payBreaches_105 (by decide) ?_
          exact K_112 g hT _ (by rw [if_neg c_94])
    · refine ev_iload dX11_payBreaches_60 rfl ?_
      refine ev_aload_n dX11_payBreaches_62 rfl rfl ?_
      refine cw_geti (v2 := (V.1 7 p)) hE hT dX11_payBreaches_63 fX11_444 (k := 20) (i := p) hp ob20 rfl (by simp [mo_up]) ?_
      refine ev_icmp_eq (tgt := 88) dX11_payBreaches_66 (by decide) (fun c_66 => ?_) (fun c_66 => ?_)
      · refine ev_iload dX11_payBreaches_88 rfl ?_
        refine ev_if_eq (tgt := 137) dX11_payBreaches_90 (by decide) (fun c_90 => ?_) (fun c_90 => ?_)
        · exact absurd c_90 (by decide)
        · refine ev_iload_n dX11_payBreaches_93 rfl rfl ?_
          have K_112 : ∀ (g : ev_H) (hT : cw_T G K g0 W g (mo_up V 9 p ((V.1 9 p) - (((V.1 6 p) - (cx_X4_pagesFor V b (V.1 3 p).toNatClampNeg)) * (V.1 103 b))))), ∀ x9 : Int32, x9 = (if ((V.1 6 p) - (cx_X4_pagesFor V b (V.1 3 p).toNatClampNeg)) ≤ 0 then (V.1 100 b) else (cx_X4_pagesClauseFor (mo_up V 9 p ((V.1 9 p) - (((V.1 6 p) - (cx_X4_pagesFor V b (V.1 3 p).toNatClampNeg)) * (V.1 103 b)))) b (V.1 3 p).toNatClampNeg)) → ev_V G d 0 0 mX11_payBreaches (fun o g' => ∃ W2 C2, (W2 = W ∧ o = .inl none ∧ ∃ V, cx_eqV V C ∧ C2 = cx_pay V b p (cx_price C Qf b p (C.1 6 p))) ∧ cw_T G K g0 W2 g' C2) g 112 [some (.ref (W 0 0)), some (.ref (W 28 b)), some (.ref (W 20 p)), some (.int ((V.1 6 p) - (cx_X4_pagesFor V b (V.1 3 p).toNatClampNeg))), some (.int (cx_price C Qf b p (C.1 6 p))), some (.int 1), none] (.int x9 :: []) := by
            intro g hT x9 h9
            subst h9
            refine ev_istore (lv' := [some (.ref (W 0 0)), some (.ref (W 28 b)), some (.ref (W 20 p)), some (.int ((V.1 6 p) - (cx_X4_pagesFor V b (V.1 3 p).toNatClampNeg))), some (.int (cx_price C Qf b p (C.1 6 p))), some (.int 1), some (.int (if ((V.1 6 p) - (cx_X4_pagesFor V b (V.1 3 p).toNatClampNeg)) ≤ 0 then (V.1 100 b) else (cx_X4_pagesClauseFor (mo_up V 9 p ((V.1 9 p) - (((V.1 6 p) - (cx_X4_pagesFor V b (V.1 3 p).toNatClampNeg)) * (V.1 103 b)))) b (V.1 3 p).toNatClampNeg)))]) dX11_payBreaches_112 (Nat.le_of_ble_eq_true rfl) rfl ?_
            refine ev_aload_n dX11_payBreaches_114 rfl rfl ?_
            refine cw_getf hE hT dX11_payBreaches_115 fX11_270 (k := 20) (i := p) hp ob20 rfl ?_
            refine ev_aload_n dX11_payBreaches_118 rfl rfl ?_
            refine cw_geti (v2 := (V.1 2 0)) hE hT dX11_payBreaches_119 fX11_33 (k := 0) (i := 0) rfl ob0 rfl (by simp [mo_up]) ?_
            refine ev_iload dX11_payBreaches_122 rfl ?_
            refine ev_aload_n dX11_payBreaches_124 rfl rfl ?_
            refine ev_aload_n dX11_payBreaches_125 rfl rfl ?_
            refine cw_geti (v2 := (V.1 2 0)) hE hT dX11_payBreaches_126 fX11_33 (k := 0) (i := 0) rfl ob0 rfl (by simp [mo_up]) ?_
            refine cw_call1 (d' := d - 1) hE hT dX11_payBreaches_129 rfl kX11_numberInForce lX11_182 iX11_numberInForce vX11_numberInForce (k := 0) (i := 0) rfl ob0 rfl (Nat.le_of_ble_eq_true rfl) (by omega) (c_X11_numberInForce hE (by omega)) (fun g hT => ?_)
            refine ev_iload dX11_payBreaches_132 rfl ?_
            refine cw_call4 (d' := d - 1) hE hT dX11_payBreaches_134 rfl kX1_add lX11_458 iX1_add vX1_add (k := 23) (i := p) hp ob23 rfl (Nat.le_of_ble_eq_true rfl) (by omega) (c_X1_add hE (by omega) hp) (fun g hT => ?_)
            have e9 : cx_pay V b p (cx_price C Qf b p (C.1 6 p)) = (cx_X1_add (mo_up V 9 p ((V.1 9 p) - (((V.1 6 p) - (cx_X4_pagesFor V b (V.1 3 p).toNatClampNeg)) * (V.1 103 b)))) p (V.1 2 0) 1 (sp_opt (sp_force (mo_up V 9 p ((V.1 9 p) - (((V.1 6 p) - (cx_X4_pagesFor V b (V.1 3 p).toNatClampNeg)) * (V.1 103 b)))) (V.1 2 0) (sp_O (mo_up V 9 p ((V.1 9 p) - (((V.1 6 p) - (cx_X4_pagesFor V b (V.1 3 p).toNatClampNeg)) * (V.1 103 b))))))) (if ((V.1 6 p) - (cx_X4_pagesFor V b (V.1 3 p).toNatClampNeg)) ≤ 0 then (V.1 100 b) else (cx_X4_pagesClauseFor (mo_up V 9 p ((V.1 9 p) - (((V.1 6 p) - (cx_X4_pagesFor V b (V.1 3 p).toNatClampNeg)) * (V.1 103 b)))) b (V.1 3 p).toNatClampNeg))) := by unfold cx_pay; rw [if_neg c_30, if_neg c_57, if_pos c_66]
            exact ev_vret dX11_payBreaches_137 rfl ⟨W, (cx_X1_add (mo_up V 9 p ((V.1 9 p) - (((V.1 6 p) - (cx_X4_pagesFor V b (V.1 3 p).toNatClampNeg)) * (V.1 103 b)))) p (V.1 2 0) 1 (sp_opt (sp_force (mo_up V 9 p ((V.1 9 p) - (((V.1 6 p) - (cx_X4_pagesFor V b (V.1 3 p).toNatClampNeg)) * (V.1 103 b)))) (V.1 2 0) (sp_O (mo_up V 9 p ((V.1 9 p) - (((V.1 6 p) - (cx_X4_pagesFor V b (V.1 3 p).toNatClampNeg)) * (V.1 103 b))))))) (if ((V.1 6 p) - (cx_X4_pagesFor V b (V.1 3 p).toNatClampNeg)) ≤ 0 then (V.1 100 b) else (cx_X4_pagesClauseFor (mo_up V 9 p ((V.1 9 p) - (((V.1 6 p) - (cx_X4_pagesFor V b (V.1 3 p).toNatClampNeg)) * (V.1 103 b)))) b (V.1 3 p).toNatClampNeg))), ⟨rfl, rfl, V, hv, e9.symm⟩, hT⟩
          refine ev_if_le (tgt := 108) dX11_payBreaches_94 (by decide) (fun c_94 => ?_) (fun c_94 => ?_)
          · refine ev_aload_n dX11_payBreaches_108 rfl rfl ?_
            refine cw_geti (v2 := (V.1 100 b)) hE hT dX11_payBreaches_109 fX11_455 (k := 28) (i := b) hol ob28 rfl (by simp [mo_up]) ?_
            exact K_112 g hT _ (by rw [if_pos c_94])
          · refine ev_aload_n dX11_payBreaches_97 rfl rfl ?_
            refine ev_aload_n dX11_payBreaches_98 rfl rfl ?_
            refine cw_geti (v2 := (V.1 3 p)) hE hT dX11_payBreaches_99 fX11_193 (k := 20) (i := p) hp ob20 rfl (by simp [mo_up]) ?_
            refine cw_call1 (d' := d - 1) hE hT dX11_payBreaches_102 rfl kX4_pagesClauseFor lX11_452 iX4_pagesClauseFor vX4_pagesClauseFor (k := 28) (i := b) hol ob28 rfl (Nat.le_of_ble_eq_true rfl) (by omega) (by have w9 := (c_X4_pagesClauseFor (W := W) (d := d - 1) (C := (mo_up V 9 p ((V.1 9 p) - (((V.1 6 p) - (cx_X4_pagesFor V b (V.1 3 p).toNatClampNeg)) * (V.1 103 b))))) (q := (V.1 3 p).toNatClampNeg) hE hol hkV.2); rw [← hkV.1] at w9; exact w9) (fun g hT => ?_)
            refine ev_goto (tgt := 112) dX11_payBreaches_105 (by decide) ?_
            exact K_112 g hT _ (by rw [if_neg c_94])
      · refine ev_iload dX11_payBreaches_69 rfl ?_
        refine ev_iconst (v := 2) dX11_payBreaches_71 (by decide) ?_
        refine ev_ior dX11_payBreaches_72 ?_
        rw [show ((1 : Int32) ||| 2) = 3 by decide]
        refine ev_istore (lv' := [some (.ref (W 0 0)), some (.ref (W 28 b)), some (.ref (W 20 p)), some (.int ((V.1 6 p) - (cx_X4_pagesFor V b (V.1 3 p).toNatClampNeg))), some (.int (cx_price C Qf b p (C.1 6 p))), some (.int 3), none]) dX11_payBreaches_73 (Nat.le_of_ble_eq_true rfl) rfl ?_
        refine ev_aload_n dX11_payBreaches_75 rfl rfl ?_
        refine ev_dup dX11_payBreaches_76 rfl ?_
        refine cw_geti (v2 := ((V.1 9 p) - (((V.1 6 p) - (cx_X4_pagesFor V b (V.1 3 p).toNatClampNeg)) * (V.1 103 b)))) hE hT dX11_payBreaches_77 fX11_432 (k := 20) (i := p) hp ob20 rfl (by simp [mo_up]) ?_
        refine ev_aload_n dX11_payBreaches_80 rfl rfl ?_
        refine cw_geti (v2 := (V.1 103 b)) hE hT dX11_payBreaches_81 fX11_206 (k := 28) (i := b) hol ob28 rfl (by simp [mo_up]) ?_
        refine ev_isub dX11_payBreaches_84 ?_
        refine cw_putf (k := 20) (i := p) (f := 9) (x := p) hE hT dX11_payBreaches_85 pX11_432 hp ob20 (Nat.le_of_ble_eq_true rfl) rfl rfl rfl (by decide) (by decide) pu20_6 (fun g hT => ?_)
        refine ev_iload dX11_payBreaches_88 rfl ?_
        refine ev_if_eq (tgt := 137) dX11_payBreaches_90 (by decide) (fun c_90 => ?_) (fun c_90 => ?_)
        · exact absurd c_90 (by decide)
        · refine ev_iload_n dX11_payBreaches_93 rfl rfl ?_
          have K_112 : ∀ (g : ev_H) (hT : cw_T G K g0 W g (mo_up (mo_up V 9 p ((V.1 9 p) - (((V.1 6 p) - (cx_X4_pagesFor V b (V.1 3 p).toNatClampNeg)) * (V.1 103 b)))) 9 p (((V.1 9 p) - (((V.1 6 p) - (cx_X4_pagesFor V b (V.1 3 p).toNatClampNeg)) * (V.1 103 b))) - (V.1 103 b)))), ∀ x9 : Int32, x9 = (if ((V.1 6 p) - (cx_X4_pagesFor V b (V.1 3 p).toNatClampNeg)) ≤ 0 then (V.1 100 b) else (cx_X4_pagesClauseFor (mo_up (mo_up V 9 p ((V.1 9 p) - (((V.1 6 p) - (cx_X4_pagesFor V b (V.1 3 p).toNatClampNeg)) * (V.1 103 b)))) 9 p (((V.1 9 p) - (((V.1 6 p) - (cx_X4_pagesFor V b (V.1 3 p).toNatClampNeg)) * (V.1 103 b))) - (V.1 103 b))) b (V.1 3 p).toNatClampNeg)) → ev_V G d 0 0 mX11_payBreaches (fun o g' => ∃ W2 C2, (W2 = W ∧ o = .inl none ∧ ∃ V, cx_eqV V C ∧ C2 = cx_pay V b p (cx_price C Qf b p (C.1 6 p))) ∧ cw_T G K g0 W2 g' C2) g 112 [some (.ref (W 0 0)), some (.ref (W 28 b)), some (.ref (W 20 p)), some (.int ((V.1 6 p) - (cx_X4_pagesFor V b (V.1 3 p).toNatClampNeg))), some (.int (cx_price C Qf b p (C.1 6 p))), some (.int 3), none] (.int x9 :: []) := by
            intro g hT x9 h9
            subst h9
            refine ev_istore (lv' := [some (.ref (W 0 0)), some (.ref (W 28 b)), some (.ref (W 20 p)), some (.int ((V.1 6 p) - (cx_X4_pagesFor V b (V.1 3 p).toNatClampNeg))), some (.int (cx_price C Qf b p (C.1 6 p))), some (.int 3), some (.int (if ((V.1 6 p) - (cx_X4_pagesFor V b (V.1 3 p).toNatClampNeg)) ≤ 0 then (V.1 100 b) else (cx_X4_pagesClauseFor (mo_up (mo_up V 9 p ((V.1 9 p) - (((V.1 6 p) - (cx_X4_pagesFor V b (V.1 3 p).toNatClampNeg)) * (V.1 103 b)))) 9 p (((V.1 9 p) - (((V.1 6 p) - (cx_X4_pagesFor V b (V.1 3 p).toNatClampNeg)) * (V.1 103 b))) - (V.1 103 b))) b (V.1 3 p).toNatClampNeg)))]) dX11_payBreaches_112 (Nat.le_of_ble_eq_true rfl) rfl ?_
            refine ev_aload_n dX11_payBreaches_114 rfl rfl ?_
            refine cw_getf hE hT dX11_payBreaches_115 fX11_270 (k := 20) (i := p) hp ob20 rfl ?_
            refine ev_aload_n dX11_payBreaches_118 rfl rfl ?_
            refine cw_geti (v2 := (V.1 2 0)) hE hT dX11_payBreaches_119 fX11_33 (k := 0) (i := 0) rfl ob0 rfl (by simp [mo_up]) ?_
            refine ev_iload dX11_payBreaches_122 rfl ?_
            refine ev_aload_n dX11_payBreaches_124 rfl rfl ?_
            refine ev_aload_n dX11_payBreaches_125 rfl rfl ?_
            refine cw_geti (v2 := (V.1 2 0)) hE hT dX11_payBreaches_126 fX11_33 (k := 0) (i := 0) rfl ob0 rfl (by simp [mo_up]) ?_
            refine cw_call1 (d' := d - 1) hE hT dX11_payBreaches_129 rfl kX11_numberInForce lX11_182 iX11_numberInForce vX11_numberInForce (k := 0) (i := 0) rfl ob0 rfl (Nat.le_of_ble_eq_true rfl) (by omega) (c_X11_numberInForce hE (by omega)) (fun g hT => ?_)
            refine ev_iload dX11_payBreaches_132 rfl ?_
            refine cw_call4 (d' := d - 1) hE hT dX11_payBreaches_134 rfl kX1_add lX11_458 iX1_add vX1_add (k := 23) (i := p) hp ob23 rfl (Nat.le_of_ble_eq_true rfl) (by omega) (c_X1_add hE (by omega) hp) (fun g hT => ?_)
            have e9 : cx_pay V b p (cx_price C Qf b p (C.1 6 p)) = (cx_X1_add (mo_up (mo_up V 9 p ((V.1 9 p) - (((V.1 6 p) - (cx_X4_pagesFor V b (V.1 3 p).toNatClampNeg)) * (V.1 103 b)))) 9 p (((V.1 9 p) - (((V.1 6 p) - (cx_X4_pagesFor V b (V.1 3 p).toNatClampNeg)) * (V.1 103 b))) - (V.1 103 b))) p (V.1 2 0) 3 (sp_opt (sp_force (mo_up (mo_up V 9 p ((V.1 9 p) - (((V.1 6 p) - (cx_X4_pagesFor V b (V.1 3 p).toNatClampNeg)) * (V.1 103 b)))) 9 p (((V.1 9 p) - (((V.1 6 p) - (cx_X4_pagesFor V b (V.1 3 p).toNatClampNeg)) * (V.1 103 b))) - (V.1 103 b))) (V.1 2 0) (sp_O (mo_up (mo_up V 9 p ((V.1 9 p) - (((V.1 6 p) - (cx_X4_pagesFor V b (V.1 3 p).toNatClampNeg)) * (V.1 103 b)))) 9 p (((V.1 9 p) - (((V.1 6 p) - (cx_X4_pagesFor V b (V.1 3 p).toNatClampNeg)) * (V.1 103 b))) - (V.1 103 b)))))) (if ((V.1 6 p) - (cx_X4_pagesFor V b (V.1 3 p).toNatClampNeg)) ≤ 0 then (V.1 100 b) else (cx_X4_pagesClauseFor (mo_up (mo_up V 9 p ((V.1 9 p) - (((V.1 6 p) - (cx_X4_pagesFor V b (V.1 3 p).toNatClampNeg)) * (V.1 103 b)))) 9 p (((V.1 9 p) - (((V.1 6 p) - (cx_X4_pagesFor V b (V.1 3 p).toNatClampNeg)) * (V.1 103 b))) - (V.1 103 b))) b (V.1 3 p).toNatClampNeg))) := by unfold cx_pay; rw [if_neg c_30, if_neg c_57, if_neg c_66]
            exact ev_vret dX11_payBreaches_137 rfl ⟨W, (cx_X1_add (mo_up (mo_up V 9 p ((V.1 9 p) - (((V.1 6 p) - (cx_X4_pagesFor V b (V.1 3 p).toNatClampNeg)) * (V.1 103 b)))) 9 p (((V.1 9 p) - (((V.1 6 p) - (cx_X4_pagesFor V b (V.1 3 p).toNatClampNeg)) * (V.1 103 b))) - (V.1 103 b))) p (V.1 2 0) 3 (sp_opt (sp_force (mo_up (mo_up V 9 p ((V.1 9 p) - (((V.1 6 p) - (cx_X4_pagesFor V b (V.1 3 p).toNatClampNeg)) * (V.1 103 b)))) 9 p (((V.1 9 p) - (((V.1 6 p) - (cx_X4_pagesFor V b (V.1 3 p).toNatClampNeg)) * (V.1 103 b))) - (V.1 103 b))) (V.1 2 0) (sp_O (mo_up (mo_up V 9 p ((V.1 9 p) - (((V.1 6 p) - (cx_X4_pagesFor V b (V.1 3 p).toNatClampNeg)) * (V.1 103 b)))) 9 p (((V.1 9 p) - (((V.1 6 p) - (cx_X4_pagesFor V b (V.1 3 p).toNatClampNeg)) * (V.1 103 b))) - (V.1 103 b)))))) (if ((V.1 6 p) - (cx_X4_pagesFor V b (V.1 3 p).toNatClampNeg)) ≤ 0 then (V.1 100 b) else (cx_X4_pagesClauseFor (mo_up (mo_up V 9 p ((V.1 9 p) - (((V.1 6 p) - (cx_X4_pagesFor V b (V.1 3 p).toNatClampNeg)) * (V.1 103 b)))) 9 p (((V.1 9 p) - (((V.1 6 p) - (cx_X4_pagesFor V b (V.1 3 p).toNatClampNeg)) * (V.1 103 b))) - (V.1 103 b))) b (V.1 3 p).toNatClampNeg))), ⟨rfl, rfl, V, hv, e9.symm⟩, hT⟩
          refine ev_if_le (tgt := 108) dX11_payBreaches_94 (by decide) (fun c_94 => ?_) (fun c_94 => ?_)
          · refine ev_aload_n dX11_payBreaches_108 rfl rfl ?_
            refine cw_geti (v2 := (V.1 100 b)) hE hT dX11_payBreaches_109 fX11_455 (k := 28) (i := b) hol ob28 rfl (by simp [mo_up]) ?_
            exact K_112 g hT _ (by rw [if_pos c_94])
          · refine ev_aload_n dX11_payBreaches_97 rfl rfl ?_
            refine ev_aload_n dX11_payBreaches_98 rfl rfl ?_
            refine cw_geti (v2 := (V.1 3 p)) hE hT dX11_payBreaches_99 fX11_193 (k := 20) (i := p) hp ob20 rfl (by simp [mo_up]) ?_
            refine cw_call1 (d' := d - 1) hE hT dX11_payBreaches_102 rfl kX4_pagesClauseFor lX11_452 iX4_pagesClauseFor vX4_pagesClauseFor (k := 28) (i := b) hol ob28 rfl (Nat.le_of_ble_eq_true rfl) (by omega) (by have w9 := (c_X4_pagesClauseFor (W := W) (d := d - 1) (C := (mo_up (mo_up V 9 p ((V.1 9 p) - (((V.1 6 p) - (cx_X4_pagesFor V b (V.1 3 p).toNatClampNeg)) * (V.1 103 b)))) 9 p (((V.1 9 p) - (((V.1 6 p) - (cx_X4_pagesFor V b (V.1 3 p).toNatClampNeg)) * (V.1 103 b))) - (V.1 103 b)))) (q := (V.1 3 p).toNatClampNeg) hE hol hkV.2); rw [← hkV.1] at w9; exact w9) (fun g hT => ?_)
            refine ev_goto (tgt := 112) dX11_payBreaches_105 (by decide) ?_
            exact K_112 g hT _ (by rw [if_neg c_94])
end CH
