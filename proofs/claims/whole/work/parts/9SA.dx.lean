section DX
theorem c_X11_mostCopies2 {G : ev_G} {d : Nat} {g : ev_H} {k n : Nat} (hk : k ≤ 200000000) (hn : 1 ≤ n) (hn2 : n ≤ 1000) : ev_Cp G d mX11_mostCopies [.int (nI k), .int (nI n)] g (some (.int (nI ((10 * k + 9) / (3 * n))))) := by
  refine ev_start (lv0 := [some (.int (nI k)), some (.int (nI n))]) (by decide +kernel) rfl (Nat.le_of_ble_eq_true rfl) rfl ?_
  refine ev_iload_n dX11_mostCopies_0 rfl rfl ?_
  refine ev_if_lt (tgt := 8) dX11_mostCopies_1 (by decide) (fun c_1 => absurd c_1 (nI_pos (by omega))) (fun c_1 => ?_)
  refine ev_iload_n dX11_mostCopies_4 rfl rfl ?_
  refine ev_if_gt (tgt := 10) dX11_mostCopies_5 (by decide) (fun c_5 => ?_) (fun c_5 => absurd (nI_lt (a := 0) (by omega) (by omega)) c_5)
  refine ev_iload_n dX11_mostCopies_10 rfl rfl ?_
  refine ev_i2l dX11_mostCopies_11 ?_
  refine ev_ldc2 dX11_mostCopies_12 nX11_345 ?_
  refine ev_lmul dX11_mostCopies_15 ?_
  refine ev_ldc2 dX11_mostCopies_16 nX11_347 ?_
  refine ev_ladd dX11_mostCopies_19 ?_
  refine ev_iload_n dX11_mostCopies_20 rfl rfl ?_
  refine ev_i2l dX11_mostCopies_21 ?_
  refine ev_ldc2 dX11_mostCopies_22 nX11_349 ?_
  refine ev_lmul dX11_mostCopies_25 ?_
  have e1 : (nI k).toInt64 * 10 + 9 = lN (10 * k + 9) := by
    rw [nI_l (by omega)]
    show lN k * lN 10 + lN 9 = _
    rw [lN_mul, lN_add, Nat.mul_comm]
  have e2 : (nI n).toInt64 * 3 = lN (3 * n) := by
    rw [nI_l (by omega)]
    show lN n * lN 3 = _
    rw [lN_mul, Nat.mul_comm]
  rw [e1, e2]
  refine ev_ldiv dX11_mostCopies_26 (fun q => ?_) ?_
  · have := (lN_eq (b := 0) (by omega) (by decide)).mp q
    omega
  refine ev_l2i dX11_mostCopies_27 ?_
  rw [pk_lDiv (by omega) (by omega) (by omega), lN_i]
  exact ev_iret dX11_mostCopies_28 rfl rfl ⟨rfl, rfl⟩
def cx_bH2 (C : mo_S) (Pf Qf : cx_Fn) (b p k mp : Nat) : Prop := cx_cd C Pf Qf ∧ (b < sp_O C ∨ b = 10) ∧ (C.1 3 p = nI (C.1 3 p).toNatClampNeg ∧ (C.1 3 p).toNatClampNeg < 3) ∧ (cx_X4_pagesFor C b (C.1 3 p).toNatClampNeg = nI mp ∧ mp ≤ 64) ∧ (C.1 10 p + cj_max (C.1 11 p) 0 = nI k ∧ k ≤ 200000000) ∧ (C.1 24 0 = nI (sp_W C) ∧ sp_W C ≤ 5)
theorem c_X11_findBest2 {G : ev_G} {W : cw_W} {d : Nat} {C : mo_S} {p : Nat} {b : Nat} {Pf Qf : cx_Fn} {k mp : Nat} (hE : ev_En G) {D0 : Nat} (h4 : ev_En4 G D0) (hd : 7 ≤ d) (hH : cx_bH2 C Pf Qf b p k mp) (hp : p < sp_P C) : cw_R G W d 0 0 mX11_findBest [.ref (W 0 0), .ref (W 20 p), .ref (W 28 b)] C (fun o W2 C2 => W2 = W ∧ o = .inl none ∧ cx_eqX [123] C2 (cx_fbs C Qf b p k (mp / 2))) := by
  refine cw_startR (lv0 := [some (.ref (W 0 0)), some (.ref (W 20 p)), some (.ref (W 28 b)), none, none, none, none, none]) (by decide +kernel) rfl (Nat.le_of_ble_eq_true rfl) rfl ?_
  intro K g0 g hT
  obtain ⟨hc, hb, hk, hmp, hkg, hW⟩ := hH
  have hol := cx_olI hb
  refine ev_aload_n dX11_findBest_0 rfl rfl ?_
  refine cw_getf hE hT dX11_findBest_1 fX11_142 (k := 20) (i := p) hp ob20 rfl ?_
  refine ev_aload_n dX11_findBest_4 rfl rfl ?_
  refine cw_getf hE hT dX11_findBest_5 fX11_429 (k := 20) (i := p) hp ob20 rfl ?_
  refine ev_iconst (v := 0) dX11_findBest_8 (by decide) ?_
  refine ev_mmax dX11_findBest_9 lX11_148 (Nat.le_of_ble_eq_true rfl) (by omega) ?_
  refine ev_iadd dX11_findBest_12 ?_
  rw [hkg.1]
  refine ev_istore_n (lv' := [some (.ref (W 0 0)), some (.ref (W 20 p)), some (.ref (W 28 b)), some (.int (nI k)), none, none, none, none]) dX11_findBest_13 rfl (Nat.le_of_ble_eq_true rfl) rfl ?_
  refine ev_aload_n dX11_findBest_14 rfl rfl ?_
  refine ev_aload_n dX11_findBest_15 rfl rfl ?_
  refine cw_getf hE hT dX11_findBest_16 fX11_193 (k := 20) (i := p) hp ob20 rfl ?_
  refine cw_call1 (d' := d - 1) hE hT dX11_findBest_19 rfl kX4_pagesFor lX11_196 iX4_pagesFor vX4_pagesFor (k := 28) (i := b) hol ob28 rfl (Nat.le_of_ble_eq_true rfl) (by omega) (by have w9 := c_X4_pagesFor (G := G) (W := W) (d := d - 1) (C := C) (b := b) (q := (C.1 3 p).toNatClampNeg) hE hol hk.2; rw [← hk.1] at w9; exact w9) (fun g hT => ?_)
  rw [hmp.1]
  refine ev_istore (lv' := [some (.ref (W 0 0)), some (.ref (W 20 p)), some (.ref (W 28 b)), some (.int (nI k)), some (.int (nI mp)), none, none, none]) dX11_findBest_22 (Nat.le_of_ble_eq_true rfl) rfl ?_
  refine ev_aload_n dX11_findBest_24 rfl rfl ?_
  refine cw_getf hE hT dX11_findBest_25 fX11_76 (k := 0) (i := 0) rfl ob0 rfl ?_
  refine cw_call0 (d' := d - 1) hE hT dX11_findBest_28 rfl kX3_clear lX11_461 iX3_clear vX3_clear (k := 19) (i := 0) rfl ob19 rfl (Nat.le_of_ble_eq_true rfl) (by omega) (c_X3_clear hE) (fun g hT => ?_)
  have hol : cw_ol (cx_X3_clear C) b := cx_olI (by rw [sp_O_cg (cx_clear_ne (by decide))]; exact hb)
  refine ev_aload_n dX11_findBest_31 rfl rfl ?_
  refine cw_getf hE hT dX11_findBest_32 fX11_372 (k := 28) (i := b) hol ob28 rfl ?_
  by_cases c_35 : (cx_X3_clear C ).1 110 b = 0
  · rw [if_pos c_35]
    refine ev_ifnullN (tgt := 92) dX11_findBest_35 (by decide) ?_
    refine ev_iconst (v := 1) dX11_findBest_92 (by decide) ?_
    refine ev_istore (lv' := [some (.ref (W 0 0)), some (.ref (W 20 p)), some (.ref (W 28 b)), some (.int (nI k)), some (.int (nI mp)), some (.int 1), none, none]) dX11_findBest_93 (Nat.le_of_ble_eq_true rfl) rfl ?_
    have loop3 : ∀ (n3 j : Nat), j ≤ 60 → 60 < j + n3 → ∀ g, cw_T G K g0 W g (cx_f2 C p k (mp / 2) j) → ev_V G d 0 0 mX11_findBest (fun o g' => ∃ W2 C2, (W2 = W ∧ o = .inl none ∧ cx_eqX [123] C2 (cx_fbs C Qf b p k (mp / 2))) ∧ cw_T G K g0 W2 g' C2) g 95 [some (.ref (W 0 0)), some (.ref (W 20 p)), some (.ref (W 28 b)), some (.int (nI k)), some (.int (nI mp)), some (.int (nI (j + 1))), none, none] [] := by
      intro n3
      induction n3 with
      | zero => intro j h13 h23; exact absurd h23 (by omega)
      | succ n3 ih3 =>
        intro j h13 h23   g hT
        have hFC : ∀ f, f ∉ [127, 128, 129, 130] → (cx_f2 C p k (mp / 2) j).1 f = C.1 f := fun f h => cx_f2_ne h j
        have hpF : p < sp_P (cx_f2 C p k (mp / 2) j) := lvP hp (hFC 1 (by decide))
        refine ev_iload dX11_findBest_95 rfl ?_
        refine ev_bipush (v := 60) dX11_findBest_97 (by decide) ?_
        refine ev_icmp_gt (tgt := 155) dX11_findBest_99 (by decide) (fun c_99 => ?_) (fun c_99 => ?_)
        · have e : j = 60 := by have : ¬ j + 1 ≤ 60 := fun q => absurd c_99 (nI_nlt (a := 60) (b := j + 1) q (by omega)); omega
          subst e
          exact ev_vret dX11_findBest_155 rfl ⟨W, (cx_f2 C p k (mp / 2) 60), ⟨rfl, rfl, by unfold cx_fbs; rw [if_pos (by rw [← cx_clear_ne (C := C) (k := 110) (by decide)]; exact c_35)]; exact cx_eqX.r _⟩, hT⟩
        · have hj9 : j + 1 ≤ 60 := Nat.le_of_not_lt fun q => c_99 (nI_lt (a := 60) q (by omega))
          refine ev_aload_n dX11_findBest_102 rfl rfl ?_
          refine ev_aload_n dX11_findBest_103 rfl rfl ?_
          refine ev_iload dX11_findBest_104 rfl ?_
          refine cw_call2 (d' := d - 1) hE hT dX11_findBest_106 rfl kX11_demandOf lX11_161 iX11_demandOf vX11_demandOf (k := 0) (i := 0) rfl ob0 rfl (Nat.le_of_ble_eq_true rfl) (by omega) (c_X11_demandOf hE hpF (by rw [hFC 24 (by decide), show sp_W (cx_f2 C p k (mp / 2) j) = sp_W C from congrArg Int32.toNatClampNeg (congrFun (hFC 24 (by decide)) 0)]; exact hW.1) (by rw [show sp_W (cx_f2 C p k (mp / 2) j) = sp_W C from congrArg Int32.toNatClampNeg (congrFun (hFC 24 (by decide)) 0)]; exact hW.2)) (fun g hT => ?_)
          rw [show sp_demand (cx_f2 C p k (mp / 2) j) p (nI (j + 1)) (sp_W (cx_f2 C p k (mp / 2) j)) = sp_demand C p (nI (j + 1)) (sp_W C) by rw [show sp_W (cx_f2 C p k (mp / 2) j) = sp_W C from congrArg Int32.toNatClampNeg (congrFun (hFC 24 (by decide)) 0)]; exact sp_demand_cg (hFC 25 (by decide)) (hFC 26 (by decide)) _]
          refine ev_istore (lv' := [some (.ref (W 0 0)), some (.ref (W 20 p)), some (.ref (W 28 b)), some (.int (nI k)), some (.int (nI mp)), some (.int (nI (j + 1))), some (.int (sp_demand C p (nI (j + 1)) (sp_W C))), none]) dX11_findBest_109 (Nat.le_of_ble_eq_true rfl) rfl ?_
          refine ev_iconst (v := 2) dX11_findBest_111 (by decide) ?_
          refine ev_istore (lv' := [some (.ref (W 0 0)), some (.ref (W 20 p)), some (.ref (W 28 b)), some (.int (nI k)), some (.int (nI mp)), some (.int (nI (j + 1))), some (.int (sp_demand C p (nI (j + 1)) (sp_W C))), some (.int 2)]) dX11_findBest_112 (Nat.le_of_ble_eq_true rfl) rfl ?_
          have loop4 : ∀ (n4 i : Nat), i ≤ (mp / 2) → (mp / 2) < i + n4 → ∀ g, cw_T G K g0 W g (cx_f2i C p k (nI (j + 1)) (cx_f2 C p k (mp / 2) j) i) → ev_V G d 0 0 mX11_findBest (fun o g' => ∃ W2 C2, (W2 = W ∧ o = .inl none ∧ cx_eqX [123] C2 (cx_fbs C Qf b p k (mp / 2))) ∧ cw_T G K g0 W2 g' C2) g 114 [some (.ref (W 0 0)), some (.ref (W 20 p)), some (.ref (W 28 b)), some (.int (nI k)), some (.int (nI mp)), some (.int (nI (j + 1))), some (.int (sp_demand C p (nI (j + 1)) (sp_W C))), some (.int (nI (2 * i + 2)))] [] := by
            intro n4
            induction n4 with
            | zero => intro i h14 h24; exact absurd h24 (by omega)
            | succ n4 ih4 =>
              intro i h14 h24   g hT
              refine ev_iload dX11_findBest_114 rfl ?_
              refine ev_iload dX11_findBest_116 rfl ?_
              refine ev_icmp_gt (tgt := 149) dX11_findBest_118 (by decide) (fun c_118 => ?_) (fun c_118 => ?_)
              · have e : i = mp / 2 := by have : ¬ 2 * i + 2 ≤ mp := fun q => absurd c_118 (nI_nlt q (by omega)); omega
                subst e
                refine ev_iinc (v := (nI (j + 1 + 1))) dX11_findBest_149 rfl (nI_1 (j + 1)) rfl ?_
                refine ev_goto (tgt := 95) dX11_findBest_152 (by decide) ?_
                refine ev_none 6 ?_
                refine ev_none 7 ?_
                exact ih3 (j + 1) (by omega) (by omega) g (by rw [cx_f2]; exact hT)
              · have hi9 : 2 * i + 2 ≤ mp := Nat.le_of_not_lt fun q => c_118 (nI_lt q (by omega))
                refine ev_aload_n dX11_findBest_121 rfl rfl ?_
                refine cw_getf hE hT dX11_findBest_122 fX11_76 (k := 0) (i := 0) rfl ob0 rfl ?_
                refine ev_iload dX11_findBest_125 rfl ?_
                refine ev_iload dX11_findBest_127 rfl ?_
                refine ev_iload dX11_findBest_129 rfl ?_
                refine ev_iload_n dX11_findBest_131 rfl rfl ?_
                refine ev_iload dX11_findBest_132 rfl ?_
                refine ev_pS2 (d' := d - 1) dX11_findBest_134 rfl kX11_mostCopies lX11_438 sX11_mostCopies (Nat.le_of_ble_eq_true rfl) (by omega) (c_X11_mostCopies2 (k := k) (n := 2 * i + 2) hkg.2 (by omega) (by omega)) ?_
                refine ev_mmin dX11_findBest_137 lX11_337 (Nat.le_of_ble_eq_true rfl) (by omega) ?_
                refine cw_call3 (d' := d - 1) hE hT dX11_findBest_140 rfl kX3_consider lX11_464 iX3_consider vX3_consider (k := 19) (i := 0) rfl ob19 rfl (Nat.le_of_ble_eq_true rfl) (by omega) (c_X3_consider hE h4 (by omega)) (fun g hT => ?_)
                refine ev_iinc (v := (nI (2 * (i + 1) + 2))) dX11_findBest_143 rfl (by rw [show 2 * (i + 1) + 2 = 2 * i + 2 + 2 by omega]; exact nI_add (2 * i + 2) 2) rfl ?_
                refine ev_goto (tgt := 114) dX11_findBest_146 (by decide) ?_
                exact ih4 (i + 1) (by omega) (by omega) g (by rw [cx_f2i]; exact hT)
          exact loop4 ((mp / 2) + 1) 0 (by omega) (by omega)  g hT
    exact loop3 (60 + 1) 0 (by omega) (by omega)  g hT
  · rw [if_neg c_35]
    refine ev_ifnull dX11_findBest_35 ?_
    refine ev_iconst (v := 2) dX11_findBest_38 (by decide) ?_
    refine ev_istore (lv' := [some (.ref (W 0 0)), some (.ref (W 20 p)), some (.ref (W 28 b)), some (.int (nI k)), some (.int (nI mp)), some (.int 2), none, none]) dX11_findBest_39 (Nat.le_of_ble_eq_true rfl) rfl ?_
    have loop : ∀ (n i : Nat), i ≤ (mp / 2) → (mp / 2) < i + n → ∀ (T : mo_S), cx_eqX [123] T (cx_f1 C Qf b p k i) → ∀ g, cw_T G K g0 W g T → ev_V G d 0 0 mX11_findBest (fun o g' => ∃ W2 C2, (W2 = W ∧ o = .inl none ∧ cx_eqX [123] C2 (cx_fbs C Qf b p k (mp / 2))) ∧ cw_T G K g0 W2 g' C2) g 41 [some (.ref (W 0 0)), some (.ref (W 20 p)), some (.ref (W 28 b)), some (.int (nI k)), some (.int (nI mp)), some (.int (nI (2 * i + 2))), none, none] [] := by
      intro n
      induction n with
      | zero => intro i h1 h2; exact absurd h2 (by omega)
      | succ n ih =>
        intro i h1 h2 T hx g hT
        have hTC : cx_eqX [123, 127, 128, 129, 130] T C := fun f hf => by rw [hx f (fun z => hf (by rw [List.mem_singleton.mp z]; decide)), cx_f1_ne (fun z => hf (List.mem_cons_of_mem _ z))]
        have hpT : p < sp_P T := lvP hp (hTC 1 (by decide))
        have hbT : b < sp_O T ∨ b = 10 := by rw [sp_O_cg (hTC 29 (by decide))]; exact hb
        have hcT : cx_cd T Pf Qf := hTC.cd (by decide) (by decide) (by decide) (by decide) (by decide) (by decide) hc
        refine ev_iload dX11_findBest_41 rfl ?_
        refine ev_iload dX11_findBest_43 rfl ?_
        refine ev_icmp_gt (tgt := 91) dX11_findBest_45 (by decide) (fun c_45 => ?_) (fun c_45 => ?_)
        · have e : i = mp / 2 := by have : ¬ 2 * i + 2 ≤ mp := fun q => absurd c_45 (nI_nlt q (by omega)); omega
          subst e
          exact ev_vret dX11_findBest_91 rfl ⟨W, T, ⟨rfl, rfl, by unfold cx_fbs; rw [if_neg (by rw [← cx_clear_ne (C := C) (k := 110) (by decide)]; exact c_35)]; exact hx⟩, hT⟩
        · have hi9 : 2 * i + 2 ≤ mp := Nat.le_of_not_lt fun q => c_45 (nI_lt q (by omega))
          refine ev_aload_n dX11_findBest_48 rfl rfl ?_
          refine ev_aload_n dX11_findBest_49 rfl rfl ?_
          refine ev_aload_n dX11_findBest_50 rfl rfl ?_
          refine ev_iload dX11_findBest_51 rfl ?_
          refine cw_callr3 (d' := d - 1) (b := 0) (n0 := 0) hE hT dX11_findBest_53 rfl kX11_priceValue lX11_202 iX11_priceValue vX11_priceValue (k := 0) (i := 0) rfl ob0 rfl (Nat.le_of_ble_eq_true rfl) (by omega) (c_X11_priceValue (d := d - 1) hE h4 (by omega) hcT hbT hpT) (Nat.le_refl _) (Nat.le_refl _) (fun v9 W9 V g q9 hT => ?_) (fun E W2 C2 g q9 _ => by cases q9.2.1)
          obtain ⟨e8, e9, hv⟩ := q9
          have e7 := e8.symm
          subst e7
          cases e9
          rw [show cx_price T Qf b p (nI (2 * i + 2)) = (cx_price C Qf b p (nI (2 * i + 2))) from cx_price_cg (fun f hf => hTC f (by revert f; decide)) (hTC 110 (by decide))]
          have hVC : cx_eqX [123, 127, 128, 129, 130] V C := (hv.x.mono (by decide)).t hTC
          have hpV : p < sp_P V := lvP hpT (hv.1 1 (by decide))
          refine ev_istore (lv' := [some (.ref (W 0 0)), some (.ref (W 20 p)), some (.ref (W 28 b)), some (.int (nI k)), some (.int (nI mp)), some (.int (nI (2 * i + 2))), some (.int (cx_price C Qf b p (nI (2 * i + 2)))), none]) dX11_findBest_56 (Nat.le_of_ble_eq_true rfl) rfl ?_
          refine ev_aload_n dX11_findBest_58 rfl rfl ?_
          refine cw_getf hE hT dX11_findBest_59 fX11_76 (k := 0) (i := 0) rfl ob0 rfl ?_
          refine ev_iload dX11_findBest_62 rfl ?_
          refine ev_iload dX11_findBest_64 rfl ?_
          refine ev_aload_n dX11_findBest_66 rfl rfl ?_
          refine ev_aload_n dX11_findBest_67 rfl rfl ?_
          refine ev_iload dX11_findBest_68 rfl ?_
          refine cw_call2 (d' := d - 1) hE hT dX11_findBest_70 rfl kX11_demandOf lX11_161 iX11_demandOf vX11_demandOf (k := 0) (i := 0) rfl ob0 rfl (Nat.le_of_ble_eq_true rfl) (by omega) (c_X11_demandOf hE hpV (by rw [hVC 24 (by decide), show sp_W V = sp_W C from congrArg Int32.toNatClampNeg (congrFun (hVC 24 (by decide)) 0)]; exact hW.1) (by rw [show sp_W V = sp_W C from congrArg Int32.toNatClampNeg (congrFun (hVC 24 (by decide)) 0)]; exact hW.2)) (fun g hT => ?_)
          rw [show sp_demand V p (cx_price C Qf b p (nI (2 * i + 2))) (sp_W V) = sp_demand C p (cx_price C Qf b p (nI (2 * i + 2))) (sp_W C) by rw [show sp_W V = sp_W C from congrArg Int32.toNatClampNeg (congrFun (hVC 24 (by decide)) 0)]; exact sp_demand_cg (hVC 25 (by decide)) (hVC 26 (by decide)) _]
          refine ev_iload_n dX11_findBest_73 rfl rfl ?_
          refine ev_iload dX11_findBest_74 rfl ?_
          refine ev_pS2 (d' := d - 1) dX11_findBest_76 rfl kX11_mostCopies lX11_438 sX11_mostCopies (Nat.le_of_ble_eq_true rfl) (by omega) (c_X11_mostCopies2 (k := k) (n := 2 * i + 2) hkg.2 (by omega) (by omega)) ?_
          refine ev_mmin dX11_findBest_79 lX11_337 (Nat.le_of_ble_eq_true rfl) (by omega) ?_
          refine cw_call3 (d' := d - 1) hE hT dX11_findBest_82 rfl kX3_consider lX11_464 iX3_consider vX3_consider (k := 19) (i := 0) rfl ob19 rfl (Nat.le_of_ble_eq_true rfl) (by omega) (c_X3_consider hE h4 (by omega)) (fun g hT => ?_)
          refine ev_iinc (v := (nI (2 * (i + 1) + 2))) dX11_findBest_85 rfl (by rw [show 2 * (i + 1) + 2 = 2 * i + 2 + 2 by omega]; exact nI_add (2 * i + 2) 2) rfl ?_
          refine ev_goto (tgt := 41) dX11_findBest_88 (by decide) ?_
          refine ev_none 6 ?_
          exact ih (i + 1) (by omega) (by omega) _ (by rw [cx_f1]; exact cx_con_cg (hv.x.t hx)) g hT
    exact loop ((mp / 2) + 1) 0 (by omega) (by omega) _ (cx_eqX.r _) g hT
theorem c_X11_best2 {G : ev_G} {W : cw_W} {d D0 : Nat} {C : mo_S} {x1 : Int32} {x2 : Int32} {Qf : cx_Fn} {k : Nat} {mp : Nat} {Pf : cx_Fn} (hE : ev_En G) (h4 : ev_En4 G D0) (hd : 8 ≤ d) (hH : (x1).toNatClampNeg < sp_P C → C.1 12 (x1).toNatClampNeg = 1 → cx_bH2 C Pf Qf (cx_now C) (x1).toNatClampNeg k mp) : cw_PS G W d 1 8 mX11_best [.ref (W 0 0), .int x1, .int x2] C (cx_X11_best C Qf k mp x1 x2) := by
  refine cw_startR (lv0 := [some (.ref (W 0 0)), some (.int x1), some (.int x2), none]) (by decide +kernel) rfl (Nat.le_of_ble_eq_true rfl) rfl ?_
  intro K g0 g hT
  have hBP := hT.B.1
  have hBR := hT.B.2.1
  have hBA := hT.B.2.2.2.1
  refine ev_aload_n dX11_best_0 rfl rfl ?_
  refine ev_iload_n dX11_best_1 rfl rfl ?_
  refine cw_paperAt hE h4 rfl hT dX11_best_2 lX11_109 (Nat.le_of_ble_eq_true rfl) (by omega) (by decide) (by decide) (fun c_2 g hT => ?_) (fun q9 c_2 e_2 u_2 hP2 g hT => ?_)
  · have e9 : cx_X11_best C Qf k mp x1 x2 = ((.inl "java/lang/IndexOutOfBoundsException"), C) := by unfold cx_X11_best; rw [if_neg (cl_nf c_2)]
    exact ⟨W, C, ⟨rfl, by rw [e9]; rfl, by rw [e9]; exact (cx_eqX.r _)⟩, hT⟩
  subst u_2
  refine ev_astore_n (lv' := [some (.ref (W 0 0)), some (.int x1), some (.int x2), some (.ref (W 20 (x1).toNatClampNeg))]) dX11_best_5 rfl (Nat.le_of_ble_eq_true rfl) rfl ?_
  refine ev_iload_n dX11_best_6 rfl rfl ?_
  refine ev_iconst (v := 0) dX11_best_7 (by decide) ?_
  refine ev_iconst (v := 3) dX11_best_8 (by decide) ?_
  refine ev_pS3 (d' := d - 1) dX11_best_9 rfl kX11_within lX11_80 sX11_within (Nat.le_of_ble_eq_true rfl) (by omega) (c_X11_within) ?_
  refine cw_need hE h4 rfl dX11_best_12 lX11_85 (Nat.le_of_ble_eq_true rfl) (by omega) (by decide) (by decide) (fun c_12 => ?_) (fun c_12 => ?_)
  · have e9 : cx_X11_best C Qf k mp x1 x2 = ((.inl "java/lang/IllegalArgumentException"), C) := by unfold cx_X11_best; rw [if_pos c_2, if_pos c_12]
    exact ⟨W, C, ⟨rfl, by rw [e9]; rfl, by rw [e9]; exact (cx_eqX.r _)⟩, hT⟩
  refine ev_aload_n dX11_best_15 rfl rfl ?_
  refine cw_call0 (d' := d - 1) hE hT dX11_best_16 rfl kX5_isAdmitted lX11_224 iX5_isAdmitted vX5_isAdmitted (k := 20) (i := (x1).toNatClampNeg) hP2 ob20 rfl (Nat.le_of_ble_eq_true rfl) (by omega) (c_X5_isAdmitted hE hP2) (fun g hT => ?_)
  refine ev_if_ne (tgt := 26) dX11_best_19 (by decide) (fun c_19 => ?_) (fun c_19 => ?_)
  · refine ev_aload_n dX11_best_26 rfl rfl ?_
    refine ev_aload_n dX11_best_27 rfl rfl ?_
    refine ev_aload_n dX11_best_28 rfl rfl ?_
    refine cw_call0 (d' := d - 1) hE hT dX11_best_29 rfl kX11_orderNow lX11_185 iX11_orderNow vX11_orderNow (k := 0) (i := 0) rfl ob0 rfl (Nat.le_of_ble_eq_true rfl) (by omega) (c_X11_orderNow hE (by omega)) (fun g hT => ?_)
    refine cw_callr2 (d' := d - 1) (b := 1) (n0 := 8) hE hT dX11_best_32 rfl kX11_findBest lX11_305 iX11_findBest vX11_findBest (k := 0) (i := 0) rfl ob0 rfl (Nat.le_of_ble_eq_true rfl) (by omega) (c_X11_findBest2 (d := d - 1) hE h4 (by omega) (hH hP2 (cl_a1 c_19)) hP2) (Nat.le_refl _) (Nat.le_refl _) (fun v9 W9 V g q9 hT => ?_) (fun E W2 C2 g q9 _ => by cases q9.2.1)
    obtain ⟨e8, e9, hv⟩ := q9
    have e7 := e8.symm
    subst e7
    cases e9
    refine ev_aload_n dX11_best_35 rfl rfl ?_
    refine cw_getf hE hT dX11_best_36 fX11_76 (k := 0) (i := 0) rfl ob0 rfl ?_
    refine ev_iload_n dX11_best_39 rfl rfl ?_
    refine cw_call1 (d' := d - 1) hE hT dX11_best_40 rfl kX3_field lX11_309 iX3_field vX3_field (k := 19) (i := 0) rfl ob19 rfl (Nat.le_of_ble_eq_true rfl) (by omega) (c_X3_field hE) (fun g hT => ?_)
    rw [show cx_X3_field V x2 = cx_X3_field (cx_fbs C Qf (cx_now C) (x1).toNatClampNeg k (mp / 2)) x2 by unfold cx_X3_field; rw [hv 127 (by decide), hv 128 (by decide), hv 129 (by decide), hv 130 (by decide)]]
    have e9 : cx_X11_best C Qf k mp x1 x2 = ((.inr ((cx_X3_field (cx_fbs C Qf (cx_now C) (x1).toNatClampNeg k (mp / 2)) x2))), C) := by unfold cx_X11_best; rw [if_pos c_2, if_neg c_12, if_neg c_19]
    exact ev_iret dX11_best_43 rfl rfl ⟨W, V, ⟨rfl, by rw [e9]; rfl, by rw [e9]; exact ((hv.mono (by decide)).t cx_fbs_x)⟩, hT⟩
  · refine ev_ldcw dX11_best_22 nX11_260 ?_
    have e9 : cx_X11_best C Qf k mp x1 x2 = ((.inr ((-2000000000))), C) := by unfold cx_X11_best; rw [if_pos c_2, if_neg c_12, if_pos c_19]
    exact ev_iret dX11_best_25 rfl rfl ⟨W, C, ⟨rfl, by rw [e9]; rfl, by rw [e9]; exact (cx_eqX.r _)⟩, hT⟩
theorem mt_loop2 {G : ev_G} {W : mo_W} {d : Nat} {g0 : ev_H} {S : mo_S} {F : mo_Fn} {x1 : Int32} (hE : ev_En G) (h : mo_J S F) {N : Nat} (hd : 9 ≤ d) (hN : x1 = nI N) (hN2 : N ≤ 24) (hi : sp_in x1 0 24 = true) (hm : S.1 2 0 + x1 ≤ 600)  : ∀ (n i : Nat), i ≤ N → N < i + n → ∀ (T : mo_S), sp_goesN F (mo_up S 0 0 0) i T → ∀ g, mo_T G W g0 g T → ev_V G d 0 0 mX12_months (fun o g' => ∃ r S2, o = .inl r ∧ ((r = some (.int 0) ∧ ∃ k, (k = 1 ∧ sp_in x1 0 24 = false ∨ k = 2 ∧ sp_in x1 0 24 = true ∧ 600 < S.1 2 0 + x1) ∧ S2 = mo_up (mo_up S 0 0 0) 0 0 k) ∨ (sp_in x1 0 24 = true ∧ S.1 2 0 + x1 ≤ 600 ∧ ∃ N, x1 = nI N ∧ N ≤ 24 ∧ sp_goesN F (mo_up S 0 0 0) N S2 ∧ r = some (.int (S2.1 2 0)))) ∧ mo_T G W g0 g' S2) g 57 [some (.ref W.1), some (.int (nI N)), some (.int (nI i))] [] := by
  intro n
  induction n with
  | zero => intro i h1 h2; exact absurd h2 (by omega)
  | succ n ih =>
    intro i h1 h2 T hI g hT
    have j0 : mo_J (mo_up S 0 0 0) F := h.upA (by decide)
    have eM0 : sp_M (mo_up S 0 0 0) = sp_M S := by unfold sp_M; rw [mo_up_ne (by decide)]
    have hM600 : sp_M S + N ≤ 600 := by
      have q := hm
      rw [hN, h.M.1, nI_add] at q
      have := h.M.2
      exact (nI_leI (by omega) (by decide)).mp q
    refine ev_iload_n dX12_months_57 rfl rfl ?_
    refine ev_iload_n dX12_months_58 rfl rfl ?_
    refine ev_icmp_ge (tgt := 72) dX12_months_59 (by decide) (fun c_59 => ?_) (fun c_59 => ?_)
    · have e : i = N := by have q := mo_ige rfl (by omega) (by omega) c_59; omega
      subst e
      refine ev_aload_n dX12_months_72 rfl rfl ?_
      refine mo_geti hE hT dX12_months_73 fX12_364 (by decide) ?_
      exact ev_iret dX12_months_76 rfl rfl ⟨_, T, rfl, Or.inr ⟨hi, hm, i, hN, hN2, hI, rfl⟩, hT⟩
    · refine ev_aload_n dX12_months_62 rfl rfl ?_
      obtain ⟨jT, -, mT⟩ := sp_goesN_J j0 (n := i) (by omega) hI
      have hlt : i < N := mo_ilt rfl (by omega) (by omega) c_59
      refine mo_callr0 (d' := d - 1) hE hT dX12_months_63 rfl rfl kX12_goes lX12_461 iX12_goes vX12_goes (Nat.le_of_ble_eq_true rfl) (by omega) (c_X12_goes hE (by omega) jT (by omega)) (fun r T2 g h8 hT => ?_)
      obtain ⟨rfl, h8⟩ := h8
      refine ev_iinc (v := (nI (i + 1))) dX12_months_66 rfl (by exact nI_1 i) rfl ?_
      refine ev_goto (tgt := 57) dX12_months_69 (by decide) ?_
      exact ih (i + 1) (by omega) (by omega) T2 ⟨T, hI, h8⟩ g hT
theorem c_X12_months2 {G : ev_G} {W : mo_W} {d : Nat} {S : mo_S} {F : mo_Fn} {x1 : Int32} (hE : ev_En G) (h : mo_J S F) (hd : 9 ≤ d) : mo_Cr G W d mX12_months [.int x1] S (fun r S2 => (r = some (.int 0) ∧ ∃ k, (k = 1 ∧ sp_in x1 0 24 = false ∨ k = 2 ∧ sp_in x1 0 24 = true ∧ 600 < S.1 2 0 + x1) ∧ S2 = mo_up (mo_up S 0 0 0) 0 0 k) ∨ (sp_in x1 0 24 = true ∧ S.1 2 0 + x1 ≤ 600 ∧ ∃ N, x1 = nI N ∧ N ≤ 24 ∧ sp_goesN F (mo_up S 0 0 0) N S2 ∧ r = some (.int (S2.1 2 0)))) := by
  refine mo_startr (lv0 := [some (.ref W.1), some (.int x1), none]) (by decide +kernel) rfl (Nat.le_of_ble_eq_true rfl) rfl ?_
  intro g0 g hT
  refine ev_aload_n dX12_months_0 rfl rfl ?_
  refine ev_iconst (v := 0) dX12_months_1 (by decide) ?_
  refine mo_put hE hT dX12_months_2 pX12_173 (by decide) (fun g hT => ?_)
  refine ev_aload_n dX12_months_5 rfl rfl ?_
  refine ev_iload_n dX12_months_6 rfl rfl ?_
  refine ev_iconst (v := 0) dX12_months_7 (by decide) ?_
  refine ev_bipush (v := 24) dX12_months_8 (by decide) ?_
  refine ev_pS3 (d' := d - 1) dX12_months_10 rfl kX12_in lX12_176 sX12_in (Nat.le_of_ble_eq_true rfl) (by omega) (c_X12_in) ?_
  have K_21 : ∀ (g : ev_H) (hT : mo_T G W g0 g (mo_up S 0 0 0)), ∀ x9 : Int32, x9 = (mo_b (if (mo_b (sp_in x1 0 24)) = 0 then true else false)) → ev_V G d 0 0 mX12_months (fun o g' => ∃ r S2, o = .inl r ∧ ((r = some (.int 0) ∧ ∃ k, (k = 1 ∧ sp_in x1 0 24 = false ∨ k = 2 ∧ sp_in x1 0 24 = true ∧ 600 < S.1 2 0 + x1) ∧ S2 = mo_up (mo_up S 0 0 0) 0 0 k) ∨ (sp_in x1 0 24 = true ∧ S.1 2 0 + x1 ≤ 600 ∧ ∃ N, x1 = nI N ∧ N ≤ 24 ∧ sp_goesN F (mo_up S 0 0 0) N S2 ∧ r = some (.int (S2.1 2 0)))) ∧ mo_T G W g0 g' S2) g 21 [some (.ref W.1), some (.int x1), none] (.int x9 :: .ref W.1 :: []) := by
    intro g hT x9 h9
    subst h9
    refine ev_iconst (v := 1) dX12_months_21 (by decide) ?_
    refine mo_call2 (d' := d - 1) hE hT dX12_months_22 rfl rfl kX12_bad lX12_181 iX12_bad vX12_bad (Nat.le_of_ble_eq_true rfl) (by omega) (c_X12_bad hE) (fun g hT => ?_)
    refine ev_if_ne (tgt := 53) dX12_months_25 (by decide) (fun c_25 => ?_) (fun c_25 => ?_)
    · refine ev_iconst (v := 0) dX12_months_53 (by decide) ?_
      refine ev_iret dX12_months_54 rfl rfl ⟨_, _, rfl, Or.inl ⟨rfl, ?_⟩, hT⟩
      first
        | (have q : sp_in x1 0 24 = false := by cases hq : sp_in x1 0 24 <;> simp_all [mo_b]
           refine ⟨1, Or.inl ⟨rfl, q⟩, ?_⟩
           rw [q]; rfl)
        | (have q : sp_in x1 0 24 = true := by cases hq : sp_in x1 0 24 <;> simp_all [mo_b]
           have q2 : 600 < S.1 2 0 + x1 := by
             rcases Int32.lt_or_le 600 (S.1 2 0 + x1) with a | a
             · exact a
             · exact absurd a (by intro a; simp_all [mo_b, sp_bad])
           refine ⟨2, Or.inr ⟨rfl, q, q2⟩, ?_⟩
           rw [q]; simp_all [sp_bad, mo_b])
    · refine ev_aload_n dX12_months_28 rfl rfl ?_
      refine ev_aload_n dX12_months_29 rfl rfl ?_
      refine mo_getiE (v := (S.1 2 0)) hE hT dX12_months_30 fX12_364 (by decide) (by simp [sp_bad_ne, mo_up]) ?_
      refine ev_iload_n dX12_months_33 rfl rfl ?_
      refine ev_iadd dX12_months_34 ?_
      refine ev_sipush (v := 600) dX12_months_35 (by decide) ?_
      have K_46 : ∀ (g : ev_H) (hT : mo_T G W g0 g (sp_bad (if (mo_b (sp_in x1 0 24)) = 0 then true else false) 1 (mo_up S 0 0 0))), ∀ x9 : Int32, x9 = (mo_b (if ((S.1 2 0) + x1) ≤ 600 then false else true)) → ev_V G d 0 0 mX12_months (fun o g' => ∃ r S2, o = .inl r ∧ ((r = some (.int 0) ∧ ∃ k, (k = 1 ∧ sp_in x1 0 24 = false ∨ k = 2 ∧ sp_in x1 0 24 = true ∧ 600 < S.1 2 0 + x1) ∧ S2 = mo_up (mo_up S 0 0 0) 0 0 k) ∨ (sp_in x1 0 24 = true ∧ S.1 2 0 + x1 ≤ 600 ∧ ∃ N, x1 = nI N ∧ N ≤ 24 ∧ sp_goesN F (mo_up S 0 0 0) N S2 ∧ r = some (.int (S2.1 2 0)))) ∧ mo_T G W g0 g' S2) g 46 [some (.ref W.1), some (.int x1), none] (.int x9 :: .ref W.1 :: []) := by
        intro g hT x9 h9
        subst h9
        refine ev_iconst (v := 2) dX12_months_46 (by decide) ?_
        refine mo_call2 (d' := d - 1) hE hT dX12_months_47 rfl rfl kX12_bad lX12_181 iX12_bad vX12_bad (Nat.le_of_ble_eq_true rfl) (by omega) (c_X12_bad hE) (fun g hT => ?_)
        refine ev_if_eq (tgt := 55) dX12_months_50 (by decide) (fun c_50 => ?_) (fun c_50 => ?_)
        · have q : sp_in x1 0 24 = true := by cases hq : sp_in x1 0 24 <;> simp_all [mo_b]
          have q2 : S.1 2 0 + x1 ≤ 600 := by
            rcases Int32.lt_or_le 600 (S.1 2 0 + x1) with a | a
            · exact absurd a (by intro a; simp_all [mo_b, sp_bad])
            · exact a
          have q1 : 0 ≤ x1 ∧ x1 ≤ 24 := by simpa [sp_in] using q
          obtain ⟨N, hN, rfl⟩ := nI_of (x := x1) (Int32.not_lt.mpr q1.1)
          have hN2 : N ≤ 24 := (nI_leI hN (by decide)).mp q1.2
          have e9 : ∀ b1 b2, b1 = false → b2 = false → sp_bad b1 2 (sp_bad b2 1 (mo_up S 0 0 0)) = mo_up S 0 0 0 := fun b1 b2 h1 h2 => by rw [h1, h2]; rfl
          refine ev_iconst (v := nI 0) dX12_months_55 (by decide) ?_
          refine ev_istore_n dX12_months_56 rfl (Nat.le_of_ble_eq_true rfl) rfl ?_
          rw [e9 _ _ (by simp_all [mo_b]) (by simp_all [mo_b])] at hT
          exact mt_loop2 hE h hd rfl hN2 q q2 (N + 1) 0 (by omega) (by omega) _ rfl g hT
        · refine ev_iconst (v := 0) dX12_months_53 (by decide) ?_
          refine ev_iret dX12_months_54 rfl rfl ⟨_, _, rfl, Or.inl ⟨rfl, ?_⟩, hT⟩
          first
            | (have q : sp_in x1 0 24 = false := by cases hq : sp_in x1 0 24 <;> simp_all [mo_b]
               refine ⟨1, Or.inl ⟨rfl, q⟩, ?_⟩
               rw [q]; rfl)
            | (have q : sp_in x1 0 24 = true := by cases hq : sp_in x1 0 24 <;> simp_all [mo_b]
               have q2 : 600 < S.1 2 0 + x1 := by
                 rcases Int32.lt_or_le 600 (S.1 2 0 + x1) with a | a
                 · exact a
                 · exact absurd a (by intro a; simp_all [mo_b, sp_bad])
               refine ⟨2, Or.inr ⟨rfl, q, q2⟩, ?_⟩
               rw [q]; simp_all [sp_bad, mo_b])
      refine ev_icmp_le (tgt := 45) dX12_months_38 (by decide) (fun c_38 => ?_) (fun c_38 => ?_)
      · refine ev_iconst (v := 0) dX12_months_45 (by decide) ?_
        exact K_46 g hT _ (by rw [if_pos c_38]; rfl)
      · refine ev_iconst (v := 1) dX12_months_41 (by decide) ?_
        refine ev_goto (tgt := 46) dX12_months_42 (by decide) ?_
        exact K_46 g hT _ (by rw [if_neg c_38]; rfl)
  refine ev_if_ne (tgt := 20) dX12_months_13 (by decide) (fun c_13 => ?_) (fun c_13 => ?_)
  · refine ev_iconst (v := 0) dX12_months_20 (by decide) ?_
    exact K_21 g hT _ (by rw [if_neg c_13]; rfl)
  · refine ev_iconst (v := 1) dX12_months_16 (by decide) ?_
    refine ev_goto (tgt := 21) dX12_months_17 (by decide) ?_
    exact K_21 g hT _ (by rw [if_pos c_13]; rfl)
end DX
