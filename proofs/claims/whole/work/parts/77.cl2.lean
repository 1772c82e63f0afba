section CL2
theorem cx_con_ne {C : mo_S} {x y z : Int32} {k : Nat} (h : k ∉ [127, 128, 129, 130]) : (cx_X3_consider C x y z).1 k = C.1 k := by
  have q : ∀ f, f ∈ [127, 128, 129, 130] → k ≠ f := fun f hf e => h (e ▸ hf)
  unfold cx_X3_consider
  repeat' split
  all_goals first | rfl | rw [mo_up_ne (q 130 (by decide)), mo_up_ne (q 129 (by decide)), mo_up_ne (q 128 (by decide)), mo_up_ne (q 127 (by decide))]
theorem cx_con_cg {V C : mo_S} {x y z : Int32} (h : cx_eqX [123] V C) : cx_eqX [123] (cx_X3_consider V x y z) (cx_X3_consider C x y z) := by
  unfold cx_X3_consider cx_X3_isBetter
  simp only [h 127 (by decide), h 128 (by decide), h 130 (by decide)]
  repeat' (first | exact h | refine cx_eqX.ite (fun _ => ?_) (fun _ => ?_) | refine cx_eqX.upR ?_)
theorem cx_price_cg {T C : mo_S} {Q : cx_Fn} {b p : Nat} {g : Int32} (h : ∀ f, f ∈ cx_rd → T.1 f = C.1 f) (h1 : T.1 110 = C.1 110) : cx_price T Q b p g = cx_price C Q b p g := by
  unfold cx_price cx_v
  rw [h1, h 2 (by decide)]
  simp only [cx_named_cg (h 3 (by decide)) (h 4 (by decide)) (h 5 (by decide)) (h 7 (by decide)) (h 10 (by decide)) (h 13 (by decide))]
/-- prices are told -/
def cx_f1 (C : mo_S) (Qf : cx_Fn) (b p k : Nat) : Nat → mo_S
  | 0 => cx_X3_clear C
  | n + 1 => cx_X3_consider (cx_f1 C Qf b p k n) (nI (2 * n + 2)) (cx_price C Qf b p (nI (2 * n + 2))) (cj_min (sp_demand C p (cx_price C Qf b p (nI (2 * n + 2))) (sp_W C)) (nI ((10 * k + 9) / (3 * (2 * n + 2)))))
/-- .. they are free -/
def cx_f2i (C : mo_S) (p k : Nat) (v : Int32) (S0 : mo_S) : Nat → mo_S
  | 0 => S0
  | n + 1 => cx_X3_consider (cx_f2i C p k v S0 n) (nI (2 * n + 2)) v (cj_min (sp_demand C p v (sp_W C)) (nI ((10 * k + 9) / (3 * (2 * n + 2)))))
def cx_f2 (C : mo_S) (p k N : Nat) : Nat → mo_S
  | 0 => cx_X3_clear C
  | n + 1 => cx_f2i C p k (nI (n + 1)) (cx_f2 C p k N n) N
theorem cx_clear_ne {C : mo_S} {k : Nat} (h : k ∉ [127, 128, 129, 130]) : (cx_X3_clear C).1 k = C.1 k := by
  unfold cx_X3_clear
  rw [mo_up_ne (fun e => h (by rw [e]; decide))]
theorem cx_f1_ne {C : mo_S} {Qf : cx_Fn} {b p k f : Nat} (h : f ∉ [127, 128, 129, 130]) : ∀ n, (cx_f1 C Qf b p k n).1 f = C.1 f
  | 0 => cx_clear_ne h
  | n + 1 => by rw [cx_f1, cx_con_ne h, cx_f1_ne h n]
theorem cx_f2i_ne {C S0 : mo_S} {p k f : Nat} {v : Int32} (h : f ∉ [127, 128, 129, 130]) : ∀ n, (cx_f2i C p k v S0 n).1 f = S0.1 f
  | 0 => rfl
  | n + 1 => by rw [cx_f2i, cx_con_ne h, cx_f2i_ne h n]
theorem cx_f2_ne {C : mo_S} {p k N f : Nat} (h : f ∉ [127, 128, 129, 130]) : ∀ n, (cx_f2 C p k N n).1 f = C.1 f
  | 0 => cx_clear_ne h
  | n + 1 => by rw [cx_f2, cx_f2i_ne h, cx_f2_ne h n]
def cx_fbs (C : mo_S) (Qf : cx_Fn) (b p k N : Nat) : mo_S := if C.1 110 b = 0 then cx_f2 C p k N 60 else cx_f1 C Qf b p k N
/-- what it asks -/
def cx_bH (C : mo_S) (Pf Qf : cx_Fn) (b p k mp : Nat) : Prop := cx_cd C Pf Qf ∧ (b < sp_O C ∨ b = 10) ∧ (C.1 3 p = nI (C.1 3 p).toNatClampNeg ∧ (C.1 3 p).toNatClampNeg < 3) ∧ (cx_X4_pagesFor C b (C.1 3 p).toNatClampNeg = nI mp ∧ mp ≤ 64) ∧ (C.1 10 p + cj_max (C.1 11 p) 0 = nI k ∧ k ≤ 100000000) ∧ (C.1 24 0 = nI (sp_W C) ∧ sp_W C ≤ 5)
theorem c_X11_findBest {G : ev_G} {W : cw_W} {d : Nat} {C : mo_S} {p : Nat} {b : Nat} {Pf Qf : cx_Fn} {k mp : Nat} (hE : ev_En G) {D0 : Nat} (h4 : ev_En4 G D0) (hd : 7 ≤ d) (hH : cx_bH C Pf Qf b p k mp) (hp : p < sp_P C) : cw_R G W d 0 0 mX11_findBest [.ref (W 0 0), .ref (W 20 p), .ref (W 28 b)] C (fun o W2 C2 => W2 = W ∧ o = .inl none ∧ cx_eqX [123] C2 (cx_fbs C Qf b p k (mp / 2))) := by
  refine cw_startR (lv0 := [some (.ref (W 0 0)), some (.ref (W 20 p)), some (.ref (W 28 b)), none, none, none, none, none]) (by decide +kernel) rfl (Nat.le_of_ble_eq_true rfl) rfl ?_
  intro K g0 g hT
  obtain ⟨hc, hb, hk, hmp, hkg, hW⟩ := hH
  have hol := cx_olI hb
  refine ev_aload_n dX11_findBest_0 rfl rfl ?_
  refine cw_getf hE hT dX11_findBest_1 fX11_142 (k := 20) (i := p) hp ob20 rfl ?_
  refine ev_aload_n dX11_findBest_4 rfl rfl ?_
  refine cw_getf hE hT dX11_findBest_5 fX11_429 (k := 20) (i := p) hp ob20 rfl ?_
  refine ev_iconst (v := 0) dX11_findBest_8 (by decide) ?_
  refine ev_mmax dX11_findBest_9 lX11_148 (Nat.le_of_ble_eq_true rfl) (by omega) ?_
  refine ev_iadd dX11_findBest_12 ?_
  rw [hkg.1]
  refine ev_istore_n (lv' := [some (.ref (W 0 0)), some (.ref (W 20 p)), some (.ref (W 28 b)), some (.int (nI k)), none, none, none, none]) dX11_findBest_13 rfl (Nat.le_of_ble_eq_true rfl) rfl ?_
  refine ev_aload_n dX11_findBest_14 rfl rfl ?_
  refine ev_aload_n dX11_findBest_15 rfl rfl ?_
  refine cw_getf hE hT dX11_findBest_16 fX11_193 (k := 20) (i := p) hp ob20 rfl ?_
  refine cw_call1 (d' := d - 1) hE hT dX11_findBest_19 rfl kX4_pagesFor lX11_196 iX4_pagesFor vX4_pagesFor (k := 28) (i := b) hol ob28 rfl (Nat.le_of_ble_eq_true rfl) (by omega) (by have w9 := c_X4_pagesFor (G := G) (W := W) (d := d - 1) (C := C) (b := b) (q := (C.1 3 p).toNatClampNeg) hE hol hk.2; rw [← hk.1] at w9; exact w9) (fun g hT => ?_)
  rw [hmp.1]
  refine ev_istore (lv' := [some (.ref (W 0 0)), some (.ref (W 20 p)), some (.ref (W 28 b)), some (.int (nI k)), some (.int (nI mp)), none, none, none]) dX11_findBest_22 (Nat.le_of_ble_eq_true rfl) rfl ?_
  refine ev_aload_n dX11_findBest_24 rfl rfl ?_
  refine cw_getf hE hT dX11_findBest_25 fX11_76 (k := 0) (i := 0) rfl ob0 rfl ?_
  refine cw_call0 (d' := d - 1) hE hT dX11_findBest_28 rfl kX3_clear lX11_461 iX3_clear vX3_clear (k := 19) (i := 0) rfl ob19 rfl (Nat.le_of_ble_eq_true rfl) (by omega) (c_X3_clear hE) (fun g hT => ?_)
  have hol : cw_ol (cx_X3_clear C) b := cx_olI (by rw [sp_O_cg (cx_clear_ne (by decide))]; exact hb)
  refine ev_aload_n dX11_findBest_31 rfl rfl ?_
  refine cw_getf hE hT dX11_findBest_32 fX11_372 (k := 28) (i := b) hol ob28 rfl ?_
  by_cases c_35 : (cx_X3_clear C ).1 110 b = 0
  · rw [if_pos c_35]
    refine ev_ifnullN (tgt := 92) dX11_findBest_35 (by decide) ?_
    refine ev_iconst (v := 1) dX11_findBest_92 (by decide) ?_
    refine ev_istore (lv' := [some (.ref (W 0 0)), some (.ref (W 20 p)), some (.ref (W 28 b)), some (.int (nI k)), some (.int (nI mp)), some (.int 1), none, none]) dX11_findBest_93 (Nat.le_of_ble_eq_true rfl) rfl ?_
    have loop3 : ∀ (n3 j : Nat), j ≤ 60 → 60 < j + n3 → ∀ g, cw_T G K g0 W g (cx_f2 C p k (mp / 2) j) → ev_V G d 0 0 mX11_findBest (fun o g' => ∃ W2 C2, (W2 = W ∧ o = .inl none ∧ cx_eqX [123] C2 (cx_fbs C Qf b p k (mp / 2))) ∧ cw_T G K g0 W2 g' C2) g 95 [some (.ref (W 0 0)), some (.ref (W 20 p)), some (.ref (W 28 b)), some (.int (nI k)), some (.int (nI mp)), some (.int (nI (j + 1))), none, none] [] := by
      intro n3
      induction n3 with
      | zero => intro j h13 h23; exact absurd h23 (by omega)
      | succ n3 ih3 =>
        intro j h13 h23   g hT
        have hFC : ∀ f, f ∉ [127, 128, 129, 130] → (cx_f2 C p k (mp / 2) j).1 f = C.1 f := fun f h => cx_f2_ne h j
        have hpF : p < sp_P (cx_f2 C p k (mp / 2) j) := lvP hp (hFC 1 (by decide))
        refine ev_iload dX11_findBest_95 rfl ?_
        refine ev_bipush (v := 60) dX11_findBest_97 (by decide) ?_
        refine ev_icmp_gt (tgt := 155) dX11_findBest_99 (by decide) (fun c_99 => ?_) (fun c_99 => ?_)
        · have e : j = 60 := by have : ¬ j + 1 ≤ 60 := fun q => absurd c_99 (nI_nlt (a := 60) (b := j + 1) q (by omega)); omega
          subst e
          exact ev_vret dX11_findBest_155 rfl ⟨W, (cx_f2 C p k (mp / 2) 60), ⟨rfl, rfl, by unfold cx_fbs; rw [if_pos (by rw [← cx_clear_ne (C := C) (k := 110) (by decide)]; exact c_35)]; exact cx_eqX.r _⟩, hT⟩
        · have hj9 : j + 1 ≤ 60 := Nat.le_of_not_lt fun q => c_99 (nI_lt (a := 60) q (by omega))
          refine ev_aload_n dX11_findBest_102 rfl rfl ?_
          refine ev_aload_n dX11_findBest_103 rfl rfl ?_
          refine ev_iload dX11_findBest_104 rfl ?_
          refine cw_call2 (d' := d - 1) hE hT dX11_findBest_106 rfl kX11_demandOf lX11_161 iX11_demandOf vX11_demandOf (k := 0) (i := 0) rfl ob0 rfl (Nat.le_of_ble_eq_true rfl) (by omega) (c_X11_demandOf hE hpF (by rw [hFC 24 (by decide), show sp_W (cx_f2 C p k (mp / 2) j) = sp_W C from congrArg Int32.toNatClampNeg (congrFun (hFC 24 (by decide)) 0)]; exact hW.1) (by rw [show sp_W (cx_f2 C p k (mp / 2) j) = sp_W C from congrArg Int32.toNatClampNeg (congrFun (hFC 24 (by decide)) 0)]; exact hW.2)) (fun g hT => ?_)
          rw [show sp_demand (cx_f2 C p k (mp / 2) j) p (nI (j + 1)) (sp_W (cx_f2 C p k (mp / 2) j)) = sp_demand C p (nI (j + 1)) (sp_W C) by rw [show sp_W (cx_f2 C p k (mp / 2) j) = sp_W C from congrArg Int32.toNatClampNeg (congrFun (hFC 24 (by decide)) 0)]; exact sp_demand_cg (hFC 25 (by decide)) (hFC 26 (by decide)) _]
          refine ev_istore (lv' := [some (.ref (W 0 0)), some (.ref (W 20 p)), some (.ref (W 28 b)), some (.int (nI k)), some (.int (nI mp)), some (.int (nI (j + 1))), some (.int (sp_demand C p (nI (j + 1)) (sp_W C))), none]) dX11_findBest_109 (Nat.le_of_ble_eq_true rfl) rfl ?_
          refine ev_iconst (v := 2) dX11_findBest_111 (by decide) ?_
          refine ev_istore (lv' := [some (.ref (W 0 0)), some (.ref (W 20 p)), some (.ref (W 28 b)), some (.int (nI k)), some (.int (nI mp)), some (.int (nI (j + 1))), some (.int (sp_demand C p (nI (j + 1)) (sp_W C))), some (.int 2)]) dX11_findBest_112 (Nat.le_of_ble_eq_true rfl) rfl ?_
          have loop4 : ∀ (n4 i : Nat), i ≤ (mp / 2) → (mp / 2) < i + n4 → ∀ g, cw_T G K g0 W g (cx_f2i C p k (nI (j + 1)) (cx_f2 C p k (mp / 2) j) i) → ev_V G d 0 0 mX11_findBest (fun o g' => ∃ W2 C2, (W2 = W ∧ o = .inl none ∧ cx_eqX [123] C2 (cx_fbs C Qf b p k (mp / 2))) ∧ cw_T G K g0 W2 g' C2) g 114 [some (.ref (W 0 0)), some (.ref (W 20 p)), some (.ref (W 28 b)), some (.int (nI k)), some (.int (nI mp)), some (.int (nI (j + 1))), some (.int (sp_demand C p (nI (j + 1)) (sp_W C))), some (.int (nI (2 * i + 2)))] [] := by
            intro n4
            induction n4 with
            | zero => intro i h14 h24; exact absurd h24 (by omega)
            | succ n4 ih4 =>
              intro i h14 h24   g hT
              refine ev_iload dX11_findBest_114 rfl ?_
              refine ev_iload dX11_findBest_116 rfl ?_
              refine ev_icmp_gt (tgt := 149) dX11_findBest_118 (by decide) (fun c_118 => ?_) (fun c_118 => ?_)
              · have e : i = mp / 2 := by have : ¬ 2 * i + 2 ≤ mp := fun q => absurd c_118 (nI_nlt q (by omega)); omega
                subst e
                refine ev_iinc (v := (nI (j + 1 + 1))) dX11_findBest_149 rfl (nI_1 (j + 1)) rfl ?_
                refine ev_goto (tgt := 95) dX11_findBest_152 (by decide) ?_
                refine ev_none 6 ?_
                refine ev_none 7 ?_
                exact ih3 (j + 1) (by omega) (by omega) g (by rw [cx_f2]; exact hT)
              · have hi9 : 2 * i + 2 ≤ mp := Nat.le_of_not_lt fun q => c_118 (nI_lt q (by omega))
                refine ev_aload_n dX11_findBest_121 rfl rfl ?_
                refine cw_getf hE hT dX11_findBest_122 fX11_76 (k := 0) (i := 0) rfl ob0 rfl ?_
                refine ev_iload dX11_findBest_125 rfl ?_
                refine ev_iload dX11_findBest_127 rfl ?_
                refine ev_iload dX11_findBest_129 rfl ?_
                refine ev_iload_n dX11_findBest_131 rfl rfl ?_
                refine ev_iload dX11_findBest_132 rfl ?_
                refine ev_pS2 (d' := d - 1) dX11_findBest_134 rfl kX11_mostCopies lX11_438 sX11_mostCopies (Nat.le_of_ble_eq_true rfl) (by omega) (c_X11_mostCopies (k := k) (n := 2 * i + 2) hkg.2 (by omega) (by omega)) ?_
                refine ev_mmin dX11_findBest_137 lX11_337 (Nat.le_of_ble_eq_true rfl) (by omega) ?_
                refine cw_call3 (d' := d - 1) hE hT dX11_findBest_140 rfl kX3_consider lX11_464 iX3_consider vX3_consider (k := 19) (i := 0) rfl ob19 rfl (Nat.le_of_ble_eq_true rfl) (by omega) (c_X3_consider hE h4 (by omega)) (fun g hT => ?_)
                refine ev_iinc (v := (nI (2 * (i + 1) + 2))) dX11_findBest_143 rfl (by rw [show 2 * (i + 1) + 2 = 2 * i + 2 + 2 by omega]; exact nI_add (2 * i + 2) 2) rfl ?_
                refine ev_goto (tgt := 114) dX11_findBest_146 (by decide) ?_
                exact ih4 (i + 1) (by omega) (by omega) g (by rw [cx_f2i]; exact hT)
          exact loop4 ((mp / 2) + 1) 0 (by omega) (by omega)  g hT
    exact loop3 (60 + 1) 0 (by omega) (by omega)  g hT
  · rw [if_neg c_35]
    refine ev_ifnull dX11_findBest_35 ?_
    refine ev_iconst (v := 2) dX11_findBest_38 (by decide) ?_
    refine ev_istore (lv' := [some (.ref (W 0 0)), some (.ref (W 20 p)), some (.ref (W 28 b)), some (.int (nI k)), some (.int (nI mp)), some (.int 2), none, none]) dX11_findBest_39 (Nat.le_of_ble_eq_true rfl) rfl ?_
    have loop : ∀ (n i : Nat), i ≤ (mp / 2) → (mp / 2) < i + n → ∀ (T : mo_S), cx_eqX [123] T (cx_f1 C Qf b p k i) → ∀ g, cw_T G K g0 W g T → ev_V G d 0 0 mX11_findBest (fun o g' => ∃ W2 C2, (W2 = W ∧ o = .inl none ∧ cx_eqX [123] C2 (cx_fbs C Qf b p k (mp / 2))) ∧ cw_T G K g0 W2 g' C2) g 41 [some (.ref (W 0 0)), some (.ref (W 20 p)), some (.ref (W 28 b)), some (.int (nI k)), some (.int (nI mp)), some (.int (nI (2 * i + 2))), none, none] [] := by
      intro n
      induction n with
      | zero => intro i h1 h2; exact absurd h2 (by omega)
      | succ n ih =>
        intro i h1 h2 T hx g hT
        have hTC : cx_eqX [123, 127, 128, 129, 130] T C := fun f hf => by rw [hx f (fun z => hf (by rw [List.mem_singleton.mp z]; decide)), cx_f1_ne (fun z => hf (List.mem_cons_of_mem _ z))]
        have hpT : p < sp_P T := lvP hp (hTC 1 (by decide))
        have hbT : b < sp_O T ∨ b = 10 := by rw [sp_O_cg (hTC 29 (by decide))]; exact hb
        have hcT : cx_cd T Pf Qf := hTC.cd (by decide) (by decide) (by decide) (by decide) (by decide) (by decide) hc
        refine ev_iload dX11_findBest_41 rfl ?_
        refine ev_iload dX11_findBest_43 rfl ?_
        refine ev_icmp_gt (tgt := 91) dX11_findBest_45 (by decide) (fun c_45 => ?_) (fun c_45 => ?_)
        · have e : i = mp / 2 := by have : ¬ 2 * i + 2 ≤ mp := fun q => absurd c_45 (nI_nlt q (by omega)); omega
          subst e
          exact ev_vret dX11_findBest_91 rfl ⟨W, T, ⟨rfl, rfl, by unfold cx_fbs; rw [if_neg (by rw [← cx_clear_ne (C := C) (k := 110) (by decide)]; exact c_35)]; exact hx⟩, hT⟩
        · have hi9 : 2 * i + 2 ≤ mp := Nat.le_of_not_lt fun q => c_45 (nI_lt q (by omega))
          refine ev_aload_n dX11_findBest_48 rfl rfl ?_
          refine ev_aload_n dX11_findBest_49 rfl rfl ?_
          refine ev_aload_n dX11_findBest_50 rfl rfl ?_
          refine ev_iload dX11_findBest_51 rfl ?_
          refine cw_callr3 (d' := d - 1) (b := 0) (n0 := 0) hE hT dX11_findBest_53 rfl kX11_priceValue lX11_202 iX11_priceValue vX11_priceValue (k := 0) (i := 0) rfl ob0 rfl (Nat.le_of_ble_eq_true rfl) (by omega) (c_X11_priceValue (d := d - 1) hE h4 (by omega) hcT hbT hpT) (Nat.le_refl _) (Nat.le_refl _) (fun v9 W9 V g q9 hT => ?_) (fun E W2 C2 g q9 _ => by cases q9.2.1)
          obtain ⟨e8, e9, hv⟩ := q9
          have e7 := e8.symm
          subst e7
          cases e9
          rw [show cx_price T Qf b p (nI (2 * i + 2)) = (cx_price C Qf b p (nI (2 * i + 2))) from cx_price_cg (fun f hf => hTC f (by revert f; decide)) (hTC 110 (by decide))]
          have hVC : cx_eqX [123, 127, 128, 129, 130] V C := (hv.x.mono (by decide)).t hTC
          have hpV : p < sp_P V := lvP hpT (hv.1 1 (by decide))
          refine ev_istore (lv' := [some (.ref (W 0 0)), some (.ref (W 20 p)), some (.ref (W 28 b)), some (.int (nI k)), some (.int (nI mp)), some (.int (nI (2 * i + 2))), some (.int (cx_price C Qf b p (nI (2 * i + 2)))), none]) dX11_findBest_56 (Nat.le_of_ble_eq_true rfl) rfl ?_
          refine ev_aload_n dX11_findBest_58 rfl rfl ?_
          refine cw_getf hE hT dX11_findBest_59 fX11_76 (k := 0) (i := 0) rfl ob0 rfl ?_
          refine ev_iload dX11_findBest_62 rfl ?_
          refine ev_iload dX11_findBest_64 rfl ?_
          refine ev_aload_n dX11_findBest_66 rfl rfl ?_
          refine ev_aload_n dX11_findBest_67 rfl rfl ?_
          refine ev_iload dX11_findBest_68 rfl ?_
          refine cw_call2 (d' := d - 1) hE hT dX11_findBest_70 rfl kX11_demandOf lX11_161 iX11_demandOf vX11_demandOf (k := 0) (i := 0) rfl ob0 rfl (Nat.le_of_ble_eq_true rfl) (by omega) (c_X11_demandOf hE hpV (by rw [hVC 24 (by decide), show sp_W V = sp_W C from congrArg Int32.toNatClampNeg (congrFun (hVC 24 (by decide)) 0)]; exact hW.1) (by rw [show sp_W V = sp_W C from congrArg Int32.toNatClampNeg (congrFun (hVC 24 (by decide)) 0)]; exact hW.2)) (fun g hT => ?_)
          rw [show sp_demand V p (cx_price C Qf b p (nI (2 * i + 2))) (sp_W V) = sp_demand C p (cx_price C Qf b p (nI (2 * i + 2))) (sp_W C) by rw [show sp_W V = sp_W C from congrArg Int32.toNatClampNeg (congrFun (hVC 24 (by decide)) 0)]; exact sp_demand_cg (hVC 25 (by decide)) (hVC 26 (by decide)) _]
          refine ev_iload_n dX11_findBest_73 rfl rfl ?_
          refine ev_iload dX11_findBest_74 rfl ?_
          refine ev_pS2 (d' := d - 1) dX11_findBest_76 rfl kX11_mostCopies lX11_438 sX11_mostCopies (Nat.le_of_ble_eq_true rfl) (by omega) (c_X11_mostCopies (k := k) (n := 2 * i + 2) hkg.2 (by omega) (by omega)) ?_
          refine ev_mmin dX11_findBest_79 lX11_337 (Nat.le_of_ble_eq_true rfl) (by omega) ?_
          refine cw_call3 (d' := d - 1) hE hT dX11_findBest_82 rfl kX3_consider lX11_464 iX3_consider vX3_consider (k := 19) (i := 0) rfl ob19 rfl (Nat.le_of_ble_eq_true rfl) (by omega) (c_X3_consider hE h4 (by omega)) (fun g hT => ?_)
          refine ev_iinc (v := (nI (2 * (i + 1) + 2))) dX11_findBest_85 rfl (by rw [show 2 * (i + 1) + 2 = 2 * i + 2 + 2 by omega]; exact nI_add (2 * i + 2) 2) rfl ?_
          refine ev_goto (tgt := 41) dX11_findBest_88 (by decide) ?_
          refine ev_none 6 ?_
          exact ih (i + 1) (by omega) (by omega) _ (by rw [cx_f1]; exact cx_con_cg (hv.x.t hx)) g hT
    exact loop ((mp / 2) + 1) 0 (by omega) (by omega) _ (cx_eqX.r _) g hT
theorem cx_fbs_x {C : mo_S} {Qf : cx_Fn} {b p k N : Nat} : cx_eqX cw_X (cx_fbs C Qf b p k N) C := fun f hf => by
  have h : f ∉ [127, 128, 129, 130] := fun q => hf (by
    simp only [List.mem_cons, List.mem_nil_iff, or_false] at q
    rcases q with rfl | rfl | rfl | rfl <;> decide)
  unfold cx_fbs
  split
  · exact cx_f2_ne h _
  · exact cx_f1_ne h _
def cx_X11_best (C : mo_S) (Qf : cx_Fn) (k : Nat) (mp : Nat) (x1 : Int32) (x2 : Int32) : cx_Out :=
  (if sp_in x1 0 (C.1 1 0 - 1) = true then (if (mo_b (cx_X11_within x2 0 3)) = 0 then ((.inl "java/lang/IllegalArgumentException"), C) else (if (mo_b (cx_X5_isAdmitted C (x1).toNatClampNeg)) = 0 then ((.inr ((-2000000000))), C) else ((.inr ((cx_X3_field (cx_fbs C Qf (cx_now C) (x1).toNatClampNeg k (mp / 2)) x2))), C))) else ((.inl "java/lang/IndexOutOfBoundsException"), C))
theorem c_X11_best {G : ev_G} {W : cw_W} {d D0 : Nat} {C : mo_S} {x1 : Int32} {x2 : Int32} {Qf : cx_Fn} {k : Nat} {mp : Nat} {Pf : cx_Fn} (hE : ev_En G) (h4 : ev_En4 G D0) (hd : 8 ≤ d) (hH : (x1).toNatClampNeg < sp_P C → C.1 12 (x1).toNatClampNeg = 1 → cx_bH C Pf Qf (cx_now C) (x1).toNatClampNeg k mp) : cw_PS G W d 1 8 mX11_best [.ref (W 0 0), .int x1, .int x2] C (cx_X11_best C Qf k mp x1 x2) := by
  refine cw_startR (lv0 := [some (.ref (W 0 0)), some (.int x1), some (.int x2), none]) (by decide +kernel) rfl (Nat.le_of_ble_eq_true rfl) rfl ?_
  intro K g0 g hT
  have hBP := hT.B.1
  have hBR := hT.B.2.1
  have hBA := hT.B.2.2.2.1
  refine ev_aload_n dX11_best_0 rfl rfl ?_
  refine ev_iload_n dX11_best_1 rfl rfl ?_
  refine cw_paperAt hE h4 rfl hT dX11_best_2 lX11_109 (Nat.le_of_ble_eq_true rfl) (by omega) (by decide) (by decide) (fun c_2 g hT => ?_) (fun q9 c_2 e_2 u_2 hP2 g hT => ?_)
  · have e9 : cx_X11_best C Qf k mp x1 x2 = ((.inl "java/lang/IndexOutOfBoundsException"), C) := by unfold cx_X11_best; rw [if_neg (cl_nf c_2)]
    exact ⟨W, C, ⟨rfl, by rw [e9]; rfl, by rw [e9]; exact (cx_eqX.r _)⟩, hT⟩
  subst u_2
  refine ev_astore_n (lv' := [some (.ref (W 0 0)), some (.int x1), some (.int x2), some (.ref (W 20 (x1).toNatClampNeg))]) dX11_best_5 rfl (Nat.le_of_ble_eq_true rfl) rfl ?_
  refine ev_iload_n dX11_best_6 rfl rfl ?_
  refine ev_iconst (v := 0) dX11_best_7 (by decide) ?_
  refine ev_iconst (v := 3) dX11_best_8 (by decide) ?_
  refine ev_pS3 (d' := d - 1) dX11_best_9 rfl kX11_within lX11_80 sX11_within (Nat.le_of_ble_eq_true rfl) (by omega) (c_X11_within) ?_
  refine cw_need hE h4 rfl dX11_best_12 lX11_85 (Nat.le_of_ble_eq_true rfl) (by omega) (by decide) (by decide) (fun c_12 => ?_) (fun c_12 => ?_)
  · have e9 : cx_X11_best C Qf k mp x1 x2 = ((.inl "java/lang/IllegalArgumentException"), C) := by unfold cx_X11_best; rw [if_pos c_2, if_pos c_12]
    exact ⟨W, C, ⟨rfl, by rw [e9]; rfl, by rw [e9]; exact (cx_eqX.r _)⟩, hT⟩
  refine ev_aload_n dX11_best_15 rfl rfl ?_
  refine cw_call0 (d' := d - 1) hE hT dX11_best_16 rfl kX5_isAdmitted lX11_224 iX5_isAdmitted vX5_isAdmitted (k := 20) (i := (x1).toNatClampNeg) hP2 ob20 rfl (Nat.le_of_ble_eq_true rfl) (by omega) (c_X5_isAdmitted hE hP2) (fun g hT => ?_)
  refine ev_if_ne (tgt := 26) dX11_best_19 (by decide) (fun c_19 => ?_) (fun c_19 => ?_)
  · refine ev_aload_n dX11_best_26 rfl rfl ?_
    refine ev_aload_n dX11_best_27 rfl rfl ?_
    refine ev_aload_n dX11_best_28 rfl rfl ?_
    refine cw_call0 (d' := d - 1) hE hT dX11_best_29 rfl kX11_orderNow lX11_185 iX11_orderNow vX11_orderNow (k := 0) (i := 0) rfl ob0 rfl (Nat.le_of_ble_eq_true rfl) (by omega) (c_X11_orderNow hE (by omega)) (fun g hT => ?_)
    refine cw_callr2 (d' := d - 1) (b := 1) (n0 := 8) hE hT dX11_best_32 rfl kX11_findBest lX11_305 iX11_findBest vX11_findBest (k := 0) (i := 0) rfl ob0 rfl (Nat.le_of_ble_eq_true rfl) (by omega) (c_X11_findBest (d := d - 1) hE h4 (by omega) (hH hP2 (cl_a1 c_19)) hP2) (Nat.le_refl _) (Nat.le_refl _) (fun v9 W9 V g q9 hT => ?_) (fun E W2 C2 g q9 _ => by cases q9.2.1)
    obtain ⟨e8, e9, hv⟩ := q9
    have e7 := e8.symm
    subst e7
    cases e9
    refine ev_aload_n dX11_best_35 rfl rfl ?_
    refine cw_getf hE hT dX11_best_36 fX11_76 (k := 0) (i := 0) rfl ob0 rfl ?_
    refine ev_iload_n dX11_best_39 rfl rfl ?_
    refine cw_call1 (d' := d - 1) hE hT dX11_best_40 rfl kX3_field lX11_309 iX3_field vX3_field (k := 19) (i := 0) rfl ob19 rfl (Nat.le_of_ble_eq_true rfl) (by omega) (c_X3_field hE) (fun g hT => ?_)
    rw [show cx_X3_field V x2 = cx_X3_field (cx_fbs C Qf (cx_now C) (x1).toNatClampNeg k (mp / 2)) x2 by unfold cx_X3_field; rw [hv 127 (by decide), hv 128 (by decide), hv 129 (by decide), hv 130 (by decide)]]
    have e9 : cx_X11_best C Qf k mp x1 x2 = ((.inr ((cx_X3_field (cx_fbs C Qf (cx_now C) (x1).toNatClampNeg k (mp / 2)) x2))), C) := by unfold cx_X11_best; rw [if_pos c_2, if_neg c_12, if_neg c_19]
    exact ev_iret dX11_best_43 rfl rfl ⟨W, V, ⟨rfl, by rw [e9]; rfl, by rw [e9]; exact ((hv.mono (by decide)).t cx_fbs_x)⟩, hT⟩
  · refine ev_ldcw dX11_best_22 nX11_260 ?_
    have e9 : cx_X11_best C Qf k mp x1 x2 = ((.inr ((-2000000000))), C) := by unfold cx_X11_best; rw [if_pos c_2, if_neg c_12, if_pos c_19]
    exact ev_iret dX11_best_25 rfl rfl ⟨W, C, ⟨rfl, by rw [e9]; rfl, by rw [e9]; exact (cx_eqX.r _)⟩, hT⟩
def cx_X7_tapeNumber (C : mo_S) (t : Nat) (x1 : Int32) : mo_S :=
  (mo_up (mo_up (mo_up (mo_up (mo_up (mo_up (mo_up (mo_up C 115 (t) (((x1 : Int32) >>> (24 &&& 31)) &&& 255)) 28 0 (nI (t + 1))) 115 (t + 1) (((x1 : Int32) >>> (16 &&& 31)) &&& 255)) 28 0 (nI (t + 1 + 1))) 115 (t + 1 + 1) (((x1 : Int32) >>> (8 &&& 31)) &&& 255)) 28 0 (nI (t + 1 + 1 + 1))) 115 (t + 1 + 1 + 1) (((x1 : Int32) >>> (0 &&& 31)) &&& 255)) 28 0 (nI (t + 1 + 1 + 1 + 1)))
theorem c_X7_tapeNumber {G : ev_G} {W : cw_W} {d : Nat} {C : mo_S} {t : Nat} {x1 : Int32} (hE : ev_En G) (ht : C.1 28 0 = nI t) (ht2 : t + 4 ≤ 300) : cw_C G W d mX7_tapeNumber [.ref (W 4 0), .int x1] C none (cx_X7_tapeNumber C t x1) := by
  refine cw_start (lv0 := [some (.ref (W 4 0)), some (.int x1), none]) (by decide +kernel) rfl (Nat.le_of_ble_eq_true rfl) rfl ?_
  intro K g0 g hT
  refine ev_bipush (v := 24) dX7_tapeNumber_0 (by decide) ?_
  refine ev_istore_n (lv' := [some (.ref (W 4 0)), some (.int x1), some (.int 24)]) dX7_tapeNumber_2 rfl (Nat.le_of_ble_eq_true rfl) rfl ?_
  refine ev_iload_n dX7_tapeNumber_3 rfl rfl ?_
  refine ev_if_lt (tgt := 58) dX7_tapeNumber_4 (by decide) (fun c_4 => ?_) (fun c_4 => ?_)
  · exact absurd c_4 (by decide)
  · refine ev_aload_n dX7_tapeNumber_7 rfl rfl ?_
    refine cw_geti (v2 := (nI t)) hE hT dX7_tapeNumber_8 fX7_15 (k := 4) (i := 0) rfl ob4 rfl (by first | exact ht | rw [mo_up_ne (by decide), ht] | rw [mo_up_at, pk_us] | rw [mo_up_ne (by decide), mo_up_at, pk_us]) ?_
    refine ev_if_lt (tgt := 58) dX7_tapeNumber_11 (by decide) (fun c_11 => ?_) (fun c_11 => ?_)
    · exact absurd c_11 (nI_pos (by omega))
    · refine ev_aload_n dX7_tapeNumber_14 rfl rfl ?_
      refine cw_geti (v2 := (nI t)) hE hT dX7_tapeNumber_15 fX7_15 (k := 4) (i := 0) rfl ob4 rfl (by first | exact ht | rw [mo_up_ne (by decide), ht] | rw [mo_up_at, pk_us] | rw [mo_up_ne (by decide), mo_up_at, pk_us]) ?_
      refine ev_aload_n dX7_tapeNumber_18 rfl rfl ?_
      refine cw_getf hE hT dX7_tapeNumber_19 fX7_9 (k := 4) (i := 0) rfl ob4 rfl ?_
      refine cw_alenv (n := 300) (v := 300) hE hT dX7_tapeNumber_22 (k := 5) (i := 0) rfl ar5 rfl ?_
      refine ev_icmp_ge (tgt := 58) dX7_tapeNumber_23 (by decide) (fun c_23 => ?_) (fun c_23 => ?_)
      · exact absurd c_23 (nI_ge (b := 300) (by omega) (by decide))
      · refine ev_aload_n dX7_tapeNumber_26 rfl rfl ?_
        refine cw_getf hE hT dX7_tapeNumber_27 fX7_9 (k := 4) (i := 0) rfl ob4 rfl ?_
        refine ev_aload_n dX7_tapeNumber_30 rfl rfl ?_
        refine cw_geti (v2 := (nI t)) hE hT dX7_tapeNumber_31 fX7_15 (k := 4) (i := 0) rfl ob4 rfl (by first | exact ht | rw [mo_up_ne (by decide), ht] | rw [mo_up_at, pk_us] | rw [mo_up_ne (by decide), mo_up_at, pk_us]) ?_
        refine ev_iload_n dX7_tapeNumber_34 rfl rfl ?_
        refine ev_iload_n dX7_tapeNumber_35 rfl rfl ?_
        refine ev_ishr dX7_tapeNumber_36 ?_
        refine ev_sipush (v := 255) dX7_tapeNumber_37 (by decide) ?_
        refine ev_iand dX7_tapeNumber_40 ?_
        refine cw_ias (q := (t)) (f := 115) (ix := (t)) hE hT dX7_tapeNumber_41 (k := 5) (i := 0) rfl ar5 rfl (by omega) (by decide) rfl (by decide) (by decide) (pa5 (i := 0)) (fun g hT => ?_)
        refine ev_aload_n dX7_tapeNumber_42 rfl rfl ?_
        refine ev_dup dX7_tapeNumber_43 rfl ?_
        refine cw_geti (v2 := (nI t)) hE hT dX7_tapeNumber_44 fX7_15 (k := 4) (i := 0) rfl ob4 rfl (by first | exact ht | rw [mo_up_ne (by decide), ht] | rw [mo_up_at, pk_us] | rw [mo_up_ne (by decide), mo_up_at, pk_us]) ?_
        refine ev_iconst (v := 1) dX7_tapeNumber_47 (by decide) ?_
        refine ev_iadd dX7_tapeNumber_48 ?_
        rw [nI_1]
        refine cw_putf (k := 4) (i := 0) (f := 28) (x := 0) hE hT dX7_tapeNumber_49 pX7_15 rfl ob4 (Nat.le_of_ble_eq_true rfl) rfl rfl rfl (by decide) (by decide) pu4_1 (fun g hT => ?_)
        refine ev_iinc (v := 16) dX7_tapeNumber_52 rfl (by decide) rfl ?_
        refine ev_goto (tgt := 3) dX7_tapeNumber_55 (by decide) ?_
        refine ev_iload_n dX7_tapeNumber_3 rfl rfl ?_
        refine ev_if_lt (tgt := 58) dX7_tapeNumber_4 (by decide) (fun c_4 => ?_) (fun c_4 => ?_)
        · exact absurd c_4 (by decide)
        · refine ev_aload_n dX7_tapeNumber_7 rfl rfl ?_
          refine cw_geti (v2 := (nI (t + 1))) hE hT dX7_tapeNumber_8 fX7_15 (k := 4) (i := 0) rfl ob4 rfl (by first | exact ht | rw [mo_up_ne (by decide), ht] | rw [mo_up_at, pk_us] | rw [mo_up_ne (by decide), mo_up_at, pk_us]) ?_
          refine ev_if_lt (tgt := 58) dX7_tapeNumber_11 (by decide) (fun c_11 => ?_) (fun c_11 => ?_)
          · exact absurd c_11 (nI_pos (by omega))
          · refine ev_aload_n dX7_tapeNumber_14 rfl rfl ?_
            refine cw_geti (v2 := (nI (t + 1))) hE hT dX7_tapeNumber_15 fX7_15 (k := 4) (i := 0) rfl ob4 rfl (by first | exact ht | rw [mo_up_ne (by decide), ht] | rw [mo_up_at, pk_us] | rw [mo_up_ne (by decide), mo_up_at, pk_us]) ?_
            refine ev_aload_n dX7_tapeNumber_18 rfl rfl ?_
            refine cw_getf hE hT dX7_tapeNumber_19 fX7_9 (k := 4) (i := 0) rfl ob4 rfl ?_
            refine cw_alenv (n := 300) (v := 300) hE hT dX7_tapeNumber_22 (k := 5) (i := 0) rfl ar5 rfl ?_
            refine ev_icmp_ge (tgt := 58) dX7_tapeNumber_23 (by decide) (fun c_23 => ?_) (fun c_23 => ?_)
            · exact absurd c_23 (nI_ge (b := 300) (by omega) (by decide))
            · refine ev_aload_n dX7_tapeNumber_26 rfl rfl ?_
              refine cw_getf hE hT dX7_tapeNumber_27 fX7_9 (k := 4) (i := 0) rfl ob4 rfl ?_
              refine ev_aload_n dX7_tapeNumber_30 rfl rfl ?_
              refine cw_geti (v2 := (nI (t + 1))) hE hT dX7_tapeNumber_31 fX7_15 (k := 4) (i := 0) rfl ob4 rfl (by first | exact ht | rw [mo_up_ne (by decide), ht] | rw [mo_up_at, pk_us] | rw [mo_up_ne (by decide), mo_up_at, pk_us]) ?_
              refine ev_iload_n dX7_tapeNumber_34 rfl rfl ?_
              refine ev_iload_n dX7_tapeNumber_35 rfl rfl ?_
              refine ev_ishr dX7_tapeNumber_36 ?_
              refine ev_sipush (v := 255) dX7_tapeNumber_37 (by decide) ?_
              refine ev_iand dX7_tapeNumber_40 ?_
              refine cw_ias (q := (t + 1)) (f := 115) (ix := (t + 1)) hE hT dX7_tapeNumber_41 (k := 5) (i := 0) rfl ar5 rfl (by omega) (by decide) rfl (by decide) (by decide) (pa5 (i := 0)) (fun g hT => ?_)
              refine ev_aload_n dX7_tapeNumber_42 rfl rfl ?_
              refine ev_dup dX7_tapeNumber_43 rfl ?_
              refine cw_geti (v2 := (nI (t + 1))) hE hT dX7_tapeNumber_44 fX7_15 (k := 4) (i := 0) rfl ob4 rfl (by first | exact ht | rw [mo_up_ne (by decide), ht] | rw [mo_up_at, pk_us] | rw [mo_up_ne (by decide), mo_up_at, pk_us]) ?_
              refine ev_iconst (v := 1) dX7_tapeNumber_47 (by decide) ?_
              refine ev_iadd dX7_tapeNumber_48 ?_
              rw [nI_1]
              refine cw_putf (k := 4) (i := 0) (f := 28) (x := 0) hE hT dX7_tapeNumber_49 pX7_15 rfl ob4 (Nat.le_of_ble_eq_true rfl) rfl rfl rfl (by decide) (by decide) pu4_1 (fun g hT => ?_)
              refine ev_iinc (v := 8) dX7_tapeNumber_52 rfl (by decide) rfl ?_
              refine ev_goto (tgt := 3) dX7_tapeNumber_55 (by decide) ?_
              refine ev_iload_n dX7_tapeNumber_3 rfl rfl ?_
              refine ev_if_lt (tgt := 58) dX7_tapeNumber_4 (by decide) (fun c_4 => ?_) (fun c_4 => ?_)
              · exact absurd c_4 (by decide)
              · refine ev_aload_n dX7_tapeNumber_7 rfl rfl ?_
                refine cw_geti (v2 := (nI (t + 1 + 1))) hE hT dX7_tapeNumber_8 fX7_15 (k := 4) (i := 0) rfl ob4 rfl (by first | exact ht | rw [mo_up_ne (by decide), ht] | rw [mo_up_at, pk_us] | rw [mo_up_ne (by decide), mo_up_at, pk_us]) ?_
                refine ev_if_lt (tgt := 58) dX7_tapeNumber_11 (by decide) (fun c_11 => ?_) (fun c_11 => ?_)
                · exact absurd c_11 (nI_pos (by omega))
                · refine ev_aload_n dX7_tapeNumber_14 rfl rfl ?_
                  refine cw_geti (v2 := (nI (t + 1 + 1))) hE hT dX7_tapeNumber_15 fX7_15 (k := 4) (i := 0) rfl ob4 rfl (by first | exact ht | rw [mo_up_ne (by decide), ht] | rw [mo_up_at, pk_us] | rw [mo_up_ne (by decide), mo_up_at, pk_us]) ?_
                  refine ev_aload_n dX7_tapeNumber_18 rfl rfl ?_
                  refine cw_getf hE hT dX7_tapeNumber_19 fX7_9 (k := 4) (i := 0) rfl ob4 rfl ?_
                  refine cw_alenv (n := 300) (v := 300) hE hT dX7_tapeNumber_22 (k := 5) (i := 0) rfl ar5 rfl ?_
                  refine ev_icmp_ge (tgt := 58) dX7_tapeNumber_23 (by decide) (fun c_23 => ?_) (fun c_23 => ?_)
                  · exact absurd c_23 (nI_ge (b := 300) (by omega) (by decide))
                  · refine ev_aload_n dX7_tapeNumber_26 rfl rfl ?_
                    refine cw_getf hE hT dX7_tapeNumber_27 fX7_9 (k := 4) (i := 0) rfl ob4 rfl ?_
                    refine ev_aload_n dX7_tapeNumber_30 rfl rfl ?_
                    refine cw_geti (v2 := (nI (t + 1 + 1))) hE hT dX7_tapeNumber_31 fX7_15 (k := 4) (i := 0) rfl ob4 rfl (by first | exact ht | rw [mo_up_ne (by decide), ht] | rw [mo_up_at, pk_us] | rw [mo_up_ne (by decide), mo_up_at, pk_us]) ?_
                    refine ev_iload_n dX7_tapeNumber_34 rfl rfl ?_
                    refine ev_iload_n dX7_tapeNumber_35 rfl rfl ?_
                    refine ev_ishr dX7_tapeNumber_36 ?_
                    refine ev_sipush (v := 255) dX7_tapeNumber_37 (by decide) ?_
                    refine ev_iand dX7_tapeNumber_40 ?_
                    refine cw_ias (q := (t + 1 + 1)) (f := 115) (ix := (t + 1 + 1)) hE hT dX7_tapeNumber_41 (k := 5) (i := 0) rfl ar5 rfl (by omega) (by decide) rfl (by decide) (by decide) (pa5 (i := 0)) (fun g hT => ?_)
                    refine ev_aload_n dX7_tapeNumber_42 rfl rfl ?_
                    refine ev_dup dX7_tapeNumber_43 rfl ?_
                    refine cw_geti (v2 := (nI (t + 1 + 1))) hE hT dX7_tapeNumber_44 fX7_15 (k := 4) (i := 0) rfl ob4 rfl (by first | exact ht | rw [mo_up_ne (by decide), ht] | rw [mo_up_at, pk_us] | rw [mo_up_ne (by decide), mo_up_at, pk_us]) ?_
                    refine ev_iconst (v := 1) dX7_tapeNumber_47 (by decide) ?_
                    refine ev_iadd dX7_tapeNumber_48 ?_
                    rw [nI_1]
                    refine cw_putf (k := 4) (i := 0) (f := 28) (x := 0) hE hT dX7_tapeNumber_49 pX7_15 rfl ob4 (Nat.le_of_ble_eq_true rfl) rfl rfl rfl (by decide) (by decide) pu4_1 (fun g hT => ?_)
                    refine ev_iinc (v := 0) dX7_tapeNumber_52 rfl (by decide) rfl ?_
                    refine ev_goto (tgt := 3) dX7_tapeNumber_55 (by decide) ?_
                    refine ev_iload_n dX7_tapeNumber_3 rfl rfl ?_
                    refine ev_if_lt (tgt := 58) dX7_tapeNumber_4 (by decide) (fun c_4 => ?_) (fun c_4 => ?_)
                    · exact absurd c_4 (by decide)
                    · refine ev_aload_n dX7_tapeNumber_7 rfl rfl ?_
                      refine cw_geti (v2 := (nI (t + 1 + 1 + 1))) hE hT dX7_tapeNumber_8 fX7_15 (k := 4) (i := 0) rfl ob4 rfl (by first | exact ht | rw [mo_up_ne (by decide), ht] | rw [mo_up_at, pk_us] | rw [mo_up_ne (by decide), mo_up_at, pk_us]) ?_
                      refine ev_if_lt (tgt := 58) dX7_tapeNumber_11 (by decide) (fun c_11 => ?_) (fun c_11 => ?_)
                      · exact absurd c_11 (nI_pos (by omega))
                      · refine ev_aload_n dX7_tapeNumber_14 rfl rfl ?_
                        refine cw_geti (v2 := (nI (t + 1 + 1 + 1))) hE hT dX7_tapeNumber_15 fX7_15 (k := 4) (i := 0) rfl ob4 rfl (by first | exact ht | rw [mo_up_ne (by decide), ht] | rw [mo_up_at, pk_us] | rw [mo_up_ne (by decide), mo_up_at, pk_us]) ?_
                        refine ev_aload_n dX7_tapeNumber_18 rfl rfl ?_
                        refine cw_getf hE hT dX7_tapeNumber_19 fX7_9 (k := 4) (i := 0) rfl ob4 rfl ?_
                        refine cw_alenv (n := 300) (v := 300) hE hT dX7_tapeNumber_22 (k := 5) (i := 0) rfl ar5 rfl ?_
                        refine ev_icmp_ge (tgt := 58) dX7_tapeNumber_23 (by decide) (fun c_23 => ?_) (fun c_23 => ?_)
                        · exact absurd c_23 (nI_ge (b := 300) (by omega) (by decide))
                        · refine ev_aload_n dX7_tapeNumber_26 rfl rfl ?_
                          refine cw_getf hE hT dX7_tapeNumber_27 fX7_9 (k := 4) (i := 0) rfl ob4 rfl ?_
                          refine ev_aload_n dX7_tapeNumber_30 rfl rfl ?_
                          refine cw_geti (v2 := (nI (t + 1 + 1 + 1))) hE hT dX7_tapeNumber_31 fX7_15 (k := 4) (i := 0) rfl ob4 rfl (by first | exact ht | rw [mo_up_ne (by decide), ht] | rw [mo_up_at, pk_us] | rw [mo_up_ne (by decide), mo_up_at, pk_us]) ?_
                          refine ev_iload_n dX7_tapeNumber_34 rfl rfl ?_
                          refine ev_iload_n dX7_tapeNumber_35 rfl rfl ?_
                          refine ev_ishr dX7_tapeNumber_36 ?_
                          refine ev_sipush (v := 255) dX7_tapeNumber_37 (by decide) ?_
                          refine ev_iand dX7_tapeNumber_40 ?_
                          refine cw_ias (q := (t + 1 + 1 + 1)) (f := 115) (ix := (t + 1 + 1 + 1)) hE hT dX7_tapeNumber_41 (k := 5) (i := 0) rfl ar5 rfl (by omega) (by decide) rfl (by decide) (by decide) (pa5 (i := 0)) (fun g hT => ?_)
                          refine ev_aload_n dX7_tapeNumber_42 rfl rfl ?_
                          refine ev_dup dX7_tapeNumber_43 rfl ?_
                          refine cw_geti (v2 := (nI (t + 1 + 1 + 1))) hE hT dX7_tapeNumber_44 fX7_15 (k := 4) (i := 0) rfl ob4 rfl (by first | exact ht | rw [mo_up_ne (by decide), ht] | rw [mo_up_at, pk_us] | rw [mo_up_ne (by decide), mo_up_at, pk_us]) ?_
                          refine ev_iconst (v := 1) dX7_tapeNumber_47 (by decide) ?_
                          refine ev_iadd dX7_tapeNumber_48 ?_
                          rw [nI_1]
                          refine cw_putf (k := 4) (i := 0) (f := 28) (x := 0) hE hT dX7_tapeNumber_49 pX7_15 rfl ob4 (Nat.le_of_ble_eq_true rfl) rfl rfl rfl (by decide) (by decide) pu4_1 (fun g hT => ?_)
                          refine ev_iinc (v := (-8)) dX7_tapeNumber_52 rfl (by decide) rfl ?_
                          refine ev_goto (tgt := 3) dX7_tapeNumber_55 (by decide) ?_
                          refine ev_iload_n dX7_tapeNumber_3 rfl rfl ?_
                          refine ev_if_lt (tgt := 58) dX7_tapeNumber_4 (by decide) (fun c_4 => ?_) (fun c_4 => ?_)
                          · have e9 : cx_X7_tapeNumber C t x1 = (mo_up (mo_up (mo_up (mo_up (mo_up (mo_up (mo_up (mo_up C 115 (t) (((x1 : Int32) >>> (24 &&& 31)) &&& 255)) 28 0 (nI (t + 1))) 115 (t + 1) (((x1 : Int32) >>> (16 &&& 31)) &&& 255)) 28 0 (nI (t + 1 + 1))) 115 (t + 1 + 1) (((x1 : Int32) >>> (8 &&& 31)) &&& 255)) 28 0 (nI (t + 1 + 1 + 1))) 115 (t + 1 + 1 + 1) (((x1 : Int32) >>> (0 &&& 31)) &&& 255)) 28 0 (nI (t + 1 + 1 + 1 + 1))) := by unfold cx_X7_tapeNumber; rfl
                            exact ev_vret dX7_tapeNumber_58 rfl ⟨rfl, by rw [e9]; exact hT⟩
                          · exact absurd (by decide) c_4
theorem cx_tape_28 {C : mo_S} {t : Nat} {x : Int32} : (cx_X7_tapeNumber C t x).1 28 0 = nI (t + 4) := by
  unfold cx_X7_tapeNumber
  rw [mo_up_at, pk_us]
def cx_X11_feed (C : mo_S) (t : Nat) (x1 : Int32) (x2 : Int32) (x3 : Int32) (x4 : Int32) (x5 : Int32) : cx_Out :=
  (if (nI (t + 20)) ≤ 300 then ((.inr (((cx_X7_tapeNumber (cx_X7_tapeNumber (cx_X7_tapeNumber (cx_X7_tapeNumber (cx_X7_tapeNumber C (t) x1) (t + 4) x2) (t + 8) x3) (t + 12) x4) (t + 16) x5).1 28 0))), (cx_X7_tapeNumber (cx_X7_tapeNumber (cx_X7_tapeNumber (cx_X7_tapeNumber (cx_X7_tapeNumber C (t) x1) (t + 4) x2) (t + 8) x3) (t + 12) x4) (t + 16) x5)) else ((.inr ((-1))), C))
theorem c_X11_feed {G : ev_G} {W : cw_W} {d D0 : Nat} {C : mo_S} {x1 : Int32} {x2 : Int32} {x3 : Int32} {x4 : Int32} {x5 : Int32} {t : Nat} (hE : ev_En G) (h4 : ev_En4 G D0) (hd : 3 ≤ d) (ht : C.1 28 0 = nI t) (ht2 : t ≤ 300) : cw_P G W d 1 8 mX11_feed [.ref (W 0 0), .int x1, .int x2, .int x3, .int x4, .int x5] C (cx_X11_feed C t x1 x2 x3 x4 x5) := by
  refine cw_startR (lv0 := [some (.ref (W 0 0)), some (.int x1), some (.int x2), some (.int x3), some (.int x4), some (.int x5)]) (by decide +kernel) rfl (Nat.le_of_ble_eq_true rfl) rfl ?_
  intro K g0 g hT
  refine ev_aload_n dX11_feed_0 rfl rfl ?_
  refine cw_getf hE hT dX11_feed_1 fX11_48 (k := 0) (i := 0) rfl ob0 rfl ?_
  refine cw_geti (v2 := nI t) hE hT dX11_feed_4 fX11_165 (k := 4) (i := 0) rfl ob4 rfl ht ?_
  refine ev_bipush (v := 20) dX11_feed_7 (by decide) ?_
  refine ev_iadd dX11_feed_9 ?_
  rw [show nI t + 20 = nI (t + 20) from nI_add t 20]
  refine ev_sipush (v := 300) dX11_feed_10 (by decide) ?_
  refine ev_icmp_le (tgt := 18) dX11_feed_13 (by decide) (fun c_13 => ?_) (fun c_13 => ?_)
  · have ht20 : t + 20 ≤ 300 := Nat.le_of_not_lt fun q => absurd c_13 (nI_ge (a := 300) (b := t + 20) q (by omega))
    refine ev_aload_n dX11_feed_18 rfl rfl ?_
    refine cw_getf hE hT dX11_feed_19 fX11_48 (k := 0) (i := 0) rfl ob0 rfl ?_
    refine ev_iload_n dX11_feed_22 rfl rfl ?_
    refine cw_call1 (d' := d - 1) hE hT dX11_feed_23 rfl kX7_tapeNumber lX11_168 iX7_tapeNumber vX7_tapeNumber (k := 4) (i := 0) rfl ob4 rfl (Nat.le_of_ble_eq_true rfl) (by omega) (c_X7_tapeNumber (t := t) hE ht (by omega)) (fun g hT => ?_)
    refine ev_aload_n dX11_feed_26 rfl rfl ?_
    refine cw_getf hE hT dX11_feed_27 fX11_48 (k := 0) (i := 0) rfl ob0 rfl ?_
    refine ev_iload_n dX11_feed_30 rfl rfl ?_
    refine cw_call1 (d' := d - 1) hE hT dX11_feed_31 rfl kX7_tapeNumber lX11_168 iX7_tapeNumber vX7_tapeNumber (k := 4) (i := 0) rfl ob4 rfl (Nat.le_of_ble_eq_true rfl) (by omega) (c_X7_tapeNumber (t := t + 4) hE cx_tape_28 (by omega)) (fun g hT => ?_)
    refine ev_aload_n dX11_feed_34 rfl rfl ?_
    refine cw_getf hE hT dX11_feed_35 fX11_48 (k := 0) (i := 0) rfl ob0 rfl ?_
    refine ev_iload_n dX11_feed_38 rfl rfl ?_
    refine cw_call1 (d' := d - 1) hE hT dX11_feed_39 rfl kX7_tapeNumber lX11_168 iX7_tapeNumber vX7_tapeNumber (k := 4) (i := 0) rfl ob4 rfl (Nat.le_of_ble_eq_true rfl) (by omega) (c_X7_tapeNumber (t := t + 8) hE cx_tape_28 (by omega)) (fun g hT => ?_)
    refine ev_aload_n dX11_feed_42 rfl rfl ?_
    refine cw_getf hE hT dX11_feed_43 fX11_48 (k := 0) (i := 0) rfl ob0 rfl ?_
    refine ev_iload dX11_feed_46 rfl ?_
    refine cw_call1 (d' := d - 1) hE hT dX11_feed_48 rfl kX7_tapeNumber lX11_168 iX7_tapeNumber vX7_tapeNumber (k := 4) (i := 0) rfl ob4 rfl (Nat.le_of_ble_eq_true rfl) (by omega) (c_X7_tapeNumber (t := t + 12) hE cx_tape_28 (by omega)) (fun g hT => ?_)
    refine ev_aload_n dX11_feed_51 rfl rfl ?_
    refine cw_getf hE hT dX11_feed_52 fX11_48 (k := 0) (i := 0) rfl ob0 rfl ?_
    refine ev_iload dX11_feed_55 rfl ?_
    refine cw_call1 (d' := d - 1) hE hT dX11_feed_57 rfl kX7_tapeNumber lX11_168 iX7_tapeNumber vX7_tapeNumber (k := 4) (i := 0) rfl ob4 rfl (Nat.le_of_ble_eq_true rfl) (by omega) (c_X7_tapeNumber (t := t + 16) hE cx_tape_28 (by omega)) (fun g hT => ?_)
    refine ev_aload_n dX11_feed_60 rfl rfl ?_
    refine cw_getf hE hT dX11_feed_61 fX11_48 (k := 0) (i := 0) rfl ob0 rfl ?_
    refine cw_getf hE hT dX11_feed_64 fX11_165 (k := 4) (i := 0) rfl ob4 rfl ?_
    have e9 : cx_X11_feed C t x1 x2 x3 x4 x5 = ((.inr (((cx_X7_tapeNumber (cx_X7_tapeNumber (cx_X7_tapeNumber (cx_X7_tapeNumber (cx_X7_tapeNumber C (t) x1) (t + 4) x2) (t + 8) x3) (t + 12) x4) (t + 16) x5).1 28 0))), (cx_X7_tapeNumber (cx_X7_tapeNumber (cx_X7_tapeNumber (cx_X7_tapeNumber (cx_X7_tapeNumber C (t) x1) (t + 4) x2) (t + 8) x3) (t + 12) x4) (t + 16) x5)) := by unfold cx_X11_feed; rw [if_pos c_13]
    exact ev_iret dX11_feed_67 rfl rfl ⟨W, (cx_X11_feed C t x1 x2 x3 x4 x5).2, ⟨rfl, by rw [e9]; rfl, rfl⟩, by rw [e9]; exact hT⟩
  · refine ev_iconst (v := (-1)) dX11_feed_16 (by decide) ?_
    have e9 : cx_X11_feed C t x1 x2 x3 x4 x5 = ((.inr ((-1))), C) := by unfold cx_X11_feed; rw [if_neg c_13]
    exact ev_iret dX11_feed_17 rfl rfl ⟨W, (cx_X11_feed C t x1 x2 x3 x4 x5).2, ⟨rfl, by rw [e9]; rfl, rfl⟩, by rw [e9]; exact hT⟩
end CL2
