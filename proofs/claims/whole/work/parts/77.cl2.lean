section CL2
theorem cx_con_ne {C : mo_S} {x y z : Int32} {k : Nat} (h : k ∉ [127, 128, 129, 130]) : (cx_X3_consider C x y z).1 k = C.1 k := by
  have q : ∀ f, f ∈ [127, 128, 129, 130] → k ≠ f := fun f hf e => h (e ▸ hf)
  unfold cx_X3_consider
  repeat' split
  all_goals first | rfl | rw [mo_up_ne (q 130 (by decide)), mo_up_ne (q 129 (by decide)), mo_up_ne (q 128 (by decide)), mo_up_ne (q 127 (by decide))]
theorem cx_con_cg {V C : mo_S} {x y z : Int32} (h : cx_eqX [123] V C) : cx_eqX [123] (cx_X3_consider V x y z) (cx_X3_consider C x y z) := by
  unfold cx_X3_consider cx_X3_isBetter
  simp only [h 127 (by decide), h 128 (by decide), h 130 (by decide)]
  repeat' (first | exact h | refine cx_eqX.ite (fun _ => ?_) (fun _ => ?_) | refine cx_eqX.upR ?_)
theorem cx_price_cg {T C : mo_S} {Q : cx_Fn} {b p : Nat} {g : Int32} (h : ∀ f, f ∈ cx_rd → T.1 f = C.1 f) (h1 : T.1 110 = C.1 110) : cx_price T Q b p g = cx_price C Q b p g := by
  unfold cx_price cx_v
  rw [h1, h 2 (by decide)]
  simp only [cx_named_cg (h 3 (by decide)) (h 4 (by decide)) (h 5 (by decide)) (h 7 (by decide)) (h 10 (by decide)) (h 13 (by decide))]
/-- prices are told -/
def cx_f1 (C : mo_S) (Qf : cx_Fn) (b p k : Nat) : Nat → mo_S
  | 0 => cx_X3_clear C
  | n + 1 => cx_X3_consider (cx_f1 C Qf b p k n) (nI (2 * n + 2)) (cx_price C Qf b p (nI (2 * n + 2))) (cj_min (sp_demand C p (cx_price C Qf b p (nI (2 * n + 2))) (sp_W C)) (nI ((10 * k + 9) / (3 * (2 * n + 2)))))
/-- .. they are free -/
def cx_f2i (C : mo_S) (p k : Nat) (v : Int32) (S0 : mo_S) : Nat → mo_S
  | 0 => S0
  | n + 1 => cx_X3_consider (cx_f2i C p k v S0 n) (nI (2 * n + 2)) v (cj_min (sp_demand C p v (sp_W C)) (nI ((10 * k + 9) / (3 * (2 * n + 2)))))
def cx_f2 (C : mo_S) (p k N : Nat) : Nat → mo_S
  | 0 => cx_X3_clear C
  | n + 1 => cx_f2i C p k (nI (n + 1)) (cx_f2 C p k N n) N
theorem cx_clear_ne {C : mo_S} {k : Nat} (h : k ∉ [127, 128, 129, 130]) : (cx_X3_clear C).1 k = C.1 k := by
  unfold cx_X3_clear
  rw [mo_up_ne (fun e => h (by rw [e]; decide))]
theorem cx_f1_ne {C : mo_S} {Qf : cx_Fn} {b p k f : Nat} (h : f ∉ [127, 128, 129, 130]) : ∀ n, (cx_f1 C Qf b p k n).1 f = C.1 f
  | 0 => cx_clear_ne h
  | n + 1 => by rw [cx_f1, cx_con_ne h, cx_f1_ne h n]
theorem cx_f2i_ne {C S0 : mo_S} {p k f : Nat} {v : Int32} (h : f ∉ [127, 128, 129, 130]) : ∀ n, (cx_f2i C p k v S0 n).1 f = S0.1 f
  | 0 => rfl
  | n + 1 => by rw [cx_f2i, cx_con_ne h, cx_f2i_ne h n]
theorem cx_f2_ne {C : mo_S} {p k N f : Nat} (h : f ∉ [127, 128, 129, 130]) : ∀ n, (cx_f2 C p k N n).1 f = C.1 f
  | 0 => cx_clear_ne h
  | n + 1 => by rw [cx_f2, cx_f2i_ne h, cx_f2_ne h n]
def cx_fbs (C : mo_S) (Qf : cx_Fn) (b p k N : Nat) : mo_S := if C.1 110 b = 0 then cx_f2 C p k N 60 else cx_f1 C Qf b p k N
/-- what it asks -/
def cx_bH (C : mo_S) (Pf Qf : cx_Fn) (b p k mp : Nat) : Prop := cx_cd C Pf Qf ∧ (b < sp_O C ∨ b = 10) ∧ (C.1 3 p = nI (C.1 3 p).toNatClampNeg ∧ (C.1 3 p).toNatClampNeg < 3) ∧ (cx_X4_pagesFor C b (C.1 3 p).toNatClampNeg = nI mp ∧ mp ≤ 64) ∧ (C.1 10 p + cj_max (C.1 11 p) 0 = nI k ∧ k ≤ 100000000) ∧ (C.1 24 0 = nI (sp_W C) ∧ sp_W C ≤ 5)
theorem c_X11_findBest {G : ev_G} {W : cw_W} {d : Nat} {C : mo_S} {p : Nat} {b : Nat} {Pf Qf : cx_Fn} {k mp : Nat} (hE : ev_En G) {D0 : Nat} (h4 : ev_En4 G D0) (hd : 7 ≤ d) (hH : cx_bH C Pf Qf b p k mp) (hp : p < sp_P C) : cw_R G W d 0 0 mX11_findBest [.ref (W 0 0), .ref (W 20 p), .ref (W 28 b)] C (fun o W2 C2 => W2 = W ∧ o = .inl none ∧ cx_eqX [123] C2 (cx_fbs C Qf b p k (mp / 2))) := by
  refine cw_startR (lv0 := [some (.ref (W 0 0)), some (.ref (W 20 p)), some (.ref (W 28 b)), none, none, none, none, none]) (by decide +kernel) rfl (Nat.le_of_ble_eq_true rfl) rfl ?_
  intro K g0 g hT
  obtain ⟨hc, hb, hk, hmp, hkg, hW⟩ := hH
  have hol := cx_olI hb
  refine ev_aload_n dX11_findBest_0 rfl rfl ?_
  refine cw_getf hE hT dX11_findBest_1 fX11_142 (k := 20) (i := p) hp ob20 rfl ?_
  refine ev_aload_n dX11_findBest_4 rfl rfl ?_
  refine cw_getf hE hT dX11_findBest_5 fX11_429 (k := 20) (i := p) hp ob20 rfl ?_
  refine ev_iconst (v := 0) dX11_findBest_8 (by decide) ?_
  refine ev_mmax dX11_findBest_9 lX11_148 (Nat.le_of_ble_eq_true rfl) (by omega) ?_
  refine ev_iadd dX11_findBest_12 ?_
  rw [hkg.1]
  refine ev_istore_n (lv' := [some (.ref (W 0 0)), some (.ref (W 20 p)), some (.ref (W 28 b)), some (.int (nI k)), none, none, none, none]) dX11_findBest_13 rfl (Nat.le_of_ble_eq_true rfl) rfl ?_
  refine ev_aload_n dX11_findBest_14 rfl rfl ?_
  refine ev_aload_n dX11_findBest_15 rfl rfl ?_
  refine cw_getf hE hT dX11_findBest_16 fX11_193 (k := 20) (i := p) hp ob20 rfl ?_
  refine cw_call1 (d' := d - 1) hE hT dX11_findBest_19 rfl kX4_pagesFor lX11_196 iX4_pagesFor vX4_pagesFor (k := 28) (i := b) hol ob28 rfl (Nat.le_of_ble_eq_true rfl) (by omega) (by have w9 := c_X4_pagesFor (G := G) (W := W) (d := d - 1) (C := C) (b := b) (q := (C.1 3 p).toNatClampNeg) hE hol hk.2; rw [← hk.1] at w9; exact w9) (fun g hT => ?_)
  rw [hmp.1]
  refine ev_istore (lv' := [some (.ref (W 0 0)), some (.ref (W 20 p)), some (.ref (W 28 b)), some (.int (nI k)), some (.int (nI mp)), none, none, none]) dX11_findBest_22 (Nat.le_of_ble_eq_true rfl) rfl ?_
  refine ev_aload_n dX11_findBest_24 rfl rfl ?_
  refine cw_getf hE hT dX11_findBest_25 fX11_76 (k := 0) (i := 0) rfl ob0 rfl ?_
  refine cw_call0 (d' := d - 1) hE hT dX11_findBest_28 rfl kX3_clear lX11_461 iX3_clear vX3_clear (k := 19) (i := 0) rfl ob19 rfl (Nat.le_of_ble_eq_true rfl) (by omega) (c_X3_clear hE) (fun g hT => ?_)
  have hol : cw_ol (cx_X3_clear C) b := cx_olI (by rw [sp_O_cg (cx_clear_ne (by decide))]; exact hb)
  refine ev_aload_n dX11_findBest_31 rfl rfl ?_
  refine cw_getf hE hT dX11_findBest_32 fX11_372 (k := 28) (i := b) hol ob28 rfl ?_
  by_cases c_35 : (cx_X3_clear C ).1 110 b = 0
  · rw [if_pos c_35]
    refine ev_ifnullN (tgt := 92) dX11_findBest_35 (by decide) ?_
    refine ev_iconst (v := 1) dX11_findBest_92 (by decide) ?_
    refine ev_istore (lv' := [some (.ref (W 0 0)), some (.ref (W 20 p)), some (.ref (W 28 b)), some (.int (nI k)), some (.int (nI mp)), some (.int 1), none, none]) dX11_findBest_93 (Nat.le_of_ble_eq_true rfl) rfl ?_
    have loop3 : ∀ (n3 j : Nat), j ≤ 60 → 60 < j + n3 → ∀ g, cw_T G K g0 W g (cx_f2 C p k (mp / 2) j) → ev_V G d 0 0 mX11_findBest (fun o g' => ∃ W2 C2, (W2 = W ∧ o = .inl none ∧ cx_eqX [123] C2 (cx_fbs C Qf b p k (mp / 2))) ∧ cw_T G K g0 W2 g' C2) g 95 [some (.ref (W 0 0)), some (.ref (W 20 p)), some (.ref (W 28 b)), some (.int (nI k)), some (.int (nI mp)), some (.int (nI (j + 1))), none, none] [] := by
      intro n3
      induction n3 with
      | zero => intro j h13 h23; exact absurd h23 (by omega)
      | succ n3 ih3 =>
        intro j h13 h23   g hT
        have hFC : ∀ f, f ∉ [127, 128, 129, 130] → (cx_f2 C p k (mp / 2) j).1 f = C.1 f := fun f h => cx_f2_ne h j
        have hpF : p < sp_P (cx_f2 C p k (mp / 2) j) := lvP hp (hFC 1 (by decide))
        refine ev_iload dX11_findBest_95 rfl ?_
        refine ev_bipush (v := 60) dX11_findBest_97 (by decide) ?_
        refine ev_icmp_gt (tgt := 155) dX11_findBest_99 (by decide) (fun c_99 => ?_) (fun c_99 => ?_)
        · have e : j = 60 := by have : ¬ j + 1 ≤ 60 := fun q => absurd c_99 (nI_nlt (a := 60) (b := j + 1) q (by omega)); omega
          subst e
          exact ev_vret dX11_findBest_155 rfl ⟨W, (cx_f2 C p k (mp / 2) 60), ⟨rfl, rfl, by unfold cx_fbs; rw [if_pos (by rw [← cx_clear_ne (C := C) (k := 110) (by decide)]; exact c_35)]; exact cx_eqX.r _⟩, hT⟩
        · have hj9 : j + 1 ≤ 60 := Nat.le_of_not_lt fun q => c_99 (nI_lt (a := 60) q (by omega))
          refine ev_aload_n dX11_findBest_102 rfl rfl ?_
          refine ev_aload_n dX11_findBest_103 rfl rfl ?_
          refine ev_iload dX11_findBest_104 rfl ?_
          refine cw_call2 (d' := d - 1) hE hT dX11_findBest_106 rfl kX11_demandOf lX11_161 iX11_demandOf vX11_demandOf (k := 0) (i := 0) rfl ob0 rfl (Nat.le_of_ble_eq_true rfl) (by omega) (c_X11_demandOf hE hpF (by rw [hFC 24 (by decide), show sp_W (cx_f2 C p k (mp / 2) j) = sp_W C from congrArg Int32.toNatClampNeg (congrFun (hFC 24 (by decide)) 0)]; exact hW.1) (by rw [show sp_W (cx_f2 C p k (mp / 2) j) = sp_W C from congrArg Int32.toNatClampNeg (congrFun (hFC 24 (by decide)) 0)]; exact hW.2)) (fun g hT => ?_)
          rw [show sp_demand (cx_f2 C p k (mp / 2) j) p (nI (j + 1)) (sp_W (cx_f2 C p k (mp / 2) j)) = sp_demand C p (nI (j + 1)) (sp_W C) by rw [show sp_W (cx_f2 C p k (mp / 2) j) = sp_W C from congrArg Int32.toNatClampNeg (congrFun (hFC 24 (by decide)) 0)]; exact sp_demand_cg (hFC 25 (by decide)) (hFC 26 (by decide)) _]
          refine ev_istore (lv' := [some (.ref (W 0 0)), some (.ref (W 20 p)), some (.ref (W 28 b)), some (.int (nI k)), some (.int (nI mp)), some (.int (nI (j + 1))), some (.int (sp_demand C p (nI (j + 1)) (sp_W C))), none]) dX11_findBest_109 (Nat.le_of_ble_eq_true rfl) rfl ?_
          refine ev_iconst (v := 2) dX11_findBest_111 (by decide) ?_
          refine ev_istore (lv' := [some (.ref (W 0 0)), some (.ref (W 20 p)), some (.ref (W 28 b)), some (.int (nI k)), some (.int (nI mp)), some (.int (nI (j + 1))), some (.int (sp_demand C p (nI (j + 1)) (sp_W C))), some (.int 2)]) dX11_findBest_112 (Nat.le_of_ble_eq_true rfl) rfl ?_
          have loop4 : ∀ (n4 i : Nat), i ≤ (mp / 2) → (mp / 2) < i + n4 → ∀ g, cw_T G K g0 W g (cx_f2i C p k (nI (j + 1)) (cx_f2 C p k (mp / 2) j) i) → ev_V G d 0 0 mX11_findBest (fun o g' => ∃ W2 C2, (W2 = W ∧ o = .inl none ∧ cx_eqX [123] C2 (cx_fbs C Qf b p k (mp / 2))) ∧ cw_T G K g0 W2 g' C2) g 114 [some (.ref (W 0 0)), some (.ref (W 20 p)), some (.ref (W 28 b)), some (.int (nI k)), some (.int (nI mp)), some (.int (nI (j + 1))), some (.int (sp_demand C p (nI (j + 1)) (sp_W C))), some (.int (nI (2 * i + 2)))] [] := by
            intro n4
            induction n4 with
            | zero => intro i h14 h24; exact absurd h24 (by omega)
            | succ n4 ih4 =>
              intro i h14 h24   g hT
              refine ev_iload dX11_findBest_114 rfl ?_
              refine ev_iload dX11_findBest_116 rfl ?_
              refine ev_icmp_gt (tgt := 149) dX11_findBest_118 (by decide) (fun c_118 => ?_) (fun c_118 => ?_)
              · have e : i = mp / 2 := by have : ¬ 2 * i + 2 ≤ mp := fun q => absurd c_118 (nI_nlt q (by omega)); omega
                subst e
                refine ev_iinc (v := (nI (j + 1 + 1))) dX11_findBest_149 rfl (nI_1 (j + 1)) rfl ?_
                refine ev_goto (tgt := 95) dX11_findBest_152 (by decide) ?_
                refine ev_none 6 ?_
                refine ev_none 7 ?_
                exact ih3 (j + 1) (by omega) (by omega) g (by rw [cx_f2]; exact hT)
              · have hi9 : 2 * i + 2 ≤ mp := Nat.le_of_not_lt fun q => c_118 (nI_lt q (by omega))
                refine ev_aload_n dX11_findBest_121 rfl rfl ?_
                refine cw_getf hE hT dX11_findBest_122 fX11_76 (k := 0) (i := 0) rfl ob0 rfl ?_
                refine ev_iload dX11_findBest_125 rfl ?_
                refine ev_iload dX11_findBest_127 rfl ?_
                refine ev_iload dX11_findBest_129 rfl ?_
                refine ev_iload_n dX11_findBest_131 rfl rfl ?_
                refine ev_iload dX11_findBest_132 rfl ?_
                refine ev_pS2 (d' := d - 1) dX11_findBest_134 rfl kX11_mostCopies lX11_438 sX11_mostCopies (Nat.le_of_ble_eq_true rfl) (by omega) (c_X11_mostCopies (k := k) (n := 2 * i + 2) hkg.2 (by omega) (by omega)) ?_
                refine ev_mmin dX11_findBest_137 lX11_337 (Nat.le_of_ble_eq_true rfl) (by omega) ?_
                refine cw_call3 (d' := d - 1) hE hT dX11_findBest_140 rfl kX3_consider lX11_464 iX3_consider vX3_consider (k := 19) (i := 0) rfl ob19 rfl (Nat.le_of_ble_eq_true rfl) (by omega) (c_X3_consider hE h4 (by omega)) (fun g hT => ?_)
                refine ev_iinc (v := (nI (2 * (i + 1) + 2))) dX11_findBest_143 rfl (by rw [show 2 * (i + 1) + 2 = 2 * i + 2 + 2 by omega]; exact nI_add (2 * i + 2) 2) rfl ?_
                refine ev_goto (tgt := 114) dX11_findBest_146 (by decide) ?_
                exact ih4 (i + 1) (by omega) (by omega) g (by rw [cx_f2i]; exact hT)
          exact loop4 ((mp / 2) + 1) 0 (by omega) (by omega)  g hT
    exact loop3 (60 + 1) 0 (by omega) (by omega)  g hT
  · rw [if_neg c_35]
    refine ev_ifnull dX11_findBest_35 ?_
    refine ev_iconst (v := 2) dX11_findBest_38 (by decide) ?_
    refine ev_istore (lv' := [some (.ref (W 0 0)), some (.ref (W 20 p)), some (.ref (W 28 b)), some (.int (nI k)), some (.int (nI mp)), some (.int 2), none, none]) dX11_findBest_39 (Nat.le_of_ble_eq_true rfl) rfl ?_
    have loop : ∀ (n i : Nat), i ≤ (mp / 2) → (mp / 2) < i + n → ∀ (T : mo_S), cx_eqX [123] T (cx_f1 C Qf b p k i) → ∀ g, cw_T G K g0 W g T → ev_V G d 0 0 mX11_findBest (fun o g' => ∃ W2 C2, (W2 = W ∧ o = .inl none ∧ cx_eqX [123] C2 (cx_fbs C Qf b p k (mp / 2))) ∧ cw_T G K g0 W2 g' C2) g 41 [some (.ref (W 0 0)), some (.ref (W 20 p)), some (.ref (W 28 b)), some (.int (nI k)), some (.int (nI mp)), some (.int (nI (2 * i + 2))), none, none] [] := by
      intro n
      induction n with
      | zero => intro i h1 h2; exact absurd h2 (by omega)
      | succ n ih =>
        intro i h1 h2 T hx g hT
        have hTC : cx_eqX [123, 127, 128, 129, 130] T C := fun f hf => by rw [hx f (fun z => hf (by rw [List.mem_singleton.mp z]; decide)), cx_f1_ne (fun z => hf (List.mem_cons_of_mem _ z))]
        have hpT : p < sp_P T := lvP hp (hTC 1 (by decide))
        have hbT : b < sp_O T ∨ b = 10 := by rw [sp_O_cg (hTC 29 (by decide))]; exact hb
        have hcT : cx_cd T Pf Qf := hTC.cd (by decide) (by decide) (by decide) (by decide) (by decide) (by decide) hc
        refine ev_iload dX11_findBest_41 rfl ?_
        refine ev_iload dX11_findBest_43 rfl ?_
        refine ev_icmp_gt (tgt := 91) dX11_findBest_45 (by decide) (fun c_45 => ?_) (fun c_45 => ?_)
        · have e : i = mp / 2 := by have : ¬ 2 * i + 2 ≤ mp := fun q => absurd c_45 (nI_nlt q (by omega)); omega
          subst e
          exact ev_vret dX11_findBest_91 rfl ⟨W, T, ⟨rfl, rfl, by unfold cx_fbs; rw [if_neg (by rw [← cx_clear_ne (C := C) (k := 110) (by decide)]; exact c_35)]; exact hx⟩, hT⟩
        · have hi9 : 2 * i + 2 ≤ mp := Nat.le_of_not_lt fun q => c_45 (nI_lt q (by omega))
          refine ev_aload_n dX11_findBest_48 rfl rfl ?_
          refine ev_aload_n dX11_findBest_49 rfl rfl ?_
          refine ev_aload_n dX11_findBest_50 rfl rfl ?_
          refine ev_iload dX11_findBest_51 rfl ?_
          refine cw_callr3 (d' := d - 1) (b := 0) (n0 := 0) hE hT dX11_findBest_53 rfl kX11_priceValue lX11_202 iX11_priceValue vX11_priceValue (k := 0) (i := 0) rfl ob0 rfl (Nat.le_of_ble_eq_true rfl) (by omega) (c_X11_priceValue (d := d - 1) hE h4 (by omega) hcT hbT hpT) (Nat.le_refl _) (Nat.le_refl _) (fun v9 W9 V g q9 hT => ?_) (fun E W2 C2 g q9 _ => by cases q9.2.1)
          obtain ⟨e8, e9, hv⟩ := q9
          have e7 := e8.symm
          subst e7
          cases e9
          rw [show cx_price T Qf b p (nI (2 * i + 2)) = (cx_price C Qf b p (nI (2 * i + 2))) from cx_price_cg (fun f hf => hTC f (by revert f; decide)) (hTC 110 (by decide))]
          have hVC : cx_eqX [123, 127, 128, 129, 130] V C := (hv.x.mono (by decide)).t hTC
          have hpV : p < sp_P V := lvP hpT (hv.1 1 (by decide))
          refine ev_istore (lv' := [some (.ref (W 0 0)), some (.ref (W 20 p)), some (.ref (W 28 b)), some (.int (nI k)), some (.int (nI mp)), some (.int (nI (2 * i + 2))), some (.int (cx_price C Qf b p (nI (2 * i + 2)))), none]) dX11_findBest_56 (Nat.le_of_ble_eq_true rfl) rfl ?_
          refine ev_aload_n dX11_findBest_58 rfl rfl ?_
          refine cw_getf hE hT dX11_findBest_59 fX11_76 (k := 0) (i := 0) rfl ob0 rfl ?_
          refine ev_iload dX11_findBest_62 rfl ?_
          refine ev_iload dX11_findBest_64 rfl ?_
          refine ev_aload_n dX11_findBest_66 rfl rfl ?_
          refine ev_aload_n dX11_findBest_67 rfl rfl ?_
          refine ev_iload dX11_findBest_68 rfl ?_
          refine cw_call2 (d' := d - 1) hE hT dX11_findBest_70 rfl kX11_demandOf lX11_161 iX11_demandOf vX11_demandOf (k := 0) (i := 0) rfl ob0 rfl (Nat.le_of_ble_eq_true rfl) (by omega) (c_X11_demandOf hE hpV (by rw [hVC 24 (by decide), show sp_W V = sp_W C from congrArg Int32.toNatClampNeg (congrFun (hVC 24 (by decide)) 0)]; exact hW.1) (by rw [show sp_W V = sp_W C from congrArg Int32.toNatClampNeg (congrFun (hVC 24 (by decide)) 0)]; exact hW.2)) (fun g hT => ?_)
          rw [show sp_demand V p (cx_price C Qf b p (nI (2 * i + 2))) (sp_W V) = sp_demand C p (cx_price C Qf b p (nI (2 * i + 2))) (sp_W C) by rw [show sp_W V = sp_W C from congrArg Int32.toNatClampNeg (congrFun (hVC 24 (by decide)) 0)]; exact sp_demand_cg (hVC 25 (by decide)) (hVC 26 (by decide)) _]
          refine ev_iload_n dX11_findBest_73 rfl rfl ?_
          refine ev_iload dX11_findBest_74 rfl ?_
          refine ev_pS2 (d' := d - 1) dX11_findBest_76 rfl kX11_mostCopies lX11_438 sX11_mostCopies (Nat.le_of_ble_eq_true rfl) (by omega) (c_X11_mostCopies (k := k) (n := 2 * i + 2) hkg.2 (by omega) (by omega)) ?_
          refine ev_mmin dX11_findBest_79 lX11_337 (Nat.le_of_ble_eq_true rfl) (by omega) ?_
          refine cw_call3 (d' := d - 1) hE hT dX11_findBest_82 rfl kX3_consider lX11_464 iX3_consider vX3_consider (k := 19) (i := 0) rfl ob19 rfl (Nat.le_of_ble_eq_true rfl) (by omega) (c_X3_consider hE h4 (by omega)) (fun g hT => ?_)
          refine ev_iinc (v := (nI (2 * (i + 1) + 2))) dX11_findBest_85 rfl (by rw [show 2 * (i + 1) + 2 = 2 * i + 2 + 2 by omega]; exact nI_add (2 * i + 2) 2) rfl ?_
          refine ev_goto (tgt := 41) dX11_findBest_88 (by decide) ?_
          refine ev_none 6 ?_
          exact ih (i + 1) (by omega) (by omega) _ (by rw [cx_f1]; exact cx_con_cg (hv.x.t hx)) g hT
    exact loop ((mp / 2) + 1) 0 (by omega) (by omega) _ (cx_eqX.r _) g hT
end CL2
