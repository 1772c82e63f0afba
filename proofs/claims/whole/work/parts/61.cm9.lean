section CM9
theorem c_X6_byWeights {G : ev_G} {W : cw_W} {d : Nat} {C : mo_S} {L : Nat} {f : Nat} {kp : Int32} {w : Nat → Nat} (hE : ev_En G) (hd : 4 ≤ d) (hL : L ≤ 200000) (hf : f ≤ 10000) (hw : ∀ j, j < sp_P C → C.1 125 j = nI (w j) ∧ w j ≤ 1000000) : cw_R G W d 0 0 mX6_byWeights [.ref (W 9 0), .ref (W 1 0), .int (nI L), .int (nI f), .int kp] C (fun o W2 C2 => W2 = W ∧ o = .inl none ∧ cx_eqX [124] C2 C ∧ ∀ j, j < sp_P C → C2.1 124 j = nI (pt_share f (decide (kp = 0)) (cx_I C) w (sp_P C) L j)) := by
  refine cw_startR (lv0 := [some (.ref (W 9 0)), some (.ref (W 1 0)), some (.int (nI L)), some (.int (nI f)), some (.int kp), none, none, none, none, none, none, none, none]) (by decide +kernel) rfl (Nat.le_of_ble_eq_true rfl) rfl ?_
  intro K g0 g hT
  have hBP := hT.B.1
  refine ev_aload_n dX6_byWeights_0 rfl rfl ?_
  refine ev_aload_n dX6_byWeights_1 rfl rfl ?_
  refine ev_iload_n dX6_byWeights_2 rfl rfl ?_
  refine ev_iload_n dX6_byWeights_3 rfl rfl ?_
  refine cw_callr3 (d' := d - 1) (b := 0) (n0 := 0) hE hT dX6_byWeights_4 rfl kX6_giveLeast lX6_65 iX6_giveLeast vX6_giveLeast (k := 9) (i := 0) rfl ob9 rfl (Nat.le_of_ble_eq_true rfl) (by omega) (c_X6_giveLeast (d := d - 1) hE (by omega) hL hf) (Nat.le_refl _) (Nat.le_refl _) (fun v9 W9 T g q9 hT => ?_) (fun E W2 C2 g q9 _ => by cases q9.2.1)
  obtain ⟨e8, e9, hx0, hx1⟩ := q9
  have e7 := e8.symm
  subst e7
  cases e9
  have hP9 : T.1 1 0 = nI (sp_P C) := by rw [hx0 1 (by decide)]; exact hBP.1
  have hl9 := pt_lf_le f (cx_I C) L (sp_P C)
  have hA9 : pt_sm w (sp_P C) ≤ 12000000 := by have h1 := pt_sm_le (w := w) (n := sp_P C) (c := 1000000) (fun j hj => (hw j hj).2); have h3 : sp_P C * 1000000 ≤ 12 * 1000000 := Nat.mul_le_mul_right _ hBP.2; omega
  refine ev_istore dX6_byWeights_7 (Nat.le_of_ble_eq_true rfl) rfl ?_
  refine ev_lconst (v := 0) dX6_byWeights_9 (by decide) ?_
  refine ev_lstore dX6_byWeights_10 (Nat.le_of_ble_eq_true rfl) rfl ?_
  refine ev_iconst (v := 0) dX6_byWeights_12 (by decide) ?_
  refine ev_istore dX6_byWeights_13 (Nat.le_of_ble_eq_true rfl) rfl ?_
  have loop : ∀ (n i : Nat), i ≤ (sp_P C) → (sp_P C) < i + n → ∀ g, cw_T G K g0 W g T → ev_V G d 0 0 mX6_byWeights (fun o g' => ∃ W2 C2, (W2 = W ∧ o = .inl none ∧ cx_eqX [124] C2 C ∧ ∀ j, j < sp_P C → C2.1 124 j = nI (pt_share f (decide (kp = 0)) (cx_I C) w (sp_P C) L j)) ∧ cw_T G K g0 W2 g' C2) g 15 [some (.ref (W 9 0)), some (.ref (W 1 0)), some (.int (nI L)), some (.int (nI f)), some (.int kp), some (.int (nI (pt_lf f (cx_I C) L (sp_P C)))), some (.long (lN (pt_sm w i))), none, some (.int (nI i)), none, none, none, none] [] := by
    intro n
    induction n with
    | zero => intro i h1 h2; exact absurd h2 (by omega)
    | succ n ih =>
      intro i h1 h2   g hT
      refine ev_iload dX6_byWeights_15 rfl ?_
      refine ev_aload_n dX6_byWeights_17 rfl rfl ?_
      refine cw_size (l := 0) (v := (T.1 1 0)) hE hT dX6_byWeights_18 lX6_32 (by decide) (Nat.le_of_ble_eq_true rfl) (by omega) rfl ?_
      refine ev_icmp_ge (tgt := 50) dX6_byWeights_21 (by decide) (fun c_21 => ?_) (fun c_21 => ?_)
      · have e : i = sp_P C := by have := mo_ige hP9 (by omega) (by omega) c_21; omega
        subst e
        refine ev_lload dX6_byWeights_50 rfl ?_
        refine ev_lconst (v := 0) dX6_byWeights_52 (by decide) ?_
        refine ev_lcmp dX6_byWeights_53 ?_
        refine ev_if_gt (tgt := 58) dX6_byWeights_54 (by decide) (fun c_54 => ?_) (fun c_54 => ?_)
        · have hA0 : 0 < (pt_sm w (sp_P C)) := by have := (lg_cmp_gt _ _).mp c_54; exact (pk_lLT (a := 0) (by decide) (by omega)).mp this
          refine ev_iload dX6_byWeights_58 rfl ?_
          refine ev_istore dX6_byWeights_60 (Nat.le_of_ble_eq_true rfl) rfl ?_
          refine ev_iconst (v := 0) dX6_byWeights_62 (by decide) ?_
          refine ev_istore dX6_byWeights_63 (Nat.le_of_ble_eq_true rfl) rfl ?_
          have loop2 : ∀ (n2 i : Nat), i ≤ (sp_P C) → (sp_P C) < i + n2 → ∀ (U : mo_S), (cx_eqX [124] U C ∧ (∀ j, j < sp_P C → U.1 124 j = nI (pt_s f (cx_I C) L j + if j < i then pt_q (pt_lf f (cx_I C) L (sp_P C)) (pt_sm w (sp_P C)) w j else 0)) ∧ ∀ j, j < i → U.2 j = pt_rl (pt_R (pt_lf f (cx_I C) L (sp_P C)) (pt_sm w (sp_P C)) w j)) → ∀ g, cw_T G K g0 W g U → ev_V G d 0 0 mX6_byWeights (fun o g' => ∃ W2 C2, (W2 = W ∧ o = .inl none ∧ cx_eqX [124] C2 C ∧ ∀ j, j < sp_P C → C2.1 124 j = nI (pt_share f (decide (kp = 0)) (cx_I C) w (sp_P C) L j)) ∧ cw_T G K g0 W2 g' C2) g 65 [some (.ref (W 9 0)), some (.ref (W 1 0)), some (.int (nI L)), some (.int (nI f)), some (.int kp), some (.int (nI (pt_lf f (cx_I C) L (sp_P C)))), some (.long (lN (pt_sm w (sp_P C)))), none, some (.int (nI (pt_ov (pt_lf f (cx_I C) L (sp_P C)) (pt_sm w (sp_P C)) w i))), some (.int (nI i)), none, none, none] [] := by
            intro n2
            induction n2 with
            | zero => intro i h12 h22; exact absurd h22 (by omega)
            | succ n2 ih2 =>
              intro i h12 h22 U hx2 g hT
              have hx := hx2
              have hU9 : U.1 1 0 = nI (sp_P C) := by rw [hx.1 1 (by decide)]; exact hBP.1
              refine ev_iload dX6_byWeights_65 rfl ?_
              refine ev_aload_n dX6_byWeights_67 rfl rfl ?_
              refine cw_size (l := 0) (v := (U.1 1 0)) hE hT dX6_byWeights_68 lX6_32 (by decide) (Nat.le_of_ble_eq_true rfl) (by omega) rfl ?_
              refine ev_icmp_ge (tgt := 156) dX6_byWeights_71 (by decide) (fun c_71 => ?_) (fun c_71 => ?_)
              · have e : i = sp_P C := by have := mo_ige hU9 (by omega) (by omega) c_71; omega
                subst e
                refine ev_iload dX6_byWeights_156 rfl ?_
                refine ev_if_ne (tgt := 168) dX6_byWeights_158 (by decide) (fun c_158 => ?_) (fun c_158 => ?_)
                · have hk9 : ¬ kp = 0 := c_158
                  exact ev_vret dX6_byWeights_168 rfl ⟨W, U, ⟨rfl, rfl, hx.1, fun j hj => by rw [hx.2.1 j hj, if_pos hj]; unfold pt_share; rw [if_neg (by omega), if_neg (by simp [hk9])]⟩, hT⟩
                · have hsP : sp_P U = sp_P C := sp_P_cg (hx.1 1 (by decide))
                  refine ev_aload_n dX6_byWeights_161 rfl rfl ?_
                  refine ev_aload_n dX6_byWeights_162 rfl rfl ?_
                  refine ev_iload dX6_byWeights_163 rfl ?_
                  refine cw_callr2 (d' := d - 1) (b := 0) (n0 := 0) hE hT dX6_byWeights_165 rfl kX6_giveOver lX6_71 iX6_giveOver vX6_giveOver (k := 9) (i := 0) rfl ob9 rfl (Nat.le_of_ble_eq_true rfl) (by omega) (c_X6_giveOver (d := d - 1) (sh := fun j => pt_s f (cx_I C) L j + pt_q (pt_lf f (cx_I C) L (sp_P C)) (pt_sm w (sp_P C)) w j) (R := pt_R (pt_lf f (cx_I C) L (sp_P C)) (pt_sm w (sp_P C)) w) hE (by omega) (fun j hj => by rw [hx.2.1 j (by rw [hsP] at hj; exact hj), if_pos (by rw [hsP] at hj; exact hj)]) (fun j hj => hx.2.2 j (by rw [hsP] at hj; exact hj)) (by rw [hsP]; exact Nat.le_of_lt (pt_few hA0)) (fun j x h => by unfold pt_R at h; split at h; cases h; cases h; have := Nat.mod_lt ((pt_lf f (cx_I C) L (sp_P C)) * w j) hA0; unfold pt_r; omega)) (Nat.le_refl _) (Nat.le_refl _) (fun v9 W9 V g q9 hT => ?_) (fun E W2 C2 g q9 _ => by cases q9.2.1)
                  obtain ⟨e8, e9, hv1, hv2⟩ := q9
                  have e7 := e8.symm
                  subst e7
                  cases e9
                  have hk9 : kp = 0 := c_158
                  exact ev_vret dX6_byWeights_168 rfl ⟨W, V, ⟨rfl, rfl, hv1.t hx.1, fun j hj => by rw [hv2 j (by rw [hsP]; exact hj), hsP]; unfold pt_share; rw [if_neg (by omega), if_pos (by simp [hk9])]⟩, hT⟩
              · have hi9 : i < sp_P C := mo_ilt hU9 (by omega) (by omega) c_71
                have hwi := (hw i hi9).2
                have hm9 : (pt_lf f (cx_I C) L (sp_P C)) * w i ≤ 200000 * 1000000 := Nat.mul_le_mul (by omega) hwi
                refine ev_iload dX6_byWeights_74 rfl ?_
                refine ev_bipush (v := 12) dX6_byWeights_76 (by decide) ?_
                refine ev_icmp_ge (tgt := 156) dX6_byWeights_78 (by decide) (fun c_78 => ?_) (fun c_78 => ?_)
                · exact absurd c_78 (nI_ge (b := 12) (by omega) (by decide))
                · refine ev_iload dX6_byWeights_81 rfl ?_
                  refine ev_i2l dX6_byWeights_83 ?_
                  refine ev_aload_n dX6_byWeights_84 rfl rfl ?_
                  refine cw_getf hE hT dX6_byWeights_85 fX6_15 (k := 9) (i := 0) rfl ob9 rfl ?_
                  refine ev_iload dX6_byWeights_88 rfl ?_
                  refine cw_ial (q := i) (v := (nI (w i))) hE hT dX6_byWeights_90 (k := 11) (i := 0) rfl ar11 rfl (by omega) (by decide) (by rw [hx.1 125 (by decide)]; exact (hw i hi9).1) ?_
                  refine ev_i2l dX6_byWeights_91 ?_
                  refine ev_lmul dX6_byWeights_92 ?_
                  rw [show (nI (pt_lf f (cx_I C) L (sp_P C))).toInt64 * (nI (w i)).toInt64 = lN ((pt_lf f (cx_I C) L (sp_P C)) * w i) by rw [nI_l (by omega), nI_l (by omega)]; exact lN_mul _ _]
                  refine ev_lstore dX6_byWeights_93 (Nat.le_of_ble_eq_true rfl) rfl ?_
                  refine ev_lload dX6_byWeights_95 rfl ?_
                  refine ev_lload dX6_byWeights_97 rfl ?_
                  refine ev_ldiv dX6_byWeights_99 (fun q => by have := (pk_lEQ (a := (pt_sm w (sp_P C))) (b := 0) (by omega) (by decide)).mp q; omega) ?_
                  rw [pk_lDiv (by omega) hA0 (by omega)]
                  refine ev_l2i dX6_byWeights_100 ?_
                  rw [lN_i, show (pt_lf f (cx_I C) L (sp_P C)) * w i / (pt_sm w (sp_P C)) = pt_q (pt_lf f (cx_I C) L (sp_P C)) (pt_sm w (sp_P C)) w i from rfl]
                  refine ev_istore dX6_byWeights_101 (Nat.le_of_ble_eq_true rfl) rfl ?_
                  refine ev_aload_n dX6_byWeights_103 rfl rfl ?_
                  refine cw_getf hE hT dX6_byWeights_104 fX6_9 (k := 9) (i := 0) rfl ob9 rfl ?_
                  refine ev_iload dX6_byWeights_107 rfl ?_
                  refine ev_dup2 dX6_byWeights_109 rfl rfl ?_
                  refine cw_ial (q := i) (v := (nI (pt_s f (cx_I C) L i))) hE hT dX6_byWeights_110 (k := 10) (i := 0) rfl ar10 rfl (by omega) (by decide) (by rw [hx.2.1 i hi9, if_neg (by omega)]; rfl) ?_
                  refine ev_iload dX6_byWeights_111 rfl ?_
                  refine ev_iadd dX6_byWeights_113 ?_
                  refine cw_ias (q := i) (f := 124) (ix := i) hE hT dX6_byWeights_114 (k := 10) (i := 0) rfl ar10 rfl (by omega) (by decide) rfl (by decide) (by decide) (pa10 (i := 0)) (fun g hT => ?_)
                  refine ev_iload dX6_byWeights_115 rfl ?_
                  refine ev_iload dX6_byWeights_117 rfl ?_
                  refine ev_isub dX6_byWeights_119 ?_
                  refine ev_istore dX6_byWeights_120 (Nat.le_of_ble_eq_true rfl) rfl ?_
                  refine ev_aload_n dX6_byWeights_122 rfl rfl ?_
                  refine cw_getf hE hT dX6_byWeights_123 fX6_18 (k := 9) (i := 0) rfl ob9 rfl ?_
                  refine ev_iload dX6_byWeights_126 rfl ?_
                  refine ev_aload_n dX6_byWeights_128 rfl rfl ?_
                  refine cw_getf hE hT dX6_byWeights_129 fX6_15 (k := 9) (i := 0) rfl ob9 rfl ?_
                  refine ev_iload dX6_byWeights_132 rfl ?_
                  refine cw_ial (q := i) (v := (nI (w i))) hE hT dX6_byWeights_134 (k := 11) (i := 0) rfl ar11 rfl (by omega) (by decide) (by rw [mo_up_ne (by decide), hx.1 125 (by decide)]; exact (hw i hi9).1) ?_
                  refine ev_if_le (tgt := 146) dX6_byWeights_135 (by decide) (fun c_135 => ?_) (fun c_135 => ?_)
                  · refine ev_ldc2 dX6_byWeights_146 nX6_69 ?_
                    refine cw_las (q := i) hE hT dX6_byWeights_149 rfl rfl (by omega) (fun g hT => ?_)
                    refine ev_iinc (v := (nI (i + 1))) dX6_byWeights_150 rfl (nI_1 i) rfl ?_
                    refine ev_goto (tgt := 65) dX6_byWeights_153 (by decide) ?_
                    have hw0 : w i = 0 := by have := mo_ige (x := nI (w i)) (R := w i) (i := 0) rfl (by omega) (by decide) c_135; omega
                    refine ev_none 10 ?_
                    refine ev_none 12 ?_
                    rw [show nI (pt_ov (pt_lf f (cx_I C) L (sp_P C)) (pt_sm w (sp_P C)) w i) - nI (pt_q (pt_lf f (cx_I C) L (sp_P C)) (pt_sm w (sp_P C)) w i) = nI (pt_ov (pt_lf f (cx_I C) L (sp_P C)) (pt_sm w (sp_P C)) w (i + 1)) by rw [pt_ov_s, pk_sub (pt_q_le hA0 hi9)]]
                    refine ih2 (i + 1) (by omega) (by omega) _ ⟨(hx.1.up (by decide)).upL, fun j hj => ?_, fun j hj => ?_⟩ g hT
                    · show (mo_up U 124 i (nI (pt_s f (cx_I C) L i) + nI (pt_q (pt_lf f (cx_I C) L (sp_P C)) (pt_sm w (sp_P C)) w i))).1 124 j = _
                      rw [mo_up_at]
                      by_cases e : j = i
                      · rw [e, pk_us, nI_add, if_pos (by omega)]
                      · rw [pk_un e, hx.2.1 j hj]
                        by_cases e2 : j < i
                        · rw [if_pos e2, if_pos (by omega)]
                        · rw [if_neg e2, if_neg (by omega)]
                    · show (if j = i then (-1 : Int64) else U.2 j) = _
                      by_cases e : j = i
                      · rw [if_pos e, e]
                        unfold pt_R
                        rw [if_pos hw0]
                        rfl
                      · rw [if_neg e]
                        exact hx.2.2 j (by omega)
                  · refine ev_lload dX6_byWeights_138 rfl ?_
                    refine ev_lload dX6_byWeights_140 rfl ?_
                    refine ev_lrem dX6_byWeights_142 (fun q => by have := (pk_lEQ (a := (pt_sm w (sp_P C))) (b := 0) (by omega) (by decide)).mp q; omega) ?_
                    rw [pk_lRem (by omega) hA0 (by omega)]
                    refine ev_goto (tgt := 149) dX6_byWeights_143 (by decide) ?_
                    refine cw_las (q := i) hE hT dX6_byWeights_149 rfl rfl (by omega) (fun g hT => ?_)
                    refine ev_iinc (v := (nI (i + 1))) dX6_byWeights_150 rfl (nI_1 i) rfl ?_
                    refine ev_goto (tgt := 65) dX6_byWeights_153 (by decide) ?_
                    have hw0 : ¬ w i = 0 := fun q => c_135 (by rw [q]; decide)
                    refine ev_none 10 ?_
                    refine ev_none 12 ?_
                    rw [show nI (pt_ov (pt_lf f (cx_I C) L (sp_P C)) (pt_sm w (sp_P C)) w i) - nI (pt_q (pt_lf f (cx_I C) L (sp_P C)) (pt_sm w (sp_P C)) w i) = nI (pt_ov (pt_lf f (cx_I C) L (sp_P C)) (pt_sm w (sp_P C)) w (i + 1)) by rw [pt_ov_s, pk_sub (pt_q_le hA0 hi9)]]
                    refine ih2 (i + 1) (by omega) (by omega) _ ⟨(hx.1.up (by decide)).upL, fun j hj => ?_, fun j hj => ?_⟩ g hT
                    · show (mo_up U 124 i (nI (pt_s f (cx_I C) L i) + nI (pt_q (pt_lf f (cx_I C) L (sp_P C)) (pt_sm w (sp_P C)) w i))).1 124 j = _
                      rw [mo_up_at]
                      by_cases e : j = i
                      · rw [e, pk_us, nI_add, if_pos (by omega)]
                      · rw [pk_un e, hx.2.1 j hj]
                        by_cases e2 : j < i
                        · rw [if_pos e2, if_pos (by omega)]
                        · rw [if_neg e2, if_neg (by omega)]
                    · show (if j = i then (lN ((pt_lf f (cx_I C) L (sp_P C)) * w i % (pt_sm w (sp_P C)))) else U.2 j) = _
                      by_cases e : j = i
                      · rw [if_pos e, e]
                        unfold pt_R
                        rw [if_neg hw0]
                        rfl
                      · rw [if_neg e]
                        exact hx.2.2 j (by omega)
          exact loop2 ((sp_P C) + 1) 0 (by omega) (by omega) T ⟨hx0, fun j hj => by rw [if_neg (by omega)]; exact hx1 j hj, fun j hj => absurd hj (by omega)⟩ g hT
        · have hA0 : (pt_sm w (sp_P C)) = 0 := by
            rcases Nat.eq_zero_or_pos (pt_sm w (sp_P C)) with q | q
            · exact q
            · exact absurd ((lg_cmp_gt _ _).mpr ((pk_lLT (a := 0) (by decide) (by omega)).mpr q)) c_54
          exact ev_vret dX6_byWeights_57 rfl ⟨W, T, ⟨rfl, rfl, hx0, fun j hj => by rw [hx1 j hj]; unfold pt_share; rw [if_pos hA0]⟩, hT⟩
      · have hi9 : i < sp_P C := mo_ilt hP9 (by omega) (by omega) c_21
        have hwi := (hw i hi9).2
        refine ev_iload dX6_byWeights_24 rfl ?_
        refine ev_bipush (v := 12) dX6_byWeights_26 (by decide) ?_
        refine ev_icmp_ge (tgt := 50) dX6_byWeights_28 (by decide) (fun c_28 => ?_) (fun c_28 => ?_)
        · exact absurd c_28 (nI_ge (b := 12) (by omega) (by decide))
        · refine ev_lload dX6_byWeights_31 rfl ?_
          refine ev_aload_n dX6_byWeights_33 rfl rfl ?_
          refine cw_getf hE hT dX6_byWeights_34 fX6_15 (k := 9) (i := 0) rfl ob9 rfl ?_
          refine ev_iload dX6_byWeights_37 rfl ?_
          refine cw_ial (q := i) (v := (nI (w i))) hE hT dX6_byWeights_39 (k := 11) (i := 0) rfl ar11 rfl (by omega) (by decide) (by rw [hx0 125 (by decide)]; exact (hw i hi9).1) ?_
          refine ev_i2l dX6_byWeights_40 ?_
          refine ev_ladd dX6_byWeights_41 ?_
          refine ev_lstore dX6_byWeights_42 (Nat.le_of_ble_eq_true rfl) rfl ?_
          refine ev_iinc (v := (nI (i + 1))) dX6_byWeights_44 rfl (nI_1 i) rfl ?_
          refine ev_goto (tgt := 15) dX6_byWeights_47 (by decide) ?_
          rw [show lN (pt_sm w i) + (nI (w i)).toInt64 = lN (pt_sm w (i + 1)) by rw [nI_l (by omega), lN_add]; rfl]
          exact ih (i + 1) (by omega) (by omega) g hT
  exact loop ((sp_P C) + 1) 0 (by omega) (by omega)  g hT
end CM9
