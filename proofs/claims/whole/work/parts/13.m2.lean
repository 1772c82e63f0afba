section M2
def sp_X12_thrown (S : mo_S) : Int32 × mo_S :=
  ((S.1 0 0), S)
theorem c_X12_thrown {G : ev_G} {W : mo_W} {d : Nat} {S : mo_S} (hE : ev_En G) : mo_C G W d mX12_thrown [] S (some (.int (sp_X12_thrown S ).1)) (sp_X12_thrown S ).2 := by
  refine mo_start (lv0 := [some (.ref W.1)]) (by decide +kernel) rfl (Nat.le_of_ble_eq_true rfl) rfl ?_
  intro g0 g hT
  refine ev_aload_n dX12_thrown_0 rfl rfl ?_
  refine mo_geti hE hT dX12_thrown_1 fX12_173 (by decide) ?_
  have e9 : sp_X12_thrown S = ((S.1 0 0), S) := by unfold sp_X12_thrown; rfl
  exact ev_iret dX12_thrown_4 rfl rfl ⟨by rw [e9], by rw [e9]; exact hT⟩
def sp_X12_isSet (x1 x2 : Int32) : Bool :=
  (if x1 = 0 then (sp_in x2 0 1000) else (if x1 = 1 then (sp_in x2 2 64) else (if x1 = 2 then (sp_in x2 1 100) else (if x1 = 3 then (sp_in x2 0 1000) else false))))
theorem c_X12_isSet {G : ev_G} {d : Nat} {g : ev_H} {x1 x2 : Int32} (hd : 1 ≤ d) : ev_Cp G d mX12_isSet [.int x1, .int x2] g (some (.int (mo_b (sp_X12_isSet x1 x2)))) := by
  refine ev_start (lv0 := [some (.int x1), some (.int x2)]) (by decide +kernel) rfl (Nat.le_of_ble_eq_true rfl) rfl ?_
  refine ev_iload_n dX12_isSet_0 rfl rfl ?_
  by_cases c_1_0 : x1 = 0
  · refine ev_tableIn (tgt := 32) (off := 31) dX12_isSet_1 (by rw [c_1_0]; decide) (by rw [c_1_0]; decide) (by rw [c_1_0]; rfl) (by decide) ?_
    refine ev_iload_n dX12_isSet_32 rfl rfl ?_
    refine ev_iconst (v := 0) dX12_isSet_33 (by decide) ?_
    refine ev_sipush (v := 1000) dX12_isSet_34 (by decide) ?_
    refine ev_pS3 (d' := d - 1) dX12_isSet_37 rfl kX12_in lX12_176 sX12_in (Nat.le_of_ble_eq_true rfl) (by omega) (c_X12_in) ?_
    have e9 : sp_X12_isSet x1 x2 = (sp_in x2 0 1000) := by unfold sp_X12_isSet; rw [if_pos c_1_0]
    exact ev_iret dX12_isSet_40 rfl (by first | exact mo_b_nar _ | rfl) ⟨by rw [e9], rfl⟩
  · by_cases c_1_1 : x1 = 1
    · refine ev_tableIn (tgt := 41) (off := 40) dX12_isSet_1 (by rw [c_1_1]; decide) (by rw [c_1_1]; decide) (by rw [c_1_1]; rfl) (by decide) ?_
      refine ev_iload_n dX12_isSet_41 rfl rfl ?_
      refine ev_iconst (v := 2) dX12_isSet_42 (by decide) ?_
      refine ev_bipush (v := 64) dX12_isSet_43 (by decide) ?_
      refine ev_pS3 (d' := d - 1) dX12_isSet_45 rfl kX12_in lX12_176 sX12_in (Nat.le_of_ble_eq_true rfl) (by omega) (c_X12_in) ?_
      have e9 : sp_X12_isSet x1 x2 = (sp_in x2 2 64) := by unfold sp_X12_isSet; rw [if_neg c_1_0, if_pos c_1_1]
      exact ev_iret dX12_isSet_48 rfl (by first | exact mo_b_nar _ | rfl) ⟨by rw [e9], rfl⟩
    · by_cases c_1_2 : x1 = 2
      · refine ev_tableIn (tgt := 49) (off := 48) dX12_isSet_1 (by rw [c_1_2]; decide) (by rw [c_1_2]; decide) (by rw [c_1_2]; rfl) (by decide) ?_
        refine ev_iload_n dX12_isSet_49 rfl rfl ?_
        refine ev_iconst (v := 1) dX12_isSet_50 (by decide) ?_
        refine ev_bipush (v := 100) dX12_isSet_51 (by decide) ?_
        refine ev_pS3 (d' := d - 1) dX12_isSet_53 rfl kX12_in lX12_176 sX12_in (Nat.le_of_ble_eq_true rfl) (by omega) (c_X12_in) ?_
        have e9 : sp_X12_isSet x1 x2 = (sp_in x2 1 100) := by unfold sp_X12_isSet; rw [if_neg c_1_0, if_neg c_1_1, if_pos c_1_2]
        exact ev_iret dX12_isSet_56 rfl (by first | exact mo_b_nar _ | rfl) ⟨by rw [e9], rfl⟩
      · by_cases c_1_3 : x1 = 3
        · refine ev_tableIn (tgt := 57) (off := 56) dX12_isSet_1 (by rw [c_1_3]; decide) (by rw [c_1_3]; decide) (by rw [c_1_3]; rfl) (by decide) ?_
          refine ev_iload_n dX12_isSet_57 rfl rfl ?_
          refine ev_iconst (v := 0) dX12_isSet_58 (by decide) ?_
          refine ev_sipush (v := 1000) dX12_isSet_59 (by decide) ?_
          refine ev_pS3 (d' := d - 1) dX12_isSet_62 rfl kX12_in lX12_176 sX12_in (Nat.le_of_ble_eq_true rfl) (by omega) (c_X12_in) ?_
          have e9 : sp_X12_isSet x1 x2 = (sp_in x2 0 1000) := by unfold sp_X12_isSet; rw [if_neg c_1_0, if_neg c_1_1, if_neg c_1_2, if_pos c_1_3]
          exact ev_iret dX12_isSet_65 rfl (by first | exact mo_b_nar _ | rfl) ⟨by rw [e9], rfl⟩
        · refine ev_tableOut (tgt := 66) dX12_isSet_1 (by have h0 : (x1).toInt ≠ 0 := fun q => c_1_0 (Int32.toInt_inj.mp (by rw [q]; rfl)); have h1 : (x1).toInt ≠ 1 := fun q => c_1_1 (Int32.toInt_inj.mp (by rw [q]; rfl)); have h2 : (x1).toInt ≠ 2 := fun q => c_1_2 (Int32.toInt_inj.mp (by rw [q]; rfl)); have h3 : (x1).toInt ≠ 3 := fun q => c_1_3 (Int32.toInt_inj.mp (by rw [q]; rfl)); omega) (by decide) ?_
          refine ev_iconst (v := 0) dX12_isSet_66 (by decide) ?_
          have e9 : sp_X12_isSet x1 x2 = false := by unfold sp_X12_isSet; rw [if_neg c_1_0, if_neg c_1_1, if_neg c_1_2, if_neg c_1_3]
          exact ev_iret dX12_isSet_67 rfl rfl ⟨by rw [e9]; rfl, rfl⟩
def sp_X12_set (S : mo_S) (x1 x2 x3 : Int32) : Int32 × mo_S :=
  (if (mo_b (sp_in x1 0 (S.1 1 0 - 1))) = 0 then (0, (mo_up S 0 0 (mo_b (!sp_in x1 0 (S.1 1 0 - 1))))) else (if (mo_b (if (mo_b (sp_X12_isSet x2 x3)) = 0 then true else false)) = 0 then (if (S.1 12 (x1).toNatClampNeg) = 2 then ((-1), (sp_bad (if (mo_b (sp_X12_isSet x2 x3)) = 0 then true else false) 2 (mo_up S 0 0 (mo_b (!sp_in x1 0 (S.1 1 0 - 1)))))) else (if x2 = 0 then ((if x2 = 0 then (S.1 5 (x1).toNatClampNeg) else (if x2 = 1 then (S.1 6 (x1).toNatClampNeg) else (if x2 = 2 then (S.1 7 (x1).toNatClampNeg) else (S.1 8 (x1).toNatClampNeg)))), (mo_up (sp_bad (if (mo_b (sp_X12_isSet x2 x3)) = 0 then true else false) 2 (mo_up S 0 0 (mo_b (!sp_in x1 0 (S.1 1 0 - 1))))) 5 (x1).toNatClampNeg x3)) else (if x2 = 1 then ((if x2 = 0 then (S.1 5 (x1).toNatClampNeg) else (if x2 = 1 then (S.1 6 (x1).toNatClampNeg) else (if x2 = 2 then (S.1 7 (x1).toNatClampNeg) else (S.1 8 (x1).toNatClampNeg)))), (mo_up (sp_bad (if (mo_b (sp_X12_isSet x2 x3)) = 0 then true else false) 2 (mo_up S 0 0 (mo_b (!sp_in x1 0 (S.1 1 0 - 1))))) 6 (x1).toNatClampNeg x3)) else (if x2 = 2 then ((if x2 = 0 then (S.1 5 (x1).toNatClampNeg) else (if x2 = 1 then (S.1 6 (x1).toNatClampNeg) else (if x2 = 2 then (S.1 7 (x1).toNatClampNeg) else (S.1 8 (x1).toNatClampNeg)))), (mo_up (sp_bad (if (mo_b (sp_X12_isSet x2 x3)) = 0 then true else false) 2 (mo_up S 0 0 (mo_b (!sp_in x1 0 (S.1 1 0 - 1))))) 7 (x1).toNatClampNeg x3)) else ((if x2 = 0 then (S.1 5 (x1).toNatClampNeg) else (if x2 = 1 then (S.1 6 (x1).toNatClampNeg) else (if x2 = 2 then (S.1 7 (x1).toNatClampNeg) else (S.1 8 (x1).toNatClampNeg)))), (mo_up (sp_bad (if (mo_b (sp_X12_isSet x2 x3)) = 0 then true else false) 2 (mo_up S 0 0 (mo_b (!sp_in x1 0 (S.1 1 0 - 1))))) 8 (x1).toNatClampNeg x3)))))) else (0, (sp_bad (if (mo_b (sp_X12_isSet x2 x3)) = 0 then true else false) 2 (mo_up S 0 0 (mo_b (!sp_in x1 0 (S.1 1 0 - 1))))))))
theorem c_X12_set {G : ev_G} {W : mo_W} {d : Nat} {S : mo_S} {x1 x2 x3 : Int32} (hE : ev_En G) (hd : 2 ≤ d) {P : Nat} (hP : S.1 1 0 = nI P) (hP2 : P ≤ 12) : mo_C G W d mX12_set [.int x1, .int x2, .int x3] S (some (.int (sp_X12_set S x1 x2 x3).1)) (sp_X12_set S x1 x2 x3).2 := by
  refine mo_start (lv0 := [some (.ref W.1), some (.int x1), some (.int x2), some (.int x3), none]) (by decide +kernel) rfl (Nat.le_of_ble_eq_true rfl) rfl ?_
  intro g0 g hT
  refine ev_aload_n dX12_set_0 rfl rfl ?_
  refine ev_iload_n dX12_set_1 rfl rfl ?_
  refine mo_call1 (d' := d - 1) hE hT dX12_set_2 rfl rfl kX12_isPaper lX12_188 iX12_isPaper vX12_isPaper (Nat.le_of_ble_eq_true rfl) (by omega) (c_X12_isPaper hE (by omega)) (fun g hT => ?_)
  refine ev_if_eq (tgt := 29) dX12_set_5 (by decide) (fun c_5 => ?_) (fun c_5 => ?_)
  · refine ev_iconst (v := 0) dX12_set_29 (by decide) ?_
    have e9 : sp_X12_set S x1 x2 x3 = (0, (mo_up S 0 0 (mo_b (!sp_in x1 0 (S.1 1 0 - 1))))) := by unfold sp_X12_set; rw [if_pos c_5]
    exact ev_iret dX12_set_30 rfl rfl ⟨by rw [e9], by rw [e9]; exact hT⟩
  · have hv := (mo_vin (N := 12) hP hP2 (by decide) (by simpa [sp_bad_ne, mo_up] using mo_b_1 c_5)).1
    refine ev_aload_n dX12_set_8 rfl rfl ?_
    refine ev_iload_n dX12_set_9 rfl rfl ?_
    refine ev_iload_n dX12_set_10 rfl rfl ?_
    refine ev_pS2 (d' := d - 1) dX12_set_11 rfl kX12_isSet lX12_192 sX12_isSet (Nat.le_of_ble_eq_true rfl) (by omega) (c_X12_isSet (by omega)) ?_
    have K_22 : ∀ (g : ev_H) (hT : mo_T G W g0 g (mo_up S 0 0 (mo_b (!sp_in x1 0 (S.1 1 0 - 1))))), ∀ x9 : Int32, x9 = (mo_b (if (mo_b (sp_X12_isSet x2 x3)) = 0 then true else false)) → ev_V G d 0 0 mX12_set (fun o g' => o = .inl (some (.int (sp_X12_set S x1 x2 x3).1)) ∧ mo_T G W g0 g' (sp_X12_set S x1 x2 x3).2) g 22 [some (.ref W.1), some (.int x1), some (.int x2), some (.int x3), none] (.int x9 :: .ref W.1 :: []) := by
      intro g hT x9 h9
      subst h9
      refine ev_iconst (v := 2) dX12_set_22 (by decide) ?_
      refine mo_call2 (d' := d - 1) hE hT dX12_set_23 rfl rfl kX12_bad lX12_181 iX12_bad vX12_bad (Nat.le_of_ble_eq_true rfl) (by omega) (c_X12_bad hE) (fun g hT => ?_)
      refine ev_if_eq (tgt := 31) dX12_set_26 (by decide) (fun c_26 => ?_) (fun c_26 => ?_)
      · refine ev_aload_n dX12_set_31 rfl rfl ?_
        refine mo_geta hE hT dX12_set_32 fX12_37 (by decide) ?_
        refine ev_iload_n dX12_set_35 rfl rfl ?_
        refine mo_ialdE (v := (S.1 12 (x1).toNatClampNeg)) hE hT dX12_set_36 (by decide) (show vp_in _ 12 from hv) (by simp [sp_bad_ne, mo_up]) ?_
        refine ev_iconst (v := 2) dX12_set_37 (by decide) ?_
        refine ev_icmp_ne (tgt := 43) dX12_set_38 (by decide) (fun c_38 => ?_) (fun c_38 => ?_)
        · refine ev_iload_n dX12_set_43 rfl rfl ?_
          have K_90 : ∀ (g : ev_H) (hT : mo_T G W g0 g (sp_bad (if (mo_b (sp_X12_isSet x2 x3)) = 0 then true else false) 2 (mo_up S 0 0 (mo_b (!sp_in x1 0 (S.1 1 0 - 1)))))), ∀ x9 : Int32, x9 = (if x2 = 0 then (S.1 5 (x1).toNatClampNeg) else (if x2 = 1 then (S.1 6 (x1).toNatClampNeg) else (if x2 = 2 then (S.1 7 (x1).toNatClampNeg) else (S.1 8 (x1).toNatClampNeg)))) → ev_V G d 0 0 mX12_set (fun o g' => o = .inl (some (.int (sp_X12_set S x1 x2 x3).1)) ∧ mo_T G W g0 g' (sp_X12_set S x1 x2 x3).2) g 90 [some (.ref W.1), some (.int x1), some (.int x2), some (.int x3), none] (.int x9 :: []) := by
            intro g hT x9 h9
            subst h9
            refine ev_istore dX12_set_90 (Nat.le_of_ble_eq_true rfl) rfl ?_
            refine ev_iload_n dX12_set_92 rfl rfl ?_
            refine ev_if_ne (tgt := 106) dX12_set_93 (by decide) (fun c_93 => ?_) (fun c_93 => ?_)
            · refine ev_iload_n dX12_set_106 rfl rfl ?_
              refine ev_iconst (v := 1) dX12_set_107 (by decide) ?_
              refine ev_icmp_ne (tgt := 121) dX12_set_108 (by decide) (fun c_108 => ?_) (fun c_108 => ?_)
              · refine ev_iload_n dX12_set_121 rfl rfl ?_
                refine ev_iconst (v := 2) dX12_set_122 (by decide) ?_
                refine ev_icmp_ne (tgt := 136) dX12_set_123 (by decide) (fun c_123 => ?_) (fun c_123 => ?_)
                · refine ev_aload_n dX12_set_136 rfl rfl ?_
                  refine mo_geta hE hT dX12_set_137 fX12_25 (by decide) ?_
                  refine ev_iload_n dX12_set_140 rfl rfl ?_
                  refine ev_iload_n dX12_set_141 rfl rfl ?_
                  refine mo_iastV hE hT dX12_set_142 (by decide) (show vp_in _ 12 from hv) (fun g hT => ?_)
                  refine ev_iload dX12_set_143 rfl ?_
                  have e9 : sp_X12_set S x1 x2 x3 = ((if x2 = 0 then (S.1 5 (x1).toNatClampNeg) else (if x2 = 1 then (S.1 6 (x1).toNatClampNeg) else (if x2 = 2 then (S.1 7 (x1).toNatClampNeg) else (S.1 8 (x1).toNatClampNeg)))), (mo_up (sp_bad (if (mo_b (sp_X12_isSet x2 x3)) = 0 then true else false) 2 (mo_up S 0 0 (mo_b (!sp_in x1 0 (S.1 1 0 - 1))))) 8 (x1).toNatClampNeg x3)) := by unfold sp_X12_set; rw [if_neg c_5, if_pos c_26, if_neg c_38, if_neg c_93, if_neg c_108, if_neg c_123]
                  exact ev_iret dX12_set_145 rfl rfl ⟨by rw [e9], by rw [e9]; exact hT⟩
                · refine ev_aload_n dX12_set_126 rfl rfl ?_
                  refine mo_geta hE hT dX12_set_127 fX12_22 (by decide) ?_
                  refine ev_iload_n dX12_set_130 rfl rfl ?_
                  refine ev_iload_n dX12_set_131 rfl rfl ?_
                  refine mo_iastV hE hT dX12_set_132 (by decide) (show vp_in _ 12 from hv) (fun g hT => ?_)
                  refine ev_goto (tgt := 143) dX12_set_133 (by decide) ?_
                  refine ev_iload dX12_set_143 rfl ?_
                  have e9 : sp_X12_set S x1 x2 x3 = ((if x2 = 0 then (S.1 5 (x1).toNatClampNeg) else (if x2 = 1 then (S.1 6 (x1).toNatClampNeg) else (if x2 = 2 then (S.1 7 (x1).toNatClampNeg) else (S.1 8 (x1).toNatClampNeg)))), (mo_up (sp_bad (if (mo_b (sp_X12_isSet x2 x3)) = 0 then true else false) 2 (mo_up S 0 0 (mo_b (!sp_in x1 0 (S.1 1 0 - 1))))) 7 (x1).toNatClampNeg x3)) := by unfold sp_X12_set; rw [if_neg c_5, if_pos c_26, if_neg c_38, if_neg c_93, if_neg c_108, if_pos c_123]
                  exact ev_iret dX12_set_145 rfl rfl ⟨by rw [e9], by rw [e9]; exact hT⟩
              · refine ev_aload_n dX12_set_111 rfl rfl ?_
                refine mo_geta hE hT dX12_set_112 fX12_19 (by decide) ?_
                refine ev_iload_n dX12_set_115 rfl rfl ?_
                refine ev_iload_n dX12_set_116 rfl rfl ?_
                refine mo_iastV hE hT dX12_set_117 (by decide) (show vp_in _ 12 from hv) (fun g hT => ?_)
                refine ev_goto (tgt := 143) dX12_set_118 (by decide) ?_
                refine ev_iload dX12_set_143 rfl ?_
                have e9 : sp_X12_set S x1 x2 x3 = ((if x2 = 0 then (S.1 5 (x1).toNatClampNeg) else (if x2 = 1 then (S.1 6 (x1).toNatClampNeg) else (if x2 = 2 then (S.1 7 (x1).toNatClampNeg) else (S.1 8 (x1).toNatClampNeg)))), (mo_up (sp_bad (if (mo_b (sp_X12_isSet x2 x3)) = 0 then true else false) 2 (mo_up S 0 0 (mo_b (!sp_in x1 0 (S.1 1 0 - 1))))) 6 (x1).toNatClampNeg x3)) := by unfold sp_X12_set; rw [if_neg c_5, if_pos c_26, if_neg c_38, if_neg c_93, if_pos c_108]
                exact ev_iret dX12_set_145 rfl rfl ⟨by rw [e9], by rw [e9]; exact hT⟩
            · refine ev_aload_n dX12_set_96 rfl rfl ?_
              refine mo_geta hE hT dX12_set_97 fX12_16 (by decide) ?_
              refine ev_iload_n dX12_set_100 rfl rfl ?_
              refine ev_iload_n dX12_set_101 rfl rfl ?_
              refine mo_iastV hE hT dX12_set_102 (by decide) (show vp_in _ 12 from hv) (fun g hT => ?_)
              refine ev_goto (tgt := 143) dX12_set_103 (by decide) ?_
              refine ev_iload dX12_set_143 rfl ?_
              have e9 : sp_X12_set S x1 x2 x3 = ((if x2 = 0 then (S.1 5 (x1).toNatClampNeg) else (if x2 = 1 then (S.1 6 (x1).toNatClampNeg) else (if x2 = 2 then (S.1 7 (x1).toNatClampNeg) else (S.1 8 (x1).toNatClampNeg)))), (mo_up (sp_bad (if (mo_b (sp_X12_isSet x2 x3)) = 0 then true else false) 2 (mo_up S 0 0 (mo_b (!sp_in x1 0 (S.1 1 0 - 1))))) 5 (x1).toNatClampNeg x3)) := by unfold sp_X12_set; rw [if_neg c_5, if_pos c_26, if_neg c_38, if_pos c_93]
              exact ev_iret dX12_set_145 rfl rfl ⟨by rw [e9], by rw [e9]; exact hT⟩
          refine ev_if_ne (tgt := 56) dX12_set_44 (by decide) (fun c_44 => ?_) (fun c_44 => ?_)
          · refine ev_iload_n dX12_set_56 rfl rfl ?_
            refine ev_iconst (v := 1) dX12_set_57 (by decide) ?_
            refine ev_icmp_ne (tgt := 70) dX12_set_58 (by decide) (fun c_58 => ?_) (fun c_58 => ?_)
            · refine ev_iload_n dX12_set_70 rfl rfl ?_
              refine ev_iconst (v := 2) dX12_set_71 (by decide) ?_
              refine ev_icmp_ne (tgt := 84) dX12_set_72 (by decide) (fun c_72 => ?_) (fun c_72 => ?_)
              · refine ev_aload_n dX12_set_84 rfl rfl ?_
                refine mo_geta hE hT dX12_set_85 fX12_25 (by decide) ?_
                refine ev_iload_n dX12_set_88 rfl rfl ?_
                refine mo_ialdE (v := (S.1 8 (x1).toNatClampNeg)) hE hT dX12_set_89 (by decide) (show vp_in _ 12 from hv) (by simp [sp_bad_ne, mo_up]) ?_
                exact K_90 g hT _ (by rw [if_neg c_44, if_neg c_58, if_neg c_72])
              · refine ev_aload_n dX12_set_75 rfl rfl ?_
                refine mo_geta hE hT dX12_set_76 fX12_22 (by decide) ?_
                refine ev_iload_n dX12_set_79 rfl rfl ?_
                refine mo_ialdE (v := (S.1 7 (x1).toNatClampNeg)) hE hT dX12_set_80 (by decide) (show vp_in _ 12 from hv) (by simp [sp_bad_ne, mo_up]) ?_
                refine ev_goto (tgt := 90) dX12_set_81 (by decide) ?_
                exact K_90 g hT _ (by rw [if_neg c_44, if_neg c_58, if_pos c_72])
            · refine ev_aload_n dX12_set_61 rfl rfl ?_
              refine mo_geta hE hT dX12_set_62 fX12_19 (by decide) ?_
              refine ev_iload_n dX12_set_65 rfl rfl ?_
              refine mo_ialdE (v := (S.1 6 (x1).toNatClampNeg)) hE hT dX12_set_66 (by decide) (show vp_in _ 12 from hv) (by simp [sp_bad_ne, mo_up]) ?_
              refine ev_goto (tgt := 90) dX12_set_67 (by decide) ?_
              exact K_90 g hT _ (by rw [if_neg c_44, if_pos c_58])
          · refine ev_aload_n dX12_set_47 rfl rfl ?_
            refine mo_geta hE hT dX12_set_48 fX12_16 (by decide) ?_
            refine ev_iload_n dX12_set_51 rfl rfl ?_
            refine mo_ialdE (v := (S.1 5 (x1).toNatClampNeg)) hE hT dX12_set_52 (by decide) (show vp_in _ 12 from hv) (by simp [sp_bad_ne, mo_up]) ?_
            refine ev_goto (tgt := 90) dX12_set_53 (by decide) ?_
            exact K_90 g hT _ (by rw [if_pos c_44])
        · refine ev_iconst (v := (-1)) dX12_set_41 (by decide) ?_
          have e9 : sp_X12_set S x1 x2 x3 = ((-1), (sp_bad (if (mo_b (sp_X12_isSet x2 x3)) = 0 then true else false) 2 (mo_up S 0 0 (mo_b (!sp_in x1 0 (S.1 1 0 - 1)))))) := by unfold sp_X12_set; rw [if_neg c_5, if_pos c_26, if_pos c_38]
          exact ev_iret dX12_set_42 rfl rfl ⟨by rw [e9], by rw [e9]; exact hT⟩
      · refine ev_iconst (v := 0) dX12_set_29 (by decide) ?_
        have e9 : sp_X12_set S x1 x2 x3 = (0, (sp_bad (if (mo_b (sp_X12_isSet x2 x3)) = 0 then true else false) 2 (mo_up S 0 0 (mo_b (!sp_in x1 0 (S.1 1 0 - 1)))))) := by unfold sp_X12_set; rw [if_neg c_5, if_neg c_26]
        exact ev_iret dX12_set_30 rfl rfl ⟨by rw [e9], by rw [e9]; exact hT⟩
    refine ev_if_ne (tgt := 21) dX12_set_14 (by decide) (fun c_14 => ?_) (fun c_14 => ?_)
    · refine ev_iconst (v := 0) dX12_set_21 (by decide) ?_
      exact K_22 g hT _ (by rw [if_neg c_14]; rfl)
    · refine ev_iconst (v := 1) dX12_set_17 (by decide) ?_
      refine ev_goto (tgt := 22) dX12_set_18 (by decide) ?_
      exact K_22 g hT _ (by rw [if_pos c_14]; rfl)
def sp_X12_told (S : mo_S) (x1 x2 : Int32) : Int32 × mo_S :=
  (if (mo_b (sp_in x1 0 (S.1 1 0 - 1))) = 0 then (0, (mo_up S 0 0 (mo_b (!sp_in x1 0 (S.1 1 0 - 1))))) else (if (mo_b (if (mo_b (sp_in x2 0 10)) = 0 then true else false)) = 0 then (if x2 = 0 then ((S.1 3 (x1).toNatClampNeg), (sp_bad (if (mo_b (sp_in x2 0 10)) = 0 then true else false) 2 (mo_up S 0 0 (mo_b (!sp_in x1 0 (S.1 1 0 - 1)))))) else (if x2 = 1 then ((S.1 4 (x1).toNatClampNeg), (sp_bad (if (mo_b (sp_in x2 0 10)) = 0 then true else false) 2 (mo_up S 0 0 (mo_b (!sp_in x1 0 (S.1 1 0 - 1)))))) else (if x2 = 2 then ((S.1 5 (x1).toNatClampNeg), (sp_bad (if (mo_b (sp_in x2 0 10)) = 0 then true else false) 2 (mo_up S 0 0 (mo_b (!sp_in x1 0 (S.1 1 0 - 1)))))) else (if x2 = 3 then ((S.1 6 (x1).toNatClampNeg), (sp_bad (if (mo_b (sp_in x2 0 10)) = 0 then true else false) 2 (mo_up S 0 0 (mo_b (!sp_in x1 0 (S.1 1 0 - 1)))))) else (if x2 = 4 then ((S.1 7 (x1).toNatClampNeg), (sp_bad (if (mo_b (sp_in x2 0 10)) = 0 then true else false) 2 (mo_up S 0 0 (mo_b (!sp_in x1 0 (S.1 1 0 - 1)))))) else (if x2 = 5 then ((S.1 8 (x1).toNatClampNeg), (sp_bad (if (mo_b (sp_in x2 0 10)) = 0 then true else false) 2 (mo_up S 0 0 (mo_b (!sp_in x1 0 (S.1 1 0 - 1)))))) else (if x2 = 6 then ((S.1 9 (x1).toNatClampNeg), (sp_bad (if (mo_b (sp_in x2 0 10)) = 0 then true else false) 2 (mo_up S 0 0 (mo_b (!sp_in x1 0 (S.1 1 0 - 1)))))) else (if x2 = 7 then ((S.1 10 (x1).toNatClampNeg), (sp_bad (if (mo_b (sp_in x2 0 10)) = 0 then true else false) 2 (mo_up S 0 0 (mo_b (!sp_in x1 0 (S.1 1 0 - 1)))))) else (if x2 = 8 then ((S.1 11 (x1).toNatClampNeg), (sp_bad (if (mo_b (sp_in x2 0 10)) = 0 then true else false) 2 (mo_up S 0 0 (mo_b (!sp_in x1 0 (S.1 1 0 - 1)))))) else (if x2 = 9 then ((S.1 12 (x1).toNatClampNeg), (sp_bad (if (mo_b (sp_in x2 0 10)) = 0 then true else false) 2 (mo_up S 0 0 (mo_b (!sp_in x1 0 (S.1 1 0 - 1)))))) else ((S.1 13 (x1).toNatClampNeg), (sp_bad (if (mo_b (sp_in x2 0 10)) = 0 then true else false) 2 (mo_up S 0 0 (mo_b (!sp_in x1 0 (S.1 1 0 - 1)))))))))))))))) else (0, (sp_bad (if (mo_b (sp_in x2 0 10)) = 0 then true else false) 2 (mo_up S 0 0 (mo_b (!sp_in x1 0 (S.1 1 0 - 1))))))))
theorem c_X12_told {G : ev_G} {W : mo_W} {d : Nat} {S : mo_S} {x1 x2 : Int32} (hE : ev_En G) (hd : 2 ≤ d) {P : Nat} (hP : S.1 1 0 = nI P) (hP2 : P ≤ 12) : mo_C G W d mX12_told [.int x1, .int x2] S (some (.int (sp_X12_told S x1 x2).1)) (sp_X12_told S x1 x2).2 := by
  refine mo_start (lv0 := [some (.ref W.1), some (.int x1), some (.int x2)]) (by decide +kernel) rfl (Nat.le_of_ble_eq_true rfl) rfl ?_
  intro g0 g hT
  refine ev_aload_n dX12_told_0 rfl rfl ?_
  refine ev_iload_n dX12_told_1 rfl rfl ?_
  refine mo_call1 (d' := d - 1) hE hT dX12_told_2 rfl rfl kX12_isPaper lX12_188 iX12_isPaper vX12_isPaper (Nat.le_of_ble_eq_true rfl) (by omega) (c_X12_isPaper hE (by omega)) (fun g hT => ?_)
  refine ev_if_eq (tgt := 31) dX12_told_5 (by decide) (fun c_5 => ?_) (fun c_5 => ?_)
  · refine ev_iconst (v := 0) dX12_told_31 (by decide) ?_
    have e9 : sp_X12_told S x1 x2 = (0, (mo_up S 0 0 (mo_b (!sp_in x1 0 (S.1 1 0 - 1))))) := by unfold sp_X12_told; rw [if_pos c_5]
    exact ev_iret dX12_told_32 rfl rfl ⟨by rw [e9], by rw [e9]; exact hT⟩
  · have hv := (mo_vin (N := 12) hP hP2 (by decide) (by simpa [sp_bad_ne, mo_up] using mo_b_1 c_5)).1
    refine ev_aload_n dX12_told_8 rfl rfl ?_
    refine ev_iload_n dX12_told_9 rfl rfl ?_
    refine ev_iconst (v := 0) dX12_told_10 (by decide) ?_
    refine ev_bipush (v := 10) dX12_told_11 (by decide) ?_
    refine ev_pS3 (d' := d - 1) dX12_told_13 rfl kX12_in lX12_176 sX12_in (Nat.le_of_ble_eq_true rfl) (by omega) (c_X12_in) ?_
    have K_24 : ∀ (g : ev_H) (hT : mo_T G W g0 g (mo_up S 0 0 (mo_b (!sp_in x1 0 (S.1 1 0 - 1))))), ∀ x9 : Int32, x9 = (mo_b (if (mo_b (sp_in x2 0 10)) = 0 then true else false)) → ev_V G d 0 0 mX12_told (fun o g' => o = .inl (some (.int (sp_X12_told S x1 x2).1)) ∧ mo_T G W g0 g' (sp_X12_told S x1 x2).2) g 24 [some (.ref W.1), some (.int x1), some (.int x2)] (.int x9 :: .ref W.1 :: []) := by
      intro g hT x9 h9
      subst h9
      refine ev_iconst (v := 2) dX12_told_24 (by decide) ?_
      refine mo_call2 (d' := d - 1) hE hT dX12_told_25 rfl rfl kX12_bad lX12_181 iX12_bad vX12_bad (Nat.le_of_ble_eq_true rfl) (by omega) (c_X12_bad hE) (fun g hT => ?_)
      refine ev_if_eq (tgt := 33) dX12_told_28 (by decide) (fun c_28 => ?_) (fun c_28 => ?_)
      · refine ev_iload_n dX12_told_33 rfl rfl ?_
        by_cases c_34_0 : x2 = 0
        · refine ev_tableIn (tgt := 88) (off := 54) dX12_told_34 (by rw [c_34_0]; decide) (by rw [c_34_0]; decide) (by rw [c_34_0]; rfl) (by decide) ?_
          refine ev_aload_n dX12_told_88 rfl rfl ?_
          refine mo_geta hE hT dX12_told_89 fX12_9 (by decide) ?_
          refine ev_iload_n dX12_told_92 rfl rfl ?_
          refine mo_ialdE (v := (S.1 3 (x1).toNatClampNeg)) hE hT dX12_told_93 (by decide) (show vp_in _ 12 from hv) (by simp [sp_bad_ne, mo_up]) ?_
          have e9 : sp_X12_told S x1 x2 = ((S.1 3 (x1).toNatClampNeg), (sp_bad (if (mo_b (sp_in x2 0 10)) = 0 then true else false) 2 (mo_up S 0 0 (mo_b (!sp_in x1 0 (S.1 1 0 - 1)))))) := by unfold sp_X12_told; rw [if_neg c_5, if_pos c_28, if_pos c_34_0]
          exact ev_iret dX12_told_94 rfl rfl ⟨by rw [e9], by rw [e9]; exact hT⟩
        · by_cases c_34_1 : x2 = 1
          · refine ev_tableIn (tgt := 95) (off := 61) dX12_told_34 (by rw [c_34_1]; decide) (by rw [c_34_1]; decide) (by rw [c_34_1]; rfl) (by decide) ?_
            refine ev_aload_n dX12_told_95 rfl rfl ?_
            refine mo_geta hE hT dX12_told_96 fX12_13 (by decide) ?_
            refine ev_iload_n dX12_told_99 rfl rfl ?_
            refine mo_ialdE (v := (S.1 4 (x1).toNatClampNeg)) hE hT dX12_told_100 (by decide) (show vp_in _ 12 from hv) (by simp [sp_bad_ne, mo_up]) ?_
            have e9 : sp_X12_told S x1 x2 = ((S.1 4 (x1).toNatClampNeg), (sp_bad (if (mo_b (sp_in x2 0 10)) = 0 then true else false) 2 (mo_up S 0 0 (mo_b (!sp_in x1 0 (S.1 1 0 - 1)))))) := by unfold sp_X12_told; rw [if_neg c_5, if_pos c_28, if_neg c_34_0, if_pos c_34_1]
            exact ev_iret dX12_told_101 rfl rfl ⟨by rw [e9], by rw [e9]; exact hT⟩
          · by_cases c_34_2 : x2 = 2
            · refine ev_tableIn (tgt := 102) (off := 68) dX12_told_34 (by rw [c_34_2]; decide) (by rw [c_34_2]; decide) (by rw [c_34_2]; rfl) (by decide) ?_
              refine ev_aload_n dX12_told_102 rfl rfl ?_
              refine mo_geta hE hT dX12_told_103 fX12_16 (by decide) ?_
              refine ev_iload_n dX12_told_106 rfl rfl ?_
              refine mo_ialdE (v := (S.1 5 (x1).toNatClampNeg)) hE hT dX12_told_107 (by decide) (show vp_in _ 12 from hv) (by simp [sp_bad_ne, mo_up]) ?_
              have e9 : sp_X12_told S x1 x2 = ((S.1 5 (x1).toNatClampNeg), (sp_bad (if (mo_b (sp_in x2 0 10)) = 0 then true else false) 2 (mo_up S 0 0 (mo_b (!sp_in x1 0 (S.1 1 0 - 1)))))) := by unfold sp_X12_told; rw [if_neg c_5, if_pos c_28, if_neg c_34_0, if_neg c_34_1, if_pos c_34_2]
              exact ev_iret dX12_told_108 rfl rfl ⟨by rw [e9], by rw [e9]; exact hT⟩
            · by_cases c_34_3 : x2 = 3
              · refine ev_tableIn (tgt := 109) (off := 75) dX12_told_34 (by rw [c_34_3]; decide) (by rw [c_34_3]; decide) (by rw [c_34_3]; rfl) (by decide) ?_
                refine ev_aload_n dX12_told_109 rfl rfl ?_
                refine mo_geta hE hT dX12_told_110 fX12_19 (by decide) ?_
                refine ev_iload_n dX12_told_113 rfl rfl ?_
                refine mo_ialdE (v := (S.1 6 (x1).toNatClampNeg)) hE hT dX12_told_114 (by decide) (show vp_in _ 12 from hv) (by simp [sp_bad_ne, mo_up]) ?_
                have e9 : sp_X12_told S x1 x2 = ((S.1 6 (x1).toNatClampNeg), (sp_bad (if (mo_b (sp_in x2 0 10)) = 0 then true else false) 2 (mo_up S 0 0 (mo_b (!sp_in x1 0 (S.1 1 0 - 1)))))) := by unfold sp_X12_told; rw [if_neg c_5, if_pos c_28, if_neg c_34_0, if_neg c_34_1, if_neg c_34_2, if_pos c_34_3]
                exact ev_iret dX12_told_115 rfl rfl ⟨by rw [e9], by rw [e9]; exact hT⟩
              · by_cases c_34_4 : x2 = 4
                · refine ev_tableIn (tgt := 116) (off := 82) dX12_told_34 (by rw [c_34_4]; decide) (by rw [c_34_4]; decide) (by rw [c_34_4]; rfl) (by decide) ?_
                  refine ev_aload_n dX12_told_116 rfl rfl ?_
                  refine mo_geta hE hT dX12_told_117 fX12_22 (by decide) ?_
                  refine ev_iload_n dX12_told_120 rfl rfl ?_
                  refine mo_ialdE (v := (S.1 7 (x1).toNatClampNeg)) hE hT dX12_told_121 (by decide) (show vp_in _ 12 from hv) (by simp [sp_bad_ne, mo_up]) ?_
                  have e9 : sp_X12_told S x1 x2 = ((S.1 7 (x1).toNatClampNeg), (sp_bad (if (mo_b (sp_in x2 0 10)) = 0 then true else false) 2 (mo_up S 0 0 (mo_b (!sp_in x1 0 (S.1 1 0 - 1)))))) := by unfold sp_X12_told; rw [if_neg c_5, if_pos c_28, if_neg c_34_0, if_neg c_34_1, if_neg c_34_2, if_neg c_34_3, if_pos c_34_4]
                  exact ev_iret dX12_told_122 rfl rfl ⟨by rw [e9], by rw [e9]; exact hT⟩
                · by_cases c_34_5 : x2 = 5
                  · refine ev_tableIn (tgt := 123) (off := 89) dX12_told_34 (by rw [c_34_5]; decide) (by rw [c_34_5]; decide) (by rw [c_34_5]; rfl) (by decide) ?_
                    refine ev_aload_n dX12_told_123 rfl rfl ?_
                    refine mo_geta hE hT dX12_told_124 fX12_25 (by decide) ?_
                    refine ev_iload_n dX12_told_127 rfl rfl ?_
                    refine mo_ialdE (v := (S.1 8 (x1).toNatClampNeg)) hE hT dX12_told_128 (by decide) (show vp_in _ 12 from hv) (by simp [sp_bad_ne, mo_up]) ?_
                    have e9 : sp_X12_told S x1 x2 = ((S.1 8 (x1).toNatClampNeg), (sp_bad (if (mo_b (sp_in x2 0 10)) = 0 then true else false) 2 (mo_up S 0 0 (mo_b (!sp_in x1 0 (S.1 1 0 - 1)))))) := by unfold sp_X12_told; rw [if_neg c_5, if_pos c_28, if_neg c_34_0, if_neg c_34_1, if_neg c_34_2, if_neg c_34_3, if_neg c_34_4, if_pos c_34_5]
                    exact ev_iret dX12_told_129 rfl rfl ⟨by rw [e9], by rw [e9]; exact hT⟩
                  · by_cases c_34_6 : x2 = 6
                    · refine ev_tableIn (tgt := 130) (off := 96) dX12_told_34 (by rw [c_34_6]; decide) (by rw [c_34_6]; decide) (by rw [c_34_6]; rfl) (by decide) ?_
                      refine ev_aload_n dX12_told_130 rfl rfl ?_
                      refine mo_geta hE hT dX12_told_131 fX12_28 (by decide) ?_
                      refine ev_iload_n dX12_told_134 rfl rfl ?_
                      refine mo_ialdE (v := (S.1 9 (x1).toNatClampNeg)) hE hT dX12_told_135 (by decide) (show vp_in _ 12 from hv) (by simp [sp_bad_ne, mo_up]) ?_
                      have e9 : sp_X12_told S x1 x2 = ((S.1 9 (x1).toNatClampNeg), (sp_bad (if (mo_b (sp_in x2 0 10)) = 0 then true else false) 2 (mo_up S 0 0 (mo_b (!sp_in x1 0 (S.1 1 0 - 1)))))) := by unfold sp_X12_told; rw [if_neg c_5, if_pos c_28, if_neg c_34_0, if_neg c_34_1, if_neg c_34_2, if_neg c_34_3, if_neg c_34_4, if_neg c_34_5, if_pos c_34_6]
                      exact ev_iret dX12_told_136 rfl rfl ⟨by rw [e9], by rw [e9]; exact hT⟩
                    · by_cases c_34_7 : x2 = 7
                      · refine ev_tableIn (tgt := 137) (off := 103) dX12_told_34 (by rw [c_34_7]; decide) (by rw [c_34_7]; decide) (by rw [c_34_7]; rfl) (by decide) ?_
                        refine ev_aload_n dX12_told_137 rfl rfl ?_
                        refine mo_geta hE hT dX12_told_138 fX12_31 (by decide) ?_
                        refine ev_iload_n dX12_told_141 rfl rfl ?_
                        refine mo_ialdE (v := (S.1 10 (x1).toNatClampNeg)) hE hT dX12_told_142 (by decide) (show vp_in _ 12 from hv) (by simp [sp_bad_ne, mo_up]) ?_
                        have e9 : sp_X12_told S x1 x2 = ((S.1 10 (x1).toNatClampNeg), (sp_bad (if (mo_b (sp_in x2 0 10)) = 0 then true else false) 2 (mo_up S 0 0 (mo_b (!sp_in x1 0 (S.1 1 0 - 1)))))) := by unfold sp_X12_told; rw [if_neg c_5, if_pos c_28, if_neg c_34_0, if_neg c_34_1, if_neg c_34_2, if_neg c_34_3, if_neg c_34_4, if_neg c_34_5, if_neg c_34_6, if_pos c_34_7]
                        exact ev_iret dX12_told_143 rfl rfl ⟨by rw [e9], by rw [e9]; exact hT⟩
                      · by_cases c_34_8 : x2 = 8
                        · refine ev_tableIn (tgt := 144) (off := 110) dX12_told_34 (by rw [c_34_8]; decide) (by rw [c_34_8]; decide) (by rw [c_34_8]; rfl) (by decide) ?_
                          refine ev_aload_n dX12_told_144 rfl rfl ?_
                          refine mo_geta hE hT dX12_told_145 fX12_34 (by decide) ?_
                          refine ev_iload_n dX12_told_148 rfl rfl ?_
                          refine mo_ialdE (v := (S.1 11 (x1).toNatClampNeg)) hE hT dX12_told_149 (by decide) (show vp_in _ 12 from hv) (by simp [sp_bad_ne, mo_up]) ?_
                          have e9 : sp_X12_told S x1 x2 = ((S.1 11 (x1).toNatClampNeg), (sp_bad (if (mo_b (sp_in x2 0 10)) = 0 then true else false) 2 (mo_up S 0 0 (mo_b (!sp_in x1 0 (S.1 1 0 - 1)))))) := by unfold sp_X12_told; rw [if_neg c_5, if_pos c_28, if_neg c_34_0, if_neg c_34_1, if_neg c_34_2, if_neg c_34_3, if_neg c_34_4, if_neg c_34_5, if_neg c_34_6, if_neg c_34_7, if_pos c_34_8]
                          exact ev_iret dX12_told_150 rfl rfl ⟨by rw [e9], by rw [e9]; exact hT⟩
                        · by_cases c_34_9 : x2 = 9
                          · refine ev_tableIn (tgt := 151) (off := 117) dX12_told_34 (by rw [c_34_9]; decide) (by rw [c_34_9]; decide) (by rw [c_34_9]; rfl) (by decide) ?_
                            refine ev_aload_n dX12_told_151 rfl rfl ?_
                            refine mo_geta hE hT dX12_told_152 fX12_37 (by decide) ?_
                            refine ev_iload_n dX12_told_155 rfl rfl ?_
                            refine mo_ialdE (v := (S.1 12 (x1).toNatClampNeg)) hE hT dX12_told_156 (by decide) (show vp_in _ 12 from hv) (by simp [sp_bad_ne, mo_up]) ?_
                            have e9 : sp_X12_told S x1 x2 = ((S.1 12 (x1).toNatClampNeg), (sp_bad (if (mo_b (sp_in x2 0 10)) = 0 then true else false) 2 (mo_up S 0 0 (mo_b (!sp_in x1 0 (S.1 1 0 - 1)))))) := by unfold sp_X12_told; rw [if_neg c_5, if_pos c_28, if_neg c_34_0, if_neg c_34_1, if_neg c_34_2, if_neg c_34_3, if_neg c_34_4, if_neg c_34_5, if_neg c_34_6, if_neg c_34_7, if_neg c_34_8, if_pos c_34_9]
                            exact ev_iret dX12_told_157 rfl rfl ⟨by rw [e9], by rw [e9]; exact hT⟩
                          · refine ev_tableOut (tgt := 158) dX12_told_34 (by have h0 : (x2).toInt ≠ 0 := fun q => c_34_0 (Int32.toInt_inj.mp (by rw [q]; rfl)); have h1 : (x2).toInt ≠ 1 := fun q => c_34_1 (Int32.toInt_inj.mp (by rw [q]; rfl)); have h2 : (x2).toInt ≠ 2 := fun q => c_34_2 (Int32.toInt_inj.mp (by rw [q]; rfl)); have h3 : (x2).toInt ≠ 3 := fun q => c_34_3 (Int32.toInt_inj.mp (by rw [q]; rfl)); have h4 : (x2).toInt ≠ 4 := fun q => c_34_4 (Int32.toInt_inj.mp (by rw [q]; rfl)); have h5 : (x2).toInt ≠ 5 := fun q => c_34_5 (Int32.toInt_inj.mp (by rw [q]; rfl)); have h6 : (x2).toInt ≠ 6 := fun q => c_34_6 (Int32.toInt_inj.mp (by rw [q]; rfl)); have h7 : (x2).toInt ≠ 7 := fun q => c_34_7 (Int32.toInt_inj.mp (by rw [q]; rfl)); have h8 : (x2).toInt ≠ 8 := fun q => c_34_8 (Int32.toInt_inj.mp (by rw [q]; rfl)); have h9 : (x2).toInt ≠ 9 := fun q => c_34_9 (Int32.toInt_inj.mp (by rw [q]; rfl)); omega) (by decide) ?_
                            refine ev_aload_n dX12_told_158 rfl rfl ?_
                            refine mo_geta hE hT dX12_told_159 fX12_40 (by decide) ?_
                            refine ev_iload_n dX12_told_162 rfl rfl ?_
                            refine mo_ialdE (v := (S.1 13 (x1).toNatClampNeg)) hE hT dX12_told_163 (by decide) (show vp_in _ 12 from hv) (by simp [sp_bad_ne, mo_up]) ?_
                            have e9 : sp_X12_told S x1 x2 = ((S.1 13 (x1).toNatClampNeg), (sp_bad (if (mo_b (sp_in x2 0 10)) = 0 then true else false) 2 (mo_up S 0 0 (mo_b (!sp_in x1 0 (S.1 1 0 - 1)))))) := by unfold sp_X12_told; rw [if_neg c_5, if_pos c_28, if_neg c_34_0, if_neg c_34_1, if_neg c_34_2, if_neg c_34_3, if_neg c_34_4, if_neg c_34_5, if_neg c_34_6, if_neg c_34_7, if_neg c_34_8, if_neg c_34_9]
                            exact ev_iret dX12_told_164 rfl rfl ⟨by rw [e9], by rw [e9]; exact hT⟩
      · refine ev_iconst (v := 0) dX12_told_31 (by decide) ?_
        have e9 : sp_X12_told S x1 x2 = (0, (sp_bad (if (mo_b (sp_in x2 0 10)) = 0 then true else false) 2 (mo_up S 0 0 (mo_b (!sp_in x1 0 (S.1 1 0 - 1)))))) := by unfold sp_X12_told; rw [if_neg c_5, if_neg c_28]
        exact ev_iret dX12_told_32 rfl rfl ⟨by rw [e9], by rw [e9]; exact hT⟩
    refine ev_if_ne (tgt := 23) dX12_told_16 (by decide) (fun c_16 => ?_) (fun c_16 => ?_)
    · refine ev_iconst (v := 0) dX12_told_23 (by decide) ?_
      exact K_24 g hT _ (by rw [if_neg c_16]; rfl)
    · refine ev_iconst (v := 1) dX12_told_19 (by decide) ?_
      refine ev_goto (tgt := 24) dX12_told_20 (by decide) ?_
      exact K_24 g hT _ (by rw [if_pos c_16]; rfl)
def sp_X12_paper (S : mo_S) (x1 x2 x3 x4 x5 : Int32) : Int32 × mo_S :=
  (if (mo_b (if (mo_b (sp_in x1 0 2)) = 0 then true else (if (mo_b (sp_in x2 0 100000)) = 0 then true else (if (mo_b (sp_in x3 0 1000)) = 0 then true else (if (mo_b (sp_in x4 2 64)) = 0 then true else (if (mo_b (sp_in x5 1 100)) = 0 then true else false)))))) = 0 then (if (mo_b (if (S.1 1 0) = 12 then true else false)) = 0 then ((((S.1 1 0) + 1) - 1), (mo_up (mo_up (mo_up (mo_up (mo_up (mo_up (mo_up (mo_up (mo_up (sp_bad (if (S.1 1 0) = 12 then true else false) 2 (sp_bad (if (mo_b (sp_in x1 0 2)) = 0 then true else (if (mo_b (sp_in x2 0 100000)) = 0 then true else (if (mo_b (sp_in x3 0 1000)) = 0 then true else (if (mo_b (sp_in x4 2 64)) = 0 then true else (if (mo_b (sp_in x5 1 100)) = 0 then true else false))))) 1 (mo_up S 0 0 0))) 3 ((S.1 1 0)).toNatClampNeg x1) 4 ((S.1 1 0)).toNatClampNeg x2) 5 ((S.1 1 0)).toNatClampNeg x3) 6 ((S.1 1 0)).toNatClampNeg x4) 7 ((S.1 1 0)).toNatClampNeg x5) 17 ((S.1 1 0)).toNatClampNeg (-1)) 19 ((S.1 1 0)).toNatClampNeg (-1)) 20 ((S.1 1 0)).toNatClampNeg (-1)) 1 0 ((S.1 1 0) + 1))) else (0, (sp_bad (if (S.1 1 0) = 12 then true else false) 2 (sp_bad (if (mo_b (sp_in x1 0 2)) = 0 then true else (if (mo_b (sp_in x2 0 100000)) = 0 then true else (if (mo_b (sp_in x3 0 1000)) = 0 then true else (if (mo_b (sp_in x4 2 64)) = 0 then true else (if (mo_b (sp_in x5 1 100)) = 0 then true else false))))) 1 (mo_up S 0 0 0))))) else (0, (sp_bad (if (mo_b (sp_in x1 0 2)) = 0 then true else (if (mo_b (sp_in x2 0 100000)) = 0 then true else (if (mo_b (sp_in x3 0 1000)) = 0 then true else (if (mo_b (sp_in x4 2 64)) = 0 then true else (if (mo_b (sp_in x5 1 100)) = 0 then true else false))))) 1 (mo_up S 0 0 0))))
theorem c_X12_paper {G : ev_G} {W : mo_W} {d : Nat} {S : mo_S} {x1 x2 x3 x4 x5 : Int32} (hE : ev_En G) (hd : 1 ≤ d) {P : Nat} (hP : S.1 1 0 = nI P) (hP2 : P ≤ 12) : mo_C G W d mX12_paper [.int x1, .int x2, .int x3, .int x4, .int x5] S (some (.int (sp_X12_paper S x1 x2 x3 x4 x5).1)) (sp_X12_paper S x1 x2 x3 x4 x5).2 := by
  refine mo_start (lv0 := [some (.ref W.1), some (.int x1), some (.int x2), some (.int x3), some (.int x4), some (.int x5), none]) (by decide +kernel) rfl (Nat.le_of_ble_eq_true rfl) rfl ?_
  intro g0 g hT
  refine ev_aload_n dX12_paper_0 rfl rfl ?_
  refine ev_iconst (v := 0) dX12_paper_1 (by decide) ?_
  refine mo_put hE hT dX12_paper_2 pX12_173 (by decide) (fun g hT => ?_)
  refine ev_iload_n dX12_paper_5 rfl rfl ?_
  refine ev_iconst (v := 0) dX12_paper_6 (by decide) ?_
  refine ev_iconst (v := 2) dX12_paper_7 (by decide) ?_
  refine ev_pS3 (d' := d - 1) dX12_paper_8 rfl kX12_in lX12_176 sX12_in (Nat.le_of_ble_eq_true rfl) (by omega) (c_X12_in) ?_
  have K_62 : ∀ (g : ev_H) (hT : mo_T G W g0 g (mo_up S 0 0 0)), ∀ x9 : Int32, x9 = (mo_b (if (mo_b (sp_in x1 0 2)) = 0 then true else (if (mo_b (sp_in x2 0 100000)) = 0 then true else (if (mo_b (sp_in x3 0 1000)) = 0 then true else (if (mo_b (sp_in x4 2 64)) = 0 then true else (if (mo_b (sp_in x5 1 100)) = 0 then true else false)))))) → ev_V G d 0 0 mX12_paper (fun o g' => o = .inl (some (.int (sp_X12_paper S x1 x2 x3 x4 x5).1)) ∧ mo_T G W g0 g' (sp_X12_paper S x1 x2 x3 x4 x5).2) g 62 [some (.ref W.1), some (.int x1), some (.int x2), some (.int x3), some (.int x4), some (.int x5), none] (.int x9 :: []) := by
    intro g hT x9 h9
    subst h9
    refine ev_istore dX12_paper_62 (Nat.le_of_ble_eq_true rfl) rfl ?_
    refine ev_aload_n dX12_paper_64 rfl rfl ?_
    refine ev_iload dX12_paper_65 rfl ?_
    refine ev_iconst (v := 1) dX12_paper_67 (by decide) ?_
    refine mo_call2 (d' := d - 1) hE hT dX12_paper_68 rfl rfl kX12_bad lX12_181 iX12_bad vX12_bad (Nat.le_of_ble_eq_true rfl) (by omega) (c_X12_bad hE) (fun g hT => ?_)
    refine ev_if_ne (tgt := 96) dX12_paper_71 (by decide) (fun c_71 => ?_) (fun c_71 => ?_)
    · refine ev_iconst (v := 0) dX12_paper_96 (by decide) ?_
      have e9 : sp_X12_paper S x1 x2 x3 x4 x5 = (0, (sp_bad (if (mo_b (sp_in x1 0 2)) = 0 then true else (if (mo_b (sp_in x2 0 100000)) = 0 then true else (if (mo_b (sp_in x3 0 1000)) = 0 then true else (if (mo_b (sp_in x4 2 64)) = 0 then true else (if (mo_b (sp_in x5 1 100)) = 0 then true else false))))) 1 (mo_up S 0 0 0))) := by unfold sp_X12_paper; rw [if_neg c_71]
      exact ev_iret dX12_paper_97 rfl rfl ⟨by rw [e9], by rw [e9]; exact hT⟩
    · refine ev_aload_n dX12_paper_74 rfl rfl ?_
      refine ev_aload_n dX12_paper_75 rfl rfl ?_
      refine mo_getiE (v := (S.1 1 0)) hE hT dX12_paper_76 fX12_185 (by decide) (by simp [sp_bad_ne, mo_up]) ?_
      refine ev_bipush (v := 12) dX12_paper_79 (by decide) ?_
      have K_89 : ∀ (g : ev_H) (hT : mo_T G W g0 g (sp_bad (if (mo_b (sp_in x1 0 2)) = 0 then true else (if (mo_b (sp_in x2 0 100000)) = 0 then true else (if (mo_b (sp_in x3 0 1000)) = 0 then true else (if (mo_b (sp_in x4 2 64)) = 0 then true else (if (mo_b (sp_in x5 1 100)) = 0 then true else false))))) 1 (mo_up S 0 0 0))), ∀ x9 : Int32, x9 = (mo_b (if (S.1 1 0) = 12 then true else false)) → ev_V G d 0 0 mX12_paper (fun o g' => o = .inl (some (.int (sp_X12_paper S x1 x2 x3 x4 x5).1)) ∧ mo_T G W g0 g' (sp_X12_paper S x1 x2 x3 x4 x5).2) g 89 [some (.ref W.1), some (.int x1), some (.int x2), some (.int x3), some (.int x4), some (.int x5), some (.int (mo_b (if (mo_b (sp_in x1 0 2)) = 0 then true else (if (mo_b (sp_in x2 0 100000)) = 0 then true else (if (mo_b (sp_in x3 0 1000)) = 0 then true else (if (mo_b (sp_in x4 2 64)) = 0 then true else (if (mo_b (sp_in x5 1 100)) = 0 then true else false)))))))] (.int x9 :: .ref W.1 :: []) := by
        intro g hT x9 h9
        subst h9
        refine ev_iconst (v := 2) dX12_paper_89 (by decide) ?_
        refine mo_call2 (d' := d - 1) hE hT dX12_paper_90 rfl rfl kX12_bad lX12_181 iX12_bad vX12_bad (Nat.le_of_ble_eq_true rfl) (by omega) (c_X12_bad hE) (fun g hT => ?_)
        refine ev_if_eq (tgt := 98) dX12_paper_93 (by decide) (fun c_93 => ?_) (fun c_93 => ?_)
        · have hv := (mo_full (N := 12) hP hP2 (by decide) (show ¬ _ = (12 : Int32) by simpa [sp_bad_ne, mo_up] using mo_b_0 c_93)).1
          refine ev_aload_n dX12_paper_98 rfl rfl ?_
          refine mo_geta hE hT dX12_paper_99 fX12_9 (by decide) ?_
          refine ev_aload_n dX12_paper_102 rfl rfl ?_
          refine mo_getiE (v := (S.1 1 0)) hE hT dX12_paper_103 fX12_185 (by decide) (by simp [sp_bad_ne, mo_up]) ?_
          refine ev_iload_n dX12_paper_106 rfl rfl ?_
          refine mo_iastV hE hT dX12_paper_107 (by decide) (show vp_in _ 12 from hv) (fun g hT => ?_)
          refine ev_aload_n dX12_paper_108 rfl rfl ?_
          refine mo_geta hE hT dX12_paper_109 fX12_13 (by decide) ?_
          refine ev_aload_n dX12_paper_112 rfl rfl ?_
          refine mo_getiE (v := (S.1 1 0)) hE hT dX12_paper_113 fX12_185 (by decide) (by simp [sp_bad_ne, mo_up]) ?_
          refine ev_iload_n dX12_paper_116 rfl rfl ?_
          refine mo_iastV hE hT dX12_paper_117 (by decide) (show vp_in _ 12 from hv) (fun g hT => ?_)
          refine ev_aload_n dX12_paper_118 rfl rfl ?_
          refine mo_geta hE hT dX12_paper_119 fX12_16 (by decide) ?_
          refine ev_aload_n dX12_paper_122 rfl rfl ?_
          refine mo_getiE (v := (S.1 1 0)) hE hT dX12_paper_123 fX12_185 (by decide) (by simp [sp_bad_ne, mo_up]) ?_
          refine ev_iload_n dX12_paper_126 rfl rfl ?_
          refine mo_iastV hE hT dX12_paper_127 (by decide) (show vp_in _ 12 from hv) (fun g hT => ?_)
          refine ev_aload_n dX12_paper_128 rfl rfl ?_
          refine mo_geta hE hT dX12_paper_129 fX12_19 (by decide) ?_
          refine ev_aload_n dX12_paper_132 rfl rfl ?_
          refine mo_getiE (v := (S.1 1 0)) hE hT dX12_paper_133 fX12_185 (by decide) (by simp [sp_bad_ne, mo_up]) ?_
          refine ev_iload dX12_paper_136 rfl ?_
          refine mo_iastV hE hT dX12_paper_138 (by decide) (show vp_in _ 12 from hv) (fun g hT => ?_)
          refine ev_aload_n dX12_paper_139 rfl rfl ?_
          refine mo_geta hE hT dX12_paper_140 fX12_22 (by decide) ?_
          refine ev_aload_n dX12_paper_143 rfl rfl ?_
          refine mo_getiE (v := (S.1 1 0)) hE hT dX12_paper_144 fX12_185 (by decide) (by simp [sp_bad_ne, mo_up]) ?_
          refine ev_iload dX12_paper_147 rfl ?_
          refine mo_iastV hE hT dX12_paper_149 (by decide) (show vp_in _ 12 from hv) (fun g hT => ?_)
          refine ev_aload_n dX12_paper_150 rfl rfl ?_
          refine mo_geta hE hT dX12_paper_151 fX12_52 (by decide) ?_
          refine ev_aload_n dX12_paper_154 rfl rfl ?_
          refine mo_getiE (v := (S.1 1 0)) hE hT dX12_paper_155 fX12_185 (by decide) (by simp [sp_bad_ne, mo_up]) ?_
          refine ev_iconst (v := (-1)) dX12_paper_158 (by decide) ?_
          refine mo_iastV hE hT dX12_paper_159 (by decide) (show vp_in _ 12 from hv) (fun g hT => ?_)
          refine ev_aload_n dX12_paper_160 rfl rfl ?_
          refine mo_geta hE hT dX12_paper_161 fX12_58 (by decide) ?_
          refine ev_aload_n dX12_paper_164 rfl rfl ?_
          refine mo_getiE (v := (S.1 1 0)) hE hT dX12_paper_165 fX12_185 (by decide) (by simp [sp_bad_ne, mo_up]) ?_
          refine ev_iconst (v := (-1)) dX12_paper_168 (by decide) ?_
          refine mo_iastV hE hT dX12_paper_169 (by decide) (show vp_in _ 12 from hv) (fun g hT => ?_)
          refine ev_aload_n dX12_paper_170 rfl rfl ?_
          refine mo_geta hE hT dX12_paper_171 fX12_61 (by decide) ?_
          refine ev_aload_n dX12_paper_174 rfl rfl ?_
          refine mo_getiE (v := (S.1 1 0)) hE hT dX12_paper_175 fX12_185 (by decide) (by simp [sp_bad_ne, mo_up]) ?_
          refine ev_iconst (v := (-1)) dX12_paper_178 (by decide) ?_
          refine mo_iastV hE hT dX12_paper_179 (by decide) (show vp_in _ 12 from hv) (fun g hT => ?_)
          refine ev_aload_n dX12_paper_180 rfl rfl ?_
          refine ev_dup dX12_paper_181 rfl ?_
          refine mo_getiE (v := (S.1 1 0)) hE hT dX12_paper_182 fX12_185 (by decide) (by simp [sp_bad_ne, mo_up]) ?_
          refine ev_iconst (v := 1) dX12_paper_185 (by decide) ?_
          refine ev_iadd dX12_paper_186 ?_
          refine mo_put hE hT dX12_paper_187 pX12_185 (by decide) (fun g hT => ?_)
          refine ev_aload_n dX12_paper_190 rfl rfl ?_
          refine mo_getiE (v := ((S.1 1 0) + 1)) hE hT dX12_paper_191 fX12_185 (by decide) (by simp [sp_bad_ne, mo_up]) ?_
          refine ev_iconst (v := 1) dX12_paper_194 (by decide) ?_
          refine ev_isub dX12_paper_195 ?_
          have e9 : sp_X12_paper S x1 x2 x3 x4 x5 = ((((S.1 1 0) + 1) - 1), (mo_up (mo_up (mo_up (mo_up (mo_up (mo_up (mo_up (mo_up (mo_up (sp_bad (if (S.1 1 0) = 12 then true else false) 2 (sp_bad (if (mo_b (sp_in x1 0 2)) = 0 then true else (if (mo_b (sp_in x2 0 100000)) = 0 then true else (if (mo_b (sp_in x3 0 1000)) = 0 then true else (if (mo_b (sp_in x4 2 64)) = 0 then true else (if (mo_b (sp_in x5 1 100)) = 0 then true else false))))) 1 (mo_up S 0 0 0))) 3 ((S.1 1 0)).toNatClampNeg x1) 4 ((S.1 1 0)).toNatClampNeg x2) 5 ((S.1 1 0)).toNatClampNeg x3) 6 ((S.1 1 0)).toNatClampNeg x4) 7 ((S.1 1 0)).toNatClampNeg x5) 17 ((S.1 1 0)).toNatClampNeg (-1)) 19 ((S.1 1 0)).toNatClampNeg (-1)) 20 ((S.1 1 0)).toNatClampNeg (-1)) 1 0 ((S.1 1 0) + 1))) := by unfold sp_X12_paper; rw [if_pos c_71, if_pos c_93]
          exact ev_iret dX12_paper_196 rfl rfl ⟨by rw [e9], by rw [e9]; exact hT⟩
        · refine ev_iconst (v := 0) dX12_paper_96 (by decide) ?_
          have e9 : sp_X12_paper S x1 x2 x3 x4 x5 = (0, (sp_bad (if (S.1 1 0) = 12 then true else false) 2 (sp_bad (if (mo_b (sp_in x1 0 2)) = 0 then true else (if (mo_b (sp_in x2 0 100000)) = 0 then true else (if (mo_b (sp_in x3 0 1000)) = 0 then true else (if (mo_b (sp_in x4 2 64)) = 0 then true else (if (mo_b (sp_in x5 1 100)) = 0 then true else false))))) 1 (mo_up S 0 0 0)))) := by unfold sp_X12_paper; rw [if_pos c_71, if_neg c_93]
          exact ev_iret dX12_paper_97 rfl rfl ⟨by rw [e9], by rw [e9]; exact hT⟩
      refine ev_icmp_ne (tgt := 88) dX12_paper_81 (by decide) (fun c_81 => ?_) (fun c_81 => ?_)
      · refine ev_iconst (v := 0) dX12_paper_88 (by decide) ?_
        exact K_89 g hT _ (by rw [if_neg c_81]; rfl)
      · refine ev_iconst (v := 1) dX12_paper_84 (by decide) ?_
        refine ev_goto (tgt := 89) dX12_paper_85 (by decide) ?_
        exact K_89 g hT _ (by rw [if_pos c_81]; rfl)
  refine ev_if_eq (tgt := 57) dX12_paper_11 (by decide) (fun c_11 => ?_) (fun c_11 => ?_)
  · refine ev_iconst (v := 1) dX12_paper_57 (by decide) ?_
    refine ev_goto (tgt := 62) dX12_paper_58 (by decide) ?_
    exact K_62 g hT _ (by rw [if_pos c_11]; rfl)
  · refine ev_iload_n dX12_paper_14 rfl rfl ?_
    refine ev_iconst (v := 0) dX12_paper_15 (by decide) ?_
    refine ev_ldc dX12_paper_16 nX12_180 ?_
    refine ev_pS3 (d' := d - 1) dX12_paper_18 rfl kX12_in lX12_176 sX12_in (Nat.le_of_ble_eq_true rfl) (by omega) (c_X12_in) ?_
    refine ev_if_eq (tgt := 57) dX12_paper_21 (by decide) (fun c_21 => ?_) (fun c_21 => ?_)
    · refine ev_iconst (v := 1) dX12_paper_57 (by decide) ?_
      refine ev_goto (tgt := 62) dX12_paper_58 (by decide) ?_
      exact K_62 g hT _ (by rw [if_neg c_11, if_pos c_21]; rfl)
    · refine ev_iload_n dX12_paper_24 rfl rfl ?_
      refine ev_iconst (v := 0) dX12_paper_25 (by decide) ?_
      refine ev_sipush (v := 1000) dX12_paper_26 (by decide) ?_
      refine ev_pS3 (d' := d - 1) dX12_paper_29 rfl kX12_in lX12_176 sX12_in (Nat.le_of_ble_eq_true rfl) (by omega) (c_X12_in) ?_
      refine ev_if_eq (tgt := 57) dX12_paper_32 (by decide) (fun c_32 => ?_) (fun c_32 => ?_)
      · refine ev_iconst (v := 1) dX12_paper_57 (by decide) ?_
        refine ev_goto (tgt := 62) dX12_paper_58 (by decide) ?_
        exact K_62 g hT _ (by rw [if_neg c_11, if_neg c_21, if_pos c_32]; rfl)
      · refine ev_iload dX12_paper_35 rfl ?_
        refine ev_iconst (v := 2) dX12_paper_37 (by decide) ?_
        refine ev_bipush (v := 64) dX12_paper_38 (by decide) ?_
        refine ev_pS3 (d' := d - 1) dX12_paper_40 rfl kX12_in lX12_176 sX12_in (Nat.le_of_ble_eq_true rfl) (by omega) (c_X12_in) ?_
        refine ev_if_eq (tgt := 57) dX12_paper_43 (by decide) (fun c_43 => ?_) (fun c_43 => ?_)
        · refine ev_iconst (v := 1) dX12_paper_57 (by decide) ?_
          refine ev_goto (tgt := 62) dX12_paper_58 (by decide) ?_
          exact K_62 g hT _ (by rw [if_neg c_11, if_neg c_21, if_neg c_32, if_pos c_43]; rfl)
        · refine ev_iload dX12_paper_46 rfl ?_
          refine ev_iconst (v := 1) dX12_paper_48 (by decide) ?_
          refine ev_bipush (v := 100) dX12_paper_49 (by decide) ?_
          refine ev_pS3 (d' := d - 1) dX12_paper_51 rfl kX12_in lX12_176 sX12_in (Nat.le_of_ble_eq_true rfl) (by omega) (c_X12_in) ?_
          refine ev_if_ne (tgt := 61) dX12_paper_54 (by decide) (fun c_54 => ?_) (fun c_54 => ?_)
          · refine ev_iconst (v := 0) dX12_paper_61 (by decide) ?_
            exact K_62 g hT _ (by rw [if_neg c_11, if_neg c_21, if_neg c_32, if_neg c_43, if_neg c_54]; rfl)
          · refine ev_iconst (v := 1) dX12_paper_57 (by decide) ?_
            refine ev_goto (tgt := 62) dX12_paper_58 (by decide) ?_
            exact K_62 g hT _ (by rw [if_neg c_11, if_neg c_21, if_neg c_32, if_neg c_43, if_pos c_54]; rfl)
def sp_X12_reel (S : mo_S) (x1 x2 : Int32) : Int32 × mo_S :=
  (if (mo_b (if (mo_b (sp_in x1 1 2000)) = 0 then true else (if (mo_b (sp_in x2 0 500)) = 0 then true else false))) = 0 then (if (S.1 21 0) = 80 then ((-1), (sp_bad (if (mo_b (sp_in x1 1 2000)) = 0 then true else (if (mo_b (sp_in x2 0 500)) = 0 then true else false)) 1 (mo_up S 0 0 0))) else ((((S.1 21 0) + 1) - 1), (mo_up (mo_up (mo_up (sp_bad (if (mo_b (sp_in x1 1 2000)) = 0 then true else (if (mo_b (sp_in x2 0 500)) = 0 then true else false)) 1 (mo_up S 0 0 0)) 22 ((S.1 21 0)).toNatClampNeg ((x1 * (1000 - x2)) / 1000)) 23 ((S.1 21 0)).toNatClampNeg (-1)) 21 0 ((S.1 21 0) + 1)))) else (0, (sp_bad (if (mo_b (sp_in x1 1 2000)) = 0 then true else (if (mo_b (sp_in x2 0 500)) = 0 then true else false)) 1 (mo_up S 0 0 0))))
theorem c_X12_reel {G : ev_G} {W : mo_W} {d : Nat} {S : mo_S} {x1 x2 : Int32} (hE : ev_En G) (hd : 1 ≤ d) {R : Nat} (hR : S.1 21 0 = nI R) (hR2 : R ≤ 80) : mo_C G W d mX12_reel [.int x1, .int x2] S (some (.int (sp_X12_reel S x1 x2).1)) (sp_X12_reel S x1 x2).2 := by
  refine mo_start (lv0 := [some (.ref W.1), some (.int x1), some (.int x2)]) (by decide +kernel) rfl (Nat.le_of_ble_eq_true rfl) rfl ?_
  intro g0 g hT
  refine ev_aload_n dX12_reel_0 rfl rfl ?_
  refine ev_iconst (v := 0) dX12_reel_1 (by decide) ?_
  refine mo_put hE hT dX12_reel_2 pX12_173 (by decide) (fun g hT => ?_)
  refine ev_aload_n dX12_reel_5 rfl rfl ?_
  refine ev_iload_n dX12_reel_6 rfl rfl ?_
  refine ev_iconst (v := 1) dX12_reel_7 (by decide) ?_
  refine ev_sipush (v := 2000) dX12_reel_8 (by decide) ?_
  refine ev_pS3 (d' := d - 1) dX12_reel_11 rfl kX12_in lX12_176 sX12_in (Nat.le_of_ble_eq_true rfl) (by omega) (c_X12_in) ?_
  have K_33 : ∀ (g : ev_H) (hT : mo_T G W g0 g (mo_up S 0 0 0)), ∀ x9 : Int32, x9 = (mo_b (if (mo_b (sp_in x1 1 2000)) = 0 then true else (if (mo_b (sp_in x2 0 500)) = 0 then true else false))) → ev_V G d 0 0 mX12_reel (fun o g' => o = .inl (some (.int (sp_X12_reel S x1 x2).1)) ∧ mo_T G W g0 g' (sp_X12_reel S x1 x2).2) g 33 [some (.ref W.1), some (.int x1), some (.int x2)] (.int x9 :: .ref W.1 :: []) := by
    intro g hT x9 h9
    subst h9
    refine ev_iconst (v := 1) dX12_reel_33 (by decide) ?_
    refine mo_call2 (d' := d - 1) hE hT dX12_reel_34 rfl rfl kX12_bad lX12_181 iX12_bad vX12_bad (Nat.le_of_ble_eq_true rfl) (by omega) (c_X12_bad hE) (fun g hT => ?_)
    refine ev_if_eq (tgt := 42) dX12_reel_37 (by decide) (fun c_37 => ?_) (fun c_37 => ?_)
    · refine ev_aload_n dX12_reel_42 rfl rfl ?_
      refine mo_getiE (v := (S.1 21 0)) hE hT dX12_reel_43 fX12_196 (by decide) (by simp [sp_bad_ne, mo_up]) ?_
      refine ev_bipush (v := 80) dX12_reel_46 (by decide) ?_
      refine ev_icmp_ne (tgt := 53) dX12_reel_48 (by decide) (fun c_48 => ?_) (fun c_48 => ?_)
      · have hv := (mo_full (N := 80) hR hR2 (by decide) (show ¬ _ = (80 : Int32) by simpa [sp_bad_ne, mo_up] using c_48)).1
        refine ev_aload_n dX12_reel_53 rfl rfl ?_
        refine mo_geta hE hT dX12_reel_54 fX12_64 (by decide) ?_
        refine ev_aload_n dX12_reel_57 rfl rfl ?_
        refine mo_getiE (v := (S.1 21 0)) hE hT dX12_reel_58 fX12_196 (by decide) (by simp [sp_bad_ne, mo_up]) ?_
        refine ev_iload_n dX12_reel_61 rfl rfl ?_
        refine ev_sipush (v := 1000) dX12_reel_62 (by decide) ?_
        refine ev_iload_n dX12_reel_65 rfl rfl ?_
        refine ev_isub dX12_reel_66 ?_
        refine ev_imul dX12_reel_67 ?_
        refine ev_sipush (v := 1000) dX12_reel_68 (by decide) ?_
        refine ev_idiv dX12_reel_71 (by decide) ?_
        refine mo_iastV hE hT dX12_reel_72 (by decide) (show vp_in _ 80 from hv) (fun g hT => ?_)
        refine ev_aload_n dX12_reel_73 rfl rfl ?_
        refine mo_geta hE hT dX12_reel_74 fX12_67 (by decide) ?_
        refine ev_aload_n dX12_reel_77 rfl rfl ?_
        refine mo_getiE (v := (S.1 21 0)) hE hT dX12_reel_78 fX12_196 (by decide) (by simp [sp_bad_ne, mo_up]) ?_
        refine ev_iconst (v := (-1)) dX12_reel_81 (by decide) ?_
        refine mo_iastV hE hT dX12_reel_82 (by decide) (show vp_in _ 80 from hv) (fun g hT => ?_)
        refine ev_aload_n dX12_reel_83 rfl rfl ?_
        refine ev_dup dX12_reel_84 rfl ?_
        refine mo_getiE (v := (S.1 21 0)) hE hT dX12_reel_85 fX12_196 (by decide) (by simp [sp_bad_ne, mo_up]) ?_
        refine ev_iconst (v := 1) dX12_reel_88 (by decide) ?_
        refine ev_iadd dX12_reel_89 ?_
        refine mo_put hE hT dX12_reel_90 pX12_196 (by decide) (fun g hT => ?_)
        refine ev_aload_n dX12_reel_93 rfl rfl ?_
        refine mo_getiE (v := ((S.1 21 0) + 1)) hE hT dX12_reel_94 fX12_196 (by decide) (by simp [sp_bad_ne, mo_up]) ?_
        refine ev_iconst (v := 1) dX12_reel_97 (by decide) ?_
        refine ev_isub dX12_reel_98 ?_
        have e9 : sp_X12_reel S x1 x2 = ((((S.1 21 0) + 1) - 1), (mo_up (mo_up (mo_up (sp_bad (if (mo_b (sp_in x1 1 2000)) = 0 then true else (if (mo_b (sp_in x2 0 500)) = 0 then true else false)) 1 (mo_up S 0 0 0)) 22 ((S.1 21 0)).toNatClampNeg ((x1 * (1000 - x2)) / 1000)) 23 ((S.1 21 0)).toNatClampNeg (-1)) 21 0 ((S.1 21 0) + 1))) := by unfold sp_X12_reel; rw [if_pos c_37, if_neg c_48]
        exact ev_iret dX12_reel_99 rfl rfl ⟨by rw [e9], by rw [e9]; exact hT⟩
      · refine ev_iconst (v := (-1)) dX12_reel_51 (by decide) ?_
        have e9 : sp_X12_reel S x1 x2 = ((-1), (sp_bad (if (mo_b (sp_in x1 1 2000)) = 0 then true else (if (mo_b (sp_in x2 0 500)) = 0 then true else false)) 1 (mo_up S 0 0 0))) := by unfold sp_X12_reel; rw [if_pos c_37, if_pos c_48]
        exact ev_iret dX12_reel_52 rfl rfl ⟨by rw [e9], by rw [e9]; exact hT⟩
    · refine ev_iconst (v := 0) dX12_reel_40 (by decide) ?_
      have e9 : sp_X12_reel S x1 x2 = (0, (sp_bad (if (mo_b (sp_in x1 1 2000)) = 0 then true else (if (mo_b (sp_in x2 0 500)) = 0 then true else false)) 1 (mo_up S 0 0 0))) := by unfold sp_X12_reel; rw [if_neg c_37]
      exact ev_iret dX12_reel_41 rfl rfl ⟨by rw [e9], by rw [e9]; exact hT⟩
  refine ev_if_eq (tgt := 28) dX12_reel_14 (by decide) (fun c_14 => ?_) (fun c_14 => ?_)
  · refine ev_iconst (v := 1) dX12_reel_28 (by decide) ?_
    refine ev_goto (tgt := 33) dX12_reel_29 (by decide) ?_
    exact K_33 g hT _ (by rw [if_pos c_14]; rfl)
  · refine ev_iload_n dX12_reel_17 rfl rfl ?_
    refine ev_iconst (v := 0) dX12_reel_18 (by decide) ?_
    refine ev_sipush (v := 500) dX12_reel_19 (by decide) ?_
    refine ev_pS3 (d' := d - 1) dX12_reel_22 rfl kX12_in lX12_176 sX12_in (Nat.le_of_ble_eq_true rfl) (by omega) (c_X12_in) ?_
    refine ev_if_ne (tgt := 32) dX12_reel_25 (by decide) (fun c_25 => ?_) (fun c_25 => ?_)
    · refine ev_iconst (v := 0) dX12_reel_32 (by decide) ?_
      exact K_33 g hT _ (by rw [if_neg c_14, if_neg c_25]; rfl)
    · refine ev_iconst (v := 1) dX12_reel_28 (by decide) ?_
      refine ev_goto (tgt := 33) dX12_reel_29 (by decide) ?_
      exact K_33 g hT _ (by rw [if_neg c_14, if_pos c_25]; rfl)
def sp_X12_where (S : mo_S) (x1 : Int32) : Int32 × mo_S :=
  ((if (mo_b (sp_in x1 0 (S.1 21 0 - 1))) = 0 then 0 else (S.1 23 (x1).toNatClampNeg)), (mo_up S 0 0 (mo_b (!sp_in x1 0 (S.1 21 0 - 1)))))
theorem c_X12_where {G : ev_G} {W : mo_W} {d : Nat} {S : mo_S} {x1 : Int32} (hE : ev_En G) (hd : 2 ≤ d) {R : Nat} (hR : S.1 21 0 = nI R) (hR2 : R ≤ 80) : mo_C G W d mX12_where [.int x1] S (some (.int (sp_X12_where S x1).1)) (sp_X12_where S x1).2 := by
  refine mo_start (lv0 := [some (.ref W.1), some (.int x1)]) (by decide +kernel) rfl (Nat.le_of_ble_eq_true rfl) rfl ?_
  intro g0 g hT
  refine ev_aload_n dX12_where_0 rfl rfl ?_
  refine ev_iload_n dX12_where_1 rfl rfl ?_
  refine mo_call1 (d' := d - 1) hE hT dX12_where_2 rfl rfl kX12_isReel lX12_199 iX12_isReel vX12_isReel (Nat.le_of_ble_eq_true rfl) (by omega) (c_X12_isReel hE (by omega)) (fun g hT => ?_)
  have K_18 : ∀ (g : ev_H) (hT : mo_T G W g0 g (mo_up S 0 0 (mo_b (!sp_in x1 0 (S.1 21 0 - 1))))), ∀ x9 : Int32, x9 = (if (mo_b (sp_in x1 0 (S.1 21 0 - 1))) = 0 then 0 else (S.1 23 (x1).toNatClampNeg)) → ev_V G d 0 0 mX12_where (fun o g' => o = .inl (some (.int (sp_X12_where S x1).1)) ∧ mo_T G W g0 g' (sp_X12_where S x1).2) g 18 [some (.ref W.1), some (.int x1)] (.int x9 :: []) := by
    intro g hT x9 h9
    subst h9
    have e9 : sp_X12_where S x1 = ((if (mo_b (sp_in x1 0 (S.1 21 0 - 1))) = 0 then 0 else (S.1 23 (x1).toNatClampNeg)), (mo_up S 0 0 (mo_b (!sp_in x1 0 (S.1 21 0 - 1))))) := by unfold sp_X12_where; rfl
    exact ev_iret dX12_where_18 rfl rfl ⟨by rw [e9], by rw [e9]; exact hT⟩
  refine ev_if_eq (tgt := 17) dX12_where_5 (by decide) (fun c_5 => ?_) (fun c_5 => ?_)
  · refine ev_iconst (v := 0) dX12_where_17 (by decide) ?_
    exact K_18 g hT _ (by rw [if_pos c_5])
  · have hv := (mo_vin (N := 80) hR hR2 (by decide) (by simpa [sp_bad_ne, mo_up] using mo_b_1 c_5)).1
    refine ev_aload_n dX12_where_8 rfl rfl ?_
    refine mo_geta hE hT dX12_where_9 fX12_67 (by decide) ?_
    refine ev_iload_n dX12_where_12 rfl rfl ?_
    refine mo_ialdE (v := (S.1 23 (x1).toNatClampNeg)) hE hT dX12_where_13 (by decide) (show vp_in _ 80 from hv) (by simp [sp_bad_ne, mo_up]) ?_
    refine ev_goto (tgt := 18) dX12_where_14 (by decide) ?_
    exact K_18 g hT _ (by rw [if_neg c_5])
def sp_X12_find (S : mo_S) (x1 : Int32) : Int32 × mo_S :=
  (if (mo_b (sp_in x1 0 (S.1 21 0 - 1))) = 0 then (0, (mo_up S 0 0 (mo_b (!sp_in x1 0 (S.1 21 0 - 1))))) else (if (S.1 23 (x1).toNatClampNeg) = (-2) then ((S.1 22 (x1).toNatClampNeg), (mo_up (mo_up S 0 0 (mo_b (!sp_in x1 0 (S.1 21 0 - 1)))) 23 (x1).toNatClampNeg (-1))) else ((-1), (mo_up S 0 0 (mo_b (!sp_in x1 0 (S.1 21 0 - 1)))))))
theorem c_X12_find {G : ev_G} {W : mo_W} {d : Nat} {S : mo_S} {x1 : Int32} (hE : ev_En G) (hd : 2 ≤ d) {R : Nat} (hR : S.1 21 0 = nI R) (hR2 : R ≤ 80) : mo_C G W d mX12_find [.int x1] S (some (.int (sp_X12_find S x1).1)) (sp_X12_find S x1).2 := by
  refine mo_start (lv0 := [some (.ref W.1), some (.int x1)]) (by decide +kernel) rfl (Nat.le_of_ble_eq_true rfl) rfl ?_
  intro g0 g hT
  refine ev_aload_n dX12_find_0 rfl rfl ?_
  refine ev_iload_n dX12_find_1 rfl rfl ?_
  refine mo_call1 (d' := d - 1) hE hT dX12_find_2 rfl rfl kX12_isReel lX12_199 iX12_isReel vX12_isReel (Nat.le_of_ble_eq_true rfl) (by omega) (c_X12_isReel hE (by omega)) (fun g hT => ?_)
  refine ev_if_ne (tgt := 10) dX12_find_5 (by decide) (fun c_5 => ?_) (fun c_5 => ?_)
  · have hv := (mo_vin (N := 80) hR hR2 (by decide) (by simpa [sp_bad_ne, mo_up] using mo_b_1 c_5)).1
    refine ev_aload_n dX12_find_10 rfl rfl ?_
    refine mo_geta hE hT dX12_find_11 fX12_67 (by decide) ?_
    refine ev_iload_n dX12_find_14 rfl rfl ?_
    refine mo_ialdE (v := (S.1 23 (x1).toNatClampNeg)) hE hT dX12_find_15 (by decide) (show vp_in _ 80 from hv) (by simp [sp_bad_ne, mo_up]) ?_
    refine ev_bipush (v := (-2)) dX12_find_16 (by decide) ?_
    refine ev_icmp_eq (tgt := 23) dX12_find_18 (by decide) (fun c_18 => ?_) (fun c_18 => ?_)
    · refine ev_aload_n dX12_find_23 rfl rfl ?_
      refine mo_geta hE hT dX12_find_24 fX12_67 (by decide) ?_
      refine ev_iload_n dX12_find_27 rfl rfl ?_
      refine ev_iconst (v := (-1)) dX12_find_28 (by decide) ?_
      refine mo_iastV hE hT dX12_find_29 (by decide) (show vp_in _ 80 from hv) (fun g hT => ?_)
      refine ev_aload_n dX12_find_30 rfl rfl ?_
      refine mo_geta hE hT dX12_find_31 fX12_64 (by decide) ?_
      refine ev_iload_n dX12_find_34 rfl rfl ?_
      refine mo_ialdE (v := (S.1 22 (x1).toNatClampNeg)) hE hT dX12_find_35 (by decide) (show vp_in _ 80 from hv) (by simp [sp_bad_ne, mo_up]) ?_
      have e9 : sp_X12_find S x1 = ((S.1 22 (x1).toNatClampNeg), (mo_up (mo_up S 0 0 (mo_b (!sp_in x1 0 (S.1 21 0 - 1)))) 23 (x1).toNatClampNeg (-1))) := by unfold sp_X12_find; rw [if_neg c_5, if_pos c_18]
      exact ev_iret dX12_find_36 rfl rfl ⟨by rw [e9], by rw [e9]; exact hT⟩
    · refine ev_iconst (v := (-1)) dX12_find_21 (by decide) ?_
      have e9 : sp_X12_find S x1 = ((-1), (mo_up S 0 0 (mo_b (!sp_in x1 0 (S.1 21 0 - 1))))) := by unfold sp_X12_find; rw [if_neg c_5, if_neg c_18]
      exact ev_iret dX12_find_22 rfl rfl ⟨by rw [e9], by rw [e9]; exact hT⟩
  · refine ev_iconst (v := 0) dX12_find_8 (by decide) ?_
    have e9 : sp_X12_find S x1 = (0, (mo_up S 0 0 (mo_b (!sp_in x1 0 (S.1 21 0 - 1))))) := by unfold sp_X12_find; rw [if_pos c_5]
    exact ev_iret dX12_find_9 rfl rfl ⟨by rw [e9], by rw [e9]; exact hT⟩
def sp_X12_steal (S : mo_S) (x1 : Int32) : Int32 × mo_S :=
  (if (mo_b (sp_in x1 0 (S.1 21 0 - 1))) = 0 then (0, (mo_up S 0 0 (mo_b (!sp_in x1 0 (S.1 21 0 - 1))))) else (if (S.1 23 (x1).toNatClampNeg) = (-2) then ((-3), (mo_up S 0 0 (mo_b (!sp_in x1 0 (S.1 21 0 - 1))))) else (if (S.1 23 (x1).toNatClampNeg) < 0 then ((S.1 23 (x1).toNatClampNeg), (mo_up (mo_up S 0 0 (mo_b (!sp_in x1 0 (S.1 21 0 - 1)))) 23 (x1).toNatClampNeg (-2))) else ((S.1 23 (x1).toNatClampNeg), (mo_up (mo_up (mo_up S 0 0 (mo_b (!sp_in x1 0 (S.1 21 0 - 1)))) 10 ((S.1 23 (x1).toNatClampNeg)).toNatClampNeg (if (S.1 10 ((S.1 23 (x1).toNatClampNeg)).toNatClampNeg) ≤ (S.1 22 (x1).toNatClampNeg) then 0 else ((S.1 10 ((S.1 23 (x1).toNatClampNeg)).toNatClampNeg) - (S.1 22 (x1).toNatClampNeg)))) 23 (x1).toNatClampNeg (-2))))))
theorem c_X12_steal {G : ev_G} {W : mo_W} {d : Nat} {S : mo_S} {x1 : Int32} (hE : ev_En G) (hd : 2 ≤ d) {R : Nat} (hR : S.1 21 0 = nI R) (hR2 : R ≤ 80) (hA : ∀ r, r < R → ¬ S.1 23 r < 0 → vp_in (S.1 23 r) 12) : mo_C G W d mX12_steal [.int x1] S (some (.int (sp_X12_steal S x1).1)) (sp_X12_steal S x1).2 := by
  refine mo_start (lv0 := [some (.ref W.1), some (.int x1), none]) (by decide +kernel) rfl (Nat.le_of_ble_eq_true rfl) rfl ?_
  intro g0 g hT
  refine ev_aload_n dX12_steal_0 rfl rfl ?_
  refine ev_iload_n dX12_steal_1 rfl rfl ?_
  refine mo_call1 (d' := d - 1) hE hT dX12_steal_2 rfl rfl kX12_isReel lX12_199 iX12_isReel vX12_isReel (Nat.le_of_ble_eq_true rfl) (by omega) (c_X12_isReel hE (by omega)) (fun g hT => ?_)
  refine ev_if_ne (tgt := 10) dX12_steal_5 (by decide) (fun c_5 => ?_) (fun c_5 => ?_)
  · obtain ⟨hv, hv1, -⟩ := mo_vin (N := 80) hR hR2 (by decide) (by simpa [sp_bad_ne, mo_up] using mo_b_1 c_5)
    refine ev_aload_n dX12_steal_10 rfl rfl ?_
    refine mo_geta hE hT dX12_steal_11 fX12_67 (by decide) ?_
    refine ev_iload_n dX12_steal_14 rfl rfl ?_
    refine mo_ialdE (v := (S.1 23 (x1).toNatClampNeg)) hE hT dX12_steal_15 (by decide) (show vp_in _ 80 from (by first | exact hv | exact hv2)) (by simp [sp_bad_ne, mo_up]) ?_
    refine ev_istore_n dX12_steal_16 rfl (Nat.le_of_ble_eq_true rfl) rfl ?_
    refine ev_iload_n dX12_steal_17 rfl rfl ?_
    refine ev_bipush (v := (-2)) dX12_steal_18 (by decide) ?_
    refine ev_icmp_ne (tgt := 26) dX12_steal_20 (by decide) (fun c_20 => ?_) (fun c_20 => ?_)
    · refine ev_iload_n dX12_steal_26 rfl rfl ?_
      refine ev_if_lt (tgt := 68) dX12_steal_27 (by decide) (fun c_27 => ?_) (fun c_27 => ?_)
      · refine ev_aload_n dX12_steal_68 rfl rfl ?_
        refine mo_geta hE hT dX12_steal_69 fX12_67 (by decide) ?_
        refine ev_iload_n dX12_steal_72 rfl rfl ?_
        refine ev_bipush (v := (-2)) dX12_steal_73 (by decide) ?_
        refine mo_iastV hE hT dX12_steal_75 (by decide) (show vp_in _ 80 from (by first | exact hv | exact hv2)) (fun g hT => ?_)
        refine ev_iload_n dX12_steal_76 rfl rfl ?_
        have e9 : sp_X12_steal S x1 = ((S.1 23 (x1).toNatClampNeg), (mo_up (mo_up S 0 0 (mo_b (!sp_in x1 0 (S.1 21 0 - 1)))) 23 (x1).toNatClampNeg (-2))) := by unfold sp_X12_steal; rw [if_neg c_5, if_neg c_20, if_pos c_27]
        exact ev_iret dX12_steal_77 rfl rfl ⟨by rw [e9], by rw [e9]; exact hT⟩
      · have hv2 := hA _ hv1 c_27
        refine ev_aload_n dX12_steal_30 rfl rfl ?_
        refine mo_geta hE hT dX12_steal_31 fX12_31 (by decide) ?_
        refine ev_iload_n dX12_steal_34 rfl rfl ?_
        refine ev_aload_n dX12_steal_35 rfl rfl ?_
        refine mo_geta hE hT dX12_steal_36 fX12_31 (by decide) ?_
        refine ev_iload_n dX12_steal_39 rfl rfl ?_
        refine mo_ialdE (v := (S.1 10 ((S.1 23 (x1).toNatClampNeg)).toNatClampNeg)) hE hT dX12_steal_40 (by decide) (show vp_in _ 12 from (by first | exact hv | exact hv2)) (by simp [sp_bad_ne, mo_up]) ?_
        refine ev_aload_n dX12_steal_41 rfl rfl ?_
        refine mo_geta hE hT dX12_steal_42 fX12_64 (by decide) ?_
        refine ev_iload_n dX12_steal_45 rfl rfl ?_
        refine mo_ialdE (v := (S.1 22 (x1).toNatClampNeg)) hE hT dX12_steal_46 (by decide) (show vp_in _ 80 from (by first | exact hv | exact hv2)) (by simp [sp_bad_ne, mo_up]) ?_
        have K_67 : ∀ (g : ev_H) (hT : mo_T G W g0 g (mo_up S 0 0 (mo_b (!sp_in x1 0 (S.1 21 0 - 1))))), ∀ x9 : Int32, x9 = (if (S.1 10 ((S.1 23 (x1).toNatClampNeg)).toNatClampNeg) ≤ (S.1 22 (x1).toNatClampNeg) then 0 else ((S.1 10 ((S.1 23 (x1).toNatClampNeg)).toNatClampNeg) - (S.1 22 (x1).toNatClampNeg))) → ev_V G d 0 0 mX12_steal (fun o g' => o = .inl (some (.int (sp_X12_steal S x1).1)) ∧ mo_T G W g0 g' (sp_X12_steal S x1).2) g 67 [some (.ref W.1), some (.int x1), some (.int (S.1 23 (x1).toNatClampNeg))] (.int x9 :: .int (S.1 23 (x1).toNatClampNeg) :: .ref (W.2 10) :: []) := by
          intro g hT x9 h9
          subst h9
          refine mo_iastV hE hT dX12_steal_67 (by decide) (show vp_in _ 12 from (by first | exact hv | exact hv2)) (fun g hT => ?_)
          refine ev_aload_n dX12_steal_68 rfl rfl ?_
          refine mo_geta hE hT dX12_steal_69 fX12_67 (by decide) ?_
          refine ev_iload_n dX12_steal_72 rfl rfl ?_
          refine ev_bipush (v := (-2)) dX12_steal_73 (by decide) ?_
          refine mo_iastV hE hT dX12_steal_75 (by decide) (show vp_in _ 80 from (by first | exact hv | exact hv2)) (fun g hT => ?_)
          refine ev_iload_n dX12_steal_76 rfl rfl ?_
          have e9 : sp_X12_steal S x1 = ((S.1 23 (x1).toNatClampNeg), (mo_up (mo_up (mo_up S 0 0 (mo_b (!sp_in x1 0 (S.1 21 0 - 1)))) 10 ((S.1 23 (x1).toNatClampNeg)).toNatClampNeg (if (S.1 10 ((S.1 23 (x1).toNatClampNeg)).toNatClampNeg) ≤ (S.1 22 (x1).toNatClampNeg) then 0 else ((S.1 10 ((S.1 23 (x1).toNatClampNeg)).toNatClampNeg) - (S.1 22 (x1).toNatClampNeg)))) 23 (x1).toNatClampNeg (-2))) := by unfold sp_X12_steal; rw [if_neg c_5, if_neg c_20, if_neg c_27]
          exact ev_iret dX12_steal_77 rfl rfl ⟨by rw [e9], by rw [e9]; exact hT⟩
        refine ev_icmp_le (tgt := 66) dX12_steal_47 (by decide) (fun c_47 => ?_) (fun c_47 => ?_)
        · refine ev_iconst (v := 0) dX12_steal_66 (by decide) ?_
          exact K_67 g hT _ (by rw [if_pos c_47])
        · refine ev_aload_n dX12_steal_50 rfl rfl ?_
          refine mo_geta hE hT dX12_steal_51 fX12_31 (by decide) ?_
          refine ev_iload_n dX12_steal_54 rfl rfl ?_
          refine mo_ialdE (v := (S.1 10 ((S.1 23 (x1).toNatClampNeg)).toNatClampNeg)) hE hT dX12_steal_55 (by decide) (show vp_in _ 12 from (by first | exact hv | exact hv2)) (by simp [sp_bad_ne, mo_up]) ?_
          refine ev_aload_n dX12_steal_56 rfl rfl ?_
          refine mo_geta hE hT dX12_steal_57 fX12_64 (by decide) ?_
          refine ev_iload_n dX12_steal_60 rfl rfl ?_
          refine mo_ialdE (v := (S.1 22 (x1).toNatClampNeg)) hE hT dX12_steal_61 (by decide) (show vp_in _ 80 from (by first | exact hv | exact hv2)) (by simp [sp_bad_ne, mo_up]) ?_
          refine ev_isub dX12_steal_62 ?_
          refine ev_goto (tgt := 67) dX12_steal_63 (by decide) ?_
          exact K_67 g hT _ (by rw [if_neg c_47])
    · refine ev_bipush (v := (-3)) dX12_steal_23 (by decide) ?_
      have e9 : sp_X12_steal S x1 = ((-3), (mo_up S 0 0 (mo_b (!sp_in x1 0 (S.1 21 0 - 1))))) := by unfold sp_X12_steal; rw [if_neg c_5, if_pos c_20]
      exact ev_iret dX12_steal_25 rfl rfl ⟨by rw [e9], by rw [e9]; exact hT⟩
  · refine ev_iconst (v := 0) dX12_steal_8 (by decide) ?_
    have e9 : sp_X12_steal S x1 = (0, (mo_up S 0 0 (mo_b (!sp_in x1 0 (S.1 21 0 - 1))))) := by unfold sp_X12_steal; rw [if_pos c_5]
    exact ev_iret dX12_steal_9 rfl rfl ⟨by rw [e9], by rw [e9]; exact hT⟩
def sp_X12_ward (S : mo_S) (x1 : Int32) : Int32 × mo_S :=
  (if (mo_b (if (mo_b (sp_in x1 0 1000)) = 0 then true else false)) = 0 then (if (S.1 24 0) = 5 then ((-1), (sp_bad (if (mo_b (sp_in x1 0 1000)) = 0 then true else false) 1 (mo_up S 0 0 0))) else ((((S.1 24 0) + 1) - 1), (mo_up (mo_up (sp_bad (if (mo_b (sp_in x1 0 1000)) = 0 then true else false) 1 (mo_up S 0 0 0)) 25 ((S.1 24 0)).toNatClampNeg x1) 24 0 ((S.1 24 0) + 1)))) else (0, (sp_bad (if (mo_b (sp_in x1 0 1000)) = 0 then true else false) 1 (mo_up S 0 0 0))))
theorem c_X12_ward {G : ev_G} {W : mo_W} {d : Nat} {S : mo_S} {x1 : Int32} (hE : ev_En G) (hd : 1 ≤ d) {Q : Nat} (hQ : S.1 24 0 = nI Q) (hQ2 : Q ≤ 5) : mo_C G W d mX12_ward [.int x1] S (some (.int (sp_X12_ward S x1).1)) (sp_X12_ward S x1).2 := by
  refine mo_start (lv0 := [some (.ref W.1), some (.int x1)]) (by decide +kernel) rfl (Nat.le_of_ble_eq_true rfl) rfl ?_
  intro g0 g hT
  refine ev_aload_n dX12_ward_0 rfl rfl ?_
  refine ev_iconst (v := 0) dX12_ward_1 (by decide) ?_
  refine mo_put hE hT dX12_ward_2 pX12_173 (by decide) (fun g hT => ?_)
  refine ev_aload_n dX12_ward_5 rfl rfl ?_
  refine ev_iload_n dX12_ward_6 rfl rfl ?_
  refine ev_iconst (v := 0) dX12_ward_7 (by decide) ?_
  refine ev_sipush (v := 1000) dX12_ward_8 (by decide) ?_
  refine ev_pS3 (d' := d - 1) dX12_ward_11 rfl kX12_in lX12_176 sX12_in (Nat.le_of_ble_eq_true rfl) (by omega) (c_X12_in) ?_
  have K_22 : ∀ (g : ev_H) (hT : mo_T G W g0 g (mo_up S 0 0 0)), ∀ x9 : Int32, x9 = (mo_b (if (mo_b (sp_in x1 0 1000)) = 0 then true else false)) → ev_V G d 0 0 mX12_ward (fun o g' => o = .inl (some (.int (sp_X12_ward S x1).1)) ∧ mo_T G W g0 g' (sp_X12_ward S x1).2) g 22 [some (.ref W.1), some (.int x1)] (.int x9 :: .ref W.1 :: []) := by
    intro g hT x9 h9
    subst h9
    refine ev_iconst (v := 1) dX12_ward_22 (by decide) ?_
    refine mo_call2 (d' := d - 1) hE hT dX12_ward_23 rfl rfl kX12_bad lX12_181 iX12_bad vX12_bad (Nat.le_of_ble_eq_true rfl) (by omega) (c_X12_bad hE) (fun g hT => ?_)
    refine ev_if_eq (tgt := 31) dX12_ward_26 (by decide) (fun c_26 => ?_) (fun c_26 => ?_)
    · refine ev_aload_n dX12_ward_31 rfl rfl ?_
      refine mo_getiE (v := (S.1 24 0)) hE hT dX12_ward_32 fX12_202 (by decide) (by simp [sp_bad_ne, mo_up]) ?_
      refine ev_iconst (v := 5) dX12_ward_35 (by decide) ?_
      refine ev_icmp_ne (tgt := 41) dX12_ward_36 (by decide) (fun c_36 => ?_) (fun c_36 => ?_)
      · have hv := (mo_full (N := 5) hQ hQ2 (by decide) (show ¬ _ = (5 : Int32) by simpa [sp_bad_ne, mo_up] using c_36)).1
        refine ev_aload_n dX12_ward_41 rfl rfl ?_
        refine mo_geta hE hT dX12_ward_42 fX12_70 (by decide) ?_
        refine ev_aload_n dX12_ward_45 rfl rfl ?_
        refine mo_getiE (v := (S.1 24 0)) hE hT dX12_ward_46 fX12_202 (by decide) (by simp [sp_bad_ne, mo_up]) ?_
        refine ev_iload_n dX12_ward_49 rfl rfl ?_
        refine mo_iastV hE hT dX12_ward_50 (by decide) (show vp_in _ 5 from hv) (fun g hT => ?_)
        refine ev_aload_n dX12_ward_51 rfl rfl ?_
        refine ev_dup dX12_ward_52 rfl ?_
        refine mo_getiE (v := (S.1 24 0)) hE hT dX12_ward_53 fX12_202 (by decide) (by simp [sp_bad_ne, mo_up]) ?_
        refine ev_iconst (v := 1) dX12_ward_56 (by decide) ?_
        refine ev_iadd dX12_ward_57 ?_
        refine mo_put hE hT dX12_ward_58 pX12_202 (by decide) (fun g hT => ?_)
        refine ev_aload_n dX12_ward_61 rfl rfl ?_
        refine mo_getiE (v := ((S.1 24 0) + 1)) hE hT dX12_ward_62 fX12_202 (by decide) (by simp [sp_bad_ne, mo_up]) ?_
        refine ev_iconst (v := 1) dX12_ward_65 (by decide) ?_
        refine ev_isub dX12_ward_66 ?_
        have e9 : sp_X12_ward S x1 = ((((S.1 24 0) + 1) - 1), (mo_up (mo_up (sp_bad (if (mo_b (sp_in x1 0 1000)) = 0 then true else false) 1 (mo_up S 0 0 0)) 25 ((S.1 24 0)).toNatClampNeg x1) 24 0 ((S.1 24 0) + 1))) := by unfold sp_X12_ward; rw [if_pos c_26, if_neg c_36]
        exact ev_iret dX12_ward_67 rfl rfl ⟨by rw [e9], by rw [e9]; exact hT⟩
      · refine ev_iconst (v := (-1)) dX12_ward_39 (by decide) ?_
        have e9 : sp_X12_ward S x1 = ((-1), (sp_bad (if (mo_b (sp_in x1 0 1000)) = 0 then true else false) 1 (mo_up S 0 0 0))) := by unfold sp_X12_ward; rw [if_pos c_26, if_pos c_36]
        exact ev_iret dX12_ward_40 rfl rfl ⟨by rw [e9], by rw [e9]; exact hT⟩
    · refine ev_iconst (v := 0) dX12_ward_29 (by decide) ?_
      have e9 : sp_X12_ward S x1 = (0, (sp_bad (if (mo_b (sp_in x1 0 1000)) = 0 then true else false) 1 (mo_up S 0 0 0))) := by unfold sp_X12_ward; rw [if_neg c_26]
      exact ev_iret dX12_ward_30 rfl rfl ⟨by rw [e9], by rw [e9]; exact hT⟩
  refine ev_if_ne (tgt := 21) dX12_ward_14 (by decide) (fun c_14 => ?_) (fun c_14 => ?_)
  · refine ev_iconst (v := 0) dX12_ward_21 (by decide) ?_
    exact K_22 g hT _ (by rw [if_neg c_14]; rfl)
  · refine ev_iconst (v := 1) dX12_ward_17 (by decide) ?_
    refine ev_goto (tgt := 22) dX12_ward_18 (by decide) ?_
    exact K_22 g hT _ (by rw [if_pos c_14]; rfl)
theorem mo_ix {x y : Int32} {a b N : Nat} (hx : x = nI a) (hy : y = nI b) (h : 12 * a + b < N) (hN : N < 2147483648) : vp_in (12 * x + y) N ∧ (12 * x + y).toNatClampNeg = 12 * a + b := by
  have e : 12 * x + y = nI (12 * a + b) := by
    subst hx hy
    rw [show (12 : Int32) = nI 12 from rfl, pk_mul, nI_add]
  rw [e]
  exact ⟨vp_in_nI h hN, nI_clamp (by omega)⟩
theorem mo_and {a b : Bool} (h : (if mo_b a = 0 then true else (if mo_b b = 0 then true else false)) = false) : a = true ∧ b = true := by
  cases a <;> cases b <;> simp [mo_b] at h ⊢
def sp_X12_isTwo (S : mo_S) (x1 x2 : Int32) : Int32 × mo_S :=
  ((mo_b (if (mo_b (if (mo_b (sp_in x1 0 ((S.1 1 0) - 1))) = 0 then true else (if (mo_b (sp_in x2 0 ((S.1 1 0) - 1))) = 0 then true else false))) = 0 then true else false)), (mo_up S 0 0 (mo_b (if (mo_b (sp_in x1 0 ((S.1 1 0) - 1))) = 0 then true else (if (mo_b (sp_in x2 0 ((S.1 1 0) - 1))) = 0 then true else false)))))
theorem c_X12_isTwo {G : ev_G} {W : mo_W} {d : Nat} {S : mo_S} {x1 x2 : Int32} (hE : ev_En G) (hd : 1 ≤ d) : mo_C G W d mX12_isTwo [.int x1, .int x2] S (some (.int (sp_X12_isTwo S x1 x2).1)) (sp_X12_isTwo S x1 x2).2 := by
  refine mo_start (lv0 := [some (.ref W.1), some (.int x1), some (.int x2)]) (by decide +kernel) rfl (Nat.le_of_ble_eq_true rfl) rfl ?_
  intro g0 g hT
  refine ev_aload_n dX12_isTwo_0 rfl rfl ?_
  refine ev_iload_n dX12_isTwo_1 rfl rfl ?_
  refine ev_iconst (v := 0) dX12_isTwo_2 (by decide) ?_
  refine ev_aload_n dX12_isTwo_3 rfl rfl ?_
  refine mo_geti hE hT dX12_isTwo_4 fX12_185 (by decide) ?_
  refine ev_iconst (v := 1) dX12_isTwo_7 (by decide) ?_
  refine ev_isub dX12_isTwo_8 ?_
  refine ev_pS3 (d' := d - 1) dX12_isTwo_9 rfl kX12_in lX12_176 sX12_in (Nat.le_of_ble_eq_true rfl) (by omega) (c_X12_in) ?_
  have K_34 : ∀ (g : ev_H) (hT : mo_T G W g0 g S), ∀ x9 : Int32, x9 = (mo_b (if (mo_b (sp_in x1 0 ((S.1 1 0) - 1))) = 0 then true else (if (mo_b (sp_in x2 0 ((S.1 1 0) - 1))) = 0 then true else false))) → ev_V G d 0 0 mX12_isTwo (fun o g' => o = .inl (some (.int (sp_X12_isTwo S x1 x2).1)) ∧ mo_T G W g0 g' (sp_X12_isTwo S x1 x2).2) g 34 [some (.ref W.1), some (.int x1), some (.int x2)] (.int x9 :: .ref W.1 :: []) := by
    intro g hT x9 h9
    subst h9
    refine mo_put hE hT dX12_isTwo_34 pX12_173 (by decide) (fun g hT => ?_)
    refine ev_aload_n dX12_isTwo_37 rfl rfl ?_
    refine mo_getiE (v := (mo_b (if (mo_b (sp_in x1 0 ((S.1 1 0) - 1))) = 0 then true else (if (mo_b (sp_in x2 0 ((S.1 1 0) - 1))) = 0 then true else false)))) hE hT dX12_isTwo_38 fX12_173 (by decide) (by simp [sp_bad_ne, mo_up]) ?_
    have K_49 : ∀ (g : ev_H) (hT : mo_T G W g0 g (mo_up S 0 0 (mo_b (if (mo_b (sp_in x1 0 ((S.1 1 0) - 1))) = 0 then true else (if (mo_b (sp_in x2 0 ((S.1 1 0) - 1))) = 0 then true else false))))), ∀ x9 : Int32, x9 = (mo_b (if (mo_b (if (mo_b (sp_in x1 0 ((S.1 1 0) - 1))) = 0 then true else (if (mo_b (sp_in x2 0 ((S.1 1 0) - 1))) = 0 then true else false))) = 0 then true else false)) → ev_V G d 0 0 mX12_isTwo (fun o g' => o = .inl (some (.int (sp_X12_isTwo S x1 x2).1)) ∧ mo_T G W g0 g' (sp_X12_isTwo S x1 x2).2) g 49 [some (.ref W.1), some (.int x1), some (.int x2)] (.int x9 :: []) := by
      intro g hT x9 h9
      subst h9
      have e9 : sp_X12_isTwo S x1 x2 = ((mo_b (if (mo_b (if (mo_b (sp_in x1 0 ((S.1 1 0) - 1))) = 0 then true else (if (mo_b (sp_in x2 0 ((S.1 1 0) - 1))) = 0 then true else false))) = 0 then true else false)), (mo_up S 0 0 (mo_b (if (mo_b (sp_in x1 0 ((S.1 1 0) - 1))) = 0 then true else (if (mo_b (sp_in x2 0 ((S.1 1 0) - 1))) = 0 then true else false))))) := by unfold sp_X12_isTwo; rfl
      exact ev_iret dX12_isTwo_49 rfl (by first | exact mo_b_nar _ | rfl) ⟨by rw [e9], by rw [e9]; exact hT⟩
    refine ev_if_ne (tgt := 48) dX12_isTwo_41 (by decide) (fun c_41 => ?_) (fun c_41 => ?_)
    · refine ev_iconst (v := 0) dX12_isTwo_48 (by decide) ?_
      exact K_49 g hT _ (by rw [if_neg c_41]; rfl)
    · refine ev_iconst (v := 1) dX12_isTwo_44 (by decide) ?_
      refine ev_goto (tgt := 49) dX12_isTwo_45 (by decide) ?_
      exact K_49 g hT _ (by rw [if_pos c_41]; rfl)
  refine ev_if_eq (tgt := 33) dX12_isTwo_12 (by decide) (fun c_12 => ?_) (fun c_12 => ?_)
  · refine ev_iconst (v := 1) dX12_isTwo_33 (by decide) ?_
    exact K_34 g hT _ (by rw [if_pos c_12]; rfl)
  · refine ev_iload_n dX12_isTwo_15 rfl rfl ?_
    refine ev_iconst (v := 0) dX12_isTwo_16 (by decide) ?_
    refine ev_aload_n dX12_isTwo_17 rfl rfl ?_
    refine mo_geti hE hT dX12_isTwo_18 fX12_185 (by decide) ?_
    refine ev_iconst (v := 1) dX12_isTwo_21 (by decide) ?_
    refine ev_isub dX12_isTwo_22 ?_
    refine ev_pS3 (d' := d - 1) dX12_isTwo_23 rfl kX12_in lX12_176 sX12_in (Nat.le_of_ble_eq_true rfl) (by omega) (c_X12_in) ?_
    refine ev_if_eq (tgt := 33) dX12_isTwo_26 (by decide) (fun c_26 => ?_) (fun c_26 => ?_)
    · refine ev_iconst (v := 1) dX12_isTwo_33 (by decide) ?_
      exact K_34 g hT _ (by rw [if_neg c_12, if_pos c_26]; rfl)
    · refine ev_iconst (v := 0) dX12_isTwo_29 (by decide) ?_
      refine ev_goto (tgt := 34) dX12_isTwo_30 (by decide) ?_
      exact K_34 g hT _ (by rw [if_neg c_12, if_neg c_26]; rfl)
def sp_X12_isIn (S : mo_S) (x1 : Int32) : Bool :=
  (if (S.1 12 (x1).toNatClampNeg) = 1 then (if x1 = (S.1 53 0) then false else true) else false)
theorem c_X12_isIn {G : ev_G} {W : mo_W} {d : Nat} {S : mo_S} {x1 : Int32} (hE : ev_En G) (hv : vp_in x1 12) : mo_C G W d mX12_isIn [.int x1] S (some (.int (mo_b (sp_X12_isIn S x1)))) S := by
  refine mo_start (lv0 := [some (.ref W.1), some (.int x1)]) (by decide +kernel) rfl (Nat.le_of_ble_eq_true rfl) rfl ?_
  intro g0 g hT
  refine ev_aload_n dX12_isIn_0 rfl rfl ?_
  refine mo_geta hE hT dX12_isIn_1 fX12_37 (by decide) ?_
  refine ev_iload_n dX12_isIn_4 rfl rfl ?_
  refine mo_ialdV hE hT dX12_isIn_5 (by decide) (show vp_in _ 12 from hv) ?_
  refine ev_iconst (v := 1) dX12_isIn_6 (by decide) ?_
  have K_23 : ∀ (g : ev_H) (hT : mo_T G W g0 g S), ∀ x9 : Int32, x9 = (mo_b (if (S.1 12 (x1).toNatClampNeg) = 1 then (if x1 = (S.1 53 0) then false else true) else false)) → ev_V G d 0 0 mX12_isIn (fun o g' => o = .inl (some (.int (mo_b (sp_X12_isIn S x1)))) ∧ mo_T G W g0 g' S) g 23 [some (.ref W.1), some (.int x1)] (.int x9 :: []) := by
    intro g hT x9 h9
    subst h9
    have e9 : sp_X12_isIn S x1 = (if (S.1 12 (x1).toNatClampNeg) = 1 then (if x1 = (S.1 53 0) then false else true) else false) := by unfold sp_X12_isIn; rfl
    exact ev_iret dX12_isIn_23 rfl (by first | exact mo_b_nar _ | rfl) ⟨by rw [e9], hT⟩
  refine ev_icmp_ne (tgt := 22) dX12_isIn_7 (by decide) (fun c_7 => ?_) (fun c_7 => ?_)
  · refine ev_iconst (v := 0) dX12_isIn_22 (by decide) ?_
    exact K_23 g hT _ (by rw [if_neg c_7]; rfl)
  · refine ev_iload_n dX12_isIn_10 rfl rfl ?_
    refine ev_aload_n dX12_isIn_11 rfl rfl ?_
    refine mo_geti hE hT dX12_isIn_12 fX12_115 (by decide) ?_
    refine ev_icmp_eq (tgt := 22) dX12_isIn_15 (by decide) (fun c_15 => ?_) (fun c_15 => ?_)
    · refine ev_iconst (v := 0) dX12_isIn_22 (by decide) ?_
      exact K_23 g hT _ (by rw [if_pos c_7, if_pos c_15]; rfl)
    · refine ev_iconst (v := 1) dX12_isIn_18 (by decide) ?_
      refine ev_goto (tgt := 23) dX12_isIn_19 (by decide) ?_
      exact K_23 g hT _ (by rw [if_pos c_7, if_neg c_15]; rfl)
def sp_X12_areTwo (S : mo_S) (x1 x2 : Int32) : Bool :=
  (if x1 = x2 then false else (if (S.1 12 (x1).toNatClampNeg) = 1 then (if (S.1 12 (x2).toNatClampNeg) = 1 then true else false) else false))
theorem c_X12_areTwo {G : ev_G} {W : mo_W} {d : Nat} {S : mo_S} {x1 x2 : Int32} (hE : ev_En G) (hv : vp_in x1 12) (hv2 : vp_in x2 12) : mo_C G W d mX12_areTwo [.int x1, .int x2] S (some (.int (mo_b (sp_X12_areTwo S x1 x2)))) S := by
  refine mo_start (lv0 := [some (.ref W.1), some (.int x1), some (.int x2)]) (by decide +kernel) rfl (Nat.le_of_ble_eq_true rfl) rfl ?_
  intro g0 g hT
  refine ev_iload_n dX12_areTwo_0 rfl rfl ?_
  refine ev_iload_n dX12_areTwo_1 rfl rfl ?_
  have K_30 : ∀ (g : ev_H) (hT : mo_T G W g0 g S), ∀ x9 : Int32, x9 = (mo_b (if x1 = x2 then false else (if (S.1 12 (x1).toNatClampNeg) = 1 then (if (S.1 12 (x2).toNatClampNeg) = 1 then true else false) else false))) → ev_V G d 0 0 mX12_areTwo (fun o g' => o = .inl (some (.int (mo_b (sp_X12_areTwo S x1 x2)))) ∧ mo_T G W g0 g' S) g 30 [some (.ref W.1), some (.int x1), some (.int x2)] (.int x9 :: []) := by
    intro g hT x9 h9
    subst h9
    have e9 : sp_X12_areTwo S x1 x2 = (if x1 = x2 then false else (if (S.1 12 (x1).toNatClampNeg) = 1 then (if (S.1 12 (x2).toNatClampNeg) = 1 then true else false) else false)) := by unfold sp_X12_areTwo; rfl
    exact ev_iret dX12_areTwo_30 rfl (by first | exact mo_b_nar _ | rfl) ⟨by rw [e9], hT⟩
  refine ev_icmp_eq (tgt := 29) dX12_areTwo_2 (by decide) (fun c_2 => ?_) (fun c_2 => ?_)
  · refine ev_iconst (v := 0) dX12_areTwo_29 (by decide) ?_
    exact K_30 g hT _ (by rw [if_pos c_2]; rfl)
  · refine ev_aload_n dX12_areTwo_5 rfl rfl ?_
    refine mo_geta hE hT dX12_areTwo_6 fX12_37 (by decide) ?_
    refine ev_iload_n dX12_areTwo_9 rfl rfl ?_
    refine mo_ialdV hE hT dX12_areTwo_10 (by decide) (show vp_in _ 12 from (by first | exact hv | exact hv2)) ?_
    refine ev_iconst (v := 1) dX12_areTwo_11 (by decide) ?_
    refine ev_icmp_ne (tgt := 29) dX12_areTwo_12 (by decide) (fun c_12 => ?_) (fun c_12 => ?_)
    · refine ev_iconst (v := 0) dX12_areTwo_29 (by decide) ?_
      exact K_30 g hT _ (by rw [if_neg c_2, if_neg c_12]; rfl)
    · refine ev_aload_n dX12_areTwo_15 rfl rfl ?_
      refine mo_geta hE hT dX12_areTwo_16 fX12_37 (by decide) ?_
      refine ev_iload_n dX12_areTwo_19 rfl rfl ?_
      refine mo_ialdV hE hT dX12_areTwo_20 (by decide) (show vp_in _ 12 from (by first | exact hv | exact hv2)) ?_
      refine ev_iconst (v := 1) dX12_areTwo_21 (by decide) ?_
      refine ev_icmp_ne (tgt := 29) dX12_areTwo_22 (by decide) (fun c_22 => ?_) (fun c_22 => ?_)
      · refine ev_iconst (v := 0) dX12_areTwo_29 (by decide) ?_
        exact K_30 g hT _ (by rw [if_neg c_2, if_pos c_12, if_neg c_22]; rfl)
      · refine ev_iconst (v := 1) dX12_areTwo_25 (by decide) ?_
        refine ev_goto (tgt := 30) dX12_areTwo_26 (by decide) ?_
        exact K_30 g hT _ (by rw [if_neg c_2, if_pos c_12, if_pos c_22]; rfl)
def sp_X12_isAppeal (S : mo_S) (x1 : Int32) : Bool :=
  (sp_in x1 0 ((S.1 62 0) - 1))
theorem c_X12_isAppeal {G : ev_G} {W : mo_W} {d : Nat} {S : mo_S} {x1 : Int32} (hE : ev_En G) (hd : 1 ≤ d) : mo_C G W d mX12_isAppeal [.int x1] S (some (.int (mo_b (sp_X12_isAppeal S x1)))) S := by
  refine mo_start (lv0 := [some (.ref W.1), some (.int x1)]) (by decide +kernel) rfl (Nat.le_of_ble_eq_true rfl) rfl ?_
  intro g0 g hT
  refine ev_iload_n dX12_isAppeal_0 rfl rfl ?_
  refine ev_iconst (v := 0) dX12_isAppeal_1 (by decide) ?_
  refine ev_aload_n dX12_isAppeal_2 rfl rfl ?_
  refine mo_geti hE hT dX12_isAppeal_3 fX12_446 (by decide) ?_
  refine ev_iconst (v := 1) dX12_isAppeal_6 (by decide) ?_
  refine ev_isub dX12_isAppeal_7 ?_
  refine ev_pS3 (d' := d - 1) dX12_isAppeal_8 rfl kX12_in lX12_176 sX12_in (Nat.le_of_ble_eq_true rfl) (by omega) (c_X12_in) ?_
  have e9 : sp_X12_isAppeal S x1 = (sp_in x1 0 ((S.1 62 0) - 1)) := by unfold sp_X12_isAppeal; rfl
  exact ev_iret dX12_isAppeal_11 rfl (by first | exact mo_b_nar _ | rfl) ⟨by rw [e9], hT⟩
def sp_X12_bid (S : mo_S) (x1 x2 x3 : Int32) : Int32 × mo_S :=
  (if (mo_b (sp_in x1 0 (S.1 1 0 - 1))) = 0 then (0, (mo_up S 0 0 (mo_b (!sp_in x1 0 (S.1 1 0 - 1))))) else (if (mo_b (if (mo_b (sp_in x2 1 100000)) = 0 then true else (if (mo_b (sp_in x3 0 100)) = 0 then true else false))) = 0 then (if (S.1 12 (x1).toNatClampNeg) = 1 then (1, (mo_up (mo_up (sp_bad (if (mo_b (sp_in x2 1 100000)) = 0 then true else (if (mo_b (sp_in x3 0 100)) = 0 then true else false)) 2 (mo_up S 0 0 (mo_b (!sp_in x1 0 (S.1 1 0 - 1))))) 14 (x1).toNatClampNeg x2) 15 (x1).toNatClampNeg x3)) else ((-1), (sp_bad (if (mo_b (sp_in x2 1 100000)) = 0 then true else (if (mo_b (sp_in x3 0 100)) = 0 then true else false)) 2 (mo_up S 0 0 (mo_b (!sp_in x1 0 (S.1 1 0 - 1))))))) else (0, (sp_bad (if (mo_b (sp_in x2 1 100000)) = 0 then true else (if (mo_b (sp_in x3 0 100)) = 0 then true else false)) 2 (mo_up S 0 0 (mo_b (!sp_in x1 0 (S.1 1 0 - 1))))))))
theorem c_X12_bid {G : ev_G} {W : mo_W} {d : Nat} {S : mo_S} {x1 x2 x3 : Int32} (hE : ev_En G) (hd : 2 ≤ d) {P : Nat} (hP : S.1 1 0 = nI P) (hP2 : P ≤ 12) : mo_C G W d mX12_bid [.int x1, .int x2, .int x3] S (some (.int (sp_X12_bid S x1 x2 x3).1)) (sp_X12_bid S x1 x2 x3).2 := by
  refine mo_start (lv0 := [some (.ref W.1), some (.int x1), some (.int x2), some (.int x3)]) (by decide +kernel) rfl (Nat.le_of_ble_eq_true rfl) rfl ?_
  intro g0 g hT
  refine ev_aload_n dX12_bid_0 rfl rfl ?_
  refine ev_iload_n dX12_bid_1 rfl rfl ?_
  refine mo_call1 (d' := d - 1) hE hT dX12_bid_2 rfl rfl kX12_isPaper lX12_188 iX12_isPaper vX12_isPaper (Nat.le_of_ble_eq_true rfl) (by omega) (c_X12_isPaper hE (by omega)) (fun g hT => ?_)
  refine ev_if_eq (tgt := 41) dX12_bid_5 (by decide) (fun c_5 => ?_) (fun c_5 => ?_)
  · refine ev_iconst (v := 0) dX12_bid_41 (by decide) ?_
    have e9 : sp_X12_bid S x1 x2 x3 = (0, (mo_up S 0 0 (mo_b (!sp_in x1 0 (S.1 1 0 - 1))))) := by unfold sp_X12_bid; rw [if_pos c_5]
    exact ev_iret dX12_bid_42 rfl rfl ⟨by rw [e9], by rw [e9]; exact hT⟩
  · refine ev_aload_n dX12_bid_8 rfl rfl ?_
    refine ev_iload_n dX12_bid_9 rfl rfl ?_
    refine ev_iconst (v := 1) dX12_bid_10 (by decide) ?_
    refine ev_ldc dX12_bid_11 nX12_180 ?_
    refine ev_pS3 (d' := d - 1) dX12_bid_13 rfl kX12_in lX12_176 sX12_in (Nat.le_of_ble_eq_true rfl) (by omega) (c_X12_in) ?_
    have K_34 : ∀ (g : ev_H) (hT : mo_T G W g0 g (mo_up S 0 0 (mo_b (!sp_in x1 0 (S.1 1 0 - 1))))), ∀ x9 : Int32, x9 = (mo_b (if (mo_b (sp_in x2 1 100000)) = 0 then true else (if (mo_b (sp_in x3 0 100)) = 0 then true else false))) → ev_V G d 0 0 mX12_bid (fun o g' => o = .inl (some (.int (sp_X12_bid S x1 x2 x3).1)) ∧ mo_T G W g0 g' (sp_X12_bid S x1 x2 x3).2) g 34 [some (.ref W.1), some (.int x1), some (.int x2), some (.int x3)] (.int x9 :: .ref W.1 :: []) := by
      intro g hT x9 h9
      subst h9
      refine ev_iconst (v := 2) dX12_bid_34 (by decide) ?_
      refine mo_call2 (d' := d - 1) hE hT dX12_bid_35 rfl rfl kX12_bad lX12_181 iX12_bad vX12_bad (Nat.le_of_ble_eq_true rfl) (by omega) (c_X12_bad hE) (fun g hT => ?_)
      refine ev_if_eq (tgt := 43) dX12_bid_38 (by decide) (fun c_38 => ?_) (fun c_38 => ?_)
      · have hv := (mo_vin (N := 12) hP hP2 (by decide) (by simpa [sp_bad_ne, mo_up] using mo_b_1 c_5)).1
        refine ev_aload_n dX12_bid_43 rfl rfl ?_
        refine mo_geta hE hT dX12_bid_44 fX12_37 (by decide) ?_
        refine ev_iload_n dX12_bid_47 rfl rfl ?_
        refine mo_ialdE (v := (S.1 12 (x1).toNatClampNeg)) hE hT dX12_bid_48 (by decide) (show vp_in _ 12 from hv) (by simp [sp_bad_ne, mo_up]) ?_
        refine ev_iconst (v := 1) dX12_bid_49 (by decide) ?_
        refine ev_icmp_eq (tgt := 55) dX12_bid_50 (by decide) (fun c_50 => ?_) (fun c_50 => ?_)
        · refine ev_aload_n dX12_bid_55 rfl rfl ?_
          refine mo_geta hE hT dX12_bid_56 fX12_43 (by decide) ?_
          refine ev_iload_n dX12_bid_59 rfl rfl ?_
          refine ev_iload_n dX12_bid_60 rfl rfl ?_
          refine mo_iastV hE hT dX12_bid_61 (by decide) (show vp_in _ 12 from hv) (fun g hT => ?_)
          refine ev_aload_n dX12_bid_62 rfl rfl ?_
          refine mo_geta hE hT dX12_bid_63 fX12_46 (by decide) ?_
          refine ev_iload_n dX12_bid_66 rfl rfl ?_
          refine ev_iload_n dX12_bid_67 rfl rfl ?_
          refine mo_iastV hE hT dX12_bid_68 (by decide) (show vp_in _ 12 from hv) (fun g hT => ?_)
          refine ev_iconst (v := 1) dX12_bid_69 (by decide) ?_
          have e9 : sp_X12_bid S x1 x2 x3 = (1, (mo_up (mo_up (sp_bad (if (mo_b (sp_in x2 1 100000)) = 0 then true else (if (mo_b (sp_in x3 0 100)) = 0 then true else false)) 2 (mo_up S 0 0 (mo_b (!sp_in x1 0 (S.1 1 0 - 1))))) 14 (x1).toNatClampNeg x2) 15 (x1).toNatClampNeg x3)) := by unfold sp_X12_bid; rw [if_neg c_5, if_pos c_38, if_pos c_50]
          exact ev_iret dX12_bid_70 rfl rfl ⟨by rw [e9], by rw [e9]; exact hT⟩
        · refine ev_iconst (v := (-1)) dX12_bid_53 (by decide) ?_
          have e9 : sp_X12_bid S x1 x2 x3 = ((-1), (sp_bad (if (mo_b (sp_in x2 1 100000)) = 0 then true else (if (mo_b (sp_in x3 0 100)) = 0 then true else false)) 2 (mo_up S 0 0 (mo_b (!sp_in x1 0 (S.1 1 0 - 1)))))) := by unfold sp_X12_bid; rw [if_neg c_5, if_pos c_38, if_neg c_50]
          exact ev_iret dX12_bid_54 rfl rfl ⟨by rw [e9], by rw [e9]; exact hT⟩
      · refine ev_iconst (v := 0) dX12_bid_41 (by decide) ?_
        have e9 : sp_X12_bid S x1 x2 x3 = (0, (sp_bad (if (mo_b (sp_in x2 1 100000)) = 0 then true else (if (mo_b (sp_in x3 0 100)) = 0 then true else false)) 2 (mo_up S 0 0 (mo_b (!sp_in x1 0 (S.1 1 0 - 1)))))) := by unfold sp_X12_bid; rw [if_neg c_5, if_neg c_38]
        exact ev_iret dX12_bid_42 rfl rfl ⟨by rw [e9], by rw [e9]; exact hT⟩
    refine ev_if_eq (tgt := 29) dX12_bid_16 (by decide) (fun c_16 => ?_) (fun c_16 => ?_)
    · refine ev_iconst (v := 1) dX12_bid_29 (by decide) ?_
      refine ev_goto (tgt := 34) dX12_bid_30 (by decide) ?_
      exact K_34 g hT _ (by rw [if_pos c_16]; rfl)
    · refine ev_iload_n dX12_bid_19 rfl rfl ?_
      refine ev_iconst (v := 0) dX12_bid_20 (by decide) ?_
      refine ev_bipush (v := 100) dX12_bid_21 (by decide) ?_
      refine ev_pS3 (d' := d - 1) dX12_bid_23 rfl kX12_in lX12_176 sX12_in (Nat.le_of_ble_eq_true rfl) (by omega) (c_X12_in) ?_
      refine ev_if_ne (tgt := 33) dX12_bid_26 (by decide) (fun c_26 => ?_) (fun c_26 => ?_)
      · refine ev_iconst (v := 0) dX12_bid_33 (by decide) ?_
        exact K_34 g hT _ (by rw [if_neg c_16, if_neg c_26]; rfl)
      · refine ev_iconst (v := 1) dX12_bid_29 (by decide) ?_
        refine ev_goto (tgt := 34) dX12_bid_30 (by decide) ?_
        exact K_34 g hT _ (by rw [if_neg c_16, if_pos c_26]; rfl)
theorem mo_ixc {C x y : Int32} {c a b N : Nat} (hC : C = nI c) (hx : x = nI a) (hy : y = nI b) (h : c * a + b < N) (hN : N < 2147483648) : vp_in (C * x + y) N ∧ (C * x + y).toNatClampNeg = c * a + b := by
  have e : C * x + y = nI (c * a + b) := by
    subst hC hx hy
    rw [pk_mul, nI_add]
  rw [e]
  exact ⟨vp_in_nI h hN, nI_clamp (by omega)⟩
/-- an index that was looked at, all that is known of it -/
theorem mo_vinE {p x : Int32} {P N : Nat} (hx : x = nI P) (hP : P ≤ N) (hN : N < 2147483648) (h : sp_in p 0 (x - 1) = true) : ∃ a, a < P ∧ p = nI a := ⟨_, (mo_vin hx hP hN h).2.1, (mo_vin hx hP hN h).2.2⟩
def sp_X12_loyal (S : mo_S) (x1 x2 x3 : Int32) : Int32 × mo_S :=
  (if (mo_b (if (mo_b (sp_in x1 0 ((S.1 24 0) - 1))) = 0 then true else (if (mo_b (sp_in x2 0 ((S.1 1 0) - 1))) = 0 then true else false))) = 0 then (if (mo_b (if (mo_b (sp_in x3 0 100)) = 0 then true else false)) = 0 then ((S.1 26 (((12 * x1) + x2)).toNatClampNeg), (mo_up (sp_bad (if (mo_b (sp_in x3 0 100)) = 0 then true else false) 2 (sp_bad (if (mo_b (sp_in x1 0 ((S.1 24 0) - 1))) = 0 then true else (if (mo_b (sp_in x2 0 ((S.1 1 0) - 1))) = 0 then true else false)) 1 (mo_up S 0 0 0))) 26 (((12 * x1) + x2)).toNatClampNeg x3)) else (0, (sp_bad (if (mo_b (sp_in x3 0 100)) = 0 then true else false) 2 (sp_bad (if (mo_b (sp_in x1 0 ((S.1 24 0) - 1))) = 0 then true else (if (mo_b (sp_in x2 0 ((S.1 1 0) - 1))) = 0 then true else false)) 1 (mo_up S 0 0 0))))) else (0, (sp_bad (if (mo_b (sp_in x1 0 ((S.1 24 0) - 1))) = 0 then true else (if (mo_b (sp_in x2 0 ((S.1 1 0) - 1))) = 0 then true else false)) 1 (mo_up S 0 0 0))))
theorem c_X12_loyal {G : ev_G} {W : mo_W} {d : Nat} {S : mo_S} {x1 x2 x3 : Int32} (hE : ev_En G) (hd : 1 ≤ d) {P : Nat} (hP : S.1 1 0 = nI P) (hP2 : P ≤ 12) {Q : Nat} (hQ : S.1 24 0 = nI Q) (hQ2 : Q ≤ 5) : mo_C G W d mX12_loyal [.int x1, .int x2, .int x3] S (some (.int (sp_X12_loyal S x1 x2 x3).1)) (sp_X12_loyal S x1 x2 x3).2 := by
  refine mo_start (lv0 := [some (.ref W.1), some (.int x1), some (.int x2), some (.int x3), none]) (by decide +kernel) rfl (Nat.le_of_ble_eq_true rfl) rfl ?_
  intro g0 g hT
  refine ev_aload_n dX12_loyal_0 rfl rfl ?_
  refine ev_iconst (v := 0) dX12_loyal_1 (by decide) ?_
  refine mo_put hE hT dX12_loyal_2 pX12_173 (by decide) (fun g hT => ?_)
  refine ev_aload_n dX12_loyal_5 rfl rfl ?_
  refine ev_iload_n dX12_loyal_6 rfl rfl ?_
  refine ev_iconst (v := 0) dX12_loyal_7 (by decide) ?_
  refine ev_aload_n dX12_loyal_8 rfl rfl ?_
  refine mo_getiE (v := (S.1 24 0)) hE hT dX12_loyal_9 fX12_202 (by decide) (by simp [sp_bad_ne, mo_up]) ?_
  refine ev_iconst (v := 1) dX12_loyal_12 (by decide) ?_
  refine ev_isub dX12_loyal_13 ?_
  refine ev_pS3 (d' := d - 1) dX12_loyal_14 rfl kX12_in lX12_176 sX12_in (Nat.le_of_ble_eq_true rfl) (by omega) (c_X12_in) ?_
  have K_39 : ∀ (g : ev_H) (hT : mo_T G W g0 g (mo_up S 0 0 0)), ∀ x9 : Int32, x9 = (mo_b (if (mo_b (sp_in x1 0 ((S.1 24 0) - 1))) = 0 then true else (if (mo_b (sp_in x2 0 ((S.1 1 0) - 1))) = 0 then true else false))) → ev_V G d 0 0 mX12_loyal (fun o g' => o = .inl (some (.int (sp_X12_loyal S x1 x2 x3).1)) ∧ mo_T G W g0 g' (sp_X12_loyal S x1 x2 x3).2) g 39 [some (.ref W.1), some (.int x1), some (.int x2), some (.int x3), none] (.int x9 :: .ref W.1 :: []) := by
    intro g hT x9 h9
    subst h9
    refine ev_iconst (v := 1) dX12_loyal_39 (by decide) ?_
    refine mo_call2 (d' := d - 1) hE hT dX12_loyal_40 rfl rfl kX12_bad lX12_181 iX12_bad vX12_bad (Nat.le_of_ble_eq_true rfl) (by omega) (c_X12_bad hE) (fun g hT => ?_)
    refine ev_if_ne (tgt := 69) dX12_loyal_43 (by decide) (fun c_43 => ?_) (fun c_43 => ?_)
    · refine ev_iconst (v := 0) dX12_loyal_69 (by decide) ?_
      have e9 : sp_X12_loyal S x1 x2 x3 = (0, (sp_bad (if (mo_b (sp_in x1 0 ((S.1 24 0) - 1))) = 0 then true else (if (mo_b (sp_in x2 0 ((S.1 1 0) - 1))) = 0 then true else false)) 1 (mo_up S 0 0 0))) := by unfold sp_X12_loyal; rw [if_neg c_43]
      exact ev_iret dX12_loyal_70 rfl rfl ⟨by rw [e9], by rw [e9]; exact hT⟩
    · refine ev_aload_n dX12_loyal_46 rfl rfl ?_
      refine ev_iload_n dX12_loyal_47 rfl rfl ?_
      refine ev_iconst (v := 0) dX12_loyal_48 (by decide) ?_
      refine ev_bipush (v := 100) dX12_loyal_49 (by decide) ?_
      refine ev_pS3 (d' := d - 1) dX12_loyal_51 rfl kX12_in lX12_176 sX12_in (Nat.le_of_ble_eq_true rfl) (by omega) (c_X12_in) ?_
      have K_62 : ∀ (g : ev_H) (hT : mo_T G W g0 g (sp_bad (if (mo_b (sp_in x1 0 ((S.1 24 0) - 1))) = 0 then true else (if (mo_b (sp_in x2 0 ((S.1 1 0) - 1))) = 0 then true else false)) 1 (mo_up S 0 0 0))), ∀ x9 : Int32, x9 = (mo_b (if (mo_b (sp_in x3 0 100)) = 0 then true else false)) → ev_V G d 0 0 mX12_loyal (fun o g' => o = .inl (some (.int (sp_X12_loyal S x1 x2 x3).1)) ∧ mo_T G W g0 g' (sp_X12_loyal S x1 x2 x3).2) g 62 [some (.ref W.1), some (.int x1), some (.int x2), some (.int x3), none] (.int x9 :: .ref W.1 :: []) := by
        intro g hT x9 h9
        subst h9
        refine ev_iconst (v := 2) dX12_loyal_62 (by decide) ?_
        refine mo_call2 (d' := d - 1) hE hT dX12_loyal_63 rfl rfl kX12_bad lX12_181 iX12_bad vX12_bad (Nat.le_of_ble_eq_true rfl) (by omega) (c_X12_bad hE) (fun g hT => ?_)
        refine ev_if_eq (tgt := 71) dX12_loyal_66 (by decide) (fun c_66 => ?_) (fun c_66 => ?_)
        · obtain ⟨q1, q2⟩ := mo_and (mo_b_0 c_43)
          obtain ⟨a, w1, e1⟩ := mo_vinE (N := 5) hQ hQ2 (by decide) q1
          obtain ⟨b, w2, e2⟩ := mo_vinE (N := 12) hP hP2 (by decide) q2
          have hv := (mo_ix (N := 60) e1 e2 (by omega) (by decide)).1
          refine ev_aload_n dX12_loyal_71 rfl rfl ?_
          refine mo_geta hE hT dX12_loyal_72 fX12_73 (by decide) ?_
          refine ev_bipush (v := 12) dX12_loyal_75 (by decide) ?_
          refine ev_iload_n dX12_loyal_77 rfl rfl ?_
          refine ev_imul dX12_loyal_78 ?_
          refine ev_iload_n dX12_loyal_79 rfl rfl ?_
          refine ev_iadd dX12_loyal_80 ?_
          refine mo_ialdE (v := (S.1 26 (((12 * x1) + x2)).toNatClampNeg)) hE hT dX12_loyal_81 (by decide) (show vp_in _ 60 from hv) (by simp [sp_bad_ne, mo_up]) ?_
          refine ev_istore dX12_loyal_82 (Nat.le_of_ble_eq_true rfl) rfl ?_
          refine ev_aload_n dX12_loyal_84 rfl rfl ?_
          refine mo_geta hE hT dX12_loyal_85 fX12_73 (by decide) ?_
          refine ev_bipush (v := 12) dX12_loyal_88 (by decide) ?_
          refine ev_iload_n dX12_loyal_90 rfl rfl ?_
          refine ev_imul dX12_loyal_91 ?_
          refine ev_iload_n dX12_loyal_92 rfl rfl ?_
          refine ev_iadd dX12_loyal_93 ?_
          refine ev_iload_n dX12_loyal_94 rfl rfl ?_
          refine mo_iastV hE hT dX12_loyal_95 (by decide) (show vp_in _ 60 from hv) (fun g hT => ?_)
          refine ev_iload dX12_loyal_96 rfl ?_
          have e9 : sp_X12_loyal S x1 x2 x3 = ((S.1 26 (((12 * x1) + x2)).toNatClampNeg), (mo_up (sp_bad (if (mo_b (sp_in x3 0 100)) = 0 then true else false) 2 (sp_bad (if (mo_b (sp_in x1 0 ((S.1 24 0) - 1))) = 0 then true else (if (mo_b (sp_in x2 0 ((S.1 1 0) - 1))) = 0 then true else false)) 1 (mo_up S 0 0 0))) 26 (((12 * x1) + x2)).toNatClampNeg x3)) := by unfold sp_X12_loyal; rw [if_pos c_43, if_pos c_66]
          exact ev_iret dX12_loyal_98 rfl rfl ⟨by rw [e9], by rw [e9]; exact hT⟩
        · refine ev_iconst (v := 0) dX12_loyal_69 (by decide) ?_
          have e9 : sp_X12_loyal S x1 x2 x3 = (0, (sp_bad (if (mo_b (sp_in x3 0 100)) = 0 then true else false) 2 (sp_bad (if (mo_b (sp_in x1 0 ((S.1 24 0) - 1))) = 0 then true else (if (mo_b (sp_in x2 0 ((S.1 1 0) - 1))) = 0 then true else false)) 1 (mo_up S 0 0 0)))) := by unfold sp_X12_loyal; rw [if_pos c_43, if_neg c_66]
          exact ev_iret dX12_loyal_70 rfl rfl ⟨by rw [e9], by rw [e9]; exact hT⟩
      refine ev_if_ne (tgt := 61) dX12_loyal_54 (by decide) (fun c_54 => ?_) (fun c_54 => ?_)
      · refine ev_iconst (v := 0) dX12_loyal_61 (by decide) ?_
        exact K_62 g hT _ (by rw [if_neg c_54]; rfl)
      · refine ev_iconst (v := 1) dX12_loyal_57 (by decide) ?_
        refine ev_goto (tgt := 62) dX12_loyal_58 (by decide) ?_
        exact K_62 g hT _ (by rw [if_pos c_54]; rfl)
  refine ev_if_eq (tgt := 34) dX12_loyal_17 (by decide) (fun c_17 => ?_) (fun c_17 => ?_)
  · refine ev_iconst (v := 1) dX12_loyal_34 (by decide) ?_
    refine ev_goto (tgt := 39) dX12_loyal_35 (by decide) ?_
    exact K_39 g hT _ (by rw [if_pos c_17]; rfl)
  · refine ev_iload_n dX12_loyal_20 rfl rfl ?_
    refine ev_iconst (v := 0) dX12_loyal_21 (by decide) ?_
    refine ev_aload_n dX12_loyal_22 rfl rfl ?_
    refine mo_getiE (v := (S.1 1 0)) hE hT dX12_loyal_23 fX12_185 (by decide) (by simp [sp_bad_ne, mo_up]) ?_
    refine ev_iconst (v := 1) dX12_loyal_26 (by decide) ?_
    refine ev_isub dX12_loyal_27 ?_
    refine ev_pS3 (d' := d - 1) dX12_loyal_28 rfl kX12_in lX12_176 sX12_in (Nat.le_of_ble_eq_true rfl) (by omega) (c_X12_in) ?_
    refine ev_if_ne (tgt := 38) dX12_loyal_31 (by decide) (fun c_31 => ?_) (fun c_31 => ?_)
    · refine ev_iconst (v := 0) dX12_loyal_38 (by decide) ?_
      exact K_39 g hT _ (by rw [if_neg c_17, if_neg c_31]; rfl)
    · refine ev_iconst (v := 1) dX12_loyal_34 (by decide) ?_
      refine ev_goto (tgt := 39) dX12_loyal_35 (by decide) ?_
      exact K_39 g hT _ (by rw [if_neg c_17, if_pos c_31]; rfl)
def sp_X12_breach (S : mo_S) (x1 x2 : Int32) : Int32 × mo_S :=
  (if (mo_b (sp_in x1 0 (S.1 1 0 - 1))) = 0 then (0, (mo_up S 0 0 (mo_b (!sp_in x1 0 (S.1 1 0 - 1))))) else (if (mo_b (if (mo_b (sp_in x2 0 4)) = 0 then true else false)) = 0 then ((if x2 = 0 then (S.1 16 (x1).toNatClampNeg) else (if x2 = 1 then (S.1 17 (x1).toNatClampNeg) else (if x2 = 2 then (S.1 18 (x1).toNatClampNeg) else (if x2 = 3 then (S.1 19 (x1).toNatClampNeg) else (S.1 20 (x1).toNatClampNeg))))), (sp_bad (if (mo_b (sp_in x2 0 4)) = 0 then true else false) 2 (mo_up S 0 0 (mo_b (!sp_in x1 0 (S.1 1 0 - 1)))))) else (0, (sp_bad (if (mo_b (sp_in x2 0 4)) = 0 then true else false) 2 (mo_up S 0 0 (mo_b (!sp_in x1 0 (S.1 1 0 - 1))))))))
theorem c_X12_breach {G : ev_G} {W : mo_W} {d : Nat} {S : mo_S} {x1 x2 : Int32} (hE : ev_En G) (hd : 2 ≤ d) {P : Nat} (hP : S.1 1 0 = nI P) (hP2 : P ≤ 12) : mo_C G W d mX12_breach [.int x1, .int x2] S (some (.int (sp_X12_breach S x1 x2).1)) (sp_X12_breach S x1 x2).2 := by
  refine mo_start (lv0 := [some (.ref W.1), some (.int x1), some (.int x2)]) (by decide +kernel) rfl (Nat.le_of_ble_eq_true rfl) rfl ?_
  intro g0 g hT
  refine ev_aload_n dX12_breach_0 rfl rfl ?_
  refine ev_iload_n dX12_breach_1 rfl rfl ?_
  refine mo_call1 (d' := d - 1) hE hT dX12_breach_2 rfl rfl kX12_isPaper lX12_188 iX12_isPaper vX12_isPaper (Nat.le_of_ble_eq_true rfl) (by omega) (c_X12_isPaper hE (by omega)) (fun g hT => ?_)
  refine ev_if_eq (tgt := 30) dX12_breach_5 (by decide) (fun c_5 => ?_) (fun c_5 => ?_)
  · refine ev_iconst (v := 0) dX12_breach_30 (by decide) ?_
    have e9 : sp_X12_breach S x1 x2 = (0, (mo_up S 0 0 (mo_b (!sp_in x1 0 (S.1 1 0 - 1))))) := by unfold sp_X12_breach; rw [if_pos c_5]
    exact ev_iret dX12_breach_31 rfl rfl ⟨by rw [e9], by rw [e9]; exact hT⟩
  · refine ev_aload_n dX12_breach_8 rfl rfl ?_
    refine ev_iload_n dX12_breach_9 rfl rfl ?_
    refine ev_iconst (v := 0) dX12_breach_10 (by decide) ?_
    refine ev_iconst (v := 4) dX12_breach_11 (by decide) ?_
    refine ev_pS3 (d' := d - 1) dX12_breach_12 rfl kX12_in lX12_176 sX12_in (Nat.le_of_ble_eq_true rfl) (by omega) (c_X12_in) ?_
    have K_23 : ∀ (g : ev_H) (hT : mo_T G W g0 g (mo_up S 0 0 (mo_b (!sp_in x1 0 (S.1 1 0 - 1))))), ∀ x9 : Int32, x9 = (mo_b (if (mo_b (sp_in x2 0 4)) = 0 then true else false)) → ev_V G d 0 0 mX12_breach (fun o g' => o = .inl (some (.int (sp_X12_breach S x1 x2).1)) ∧ mo_T G W g0 g' (sp_X12_breach S x1 x2).2) g 23 [some (.ref W.1), some (.int x1), some (.int x2)] (.int x9 :: .ref W.1 :: []) := by
      intro g hT x9 h9
      subst h9
      refine ev_iconst (v := 2) dX12_breach_23 (by decide) ?_
      refine mo_call2 (d' := d - 1) hE hT dX12_breach_24 rfl rfl kX12_bad lX12_181 iX12_bad vX12_bad (Nat.le_of_ble_eq_true rfl) (by omega) (c_X12_bad hE) (fun g hT => ?_)
      refine ev_if_eq (tgt := 32) dX12_breach_27 (by decide) (fun c_27 => ?_) (fun c_27 => ?_)
      · have hv := (mo_vin (N := 12) hP hP2 (by decide) (by simpa [sp_bad_ne, mo_up] using mo_b_1 c_5)).1
        refine ev_iload_n dX12_breach_32 rfl rfl ?_
        have K_93 : ∀ (g : ev_H) (hT : mo_T G W g0 g (sp_bad (if (mo_b (sp_in x2 0 4)) = 0 then true else false) 2 (mo_up S 0 0 (mo_b (!sp_in x1 0 (S.1 1 0 - 1)))))), ∀ x9 : Int32, x9 = (if x2 = 0 then (S.1 16 (x1).toNatClampNeg) else (if x2 = 1 then (S.1 17 (x1).toNatClampNeg) else (if x2 = 2 then (S.1 18 (x1).toNatClampNeg) else (if x2 = 3 then (S.1 19 (x1).toNatClampNeg) else (S.1 20 (x1).toNatClampNeg))))) → ev_V G d 0 0 mX12_breach (fun o g' => o = .inl (some (.int (sp_X12_breach S x1 x2).1)) ∧ mo_T G W g0 g' (sp_X12_breach S x1 x2).2) g 93 [some (.ref W.1), some (.int x1), some (.int x2)] (.int x9 :: []) := by
          intro g hT x9 h9
          subst h9
          have e9 : sp_X12_breach S x1 x2 = ((if x2 = 0 then (S.1 16 (x1).toNatClampNeg) else (if x2 = 1 then (S.1 17 (x1).toNatClampNeg) else (if x2 = 2 then (S.1 18 (x1).toNatClampNeg) else (if x2 = 3 then (S.1 19 (x1).toNatClampNeg) else (S.1 20 (x1).toNatClampNeg))))), (sp_bad (if (mo_b (sp_in x2 0 4)) = 0 then true else false) 2 (mo_up S 0 0 (mo_b (!sp_in x1 0 (S.1 1 0 - 1)))))) := by unfold sp_X12_breach; rw [if_neg c_5, if_pos c_27]
          exact ev_iret dX12_breach_93 rfl rfl ⟨by rw [e9], by rw [e9]; exact hT⟩
        refine ev_if_ne (tgt := 45) dX12_breach_33 (by decide) (fun c_33 => ?_) (fun c_33 => ?_)
        · refine ev_iload_n dX12_breach_45 rfl rfl ?_
          refine ev_iconst (v := 1) dX12_breach_46 (by decide) ?_
          refine ev_icmp_ne (tgt := 59) dX12_breach_47 (by decide) (fun c_47 => ?_) (fun c_47 => ?_)
          · refine ev_iload_n dX12_breach_59 rfl rfl ?_
            refine ev_iconst (v := 2) dX12_breach_60 (by decide) ?_
            refine ev_icmp_ne (tgt := 73) dX12_breach_61 (by decide) (fun c_61 => ?_) (fun c_61 => ?_)
            · refine ev_iload_n dX12_breach_73 rfl rfl ?_
              refine ev_iconst (v := 3) dX12_breach_74 (by decide) ?_
              refine ev_icmp_ne (tgt := 87) dX12_breach_75 (by decide) (fun c_75 => ?_) (fun c_75 => ?_)
              · refine ev_aload_n dX12_breach_87 rfl rfl ?_
                refine mo_geta hE hT dX12_breach_88 fX12_61 (by decide) ?_
                refine ev_iload_n dX12_breach_91 rfl rfl ?_
                refine mo_ialdE (v := (S.1 20 (x1).toNatClampNeg)) hE hT dX12_breach_92 (by decide) (show vp_in _ 12 from hv) (by simp [sp_bad_ne, mo_up]) ?_
                exact K_93 g hT _ (by rw [if_neg c_33, if_neg c_47, if_neg c_61, if_neg c_75])
              · refine ev_aload_n dX12_breach_78 rfl rfl ?_
                refine mo_geta hE hT dX12_breach_79 fX12_58 (by decide) ?_
                refine ev_iload_n dX12_breach_82 rfl rfl ?_
                refine mo_ialdE (v := (S.1 19 (x1).toNatClampNeg)) hE hT dX12_breach_83 (by decide) (show vp_in _ 12 from hv) (by simp [sp_bad_ne, mo_up]) ?_
                refine ev_goto (tgt := 93) dX12_breach_84 (by decide) ?_
                exact K_93 g hT _ (by rw [if_neg c_33, if_neg c_47, if_neg c_61, if_pos c_75])
            · refine ev_aload_n dX12_breach_64 rfl rfl ?_
              refine mo_geta hE hT dX12_breach_65 fX12_55 (by decide) ?_
              refine ev_iload_n dX12_breach_68 rfl rfl ?_
              refine mo_ialdE (v := (S.1 18 (x1).toNatClampNeg)) hE hT dX12_breach_69 (by decide) (show vp_in _ 12 from hv) (by simp [sp_bad_ne, mo_up]) ?_
              refine ev_goto (tgt := 93) dX12_breach_70 (by decide) ?_
              exact K_93 g hT _ (by rw [if_neg c_33, if_neg c_47, if_pos c_61])
          · refine ev_aload_n dX12_breach_50 rfl rfl ?_
            refine mo_geta hE hT dX12_breach_51 fX12_52 (by decide) ?_
            refine ev_iload_n dX12_breach_54 rfl rfl ?_
            refine mo_ialdE (v := (S.1 17 (x1).toNatClampNeg)) hE hT dX12_breach_55 (by decide) (show vp_in _ 12 from hv) (by simp [sp_bad_ne, mo_up]) ?_
            refine ev_goto (tgt := 93) dX12_breach_56 (by decide) ?_
            exact K_93 g hT _ (by rw [if_neg c_33, if_pos c_47])
        · refine ev_aload_n dX12_breach_36 rfl rfl ?_
          refine mo_geta hE hT dX12_breach_37 fX12_49 (by decide) ?_
          refine ev_iload_n dX12_breach_40 rfl rfl ?_
          refine mo_ialdE (v := (S.1 16 (x1).toNatClampNeg)) hE hT dX12_breach_41 (by decide) (show vp_in _ 12 from hv) (by simp [sp_bad_ne, mo_up]) ?_
          refine ev_goto (tgt := 93) dX12_breach_42 (by decide) ?_
          exact K_93 g hT _ (by rw [if_pos c_33])
      · refine ev_iconst (v := 0) dX12_breach_30 (by decide) ?_
        have e9 : sp_X12_breach S x1 x2 = (0, (sp_bad (if (mo_b (sp_in x2 0 4)) = 0 then true else false) 2 (mo_up S 0 0 (mo_b (!sp_in x1 0 (S.1 1 0 - 1)))))) := by unfold sp_X12_breach; rw [if_neg c_5, if_neg c_27]
        exact ev_iret dX12_breach_31 rfl rfl ⟨by rw [e9], by rw [e9]; exact hT⟩
    refine ev_if_ne (tgt := 22) dX12_breach_15 (by decide) (fun c_15 => ?_) (fun c_15 => ?_)
    · refine ev_iconst (v := 0) dX12_breach_22 (by decide) ?_
      exact K_23 g hT _ (by rw [if_neg c_15]; rfl)
    · refine ev_iconst (v := 1) dX12_breach_18 (by decide) ?_
      refine ev_goto (tgt := 23) dX12_breach_19 (by decide) ?_
      exact K_23 g hT _ (by rw [if_pos c_15]; rfl)
def sp_X12_source (S : mo_S) (x1 x2 x3 : Int32) : Int32 × mo_S :=
  (if (mo_b (sp_in x1 0 (S.1 1 0 - 1))) = 0 then (0, (mo_up S 0 0 (mo_b (!sp_in x1 0 (S.1 1 0 - 1))))) else (if (mo_b (if (mo_b (sp_in x2 0 100000)) = 0 then true else (if (mo_b (sp_in x3 x2 100000)) = 0 then true else false))) = 0 then (if (S.1 59 (x1).toNatClampNeg) = 8 then ((-1), (sp_bad (if (mo_b (sp_in x2 0 100000)) = 0 then true else (if (mo_b (sp_in x3 x2 100000)) = 0 then true else false)) 2 (mo_up S 0 0 (mo_b (!sp_in x1 0 (S.1 1 0 - 1)))))) else (((S.1 59 (x1).toNatClampNeg) + 1), (mo_up (mo_up (mo_up (sp_bad (if (mo_b (sp_in x2 0 100000)) = 0 then true else (if (mo_b (sp_in x3 x2 100000)) = 0 then true else false)) 2 (mo_up S 0 0 (mo_b (!sp_in x1 0 (S.1 1 0 - 1))))) 60 (((8 * x1) + (S.1 59 (x1).toNatClampNeg))).toNatClampNeg x2) 61 (((8 * x1) + (S.1 59 (x1).toNatClampNeg))).toNatClampNeg x3) 59 (x1).toNatClampNeg ((S.1 59 (x1).toNatClampNeg) + 1)))) else (0, (sp_bad (if (mo_b (sp_in x2 0 100000)) = 0 then true else (if (mo_b (sp_in x3 x2 100000)) = 0 then true else false)) 2 (mo_up S 0 0 (mo_b (!sp_in x1 0 (S.1 1 0 - 1))))))))
theorem c_X12_source {G : ev_G} {W : mo_W} {d : Nat} {S : mo_S} {x1 x2 x3 : Int32} (hE : ev_En G) (hd : 2 ≤ d) {P : Nat} (hP : S.1 1 0 = nI P) (hP2 : P ≤ 12) (hsrc : ∀ p, p < P → ∃ k, k ≤ 8 ∧ S.1 59 p = nI k) : mo_C G W d mX12_source [.int x1, .int x2, .int x3] S (some (.int (sp_X12_source S x1 x2 x3).1)) (sp_X12_source S x1 x2 x3).2 := by
  refine mo_start (lv0 := [some (.ref W.1), some (.int x1), some (.int x2), some (.int x3)]) (by decide +kernel) rfl (Nat.le_of_ble_eq_true rfl) rfl ?_
  intro g0 g hT
  refine ev_aload_n dX12_source_0 rfl rfl ?_
  refine ev_iload_n dX12_source_1 rfl rfl ?_
  refine mo_call1 (d' := d - 1) hE hT dX12_source_2 rfl rfl kX12_isPaper lX12_188 iX12_isPaper vX12_isPaper (Nat.le_of_ble_eq_true rfl) (by omega) (c_X12_isPaper hE (by omega)) (fun g hT => ?_)
  refine ev_if_eq (tgt := 41) dX12_source_5 (by decide) (fun c_5 => ?_) (fun c_5 => ?_)
  · refine ev_iconst (v := 0) dX12_source_41 (by decide) ?_
    have e9 : sp_X12_source S x1 x2 x3 = (0, (mo_up S 0 0 (mo_b (!sp_in x1 0 (S.1 1 0 - 1))))) := by unfold sp_X12_source; rw [if_pos c_5]
    exact ev_iret dX12_source_42 rfl rfl ⟨by rw [e9], by rw [e9]; exact hT⟩
  · refine ev_aload_n dX12_source_8 rfl rfl ?_
    refine ev_iload_n dX12_source_9 rfl rfl ?_
    refine ev_iconst (v := 0) dX12_source_10 (by decide) ?_
    refine ev_ldc dX12_source_11 nX12_180 ?_
    refine ev_pS3 (d' := d - 1) dX12_source_13 rfl kX12_in lX12_176 sX12_in (Nat.le_of_ble_eq_true rfl) (by omega) (c_X12_in) ?_
    have K_34 : ∀ (g : ev_H) (hT : mo_T G W g0 g (mo_up S 0 0 (mo_b (!sp_in x1 0 (S.1 1 0 - 1))))), ∀ x9 : Int32, x9 = (mo_b (if (mo_b (sp_in x2 0 100000)) = 0 then true else (if (mo_b (sp_in x3 x2 100000)) = 0 then true else false))) → ev_V G d 0 0 mX12_source (fun o g' => o = .inl (some (.int (sp_X12_source S x1 x2 x3).1)) ∧ mo_T G W g0 g' (sp_X12_source S x1 x2 x3).2) g 34 [some (.ref W.1), some (.int x1), some (.int x2), some (.int x3)] (.int x9 :: .ref W.1 :: []) := by
      intro g hT x9 h9
      subst h9
      refine ev_iconst (v := 2) dX12_source_34 (by decide) ?_
      refine mo_call2 (d' := d - 1) hE hT dX12_source_35 rfl rfl kX12_bad lX12_181 iX12_bad vX12_bad (Nat.le_of_ble_eq_true rfl) (by omega) (c_X12_bad hE) (fun g hT => ?_)
      refine ev_if_eq (tgt := 43) dX12_source_38 (by decide) (fun c_38 => ?_) (fun c_38 => ?_)
      · obtain ⟨a, w1, e1⟩ := mo_vinE (N := 12) hP hP2 (by decide) (by simpa [sp_bad_ne, mo_up] using mo_b_1 c_5)
        have hv : vp_in x1 12 := by rw [e1]; exact vp_in_nI (by omega) (by decide)
        obtain ⟨k8, w8, e8⟩ := hsrc a w1
        have e8 : S.1 59 (x1).toNatClampNeg = nI k8 := by rw [e1, nI_clamp (by omega)]; exact e8
        refine ev_aload_n dX12_source_43 rfl rfl ?_
        refine mo_geta hE hT dX12_source_44 fX12_134 (by decide) ?_
        refine ev_iload_n dX12_source_47 rfl rfl ?_
        refine mo_ialdE (v := (S.1 59 (x1).toNatClampNeg)) hE hT dX12_source_48 (by decide) (show vp_in _ 12 from (by first | exact hv | exact hv2)) (by simp [sp_bad_ne, mo_up]) ?_
        refine ev_bipush (v := 8) dX12_source_49 (by decide) ?_
        refine ev_icmp_ne (tgt := 56) dX12_source_51 (by decide) (fun c_51 => ?_) (fun c_51 => ?_)
        · have hk : k8 ≠ 8 := fun q => c_51 (by rw [e8, q]; rfl)
          have hv2 := (mo_ixc (c := 8) (C := 8) (N := 96) rfl e1 e8 (by omega) (by decide)).1
          refine ev_aload_n dX12_source_56 rfl rfl ?_
          refine mo_geta hE hT dX12_source_57 fX12_137 (by decide) ?_
          refine ev_bipush (v := 8) dX12_source_60 (by decide) ?_
          refine ev_iload_n dX12_source_62 rfl rfl ?_
          refine ev_imul dX12_source_63 ?_
          refine ev_aload_n dX12_source_64 rfl rfl ?_
          refine mo_geta hE hT dX12_source_65 fX12_134 (by decide) ?_
          refine ev_iload_n dX12_source_68 rfl rfl ?_
          refine mo_ialdE (v := (S.1 59 (x1).toNatClampNeg)) hE hT dX12_source_69 (by decide) (show vp_in _ 12 from (by first | exact hv | exact hv2)) (by simp [sp_bad_ne, mo_up]) ?_
          refine ev_iadd dX12_source_70 ?_
          refine ev_iload_n dX12_source_71 rfl rfl ?_
          refine mo_iastV hE hT dX12_source_72 (by decide) (show vp_in _ 96 from (by first | exact hv | exact hv2)) (fun g hT => ?_)
          refine ev_aload_n dX12_source_73 rfl rfl ?_
          refine mo_geta hE hT dX12_source_74 fX12_140 (by decide) ?_
          refine ev_bipush (v := 8) dX12_source_77 (by decide) ?_
          refine ev_iload_n dX12_source_79 rfl rfl ?_
          refine ev_imul dX12_source_80 ?_
          refine ev_aload_n dX12_source_81 rfl rfl ?_
          refine mo_geta hE hT dX12_source_82 fX12_134 (by decide) ?_
          refine ev_iload_n dX12_source_85 rfl rfl ?_
          refine mo_ialdE (v := (S.1 59 (x1).toNatClampNeg)) hE hT dX12_source_86 (by decide) (show vp_in _ 12 from (by first | exact hv | exact hv2)) (by simp [sp_bad_ne, mo_up]) ?_
          refine ev_iadd dX12_source_87 ?_
          refine ev_iload_n dX12_source_88 rfl rfl ?_
          refine mo_iastV hE hT dX12_source_89 (by decide) (show vp_in _ 96 from (by first | exact hv | exact hv2)) (fun g hT => ?_)
          refine ev_aload_n dX12_source_90 rfl rfl ?_
          refine mo_geta hE hT dX12_source_91 fX12_134 (by decide) ?_
          refine ev_iload_n dX12_source_94 rfl rfl ?_
          refine ev_dup2 dX12_source_95 rfl rfl ?_
          refine mo_ialdE (v := (S.1 59 (x1).toNatClampNeg)) hE hT dX12_source_96 (by decide) (show vp_in _ 12 from (by first | exact hv | exact hv2)) (by simp [sp_bad_ne, mo_up]) ?_
          refine ev_iconst (v := 1) dX12_source_97 (by decide) ?_
          refine ev_iadd dX12_source_98 ?_
          refine mo_iastV hE hT dX12_source_99 (by decide) (show vp_in _ 12 from (by first | exact hv | exact hv2)) (fun g hT => ?_)
          refine ev_aload_n dX12_source_100 rfl rfl ?_
          refine mo_geta hE hT dX12_source_101 fX12_134 (by decide) ?_
          refine ev_iload_n dX12_source_104 rfl rfl ?_
          refine mo_ialdE (v := ((S.1 59 (x1).toNatClampNeg) + 1)) hE hT dX12_source_105 (by decide) (show vp_in _ 12 from (by first | exact hv | exact hv2)) (by simp [sp_bad_ne, mo_up]) ?_
          have e9 : sp_X12_source S x1 x2 x3 = (((S.1 59 (x1).toNatClampNeg) + 1), (mo_up (mo_up (mo_up (sp_bad (if (mo_b (sp_in x2 0 100000)) = 0 then true else (if (mo_b (sp_in x3 x2 100000)) = 0 then true else false)) 2 (mo_up S 0 0 (mo_b (!sp_in x1 0 (S.1 1 0 - 1))))) 60 (((8 * x1) + (S.1 59 (x1).toNatClampNeg))).toNatClampNeg x2) 61 (((8 * x1) + (S.1 59 (x1).toNatClampNeg))).toNatClampNeg x3) 59 (x1).toNatClampNeg ((S.1 59 (x1).toNatClampNeg) + 1))) := by unfold sp_X12_source; rw [if_neg c_5, if_pos c_38, if_neg c_51]
          exact ev_iret dX12_source_106 rfl rfl ⟨by rw [e9], by rw [e9]; exact hT⟩
        · refine ev_iconst (v := (-1)) dX12_source_54 (by decide) ?_
          have e9 : sp_X12_source S x1 x2 x3 = ((-1), (sp_bad (if (mo_b (sp_in x2 0 100000)) = 0 then true else (if (mo_b (sp_in x3 x2 100000)) = 0 then true else false)) 2 (mo_up S 0 0 (mo_b (!sp_in x1 0 (S.1 1 0 - 1)))))) := by unfold sp_X12_source; rw [if_neg c_5, if_pos c_38, if_pos c_51]
          exact ev_iret dX12_source_55 rfl rfl ⟨by rw [e9], by rw [e9]; exact hT⟩
      · refine ev_iconst (v := 0) dX12_source_41 (by decide) ?_
        have e9 : sp_X12_source S x1 x2 x3 = (0, (sp_bad (if (mo_b (sp_in x2 0 100000)) = 0 then true else (if (mo_b (sp_in x3 x2 100000)) = 0 then true else false)) 2 (mo_up S 0 0 (mo_b (!sp_in x1 0 (S.1 1 0 - 1)))))) := by unfold sp_X12_source; rw [if_neg c_5, if_neg c_38]
        exact ev_iret dX12_source_42 rfl rfl ⟨by rw [e9], by rw [e9]; exact hT⟩
    refine ev_if_eq (tgt := 29) dX12_source_16 (by decide) (fun c_16 => ?_) (fun c_16 => ?_)
    · refine ev_iconst (v := 1) dX12_source_29 (by decide) ?_
      refine ev_goto (tgt := 34) dX12_source_30 (by decide) ?_
      exact K_34 g hT _ (by rw [if_pos c_16]; rfl)
    · refine ev_iload_n dX12_source_19 rfl rfl ?_
      refine ev_iload_n dX12_source_20 rfl rfl ?_
      refine ev_ldc dX12_source_21 nX12_180 ?_
      refine ev_pS3 (d' := d - 1) dX12_source_23 rfl kX12_in lX12_176 sX12_in (Nat.le_of_ble_eq_true rfl) (by omega) (c_X12_in) ?_
      refine ev_if_ne (tgt := 33) dX12_source_26 (by decide) (fun c_26 => ?_) (fun c_26 => ?_)
      · refine ev_iconst (v := 0) dX12_source_33 (by decide) ?_
        exact K_34 g hT _ (by rw [if_neg c_16, if_neg c_26]; rfl)
      · refine ev_iconst (v := 1) dX12_source_29 (by decide) ?_
        refine ev_goto (tgt := 34) dX12_source_30 (by decide) ?_
        exact K_34 g hT _ (by rw [if_neg c_16, if_pos c_26]; rfl)
def sp_X12_appeal (S : mo_S) (x1 x2 : Int32) : Int32 × mo_S :=
  (if (mo_b (sp_in x1 0 (S.1 1 0 - 1))) = 0 then (0, (mo_up S 0 0 (mo_b (!sp_in x1 0 (S.1 1 0 - 1))))) else (if (mo_b (if (mo_b (sp_in x2 0 100000)) = 0 then true else false)) = 0 then (if (S.1 62 0) = 20 then ((-1), (sp_bad (if (mo_b (sp_in x2 0 100000)) = 0 then true else false) 2 (mo_up S 0 0 (mo_b (!sp_in x1 0 (S.1 1 0 - 1)))))) else (if (S.1 12 (x1).toNatClampNeg) = 1 then ((((S.1 62 0) + 1) - 1), (mo_up (mo_up (mo_up (mo_up (mo_up (mo_up (mo_up (sp_bad (if (mo_b (sp_in x2 0 100000)) = 0 then true else false) 2 (mo_up S 0 0 (mo_b (!sp_in x1 0 (S.1 1 0 - 1))))) 63 ((S.1 62 0)).toNatClampNeg x1) 64 ((S.1 62 0)).toNatClampNeg x2) 65 ((S.1 62 0)).toNatClampNeg (S.1 4 (x1).toNatClampNeg)) 66 ((S.1 62 0)).toNatClampNeg (S.1 5 (x1).toNatClampNeg)) 67 ((S.1 62 0)).toNatClampNeg (S.1 3 (x1).toNatClampNeg)) 68 ((S.1 62 0)).toNatClampNeg (-1)) 62 0 ((S.1 62 0) + 1))) else ((-2), (sp_bad (if (mo_b (sp_in x2 0 100000)) = 0 then true else false) 2 (mo_up S 0 0 (mo_b (!sp_in x1 0 (S.1 1 0 - 1)))))))) else (0, (sp_bad (if (mo_b (sp_in x2 0 100000)) = 0 then true else false) 2 (mo_up S 0 0 (mo_b (!sp_in x1 0 (S.1 1 0 - 1))))))))
theorem c_X12_appeal {G : ev_G} {W : mo_W} {d : Nat} {S : mo_S} {x1 x2 : Int32} (hE : ev_En G) (hd : 2 ≤ d) {P : Nat} (hP : S.1 1 0 = nI P) (hP2 : P ≤ 12) {Q : Nat} (hQ : S.1 62 0 = nI Q) (hQ2 : Q ≤ 20) : mo_C G W d mX12_appeal [.int x1, .int x2] S (some (.int (sp_X12_appeal S x1 x2).1)) (sp_X12_appeal S x1 x2).2 := by
  refine mo_start (lv0 := [some (.ref W.1), some (.int x1), some (.int x2)]) (by decide +kernel) rfl (Nat.le_of_ble_eq_true rfl) rfl ?_
  intro g0 g hT
  refine ev_aload_n dX12_appeal_0 rfl rfl ?_
  refine ev_iload_n dX12_appeal_1 rfl rfl ?_
  refine mo_call1 (d' := d - 1) hE hT dX12_appeal_2 rfl rfl kX12_isPaper lX12_188 iX12_isPaper vX12_isPaper (Nat.le_of_ble_eq_true rfl) (by omega) (c_X12_isPaper hE (by omega)) (fun g hT => ?_)
  refine ev_if_eq (tgt := 31) dX12_appeal_5 (by decide) (fun c_5 => ?_) (fun c_5 => ?_)
  · refine ev_iconst (v := 0) dX12_appeal_31 (by decide) ?_
    have e9 : sp_X12_appeal S x1 x2 = (0, (mo_up S 0 0 (mo_b (!sp_in x1 0 (S.1 1 0 - 1))))) := by unfold sp_X12_appeal; rw [if_pos c_5]
    exact ev_iret dX12_appeal_32 rfl rfl ⟨by rw [e9], by rw [e9]; exact hT⟩
  · refine ev_aload_n dX12_appeal_8 rfl rfl ?_
    refine ev_iload_n dX12_appeal_9 rfl rfl ?_
    refine ev_iconst (v := 0) dX12_appeal_10 (by decide) ?_
    refine ev_ldc dX12_appeal_11 nX12_180 ?_
    refine ev_pS3 (d' := d - 1) dX12_appeal_13 rfl kX12_in lX12_176 sX12_in (Nat.le_of_ble_eq_true rfl) (by omega) (c_X12_in) ?_
    have K_24 : ∀ (g : ev_H) (hT : mo_T G W g0 g (mo_up S 0 0 (mo_b (!sp_in x1 0 (S.1 1 0 - 1))))), ∀ x9 : Int32, x9 = (mo_b (if (mo_b (sp_in x2 0 100000)) = 0 then true else false)) → ev_V G d 0 0 mX12_appeal (fun o g' => o = .inl (some (.int (sp_X12_appeal S x1 x2).1)) ∧ mo_T G W g0 g' (sp_X12_appeal S x1 x2).2) g 24 [some (.ref W.1), some (.int x1), some (.int x2)] (.int x9 :: .ref W.1 :: []) := by
      intro g hT x9 h9
      subst h9
      refine ev_iconst (v := 2) dX12_appeal_24 (by decide) ?_
      refine mo_call2 (d' := d - 1) hE hT dX12_appeal_25 rfl rfl kX12_bad lX12_181 iX12_bad vX12_bad (Nat.le_of_ble_eq_true rfl) (by omega) (c_X12_bad hE) (fun g hT => ?_)
      refine ev_if_eq (tgt := 33) dX12_appeal_28 (by decide) (fun c_28 => ?_) (fun c_28 => ?_)
      · have hv := (mo_vin (N := 12) hP hP2 (by decide) (by simpa [sp_bad_ne, mo_up] using mo_b_1 c_5)).1
        refine ev_aload_n dX12_appeal_33 rfl rfl ?_
        refine mo_getiE (v := (S.1 62 0)) hE hT dX12_appeal_34 fX12_446 (by decide) (by simp [sp_bad_ne, mo_up]) ?_
        refine ev_bipush (v := 20) dX12_appeal_37 (by decide) ?_
        refine ev_icmp_ne (tgt := 44) dX12_appeal_39 (by decide) (fun c_39 => ?_) (fun c_39 => ?_)
        · refine ev_aload_n dX12_appeal_44 rfl rfl ?_
          refine mo_geta hE hT dX12_appeal_45 fX12_37 (by decide) ?_
          refine ev_iload_n dX12_appeal_48 rfl rfl ?_
          refine mo_ialdE (v := (S.1 12 (x1).toNatClampNeg)) hE hT dX12_appeal_49 (by decide) (show vp_in _ 12 from (by first | exact hv | exact hv2)) (by simp [sp_bad_ne, mo_up]) ?_
          refine ev_iconst (v := 1) dX12_appeal_50 (by decide) ?_
          refine ev_icmp_eq (tgt := 57) dX12_appeal_51 (by decide) (fun c_51 => ?_) (fun c_51 => ?_)
          · have hv2 := (mo_full (N := 20) hQ hQ2 (by decide) (show ¬ _ = (20 : Int32) by simpa [sp_bad_ne, mo_up] using c_39)).1
            refine ev_aload_n dX12_appeal_57 rfl rfl ?_
            refine mo_geta hE hT dX12_appeal_58 fX12_143 (by decide) ?_
            refine ev_aload_n dX12_appeal_61 rfl rfl ?_
            refine mo_getiE (v := (S.1 62 0)) hE hT dX12_appeal_62 fX12_446 (by decide) (by simp [sp_bad_ne, mo_up]) ?_
            refine ev_iload_n dX12_appeal_65 rfl rfl ?_
            refine mo_iastV hE hT dX12_appeal_66 (by decide) (show vp_in _ 20 from (by first | exact hv | exact hv2)) (fun g hT => ?_)
            refine ev_aload_n dX12_appeal_67 rfl rfl ?_
            refine mo_geta hE hT dX12_appeal_68 fX12_146 (by decide) ?_
            refine ev_aload_n dX12_appeal_71 rfl rfl ?_
            refine mo_getiE (v := (S.1 62 0)) hE hT dX12_appeal_72 fX12_446 (by decide) (by simp [sp_bad_ne, mo_up]) ?_
            refine ev_iload_n dX12_appeal_75 rfl rfl ?_
            refine mo_iastV hE hT dX12_appeal_76 (by decide) (show vp_in _ 20 from (by first | exact hv | exact hv2)) (fun g hT => ?_)
            refine ev_aload_n dX12_appeal_77 rfl rfl ?_
            refine mo_geta hE hT dX12_appeal_78 fX12_149 (by decide) ?_
            refine ev_aload_n dX12_appeal_81 rfl rfl ?_
            refine mo_getiE (v := (S.1 62 0)) hE hT dX12_appeal_82 fX12_446 (by decide) (by simp [sp_bad_ne, mo_up]) ?_
            refine ev_aload_n dX12_appeal_85 rfl rfl ?_
            refine mo_geta hE hT dX12_appeal_86 fX12_13 (by decide) ?_
            refine ev_iload_n dX12_appeal_89 rfl rfl ?_
            refine mo_ialdE (v := (S.1 4 (x1).toNatClampNeg)) hE hT dX12_appeal_90 (by decide) (show vp_in _ 12 from (by first | exact hv | exact hv2)) (by simp [sp_bad_ne, mo_up]) ?_
            refine mo_iastV hE hT dX12_appeal_91 (by decide) (show vp_in _ 20 from (by first | exact hv | exact hv2)) (fun g hT => ?_)
            refine ev_aload_n dX12_appeal_92 rfl rfl ?_
            refine mo_geta hE hT dX12_appeal_93 fX12_152 (by decide) ?_
            refine ev_aload_n dX12_appeal_96 rfl rfl ?_
            refine mo_getiE (v := (S.1 62 0)) hE hT dX12_appeal_97 fX12_446 (by decide) (by simp [sp_bad_ne, mo_up]) ?_
            refine ev_aload_n dX12_appeal_100 rfl rfl ?_
            refine mo_geta hE hT dX12_appeal_101 fX12_16 (by decide) ?_
            refine ev_iload_n dX12_appeal_104 rfl rfl ?_
            refine mo_ialdE (v := (S.1 5 (x1).toNatClampNeg)) hE hT dX12_appeal_105 (by decide) (show vp_in _ 12 from (by first | exact hv | exact hv2)) (by simp [sp_bad_ne, mo_up]) ?_
            refine mo_iastV hE hT dX12_appeal_106 (by decide) (show vp_in _ 20 from (by first | exact hv | exact hv2)) (fun g hT => ?_)
            refine ev_aload_n dX12_appeal_107 rfl rfl ?_
            refine mo_geta hE hT dX12_appeal_108 fX12_155 (by decide) ?_
            refine ev_aload_n dX12_appeal_111 rfl rfl ?_
            refine mo_getiE (v := (S.1 62 0)) hE hT dX12_appeal_112 fX12_446 (by decide) (by simp [sp_bad_ne, mo_up]) ?_
            refine ev_aload_n dX12_appeal_115 rfl rfl ?_
            refine mo_geta hE hT dX12_appeal_116 fX12_9 (by decide) ?_
            refine ev_iload_n dX12_appeal_119 rfl rfl ?_
            refine mo_ialdE (v := (S.1 3 (x1).toNatClampNeg)) hE hT dX12_appeal_120 (by decide) (show vp_in _ 12 from (by first | exact hv | exact hv2)) (by simp [sp_bad_ne, mo_up]) ?_
            refine mo_iastV hE hT dX12_appeal_121 (by decide) (show vp_in _ 20 from (by first | exact hv | exact hv2)) (fun g hT => ?_)
            refine ev_aload_n dX12_appeal_122 rfl rfl ?_
            refine mo_geta hE hT dX12_appeal_123 fX12_158 (by decide) ?_
            refine ev_aload_n dX12_appeal_126 rfl rfl ?_
            refine mo_getiE (v := (S.1 62 0)) hE hT dX12_appeal_127 fX12_446 (by decide) (by simp [sp_bad_ne, mo_up]) ?_
            refine ev_iconst (v := (-1)) dX12_appeal_130 (by decide) ?_
            refine mo_iastV hE hT dX12_appeal_131 (by decide) (show vp_in _ 20 from (by first | exact hv | exact hv2)) (fun g hT => ?_)
            refine ev_aload_n dX12_appeal_132 rfl rfl ?_
            refine ev_dup dX12_appeal_133 rfl ?_
            refine mo_getiE (v := (S.1 62 0)) hE hT dX12_appeal_134 fX12_446 (by decide) (by simp [sp_bad_ne, mo_up]) ?_
            refine ev_iconst (v := 1) dX12_appeal_137 (by decide) ?_
            refine ev_iadd dX12_appeal_138 ?_
            refine mo_put hE hT dX12_appeal_139 pX12_446 (by decide) (fun g hT => ?_)
            refine ev_aload_n dX12_appeal_142 rfl rfl ?_
            refine mo_getiE (v := ((S.1 62 0) + 1)) hE hT dX12_appeal_143 fX12_446 (by decide) (by simp [sp_bad_ne, mo_up]) ?_
            refine ev_iconst (v := 1) dX12_appeal_146 (by decide) ?_
            refine ev_isub dX12_appeal_147 ?_
            have e9 : sp_X12_appeal S x1 x2 = ((((S.1 62 0) + 1) - 1), (mo_up (mo_up (mo_up (mo_up (mo_up (mo_up (mo_up (sp_bad (if (mo_b (sp_in x2 0 100000)) = 0 then true else false) 2 (mo_up S 0 0 (mo_b (!sp_in x1 0 (S.1 1 0 - 1))))) 63 ((S.1 62 0)).toNatClampNeg x1) 64 ((S.1 62 0)).toNatClampNeg x2) 65 ((S.1 62 0)).toNatClampNeg (S.1 4 (x1).toNatClampNeg)) 66 ((S.1 62 0)).toNatClampNeg (S.1 5 (x1).toNatClampNeg)) 67 ((S.1 62 0)).toNatClampNeg (S.1 3 (x1).toNatClampNeg)) 68 ((S.1 62 0)).toNatClampNeg (-1)) 62 0 ((S.1 62 0) + 1))) := by unfold sp_X12_appeal; rw [if_neg c_5, if_pos c_28, if_neg c_39, if_pos c_51]
            exact ev_iret dX12_appeal_148 rfl rfl ⟨by rw [e9], by rw [e9]; exact hT⟩
          · refine ev_bipush (v := (-2)) dX12_appeal_54 (by decide) ?_
            have e9 : sp_X12_appeal S x1 x2 = ((-2), (sp_bad (if (mo_b (sp_in x2 0 100000)) = 0 then true else false) 2 (mo_up S 0 0 (mo_b (!sp_in x1 0 (S.1 1 0 - 1)))))) := by unfold sp_X12_appeal; rw [if_neg c_5, if_pos c_28, if_neg c_39, if_neg c_51]
            exact ev_iret dX12_appeal_56 rfl rfl ⟨by rw [e9], by rw [e9]; exact hT⟩
        · refine ev_iconst (v := (-1)) dX12_appeal_42 (by decide) ?_
          have e9 : sp_X12_appeal S x1 x2 = ((-1), (sp_bad (if (mo_b (sp_in x2 0 100000)) = 0 then true else false) 2 (mo_up S 0 0 (mo_b (!sp_in x1 0 (S.1 1 0 - 1)))))) := by unfold sp_X12_appeal; rw [if_neg c_5, if_pos c_28, if_pos c_39]
          exact ev_iret dX12_appeal_43 rfl rfl ⟨by rw [e9], by rw [e9]; exact hT⟩
      · refine ev_iconst (v := 0) dX12_appeal_31 (by decide) ?_
        have e9 : sp_X12_appeal S x1 x2 = (0, (sp_bad (if (mo_b (sp_in x2 0 100000)) = 0 then true else false) 2 (mo_up S 0 0 (mo_b (!sp_in x1 0 (S.1 1 0 - 1)))))) := by unfold sp_X12_appeal; rw [if_neg c_5, if_neg c_28]
        exact ev_iret dX12_appeal_32 rfl rfl ⟨by rw [e9], by rw [e9]; exact hT⟩
    refine ev_if_ne (tgt := 23) dX12_appeal_16 (by decide) (fun c_16 => ?_) (fun c_16 => ?_)
    · refine ev_iconst (v := 0) dX12_appeal_23 (by decide) ?_
      exact K_24 g hT _ (by rw [if_neg c_16]; rfl)
    · refine ev_iconst (v := 1) dX12_appeal_19 (by decide) ?_
      refine ev_goto (tgt := 24) dX12_appeal_20 (by decide) ?_
      exact K_24 g hT _ (by rw [if_pos c_16]; rfl)
def sp_X12_apartOf (S : mo_S) (x1 x2 : Int32) : Int32 :=
  (((sp_X12_far (S.1 65 (x1).toNatClampNeg) (S.1 65 (x2).toNatClampNeg)) + (100 * (sp_X12_far (S.1 66 (x1).toNatClampNeg) (S.1 66 (x2).toNatClampNeg)))) + (if (S.1 67 (x1).toNatClampNeg) = (S.1 67 (x2).toNatClampNeg) then 0 else 10000))
theorem c_X12_apartOf {G : ev_G} {W : mo_W} {d : Nat} {S : mo_S} {x1 x2 : Int32} (hE : ev_En G) (hd : 1 ≤ d) (hv : vp_in x1 20) (hv2 : vp_in x2 20) : mo_C G W d mX12_apartOf [.int x1, .int x2] S (some (.int (sp_X12_apartOf S x1 x2))) S := by
  refine mo_start (lv0 := [some (.ref W.1), some (.int x1), some (.int x2)]) (by decide +kernel) rfl (Nat.le_of_ble_eq_true rfl) rfl ?_
  intro g0 g hT
  refine ev_aload_n dX12_apartOf_0 rfl rfl ?_
  refine mo_geta hE hT dX12_apartOf_1 fX12_149 (by decide) ?_
  refine ev_iload_n dX12_apartOf_4 rfl rfl ?_
  refine mo_ialdV hE hT dX12_apartOf_5 (by decide) (show vp_in _ 20 from (by first | exact hv | exact hv2)) ?_
  refine ev_aload_n dX12_apartOf_6 rfl rfl ?_
  refine mo_geta hE hT dX12_apartOf_7 fX12_149 (by decide) ?_
  refine ev_iload_n dX12_apartOf_10 rfl rfl ?_
  refine mo_ialdV hE hT dX12_apartOf_11 (by decide) (show vp_in _ 20 from (by first | exact hv | exact hv2)) ?_
  refine ev_pS2 (d' := d - 1) dX12_apartOf_12 rfl kX12_far lX12_477 sX12_far (Nat.le_of_ble_eq_true rfl) (by omega) (c_X12_far) ?_
  refine ev_bipush (v := 100) dX12_apartOf_15 (by decide) ?_
  refine ev_aload_n dX12_apartOf_17 rfl rfl ?_
  refine mo_geta hE hT dX12_apartOf_18 fX12_152 (by decide) ?_
  refine ev_iload_n dX12_apartOf_21 rfl rfl ?_
  refine mo_ialdV hE hT dX12_apartOf_22 (by decide) (show vp_in _ 20 from (by first | exact hv | exact hv2)) ?_
  refine ev_aload_n dX12_apartOf_23 rfl rfl ?_
  refine mo_geta hE hT dX12_apartOf_24 fX12_152 (by decide) ?_
  refine ev_iload_n dX12_apartOf_27 rfl rfl ?_
  refine mo_ialdV hE hT dX12_apartOf_28 (by decide) (show vp_in _ 20 from (by first | exact hv | exact hv2)) ?_
  refine ev_pS2 (d' := d - 1) dX12_apartOf_29 rfl kX12_far lX12_477 sX12_far (Nat.le_of_ble_eq_true rfl) (by omega) (c_X12_far) ?_
  refine ev_imul dX12_apartOf_32 ?_
  refine ev_iadd dX12_apartOf_33 ?_
  refine ev_aload_n dX12_apartOf_34 rfl rfl ?_
  refine mo_geta hE hT dX12_apartOf_35 fX12_155 (by decide) ?_
  refine ev_iload_n dX12_apartOf_38 rfl rfl ?_
  refine mo_ialdV hE hT dX12_apartOf_39 (by decide) (show vp_in _ 20 from (by first | exact hv | exact hv2)) ?_
  refine ev_aload_n dX12_apartOf_40 rfl rfl ?_
  refine mo_geta hE hT dX12_apartOf_41 fX12_155 (by decide) ?_
  refine ev_iload_n dX12_apartOf_44 rfl rfl ?_
  refine mo_ialdV hE hT dX12_apartOf_45 (by decide) (show vp_in _ 20 from (by first | exact hv | exact hv2)) ?_
  have K_56 : ∀ (g : ev_H) (hT : mo_T G W g0 g S), ∀ x9 : Int32, x9 = (if (S.1 67 (x1).toNatClampNeg) = (S.1 67 (x2).toNatClampNeg) then 0 else 10000) → ev_V G d 0 0 mX12_apartOf (fun o g' => o = .inl (some (.int (sp_X12_apartOf S x1 x2))) ∧ mo_T G W g0 g' S) g 56 [some (.ref W.1), some (.int x1), some (.int x2)] (.int x9 :: .int ((sp_X12_far (S.1 65 (x1).toNatClampNeg) (S.1 65 (x2).toNatClampNeg)) + (100 * (sp_X12_far (S.1 66 (x1).toNatClampNeg) (S.1 66 (x2).toNatClampNeg)))) :: []) := by
    intro g hT x9 h9
    subst h9
    refine ev_iadd dX12_apartOf_56 ?_
    have e9 : sp_X12_apartOf S x1 x2 = (((sp_X12_far (S.1 65 (x1).toNatClampNeg) (S.1 65 (x2).toNatClampNeg)) + (100 * (sp_X12_far (S.1 66 (x1).toNatClampNeg) (S.1 66 (x2).toNatClampNeg)))) + (if (S.1 67 (x1).toNatClampNeg) = (S.1 67 (x2).toNatClampNeg) then 0 else 10000)) := by unfold sp_X12_apartOf; rfl
    exact ev_iret dX12_apartOf_57 rfl rfl ⟨by rw [e9], hT⟩
  refine ev_icmp_ne (tgt := 53) dX12_apartOf_46 (by decide) (fun c_46 => ?_) (fun c_46 => ?_)
  · refine ev_sipush (v := 10000) dX12_apartOf_53 (by decide) ?_
    exact K_56 g hT _ (by rw [if_neg c_46])
  · refine ev_iconst (v := 0) dX12_apartOf_49 (by decide) ?_
    refine ev_goto (tgt := 56) dX12_apartOf_50 (by decide) ?_
    exact K_56 g hT _ (by rw [if_pos c_46])
def sp_X12_apart (S : mo_S) (x1 x2 : Int32) : Int32 × mo_S :=
  ((if (mo_b (if (mo_b (sp_X12_isAppeal (mo_up S 0 0 0) x1)) = 0 then true else (if (mo_b (sp_X12_isAppeal (mo_up S 0 0 0) x2)) = 0 then true else false))) = 0 then (sp_X12_apartOf (sp_bad (if (mo_b (sp_X12_isAppeal (mo_up S 0 0 0) x1)) = 0 then true else (if (mo_b (sp_X12_isAppeal (mo_up S 0 0 0) x2)) = 0 then true else false)) 1 (mo_up S 0 0 0)) x1 x2) else 0), (sp_bad (if (mo_b (sp_X12_isAppeal (mo_up S 0 0 0) x1)) = 0 then true else (if (mo_b (sp_X12_isAppeal (mo_up S 0 0 0) x2)) = 0 then true else false)) 1 (mo_up S 0 0 0)))
theorem c_X12_apart {G : ev_G} {W : mo_W} {d : Nat} {S : mo_S} {x1 x2 : Int32} (hE : ev_En G) (hd : 2 ≤ d) {Q : Nat} (hQ : S.1 62 0 = nI Q) (hQ2 : Q ≤ 20) : mo_C G W d mX12_apart [.int x1, .int x2] S (some (.int (sp_X12_apart S x1 x2).1)) (sp_X12_apart S x1 x2).2 := by
  refine mo_start (lv0 := [some (.ref W.1), some (.int x1), some (.int x2)]) (by decide +kernel) rfl (Nat.le_of_ble_eq_true rfl) rfl ?_
  intro g0 g hT
  refine ev_aload_n dX12_apart_0 rfl rfl ?_
  refine ev_iconst (v := 0) dX12_apart_1 (by decide) ?_
  refine mo_put hE hT dX12_apart_2 pX12_173 (by decide) (fun g hT => ?_)
  refine ev_aload_n dX12_apart_5 rfl rfl ?_
  refine ev_aload_n dX12_apart_6 rfl rfl ?_
  refine ev_iload_n dX12_apart_7 rfl rfl ?_
  refine mo_call1 (d' := d - 1) hE hT dX12_apart_8 rfl rfl kX12_isAppeal lX12_480 iX12_isAppeal vX12_isAppeal (Nat.le_of_ble_eq_true rfl) (by omega) (c_X12_isAppeal hE (by omega)) (fun g hT => ?_)
  have K_27 : ∀ (g : ev_H) (hT : mo_T G W g0 g (mo_up S 0 0 0)), ∀ x9 : Int32, x9 = (mo_b (if (mo_b (sp_X12_isAppeal (mo_up S 0 0 0) x1)) = 0 then true else (if (mo_b (sp_X12_isAppeal (mo_up S 0 0 0) x2)) = 0 then true else false))) → ev_V G d 0 0 mX12_apart (fun o g' => o = .inl (some (.int (sp_X12_apart S x1 x2).1)) ∧ mo_T G W g0 g' (sp_X12_apart S x1 x2).2) g 27 [some (.ref W.1), some (.int x1), some (.int x2)] (.int x9 :: .ref W.1 :: []) := by
    intro g hT x9 h9
    subst h9
    refine ev_iconst (v := 1) dX12_apart_27 (by decide) ?_
    refine mo_call2 (d' := d - 1) hE hT dX12_apart_28 rfl rfl kX12_bad lX12_181 iX12_bad vX12_bad (Nat.le_of_ble_eq_true rfl) (by omega) (c_X12_bad hE) (fun g hT => ?_)
    have K_44 : ∀ (g : ev_H) (hT : mo_T G W g0 g (sp_bad (if (mo_b (sp_X12_isAppeal (mo_up S 0 0 0) x1)) = 0 then true else (if (mo_b (sp_X12_isAppeal (mo_up S 0 0 0) x2)) = 0 then true else false)) 1 (mo_up S 0 0 0))), ∀ x9 : Int32, x9 = (if (mo_b (if (mo_b (sp_X12_isAppeal (mo_up S 0 0 0) x1)) = 0 then true else (if (mo_b (sp_X12_isAppeal (mo_up S 0 0 0) x2)) = 0 then true else false))) = 0 then (sp_X12_apartOf (sp_bad (if (mo_b (sp_X12_isAppeal (mo_up S 0 0 0) x1)) = 0 then true else (if (mo_b (sp_X12_isAppeal (mo_up S 0 0 0) x2)) = 0 then true else false)) 1 (mo_up S 0 0 0)) x1 x2) else 0) → ev_V G d 0 0 mX12_apart (fun o g' => o = .inl (some (.int (sp_X12_apart S x1 x2).1)) ∧ mo_T G W g0 g' (sp_X12_apart S x1 x2).2) g 44 [some (.ref W.1), some (.int x1), some (.int x2)] (.int x9 :: []) := by
      intro g hT x9 h9
      subst h9
      have e9 : sp_X12_apart S x1 x2 = ((if (mo_b (if (mo_b (sp_X12_isAppeal (mo_up S 0 0 0) x1)) = 0 then true else (if (mo_b (sp_X12_isAppeal (mo_up S 0 0 0) x2)) = 0 then true else false))) = 0 then (sp_X12_apartOf (sp_bad (if (mo_b (sp_X12_isAppeal (mo_up S 0 0 0) x1)) = 0 then true else (if (mo_b (sp_X12_isAppeal (mo_up S 0 0 0) x2)) = 0 then true else false)) 1 (mo_up S 0 0 0)) x1 x2) else 0), (sp_bad (if (mo_b (sp_X12_isAppeal (mo_up S 0 0 0) x1)) = 0 then true else (if (mo_b (sp_X12_isAppeal (mo_up S 0 0 0) x2)) = 0 then true else false)) 1 (mo_up S 0 0 0))) := by unfold sp_X12_apart; rfl
      exact ev_iret dX12_apart_44 rfl rfl ⟨by rw [e9], by rw [e9]; exact hT⟩
    refine ev_if_eq (tgt := 38) dX12_apart_31 (by decide) (fun c_31 => ?_) (fun c_31 => ?_)
    · obtain ⟨q1, q2⟩ := mo_and (mo_b_0 c_31)
      have hv := (mo_vin (N := 20) hQ hQ2 (by decide) (by simpa [sp_X12_isAppeal, mo_up] using q1)).1
      have hv2 := (mo_vin (N := 20) hQ hQ2 (by decide) (by simpa [sp_X12_isAppeal, mo_up] using q2)).1
      refine ev_aload_n dX12_apart_38 rfl rfl ?_
      refine ev_iload_n dX12_apart_39 rfl rfl ?_
      refine ev_iload_n dX12_apart_40 rfl rfl ?_
      refine mo_call2 (d' := d - 1) hE hT dX12_apart_41 rfl rfl kX12_apartOf lX12_483 iX12_apartOf vX12_apartOf (Nat.le_of_ble_eq_true rfl) (by omega) (c_X12_apartOf hE (by omega) hv hv2) (fun g hT => ?_)
      exact K_44 g hT _ (by rw [if_pos c_31])
    · refine ev_iconst (v := 0) dX12_apart_34 (by decide) ?_
      refine ev_goto (tgt := 44) dX12_apart_35 (by decide) ?_
      exact K_44 g hT _ (by rw [if_neg c_31])
  refine ev_if_eq (tgt := 22) dX12_apart_11 (by decide) (fun c_11 => ?_) (fun c_11 => ?_)
  · refine ev_iconst (v := 1) dX12_apart_22 (by decide) ?_
    refine ev_goto (tgt := 27) dX12_apart_23 (by decide) ?_
    exact K_27 g hT _ (by rw [if_pos c_11]; rfl)
  · refine ev_aload_n dX12_apart_14 rfl rfl ?_
    refine ev_iload_n dX12_apart_15 rfl rfl ?_
    refine mo_call1 (d' := d - 1) hE hT dX12_apart_16 rfl rfl kX12_isAppeal lX12_480 iX12_isAppeal vX12_isAppeal (Nat.le_of_ble_eq_true rfl) (by omega) (c_X12_isAppeal hE (by omega)) (fun g hT => ?_)
    refine ev_if_ne (tgt := 26) dX12_apart_19 (by decide) (fun c_19 => ?_) (fun c_19 => ?_)
    · refine ev_iconst (v := 0) dX12_apart_26 (by decide) ?_
      exact K_27 g hT _ (by rw [if_neg c_11, if_neg c_19]; rfl)
    · refine ev_iconst (v := 1) dX12_apart_22 (by decide) ?_
      refine ev_goto (tgt := 27) dX12_apart_23 (by decide) ?_
      exact K_27 g hT _ (by rw [if_neg c_11, if_pos c_19]; rfl)
def sp_X12_grant (S : mo_S) (x1 x2 : Int32) : Int32 × mo_S :=
  (if (mo_b (if (mo_b (sp_X12_isAppeal (mo_up S 0 0 0) x1)) = 0 then true else false)) = 0 then (if (mo_b (if (mo_b (sp_in x2 (S.1 2 0) 600)) = 0 then true else false)) = 0 then (if (S.1 68 (x1).toNatClampNeg) < 0 then (1, (mo_up (sp_bad (if (mo_b (sp_in x2 (S.1 2 0) 600)) = 0 then true else false) 2 (sp_bad (if (mo_b (sp_X12_isAppeal (mo_up S 0 0 0) x1)) = 0 then true else false) 1 (mo_up S 0 0 0))) 68 (x1).toNatClampNeg x2)) else ((-1), (sp_bad (if (mo_b (sp_in x2 (S.1 2 0) 600)) = 0 then true else false) 2 (sp_bad (if (mo_b (sp_X12_isAppeal (mo_up S 0 0 0) x1)) = 0 then true else false) 1 (mo_up S 0 0 0))))) else (0, (sp_bad (if (mo_b (sp_in x2 (S.1 2 0) 600)) = 0 then true else false) 2 (sp_bad (if (mo_b (sp_X12_isAppeal (mo_up S 0 0 0) x1)) = 0 then true else false) 1 (mo_up S 0 0 0))))) else (0, (sp_bad (if (mo_b (sp_X12_isAppeal (mo_up S 0 0 0) x1)) = 0 then true else false) 1 (mo_up S 0 0 0))))
theorem c_X12_grant {G : ev_G} {W : mo_W} {d : Nat} {S : mo_S} {x1 x2 : Int32} (hE : ev_En G) (hd : 2 ≤ d) {Q : Nat} (hQ : S.1 62 0 = nI Q) (hQ2 : Q ≤ 20) : mo_C G W d mX12_grant [.int x1, .int x2] S (some (.int (sp_X12_grant S x1 x2).1)) (sp_X12_grant S x1 x2).2 := by
  refine mo_start (lv0 := [some (.ref W.1), some (.int x1), some (.int x2)]) (by decide +kernel) rfl (Nat.le_of_ble_eq_true rfl) rfl ?_
  intro g0 g hT
  refine ev_aload_n dX12_grant_0 rfl rfl ?_
  refine ev_iconst (v := 0) dX12_grant_1 (by decide) ?_
  refine mo_put hE hT dX12_grant_2 pX12_173 (by decide) (fun g hT => ?_)
  refine ev_aload_n dX12_grant_5 rfl rfl ?_
  refine ev_aload_n dX12_grant_6 rfl rfl ?_
  refine ev_iload_n dX12_grant_7 rfl rfl ?_
  refine mo_call1 (d' := d - 1) hE hT dX12_grant_8 rfl rfl kX12_isAppeal lX12_480 iX12_isAppeal vX12_isAppeal (Nat.le_of_ble_eq_true rfl) (by omega) (c_X12_isAppeal hE (by omega)) (fun g hT => ?_)
  have K_19 : ∀ (g : ev_H) (hT : mo_T G W g0 g (mo_up S 0 0 0)), ∀ x9 : Int32, x9 = (mo_b (if (mo_b (sp_X12_isAppeal (mo_up S 0 0 0) x1)) = 0 then true else false)) → ev_V G d 0 0 mX12_grant (fun o g' => o = .inl (some (.int (sp_X12_grant S x1 x2).1)) ∧ mo_T G W g0 g' (sp_X12_grant S x1 x2).2) g 19 [some (.ref W.1), some (.int x1), some (.int x2)] (.int x9 :: .ref W.1 :: []) := by
    intro g hT x9 h9
    subst h9
    refine ev_iconst (v := 1) dX12_grant_19 (by decide) ?_
    refine mo_call2 (d' := d - 1) hE hT dX12_grant_20 rfl rfl kX12_bad lX12_181 iX12_bad vX12_bad (Nat.le_of_ble_eq_true rfl) (by omega) (c_X12_bad hE) (fun g hT => ?_)
    refine ev_if_ne (tgt := 53) dX12_grant_23 (by decide) (fun c_23 => ?_) (fun c_23 => ?_)
    · refine ev_iconst (v := 0) dX12_grant_53 (by decide) ?_
      have e9 : sp_X12_grant S x1 x2 = (0, (sp_bad (if (mo_b (sp_X12_isAppeal (mo_up S 0 0 0) x1)) = 0 then true else false) 1 (mo_up S 0 0 0))) := by unfold sp_X12_grant; rw [if_neg c_23]
      exact ev_iret dX12_grant_54 rfl rfl ⟨by rw [e9], by rw [e9]; exact hT⟩
    · refine ev_aload_n dX12_grant_26 rfl rfl ?_
      refine ev_iload_n dX12_grant_27 rfl rfl ?_
      refine ev_aload_n dX12_grant_28 rfl rfl ?_
      refine mo_getiE (v := (S.1 2 0)) hE hT dX12_grant_29 fX12_364 (by decide) (by simp [sp_bad_ne, mo_up]) ?_
      refine ev_sipush (v := 600) dX12_grant_32 (by decide) ?_
      refine ev_pS3 (d' := d - 1) dX12_grant_35 rfl kX12_in lX12_176 sX12_in (Nat.le_of_ble_eq_true rfl) (by omega) (c_X12_in) ?_
      have K_46 : ∀ (g : ev_H) (hT : mo_T G W g0 g (sp_bad (if (mo_b (sp_X12_isAppeal (mo_up S 0 0 0) x1)) = 0 then true else false) 1 (mo_up S 0 0 0))), ∀ x9 : Int32, x9 = (mo_b (if (mo_b (sp_in x2 (S.1 2 0) 600)) = 0 then true else false)) → ev_V G d 0 0 mX12_grant (fun o g' => o = .inl (some (.int (sp_X12_grant S x1 x2).1)) ∧ mo_T G W g0 g' (sp_X12_grant S x1 x2).2) g 46 [some (.ref W.1), some (.int x1), some (.int x2)] (.int x9 :: .ref W.1 :: []) := by
        intro g hT x9 h9
        subst h9
        refine ev_iconst (v := 2) dX12_grant_46 (by decide) ?_
        refine mo_call2 (d' := d - 1) hE hT dX12_grant_47 rfl rfl kX12_bad lX12_181 iX12_bad vX12_bad (Nat.le_of_ble_eq_true rfl) (by omega) (c_X12_bad hE) (fun g hT => ?_)
        refine ev_if_eq (tgt := 55) dX12_grant_50 (by decide) (fun c_50 => ?_) (fun c_50 => ?_)
        · have q1 := mo_b_0 c_23
          have hv := (mo_vin (N := 20) hQ hQ2 (by decide) (by simpa [sp_X12_isAppeal, mo_up, mo_b] using q1)).1
          refine ev_aload_n dX12_grant_55 rfl rfl ?_
          refine mo_geta hE hT dX12_grant_56 fX12_158 (by decide) ?_
          refine ev_iload_n dX12_grant_59 rfl rfl ?_
          refine mo_ialdE (v := (S.1 68 (x1).toNatClampNeg)) hE hT dX12_grant_60 (by decide) (show vp_in _ 20 from hv) (by simp [sp_bad_ne, mo_up]) ?_
          refine ev_if_lt (tgt := 66) dX12_grant_61 (by decide) (fun c_61 => ?_) (fun c_61 => ?_)
          · refine ev_aload_n dX12_grant_66 rfl rfl ?_
            refine mo_geta hE hT dX12_grant_67 fX12_158 (by decide) ?_
            refine ev_iload_n dX12_grant_70 rfl rfl ?_
            refine ev_iload_n dX12_grant_71 rfl rfl ?_
            refine mo_iastV hE hT dX12_grant_72 (by decide) (show vp_in _ 20 from hv) (fun g hT => ?_)
            refine ev_iconst (v := 1) dX12_grant_73 (by decide) ?_
            have e9 : sp_X12_grant S x1 x2 = (1, (mo_up (sp_bad (if (mo_b (sp_in x2 (S.1 2 0) 600)) = 0 then true else false) 2 (sp_bad (if (mo_b (sp_X12_isAppeal (mo_up S 0 0 0) x1)) = 0 then true else false) 1 (mo_up S 0 0 0))) 68 (x1).toNatClampNeg x2)) := by unfold sp_X12_grant; rw [if_pos c_23, if_pos c_50, if_pos c_61]
            exact ev_iret dX12_grant_74 rfl rfl ⟨by rw [e9], by rw [e9]; exact hT⟩
          · refine ev_iconst (v := (-1)) dX12_grant_64 (by decide) ?_
            have e9 : sp_X12_grant S x1 x2 = ((-1), (sp_bad (if (mo_b (sp_in x2 (S.1 2 0) 600)) = 0 then true else false) 2 (sp_bad (if (mo_b (sp_X12_isAppeal (mo_up S 0 0 0) x1)) = 0 then true else false) 1 (mo_up S 0 0 0)))) := by unfold sp_X12_grant; rw [if_pos c_23, if_pos c_50, if_neg c_61]
            exact ev_iret dX12_grant_65 rfl rfl ⟨by rw [e9], by rw [e9]; exact hT⟩
        · refine ev_iconst (v := 0) dX12_grant_53 (by decide) ?_
          have e9 : sp_X12_grant S x1 x2 = (0, (sp_bad (if (mo_b (sp_in x2 (S.1 2 0) 600)) = 0 then true else false) 2 (sp_bad (if (mo_b (sp_X12_isAppeal (mo_up S 0 0 0) x1)) = 0 then true else false) 1 (mo_up S 0 0 0)))) := by unfold sp_X12_grant; rw [if_pos c_23, if_neg c_50]
          exact ev_iret dX12_grant_54 rfl rfl ⟨by rw [e9], by rw [e9]; exact hT⟩
      refine ev_if_ne (tgt := 45) dX12_grant_38 (by decide) (fun c_38 => ?_) (fun c_38 => ?_)
      · refine ev_iconst (v := 0) dX12_grant_45 (by decide) ?_
        exact K_46 g hT _ (by rw [if_neg c_38]; rfl)
      · refine ev_iconst (v := 1) dX12_grant_41 (by decide) ?_
        refine ev_goto (tgt := 46) dX12_grant_42 (by decide) ?_
        exact K_46 g hT _ (by rw [if_pos c_38]; rfl)
  refine ev_if_ne (tgt := 18) dX12_grant_11 (by decide) (fun c_11 => ?_) (fun c_11 => ?_)
  · refine ev_iconst (v := 0) dX12_grant_18 (by decide) ?_
    exact K_19 g hT _ (by rw [if_neg c_11]; rfl)
  · refine ev_iconst (v := 1) dX12_grant_14 (by decide) ?_
    refine ev_goto (tgt := 19) dX12_grant_15 (by decide) ?_
    exact K_19 g hT _ (by rw [if_pos c_11]; rfl)
def sp_X12_isRow (S : mo_S) (x1 x2 : Int32) : Bool :=
  (if (mo_b (sp_in x2 0 ((S.1 2 0) - 1))) = 0 then false else (if (S.1 56 (((12 * x2) + x1)).toNatClampNeg) = 0 then false else true))
theorem c_X12_isRow {G : ev_G} {W : mo_W} {d : Nat} {S : mo_S} {x1 x2 : Int32} (hE : ev_En G) (hd : 1 ≤ d) {m : Nat} (hM : S.1 2 0 = nI m) (hM2 : m ≤ 600) {a : Nat} (ha : x1 = nI a) (ha2 : a < 12) : mo_C G W d mX12_isRow [.int x1, .int x2] S (some (.int (mo_b (sp_X12_isRow S x1 x2)))) S := by
  refine mo_start (lv0 := [some (.ref W.1), some (.int x1), some (.int x2)]) (by decide +kernel) rfl (Nat.le_of_ble_eq_true rfl) rfl ?_
  intro g0 g hT
  refine ev_iload_n dX12_isRow_0 rfl rfl ?_
  refine ev_iconst (v := 0) dX12_isRow_1 (by decide) ?_
  refine ev_aload_n dX12_isRow_2 rfl rfl ?_
  refine mo_geti hE hT dX12_isRow_3 fX12_364 (by decide) ?_
  refine ev_iconst (v := 1) dX12_isRow_6 (by decide) ?_
  refine ev_isub dX12_isRow_7 ?_
  refine ev_pS3 (d' := d - 1) dX12_isRow_8 rfl kX12_in lX12_176 sX12_in (Nat.le_of_ble_eq_true rfl) (by omega) (c_X12_in) ?_
  have K_33 : ∀ (g : ev_H) (hT : mo_T G W g0 g S), ∀ x9 : Int32, x9 = (mo_b (if (mo_b (sp_in x2 0 ((S.1 2 0) - 1))) = 0 then false else (if (S.1 56 (((12 * x2) + x1)).toNatClampNeg) = 0 then false else true))) → ev_V G d 0 0 mX12_isRow (fun o g' => o = .inl (some (.int (mo_b (sp_X12_isRow S x1 x2)))) ∧ mo_T G W g0 g' S) g 33 [some (.ref W.1), some (.int x1), some (.int x2)] (.int x9 :: []) := by
    intro g hT x9 h9
    subst h9
    have e9 : sp_X12_isRow S x1 x2 = (if (mo_b (sp_in x2 0 ((S.1 2 0) - 1))) = 0 then false else (if (S.1 56 (((12 * x2) + x1)).toNatClampNeg) = 0 then false else true)) := by unfold sp_X12_isRow; rfl
    exact ev_iret dX12_isRow_33 rfl (by first | exact mo_b_nar _ | rfl) ⟨by rw [e9], hT⟩
  refine ev_if_eq (tgt := 32) dX12_isRow_11 (by decide) (fun c_11 => ?_) (fun c_11 => ?_)
  · refine ev_iconst (v := 0) dX12_isRow_32 (by decide) ?_
    exact K_33 g hT _ (by rw [if_pos c_11]; rfl)
  · obtain ⟨b, w2, e2⟩ := mo_vinE (N := 600) hM hM2 (by decide) (mo_b_1 c_11)
    have hv := (mo_ix (N := 7200) e2 ha (by omega) (by decide)).1
    refine ev_aload_n dX12_isRow_14 rfl rfl ?_
    refine mo_geta hE hT dX12_isRow_15 fX12_124 (by decide) ?_
    refine ev_bipush (v := 12) dX12_isRow_18 (by decide) ?_
    refine ev_iload_n dX12_isRow_20 rfl rfl ?_
    refine ev_imul dX12_isRow_21 ?_
    refine ev_iload_n dX12_isRow_22 rfl rfl ?_
    refine ev_iadd dX12_isRow_23 ?_
    refine mo_zaldV hE hT dX12_isRow_24 (show vp_in _ 7200 from hv) ?_
    refine ev_if_eq (tgt := 32) dX12_isRow_25 (by decide) (fun c_25 => ?_) (fun c_25 => ?_)
    · refine ev_iconst (v := 0) dX12_isRow_32 (by decide) ?_
      exact K_33 g hT _ (by rw [if_neg c_11, if_pos c_25]; rfl)
    · refine ev_iconst (v := 1) dX12_isRow_28 (by decide) ?_
      refine ev_goto (tgt := 33) dX12_isRow_29 (by decide) ?_
      exact K_33 g hT _ (by rw [if_neg c_11, if_neg c_25]; rfl)
def sp_X12_correct (S : mo_S) (x1 x2 x3 : Int32) : Int32 × mo_S :=
  (if (mo_b (sp_in x1 0 (S.1 1 0 - 1))) = 0 then (0, (mo_up S 0 0 (mo_b (!sp_in x1 0 (S.1 1 0 - 1))))) else (if (mo_b (if (mo_b (sp_in x3 0 1000000)) = 0 then true else false)) = 0 then (if (mo_b (sp_X12_isRow (sp_bad (if (mo_b (sp_in x3 0 1000000)) = 0 then true else false) 2 (mo_up S 0 0 (mo_b (!sp_in x1 0 (S.1 1 0 - 1))))) x1 x2)) = 0 then ((-1), (sp_bad (if (mo_b (sp_in x3 0 1000000)) = 0 then true else false) 2 (mo_up S 0 0 (mo_b (!sp_in x1 0 (S.1 1 0 - 1)))))) else (if (S.1 73 0) = 60 then ((-2), (sp_bad (if (mo_b (sp_in x3 0 1000000)) = 0 then true else false) 2 (mo_up S 0 0 (mo_b (!sp_in x1 0 (S.1 1 0 - 1)))))) else (1, (mo_up (mo_up (mo_up (mo_up (mo_up (sp_bad (if (mo_b (sp_in x3 0 1000000)) = 0 then true else false) 2 (mo_up S 0 0 (mo_b (!sp_in x1 0 (S.1 1 0 - 1))))) 74 ((S.1 73 0)).toNatClampNeg x1) 75 ((S.1 73 0)).toNatClampNeg x2) 76 ((S.1 73 0)).toNatClampNeg x3) 77 ((S.1 73 0)).toNatClampNeg (S.1 2 0)) 73 0 ((S.1 73 0) + 1))))) else (0, (sp_bad (if (mo_b (sp_in x3 0 1000000)) = 0 then true else false) 2 (mo_up S 0 0 (mo_b (!sp_in x1 0 (S.1 1 0 - 1))))))))
theorem c_X12_correct {G : ev_G} {W : mo_W} {d : Nat} {S : mo_S} {x1 x2 x3 : Int32} (hE : ev_En G) (hd : 2 ≤ d) {P : Nat} (hP : S.1 1 0 = nI P) (hP2 : P ≤ 12) {m : Nat} (hM : S.1 2 0 = nI m) (hM2 : m ≤ 600) {Z : Nat} (hZ : S.1 73 0 = nI Z) (hZ2 : Z ≤ 60) : mo_C G W d mX12_correct [.int x1, .int x2, .int x3] S (some (.int (sp_X12_correct S x1 x2 x3).1)) (sp_X12_correct S x1 x2 x3).2 := by
  refine mo_start (lv0 := [some (.ref W.1), some (.int x1), some (.int x2), some (.int x3)]) (by decide +kernel) rfl (Nat.le_of_ble_eq_true rfl) rfl ?_
  intro g0 g hT
  refine ev_aload_n dX12_correct_0 rfl rfl ?_
  refine ev_iload_n dX12_correct_1 rfl rfl ?_
  refine mo_call1 (d' := d - 1) hE hT dX12_correct_2 rfl rfl kX12_isPaper lX12_188 iX12_isPaper vX12_isPaper (Nat.le_of_ble_eq_true rfl) (by omega) (c_X12_isPaper hE (by omega)) (fun g hT => ?_)
  refine ev_if_eq (tgt := 32) dX12_correct_5 (by decide) (fun c_5 => ?_) (fun c_5 => ?_)
  · refine ev_iconst (v := 0) dX12_correct_32 (by decide) ?_
    have e9 : sp_X12_correct S x1 x2 x3 = (0, (mo_up S 0 0 (mo_b (!sp_in x1 0 (S.1 1 0 - 1))))) := by unfold sp_X12_correct; rw [if_pos c_5]
    exact ev_iret dX12_correct_33 rfl rfl ⟨by rw [e9], by rw [e9]; exact hT⟩
  · refine ev_aload_n dX12_correct_8 rfl rfl ?_
    refine ev_iload_n dX12_correct_9 rfl rfl ?_
    refine ev_iconst (v := 0) dX12_correct_10 (by decide) ?_
    refine ev_ldcw dX12_correct_11 nX12_402 ?_
    refine ev_pS3 (d' := d - 1) dX12_correct_14 rfl kX12_in lX12_176 sX12_in (Nat.le_of_ble_eq_true rfl) (by omega) (c_X12_in) ?_
    have K_25 : ∀ (g : ev_H) (hT : mo_T G W g0 g (mo_up S 0 0 (mo_b (!sp_in x1 0 (S.1 1 0 - 1))))), ∀ x9 : Int32, x9 = (mo_b (if (mo_b (sp_in x3 0 1000000)) = 0 then true else false)) → ev_V G d 0 0 mX12_correct (fun o g' => o = .inl (some (.int (sp_X12_correct S x1 x2 x3).1)) ∧ mo_T G W g0 g' (sp_X12_correct S x1 x2 x3).2) g 25 [some (.ref W.1), some (.int x1), some (.int x2), some (.int x3)] (.int x9 :: .ref W.1 :: []) := by
      intro g hT x9 h9
      subst h9
      refine ev_iconst (v := 2) dX12_correct_25 (by decide) ?_
      refine mo_call2 (d' := d - 1) hE hT dX12_correct_26 rfl rfl kX12_bad lX12_181 iX12_bad vX12_bad (Nat.le_of_ble_eq_true rfl) (by omega) (c_X12_bad hE) (fun g hT => ?_)
      refine ev_if_eq (tgt := 34) dX12_correct_29 (by decide) (fun c_29 => ?_) (fun c_29 => ?_)
      · obtain ⟨a, w1, e1⟩ := mo_vinE (N := 12) hP hP2 (by decide) (by simpa [sp_bad_ne, mo_up] using mo_b_1 c_5)
        have hv : vp_in x1 12 := by rw [e1]; exact vp_in_nI (by omega) (by decide)
        refine ev_aload_n dX12_correct_34 rfl rfl ?_
        refine ev_iload_n dX12_correct_35 rfl rfl ?_
        refine ev_iload_n dX12_correct_36 rfl rfl ?_
        refine mo_call2 (d' := d - 1) hE hT dX12_correct_37 rfl rfl kX12_isRow lX12_502 iX12_isRow vX12_isRow (Nat.le_of_ble_eq_true rfl) (by omega) (c_X12_isRow hE (by omega) (by simpa [sp_bad_ne, mo_up] using hM) hM2 e1 (by omega)) (fun g hT => ?_)
        refine ev_if_ne (tgt := 45) dX12_correct_40 (by decide) (fun c_40 => ?_) (fun c_40 => ?_)
        · refine ev_aload_n dX12_correct_45 rfl rfl ?_
          refine mo_getiE (v := (S.1 73 0)) hE hT dX12_correct_46 fX12_505 (by decide) (by simp [sp_bad_ne, mo_up]) ?_
          refine ev_bipush (v := 60) dX12_correct_49 (by decide) ?_
          refine ev_icmp_ne (tgt := 57) dX12_correct_51 (by decide) (fun c_51 => ?_) (fun c_51 => ?_)
          · have hv2 := (mo_full (N := 60) hZ hZ2 (by decide) (show ¬ _ = (60 : Int32) by simpa [sp_bad_ne, mo_up] using c_51)).1
            refine ev_aload_n dX12_correct_57 rfl rfl ?_
            refine mo_geta hE hT dX12_correct_58 fX12_161 (by decide) ?_
            refine ev_aload_n dX12_correct_61 rfl rfl ?_
            refine mo_getiE (v := (S.1 73 0)) hE hT dX12_correct_62 fX12_505 (by decide) (by simp [sp_bad_ne, mo_up]) ?_
            refine ev_iload_n dX12_correct_65 rfl rfl ?_
            refine mo_iastV hE hT dX12_correct_66 (by decide) (show vp_in _ 60 from (by first | exact hv | exact hv2)) (fun g hT => ?_)
            refine ev_aload_n dX12_correct_67 rfl rfl ?_
            refine mo_geta hE hT dX12_correct_68 fX12_164 (by decide) ?_
            refine ev_aload_n dX12_correct_71 rfl rfl ?_
            refine mo_getiE (v := (S.1 73 0)) hE hT dX12_correct_72 fX12_505 (by decide) (by simp [sp_bad_ne, mo_up]) ?_
            refine ev_iload_n dX12_correct_75 rfl rfl ?_
            refine mo_iastV hE hT dX12_correct_76 (by decide) (show vp_in _ 60 from (by first | exact hv | exact hv2)) (fun g hT => ?_)
            refine ev_aload_n dX12_correct_77 rfl rfl ?_
            refine mo_geta hE hT dX12_correct_78 fX12_167 (by decide) ?_
            refine ev_aload_n dX12_correct_81 rfl rfl ?_
            refine mo_getiE (v := (S.1 73 0)) hE hT dX12_correct_82 fX12_505 (by decide) (by simp [sp_bad_ne, mo_up]) ?_
            refine ev_iload_n dX12_correct_85 rfl rfl ?_
            refine mo_iastV hE hT dX12_correct_86 (by decide) (show vp_in _ 60 from (by first | exact hv | exact hv2)) (fun g hT => ?_)
            refine ev_aload_n dX12_correct_87 rfl rfl ?_
            refine mo_geta hE hT dX12_correct_88 fX12_170 (by decide) ?_
            refine ev_aload_n dX12_correct_91 rfl rfl ?_
            refine mo_getiE (v := (S.1 73 0)) hE hT dX12_correct_92 fX12_505 (by decide) (by simp [sp_bad_ne, mo_up]) ?_
            refine ev_aload_n dX12_correct_95 rfl rfl ?_
            refine mo_getiE (v := (S.1 2 0)) hE hT dX12_correct_96 fX12_364 (by decide) (by simp [sp_bad_ne, mo_up]) ?_
            refine mo_iastV hE hT dX12_correct_99 (by decide) (show vp_in _ 60 from (by first | exact hv | exact hv2)) (fun g hT => ?_)
            refine ev_aload_n dX12_correct_100 rfl rfl ?_
            refine ev_dup dX12_correct_101 rfl ?_
            refine mo_getiE (v := (S.1 73 0)) hE hT dX12_correct_102 fX12_505 (by decide) (by simp [sp_bad_ne, mo_up]) ?_
            refine ev_iconst (v := 1) dX12_correct_105 (by decide) ?_
            refine ev_iadd dX12_correct_106 ?_
            refine mo_put hE hT dX12_correct_107 pX12_505 (by decide) (fun g hT => ?_)
            refine ev_iconst (v := 1) dX12_correct_110 (by decide) ?_
            have e9 : sp_X12_correct S x1 x2 x3 = (1, (mo_up (mo_up (mo_up (mo_up (mo_up (sp_bad (if (mo_b (sp_in x3 0 1000000)) = 0 then true else false) 2 (mo_up S 0 0 (mo_b (!sp_in x1 0 (S.1 1 0 - 1))))) 74 ((S.1 73 0)).toNatClampNeg x1) 75 ((S.1 73 0)).toNatClampNeg x2) 76 ((S.1 73 0)).toNatClampNeg x3) 77 ((S.1 73 0)).toNatClampNeg (S.1 2 0)) 73 0 ((S.1 73 0) + 1))) := by unfold sp_X12_correct; rw [if_neg c_5, if_pos c_29, if_neg c_40, if_neg c_51]
            exact ev_iret dX12_correct_111 rfl rfl ⟨by rw [e9], by rw [e9]; exact hT⟩
          · refine ev_bipush (v := (-2)) dX12_correct_54 (by decide) ?_
            have e9 : sp_X12_correct S x1 x2 x3 = ((-2), (sp_bad (if (mo_b (sp_in x3 0 1000000)) = 0 then true else false) 2 (mo_up S 0 0 (mo_b (!sp_in x1 0 (S.1 1 0 - 1)))))) := by unfold sp_X12_correct; rw [if_neg c_5, if_pos c_29, if_neg c_40, if_pos c_51]
            exact ev_iret dX12_correct_56 rfl rfl ⟨by rw [e9], by rw [e9]; exact hT⟩
        · refine ev_iconst (v := (-1)) dX12_correct_43 (by decide) ?_
          have e9 : sp_X12_correct S x1 x2 x3 = ((-1), (sp_bad (if (mo_b (sp_in x3 0 1000000)) = 0 then true else false) 2 (mo_up S 0 0 (mo_b (!sp_in x1 0 (S.1 1 0 - 1)))))) := by unfold sp_X12_correct; rw [if_neg c_5, if_pos c_29, if_pos c_40]
          exact ev_iret dX12_correct_44 rfl rfl ⟨by rw [e9], by rw [e9]; exact hT⟩
      · refine ev_iconst (v := 0) dX12_correct_32 (by decide) ?_
        have e9 : sp_X12_correct S x1 x2 x3 = (0, (sp_bad (if (mo_b (sp_in x3 0 1000000)) = 0 then true else false) 2 (mo_up S 0 0 (mo_b (!sp_in x1 0 (S.1 1 0 - 1)))))) := by unfold sp_X12_correct; rw [if_neg c_5, if_neg c_29]
        exact ev_iret dX12_correct_33 rfl rfl ⟨by rw [e9], by rw [e9]; exact hT⟩
    refine ev_if_ne (tgt := 24) dX12_correct_17 (by decide) (fun c_17 => ?_) (fun c_17 => ?_)
    · refine ev_iconst (v := 0) dX12_correct_24 (by decide) ?_
      exact K_25 g hT _ (by rw [if_neg c_17]; rfl)
    · refine ev_iconst (v := 1) dX12_correct_20 (by decide) ?_
      refine ev_goto (tgt := 25) dX12_correct_21 (by decide) ?_
      exact K_25 g hT _ (by rw [if_pos c_17]; rfl)
def sp_X12_fault (S : mo_S) : Int32 × mo_S :=
  ((S.1 33 0), (mo_up S 0 0 0))
theorem c_X12_fault {G : ev_G} {W : mo_W} {d : Nat} {S : mo_S} (hE : ev_En G) : mo_C G W d mX12_fault [] S (some (.int (sp_X12_fault S ).1)) (sp_X12_fault S ).2 := by
  refine mo_start (lv0 := [some (.ref W.1)]) (by decide +kernel) rfl (Nat.le_of_ble_eq_true rfl) rfl ?_
  intro g0 g hT
  refine ev_aload_n dX12_fault_0 rfl rfl ?_
  refine ev_iconst (v := 0) dX12_fault_1 (by decide) ?_
  refine mo_put hE hT dX12_fault_2 pX12_173 (by decide) (fun g hT => ?_)
  refine ev_aload_n dX12_fault_5 rfl rfl ?_
  refine mo_getiE (v := (S.1 33 0)) hE hT dX12_fault_6 fX12_80 (by decide) (by simp [sp_bad_ne, mo_up]) ?_
  have e9 : sp_X12_fault S = ((S.1 33 0), (mo_up S 0 0 0)) := by unfold sp_X12_fault; rfl
  exact ev_iret dX12_fault_9 rfl rfl ⟨by rw [e9], by rw [e9]; exact hT⟩
end M2
