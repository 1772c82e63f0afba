section M2
def sp_X12_thrown (S : mo_S) : Int32 × mo_S :=
  ((S.1 0 0), S)
theorem c_X12_thrown {G : ev_G} {W : mo_W} {d : Nat} {S : mo_S} (hE : ev_En G) : mo_C G W d mX12_thrown [] S (some (.int (sp_X12_thrown S ).1)) (sp_X12_thrown S ).2 := by
  refine mo_start (lv0 := [some (.ref W.1)]) (by decide +kernel) rfl (Nat.le_of_ble_eq_true rfl) rfl ?_
  intro g0 g hT
  refine ev_aload_n dX12_thrown_0 rfl rfl ?_
  refine mo_geti hE hT dX12_thrown_1 fX12_173 (by decide) ?_
  have e9 : sp_X12_thrown S = ((S.1 0 0), S) := by unfold sp_X12_thrown; rfl
  exact ev_iret dX12_thrown_4 rfl rfl ⟨by rw [e9], by rw [e9]; exact hT⟩
def sp_X12_isSet (x1 x2 : Int32) : Int32 :=
  (if x1 = 0 then (mo_b (sp_in x2 0 1000)) else (if x1 = 1 then (mo_b (sp_in x2 2 64)) else (if x1 = 2 then (mo_b (sp_in x2 1 100)) else (if x1 = 3 then (mo_b (sp_in x2 0 1000)) else 0))))
theorem c_X12_isSet {G : ev_G} {d : Nat} {g : ev_H} {x1 x2 : Int32} (hd : 1 ≤ d) : ev_Cp G d mX12_isSet [.int x1, .int x2] g (some (.int (sp_X12_isSet x1 x2))) := by
  refine ev_start (lv0 := [some (.int x1), some (.int x2)]) (by decide +kernel) rfl (Nat.le_of_ble_eq_true rfl) rfl ?_
  refine ev_iload_n dX12_isSet_0 rfl rfl ?_
  by_cases c_1_0 : x1 = 0
  · refine ev_tableIn (tgt := 32) (off := 31) dX12_isSet_1 (by rw [c_1_0]; decide) (by rw [c_1_0]; decide) (by rw [c_1_0]; rfl) (by decide) ?_
    refine ev_iload_n dX12_isSet_32 rfl rfl ?_
    refine ev_iconst (v := 0) dX12_isSet_33 (by decide) ?_
    refine ev_sipush (v := 1000) dX12_isSet_34 (by decide) ?_
    refine ev_pS3 (d' := d - 1) dX12_isSet_37 rfl kX12_in lX12_176 sX12_in (Nat.le_of_ble_eq_true rfl) (by omega) (c_X12_in) ?_
    have e9 : sp_X12_isSet x1 x2 = (mo_b (sp_in x2 0 1000)) := by unfold sp_X12_isSet; rw [if_pos c_1_0]
    exact ev_iret dX12_isSet_40 rfl (by first | exact mo_b_nar _ | rfl) ⟨by rw [e9], rfl⟩
  · by_cases c_1_1 : x1 = 1
    · refine ev_tableIn (tgt := 41) (off := 40) dX12_isSet_1 (by rw [c_1_1]; decide) (by rw [c_1_1]; decide) (by rw [c_1_1]; rfl) (by decide) ?_
      refine ev_iload_n dX12_isSet_41 rfl rfl ?_
      refine ev_iconst (v := 2) dX12_isSet_42 (by decide) ?_
      refine ev_bipush (v := 64) dX12_isSet_43 (by decide) ?_
      refine ev_pS3 (d' := d - 1) dX12_isSet_45 rfl kX12_in lX12_176 sX12_in (Nat.le_of_ble_eq_true rfl) (by omega) (c_X12_in) ?_
      have e9 : sp_X12_isSet x1 x2 = (mo_b (sp_in x2 2 64)) := by unfold sp_X12_isSet; rw [if_neg c_1_0, if_pos c_1_1]
      exact ev_iret dX12_isSet_48 rfl (by first | exact mo_b_nar _ | rfl) ⟨by rw [e9], rfl⟩
    · by_cases c_1_2 : x1 = 2
      · refine ev_tableIn (tgt := 49) (off := 48) dX12_isSet_1 (by rw [c_1_2]; decide) (by rw [c_1_2]; decide) (by rw [c_1_2]; rfl) (by decide) ?_
        refine ev_iload_n dX12_isSet_49 rfl rfl ?_
        refine ev_iconst (v := 1) dX12_isSet_50 (by decide) ?_
        refine ev_bipush (v := 100) dX12_isSet_51 (by decide) ?_
        refine ev_pS3 (d' := d - 1) dX12_isSet_53 rfl kX12_in lX12_176 sX12_in (Nat.le_of_ble_eq_true rfl) (by omega) (c_X12_in) ?_
        have e9 : sp_X12_isSet x1 x2 = (mo_b (sp_in x2 1 100)) := by unfold sp_X12_isSet; rw [if_neg c_1_0, if_neg c_1_1, if_pos c_1_2]
        exact ev_iret dX12_isSet_56 rfl (by first | exact mo_b_nar _ | rfl) ⟨by rw [e9], rfl⟩
      · by_cases c_1_3 : x1 = 3
        · refine ev_tableIn (tgt := 57) (off := 56) dX12_isSet_1 (by rw [c_1_3]; decide) (by rw [c_1_3]; decide) (by rw [c_1_3]; rfl) (by decide) ?_
          refine ev_iload_n dX12_isSet_57 rfl rfl ?_
          refine ev_iconst (v := 0) dX12_isSet_58 (by decide) ?_
          refine ev_sipush (v := 1000) dX12_isSet_59 (by decide) ?_
          refine ev_pS3 (d' := d - 1) dX12_isSet_62 rfl kX12_in lX12_176 sX12_in (Nat.le_of_ble_eq_true rfl) (by omega) (c_X12_in) ?_
          have e9 : sp_X12_isSet x1 x2 = (mo_b (sp_in x2 0 1000)) := by unfold sp_X12_isSet; rw [if_neg c_1_0, if_neg c_1_1, if_neg c_1_2, if_pos c_1_3]
          exact ev_iret dX12_isSet_65 rfl (by first | exact mo_b_nar _ | rfl) ⟨by rw [e9], rfl⟩
        · refine ev_tableOut (tgt := 66) dX12_isSet_1 (by have h0 : (x1).toInt ≠ 0 := fun q => c_1_0 (Int32.toInt_inj.mp (by rw [q]; rfl)); have h1 : (x1).toInt ≠ 1 := fun q => c_1_1 (Int32.toInt_inj.mp (by rw [q]; rfl)); have h2 : (x1).toInt ≠ 2 := fun q => c_1_2 (Int32.toInt_inj.mp (by rw [q]; rfl)); have h3 : (x1).toInt ≠ 3 := fun q => c_1_3 (Int32.toInt_inj.mp (by rw [q]; rfl)); omega) (by decide) ?_
          refine ev_iconst (v := 0) dX12_isSet_66 (by decide) ?_
          have e9 : sp_X12_isSet x1 x2 = 0 := by unfold sp_X12_isSet; rw [if_neg c_1_0, if_neg c_1_1, if_neg c_1_2, if_neg c_1_3]
          exact ev_iret dX12_isSet_67 rfl rfl ⟨by rw [e9], rfl⟩
def sp_X12_set (S : mo_S) (x1 x2 x3 : Int32) : Int32 × mo_S :=
  (if (mo_b (sp_in x1 0 (S.1 1 0 - 1))) = 0 then (0, (mo_up S 0 0 (mo_b (!sp_in x1 0 (S.1 1 0 - 1))))) else (if (mo_b (if (sp_X12_isSet x2 x3) = 0 then true else false)) = 0 then (if (S.1 12 (x1).toNatClampNeg) = 2 then ((-1), (sp_bad (if (sp_X12_isSet x2 x3) = 0 then true else false) 2 (mo_up S 0 0 (mo_b (!sp_in x1 0 (S.1 1 0 - 1)))))) else (if x2 = 0 then ((if x2 = 0 then (S.1 5 (x1).toNatClampNeg) else (if x2 = 1 then (S.1 6 (x1).toNatClampNeg) else (if x2 = 2 then (S.1 7 (x1).toNatClampNeg) else (S.1 8 (x1).toNatClampNeg)))), (mo_up (sp_bad (if (sp_X12_isSet x2 x3) = 0 then true else false) 2 (mo_up S 0 0 (mo_b (!sp_in x1 0 (S.1 1 0 - 1))))) 5 (x1).toNatClampNeg x3)) else (if x2 = 1 then ((if x2 = 0 then (S.1 5 (x1).toNatClampNeg) else (if x2 = 1 then (S.1 6 (x1).toNatClampNeg) else (if x2 = 2 then (S.1 7 (x1).toNatClampNeg) else (S.1 8 (x1).toNatClampNeg)))), (mo_up (sp_bad (if (sp_X12_isSet x2 x3) = 0 then true else false) 2 (mo_up S 0 0 (mo_b (!sp_in x1 0 (S.1 1 0 - 1))))) 6 (x1).toNatClampNeg x3)) else (if x2 = 2 then ((if x2 = 0 then (S.1 5 (x1).toNatClampNeg) else (if x2 = 1 then (S.1 6 (x1).toNatClampNeg) else (if x2 = 2 then (S.1 7 (x1).toNatClampNeg) else (S.1 8 (x1).toNatClampNeg)))), (mo_up (sp_bad (if (sp_X12_isSet x2 x3) = 0 then true else false) 2 (mo_up S 0 0 (mo_b (!sp_in x1 0 (S.1 1 0 - 1))))) 7 (x1).toNatClampNeg x3)) else ((if x2 = 0 then (S.1 5 (x1).toNatClampNeg) else (if x2 = 1 then (S.1 6 (x1).toNatClampNeg) else (if x2 = 2 then (S.1 7 (x1).toNatClampNeg) else (S.1 8 (x1).toNatClampNeg)))), (mo_up (sp_bad (if (sp_X12_isSet x2 x3) = 0 then true else false) 2 (mo_up S 0 0 (mo_b (!sp_in x1 0 (S.1 1 0 - 1))))) 8 (x1).toNatClampNeg x3)))))) else (0, (sp_bad (if (sp_X12_isSet x2 x3) = 0 then true else false) 2 (mo_up S 0 0 (mo_b (!sp_in x1 0 (S.1 1 0 - 1))))))))
theorem c_X12_set {G : ev_G} {W : mo_W} {d : Nat} {S : mo_S} {x1 x2 x3 : Int32} (hE : ev_En G) (hd : 2 ≤ d) {P : Nat} (hP : S.1 1 0 = nI P) (hP2 : P ≤ 12) : mo_C G W d mX12_set [.int x1, .int x2, .int x3] S (some (.int (sp_X12_set S x1 x2 x3).1)) (sp_X12_set S x1 x2 x3).2 := by
  refine mo_start (lv0 := [some (.ref W.1), some (.int x1), some (.int x2), some (.int x3), none]) (by decide +kernel) rfl (Nat.le_of_ble_eq_true rfl) rfl ?_
  intro g0 g hT
  refine ev_aload_n dX12_set_0 rfl rfl ?_
  refine ev_iload_n dX12_set_1 rfl rfl ?_
  refine mo_call1 (d' := d - 1) hE hT dX12_set_2 rfl rfl kX12_isPaper lX12_188 iX12_isPaper vX12_isPaper (Nat.le_of_ble_eq_true rfl) (by omega) (c_X12_isPaper hE (by omega)) (fun g hT => ?_)
  refine ev_if_eq (tgt := 29) dX12_set_5 (by decide) (fun c_5 => ?_) (fun c_5 => ?_)
  · refine ev_iconst (v := 0) dX12_set_29 (by decide) ?_
    have e9 : sp_X12_set S x1 x2 x3 = (0, (mo_up S 0 0 (mo_b (!sp_in x1 0 (S.1 1 0 - 1))))) := by unfold sp_X12_set; rw [if_pos c_5]
    exact ev_iret dX12_set_30 rfl rfl ⟨by rw [e9], by rw [e9]; exact hT⟩
  · have hv := (mo_vin (N := 12) hP hP2 (by decide) (by simpa [sp_bad_ne, mo_up] using mo_b_1 c_5)).1
    refine ev_aload_n dX12_set_8 rfl rfl ?_
    refine ev_iload_n dX12_set_9 rfl rfl ?_
    refine ev_iload_n dX12_set_10 rfl rfl ?_
    refine ev_pS2 (d' := d - 1) dX12_set_11 rfl kX12_isSet lX12_192 sX12_isSet (Nat.le_of_ble_eq_true rfl) (by omega) (c_X12_isSet (by omega)) ?_
    have K_22 : ∀ (g : ev_H) (hT : mo_T G W g0 g (mo_up S 0 0 (mo_b (!sp_in x1 0 (S.1 1 0 - 1))))), ∀ x9 : Int32, x9 = (mo_b (if (sp_X12_isSet x2 x3) = 0 then true else false)) → ev_V G d 0 0 mX12_set (fun o g' => o = .inl (some (.int (sp_X12_set S x1 x2 x3).1)) ∧ mo_T G W g0 g' (sp_X12_set S x1 x2 x3).2) g 22 [some (.ref W.1), some (.int x1), some (.int x2), some (.int x3), none] (.int x9 :: .ref W.1 :: []) := by
      intro g hT x9 h9
      subst h9
      refine ev_iconst (v := 2) dX12_set_22 (by decide) ?_
      refine mo_call2 (d' := d - 1) hE hT dX12_set_23 rfl rfl kX12_bad lX12_181 iX12_bad vX12_bad (Nat.le_of_ble_eq_true rfl) (by omega) (c_X12_bad hE) (fun g hT => ?_)
      refine ev_if_eq (tgt := 31) dX12_set_26 (by decide) (fun c_26 => ?_) (fun c_26 => ?_)
      · refine ev_aload_n dX12_set_31 rfl rfl ?_
        refine mo_geta hE hT dX12_set_32 fX12_37 (by decide) ?_
        refine ev_iload_n dX12_set_35 rfl rfl ?_
        refine mo_ialdE (v := (S.1 12 (x1).toNatClampNeg)) hE hT dX12_set_36 (by decide) (show vp_in _ 12 from hv) (by simp [sp_bad_ne, mo_up]) ?_
        refine ev_iconst (v := 2) dX12_set_37 (by decide) ?_
        refine ev_icmp_ne (tgt := 43) dX12_set_38 (by decide) (fun c_38 => ?_) (fun c_38 => ?_)
        · refine ev_iload_n dX12_set_43 rfl rfl ?_
          have K_90 : ∀ (g : ev_H) (hT : mo_T G W g0 g (sp_bad (if (sp_X12_isSet x2 x3) = 0 then true else false) 2 (mo_up S 0 0 (mo_b (!sp_in x1 0 (S.1 1 0 - 1)))))), ∀ x9 : Int32, x9 = (if x2 = 0 then (S.1 5 (x1).toNatClampNeg) else (if x2 = 1 then (S.1 6 (x1).toNatClampNeg) else (if x2 = 2 then (S.1 7 (x1).toNatClampNeg) else (S.1 8 (x1).toNatClampNeg)))) → ev_V G d 0 0 mX12_set (fun o g' => o = .inl (some (.int (sp_X12_set S x1 x2 x3).1)) ∧ mo_T G W g0 g' (sp_X12_set S x1 x2 x3).2) g 90 [some (.ref W.1), some (.int x1), some (.int x2), some (.int x3), none] (.int x9 :: []) := by
            intro g hT x9 h9
            subst h9
            refine ev_istore dX12_set_90 (Nat.le_of_ble_eq_true rfl) rfl ?_
            refine ev_iload_n dX12_set_92 rfl rfl ?_
            refine ev_if_ne (tgt := 106) dX12_set_93 (by decide) (fun c_93 => ?_) (fun c_93 => ?_)
            · refine ev_iload_n dX12_set_106 rfl rfl ?_
              refine ev_iconst (v := 1) dX12_set_107 (by decide) ?_
              refine ev_icmp_ne (tgt := 121) dX12_set_108 (by decide) (fun c_108 => ?_) (fun c_108 => ?_)
              · refine ev_iload_n dX12_set_121 rfl rfl ?_
                refine ev_iconst (v := 2) dX12_set_122 (by decide) ?_
                refine ev_icmp_ne (tgt := 136) dX12_set_123 (by decide) (fun c_123 => ?_) (fun c_123 => ?_)
                · refine ev_aload_n dX12_set_136 rfl rfl ?_
                  refine mo_geta hE hT dX12_set_137 fX12_25 (by decide) ?_
                  refine ev_iload_n dX12_set_140 rfl rfl ?_
                  refine ev_iload_n dX12_set_141 rfl rfl ?_
                  refine mo_iastV hE hT dX12_set_142 (by decide) (show vp_in _ 12 from hv) (fun g hT => ?_)
                  refine ev_iload dX12_set_143 rfl ?_
                  have e9 : sp_X12_set S x1 x2 x3 = ((if x2 = 0 then (S.1 5 (x1).toNatClampNeg) else (if x2 = 1 then (S.1 6 (x1).toNatClampNeg) else (if x2 = 2 then (S.1 7 (x1).toNatClampNeg) else (S.1 8 (x1).toNatClampNeg)))), (mo_up (sp_bad (if (sp_X12_isSet x2 x3) = 0 then true else false) 2 (mo_up S 0 0 (mo_b (!sp_in x1 0 (S.1 1 0 - 1))))) 8 (x1).toNatClampNeg x3)) := by unfold sp_X12_set; rw [if_neg c_5, if_pos c_26, if_neg c_38, if_neg c_93, if_neg c_108, if_neg c_123]
                  exact ev_iret dX12_set_145 rfl rfl ⟨by rw [e9], by rw [e9]; exact hT⟩
                · refine ev_aload_n dX12_set_126 rfl rfl ?_
                  refine mo_geta hE hT dX12_set_127 fX12_22 (by decide) ?_
                  refine ev_iload_n dX12_set_130 rfl rfl ?_
                  refine ev_iload_n dX12_set_131 rfl rfl ?_
                  refine mo_iastV hE hT dX12_set_132 (by decide) (show vp_in _ 12 from hv) (fun g hT => ?_)
                  refine ev_goto (tgt := 143) dX12_set_133 (by decide) ?_
                  refine ev_iload dX12_set_143 rfl ?_
                  have e9 : sp_X12_set S x1 x2 x3 = ((if x2 = 0 then (S.1 5 (x1).toNatClampNeg) else (if x2 = 1 then (S.1 6 (x1).toNatClampNeg) else (if x2 = 2 then (S.1 7 (x1).toNatClampNeg) else (S.1 8 (x1).toNatClampNeg)))), (mo_up (sp_bad (if (sp_X12_isSet x2 x3) = 0 then true else false) 2 (mo_up S 0 0 (mo_b (!sp_in x1 0 (S.1 1 0 - 1))))) 7 (x1).toNatClampNeg x3)) := by unfold sp_X12_set; rw [if_neg c_5, if_pos c_26, if_neg c_38, if_neg c_93, if_neg c_108, if_pos c_123]
                  exact ev_iret dX12_set_145 rfl rfl ⟨by rw [e9], by rw [e9]; exact hT⟩
              · refine ev_aload_n dX12_set_111 rfl rfl ?_
                refine mo_geta hE hT dX12_set_112 fX12_19 (by decide) ?_
                refine ev_iload_n dX12_set_115 rfl rfl ?_
                refine ev_iload_n dX12_set_116 rfl rfl ?_
                refine mo_iastV hE hT dX12_set_117 (by decide) (show vp_in _ 12 from hv) (fun g hT => ?_)
                refine ev_goto (tgt := 143) dX12_set_118 (by decide) ?_
                refine ev_iload dX12_set_143 rfl ?_
                have e9 : sp_X12_set S x1 x2 x3 = ((if x2 = 0 then (S.1 5 (x1).toNatClampNeg) else (if x2 = 1 then (S.1 6 (x1).toNatClampNeg) else (if x2 = 2 then (S.1 7 (x1).toNatClampNeg) else (S.1 8 (x1).toNatClampNeg)))), (mo_up (sp_bad (if (sp_X12_isSet x2 x3) = 0 then true else false) 2 (mo_up S 0 0 (mo_b (!sp_in x1 0 (S.1 1 0 - 1))))) 6 (x1).toNatClampNeg x3)) := by unfold sp_X12_set; rw [if_neg c_5, if_pos c_26, if_neg c_38, if_neg c_93, if_pos c_108]
                exact ev_iret dX12_set_145 rfl rfl ⟨by rw [e9], by rw [e9]; exact hT⟩
            · refine ev_aload_n dX12_set_96 rfl rfl ?_
              refine mo_geta hE hT dX12_set_97 fX12_16 (by decide) ?_
              refine ev_iload_n dX12_set_100 rfl rfl ?_
              refine ev_iload_n dX12_set_101 rfl rfl ?_
              refine mo_iastV hE hT dX12_set_102 (by decide) (show vp_in _ 12 from hv) (fun g hT => ?_)
              refine ev_goto (tgt := 143) dX12_set_103 (by decide) ?_
              refine ev_iload dX12_set_143 rfl ?_
              have e9 : sp_X12_set S x1 x2 x3 = ((if x2 = 0 then (S.1 5 (x1).toNatClampNeg) else (if x2 = 1 then (S.1 6 (x1).toNatClampNeg) else (if x2 = 2 then (S.1 7 (x1).toNatClampNeg) else (S.1 8 (x1).toNatClampNeg)))), (mo_up (sp_bad (if (sp_X12_isSet x2 x3) = 0 then true else false) 2 (mo_up S 0 0 (mo_b (!sp_in x1 0 (S.1 1 0 - 1))))) 5 (x1).toNatClampNeg x3)) := by unfold sp_X12_set; rw [if_neg c_5, if_pos c_26, if_neg c_38, if_pos c_93]
              exact ev_iret dX12_set_145 rfl rfl ⟨by rw [e9], by rw [e9]; exact hT⟩
          refine ev_if_ne (tgt := 56) dX12_set_44 (by decide) (fun c_44 => ?_) (fun c_44 => ?_)
          · refine ev_iload_n dX12_set_56 rfl rfl ?_
            refine ev_iconst (v := 1) dX12_set_57 (by decide) ?_
            refine ev_icmp_ne (tgt := 70) dX12_set_58 (by decide) (fun c_58 => ?_) (fun c_58 => ?_)
            · refine ev_iload_n dX12_set_70 rfl rfl ?_
              refine ev_iconst (v := 2) dX12_set_71 (by decide) ?_
              refine ev_icmp_ne (tgt := 84) dX12_set_72 (by decide) (fun c_72 => ?_) (fun c_72 => ?_)
              · refine ev_aload_n dX12_set_84 rfl rfl ?_
                refine mo_geta hE hT dX12_set_85 fX12_25 (by decide) ?_
                refine ev_iload_n dX12_set_88 rfl rfl ?_
                refine mo_ialdE (v := (S.1 8 (x1).toNatClampNeg)) hE hT dX12_set_89 (by decide) (show vp_in _ 12 from hv) (by simp [sp_bad_ne, mo_up]) ?_
                exact K_90 g hT _ (by rw [if_neg c_44, if_neg c_58, if_neg c_72])
              · refine ev_aload_n dX12_set_75 rfl rfl ?_
                refine mo_geta hE hT dX12_set_76 fX12_22 (by decide) ?_
                refine ev_iload_n dX12_set_79 rfl rfl ?_
                refine mo_ialdE (v := (S.1 7 (x1).toNatClampNeg)) hE hT dX12_set_80 (by decide) (show vp_in _ 12 from hv) (by simp [sp_bad_ne, mo_up]) ?_
                refine ev_goto (tgt := 90) dX12_set_81 (by decide) ?_
                exact K_90 g hT _ (by rw [if_neg c_44, if_neg c_58, if_pos c_72])
            · refine ev_aload_n dX12_set_61 rfl rfl ?_
              refine mo_geta hE hT dX12_set_62 fX12_19 (by decide) ?_
              refine ev_iload_n dX12_set_65 rfl rfl ?_
              refine mo_ialdE (v := (S.1 6 (x1).toNatClampNeg)) hE hT dX12_set_66 (by decide) (show vp_in _ 12 from hv) (by simp [sp_bad_ne, mo_up]) ?_
              refine ev_goto (tgt := 90) dX12_set_67 (by decide) ?_
              exact K_90 g hT _ (by rw [if_neg c_44, if_pos c_58])
          · refine ev_aload_n dX12_set_47 rfl rfl ?_
            refine mo_geta hE hT dX12_set_48 fX12_16 (by decide) ?_
            refine ev_iload_n dX12_set_51 rfl rfl ?_
            refine mo_ialdE (v := (S.1 5 (x1).toNatClampNeg)) hE hT dX12_set_52 (by decide) (show vp_in _ 12 from hv) (by simp [sp_bad_ne, mo_up]) ?_
            refine ev_goto (tgt := 90) dX12_set_53 (by decide) ?_
            exact K_90 g hT _ (by rw [if_pos c_44])
        · refine ev_iconst (v := (-1)) dX12_set_41 (by decide) ?_
          have e9 : sp_X12_set S x1 x2 x3 = ((-1), (sp_bad (if (sp_X12_isSet x2 x3) = 0 then true else false) 2 (mo_up S 0 0 (mo_b (!sp_in x1 0 (S.1 1 0 - 1)))))) := by unfold sp_X12_set; rw [if_neg c_5, if_pos c_26, if_pos c_38]
          exact ev_iret dX12_set_42 rfl rfl ⟨by rw [e9], by rw [e9]; exact hT⟩
      · refine ev_iconst (v := 0) dX12_set_29 (by decide) ?_
        have e9 : sp_X12_set S x1 x2 x3 = (0, (sp_bad (if (sp_X12_isSet x2 x3) = 0 then true else false) 2 (mo_up S 0 0 (mo_b (!sp_in x1 0 (S.1 1 0 - 1)))))) := by unfold sp_X12_set; rw [if_neg c_5, if_neg c_26]
        exact ev_iret dX12_set_30 rfl rfl ⟨by rw [e9], by rw [e9]; exact hT⟩
    refine ev_if_ne (tgt := 21) dX12_set_14 (by decide) (fun c_14 => ?_) (fun c_14 => ?_)
    · refine ev_iconst (v := 0) dX12_set_21 (by decide) ?_
      exact K_22 g hT _ (by rw [if_neg c_14]; rfl)
    · refine ev_iconst (v := 1) dX12_set_17 (by decide) ?_
      refine ev_goto (tgt := 22) dX12_set_18 (by decide) ?_
      exact K_22 g hT _ (by rw [if_pos c_14]; rfl)
def sp_X12_told (S : mo_S) (x1 x2 : Int32) : Int32 × mo_S :=
  (if (mo_b (sp_in x1 0 (S.1 1 0 - 1))) = 0 then (0, (mo_up S 0 0 (mo_b (!sp_in x1 0 (S.1 1 0 - 1))))) else (if (mo_b (if (mo_b (sp_in x2 0 10)) = 0 then true else false)) = 0 then (if x2 = 0 then ((S.1 3 (x1).toNatClampNeg), (sp_bad (if (mo_b (sp_in x2 0 10)) = 0 then true else false) 2 (mo_up S 0 0 (mo_b (!sp_in x1 0 (S.1 1 0 - 1)))))) else (if x2 = 1 then ((S.1 4 (x1).toNatClampNeg), (sp_bad (if (mo_b (sp_in x2 0 10)) = 0 then true else false) 2 (mo_up S 0 0 (mo_b (!sp_in x1 0 (S.1 1 0 - 1)))))) else (if x2 = 2 then ((S.1 5 (x1).toNatClampNeg), (sp_bad (if (mo_b (sp_in x2 0 10)) = 0 then true else false) 2 (mo_up S 0 0 (mo_b (!sp_in x1 0 (S.1 1 0 - 1)))))) else (if x2 = 3 then ((S.1 6 (x1).toNatClampNeg), (sp_bad (if (mo_b (sp_in x2 0 10)) = 0 then true else false) 2 (mo_up S 0 0 (mo_b (!sp_in x1 0 (S.1 1 0 - 1)))))) else (if x2 = 4 then ((S.1 7 (x1).toNatClampNeg), (sp_bad (if (mo_b (sp_in x2 0 10)) = 0 then true else false) 2 (mo_up S 0 0 (mo_b (!sp_in x1 0 (S.1 1 0 - 1)))))) else (if x2 = 5 then ((S.1 8 (x1).toNatClampNeg), (sp_bad (if (mo_b (sp_in x2 0 10)) = 0 then true else false) 2 (mo_up S 0 0 (mo_b (!sp_in x1 0 (S.1 1 0 - 1)))))) else (if x2 = 6 then ((S.1 9 (x1).toNatClampNeg), (sp_bad (if (mo_b (sp_in x2 0 10)) = 0 then true else false) 2 (mo_up S 0 0 (mo_b (!sp_in x1 0 (S.1 1 0 - 1)))))) else (if x2 = 7 then ((S.1 10 (x1).toNatClampNeg), (sp_bad (if (mo_b (sp_in x2 0 10)) = 0 then true else false) 2 (mo_up S 0 0 (mo_b (!sp_in x1 0 (S.1 1 0 - 1)))))) else (if x2 = 8 then ((S.1 11 (x1).toNatClampNeg), (sp_bad (if (mo_b (sp_in x2 0 10)) = 0 then true else false) 2 (mo_up S 0 0 (mo_b (!sp_in x1 0 (S.1 1 0 - 1)))))) else (if x2 = 9 then ((S.1 12 (x1).toNatClampNeg), (sp_bad (if (mo_b (sp_in x2 0 10)) = 0 then true else false) 2 (mo_up S 0 0 (mo_b (!sp_in x1 0 (S.1 1 0 - 1)))))) else ((S.1 13 (x1).toNatClampNeg), (sp_bad (if (mo_b (sp_in x2 0 10)) = 0 then true else false) 2 (mo_up S 0 0 (mo_b (!sp_in x1 0 (S.1 1 0 - 1)))))))))))))))) else (0, (sp_bad (if (mo_b (sp_in x2 0 10)) = 0 then true else false) 2 (mo_up S 0 0 (mo_b (!sp_in x1 0 (S.1 1 0 - 1))))))))
theorem c_X12_told {G : ev_G} {W : mo_W} {d : Nat} {S : mo_S} {x1 x2 : Int32} (hE : ev_En G) (hd : 2 ≤ d) {P : Nat} (hP : S.1 1 0 = nI P) (hP2 : P ≤ 12) : mo_C G W d mX12_told [.int x1, .int x2] S (some (.int (sp_X12_told S x1 x2).1)) (sp_X12_told S x1 x2).2 := by
  refine mo_start (lv0 := [some (.ref W.1), some (.int x1), some (.int x2)]) (by decide +kernel) rfl (Nat.le_of_ble_eq_true rfl) rfl ?_
  intro g0 g hT
  refine ev_aload_n dX12_told_0 rfl rfl ?_
  refine ev_iload_n dX12_told_1 rfl rfl ?_
  refine mo_call1 (d' := d - 1) hE hT dX12_told_2 rfl rfl kX12_isPaper lX12_188 iX12_isPaper vX12_isPaper (Nat.le_of_ble_eq_true rfl) (by omega) (c_X12_isPaper hE (by omega)) (fun g hT => ?_)
  refine ev_if_eq (tgt := 31) dX12_told_5 (by decide) (fun c_5 => ?_) (fun c_5 => ?_)
  · refine ev_iconst (v := 0) dX12_told_31 (by decide) ?_
    have e9 : sp_X12_told S x1 x2 = (0, (mo_up S 0 0 (mo_b (!sp_in x1 0 (S.1 1 0 - 1))))) := by unfold sp_X12_told; rw [if_pos c_5]
    exact ev_iret dX12_told_32 rfl rfl ⟨by rw [e9], by rw [e9]; exact hT⟩
  · have hv := (mo_vin (N := 12) hP hP2 (by decide) (by simpa [sp_bad_ne, mo_up] using mo_b_1 c_5)).1
    refine ev_aload_n dX12_told_8 rfl rfl ?_
    refine ev_iload_n dX12_told_9 rfl rfl ?_
    refine ev_iconst (v := 0) dX12_told_10 (by decide) ?_
    refine ev_bipush (v := 10) dX12_told_11 (by decide) ?_
    refine ev_pS3 (d' := d - 1) dX12_told_13 rfl kX12_in lX12_176 sX12_in (Nat.le_of_ble_eq_true rfl) (by omega) (c_X12_in) ?_
    have K_24 : ∀ (g : ev_H) (hT : mo_T G W g0 g (mo_up S 0 0 (mo_b (!sp_in x1 0 (S.1 1 0 - 1))))), ∀ x9 : Int32, x9 = (mo_b (if (mo_b (sp_in x2 0 10)) = 0 then true else false)) → ev_V G d 0 0 mX12_told (fun o g' => o = .inl (some (.int (sp_X12_told S x1 x2).1)) ∧ mo_T G W g0 g' (sp_X12_told S x1 x2).2) g 24 [some (.ref W.1), some (.int x1), some (.int x2)] (.int x9 :: .ref W.1 :: []) := by
      intro g hT x9 h9
      subst h9
      refine ev_iconst (v := 2) dX12_told_24 (by decide) ?_
      refine mo_call2 (d' := d - 1) hE hT dX12_told_25 rfl rfl kX12_bad lX12_181 iX12_bad vX12_bad (Nat.le_of_ble_eq_true rfl) (by omega) (c_X12_bad hE) (fun g hT => ?_)
      refine ev_if_eq (tgt := 33) dX12_told_28 (by decide) (fun c_28 => ?_) (fun c_28 => ?_)
      · refine ev_iload_n dX12_told_33 rfl rfl ?_
        by_cases c_34_0 : x2 = 0
        · refine ev_tableIn (tgt := 88) (off := 54) dX12_told_34 (by rw [c_34_0]; decide) (by rw [c_34_0]; decide) (by rw [c_34_0]; rfl) (by decide) ?_
          refine ev_aload_n dX12_told_88 rfl rfl ?_
          refine mo_geta hE hT dX12_told_89 fX12_9 (by decide) ?_
          refine ev_iload_n dX12_told_92 rfl rfl ?_
          refine mo_ialdE (v := (S.1 3 (x1).toNatClampNeg)) hE hT dX12_told_93 (by decide) (show vp_in _ 12 from hv) (by simp [sp_bad_ne, mo_up]) ?_
          have e9 : sp_X12_told S x1 x2 = ((S.1 3 (x1).toNatClampNeg), (sp_bad (if (mo_b (sp_in x2 0 10)) = 0 then true else false) 2 (mo_up S 0 0 (mo_b (!sp_in x1 0 (S.1 1 0 - 1)))))) := by unfold sp_X12_told; rw [if_neg c_5, if_pos c_28, if_pos c_34_0]
          exact ev_iret dX12_told_94 rfl rfl ⟨by rw [e9], by rw [e9]; exact hT⟩
        · by_cases c_34_1 : x2 = 1
          · refine ev_tableIn (tgt := 95) (off := 61) dX12_told_34 (by rw [c_34_1]; decide) (by rw [c_34_1]; decide) (by rw [c_34_1]; rfl) (by decide) ?_
            refine ev_aload_n dX12_told_95 rfl rfl ?_
            refine mo_geta hE hT dX12_told_96 fX12_13 (by decide) ?_
            refine ev_iload_n dX12_told_99 rfl rfl ?_
            refine mo_ialdE (v := (S.1 4 (x1).toNatClampNeg)) hE hT dX12_told_100 (by decide) (show vp_in _ 12 from hv) (by simp [sp_bad_ne, mo_up]) ?_
            have e9 : sp_X12_told S x1 x2 = ((S.1 4 (x1).toNatClampNeg), (sp_bad (if (mo_b (sp_in x2 0 10)) = 0 then true else false) 2 (mo_up S 0 0 (mo_b (!sp_in x1 0 (S.1 1 0 - 1)))))) := by unfold sp_X12_told; rw [if_neg c_5, if_pos c_28, if_neg c_34_0, if_pos c_34_1]
            exact ev_iret dX12_told_101 rfl rfl ⟨by rw [e9], by rw [e9]; exact hT⟩
          · by_cases c_34_2 : x2 = 2
            · refine ev_tableIn (tgt := 102) (off := 68) dX12_told_34 (by rw [c_34_2]; decide) (by rw [c_34_2]; decide) (by rw [c_34_2]; rfl) (by decide) ?_
              refine ev_aload_n dX12_told_102 rfl rfl ?_
              refine mo_geta hE hT dX12_told_103 fX12_16 (by decide) ?_
              refine ev_iload_n dX12_told_106 rfl rfl ?_
              refine mo_ialdE (v := (S.1 5 (x1).toNatClampNeg)) hE hT dX12_told_107 (by decide) (show vp_in _ 12 from hv) (by simp [sp_bad_ne, mo_up]) ?_
              have e9 : sp_X12_told S x1 x2 = ((S.1 5 (x1).toNatClampNeg), (sp_bad (if (mo_b (sp_in x2 0 10)) = 0 then true else false) 2 (mo_up S 0 0 (mo_b (!sp_in x1 0 (S.1 1 0 - 1)))))) := by unfold sp_X12_told; rw [if_neg c_5, if_pos c_28, if_neg c_34_0, if_neg c_34_1, if_pos c_34_2]
              exact ev_iret dX12_told_108 rfl rfl ⟨by rw [e9], by rw [e9]; exact hT⟩
            · by_cases c_34_3 : x2 = 3
              · refine ev_tableIn (tgt := 109) (off := 75) dX12_told_34 (by rw [c_34_3]; decide) (by rw [c_34_3]; decide) (by rw [c_34_3]; rfl) (by decide) ?_
                refine ev_aload_n dX12_told_109 rfl rfl ?_
                refine mo_geta hE hT dX12_told_110 fX12_19 (by decide) ?_
                refine ev_iload_n dX12_told_113 rfl rfl ?_
                refine mo_ialdE (v := (S.1 6 (x1).toNatClampNeg)) hE hT dX12_told_114 (by decide) (show vp_in _ 12 from hv) (by simp [sp_bad_ne, mo_up]) ?_
                have e9 : sp_X12_told S x1 x2 = ((S.1 6 (x1).toNatClampNeg), (sp_bad (if (mo_b (sp_in x2 0 10)) = 0 then true else false) 2 (mo_up S 0 0 (mo_b (!sp_in x1 0 (S.1 1 0 - 1)))))) := by unfold sp_X12_told; rw [if_neg c_5, if_pos c_28, if_neg c_34_0, if_neg c_34_1, if_neg c_34_2, if_pos c_34_3]
                exact ev_iret dX12_told_115 rfl rfl ⟨by rw [e9], by rw [e9]; exact hT⟩
              · by_cases c_34_4 : x2 = 4
                · refine ev_tableIn (tgt := 116) (off := 82) dX12_told_34 (by rw [c_34_4]; decide) (by rw [c_34_4]; decide) (by rw [c_34_4]; rfl) (by decide) ?_
                  refine ev_aload_n dX12_told_116 rfl rfl ?_
                  refine mo_geta hE hT dX12_told_117 fX12_22 (by decide) ?_
                  refine ev_iload_n dX12_told_120 rfl rfl ?_
                  refine mo_ialdE (v := (S.1 7 (x1).toNatClampNeg)) hE hT dX12_told_121 (by decide) (show vp_in _ 12 from hv) (by simp [sp_bad_ne, mo_up]) ?_
                  have e9 : sp_X12_told S x1 x2 = ((S.1 7 (x1).toNatClampNeg), (sp_bad (if (mo_b (sp_in x2 0 10)) = 0 then true else false) 2 (mo_up S 0 0 (mo_b (!sp_in x1 0 (S.1 1 0 - 1)))))) := by unfold sp_X12_told; rw [if_neg c_5, if_pos c_28, if_neg c_34_0, if_neg c_34_1, if_neg c_34_2, if_neg c_34_3, if_pos c_34_4]
                  exact ev_iret dX12_told_122 rfl rfl ⟨by rw [e9], by rw [e9]; exact hT⟩
                · by_cases c_34_5 : x2 = 5
                  · refine ev_tableIn (tgt := 123) (off := 89) dX12_told_34 (by rw [c_34_5]; decide) (by rw [c_34_5]; decide) (by rw [c_34_5]; rfl) (by decide) ?_
                    refine ev_aload_n dX12_told_123 rfl rfl ?_
                    refine mo_geta hE hT dX12_told_124 fX12_25 (by decide) ?_
                    refine ev_iload_n dX12_told_127 rfl rfl ?_
                    refine mo_ialdE (v := (S.1 8 (x1).toNatClampNeg)) hE hT dX12_told_128 (by decide) (show vp_in _ 12 from hv) (by simp [sp_bad_ne, mo_up]) ?_
                    have e9 : sp_X12_told S x1 x2 = ((S.1 8 (x1).toNatClampNeg), (sp_bad (if (mo_b (sp_in x2 0 10)) = 0 then true else false) 2 (mo_up S 0 0 (mo_b (!sp_in x1 0 (S.1 1 0 - 1)))))) := by unfold sp_X12_told; rw [if_neg c_5, if_pos c_28, if_neg c_34_0, if_neg c_34_1, if_neg c_34_2, if_neg c_34_3, if_neg c_34_4, if_pos c_34_5]
                    exact ev_iret dX12_told_129 rfl rfl ⟨by rw [e9], by rw [e9]; exact hT⟩
                  · by_cases c_34_6 : x2 = 6
                    · refine ev_tableIn (tgt := 130) (off := 96) dX12_told_34 (by rw [c_34_6]; decide) (by rw [c_34_6]; decide) (by rw [c_34_6]; rfl) (by decide) ?_
                      refine ev_aload_n dX12_told_130 rfl rfl ?_
                      refine mo_geta hE hT dX12_told_131 fX12_28 (by decide) ?_
                      refine ev_iload_n dX12_told_134 rfl rfl ?_
                      refine mo_ialdE (v := (S.1 9 (x1).toNatClampNeg)) hE hT dX12_told_135 (by decide) (show vp_in _ 12 from hv) (by simp [sp_bad_ne, mo_up]) ?_
                      have e9 : sp_X12_told S x1 x2 = ((S.1 9 (x1).toNatClampNeg), (sp_bad (if (mo_b (sp_in x2 0 10)) = 0 then true else false) 2 (mo_up S 0 0 (mo_b (!sp_in x1 0 (S.1 1 0 - 1)))))) := by unfold sp_X12_told; rw [if_neg c_5, if_pos c_28, if_neg c_34_0, if_neg c_34_1, if_neg c_34_2, if_neg c_34_3, if_neg c_34_4, if_neg c_34_5, if_pos c_34_6]
                      exact ev_iret dX12_told_136 rfl rfl ⟨by rw [e9], by rw [e9]; exact hT⟩
                    · by_cases c_34_7 : x2 = 7
                      · refine ev_tableIn (tgt := 137) (off := 103) dX12_told_34 (by rw [c_34_7]; decide) (by rw [c_34_7]; decide) (by rw [c_34_7]; rfl) (by decide) ?_
                        refine ev_aload_n dX12_told_137 rfl rfl ?_
                        refine mo_geta hE hT dX12_told_138 fX12_31 (by decide) ?_
                        refine ev_iload_n dX12_told_141 rfl rfl ?_
                        refine mo_ialdE (v := (S.1 10 (x1).toNatClampNeg)) hE hT dX12_told_142 (by decide) (show vp_in _ 12 from hv) (by simp [sp_bad_ne, mo_up]) ?_
                        have e9 : sp_X12_told S x1 x2 = ((S.1 10 (x1).toNatClampNeg), (sp_bad (if (mo_b (sp_in x2 0 10)) = 0 then true else false) 2 (mo_up S 0 0 (mo_b (!sp_in x1 0 (S.1 1 0 - 1)))))) := by unfold sp_X12_told; rw [if_neg c_5, if_pos c_28, if_neg c_34_0, if_neg c_34_1, if_neg c_34_2, if_neg c_34_3, if_neg c_34_4, if_neg c_34_5, if_neg c_34_6, if_pos c_34_7]
                        exact ev_iret dX12_told_143 rfl rfl ⟨by rw [e9], by rw [e9]; exact hT⟩
                      · by_cases c_34_8 : x2 = 8
                        · refine ev_tableIn (tgt := 144) (off := 110) dX12_told_34 (by rw [c_34_8]; decide) (by rw [c_34_8]; decide) (by rw [c_34_8]; rfl) (by decide) ?_
                          refine ev_aload_n dX12_told_144 rfl rfl ?_
                          refine mo_geta hE hT dX12_told_145 fX12_34 (by decide) ?_
                          refine ev_iload_n dX12_told_148 rfl rfl ?_
                          refine mo_ialdE (v := (S.1 11 (x1).toNatClampNeg)) hE hT dX12_told_149 (by decide) (show vp_in _ 12 from hv) (by simp [sp_bad_ne, mo_up]) ?_
                          have e9 : sp_X12_told S x1 x2 = ((S.1 11 (x1).toNatClampNeg), (sp_bad (if (mo_b (sp_in x2 0 10)) = 0 then true else false) 2 (mo_up S 0 0 (mo_b (!sp_in x1 0 (S.1 1 0 - 1)))))) := by unfold sp_X12_told; rw [if_neg c_5, if_pos c_28, if_neg c_34_0, if_neg c_34_1, if_neg c_34_2, if_neg c_34_3, if_neg c_34_4, if_neg c_34_5, if_neg c_34_6, if_neg c_34_7, if_pos c_34_8]
                          exact ev_iret dX12_told_150 rfl rfl ⟨by rw [e9], by rw [e9]; exact hT⟩
                        · by_cases c_34_9 : x2 = 9
                          · refine ev_tableIn (tgt := 151) (off := 117) dX12_told_34 (by rw [c_34_9]; decide) (by rw [c_34_9]; decide) (by rw [c_34_9]; rfl) (by decide) ?_
                            refine ev_aload_n dX12_told_151 rfl rfl ?_
                            refine mo_geta hE hT dX12_told_152 fX12_37 (by decide) ?_
                            refine ev_iload_n dX12_told_155 rfl rfl ?_
                            refine mo_ialdE (v := (S.1 12 (x1).toNatClampNeg)) hE hT dX12_told_156 (by decide) (show vp_in _ 12 from hv) (by simp [sp_bad_ne, mo_up]) ?_
                            have e9 : sp_X12_told S x1 x2 = ((S.1 12 (x1).toNatClampNeg), (sp_bad (if (mo_b (sp_in x2 0 10)) = 0 then true else false) 2 (mo_up S 0 0 (mo_b (!sp_in x1 0 (S.1 1 0 - 1)))))) := by unfold sp_X12_told; rw [if_neg c_5, if_pos c_28, if_neg c_34_0, if_neg c_34_1, if_neg c_34_2, if_neg c_34_3, if_neg c_34_4, if_neg c_34_5, if_neg c_34_6, if_neg c_34_7, if_neg c_34_8, if_pos c_34_9]
                            exact ev_iret dX12_told_157 rfl rfl ⟨by rw [e9], by rw [e9]; exact hT⟩
                          · refine ev_tableOut (tgt := 158) dX12_told_34 (by have h0 : (x2).toInt ≠ 0 := fun q => c_34_0 (Int32.toInt_inj.mp (by rw [q]; rfl)); have h1 : (x2).toInt ≠ 1 := fun q => c_34_1 (Int32.toInt_inj.mp (by rw [q]; rfl)); have h2 : (x2).toInt ≠ 2 := fun q => c_34_2 (Int32.toInt_inj.mp (by rw [q]; rfl)); have h3 : (x2).toInt ≠ 3 := fun q => c_34_3 (Int32.toInt_inj.mp (by rw [q]; rfl)); have h4 : (x2).toInt ≠ 4 := fun q => c_34_4 (Int32.toInt_inj.mp (by rw [q]; rfl)); have h5 : (x2).toInt ≠ 5 := fun q => c_34_5 (Int32.toInt_inj.mp (by rw [q]; rfl)); have h6 : (x2).toInt ≠ 6 := fun q => c_34_6 (Int32.toInt_inj.mp (by rw [q]; rfl)); have h7 : (x2).toInt ≠ 7 := fun q => c_34_7 (Int32.toInt_inj.mp (by rw [q]; rfl)); have h8 : (x2).toInt ≠ 8 := fun q => c_34_8 (Int32.toInt_inj.mp (by rw [q]; rfl)); have h9 : (x2).toInt ≠ 9 := fun q => c_34_9 (Int32.toInt_inj.mp (by rw [q]; rfl)); omega) (by decide) ?_
                            refine ev_aload_n dX12_told_158 rfl rfl ?_
                            refine mo_geta hE hT dX12_told_159 fX12_40 (by decide) ?_
                            refine ev_iload_n dX12_told_162 rfl rfl ?_
                            refine mo_ialdE (v := (S.1 13 (x1).toNatClampNeg)) hE hT dX12_told_163 (by decide) (show vp_in _ 12 from hv) (by simp [sp_bad_ne, mo_up]) ?_
                            have e9 : sp_X12_told S x1 x2 = ((S.1 13 (x1).toNatClampNeg), (sp_bad (if (mo_b (sp_in x2 0 10)) = 0 then true else false) 2 (mo_up S 0 0 (mo_b (!sp_in x1 0 (S.1 1 0 - 1)))))) := by unfold sp_X12_told; rw [if_neg c_5, if_pos c_28, if_neg c_34_0, if_neg c_34_1, if_neg c_34_2, if_neg c_34_3, if_neg c_34_4, if_neg c_34_5, if_neg c_34_6, if_neg c_34_7, if_neg c_34_8, if_neg c_34_9]
                            exact ev_iret dX12_told_164 rfl rfl ⟨by rw [e9], by rw [e9]; exact hT⟩
      · refine ev_iconst (v := 0) dX12_told_31 (by decide) ?_
        have e9 : sp_X12_told S x1 x2 = (0, (sp_bad (if (mo_b (sp_in x2 0 10)) = 0 then true else false) 2 (mo_up S 0 0 (mo_b (!sp_in x1 0 (S.1 1 0 - 1)))))) := by unfold sp_X12_told; rw [if_neg c_5, if_neg c_28]
        exact ev_iret dX12_told_32 rfl rfl ⟨by rw [e9], by rw [e9]; exact hT⟩
    refine ev_if_ne (tgt := 23) dX12_told_16 (by decide) (fun c_16 => ?_) (fun c_16 => ?_)
    · refine ev_iconst (v := 0) dX12_told_23 (by decide) ?_
      exact K_24 g hT _ (by rw [if_neg c_16]; rfl)
    · refine ev_iconst (v := 1) dX12_told_19 (by decide) ?_
      refine ev_goto (tgt := 24) dX12_told_20 (by decide) ?_
      exact K_24 g hT _ (by rw [if_pos c_16]; rfl)
def sp_X12_paper (S : mo_S) (x1 x2 x3 x4 x5 : Int32) : Int32 × mo_S :=
  (if (mo_b (if (mo_b (sp_in x1 0 2)) = 0 then true else (if (mo_b (sp_in x2 0 100000)) = 0 then true else (if (mo_b (sp_in x3 0 1000)) = 0 then true else (if (mo_b (sp_in x4 2 64)) = 0 then true else (if (mo_b (sp_in x5 1 100)) = 0 then true else false)))))) = 0 then (if (mo_b (if (S.1 1 0) = 12 then true else false)) = 0 then ((((S.1 1 0) + 1) - 1), (mo_up (mo_up (mo_up (mo_up (mo_up (mo_up (mo_up (mo_up (mo_up (sp_bad (if (S.1 1 0) = 12 then true else false) 2 (sp_bad (if (mo_b (sp_in x1 0 2)) = 0 then true else (if (mo_b (sp_in x2 0 100000)) = 0 then true else (if (mo_b (sp_in x3 0 1000)) = 0 then true else (if (mo_b (sp_in x4 2 64)) = 0 then true else (if (mo_b (sp_in x5 1 100)) = 0 then true else false))))) 1 (mo_up S 0 0 0))) 3 ((S.1 1 0)).toNatClampNeg x1) 4 ((S.1 1 0)).toNatClampNeg x2) 5 ((S.1 1 0)).toNatClampNeg x3) 6 ((S.1 1 0)).toNatClampNeg x4) 7 ((S.1 1 0)).toNatClampNeg x5) 17 ((S.1 1 0)).toNatClampNeg (-1)) 19 ((S.1 1 0)).toNatClampNeg (-1)) 20 ((S.1 1 0)).toNatClampNeg (-1)) 1 0 ((S.1 1 0) + 1))) else (0, (sp_bad (if (S.1 1 0) = 12 then true else false) 2 (sp_bad (if (mo_b (sp_in x1 0 2)) = 0 then true else (if (mo_b (sp_in x2 0 100000)) = 0 then true else (if (mo_b (sp_in x3 0 1000)) = 0 then true else (if (mo_b (sp_in x4 2 64)) = 0 then true else (if (mo_b (sp_in x5 1 100)) = 0 then true else false))))) 1 (mo_up S 0 0 0))))) else (0, (sp_bad (if (mo_b (sp_in x1 0 2)) = 0 then true else (if (mo_b (sp_in x2 0 100000)) = 0 then true else (if (mo_b (sp_in x3 0 1000)) = 0 then true else (if (mo_b (sp_in x4 2 64)) = 0 then true else (if (mo_b (sp_in x5 1 100)) = 0 then true else false))))) 1 (mo_up S 0 0 0))))
theorem c_X12_paper {G : ev_G} {W : mo_W} {d : Nat} {S : mo_S} {x1 x2 x3 x4 x5 : Int32} (hE : ev_En G) (hd : 1 ≤ d) {P : Nat} (hP : S.1 1 0 = nI P) (hP2 : P ≤ 12) : mo_C G W d mX12_paper [.int x1, .int x2, .int x3, .int x4, .int x5] S (some (.int (sp_X12_paper S x1 x2 x3 x4 x5).1)) (sp_X12_paper S x1 x2 x3 x4 x5).2 := by
  refine mo_start (lv0 := [some (.ref W.1), some (.int x1), some (.int x2), some (.int x3), some (.int x4), some (.int x5), none]) (by decide +kernel) rfl (Nat.le_of_ble_eq_true rfl) rfl ?_
  intro g0 g hT
  refine ev_aload_n dX12_paper_0 rfl rfl ?_
  refine ev_iconst (v := 0) dX12_paper_1 (by decide) ?_
  refine mo_put hE hT dX12_paper_2 pX12_173 (by decide) (fun g hT => ?_)
  refine ev_iload_n dX12_paper_5 rfl rfl ?_
  refine ev_iconst (v := 0) dX12_paper_6 (by decide) ?_
  refine ev_iconst (v := 2) dX12_paper_7 (by decide) ?_
  refine ev_pS3 (d' := d - 1) dX12_paper_8 rfl kX12_in lX12_176 sX12_in (Nat.le_of_ble_eq_true rfl) (by omega) (c_X12_in) ?_
  have K_62 : ∀ (g : ev_H) (hT : mo_T G W g0 g (mo_up S 0 0 0)), ∀ x9 : Int32, x9 = (mo_b (if (mo_b (sp_in x1 0 2)) = 0 then true else (if (mo_b (sp_in x2 0 100000)) = 0 then true else (if (mo_b (sp_in x3 0 1000)) = 0 then true else (if (mo_b (sp_in x4 2 64)) = 0 then true else (if (mo_b (sp_in x5 1 100)) = 0 then true else false)))))) → ev_V G d 0 0 mX12_paper (fun o g' => o = .inl (some (.int (sp_X12_paper S x1 x2 x3 x4 x5).1)) ∧ mo_T G W g0 g' (sp_X12_paper S x1 x2 x3 x4 x5).2) g 62 [some (.ref W.1), some (.int x1), some (.int x2), some (.int x3), some (.int x4), some (.int x5), none] (.int x9 :: []) := by
    intro g hT x9 h9
    subst h9
    refine ev_istore dX12_paper_62 (Nat.le_of_ble_eq_true rfl) rfl ?_
    refine ev_aload_n dX12_paper_64 rfl rfl ?_
    refine ev_iload dX12_paper_65 rfl ?_
    refine ev_iconst (v := 1) dX12_paper_67 (by decide) ?_
    refine mo_call2 (d' := d - 1) hE hT dX12_paper_68 rfl rfl kX12_bad lX12_181 iX12_bad vX12_bad (Nat.le_of_ble_eq_true rfl) (by omega) (c_X12_bad hE) (fun g hT => ?_)
    refine ev_if_ne (tgt := 96) dX12_paper_71 (by decide) (fun c_71 => ?_) (fun c_71 => ?_)
    · refine ev_iconst (v := 0) dX12_paper_96 (by decide) ?_
      have e9 : sp_X12_paper S x1 x2 x3 x4 x5 = (0, (sp_bad (if (mo_b (sp_in x1 0 2)) = 0 then true else (if (mo_b (sp_in x2 0 100000)) = 0 then true else (if (mo_b (sp_in x3 0 1000)) = 0 then true else (if (mo_b (sp_in x4 2 64)) = 0 then true else (if (mo_b (sp_in x5 1 100)) = 0 then true else false))))) 1 (mo_up S 0 0 0))) := by unfold sp_X12_paper; rw [if_neg c_71]
      exact ev_iret dX12_paper_97 rfl rfl ⟨by rw [e9], by rw [e9]; exact hT⟩
    · refine ev_aload_n dX12_paper_74 rfl rfl ?_
      refine ev_aload_n dX12_paper_75 rfl rfl ?_
      refine mo_getiE (v := (S.1 1 0)) hE hT dX12_paper_76 fX12_185 (by decide) (by simp [sp_bad_ne, mo_up]) ?_
      refine ev_bipush (v := 12) dX12_paper_79 (by decide) ?_
      have K_89 : ∀ (g : ev_H) (hT : mo_T G W g0 g (sp_bad (if (mo_b (sp_in x1 0 2)) = 0 then true else (if (mo_b (sp_in x2 0 100000)) = 0 then true else (if (mo_b (sp_in x3 0 1000)) = 0 then true else (if (mo_b (sp_in x4 2 64)) = 0 then true else (if (mo_b (sp_in x5 1 100)) = 0 then true else false))))) 1 (mo_up S 0 0 0))), ∀ x9 : Int32, x9 = (mo_b (if (S.1 1 0) = 12 then true else false)) → ev_V G d 0 0 mX12_paper (fun o g' => o = .inl (some (.int (sp_X12_paper S x1 x2 x3 x4 x5).1)) ∧ mo_T G W g0 g' (sp_X12_paper S x1 x2 x3 x4 x5).2) g 89 [some (.ref W.1), some (.int x1), some (.int x2), some (.int x3), some (.int x4), some (.int x5), some (.int (mo_b (if (mo_b (sp_in x1 0 2)) = 0 then true else (if (mo_b (sp_in x2 0 100000)) = 0 then true else (if (mo_b (sp_in x3 0 1000)) = 0 then true else (if (mo_b (sp_in x4 2 64)) = 0 then true else (if (mo_b (sp_in x5 1 100)) = 0 then true else false)))))))] (.int x9 :: .ref W.1 :: []) := by
        intro g hT x9 h9
        subst h9
        refine ev_iconst (v := 2) dX12_paper_89 (by decide) ?_
        refine mo_call2 (d' := d - 1) hE hT dX12_paper_90 rfl rfl kX12_bad lX12_181 iX12_bad vX12_bad (Nat.le_of_ble_eq_true rfl) (by omega) (c_X12_bad hE) (fun g hT => ?_)
        refine ev_if_eq (tgt := 98) dX12_paper_93 (by decide) (fun c_93 => ?_) (fun c_93 => ?_)
        · have hv := (mo_full (N := 12) hP hP2 (by decide) (show ¬ _ = (12 : Int32) by simpa [sp_bad_ne, mo_up] using mo_b_0 c_93)).1
          refine ev_aload_n dX12_paper_98 rfl rfl ?_
          refine mo_geta hE hT dX12_paper_99 fX12_9 (by decide) ?_
          refine ev_aload_n dX12_paper_102 rfl rfl ?_
          refine mo_getiE (v := (S.1 1 0)) hE hT dX12_paper_103 fX12_185 (by decide) (by simp [sp_bad_ne, mo_up]) ?_
          refine ev_iload_n dX12_paper_106 rfl rfl ?_
          refine mo_iastV hE hT dX12_paper_107 (by decide) (show vp_in _ 12 from hv) (fun g hT => ?_)
          refine ev_aload_n dX12_paper_108 rfl rfl ?_
          refine mo_geta hE hT dX12_paper_109 fX12_13 (by decide) ?_
          refine ev_aload_n dX12_paper_112 rfl rfl ?_
          refine mo_getiE (v := (S.1 1 0)) hE hT dX12_paper_113 fX12_185 (by decide) (by simp [sp_bad_ne, mo_up]) ?_
          refine ev_iload_n dX12_paper_116 rfl rfl ?_
          refine mo_iastV hE hT dX12_paper_117 (by decide) (show vp_in _ 12 from hv) (fun g hT => ?_)
          refine ev_aload_n dX12_paper_118 rfl rfl ?_
          refine mo_geta hE hT dX12_paper_119 fX12_16 (by decide) ?_
          refine ev_aload_n dX12_paper_122 rfl rfl ?_
          refine mo_getiE (v := (S.1 1 0)) hE hT dX12_paper_123 fX12_185 (by decide) (by simp [sp_bad_ne, mo_up]) ?_
          refine ev_iload_n dX12_paper_126 rfl rfl ?_
          refine mo_iastV hE hT dX12_paper_127 (by decide) (show vp_in _ 12 from hv) (fun g hT => ?_)
          refine ev_aload_n dX12_paper_128 rfl rfl ?_
          refine mo_geta hE hT dX12_paper_129 fX12_19 (by decide) ?_
          refine ev_aload_n dX12_paper_132 rfl rfl ?_
          refine mo_getiE (v := (S.1 1 0)) hE hT dX12_paper_133 fX12_185 (by decide) (by simp [sp_bad_ne, mo_up]) ?_
          refine ev_iload dX12_paper_136 rfl ?_
          refine mo_iastV hE hT dX12_paper_138 (by decide) (show vp_in _ 12 from hv) (fun g hT => ?_)
          refine ev_aload_n dX12_paper_139 rfl rfl ?_
          refine mo_geta hE hT dX12_paper_140 fX12_22 (by decide) ?_
          refine ev_aload_n dX12_paper_143 rfl rfl ?_
          refine mo_getiE (v := (S.1 1 0)) hE hT dX12_paper_144 fX12_185 (by decide) (by simp [sp_bad_ne, mo_up]) ?_
          refine ev_iload dX12_paper_147 rfl ?_
          refine mo_iastV hE hT dX12_paper_149 (by decide) (show vp_in _ 12 from hv) (fun g hT => ?_)
          refine ev_aload_n dX12_paper_150 rfl rfl ?_
          refine mo_geta hE hT dX12_paper_151 fX12_52 (by decide) ?_
          refine ev_aload_n dX12_paper_154 rfl rfl ?_
          refine mo_getiE (v := (S.1 1 0)) hE hT dX12_paper_155 fX12_185 (by decide) (by simp [sp_bad_ne, mo_up]) ?_
          refine ev_iconst (v := (-1)) dX12_paper_158 (by decide) ?_
          refine mo_iastV hE hT dX12_paper_159 (by decide) (show vp_in _ 12 from hv) (fun g hT => ?_)
          refine ev_aload_n dX12_paper_160 rfl rfl ?_
          refine mo_geta hE hT dX12_paper_161 fX12_58 (by decide) ?_
          refine ev_aload_n dX12_paper_164 rfl rfl ?_
          refine mo_getiE (v := (S.1 1 0)) hE hT dX12_paper_165 fX12_185 (by decide) (by simp [sp_bad_ne, mo_up]) ?_
          refine ev_iconst (v := (-1)) dX12_paper_168 (by decide) ?_
          refine mo_iastV hE hT dX12_paper_169 (by decide) (show vp_in _ 12 from hv) (fun g hT => ?_)
          refine ev_aload_n dX12_paper_170 rfl rfl ?_
          refine mo_geta hE hT dX12_paper_171 fX12_61 (by decide) ?_
          refine ev_aload_n dX12_paper_174 rfl rfl ?_
          refine mo_getiE (v := (S.1 1 0)) hE hT dX12_paper_175 fX12_185 (by decide) (by simp [sp_bad_ne, mo_up]) ?_
          refine ev_iconst (v := (-1)) dX12_paper_178 (by decide) ?_
          refine mo_iastV hE hT dX12_paper_179 (by decide) (show vp_in _ 12 from hv) (fun g hT => ?_)
          refine ev_aload_n dX12_paper_180 rfl rfl ?_
          refine ev_dup dX12_paper_181 rfl ?_
          refine mo_getiE (v := (S.1 1 0)) hE hT dX12_paper_182 fX12_185 (by decide) (by simp [sp_bad_ne, mo_up]) ?_
          refine ev_iconst (v := 1) dX12_paper_185 (by decide) ?_
          refine ev_iadd dX12_paper_186 ?_
          refine mo_put hE hT dX12_paper_187 pX12_185 (by decide) (fun g hT => ?_)
          refine ev_aload_n dX12_paper_190 rfl rfl ?_
          refine mo_getiE (v := ((S.1 1 0) + 1)) hE hT dX12_paper_191 fX12_185 (by decide) (by simp [sp_bad_ne, mo_up]) ?_
          refine ev_iconst (v := 1) dX12_paper_194 (by decide) ?_
          refine ev_isub dX12_paper_195 ?_
          have e9 : sp_X12_paper S x1 x2 x3 x4 x5 = ((((S.1 1 0) + 1) - 1), (mo_up (mo_up (mo_up (mo_up (mo_up (mo_up (mo_up (mo_up (mo_up (sp_bad (if (S.1 1 0) = 12 then true else false) 2 (sp_bad (if (mo_b (sp_in x1 0 2)) = 0 then true else (if (mo_b (sp_in x2 0 100000)) = 0 then true else (if (mo_b (sp_in x3 0 1000)) = 0 then true else (if (mo_b (sp_in x4 2 64)) = 0 then true else (if (mo_b (sp_in x5 1 100)) = 0 then true else false))))) 1 (mo_up S 0 0 0))) 3 ((S.1 1 0)).toNatClampNeg x1) 4 ((S.1 1 0)).toNatClampNeg x2) 5 ((S.1 1 0)).toNatClampNeg x3) 6 ((S.1 1 0)).toNatClampNeg x4) 7 ((S.1 1 0)).toNatClampNeg x5) 17 ((S.1 1 0)).toNatClampNeg (-1)) 19 ((S.1 1 0)).toNatClampNeg (-1)) 20 ((S.1 1 0)).toNatClampNeg (-1)) 1 0 ((S.1 1 0) + 1))) := by unfold sp_X12_paper; rw [if_pos c_71, if_pos c_93]
          exact ev_iret dX12_paper_196 rfl rfl ⟨by rw [e9], by rw [e9]; exact hT⟩
        · refine ev_iconst (v := 0) dX12_paper_96 (by decide) ?_
          have e9 : sp_X12_paper S x1 x2 x3 x4 x5 = (0, (sp_bad (if (S.1 1 0) = 12 then true else false) 2 (sp_bad (if (mo_b (sp_in x1 0 2)) = 0 then true else (if (mo_b (sp_in x2 0 100000)) = 0 then true else (if (mo_b (sp_in x3 0 1000)) = 0 then true else (if (mo_b (sp_in x4 2 64)) = 0 then true else (if (mo_b (sp_in x5 1 100)) = 0 then true else false))))) 1 (mo_up S 0 0 0)))) := by unfold sp_X12_paper; rw [if_pos c_71, if_neg c_93]
          exact ev_iret dX12_paper_97 rfl rfl ⟨by rw [e9], by rw [e9]; exact hT⟩
      refine ev_icmp_ne (tgt := 88) dX12_paper_81 (by decide) (fun c_81 => ?_) (fun c_81 => ?_)
      · refine ev_iconst (v := 0) dX12_paper_88 (by decide) ?_
        exact K_89 g hT _ (by rw [if_neg c_81]; rfl)
      · refine ev_iconst (v := 1) dX12_paper_84 (by decide) ?_
        refine ev_goto (tgt := 89) dX12_paper_85 (by decide) ?_
        exact K_89 g hT _ (by rw [if_pos c_81]; rfl)
  refine ev_if_eq (tgt := 57) dX12_paper_11 (by decide) (fun c_11 => ?_) (fun c_11 => ?_)
  · refine ev_iconst (v := 1) dX12_paper_57 (by decide) ?_
    refine ev_goto (tgt := 62) dX12_paper_58 (by decide) ?_
    exact K_62 g hT _ (by rw [if_pos c_11]; rfl)
  · refine ev_iload_n dX12_paper_14 rfl rfl ?_
    refine ev_iconst (v := 0) dX12_paper_15 (by decide) ?_
    refine ev_ldc dX12_paper_16 nX12_180 ?_
    refine ev_pS3 (d' := d - 1) dX12_paper_18 rfl kX12_in lX12_176 sX12_in (Nat.le_of_ble_eq_true rfl) (by omega) (c_X12_in) ?_
    refine ev_if_eq (tgt := 57) dX12_paper_21 (by decide) (fun c_21 => ?_) (fun c_21 => ?_)
    · refine ev_iconst (v := 1) dX12_paper_57 (by decide) ?_
      refine ev_goto (tgt := 62) dX12_paper_58 (by decide) ?_
      exact K_62 g hT _ (by rw [if_neg c_11, if_pos c_21]; rfl)
    · refine ev_iload_n dX12_paper_24 rfl rfl ?_
      refine ev_iconst (v := 0) dX12_paper_25 (by decide) ?_
      refine ev_sipush (v := 1000) dX12_paper_26 (by decide) ?_
      refine ev_pS3 (d' := d - 1) dX12_paper_29 rfl kX12_in lX12_176 sX12_in (Nat.le_of_ble_eq_true rfl) (by omega) (c_X12_in) ?_
      refine ev_if_eq (tgt := 57) dX12_paper_32 (by decide) (fun c_32 => ?_) (fun c_32 => ?_)
      · refine ev_iconst (v := 1) dX12_paper_57 (by decide) ?_
        refine ev_goto (tgt := 62) dX12_paper_58 (by decide) ?_
        exact K_62 g hT _ (by rw [if_neg c_11, if_neg c_21, if_pos c_32]; rfl)
      · refine ev_iload dX12_paper_35 rfl ?_
        refine ev_iconst (v := 2) dX12_paper_37 (by decide) ?_
        refine ev_bipush (v := 64) dX12_paper_38 (by decide) ?_
        refine ev_pS3 (d' := d - 1) dX12_paper_40 rfl kX12_in lX12_176 sX12_in (Nat.le_of_ble_eq_true rfl) (by omega) (c_X12_in) ?_
        refine ev_if_eq (tgt := 57) dX12_paper_43 (by decide) (fun c_43 => ?_) (fun c_43 => ?_)
        · refine ev_iconst (v := 1) dX12_paper_57 (by decide) ?_
          refine ev_goto (tgt := 62) dX12_paper_58 (by decide) ?_
          exact K_62 g hT _ (by rw [if_neg c_11, if_neg c_21, if_neg c_32, if_pos c_43]; rfl)
        · refine ev_iload dX12_paper_46 rfl ?_
          refine ev_iconst (v := 1) dX12_paper_48 (by decide) ?_
          refine ev_bipush (v := 100) dX12_paper_49 (by decide) ?_
          refine ev_pS3 (d' := d - 1) dX12_paper_51 rfl kX12_in lX12_176 sX12_in (Nat.le_of_ble_eq_true rfl) (by omega) (c_X12_in) ?_
          refine ev_if_ne (tgt := 61) dX12_paper_54 (by decide) (fun c_54 => ?_) (fun c_54 => ?_)
          · refine ev_iconst (v := 0) dX12_paper_61 (by decide) ?_
            exact K_62 g hT _ (by rw [if_neg c_11, if_neg c_21, if_neg c_32, if_neg c_43, if_neg c_54]; rfl)
          · refine ev_iconst (v := 1) dX12_paper_57 (by decide) ?_
            refine ev_goto (tgt := 62) dX12_paper_58 (by decide) ?_
            exact K_62 g hT _ (by rw [if_neg c_11, if_neg c_21, if_neg c_32, if_neg c_43, if_pos c_54]; rfl)
end M2
