section M8
theorem sp_eqF_hO {T S : mo_S} (h : sp_eqF T S) (hO : S.1 29 0 = nI (sp_O S)) : T.1 29 0 = nI (sp_O T) := by rw [sp_eqF_O h, h.2.1]; exact hO
theorem sp_eqF_hO2 {T S : mo_S} (h : sp_eqF T S) (hO2 : sp_O S ≤ 10) : sp_O T ≤ 10 := by rw [sp_eqF_O h]; exact hO2
theorem sp_eqF_hC {T S : mo_S} (h : sp_eqF T S) (hC : ∀ b, b < sp_O S → ∃ C, C ≤ 12 ∧ S.1 37 b = nI C) : ∀ b, b < sp_O T → ∃ C, C ≤ 12 ∧ T.1 37 b = nI C := by rw [sp_eqF_O h, h.2.2.2.1]; exact hC
/-- the named values as paper x1's weight asks for them -/
def sp_envW (S : mo_S) (x1 : Int32) : mo_S :=
  (if x1 = ((sp_X12_means S x1).1 54 0) then (mo_up (mo_up (mo_up (sp_X12_means S x1) 43 0 (sp_least (((sp_X12_means S x1).1 4 (x1).toNatClampNeg) + ((sp_X12_means S x1).1 4 (((sp_X12_means S x1).1 53 0)).toNatClampNeg)) 100000)) 44 0 (sp_least (((sp_X12_means S x1).1 5 (x1).toNatClampNeg) + ((sp_X12_means S x1).1 5 (((sp_X12_means S x1).1 53 0)).toNatClampNeg)) 1000)) 47 0 (((sp_X12_means S x1).1 10 (x1).toNatClampNeg) + ((sp_X12_means S x1).1 10 (((sp_X12_means S x1).1 53 0)).toNatClampNeg))) else (sp_X12_means S x1))
def sp_weight (S : mo_S) (F : mo_Fn) (x1 x2 : Int32) : Int32 :=
  (if x2 ≤ 0 then sp_part (sp_envW S x1) F else (if x2 = 1 then (S.1 8 (x1).toNatClampNeg) else 1))
theorem c_X12_weightOf {G : ev_G} {W : mo_W} {d : Nat} {S : mo_S} {F : mo_Fn} {x1 x2 : Int32} (hE : ev_En G) (hd : 4 ≤ d) (hO : S.1 29 0 = nI (sp_O S)) (hO2 : sp_O S ≤ 10) (hC : ∀ b, b < sp_O S → ∃ C, C ≤ 12 ∧ S.1 37 b = nI C) (hF : mo_FF S F) (hv : vp_in x1 12) (hw : x1 = S.1 54 0 → vp_in (S.1 53 0) 12) : mo_Cr G W d mX12_weightOf [.int x1, .int x2] S (fun r S2 => r = some (.int (sp_weight S F x1 x2)) ∧ sp_eqN S2 S) := by
  refine mo_startr (lv0 := [some (.ref W.1), some (.int x1), some (.int x2)]) (by decide +kernel) rfl (Nat.le_of_ble_eq_true rfl) rfl ?_
  intro g0 g hT
  refine ev_iload_n dX12_weightOf_0 rfl rfl ?_
  refine ev_if_le (tgt := 20) dX12_weightOf_1 (by decide) (fun c_1 => ?_) (fun c_1 => ?_)
  · refine ev_aload_n dX12_weightOf_20 rfl rfl ?_
    refine ev_iload_n dX12_weightOf_21 rfl rfl ?_
    refine mo_call1 (d' := d - 1) hE hT dX12_weightOf_22 rfl rfl kX12_means lX12_406 iX12_means vX12_means (Nat.le_of_ble_eq_true rfl) (by omega) (c_X12_means hE hv) (fun g hT => ?_)
    refine ev_iload_n dX12_weightOf_25 rfl rfl ?_
    refine ev_aload_n dX12_weightOf_26 rfl rfl ?_
    refine mo_geti hE hT dX12_weightOf_27 fX12_118 (by decide) ?_
    refine ev_icmp_ne (tgt := 104) dX12_weightOf_30 (by decide) (fun c_30 => ?_) (fun c_30 => ?_)
    · have e9 : sp_envW S x1 = (sp_X12_means S x1) := by unfold sp_envW; rw [if_neg c_30]
      rw [← e9] at hT
      have hN : sp_eqN (sp_envW S x1) S := by
        rw [e9]
        repeat (first | exact sp_eqN_means S x1 | refine sp_eqN_u (by decide) ?_)
      have hq := sp_eqN_F hN
      refine ev_aload_n dX12_weightOf_104 rfl rfl ?_
      refine mo_callr0 (d' := d - 1) hE hT dX12_weightOf_105 rfl rfl kX12_partNow lX12_409 iX12_partNow vX12_partNow (Nat.le_of_ble_eq_true rfl) (by omega) (c_X12_partNow hE (by omega) (sp_eqF_hO hq hO) (sp_eqF_hO2 hq hO2) (sp_eqF_hC hq hC) (hF.cong hq)) (fun r S2 g h8 hT => ?_)
      obtain ⟨rfl, h8⟩ := h8
      exact ev_iret dX12_weightOf_108 rfl rfl ⟨_, S2, rfl, ⟨by unfold sp_weight; rw [if_pos c_1], sp_eqN_P h8 hN⟩, hT⟩
    · have hw9 := hw (by simpa [sp_X12_means, mo_up] using c_30)
      refine ev_aload_n dX12_weightOf_33 rfl rfl ?_
      refine ev_aload_n dX12_weightOf_34 rfl rfl ?_
      refine mo_geta hE hT dX12_weightOf_35 fX12_13 (by decide) ?_
      refine ev_iload_n dX12_weightOf_38 rfl rfl ?_
      refine mo_ialdV hE hT dX12_weightOf_39 (by decide) (show vp_in _ 12 from (by first | exact hv | exact (by simpa [sp_X12_means, mo_up] using hw9))) ?_
      refine ev_aload_n dX12_weightOf_40 rfl rfl ?_
      refine mo_geta hE hT dX12_weightOf_41 fX12_13 (by decide) ?_
      refine ev_aload_n dX12_weightOf_44 rfl rfl ?_
      refine mo_geti hE hT dX12_weightOf_45 fX12_115 (by decide) ?_
      refine mo_ialdV hE hT dX12_weightOf_48 (by decide) (show vp_in _ 12 from (by first | exact hv | exact (by simpa [sp_X12_means, mo_up] using hw9))) ?_
      refine ev_iadd dX12_weightOf_49 ?_
      refine ev_ldc dX12_weightOf_50 nX12_180 ?_
      refine ev_pS2 (d' := d - 1) dX12_weightOf_52 rfl kX12_least lX12_421 sX12_least (Nat.le_of_ble_eq_true rfl) (by omega) (c_X12_least) ?_
      refine mo_put hE hT dX12_weightOf_55 pX12_374 (by decide) (fun g hT => ?_)
      refine ev_aload_n dX12_weightOf_58 rfl rfl ?_
      refine ev_aload_n dX12_weightOf_59 rfl rfl ?_
      refine mo_geta hE hT dX12_weightOf_60 fX12_16 (by decide) ?_
      refine ev_iload_n dX12_weightOf_63 rfl rfl ?_
      refine mo_ialdE (v := ((sp_X12_means S x1).1 5 (x1).toNatClampNeg)) hE hT dX12_weightOf_64 (by decide) (show vp_in _ 12 from (by first | exact hv | exact (by simpa [sp_X12_means, mo_up] using hw9))) (by simp [sp_bad_ne, mo_up]) ?_
      refine ev_aload_n dX12_weightOf_65 rfl rfl ?_
      refine mo_geta hE hT dX12_weightOf_66 fX12_16 (by decide) ?_
      refine ev_aload_n dX12_weightOf_69 rfl rfl ?_
      refine mo_getiE (v := ((sp_X12_means S x1).1 53 0)) hE hT dX12_weightOf_70 fX12_115 (by decide) (by simp [sp_bad_ne, mo_up]) ?_
      refine mo_ialdE (v := ((sp_X12_means S x1).1 5 (((sp_X12_means S x1).1 53 0)).toNatClampNeg)) hE hT dX12_weightOf_73 (by decide) (show vp_in _ 12 from (by first | exact hv | exact (by simpa [sp_X12_means, mo_up] using hw9))) (by simp [sp_bad_ne, mo_up]) ?_
      refine ev_iadd dX12_weightOf_74 ?_
      refine ev_sipush (v := 1000) dX12_weightOf_75 (by decide) ?_
      refine ev_pS2 (d' := d - 1) dX12_weightOf_78 rfl kX12_least lX12_421 sX12_least (Nat.le_of_ble_eq_true rfl) (by omega) (c_X12_least) ?_
      refine mo_put hE hT dX12_weightOf_81 pX12_377 (by decide) (fun g hT => ?_)
      refine ev_aload_n dX12_weightOf_84 rfl rfl ?_
      refine ev_aload_n dX12_weightOf_85 rfl rfl ?_
      refine mo_geta hE hT dX12_weightOf_86 fX12_31 (by decide) ?_
      refine ev_iload_n dX12_weightOf_89 rfl rfl ?_
      refine mo_ialdE (v := ((sp_X12_means S x1).1 10 (x1).toNatClampNeg)) hE hT dX12_weightOf_90 (by decide) (show vp_in _ 12 from (by first | exact hv | exact (by simpa [sp_X12_means, mo_up] using hw9))) (by simp [sp_bad_ne, mo_up]) ?_
      refine ev_aload_n dX12_weightOf_91 rfl rfl ?_
      refine mo_geta hE hT dX12_weightOf_92 fX12_31 (by decide) ?_
      refine ev_aload_n dX12_weightOf_95 rfl rfl ?_
      refine mo_getiE (v := ((sp_X12_means S x1).1 53 0)) hE hT dX12_weightOf_96 fX12_115 (by decide) (by simp [sp_bad_ne, mo_up]) ?_
      refine mo_ialdE (v := ((sp_X12_means S x1).1 10 (((sp_X12_means S x1).1 53 0)).toNatClampNeg)) hE hT dX12_weightOf_99 (by decide) (show vp_in _ 12 from (by first | exact hv | exact (by simpa [sp_X12_means, mo_up] using hw9))) (by simp [sp_bad_ne, mo_up]) ?_
      refine ev_iadd dX12_weightOf_100 ?_
      refine mo_put hE hT dX12_weightOf_101 pX12_386 (by decide) (fun g hT => ?_)
      have e9 : sp_envW S x1 = (mo_up (mo_up (mo_up (sp_X12_means S x1) 43 0 (sp_least (((sp_X12_means S x1).1 4 (x1).toNatClampNeg) + ((sp_X12_means S x1).1 4 (((sp_X12_means S x1).1 53 0)).toNatClampNeg)) 100000)) 44 0 (sp_least (((sp_X12_means S x1).1 5 (x1).toNatClampNeg) + ((sp_X12_means S x1).1 5 (((sp_X12_means S x1).1 53 0)).toNatClampNeg)) 1000)) 47 0 (((sp_X12_means S x1).1 10 (x1).toNatClampNeg) + ((sp_X12_means S x1).1 10 (((sp_X12_means S x1).1 53 0)).toNatClampNeg))) := by unfold sp_envW; rw [if_pos c_30]
      rw [← e9] at hT
      have hN : sp_eqN (sp_envW S x1) S := by
        rw [e9]
        repeat (first | exact sp_eqN_means S x1 | refine sp_eqN_u (by decide) ?_)
      have hq := sp_eqN_F hN
      refine ev_aload_n dX12_weightOf_104 rfl rfl ?_
      refine mo_callr0 (d' := d - 1) hE hT dX12_weightOf_105 rfl rfl kX12_partNow lX12_409 iX12_partNow vX12_partNow (Nat.le_of_ble_eq_true rfl) (by omega) (c_X12_partNow hE (by omega) (sp_eqF_hO hq hO) (sp_eqF_hO2 hq hO2) (sp_eqF_hC hq hC) (hF.cong hq)) (fun r S2 g h8 hT => ?_)
      obtain ⟨rfl, h8⟩ := h8
      exact ev_iret dX12_weightOf_108 rfl rfl ⟨_, S2, rfl, ⟨by unfold sp_weight; rw [if_pos c_1], sp_eqN_P h8 hN⟩, hT⟩
  · refine ev_iload_n dX12_weightOf_4 rfl rfl ?_
    refine ev_iconst (v := 1) dX12_weightOf_5 (by decide) ?_
    have K_19 : ∀ (g : ev_H) (hT : mo_T G W g0 g S), ∀ x9 : Int32, x9 = (if x2 = 1 then (S.1 8 (x1).toNatClampNeg) else 1) → ev_V G d 0 0 mX12_weightOf (fun o g' => ∃ r S2, o = .inl r ∧ (r = some (.int (sp_weight S F x1 x2)) ∧ sp_eqN S2 S) ∧ mo_T G W g0 g' S2) g 19 [some (.ref W.1), some (.int x1), some (.int x2)] (.int x9 :: []) := by
      intro g hT x9 h9
      subst h9
      refine ev_iret dX12_weightOf_19 rfl rfl ⟨_, S, rfl, ⟨?_, sp_eqN_r S⟩, hT⟩
      unfold sp_weight
      rw [if_neg c_1]
    refine ev_icmp_ne (tgt := 18) dX12_weightOf_6 (by decide) (fun c_6 => ?_) (fun c_6 => ?_)
    · refine ev_iconst (v := 1) dX12_weightOf_18 (by decide) ?_
      exact K_19 g hT _ (by rw [if_neg c_6])
    · refine ev_aload_n dX12_weightOf_9 rfl rfl ?_
      refine mo_geta hE hT dX12_weightOf_10 fX12_25 (by decide) ?_
      refine ev_iload_n dX12_weightOf_13 rfl rfl ?_
      refine mo_ialdV hE hT dX12_weightOf_14 (by decide) (show vp_in _ 12 from (by first | exact hv | exact (by simpa [sp_X12_means, mo_up] using hw9))) ?_
      refine ev_goto (tgt := 19) dX12_weightOf_15 (by decide) ?_
      exact K_19 g hT _ (by rw [if_pos c_6])
end M8
