section M7
theorem sp_isTwo_is (S : mo_S) (x1 x2 : Int32) : sp_X12_isTwo S x1 x2 = (mo_b (sp_in x1 0 (S.1 1 0 - 1) && sp_in x2 0 (S.1 1 0 - 1)), mo_up S 0 0 (mo_b (!(sp_in x1 0 (S.1 1 0 - 1) && sp_in x2 0 (S.1 1 0 - 1))))) := by
  unfold sp_X12_isTwo
  generalize sp_in x1 0 (S.1 1 0 - 1) = a
  generalize sp_in x2 0 (S.1 1 0 - 1) = b
  cases a <;> cases b <;> simp [mo_b]
theorem mo_and2 {a b : Bool} (h : ¬ mo_b (a && b) = 0) : a = true ∧ b = true := by
  cases a <;> cases b <;> simp [mo_b] at h ⊢
theorem c_X12_isTwoB {G : ev_G} {W : mo_W} {d : Nat} {S : mo_S} {x1 x2 : Int32} (hE : ev_En G) (hd : 1 ≤ d) : mo_C G W d mX12_isTwo [.int x1, .int x2] S (some (.int (mo_b (sp_in x1 0 (S.1 1 0 - 1) && sp_in x2 0 (S.1 1 0 - 1))))) (mo_up S 0 0 (mo_b (!(sp_in x1 0 (S.1 1 0 - 1) && sp_in x2 0 (S.1 1 0 - 1))))) := by
  have h := c_X12_isTwo (G := G) (W := W) (d := d) (S := S) (x1 := x1) (x2 := x2) hE hd
  rw [sp_isTwo_is] at h
  exact h
def sp_X12_netted (S : mo_S) (x1 x2 : Int32) : Int32 × mo_S :=
  ((if (mo_b (sp_in x1 0 (S.1 1 0 - 1) && sp_in x2 0 (S.1 1 0 - 1))) = 0 then 0 else ((S.1 58 (((12 * x1) + x2)).toNatClampNeg) - (S.1 58 (((12 * x2) + x1)).toNatClampNeg))), (mo_up S 0 0 (mo_b (!(sp_in x1 0 (S.1 1 0 - 1) && sp_in x2 0 (S.1 1 0 - 1))))))
theorem c_X12_netted {G : ev_G} {W : mo_W} {d : Nat} {S : mo_S} {x1 x2 : Int32} (hE : ev_En G) (hd : 2 ≤ d) (hP : S.1 1 0 = nI (sp_P S)) (hP2 : sp_P S ≤ 12) : mo_C G W d mX12_netted [.int x1, .int x2] S (some (.int (sp_X12_netted S x1 x2).1)) (sp_X12_netted S x1 x2).2 := by
  refine mo_start (lv0 := [some (.ref W.1), some (.int x1), some (.int x2)]) (by decide +kernel) rfl (Nat.le_of_ble_eq_true rfl) rfl ?_
  intro g0 g hT
  refine ev_aload_n dX12_netted_0 rfl rfl ?_
  refine ev_iload_n dX12_netted_1 rfl rfl ?_
  refine ev_iload_n dX12_netted_2 rfl rfl ?_
  refine mo_call2 (d' := d - 1) hE hT dX12_netted_3 rfl rfl kX12_isTwo lX12_464 iX12_isTwo vX12_isTwo (Nat.le_of_ble_eq_true rfl) (by omega) (c_X12_isTwoB hE (by omega)) (fun g hT => ?_)
  have K_36 : ∀ (g : ev_H) (hT : mo_T G W g0 g (mo_up S 0 0 (mo_b (!(sp_in x1 0 (S.1 1 0 - 1) && sp_in x2 0 (S.1 1 0 - 1)))))), ∀ x9 : Int32, x9 = (if (mo_b (sp_in x1 0 (S.1 1 0 - 1) && sp_in x2 0 (S.1 1 0 - 1))) = 0 then 0 else ((S.1 58 (((12 * x1) + x2)).toNatClampNeg) - (S.1 58 (((12 * x2) + x1)).toNatClampNeg))) → ev_V G d 0 0 mX12_netted (fun o g' => o = .inl (some (.int (sp_X12_netted S x1 x2).1)) ∧ mo_T G W g0 g' (sp_X12_netted S x1 x2).2) g 36 [some (.ref W.1), some (.int x1), some (.int x2)] (.int x9 :: []) := by
    intro g hT x9 h9
    subst h9
    have e9 : sp_X12_netted S x1 x2 = ((if (mo_b (sp_in x1 0 (S.1 1 0 - 1) && sp_in x2 0 (S.1 1 0 - 1))) = 0 then 0 else ((S.1 58 (((12 * x1) + x2)).toNatClampNeg) - (S.1 58 (((12 * x2) + x1)).toNatClampNeg))), (mo_up S 0 0 (mo_b (!(sp_in x1 0 (S.1 1 0 - 1) && sp_in x2 0 (S.1 1 0 - 1)))))) := by unfold sp_X12_netted; rfl
    exact ev_iret dX12_netted_36 rfl rfl ⟨by rw [e9], by rw [e9]; exact hT⟩
  refine ev_if_eq (tgt := 35) dX12_netted_6 (by decide) (fun c_6 => ?_) (fun c_6 => ?_)
  · refine ev_iconst (v := 0) dX12_netted_35 (by decide) ?_
    exact K_36 g hT _ (by rw [if_pos c_6])
  · obtain ⟨q1, q2⟩ := mo_and2 c_6
    obtain ⟨a, w1, e1⟩ := mo_vinE (N := 12) hP hP2 (by decide) q1
    obtain ⟨b, w2, e2⟩ := mo_vinE (N := 12) hP hP2 (by decide) q2
    have hv : vp_in x1 12 := by rw [e1]; exact vp_in_nI (by omega) (by decide)
    have hv2 : vp_in x2 12 := by rw [e2]; exact vp_in_nI (by omega) (by decide)
    have hv3 := (mo_ix (N := 144) e1 e2 (by omega) (by decide)).1
    have hv4 := (mo_ix (N := 144) e2 e1 (by omega) (by decide)).1
    refine ev_aload_n dX12_netted_9 rfl rfl ?_
    refine mo_geta hE hT dX12_netted_10 fX12_131 (by decide) ?_
    refine ev_bipush (v := 12) dX12_netted_13 (by decide) ?_
    refine ev_iload_n dX12_netted_15 rfl rfl ?_
    refine ev_imul dX12_netted_16 ?_
    refine ev_iload_n dX12_netted_17 rfl rfl ?_
    refine ev_iadd dX12_netted_18 ?_
    refine mo_ialdE (v := (S.1 58 (((12 * x1) + x2)).toNatClampNeg)) hE hT dX12_netted_19 (by decide) (show vp_in _ 144 from (by first | exact hv3 | exact hv4)) (by simp [sp_bad_ne, mo_up]) ?_
    refine ev_aload_n dX12_netted_20 rfl rfl ?_
    refine mo_geta hE hT dX12_netted_21 fX12_131 (by decide) ?_
    refine ev_bipush (v := 12) dX12_netted_24 (by decide) ?_
    refine ev_iload_n dX12_netted_26 rfl rfl ?_
    refine ev_imul dX12_netted_27 ?_
    refine ev_iload_n dX12_netted_28 rfl rfl ?_
    refine ev_iadd dX12_netted_29 ?_
    refine mo_ialdE (v := (S.1 58 (((12 * x2) + x1)).toNatClampNeg)) hE hT dX12_netted_30 (by decide) (show vp_in _ 144 from (by first | exact hv3 | exact hv4)) (by simp [sp_bad_ne, mo_up]) ?_
    refine ev_isub dX12_netted_31 ?_
    refine ev_goto (tgt := 36) dX12_netted_32 (by decide) ?_
    exact K_36 g hT _ (by rw [if_neg c_6])
def sp_X12_swap (S : mo_S) (x1 x2 x3 : Int32) : Int32 × mo_S :=
  (if (mo_b (sp_in x1 0 (S.1 1 0 - 1) && sp_in x2 0 (S.1 1 0 - 1))) = 0 then (0, (mo_up S 0 0 (mo_b (!(sp_in x1 0 (S.1 1 0 - 1) && sp_in x2 0 (S.1 1 0 - 1)))))) else (if (mo_b (if (mo_b (sp_in x3 1 100000)) = 0 then true else false)) = 0 then (if (mo_b (sp_X12_areTwo (sp_bad (if (mo_b (sp_in x3 1 100000)) = 0 then true else false) 2 (mo_up S 0 0 (mo_b (!(sp_in x1 0 (S.1 1 0 - 1) && sp_in x2 0 (S.1 1 0 - 1)))))) x1 x2)) = 0 then ((-1), (sp_bad (if (mo_b (sp_in x3 1 100000)) = 0 then true else false) 2 (mo_up S 0 0 (mo_b (!(sp_in x1 0 (S.1 1 0 - 1) && sp_in x2 0 (S.1 1 0 - 1))))))) else (if x3 ≤ (S.1 10 (x1).toNatClampNeg) then (if (sp_X12_much (sp_bad (if (mo_b (sp_in x3 1 100000)) = 0 then true else false) 2 (mo_up S 0 0 (mo_b (!(sp_in x1 0 (S.1 1 0 - 1) && sp_in x2 0 (S.1 1 0 - 1)))))) 7) = 0 then ((-3), (sp_bad (if (mo_b (sp_in x3 1 100000)) = 0 then true else false) 2 (mo_up S 0 0 (mo_b (!(sp_in x1 0 (S.1 1 0 - 1) && sp_in x2 0 (S.1 1 0 - 1))))))) else (((x3 * (sp_X12_much (sp_bad (if (mo_b (sp_in x3 1 100000)) = 0 then true else false) 2 (mo_up S 0 0 (mo_b (!(sp_in x1 0 (S.1 1 0 - 1) && sp_in x2 0 (S.1 1 0 - 1)))))) 7)) / 100), (mo_up (mo_up (mo_up (sp_bad (if (mo_b (sp_in x3 1 100000)) = 0 then true else false) 2 (mo_up S 0 0 (mo_b (!(sp_in x1 0 (S.1 1 0 - 1) && sp_in x2 0 (S.1 1 0 - 1)))))) 10 (x1).toNatClampNeg ((S.1 10 (x1).toNatClampNeg) - x3)) 10 (x2).toNatClampNeg (((mo_up (sp_bad (if (mo_b (sp_in x3 1 100000)) = 0 then true else false) 2 (mo_up S 0 0 (mo_b (!(sp_in x1 0 (S.1 1 0 - 1) && sp_in x2 0 (S.1 1 0 - 1)))))) 10 (x1).toNatClampNeg ((S.1 10 (x1).toNatClampNeg) - x3)).1 10 (x2).toNatClampNeg) + ((x3 * (sp_X12_much (sp_bad (if (mo_b (sp_in x3 1 100000)) = 0 then true else false) 2 (mo_up S 0 0 (mo_b (!(sp_in x1 0 (S.1 1 0 - 1) && sp_in x2 0 (S.1 1 0 - 1)))))) 7)) / 100))) 58 (((12 * x2) + x1)).toNatClampNeg ((S.1 58 (((12 * x2) + x1)).toNatClampNeg) + ((x3 * (sp_X12_much (sp_bad (if (mo_b (sp_in x3 1 100000)) = 0 then true else false) 2 (mo_up S 0 0 (mo_b (!(sp_in x1 0 (S.1 1 0 - 1) && sp_in x2 0 (S.1 1 0 - 1)))))) 7)) / 100))))) else ((-2), (sp_bad (if (mo_b (sp_in x3 1 100000)) = 0 then true else false) 2 (mo_up S 0 0 (mo_b (!(sp_in x1 0 (S.1 1 0 - 1) && sp_in x2 0 (S.1 1 0 - 1))))))))) else (0, (sp_bad (if (mo_b (sp_in x3 1 100000)) = 0 then true else false) 2 (mo_up S 0 0 (mo_b (!(sp_in x1 0 (S.1 1 0 - 1) && sp_in x2 0 (S.1 1 0 - 1)))))))))
theorem c_X12_swap {G : ev_G} {W : mo_W} {d : Nat} {S : mo_S} {x1 x2 x3 : Int32} (hE : ev_En G) (hd : 3 ≤ d) (hP : S.1 1 0 = nI (sp_P S)) (hP2 : sp_P S ≤ 12) (hO : S.1 29 0 = nI (sp_O S)) (hO2 : sp_O S ≤ 10) (hC : ∀ b, b < sp_O S → ∃ C, C ≤ 12 ∧ S.1 37 b = nI C) : mo_C G W d mX12_swap [.int x1, .int x2, .int x3] S (some (.int (sp_X12_swap S x1 x2 x3).1)) (sp_X12_swap S x1 x2 x3).2 := by
  refine mo_start (lv0 := [some (.ref W.1), some (.int x1), some (.int x2), some (.int x3), none]) (by decide +kernel) rfl (Nat.le_of_ble_eq_true rfl) rfl ?_
  intro g0 g hT
  refine ev_aload_n dX12_swap_0 rfl rfl ?_
  refine ev_iload_n dX12_swap_1 rfl rfl ?_
  refine ev_iload_n dX12_swap_2 rfl rfl ?_
  refine mo_call2 (d' := d - 1) hE hT dX12_swap_3 rfl rfl kX12_isTwo lX12_464 iX12_isTwo vX12_isTwo (Nat.le_of_ble_eq_true rfl) (by omega) (c_X12_isTwoB hE (by omega)) (fun g hT => ?_)
  refine ev_if_eq (tgt := 32) dX12_swap_6 (by decide) (fun c_6 => ?_) (fun c_6 => ?_)
  · refine ev_iconst (v := 0) dX12_swap_32 (by decide) ?_
    have e9 : sp_X12_swap S x1 x2 x3 = (0, (mo_up S 0 0 (mo_b (!(sp_in x1 0 (S.1 1 0 - 1) && sp_in x2 0 (S.1 1 0 - 1)))))) := by unfold sp_X12_swap; rw [if_pos c_6]
    exact ev_iret dX12_swap_33 rfl rfl ⟨by rw [e9], by rw [e9]; exact hT⟩
  · refine ev_aload_n dX12_swap_9 rfl rfl ?_
    refine ev_iload_n dX12_swap_10 rfl rfl ?_
    refine ev_iconst (v := 1) dX12_swap_11 (by decide) ?_
    refine ev_ldc dX12_swap_12 nX12_180 ?_
    refine ev_pS3 (d' := d - 1) dX12_swap_14 rfl kX12_in lX12_176 sX12_in (Nat.le_of_ble_eq_true rfl) (by omega) (c_X12_in) ?_
    have K_25 : ∀ (g : ev_H) (hT : mo_T G W g0 g (mo_up S 0 0 (mo_b (!(sp_in x1 0 (S.1 1 0 - 1) && sp_in x2 0 (S.1 1 0 - 1)))))), ∀ x9 : Int32, x9 = (mo_b (if (mo_b (sp_in x3 1 100000)) = 0 then true else false)) → ev_V G d 0 0 mX12_swap (fun o g' => o = .inl (some (.int (sp_X12_swap S x1 x2 x3).1)) ∧ mo_T G W g0 g' (sp_X12_swap S x1 x2 x3).2) g 25 [some (.ref W.1), some (.int x1), some (.int x2), some (.int x3), none] (.int x9 :: .ref W.1 :: []) := by
      intro g hT x9 h9
      subst h9
      refine ev_iconst (v := 2) dX12_swap_25 (by decide) ?_
      refine mo_call2 (d' := d - 1) hE hT dX12_swap_26 rfl rfl kX12_bad lX12_181 iX12_bad vX12_bad (Nat.le_of_ble_eq_true rfl) (by omega) (c_X12_bad hE) (fun g hT => ?_)
      refine ev_if_eq (tgt := 34) dX12_swap_29 (by decide) (fun c_29 => ?_) (fun c_29 => ?_)
      · obtain ⟨q1, q2⟩ := mo_and2 c_6
        obtain ⟨a, w1, e1⟩ := mo_vinE (N := 12) hP hP2 (by decide) q1
        obtain ⟨b, w2, e2⟩ := mo_vinE (N := 12) hP hP2 (by decide) q2
        have hv : vp_in x1 12 := by rw [e1]; exact vp_in_nI (by omega) (by decide)
        have hv2 : vp_in x2 12 := by rw [e2]; exact vp_in_nI (by omega) (by decide)
        have hv3 := (mo_ix (N := 144) e1 e2 (by omega) (by decide)).1
        have hv4 := (mo_ix (N := 144) e2 e1 (by omega) (by decide)).1
        refine ev_aload_n dX12_swap_34 rfl rfl ?_
        refine ev_iload_n dX12_swap_35 rfl rfl ?_
        refine ev_iload_n dX12_swap_36 rfl rfl ?_
        refine mo_call2 (d' := d - 1) hE hT dX12_swap_37 rfl rfl kX12_areTwo lX12_467 iX12_areTwo vX12_areTwo (Nat.le_of_ble_eq_true rfl) (by omega) (c_X12_areTwo hE hv hv2) (fun g hT => ?_)
        refine ev_if_ne (tgt := 45) dX12_swap_40 (by decide) (fun c_40 => ?_) (fun c_40 => ?_)
        · refine ev_aload_n dX12_swap_45 rfl rfl ?_
          refine mo_geta hE hT dX12_swap_46 fX12_31 (by decide) ?_
          refine ev_iload_n dX12_swap_49 rfl rfl ?_
          refine mo_ialdE (v := (S.1 10 (x1).toNatClampNeg)) hE hT dX12_swap_50 (by decide) (show vp_in _ 12 from (by first | exact hv | exact hv2 | exact hv4)) (by simp [sp_bad_ne, mo_up]) ?_
          refine ev_iload_n dX12_swap_51 rfl rfl ?_
          refine ev_icmp_ge (tgt := 58) dX12_swap_52 (by decide) (fun c_52 => ?_) (fun c_52 => ?_)
          · refine ev_aload_n dX12_swap_58 rfl rfl ?_
            refine ev_bipush (v := 7) dX12_swap_59 (by decide) ?_
            refine mo_call1 (d' := d - 1) hE hT dX12_swap_61 rfl rfl kX12_much lX12_412 iX12_much vX12_much (Nat.le_of_ble_eq_true rfl) (by omega) (c_X12_much hE (by omega) (by simpa [sp_bad_ne, mo_up, sp_O] using hO) (by simpa [sp_bad_ne, mo_up, sp_O] using hO2) (by simpa [sp_bad_ne, mo_up, sp_O] using hC)) (fun g hT => ?_)
            refine ev_if_ne (tgt := 70) dX12_swap_64 (by decide) (fun c_64 => ?_) (fun c_64 => ?_)
            · refine ev_iload_n dX12_swap_70 rfl rfl ?_
              refine ev_aload_n dX12_swap_71 rfl rfl ?_
              refine ev_bipush (v := 7) dX12_swap_72 (by decide) ?_
              refine mo_call1 (d' := d - 1) hE hT dX12_swap_74 rfl rfl kX12_much lX12_412 iX12_much vX12_much (Nat.le_of_ble_eq_true rfl) (by omega) (c_X12_much hE (by omega) (by simpa [sp_bad_ne, mo_up, sp_O] using hO) (by simpa [sp_bad_ne, mo_up, sp_O] using hO2) (by simpa [sp_bad_ne, mo_up, sp_O] using hC)) (fun g hT => ?_)
              refine ev_imul dX12_swap_77 ?_
              refine ev_bipush (v := 100) dX12_swap_78 (by decide) ?_
              refine ev_idiv dX12_swap_80 (by decide) ?_
              refine ev_istore dX12_swap_81 (Nat.le_of_ble_eq_true rfl) rfl ?_
              refine ev_aload_n dX12_swap_83 rfl rfl ?_
              refine mo_geta hE hT dX12_swap_84 fX12_31 (by decide) ?_
              refine ev_iload_n dX12_swap_87 rfl rfl ?_
              refine ev_dup2 dX12_swap_88 rfl rfl ?_
              refine mo_ialdE (v := (S.1 10 (x1).toNatClampNeg)) hE hT dX12_swap_89 (by decide) (show vp_in _ 12 from (by first | exact hv | exact hv2 | exact hv4)) (by simp [sp_bad_ne, mo_up]) ?_
              refine ev_iload_n dX12_swap_90 rfl rfl ?_
              refine ev_isub dX12_swap_91 ?_
              refine mo_iastV hE hT dX12_swap_92 (by decide) (show vp_in _ 12 from (by first | exact hv | exact hv2 | exact hv4)) (fun g hT => ?_)
              refine ev_aload_n dX12_swap_93 rfl rfl ?_
              refine mo_geta hE hT dX12_swap_94 fX12_31 (by decide) ?_
              refine ev_iload_n dX12_swap_97 rfl rfl ?_
              refine ev_dup2 dX12_swap_98 rfl rfl ?_
              refine mo_ialdV hE hT dX12_swap_99 (by decide) (show vp_in _ 12 from (by first | exact hv | exact hv2 | exact hv4)) ?_
              refine ev_iload dX12_swap_100 rfl ?_
              refine ev_iadd dX12_swap_102 ?_
              refine mo_iastV hE hT dX12_swap_103 (by decide) (show vp_in _ 12 from (by first | exact hv | exact hv2 | exact hv4)) (fun g hT => ?_)
              refine ev_aload_n dX12_swap_104 rfl rfl ?_
              refine mo_geta hE hT dX12_swap_105 fX12_131 (by decide) ?_
              refine ev_bipush (v := 12) dX12_swap_108 (by decide) ?_
              refine ev_iload_n dX12_swap_110 rfl rfl ?_
              refine ev_imul dX12_swap_111 ?_
              refine ev_iload_n dX12_swap_112 rfl rfl ?_
              refine ev_iadd dX12_swap_113 ?_
              refine ev_dup2 dX12_swap_114 rfl rfl ?_
              refine mo_ialdE (v := (S.1 58 (((12 * x2) + x1)).toNatClampNeg)) hE hT dX12_swap_115 (by decide) (show vp_in _ 144 from (by first | exact hv | exact hv2 | exact hv4)) (by simp [sp_bad_ne, mo_up]) ?_
              refine ev_iload dX12_swap_116 rfl ?_
              refine ev_iadd dX12_swap_118 ?_
              refine mo_iastV hE hT dX12_swap_119 (by decide) (show vp_in _ 144 from (by first | exact hv | exact hv2 | exact hv4)) (fun g hT => ?_)
              refine ev_iload dX12_swap_120 rfl ?_
              have e9 : sp_X12_swap S x1 x2 x3 = (((x3 * (sp_X12_much (sp_bad (if (mo_b (sp_in x3 1 100000)) = 0 then true else false) 2 (mo_up S 0 0 (mo_b (!(sp_in x1 0 (S.1 1 0 - 1) && sp_in x2 0 (S.1 1 0 - 1)))))) 7)) / 100), (mo_up (mo_up (mo_up (sp_bad (if (mo_b (sp_in x3 1 100000)) = 0 then true else false) 2 (mo_up S 0 0 (mo_b (!(sp_in x1 0 (S.1 1 0 - 1) && sp_in x2 0 (S.1 1 0 - 1)))))) 10 (x1).toNatClampNeg ((S.1 10 (x1).toNatClampNeg) - x3)) 10 (x2).toNatClampNeg (((mo_up (sp_bad (if (mo_b (sp_in x3 1 100000)) = 0 then true else false) 2 (mo_up S 0 0 (mo_b (!(sp_in x1 0 (S.1 1 0 - 1) && sp_in x2 0 (S.1 1 0 - 1)))))) 10 (x1).toNatClampNeg ((S.1 10 (x1).toNatClampNeg) - x3)).1 10 (x2).toNatClampNeg) + ((x3 * (sp_X12_much (sp_bad (if (mo_b (sp_in x3 1 100000)) = 0 then true else false) 2 (mo_up S 0 0 (mo_b (!(sp_in x1 0 (S.1 1 0 - 1) && sp_in x2 0 (S.1 1 0 - 1)))))) 7)) / 100))) 58 (((12 * x2) + x1)).toNatClampNeg ((S.1 58 (((12 * x2) + x1)).toNatClampNeg) + ((x3 * (sp_X12_much (sp_bad (if (mo_b (sp_in x3 1 100000)) = 0 then true else false) 2 (mo_up S 0 0 (mo_b (!(sp_in x1 0 (S.1 1 0 - 1) && sp_in x2 0 (S.1 1 0 - 1)))))) 7)) / 100)))) := by unfold sp_X12_swap; rw [if_neg c_6, if_pos c_29, if_neg c_40, if_pos c_52, if_neg c_64]
              exact ev_iret dX12_swap_122 rfl rfl ⟨by rw [e9], by rw [e9]; exact hT⟩
            · refine ev_bipush (v := (-3)) dX12_swap_67 (by decide) ?_
              have e9 : sp_X12_swap S x1 x2 x3 = ((-3), (sp_bad (if (mo_b (sp_in x3 1 100000)) = 0 then true else false) 2 (mo_up S 0 0 (mo_b (!(sp_in x1 0 (S.1 1 0 - 1) && sp_in x2 0 (S.1 1 0 - 1))))))) := by unfold sp_X12_swap; rw [if_neg c_6, if_pos c_29, if_neg c_40, if_pos c_52, if_pos c_64]
              exact ev_iret dX12_swap_69 rfl rfl ⟨by rw [e9], by rw [e9]; exact hT⟩
          · refine ev_bipush (v := (-2)) dX12_swap_55 (by decide) ?_
            have e9 : sp_X12_swap S x1 x2 x3 = ((-2), (sp_bad (if (mo_b (sp_in x3 1 100000)) = 0 then true else false) 2 (mo_up S 0 0 (mo_b (!(sp_in x1 0 (S.1 1 0 - 1) && sp_in x2 0 (S.1 1 0 - 1))))))) := by unfold sp_X12_swap; rw [if_neg c_6, if_pos c_29, if_neg c_40, if_neg c_52]
            exact ev_iret dX12_swap_57 rfl rfl ⟨by rw [e9], by rw [e9]; exact hT⟩
        · refine ev_iconst (v := (-1)) dX12_swap_43 (by decide) ?_
          have e9 : sp_X12_swap S x1 x2 x3 = ((-1), (sp_bad (if (mo_b (sp_in x3 1 100000)) = 0 then true else false) 2 (mo_up S 0 0 (mo_b (!(sp_in x1 0 (S.1 1 0 - 1) && sp_in x2 0 (S.1 1 0 - 1))))))) := by unfold sp_X12_swap; rw [if_neg c_6, if_pos c_29, if_pos c_40]
          exact ev_iret dX12_swap_44 rfl rfl ⟨by rw [e9], by rw [e9]; exact hT⟩
      · refine ev_iconst (v := 0) dX12_swap_32 (by decide) ?_
        have e9 : sp_X12_swap S x1 x2 x3 = (0, (sp_bad (if (mo_b (sp_in x3 1 100000)) = 0 then true else false) 2 (mo_up S 0 0 (mo_b (!(sp_in x1 0 (S.1 1 0 - 1) && sp_in x2 0 (S.1 1 0 - 1))))))) := by unfold sp_X12_swap; rw [if_neg c_6, if_neg c_29]
        exact ev_iret dX12_swap_33 rfl rfl ⟨by rw [e9], by rw [e9]; exact hT⟩
    refine ev_if_ne (tgt := 24) dX12_swap_17 (by decide) (fun c_17 => ?_) (fun c_17 => ?_)
    · refine ev_iconst (v := 0) dX12_swap_24 (by decide) ?_
      exact K_25 g hT _ (by rw [if_neg c_17]; rfl)
    · refine ev_iconst (v := 1) dX12_swap_20 (by decide) ?_
      refine ev_goto (tgt := 25) dX12_swap_21 (by decide) ?_
      exact K_25 g hT _ (by rw [if_pos c_17]; rfl)
/-- the same in the rows that formulas and clauses are read from -/
def sp_eqF (T S : mo_S) : Prop := T.1 2 = S.1 2 ∧ T.1 29 = S.1 29 ∧ T.1 36 = S.1 36 ∧ T.1 37 = S.1 37 ∧ T.1 38 = S.1 38 ∧ T.1 39 = S.1 39 ∧ T.1 40 = S.1 40 ∧ T.1 41 = S.1 41
theorem sp_eqF_runs {T S : mo_S} (h : sp_eqF T S) (v : Int32 → Int32) : ∀ (n k : Nat) (st : List Int32), sp_runs T v n k st = sp_runs S v n k st
  | 0, _, _ => rfl
  | n + 1, k, st => by
    obtain ⟨-, -, -, -, -, -, h40, h41⟩ := id h
    unfold sp_runs
    rw [h40, h41]
    cases sp_step v (S.1 40 k) (S.1 41 k) st with
    | none => rfl
    | some st' => exact sp_eqF_runs h v n (k + 1) st'
theorem sp_eqF_O {T S : mo_S} (h : sp_eqF T S) : sp_O T = sp_O S := by unfold sp_O; rw [h.2.1]
theorem mo_FF.cong {T S : mo_S} {F : mo_Fn} (h : sp_eqF T S) (hF : mo_FF S F) : mo_FF T F := by
  intro b n C hb hC hC2 hn hw
  obtain ⟨h2, h29, h36, h37, h38, h39, h40, h41⟩ := id h
  rw [sp_eqF_O h] at hb
  rw [h37] at hC
  rw [h38] at hw
  obtain ⟨k0, len, e, hwf⟩ := hF b n C hb hC hC2 hn hw
  refine ⟨k0, len, by rw [h39]; exact e, fun v => ?_⟩
  obtain ⟨w1, w2, w3, w4, w5⟩ := hwf v
  exact ⟨w1, w2, by rw [h40]; exact w3, fun j hj => by rw [h40]; exact w4 j hj, by rw [sp_eqF_runs h]; exact w5⟩
theorem sp_force_cong {T S : mo_S} (h : T.1 36 = S.1 36) (m : Int32) : ∀ n, sp_force T m n = sp_force S m n
  | 0 => rfl
  | n + 1 => by simp only [sp_force]; rw [h, sp_force_cong h m n]
theorem sp_tell_cong {T S : mo_S} (h : T.1 38 = S.1 38) (b : Nat) (what : Int32) : ∀ n, sp_tell T b what n = sp_tell S b what n
  | 0 => rfl
  | n + 1 => by simp only [sp_tell]; rw [h, sp_tell_cong h b what n]
theorem sp_eqF_now {T S : mo_S} (h : sp_eqF T S) : sp_now T = sp_now S := by
  unfold sp_now
  rw [h.1, sp_eqF_O h, sp_force_cong h.2.2.1]
theorem sp_eqF_teller {T S : mo_S} (h : sp_eqF T S) (what : Int32) : sp_teller T what = sp_teller S what := by
  unfold sp_teller
  rw [sp_eqF_now h]
  cases sp_now S with
  | none => rfl
  | some b =>
    simp only [sp_tellO, sp_cN]
    rw [h.2.2.2.1, sp_tell_cong h.2.2.2.2.1]
theorem sp_eqF_much {T S : mo_S} (h : sp_eqF T S) (what : Int32) : sp_X12_much T what = sp_X12_much S what := by
  unfold sp_X12_much
  rw [sp_eqF_teller h, h.2.2.2.2.2.1]
/-- the same but for the scratch of a formula's value -/
def sp_eqN (T S : mo_S) : Prop := (∀ k, (k < 42 ∨ 49 < k) → T.1 k = S.1 k) ∧ T.2 = S.2
theorem sp_eqN_F {T S : mo_S} (h : sp_eqN T S) : sp_eqF T S := ⟨h.1 _ (by decide), h.1 _ (by decide), h.1 _ (by decide), h.1 _ (by decide), h.1 _ (by decide), h.1 _ (by decide), h.1 _ (by decide), h.1 _ (by decide)⟩
theorem sp_eqN_P {T U S : mo_S} (h : sp_eqP T U) (h2 : sp_eqN U S) : sp_eqN T S := ⟨fun k hk => by rw [h.1 k (by omega), h2.1 k hk], by rw [h.2, h2.2]⟩
theorem sp_eqN_r (S : mo_S) : sp_eqN S S := ⟨fun _ _ => rfl, rfl⟩
theorem sp_eqN_u {T S : mo_S} {k i : Nat} {v : Int32} (hk : 42 ≤ k ∧ k ≤ 49) (h : sp_eqN T S) : sp_eqN (mo_up T k i v) S := by
  refine ⟨fun j hj => ?_, h.2⟩
  rw [← h.1 j hj]
  funext b
  have e : j ≠ k := by omega
  simp [mo_up, e]
theorem sp_eqN_means (S : mo_S) (x : Int32) : sp_eqN (sp_X12_means S x) S := by
  unfold sp_X12_means
  repeat (refine sp_eqN_u (by decide) ?_)
  exact sp_eqN_r S
theorem mo_Cr.w {G : ev_G} {W : mo_W} {d : Nat} {M' : ev_M} {As : List Value} {S : mo_S} {Q Q2 : Option Value → mo_S → Prop} (h : mo_Cr G W d M' As S Q) (hQ : Q = Q2) : mo_Cr G W d M' As S Q2 := hQ ▸ h
end M7
