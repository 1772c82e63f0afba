section M7
theorem sp_isTwo_is (S : mo_S) (x1 x2 : Int32) : sp_X12_isTwo S x1 x2 = (mo_b (sp_in x1 0 (S.1 1 0 - 1) && sp_in x2 0 (S.1 1 0 - 1)), mo_up S 0 0 (mo_b (!(sp_in x1 0 (S.1 1 0 - 1) && sp_in x2 0 (S.1 1 0 - 1))))) := by
  unfold sp_X12_isTwo
  generalize sp_in x1 0 (S.1 1 0 - 1) = a
  generalize sp_in x2 0 (S.1 1 0 - 1) = b
  cases a <;> cases b <;> simp [mo_b]
theorem mo_and2 {a b : Bool} (h : ¬ mo_b (a && b) = 0) : a = true ∧ b = true := by
  cases a <;> cases b <;> simp [mo_b] at h ⊢
theorem c_X12_isTwoB {G : ev_G} {W : mo_W} {d : Nat} {S : mo_S} {x1 x2 : Int32} (hE : ev_En G) (hd : 1 ≤ d) : mo_C G W d mX12_isTwo [.int x1, .int x2] S (some (.int (mo_b (sp_in x1 0 (S.1 1 0 - 1) && sp_in x2 0 (S.1 1 0 - 1))))) (mo_up S 0 0 (mo_b (!(sp_in x1 0 (S.1 1 0 - 1) && sp_in x2 0 (S.1 1 0 - 1))))) := by
  have h := c_X12_isTwo (G := G) (W := W) (d := d) (S := S) (x1 := x1) (x2 := x2) hE hd
  rw [sp_isTwo_is] at h
  exact h
def sp_X12_netted (S : mo_S) (x1 x2 : Int32) : Int32 × mo_S :=
  ((if (mo_b (sp_in x1 0 (S.1 1 0 - 1) && sp_in x2 0 (S.1 1 0 - 1))) = 0 then 0 else ((S.1 58 (((12 * x1) + x2)).toNatClampNeg) - (S.1 58 (((12 * x2) + x1)).toNatClampNeg))), (mo_up S 0 0 (mo_b (!(sp_in x1 0 (S.1 1 0 - 1) && sp_in x2 0 (S.1 1 0 - 1))))))
theorem c_X12_netted {G : ev_G} {W : mo_W} {d : Nat} {S : mo_S} {x1 x2 : Int32} (hE : ev_En G) (hd : 2 ≤ d) (hP : S.1 1 0 = nI (sp_P S)) (hP2 : sp_P S ≤ 12) : mo_C G W d mX12_netted [.int x1, .int x2] S (some (.int (sp_X12_netted S x1 x2).1)) (sp_X12_netted S x1 x2).2 := by
  refine mo_start (lv0 := [some (.ref W.1), some (.int x1), some (.int x2)]) (by decide +kernel) rfl (Nat.le_of_ble_eq_true rfl) rfl ?_
  intro g0 g hT
  refine ev_aload_n dX12_netted_0 rfl rfl ?_
  refine ev_iload_n dX12_netted_1 rfl rfl ?_
  refine ev_iload_n dX12_netted_2 rfl rfl ?_
  refine mo_call2 (d' := d - 1) hE hT dX12_netted_3 rfl rfl kX12_isTwo lX12_464 iX12_isTwo vX12_isTwo (Nat.le_of_ble_eq_true rfl) (by omega) (c_X12_isTwoB hE (by omega)) (fun g hT => ?_)
  have K_36 : ∀ (g : ev_H) (hT : mo_T G W g0 g (mo_up S 0 0 (mo_b (!(sp_in x1 0 (S.1 1 0 - 1) && sp_in x2 0 (S.1 1 0 - 1)))))), ∀ x9 : Int32, x9 = (if (mo_b (sp_in x1 0 (S.1 1 0 - 1) && sp_in x2 0 (S.1 1 0 - 1))) = 0 then 0 else ((S.1 58 (((12 * x1) + x2)).toNatClampNeg) - (S.1 58 (((12 * x2) + x1)).toNatClampNeg))) → ev_V G d 0 0 mX12_netted (fun o g' => o = .inl (some (.int (sp_X12_netted S x1 x2).1)) ∧ mo_T G W g0 g' (sp_X12_netted S x1 x2).2) g 36 [some (.ref W.1), some (.int x1), some (.int x2)] (.int x9 :: []) := by
    intro g hT x9 h9
    subst h9
    have e9 : sp_X12_netted S x1 x2 = ((if (mo_b (sp_in x1 0 (S.1 1 0 - 1) && sp_in x2 0 (S.1 1 0 - 1))) = 0 then 0 else ((S.1 58 (((12 * x1) + x2)).toNatClampNeg) - (S.1 58 (((12 * x2) + x1)).toNatClampNeg))), (mo_up S 0 0 (mo_b (!(sp_in x1 0 (S.1 1 0 - 1) && sp_in x2 0 (S.1 1 0 - 1)))))) := by unfold sp_X12_netted; rfl
    exact ev_iret dX12_netted_36 rfl rfl ⟨by rw [e9], by rw [e9]; exact hT⟩
  refine ev_if_eq (tgt := 35) dX12_netted_6 (by decide) (fun c_6 => ?_) (fun c_6 => ?_)
  · refine ev_iconst (v := 0) dX12_netted_35 (by decide) ?_
    exact K_36 g hT _ (by rw [if_pos c_6])
  · obtain ⟨q1, q2⟩ := mo_and2 c_6
    obtain ⟨a, w1, e1⟩ := mo_vinE (N := 12) hP hP2 (by decide) q1
    obtain ⟨b, w2, e2⟩ := mo_vinE (N := 12) hP hP2 (by decide) q2
    have hv : vp_in x1 12 := by rw [e1]; exact vp_in_nI (by omega) (by decide)
    have hv2 : vp_in x2 12 := by rw [e2]; exact vp_in_nI (by omega) (by decide)
    have hv3 := (mo_ix (N := 144) e1 e2 (by omega) (by decide)).1
    have hv4 := (mo_ix (N := 144) e2 e1 (by omega) (by decide)).1
    refine ev_aload_n dX12_netted_9 rfl rfl ?_
    refine mo_geta hE hT dX12_netted_10 fX12_131 (by decide) ?_
    refine ev_bipush (v := 12) dX12_netted_13 (by decide) ?_
    refine ev_iload_n dX12_netted_15 rfl rfl ?_
    refine ev_imul dX12_netted_16 ?_
    refine ev_iload_n dX12_netted_17 rfl rfl ?_
    refine ev_iadd dX12_netted_18 ?_
    refine mo_ialdE (v := (S.1 58 (((12 * x1) + x2)).toNatClampNeg)) hE hT dX12_netted_19 (by decide) (show vp_in _ 144 from (by first | exact hv3 | exact hv4)) (by simp [sp_bad_ne, mo_up]) ?_
    refine ev_aload_n dX12_netted_20 rfl rfl ?_
    refine mo_geta hE hT dX12_netted_21 fX12_131 (by decide) ?_
    refine ev_bipush (v := 12) dX12_netted_24 (by decide) ?_
    refine ev_iload_n dX12_netted_26 rfl rfl ?_
    refine ev_imul dX12_netted_27 ?_
    refine ev_iload_n dX12_netted_28 rfl rfl ?_
    refine ev_iadd dX12_netted_29 ?_
    refine mo_ialdE (v := (S.1 58 (((12 * x2) + x1)).toNatClampNeg)) hE hT dX12_netted_30 (by decide) (show vp_in _ 144 from (by first | exact hv3 | exact hv4)) (by simp [sp_bad_ne, mo_up]) ?_
    refine ev_isub dX12_netted_31 ?_
    refine ev_goto (tgt := 36) dX12_netted_32 (by decide) ?_
    exact K_36 g hT _ (by rw [if_neg c_6])
end M7
