section M34
/-! CALLS THAT CHANGE SOMETHING -/
theorem kl_iteC {B : Int} {F : mo_Fn} {c : Prop} [Decidable c] {a b : Int32 × mo_S} (h1 : c → mo_K B a.2 F) (h2 : ¬ c → mo_K B b.2 F) : mo_K B (if c then a else b).2 F := by
  by_cases q : c
  · rw [if_pos q]; exact h1 q
  · rw [if_neg q]; exact h2 q
theorem kl_b {b : Bool} (h : (mo_b (if mo_b b = 0 then true else false)) = 0) : b = true := by
  cases b with
  | true => rfl
  | false => exact absurd h (by decide)
theorem mo_K.grant {S : mo_S} {F : mo_Fn} {B : Int} (h : mo_K B S F) (x1 x2 : Int32) : mo_K B (sp_X12_grant S x1 x2).2 F := by
  unfold sp_X12_grant
  refine kl_ite (kl_iteC (fun c => ?_) (fun _ => kl_leaf h.u0.bad.bad)) (kl_leaf h.u0.bad)
  refine kl_ite (kl_leaf ?_) (kl_leaf h.u0.bad.bad)
  have hi := of_decide_eq_true (kl_b c)
  have h1 := Int32.le_iff_toInt_le.mp hi.1
  have h2 := Int32.le_iff_toInt_le.mp hi.2
  have hM := h.1.1.M
  have h3 : (0 : Int) ≤ (S.1 2 0).toInt := (h.1.1.1 2 0 (by decide)).1
  refine h.u0.bad.bad.up (by decide) ⟨?_, h2⟩
  show (-1 : Int) ≤ _
  omega
end M34
