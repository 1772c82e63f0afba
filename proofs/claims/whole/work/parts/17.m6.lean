section M6
theorem sp_tell_sp {S : mo_S} {b : Nat} {what : Int32} : ∀ {n k : Nat}, sp_tell S b what n = some k → ∃ j, j < n ∧ k = 12 * b + j ∧ S.1 38 k = what
  | 0, k, h => by cases h
  | n + 1, k, h => by
    unfold sp_tell at h
    split at h
    · rename_i hq
      cases h
      exact ⟨n, by omega, rfl, hq⟩
    · obtain ⟨j, h1, h2, h3⟩ := sp_tell_sp h
      exact ⟨j, by omega, h2, h3⟩
/-- F c v: the value of clause c's formula under the named values v; it is a ghost beside the state -/
abbrev mo_Fn : Type := Nat → (Int32 → Int32) → Int32
/-- clause n of order b, if it has a formula, has it well-formed, with the values that F tells -/
def mo_FF (S : mo_S) (F : mo_Fn) : Prop := ∀ b n C, b < sp_O S → S.1 37 b = nI C → C ≤ 12 → n < C → (S.1 38 (12 * b + n) = 0 ∨ S.1 38 (12 * b + n) = 4) → ∃ k0 len, 350 * (nI (12 * b + n) / 12) + S.1 39 (12 * b + n) = nI k0 ∧ ∀ v, sp_wf S v k0 len (F (12 * b + n) v)
theorem mo_FF.at {S : mo_S} {F : mo_Fn} {what : Int32} {c : Nat} (hF : mo_FF S F) (hw : what = 0 ∨ what = 4) (hC : ∀ b, b < sp_O S → ∃ C, C ≤ 12 ∧ S.1 37 b = nI C) (h : sp_teller S what = some c) : ∃ k0 len, 350 * (nI c / 12) + S.1 39 c = nI k0 ∧ ∀ v, sp_wf S v k0 len (F c v) := by
  unfold sp_teller at h
  cases hb : sp_now S with
  | none => rw [hb] at h; cases h
  | some b =>
    rw [hb] at h
    obtain ⟨C, h1, h2⟩ := hC b (sp_now_lt hb)
    obtain ⟨j, h3, h4, h5⟩ := sp_tell_sp (n := sp_cN S (some b)) h
    simp only [sp_cN, h2] at h3
    rw [nI_clamp (by omega)] at h3
    subst h4
    exact hF b j C (sp_now_lt hb) h2 h1 h3 (by rw [h5]; exact hw)
def sp_part (S : mo_S) (F : mo_Fn) : Int32 := match sp_teller S 0 with
  | none => S.1 43 0
  | some c => sp_X12_bounded (F c (sp_X12_named S)) 0 1000000
def sp_price (S : mo_S) (F : mo_Fn) : Int32 := match sp_teller S 4 with
  | none => -1
  | some c => sp_X12_bounded (F c (sp_X12_named S)) 1 100
theorem c_X12_partNow {G : ev_G} {W : mo_W} {d : Nat} {S : mo_S} {F : mo_Fn} (hE : ev_En G) (hd : 3 ≤ d) (hO : S.1 29 0 = nI (sp_O S)) (hO2 : sp_O S ≤ 10) (hC : ∀ b, b < sp_O S → ∃ C, C ≤ 12 ∧ S.1 37 b = nI C) (hF : mo_FF S F) : mo_Cr G W d mX12_partNow [] S (fun r S2 => r = some (.int (sp_part S F)) ∧ sp_eqP S2 S) := by
  refine mo_startr (lv0 := [some (.ref W.1), none]) (by decide +kernel) rfl (Nat.le_of_ble_eq_true rfl) rfl ?_
  intro g0 g hT
  refine ev_aload_n dX12_partNow_0 rfl rfl ?_
  refine ev_iconst (v := 0) dX12_partNow_1 (by decide) ?_
  refine mo_call1 (d' := d - 1) hE hT dX12_partNow_2 rfl rfl kX12_teller lX12_366 iX12_teller vX12_teller (Nat.le_of_ble_eq_true rfl) (by omega) (c_X12_teller hE (by omega) hO hO2 hC) (fun g hT => ?_)
  refine ev_istore_n dX12_partNow_5 rfl (Nat.le_of_ble_eq_true rfl) rfl ?_
  refine ev_iload_n dX12_partNow_6 rfl rfl ?_
  refine ev_if_ge (tgt := 17) dX12_partNow_7 (by decide) (fun c_7 => ?_) (fun c_7 => ?_)
  · obtain ⟨c9, hc9⟩ : ∃ c9, sp_teller S 0 = some c9 := by
      cases hq : sp_teller S 0 with
      | none => rw [hq] at c_7; exact absurd c_7 (show ¬ (0 : Int32) ≤ -1 by decide)
      | some c => exact ⟨c, rfl⟩
    obtain ⟨k0, len, hk, hwf⟩ := hF.at (by decide) hC hc9
    rw [hc9]
    refine ev_aload_n dX12_partNow_17 rfl rfl ?_
    refine ev_iload_n dX12_partNow_18 rfl rfl ?_
    refine mo_callr1 (d' := d - 1) hE hT dX12_partNow_19 rfl rfl kX12_value lX12_399 iX12_value vX12_value (Nat.le_of_ble_eq_true rfl) (by omega) (c_X12_value hE (by omega) (c := c9) rfl (sp_teller_lt hO2 hC hc9) hk (hwf _)) (fun r S2 g hq hT => ?_)
    obtain ⟨rfl, hq⟩ := hq
    refine ev_iconst (v := 0) dX12_partNow_22 (by decide) ?_
    refine ev_ldcw dX12_partNow_23 nX12_402 ?_
    refine ev_pS3 (d' := d - 1) dX12_partNow_26 rfl kX12_bounded lX12_403 sX12_bounded (Nat.le_of_ble_eq_true rfl) (by omega) c_X12_bounded ?_
    exact ev_iret dX12_partNow_29 rfl rfl ⟨_, S2, rfl, ⟨by unfold sp_part; rw [hc9], hq⟩, hT⟩
  · have hno : sp_teller S 0 = none := by
      cases hq : sp_teller S 0 with
      | none => rfl
      | some c => rw [hq] at c_7; exact absurd (nI_pos' (by have := sp_teller_lt hO2 hC hq; omega)) c_7
    refine ev_aload_n dX12_partNow_10 rfl rfl ?_
    refine mo_geti hE hT dX12_partNow_11 fX12_374 (by decide) ?_
    refine ev_goto (tgt := 29) dX12_partNow_14 (by decide) ?_
    exact ev_iret dX12_partNow_29 rfl rfl ⟨_, S, rfl, ⟨by unfold sp_part; rw [hno], ⟨fun _ _ => rfl, rfl⟩⟩, hT⟩
theorem c_X12_priceNow {G : ev_G} {W : mo_W} {d : Nat} {S : mo_S} {F : mo_Fn} (hE : ev_En G) (hd : 3 ≤ d) (hO : S.1 29 0 = nI (sp_O S)) (hO2 : sp_O S ≤ 10) (hC : ∀ b, b < sp_O S → ∃ C, C ≤ 12 ∧ S.1 37 b = nI C) (hF : mo_FF S F) : mo_Cr G W d mX12_priceNow [] S (fun r S2 => r = some (.int (sp_price S F)) ∧ sp_eqP S2 S) := by
  refine mo_startr (lv0 := [some (.ref W.1), none]) (by decide +kernel) rfl (Nat.le_of_ble_eq_true rfl) rfl ?_
  intro g0 g hT
  refine ev_aload_n dX12_priceNow_0 rfl rfl ?_
  refine ev_iconst (v := 4) dX12_priceNow_1 (by decide) ?_
  refine mo_call1 (d' := d - 1) hE hT dX12_priceNow_2 rfl rfl kX12_teller lX12_366 iX12_teller vX12_teller (Nat.le_of_ble_eq_true rfl) (by omega) (c_X12_teller hE (by omega) hO hO2 hC) (fun g hT => ?_)
  refine ev_istore_n dX12_priceNow_5 rfl (Nat.le_of_ble_eq_true rfl) rfl ?_
  refine ev_iload_n dX12_priceNow_6 rfl rfl ?_
  refine ev_if_ge (tgt := 14) dX12_priceNow_7 (by decide) (fun c_7 => ?_) (fun c_7 => ?_)
  · obtain ⟨c9, hc9⟩ : ∃ c9, sp_teller S 4 = some c9 := by
      cases hq : sp_teller S 4 with
      | none => rw [hq] at c_7; exact absurd c_7 (show ¬ (0 : Int32) ≤ -1 by decide)
      | some c => exact ⟨c, rfl⟩
    obtain ⟨k0, len, hk, hwf⟩ := hF.at (by decide) hC hc9
    rw [hc9]
    refine ev_aload_n dX12_priceNow_14 rfl rfl ?_
    refine ev_iload_n dX12_priceNow_15 rfl rfl ?_
    refine mo_callr1 (d' := d - 1) hE hT dX12_priceNow_16 rfl rfl kX12_value lX12_399 iX12_value vX12_value (Nat.le_of_ble_eq_true rfl) (by omega) (c_X12_value hE (by omega) (c := c9) rfl (sp_teller_lt hO2 hC hc9) hk (hwf _)) (fun r S2 g hq hT => ?_)
    obtain ⟨rfl, hq⟩ := hq
    refine ev_iconst (v := 1) dX12_priceNow_19 (by decide) ?_
    refine ev_bipush (v := 100) dX12_priceNow_20 (by decide) ?_
    refine ev_pS3 (d' := d - 1) dX12_priceNow_22 rfl kX12_bounded lX12_403 sX12_bounded (Nat.le_of_ble_eq_true rfl) (by omega) c_X12_bounded ?_
    exact ev_iret dX12_priceNow_25 rfl rfl ⟨_, S2, rfl, ⟨by unfold sp_price; rw [hc9], hq⟩, hT⟩
  · have hno : sp_teller S 4 = none := by
      cases hq : sp_teller S 4 with
      | none => rfl
      | some c => rw [hq] at c_7; exact absurd (nI_pos' (by have := sp_teller_lt hO2 hC hq; omega)) c_7
    refine ev_iconst (v := -1) dX12_priceNow_10 (by decide) ?_
    refine ev_goto (tgt := 25) dX12_priceNow_11 (by decide) ?_
    exact ev_iret dX12_priceNow_25 rfl rfl ⟨_, S, rfl, ⟨by unfold sp_price; rw [hno], ⟨fun _ _ => rfl, rfl⟩⟩, hT⟩
end M6
