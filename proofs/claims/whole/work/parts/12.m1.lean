section M1
def mo_b (b : Bool) : Int32 := if b then 1 else 0
theorem mo_b_nar (b : Bool) : narrow .boolean (.int (mo_b b)) = .int (mo_b b) := by cases b <;> rfl
theorem mo_b_0 {b : Bool} (h : mo_b b = 0) : b = false := by cases b with
  | false => rfl
  | true => exact absurd h (by decide)
theorem mo_b_1 {b : Bool} (h : ¬ mo_b b = 0) : b = true := by cases b with
  | true => rfl
  | false => exact absurd rfl h
def sp_in (v a b : Int32) : Bool := decide (a ≤ v ∧ v ≤ b)
theorem mo_lt0 {p : Prop} [Decidable p] (h : ¬ p) : (0 : Int32) = mo_b (decide p) := by simp [mo_b, h]
theorem mo_lt1 {p : Prop} [Decidable p] (h : p) : (1 : Int32) = mo_b (decide p) := by simp [mo_b, h]
theorem mo_rt {α : Type} {x y : Int32} {g : α} (h : x = y) : ((.inl (some (.int x)) : Option Value ⊕ String) = .inl (some (.int y))) ∧ g = g := ⟨by rw [h], rfl⟩
def sp_least (a b : Int32) : Int32 := if a < b then a else b
theorem mo_ilt {x : Int32} {R i : Nat} (h : x = nI R) (hR : R < 2147483648) (hi : i < 2147483648) (c : ¬ x ≤ nI i) : i < R := by
  subst h
  have h3 : ¬ R ≤ i := fun q => c ((nI_leI hR hi).mpr q)
  omega
theorem mo_ige {x : Int32} {R i : Nat} (h : x = nI R) (hR : R < 2147483648) (hi : i < 2147483648) (c : x ≤ nI i) : R ≤ i := by
  subst h
  exact (nI_leI hR hi).mp c
/-- an index that was looked at -/
theorem mo_vin {p x : Int32} {P N : Nat} (hx : x = nI P) (hP : P ≤ N) (hN : N < 2147483648) (h : sp_in p 0 (x - 1) = true) : vp_in p N ∧ p.toNatClampNeg < P ∧ p = nI p.toNatClampNeg := by
  subst hx
  simp only [sp_in, decide_eq_true_eq] at h
  obtain ⟨h1, h2⟩ := h
  rcases Nat.eq_zero_or_pos P with e | e
  · subst e
    have h3 := Int32.le_trans h1 h2
    exact absurd h3 (by decide)
  · obtain ⟨Q, rfl⟩ : ∃ Q, P = Q + 1 := ⟨P - 1, by omega⟩
    rw [nI_pred] at h2
    have h0 : ¬ p < 0 := Int32.not_lt.mpr h1
    obtain ⟨j, hj, rfl⟩ := nI_of h0
    have h4 := (nI_leI hj (by omega)).mp h2
    rw [nI_clamp hj]
    exact ⟨vp_in_nI (by omega) hN, by omega, rfl⟩
theorem c_X12_in {G : ev_G} {d : Nat} {g : ev_H} {v a b : Int32} : ev_Cp G d mX12_in [.int v, .int a, .int b] g (some (.int (mo_b (sp_in v a b)))) := by
  refine ev_start (lv0 := [some (.int v), some (.int a), some (.int b)]) (by decide +kernel) rfl (Nat.le_of_ble_eq_true rfl) rfl ?_
  refine ev_iload_n dX12_in_0 rfl rfl ?_
  refine ev_iload_n dX12_in_1 rfl rfl ?_
  refine ev_icmp_lt (tgt := 14) dX12_in_2 (by decide) (fun c_2 => ?_) (fun c_2 => ?_)
  · refine ev_iconst (v := 0) dX12_in_14 (by decide) ?_
    exact ev_iret dX12_in_15 rfl rfl (mo_rt (mo_lt0 (fun q => by obtain ⟨q1, q2⟩ := q; simp only [Int32.le_iff_toInt_le, Int32.lt_iff_toInt_lt] at *; omega)))
  · refine ev_iload_n dX12_in_5 rfl rfl ?_
    refine ev_iload_n dX12_in_6 rfl rfl ?_
    refine ev_icmp_gt (tgt := 14) dX12_in_7 (by decide) (fun c_7 => ?_) (fun c_7 => ?_)
    · refine ev_iconst (v := 0) dX12_in_14 (by decide) ?_
      exact ev_iret dX12_in_15 rfl rfl (mo_rt (mo_lt0 (fun q => by obtain ⟨q1, q2⟩ := q; simp only [Int32.le_iff_toInt_le, Int32.lt_iff_toInt_lt] at *; omega)))
    · refine ev_iconst (v := 1) dX12_in_10 (by decide) ?_
      refine ev_goto (tgt := 15) dX12_in_11 (by decide) ?_
      exact ev_iret dX12_in_15 rfl rfl (mo_rt (mo_lt1 (by simp only [Int32.le_iff_toInt_le, Int32.lt_iff_toInt_lt] at *; omega)))
theorem c_X12_least {G : ev_G} {d : Nat} {g : ev_H} {a b : Int32} : ev_Cp G d mX12_least [.int a, .int b] g (some (.int (sp_least a b))) := by
  refine ev_start (lv0 := [some (.int a), some (.int b)]) (by decide +kernel) rfl (Nat.le_of_ble_eq_true rfl) rfl ?_
  refine ev_iload_n dX12_least_0 rfl rfl ?_
  refine ev_iload_n dX12_least_1 rfl rfl ?_
  refine ev_icmp_ge (tgt := 9) dX12_least_2 (by decide) (fun c_2 => ?_) (fun c_2 => ?_)
  · refine ev_iload_n dX12_least_9 rfl rfl ?_
    exact ev_iret dX12_least_10 rfl rfl (mo_rt (by unfold sp_least; first | rw [if_neg (Int32.not_lt.mpr c_2)] | rw [if_pos (Int32.not_le.mp c_2)]))
  · refine ev_iload_n dX12_least_5 rfl rfl ?_
    refine ev_goto (tgt := 10) dX12_least_6 (by decide) ?_
    exact ev_iret dX12_least_10 rfl rfl (mo_rt (by unfold sp_least; first | rw [if_neg (Int32.not_lt.mpr c_2)] | rw [if_pos (Int32.not_le.mp c_2)]))
/-- 'thrown' is told when b holds -/
def sp_bad (b : Bool) (x : Int32) (S : mo_S) : mo_S := if b = true then mo_up S 0 0 x else S
theorem sp_bad_ne {b : Bool} {x : Int32} {S : mo_S} {k : Nat} (h : k ≠ 0) : (sp_bad b x S).1 k = S.1 k := by
  unfold sp_bad
  split
  · funext i
    simp [mo_up, h]
  · rfl
theorem sp_bad_L {b : Bool} {x : Int32} {S : mo_S} : (sp_bad b x S).2 = S.2 := by
  unfold sp_bad
  split <;> rfl
theorem mo_full {x : Int32} {P N : Nat} (hx : x = nI P) (hP : P ≤ N) (hN : N < 2147483648) (h : ¬ x = nI N) : vp_in x N ∧ x.toNatClampNeg = P ∧ P < N := by
  subst hx
  have h2 : P ≠ N := fun e => h (by rw [e])
  exact ⟨vp_in_nI (by omega) hN, nI_clamp (by omega), by omega⟩
theorem c_X12_bad {G : ev_G} {W : mo_W} {d : Nat} {S : mo_S} (hE : ev_En G) {b : Bool} {x : Int32} : mo_C G W d mX12_bad [.int (mo_b b), .int x] S (some (.int (mo_b b))) (sp_bad b x S) := by
  refine mo_start (lv0 := [some (.ref W.1), some (.int (mo_b b)), some (.int x)]) (by decide +kernel) rfl (Nat.le_of_ble_eq_true rfl) rfl ?_
  intro g0 g hT
  refine ev_iload_n dX12_bad_0 rfl rfl ?_
  refine ev_if_eq (tgt := 9) dX12_bad_1 (by decide) (fun c_1 => ?_) (fun c_1 => ?_)
  · refine ev_iload_n dX12_bad_9 rfl rfl ?_
    exact ev_iret dX12_bad_10 rfl (mo_b_nar b) ⟨rfl, by first | (rw [mo_b_0 c_1]; exact hT) | (rw [mo_b_1 c_1]; exact hT)⟩
  · refine ev_aload_n dX12_bad_4 rfl rfl ?_
    refine ev_iload_n dX12_bad_5 rfl rfl ?_
    refine mo_put hE hT dX12_bad_6 pX12_173 (by decide) (fun g hT => ?_)
    refine ev_iload_n dX12_bad_9 rfl rfl ?_
    exact ev_iret dX12_bad_10 rfl (mo_b_nar b) ⟨rfl, by first | (rw [mo_b_0 c_1]; exact hT) | (rw [mo_b_1 c_1]; exact hT)⟩
theorem c_X12_isPaper {G : ev_G} {W : mo_W} {d : Nat} {S : mo_S} (hE : ev_En G) (hd : 1 ≤ d) {p : Int32} : mo_C G W d mX12_isPaper [.int p] S (some (.int (mo_b (sp_in p 0 (S.1 1 0 - 1))))) (mo_up S 0 0 (mo_b (!sp_in p 0 (S.1 1 0 - 1)))) := by
  refine mo_start (lv0 := [some (.ref W.1), some (.int p)]) (by decide +kernel) rfl (Nat.le_of_ble_eq_true rfl) rfl ?_
  intro g0 g hT
  refine ev_aload_n dX12_isPaper_0 rfl rfl ?_
  refine ev_iload_n dX12_isPaper_1 rfl rfl ?_
  refine ev_iconst (v := 0) dX12_isPaper_2 (by decide) ?_
  refine ev_aload_n dX12_isPaper_3 rfl rfl ?_
  refine mo_geti hE hT dX12_isPaper_4 fX12_185 (by decide) ?_
  refine ev_iconst (v := 1) dX12_isPaper_7 (by decide) ?_
  refine ev_isub dX12_isPaper_8 ?_
  refine ev_pS3 (d' := d - 1) dX12_isPaper_9 rfl kX12_in lX12_176 sX12_in (Nat.le_of_ble_eq_true rfl) (by omega) (c_X12_in ) ?_
  refine ev_if_eq (tgt := 19) dX12_isPaper_12 (by decide) (fun c_12 => ?_) (fun c_12 => ?_)
  · refine ev_iconst (v := 1) dX12_isPaper_19 (by decide) ?_
    refine mo_put hE hT dX12_isPaper_20 pX12_173 (by decide) (fun g hT => ?_)
    refine ev_aload_n dX12_isPaper_23 rfl rfl ?_
    refine mo_geti hE hT dX12_isPaper_24 fX12_173 (by decide) ?_
    refine ev_if_ne (tgt := 34) dX12_isPaper_27 (by decide) (fun c_27 => ?_) (fun c_27 => ?_)
    · refine ev_iconst (v := 0) dX12_isPaper_34 (by decide) ?_
      refine ev_iret dX12_isPaper_35 rfl rfl ?_
      first
        | (rw [mo_b_0 c_12] at *; exact ⟨rfl, hT⟩)
        | (exact absurd rfl c_27)
    · refine ev_iconst (v := 1) dX12_isPaper_30 (by decide) ?_
      refine ev_goto (tgt := 35) dX12_isPaper_31 (by decide) ?_
      refine ev_iret dX12_isPaper_35 rfl rfl ?_
      first
        | (rw [mo_b_1 c_12] at *; exact ⟨rfl, hT⟩)
        | (exact absurd c_27 (show ¬ (1 : Int32) = 0 by decide))
  · refine ev_iconst (v := 0) dX12_isPaper_15 (by decide) ?_
    refine ev_goto (tgt := 20) dX12_isPaper_16 (by decide) ?_
    refine mo_put hE hT dX12_isPaper_20 pX12_173 (by decide) (fun g hT => ?_)
    refine ev_aload_n dX12_isPaper_23 rfl rfl ?_
    refine mo_geti hE hT dX12_isPaper_24 fX12_173 (by decide) ?_
    refine ev_if_ne (tgt := 34) dX12_isPaper_27 (by decide) (fun c_27 => ?_) (fun c_27 => ?_)
    · refine ev_iconst (v := 0) dX12_isPaper_34 (by decide) ?_
      refine ev_iret dX12_isPaper_35 rfl rfl ?_
      first
        | (rw [mo_b_0 c_12] at *; exact ⟨rfl, hT⟩)
        | (exact absurd rfl c_27)
    · refine ev_iconst (v := 1) dX12_isPaper_30 (by decide) ?_
      refine ev_goto (tgt := 35) dX12_isPaper_31 (by decide) ?_
      refine ev_iret dX12_isPaper_35 rfl rfl ?_
      first
        | (rw [mo_b_1 c_12] at *; exact ⟨rfl, hT⟩)
        | (exact absurd c_27 (show ¬ (1 : Int32) = 0 by decide))
theorem c_X12_isReel {G : ev_G} {W : mo_W} {d : Nat} {S : mo_S} (hE : ev_En G) (hd : 1 ≤ d) {p : Int32} : mo_C G W d mX12_isReel [.int p] S (some (.int (mo_b (sp_in p 0 (S.1 21 0 - 1))))) (mo_up S 0 0 (mo_b (!sp_in p 0 (S.1 21 0 - 1)))) := by
  refine mo_start (lv0 := [some (.ref W.1), some (.int p)]) (by decide +kernel) rfl (Nat.le_of_ble_eq_true rfl) rfl ?_
  intro g0 g hT
  refine ev_aload_n dX12_isReel_0 rfl rfl ?_
  refine ev_iload_n dX12_isReel_1 rfl rfl ?_
  refine ev_iconst (v := 0) dX12_isReel_2 (by decide) ?_
  refine ev_aload_n dX12_isReel_3 rfl rfl ?_
  refine mo_geti hE hT dX12_isReel_4 fX12_196 (by decide) ?_
  refine ev_iconst (v := 1) dX12_isReel_7 (by decide) ?_
  refine ev_isub dX12_isReel_8 ?_
  refine ev_pS3 (d' := d - 1) dX12_isReel_9 rfl kX12_in lX12_176 sX12_in (Nat.le_of_ble_eq_true rfl) (by omega) (c_X12_in ) ?_
  refine ev_if_eq (tgt := 19) dX12_isReel_12 (by decide) (fun c_12 => ?_) (fun c_12 => ?_)
  · refine ev_iconst (v := 1) dX12_isReel_19 (by decide) ?_
    refine mo_put hE hT dX12_isReel_20 pX12_173 (by decide) (fun g hT => ?_)
    refine ev_aload_n dX12_isReel_23 rfl rfl ?_
    refine mo_geti hE hT dX12_isReel_24 fX12_173 (by decide) ?_
    refine ev_if_ne (tgt := 34) dX12_isReel_27 (by decide) (fun c_27 => ?_) (fun c_27 => ?_)
    · refine ev_iconst (v := 0) dX12_isReel_34 (by decide) ?_
      refine ev_iret dX12_isReel_35 rfl rfl ?_
      first
        | (rw [mo_b_0 c_12] at *; exact ⟨rfl, hT⟩)
        | (exact absurd rfl c_27)
    · refine ev_iconst (v := 1) dX12_isReel_30 (by decide) ?_
      refine ev_goto (tgt := 35) dX12_isReel_31 (by decide) ?_
      refine ev_iret dX12_isReel_35 rfl rfl ?_
      first
        | (rw [mo_b_1 c_12] at *; exact ⟨rfl, hT⟩)
        | (exact absurd c_27 (show ¬ (1 : Int32) = 0 by decide))
  · refine ev_iconst (v := 0) dX12_isReel_15 (by decide) ?_
    refine ev_goto (tgt := 20) dX12_isReel_16 (by decide) ?_
    refine mo_put hE hT dX12_isReel_20 pX12_173 (by decide) (fun g hT => ?_)
    refine ev_aload_n dX12_isReel_23 rfl rfl ?_
    refine mo_geti hE hT dX12_isReel_24 fX12_173 (by decide) ?_
    refine ev_if_ne (tgt := 34) dX12_isReel_27 (by decide) (fun c_27 => ?_) (fun c_27 => ?_)
    · refine ev_iconst (v := 0) dX12_isReel_34 (by decide) ?_
      refine ev_iret dX12_isReel_35 rfl rfl ?_
      first
        | (rw [mo_b_0 c_12] at *; exact ⟨rfl, hT⟩)
        | (exact absurd rfl c_27)
    · refine ev_iconst (v := 1) dX12_isReel_30 (by decide) ?_
      refine ev_goto (tgt := 35) dX12_isReel_31 (by decide) ?_
      refine ev_iret dX12_isReel_35 rfl rfl ?_
      first
        | (rw [mo_b_1 c_12] at *; exact ⟨rfl, hT⟩)
        | (exact absurd c_27 (show ¬ (1 : Int32) = 0 by decide))
def sp_pool (S : mo_S) : Nat → Int32
  | 0 => 0
  | n + 1 => sp_pool S n + (if S.1 23 n = -1 then S.1 22 n else 0)
theorem c_X12_pool {G : ev_G} {W : mo_W} {d : Nat} {S : mo_S} (hE : ev_En G) {R : Nat} (hR : S.1 21 0 = nI R) (hR2 : R ≤ 80) : mo_C G W d mX12_pool [] S (some (.int (sp_pool S R))) (S) := by
  refine mo_start (lv0 := [some (.ref W.1), none, none]) (by decide +kernel) rfl (Nat.le_of_ble_eq_true rfl) rfl ?_
  intro g0 g hT
  refine ev_iconst (v := 0) dX12_pool_0 (by decide) ?_
  refine ev_istore_n dX12_pool_1 rfl (Nat.le_of_ble_eq_true rfl) rfl ?_
  refine ev_iconst (v := nI 0) dX12_pool_2 (by decide) ?_
  refine ev_istore_n dX12_pool_3 rfl (Nat.le_of_ble_eq_true rfl) rfl ?_
  have loop : ∀ (n i : Nat), i ≤ R → R < i + n → ∀ x, x = sp_pool S i → ev_V G d 0 0 mX12_pool (fun o g' => o = .inl (some (.int (sp_pool S R))) ∧ mo_T G W g0 g' S) g 4 [some (.ref W.1), some (.int x), some (.int (nI i))] [] := by
    intro n
    induction n with
    | zero => intro i h1 h2; exact absurd h2 (by omega)
    | succ n ih =>
      intro i h1 h2 x hx
      refine ev_iload_n dX12_pool_4 rfl rfl ?_
      refine ev_aload_n dX12_pool_5 rfl rfl ?_
      refine mo_geti hE hT dX12_pool_6 fX12_196 (by decide) ?_
      refine ev_icmp_ge (tgt := 41) dX12_pool_9 (by decide) (fun c_9 => ?_) (fun c_9 => ?_)
      · have e : i = R := by have := mo_ige hR (by omega) (by omega) c_9; omega
        subst e
        refine ev_iload_n dX12_pool_41 rfl rfl ?_
        exact ev_iret dX12_pool_42 rfl rfl ⟨by rw [hx], hT⟩
      · refine ev_iload_n dX12_pool_12 rfl rfl ?_
        refine ev_aload_n dX12_pool_13 rfl rfl ?_
        refine mo_geta hE hT dX12_pool_14 fX12_67 (by decide) ?_
        refine ev_iload_n dX12_pool_17 rfl rfl ?_
        refine mo_iald hE hT dX12_pool_18 (by decide) rfl (show i < 80 from Nat.lt_of_lt_of_le (mo_ilt hR (by omega) (by omega) c_9) hR2) ?_
        refine ev_iconst (v := -1) dX12_pool_19 (by decide) ?_
        refine ev_icmp_ne (tgt := 32) dX12_pool_20 (by decide) (fun c_20 => ?_) (fun c_20 => ?_)
        · refine ev_iconst (v := 0) dX12_pool_32 (by decide) ?_
          refine ev_iadd dX12_pool_33 ?_
          refine ev_istore_n dX12_pool_34 rfl (Nat.le_of_ble_eq_true rfl) rfl ?_
          refine ev_iinc (v := nI (i + 1)) dX12_pool_35 rfl (nI_1 i) rfl ?_
          refine ev_goto (tgt := 4) dX12_pool_38 (by decide) ?_
          have hlt : i < R := mo_ilt hR (by omega) (by omega) c_9
          refine ih (i + 1) (by omega) (by omega) _ ?_
          simp [sp_pool, hx, c_20]
        · refine ev_aload_n dX12_pool_23 rfl rfl ?_
          refine mo_geta hE hT dX12_pool_24 fX12_64 (by decide) ?_
          refine ev_iload_n dX12_pool_27 rfl rfl ?_
          refine mo_iald hE hT dX12_pool_28 (by decide) rfl (show i < 80 from Nat.lt_of_lt_of_le (mo_ilt hR (by omega) (by omega) c_9) hR2) ?_
          refine ev_goto (tgt := 33) dX12_pool_29 (by decide) ?_
          refine ev_iadd dX12_pool_33 ?_
          refine ev_istore_n dX12_pool_34 rfl (Nat.le_of_ble_eq_true rfl) rfl ?_
          refine ev_iinc (v := nI (i + 1)) dX12_pool_35 rfl (nI_1 i) rfl ?_
          refine ev_goto (tgt := 4) dX12_pool_38 (by decide) ?_
          have hlt : i < R := mo_ilt hR (by omega) (by omega) c_9
          refine ih (i + 1) (by omega) (by omega) _ ?_
          simp [sp_pool, hx, c_20]
  exact loop (R + 1) 0 (by omega) (by omega) 0 rfl
def sp_X12_kilograms (x1 x2 : Int32) : Int32 :=
  (((x1 * x2) * 3) / 10)
theorem c_X12_kilograms {G : ev_G} {d : Nat} {g : ev_H} {x1 x2 : Int32} : ev_Cp G d mX12_kilograms [.int x1, .int x2] g (some (.int (sp_X12_kilograms x1 x2))) := by
  refine ev_start (lv0 := [some (.int x1), some (.int x2)]) (by decide +kernel) rfl (Nat.le_of_ble_eq_true rfl) rfl ?_
  refine ev_iload_n dX12_kilograms_0 rfl rfl ?_
  refine ev_iload_n dX12_kilograms_1 rfl rfl ?_
  refine ev_imul dX12_kilograms_2 ?_
  refine ev_iconst (v := 3) dX12_kilograms_3 (by decide) ?_
  refine ev_imul dX12_kilograms_4 ?_
  refine ev_bipush (v := 10) dX12_kilograms_5 (by decide) ?_
  refine ev_idiv dX12_kilograms_7 (by decide) ?_
  have e9 : sp_X12_kilograms x1 x2 = (((x1 * x2) * 3) / 10) := by unfold sp_X12_kilograms; rfl
  exact ev_iret dX12_kilograms_8 rfl rfl ⟨by rw [e9], rfl⟩
def sp_X12_bounded (x1 x2 x3 : Int32) : Int32 :=
  (if x2 ≤ x1 then (if x1 ≤ x3 then x1 else x3) else x2)
theorem c_X12_bounded {G : ev_G} {d : Nat} {g : ev_H} {x1 x2 x3 : Int32} : ev_Cp G d mX12_bounded [.int x1, .int x2, .int x3] g (some (.int (sp_X12_bounded x1 x2 x3))) := by
  refine ev_start (lv0 := [some (.int x1), some (.int x2), some (.int x3)]) (by decide +kernel) rfl (Nat.le_of_ble_eq_true rfl) rfl ?_
  refine ev_iload_n dX12_bounded_0 rfl rfl ?_
  refine ev_iload_n dX12_bounded_1 rfl rfl ?_
  have K_19 : ∀ x9 : Int32, x9 = (if x2 ≤ x1 then (if x1 ≤ x3 then x1 else x3) else x2) → ev_V G d 0 0 mX12_bounded (fun o g' => o = .inl (some (.int (sp_X12_bounded x1 x2 x3))) ∧ g' = g) g 19 [some (.int x1), some (.int x2), some (.int x3)] (.int x9 :: []) := by
    intro x9 h9
    subst h9
    have e9 : sp_X12_bounded x1 x2 x3 = (if x2 ≤ x1 then (if x1 ≤ x3 then x1 else x3) else x2) := by unfold sp_X12_bounded; rfl
    exact ev_iret dX12_bounded_19 rfl rfl ⟨by rw [e9], rfl⟩
  refine ev_icmp_ge (tgt := 9) dX12_bounded_2 (by decide) (fun c_2 => ?_) (fun c_2 => ?_)
  · refine ev_iload_n dX12_bounded_9 rfl rfl ?_
    refine ev_iload_n dX12_bounded_10 rfl rfl ?_
    refine ev_icmp_le (tgt := 18) dX12_bounded_11 (by decide) (fun c_11 => ?_) (fun c_11 => ?_)
    · refine ev_iload_n dX12_bounded_18 rfl rfl ?_
      exact K_19 _ (by rw [if_pos c_2, if_pos c_11])
    · refine ev_iload_n dX12_bounded_14 rfl rfl ?_
      refine ev_goto (tgt := 19) dX12_bounded_15 (by decide) ?_
      exact K_19 _ (by rw [if_pos c_2, if_neg c_11])
  · refine ev_iload_n dX12_bounded_5 rfl rfl ?_
    refine ev_goto (tgt := 19) dX12_bounded_6 (by decide) ?_
    exact K_19 _ (by rw [if_neg c_2])
def sp_X12_worked (x1 x2 x3 : Int32) : Int32 :=
  (if x1 = 2 then (x2 + x3) else (if x1 = 3 then (x2 - x3) else (if x1 = 4 then (x2 * x3) else (if x1 = 5 then (if x3 = 0 then 0 else (x2 / x3)) else (if x1 = 6 then (if x3 ≤ x2 then x3 else x2) else (if x1 = 7 then (if x2 ≤ x3 then x3 else x2) else (if x1 = 8 then (mo_b (if x2 = x3 then true else false)) else (if x1 = 9 then (mo_b (if x3 ≤ x2 then false else true)) else (if x1 = 10 then (mo_b (if x2 ≤ x3 then false else true)) else (mo_b (if x2 = x3 then true else false)))))))))))
theorem c_X12_worked {G : ev_G} {d : Nat} {g : ev_H} {x1 x2 x3 : Int32} : ev_Cp G d mX12_worked [.int x1, .int x2, .int x3] g (some (.int (sp_X12_worked x1 x2 x3))) := by
  refine ev_start (lv0 := [some (.int x1), some (.int x2), some (.int x3)]) (by decide +kernel) rfl (Nat.le_of_ble_eq_true rfl) rfl ?_
  refine ev_iload_n dX12_worked_0 rfl rfl ?_
  by_cases c_1_2 : x1 = 2
  · refine ev_tableIn (tgt := 52) (off := 51) dX12_worked_1 (by rw [c_1_2]; decide) (by rw [c_1_2]; decide) (by rw [c_1_2]; rfl) (by decide) ?_
    refine ev_iload_n dX12_worked_52 rfl rfl ?_
    refine ev_iload_n dX12_worked_53 rfl rfl ?_
    refine ev_iadd dX12_worked_54 ?_
    have e9 : sp_X12_worked x1 x2 x3 = (x2 + x3) := by unfold sp_X12_worked; rw [if_pos c_1_2]
    exact ev_iret dX12_worked_55 rfl rfl ⟨by rw [e9], rfl⟩
  · by_cases c_1_3 : x1 = 3
    · refine ev_tableIn (tgt := 56) (off := 55) dX12_worked_1 (by rw [c_1_3]; decide) (by rw [c_1_3]; decide) (by rw [c_1_3]; rfl) (by decide) ?_
      refine ev_iload_n dX12_worked_56 rfl rfl ?_
      refine ev_iload_n dX12_worked_57 rfl rfl ?_
      refine ev_isub dX12_worked_58 ?_
      have e9 : sp_X12_worked x1 x2 x3 = (x2 - x3) := by unfold sp_X12_worked; rw [if_neg c_1_2, if_pos c_1_3]
      exact ev_iret dX12_worked_59 rfl rfl ⟨by rw [e9], rfl⟩
    · by_cases c_1_4 : x1 = 4
      · refine ev_tableIn (tgt := 60) (off := 59) dX12_worked_1 (by rw [c_1_4]; decide) (by rw [c_1_4]; decide) (by rw [c_1_4]; rfl) (by decide) ?_
        refine ev_iload_n dX12_worked_60 rfl rfl ?_
        refine ev_iload_n dX12_worked_61 rfl rfl ?_
        refine ev_imul dX12_worked_62 ?_
        have e9 : sp_X12_worked x1 x2 x3 = (x2 * x3) := by unfold sp_X12_worked; rw [if_neg c_1_2, if_neg c_1_3, if_pos c_1_4]
        exact ev_iret dX12_worked_63 rfl rfl ⟨by rw [e9], rfl⟩
      · by_cases c_1_5 : x1 = 5
        · refine ev_tableIn (tgt := 64) (off := 63) dX12_worked_1 (by rw [c_1_5]; decide) (by rw [c_1_5]; decide) (by rw [c_1_5]; rfl) (by decide) ?_
          refine ev_iload_n dX12_worked_64 rfl rfl ?_
          have K_75 : ∀ x9 : Int32, x9 = (if x3 = 0 then 0 else (x2 / x3)) → ev_V G d 0 0 mX12_worked (fun o g' => o = .inl (some (.int (sp_X12_worked x1 x2 x3))) ∧ g' = g) g 75 [some (.int x1), some (.int x2), some (.int x3)] (.int x9 :: []) := by
            intro x9 h9
            subst h9
            have e9 : sp_X12_worked x1 x2 x3 = (if x3 = 0 then 0 else (x2 / x3)) := by unfold sp_X12_worked; rw [if_neg c_1_2, if_neg c_1_3, if_neg c_1_4, if_pos c_1_5]
            exact ev_iret dX12_worked_75 rfl rfl ⟨by rw [e9], rfl⟩
          refine ev_if_ne (tgt := 72) dX12_worked_65 (by decide) (fun c_65 => ?_) (fun c_65 => ?_)
          · refine ev_iload_n dX12_worked_72 rfl rfl ?_
            refine ev_iload_n dX12_worked_73 rfl rfl ?_
            refine ev_idiv dX12_worked_74 c_65 ?_
            exact K_75 _ (by rw [if_neg c_65])
          · refine ev_iconst (v := 0) dX12_worked_68 (by decide) ?_
            refine ev_goto (tgt := 75) dX12_worked_69 (by decide) ?_
            exact K_75 _ (by rw [if_pos c_65])
        · by_cases c_1_6 : x1 = 6
          · refine ev_tableIn (tgt := 76) (off := 75) dX12_worked_1 (by rw [c_1_6]; decide) (by rw [c_1_6]; decide) (by rw [c_1_6]; rfl) (by decide) ?_
            refine ev_iload_n dX12_worked_76 rfl rfl ?_
            refine ev_iload_n dX12_worked_77 rfl rfl ?_
            have K_86 : ∀ x9 : Int32, x9 = (if x3 ≤ x2 then x3 else x2) → ev_V G d 0 0 mX12_worked (fun o g' => o = .inl (some (.int (sp_X12_worked x1 x2 x3))) ∧ g' = g) g 86 [some (.int x1), some (.int x2), some (.int x3)] (.int x9 :: []) := by
              intro x9 h9
              subst h9
              have e9 : sp_X12_worked x1 x2 x3 = (if x3 ≤ x2 then x3 else x2) := by unfold sp_X12_worked; rw [if_neg c_1_2, if_neg c_1_3, if_neg c_1_4, if_neg c_1_5, if_pos c_1_6]
              exact ev_iret dX12_worked_86 rfl rfl ⟨by rw [e9], rfl⟩
            refine ev_icmp_ge (tgt := 85) dX12_worked_78 (by decide) (fun c_78 => ?_) (fun c_78 => ?_)
            · refine ev_iload_n dX12_worked_85 rfl rfl ?_
              exact K_86 _ (by rw [if_pos c_78])
            · refine ev_iload_n dX12_worked_81 rfl rfl ?_
              refine ev_goto (tgt := 86) dX12_worked_82 (by decide) ?_
              exact K_86 _ (by rw [if_neg c_78])
          · by_cases c_1_7 : x1 = 7
            · refine ev_tableIn (tgt := 87) (off := 86) dX12_worked_1 (by rw [c_1_7]; decide) (by rw [c_1_7]; decide) (by rw [c_1_7]; rfl) (by decide) ?_
              refine ev_iload_n dX12_worked_87 rfl rfl ?_
              refine ev_iload_n dX12_worked_88 rfl rfl ?_
              have K_97 : ∀ x9 : Int32, x9 = (if x2 ≤ x3 then x3 else x2) → ev_V G d 0 0 mX12_worked (fun o g' => o = .inl (some (.int (sp_X12_worked x1 x2 x3))) ∧ g' = g) g 97 [some (.int x1), some (.int x2), some (.int x3)] (.int x9 :: []) := by
                intro x9 h9
                subst h9
                have e9 : sp_X12_worked x1 x2 x3 = (if x2 ≤ x3 then x3 else x2) := by unfold sp_X12_worked; rw [if_neg c_1_2, if_neg c_1_3, if_neg c_1_4, if_neg c_1_5, if_neg c_1_6, if_pos c_1_7]
                exact ev_iret dX12_worked_97 rfl rfl ⟨by rw [e9], rfl⟩
              refine ev_icmp_le (tgt := 96) dX12_worked_89 (by decide) (fun c_89 => ?_) (fun c_89 => ?_)
              · refine ev_iload_n dX12_worked_96 rfl rfl ?_
                exact K_97 _ (by rw [if_pos c_89])
              · refine ev_iload_n dX12_worked_92 rfl rfl ?_
                refine ev_goto (tgt := 97) dX12_worked_93 (by decide) ?_
                exact K_97 _ (by rw [if_neg c_89])
            · by_cases c_1_8 : x1 = 8
              · refine ev_tableIn (tgt := 120) (off := 119) dX12_worked_1 (by rw [c_1_8]; decide) (by rw [c_1_8]; decide) (by rw [c_1_8]; rfl) (by decide) ?_
                refine ev_iload_n dX12_worked_120 rfl rfl ?_
                refine ev_iload_n dX12_worked_121 rfl rfl ?_
                have K_130 : ∀ x9 : Int32, x9 = (mo_b (if x2 = x3 then true else false)) → ev_V G d 0 0 mX12_worked (fun o g' => o = .inl (some (.int (sp_X12_worked x1 x2 x3))) ∧ g' = g) g 130 [some (.int x1), some (.int x2), some (.int x3)] (.int x9 :: []) := by
                  intro x9 h9
                  subst h9
                  have e9 : sp_X12_worked x1 x2 x3 = (mo_b (if x2 = x3 then true else false)) := by unfold sp_X12_worked; rw [if_neg c_1_2, if_neg c_1_3, if_neg c_1_4, if_neg c_1_5, if_neg c_1_6, if_neg c_1_7, if_pos c_1_8]
                  exact ev_iret dX12_worked_130 rfl rfl ⟨by rw [e9], rfl⟩
                refine ev_icmp_ne (tgt := 129) dX12_worked_122 (by decide) (fun c_122 => ?_) (fun c_122 => ?_)
                · refine ev_iconst (v := 0) dX12_worked_129 (by decide) ?_
                  exact K_130 _ (by rw [if_neg c_122]; rfl)
                · refine ev_iconst (v := 1) dX12_worked_125 (by decide) ?_
                  refine ev_goto (tgt := 130) dX12_worked_126 (by decide) ?_
                  exact K_130 _ (by rw [if_pos c_122]; rfl)
              · by_cases c_1_9 : x1 = 9
                · refine ev_tableIn (tgt := 98) (off := 97) dX12_worked_1 (by rw [c_1_9]; decide) (by rw [c_1_9]; decide) (by rw [c_1_9]; rfl) (by decide) ?_
                  refine ev_iload_n dX12_worked_98 rfl rfl ?_
                  refine ev_iload_n dX12_worked_99 rfl rfl ?_
                  have K_108 : ∀ x9 : Int32, x9 = (mo_b (if x3 ≤ x2 then false else true)) → ev_V G d 0 0 mX12_worked (fun o g' => o = .inl (some (.int (sp_X12_worked x1 x2 x3))) ∧ g' = g) g 108 [some (.int x1), some (.int x2), some (.int x3)] (.int x9 :: []) := by
                    intro x9 h9
                    subst h9
                    have e9 : sp_X12_worked x1 x2 x3 = (mo_b (if x3 ≤ x2 then false else true)) := by unfold sp_X12_worked; rw [if_neg c_1_2, if_neg c_1_3, if_neg c_1_4, if_neg c_1_5, if_neg c_1_6, if_neg c_1_7, if_neg c_1_8, if_pos c_1_9]
                    exact ev_iret dX12_worked_108 rfl rfl ⟨by rw [e9], rfl⟩
                  refine ev_icmp_ge (tgt := 107) dX12_worked_100 (by decide) (fun c_100 => ?_) (fun c_100 => ?_)
                  · refine ev_iconst (v := 0) dX12_worked_107 (by decide) ?_
                    exact K_108 _ (by rw [if_pos c_100]; rfl)
                  · refine ev_iconst (v := 1) dX12_worked_103 (by decide) ?_
                    refine ev_goto (tgt := 108) dX12_worked_104 (by decide) ?_
                    exact K_108 _ (by rw [if_neg c_100]; rfl)
                · by_cases c_1_10 : x1 = 10
                  · refine ev_tableIn (tgt := 109) (off := 108) dX12_worked_1 (by rw [c_1_10]; decide) (by rw [c_1_10]; decide) (by rw [c_1_10]; rfl) (by decide) ?_
                    refine ev_iload_n dX12_worked_109 rfl rfl ?_
                    refine ev_iload_n dX12_worked_110 rfl rfl ?_
                    have K_119 : ∀ x9 : Int32, x9 = (mo_b (if x2 ≤ x3 then false else true)) → ev_V G d 0 0 mX12_worked (fun o g' => o = .inl (some (.int (sp_X12_worked x1 x2 x3))) ∧ g' = g) g 119 [some (.int x1), some (.int x2), some (.int x3)] (.int x9 :: []) := by
                      intro x9 h9
                      subst h9
                      have e9 : sp_X12_worked x1 x2 x3 = (mo_b (if x2 ≤ x3 then false else true)) := by unfold sp_X12_worked; rw [if_neg c_1_2, if_neg c_1_3, if_neg c_1_4, if_neg c_1_5, if_neg c_1_6, if_neg c_1_7, if_neg c_1_8, if_neg c_1_9, if_pos c_1_10]
                      exact ev_iret dX12_worked_119 rfl rfl ⟨by rw [e9], rfl⟩
                    refine ev_icmp_le (tgt := 118) dX12_worked_111 (by decide) (fun c_111 => ?_) (fun c_111 => ?_)
                    · refine ev_iconst (v := 0) dX12_worked_118 (by decide) ?_
                      exact K_119 _ (by rw [if_pos c_111]; rfl)
                    · refine ev_iconst (v := 1) dX12_worked_114 (by decide) ?_
                      refine ev_goto (tgt := 119) dX12_worked_115 (by decide) ?_
                      exact K_119 _ (by rw [if_neg c_111]; rfl)
                  · refine ev_tableOut (tgt := 120) dX12_worked_1 (by have h2 : (x1).toInt ≠ 2 := fun q => c_1_2 (Int32.toInt_inj.mp (by rw [q]; rfl)); have h3 : (x1).toInt ≠ 3 := fun q => c_1_3 (Int32.toInt_inj.mp (by rw [q]; rfl)); have h4 : (x1).toInt ≠ 4 := fun q => c_1_4 (Int32.toInt_inj.mp (by rw [q]; rfl)); have h5 : (x1).toInt ≠ 5 := fun q => c_1_5 (Int32.toInt_inj.mp (by rw [q]; rfl)); have h6 : (x1).toInt ≠ 6 := fun q => c_1_6 (Int32.toInt_inj.mp (by rw [q]; rfl)); have h7 : (x1).toInt ≠ 7 := fun q => c_1_7 (Int32.toInt_inj.mp (by rw [q]; rfl)); have h8 : (x1).toInt ≠ 8 := fun q => c_1_8 (Int32.toInt_inj.mp (by rw [q]; rfl)); have h9 : (x1).toInt ≠ 9 := fun q => c_1_9 (Int32.toInt_inj.mp (by rw [q]; rfl)); have h10 : (x1).toInt ≠ 10 := fun q => c_1_10 (Int32.toInt_inj.mp (by rw [q]; rfl)); omega) (by decide) ?_
                    refine ev_iload_n dX12_worked_120 rfl rfl ?_
                    refine ev_iload_n dX12_worked_121 rfl rfl ?_
                    have K_130 : ∀ x9 : Int32, x9 = (mo_b (if x2 = x3 then true else false)) → ev_V G d 0 0 mX12_worked (fun o g' => o = .inl (some (.int (sp_X12_worked x1 x2 x3))) ∧ g' = g) g 130 [some (.int x1), some (.int x2), some (.int x3)] (.int x9 :: []) := by
                      intro x9 h9
                      subst h9
                      have e9 : sp_X12_worked x1 x2 x3 = (mo_b (if x2 = x3 then true else false)) := by unfold sp_X12_worked; rw [if_neg c_1_2, if_neg c_1_3, if_neg c_1_4, if_neg c_1_5, if_neg c_1_6, if_neg c_1_7, if_neg c_1_8, if_neg c_1_9, if_neg c_1_10]
                      exact ev_iret dX12_worked_130 rfl rfl ⟨by rw [e9], rfl⟩
                    refine ev_icmp_ne (tgt := 129) dX12_worked_122 (by decide) (fun c_122 => ?_) (fun c_122 => ?_)
                    · refine ev_iconst (v := 0) dX12_worked_129 (by decide) ?_
                      exact K_130 _ (by rw [if_neg c_122]; rfl)
                    · refine ev_iconst (v := 1) dX12_worked_125 (by decide) ?_
                      refine ev_goto (tgt := 130) dX12_worked_126 (by decide) ?_
                      exact K_130 _ (by rw [if_pos c_122]; rfl)
def sp_X12_far (x1 x2 : Int32) : Int32 :=
  (if x2 ≤ x1 then (x1 - x2) else (x2 - x1))
theorem c_X12_far {G : ev_G} {d : Nat} {g : ev_H} {x1 x2 : Int32} : ev_Cp G d mX12_far [.int x1, .int x2] g (some (.int (sp_X12_far x1 x2))) := by
  refine ev_start (lv0 := [some (.int x1), some (.int x2)]) (by decide +kernel) rfl (Nat.le_of_ble_eq_true rfl) rfl ?_
  refine ev_iload_n dX12_far_0 rfl rfl ?_
  refine ev_iload_n dX12_far_1 rfl rfl ?_
  have K_14 : ∀ x9 : Int32, x9 = (if x2 ≤ x1 then (x1 - x2) else (x2 - x1)) → ev_V G d 0 0 mX12_far (fun o g' => o = .inl (some (.int (sp_X12_far x1 x2))) ∧ g' = g) g 14 [some (.int x1), some (.int x2)] (.int x9 :: []) := by
    intro x9 h9
    subst h9
    have e9 : sp_X12_far x1 x2 = (if x2 ≤ x1 then (x1 - x2) else (x2 - x1)) := by unfold sp_X12_far; rfl
    exact ev_iret dX12_far_14 rfl rfl ⟨by rw [e9], rfl⟩
  refine ev_icmp_ge (tgt := 11) dX12_far_2 (by decide) (fun c_2 => ?_) (fun c_2 => ?_)
  · refine ev_iload_n dX12_far_11 rfl rfl ?_
    refine ev_iload_n dX12_far_12 rfl rfl ?_
    refine ev_isub dX12_far_13 ?_
    exact K_14 _ (by rw [if_pos c_2])
  · refine ev_iload_n dX12_far_5 rfl rfl ?_
    refine ev_iload_n dX12_far_6 rfl rfl ?_
    refine ev_isub dX12_far_7 ?_
    refine ev_goto (tgt := 14) dX12_far_8 (by decide) ?_
    exact K_14 _ (by rw [if_neg c_2])
end M1
