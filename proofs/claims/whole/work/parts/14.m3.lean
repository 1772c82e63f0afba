section M3
def sp_demand (S : mo_S) (p : Nat) (v : Int32) : Nat → Int32
  | 0 => 0
  | n + 1 => sp_demand S p v n + S.1 25 n * S.1 26 (12 * n + p) * (100 - v) / 10000
theorem c_X12_demandOf {G : ev_G} {W : mo_W} {d : Nat} {S : mo_S} {x1 x2 : Int32} (hE : ev_En G) {Q : Nat} (hQ : S.1 24 0 = nI Q) (hQ2 : Q ≤ 5) {p : Nat} (hp : x1 = nI p) (hp2 : p < 12) : mo_C G W d mX12_demandOf [.int x1, .int x2] S (some (.int (sp_demand S p x2 Q))) S := by
  refine mo_start (lv0 := [some (.ref W.1), some (.int x1), some (.int x2), none, none]) (by decide +kernel) rfl (Nat.le_of_ble_eq_true rfl) rfl ?_
  intro g0 g hT
  refine ev_iconst (v := 0) dX12_demandOf_0 (by decide) ?_
  refine ev_istore_n dX12_demandOf_1 rfl (Nat.le_of_ble_eq_true rfl) rfl ?_
  refine ev_iconst (v := (nI 0)) dX12_demandOf_2 (by decide) ?_
  refine ev_istore dX12_demandOf_3 (Nat.le_of_ble_eq_true rfl) rfl ?_
  have loop : ∀ (n i : Nat), i ≤ Q → Q < i + n → ∀ (x : Int32), x = sp_demand S p x2 i → ∀ g, mo_T G W g0 g S → ev_V G d 0 0 mX12_demandOf (fun o g' => o = .inl (some (.int (sp_demand S p x2 Q))) ∧ mo_T G W g0 g' S) g 5 [some (.ref W.1), some (.int x1), some (.int x2), some (.int x), some (.int (nI i))] [] := by
    intro n
    induction n with
    | zero => intro i h1 h2; exact absurd h2 (by omega)
    | succ n ih =>
      intro i h1 h2 x hx g hT
      refine ev_iload dX12_demandOf_5 rfl ?_
      refine ev_aload_n dX12_demandOf_7 rfl rfl ?_
      refine mo_geti hE hT dX12_demandOf_8 fX12_202 (by decide) ?_
      refine ev_icmp_ge (tgt := 52) dX12_demandOf_11 (by decide) (fun c_11 => ?_) (fun c_11 => ?_)
      · have e : i = Q := by have := mo_ige hQ (by omega) (by omega) c_11; omega
        subst e
        refine ev_iload_n dX12_demandOf_52 rfl rfl ?_
        exact ev_iret dX12_demandOf_53 rfl rfl ⟨by rw [hx], hT⟩
      · have hlt : i < Q := mo_ilt hQ (by omega) (by omega) c_11
        have e12 : 12 * nI i + x1 = nI (12 * i + p) := by rw [hp, show (12 : Int32) = nI 12 from rfl, pk_mul, nI_add]
        refine ev_iload_n dX12_demandOf_14 rfl rfl ?_
        refine ev_aload_n dX12_demandOf_15 rfl rfl ?_
        refine mo_geta hE hT dX12_demandOf_16 fX12_70 (by decide) ?_
        refine ev_iload dX12_demandOf_19 rfl ?_
        refine mo_iald (q := i) hE hT dX12_demandOf_21 (by decide) rfl (show _ < 5 from (by omega)) ?_
        refine ev_aload_n dX12_demandOf_22 rfl rfl ?_
        refine mo_geta hE hT dX12_demandOf_23 fX12_73 (by decide) ?_
        refine ev_bipush (v := 12) dX12_demandOf_26 (by decide) ?_
        refine ev_iload dX12_demandOf_28 rfl ?_
        refine ev_imul dX12_demandOf_30 ?_
        refine ev_iload_n dX12_demandOf_31 rfl rfl ?_
        refine ev_iadd dX12_demandOf_32 ?_
        refine mo_iald (q := (12 * i + p)) hE hT dX12_demandOf_33 (by decide) e12 (show _ < 60 from (by omega)) ?_
        refine ev_imul dX12_demandOf_34 ?_
        refine ev_bipush (v := 100) dX12_demandOf_35 (by decide) ?_
        refine ev_iload_n dX12_demandOf_37 rfl rfl ?_
        refine ev_isub dX12_demandOf_38 ?_
        refine ev_imul dX12_demandOf_39 ?_
        refine ev_sipush (v := 10000) dX12_demandOf_40 (by decide) ?_
        refine ev_idiv dX12_demandOf_43 (by decide) ?_
        refine ev_iadd dX12_demandOf_44 ?_
        refine ev_istore_n dX12_demandOf_45 rfl (Nat.le_of_ble_eq_true rfl) rfl ?_
        refine ev_iinc (v := (nI (i + 1))) dX12_demandOf_46 rfl (by exact nI_1 i) rfl ?_
        refine ev_goto (tgt := 5) dX12_demandOf_49 (by decide) ?_
        exact ih (i + 1) (by omega) (by omega) _ (by rw [hx]; rfl) g hT
  exact loop (Q + 1) 0 (by omega) (by omega) 0 rfl g hT
def sp_many (S : mo_S) (v : Int32) : Nat → Int32
  | 0 => 0
  | n + 1 => sp_many S v n + (if S.1 12 n = v then 1 else 0)
theorem c_X12_paperMany {G : ev_G} {W : mo_W} {d : Nat} {S : mo_S} {x1 : Int32} (hE : ev_En G) {P : Nat} (hP : S.1 1 0 = nI P) (hP2 : P ≤ 12) : mo_C G W d mX12_paperMany [.int x1] S (some (.int (sp_many S x1 P))) S := by
  refine mo_start (lv0 := [some (.ref W.1), some (.int x1), none, none]) (by decide +kernel) rfl (Nat.le_of_ble_eq_true rfl) rfl ?_
  intro g0 g hT
  refine ev_iconst (v := 0) dX12_paperMany_0 (by decide) ?_
  refine ev_istore_n dX12_paperMany_1 rfl (Nat.le_of_ble_eq_true rfl) rfl ?_
  refine ev_iconst (v := (nI 0)) dX12_paperMany_2 (by decide) ?_
  refine ev_istore_n dX12_paperMany_3 rfl (Nat.le_of_ble_eq_true rfl) rfl ?_
  have loop : ∀ (n i : Nat), i ≤ P → P < i + n → ∀ (x : Int32), x = sp_many S x1 i → ∀ g, mo_T G W g0 g S → ev_V G d 0 0 mX12_paperMany (fun o g' => o = .inl (some (.int (sp_many S x1 P))) ∧ mo_T G W g0 g' S) g 4 [some (.ref W.1), some (.int x1), some (.int x), some (.int (nI i))] [] := by
    intro n
    induction n with
    | zero => intro i h1 h2; exact absurd h2 (by omega)
    | succ n ih =>
      intro i h1 h2 x hx g hT
      refine ev_iload_n dX12_paperMany_4 rfl rfl ?_
      refine ev_aload_n dX12_paperMany_5 rfl rfl ?_
      refine mo_geti hE hT dX12_paperMany_6 fX12_185 (by decide) ?_
      refine ev_icmp_ge (tgt := 36) dX12_paperMany_9 (by decide) (fun c_9 => ?_) (fun c_9 => ?_)
      · have e : i = P := by have := mo_ige hP (by omega) (by omega) c_9; omega
        subst e
        refine ev_iload_n dX12_paperMany_36 rfl rfl ?_
        exact ev_iret dX12_paperMany_37 rfl rfl ⟨by rw [hx], hT⟩
      · have hlt : i < P := mo_ilt hP (by omega) (by omega) c_9
        refine ev_iload_n dX12_paperMany_12 rfl rfl ?_
        refine ev_aload_n dX12_paperMany_13 rfl rfl ?_
        refine mo_geta hE hT dX12_paperMany_14 fX12_37 (by decide) ?_
        refine ev_iload_n dX12_paperMany_17 rfl rfl ?_
        refine mo_iald (q := i) hE hT dX12_paperMany_18 (by decide) rfl (show _ < 12 from (by omega)) ?_
        refine ev_iload_n dX12_paperMany_19 rfl rfl ?_
        have K_28 : ∀ (g : ev_H) (hT : mo_T G W g0 g S), ∀ x9 : Int32, x9 = (mo_b (if (S.1 12 i) = x1 then true else false)) → ev_V G d 0 0 mX12_paperMany (fun o g' => o = .inl (some (.int (sp_many S x1 P))) ∧ mo_T G W g0 g' S) g 28 [some (.ref W.1), some (.int x1), some (.int x), some (.int (nI i))] (.int x9 :: .int x :: []) := by
          intro g hT x9 h9
          subst h9
          refine ev_iadd dX12_paperMany_28 ?_
          refine ev_istore_n dX12_paperMany_29 rfl (Nat.le_of_ble_eq_true rfl) rfl ?_
          refine ev_iinc (v := (nI (i + 1))) dX12_paperMany_30 rfl (by exact nI_1 i) rfl ?_
          refine ev_goto (tgt := 4) dX12_paperMany_33 (by decide) ?_
          exact ih (i + 1) (by omega) (by omega) _ (by rw [hx]; simp only [sp_many, mo_b]; split <;> rfl) g hT
        refine ev_icmp_ne (tgt := 27) dX12_paperMany_20 (by decide) (fun c_20 => ?_) (fun c_20 => ?_)
        · refine ev_iconst (v := 0) dX12_paperMany_27 (by decide) ?_
          exact K_28 g hT _ (by rw [if_neg c_20]; rfl)
        · refine ev_iconst (v := 1) dX12_paperMany_23 (by decide) ?_
          refine ev_goto (tgt := 28) dX12_paperMany_24 (by decide) ?_
          exact K_28 g hT _ (by rw [if_pos c_20]; rfl)
  exact loop (P + 1) 0 (by omega) (by omega) 0 rfl g hT
/-- the number of the order in force in month m among the first n; none at first -/
def sp_force (S : mo_S) (m : Int32) : Nat → Option Nat
  | 0 => none
  | n + 1 => if m < S.1 36 n then sp_force S m n else match sp_force S m n with
    | none => some n
    | some b => if S.1 36 n < S.1 36 b then some b else some n
def sp_opt : Option Nat → Int32
  | none => -1
  | some k => nI k
theorem sp_force_lt {S : mo_S} {m : Int32} : ∀ {n b : Nat}, sp_force S m n = some b → b < n
  | 0, b, h => by cases h
  | n + 1, b, h => by
    unfold sp_force at h
    split at h
    · have := sp_force_lt h; omega
    · split at h
      · cases h; omega
      · rename_i b2 hb
        have := sp_force_lt hb
        split at h <;> cases h <;> omega
theorem sp_opt_neg {x : Option Nat} (h : ∀ b, x = some b → b < 2147483648) : sp_opt x < 0 ↔ x = none := by
  cases x with
  | none => exact ⟨fun _ => rfl, fun _ => by decide⟩
  | some b => exact ⟨fun q => absurd q (nI_pos (h b rfl)), fun q => by cases q⟩
theorem c_X12_forceIn {G : ev_G} {W : mo_W} {d : Nat} {S : mo_S} {x1 : Int32} (hE : ev_En G) {O : Nat} (hO : S.1 29 0 = nI O) (hO2 : O ≤ 10) : mo_C G W d mX12_forceIn [.int x1] S (some (.int (sp_opt (sp_force S x1 O)))) S := by
  refine mo_start (lv0 := [some (.ref W.1), some (.int x1), none, none]) (by decide +kernel) rfl (Nat.le_of_ble_eq_true rfl) rfl ?_
  intro g0 g hT
  refine ev_iconst (v := (-1)) dX12_forceIn_0 (by decide) ?_
  refine ev_istore_n dX12_forceIn_1 rfl (Nat.le_of_ble_eq_true rfl) rfl ?_
  refine ev_iconst (v := (nI 0)) dX12_forceIn_2 (by decide) ?_
  refine ev_istore_n dX12_forceIn_3 rfl (Nat.le_of_ble_eq_true rfl) rfl ?_
  have loop : ∀ (n i : Nat), i ≤ O → O < i + n → ∀ (u : Unit), u = () → ∀ g, mo_T G W g0 g S → ev_V G d 0 0 mX12_forceIn (fun o g' => o = .inl (some (.int (sp_opt (sp_force S x1 O)))) ∧ mo_T G W g0 g' S) g 4 [some (.ref W.1), some (.int x1), some (.int (sp_opt (sp_force S x1 i))), some (.int (nI i))] [] := by
    intro n
    induction n with
    | zero => intro i h1 h2; exact absurd h2 (by omega)
    | succ n ih =>
      intro i h1 h2 u hx g hT
      refine ev_iload_n dX12_forceIn_4 rfl rfl ?_
      refine ev_aload_n dX12_forceIn_5 rfl rfl ?_
      refine mo_geti hE hT dX12_forceIn_6 fX12_289 (by decide) ?_
      refine ev_icmp_ge (tgt := 49) dX12_forceIn_9 (by decide) (fun c_9 => ?_) (fun c_9 => ?_)
      · have e : i = O := by have := mo_ige hO (by omega) (by omega) c_9; omega
        subst e
        refine ev_iload_n dX12_forceIn_49 rfl rfl ?_
        exact ev_iret dX12_forceIn_50 rfl rfl ⟨rfl, hT⟩
      · have hlt : i < O := mo_ilt hO (by omega) (by omega) c_9
        have hl9 : ∀ b, sp_force S x1 i = some b → b < 2147483648 := fun b q => by have := sp_force_lt q; omega
        refine ev_aload_n dX12_forceIn_12 rfl rfl ?_
        refine mo_geta hE hT dX12_forceIn_13 fX12_84 (by decide) ?_
        refine ev_iload_n dX12_forceIn_16 rfl rfl ?_
        refine mo_iald (q := i) hE hT dX12_forceIn_17 (by decide) rfl (show _ < 10 from (by omega)) ?_
        refine ev_iload_n dX12_forceIn_18 rfl rfl ?_
        refine ev_icmp_gt (tgt := 43) dX12_forceIn_19 (by decide) (fun c_19 => ?_) (fun c_19 => ?_)
        · refine ev_iinc (v := (nI (i + 1))) dX12_forceIn_43 rfl (by exact nI_1 i) rfl ?_
          refine ev_goto (tgt := 4) dX12_forceIn_46 (by decide) ?_
          have e7 : sp_force S x1 (i + 1) = _ := rfl
          have e8 : ∀ z, z = sp_opt (sp_force S x1 (i + 1)) → ev_V G d 0 0 mX12_forceIn (fun o g' => o = .inl (some (.int (sp_opt (sp_force S x1 O)))) ∧ mo_T G W g0 g' S) g 4 [some (.ref W.1), some (.int x1), some (.int z), some (.int (nI (i + 1)))] [] := fun z hz => by subst hz; exact ih (i + 1) (by omega) (by omega) () rfl g hT
          refine e8 _ ?_
          rw [show sp_force S x1 (i + 1) = (if x1 < S.1 36 i then sp_force S x1 i else match sp_force S x1 i with | none => some i | some b => if S.1 36 i < S.1 36 b then some b else some i) from rfl]
          first
            | rw [if_pos c_19]
            | (rw [if_neg c_19, hb]; first | (show _ = sp_opt (if _ then _ else _); rw [if_pos c_38]; try rfl) | (show _ = sp_opt (if _ then _ else _); rw [if_neg c_38]; try rfl))
            | (rw [if_neg c_19, (sp_opt_neg hl9).mp c_23]; try rfl)
        · refine ev_iload_n dX12_forceIn_22 rfl rfl ?_
          refine ev_if_lt (tgt := 41) dX12_forceIn_23 (by decide) (fun c_23 => ?_) (fun c_23 => ?_)
          · refine ev_iload_n dX12_forceIn_41 rfl rfl ?_
            refine ev_istore_n dX12_forceIn_42 rfl (Nat.le_of_ble_eq_true rfl) rfl ?_
            refine ev_iinc (v := (nI (i + 1))) dX12_forceIn_43 rfl (by exact nI_1 i) rfl ?_
            refine ev_goto (tgt := 4) dX12_forceIn_46 (by decide) ?_
            have e7 : sp_force S x1 (i + 1) = _ := rfl
            have e8 : ∀ z, z = sp_opt (sp_force S x1 (i + 1)) → ev_V G d 0 0 mX12_forceIn (fun o g' => o = .inl (some (.int (sp_opt (sp_force S x1 O)))) ∧ mo_T G W g0 g' S) g 4 [some (.ref W.1), some (.int x1), some (.int z), some (.int (nI (i + 1)))] [] := fun z hz => by subst hz; exact ih (i + 1) (by omega) (by omega) () rfl g hT
            refine e8 _ ?_
            rw [show sp_force S x1 (i + 1) = (if x1 < S.1 36 i then sp_force S x1 i else match sp_force S x1 i with | none => some i | some b => if S.1 36 i < S.1 36 b then some b else some i) from rfl]
            first
              | rw [if_pos c_19]
              | (rw [if_neg c_19, hb]; first | (show _ = sp_opt (if _ then _ else _); rw [if_pos c_38]; try rfl) | (show _ = sp_opt (if _ then _ else _); rw [if_neg c_38]; try rfl))
              | (rw [if_neg c_19, (sp_opt_neg hl9).mp c_23]; try rfl)
          · obtain ⟨b, hb⟩ : ∃ b, sp_force S x1 i = some b := by
              cases hq : sp_force S x1 i with
              | none => exact absurd ((sp_opt_neg hl9).mpr hq) c_23
              | some b => exact ⟨b, rfl⟩
            have hb2 := sp_force_lt hb
            refine ev_aload_n dX12_forceIn_26 rfl rfl ?_
            refine mo_geta hE hT dX12_forceIn_27 fX12_84 (by decide) ?_
            refine ev_iload_n dX12_forceIn_30 rfl rfl ?_
            refine mo_iald (q := i) hE hT dX12_forceIn_31 (by decide) rfl (show _ < 10 from (by omega)) ?_
            refine ev_aload_n dX12_forceIn_32 rfl rfl ?_
            refine mo_geta hE hT dX12_forceIn_33 fX12_84 (by decide) ?_
            refine ev_iload_n dX12_forceIn_36 rfl rfl ?_
            refine mo_iald (q := b) hE hT dX12_forceIn_37 (by decide) (by rw [hb]; rfl) (show _ < 10 from (by omega)) ?_
            refine ev_icmp_lt (tgt := 43) dX12_forceIn_38 (by decide) (fun c_38 => ?_) (fun c_38 => ?_)
            · refine ev_iinc (v := (nI (i + 1))) dX12_forceIn_43 rfl (by exact nI_1 i) rfl ?_
              refine ev_goto (tgt := 4) dX12_forceIn_46 (by decide) ?_
              have e7 : sp_force S x1 (i + 1) = _ := rfl
              have e8 : ∀ z, z = sp_opt (sp_force S x1 (i + 1)) → ev_V G d 0 0 mX12_forceIn (fun o g' => o = .inl (some (.int (sp_opt (sp_force S x1 O)))) ∧ mo_T G W g0 g' S) g 4 [some (.ref W.1), some (.int x1), some (.int z), some (.int (nI (i + 1)))] [] := fun z hz => by subst hz; exact ih (i + 1) (by omega) (by omega) () rfl g hT
              refine e8 _ ?_
              rw [show sp_force S x1 (i + 1) = (if x1 < S.1 36 i then sp_force S x1 i else match sp_force S x1 i with | none => some i | some b => if S.1 36 i < S.1 36 b then some b else some i) from rfl]
              first
                | rw [if_pos c_19]
                | (rw [if_neg c_19, hb]; first | (show _ = sp_opt (if _ then _ else _); rw [if_pos c_38]; try rfl) | (show _ = sp_opt (if _ then _ else _); rw [if_neg c_38]; try rfl))
                | (rw [if_neg c_19, (sp_opt_neg hl9).mp c_23]; try rfl)
            · refine ev_iload_n dX12_forceIn_41 rfl rfl ?_
              refine ev_istore_n dX12_forceIn_42 rfl (Nat.le_of_ble_eq_true rfl) rfl ?_
              refine ev_iinc (v := (nI (i + 1))) dX12_forceIn_43 rfl (by exact nI_1 i) rfl ?_
              refine ev_goto (tgt := 4) dX12_forceIn_46 (by decide) ?_
              have e7 : sp_force S x1 (i + 1) = _ := rfl
              have e8 : ∀ z, z = sp_opt (sp_force S x1 (i + 1)) → ev_V G d 0 0 mX12_forceIn (fun o g' => o = .inl (some (.int (sp_opt (sp_force S x1 O)))) ∧ mo_T G W g0 g' S) g 4 [some (.ref W.1), some (.int x1), some (.int z), some (.int (nI (i + 1)))] [] := fun z hz => by subst hz; exact ih (i + 1) (by omega) (by omega) () rfl g hT
              refine e8 _ ?_
              rw [show sp_force S x1 (i + 1) = (if x1 < S.1 36 i then sp_force S x1 i else match sp_force S x1 i with | none => some i | some b => if S.1 36 i < S.1 36 b then some b else some i) from rfl]
              first
                | rw [if_pos c_19]
                | (rw [if_neg c_19, hb]; first | (show _ = sp_opt (if _ then _ else _); rw [if_pos c_38]; try rfl) | (show _ = sp_opt (if _ then _ else _); rw [if_neg c_38]; try rfl))
                | (rw [if_neg c_19, (sp_opt_neg hl9).mp c_23]; try rfl)
  exact loop (O + 1) 0 (by omega) (by omega) () rfl g hT
end M3
