section M3
def sp_demand (S : mo_S) (p : Nat) (v : Int32) : Nat → Int32
  | 0 => 0
  | n + 1 => sp_demand S p v n + S.1 25 n * S.1 26 (12 * n + p) * (100 - v) / 10000
theorem c_X12_demandOf {G : ev_G} {W : mo_W} {d : Nat} {S : mo_S} {x1 x2 : Int32} (hE : ev_En G) {Q : Nat} (hQ : S.1 24 0 = nI Q) (hQ2 : Q ≤ 5) {p : Nat} (hp : x1 = nI p) (hp2 : p < 12) : mo_C G W d mX12_demandOf [.int x1, .int x2] S (some (.int (sp_demand S p x2 Q))) S := by
  refine mo_start (lv0 := [some (.ref W.1), some (.int x1), some (.int x2), none, none]) (by decide +kernel) rfl (Nat.le_of_ble_eq_true rfl) rfl ?_
  intro g0 g hT
  refine ev_iconst (v := 0) dX12_demandOf_0 (by decide) ?_
  refine ev_istore_n dX12_demandOf_1 rfl (Nat.le_of_ble_eq_true rfl) rfl ?_
  refine ev_iconst (v := (nI 0)) dX12_demandOf_2 (by decide) ?_
  refine ev_istore dX12_demandOf_3 (Nat.le_of_ble_eq_true rfl) rfl ?_
  have loop : ∀ (n i : Nat), i ≤ Q → Q < i + n → ∀ (x : Int32), x = sp_demand S p x2 i → ∀ g, mo_T G W g0 g S → ev_V G d 0 0 mX12_demandOf (fun o g' => o = .inl (some (.int (sp_demand S p x2 Q))) ∧ mo_T G W g0 g' S) g 5 [some (.ref W.1), some (.int x1), some (.int x2), some (.int x), some (.int (nI i))] [] := by
    intro n
    induction n with
    | zero => intro i h1 h2; exact absurd h2 (by omega)
    | succ n ih =>
      intro i h1 h2 x hx g hT
      refine ev_iload dX12_demandOf_5 rfl ?_
      refine ev_aload_n dX12_demandOf_7 rfl rfl ?_
      refine mo_geti hE hT dX12_demandOf_8 fX12_202 (by decide) ?_
      refine ev_icmp_ge (tgt := 52) dX12_demandOf_11 (by decide) (fun c_11 => ?_) (fun c_11 => ?_)
      · have e : i = Q := by have := mo_ige hQ (by omega) (by omega) c_11; omega
        subst e
        refine ev_iload_n dX12_demandOf_52 rfl rfl ?_
        exact ev_iret dX12_demandOf_53 rfl rfl ⟨by rw [hx], hT⟩
      · have hlt : i < Q := mo_ilt hQ (by omega) (by omega) c_11
        have e12 : 12 * nI i + x1 = nI (12 * i + p) := by rw [hp, show (12 : Int32) = nI 12 from rfl, pk_mul, nI_add]
        refine ev_iload_n dX12_demandOf_14 rfl rfl ?_
        refine ev_aload_n dX12_demandOf_15 rfl rfl ?_
        refine mo_geta hE hT dX12_demandOf_16 fX12_70 (by decide) ?_
        refine ev_iload dX12_demandOf_19 rfl ?_
        refine mo_iald (q := i) hE hT dX12_demandOf_21 (by decide) rfl (show _ < 5 from (by omega)) ?_
        refine ev_aload_n dX12_demandOf_22 rfl rfl ?_
        refine mo_geta hE hT dX12_demandOf_23 fX12_73 (by decide) ?_
        refine ev_bipush (v := 12) dX12_demandOf_26 (by decide) ?_
        refine ev_iload dX12_demandOf_28 rfl ?_
        refine ev_imul dX12_demandOf_30 ?_
        refine ev_iload_n dX12_demandOf_31 rfl rfl ?_
        refine ev_iadd dX12_demandOf_32 ?_
        refine mo_iald (q := (12 * i + p)) hE hT dX12_demandOf_33 (by decide) e12 (show _ < 60 from (by omega)) ?_
        refine ev_imul dX12_demandOf_34 ?_
        refine ev_bipush (v := 100) dX12_demandOf_35 (by decide) ?_
        refine ev_iload_n dX12_demandOf_37 rfl rfl ?_
        refine ev_isub dX12_demandOf_38 ?_
        refine ev_imul dX12_demandOf_39 ?_
        refine ev_sipush (v := 10000) dX12_demandOf_40 (by decide) ?_
        refine ev_idiv dX12_demandOf_43 (by decide) ?_
        refine ev_iadd dX12_demandOf_44 ?_
        refine ev_istore_n dX12_demandOf_45 rfl (Nat.le_of_ble_eq_true rfl) rfl ?_
        refine ev_iinc (v := (nI (i + 1))) dX12_demandOf_46 rfl (by exact nI_1 i) rfl ?_
        refine ev_goto (tgt := 5) dX12_demandOf_49 (by decide) ?_
        exact ih (i + 1) (by omega) (by omega) _ (by rw [hx]; rfl) g hT
  exact loop (Q + 1) 0 (by omega) (by omega) 0 rfl g hT
def sp_many (S : mo_S) (v : Int32) : Nat → Int32
  | 0 => 0
  | n + 1 => sp_many S v n + (if S.1 12 n = v then 1 else 0)
theorem c_X12_paperMany {G : ev_G} {W : mo_W} {d : Nat} {S : mo_S} {x1 : Int32} (hE : ev_En G) {P : Nat} (hP : S.1 1 0 = nI P) (hP2 : P ≤ 12) : mo_C G W d mX12_paperMany [.int x1] S (some (.int (sp_many S x1 P))) S := by
  refine mo_start (lv0 := [some (.ref W.1), some (.int x1), none, none]) (by decide +kernel) rfl (Nat.le_of_ble_eq_true rfl) rfl ?_
  intro g0 g hT
  refine ev_iconst (v := 0) dX12_paperMany_0 (by decide) ?_
  refine ev_istore_n dX12_paperMany_1 rfl (Nat.le_of_ble_eq_true rfl) rfl ?_
  refine ev_iconst (v := (nI 0)) dX12_paperMany_2 (by decide) ?_
  refine ev_istore_n dX12_paperMany_3 rfl (Nat.le_of_ble_eq_true rfl) rfl ?_
  have loop : ∀ (n i : Nat), i ≤ P → P < i + n → ∀ (x : Int32), x = sp_many S x1 i → ∀ g, mo_T G W g0 g S → ev_V G d 0 0 mX12_paperMany (fun o g' => o = .inl (some (.int (sp_many S x1 P))) ∧ mo_T G W g0 g' S) g 4 [some (.ref W.1), some (.int x1), some (.int x), some (.int (nI i))] [] := by
    intro n
    induction n with
    | zero => intro i h1 h2; exact absurd h2 (by omega)
    | succ n ih =>
      intro i h1 h2 x hx g hT
      refine ev_iload_n dX12_paperMany_4 rfl rfl ?_
      refine ev_aload_n dX12_paperMany_5 rfl rfl ?_
      refine mo_geti hE hT dX12_paperMany_6 fX12_185 (by decide) ?_
      refine ev_icmp_ge (tgt := 36) dX12_paperMany_9 (by decide) (fun c_9 => ?_) (fun c_9 => ?_)
      · have e : i = P := by have := mo_ige hP (by omega) (by omega) c_9; omega
        subst e
        refine ev_iload_n dX12_paperMany_36 rfl rfl ?_
        exact ev_iret dX12_paperMany_37 rfl rfl ⟨by rw [hx], hT⟩
      · have hlt : i < P := mo_ilt hP (by omega) (by omega) c_9
        refine ev_iload_n dX12_paperMany_12 rfl rfl ?_
        refine ev_aload_n dX12_paperMany_13 rfl rfl ?_
        refine mo_geta hE hT dX12_paperMany_14 fX12_37 (by decide) ?_
        refine ev_iload_n dX12_paperMany_17 rfl rfl ?_
        refine mo_iald (q := i) hE hT dX12_paperMany_18 (by decide) rfl (show _ < 12 from (by omega)) ?_
        refine ev_iload_n dX12_paperMany_19 rfl rfl ?_
        have K_28 : ∀ (g : ev_H) (hT : mo_T G W g0 g S), ∀ x9 : Int32, x9 = (mo_b (if (S.1 12 i) = x1 then true else false)) → ev_V G d 0 0 mX12_paperMany (fun o g' => o = .inl (some (.int (sp_many S x1 P))) ∧ mo_T G W g0 g' S) g 28 [some (.ref W.1), some (.int x1), some (.int x), some (.int (nI i))] (.int x9 :: .int x :: []) := by
          intro g hT x9 h9
          subst h9
          refine ev_iadd dX12_paperMany_28 ?_
          refine ev_istore_n dX12_paperMany_29 rfl (Nat.le_of_ble_eq_true rfl) rfl ?_
          refine ev_iinc (v := (nI (i + 1))) dX12_paperMany_30 rfl (by exact nI_1 i) rfl ?_
          refine ev_goto (tgt := 4) dX12_paperMany_33 (by decide) ?_
          exact ih (i + 1) (by omega) (by omega) _ (by rw [hx]; simp only [sp_many, mo_b]; split <;> rfl) g hT
        refine ev_icmp_ne (tgt := 27) dX12_paperMany_20 (by decide) (fun c_20 => ?_) (fun c_20 => ?_)
        · refine ev_iconst (v := 0) dX12_paperMany_27 (by decide) ?_
          exact K_28 g hT _ (by rw [if_neg c_20]; rfl)
        · refine ev_iconst (v := 1) dX12_paperMany_23 (by decide) ?_
          refine ev_goto (tgt := 28) dX12_paperMany_24 (by decide) ?_
          exact K_28 g hT _ (by rw [if_pos c_20]; rfl)
  exact loop (P + 1) 0 (by omega) (by omega) 0 rfl g hT
/-- the number of the order in force in month m among the first n; none at first -/
def sp_force (S : mo_S) (m : Int32) : Nat → Option Nat
  | 0 => none
  | n + 1 => if m < S.1 36 n then sp_force S m n else match sp_force S m n with
    | none => some n
    | some b => if S.1 36 n < S.1 36 b then some b else some n
def sp_opt : Option Nat → Int32
  | none => -1
  | some k => nI k
theorem sp_force_lt {S : mo_S} {m : Int32} : ∀ {n b : Nat}, sp_force S m n = some b → b < n
  | 0, b, h => by cases h
  | n + 1, b, h => by
    unfold sp_force at h
    split at h
    · have := sp_force_lt h; omega
    · split at h
      · cases h; omega
      · rename_i b2 hb
        have := sp_force_lt hb
        split at h <;> cases h <;> omega
theorem sp_opt_neg {x : Option Nat} (h : ∀ b, x = some b → b < 2147483648) : sp_opt x < 0 ↔ x = none := by
  cases x with
  | none => exact ⟨fun _ => rfl, fun _ => by decide⟩
  | some b => exact ⟨fun q => absurd q (nI_pos (h b rfl)), fun q => by cases q⟩
theorem c_X12_forceIn {G : ev_G} {W : mo_W} {d : Nat} {S : mo_S} {x1 : Int32} (hE : ev_En G) {O : Nat} (hO : S.1 29 0 = nI O) (hO2 : O ≤ 10) : mo_C G W d mX12_forceIn [.int x1] S (some (.int (sp_opt (sp_force S x1 O)))) S := by
  refine mo_start (lv0 := [some (.ref W.1), some (.int x1), none, none]) (by decide +kernel) rfl (Nat.le_of_ble_eq_true rfl) rfl ?_
  intro g0 g hT
  refine ev_iconst (v := (-1)) dX12_forceIn_0 (by decide) ?_
  refine ev_istore_n dX12_forceIn_1 rfl (Nat.le_of_ble_eq_true rfl) rfl ?_
  refine ev_iconst (v := (nI 0)) dX12_forceIn_2 (by decide) ?_
  refine ev_istore_n dX12_forceIn_3 rfl (Nat.le_of_ble_eq_true rfl) rfl ?_
  have loop : ∀ (n i : Nat), i ≤ O → O < i + n → ∀ (u : Unit), u = () → ∀ g, mo_T G W g0 g S → ev_V G d 0 0 mX12_forceIn (fun o g' => o = .inl (some (.int (sp_opt (sp_force S x1 O)))) ∧ mo_T G W g0 g' S) g 4 [some (.ref W.1), some (.int x1), some (.int (sp_opt (sp_force S x1 i))), some (.int (nI i))] [] := by
    intro n
    induction n with
    | zero => intro i h1 h2; exact absurd h2 (by omega)
    | succ n ih =>
      intro i h1 h2 u hx g hT
      refine ev_iload_n dX12_forceIn_4 rfl rfl ?_
      refine ev_aload_n dX12_forceIn_5 rfl rfl ?_
      refine mo_geti hE hT dX12_forceIn_6 fX12_289 (by decide) ?_
      refine ev_icmp_ge (tgt := 49) dX12_forceIn_9 (by decide) (fun c_9 => ?_) (fun c_9 => ?_)
      · have e : i = O := by have := mo_ige hO (by omega) (by omega) c_9; omega
        subst e
        refine ev_iload_n dX12_forceIn_49 rfl rfl ?_
        exact ev_iret dX12_forceIn_50 rfl rfl ⟨rfl, hT⟩
      · have hlt : i < O := mo_ilt hO (by omega) (by omega) c_9
        have hl9 : ∀ b, sp_force S x1 i = some b → b < 2147483648 := fun b q => by have := sp_force_lt q; omega
        refine ev_aload_n dX12_forceIn_12 rfl rfl ?_
        refine mo_geta hE hT dX12_forceIn_13 fX12_84 (by decide) ?_
        refine ev_iload_n dX12_forceIn_16 rfl rfl ?_
        refine mo_iald (q := i) hE hT dX12_forceIn_17 (by decide) rfl (show _ < 10 from (by omega)) ?_
        refine ev_iload_n dX12_forceIn_18 rfl rfl ?_
        refine ev_icmp_gt (tgt := 43) dX12_forceIn_19 (by decide) (fun c_19 => ?_) (fun c_19 => ?_)
        · refine ev_iinc (v := (nI (i + 1))) dX12_forceIn_43 rfl (by exact nI_1 i) rfl ?_
          refine ev_goto (tgt := 4) dX12_forceIn_46 (by decide) ?_
          have e7 : sp_force S x1 (i + 1) = _ := rfl
          have e8 : ∀ z, z = sp_opt (sp_force S x1 (i + 1)) → ev_V G d 0 0 mX12_forceIn (fun o g' => o = .inl (some (.int (sp_opt (sp_force S x1 O)))) ∧ mo_T G W g0 g' S) g 4 [some (.ref W.1), some (.int x1), some (.int z), some (.int (nI (i + 1)))] [] := fun z hz => by subst hz; exact ih (i + 1) (by omega) (by omega) () rfl g hT
          refine e8 _ ?_
          rw [show sp_force S x1 (i + 1) = (if x1 < S.1 36 i then sp_force S x1 i else match sp_force S x1 i with | none => some i | some b => if S.1 36 i < S.1 36 b then some b else some i) from rfl]
          first
            | rw [if_pos c_19]
            | (rw [if_neg c_19, hb]; first | (show _ = sp_opt (if _ then _ else _); rw [if_pos c_38]; try rfl) | (show _ = sp_opt (if _ then _ else _); rw [if_neg c_38]; try rfl))
            | (rw [if_neg c_19, (sp_opt_neg hl9).mp c_23]; try rfl)
        · refine ev_iload_n dX12_forceIn_22 rfl rfl ?_
          refine ev_if_lt (tgt := 41) dX12_forceIn_23 (by decide) (fun c_23 => ?_) (fun c_23 => ?_)
          · refine ev_iload_n dX12_forceIn_41 rfl rfl ?_
            refine ev_istore_n dX12_forceIn_42 rfl (Nat.le_of_ble_eq_true rfl) rfl ?_
            refine ev_iinc (v := (nI (i + 1))) dX12_forceIn_43 rfl (by exact nI_1 i) rfl ?_
            refine ev_goto (tgt := 4) dX12_forceIn_46 (by decide) ?_
            have e7 : sp_force S x1 (i + 1) = _ := rfl
            have e8 : ∀ z, z = sp_opt (sp_force S x1 (i + 1)) → ev_V G d 0 0 mX12_forceIn (fun o g' => o = .inl (some (.int (sp_opt (sp_force S x1 O)))) ∧ mo_T G W g0 g' S) g 4 [some (.ref W.1), some (.int x1), some (.int z), some (.int (nI (i + 1)))] [] := fun z hz => by subst hz; exact ih (i + 1) (by omega) (by omega) () rfl g hT
            refine e8 _ ?_
            rw [show sp_force S x1 (i + 1) = (if x1 < S.1 36 i then sp_force S x1 i else match sp_force S x1 i with | none => some i | some b => if S.1 36 i < S.1 36 b then some b else some i) from rfl]
            first
              | rw [if_pos c_19]
              | (rw [if_neg c_19, hb]; first | (show _ = sp_opt (if _ then _ else _); rw [if_pos c_38]; try rfl) | (show _ = sp_opt (if _ then _ else _); rw [if_neg c_38]; try rfl))
              | (rw [if_neg c_19, (sp_opt_neg hl9).mp c_23]; try rfl)
          · obtain ⟨b, hb⟩ : ∃ b, sp_force S x1 i = some b := by
              cases hq : sp_force S x1 i with
              | none => exact absurd ((sp_opt_neg hl9).mpr hq) c_23
              | some b => exact ⟨b, rfl⟩
            have hb2 := sp_force_lt hb
            refine ev_aload_n dX12_forceIn_26 rfl rfl ?_
            refine mo_geta hE hT dX12_forceIn_27 fX12_84 (by decide) ?_
            refine ev_iload_n dX12_forceIn_30 rfl rfl ?_
            refine mo_iald (q := i) hE hT dX12_forceIn_31 (by decide) rfl (show _ < 10 from (by omega)) ?_
            refine ev_aload_n dX12_forceIn_32 rfl rfl ?_
            refine mo_geta hE hT dX12_forceIn_33 fX12_84 (by decide) ?_
            refine ev_iload_n dX12_forceIn_36 rfl rfl ?_
            refine mo_iald (q := b) hE hT dX12_forceIn_37 (by decide) (by rw [hb]; rfl) (show _ < 10 from (by omega)) ?_
            refine ev_icmp_lt (tgt := 43) dX12_forceIn_38 (by decide) (fun c_38 => ?_) (fun c_38 => ?_)
            · refine ev_iinc (v := (nI (i + 1))) dX12_forceIn_43 rfl (by exact nI_1 i) rfl ?_
              refine ev_goto (tgt := 4) dX12_forceIn_46 (by decide) ?_
              have e7 : sp_force S x1 (i + 1) = _ := rfl
              have e8 : ∀ z, z = sp_opt (sp_force S x1 (i + 1)) → ev_V G d 0 0 mX12_forceIn (fun o g' => o = .inl (some (.int (sp_opt (sp_force S x1 O)))) ∧ mo_T G W g0 g' S) g 4 [some (.ref W.1), some (.int x1), some (.int z), some (.int (nI (i + 1)))] [] := fun z hz => by subst hz; exact ih (i + 1) (by omega) (by omega) () rfl g hT
              refine e8 _ ?_
              rw [show sp_force S x1 (i + 1) = (if x1 < S.1 36 i then sp_force S x1 i else match sp_force S x1 i with | none => some i | some b => if S.1 36 i < S.1 36 b then some b else some i) from rfl]
              first
                | rw [if_pos c_19]
                | (rw [if_neg c_19, hb]; first | (show _ = sp_opt (if _ then _ else _); rw [if_pos c_38]; try rfl) | (show _ = sp_opt (if _ then _ else _); rw [if_neg c_38]; try rfl))
                | (rw [if_neg c_19, (sp_opt_neg hl9).mp c_23]; try rfl)
            · refine ev_iload_n dX12_forceIn_41 rfl rfl ?_
              refine ev_istore_n dX12_forceIn_42 rfl (Nat.le_of_ble_eq_true rfl) rfl ?_
              refine ev_iinc (v := (nI (i + 1))) dX12_forceIn_43 rfl (by exact nI_1 i) rfl ?_
              refine ev_goto (tgt := 4) dX12_forceIn_46 (by decide) ?_
              have e7 : sp_force S x1 (i + 1) = _ := rfl
              have e8 : ∀ z, z = sp_opt (sp_force S x1 (i + 1)) → ev_V G d 0 0 mX12_forceIn (fun o g' => o = .inl (some (.int (sp_opt (sp_force S x1 O)))) ∧ mo_T G W g0 g' S) g 4 [some (.ref W.1), some (.int x1), some (.int z), some (.int (nI (i + 1)))] [] := fun z hz => by subst hz; exact ih (i + 1) (by omega) (by omega) () rfl g hT
              refine e8 _ ?_
              rw [show sp_force S x1 (i + 1) = (if x1 < S.1 36 i then sp_force S x1 i else match sp_force S x1 i with | none => some i | some b => if S.1 36 i < S.1 36 b then some b else some i) from rfl]
              first
                | rw [if_pos c_19]
                | (rw [if_neg c_19, hb]; first | (show _ = sp_opt (if _ then _ else _); rw [if_pos c_38]; try rfl) | (show _ = sp_opt (if _ then _ else _); rw [if_neg c_38]; try rfl))
                | (rw [if_neg c_19, (sp_opt_neg hl9).mp c_23]; try rfl)
  exact loop (O + 1) 0 (by omega) (by omega) () rfl g hT
def sp_P (S : mo_S) : Nat := (S.1 1 0).toNatClampNeg
def sp_M (S : mo_S) : Nat := (S.1 2 0).toNatClampNeg
def sp_R (S : mo_S) : Nat := (S.1 21 0).toNatClampNeg
def sp_W (S : mo_S) : Nat := (S.1 24 0).toNatClampNeg
def sp_O (S : mo_S) : Nat := (S.1 29 0).toNatClampNeg
def sp_A (S : mo_S) : Nat := (S.1 62 0).toNatClampNeg
def sp_Z (S : mo_S) : Nat := (S.1 73 0).toNatClampNeg
/-- the order in force now -/
def sp_now (S : mo_S) : Option Nat := sp_force S (S.1 2 0) (sp_O S)
/-- the last clause of order b, of the first n, that tells this -/
def sp_tell (S : mo_S) (b : Nat) (what : Int32) : Nat → Option Nat
  | 0 => none
  | n + 1 => if S.1 38 (12 * b + n) = what then some (12 * b + n) else sp_tell S b what n
def sp_tellO (S : mo_S) (x : Option Nat) (what : Int32) (n : Nat) : Option Nat := match x with
  | none => none
  | some b => sp_tell S b what n
def sp_cN (S : mo_S) (x : Option Nat) : Nat := match x with
  | none => 0
  | some b => (S.1 37 b).toNatClampNeg
def sp_teller (S : mo_S) (what : Int32) : Option Nat := sp_tellO S (sp_now S) what (sp_cN S (sp_now S))
theorem sp_now_lt {S : mo_S} {b : Nat} (h : sp_now S = some b) : b < sp_O S := sp_force_lt h
theorem sp_tell_lt {S : mo_S} {b : Nat} {what : Int32} : ∀ {n k : Nat}, sp_tell S b what n = some k → k < 12 * b + n
  | 0, k, h => by cases h
  | n + 1, k, h => by
    unfold sp_tell at h
    split at h
    · cases h; omega
    · have := sp_tell_lt h; omega
theorem c_X12_teller {G : ev_G} {W : mo_W} {d : Nat} {S : mo_S} {x1 : Int32} (hE : ev_En G) (hd : 1 ≤ d) (hO : S.1 29 0 = nI (sp_O S)) (hO2 : sp_O S ≤ 10) (hC : ∀ b, b < sp_O S → ∃ C, C ≤ 12 ∧ S.1 37 b = nI C) : mo_C G W d mX12_teller [.int x1] S (some (.int (sp_opt (sp_teller S x1)))) S := by
  refine mo_start (lv0 := [some (.ref W.1), some (.int x1), none, none, none]) (by decide +kernel) rfl (Nat.le_of_ble_eq_true rfl) rfl ?_
  intro g0 g hT
  refine ev_aload_n dX12_teller_0 rfl rfl ?_
  refine ev_aload_n dX12_teller_1 rfl rfl ?_
  refine mo_geti hE hT dX12_teller_2 fX12_364 (by decide) ?_
  refine mo_call1 (d' := d - 1) hE hT dX12_teller_5 rfl rfl kX12_forceIn lX12_361 iX12_forceIn vX12_forceIn (Nat.le_of_ble_eq_true rfl) (by omega) (c_X12_forceIn hE hO hO2) (fun g hT => ?_)
  refine ev_istore_n dX12_teller_8 rfl (Nat.le_of_ble_eq_true rfl) rfl ?_
  refine ev_iconst (v := (-1)) dX12_teller_9 (by decide) ?_
  refine ev_istore_n dX12_teller_10 rfl (Nat.le_of_ble_eq_true rfl) rfl ?_
  refine ev_iconst (v := (nI 0)) dX12_teller_11 (by decide) ?_
  refine ev_istore dX12_teller_12 (Nat.le_of_ble_eq_true rfl) rfl ?_
  have hl9 : ∀ b, sp_now S = some b → b < 2147483648 := fun b q => by have := sp_now_lt q; omega
  have hcN : sp_cN S (sp_now S) < 2147483648 := by cases hq : sp_now S with
    | none => exact Nat.le_of_ble_eq_true rfl
    | some b => obtain ⟨C, h1, h2⟩ := hC b (sp_now_lt hq); simp only [sp_cN, h2]; rw [nI_clamp (by omega)]; omega
  have loop : ∀ (n i : Nat), i ≤ sp_cN S (sp_now S) → sp_cN S (sp_now S) < i + n → ∀ (x : Int32), x = sp_opt (sp_tellO S (sp_now S) x1 i) → ∀ g, mo_T G W g0 g S → ev_V G d 0 0 mX12_teller (fun o g' => o = .inl (some (.int (sp_opt (sp_teller S x1)))) ∧ mo_T G W g0 g' S) g 14 [some (.ref W.1), some (.int x1), some (.int (sp_opt (sp_now S))), some (.int x), some (.int (nI i))] [] := by
    intro n
    induction n with
    | zero => intro i h1 h2; exact absurd h2 (by omega)
    | succ n ih =>
      intro i h1 h2 x hx g hT
      have hl9 : ∀ b, sp_now S = some b → b < 2147483648 := fun b q => by have := sp_now_lt q; omega
      have hcN : sp_cN S (sp_now S) < 2147483648 := by cases hq : sp_now S with
        | none => exact Nat.le_of_ble_eq_true rfl
        | some b => obtain ⟨C, h1, h2⟩ := hC b (sp_now_lt hq); simp only [sp_cN, h2]; rw [nI_clamp (by omega)]; omega
      refine ev_iload_n dX12_teller_14 rfl rfl ?_
      refine ev_if_lt (tgt := 59) dX12_teller_15 (by decide) (fun c_15 => ?_) (fun c_15 => ?_)
      · have e : i = sp_cN S (sp_now S) := by
          first
            | (have q := (sp_opt_neg hl9).mp c_15; rw [q] at h1 ⊢; simp only [sp_cN] at h1 ⊢; omega)
            | (have q := mo_ige hC9 (by omega) (by omega) c_26; omega)
        refine ev_iload_n dX12_teller_59 rfl rfl ?_
        exact ev_iret dX12_teller_60 rfl rfl ⟨by rw [hx, e]; rfl, hT⟩
      · obtain ⟨b, hb⟩ : ∃ b, sp_now S = some b := by
          cases hq : sp_now S with
          | none => exact absurd ((sp_opt_neg hl9).mpr hq) c_15
          | some b => exact ⟨b, rfl⟩
        have hb2 := sp_now_lt hb
        obtain ⟨C, hC2, hC9⟩ := hC b hb2
        have hN : sp_cN S (sp_now S) = C := by rw [hb]; simp only [sp_cN, hC9]; exact nI_clamp (by omega)
        have e12 : 12 * sp_opt (sp_now S) + nI i = nI (12 * b + i) := by rw [hb]; show 12 * nI b + nI i = _; rw [show (12 : Int32) = nI 12 from rfl, pk_mul, nI_add]
        refine ev_iload dX12_teller_18 rfl ?_
        refine ev_aload_n dX12_teller_20 rfl rfl ?_
        refine mo_geta hE hT dX12_teller_21 fX12_87 (by decide) ?_
        refine ev_iload_n dX12_teller_24 rfl rfl ?_
        refine mo_iald (q := b) hE hT dX12_teller_25 (by decide) (by rw [hb]; rfl) (show _ < 10 from (by omega)) ?_
        refine ev_icmp_ge (tgt := 59) dX12_teller_26 (by decide) (fun c_26 => ?_) (fun c_26 => ?_)
        · have e : i = sp_cN S (sp_now S) := by
            first
              | (have q := (sp_opt_neg hl9).mp c_15; rw [q] at h1 ⊢; simp only [sp_cN] at h1 ⊢; omega)
              | (have q := mo_ige hC9 (by omega) (by omega) c_26; omega)
          refine ev_iload_n dX12_teller_59 rfl rfl ?_
          exact ev_iret dX12_teller_60 rfl rfl ⟨by rw [hx, e]; rfl, hT⟩
        · have hlt : i < C := mo_ilt hC9 (by omega) (by omega) c_26
          refine ev_aload_n dX12_teller_29 rfl rfl ?_
          refine mo_geta hE hT dX12_teller_30 fX12_90 (by decide) ?_
          refine ev_bipush (v := 12) dX12_teller_33 (by decide) ?_
          refine ev_iload_n dX12_teller_35 rfl rfl ?_
          refine ev_imul dX12_teller_36 ?_
          refine ev_iload dX12_teller_37 rfl ?_
          refine ev_iadd dX12_teller_39 ?_
          refine mo_iald (q := (12 * b + i)) hE hT dX12_teller_40 (by decide) e12 (show _ < 120 from (by omega)) ?_
          refine ev_iload_n dX12_teller_41 rfl rfl ?_
          refine ev_icmp_ne (tgt := 53) dX12_teller_42 (by decide) (fun c_42 => ?_) (fun c_42 => ?_)
          · refine ev_iinc (v := (nI (i + 1))) dX12_teller_53 rfl (by exact nI_1 i) rfl ?_
            refine ev_goto (tgt := 14) dX12_teller_56 (by decide) ?_
            have hl9 : ∀ b, sp_now S = some b → b < 2147483648 := fun b q => by have := sp_now_lt q; omega
            have hcN : sp_cN S (sp_now S) < 2147483648 := by cases hq : sp_now S with
              | none => exact Nat.le_of_ble_eq_true rfl
              | some b => obtain ⟨C, h1, h2⟩ := hC b (sp_now_lt hq); simp only [sp_cN, h2]; rw [nI_clamp (by omega)]; omega
            exact ih (i + 1) (by omega) (by omega) _ (by
              first
                | (rw [e12, hb]; simp only [sp_tellO, sp_tell]; rw [if_pos c_42]; try rfl)
                | (rw [hx, hb]; simp only [sp_tellO, sp_tell]; rw [if_neg c_42])) g hT
          · refine ev_bipush (v := 12) dX12_teller_45 (by decide) ?_
            refine ev_iload_n dX12_teller_47 rfl rfl ?_
            refine ev_imul dX12_teller_48 ?_
            refine ev_iload dX12_teller_49 rfl ?_
            refine ev_iadd dX12_teller_51 ?_
            refine ev_istore_n dX12_teller_52 rfl (Nat.le_of_ble_eq_true rfl) rfl ?_
            refine ev_iinc (v := (nI (i + 1))) dX12_teller_53 rfl (by exact nI_1 i) rfl ?_
            refine ev_goto (tgt := 14) dX12_teller_56 (by decide) ?_
            have hl9 : ∀ b, sp_now S = some b → b < 2147483648 := fun b q => by have := sp_now_lt q; omega
            have hcN : sp_cN S (sp_now S) < 2147483648 := by cases hq : sp_now S with
              | none => exact Nat.le_of_ble_eq_true rfl
              | some b => obtain ⟨C, h1, h2⟩ := hC b (sp_now_lt hq); simp only [sp_cN, h2]; rw [nI_clamp (by omega)]; omega
            exact ih (i + 1) (by omega) (by omega) _ (by
              first
                | (rw [e12, hb]; simp only [sp_tellO, sp_tell]; rw [if_pos c_42]; try rfl)
                | (rw [hx, hb]; simp only [sp_tellO, sp_tell]; rw [if_neg c_42])) g hT
  exact loop (sp_cN S (sp_now S) + 1) 0 (by omega) (by omega) (-1) (by cases sp_now S <;> rfl) g hT
def sp_X12_without (x1 : Int32) : Int32 :=
  (if x1 = 5 then 10 else (if x1 = 6 then 12 else (if x1 = 7 then 100 else (if x1 = 8 then 0 else (if x1 = 9 then 0 else (if x1 = 10 then 1 else (if x1 = 11 then 0 else 64)))))))
theorem c_X12_without {G : ev_G} {d : Nat} {g : ev_H} {x1 : Int32} : ev_Cp G d mX12_without [.int x1] g (some (.int (sp_X12_without x1))) := by
  refine ev_start (lv0 := [some (.int x1)]) (by decide +kernel) rfl (Nat.le_of_ble_eq_true rfl) rfl ?_
  refine ev_iload_n dX12_without_0 rfl rfl ?_
  by_cases c_1_5 : x1 = 5
  · refine ev_tableIn (tgt := 44) (off := 43) dX12_without_1 (by rw [c_1_5]; decide) (by rw [c_1_5]; decide) (by rw [c_1_5]; rfl) (by decide) ?_
    refine ev_bipush (v := 10) dX12_without_44 (by decide) ?_
    have e9 : sp_X12_without x1 = 10 := by unfold sp_X12_without; rw [if_pos c_1_5]
    exact ev_iret dX12_without_46 rfl rfl ⟨by rw [e9], rfl⟩
  · by_cases c_1_6 : x1 = 6
    · refine ev_tableIn (tgt := 47) (off := 46) dX12_without_1 (by rw [c_1_6]; decide) (by rw [c_1_6]; decide) (by rw [c_1_6]; rfl) (by decide) ?_
      refine ev_bipush (v := 12) dX12_without_47 (by decide) ?_
      have e9 : sp_X12_without x1 = 12 := by unfold sp_X12_without; rw [if_neg c_1_5, if_pos c_1_6]
      exact ev_iret dX12_without_49 rfl rfl ⟨by rw [e9], rfl⟩
    · by_cases c_1_7 : x1 = 7
      · refine ev_tableIn (tgt := 50) (off := 49) dX12_without_1 (by rw [c_1_7]; decide) (by rw [c_1_7]; decide) (by rw [c_1_7]; rfl) (by decide) ?_
        refine ev_bipush (v := 100) dX12_without_50 (by decide) ?_
        have e9 : sp_X12_without x1 = 100 := by unfold sp_X12_without; rw [if_neg c_1_5, if_neg c_1_6, if_pos c_1_7]
        exact ev_iret dX12_without_52 rfl rfl ⟨by rw [e9], rfl⟩
      · by_cases c_1_8 : x1 = 8
        · refine ev_tableIn (tgt := 53) (off := 52) dX12_without_1 (by rw [c_1_8]; decide) (by rw [c_1_8]; decide) (by rw [c_1_8]; rfl) (by decide) ?_
          refine ev_iconst (v := 0) dX12_without_53 (by decide) ?_
          have e9 : sp_X12_without x1 = 0 := by unfold sp_X12_without; rw [if_neg c_1_5, if_neg c_1_6, if_neg c_1_7, if_pos c_1_8]
          exact ev_iret dX12_without_54 rfl rfl ⟨by rw [e9], rfl⟩
        · by_cases c_1_9 : x1 = 9
          · refine ev_tableIn (tgt := 53) (off := 52) dX12_without_1 (by rw [c_1_9]; decide) (by rw [c_1_9]; decide) (by rw [c_1_9]; rfl) (by decide) ?_
            refine ev_iconst (v := 0) dX12_without_53 (by decide) ?_
            have e9 : sp_X12_without x1 = 0 := by unfold sp_X12_without; rw [if_neg c_1_5, if_neg c_1_6, if_neg c_1_7, if_neg c_1_8, if_pos c_1_9]
            exact ev_iret dX12_without_54 rfl rfl ⟨by rw [e9], rfl⟩
          · by_cases c_1_10 : x1 = 10
            · refine ev_tableIn (tgt := 55) (off := 54) dX12_without_1 (by rw [c_1_10]; decide) (by rw [c_1_10]; decide) (by rw [c_1_10]; rfl) (by decide) ?_
              refine ev_iconst (v := 1) dX12_without_55 (by decide) ?_
              have e9 : sp_X12_without x1 = 1 := by unfold sp_X12_without; rw [if_neg c_1_5, if_neg c_1_6, if_neg c_1_7, if_neg c_1_8, if_neg c_1_9, if_pos c_1_10]
              exact ev_iret dX12_without_56 rfl rfl ⟨by rw [e9], rfl⟩
            · by_cases c_1_11 : x1 = 11
              · refine ev_tableIn (tgt := 53) (off := 52) dX12_without_1 (by rw [c_1_11]; decide) (by rw [c_1_11]; decide) (by rw [c_1_11]; rfl) (by decide) ?_
                refine ev_iconst (v := 0) dX12_without_53 (by decide) ?_
                have e9 : sp_X12_without x1 = 0 := by unfold sp_X12_without; rw [if_neg c_1_5, if_neg c_1_6, if_neg c_1_7, if_neg c_1_8, if_neg c_1_9, if_neg c_1_10, if_pos c_1_11]
                exact ev_iret dX12_without_54 rfl rfl ⟨by rw [e9], rfl⟩
              · refine ev_tableOut (tgt := 57) dX12_without_1 (by have h5 : (x1).toInt ≠ 5 := fun q => c_1_5 (Int32.toInt_inj.mp (by rw [q]; rfl)); have h6 : (x1).toInt ≠ 6 := fun q => c_1_6 (Int32.toInt_inj.mp (by rw [q]; rfl)); have h7 : (x1).toInt ≠ 7 := fun q => c_1_7 (Int32.toInt_inj.mp (by rw [q]; rfl)); have h8 : (x1).toInt ≠ 8 := fun q => c_1_8 (Int32.toInt_inj.mp (by rw [q]; rfl)); have h9 : (x1).toInt ≠ 9 := fun q => c_1_9 (Int32.toInt_inj.mp (by rw [q]; rfl)); have h10 : (x1).toInt ≠ 10 := fun q => c_1_10 (Int32.toInt_inj.mp (by rw [q]; rfl)); have h11 : (x1).toInt ≠ 11 := fun q => c_1_11 (Int32.toInt_inj.mp (by rw [q]; rfl)); omega) (by decide) ?_
                refine ev_bipush (v := 64) dX12_without_57 (by decide) ?_
                have e9 : sp_X12_without x1 = 64 := by unfold sp_X12_without; rw [if_neg c_1_5, if_neg c_1_6, if_neg c_1_7, if_neg c_1_8, if_neg c_1_9, if_neg c_1_10, if_neg c_1_11]
                exact ev_iret dX12_without_59 rfl rfl ⟨by rw [e9], rfl⟩
theorem sp_teller_lt {S : mo_S} {what : Int32} {k : Nat} (hO2 : sp_O S ≤ 10) (hC : ∀ b, b < sp_O S → ∃ C, C ≤ 12 ∧ S.1 37 b = nI C) (h : sp_teller S what = some k) : k < 120 := by
  unfold sp_teller at h
  cases hb : sp_now S with
  | none => rw [hb] at h; cases h
  | some b =>
    rw [hb] at h
    obtain ⟨C, h1, h2⟩ := hC b (sp_now_lt hb)
    have h3 := sp_now_lt hb
    have h4 := sp_tell_lt (n := sp_cN S (some b)) h
    simp only [sp_cN, h2] at h4
    rw [nI_clamp (by omega)] at h4
    omega
def sp_X12_much (S : mo_S) (x1 : Int32) : Int32 :=
  (if 0 ≤ (sp_opt (sp_teller S x1)) then (S.1 39 ((sp_opt (sp_teller S x1))).toNatClampNeg) else (sp_X12_without x1))
theorem c_X12_much {G : ev_G} {W : mo_W} {d : Nat} {S : mo_S} {x1 : Int32} (hE : ev_En G) (hd : 2 ≤ d) (hO : S.1 29 0 = nI (sp_O S)) (hO2 : sp_O S ≤ 10) (hC : ∀ b, b < sp_O S → ∃ C, C ≤ 12 ∧ S.1 37 b = nI C) : mo_C G W d mX12_much [.int x1] S (some (.int (sp_X12_much S x1))) S := by
  refine mo_start (lv0 := [some (.ref W.1), some (.int x1), none]) (by decide +kernel) rfl (Nat.le_of_ble_eq_true rfl) rfl ?_
  intro g0 g hT
  refine ev_aload_n dX12_much_0 rfl rfl ?_
  refine ev_iload_n dX12_much_1 rfl rfl ?_
  refine mo_call1 (d' := d - 1) hE hT dX12_much_2 rfl rfl kX12_teller lX12_366 iX12_teller vX12_teller (Nat.le_of_ble_eq_true rfl) (by omega) (c_X12_teller hE (by omega) hO hO2 hC) (fun g hT => ?_)
  refine ev_istore_n dX12_much_5 rfl (Nat.le_of_ble_eq_true rfl) rfl ?_
  refine ev_iload_n dX12_much_6 rfl rfl ?_
  have K_23 : ∀ (g : ev_H) (hT : mo_T G W g0 g S), ∀ x9 : Int32, x9 = (if 0 ≤ (sp_opt (sp_teller S x1)) then (S.1 39 ((sp_opt (sp_teller S x1))).toNatClampNeg) else (sp_X12_without x1)) → ev_V G d 0 0 mX12_much (fun o g' => o = .inl (some (.int (sp_X12_much S x1))) ∧ mo_T G W g0 g' S) g 23 [some (.ref W.1), some (.int x1), some (.int (sp_opt (sp_teller S x1)))] (.int x9 :: []) := by
    intro g hT x9 h9
    subst h9
    have e9 : sp_X12_much S x1 = (if 0 ≤ (sp_opt (sp_teller S x1)) then (S.1 39 ((sp_opt (sp_teller S x1))).toNatClampNeg) else (sp_X12_without x1)) := by unfold sp_X12_much; rfl
    exact ev_iret dX12_much_23 rfl rfl ⟨by rw [e9], hT⟩
  refine ev_if_ge (tgt := 17) dX12_much_7 (by decide) (fun c_7 => ?_) (fun c_7 => ?_)
  · obtain ⟨k9, hk9⟩ : ∃ k9, sp_teller S x1 = some k9 := by
      cases hq : sp_teller S x1 with
      | none => rw [hq] at c_7; exact absurd c_7 (show ¬ (0 : Int32) ≤ -1 by decide)
      | some b => exact ⟨b, rfl⟩
    have hk8 := sp_teller_lt hO2 hC hk9
    have hv : vp_in (sp_opt (sp_teller S x1)) 120 := by rw [hk9]; exact vp_in_nI hk8 (by decide)
    refine ev_aload_n dX12_much_17 rfl rfl ?_
    refine mo_geta hE hT dX12_much_18 fX12_93 (by decide) ?_
    refine ev_iload_n dX12_much_21 rfl rfl ?_
    refine mo_ialdV hE hT dX12_much_22 (by decide) (show vp_in _ 120 from hv) ?_
    exact K_23 g hT _ (by rw [if_pos c_7])
  · refine ev_iload_n dX12_much_10 rfl rfl ?_
    refine ev_pS1 (d' := d - 1) dX12_much_11 rfl kX12_without lX12_369 sX12_without (Nat.le_of_ble_eq_true rfl) (by omega) (c_X12_without) ?_
    refine ev_goto (tgt := 23) dX12_much_14 (by decide) ?_
    exact K_23 g hT _ (by rw [if_neg c_7])
def sp_X12_means (S : mo_S) (x1 : Int32) : mo_S :=
  (mo_up (mo_up (mo_up (mo_up (mo_up (mo_up (mo_up S 42 0 (S.1 3 (x1).toNatClampNeg)) 43 0 (S.1 4 (x1).toNatClampNeg)) 44 0 (S.1 5 (x1).toNatClampNeg)) 45 0 (S.1 6 (x1).toNatClampNeg)) 46 0 (S.1 7 (x1).toNatClampNeg)) 47 0 (S.1 10 (x1).toNatClampNeg)) 48 0 (S.1 13 (x1).toNatClampNeg))
theorem c_X12_means {G : ev_G} {W : mo_W} {d : Nat} {S : mo_S} {x1 : Int32} (hE : ev_En G) (hv : vp_in x1 12) : mo_C G W d mX12_means [.int x1] S none (sp_X12_means S x1) := by
  refine mo_start (lv0 := [some (.ref W.1), some (.int x1)]) (by decide +kernel) rfl (Nat.le_of_ble_eq_true rfl) rfl ?_
  intro g0 g hT
  refine ev_aload_n dX12_means_0 rfl rfl ?_
  refine ev_aload_n dX12_means_1 rfl rfl ?_
  refine mo_geta hE hT dX12_means_2 fX12_9 (by decide) ?_
  refine ev_iload_n dX12_means_5 rfl rfl ?_
  refine mo_ialdV hE hT dX12_means_6 (by decide) (show vp_in _ 12 from hv) ?_
  refine mo_put hE hT dX12_means_7 pX12_371 (by decide) (fun g hT => ?_)
  refine ev_aload_n dX12_means_10 rfl rfl ?_
  refine ev_aload_n dX12_means_11 rfl rfl ?_
  refine mo_geta hE hT dX12_means_12 fX12_13 (by decide) ?_
  refine ev_iload_n dX12_means_15 rfl rfl ?_
  refine mo_ialdE (v := (S.1 4 (x1).toNatClampNeg)) hE hT dX12_means_16 (by decide) (show vp_in _ 12 from hv) (by simp [sp_bad_ne, mo_up]) ?_
  refine mo_put hE hT dX12_means_17 pX12_374 (by decide) (fun g hT => ?_)
  refine ev_aload_n dX12_means_20 rfl rfl ?_
  refine ev_aload_n dX12_means_21 rfl rfl ?_
  refine mo_geta hE hT dX12_means_22 fX12_16 (by decide) ?_
  refine ev_iload_n dX12_means_25 rfl rfl ?_
  refine mo_ialdE (v := (S.1 5 (x1).toNatClampNeg)) hE hT dX12_means_26 (by decide) (show vp_in _ 12 from hv) (by simp [sp_bad_ne, mo_up]) ?_
  refine mo_put hE hT dX12_means_27 pX12_377 (by decide) (fun g hT => ?_)
  refine ev_aload_n dX12_means_30 rfl rfl ?_
  refine ev_aload_n dX12_means_31 rfl rfl ?_
  refine mo_geta hE hT dX12_means_32 fX12_19 (by decide) ?_
  refine ev_iload_n dX12_means_35 rfl rfl ?_
  refine mo_ialdE (v := (S.1 6 (x1).toNatClampNeg)) hE hT dX12_means_36 (by decide) (show vp_in _ 12 from hv) (by simp [sp_bad_ne, mo_up]) ?_
  refine mo_put hE hT dX12_means_37 pX12_380 (by decide) (fun g hT => ?_)
  refine ev_aload_n dX12_means_40 rfl rfl ?_
  refine ev_aload_n dX12_means_41 rfl rfl ?_
  refine mo_geta hE hT dX12_means_42 fX12_22 (by decide) ?_
  refine ev_iload_n dX12_means_45 rfl rfl ?_
  refine mo_ialdE (v := (S.1 7 (x1).toNatClampNeg)) hE hT dX12_means_46 (by decide) (show vp_in _ 12 from hv) (by simp [sp_bad_ne, mo_up]) ?_
  refine mo_put hE hT dX12_means_47 pX12_383 (by decide) (fun g hT => ?_)
  refine ev_aload_n dX12_means_50 rfl rfl ?_
  refine ev_aload_n dX12_means_51 rfl rfl ?_
  refine mo_geta hE hT dX12_means_52 fX12_31 (by decide) ?_
  refine ev_iload_n dX12_means_55 rfl rfl ?_
  refine mo_ialdE (v := (S.1 10 (x1).toNatClampNeg)) hE hT dX12_means_56 (by decide) (show vp_in _ 12 from hv) (by simp [sp_bad_ne, mo_up]) ?_
  refine mo_put hE hT dX12_means_57 pX12_386 (by decide) (fun g hT => ?_)
  refine ev_aload_n dX12_means_60 rfl rfl ?_
  refine ev_aload_n dX12_means_61 rfl rfl ?_
  refine mo_geta hE hT dX12_means_62 fX12_40 (by decide) ?_
  refine ev_iload_n dX12_means_65 rfl rfl ?_
  refine mo_ialdE (v := (S.1 13 (x1).toNatClampNeg)) hE hT dX12_means_66 (by decide) (show vp_in _ 12 from hv) (by simp [sp_bad_ne, mo_up]) ?_
  refine mo_put hE hT dX12_means_67 pX12_389 (by decide) (fun g hT => ?_)
  have e9 : sp_X12_means S x1 = (mo_up (mo_up (mo_up (mo_up (mo_up (mo_up (mo_up S 42 0 (S.1 3 (x1).toNatClampNeg)) 43 0 (S.1 4 (x1).toNatClampNeg)) 44 0 (S.1 5 (x1).toNatClampNeg)) 45 0 (S.1 6 (x1).toNatClampNeg)) 46 0 (S.1 7 (x1).toNatClampNeg)) 47 0 (S.1 10 (x1).toNatClampNeg)) 48 0 (S.1 13 (x1).toNatClampNeg)) := by unfold sp_X12_means; rfl
  exact ev_vret dX12_means_70 rfl ⟨rfl, by rw [e9]; exact hT⟩
def sp_X12_named (S : mo_S) (x1 : Int32) : Int32 :=
  (if x1 = 0 then (S.1 43 0) else (if x1 = 1 then (S.1 44 0) else (if x1 = 2 then (S.1 45 0) else (if x1 = 3 then (S.1 46 0) else (if x1 = 4 then (S.1 42 0) else (if x1 = 5 then (S.1 2 0) else (if x1 = 6 then (S.1 47 0) else (S.1 48 0))))))))
theorem c_X12_named {G : ev_G} {W : mo_W} {d : Nat} {S : mo_S} {x1 : Int32} (hE : ev_En G) : mo_C G W d mX12_named [.int x1] S (some (.int (sp_X12_named S x1))) S := by
  refine mo_start (lv0 := [some (.ref W.1), some (.int x1)]) (by decide +kernel) rfl (Nat.le_of_ble_eq_true rfl) rfl ?_
  intro g0 g hT
  refine ev_iload_n dX12_named_0 rfl rfl ?_
  by_cases c_1_0 : x1 = 0
  · refine ev_tableIn (tgt := 44) (off := 43) dX12_named_1 (by rw [c_1_0]; decide) (by rw [c_1_0]; decide) (by rw [c_1_0]; rfl) (by decide) ?_
    refine ev_aload_n dX12_named_44 rfl rfl ?_
    refine mo_geti hE hT dX12_named_45 fX12_374 (by decide) ?_
    have e9 : sp_X12_named S x1 = (S.1 43 0) := by unfold sp_X12_named; rw [if_pos c_1_0]
    exact ev_iret dX12_named_48 rfl rfl ⟨by rw [e9], hT⟩
  · by_cases c_1_1 : x1 = 1
    · refine ev_tableIn (tgt := 49) (off := 48) dX12_named_1 (by rw [c_1_1]; decide) (by rw [c_1_1]; decide) (by rw [c_1_1]; rfl) (by decide) ?_
      refine ev_aload_n dX12_named_49 rfl rfl ?_
      refine mo_geti hE hT dX12_named_50 fX12_377 (by decide) ?_
      have e9 : sp_X12_named S x1 = (S.1 44 0) := by unfold sp_X12_named; rw [if_neg c_1_0, if_pos c_1_1]
      exact ev_iret dX12_named_53 rfl rfl ⟨by rw [e9], hT⟩
    · by_cases c_1_2 : x1 = 2
      · refine ev_tableIn (tgt := 54) (off := 53) dX12_named_1 (by rw [c_1_2]; decide) (by rw [c_1_2]; decide) (by rw [c_1_2]; rfl) (by decide) ?_
        refine ev_aload_n dX12_named_54 rfl rfl ?_
        refine mo_geti hE hT dX12_named_55 fX12_380 (by decide) ?_
        have e9 : sp_X12_named S x1 = (S.1 45 0) := by unfold sp_X12_named; rw [if_neg c_1_0, if_neg c_1_1, if_pos c_1_2]
        exact ev_iret dX12_named_58 rfl rfl ⟨by rw [e9], hT⟩
      · by_cases c_1_3 : x1 = 3
        · refine ev_tableIn (tgt := 59) (off := 58) dX12_named_1 (by rw [c_1_3]; decide) (by rw [c_1_3]; decide) (by rw [c_1_3]; rfl) (by decide) ?_
          refine ev_aload_n dX12_named_59 rfl rfl ?_
          refine mo_geti hE hT dX12_named_60 fX12_383 (by decide) ?_
          have e9 : sp_X12_named S x1 = (S.1 46 0) := by unfold sp_X12_named; rw [if_neg c_1_0, if_neg c_1_1, if_neg c_1_2, if_pos c_1_3]
          exact ev_iret dX12_named_63 rfl rfl ⟨by rw [e9], hT⟩
        · by_cases c_1_4 : x1 = 4
          · refine ev_tableIn (tgt := 64) (off := 63) dX12_named_1 (by rw [c_1_4]; decide) (by rw [c_1_4]; decide) (by rw [c_1_4]; rfl) (by decide) ?_
            refine ev_aload_n dX12_named_64 rfl rfl ?_
            refine mo_geti hE hT dX12_named_65 fX12_371 (by decide) ?_
            have e9 : sp_X12_named S x1 = (S.1 42 0) := by unfold sp_X12_named; rw [if_neg c_1_0, if_neg c_1_1, if_neg c_1_2, if_neg c_1_3, if_pos c_1_4]
            exact ev_iret dX12_named_68 rfl rfl ⟨by rw [e9], hT⟩
          · by_cases c_1_5 : x1 = 5
            · refine ev_tableIn (tgt := 69) (off := 68) dX12_named_1 (by rw [c_1_5]; decide) (by rw [c_1_5]; decide) (by rw [c_1_5]; rfl) (by decide) ?_
              refine ev_aload_n dX12_named_69 rfl rfl ?_
              refine mo_geti hE hT dX12_named_70 fX12_364 (by decide) ?_
              have e9 : sp_X12_named S x1 = (S.1 2 0) := by unfold sp_X12_named; rw [if_neg c_1_0, if_neg c_1_1, if_neg c_1_2, if_neg c_1_3, if_neg c_1_4, if_pos c_1_5]
              exact ev_iret dX12_named_73 rfl rfl ⟨by rw [e9], hT⟩
            · by_cases c_1_6 : x1 = 6
              · refine ev_tableIn (tgt := 74) (off := 73) dX12_named_1 (by rw [c_1_6]; decide) (by rw [c_1_6]; decide) (by rw [c_1_6]; rfl) (by decide) ?_
                refine ev_aload_n dX12_named_74 rfl rfl ?_
                refine mo_geti hE hT dX12_named_75 fX12_386 (by decide) ?_
                have e9 : sp_X12_named S x1 = (S.1 47 0) := by unfold sp_X12_named; rw [if_neg c_1_0, if_neg c_1_1, if_neg c_1_2, if_neg c_1_3, if_neg c_1_4, if_neg c_1_5, if_pos c_1_6]
                exact ev_iret dX12_named_78 rfl rfl ⟨by rw [e9], hT⟩
              · refine ev_tableOut (tgt := 79) dX12_named_1 (by have h0 : (x1).toInt ≠ 0 := fun q => c_1_0 (Int32.toInt_inj.mp (by rw [q]; rfl)); have h1 : (x1).toInt ≠ 1 := fun q => c_1_1 (Int32.toInt_inj.mp (by rw [q]; rfl)); have h2 : (x1).toInt ≠ 2 := fun q => c_1_2 (Int32.toInt_inj.mp (by rw [q]; rfl)); have h3 : (x1).toInt ≠ 3 := fun q => c_1_3 (Int32.toInt_inj.mp (by rw [q]; rfl)); have h4 : (x1).toInt ≠ 4 := fun q => c_1_4 (Int32.toInt_inj.mp (by rw [q]; rfl)); have h5 : (x1).toInt ≠ 5 := fun q => c_1_5 (Int32.toInt_inj.mp (by rw [q]; rfl)); have h6 : (x1).toInt ≠ 6 := fun q => c_1_6 (Int32.toInt_inj.mp (by rw [q]; rfl)); omega) (by decide) ?_
                refine ev_aload_n dX12_named_79 rfl rfl ?_
                refine mo_geti hE hT dX12_named_80 fX12_389 (by decide) ?_
                have e9 : sp_X12_named S x1 = (S.1 48 0) := by unfold sp_X12_named; rw [if_neg c_1_0, if_neg c_1_1, if_neg c_1_2, if_neg c_1_3, if_neg c_1_4, if_neg c_1_5, if_neg c_1_6]
                exact ev_iret dX12_named_83 rfl rfl ⟨by rw [e9], hT⟩
end M3
