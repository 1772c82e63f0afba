section M4
/-- a local may be forgotten -/
theorem ev_none {G : ev_G} {d bc bs : Nat} {M : ev_M} {Post : ev_P} {g : ev_H} {pc : Nat} {lv : List (Option Value)} {st : List Value} (j : Nat) (k : ev_V G d bc bs M Post g pc (lv.set j none) st) : ev_V G d bc bs M Post g pc lv st := by
  intro p e s m args below meth c H locs cells slots mc ms ls hC hR hS hc hs hl
  refine k p e s m args below meth c H locs cells slots mc ms ls hC hR hS hc hs ⟨hl.1, hl.2.1, by rw [List.length_set]; exact hl.2.2.1, fun i v h => hl.2.2.2 i v ?_⟩
  by_cases e : j = i
  · subst e
    rw [List.getElem?_set] at h
    simp at h
  · rwa [List.getElem?_set_ne e] at h
theorem sp_two {a b : Bool} (h : (if mo_b a = 0 then false else if mo_b b = 0 then false else true) = true) : a = true ∧ b = true := by
  cases a <;> cases b <;> simp [mo_b] at h ⊢
def sp_X12_demand (S : mo_S) (x1 x2 : Int32) : Int32 × mo_S :=
  (if (mo_b (sp_in x1 0 (S.1 1 0 - 1))) = 0 then (0, (mo_up S 0 0 (mo_b (!sp_in x1 0 (S.1 1 0 - 1))))) else ((if (mo_b (if (mo_b (sp_in x2 1 100)) = 0 then true else false)) = 0 then (sp_demand (sp_bad (if (mo_b (sp_in x2 1 100)) = 0 then true else false) 2 (mo_up S 0 0 (mo_b (!sp_in x1 0 (S.1 1 0 - 1))))) (x1).toNatClampNeg x2 (sp_W S)) else 0), (sp_bad (if (mo_b (sp_in x2 1 100)) = 0 then true else false) 2 (mo_up S 0 0 (mo_b (!sp_in x1 0 (S.1 1 0 - 1)))))))
theorem c_X12_demand {G : ev_G} {W : mo_W} {d : Nat} {S : mo_S} {x1 x2 : Int32} (hE : ev_En G) (hd : 2 ≤ d) (hP : S.1 1 0 = nI (sp_P S)) (hP2 : sp_P S ≤ 12) (hQ : S.1 24 0 = nI (sp_W S)) (hQ2 : sp_W S ≤ 5) : mo_C G W d mX12_demand [.int x1, .int x2] S (some (.int (sp_X12_demand S x1 x2).1)) (sp_X12_demand S x1 x2).2 := by
  refine mo_start (lv0 := [some (.ref W.1), some (.int x1), some (.int x2)]) (by decide +kernel) rfl (Nat.le_of_ble_eq_true rfl) rfl ?_
  intro g0 g hT
  refine ev_aload_n dX12_demand_0 rfl rfl ?_
  refine ev_iload_n dX12_demand_1 rfl rfl ?_
  refine mo_call1 (d' := d - 1) hE hT dX12_demand_2 rfl rfl kX12_isPaper lX12_188 iX12_isPaper vX12_isPaper (Nat.le_of_ble_eq_true rfl) (by omega) (c_X12_isPaper hE (by omega)) (fun g hT => ?_)
  refine ev_if_eq (tgt := 31) dX12_demand_5 (by decide) (fun c_5 => ?_) (fun c_5 => ?_)
  · refine ev_iconst (v := 0) dX12_demand_31 (by decide) ?_
    refine ev_goto (tgt := 41) dX12_demand_32 (by decide) ?_
    have e9 : sp_X12_demand S x1 x2 = (0, (mo_up S 0 0 (mo_b (!sp_in x1 0 (S.1 1 0 - 1))))) := by unfold sp_X12_demand; rw [if_pos c_5]
    exact ev_iret dX12_demand_41 rfl rfl ⟨by rw [e9], by rw [e9]; exact hT⟩
  · obtain ⟨hv, hp2, hp⟩ := mo_vin (N := 12) hP hP2 (by decide) (by simpa [sp_bad_ne, mo_up] using mo_b_1 c_5)
    have hp2 : x1.toNatClampNeg < 12 := by omega
    refine ev_aload_n dX12_demand_8 rfl rfl ?_
    refine ev_iload_n dX12_demand_9 rfl rfl ?_
    refine ev_iconst (v := 1) dX12_demand_10 (by decide) ?_
    refine ev_bipush (v := 100) dX12_demand_11 (by decide) ?_
    refine ev_pS3 (d' := d - 1) dX12_demand_13 rfl kX12_in lX12_176 sX12_in (Nat.le_of_ble_eq_true rfl) (by omega) (c_X12_in) ?_
    have K_24 : ∀ (g : ev_H) (hT : mo_T G W g0 g (mo_up S 0 0 (mo_b (!sp_in x1 0 (S.1 1 0 - 1))))), ∀ x9 : Int32, x9 = (mo_b (if (mo_b (sp_in x2 1 100)) = 0 then true else false)) → ev_V G d 0 0 mX12_demand (fun o g' => o = .inl (some (.int (sp_X12_demand S x1 x2).1)) ∧ mo_T G W g0 g' (sp_X12_demand S x1 x2).2) g 24 [some (.ref W.1), some (.int x1), some (.int x2)] (.int x9 :: .ref W.1 :: []) := by
      intro g hT x9 h9
      subst h9
      refine ev_iconst (v := 2) dX12_demand_24 (by decide) ?_
      refine mo_call2 (d' := d - 1) hE hT dX12_demand_25 rfl rfl kX12_bad lX12_181 iX12_bad vX12_bad (Nat.le_of_ble_eq_true rfl) (by omega) (c_X12_bad hE) (fun g hT => ?_)
      have K_41 : ∀ (g : ev_H) (hT : mo_T G W g0 g (sp_bad (if (mo_b (sp_in x2 1 100)) = 0 then true else false) 2 (mo_up S 0 0 (mo_b (!sp_in x1 0 (S.1 1 0 - 1)))))), ∀ x9 : Int32, x9 = (if (mo_b (if (mo_b (sp_in x2 1 100)) = 0 then true else false)) = 0 then (sp_demand (sp_bad (if (mo_b (sp_in x2 1 100)) = 0 then true else false) 2 (mo_up S 0 0 (mo_b (!sp_in x1 0 (S.1 1 0 - 1))))) (x1).toNatClampNeg x2 (sp_W S)) else 0) → ev_V G d 0 0 mX12_demand (fun o g' => o = .inl (some (.int (sp_X12_demand S x1 x2).1)) ∧ mo_T G W g0 g' (sp_X12_demand S x1 x2).2) g 41 [some (.ref W.1), some (.int x1), some (.int x2)] (.int x9 :: []) := by
        intro g hT x9 h9
        subst h9
        have e9 : sp_X12_demand S x1 x2 = ((if (mo_b (if (mo_b (sp_in x2 1 100)) = 0 then true else false)) = 0 then (sp_demand (sp_bad (if (mo_b (sp_in x2 1 100)) = 0 then true else false) 2 (mo_up S 0 0 (mo_b (!sp_in x1 0 (S.1 1 0 - 1))))) (x1).toNatClampNeg x2 (sp_W S)) else 0), (sp_bad (if (mo_b (sp_in x2 1 100)) = 0 then true else false) 2 (mo_up S 0 0 (mo_b (!sp_in x1 0 (S.1 1 0 - 1)))))) := by unfold sp_X12_demand; rw [if_neg c_5]
        exact ev_iret dX12_demand_41 rfl rfl ⟨by rw [e9], by rw [e9]; exact hT⟩
      refine ev_if_eq (tgt := 35) dX12_demand_28 (by decide) (fun c_28 => ?_) (fun c_28 => ?_)
      · refine ev_aload_n dX12_demand_35 rfl rfl ?_
        refine ev_iload_n dX12_demand_36 rfl rfl ?_
        refine ev_iload_n dX12_demand_37 rfl rfl ?_
        refine mo_call2 (d' := d - 1) hE hT dX12_demand_38 rfl rfl kX12_demandOf lX12_205 iX12_demandOf vX12_demandOf (Nat.le_of_ble_eq_true rfl) (by omega) (c_X12_demandOf hE (by simpa [sp_bad_ne, mo_up] using hQ) hQ2 hp hp2) (fun g hT => ?_)
        exact K_41 g hT _ (by rw [if_pos c_28])
      · refine ev_iconst (v := 0) dX12_demand_31 (by decide) ?_
        refine ev_goto (tgt := 41) dX12_demand_32 (by decide) ?_
        exact K_41 g hT _ (by rw [if_neg c_28])
    refine ev_if_ne (tgt := 23) dX12_demand_16 (by decide) (fun c_16 => ?_) (fun c_16 => ?_)
    · refine ev_iconst (v := 0) dX12_demand_23 (by decide) ?_
      exact K_24 g hT _ (by rw [if_neg c_16]; rfl)
    · refine ev_iconst (v := 1) dX12_demand_19 (by decide) ?_
      refine ev_goto (tgt := 24) dX12_demand_20 (by decide) ?_
      exact K_24 g hT _ (by rw [if_pos c_16]; rfl)
def sp_X12_force (S : mo_S) (x1 : Int32) : Int32 × mo_S :=
  ((if (mo_b (if (mo_b (sp_in x1 0 600)) = 0 then true else false)) = 0 then (sp_opt (sp_force (sp_bad (if (mo_b (sp_in x1 0 600)) = 0 then true else false) 1 (mo_up S 0 0 0)) x1 (sp_O S))) else 0), (sp_bad (if (mo_b (sp_in x1 0 600)) = 0 then true else false) 1 (mo_up S 0 0 0)))
theorem c_X12_force {G : ev_G} {W : mo_W} {d : Nat} {S : mo_S} {x1 : Int32} (hE : ev_En G) (hd : 1 ≤ d) (hO : S.1 29 0 = nI (sp_O S)) (hO2 : sp_O S ≤ 10) : mo_C G W d mX12_force [.int x1] S (some (.int (sp_X12_force S x1).1)) (sp_X12_force S x1).2 := by
  refine mo_start (lv0 := [some (.ref W.1), some (.int x1)]) (by decide +kernel) rfl (Nat.le_of_ble_eq_true rfl) rfl ?_
  intro g0 g hT
  refine ev_aload_n dX12_force_0 rfl rfl ?_
  refine ev_iconst (v := 0) dX12_force_1 (by decide) ?_
  refine mo_put hE hT dX12_force_2 pX12_173 (by decide) (fun g hT => ?_)
  refine ev_aload_n dX12_force_5 rfl rfl ?_
  refine ev_iload_n dX12_force_6 rfl rfl ?_
  refine ev_iconst (v := 0) dX12_force_7 (by decide) ?_
  refine ev_sipush (v := 600) dX12_force_8 (by decide) ?_
  refine ev_pS3 (d' := d - 1) dX12_force_11 rfl kX12_in lX12_176 sX12_in (Nat.le_of_ble_eq_true rfl) (by omega) (c_X12_in) ?_
  have K_22 : ∀ (g : ev_H) (hT : mo_T G W g0 g (mo_up S 0 0 0)), ∀ x9 : Int32, x9 = (mo_b (if (mo_b (sp_in x1 0 600)) = 0 then true else false)) → ev_V G d 0 0 mX12_force (fun o g' => o = .inl (some (.int (sp_X12_force S x1).1)) ∧ mo_T G W g0 g' (sp_X12_force S x1).2) g 22 [some (.ref W.1), some (.int x1)] (.int x9 :: .ref W.1 :: []) := by
    intro g hT x9 h9
    subst h9
    refine ev_iconst (v := 1) dX12_force_22 (by decide) ?_
    refine mo_call2 (d' := d - 1) hE hT dX12_force_23 rfl rfl kX12_bad lX12_181 iX12_bad vX12_bad (Nat.le_of_ble_eq_true rfl) (by omega) (c_X12_bad hE) (fun g hT => ?_)
    have K_38 : ∀ (g : ev_H) (hT : mo_T G W g0 g (sp_bad (if (mo_b (sp_in x1 0 600)) = 0 then true else false) 1 (mo_up S 0 0 0))), ∀ x9 : Int32, x9 = (if (mo_b (if (mo_b (sp_in x1 0 600)) = 0 then true else false)) = 0 then (sp_opt (sp_force (sp_bad (if (mo_b (sp_in x1 0 600)) = 0 then true else false) 1 (mo_up S 0 0 0)) x1 (sp_O S))) else 0) → ev_V G d 0 0 mX12_force (fun o g' => o = .inl (some (.int (sp_X12_force S x1).1)) ∧ mo_T G W g0 g' (sp_X12_force S x1).2) g 38 [some (.ref W.1), some (.int x1)] (.int x9 :: []) := by
      intro g hT x9 h9
      subst h9
      have e9 : sp_X12_force S x1 = ((if (mo_b (if (mo_b (sp_in x1 0 600)) = 0 then true else false)) = 0 then (sp_opt (sp_force (sp_bad (if (mo_b (sp_in x1 0 600)) = 0 then true else false) 1 (mo_up S 0 0 0)) x1 (sp_O S))) else 0), (sp_bad (if (mo_b (sp_in x1 0 600)) = 0 then true else false) 1 (mo_up S 0 0 0))) := by unfold sp_X12_force; rfl
      exact ev_iret dX12_force_38 rfl rfl ⟨by rw [e9], by rw [e9]; exact hT⟩
    refine ev_if_eq (tgt := 33) dX12_force_26 (by decide) (fun c_26 => ?_) (fun c_26 => ?_)
    · refine ev_aload_n dX12_force_33 rfl rfl ?_
      refine ev_iload_n dX12_force_34 rfl rfl ?_
      refine mo_call1 (d' := d - 1) hE hT dX12_force_35 rfl rfl kX12_forceIn lX12_361 iX12_forceIn vX12_forceIn (Nat.le_of_ble_eq_true rfl) (by omega) (c_X12_forceIn hE (by simpa [sp_bad_ne, mo_up] using hO) hO2) (fun g hT => ?_)
      exact K_38 g hT _ (by rw [if_pos c_26])
    · refine ev_iconst (v := 0) dX12_force_29 (by decide) ?_
      refine ev_goto (tgt := 38) dX12_force_30 (by decide) ?_
      exact K_38 g hT _ (by rw [if_neg c_26])
  refine ev_if_ne (tgt := 21) dX12_force_14 (by decide) (fun c_14 => ?_) (fun c_14 => ?_)
  · refine ev_iconst (v := 0) dX12_force_21 (by decide) ?_
    exact K_22 g hT _ (by rw [if_neg c_14]; rfl)
  · refine ev_iconst (v := 1) dX12_force_17 (by decide) ?_
    refine ev_goto (tgt := 22) dX12_force_18 (by decide) ?_
    exact K_22 g hT _ (by rw [if_pos c_14]; rfl)
def sp_lies (S : mo_S) (p : Nat) (v : Int32) : Nat → Int32
  | 0 => 0
  | n + 1 => sp_lies S p v n ||| (if sp_in v (S.1 60 (8 * p + n)) (S.1 61 (8 * p + n)) = true then (1 : Int32) <<< (nI n &&& 31) else 0)
theorem c_X12_lies {G : ev_G} {W : mo_W} {d : Nat} {S : mo_S} {x1 x2 : Int32} (hE : ev_En G) (hd : 1 ≤ d) {p K : Nat} (hp : x1 = nI p) (hp2 : p < 12) (hK : S.1 59 p = nI K) (hK2 : K ≤ 8) : mo_C G W d mX12_lies [.int x1, .int x2] S (some (.int (sp_lies S p x2 K))) S := by
  refine mo_start (lv0 := [some (.ref W.1), some (.int x1), some (.int x2), none, none]) (by decide +kernel) rfl (Nat.le_of_ble_eq_true rfl) rfl ?_
  intro g0 g hT
  refine ev_iconst (v := 0) dX12_lies_0 (by decide) ?_
  refine ev_istore_n dX12_lies_1 rfl (Nat.le_of_ble_eq_true rfl) rfl ?_
  refine ev_iconst (v := (nI 0)) dX12_lies_2 (by decide) ?_
  refine ev_istore dX12_lies_3 (Nat.le_of_ble_eq_true rfl) rfl ?_
  have loop : ∀ (n i : Nat), i ≤ K → K < i + n → ∀ (x : Int32), x = sp_lies S p x2 i → ∀ g, mo_T G W g0 g S → ev_V G d 0 0 mX12_lies (fun o g' => o = .inl (some (.int (sp_lies S p x2 K))) ∧ mo_T G W g0 g' S) g 5 [some (.ref W.1), some (.int x1), some (.int x2), some (.int x), some (.int (nI i))] [] := by
    intro n
    induction n with
    | zero => intro i h1 h2; exact absurd h2 (by omega)
    | succ n ih =>
      intro i h1 h2 x hx g hT
      refine ev_iload dX12_lies_5 rfl ?_
      refine ev_aload_n dX12_lies_7 rfl rfl ?_
      refine mo_geta hE hT dX12_lies_8 fX12_134 (by decide) ?_
      refine ev_iload_n dX12_lies_11 rfl rfl ?_
      refine mo_iald (q := p) hE hT dX12_lies_12 (by decide) hp (show _ < 12 from hp2) ?_
      refine ev_icmp_ge (tgt := 64) dX12_lies_13 (by decide) (fun c_13 => ?_) (fun c_13 => ?_)
      · have e : i = K := by have := mo_ige hK (by omega) (by omega) c_13; omega
        subst e
        refine ev_iload_n dX12_lies_64 rfl rfl ?_
        exact ev_iret dX12_lies_65 rfl rfl ⟨by rw [hx], hT⟩
      · have hlt : i < K := mo_ilt hK (by omega) (by omega) c_13
        have e8 : 8 * x1 + nI i = nI (8 * p + i) := by rw [hp, show (8 : Int32) = nI 8 from rfl, pk_mul, nI_add]
        refine ev_iload_n dX12_lies_16 rfl rfl ?_
        refine ev_iload_n dX12_lies_17 rfl rfl ?_
        refine ev_aload_n dX12_lies_18 rfl rfl ?_
        refine mo_geta hE hT dX12_lies_19 fX12_137 (by decide) ?_
        refine ev_bipush (v := 8) dX12_lies_22 (by decide) ?_
        refine ev_iload_n dX12_lies_24 rfl rfl ?_
        refine ev_imul dX12_lies_25 ?_
        refine ev_iload dX12_lies_26 rfl ?_
        refine ev_iadd dX12_lies_28 ?_
        refine mo_iald (q := (8 * p + i)) hE hT dX12_lies_29 (by decide) e8 (show _ < 96 from (by omega)) ?_
        refine ev_aload_n dX12_lies_30 rfl rfl ?_
        refine mo_geta hE hT dX12_lies_31 fX12_140 (by decide) ?_
        refine ev_bipush (v := 8) dX12_lies_34 (by decide) ?_
        refine ev_iload_n dX12_lies_36 rfl rfl ?_
        refine ev_imul dX12_lies_37 ?_
        refine ev_iload dX12_lies_38 rfl ?_
        refine ev_iadd dX12_lies_40 ?_
        refine mo_iald (q := (8 * p + i)) hE hT dX12_lies_41 (by decide) e8 (show _ < 96 from (by omega)) ?_
        refine ev_pS3 (d' := d - 1) dX12_lies_42 rfl kX12_in lX12_176 sX12_in (Nat.le_of_ble_eq_true rfl) (by omega) (c_X12_in) ?_
        have K_56 : ∀ (g : ev_H) (hT : mo_T G W g0 g S), ∀ x9 : Int32, x9 = (if (mo_b (sp_in x2 (S.1 60 (8 * p + i)) (S.1 61 (8 * p + i)))) = 0 then 0 else ((1 : Int32) <<< ((nI i) &&& 31))) → ev_V G d 0 0 mX12_lies (fun o g' => o = .inl (some (.int (sp_lies S p x2 K))) ∧ mo_T G W g0 g' S) g 56 [some (.ref W.1), some (.int x1), some (.int x2), some (.int x), some (.int (nI i))] (.int x9 :: .int x :: []) := by
          intro g hT x9 h9
          subst h9
          refine ev_ior dX12_lies_56 ?_
          refine ev_istore_n dX12_lies_57 rfl (Nat.le_of_ble_eq_true rfl) rfl ?_
          refine ev_iinc (v := (nI (i + 1))) dX12_lies_58 rfl (by exact nI_1 i) rfl ?_
          refine ev_goto (tgt := 5) dX12_lies_61 (by decide) ?_
          exact ih (i + 1) (by omega) (by omega) _ (by rw [hx]; simp only [sp_lies, mo_b]; congr 1; split <;> split <;> simp_all) g hT
        refine ev_if_eq (tgt := 55) dX12_lies_45 (by decide) (fun c_45 => ?_) (fun c_45 => ?_)
        · refine ev_iconst (v := 0) dX12_lies_55 (by decide) ?_
          exact K_56 g hT _ (by rw [if_pos c_45])
        · refine ev_iconst (v := 1) dX12_lies_48 (by decide) ?_
          refine ev_iload dX12_lies_49 rfl ?_
          refine ev_ishl dX12_lies_51 ?_
          refine ev_goto (tgt := 56) dX12_lies_52 (by decide) ?_
          exact K_56 g hT _ (by rw [if_neg c_45])
  exact loop (K + 1) 0 (by omega) (by omega) 0 rfl g hT
/-- papers of the queue are let in, at most L of them, by number: the number left and the state, n papers looked at -/
def sp_adm (S : mo_S) (L : Int32) : Nat → Int32 × mo_S
  | 0 => (L, S)
  | n + 1 => if (sp_adm S L n).1 ≤ 0 then sp_adm S L n else if (sp_adm S L n).2.1 12 n = 0 then ((sp_adm S L n).1 + Int32.ofInt (-1), mo_up (sp_adm S L n).2 12 n 1) else sp_adm S L n
theorem sp_adm_ne {S : mo_S} {L : Int32} {k : Nat} (h : k ≠ 12) : ∀ n, (sp_adm S L n).2.1 k = S.1 k
  | 0 => rfl
  | n + 1 => by
    simp only [sp_adm]
    split
    · exact sp_adm_ne h n
    · split
      · rw [show (mo_up (sp_adm S L n).2 12 n 1).1 k = (sp_adm S L n).2.1 k from funext fun b => by simp [mo_up, h]]
        exact sp_adm_ne h n
      · exact sp_adm_ne h n
theorem sp_adm_stop {S : mo_S} {L : Int32} {i : Nat} (h : (sp_adm S L i).1 ≤ 0) : ∀ j, sp_adm S L (i + j) = sp_adm S L i
  | 0 => rfl
  | j + 1 => by
    have e := sp_adm_stop h j
    rw [show i + (j + 1) = (i + j) + 1 from rfl]
    simp only [sp_adm]
    rw [if_pos (by rw [e]; exact h), e]
theorem c_X12_admits {G : ev_G} {W : mo_W} {d : Nat} {S : mo_S} (hE : ev_En G) (hd : 3 ≤ d) (hP : S.1 1 0 = nI (sp_P S)) (hP2 : sp_P S ≤ 12) (hO : S.1 29 0 = nI (sp_O S)) (hO2 : sp_O S ≤ 10) (hC : ∀ b, b < sp_O S → ∃ C, C ≤ 12 ∧ S.1 37 b = nI C) : mo_C G W d mX12_admits [] S none ((sp_adm S (sp_X12_much S 6) (sp_P S)).2) := by
  refine mo_start (lv0 := [some (.ref W.1), none, none]) (by decide +kernel) rfl (Nat.le_of_ble_eq_true rfl) rfl ?_
  intro g0 g hT
  refine ev_aload_n dX12_admits_0 rfl rfl ?_
  refine ev_bipush (v := 6) dX12_admits_1 (by decide) ?_
  refine mo_call1 (d' := d - 1) hE hT dX12_admits_3 rfl rfl kX12_much lX12_412 iX12_much vX12_much (Nat.le_of_ble_eq_true rfl) (by omega) (c_X12_much hE (by omega) hO hO2 hC) (fun g hT => ?_)
  refine ev_istore_n dX12_admits_6 rfl (Nat.le_of_ble_eq_true rfl) rfl ?_
  refine ev_iconst (v := (nI 0)) dX12_admits_7 (by decide) ?_
  refine ev_istore_n dX12_admits_8 rfl (Nat.le_of_ble_eq_true rfl) rfl ?_
  have loop : ∀ (n i : Nat), i ≤ sp_P S → sp_P S < i + n → ∀ (x : Int32), x = (sp_adm S (sp_X12_much S 6) i).1 → ∀ g, mo_T G W g0 g (sp_adm S (sp_X12_much S 6) i).2 → ev_V G d 0 0 mX12_admits (fun o g' => o = .inl none ∧ mo_T G W g0 g' ((sp_adm S (sp_X12_much S 6) (sp_P S)).2)) g 9 [some (.ref W.1), some (.int x), some (.int (nI i))] [] := by
    intro n
    induction n with
    | zero => intro i h1 h2; exact absurd h2 (by omega)
    | succ n ih =>
      intro i h1 h2 x hx g hT
      refine ev_iload_n dX12_admits_9 rfl rfl ?_
      have hP9 : (sp_adm S (sp_X12_much S 6) i).2.1 1 0 = nI (sp_P S) := by rw [sp_adm_ne (by decide)]; exact hP
      refine ev_aload_n dX12_admits_10 rfl rfl ?_
      refine mo_geti hE hT dX12_admits_11 fX12_185 (by decide) ?_
      refine ev_icmp_ge (tgt := 49) dX12_admits_14 (by decide) (fun c_14 => ?_) (fun c_14 => ?_)
      · have e : sp_adm S (sp_X12_much S 6) i = sp_adm S (sp_X12_much S 6) (sp_P S) := by
          first
            | (have q := mo_ige hP9 (by omega) (by omega) c_14; rw [show i = sp_P S by omega])
            | (have q := sp_adm_stop (i := i) (by rw [← hx]; exact c_18) (sp_P S - i); rw [show i + (sp_P S - i) = sp_P S by omega] at q; exact q.symm)
        exact ev_vret dX12_admits_49 rfl ⟨rfl, by rw [← e]; exact hT⟩
      · refine ev_iload_n dX12_admits_17 rfl rfl ?_
        refine ev_if_le (tgt := 49) dX12_admits_18 (by decide) (fun c_18 => ?_) (fun c_18 => ?_)
        · have e : sp_adm S (sp_X12_much S 6) i = sp_adm S (sp_X12_much S 6) (sp_P S) := by
            first
              | (have q := mo_ige hP9 (by omega) (by omega) c_14; rw [show i = sp_P S by omega])
              | (have q := sp_adm_stop (i := i) (by rw [← hx]; exact c_18) (sp_P S - i); rw [show i + (sp_P S - i) = sp_P S by omega] at q; exact q.symm)
          exact ev_vret dX12_admits_49 rfl ⟨rfl, by rw [← e]; exact hT⟩
        · have hlt : i < sp_P S := mo_ilt hP9 (by omega) (by omega) c_14
          refine ev_aload_n dX12_admits_21 rfl rfl ?_
          refine mo_geta hE hT dX12_admits_22 fX12_37 (by decide) ?_
          refine ev_iload_n dX12_admits_25 rfl rfl ?_
          refine mo_iald (q := i) hE hT dX12_admits_26 (by decide) rfl (show _ < 12 from (by omega)) ?_
          refine ev_if_eq (tgt := 33) dX12_admits_27 (by decide) (fun c_27 => ?_) (fun c_27 => ?_)
          · refine ev_aload_n dX12_admits_33 rfl rfl ?_
            refine mo_geta hE hT dX12_admits_34 fX12_37 (by decide) ?_
            refine ev_iload_n dX12_admits_37 rfl rfl ?_
            refine ev_iconst (v := 1) dX12_admits_38 (by decide) ?_
            refine mo_iast (q := i) hE hT dX12_admits_39 (by decide) rfl (show _ < 12 from (by omega)) (fun g hT => ?_)
            refine ev_iinc (v := (x + Int32.ofInt (-1))) dX12_admits_40 rfl rfl rfl ?_
            refine ev_iinc (v := (nI (i + 1))) dX12_admits_43 rfl (by exact nI_1 i) rfl ?_
            refine ev_goto (tgt := 9) dX12_admits_46 (by decide) ?_
            have hlt : i < sp_P S := mo_ilt hP9 (by omega) (by omega) c_14
            have e7 : sp_adm S (sp_X12_much S 6) (i + 1) = _ := rfl
            first
              | exact ih (i + 1) (by omega) (by omega) _ (by simp only [sp_adm]; rw [if_neg (by rw [← hx]; exact c_18), if_pos c_27, hx]) g (by simp only [sp_adm]; rw [if_neg (by rw [← hx]; exact c_18), if_pos c_27]; exact hT)
              | exact ih (i + 1) (by omega) (by omega) _ (by simp only [sp_adm]; rw [if_neg (by rw [← hx]; exact c_18), if_neg c_27, hx]) g (by simp only [sp_adm]; rw [if_neg (by rw [← hx]; exact c_18), if_neg c_27]; exact hT)
          · refine ev_goto (tgt := 43) dX12_admits_30 (by decide) ?_
            refine ev_iinc (v := (nI (i + 1))) dX12_admits_43 rfl (by exact nI_1 i) rfl ?_
            refine ev_goto (tgt := 9) dX12_admits_46 (by decide) ?_
            have hlt : i < sp_P S := mo_ilt hP9 (by omega) (by omega) c_14
            have e7 : sp_adm S (sp_X12_much S 6) (i + 1) = _ := rfl
            first
              | exact ih (i + 1) (by omega) (by omega) _ (by simp only [sp_adm]; rw [if_neg (by rw [← hx]; exact c_18), if_pos c_27, hx]) g (by simp only [sp_adm]; rw [if_neg (by rw [← hx]; exact c_18), if_pos c_27]; exact hT)
              | exact ih (i + 1) (by omega) (by omega) _ (by simp only [sp_adm]; rw [if_neg (by rw [← hx]; exact c_18), if_neg c_27, hx]) g (by simp only [sp_adm]; rw [if_neg (by rw [← hx]; exact c_18), if_neg c_27]; exact hT)
  exact loop (sp_P S + 1) 0 (by omega) (by omega) _ rfl g hT
def sp_bits (b : Int32) : Nat → Int32
  | 0 => 0
  | n + 1 => sp_bits b n + ((b >>> (nI n &&& 31)) &&& 1)
theorem c_X12_many {G : ev_G} {d : Nat} {g : ev_H} {x1 : Int32} : ev_Cp G d mX12_many [.int x1] g (some (.int (sp_bits x1 8))) := by
  refine ev_start (lv0 := [some (.int x1), none, none]) (by decide +kernel) rfl (Nat.le_of_ble_eq_true rfl) rfl ?_
  refine ev_iconst (v := 0) dX12_many_0 (by decide) ?_
  refine ev_istore_n dX12_many_1 rfl (Nat.le_of_ble_eq_true rfl) rfl ?_
  refine ev_iconst (v := (nI 0)) dX12_many_2 (by decide) ?_
  refine ev_istore_n dX12_many_3 rfl (Nat.le_of_ble_eq_true rfl) rfl ?_
  have loop : ∀ (n i : Nat), i ≤ 8 → 8 < i + n → ∀ (x : Int32), x = sp_bits x1 i → ev_V G d 0 0 mX12_many (fun o g' => o = .inl (some (.int (sp_bits x1 8))) ∧ g' = g) g 4 [some (.int x1), some (.int x), some (.int (nI i))] [] := by
    intro n
    induction n with
    | zero => intro i h1 h2; exact absurd h2 (by omega)
    | succ n ih =>
      intro i h1 h2 x hx
      refine ev_iload_n dX12_many_4 rfl rfl ?_
      refine ev_bipush (v := 8) dX12_many_5 (by decide) ?_
      refine ev_icmp_ge (tgt := 24) dX12_many_7 (by decide) (fun c_7 => ?_) (fun c_7 => ?_)
      · have e : i = 8 := by have := mo_ige (R := 8) rfl (by decide) (by omega) c_7; omega
        subst e
        refine ev_iload_n dX12_many_24 rfl rfl ?_
        exact ev_iret dX12_many_25 rfl rfl ⟨by rw [hx], rfl⟩
      · refine ev_iload_n dX12_many_10 rfl rfl ?_
        refine ev_iload_n dX12_many_11 rfl rfl ?_
        refine ev_iload_n dX12_many_12 rfl rfl ?_
        refine ev_ishr dX12_many_13 ?_
        refine ev_iconst (v := 1) dX12_many_14 (by decide) ?_
        refine ev_iand dX12_many_15 ?_
        refine ev_iadd dX12_many_16 ?_
        refine ev_istore_n dX12_many_17 rfl (Nat.le_of_ble_eq_true rfl) rfl ?_
        refine ev_iinc (v := (nI (i + 1))) dX12_many_18 rfl (by exact nI_1 i) rfl ?_
        refine ev_goto (tgt := 4) dX12_many_21 (by decide) ?_
        have hlt : i < 8 := mo_ilt (R := 8) rfl (by decide) (by omega) c_7
        exact ih (i + 1) (by omega) (by omega) _ (by rw [hx]; rfl)
  exact loop (8 + 1) 0 (by omega) (by omega) 0 rfl
/-- the admitted paper with the greatest right above 0, among the first n -/
def sp_owed (S : mo_S) : Nat → Option Nat
  | 0 => none
  | n + 1 => if S.1 12 n = 1 then (if S.1 11 n ≤ 0 then sp_owed S n else match sp_owed S n with
    | none => some n
    | some b => if S.1 11 n ≤ S.1 11 b then some b else some n) else sp_owed S n
theorem sp_owed_lt {S : mo_S} : ∀ {n b : Nat}, sp_owed S n = some b → b < n
  | 0, b, h => by cases h
  | n + 1, b, h => by
    unfold sp_owed at h
    split at h
    · split at h
      · have := sp_owed_lt h; omega
      · split at h
        · cases h; omega
        · rename_i b2 hb
          have := sp_owed_lt hb
          split at h <;> cases h <;> omega
    · have := sp_owed_lt h; omega
/-- reel r goes to paper b -/
def sp_give (S : mo_S) (r b : Nat) : mo_S := mo_up (mo_up (mo_up S 23 r (nI b)) 10 b (S.1 10 b + S.1 22 r)) 11 b (S.1 11 b - S.1 22 r)
/-- the reels of the store are given, the first n looked at -/
def sp_hand (S : mo_S) (P : Nat) : Nat → mo_S
  | 0 => S
  | n + 1 => if (sp_hand S P n).1 23 n = -1 then match sp_owed (sp_hand S P n) P with
    | none => sp_hand S P n
    | some b => sp_give (sp_hand S P n) n b else sp_hand S P n
theorem sp_give_ne {S : mo_S} {r b k : Nat} (h : k ≠ 10 ∧ k ≠ 11 ∧ k ≠ 23) : (sp_give S r b).1 k = S.1 k := funext fun i => by simp [sp_give, mo_up, h.1, h.2.1, h.2.2]
theorem sp_hand_ne {S : mo_S} {P k : Nat} (h : k ≠ 10 ∧ k ≠ 11 ∧ k ≠ 23) : ∀ n, (sp_hand S P n).1 k = S.1 k
  | 0 => rfl
  | n + 1 => by
    simp only [sp_hand]
    split
    · split
      · exact sp_hand_ne h n
      · rw [sp_give_ne h]; exact sp_hand_ne h n
    · exact sp_hand_ne h n
theorem sp_hand_stop {S : mo_S} {P i : Nat} (h : sp_owed (sp_hand S P i) P = none) : ∀ j, sp_hand S P (i + j) = sp_hand S P i
  | 0 => rfl
  | j + 1 => by
    have e := sp_hand_stop h j
    rw [show i + (j + 1) = (i + j) + 1 from rfl]
    simp only [sp_hand]
    rw [e, h]
    split <;> rfl
theorem c_X12_hands {G : ev_G} {W : mo_W} {d : Nat} {S : mo_S} (hE : ev_En G) (hP : S.1 1 0 = nI (sp_P S)) (hP2 : sp_P S ≤ 12) (hR : S.1 21 0 = nI (sp_R S)) (hR2 : sp_R S ≤ 80) : mo_C G W d mX12_hands [] S none (sp_hand S (sp_P S) (sp_R S)) := by
  refine mo_start (lv0 := [some (.ref W.1), none, none, none]) (by decide +kernel) rfl (Nat.le_of_ble_eq_true rfl) rfl ?_
  intro g0 g hT
  refine ev_iconst (v := (nI 0)) dX12_hands_0 (by decide) ?_
  refine ev_istore_n dX12_hands_1 rfl (Nat.le_of_ble_eq_true rfl) rfl ?_
  have loop : ∀ (n i : Nat), i ≤ sp_R S → sp_R S < i + n → ∀ (u : Unit), u = () → ∀ g, mo_T G W g0 g (sp_hand S (sp_P S) i) → ev_V G d 0 0 mX12_hands (fun o g' => o = .inl none ∧ mo_T G W g0 g' (sp_hand S (sp_P S) (sp_R S))) g 2 [some (.ref W.1), some (.int (nI i)), none, none] [] := by
    intro n
    induction n with
    | zero => intro i h1 h2; exact absurd h2 (by omega)
    | succ n ih =>
      intro i h1 h2 u hx g hT
      refine ev_iload_n dX12_hands_2 rfl rfl ?_
      have hR9 : (sp_hand S (sp_P S) i).1 21 0 = nI (sp_R S) := by rw [sp_hand_ne (by decide)]; exact hR
      have hP9 : (sp_hand S (sp_P S) i).1 1 0 = nI (sp_P S) := by rw [sp_hand_ne (by decide)]; exact hP
      refine ev_aload_n dX12_hands_3 rfl rfl ?_
      refine mo_geti hE hT dX12_hands_4 fX12_196 (by decide) ?_
      refine ev_icmp_ge (tgt := 129) dX12_hands_7 (by decide) (fun c_7 => ?_) (fun c_7 => ?_)
      · have e : i = sp_R S := by have q := mo_ige hR9 (by omega) (by omega) c_7; omega
        subst e
        exact ev_vret dX12_hands_129 rfl ⟨rfl, hT⟩
      · have hlt : i < sp_R S := mo_ilt hR9 (by omega) (by omega) c_7
        refine ev_aload_n dX12_hands_10 rfl rfl ?_
        refine mo_geta hE hT dX12_hands_11 fX12_67 (by decide) ?_
        refine ev_iload_n dX12_hands_14 rfl rfl ?_
        refine mo_iald (q := i) hE hT dX12_hands_15 (by decide) rfl (show _ < 80 from (by omega)) ?_
        refine ev_iconst (v := (-1)) dX12_hands_16 (by decide) ?_
        refine ev_icmp_eq (tgt := 23) dX12_hands_17 (by decide) (fun c_17 => ?_) (fun c_17 => ?_)
        · refine ev_iconst (v := (-1)) dX12_hands_23 (by decide) ?_
          refine ev_istore_n dX12_hands_24 rfl (Nat.le_of_ble_eq_true rfl) rfl ?_
          refine ev_iconst (v := (nI 0)) dX12_hands_25 (by decide) ?_
          refine ev_istore_n dX12_hands_26 rfl (Nat.le_of_ble_eq_true rfl) rfl ?_
          have K81 : ∀ g, mo_T G W g0 g (sp_hand S (sp_P S) i) → ev_V G d 0 0 mX12_hands (fun o g' => o = .inl none ∧ mo_T G W g0 g' (sp_hand S (sp_P S) (sp_R S))) g 81 [some (.ref W.1), some (.int (nI i)), some (.int (sp_opt (sp_owed (sp_hand S (sp_P S) i) (sp_P S)))), some (.int (nI (sp_P S)))] [] := by
            intro g hT
            refine ev_iload_n dX12_hands_81 rfl rfl ?_
            refine ev_if_ge (tgt := 86) dX12_hands_82 (by decide) (fun c_82 => ?_) (fun c_82 => ?_)
            · obtain ⟨b, hb⟩ : ∃ b, sp_owed (sp_hand S (sp_P S) i) (sp_P S) = some b := by
                cases hq : sp_owed (sp_hand S (sp_P S) i) (sp_P S) with
                | none => rw [hq] at c_82; exact absurd c_82 (show ¬ (0 : Int32) ≤ -1 by decide)
                | some b => exact ⟨b, rfl⟩
              have hb2 := sp_owed_lt hb
              rw [hb]
              refine ev_aload_n dX12_hands_86 rfl rfl ?_
              refine mo_geta hE hT dX12_hands_87 fX12_67 (by decide) ?_
              refine ev_iload_n dX12_hands_90 rfl rfl ?_
              refine ev_iload_n dX12_hands_91 rfl rfl ?_
              refine mo_iast (q := i) hE hT dX12_hands_92 (by decide) rfl (show _ < 80 from (by omega)) (fun g hT => ?_)
              refine ev_aload_n dX12_hands_93 rfl rfl ?_
              refine mo_geta hE hT dX12_hands_94 fX12_31 (by decide) ?_
              refine ev_iload_n dX12_hands_97 rfl rfl ?_
              refine ev_dup2 dX12_hands_98 rfl rfl ?_
              refine mo_ialdQ (q := b) (v := ((sp_hand S (sp_P S) i).1 10 b)) hE hT dX12_hands_99 (by decide) rfl (show _ < 12 from (by omega)) (by simp [sp_bad_ne, mo_up]) ?_
              refine ev_aload_n dX12_hands_100 rfl rfl ?_
              refine mo_geta hE hT dX12_hands_101 fX12_64 (by decide) ?_
              refine ev_iload_n dX12_hands_104 rfl rfl ?_
              refine mo_ialdQ (q := i) (v := ((sp_hand S (sp_P S) i).1 22 i)) hE hT dX12_hands_105 (by decide) rfl (show _ < 80 from (by omega)) (by simp [sp_bad_ne, mo_up]) ?_
              refine ev_iadd dX12_hands_106 ?_
              refine mo_iast (q := b) hE hT dX12_hands_107 (by decide) rfl (show _ < 12 from (by omega)) (fun g hT => ?_)
              refine ev_aload_n dX12_hands_108 rfl rfl ?_
              refine mo_geta hE hT dX12_hands_109 fX12_34 (by decide) ?_
              refine ev_iload_n dX12_hands_112 rfl rfl ?_
              refine ev_dup2 dX12_hands_113 rfl rfl ?_
              refine mo_ialdQ (q := b) (v := ((sp_hand S (sp_P S) i).1 11 b)) hE hT dX12_hands_114 (by decide) rfl (show _ < 12 from (by omega)) (by simp [sp_bad_ne, mo_up]) ?_
              refine ev_aload_n dX12_hands_115 rfl rfl ?_
              refine mo_geta hE hT dX12_hands_116 fX12_64 (by decide) ?_
              refine ev_iload_n dX12_hands_119 rfl rfl ?_
              refine mo_ialdQ (q := i) (v := ((sp_hand S (sp_P S) i).1 22 i)) hE hT dX12_hands_120 (by decide) rfl (show _ < 80 from (by omega)) (by simp [sp_bad_ne, mo_up]) ?_
              refine ev_isub dX12_hands_121 ?_
              refine mo_iast (q := b) hE hT dX12_hands_122 (by decide) rfl (show _ < 12 from (by omega)) (fun g hT => ?_)
              refine ev_iinc (v := (nI (i + 1))) dX12_hands_123 rfl (by exact nI_1 i) rfl ?_
              refine ev_goto (tgt := 2) dX12_hands_126 (by decide) ?_
              refine ev_none 2 ?_
              refine ev_none 3 ?_
              first
                | exact ih (i + 1) (by omega) (by omega) () rfl g (by simp only [sp_hand]; rw [if_neg c_17]; exact hT)
                | exact ih (i + 1) (by omega) (by omega) () rfl g (by simp only [sp_hand]; rw [if_pos c_17, hb]; exact hT)
            · have hno : sp_owed (sp_hand S (sp_P S) i) (sp_P S) = none := by
                cases hq : sp_owed (sp_hand S (sp_P S) i) (sp_P S) with
                | none => rfl
                | some b => rw [hq] at c_82; exact absurd (nI_pos' (by have := sp_owed_lt hq; omega)) c_82
              have q := sp_hand_stop hno (sp_R S - i)
              rw [show i + (sp_R S - i) = sp_R S by omega] at q
              exact ev_vret dX12_hands_85 rfl ⟨rfl, by rw [q]; exact hT⟩
          have loop2 : ∀ (n2 p : Nat), p ≤ (sp_P S) → (sp_P S) < p + n2 → ∀ (z2 : Int32), z2 = sp_opt (sp_owed (sp_hand S (sp_P S) i) p) → ∀ g, mo_T G W g0 g (sp_hand S (sp_P S) i) → ev_V G d 0 0 mX12_hands (fun o g' => o = .inl none ∧ mo_T G W g0 g' (sp_hand S (sp_P S) (sp_R S))) g 27 [some (.ref W.1), some (.int (nI i)), some (.int z2), some (.int (nI p))] [] := by
            intro n2
            induction n2 with
            | zero => intro p h12 h22; exact absurd h22 (by omega)
            | succ n2 ih2 =>
              intro p h12 h22 z2 hx2 g hT
              refine ev_iload_n dX12_hands_27 rfl rfl ?_
              refine ev_aload_n dX12_hands_28 rfl rfl ?_
              refine mo_geti hE hT dX12_hands_29 fX12_185 (by decide) ?_
              refine ev_icmp_ge (tgt := 81) dX12_hands_32 (by decide) (fun c_32 => ?_) (fun c_32 => ?_)
              · have e : p = sp_P S := by have q := mo_ige hP9 (by omega) (by omega) c_32; omega
                subst e
                rw [hx2]
                exact K81 g hT
              · have hlp : p < sp_P S := mo_ilt hP9 (by omega) (by omega) c_32
                have hl9 : ∀ b, sp_owed (sp_hand S (sp_P S) i) p = some b → b < 2147483648 := fun b q => by have := sp_owed_lt q; omega
                refine ev_aload_n dX12_hands_35 rfl rfl ?_
                refine mo_geta hE hT dX12_hands_36 fX12_37 (by decide) ?_
                refine ev_iload_n dX12_hands_39 rfl rfl ?_
                refine mo_iald (q := p) hE hT dX12_hands_40 (by decide) rfl (show _ < 12 from (by omega)) ?_
                refine ev_iconst (v := 1) dX12_hands_41 (by decide) ?_
                refine ev_icmp_ne (tgt := 75) dX12_hands_42 (by decide) (fun c_42 => ?_) (fun c_42 => ?_)
                · refine ev_iinc (v := (nI (p + 1))) dX12_hands_75 rfl (by exact nI_1 p) rfl ?_
                  refine ev_goto (tgt := 27) dX12_hands_78 (by decide) ?_
                  have hlp : p < sp_P S := mo_ilt hP9 (by omega) (by omega) c_32
                  have e8 : ∀ z, z = sp_opt (sp_owed (sp_hand S (sp_P S) i) (p + 1)) → ev_V G d 0 0 mX12_hands _ g 27 [some (.ref W.1), some (.int (nI i)), some (.int z), some (.int (nI (p + 1)))] [] := fun z hz => ih2 (p + 1) (by omega) (by omega) z hz g hT
                  refine e8 _ ?_
                  rw [show sp_owed (sp_hand S (sp_P S) i) (p + 1) = (if (sp_hand S (sp_P S) i).1 12 p = 1 then (if (sp_hand S (sp_P S) i).1 11 p ≤ 0 then sp_owed (sp_hand S (sp_P S) i) p else match sp_owed (sp_hand S (sp_P S) i) p with | none => some p | some b => if (sp_hand S (sp_P S) i).1 11 p ≤ (sp_hand S (sp_P S) i).1 11 b then some b else some p) else sp_owed (sp_hand S (sp_P S) i) p) from rfl]
                  first
                    | (rw [if_neg c_42, hx2]; done)
                    | (rw [if_pos c_42, if_pos c_51, hx2]; done)
                    | (rw [if_pos c_42, if_neg c_51, hb, hx2, hb]; show _ = sp_opt (if _ then _ else _); rw [if_pos c_70]; done)
                    | (rw [if_pos c_42, if_neg c_51, hb]; show _ = sp_opt (if _ then _ else _); rw [if_neg c_70]; try rfl)
                    | (rw [if_pos c_42, if_neg c_51, (sp_opt_neg hl9).mp (hx2 ▸ c_55)]; try rfl)
                · refine ev_aload_n dX12_hands_45 rfl rfl ?_
                  refine mo_geta hE hT dX12_hands_46 fX12_34 (by decide) ?_
                  refine ev_iload_n dX12_hands_49 rfl rfl ?_
                  refine mo_iald (q := p) hE hT dX12_hands_50 (by decide) rfl (show _ < 12 from (by omega)) ?_
                  refine ev_if_le (tgt := 75) dX12_hands_51 (by decide) (fun c_51 => ?_) (fun c_51 => ?_)
                  · refine ev_iinc (v := (nI (p + 1))) dX12_hands_75 rfl (by exact nI_1 p) rfl ?_
                    refine ev_goto (tgt := 27) dX12_hands_78 (by decide) ?_
                    have hlp : p < sp_P S := mo_ilt hP9 (by omega) (by omega) c_32
                    have e8 : ∀ z, z = sp_opt (sp_owed (sp_hand S (sp_P S) i) (p + 1)) → ev_V G d 0 0 mX12_hands _ g 27 [some (.ref W.1), some (.int (nI i)), some (.int z), some (.int (nI (p + 1)))] [] := fun z hz => ih2 (p + 1) (by omega) (by omega) z hz g hT
                    refine e8 _ ?_
                    rw [show sp_owed (sp_hand S (sp_P S) i) (p + 1) = (if (sp_hand S (sp_P S) i).1 12 p = 1 then (if (sp_hand S (sp_P S) i).1 11 p ≤ 0 then sp_owed (sp_hand S (sp_P S) i) p else match sp_owed (sp_hand S (sp_P S) i) p with | none => some p | some b => if (sp_hand S (sp_P S) i).1 11 p ≤ (sp_hand S (sp_P S) i).1 11 b then some b else some p) else sp_owed (sp_hand S (sp_P S) i) p) from rfl]
                    first
                      | (rw [if_neg c_42, hx2]; done)
                      | (rw [if_pos c_42, if_pos c_51, hx2]; done)
                      | (rw [if_pos c_42, if_neg c_51, hb, hx2, hb]; show _ = sp_opt (if _ then _ else _); rw [if_pos c_70]; done)
                      | (rw [if_pos c_42, if_neg c_51, hb]; show _ = sp_opt (if _ then _ else _); rw [if_neg c_70]; try rfl)
                      | (rw [if_pos c_42, if_neg c_51, (sp_opt_neg hl9).mp (hx2 ▸ c_55)]; try rfl)
                  · refine ev_iload_n dX12_hands_54 rfl rfl ?_
                    refine ev_if_lt (tgt := 73) dX12_hands_55 (by decide) (fun c_55 => ?_) (fun c_55 => ?_)
                    · refine ev_iload_n dX12_hands_73 rfl rfl ?_
                      refine ev_istore_n dX12_hands_74 rfl (Nat.le_of_ble_eq_true rfl) rfl ?_
                      refine ev_iinc (v := (nI (p + 1))) dX12_hands_75 rfl (by exact nI_1 p) rfl ?_
                      refine ev_goto (tgt := 27) dX12_hands_78 (by decide) ?_
                      have hlp : p < sp_P S := mo_ilt hP9 (by omega) (by omega) c_32
                      have e8 : ∀ z, z = sp_opt (sp_owed (sp_hand S (sp_P S) i) (p + 1)) → ev_V G d 0 0 mX12_hands _ g 27 [some (.ref W.1), some (.int (nI i)), some (.int z), some (.int (nI (p + 1)))] [] := fun z hz => ih2 (p + 1) (by omega) (by omega) z hz g hT
                      refine e8 _ ?_
                      rw [show sp_owed (sp_hand S (sp_P S) i) (p + 1) = (if (sp_hand S (sp_P S) i).1 12 p = 1 then (if (sp_hand S (sp_P S) i).1 11 p ≤ 0 then sp_owed (sp_hand S (sp_P S) i) p else match sp_owed (sp_hand S (sp_P S) i) p with | none => some p | some b => if (sp_hand S (sp_P S) i).1 11 p ≤ (sp_hand S (sp_P S) i).1 11 b then some b else some p) else sp_owed (sp_hand S (sp_P S) i) p) from rfl]
                      first
                        | (rw [if_neg c_42, hx2]; done)
                        | (rw [if_pos c_42, if_pos c_51, hx2]; done)
                        | (rw [if_pos c_42, if_neg c_51, hb, hx2, hb]; show _ = sp_opt (if _ then _ else _); rw [if_pos c_70]; done)
                        | (rw [if_pos c_42, if_neg c_51, hb]; show _ = sp_opt (if _ then _ else _); rw [if_neg c_70]; try rfl)
                        | (rw [if_pos c_42, if_neg c_51, (sp_opt_neg hl9).mp (hx2 ▸ c_55)]; try rfl)
                    · obtain ⟨b, hb⟩ : ∃ b, sp_owed (sp_hand S (sp_P S) i) p = some b := by
                        cases hq : sp_owed (sp_hand S (sp_P S) i) p with
                        | none => exact absurd ((sp_opt_neg hl9).mpr hq) (hx2 ▸ c_55)
                        | some b => exact ⟨b, rfl⟩
                      have hb2 := sp_owed_lt hb
                      refine ev_aload_n dX12_hands_58 rfl rfl ?_
                      refine mo_geta hE hT dX12_hands_59 fX12_34 (by decide) ?_
                      refine ev_iload_n dX12_hands_62 rfl rfl ?_
                      refine mo_iald (q := p) hE hT dX12_hands_63 (by decide) rfl (show _ < 12 from (by omega)) ?_
                      refine ev_aload_n dX12_hands_64 rfl rfl ?_
                      refine mo_geta hE hT dX12_hands_65 fX12_34 (by decide) ?_
                      refine ev_iload_n dX12_hands_68 rfl rfl ?_
                      refine mo_iald (q := b) hE hT dX12_hands_69 (by decide) (by rw [hx2, hb]; rfl) (show _ < 12 from (by omega)) ?_
                      refine ev_icmp_le (tgt := 75) dX12_hands_70 (by decide) (fun c_70 => ?_) (fun c_70 => ?_)
                      · refine ev_iinc (v := (nI (p + 1))) dX12_hands_75 rfl (by exact nI_1 p) rfl ?_
                        refine ev_goto (tgt := 27) dX12_hands_78 (by decide) ?_
                        have hlp : p < sp_P S := mo_ilt hP9 (by omega) (by omega) c_32
                        have e8 : ∀ z, z = sp_opt (sp_owed (sp_hand S (sp_P S) i) (p + 1)) → ev_V G d 0 0 mX12_hands _ g 27 [some (.ref W.1), some (.int (nI i)), some (.int z), some (.int (nI (p + 1)))] [] := fun z hz => ih2 (p + 1) (by omega) (by omega) z hz g hT
                        refine e8 _ ?_
                        rw [show sp_owed (sp_hand S (sp_P S) i) (p + 1) = (if (sp_hand S (sp_P S) i).1 12 p = 1 then (if (sp_hand S (sp_P S) i).1 11 p ≤ 0 then sp_owed (sp_hand S (sp_P S) i) p else match sp_owed (sp_hand S (sp_P S) i) p with | none => some p | some b => if (sp_hand S (sp_P S) i).1 11 p ≤ (sp_hand S (sp_P S) i).1 11 b then some b else some p) else sp_owed (sp_hand S (sp_P S) i) p) from rfl]
                        first
                          | (rw [if_neg c_42, hx2]; done)
                          | (rw [if_pos c_42, if_pos c_51, hx2]; done)
                          | (rw [if_pos c_42, if_neg c_51, hb, hx2, hb]; show _ = sp_opt (if _ then _ else _); rw [if_pos c_70]; done)
                          | (rw [if_pos c_42, if_neg c_51, hb]; show _ = sp_opt (if _ then _ else _); rw [if_neg c_70]; try rfl)
                          | (rw [if_pos c_42, if_neg c_51, (sp_opt_neg hl9).mp (hx2 ▸ c_55)]; try rfl)
                      · refine ev_iload_n dX12_hands_73 rfl rfl ?_
                        refine ev_istore_n dX12_hands_74 rfl (Nat.le_of_ble_eq_true rfl) rfl ?_
                        refine ev_iinc (v := (nI (p + 1))) dX12_hands_75 rfl (by exact nI_1 p) rfl ?_
                        refine ev_goto (tgt := 27) dX12_hands_78 (by decide) ?_
                        have hlp : p < sp_P S := mo_ilt hP9 (by omega) (by omega) c_32
                        have e8 : ∀ z, z = sp_opt (sp_owed (sp_hand S (sp_P S) i) (p + 1)) → ev_V G d 0 0 mX12_hands _ g 27 [some (.ref W.1), some (.int (nI i)), some (.int z), some (.int (nI (p + 1)))] [] := fun z hz => ih2 (p + 1) (by omega) (by omega) z hz g hT
                        refine e8 _ ?_
                        rw [show sp_owed (sp_hand S (sp_P S) i) (p + 1) = (if (sp_hand S (sp_P S) i).1 12 p = 1 then (if (sp_hand S (sp_P S) i).1 11 p ≤ 0 then sp_owed (sp_hand S (sp_P S) i) p else match sp_owed (sp_hand S (sp_P S) i) p with | none => some p | some b => if (sp_hand S (sp_P S) i).1 11 p ≤ (sp_hand S (sp_P S) i).1 11 b then some b else some p) else sp_owed (sp_hand S (sp_P S) i) p) from rfl]
                        first
                          | (rw [if_neg c_42, hx2]; done)
                          | (rw [if_pos c_42, if_pos c_51, hx2]; done)
                          | (rw [if_pos c_42, if_neg c_51, hb, hx2, hb]; show _ = sp_opt (if _ then _ else _); rw [if_pos c_70]; done)
                          | (rw [if_pos c_42, if_neg c_51, hb]; show _ = sp_opt (if _ then _ else _); rw [if_neg c_70]; try rfl)
                          | (rw [if_pos c_42, if_neg c_51, (sp_opt_neg hl9).mp (hx2 ▸ c_55)]; try rfl)
          exact loop2 ((sp_P S) + 1) 0 (by omega) (by omega) _ rfl g hT
        · refine ev_goto (tgt := 123) dX12_hands_20 (by decide) ?_
          refine ev_iinc (v := (nI (i + 1))) dX12_hands_123 rfl (by exact nI_1 i) rfl ?_
          refine ev_goto (tgt := 2) dX12_hands_126 (by decide) ?_
          refine ev_none 2 ?_
          refine ev_none 3 ?_
          first
            | exact ih (i + 1) (by omega) (by omega) () rfl g (by simp only [sp_hand]; rw [if_neg c_17]; exact hT)
            | exact ih (i + 1) (by omega) (by omega) () rfl g (by simp only [sp_hand]; rw [if_pos c_17, hb]; exact hT)
  exact loop (sp_R S + 1) 0 (by omega) (by omega) () rfl g hT
end M4
