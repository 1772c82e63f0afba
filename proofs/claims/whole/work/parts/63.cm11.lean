section CM11
def cx_X6_isBehind (C : mo_S) (q : Nat) (l : Nat) : Bool :=
  (if (C.1 15 q) < (C.1 15 l) then true else (if (C.1 15 q) = (C.1 15 l) then (if (nI q) ≤ (nI l) then false else true) else false))
theorem c_X6_isBehind {G : ev_G} {W : cw_W} {d : Nat} {C : mo_S} {q : Nat} {l : Nat} (hE : ev_En G) (hd : 3 ≤ d) (hq : q < sp_P C) (hl : l < sp_P C) : cw_C G W d mX6_isBehind [.ref (W 1 0), .int (nI q), .int (nI l)] C (some (.int (mo_b (cx_X6_isBehind C q l)))) C := by
  refine cw_start (lv0 := [some (.ref (W 1 0)), some (.int (nI q)), some (.int (nI l)), none, none]) (by decide +kernel) rfl (Nat.le_of_ble_eq_true rfl) rfl ?_
  intro K g0 g hT
  have hBP := hT.B.1
  refine ev_iload_n dX6_isBehind_0 rfl rfl ?_
  refine ev_if_lt (tgt := 24) dX6_isBehind_1 (by decide) (fun c_1 => ?_) (fun c_1 => ?_)
  · exact absurd c_1 (nI_pos (by omega))
  · refine ev_iload_n dX6_isBehind_4 rfl rfl ?_
    refine ev_aload_n dX6_isBehind_5 rfl rfl ?_
    refine cw_size (l := 0) (v := (C.1 1 0)) hE hT dX6_isBehind_6 lX6_32 (by decide) (Nat.le_of_ble_eq_true rfl) (by omega) rfl ?_
    refine ev_icmp_ge (tgt := 24) dX6_isBehind_9 (by decide) (fun c_9 => ?_) (fun c_9 => ?_)
    · exact absurd c_9 (cj_le hBP.1 hl (by omega))
    · refine ev_iload_n dX6_isBehind_12 rfl rfl ?_
      refine ev_if_lt (tgt := 24) dX6_isBehind_13 (by decide) (fun c_13 => ?_) (fun c_13 => ?_)
      · exact absurd c_13 (nI_pos (by omega))
      · refine ev_iload_n dX6_isBehind_16 rfl rfl ?_
        refine ev_aload_n dX6_isBehind_17 rfl rfl ?_
        refine cw_size (l := 0) (v := (C.1 1 0)) hE hT dX6_isBehind_18 lX6_32 (by decide) (Nat.le_of_ble_eq_true rfl) (by omega) rfl ?_
        refine ev_icmp_lt (tgt := 26) dX6_isBehind_21 (by decide) (fun c_21 => ?_) (fun c_21 => ?_)
        · refine ev_aload_n dX6_isBehind_26 rfl rfl ?_
          refine ev_iload_n dX6_isBehind_27 rfl rfl ?_
          refine cw_get (l := 0) (q := q) hE hT dX6_isBehind_28 lX6_38 (by decide) rfl hq (Nat.le_of_ble_eq_true rfl) (by omega) ?_
          refine ev_cast hE dX6_isBehind_31 lkX6_42 ((hT.at (k := 20) (i := q) hq).1 _ _ ob20) rfl ?_
          refine cw_getf hE hT dX6_isBehind_34 fX6_58 (k := 20) (i := q) hq ob20 rfl ?_
          refine ev_istore_n dX6_isBehind_37 rfl (Nat.le_of_ble_eq_true rfl) rfl ?_
          refine ev_aload_n dX6_isBehind_38 rfl rfl ?_
          refine ev_iload_n dX6_isBehind_39 rfl rfl ?_
          refine cw_get (l := 0) (q := l) hE hT dX6_isBehind_40 lX6_38 (by decide) rfl hl (Nat.le_of_ble_eq_true rfl) (by omega) ?_
          refine ev_cast hE dX6_isBehind_43 lkX6_42 ((hT.at (k := 20) (i := l) hl).1 _ _ ob20) rfl ?_
          refine cw_getf hE hT dX6_isBehind_46 fX6_58 (k := 20) (i := l) hl ob20 rfl ?_
          refine ev_istore dX6_isBehind_49 (Nat.le_of_ble_eq_true rfl) rfl ?_
          refine ev_iload_n dX6_isBehind_51 rfl rfl ?_
          refine ev_iload dX6_isBehind_52 rfl ?_
          have K_73 : ∀ (g : ev_H) (hT : cw_T G K g0 W g C), ∀ x9 : Int32, x9 = (mo_b (if (C.1 15 q) < (C.1 15 l) then true else (if (C.1 15 q) = (C.1 15 l) then (if (nI q) ≤ (nI l) then false else true) else false))) → ev_V G d 0 0 mX6_isBehind (fun o g' => o = .inl (some (.int (mo_b (cx_X6_isBehind C q l)))) ∧ cw_T G K g0 W g' C) g 73 [some (.ref (W 1 0)), some (.int (nI q)), some (.int (nI l)), some (.int (C.1 15 q)), some (.int (C.1 15 l))] (.int x9 :: []) := by
            intro g hT x9 h9
            subst h9
            have e9 : cx_X6_isBehind C q l = (if (C.1 15 q) < (C.1 15 l) then true else (if (C.1 15 q) = (C.1 15 l) then (if (nI q) ≤ (nI l) then false else true) else false)) := by unfold cx_X6_isBehind; rfl
            exact ev_iret dX6_isBehind_73 rfl (by first | exact mo_b_nar _ | rfl) ⟨by rw [e9], hT⟩
          refine ev_icmp_lt (tgt := 68) dX6_isBehind_54 (by decide) (fun c_54 => ?_) (fun c_54 => ?_)
          · refine ev_iconst (v := 1) dX6_isBehind_68 (by decide) ?_
            refine ev_goto (tgt := 73) dX6_isBehind_69 (by decide) ?_
            exact K_73 g hT _ (by rw [if_pos c_54]; rfl)
          · refine ev_iload_n dX6_isBehind_57 rfl rfl ?_
            refine ev_iload dX6_isBehind_58 rfl ?_
            refine ev_icmp_ne (tgt := 72) dX6_isBehind_60 (by decide) (fun c_60 => ?_) (fun c_60 => ?_)
            · refine ev_iconst (v := 0) dX6_isBehind_72 (by decide) ?_
              exact K_73 g hT _ (by rw [if_neg c_54, if_neg c_60]; rfl)
            · refine ev_iload_n dX6_isBehind_63 rfl rfl ?_
              refine ev_iload_n dX6_isBehind_64 rfl rfl ?_
              refine ev_icmp_le (tgt := 72) dX6_isBehind_65 (by decide) (fun c_65 => ?_) (fun c_65 => ?_)
              · refine ev_iconst (v := 0) dX6_isBehind_72 (by decide) ?_
                exact K_73 g hT _ (by rw [if_neg c_54, if_pos c_60, if_pos c_65]; rfl)
              · refine ev_iconst (v := 1) dX6_isBehind_68 (by decide) ?_
                refine ev_goto (tgt := 73) dX6_isBehind_69 (by decide) ?_
                exact K_73 g hT _ (by rw [if_neg c_54, if_pos c_60, if_neg c_65]; rfl)
        · exact absurd (by rw [hBP.1]; exact nI_lt hq (by omega)) c_21
theorem c_X6_isBehind_o {G : ev_G} {W : cw_W} {d : Nat} {C : mo_S} {q : Nat} {l : Option Nat} {c : Nat → Nat} (hE : ev_En G) (hd : 4 ≤ d) (hq : q < sp_P C) (hl : ∀ b, l = some b → b < sp_P C) (hC : ∀ j, j < sp_P C → C.1 15 j = nI (c j) ∧ c j ≤ 100) : cw_C G W d mX6_isBehind [.ref (W 1 0), .int (nI q), .int (sp_opt l)] C (some (.int (mo_b (bd_bB c q l)))) C := by
  cases l with
  | none =>
    refine cw_start (lv0 := [some (.ref (W 1 0)), some (.int (nI q)), some (.int (-1)), none, none]) (by decide +kernel) rfl (Nat.le_of_ble_eq_true rfl) rfl ?_
    intro K g0 g hT
    refine ev_iload_n dX6_isBehind_0 rfl rfl ?_
    refine ev_if_lt (tgt := 24) dX6_isBehind_1 (by decide) (fun _ => ?_) (fun c => absurd (by decide) c)
    refine ev_iconst (v := 1) dX6_isBehind_24 (by decide) ?_
    exact ev_iret dX6_isBehind_25 rfl rfl ⟨rfl, hT⟩
  | some b =>
    intro K g0 g hT
    have hP12 := hT.B.1.2
    have hb := hl b rfl
    have e : cx_X6_isBehind C q b = bd_bB c q (some b) := by
      have h1 := hC q hq
      have h2 := hC b hb
      show _ = decide (c q < c b ∨ (c q = c b ∧ b < q))
      unfold cx_X6_isBehind
      rw [h1.1, h2.1]
      by_cases a : c q < c b
      · rw [if_pos (nI_lt a (by omega))]
        exact (decide_eq_true (Or.inl a)).symm
      · rw [if_neg (nI_nlt (by omega) (by omega))]
        by_cases a2 : c q = c b
        · rw [a2, if_pos rfl]
          by_cases a3 : b < q
          · rw [if_neg (nI_ge a3 (by omega))]
            exact (decide_eq_true (Or.inr ⟨rfl, a3⟩)).symm
          · rw [if_pos (nI_le (by omega) (by omega))]
            exact (decide_eq_false (by omega)).symm
        · rw [if_neg (fun q => a2 (mo_niinj (by omega) (by omega) q))]
          exact (decide_eq_false (by omega)).symm
    rw [← e]
    exact c_X6_isBehind hE (by omega) hq hb K g0 g hT
/-- what the best so far offers -/
def bd_gr (c : Nat → Nat) : Option Nat → Int32
  | none => -1
  | some b => nI (c b)
theorem bd_nx_k {I : Nat → Bool} {K : Nat → Int32} {c : Nat → Nat} {l r : Option Nat} {i : Nat} (h : bd_nx I K c l i r) (hc : ∀ b, r = some b → c b ≤ 100) (hi : c i ≤ 100) (h1 : ¬ bd_bid I K i ∨ nI (c i) ≤ bd_gr c r ∨ ¬ bd_beh c i l) : bd_nx I K c l (i + 1) r := by
  cases r with
  | none =>
    intro j hj hb hbeh
    by_cases e : j = i
    · subst e
      rcases h1 with q | q | q
      · exact q hb
      · exact absurd q (fun z => nI_pos (n := c j) (by omega) (Int32.lt_of_le_of_lt z (show (-1 : Int32) < 0 by decide)))
      · exact q hbeh
    · exact h j (by omega) hb hbeh
  | some b =>
    obtain ⟨q1, q2, q3, q4⟩ := h
    have hcb := hc b rfl
    refine ⟨by omega, q2, q3, fun j hj hb hbeh => ?_⟩
    by_cases e : j = i
    · subst e
      rcases h1 with q | q | q
      · exact absurd hb q
      · have z : c j ≤ c b := by
          rcases Nat.lt_or_ge (c b) (c j) with y | y
          · exact absurd q (nI_ge y (by omega))
          · exact y
        omega
      · exact absurd hbeh q
    · exact q4 j (by omega) hb hbeh
theorem bd_nx_t {I : Nat → Bool} {K : Nat → Int32} {c : Nat → Nat} {l r : Option Nat} {i : Nat} (h : bd_nx I K c l i r) (hc : ∀ b, r = some b → c b ≤ 100) (hi : c i ≤ 100) (h1 : bd_bid I K i) (h2 : ¬ nI (c i) ≤ bd_gr c r) (h3 : bd_beh c i l) : bd_nx I K c l (i + 1) (some i) := by
  refine ⟨by omega, h1, h3, fun j hj hb hbeh => ?_⟩
  by_cases e : j = i
  · subst e; exact Or.inr ⟨rfl, Nat.le_refl _⟩
  · cases r with
    | none => exact absurd hbeh (h j (by omega) hb)
    | some b =>
      obtain ⟨q1, q2, q3, q4⟩ := h
      have hcb := hc b rfl
      have z : c b < c i := by
        rcases Nat.lt_or_ge (c b) (c i) with y | y
        · exact y
        · exact absurd (nI_le y (by omega)) h2
      rcases q4 j (by omega) hb hbeh with y | y <;> exact Or.inl (by omega)
theorem bd_nxb {I : Nat → Bool} {K : Nat → Int32} {c : Nat → Nat} {l : Option Nat} {i b : Nat} (h : bd_nx I K c l i (some b)) : b < i := h.1
theorem bd_c1 {C : mo_S} {i : Nat} (_ : ∃ a : Nat, C.1 14 i = nI a ∧ a < 2147483648) (h : ¬ mo_b (if (mo_b (cx_X5_isAdmitted C i)) = 0 then false else (if (C.1 14 i) ≤ 0 then false else true)) = 0) : bd_bid (cx_I C) (C.1 14) i := by
  by_cases a : mo_b (cx_X5_isAdmitted C i) = 0
  · rw [if_pos a] at h; exact absurd rfl h
  · rw [if_neg a] at h
    refine ⟨cl_I1 rfl a, fun z => ?_⟩
    rw [if_pos (by rw [z]; decide)] at h
    exact h rfl
theorem bd_c0 {C : mo_S} {i : Nat} (h1 : cx_I C i = true) (h2 : ¬ C.1 14 i = 0) (h3 : ∃ a : Nat, C.1 14 i = nI a ∧ a < 2147483648) (h : mo_b (if (mo_b (cx_X5_isAdmitted C i)) = 0 then false else (if (C.1 14 i) ≤ 0 then false else true)) = 0) : False := by
  by_cases a : mo_b (cx_X5_isAdmitted C i) = 0
  · exact cl_I0 rfl a h1
  · rw [if_neg a] at h
    obtain ⟨n, e, hn⟩ := h3
    rw [if_neg (fun z => h2 (by
      rw [e] at z ⊢
      have := mo_ige (R := n) (i := 0) rfl hn (by decide) z
      rw [show n = 0 by omega]; rfl))] at h
    exact absurd h (by decide)
theorem c_X6_nextBidder {G : ev_G} {W : cw_W} {d : Nat} {C : mo_S} {l : Option Nat} {c : Nat → Nat} (hE : ev_En G) (hd : 5 ≤ d) (hl : ∀ b, l = some b → b < sp_P C) (hC : ∀ j, j < sp_P C → C.1 15 j = nI (c j) ∧ c j ≤ 100) (hK : ∀ j, j < sp_P C → ∃ a : Nat, C.1 14 j = nI a ∧ a < 2147483648) : cw_R G W d 0 0 mX6_nextBidder [.ref (W 1 0), .int (sp_opt l)] C (fun o W2 C2 => W2 = W ∧ ∃ r, o = .inl (some (.int (sp_opt r))) ∧ bd_nx (cx_I C) (C.1 14) c l (sp_P C) r ∧ C2 = C) := by
  refine cw_startR (lv0 := [some (.ref (W 1 0)), some (.int (sp_opt l)), none, none, none, none, none]) (by decide +kernel) rfl (Nat.le_of_ble_eq_true rfl) rfl ?_
  intro K g0 g hT
  have hBP := hT.B.1
  refine ev_iconst (v := (-1)) dX6_nextBidder_0 (by decide) ?_
  refine ev_istore_n dX6_nextBidder_1 rfl (Nat.le_of_ble_eq_true rfl) rfl ?_
  refine ev_iconst (v := (-1)) dX6_nextBidder_2 (by decide) ?_
  refine ev_istore_n dX6_nextBidder_3 rfl (Nat.le_of_ble_eq_true rfl) rfl ?_
  refine ev_iconst (v := 0) dX6_nextBidder_4 (by decide) ?_
  refine ev_istore dX6_nextBidder_5 (Nat.le_of_ble_eq_true rfl) rfl ?_
  have loop : ∀ (n i : Nat), i ≤ (sp_P C) → (sp_P C) < i + n → ∀ (r : Option Nat), bd_nx (cx_I C) (C.1 14) c l i r → ∀ g, cw_T G K g0 W g C → ev_V G d 0 0 mX6_nextBidder (fun o g' => ∃ W2 C2, (W2 = W ∧ ∃ r, o = .inl (some (.int (sp_opt r))) ∧ bd_nx (cx_I C) (C.1 14) c l (sp_P C) r ∧ C2 = C) ∧ cw_T G K g0 W2 g' C2) g 7 [some (.ref (W 1 0)), some (.int (sp_opt l)), some (.int (sp_opt r)), some (.int (bd_gr c r)), some (.int (nI i)), none, none] [] := by
    intro n
    induction n with
    | zero => intro i h1 h2; exact absurd h2 (by omega)
    | succ n ih =>
      intro i h1 h2 r hx g hT
      have hcr : ∀ b, r = some b → c b ≤ 100 := fun b e => by subst e; exact (hC b (Nat.lt_of_lt_of_le (bd_nxb hx) h1)).2
      refine ev_iload dX6_nextBidder_7 rfl ?_
      refine ev_aload_n dX6_nextBidder_9 rfl rfl ?_
      refine cw_size (l := 0) (v := (C.1 1 0)) hE hT dX6_nextBidder_10 lX6_32 (by decide) (Nat.le_of_ble_eq_true rfl) (by omega) rfl ?_
      refine ev_icmp_ge (tgt := 89) dX6_nextBidder_13 (by decide) (fun c_13 => ?_) (fun c_13 => ?_)
      · have e : i = sp_P C := by have := mo_ige hBP.1 (by omega) (by omega) c_13; omega
        subst e
        refine ev_iload_n dX6_nextBidder_89 rfl rfl ?_
        exact ev_iret dX6_nextBidder_90 rfl rfl ⟨W, C, ⟨rfl, r, rfl, hx, rfl⟩, hT⟩
      · have hi9 : i < sp_P C := mo_ilt hBP.1 (by omega) (by omega) c_13
        refine ev_aload_n dX6_nextBidder_16 rfl rfl ?_
        refine ev_iload dX6_nextBidder_17 rfl ?_
        refine cw_get (l := 0) (q := i) hE hT dX6_nextBidder_19 lX6_38 (by decide) rfl hi9 (Nat.le_of_ble_eq_true rfl) (by omega) ?_
        refine ev_cast hE dX6_nextBidder_22 lkX6_42 ((hT.at (k := 20) (i := i) hi9).1 _ _ ob20) rfl ?_
        refine ev_astore dX6_nextBidder_25 (Nat.le_of_ble_eq_true rfl) rfl ?_
        refine ev_aload dX6_nextBidder_27 rfl ?_
        refine cw_call0 (d' := d - 1) hE hT dX6_nextBidder_29 rfl kX5_isAdmitted lX6_54 iX5_isAdmitted vX5_isAdmitted (k := 20) (i := i) hi9 ob20 rfl (Nat.le_of_ble_eq_true rfl) (by omega) (c_X5_isAdmitted hE hi9) (fun g hT => ?_)
        have K_48 : ∀ (g : ev_H) (hT : cw_T G K g0 W g C), ∀ x9 : Int32, x9 = (mo_b (if (mo_b (cx_X5_isAdmitted C i)) = 0 then false else (if (C.1 14 i) ≤ 0 then false else true))) → ev_V G d 0 0 mX6_nextBidder (fun o g' => ∃ W2 C2, (W2 = W ∧ ∃ r, o = .inl (some (.int (sp_opt r))) ∧ bd_nx (cx_I C) (C.1 14) c l (sp_P C) r ∧ C2 = C) ∧ cw_T G K g0 W2 g' C2) g 48 [some (.ref (W 1 0)), some (.int (sp_opt l)), some (.int (sp_opt r)), some (.int (bd_gr c r)), some (.int (nI i)), some (.ref (W 20 i)), none] (.int x9 :: []) := by
          intro g hT x9 h9
          subst h9
          refine ev_istore dX6_nextBidder_48 (Nat.le_of_ble_eq_true rfl) rfl ?_
          refine ev_iload dX6_nextBidder_50 rfl ?_
          refine ev_if_eq (tgt := 83) dX6_nextBidder_52 (by decide) (fun c_52 => ?_) (fun c_52 => ?_)
          · refine ev_iinc (v := (nI (i + 1))) dX6_nextBidder_83 rfl (nI_1 i) rfl ?_
            refine ev_goto (tgt := 7) dX6_nextBidder_86 (by decide) ?_
            refine ev_none 5 ?_
            refine ev_none 6 ?_
            exact ih (i + 1) (by omega) (by omega) r (bd_nx_k hx hcr (hC i hi9).2 (Or.inl (fun q => bd_c0 q.1 q.2 (hK i hi9) c_52))) g hT
          · refine ev_aload dX6_nextBidder_55 rfl ?_
            refine cw_getf hE hT dX6_nextBidder_57 fX6_58 (k := 20) (i := i) hi9 ob20 rfl ?_
            refine ev_iload_n dX6_nextBidder_60 rfl rfl ?_
            refine ev_icmp_le (tgt := 83) dX6_nextBidder_61 (by decide) (fun c_61 => ?_) (fun c_61 => ?_)
            · refine ev_iinc (v := (nI (i + 1))) dX6_nextBidder_83 rfl (nI_1 i) rfl ?_
              refine ev_goto (tgt := 7) dX6_nextBidder_86 (by decide) ?_
              refine ev_none 5 ?_
              refine ev_none 6 ?_
              exact ih (i + 1) (by omega) (by omega) r (bd_nx_k hx hcr (hC i hi9).2 (Or.inr (Or.inl (by rw [← (hC i hi9).1]; exact c_61)))) g hT
            · refine ev_aload_n dX6_nextBidder_64 rfl rfl ?_
              refine ev_iload dX6_nextBidder_65 rfl ?_
              refine ev_iload_n dX6_nextBidder_67 rfl rfl ?_
              refine cw_callS3 (d' := d - 1) hT dX6_nextBidder_68 rfl kX6_isBehind lX6_61 sX6_isBehind (Nat.le_of_ble_eq_true rfl) (by omega) (c_X6_isBehind_o hE (by omega) hi9 hl hC) (fun g hT => ?_)
              refine ev_if_eq (tgt := 83) dX6_nextBidder_71 (by decide) (fun c_71 => ?_) (fun c_71 => ?_)
              · refine ev_iinc (v := (nI (i + 1))) dX6_nextBidder_83 rfl (nI_1 i) rfl ?_
                refine ev_goto (tgt := 7) dX6_nextBidder_86 (by decide) ?_
                refine ev_none 5 ?_
                refine ev_none 6 ?_
                exact ih (i + 1) (by omega) (by omega) r (bd_nx_k hx hcr (hC i hi9).2 (Or.inr (Or.inr (fun q => mo_b0 c_71 (bd_bB_iff.mpr q))))) g hT
              · refine ev_iload dX6_nextBidder_74 rfl ?_
                refine ev_istore_n dX6_nextBidder_76 rfl (Nat.le_of_ble_eq_true rfl) rfl ?_
                refine ev_aload dX6_nextBidder_77 rfl ?_
                refine cw_getf hE hT dX6_nextBidder_79 fX6_58 (k := 20) (i := i) hi9 ob20 rfl ?_
                refine ev_istore_n dX6_nextBidder_82 rfl (Nat.le_of_ble_eq_true rfl) rfl ?_
                refine ev_iinc (v := (nI (i + 1))) dX6_nextBidder_83 rfl (nI_1 i) rfl ?_
                refine ev_goto (tgt := 7) dX6_nextBidder_86 (by decide) ?_
                refine ev_none 5 ?_
                refine ev_none 6 ?_
                have e8 := (hC i hi9).1
                rw [e8]
                exact ih (i + 1) (by omega) (by omega) (some i) (bd_nx_t hx hcr (hC i hi9).2 (bd_c1 (hK i hi9) c_52) (by rw [← e8]; exact c_61) (bd_bB_iff.mp (mo_b1 c_71))) g hT
        refine ev_if_eq (tgt := 47) dX6_nextBidder_32 (by decide) (fun c_32 => ?_) (fun c_32 => ?_)
        · refine ev_iconst (v := 0) dX6_nextBidder_47 (by decide) ?_
          exact K_48 g hT _ (by rw [if_pos c_32]; rfl)
        · refine ev_aload dX6_nextBidder_35 rfl ?_
          refine cw_getf hE hT dX6_nextBidder_37 fX6_44 (k := 20) (i := i) hi9 ob20 rfl ?_
          refine ev_if_le (tgt := 47) dX6_nextBidder_40 (by decide) (fun c_40 => ?_) (fun c_40 => ?_)
          · refine ev_iconst (v := 0) dX6_nextBidder_47 (by decide) ?_
            exact K_48 g hT _ (by rw [if_neg c_32, if_pos c_40]; rfl)
          · refine ev_iconst (v := 1) dX6_nextBidder_43 (by decide) ?_
            refine ev_goto (tgt := 48) dX6_nextBidder_44 (by decide) ?_
            exact K_48 g hT _ (by rw [if_neg c_32, if_neg c_40]; rfl)
  exact loop ((sp_P C) + 1) 0 (by omega) (by omega) none (fun j h => absurd h (by omega)) g hT
theorem cj_least (a b : Int32) : cj_min a b = sp_least a b := by
  rw [← cj_mm]
  unfold sp_least
  by_cases h : a < b
  · rw [if_pos h, if_neg (Int32.not_le.mpr h)]
  · rw [if_neg h, if_pos (Int32.not_lt.mp h)]
theorem c_X6_byBids {G : ev_G} {W : cw_W} {d : Nat} {C : mo_S} {L : Nat} {c : Nat → Nat} (hE : ev_En G) (hd : 6 ≤ d) (hC : ∀ j, j < sp_P C → C.1 15 j = nI (c j) ∧ c j ≤ 100) (hK : ∀ j, j < sp_P C → ∃ a : Nat, C.1 14 j = nI a ∧ a < 2147483648) : cw_R G W d 0 0 mX6_byBids [.ref (W 9 0), .ref (W 1 0), .int (nI L)] C (fun o W2 C2 => W2 = W ∧ o = .inl none ∧ cx_eqX [124] C2 C ∧ ∀ j, j < sp_P C → C2.1 124 j = (pt_bA (cx_I C) (C.1 14) (C.1 15) (nI L) (sp_P C) 101).2 j) := by
  refine cw_startR (lv0 := [some (.ref (W 9 0)), some (.ref (W 1 0)), some (.int (nI L)), none, none, none]) (by decide +kernel) rfl (Nat.le_of_ble_eq_true rfl) rfl ?_
  intro K g0 g hT
  have hBP := hT.B.1
  refine ev_aload_n dX6_byBids_0 rfl rfl ?_
  refine cw_getf hE hT dX6_byBids_1 fX6_9 (k := 9) (i := 0) rfl ob9 rfl ?_
  refine ev_iconst (v := 0) dX6_byBids_4 (by decide) ?_
  refine cw_fill (k := 10) (i := 0) (n := 12) (f := 124) (e := fun j => j) hE hT dX6_byBids_5 lX6_22 rfl (fun _ => ar10) (by decide) (by decide) (by decide) (fun j hj => rfl) (Nat.le_of_ble_eq_true rfl) (by omega) (fun g hT => ?_)
  refine ev_iload_n dX6_byBids_8 rfl rfl ?_
  refine ev_istore_n dX6_byBids_9 rfl (Nat.le_of_ble_eq_true rfl) rfl ?_
  refine ev_iconst (v := (-1)) dX6_byBids_10 (by decide) ?_
  refine ev_istore dX6_byBids_11 (Nat.le_of_ble_eq_true rfl) rfl ?_
  refine ev_iconst (v := 0) dX6_byBids_13 (by decide) ?_
  refine ev_istore dX6_byBids_14 (Nat.le_of_ble_eq_true rfl) rfl ?_
  have loop : ∀ (n i : Nat), i ≤ 12 → 12 < i + n → ∀ (T : mo_S) (l : Option Nat), (cx_eqX [124] T C ∧ (∀ b, l = some b → b < sp_P C) ∧ (∀ j, j < sp_P C → T.1 124 j = (bd_St (cx_I C) (C.1 14) (C.1 15) c (nI L) (sp_P C) l).2 j) ∧ i ≤ bd_ct (bd_dn (cx_I C) (C.1 14) c l) (sp_P C)) → ∀ g, cw_T G K g0 W g T → ev_V G d 0 0 mX6_byBids (fun o g' => ∃ W2 C2, (W2 = W ∧ o = .inl none ∧ cx_eqX [124] C2 C ∧ ∀ j, j < sp_P C → C2.1 124 j = (pt_bA (cx_I C) (C.1 14) (C.1 15) (nI L) (sp_P C) 101).2 j) ∧ cw_T G K g0 W2 g' C2) g 16 [some (.ref (W 9 0)), some (.ref (W 1 0)), some (.int (nI L)), some (.int (bd_St (cx_I C) (C.1 14) (C.1 15) c (nI L) (sp_P C) l).1), some (.int (sp_opt l)), some (.int (nI i))] [] := by
    intro n
    induction n with
    | zero => intro i h1 h2; exact absurd h2 (by omega)
    | succ n ih =>
      intro i h1 h2 T l hx g hT
      refine ev_iload dX6_byBids_16 rfl ?_
      refine ev_bipush (v := 12) dX6_byBids_18 (by decide) ?_
      refine ev_icmp_ge (tgt := 92) dX6_byBids_20 (by decide) (fun c_20 => ?_) (fun c_20 => ?_)
      · have e : i = 12 := by have := mo_ige (R := 12) rfl (by omega) (by omega) c_20; omega
        subst e
        exact ev_vret dX6_byBids_92 rfl ⟨W, T, ⟨rfl, rfl, hx.1, fun j hj => by rw [hx.2.2.1 j hj, bd_end hC hx.2.1 (bd_all (by omega))]⟩, hT⟩
      · have hi12 : i < 12 := mo_ilt (R := 12) rfl (by omega) (by omega) c_20
        refine ev_aload_n dX6_byBids_23 rfl rfl ?_
        refine ev_iload dX6_byBids_24 rfl ?_
        have eI : cx_I T = cx_I C := by unfold cx_I; rw [hx.1 12 (by decide)]
        have eP : sp_P T = sp_P C := sp_P_cg (hx.1 1 (by decide))
        have eK := hx.1 14 (by decide)
        have eC := hx.1 15 (by decide)
        refine cw_callSr2 (d' := d - 1) (b := 0) (n0 := 0) hT dX6_byBids_26 rfl kX6_nextBidder lX6_28 sX6_nextBidder (Nat.le_of_ble_eq_true rfl) (by omega) (c_X6_nextBidder (d := d - 1) (l := l) (c := c) hE (by omega) (fun b h => by rw [eP]; exact hx.2.1 b h) (fun j h => by rw [eC]; rw [eP] at h; exact hC j h) (fun j h => by rw [eK]; rw [eP] at h; exact hK j h)) (Nat.le_refl _) (Nat.le_refl _) (fun v9 W9 T9 g q9 hT => ?_) (fun E W2 C2 g q9 _ => by obtain ⟨_, r, h, _⟩ := q9; cases h)
        obtain ⟨e8, r, e9, hn, e6⟩ := q9
        have e7 := e8.symm
        subst e7
        have e5 := e6.symm
        subst e5
        cases e9
        rw [eI, eP, eK] at hn
        cases r with
        | none =>
            refine ev_istore dX6_byBids_29 (Nat.le_of_ble_eq_true rfl) rfl ?_
            refine ev_iload dX6_byBids_31 rfl ?_
            refine ev_if_lt (tgt := 52) dX6_byBids_33 (by decide) (fun c_33 => ?_) (fun c_33 => ?_)
            · exact ev_vret dX6_byBids_52 rfl ⟨W, T, ⟨rfl, rfl, hx.1, fun j hj => by rw [hx.2.2.1 j hj, bd_end hC hx.2.1 hn]⟩, hT⟩
            · exact absurd (by decide) c_33
        | some b9 =>
            have hb9 : b9 < sp_P C := bd_nxb hn
            have hb8 : b9 < sp_P T := by rw [eP]; exact hb9
            refine ev_istore dX6_byBids_29 (Nat.le_of_ble_eq_true rfl) rfl ?_
            refine ev_iload dX6_byBids_31 rfl ?_
            refine ev_if_lt (tgt := 52) dX6_byBids_33 (by decide) (fun c_33 => ?_) (fun c_33 => ?_)
            · exact absurd c_33 (nI_pos (by omega))
            · refine ev_iload dX6_byBids_36 rfl ?_
              refine ev_aload_n dX6_byBids_38 rfl rfl ?_
              refine cw_size (l := 0) (v := (T.1 1 0)) hE hT dX6_byBids_39 lX6_32 (by decide) (Nat.le_of_ble_eq_true rfl) (by omega) rfl ?_
              refine ev_icmp_ge (tgt := 52) dX6_byBids_42 (by decide) (fun c_42 => ?_) (fun c_42 => ?_)
              · exact absurd c_42 (cj_le (by rw [hx.1 1 (by decide)]; exact hBP.1) hb9 (by omega))
              · refine ev_iload dX6_byBids_45 rfl ?_
                refine ev_bipush (v := 12) dX6_byBids_47 (by decide) ?_
                refine ev_icmp_lt (tgt := 53) dX6_byBids_49 (by decide) (fun c_49 => ?_) (fun c_49 => ?_)
                · refine ev_aload_n dX6_byBids_53 rfl rfl ?_
                  refine cw_getf hE hT dX6_byBids_54 fX6_9 (k := 9) (i := 0) rfl ob9 rfl ?_
                  refine ev_iload dX6_byBids_57 rfl ?_
                  refine ev_aload_n dX6_byBids_59 rfl rfl ?_
                  refine ev_iload dX6_byBids_60 rfl ?_
                  refine cw_get (l := 0) (q := b9) hE hT dX6_byBids_62 lX6_38 (by decide) rfl hb8 (Nat.le_of_ble_eq_true rfl) (by omega) ?_
                  refine ev_cast hE dX6_byBids_65 lkX6_42 ((hT.at (k := 20) (i := b9) hb8).1 _ _ ob20) rfl ?_
                  refine cw_getf hE hT dX6_byBids_68 fX6_44 (k := 20) (i := b9) hb8 ob20 rfl ?_
                  refine ev_iload_n dX6_byBids_71 rfl rfl ?_
                  refine ev_mmin dX6_byBids_72 lX6_48 (Nat.le_of_ble_eq_true rfl) (by omega) ?_
                  refine cw_ias (q := b9) (f := 124) (ix := b9) hE hT dX6_byBids_75 (k := 10) (i := 0) rfl ar10 rfl (by omega) (by decide) rfl (by decide) (by decide) (pa10 (i := 0)) (fun g hT => ?_)
                  refine ev_iload_n dX6_byBids_76 rfl rfl ?_
                  refine ev_aload_n dX6_byBids_77 rfl rfl ?_
                  refine cw_getf hE hT dX6_byBids_78 fX6_9 (k := 9) (i := 0) rfl ob9 rfl ?_
                  refine ev_iload dX6_byBids_81 rfl ?_
                  refine cw_ial (q := b9) (v := (cj_min (C.1 14 b9) (bd_St (cx_I C) (C.1 14) (C.1 15) c (nI L) (sp_P C) l).1)) hE hT dX6_byBids_83 (k := 10) (i := 0) rfl ar10 rfl (by omega) (by decide) (by rw [mo_up_at, pk_us, eK]) ?_
                  refine ev_isub dX6_byBids_84 ?_
                  refine ev_istore_n dX6_byBids_85 rfl (Nat.le_of_ble_eq_true rfl) rfl ?_
                  refine ev_iinc (v := (nI (i + 1))) dX6_byBids_86 rfl (nI_1 i) rfl ?_
                  refine ev_goto (tgt := 16) dX6_byBids_89 (by decide) ?_
                  have es := bd_step (L := nI L) (P := sp_P C) (C := C.1 15) hC hx.2.1 hn
                  rw [show (bd_St (cx_I C) (C.1 14) (C.1 15) c (nI L) (sp_P C) l).1 - cj_min (C.1 14 b9) (bd_St (cx_I C) (C.1 14) (C.1 15) c (nI L) (sp_P C) l).1 = (bd_St (cx_I C) (C.1 14) (C.1 15) c (nI L) (sp_P C) (some b9)).1 by rw [es, cj_least]]
                  refine ih (i + 1) (by omega) (by omega) _ (some b9) ⟨hx.1.up (by decide), fun b h => (by cases h; exact hb9), fun j hj => ?_, ?_⟩ g hT
                  · rw [mo_up_at, es, ← cj_least]
                    show _ = upd _ _ _ j
                    by_cases e : j = b9
                    · rw [e, pk_us, pk_us, eK]
                    · rw [pk_un e, pk_un e]
                      exact hx.2.2.1 j hj
                  · have := bd_more hn
                    omega
                · exact absurd (nI_lt (b := 12) (by omega) (by decide)) c_49
  exact loop (12 + 1) 0 (by omega) (by omega) _ none ⟨(cx_eqX.r C).fl (by decide), fun b h => (by cases h), fun j hj => cl_flat (by omega), by omega⟩ g hT
end CM11
