section RJ
/-- reads f -/
def rd_CM (G : ev_G) (W : cw_W) (d : Nat) (M' : ev_M) (op : Nat) (f : (Nat → Nat) → Nat → Nat → ps_R) : Prop := ∀ (C : mo_S) (t : Nat → Nat) (n p c : Nat), rd_P C t n p c → cw_R G W d 0 0 M' [.ref (W 4 0), .int (nI op)] C (fun u W2 C2 => W2 = W ∧ u = .inl none ∧ rd_Q C t n p c (f t n p) C2)
/-- what is within brackets -/
def rd_In (G : ev_G) (W : cw_W) (d op : Nat) (inn : (Nat → Nat) → Nat → Option (Nat → ps_R)) : Prop := op ≤ 8 ∧ (op = 8 → ∀ t n, inn t n = none) ∧ (op < 8 → ∃ s : (Nat → Nat) → Nat → Nat → ps_R, (∀ t n, inn t n = some (s t n)) ∧ rd_CM G W d mX7_readSum (op + 1) s)
def rd_pst (G : ev_G) (W : cw_W) (K : Nat → Prop) (g0 : ev_H) (C : mo_S) (t : Nat → Nat) (n p c : Nat) (r : ps_R) : ev_P := fun o g' => ∃ W2 C2, (W2 = W ∧ o = .inl none ∧ rd_Q C t n p c r C2) ∧ cw_T G K g0 W2 g' C2
theorem c_X7_readInBrackets {G : ev_G} {W : cw_W} {d op : Nat} {inn : (Nat → Nat) → Nat → Option (Nat → ps_R)} (hE : ev_En G) (hd : 5 ≤ d) (hI : rd_In G W (d - 1) op inn) : rd_CM G W d mX7_readInBrackets op (fun t n p => ps_brk t n (inn t n) p) := by
  intro C t n p c hP
  refine cw_startR (lv0 := [some (.ref (W 4 0)), some (.int (nI op))]) (by decide +kernel) rfl (Nat.le_of_ble_eq_true rfl) rfl ?_
  intro K g0 g hT
  obtain ⟨hop, hI8, hI⟩ := hI
  have hpn := hP.1.le
  refine ev_aload_n dX7_readInBrackets_0 rfl rfl ?_
  refine ev_iload_n dX7_readInBrackets_1 rfl rfl ?_
  refine cw_callr1 (d' := d - 1) (b := 0) (n0 := 0) hE hT dX7_readInBrackets_2 rfl kX7_openBracket lX7_188 iX7_openBracket vX7_openBracket (k := 4) (i := 0) rfl ob4 rfl (Nat.le_of_ble_eq_true rfl) (by omega) (c_X7_openBracket (d := d - 1) hE (by omega) hP.1 hop) (Nat.le_refl _) (Nat.le_refl _) (fun v9 W9 T g q9 hT => ?_) (fun E W2 C2 g q9 _ => by
    obtain ⟨_, q9⟩ := q9
    split at q9
    · split at q9 <;> cases q9.1
    · cases q9.1)
  obtain ⟨e8, q9⟩ := q9
  have e7 := e8.symm
  subst e7
  by_cases hq : p < n ∧ t p = 40
  · rw [if_pos hq] at q9
    by_cases ho8 : op < 8
    · rw [if_pos ho8] at q9
      obtain ⟨e9, hx, hG⟩ := q9
      cases e9
      obtain ⟨s, hs, hCM⟩ := hI ho8
      refine ev_if_eq (tgt := 21) dX7_readInBrackets_5 (by decide) (fun c => absurd c (by decide)) (fun _ => ?_)
      have hsk := ps_skn_in (t := t) (n := n) (h := p + 1) (by omega)
      have q0 : rd_Q C t n p c (.inr (ps_skn t n (p + 1), [], [], fun _ => 0)) T := (hP.Q (F := fun _ => 0)).sg hx hG (by omega)
      have hP1 : rd_P T t n (ps_skn t n (p + 1)) c := by have := q0.P hP.2.2; exact this
      refine ev_aload_n dX7_readInBrackets_8 rfl rfl ?_
      refine ev_iload_n dX7_readInBrackets_9 rfl rfl ?_
      refine ev_iconst (v := 1) dX7_readInBrackets_10 (by decide) ?_
      refine ev_iadd dX7_readInBrackets_11 ?_
      rw [nI_1]
      refine cw_callr1 (d' := d - 1) (b := 0) (n0 := 0) hE hT dX7_readInBrackets_12 rfl kX7_readSum lX7_102 iX7_readSum vX7_readSum (k := 4) (i := 0) rfl ob4 rfl (Nat.le_of_ble_eq_true rfl) (by omega) (hCM T t n (ps_skn t n (p + 1)) (c) hP1) (Nat.le_refl _) (Nat.le_refl _) (fun v9 W9 T2 g q9 hT => ?_) (fun E W2 C2 g q9 _ => by obtain ⟨_, h9, _⟩ := q9; cases h9)
      obtain ⟨e8, e9, r1⟩ := q9
      have e7 := e8.symm
      subst e7
      cases e9
      cases hr : s t n (ps_skn t n (p + 1)) with
      | inl e =>
        rw [hr] at r1
        obtain ⟨f, pl⟩ := e
        refine ev_aload_n dX7_readInBrackets_15 rfl rfl ?_
        refine ev_bipush (v := 41) dX7_readInBrackets_16 (by decide) ?_
        refine cw_call1 (d' := d - 1) hE hT dX7_readInBrackets_18 rfl kX7_take lX7_55 iX7_take vX7_take (k := 4) (i := 0) rfl ob4 rfl (Nat.le_of_ble_eq_true rfl) (by omega) (c_X7_take_F hE (by omega) r1.1 (by decide)) (fun g hT => ?_)
        refine ev_vret dX7_readInBrackets_21 rfl ⟨W, T2, ⟨rfl, rfl, ?_⟩, hT⟩
        show rd_Q C t n p c (ps_op t n (inn t n) p fun s q => ps_bind (s q) fun h L C F => ps_sg t n h 41 fun h2 => .inr (h2, L, C, F)) _
        unfold ps_op
        rw [if_pos hq, hs t n]
        dsimp only
        rw [hr]
        exact q0.lt r1
      | inr q =>
        obtain ⟨h, L, Cl, F⟩ := q
        rw [hr] at r1
        have q1 : rd_Q C t n p c (.inr (h, L, [] ++ Cl, F)) T2 := q0.app r1
        have hh := r1.1.le
        refine ev_aload_n dX7_readInBrackets_15 rfl rfl ?_
        refine ev_bipush (v := nI 41) dX7_readInBrackets_16 (by decide) ?_
        refine cw_callr1 (d' := d - 1) (b := 0) (n0 := 0) hE hT dX7_readInBrackets_18 rfl kX7_take lX7_55 iX7_take vX7_take (k := 4) (i := 0) rfl ob4 rfl (Nat.le_of_ble_eq_true rfl) (by omega) (c_X7_take (d := d - 1) (c := 41) hE (by omega) r1.1 (by decide) (by decide) (by decide)) (Nat.le_refl _) (Nat.le_refl _) (fun v9 W9 T3 g q9 hT => ?_) (fun E W2 C2 g q9 _ => by obtain ⟨_, h9, _⟩ := q9; cases h9)
        obtain ⟨e8, e9, hq9⟩ := q9
        have e7 := e8.symm
        subst e7
        cases e9
        refine ev_vret dX7_readInBrackets_21 rfl ⟨W, T3, ⟨rfl, rfl, ?_⟩, hT⟩
        show rd_Q C t n p c (ps_op t n (inn t n) p fun s q => ps_bind (s q) fun h L C F => ps_sg t n h 41 fun h2 => .inr (h2, L, C, F)) _
        unfold ps_op
        rw [if_pos hq, hs t n]
        dsimp only
        rw [hr]
        show rd_Q C t n p c (ps_sg t n h 41 fun h2 => .inr (h2, L, Cl, F)) T3
        unfold ps_sg
        by_cases hz : h < n ∧ t h = 41
        · rw [if_pos hz] at hq9 ⊢
          exact q1.sg hq9.1 hq9.2 (by have := ps_skn_in (t := t) (n := n) (h := h + 1) (by omega); omega)
        · rw [if_neg hz] at hq9 ⊢
          exact q1.ft hP.2.2 hq9.1 hq9.2
    · rw [if_neg ho8] at q9
      obtain ⟨e9, hx, hF⟩ := q9
      cases e9
      refine ev_if_eq (tgt := 21) dX7_readInBrackets_5 (by decide) (fun _ => ?_) (fun c => absurd rfl c)
      refine ev_vret dX7_readInBrackets_21 rfl ⟨W, T, ⟨rfl, rfl, ?_⟩, hT⟩
      show rd_Q C t n p c (ps_op t n (inn t n) p fun s q => ps_bind (s q) fun h L C F => ps_sg t n h 41 fun h2 => .inr (h2, L, C, F)) _
      unfold ps_op
      rw [if_pos hq, hI8 (by omega) t n]
      exact (hP.Q (L := []) (F := fun _ => 0)).ft hP.2.2 hx hF
  · rw [if_neg hq] at q9
    obtain ⟨e9, hx, hF⟩ := q9
    cases e9
    refine ev_if_eq (tgt := 21) dX7_readInBrackets_5 (by decide) (fun _ => ?_) (fun c => absurd rfl c)
    refine ev_vret dX7_readInBrackets_21 rfl ⟨W, T, ⟨rfl, rfl, ?_⟩, hT⟩
    show rd_Q C t n p c (ps_op t n (inn t n) p fun s q => ps_bind (s q) fun h L C F => ps_sg t n h 41 fun h2 => .inr (h2, L, C, F)) _
    unfold ps_op
    rw [if_neg hq]
    exact (hP.Q (L := []) (F := fun _ => 0)).ft hP.2.2 hx hF
end RJ
