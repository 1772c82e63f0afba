section RJ
/-- reads f -/
def rd_CM (G : ev_G) (W : cw_W) (d : Nat) (M' : ev_M) (op : Nat) (f : (Nat → Nat) → Nat → Nat → ps_R) : Prop := ∀ (C : mo_S) (t : Nat → Nat) (n p c : Nat), rd_P C t n p c → cw_R G W d 0 0 M' [.ref (W 4 0), .int (nI op)] C (fun u W2 C2 => W2 = W ∧ u = .inl none ∧ rd_Q C t n p c (f t n p) C2)
/-- what is within brackets -/
def rd_In (G : ev_G) (W : cw_W) (d op : Nat) (inn : (Nat → Nat) → Nat → Option (Nat → ps_R)) : Prop := op ≤ 8 ∧ (op = 8 → ∀ t n, inn t n = none) ∧ (op < 8 → ∃ s : (Nat → Nat) → Nat → Nat → ps_R, (∀ t n, inn t n = some (s t n)) ∧ rd_CM G W d mX7_readSum (op + 1) s)
def rd_pst (G : ev_G) (W : cw_W) (K : Nat → Prop) (g0 : ev_H) (C : mo_S) (t : Nat → Nat) (n p c : Nat) (r : ps_R) : ev_P := fun o g' => ∃ W2 C2, (W2 = W ∧ o = .inl none ∧ rd_Q C t n p c r C2) ∧ cw_T G K g0 W2 g' C2
theorem c_X7_readInBrackets {G : ev_G} {W : cw_W} {d op : Nat} {inn : (Nat → Nat) → Nat → Option (Nat → ps_R)} (hE : ev_En G) (hd : 5 ≤ d) (hI : rd_In G W (d - 1) op inn) : rd_CM G W d mX7_readInBrackets op (fun t n p => ps_brk t n (inn t n) p) := by
  intro C t n p c hP
  refine cw_startR (lv0 := [some (.ref (W 4 0)), some (.int (nI op))]) (by decide +kernel) rfl (Nat.le_of_ble_eq_true rfl) rfl ?_
  intro K g0 g hT
  obtain ⟨hop, hI8, hI⟩ := hI
  have hpn := hP.1.le
  refine ev_aload_n dX7_readInBrackets_0 rfl rfl ?_
  refine ev_iload_n dX7_readInBrackets_1 rfl rfl ?_
  refine cw_callr1 (d' := d - 1) (b := 0) (n0 := 0) hE hT dX7_readInBrackets_2 rfl kX7_openBracket lX7_188 iX7_openBracket vX7_openBracket (k := 4) (i := 0) rfl ob4 rfl (Nat.le_of_ble_eq_true rfl) (by omega) (c_X7_openBracket (d := d - 1) hE (by omega) hP.1 hop) (Nat.le_refl _) (Nat.le_refl _) (fun v9 W9 T g q9 hT => ?_) (fun E W2 C2 g q9 _ => by
    obtain ⟨_, q9⟩ := q9
    split at q9
    · split at q9 <;> cases q9.1
    · cases q9.1)
  obtain ⟨e8, q9⟩ := q9
  have e7 := e8.symm
  subst e7
  by_cases hq : p < n ∧ t p = 40
  · rw [if_pos hq] at q9
    by_cases ho8 : op < 8
    · rw [if_pos ho8] at q9
      obtain ⟨e9, hx, hG⟩ := q9
      cases e9
      obtain ⟨s, hs, hCM⟩ := hI ho8
      refine ev_if_eq (tgt := 21) dX7_readInBrackets_5 (by decide) (fun c => absurd c (by decide)) (fun _ => ?_)
      have hsk := ps_skn_in (t := t) (n := n) (h := p + 1) (by omega)
      have q0 : rd_Q C t n p c (.inr (ps_skn t n (p + 1), [], [], fun _ => 0)) T := (hP.Q (F := fun _ => 0)).sg hx hG (by omega)
      have hP1 : rd_P T t n (ps_skn t n (p + 1)) c := by have := q0.P hP.2.2; exact this
      refine ev_aload_n dX7_readInBrackets_8 rfl rfl ?_
      refine ev_iload_n dX7_readInBrackets_9 rfl rfl ?_
      refine ev_iconst (v := 1) dX7_readInBrackets_10 (by decide) ?_
      refine ev_iadd dX7_readInBrackets_11 ?_
      rw [nI_1]
      refine cw_callr1 (d' := d - 1) (b := 0) (n0 := 0) hE hT dX7_readInBrackets_12 rfl kX7_readSum lX7_102 iX7_readSum vX7_readSum (k := 4) (i := 0) rfl ob4 rfl (Nat.le_of_ble_eq_true rfl) (by omega) (hCM T t n (ps_skn t n (p + 1)) (c) hP1) (Nat.le_refl _) (Nat.le_refl _) (fun v9 W9 T2 g q9 hT => ?_) (fun E W2 C2 g q9 _ => by obtain ⟨_, h9, _⟩ := q9; cases h9)
      obtain ⟨e8, e9, r1⟩ := q9
      have e7 := e8.symm
      subst e7
      cases e9
      cases hr : s t n (ps_skn t n (p + 1)) with
      | inl e =>
        rw [hr] at r1
        obtain ⟨f, pl⟩ := e
        refine ev_aload_n dX7_readInBrackets_15 rfl rfl ?_
        refine ev_bipush (v := 41) dX7_readInBrackets_16 (by decide) ?_
        refine cw_call1 (d' := d - 1) hE hT dX7_readInBrackets_18 rfl kX7_take lX7_55 iX7_take vX7_take (k := 4) (i := 0) rfl ob4 rfl (Nat.le_of_ble_eq_true rfl) (by omega) (c_X7_take_F hE (by omega) r1.1 (by decide)) (fun g hT => ?_)
        refine ev_vret dX7_readInBrackets_21 rfl ⟨W, T2, ⟨rfl, rfl, ?_⟩, hT⟩
        show rd_Q C t n p c (ps_op t n (inn t n) p fun s q => ps_bind (s q) fun h L C F => ps_sg t n h 41 fun h2 => .inr (h2, L, C, F)) _
        unfold ps_op
        rw [if_pos hq, hs t n]
        dsimp only
        rw [hr]
        exact q0.lt r1
      | inr q =>
        obtain ⟨h, L, Cl, F⟩ := q
        rw [hr] at r1
        have q1 : rd_Q C t n p c (.inr (h, L, [] ++ Cl, F)) T2 := q0.app r1
        have hh := r1.1.le
        refine ev_aload_n dX7_readInBrackets_15 rfl rfl ?_
        refine ev_bipush (v := nI 41) dX7_readInBrackets_16 (by decide) ?_
        refine cw_callr1 (d' := d - 1) (b := 0) (n0 := 0) hE hT dX7_readInBrackets_18 rfl kX7_take lX7_55 iX7_take vX7_take (k := 4) (i := 0) rfl ob4 rfl (Nat.le_of_ble_eq_true rfl) (by omega) (c_X7_take (d := d - 1) (c := 41) hE (by omega) r1.1 (by decide) (by decide) (by decide)) (Nat.le_refl _) (Nat.le_refl _) (fun v9 W9 T3 g q9 hT => ?_) (fun E W2 C2 g q9 _ => by obtain ⟨_, h9, _⟩ := q9; cases h9)
        obtain ⟨e8, e9, hq9⟩ := q9
        have e7 := e8.symm
        subst e7
        cases e9
        refine ev_vret dX7_readInBrackets_21 rfl ⟨W, T3, ⟨rfl, rfl, ?_⟩, hT⟩
        show rd_Q C t n p c (ps_op t n (inn t n) p fun s q => ps_bind (s q) fun h L C F => ps_sg t n h 41 fun h2 => .inr (h2, L, C, F)) _
        unfold ps_op
        rw [if_pos hq, hs t n]
        dsimp only
        rw [hr]
        show rd_Q C t n p c (ps_sg t n h 41 fun h2 => .inr (h2, L, Cl, F)) T3
        unfold ps_sg
        by_cases hz : h < n ∧ t h = 41
        · rw [if_pos hz] at hq9 ⊢
          exact q1.sg hq9.1 hq9.2 (by have := ps_skn_in (t := t) (n := n) (h := h + 1) (by omega); omega)
        · rw [if_neg hz] at hq9 ⊢
          exact q1.ft hP.2.2 hq9.1 hq9.2
    · rw [if_neg ho8] at q9
      obtain ⟨e9, hx, hF⟩ := q9
      cases e9
      refine ev_if_eq (tgt := 21) dX7_readInBrackets_5 (by decide) (fun _ => ?_) (fun c => absurd rfl c)
      refine ev_vret dX7_readInBrackets_21 rfl ⟨W, T, ⟨rfl, rfl, ?_⟩, hT⟩
      show rd_Q C t n p c (ps_op t n (inn t n) p fun s q => ps_bind (s q) fun h L C F => ps_sg t n h 41 fun h2 => .inr (h2, L, C, F)) _
      unfold ps_op
      rw [if_pos hq, hI8 (by omega) t n]
      exact (hP.Q (L := []) (F := fun _ => 0)).ft hP.2.2 hx hF
  · rw [if_neg hq] at q9
    obtain ⟨e9, hx, hF⟩ := q9
    cases e9
    refine ev_if_eq (tgt := 21) dX7_readInBrackets_5 (by decide) (fun _ => ?_) (fun c => absurd rfl c)
    refine ev_vret dX7_readInBrackets_21 rfl ⟨W, T, ⟨rfl, rfl, ?_⟩, hT⟩
    show rd_Q C t n p c (ps_op t n (inn t n) p fun s q => ps_bind (s q) fun h L C F => ps_sg t n h 41 fun h2 => .inr (h2, L, C, F)) _
    unfold ps_op
    rw [if_neg hq]
    exact (hP.Q (L := []) (F := fun _ => 0)).ft hP.2.2 hx hF
theorem rd_rel {t : Nat → Nat} {n p : Nat} (ht : t p < 256) (c : Nat) (hc : c < 256) (h1 : ps_let c = false) (h2 : ps_dig c = false) (h0 : c ≠ 0) : rd_sg t n p = nI c ↔ ps_bt t n p = c := by
  rw [rd_sg_c ht hc h1 h2]
  unfold ps_bt
  by_cases q : p < n
  · rw [if_pos q]; exact ⟨fun z => z.2, fun z => ⟨q, z⟩⟩
  · rw [if_neg q]; exact ⟨fun z => absurd z.1 q, fun z => absurd z.symm h0⟩
theorem c_X7_takeRelation_F {G : ev_G} {W : cw_W} {d n f pl : Nat} {C : mo_S} {t : Nat → Nat} (hE : ev_En G) (hd : 1 ≤ d) (h : rd_F C t n f pl) : cw_C G W d mX7_takeRelation [.ref (W 4 0)] C (some (.int (-17))) C := by
  refine cw_start (lv0 := [some (.ref (W 4 0)), none]) (by decide +kernel) rfl (Nat.le_of_ble_eq_true rfl) rfl ?_
  intro K g0 g hT
  refine ev_bipush (v := -17) dX7_takeRelation_0 (by decide) ?_
  refine ev_istore_n dX7_takeRelation_2 rfl (Nat.le_of_ble_eq_true rfl) rfl ?_
  refine ev_aload_n dX7_takeRelation_3 rfl rfl ?_
  refine cw_geti (v2 := -2) hE hT dX7_takeRelation_4 fX7_22 (k := 4) (i := 0) rfl ob4 rfl h.2.2.2.2.2 ?_
  refine ev_bipush (v := 60) dX7_takeRelation_7 (by decide) ?_
  refine ev_icmp_ne (tgt := 18) dX7_takeRelation_9 (by decide) (fun _ => ?_) (fun c => absurd c (by decide))
  refine ev_aload_n dX7_takeRelation_18 rfl rfl ?_
  refine cw_geti (v2 := -2) hE hT dX7_takeRelation_19 fX7_22 (k := 4) (i := 0) rfl ob4 rfl h.2.2.2.2.2 ?_
  refine ev_bipush (v := 62) dX7_takeRelation_22 (by decide) ?_
  refine ev_icmp_ne (tgt := 33) dX7_takeRelation_24 (by decide) (fun _ => ?_) (fun c => absurd c (by decide))
  refine ev_aload_n dX7_takeRelation_33 rfl rfl ?_
  refine cw_geti (v2 := -2) hE hT dX7_takeRelation_34 fX7_22 (k := 4) (i := 0) rfl ob4 rfl h.2.2.2.2.2 ?_
  refine ev_bipush (v := 61) dX7_takeRelation_37 (by decide) ?_
  refine ev_icmp_eq (tgt := 47) dX7_takeRelation_39 (by decide) (fun c => absurd c (by decide)) (fun _ => ?_)
  refine ev_aload_n dX7_takeRelation_42 rfl rfl ?_
  refine ev_iconst (v := 1) dX7_takeRelation_43 (by decide) ?_
  refine cw_call1 (d' := d - 1) hE hT dX7_takeRelation_44 rfl kX7_fail lX7_75 iX7_fail vX7_fail (k := 4) (i := 0) rfl ob4 rfl (Nat.le_of_ble_eq_true rfl) (by omega) (c_X7_fail hE) (fun g hT => ?_)
  rw [rd_fail_F h] at hT
  refine ev_aload_n dX7_takeRelation_47 rfl rfl ?_
  refine cw_call0 (d' := d - 1) hE hT dX7_takeRelation_48 rfl kX7_next lX7_48 iX7_next vX7_next (k := 4) (i := 0) rfl ob4 rfl (Nat.le_of_ble_eq_true rfl) (by omega) (c_X7_next_f hE h.f0) (fun g hT => ?_)
  refine ev_iload_n dX7_takeRelation_51 rfl rfl ?_
  exact ev_iret dX7_takeRelation_52 rfl rfl ⟨rfl, hT⟩
theorem c_X7_takeRelation {G : ev_G} {W : cw_W} {d n p : Nat} {C : mo_S} {t : Nat → Nat} (hE : ev_En G) (hd : 3 ≤ d) (h : rd_G C t n p) : cw_R G W d 0 0 mX7_takeRelation [.ref (W 4 0)] C (fun u W2 C2 => W2 = W ∧ (∃ x, u = .inl (some (.int x))) ∧ match ps_rel (ps_bt t n p) with
    | some q => u = .inl (some (.int q.2)) ∧ p < n ∧ cx_eqX [117, 118, 119] C2 C ∧ rd_G C2 t n (ps_skn t n (p + 1))
    | none => cx_eqX [33, 117, 120] C2 C ∧ rd_F C2 t n 1 p) := by
  refine cw_startR (lv0 := [some (.ref (W 4 0)), none]) (by decide +kernel) rfl (Nat.le_of_ble_eq_true rfl) rfl ?_
  intro K g0 g hT
  obtain ⟨hX, hf, hp, t118, t117, t119⟩ := id h
  have ht := hX.2.2.2 p
  have r60 := rd_rel (n := n) ht 60 (by decide) (by decide) (by decide) (by decide)
  have r62 := rd_rel (n := n) ht 62 (by decide) (by decide) (by decide) (by decide)
  have r61 := rd_rel (n := n) ht 61 (by decide) (by decide) (by decide) (by decide)
  have good : ∀ (c : Nat) (m x : Int32) g, ps_bt t n p = c → (c = 60 ∨ c = 61 ∨ c = 62) → ps_rel c = some (m, x) → cw_T G K g0 W g C → ev_V G d 0 0 mX7_takeRelation (fun u g' => ∃ W2 C2, (W2 = W ∧ (∃ x, u = .inl (some (.int x))) ∧ match ps_rel (ps_bt t n p) with
    | some q => u = .inl (some (.int q.2)) ∧ p < n ∧ cx_eqX [117, 118, 119] C2 C ∧ rd_G C2 t n (ps_skn t n (p + 1))
    | none => cx_eqX [33, 117, 120] C2 C ∧ rd_F C2 t n 1 p) ∧ cw_T G K g0 W2 g' C2) g 47 [some (.ref (W 4 0)), some (.int x)] [] := by
    intro c m x g hc hc2 hr hT
    have hpn : p < n ∧ t p = c := by
      unfold ps_bt at hc
      by_cases q : p < n
      · rw [if_pos q] at hc; exact ⟨q, hc⟩
      · rw [if_neg q] at hc; omega
    have hl : ps_let c = false ∧ ps_dig c = false := by rcases hc2 with rfl | rfl | rfl <;> decide
    refine ev_aload_n dX7_takeRelation_47 rfl rfl ?_
    refine cw_callr0 (d' := d - 1) (b := 0) (n0 := 0) hE hT dX7_takeRelation_48 rfl kX7_next lX7_48 iX7_next vX7_next (k := 4) (i := 0) rfl ob4 rfl (Nat.le_of_ble_eq_true rfl) (by omega) (c_X7_next (d := d - 1) hE (by omega) hX hf (by rw [t119, rd_bh_c hpn.1 hpn.2 hl.1 hl.2]) (by omega)) (Nat.le_refl _) (Nat.le_refl _) (fun v9 W9 T g q9 hT => ?_) (fun E W2 C2 g q9 _ => by cases q9.2.1)
    obtain ⟨e8, e9, hx9, hT9⟩ := q9
    have e7 := e8.symm
    subst e7
    cases e9
    refine ev_iload_n dX7_takeRelation_51 rfl rfl ?_
    refine ev_iret dX7_takeRelation_52 rfl rfl ⟨W, T, ⟨rfl, ⟨_, rfl⟩, ?_⟩, hT⟩
    rw [hc, hr]
    exact ⟨rfl, hpn.1, hx9, rd_next_G hX hf hx9 hT9⟩
  refine ev_bipush (v := -17) dX7_takeRelation_0 (by decide) ?_
  refine ev_istore_n dX7_takeRelation_2 rfl (Nat.le_of_ble_eq_true rfl) rfl ?_
  refine ev_aload_n dX7_takeRelation_3 rfl rfl ?_
  refine cw_geti (v2 := rd_sg t n p) hE hT dX7_takeRelation_4 fX7_22 (k := 4) (i := 0) rfl ob4 rfl t117 ?_
  refine ev_bipush (v := nI 60) dX7_takeRelation_7 (by decide) ?_
  refine ev_icmp_ne (tgt := 18) dX7_takeRelation_9 (by decide) (fun c1 => ?_) (fun c1 => ?_)
  · refine ev_aload_n dX7_takeRelation_18 rfl rfl ?_
    refine cw_geti (v2 := rd_sg t n p) hE hT dX7_takeRelation_19 fX7_22 (k := 4) (i := 0) rfl ob4 rfl t117 ?_
    refine ev_bipush (v := nI 62) dX7_takeRelation_22 (by decide) ?_
    refine ev_icmp_ne (tgt := 33) dX7_takeRelation_24 (by decide) (fun c2 => ?_) (fun c2 => ?_)
    · refine ev_aload_n dX7_takeRelation_33 rfl rfl ?_
      refine cw_geti (v2 := rd_sg t n p) hE hT dX7_takeRelation_34 fX7_22 (k := 4) (i := 0) rfl ob4 rfl t117 ?_
      refine ev_bipush (v := nI 61) dX7_takeRelation_37 (by decide) ?_
      refine ev_icmp_eq (tgt := 47) dX7_takeRelation_39 (by decide) (fun c3 => ?_) (fun c3 => ?_)
      · exact good 61 11 (-17) g (r61.mp c3) (Or.inr (Or.inl rfl)) rfl hT
      · refine ev_aload_n dX7_takeRelation_42 rfl rfl ?_
        refine ev_iconst (v := 1) dX7_takeRelation_43 (by decide) ?_
        refine cw_call1 (d' := d - 1) hE hT dX7_takeRelation_44 rfl kX7_fail lX7_75 iX7_fail vX7_fail (k := 4) (i := 0) rfl ob4 rfl (Nat.le_of_ble_eq_true rfl) (by omega) (c_X7_fail hE) (fun g hT => ?_)
        have hQ := rd_fail_G 1 (by decide) (by decide) h
        refine ev_aload_n dX7_takeRelation_47 rfl rfl ?_
        refine cw_call0 (d' := d - 1) hE hT dX7_takeRelation_48 rfl kX7_next lX7_48 iX7_next vX7_next (k := 4) (i := 0) rfl ob4 rfl (Nat.le_of_ble_eq_true rfl) (by omega) (c_X7_next_f hE hQ.1.f0) (fun g hT => ?_)
        refine ev_iload_n dX7_takeRelation_51 rfl rfl ?_
        refine ev_iret dX7_takeRelation_52 rfl rfl ⟨W, _, ⟨rfl, ⟨_, rfl⟩, ?_⟩, hT⟩
        rw [show ps_rel (ps_bt t n p) = none by unfold ps_rel; rw [if_neg (fun z => c1 (r60.mpr z)), if_neg (fun z => c2 (r62.mpr z)), if_neg (fun z => c3 (r61.mpr z))]]
        exact ⟨hQ.2, hQ.1⟩
    · refine ev_bipush (v := -16) dX7_takeRelation_27 (by decide) ?_
      refine ev_istore_n dX7_takeRelation_29 rfl (Nat.le_of_ble_eq_true rfl) rfl ?_
      refine ev_goto (tgt := 47) dX7_takeRelation_30 (by decide) ?_
      exact good 62 10 (-16) g (r62.mp c2) (Or.inr (Or.inr rfl)) rfl hT
  · refine ev_bipush (v := -15) dX7_takeRelation_12 (by decide) ?_
    refine ev_istore_n dX7_takeRelation_14 rfl (Nat.le_of_ble_eq_true rfl) rfl ?_
    refine ev_goto (tgt := 47) dX7_takeRelation_15 (by decide) ?_
    exact good 60 9 (-15) g (r60.mp c1) (Or.inl rfl) rfl hT
end RJ
