section M5
/-- a method of the model: from S it answers r and leaves S2, and Q says of them what is to be known -/
def mo_Cr (G : ev_G) (W : mo_W) (d : Nat) (M' : ev_M) (As : List Value) (S : mo_S) (Q : Option Value → mo_S → Prop) : Prop := ∀ g, mo_D W → mo_R G W g S → ev_C G d 0 0 M' (.ref W.1 :: As) g (fun o g' => ∃ r S2, o = .inl r ∧ Q r S2 ∧ mo_T G W g g' S2)
theorem mo_startr {G : ev_G} {W : mo_W} {d : Nat} {M : ev_M} {S : mo_S} {As : List Value} {lv0 : List (Option Value)} {Q : Option Value → mo_S → Prop} (hy : plainName M.1.cls = true) (hh : M.2.2.2.2 = []) (hn : (lg_sl (.ref W.1 :: As)).length ≤ M.2.2.1) (hlv : ev_ent (.ref W.1 :: As) M.2.2.1 = lv0)
    (k : ∀ g0 g, mo_T G W g0 g S → ev_V G d 0 0 M (fun o g' => ∃ r S2, o = .inl r ∧ Q r S2 ∧ mo_T G W g0 g' S2) g 0 lv0 []) : mo_Cr G W d M As S Q :=
  fun g hD hR => ev_start hy hh hn hlv (k g g ⟨hD, hR, fun _ _ => rfl⟩)
theorem mo_callr0 {G : ev_G} {W : mo_W} {d bc bs : Nat} {M : ev_M} {Post : ev_P} {g g0 : ev_H} {pc : Nat} {lv : List (Option Value)} {S : mo_S} {index d' : Nat} {M' : ev_M} {Q : Option Value → mo_S → Prop} {rest : List Value} (hE : ev_En G) (hT : mo_T G W g0 g S) (hd : decode M.2.1 pc = .ok (.invokevirtual index, 3)) (hh : M'.2.2.2.2 = []) (hc : M'.1.cls = RX12) (hK : ev_K M' 0) (hl1 : Cond.methodLink M.1.cls index M'.1 ∈ ev_T) (hl2 : Cond.instanceMethod M'.1 ∈ ev_T) (hl3 : Cond.selects M'.1.cls M'.1 M'.1 ∈ ev_T) (hr : (rest.map fun v => v.category).sum ≤ 8) (hdd : d' + 1 ≤ d) (hM : mo_Cr G W d' M' [] S Q) (k : ∀ r S2 g', Q r S2 → mo_T G W g0 g' S2 → ev_V G d bc bs M Post g' (pc + 3) lv (r.toList ++ rest)) : ev_V G d bc bs M Post g pc lv (.ref W.1 :: rest) :=
  ev_callV (As := []) hE hd hh hK rfl hl1 hl2 hl3 hT.2.1.1 (by rw [hc]; rfl) hr hdd (hM g hT.1 hT.2.1) (b := bc) (k0 := bs) (Nat.le_refl _) (Nat.le_refl _) (fun v g' h => by obtain ⟨r, S2, h1, h2, h3⟩ := h; cases h1; exact k _ S2 g' h2 (hT.trans h3)) (fun E g' h => by obtain ⟨r, S2, h1, -⟩ := h; cases h1)
theorem mo_callr1 {G : ev_G} {W : mo_W} {d bc bs : Nat} {M : ev_M} {Post : ev_P} {g g0 : ev_H} {pc : Nat} {lv : List (Option Value)} {S : mo_S} {index d' : Nat} {M' : ev_M} {Q : Option Value → mo_S → Prop} {a1 : Value} {rest : List Value} (hE : ev_En G) (hT : mo_T G W g0 g S) (hd : decode M.2.1 pc = .ok (.invokevirtual index, 3)) (hh : M'.2.2.2.2 = []) (hc : M'.1.cls = RX12) (hK : ev_K M' 1) (hl1 : Cond.methodLink M.1.cls index M'.1 ∈ ev_T) (hl2 : Cond.instanceMethod M'.1 ∈ ev_T) (hl3 : Cond.selects M'.1.cls M'.1 M'.1 ∈ ev_T) (hr : (rest.map fun v => v.category).sum ≤ 8) (hdd : d' + 1 ≤ d) (hM : mo_Cr G W d' M' [a1] S Q) (k : ∀ r S2 g', Q r S2 → mo_T G W g0 g' S2 → ev_V G d bc bs M Post g' (pc + 3) lv (r.toList ++ rest)) : ev_V G d bc bs M Post g pc lv (a1 :: .ref W.1 :: rest) :=
  ev_callV (As := [a1]) hE hd hh hK rfl hl1 hl2 hl3 hT.2.1.1 (by rw [hc]; rfl) hr hdd (hM g hT.1 hT.2.1) (b := bc) (k0 := bs) (Nat.le_refl _) (Nat.le_refl _) (fun v g' h => by obtain ⟨r, S2, h1, h2, h3⟩ := h; cases h1; exact k _ S2 g' h2 (hT.trans h3)) (fun E g' h => by obtain ⟨r, S2, h1, -⟩ := h; cases h1)
theorem mo_callr2 {G : ev_G} {W : mo_W} {d bc bs : Nat} {M : ev_M} {Post : ev_P} {g g0 : ev_H} {pc : Nat} {lv : List (Option Value)} {S : mo_S} {index d' : Nat} {M' : ev_M} {Q : Option Value → mo_S → Prop} {a1 a2 : Value} {rest : List Value} (hE : ev_En G) (hT : mo_T G W g0 g S) (hd : decode M.2.1 pc = .ok (.invokevirtual index, 3)) (hh : M'.2.2.2.2 = []) (hc : M'.1.cls = RX12) (hK : ev_K M' 2) (hl1 : Cond.methodLink M.1.cls index M'.1 ∈ ev_T) (hl2 : Cond.instanceMethod M'.1 ∈ ev_T) (hl3 : Cond.selects M'.1.cls M'.1 M'.1 ∈ ev_T) (hr : (rest.map fun v => v.category).sum ≤ 8) (hdd : d' + 1 ≤ d) (hM : mo_Cr G W d' M' [a1, a2] S Q) (k : ∀ r S2 g', Q r S2 → mo_T G W g0 g' S2 → ev_V G d bc bs M Post g' (pc + 3) lv (r.toList ++ rest)) : ev_V G d bc bs M Post g pc lv (a2 :: a1 :: .ref W.1 :: rest) :=
  ev_callV (As := [a1, a2]) hE hd hh hK rfl hl1 hl2 hl3 hT.2.1.1 (by rw [hc]; rfl) hr hdd (hM g hT.1 hT.2.1) (b := bc) (k0 := bs) (Nat.le_refl _) (Nat.le_refl _) (fun v g' h => by obtain ⟨r, S2, h1, h2, h3⟩ := h; cases h1; exact k _ S2 g' h2 (hT.trans h3)) (fun E g' h => by obtain ⟨r, S2, h1, -⟩ := h; cases h1)
theorem mo_callr3 {G : ev_G} {W : mo_W} {d bc bs : Nat} {M : ev_M} {Post : ev_P} {g g0 : ev_H} {pc : Nat} {lv : List (Option Value)} {S : mo_S} {index d' : Nat} {M' : ev_M} {Q : Option Value → mo_S → Prop} {a1 a2 a3 : Value} {rest : List Value} (hE : ev_En G) (hT : mo_T G W g0 g S) (hd : decode M.2.1 pc = .ok (.invokevirtual index, 3)) (hh : M'.2.2.2.2 = []) (hc : M'.1.cls = RX12) (hK : ev_K M' 3) (hl1 : Cond.methodLink M.1.cls index M'.1 ∈ ev_T) (hl2 : Cond.instanceMethod M'.1 ∈ ev_T) (hl3 : Cond.selects M'.1.cls M'.1 M'.1 ∈ ev_T) (hr : (rest.map fun v => v.category).sum ≤ 8) (hdd : d' + 1 ≤ d) (hM : mo_Cr G W d' M' [a1, a2, a3] S Q) (k : ∀ r S2 g', Q r S2 → mo_T G W g0 g' S2 → ev_V G d bc bs M Post g' (pc + 3) lv (r.toList ++ rest)) : ev_V G d bc bs M Post g pc lv (a3 :: a2 :: a1 :: .ref W.1 :: rest) :=
  ev_callV (As := [a1, a2, a3]) hE hd hh hK rfl hl1 hl2 hl3 hT.2.1.1 (by rw [hc]; rfl) hr hdd (hM g hT.1 hT.2.1) (b := bc) (k0 := bs) (Nat.le_refl _) (Nat.le_refl _) (fun v g' h => by obtain ⟨r, S2, h1, h2, h3⟩ := h; cases h1; exact k _ S2 g' h2 (hT.trans h3)) (fun E g' h => by obtain ⟨r, S2, h1, -⟩ := h; cases h1)
theorem mo_callr4 {G : ev_G} {W : mo_W} {d bc bs : Nat} {M : ev_M} {Post : ev_P} {g g0 : ev_H} {pc : Nat} {lv : List (Option Value)} {S : mo_S} {index d' : Nat} {M' : ev_M} {Q : Option Value → mo_S → Prop} {a1 a2 a3 a4 : Value} {rest : List Value} (hE : ev_En G) (hT : mo_T G W g0 g S) (hd : decode M.2.1 pc = .ok (.invokevirtual index, 3)) (hh : M'.2.2.2.2 = []) (hc : M'.1.cls = RX12) (hK : ev_K M' 4) (hl1 : Cond.methodLink M.1.cls index M'.1 ∈ ev_T) (hl2 : Cond.instanceMethod M'.1 ∈ ev_T) (hl3 : Cond.selects M'.1.cls M'.1 M'.1 ∈ ev_T) (hr : (rest.map fun v => v.category).sum ≤ 8) (hdd : d' + 1 ≤ d) (hM : mo_Cr G W d' M' [a1, a2, a3, a4] S Q) (k : ∀ r S2 g', Q r S2 → mo_T G W g0 g' S2 → ev_V G d bc bs M Post g' (pc + 3) lv (r.toList ++ rest)) : ev_V G d bc bs M Post g pc lv (a4 :: a3 :: a2 :: a1 :: .ref W.1 :: rest) :=
  ev_callV (As := [a1, a2, a3, a4]) hE hd hh hK rfl hl1 hl2 hl3 hT.2.1.1 (by rw [hc]; rfl) hr hdd (hM g hT.1 hT.2.1) (b := bc) (k0 := bs) (Nat.le_refl _) (Nat.le_refl _) (fun v g' h => by obtain ⟨r, S2, h1, h2, h3⟩ := h; cases h1; exact k _ S2 g' h2 (hT.trans h3)) (fun E g' h => by obtain ⟨r, S2, h1, -⟩ := h; cases h1)
/-- one code of a formula over a stack, top first; v: the named values -/
def sp_step (v : Int32 → Int32) (o n : Int32) (st : List Int32) : Option (List Int32) :=
  if o = 0 then some (n :: st) else if o = 1 then some (v n :: st)
  else if o = 8 then (match st with
    | z :: y :: x :: r => some ((if x = 1 then y else z) :: r)
    | _ => none)
  else match st with
    | y :: x :: r => some (sp_X12_worked o x y :: r)
    | _ => none
def sp_runs (S : mo_S) (v : Int32 → Int32) : Nat → Nat → List Int32 → Option (List Int32)
  | 0, _, st => some st
  | n + 1, k, st => match sp_step v (S.1 40 k) (S.1 41 k) st with
    | none => none
    | some st' => sp_runs S v n (k + 1) st'
theorem sp_runs_s {S : mo_S} {v : Int32 → Int32} {n k : Nat} {st r : List Int32} (h : sp_runs S v (n + 1) k st = some r) : ∃ st', sp_step v (S.1 40 k) (S.1 41 k) st = some st' ∧ sp_runs S v n (k + 1) st' = some r := by
  unfold sp_runs at h
  cases hq : sp_step v (S.1 40 k) (S.1 41 k) st with
  | none => rw [hq] at h; cases h
  | some st' => rw [hq] at h; exact ⟨st', rfl, h⟩
theorem sp_step_0 {v : Int32 → Int32} {o n : Int32} {st st' : List Int32} (ho : o = 0) (h : sp_step v o n st = some st') : st' = n :: st := by
  unfold sp_step at h
  rw [if_pos ho] at h
  exact (Option.some.inj h).symm
theorem sp_step_1 {v : Int32 → Int32} {o n : Int32} {st st' : List Int32} (ho : o = 1) (h : sp_step v o n st = some st') : st' = v n :: st := by
  unfold sp_step at h
  rw [if_neg (by rw [ho]; decide), if_pos ho] at h
  exact (Option.some.inj h).symm
theorem sp_step_8 {v : Int32 → Int32} {o n : Int32} {st st' : List Int32} (ho : o = 8) (h : sp_step v o n st = some st') : ∃ z y x r, st = z :: y :: x :: r ∧ st' = (if x = 1 then y else z) :: r := by
  unfold sp_step at h
  rw [if_neg (by rw [ho]; decide), if_neg (by rw [ho]; decide), if_pos ho] at h
  match st, h with
  | z :: y :: x :: r, h => exact ⟨z, y, x, r, rfl, (Option.some.inj h).symm⟩
theorem sp_step_b {v : Int32 → Int32} {o n : Int32} {st st' : List Int32} (h0 : ¬ o = 0) (h1 : ¬ o = 1) (h8 : ¬ o = 8) (h : sp_step v o n st = some st') : ∃ y x r, st = y :: x :: r ∧ st' = sp_X12_worked o x y :: r := by
  unfold sp_step at h
  rw [if_neg h0, if_neg h1, if_neg h8] at h
  match st, h with
  | y :: x :: r, h => exact ⟨y, x, r, rfl, (Option.some.inj h).symm⟩
/-- the formula that begins at k0 has this value -/
def sp_wf (S : mo_S) (v : Int32 → Int32) (k0 len : Nat) (x : Int32) : Prop := k0 + len < 3500 ∧ len ≤ 350 ∧ S.1 40 (k0 + len) = 12 ∧ (∀ j, j < len → S.1 40 (k0 + j) ≠ 12) ∧ sp_runs S v len k0 [] = some [x]
def sp_pile (f : Nat → Int32) : List Int32 → Prop
  | [] => True
  | x :: r => f r.length = x ∧ sp_pile f r
theorem sp_pile_up {f : Nat → Int32} {k : Nat} {v : Int32} : ∀ {r : List Int32}, sp_pile f r → r.length ≤ k → sp_pile (upd f k v) r
  | [], _, _ => trivial
  | x :: r, h, hk => by
    refine ⟨?_, sp_pile_up h.2 (by simp only [List.length_cons] at hk; omega)⟩
    rw [pk_un (by simp only [List.length_cons] at hk; omega)]
    exact h.1
theorem sp_m2 (n : Nat) : nI (n + 3) + Int32.ofInt (-2) = nI (n + 1) := by
  rw [show nI (n + 3) = nI (n + 1) + 2 from (nI_add (n + 1) 2).symm, Int32.add_assoc, show (2 : Int32) + Int32.ofInt (-2) = 0 from by decide, Int32.add_zero]
theorem sp_m1 (n : Nat) : nI (n + 2) + Int32.ofInt (-1) = nI (n + 1) := pk_m1 (n + 1)
/-- the same but for the pile -/
def sp_eqP (T S : mo_S) : Prop := (∀ k, k ≠ 49 → T.1 k = S.1 k) ∧ T.2 = S.2
theorem sp_eqP_up {T S : mo_S} {k : Nat} {v : Int32} (h : sp_eqP T S) : sp_eqP (mo_up T 49 k v) S := ⟨fun j hj => by rw [← h.1 j hj]; funext b; simp [mo_up, hj], h.2⟩
theorem sp_named_eq {T S : mo_S} (h : sp_eqP T S) (n : Int32) : sp_X12_named T n = sp_X12_named S n := by
  unfold sp_X12_named
  rw [h.1 2 (by decide), h.1 42 (by decide), h.1 43 (by decide), h.1 44 (by decide), h.1 45 (by decide), h.1 46 (by decide), h.1 47 (by decide), h.1 48 (by decide)]
theorem c_X12_value {G : ev_G} {W : mo_W} {d : Nat} {S : mo_S} {x1 : Int32} {c k0 len : Nat} {x : Int32} (hE : ev_En G) (hd : 1 ≤ d) (hc : x1 = nI c) (hc2 : c < 120) (hk : 350 * (x1 / 12) + S.1 39 c = nI k0) (hw : sp_wf S (sp_X12_named S) k0 len x) : mo_Cr G W d mX12_value [.int x1] S (fun r S2 => r = some (.int x) ∧ sp_eqP S2 S) := by
  refine mo_startr (lv0 := [some (.ref W.1), some (.int x1), none, none, none]) (by decide +kernel) rfl (Nat.le_of_ble_eq_true rfl) rfl ?_
  intro g0 g hT
  obtain ⟨hw1, hw2, hend, hne, hrun⟩ := hw
  refine ev_iconst (v := (nI 0)) dX12_value_0 (by decide) ?_
  refine ev_istore_n dX12_value_1 rfl (Nat.le_of_ble_eq_true rfl) rfl ?_
  refine ev_sipush (v := 350) dX12_value_2 (by decide) ?_
  refine ev_iload_n dX12_value_5 rfl rfl ?_
  refine ev_bipush (v := 12) dX12_value_6 (by decide) ?_
  refine ev_idiv dX12_value_8 (by decide) ?_
  refine ev_imul dX12_value_9 ?_
  refine ev_aload_n dX12_value_10 rfl rfl ?_
  refine mo_geta hE hT dX12_value_11 fX12_93 (by decide) ?_
  refine ev_iload_n dX12_value_14 rfl rfl ?_
  refine mo_iald (q := c) hE hT dX12_value_15 (by decide) hc (show _ < 120 from hc2) ?_
  refine ev_iadd dX12_value_16 ?_
  rw [hk]
  refine ev_istore_n dX12_value_17 rfl (Nat.le_of_ble_eq_true rfl) rfl ?_
  have loop : ∀ (n i : Nat), i ≤ len → len < i + n → ∀ (T : mo_S) (st : List Int32), sp_eqP T S → sp_pile (T.1 49) st → st.length ≤ i → sp_runs S (sp_X12_named S) (len - i) (k0 + i) st = some [x] → ∀ g, mo_T G W g0 g T → ev_V G d 0 0 mX12_value (fun o g' => ∃ r S2, o = .inl r ∧ (r = some (.int x) ∧ sp_eqP S2 S) ∧ mo_T G W g0 g' S2) g 18 [some (.ref W.1), some (.int x1), some (.int (nI st.length)), some (.int (nI (k0 + i))), none] [] := by
    intro n
    induction n with
    | zero => intro i h1 h2; exact absurd h2 (by omega)
    | succ n ih =>
      intro i h1 h2 T st hq hp hl hr g hT
      have hco : T.1 40 (k0 + i) = S.1 40 (k0 + i) := by rw [hq.1 40 (by decide)]
      have hcn : T.1 41 (k0 + i) = S.1 41 (k0 + i) := by rw [hq.1 41 (by decide)]
      refine ev_aload_n dX12_value_18 rfl rfl ?_
      refine mo_geta hE hT dX12_value_19 fX12_96 (by decide) ?_
      refine ev_iload_n dX12_value_22 rfl rfl ?_
      refine mo_iald (q := (k0 + i)) hE hT dX12_value_23 (by decide) rfl (show _ < 3500 from (by omega)) ?_
      refine ev_bipush (v := 12) dX12_value_24 (by decide) ?_
      refine ev_icmp_eq (tgt := 170) dX12_value_26 (by decide) (fun c_26 => ?_) (fun c_26 => ?_)
      · have e : i = len := by
          rcases Nat.lt_or_ge i len with q | q
          · exact absurd (hco.symm.trans c_26) (hne i q)
          · omega
        subst e
        rw [Nat.sub_self] at hr
        have hst : st = [x] := Option.some.inj hr
        subst hst
        refine ev_aload_n dX12_value_170 rfl rfl ?_
        refine mo_geta hE hT dX12_value_171 fX12_102 (by decide) ?_
        refine ev_iconst (v := nI 0) dX12_value_174 (by decide) ?_
        refine mo_ialdQ (q := 0) (v := x) hE hT dX12_value_175 (by decide) rfl (show 0 < 350 by decide) hp.1 ?_
        exact ev_iret dX12_value_176 rfl rfl ⟨_, T, rfl, ⟨rfl, hq⟩, hT⟩
      · have hlt : i < len := by
          rcases Nat.lt_or_ge i len with q | q
          · exact q
          · exact absurd (hco.trans (by rw [show i = len by omega]; exact hend)) c_26
        rw [show len - i = (len - (i + 1)) + 1 by omega] at hr
        obtain ⟨st', hs, hr⟩ := sp_runs_s hr
        refine ev_aload_n dX12_value_29 rfl rfl ?_
        refine mo_geta hE hT dX12_value_30 fX12_96 (by decide) ?_
        refine ev_iload_n dX12_value_33 rfl rfl ?_
        refine mo_iald (q := (k0 + i)) hE hT dX12_value_34 (by decide) rfl (show _ < 3500 from (by omega)) ?_
        refine ev_istore dX12_value_35 (Nat.le_of_ble_eq_true rfl) rfl ?_
        refine ev_iload dX12_value_37 rfl ?_
        refine ev_if_eq (tgt := 48) dX12_value_39 (by decide) (fun c_39 => ?_) (fun c_39 => ?_)
        · refine ev_aload_n dX12_value_48 rfl rfl ?_
          refine mo_geta hE hT dX12_value_49 fX12_102 (by decide) ?_
          refine ev_iload_n dX12_value_52 rfl rfl ?_
          refine ev_iload dX12_value_53 rfl ?_
          have K_77 : ∀ (g : ev_H) (hT : mo_T G W g0 g T), ∀ x9 : Int32, x9 = (if (T.1 40 (k0 + i)) = 0 then (T.1 41 (k0 + i)) else (sp_X12_named T (T.1 41 (k0 + i)))) → ev_V G d 0 0 mX12_value (fun o g' => ∃ r S2, o = .inl r ∧ (r = some (.int x) ∧ sp_eqP S2 S) ∧ mo_T G W g0 g' S2) g 77 [some (.ref W.1), some (.int x1), some (.int (nI st.length)), some (.int (nI (k0 + i))), some (.int (T.1 40 (k0 + i)))] (.int x9 :: .int (nI st.length) :: .ref (W.2 49) :: []) := by
            intro g hT x9 h9
            subst h9
            refine mo_iast (q := st.length) hE hT dX12_value_77 (by decide) rfl (show _ < 350 from (by omega)) (fun g hT => ?_)
            refine ev_iinc (v := (nI (st.length + 1))) dX12_value_78 rfl (by exact nI_1 st.length) rfl ?_
            refine ev_goto (tgt := 164) dX12_value_81 (by decide) ?_
            refine ev_iinc (v := nI (k0 + (i + 1))) dX12_value_164 rfl (by exact nI_1 (k0 + i)) rfl ?_
            refine ev_goto (tgt := 18) dX12_value_167 (by decide) ?_
            refine ev_none 4 ?_
            have e9 := sp_step_0 (hco.symm.trans c_39) hs
            subst e9
            exact ih (i + 1) (by omega) (by omega) _ (S.1 41 (k0 + i) :: st) (sp_eqP_up hq) ⟨by rw [mo_up_at, pk_us, if_pos c_39, hcn], by rw [mo_up_at]; exact sp_pile_up hp (Nat.le_refl _)⟩ (by simp only [List.length_cons]; omega) hr g hT
          refine ev_if_ne (tgt := 67) dX12_value_55 (by decide) (fun c_55 => ?_) (fun c_55 => ?_)
          · refine ev_aload_n dX12_value_67 rfl rfl ?_
            refine ev_aload_n dX12_value_68 rfl rfl ?_
            refine mo_geta hE hT dX12_value_69 fX12_99 (by decide) ?_
            refine ev_iload_n dX12_value_72 rfl rfl ?_
            refine mo_iald (q := (k0 + i)) hE hT dX12_value_73 (by decide) rfl (show _ < 3500 from (by omega)) ?_
            refine mo_call1 (d' := d - 1) hE hT dX12_value_74 rfl rfl kX12_named lX12_392 iX12_named vX12_named (Nat.le_of_ble_eq_true rfl) (by omega) (c_X12_named hE) (fun g hT => ?_)
            exact K_77 g hT _ (by rw [if_neg c_55])
          · refine ev_aload_n dX12_value_58 rfl rfl ?_
            refine mo_geta hE hT dX12_value_59 fX12_99 (by decide) ?_
            refine ev_iload_n dX12_value_62 rfl rfl ?_
            refine mo_iald (q := (k0 + i)) hE hT dX12_value_63 (by decide) rfl (show _ < 3500 from (by omega)) ?_
            refine ev_goto (tgt := 77) dX12_value_64 (by decide) ?_
            exact K_77 g hT _ (by rw [if_pos c_55])
        · refine ev_iload dX12_value_42 rfl ?_
          refine ev_iconst (v := 1) dX12_value_44 (by decide) ?_
          refine ev_icmp_ne (tgt := 84) dX12_value_45 (by decide) (fun c_45 => ?_) (fun c_45 => ?_)
          · refine ev_iload dX12_value_84 rfl ?_
            refine ev_bipush (v := 8) dX12_value_86 (by decide) ?_
            refine ev_icmp_ne (tgt := 134) dX12_value_88 (by decide) (fun c_88 => ?_) (fun c_88 => ?_)
            · obtain ⟨y0, x0, r0, rfl, rfl⟩ := sp_step_b (fun q => c_39 (hco.trans q)) (fun q => c_45 (hco.trans q)) (fun q => c_88 (hco.trans q)) hs
              refine ev_iinc (v := (nI (r0.length + 1))) dX12_value_134 rfl (sp_m1 r0.length) rfl ?_
              refine ev_aload_n dX12_value_137 rfl rfl ?_
              refine mo_geta hE hT dX12_value_138 fX12_102 (by decide) ?_
              refine ev_iload_n dX12_value_141 rfl rfl ?_
              refine ev_iconst (v := 1) dX12_value_142 (by decide) ?_
              refine ev_isub dX12_value_143 ?_
              refine ev_iload dX12_value_144 rfl ?_
              refine ev_aload_n dX12_value_146 rfl rfl ?_
              refine mo_geta hE hT dX12_value_147 fX12_102 (by decide) ?_
              refine ev_iload_n dX12_value_150 rfl rfl ?_
              refine ev_iconst (v := 1) dX12_value_151 (by decide) ?_
              refine ev_isub dX12_value_152 ?_
              refine mo_iald (q := r0.length) hE hT dX12_value_153 (by decide) (nI_pred r0.length) (show _ < 350 from (by simp only [List.length_cons] at hl; omega)) ?_
              refine ev_aload_n dX12_value_154 rfl rfl ?_
              refine mo_geta hE hT dX12_value_155 fX12_102 (by decide) ?_
              refine ev_iload_n dX12_value_158 rfl rfl ?_
              refine mo_iald (q := (r0.length + 1)) hE hT dX12_value_159 (by decide) rfl (show _ < 350 from (by simp only [List.length_cons] at hl; omega)) ?_
              refine ev_pS3 (d' := d - 1) dX12_value_160 rfl kX12_worked lX12_395 sX12_worked (Nat.le_of_ble_eq_true rfl) (by omega) (c_X12_worked) ?_
              refine mo_iast (q := r0.length) hE hT dX12_value_163 (by decide) (nI_pred r0.length) (show _ < 350 from (by simp only [List.length_cons] at hl; omega)) (fun g hT => ?_)
              refine ev_iinc (v := nI (k0 + (i + 1))) dX12_value_164 rfl (by exact nI_1 (k0 + i)) rfl ?_
              refine ev_goto (tgt := 18) dX12_value_167 (by decide) ?_
              refine ev_none 4 ?_
              have p1 : T.1 49 (r0.length + 1) = y0 := hp.1
              have p2 : T.1 49 r0.length = x0 := hp.2.1
              exact ih (i + 1) (by omega) (by omega) _ (sp_X12_worked (S.1 40 (k0 + i)) x0 y0 :: r0) (sp_eqP_up hq) ⟨by rw [mo_up_at, pk_us, p1, p2, hco], by rw [mo_up_at]; exact sp_pile_up hp.2.2 (Nat.le_refl _)⟩ (by simp only [List.length_cons] at hl ⊢; omega) hr g hT
            · obtain ⟨z0, y0, x0, r0, rfl, rfl⟩ := sp_step_8 (hco.symm.trans c_88) hs
              refine ev_iinc (v := (nI (r0.length + 1))) dX12_value_91 rfl (sp_m2 r0.length) rfl ?_
              refine ev_aload_n dX12_value_94 rfl rfl ?_
              refine mo_geta hE hT dX12_value_95 fX12_102 (by decide) ?_
              refine ev_iload_n dX12_value_98 rfl rfl ?_
              refine ev_iconst (v := 1) dX12_value_99 (by decide) ?_
              refine ev_isub dX12_value_100 ?_
              refine ev_aload_n dX12_value_101 rfl rfl ?_
              refine mo_geta hE hT dX12_value_102 fX12_102 (by decide) ?_
              refine ev_iload_n dX12_value_105 rfl rfl ?_
              refine ev_iconst (v := 1) dX12_value_106 (by decide) ?_
              refine ev_isub dX12_value_107 ?_
              refine mo_iald (q := r0.length) hE hT dX12_value_108 (by decide) (nI_pred r0.length) (show _ < 350 from (by simp only [List.length_cons] at hl; omega)) ?_
              refine ev_iconst (v := 1) dX12_value_109 (by decide) ?_
              have K_130 : ∀ (g : ev_H) (hT : mo_T G W g0 g T), ∀ x9 : Int32, x9 = (if (T.1 49 r0.length) = 1 then (T.1 49 (r0.length + 1)) else (T.1 49 (r0.length + 2))) → ev_V G d 0 0 mX12_value (fun o g' => ∃ r S2, o = .inl r ∧ (r = some (.int x) ∧ sp_eqP S2 S) ∧ mo_T G W g0 g' S2) g 130 [some (.ref W.1), some (.int x1), some (.int (nI (r0.length + 1))), some (.int (nI (k0 + i))), some (.int (T.1 40 (k0 + i)))] (.int x9 :: .int ((nI (r0.length + 1)) - 1) :: .ref (W.2 49) :: []) := by
                intro g hT x9 h9
                subst h9
                refine mo_iast (q := r0.length) hE hT dX12_value_130 (by decide) (nI_pred r0.length) (show _ < 350 from (by simp only [List.length_cons] at hl; omega)) (fun g hT => ?_)
                refine ev_goto (tgt := 164) dX12_value_131 (by decide) ?_
                refine ev_iinc (v := nI (k0 + (i + 1))) dX12_value_164 rfl (by exact nI_1 (k0 + i)) rfl ?_
                refine ev_goto (tgt := 18) dX12_value_167 (by decide) ?_
                refine ev_none 4 ?_
                have p1 : T.1 49 (r0.length + 2) = z0 := hp.1
                have p2 : T.1 49 (r0.length + 1) = y0 := hp.2.1
                have p3 : T.1 49 r0.length = x0 := hp.2.2.1
                exact ih (i + 1) (by omega) (by omega) _ ((if x0 = 1 then y0 else z0) :: r0) (sp_eqP_up hq) ⟨by rw [mo_up_at, pk_us, p1, p2, p3], by rw [mo_up_at]; exact sp_pile_up hp.2.2.2 (Nat.le_refl _)⟩ (by simp only [List.length_cons] at hl ⊢; omega) hr g hT
              refine ev_icmp_ne (tgt := 122) dX12_value_110 (by decide) (fun c_110 => ?_) (fun c_110 => ?_)
              · refine ev_aload_n dX12_value_122 rfl rfl ?_
                refine mo_geta hE hT dX12_value_123 fX12_102 (by decide) ?_
                refine ev_iload_n dX12_value_126 rfl rfl ?_
                refine ev_iconst (v := 1) dX12_value_127 (by decide) ?_
                refine ev_iadd dX12_value_128 ?_
                refine mo_iald (q := (r0.length + 2)) hE hT dX12_value_129 (by decide) (nI_1 _) (show _ < 350 from (by simp only [List.length_cons] at hl; omega)) ?_
                exact K_130 g hT _ (by rw [if_neg c_110])
              · refine ev_aload_n dX12_value_113 rfl rfl ?_
                refine mo_geta hE hT dX12_value_114 fX12_102 (by decide) ?_
                refine ev_iload_n dX12_value_117 rfl rfl ?_
                refine mo_iald (q := (r0.length + 1)) hE hT dX12_value_118 (by decide) rfl (show _ < 350 from (by simp only [List.length_cons] at hl; omega)) ?_
                refine ev_goto (tgt := 130) dX12_value_119 (by decide) ?_
                exact K_130 g hT _ (by rw [if_pos c_110])
          · refine ev_aload_n dX12_value_48 rfl rfl ?_
            refine mo_geta hE hT dX12_value_49 fX12_102 (by decide) ?_
            refine ev_iload_n dX12_value_52 rfl rfl ?_
            refine ev_iload dX12_value_53 rfl ?_
            have K_77 : ∀ (g : ev_H) (hT : mo_T G W g0 g T), ∀ x9 : Int32, x9 = (if (T.1 40 (k0 + i)) = 0 then (T.1 41 (k0 + i)) else (sp_X12_named T (T.1 41 (k0 + i)))) → ev_V G d 0 0 mX12_value (fun o g' => ∃ r S2, o = .inl r ∧ (r = some (.int x) ∧ sp_eqP S2 S) ∧ mo_T G W g0 g' S2) g 77 [some (.ref W.1), some (.int x1), some (.int (nI st.length)), some (.int (nI (k0 + i))), some (.int (T.1 40 (k0 + i)))] (.int x9 :: .int (nI st.length) :: .ref (W.2 49) :: []) := by
              intro g hT x9 h9
              subst h9
              refine mo_iast (q := st.length) hE hT dX12_value_77 (by decide) rfl (show _ < 350 from (by omega)) (fun g hT => ?_)
              refine ev_iinc (v := (nI (st.length + 1))) dX12_value_78 rfl (by exact nI_1 st.length) rfl ?_
              refine ev_goto (tgt := 164) dX12_value_81 (by decide) ?_
              refine ev_iinc (v := nI (k0 + (i + 1))) dX12_value_164 rfl (by exact nI_1 (k0 + i)) rfl ?_
              refine ev_goto (tgt := 18) dX12_value_167 (by decide) ?_
              refine ev_none 4 ?_
              have e9 := sp_step_1 (hco.symm.trans c_45) hs
              subst e9
              exact ih (i + 1) (by omega) (by omega) _ (sp_X12_named S (S.1 41 (k0 + i)) :: st) (sp_eqP_up hq) ⟨by rw [mo_up_at, pk_us, if_neg c_39, sp_named_eq hq, hcn], by rw [mo_up_at]; exact sp_pile_up hp (Nat.le_refl _)⟩ (by simp only [List.length_cons]; omega) hr g hT
            refine ev_if_ne (tgt := 67) dX12_value_55 (by decide) (fun c_55 => ?_) (fun c_55 => ?_)
            · refine ev_aload_n dX12_value_67 rfl rfl ?_
              refine ev_aload_n dX12_value_68 rfl rfl ?_
              refine mo_geta hE hT dX12_value_69 fX12_99 (by decide) ?_
              refine ev_iload_n dX12_value_72 rfl rfl ?_
              refine mo_iald (q := (k0 + i)) hE hT dX12_value_73 (by decide) rfl (show _ < 3500 from (by omega)) ?_
              refine mo_call1 (d' := d - 1) hE hT dX12_value_74 rfl rfl kX12_named lX12_392 iX12_named vX12_named (Nat.le_of_ble_eq_true rfl) (by omega) (c_X12_named hE) (fun g hT => ?_)
              exact K_77 g hT _ (by rw [if_neg c_55])
            · refine ev_aload_n dX12_value_58 rfl rfl ?_
              refine mo_geta hE hT dX12_value_59 fX12_99 (by decide) ?_
              refine ev_iload_n dX12_value_62 rfl rfl ?_
              refine mo_iald (q := (k0 + i)) hE hT dX12_value_63 (by decide) rfl (show _ < 3500 from (by omega)) ?_
              refine ev_goto (tgt := 77) dX12_value_64 (by decide) ?_
              exact K_77 g hT _ (by rw [if_pos c_55])
  exact loop (len + 1) 0 (by omega) (by omega) S [] ⟨fun _ _ => rfl, rfl⟩ trivial (Nat.le_refl 0) hrun g hT
end M5
