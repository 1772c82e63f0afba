section RK
theorem ps_sg_pos {t : Nat → Nat} {n p c : Nat} {f : Nat → ps_R} (h : p < n ∧ t p = c) : ps_sg t n p c f = f (ps_skn t n (p + 1)) := if_pos h
theorem ps_sg_neg {t : Nat → Nat} {n p c : Nat} {f : Nat → ps_R} (h : ¬ (p < n ∧ t p = c)) : ps_sg t n p c f = .inl (1, p) := if_neg h
/-- two in brackets, what joins them not yet -/
def rd_two (t : Nat → Nat) (n : Nat) (inner : Option (Nat → ps_R)) (p : Nat) : ps_R := ps_op t n inner p fun s q => ps_bind (s q) fun h L C F => ps_sg t n h 44 fun h2 => ps_bind (s h2) fun h3 L2 C2 F2 => ps_sg t n h3 41 fun h4 => .inr (h4, [], C ++ C2, fun _ => 0)
theorem rd_two_pos {t : Nat → Nat} {n p : Nat} {s : Nat → ps_R} (h : p < n ∧ t p = 40) : rd_two t n (some s) p = ps_bind (s (ps_skn t n (p + 1))) fun h L C F => ps_sg t n h 44 fun h2 => ps_bind (s h2) fun h3 L2 C2 F2 => ps_sg t n h3 41 fun h4 => .inr (h4, [], C ++ C2, fun _ => 0) := if_pos h
theorem rd_two_no {t : Nat → Nat} {n p : Nat} (h : p < n ∧ t p = 40) : rd_two t n none p = .inl (3, p) := if_pos h
theorem rd_two_neg {t : Nat → Nat} {n p : Nat} {i : Option (Nat → ps_R)} (h : ¬ (p < n ∧ t p = 40)) : rd_two t n i p = .inl (1, p) := if_neg h
theorem ps_if_pos {t : Nat → Nat} {n p : Nat} {s : Nat → ps_R} (h : p < n ∧ t p = 40) : ps_if t n (some s) p = ps_bind (s (ps_skn t n (p + 1))) fun h L C F => match ps_rel (ps_bt t n h) with
  | none => .inl (1, h)
  | some (m, cc) => ps_bind (s (ps_skn t n (h + 1))) fun h3 L2 C2 F2 => ps_sg t n h3 44 fun h4 => ps_bind (s h4) fun h5 L3 C3 F3 => ps_sg t n h5 44 fun h6 => ps_bind (s h6) fun h7 L4 C4 F4 => ps_sg t n h7 41 fun h8 =>
    .inr (h8, L ++ L2 ++ [(m, 0)] ++ L3 ++ L4 ++ [(8, 0)], C ++ C2 ++ C3 ++ C4 ++ [cc], fun v => if sp_X12_worked m (F v) (F2 v) = 1 then F3 v else F4 v) := if_pos h
theorem ps_if_no {t : Nat → Nat} {n p : Nat} (h : p < n ∧ t p = 40) : ps_if t n none p = .inl (3, p) := if_pos h
theorem ps_if_neg {t : Nat → Nat} {n p : Nat} {i : Option (Nat → ps_R)} (h : ¬ (p < n ∧ t p = 40)) : ps_if t n i p = .inl (1, p) := if_neg h
theorem c_X7_readTwo {G : ev_G} {W : cw_W} {d D0 op : Nat} {inn : (Nat → Nat) → Nat → Option (Nat → ps_R)} (hE : ev_En G) (h4 : ev_En4 G D0) (hd : 7 ≤ d) (hI : rd_In G W (d - 1) op inn) : rd_CM G W d mX7_readTwo op (fun t n p => rd_two t n (inn t n) p) := by
  intro C t n p c hP
  refine cw_startR (lv0 := [some (.ref (W 4 0)), some (.int (nI op))]) (by decide +kernel) rfl (Nat.le_of_ble_eq_true rfl) rfl ?_
  intro K g0 g hT
  obtain ⟨hop, hI8, hI⟩ := hI
  have hpn := hP.1.le
  have hcp := hP.2.2
  show ev_V G d 0 0 mX7_readTwo (rd_pst G W K g0 C t n p c (rd_two t n (inn t n) p)) g 0 _ _
  generalize eR : rd_two t n (inn t n) p = R
  have eR := eR.symm
  have F4 : ∀ (T : mo_S) (g : ev_H) (e : Nat × Nat) (x9 : Int32), R = .inl e → rd_Q C t n p c (.inl e) T → cw_T G K g0 W g T → ev_V G d 0 0 mX7_readTwo (rd_pst G W K g0 C t n p c R) g 34 [some (.ref (W 4 0)), some (.int (nI op))] [] := fun T g e x9 hR q hT => ev_vret dX7_readTwo_34 rfl ⟨W, T, ⟨rfl, rfl, by rw [hR]; exact q⟩, hT⟩
  have F3 : ∀ (T : mo_S) (g : ev_H) (e : Nat × Nat) (x9 : Int32), R = .inl e → rd_Q C t n p c (.inl e) T → cw_T G K g0 W g T → ev_V G d 0 0 mX7_readTwo (rd_pst G W K g0 C t n p c R) g 28 [some (.ref (W 4 0)), some (.int (nI op))] [] := by
    intro T g e x9 hR q hT
    obtain ⟨f, pl⟩ := e
    refine ev_aload_n dX7_readTwo_28 rfl rfl ?_
    refine ev_bipush (v := 41) dX7_readTwo_29 (by decide) ?_
    refine cw_call1 (d' := d - 1) hE hT dX7_readTwo_31 rfl kX7_take lX7_55 iX7_take vX7_take (k := 4) (i := 0) rfl ob4 rfl (Nat.le_of_ble_eq_true rfl) (by omega) (c_X7_take_F hE (by omega) q.1 (by decide)) (fun g hT => ?_)
    exact F4 T g _ x9 hR q hT
  have F2 : ∀ (T : mo_S) (g : ev_H) (e : Nat × Nat) (x9 : Int32), R = .inl e → rd_Q C t n p c (.inl e) T → cw_T G K g0 W g T → ev_V G d 0 0 mX7_readTwo (rd_pst G W K g0 C t n p c R) g 21 [some (.ref (W 4 0)), some (.int (nI op))] [] := by
    intro T g e x9 hR q hT
    obtain ⟨f, pl⟩ := e
    refine ev_aload_n dX7_readTwo_21 rfl rfl ?_
    refine ev_iload_n dX7_readTwo_22 rfl rfl ?_
    refine ev_iconst (v := 1) dX7_readTwo_23 (by decide) ?_
    refine ev_iadd dX7_readTwo_24 ?_
    refine cw_call1 (d' := d - 1) hE hT dX7_readTwo_25 rfl kX7_readSum lX7_102 iX7_readSum vX7_readSum (k := 4) (i := 0) rfl ob4 rfl (Nat.le_of_ble_eq_true rfl) (by omega) (c_X7_readSum_F hE h4 (by omega) q.1) (fun g hT => ?_)
    exact F3 T g _ x9 hR q hT
  have F1 : ∀ (T : mo_S) (g : ev_H) (e : Nat × Nat) (x9 : Int32), R = .inl e → rd_Q C t n p c (.inl e) T → cw_T G K g0 W g T → ev_V G d 0 0 mX7_readTwo (rd_pst G W K g0 C t n p c R) g 15 [some (.ref (W 4 0)), some (.int (nI op))] [] := by
    intro T g e x9 hR q hT
    obtain ⟨f, pl⟩ := e
    refine ev_aload_n dX7_readTwo_15 rfl rfl ?_
    refine ev_bipush (v := 44) dX7_readTwo_16 (by decide) ?_
    refine cw_call1 (d' := d - 1) hE hT dX7_readTwo_18 rfl kX7_take lX7_55 iX7_take vX7_take (k := 4) (i := 0) rfl ob4 rfl (Nat.le_of_ble_eq_true rfl) (by omega) (c_X7_take_F hE (by omega) q.1 (by decide)) (fun g hT => ?_)
    exact F2 T g _ x9 hR q hT
  refine ev_aload_n dX7_readTwo_0 rfl rfl ?_
  refine ev_iload_n dX7_readTwo_1 rfl rfl ?_
  refine cw_callr1 (d' := d - 1) (b := 0) (n0 := 0) hE hT dX7_readTwo_2 rfl kX7_openBracket lX7_188 iX7_openBracket vX7_openBracket (k := 4) (i := 0) rfl ob4 rfl (Nat.le_of_ble_eq_true rfl) (by omega) (c_X7_openBracket (d := d - 1) hE (by omega) hP.1 hop) (Nat.le_refl _) (Nat.le_refl _) (fun v9 W9 T g q9 hT => ?_) (fun E W2 C2 g q9 _ => by
    obtain ⟨_, q9⟩ := q9
    split at q9
    · split at q9 <;> cases q9.1
    · cases q9.1)
  obtain ⟨e8, q9⟩ := q9
  have e7 := e8.symm
  subst e7
  by_cases hq : p < n ∧ t p = 40
  · rw [if_pos hq] at q9
    by_cases ho8 : op < 8
    · rw [if_pos ho8] at q9
      obtain ⟨e9, hx, hG⟩ := q9
      cases e9
      obtain ⟨s, hs, hCM⟩ := hI ho8
      refine ev_if_eq (tgt := 34) dX7_readTwo_5 (by decide) (fun c => absurd c (by decide)) (fun _ => ?_)
      have hsk := ps_skn_in (t := t) (n := n) (h := p + 1) (by omega)
      have q0 : rd_Q C t n p c (.inr (ps_skn t n (p + 1), [], [], fun _ => 0)) T := (hP.Q (F := fun _ => 0)).sg hx hG (by omega)
      rw [hs t n] at eR
      rw [rd_two_pos hq] at eR
      refine ev_aload_n dX7_readTwo_8 rfl rfl ?_
      refine ev_iload_n dX7_readTwo_9 rfl rfl ?_
      refine ev_iconst (v := 1) dX7_readTwo_10 (by decide) ?_
      refine ev_iadd dX7_readTwo_11 ?_
      rw [nI_1]
      refine cw_callr1 (d' := d - 1) (b := 0) (n0 := 0) hE hT dX7_readTwo_12 rfl kX7_readSum lX7_102 iX7_readSum vX7_readSum (k := 4) (i := 0) rfl ob4 rfl (Nat.le_of_ble_eq_true rfl) (by omega) (hCM T t n (ps_skn t n (p + 1)) (c + ([] : List Int32).length) (q0.P hP.2.2)) (Nat.le_refl _) (Nat.le_refl _) (fun v9 W9 T1 g q9 hT => ?_) (fun E W2 C2 g q9 _ => by obtain ⟨_, h9, _⟩ := q9; cases h9)
      obtain ⟨e8, e9, r0⟩ := q9
      have e7 := e8.symm
      subst e7
      cases e9
      cases hr0 : s t n (ps_skn t n (p + 1)) with
      | inl e =>
        rw [hr0] at r0 eR
        exact F1 T1 g e 0 eR (q0.lt r0) hT
      | inr w =>
        obtain ⟨h0, L0, C0, V0⟩ := w
        rw [hr0] at r0 eR
        simp only [ps_bind] at eR
        have q1 : rd_Q C t n p c (.inr (h0, [], [] ++ C0, fun _ => 0)) T1 := q0.app r0
        have b1 := q1.2.2.2.1
        have l1 := q1.1.le
        refine ev_aload_n dX7_readTwo_15 rfl rfl ?_
        refine ev_bipush (v := nI 44) dX7_readTwo_16 (by decide) ?_
        refine cw_callr1 (d' := d - 1) (b := 0) (n0 := 0) hE hT dX7_readTwo_18 rfl kX7_take lX7_55 iX7_take vX7_take (k := 4) (i := 0) rfl ob4 rfl (Nat.le_of_ble_eq_true rfl) (by omega) (c_X7_take (d := d - 1) (c := 44) hE (by omega) q1.1 (by decide) (by decide) (by decide)) (Nat.le_refl _) (Nat.le_refl _) (fun v9 W9 T2 g q9 hT => ?_) (fun E W2 C2 g q9 _ => by obtain ⟨_, h9, _⟩ := q9; cases h9)
        obtain ⟨e8, e9, k1⟩ := q9
        have e7 := e8.symm
        subst e7
        cases e9
        by_cases z1 : h0 < n ∧ t h0 = 44
        · rw [if_pos z1] at k1
          rw [ps_sg_pos z1] at eR
          have s1 := ps_skn_in (t := t) (n := n) (h := h0 + 1) (by omega)
          have q2 := q1.sg k1.1 k1.2 (by omega)
          refine ev_aload_n dX7_readTwo_21 rfl rfl ?_
          refine ev_iload_n dX7_readTwo_22 rfl rfl ?_
          refine ev_iconst (v := 1) dX7_readTwo_23 (by decide) ?_
          refine ev_iadd dX7_readTwo_24 ?_
          rw [nI_1]
          refine cw_callr1 (d' := d - 1) (b := 0) (n0 := 0) hE hT dX7_readTwo_25 rfl kX7_readSum lX7_102 iX7_readSum vX7_readSum (k := 4) (i := 0) rfl ob4 rfl (Nat.le_of_ble_eq_true rfl) (by omega) (hCM T2 t n (ps_skn t n (h0 + 1)) (c + (([] ++ C0) : List Int32).length) (q2.P hP.2.2)) (Nat.le_refl _) (Nat.le_refl _) (fun v9 W9 T3 g q9 hT => ?_) (fun E W2 C2 g q9 _ => by obtain ⟨_, h9, _⟩ := q9; cases h9)
          obtain ⟨e8, e9, r2⟩ := q9
          have e7 := e8.symm
          subst e7
          cases e9
          cases hr2 : s t n (ps_skn t n (h0 + 1)) with
          | inl e =>
            rw [hr2] at r2 eR
            exact F3 T3 g e 0 eR (q2.lt r2) hT
          | inr w =>
            obtain ⟨h2, L2, C2, V2⟩ := w
            rw [hr2] at r2 eR
            simp only [ps_bind] at eR
            have q3 : rd_Q C t n p c (.inr (h2, [], ([] ++ C0) ++ C2, fun _ => 0)) T3 := q2.app r2
            have b3 := q3.2.2.2.1
            have l3 := q3.1.le
            refine ev_aload_n dX7_readTwo_28 rfl rfl ?_
            refine ev_bipush (v := nI 41) dX7_readTwo_29 (by decide) ?_
            refine cw_callr1 (d' := d - 1) (b := 0) (n0 := 0) hE hT dX7_readTwo_31 rfl kX7_take lX7_55 iX7_take vX7_take (k := 4) (i := 0) rfl ob4 rfl (Nat.le_of_ble_eq_true rfl) (by omega) (c_X7_take (d := d - 1) (c := 41) hE (by omega) q3.1 (by decide) (by decide) (by decide)) (Nat.le_refl _) (Nat.le_refl _) (fun v9 W9 T4 g q9 hT => ?_) (fun E W2 C2 g q9 _ => by obtain ⟨_, h9, _⟩ := q9; cases h9)
            obtain ⟨e8, e9, k3⟩ := q9
            have e7 := e8.symm
            subst e7
            cases e9
            by_cases z3 : h2 < n ∧ t h2 = 41
            · rw [if_pos z3] at k3
              rw [ps_sg_pos z3] at eR
              have s3 := ps_skn_in (t := t) (n := n) (h := h2 + 1) (by omega)
              have q4 := q3.sg k3.1 k3.2 (by omega)
              exact ev_vret dX7_readTwo_34 rfl ⟨W, _, ⟨rfl, rfl, by rw [eR]; exact q4⟩, hT⟩
            · rw [if_neg z3] at k3
              rw [ps_sg_neg z3] at eR
              exact F4 T4 g (1, h2) 0 eR (q3.ft hP.2.2 k3.1 k3.2) hT
        · rw [if_neg z1] at k1
          rw [ps_sg_neg z1] at eR
          exact F2 T2 g (1, h0) 0 eR (q1.ft hP.2.2 k1.1 k1.2) hT
    · rw [if_neg ho8] at q9
      obtain ⟨e9, hx, hF⟩ := q9
      cases e9
      refine ev_if_eq (tgt := 34) dX7_readTwo_5 (by decide) (fun _ => ?_) (fun c => absurd rfl c)
      rw [hI8 (by omega) t n, rd_two_no hq] at eR
      exact ev_vret dX7_readTwo_34 rfl ⟨W, T, ⟨rfl, rfl, by rw [eR]; exact (hP.Q (L := []) (F := fun _ => 0)).ft hP.2.2 hx hF⟩, hT⟩
  · rw [if_neg hq] at q9
    obtain ⟨e9, hx, hF⟩ := q9
    cases e9
    refine ev_if_eq (tgt := 34) dX7_readTwo_5 (by decide) (fun _ => ?_) (fun c => absurd rfl c)
    rw [rd_two_neg hq] at eR
    exact ev_vret dX7_readTwo_34 rfl ⟨W, T, ⟨rfl, rfl, by rw [eR]; exact (hP.Q (L := []) (F := fun _ => 0)).ft hP.2.2 hx hF⟩, hT⟩
theorem c_X7_readIf {G : ev_G} {W : cw_W} {d D0 op : Nat} {inn : (Nat → Nat) → Nat → Option (Nat → ps_R)} (hE : ev_En G) (h4 : ev_En4 G D0) (hd : 7 ≤ d) (hI : rd_In G W (d - 1) op inn) : rd_CM G W d mX7_readIf op (fun t n p => ps_if t n (inn t n) p) := by
  intro C t n p c hP
  refine cw_startR (lv0 := [some (.ref (W 4 0)), some (.int (nI op)), none]) (by decide +kernel) rfl (Nat.le_of_ble_eq_true rfl) rfl ?_
  intro K g0 g hT
  obtain ⟨hop, hI8, hI⟩ := hI
  have hpn := hP.1.le
  have hcp := hP.2.2
  show ev_V G d 0 0 mX7_readIf (rd_pst G W K g0 C t n p c (ps_if t n (inn t n) p)) g 0 _ _
  generalize eR : ps_if t n (inn t n) p = R
  have eR := eR.symm
  have F9 : ∀ (T : mo_S) (g : ev_H) (e : Nat × Nat) (x9 : Int32), R = .inl e → rd_Q C t n p c (.inl e) T → cw_T G K g0 W g T → ev_V G d 0 0 mX7_readIf (rd_pst G W K g0 C t n p c R) g 64 [some (.ref (W 4 0)), some (.int (nI op)), some (.int x9)] [] := fun T g e x9 hR q hT => ev_vret dX7_readIf_64 rfl ⟨W, T, ⟨rfl, rfl, by rw [hR]; exact q⟩, hT⟩
  have F8 : ∀ (T : mo_S) (g : ev_H) (e : Nat × Nat) (x9 : Int32), R = .inl e → rd_Q C t n p c (.inl e) T → cw_T G K g0 W g T → ev_V G d 0 0 mX7_readIf (rd_pst G W K g0 C t n p c R) g 59 [some (.ref (W 4 0)), some (.int (nI op)), some (.int x9)] [] := by
    intro T g e x9 hR q hT
    obtain ⟨f, pl⟩ := e
    obtain ⟨c2, hc2, h300⟩ := q.2.1
    refine ev_aload_n dX7_readIf_59 rfl rfl ?_
    refine ev_iload_n dX7_readIf_60 rfl rfl ?_
    refine cw_call1 (d' := d - 1) hE hT dX7_readIf_61 rfl kX7_emit lX7_168 iX7_emit vX7_emit (k := 4) (i := 0) rfl ob4 rfl (Nat.le_of_ble_eq_true rfl) (by omega) (c_X7_emit hE hc2 (by omega)) (fun g hT => ?_)
    exact F9 _ g _ x9 hR (q.emF hc2 h300) hT
  have F7 : ∀ (T : mo_S) (g : ev_H) (e : Nat × Nat) (x9 : Int32), R = .inl e → rd_Q C t n p c (.inl e) T → cw_T G K g0 W g T → ev_V G d 0 0 mX7_readIf (rd_pst G W K g0 C t n p c R) g 53 [some (.ref (W 4 0)), some (.int (nI op)), some (.int x9)] [] := by
    intro T g e x9 hR q hT
    obtain ⟨f, pl⟩ := e
    refine ev_aload_n dX7_readIf_53 rfl rfl ?_
    refine ev_bipush (v := 41) dX7_readIf_54 (by decide) ?_
    refine cw_call1 (d' := d - 1) hE hT dX7_readIf_56 rfl kX7_take lX7_55 iX7_take vX7_take (k := 4) (i := 0) rfl ob4 rfl (Nat.le_of_ble_eq_true rfl) (by omega) (c_X7_take_F hE (by omega) q.1 (by decide)) (fun g hT => ?_)
    exact F8 T g _ x9 hR q hT
  have F6 : ∀ (T : mo_S) (g : ev_H) (e : Nat × Nat) (x9 : Int32), R = .inl e → rd_Q C t n p c (.inl e) T → cw_T G K g0 W g T → ev_V G d 0 0 mX7_readIf (rd_pst G W K g0 C t n p c R) g 46 [some (.ref (W 4 0)), some (.int (nI op)), some (.int x9)] [] := by
    intro T g e x9 hR q hT
    obtain ⟨f, pl⟩ := e
    refine ev_aload_n dX7_readIf_46 rfl rfl ?_
    refine ev_iload_n dX7_readIf_47 rfl rfl ?_
    refine ev_iconst (v := 1) dX7_readIf_48 (by decide) ?_
    refine ev_iadd dX7_readIf_49 ?_
    refine cw_call1 (d' := d - 1) hE hT dX7_readIf_50 rfl kX7_readSum lX7_102 iX7_readSum vX7_readSum (k := 4) (i := 0) rfl ob4 rfl (Nat.le_of_ble_eq_true rfl) (by omega) (c_X7_readSum_F hE h4 (by omega) q.1) (fun g hT => ?_)
    exact F7 T g _ x9 hR q hT
  have F5 : ∀ (T : mo_S) (g : ev_H) (e : Nat × Nat) (x9 : Int32), R = .inl e → rd_Q C t n p c (.inl e) T → cw_T G K g0 W g T → ev_V G d 0 0 mX7_readIf (rd_pst G W K g0 C t n p c R) g 40 [some (.ref (W 4 0)), some (.int (nI op)), some (.int x9)] [] := by
    intro T g e x9 hR q hT
    obtain ⟨f, pl⟩ := e
    refine ev_aload_n dX7_readIf_40 rfl rfl ?_
    refine ev_bipush (v := 44) dX7_readIf_41 (by decide) ?_
    refine cw_call1 (d' := d - 1) hE hT dX7_readIf_43 rfl kX7_take lX7_55 iX7_take vX7_take (k := 4) (i := 0) rfl ob4 rfl (Nat.le_of_ble_eq_true rfl) (by omega) (c_X7_take_F hE (by omega) q.1 (by decide)) (fun g hT => ?_)
    exact F6 T g _ x9 hR q hT
  have F4 : ∀ (T : mo_S) (g : ev_H) (e : Nat × Nat) (x9 : Int32), R = .inl e → rd_Q C t n p c (.inl e) T → cw_T G K g0 W g T → ev_V G d 0 0 mX7_readIf (rd_pst G W K g0 C t n p c R) g 33 [some (.ref (W 4 0)), some (.int (nI op)), some (.int x9)] [] := by
    intro T g e x9 hR q hT
    obtain ⟨f, pl⟩ := e
    refine ev_aload_n dX7_readIf_33 rfl rfl ?_
    refine ev_iload_n dX7_readIf_34 rfl rfl ?_
    refine ev_iconst (v := 1) dX7_readIf_35 (by decide) ?_
    refine ev_iadd dX7_readIf_36 ?_
    refine cw_call1 (d' := d - 1) hE hT dX7_readIf_37 rfl kX7_readSum lX7_102 iX7_readSum vX7_readSum (k := 4) (i := 0) rfl ob4 rfl (Nat.le_of_ble_eq_true rfl) (by omega) (c_X7_readSum_F hE h4 (by omega) q.1) (fun g hT => ?_)
    exact F5 T g _ x9 hR q hT
  have F3 : ∀ (T : mo_S) (g : ev_H) (e : Nat × Nat) (x9 : Int32), R = .inl e → rd_Q C t n p c (.inl e) T → cw_T G K g0 W g T → ev_V G d 0 0 mX7_readIf (rd_pst G W K g0 C t n p c R) g 27 [some (.ref (W 4 0)), some (.int (nI op)), some (.int x9)] [] := by
    intro T g e x9 hR q hT
    obtain ⟨f, pl⟩ := e
    refine ev_aload_n dX7_readIf_27 rfl rfl ?_
    refine ev_bipush (v := 44) dX7_readIf_28 (by decide) ?_
    refine cw_call1 (d' := d - 1) hE hT dX7_readIf_30 rfl kX7_take lX7_55 iX7_take vX7_take (k := 4) (i := 0) rfl ob4 rfl (Nat.le_of_ble_eq_true rfl) (by omega) (c_X7_take_F hE (by omega) q.1 (by decide)) (fun g hT => ?_)
    exact F4 T g _ x9 hR q hT
  have F2 : ∀ (T : mo_S) (g : ev_H) (e : Nat × Nat) (x9 : Int32), R = .inl e → rd_Q C t n p c (.inl e) T → cw_T G K g0 W g T → ev_V G d 0 0 mX7_readIf (rd_pst G W K g0 C t n p c R) g 20 [some (.ref (W 4 0)), some (.int (nI op)), some (.int x9)] [] := by
    intro T g e x9 hR q hT
    obtain ⟨f, pl⟩ := e
    refine ev_aload_n dX7_readIf_20 rfl rfl ?_
    refine ev_iload_n dX7_readIf_21 rfl rfl ?_
    refine ev_iconst (v := 1) dX7_readIf_22 (by decide) ?_
    refine ev_iadd dX7_readIf_23 ?_
    refine cw_call1 (d' := d - 1) hE hT dX7_readIf_24 rfl kX7_readSum lX7_102 iX7_readSum vX7_readSum (k := 4) (i := 0) rfl ob4 rfl (Nat.le_of_ble_eq_true rfl) (by omega) (c_X7_readSum_F hE h4 (by omega) q.1) (fun g hT => ?_)
    exact F3 T g _ x9 hR q hT
  have F1 : ∀ (T : mo_S) (g : ev_H) (e : Nat × Nat) (x9 : Int32), R = .inl e → rd_Q C t n p c (.inl e) T → cw_T G K g0 W g T → ev_V G d 0 0 mX7_readIf (rd_pst G W K g0 C t n p c R) g 15 [some (.ref (W 4 0)), some (.int (nI op)), none] [] := by
    intro T g e x9 hR q hT
    obtain ⟨f, pl⟩ := e
    refine ev_aload_n dX7_readIf_15 rfl rfl ?_
    refine cw_call0 (d' := d - 1) hE hT dX7_readIf_16 rfl kX7_takeRelation lX7_191 iX7_takeRelation vX7_takeRelation (k := 4) (i := 0) rfl ob4 rfl (Nat.le_of_ble_eq_true rfl) (by omega) (c_X7_takeRelation_F hE (by omega) q.1) (fun g hT => ?_)
    refine ev_istore_n dX7_readIf_19 rfl (Nat.le_of_ble_eq_true rfl) rfl ?_
    exact F2 T g _ _ hR q hT
  refine ev_aload_n dX7_readIf_0 rfl rfl ?_
  refine ev_iload_n dX7_readIf_1 rfl rfl ?_
  refine cw_callr1 (d' := d - 1) (b := 0) (n0 := 0) hE hT dX7_readIf_2 rfl kX7_openBracket lX7_188 iX7_openBracket vX7_openBracket (k := 4) (i := 0) rfl ob4 rfl (Nat.le_of_ble_eq_true rfl) (by omega) (c_X7_openBracket (d := d - 1) hE (by omega) hP.1 hop) (Nat.le_refl _) (Nat.le_refl _) (fun v9 W9 T g q9 hT => ?_) (fun E W2 C2 g q9 _ => by
    obtain ⟨_, q9⟩ := q9
    split at q9
    · split at q9 <;> cases q9.1
    · cases q9.1)
  obtain ⟨e8, q9⟩ := q9
  have e7 := e8.symm
  subst e7
  by_cases hq : p < n ∧ t p = 40
  · rw [if_pos hq] at q9
    by_cases ho8 : op < 8
    · rw [if_pos ho8] at q9
      obtain ⟨e9, hx, hG⟩ := q9
      cases e9
      obtain ⟨s, hs, hCM⟩ := hI ho8
      refine ev_if_eq (tgt := 64) dX7_readIf_5 (by decide) (fun c => absurd c (by decide)) (fun _ => ?_)
      have hsk := ps_skn_in (t := t) (n := n) (h := p + 1) (by omega)
      have q0 : rd_Q C t n p c (.inr (ps_skn t n (p + 1), [], [], fun _ => 0)) T := (hP.Q (F := fun _ => 0)).sg hx hG (by omega)
      rw [hs t n] at eR
      rw [ps_if_pos hq] at eR
      refine ev_aload_n dX7_readIf_8 rfl rfl ?_
      refine ev_iload_n dX7_readIf_9 rfl rfl ?_
      refine ev_iconst (v := 1) dX7_readIf_10 (by decide) ?_
      refine ev_iadd dX7_readIf_11 ?_
      rw [nI_1]
      refine cw_callr1 (d' := d - 1) (b := 0) (n0 := 0) hE hT dX7_readIf_12 rfl kX7_readSum lX7_102 iX7_readSum vX7_readSum (k := 4) (i := 0) rfl ob4 rfl (Nat.le_of_ble_eq_true rfl) (by omega) (hCM T t n (ps_skn t n (p + 1)) (c + ([] : List Int32).length) (q0.P hP.2.2)) (Nat.le_refl _) (Nat.le_refl _) (fun v9 W9 T1 g q9 hT => ?_) (fun E W2 C2 g q9 _ => by obtain ⟨_, h9, _⟩ := q9; cases h9)
      obtain ⟨e8, e9, r0⟩ := q9
      have e7 := e8.symm
      subst e7
      cases e9
      cases hr0 : s t n (ps_skn t n (p + 1)) with
      | inl e =>
        rw [hr0] at r0 eR
        exact F1 T1 g e 0 eR (q0.lt r0) hT
      | inr w =>
        obtain ⟨h0, L0, C0, V0⟩ := w
        rw [hr0] at r0 eR
        simp only [ps_bind] at eR
        have q1 : rd_Q C t n p c (.inr (h0, [], [] ++ C0, fun _ => 0)) T1 := q0.app r0
        have b1 := q1.2.2.2.1
        have l1 := q1.1.le
        refine ev_aload_n dX7_readIf_15 rfl rfl ?_
        refine cw_callr0 (d' := d - 1) (b := 0) (n0 := 0) hE hT dX7_readIf_16 rfl kX7_takeRelation lX7_191 iX7_takeRelation vX7_takeRelation (k := 4) (i := 0) rfl ob4 rfl (Nat.le_of_ble_eq_true rfl) (by omega) (c_X7_takeRelation (d := d - 1) hE (by omega) q1.1) (Nat.le_refl _) (Nat.le_refl _) (fun v9 W9 T2 g q9 hT => ?_) (fun E W2 C2 g q9 _ => by obtain ⟨_, ⟨_, h9⟩, _⟩ := q9; cases h9)
        obtain ⟨e8, ⟨x9, e9⟩, k1⟩ := q9
        have e7 := e8.symm
        subst e7
        cases e9
        refine ev_istore_n dX7_readIf_19 rfl (Nat.le_of_ble_eq_true rfl) rfl ?_
        cases hrl : ps_rel (ps_bt t n h0) with
        | none =>
          rw [hrl] at k1 eR
          exact F2 T2 g (1, h0) x9 eR (q1.ft hP.2.2 k1.1 k1.2) hT
        | some w =>
          obtain ⟨m9, cc⟩ := w
          rw [hrl] at k1 eR
          obtain ⟨e5, z1, kx, kG⟩ := k1
          cases e5
          have s1 := ps_skn_in (t := t) (n := n) (h := h0 + 1) (by omega)
          have q2 := q1.sg kx kG (by omega)
          simp only at eR
          refine ev_aload_n dX7_readIf_20 rfl rfl ?_
          refine ev_iload_n dX7_readIf_21 rfl rfl ?_
          refine ev_iconst (v := 1) dX7_readIf_22 (by decide) ?_
          refine ev_iadd dX7_readIf_23 ?_
          rw [nI_1]
          refine cw_callr1 (d' := d - 1) (b := 0) (n0 := 0) hE hT dX7_readIf_24 rfl kX7_readSum lX7_102 iX7_readSum vX7_readSum (k := 4) (i := 0) rfl ob4 rfl (Nat.le_of_ble_eq_true rfl) (by omega) (hCM T2 t n (ps_skn t n (h0 + 1)) (c + (([] ++ C0) : List Int32).length) (q2.P hP.2.2)) (Nat.le_refl _) (Nat.le_refl _) (fun v9 W9 T3 g q9 hT => ?_) (fun E W2 C2 g q9 _ => by obtain ⟨_, h9, _⟩ := q9; cases h9)
          obtain ⟨e8, e9, r2⟩ := q9
          have e7 := e8.symm
          subst e7
          cases e9
          cases hr2 : s t n (ps_skn t n (h0 + 1)) with
          | inl e =>
            rw [hr2] at r2 eR
            exact F3 T3 g e cc eR (q2.lt r2) hT
          | inr w =>
            obtain ⟨h2, L2, C2, V2⟩ := w
            rw [hr2] at r2 eR
            simp only [ps_bind] at eR
            have q3 : rd_Q C t n p c (.inr (h2, [], ([] ++ C0) ++ C2, fun _ => 0)) T3 := q2.app r2
            have b3 := q3.2.2.2.1
            have l3 := q3.1.le
            refine ev_aload_n dX7_readIf_27 rfl rfl ?_
            refine ev_bipush (v := nI 44) dX7_readIf_28 (by decide) ?_
            refine cw_callr1 (d' := d - 1) (b := 0) (n0 := 0) hE hT dX7_readIf_30 rfl kX7_take lX7_55 iX7_take vX7_take (k := 4) (i := 0) rfl ob4 rfl (Nat.le_of_ble_eq_true rfl) (by omega) (c_X7_take (d := d - 1) (c := 44) hE (by omega) q3.1 (by decide) (by decide) (by decide)) (Nat.le_refl _) (Nat.le_refl _) (fun v9 W9 T4 g q9 hT => ?_) (fun E W2 C2 g q9 _ => by obtain ⟨_, h9, _⟩ := q9; cases h9)
            obtain ⟨e8, e9, k3⟩ := q9
            have e7 := e8.symm
            subst e7
            cases e9
            by_cases z3 : h2 < n ∧ t h2 = 44
            · rw [if_pos z3] at k3
              rw [ps_sg_pos z3] at eR
              have s3 := ps_skn_in (t := t) (n := n) (h := h2 + 1) (by omega)
              have q4 := q3.sg k3.1 k3.2 (by omega)
              refine ev_aload_n dX7_readIf_33 rfl rfl ?_
              refine ev_iload_n dX7_readIf_34 rfl rfl ?_
              refine ev_iconst (v := 1) dX7_readIf_35 (by decide) ?_
              refine ev_iadd dX7_readIf_36 ?_
              rw [nI_1]
              refine cw_callr1 (d' := d - 1) (b := 0) (n0 := 0) hE hT dX7_readIf_37 rfl kX7_readSum lX7_102 iX7_readSum vX7_readSum (k := 4) (i := 0) rfl ob4 rfl (Nat.le_of_ble_eq_true rfl) (by omega) (hCM T4 t n (ps_skn t n (h2 + 1)) (c + ((([] ++ C0) ++ C2) : List Int32).length) (q4.P hP.2.2)) (Nat.le_refl _) (Nat.le_refl _) (fun v9 W9 T5 g q9 hT => ?_) (fun E W2 C2 g q9 _ => by obtain ⟨_, h9, _⟩ := q9; cases h9)
              obtain ⟨e8, e9, r4⟩ := q9
              have e7 := e8.symm
              subst e7
              cases e9
              cases hr4 : s t n (ps_skn t n (h2 + 1)) with
              | inl e =>
                rw [hr4] at r4 eR
                exact F5 T5 g e cc eR (q4.lt r4) hT
              | inr w =>
                obtain ⟨h4, L4, C4, V4⟩ := w
                rw [hr4] at r4 eR
                simp only [ps_bind] at eR
                have q5 : rd_Q C t n p c (.inr (h4, [], (([] ++ C0) ++ C2) ++ C4, fun _ => 0)) T5 := q4.app r4
                have b5 := q5.2.2.2.1
                have l5 := q5.1.le
                refine ev_aload_n dX7_readIf_40 rfl rfl ?_
                refine ev_bipush (v := nI 44) dX7_readIf_41 (by decide) ?_
                refine cw_callr1 (d' := d - 1) (b := 0) (n0 := 0) hE hT dX7_readIf_43 rfl kX7_take lX7_55 iX7_take vX7_take (k := 4) (i := 0) rfl ob4 rfl (Nat.le_of_ble_eq_true rfl) (by omega) (c_X7_take (d := d - 1) (c := 44) hE (by omega) q5.1 (by decide) (by decide) (by decide)) (Nat.le_refl _) (Nat.le_refl _) (fun v9 W9 T6 g q9 hT => ?_) (fun E W2 C2 g q9 _ => by obtain ⟨_, h9, _⟩ := q9; cases h9)
                obtain ⟨e8, e9, k5⟩ := q9
                have e7 := e8.symm
                subst e7
                cases e9
                by_cases z5 : h4 < n ∧ t h4 = 44
                · rw [if_pos z5] at k5
                  rw [ps_sg_pos z5] at eR
                  have s5 := ps_skn_in (t := t) (n := n) (h := h4 + 1) (by omega)
                  have q6 := q5.sg k5.1 k5.2 (by omega)
                  refine ev_aload_n dX7_readIf_46 rfl rfl ?_
                  refine ev_iload_n dX7_readIf_47 rfl rfl ?_
                  refine ev_iconst (v := 1) dX7_readIf_48 (by decide) ?_
                  refine ev_iadd dX7_readIf_49 ?_
                  rw [nI_1]
                  refine cw_callr1 (d' := d - 1) (b := 0) (n0 := 0) hE hT dX7_readIf_50 rfl kX7_readSum lX7_102 iX7_readSum vX7_readSum (k := 4) (i := 0) rfl ob4 rfl (Nat.le_of_ble_eq_true rfl) (by omega) (hCM T6 t n (ps_skn t n (h4 + 1)) (c + (((([] ++ C0) ++ C2) ++ C4) : List Int32).length) (q6.P hP.2.2)) (Nat.le_refl _) (Nat.le_refl _) (fun v9 W9 T7 g q9 hT => ?_) (fun E W2 C2 g q9 _ => by obtain ⟨_, h9, _⟩ := q9; cases h9)
                  obtain ⟨e8, e9, r6⟩ := q9
                  have e7 := e8.symm
                  subst e7
                  cases e9
                  cases hr6 : s t n (ps_skn t n (h4 + 1)) with
                  | inl e =>
                    rw [hr6] at r6 eR
                    exact F7 T7 g e cc eR (q6.lt r6) hT
                  | inr w =>
                    obtain ⟨h6, L6, C6, V6⟩ := w
                    rw [hr6] at r6 eR
                    simp only [ps_bind] at eR
                    have q7 : rd_Q C t n p c (.inr (h6, [], ((([] ++ C0) ++ C2) ++ C4) ++ C6, fun _ => 0)) T7 := q6.app r6
                    have b7 := q7.2.2.2.1
                    have l7 := q7.1.le
                    refine ev_aload_n dX7_readIf_53 rfl rfl ?_
                    refine ev_bipush (v := nI 41) dX7_readIf_54 (by decide) ?_
                    refine cw_callr1 (d' := d - 1) (b := 0) (n0 := 0) hE hT dX7_readIf_56 rfl kX7_take lX7_55 iX7_take vX7_take (k := 4) (i := 0) rfl ob4 rfl (Nat.le_of_ble_eq_true rfl) (by omega) (c_X7_take (d := d - 1) (c := 41) hE (by omega) q7.1 (by decide) (by decide) (by decide)) (Nat.le_refl _) (Nat.le_refl _) (fun v9 W9 T8 g q9 hT => ?_) (fun E W2 C2 g q9 _ => by obtain ⟨_, h9, _⟩ := q9; cases h9)
                    obtain ⟨e8, e9, k7⟩ := q9
                    have e7 := e8.symm
                    subst e7
                    cases e9
                    by_cases z7 : h6 < n ∧ t h6 = 41
                    · rw [if_pos z7] at k7
                      rw [ps_sg_pos z7] at eR
                      have s7 := ps_skn_in (t := t) (n := n) (h := h6 + 1) (by omega)
                      have q8 := q7.sg k7.1 k7.2 (by omega)
                      refine ev_aload_n dX7_readIf_59 rfl rfl ?_
                      refine ev_iload_n dX7_readIf_60 rfl rfl ?_
                      refine cw_call1 (d' := d - 1) hE hT dX7_readIf_61 rfl kX7_emit lX7_168 iX7_emit vX7_emit (k := 4) (i := 0) rfl ob4 rfl (Nat.le_of_ble_eq_true rfl) (by omega) (c_X7_emit hE q8.2.2.1 (by omega)) (fun g hT => ?_)
                      have q9 := q8.em (x := cc) (L3 := []) (F3 := fun _ => 0) (by omega) hP.2.2
                      exact ev_vret dX7_readIf_64 rfl ⟨W, _, ⟨rfl, rfl, by rw [eR]; exact q9⟩, hT⟩
                    · rw [if_neg z7] at k7
                      rw [ps_sg_neg z7] at eR
                      exact F8 T8 g (1, h6) cc eR (q7.ft hP.2.2 k7.1 k7.2) hT
                · rw [if_neg z5] at k5
                  rw [ps_sg_neg z5] at eR
                  exact F6 T6 g (1, h4) cc eR (q5.ft hP.2.2 k5.1 k5.2) hT
            · rw [if_neg z3] at k3
              rw [ps_sg_neg z3] at eR
              exact F4 T4 g (1, h2) cc eR (q3.ft hP.2.2 k3.1 k3.2) hT
    · rw [if_neg ho8] at q9
      obtain ⟨e9, hx, hF⟩ := q9
      cases e9
      refine ev_if_eq (tgt := 64) dX7_readIf_5 (by decide) (fun _ => ?_) (fun c => absurd rfl c)
      rw [hI8 (by omega) t n, ps_if_no hq] at eR
      exact ev_vret dX7_readIf_64 rfl ⟨W, T, ⟨rfl, rfl, by rw [eR]; exact (hP.Q (L := []) (F := fun _ => 0)).ft hP.2.2 hx hF⟩, hT⟩
  · rw [if_neg hq] at q9
    obtain ⟨e9, hx, hF⟩ := q9
    cases e9
    refine ev_if_eq (tgt := 64) dX7_readIf_5 (by decide) (fun _ => ?_) (fun c => absurd rfl c)
    rw [ps_if_neg hq] at eR
    exact ev_vret dX7_readIf_64 rfl ⟨W, T, ⟨rfl, rfl, by rw [eR]; exact (hP.Q (L := []) (F := fun _ => 0)).ft hP.2.2 hx hF⟩, hT⟩
end RK
