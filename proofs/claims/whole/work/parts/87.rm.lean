section RM
theorem rd_no_let {t : Nat → Nat} {n p : Nat} (h : ¬ (p < n ∧ ps_let (t p) = true)) : ps_fnd t n p rd_W180 11 = none := by
  rw [ps_fnd_pk]
  refine rd_pk_nn _ _ (fun j a b z => h ?_)
  exact ps_wd_l z ((show ∀ k, k < 11 → 0 < (rd_W180 k).length by decide) j (by omega)) ((show ∀ k, k < 11 → ps_let ((rd_W180 k).getD 0 0) = true by decide) j (by omega))
theorem c_X7_readUnit {G : ev_G} {W : cw_W} {d D0 op : Nat} {inn : (Nat → Nat) → Nat → Option (Nat → ps_R)} (hE : ev_En G) (h4 : ev_En4 G D0) (hd : 9 ≤ d) (hI : ∀ d', d - 3 ≤ d' → d' ≤ d → rd_In G W d' op inn) : rd_CM G W d mX7_readUnit op (fun t n p => ps_unit t n (inn t n) p) := by
  intro C t n p c hP
  refine cw_startR (lv0 := [some (.ref (W 4 0)), some (.int (nI op))]) (by decide +kernel) rfl (Nat.le_of_ble_eq_true rfl) rfl ?_
  intro K g0 g hT
  have hpn := hP.1.le
  have hcp := hP.2.2
  have ht := hP.1.1.2.2.2
  have hsg := rd_sg_48 (n := n) (p := p) (ht p)
  have h40 := rd_sg_c (n := n) (p := p) (c := 40) (ht p) (by decide) (by decide) (by decide)
  refine ev_aload_n dX7_readUnit_0 rfl rfl ?_
  refine cw_geti (v2 := rd_sg t n p) hE hT dX7_readUnit_1 fX7_22 (k := 4) (i := 0) rfl ob4 rfl hP.1.2.2.2.2.1 ?_
  refine ev_bipush (v := 48) dX7_readUnit_4 (by decide) ?_
  refine ev_icmp_ne (tgt := 24) dX7_readUnit_6 (by decide) (fun c1 => ?_) (fun c1 => ?_)
  · have hnd : ¬ ps_dig (ps_bt t n p) = true := fun q => c1 (hsg.mpr q)
    refine ev_aload_n dX7_readUnit_24 rfl rfl ?_
    refine cw_geti (v2 := rd_sg t n p) hE hT dX7_readUnit_25 fX7_22 (k := 4) (i := 0) rfl ob4 rfl hP.1.2.2.2.2.1 ?_
    refine ev_bipush (v := nI 40) dX7_readUnit_28 (by decide) ?_
    refine ev_icmp_ne (tgt := 41) dX7_readUnit_30 (by decide) (fun c2 => ?_) (fun c2 => ?_)
    · refine ev_aload_n dX7_readUnit_41 rfl rfl ?_
      refine ev_iload_n dX7_readUnit_42 rfl rfl ?_
      refine cw_callr1 (d' := d - 1) (b := 0) (n0 := 0) hE hT dX7_readUnit_43 rfl kX7_readNamed lX7_177 iX7_readNamed vX7_readNamed (k := 4) (i := 0) rfl ob4 rfl (Nat.le_of_ble_eq_true rfl) (by omega) (c_X7_readNamed (d := d - 1) (inn := inn) hE h4 (by omega) (hI _ (by omega) (by omega)) hP hnd (fun q => c2 (h40.mpr q))) (Nat.le_refl _) (Nat.le_refl _) (fun v9 W9 T g q9 hT => ?_) (fun E W2 C2 g q9 _ => by obtain ⟨_, h9, _⟩ := q9; cases h9)
      obtain ⟨e8, e9, r1⟩ := q9
      have e7 := e8.symm
      subst e7
      cases e9
      exact ev_vret dX7_readUnit_46 rfl ⟨W, T, ⟨rfl, rfl, r1⟩, hT⟩
    · have hq := h40.mp c2
      refine ev_aload_n dX7_readUnit_33 rfl rfl ?_
      refine ev_iload_n dX7_readUnit_34 rfl rfl ?_
      refine cw_callr1 (d' := d - 1) (b := 0) (n0 := 0) hE hT dX7_readUnit_35 rfl kX7_readInBrackets lX7_174 iX7_readInBrackets vX7_readInBrackets (k := 4) (i := 0) rfl ob4 rfl (Nat.le_of_ble_eq_true rfl) (by omega) (c_X7_readInBrackets (d := d - 1) (inn := inn) hE (by omega) (hI _ (by omega) (by omega)) C t n p c hP) (Nat.le_refl _) (Nat.le_refl _) (fun v9 W9 T g q9 hT => ?_) (fun E W2 C2 g q9 _ => by obtain ⟨_, h9, _⟩ := q9; cases h9)
      obtain ⟨e8, e9, r1⟩ := q9
      have e7 := e8.symm
      subst e7
      cases e9
      refine ev_goto (tgt := 46) dX7_readUnit_38 (by decide) ?_
      refine ev_vret dX7_readUnit_46 rfl ⟨W, T, ⟨rfl, rfl, ?_⟩, hT⟩
      show rd_Q C t n p c (ps_unit t n (inn t n) p) T
      rw [(rd_unit_n (i := inn t n) ht hnd).1 (rd_no_let (fun q => by rw [hq.2] at q; exact absurd q.2 (by decide)))]
      exact r1
  · have hdg := hsg.mp c1
    refine ev_aload_n dX7_readUnit_9 rfl rfl ?_
    refine ev_aload_n dX7_readUnit_10 rfl rfl ?_
    refine ev_iconst (v := nI 0) dX7_readUnit_11 (by decide) ?_
    refine ev_sipush (v := nI 9999) dX7_readUnit_12 (by decide) ?_
    refine cw_callr2 (d' := d - 1) (b := 0) (n0 := 0) hE hT dX7_readUnit_15 rfl kX7_takeNumber lX7_121 iX7_takeNumber vX7_takeNumber (k := 4) (i := 0) rfl ob4 rfl (Nat.le_of_ble_eq_true rfl) (by omega) (c_X7_takeNumber (d := d - 1) (lo := 0) (hi := 9999) hE h4 (by omega) hP.1 (by omega) (by omega)) (Nat.le_refl _) (Nat.le_refl _) (fun v9 W9 T g q9 hT => ?_) (fun E W2 C2 g q9 _ => by obtain ⟨_, ⟨_, h9⟩, _⟩ := q9; cases h9)
    obtain ⟨e8, ⟨x9, e9⟩, q9⟩ := q9
    have e7 := e8.symm
    subst e7
    cases e9
    rw [if_pos hdg] at q9
    have hu : ps_unit t n (inn t n) p = if 9999 < (ps_fig t n p).2 then .inl (2, p) else .inr (ps_skn t n (ps_fig t n p).1, [(0, nI (ps_fig t n p).2)], [nI (ps_fig t n p).2], fun _ => nI (ps_fig t n p).2) := if_pos hdg
    by_cases hv : 9999 < (ps_fig t n p).2
    · rw [if_pos (Or.inr hv)] at q9
      have r1 : rd_Q C t n p c (.inl (2, p)) T := (hP.Q (L := []) (F := fun _ => 0)).ft hP.2.2 q9.1 q9.2
      obtain ⟨c2, hc2, h300⟩ := r1.2.1
      refine cw_call1 (d' := d - 1) hE hT dX7_readUnit_18 rfl kX7_emit lX7_168 iX7_emit vX7_emit (k := 4) (i := 0) rfl ob4 rfl (Nat.le_of_ble_eq_true rfl) (by omega) (c_X7_emit hE hc2 (by omega)) (fun g hT => ?_)
      refine ev_goto (tgt := 46) dX7_readUnit_21 (by decide) ?_
      exact ev_vret dX7_readUnit_46 rfl ⟨W, _, ⟨rfl, rfl, by show rd_Q C t n p c (ps_unit t n (inn t n) p) _; rw [hu, if_pos hv]; exact r1.emF hc2 h300⟩, hT⟩
    · rw [if_neg (fun z => z.elim (fun y => absurd y (by omega)) hv)] at q9
      obtain ⟨e5, hx, hG⟩ := q9
      cases e5
      have hin := ps_figs_in t (n - p) p 0 (by decide)
      have hfd : p < (ps_fig t n p).1 ∧ (ps_fig t n p).1 ≤ n := by
        have hp0 : p < n := by
          rcases Nat.lt_or_ge p n with q | q
          · exact q
          · unfold ps_bt at hdg; rw [if_neg (by omega)] at hdg; exact absurd hdg (by decide)
        have hdp : ps_dig (t p) = true := by unfold ps_bt at hdg; rw [if_pos hp0] at hdg; exact hdg
        have e1 : (ps_fig t n p).1 = rd_end ps_dig t n p := ps_figs_rn t (n - p) p 0
        rw [e1, rd_end_s hp0 hdp]
        have := rd_end_in (f := ps_dig) (t := t) (n := n) (h := p + 1) (by omega)
        omega
      have hsk := ps_skn_in (t := t) (n := n) (h := (ps_fig t n p).1) hfd.2
      have q0 : rd_Q C t n p c (.inr (ps_skn t n (ps_fig t n p).1, [], [], fun _ => 0)) T := (hP.Q (F := fun _ => 0)).sg hx hG (by omega)
      refine cw_call1 (d' := d - 1) hE hT dX7_readUnit_18 rfl kX7_emit lX7_168 iX7_emit vX7_emit (k := 4) (i := 0) rfl ob4 rfl (Nat.le_of_ble_eq_true rfl) (by omega) (c_X7_emit hE (by rw [hx 122 (by decide)]; exact hP.2.1) (by omega)) (fun g hT => ?_)
      refine ev_goto (tgt := 46) dX7_readUnit_21 (by decide) ?_
      exact ev_vret dX7_readUnit_46 rfl ⟨W, _, ⟨rfl, rfl, by show rd_Q C t n p c (ps_unit t n (inn t n) p) _; rw [hu, if_neg hv]; exact q0.em (x := nI (ps_fig t n p).2) (L3 := [(0, nI (ps_fig t n p).2)]) (F3 := fun _ => nI (ps_fig t n p).2) (by show p + 0 < _; omega) hP.2.2⟩, hT⟩
theorem c_X7_readProduct0 {G : ev_G} {W : cw_W} {d D0 op : Nat} {inn : (Nat → Nat) → Nat → Option (Nat → ps_R)} (hE : ev_En G) (h4 : ev_En4 G D0) (hd : 5 ≤ d) (hU : rd_CM G W (d - 1) mX7_readUnit op (fun t n p => ps_unit t n (inn t n) p)) : rd_CM G W d mX7_readProduct op (fun t n p => ps_prod t n (inn t n) p) := by
  intro C t n p c hP
  refine cw_startR (lv0 := [some (.ref (W 4 0)), some (.int (nI op)), none, none]) (by decide +kernel) rfl (Nat.le_of_ble_eq_true rfl) rfl ?_
  intro K g0 g hT
  have hpn := hP.1.le
  have hcp := hP.2.2
  have ht := hP.1.1.2.2.2
  show ev_V G d 0 0 mX7_readProduct (rd_pst G W K g0 C t n p c (ps_prod t n (inn t n) p)) g 0 _ _
  have eR0 : ps_prod t n (inn t n) p = ps_bind (ps_unit t n (inn t n) p) fun h L C F => ps_jn t n (ps_unit t n (inn t n)) 42 47 4 5 (-11) (-12) n h L C F := rfl
  generalize eR1 : ps_prod t n (inn t n) p = R at eR0
  have FT : ∀ (T : mo_S) (g : ev_H) (e : Nat × Nat) (i : Nat) (z : Option Value), R = .inl e → rd_Q C t n p c (.inl e) T → cw_T G K g0 W g T → ev_V G d 0 0 mX7_readProduct (rd_pst G W K g0 C t n p c R) g 7 [some (.ref (W 4 0)), some (.int (nI op)), some (.int (nI i)), z] [] := by
    intro T g e i z hR q hT
    obtain ⟨f, pl⟩ := e
    have out : ∀ z, ev_V G d 0 0 mX7_readProduct (rd_pst G W K g0 C t n p c R) g 70 [some (.ref (W 4 0)), some (.int (nI op)), some (.int (nI i)), z] [] := fun z => ev_vret dX7_readProduct_70 rfl ⟨W, T, ⟨rfl, rfl, by rw [hR]; exact q⟩, hT⟩
    refine ev_iload_n dX7_readProduct_7 rfl rfl ?_
    refine ev_aload_n dX7_readProduct_8 rfl rfl ?_
    refine cw_getf hE hT dX7_readProduct_9 fX7_19 (k := 4) (i := 0) rfl ob4 rfl ?_
    refine ev_icmp_ge (tgt := 70) dX7_readProduct_12 (by decide) (fun _ => out _) (fun _ => ?_)
    refine ev_aload_n dX7_readProduct_15 rfl rfl ?_
    refine cw_geti (v2 := -2) hE hT dX7_readProduct_16 fX7_22 (k := 4) (i := 0) rfl ob4 rfl q.1.2.2.2.2.2 ?_
    refine ev_bipush (v := 42) dX7_readProduct_19 (by decide) ?_
    refine ev_icmp_eq (tgt := 33) dX7_readProduct_21 (by decide) (fun c => absurd c (by decide)) (fun _ => ?_)
    refine ev_aload_n dX7_readProduct_24 rfl rfl ?_
    refine cw_geti (v2 := -2) hE hT dX7_readProduct_25 fX7_22 (k := 4) (i := 0) rfl ob4 rfl q.1.2.2.2.2.2 ?_
    refine ev_bipush (v := 47) dX7_readProduct_28 (by decide) ?_
    exact ev_icmp_ne (tgt := 70) dX7_readProduct_30 (by decide) (fun _ => out _) (fun c => absurd c (by decide))
  have loop : ∀ (m i : Nat), n - i = m → i ≤ n → ∀ (T : mo_S) (h : Nat) (L : List (Int32 × Int32)) (Cl : List Int32) (F : ps_F) (g : ev_H), R = ps_jn t n (ps_unit t n (inn t n)) 42 47 4 5 (-11) (-12) m h L Cl F → rd_Q C t n p c (.inr (h, L, Cl, F)) T → cw_T G K g0 W g T → ev_V G d 0 0 mX7_readProduct (rd_pst G W K g0 C t n p c R) g 7 [some (.ref (W 4 0)), some (.int (nI op)), some (.int (nI i)), none] [] := by
    intro m
    induction m with
    | zero =>
      intro i hi hin T h L Cl F g eR q hT
      refine ev_iload_n dX7_readProduct_7 rfl rfl ?_
      refine ev_aload_n dX7_readProduct_8 rfl rfl ?_
      refine cw_geti (v2 := nI n) hE hT dX7_readProduct_9 fX7_19 (k := 4) (i := 0) rfl ob4 rfl q.1.1.1 ?_
      refine ev_icmp_ge (tgt := 70) dX7_readProduct_12 (by decide) (fun _ => ?_) (fun c => absurd (nI_le (by omega) (by omega)) c)
      exact ev_vret dX7_readProduct_70 rfl ⟨W, T, ⟨rfl, rfl, by rw [eR]; exact q⟩, hT⟩
    | succ m ih =>
      intro i hi hin T h L Cl F g eR q hT
      have hG := q.1
      have hle := hG.le
      have ra := rd_rel (n := n) (p := h) (ht h) 42 (by decide) (by decide) (by decide) (by decide)
      have rb := rd_rel (n := n) (p := h) (ht h) 47 (by decide) (by decide) (by decide) (by decide)
      have za := rd_sg_c (n := n) (p := h) (c := 42) (ht h) (by decide) (by decide) (by decide)
      have zb := rd_sg_c (n := n) (p := h) (c := 47) (ht h) (by decide) (by decide) (by decide)
      refine ev_iload_n dX7_readProduct_7 rfl rfl ?_
      refine ev_aload_n dX7_readProduct_8 rfl rfl ?_
      refine cw_geti (v2 := nI n) hE hT dX7_readProduct_9 fX7_19 (k := 4) (i := 0) rfl ob4 rfl hG.1.1 ?_
      refine ev_icmp_ge (tgt := 70) dX7_readProduct_12 (by decide) (fun c => absurd c (nI_ge (by omega) (by omega))) (fun _ => ?_)
      refine ev_aload_n dX7_readProduct_15 rfl rfl ?_
      refine cw_geti (v2 := rd_sg t n h) hE hT dX7_readProduct_16 fX7_22 (k := 4) (i := 0) rfl ob4 rfl hG.2.2.2.2.1 ?_
      refine ev_bipush (v := nI 42) dX7_readProduct_19 (by decide) ?_
      refine ev_icmp_eq (tgt := 33) dX7_readProduct_21 (by decide) (fun c1 => ?_) (fun c1 => ?_)
      · have hz := za.mp c1
        rw [ps_jn, if_pos (ra.mp c1)] at eR
        refine ev_aload_n dX7_readProduct_33 rfl rfl ?_
        refine cw_geti (v2 := rd_sg t n h) hE hT dX7_readProduct_34 fX7_22 (k := 4) (i := 0) rfl ob4 rfl hG.2.2.2.2.1 ?_
        refine ev_bipush (v := nI 42) dX7_readProduct_37 (by decide) ?_
        refine ev_icmp_ne (tgt := 47) dX7_readProduct_39 (by decide) (fun c => absurd c1 c) (fun _ => ?_)
        refine ev_bipush (v := -11) dX7_readProduct_42 (by decide) ?_
        refine ev_goto (tgt := 49) dX7_readProduct_44 (by decide) ?_
        refine ev_istore_n dX7_readProduct_49 rfl (Nat.le_of_ble_eq_true rfl) rfl ?_
        refine ev_aload_n dX7_readProduct_50 rfl rfl ?_
        refine cw_callr0 (d' := d - 1) (b := 0) (n0 := 0) hE hT dX7_readProduct_51 rfl kX7_next lX7_48 iX7_next vX7_next (k := 4) (i := 0) rfl ob4 rfl (Nat.le_of_ble_eq_true rfl) (by omega) (c_X7_next (d := d - 1) hE (by omega) hG.1 hG.2.1 (by rw [hG.2.2.2.2.2, rd_bh_c hz.1 hz.2 (by decide) (by decide)]) (by omega)) (Nat.le_refl _) (Nat.le_refl _) (fun v9 W9 T1 g q9 hT => ?_) (fun E W2 C2 g q9 _ => by cases q9.2.1)
        obtain ⟨e8, e9, hx9, hT9⟩ := q9
        have e7 := e8.symm
        subst e7
        cases e9
        have hG1 := rd_next_G hG.1 hG.2.1 hx9 hT9
        have hsk := ps_skn_in (t := t) (n := n) (h := h + 1) (by omega)
        have q1 := q.sg hx9 hG1 (by omega)
        refine ev_aload_n dX7_readProduct_54 rfl rfl ?_
        refine ev_iload_n dX7_readProduct_55 rfl rfl ?_
        refine cw_callr1 (d' := d - 1) (b := 0) (n0 := 0) hE hT dX7_readProduct_56 rfl kX7_readUnit lX7_171 iX7_readUnit vX7_readUnit (k := 4) (i := 0) rfl ob4 rfl (Nat.le_of_ble_eq_true rfl) (by omega) (hU T1 t n (ps_skn t n (h + 1)) (c + Cl.length) (q1.P hP.2.2)) (Nat.le_refl _) (Nat.le_refl _) (fun v9 W9 T2 g q9 hT => ?_) (fun E W2 C2 g q9 _ => by obtain ⟨_, h9, _⟩ := q9; cases h9)
        obtain ⟨e8, e9, r1⟩ := q9
        have e7 := e8.symm
        subst e7
        cases e9
        have r1 : rd_Q T1 t n (ps_skn t n (h + 1)) (c + Cl.length) (ps_unit t n (inn t n) (ps_skn t n (h + 1))) T2 := r1
        refine ev_aload_n dX7_readProduct_59 rfl rfl ?_
        refine ev_iload_n dX7_readProduct_60 rfl rfl ?_
        cases hr : ps_unit t n (inn t n) (ps_skn t n (h + 1)) with
        | inl e =>
          rw [hr] at r1 eR
          have r2 := q1.lt r1
          obtain ⟨c2, hc2, h300⟩ := r2.2.1
          refine cw_call1 (d' := d - 1) hE hT dX7_readProduct_61 rfl kX7_emit lX7_168 iX7_emit vX7_emit (k := 4) (i := 0) rfl ob4 rfl (Nat.le_of_ble_eq_true rfl) (by omega) (c_X7_emit hE hc2 (by omega)) (fun g hT => ?_)
          refine ev_iinc (v := nI (i + 1)) dX7_readProduct_64 rfl (nI_1 i) rfl ?_
          refine ev_goto (tgt := 7) dX7_readProduct_67 (by decide) ?_
          exact FT _ g e (i + 1) _ eR (r2.emF hc2 h300) hT
        | inr v =>
          obtain ⟨h2, L2, C2, F2⟩ := v
          rw [hr] at r1 eR
          simp only [ps_bind] at eR
          have b1 := q1.2.2.2.1
          have b2 := r1.2.2.2.1
          have b0 := q.2.2.2.1
          have l9 := r1.1.le
          have r2 : rd_Q C t n p c (.inr (h2, [], Cl ++ C2, fun _ => 0)) T2 := q1.app r1
          have hl : (Cl ++ C2).length = Cl.length + C2.length := List.length_append
          refine cw_call1 (d' := d - 1) hE hT dX7_readProduct_61 rfl kX7_emit lX7_168 iX7_emit vX7_emit (k := 4) (i := 0) rfl ob4 rfl (Nat.le_of_ble_eq_true rfl) (by omega) (c_X7_emit hE r2.2.2.1 (by omega)) (fun g hT => ?_)
          refine ev_iinc (v := nI (i + 1)) dX7_readProduct_64 rfl (nI_1 i) rfl ?_
          refine ev_goto (tgt := 7) dX7_readProduct_67 (by decide) ?_
          refine ev_none 3 ?_
          exact ih (i + 1) (by omega) (by omega) _ h2 _ _ _ g eR (r2.em (x := -11) (by omega) hP.2.2) hT
      · refine ev_aload_n dX7_readProduct_24 rfl rfl ?_
        refine cw_geti (v2 := rd_sg t n h) hE hT dX7_readProduct_25 fX7_22 (k := 4) (i := 0) rfl ob4 rfl hG.2.2.2.2.1 ?_
        refine ev_bipush (v := nI 47) dX7_readProduct_28 (by decide) ?_
        refine ev_icmp_ne (tgt := 70) dX7_readProduct_30 (by decide) (fun c2 => ?_) (fun c2 => ?_)
        · rw [ps_jn, if_neg (fun z => c1 (ra.mpr z)), if_neg (fun z => c2 (rb.mpr z))] at eR
          exact ev_vret dX7_readProduct_70 rfl ⟨W, T, ⟨rfl, rfl, by rw [eR]; exact q⟩, hT⟩
        · have hz := zb.mp c2
          rw [ps_jn, if_neg (fun z => c1 (ra.mpr z)), if_pos (rb.mp c2)] at eR
          refine ev_aload_n dX7_readProduct_33 rfl rfl ?_
          refine cw_geti (v2 := rd_sg t n h) hE hT dX7_readProduct_34 fX7_22 (k := 4) (i := 0) rfl ob4 rfl hG.2.2.2.2.1 ?_
          refine ev_bipush (v := nI 42) dX7_readProduct_37 (by decide) ?_
          refine ev_icmp_ne (tgt := 47) dX7_readProduct_39 (by decide) (fun _ => ?_) (fun c => absurd c c1)
          refine ev_bipush (v := -12) dX7_readProduct_47 (by decide) ?_
          refine ev_istore_n dX7_readProduct_49 rfl (Nat.le_of_ble_eq_true rfl) rfl ?_
          refine ev_aload_n dX7_readProduct_50 rfl rfl ?_
          refine cw_callr0 (d' := d - 1) (b := 0) (n0 := 0) hE hT dX7_readProduct_51 rfl kX7_next lX7_48 iX7_next vX7_next (k := 4) (i := 0) rfl ob4 rfl (Nat.le_of_ble_eq_true rfl) (by omega) (c_X7_next (d := d - 1) hE (by omega) hG.1 hG.2.1 (by rw [hG.2.2.2.2.2, rd_bh_c hz.1 hz.2 (by decide) (by decide)]) (by omega)) (Nat.le_refl _) (Nat.le_refl _) (fun v9 W9 T1 g q9 hT => ?_) (fun E W2 C2 g q9 _ => by cases q9.2.1)
          obtain ⟨e8, e9, hx9, hT9⟩ := q9
          have e7 := e8.symm
          subst e7
          cases e9
          have hG1 := rd_next_G hG.1 hG.2.1 hx9 hT9
          have hsk := ps_skn_in (t := t) (n := n) (h := h + 1) (by omega)
          have q1 := q.sg hx9 hG1 (by omega)
          refine ev_aload_n dX7_readProduct_54 rfl rfl ?_
          refine ev_iload_n dX7_readProduct_55 rfl rfl ?_
          refine cw_callr1 (d' := d - 1) (b := 0) (n0 := 0) hE hT dX7_readProduct_56 rfl kX7_readUnit lX7_171 iX7_readUnit vX7_readUnit (k := 4) (i := 0) rfl ob4 rfl (Nat.le_of_ble_eq_true rfl) (by omega) (hU T1 t n (ps_skn t n (h + 1)) (c + Cl.length) (q1.P hP.2.2)) (Nat.le_refl _) (Nat.le_refl _) (fun v9 W9 T2 g q9 hT => ?_) (fun E W2 C2 g q9 _ => by obtain ⟨_, h9, _⟩ := q9; cases h9)
          obtain ⟨e8, e9, r1⟩ := q9
          have e7 := e8.symm
          subst e7
          cases e9
          have r1 : rd_Q T1 t n (ps_skn t n (h + 1)) (c + Cl.length) (ps_unit t n (inn t n) (ps_skn t n (h + 1))) T2 := r1
          refine ev_aload_n dX7_readProduct_59 rfl rfl ?_
          refine ev_iload_n dX7_readProduct_60 rfl rfl ?_
          cases hr : ps_unit t n (inn t n) (ps_skn t n (h + 1)) with
          | inl e =>
            rw [hr] at r1 eR
            have r2 := q1.lt r1
            obtain ⟨c2, hc2, h300⟩ := r2.2.1
            refine cw_call1 (d' := d - 1) hE hT dX7_readProduct_61 rfl kX7_emit lX7_168 iX7_emit vX7_emit (k := 4) (i := 0) rfl ob4 rfl (Nat.le_of_ble_eq_true rfl) (by omega) (c_X7_emit hE hc2 (by omega)) (fun g hT => ?_)
            refine ev_iinc (v := nI (i + 1)) dX7_readProduct_64 rfl (nI_1 i) rfl ?_
            refine ev_goto (tgt := 7) dX7_readProduct_67 (by decide) ?_
            exact FT _ g e (i + 1) _ eR (r2.emF hc2 h300) hT
          | inr v =>
            obtain ⟨h2, L2, C2, F2⟩ := v
            rw [hr] at r1 eR
            simp only [ps_bind] at eR
            have b1 := q1.2.2.2.1
            have b2 := r1.2.2.2.1
            have b0 := q.2.2.2.1
            have l9 := r1.1.le
            have r2 : rd_Q C t n p c (.inr (h2, [], Cl ++ C2, fun _ => 0)) T2 := q1.app r1
            have hl : (Cl ++ C2).length = Cl.length + C2.length := List.length_append
            refine cw_call1 (d' := d - 1) hE hT dX7_readProduct_61 rfl kX7_emit lX7_168 iX7_emit vX7_emit (k := 4) (i := 0) rfl ob4 rfl (Nat.le_of_ble_eq_true rfl) (by omega) (c_X7_emit hE r2.2.2.1 (by omega)) (fun g hT => ?_)
            refine ev_iinc (v := nI (i + 1)) dX7_readProduct_64 rfl (nI_1 i) rfl ?_
            refine ev_goto (tgt := 7) dX7_readProduct_67 (by decide) ?_
            refine ev_none 3 ?_
            exact ih (i + 1) (by omega) (by omega) _ h2 _ _ _ g eR (r2.em (x := -12) (by omega) hP.2.2) hT
  refine ev_aload_n dX7_readProduct_0 rfl rfl ?_
  refine ev_iload_n dX7_readProduct_1 rfl rfl ?_
  refine cw_callr1 (d' := d - 1) (b := 0) (n0 := 0) hE hT dX7_readProduct_2 rfl kX7_readUnit lX7_171 iX7_readUnit vX7_readUnit (k := 4) (i := 0) rfl ob4 rfl (Nat.le_of_ble_eq_true rfl) (by omega) (hU C t n p c hP) (Nat.le_refl _) (Nat.le_refl _) (fun v9 W9 T g q9 hT => ?_) (fun E W2 C2 g q9 _ => by obtain ⟨_, h9, _⟩ := q9; cases h9)
  obtain ⟨e8, e9, r1⟩ := q9
  have e7 := e8.symm
  subst e7
  cases e9
  have r1 : rd_Q C t n p c (ps_unit t n (inn t n) p) T := r1
  refine ev_iconst (v := nI 0) dX7_readProduct_5 (by decide) ?_
  refine ev_istore_n dX7_readProduct_6 rfl (Nat.le_of_ble_eq_true rfl) rfl ?_
  cases hr : ps_unit t n (inn t n) p with
  | inl e =>
    rw [hr] at r1 eR0
    exact FT T g e 0 none eR0 r1 hT
  | inr v =>
    obtain ⟨h, L, Cl, F⟩ := v
    rw [hr] at r1 eR0
    exact loop n 0 (by omega) (by omega) T h L Cl F g eR0 r1 hT
theorem c_X7_readSum0 {G : ev_G} {W : cw_W} {d D0 op : Nat} {inn : (Nat → Nat) → Nat → Option (Nat → ps_R)} (hE : ev_En G) (h4 : ev_En4 G D0) (hd : 5 ≤ d) (hU : rd_CM G W (d - 1) mX7_readProduct op (fun t n p => ps_prod t n (inn t n) p)) : rd_CM G W d mX7_readSum op (fun t n p => ps_lev t n (inn t n) p) := by
  intro C t n p c hP
  refine cw_startR (lv0 := [some (.ref (W 4 0)), some (.int (nI op)), none, none]) (by decide +kernel) rfl (Nat.le_of_ble_eq_true rfl) rfl ?_
  intro K g0 g hT
  have hpn := hP.1.le
  have hcp := hP.2.2
  have ht := hP.1.1.2.2.2
  show ev_V G d 0 0 mX7_readSum (rd_pst G W K g0 C t n p c (ps_lev t n (inn t n) p)) g 0 _ _
  have eR0 : ps_lev t n (inn t n) p = ps_bind (ps_prod t n (inn t n) p) fun h L C F => ps_jn t n (ps_prod t n (inn t n)) 43 45 2 3 (-9) (-10) n h L C F := rfl
  generalize eR1 : ps_lev t n (inn t n) p = R at eR0
  have FT : ∀ (T : mo_S) (g : ev_H) (e : Nat × Nat) (i : Nat) (z : Option Value), R = .inl e → rd_Q C t n p c (.inl e) T → cw_T G K g0 W g T → ev_V G d 0 0 mX7_readSum (rd_pst G W K g0 C t n p c R) g 7 [some (.ref (W 4 0)), some (.int (nI op)), some (.int (nI i)), z] [] := by
    intro T g e i z hR q hT
    obtain ⟨f, pl⟩ := e
    have out : ∀ z, ev_V G d 0 0 mX7_readSum (rd_pst G W K g0 C t n p c R) g 70 [some (.ref (W 4 0)), some (.int (nI op)), some (.int (nI i)), z] [] := fun z => ev_vret dX7_readSum_70 rfl ⟨W, T, ⟨rfl, rfl, by rw [hR]; exact q⟩, hT⟩
    refine ev_iload_n dX7_readSum_7 rfl rfl ?_
    refine ev_aload_n dX7_readSum_8 rfl rfl ?_
    refine cw_getf hE hT dX7_readSum_9 fX7_19 (k := 4) (i := 0) rfl ob4 rfl ?_
    refine ev_icmp_ge (tgt := 70) dX7_readSum_12 (by decide) (fun _ => out _) (fun _ => ?_)
    refine ev_aload_n dX7_readSum_15 rfl rfl ?_
    refine cw_geti (v2 := -2) hE hT dX7_readSum_16 fX7_22 (k := 4) (i := 0) rfl ob4 rfl q.1.2.2.2.2.2 ?_
    refine ev_bipush (v := 43) dX7_readSum_19 (by decide) ?_
    refine ev_icmp_eq (tgt := 33) dX7_readSum_21 (by decide) (fun c => absurd c (by decide)) (fun _ => ?_)
    refine ev_aload_n dX7_readSum_24 rfl rfl ?_
    refine cw_geti (v2 := -2) hE hT dX7_readSum_25 fX7_22 (k := 4) (i := 0) rfl ob4 rfl q.1.2.2.2.2.2 ?_
    refine ev_bipush (v := 45) dX7_readSum_28 (by decide) ?_
    exact ev_icmp_ne (tgt := 70) dX7_readSum_30 (by decide) (fun _ => out _) (fun c => absurd c (by decide))
  have loop : ∀ (m i : Nat), n - i = m → i ≤ n → ∀ (T : mo_S) (h : Nat) (L : List (Int32 × Int32)) (Cl : List Int32) (F : ps_F) (g : ev_H), R = ps_jn t n (ps_prod t n (inn t n)) 43 45 2 3 (-9) (-10) m h L Cl F → rd_Q C t n p c (.inr (h, L, Cl, F)) T → cw_T G K g0 W g T → ev_V G d 0 0 mX7_readSum (rd_pst G W K g0 C t n p c R) g 7 [some (.ref (W 4 0)), some (.int (nI op)), some (.int (nI i)), none] [] := by
    intro m
    induction m with
    | zero =>
      intro i hi hin T h L Cl F g eR q hT
      refine ev_iload_n dX7_readSum_7 rfl rfl ?_
      refine ev_aload_n dX7_readSum_8 rfl rfl ?_
      refine cw_geti (v2 := nI n) hE hT dX7_readSum_9 fX7_19 (k := 4) (i := 0) rfl ob4 rfl q.1.1.1 ?_
      refine ev_icmp_ge (tgt := 70) dX7_readSum_12 (by decide) (fun _ => ?_) (fun c => absurd (nI_le (by omega) (by omega)) c)
      exact ev_vret dX7_readSum_70 rfl ⟨W, T, ⟨rfl, rfl, by rw [eR]; exact q⟩, hT⟩
    | succ m ih =>
      intro i hi hin T h L Cl F g eR q hT
      have hG := q.1
      have hle := hG.le
      have ra := rd_rel (n := n) (p := h) (ht h) 43 (by decide) (by decide) (by decide) (by decide)
      have rb := rd_rel (n := n) (p := h) (ht h) 45 (by decide) (by decide) (by decide) (by decide)
      have za := rd_sg_c (n := n) (p := h) (c := 43) (ht h) (by decide) (by decide) (by decide)
      have zb := rd_sg_c (n := n) (p := h) (c := 45) (ht h) (by decide) (by decide) (by decide)
      refine ev_iload_n dX7_readSum_7 rfl rfl ?_
      refine ev_aload_n dX7_readSum_8 rfl rfl ?_
      refine cw_geti (v2 := nI n) hE hT dX7_readSum_9 fX7_19 (k := 4) (i := 0) rfl ob4 rfl hG.1.1 ?_
      refine ev_icmp_ge (tgt := 70) dX7_readSum_12 (by decide) (fun c => absurd c (nI_ge (by omega) (by omega))) (fun _ => ?_)
      refine ev_aload_n dX7_readSum_15 rfl rfl ?_
      refine cw_geti (v2 := rd_sg t n h) hE hT dX7_readSum_16 fX7_22 (k := 4) (i := 0) rfl ob4 rfl hG.2.2.2.2.1 ?_
      refine ev_bipush (v := nI 43) dX7_readSum_19 (by decide) ?_
      refine ev_icmp_eq (tgt := 33) dX7_readSum_21 (by decide) (fun c1 => ?_) (fun c1 => ?_)
      · have hz := za.mp c1
        rw [ps_jn, if_pos (ra.mp c1)] at eR
        refine ev_aload_n dX7_readSum_33 rfl rfl ?_
        refine cw_geti (v2 := rd_sg t n h) hE hT dX7_readSum_34 fX7_22 (k := 4) (i := 0) rfl ob4 rfl hG.2.2.2.2.1 ?_
        refine ev_bipush (v := nI 43) dX7_readSum_37 (by decide) ?_
        refine ev_icmp_ne (tgt := 47) dX7_readSum_39 (by decide) (fun c => absurd c1 c) (fun _ => ?_)
        refine ev_bipush (v := -9) dX7_readSum_42 (by decide) ?_
        refine ev_goto (tgt := 49) dX7_readSum_44 (by decide) ?_
        refine ev_istore_n dX7_readSum_49 rfl (Nat.le_of_ble_eq_true rfl) rfl ?_
        refine ev_aload_n dX7_readSum_50 rfl rfl ?_
        refine cw_callr0 (d' := d - 1) (b := 0) (n0 := 0) hE hT dX7_readSum_51 rfl kX7_next lX7_48 iX7_next vX7_next (k := 4) (i := 0) rfl ob4 rfl (Nat.le_of_ble_eq_true rfl) (by omega) (c_X7_next (d := d - 1) hE (by omega) hG.1 hG.2.1 (by rw [hG.2.2.2.2.2, rd_bh_c hz.1 hz.2 (by decide) (by decide)]) (by omega)) (Nat.le_refl _) (Nat.le_refl _) (fun v9 W9 T1 g q9 hT => ?_) (fun E W2 C2 g q9 _ => by cases q9.2.1)
        obtain ⟨e8, e9, hx9, hT9⟩ := q9
        have e7 := e8.symm
        subst e7
        cases e9
        have hG1 := rd_next_G hG.1 hG.2.1 hx9 hT9
        have hsk := ps_skn_in (t := t) (n := n) (h := h + 1) (by omega)
        have q1 := q.sg hx9 hG1 (by omega)
        refine ev_aload_n dX7_readSum_54 rfl rfl ?_
        refine ev_iload_n dX7_readSum_55 rfl rfl ?_
        refine cw_callr1 (d' := d - 1) (b := 0) (n0 := 0) hE hT dX7_readSum_56 rfl kX7_readProduct lX7_165 iX7_readProduct vX7_readProduct (k := 4) (i := 0) rfl ob4 rfl (Nat.le_of_ble_eq_true rfl) (by omega) (hU T1 t n (ps_skn t n (h + 1)) (c + Cl.length) (q1.P hP.2.2)) (Nat.le_refl _) (Nat.le_refl _) (fun v9 W9 T2 g q9 hT => ?_) (fun E W2 C2 g q9 _ => by obtain ⟨_, h9, _⟩ := q9; cases h9)
        obtain ⟨e8, e9, r1⟩ := q9
        have e7 := e8.symm
        subst e7
        cases e9
        have r1 : rd_Q T1 t n (ps_skn t n (h + 1)) (c + Cl.length) (ps_prod t n (inn t n) (ps_skn t n (h + 1))) T2 := r1
        refine ev_aload_n dX7_readSum_59 rfl rfl ?_
        refine ev_iload_n dX7_readSum_60 rfl rfl ?_
        cases hr : ps_prod t n (inn t n) (ps_skn t n (h + 1)) with
        | inl e =>
          rw [hr] at r1 eR
          have r2 := q1.lt r1
          obtain ⟨c2, hc2, h300⟩ := r2.2.1
          refine cw_call1 (d' := d - 1) hE hT dX7_readSum_61 rfl kX7_emit lX7_168 iX7_emit vX7_emit (k := 4) (i := 0) rfl ob4 rfl (Nat.le_of_ble_eq_true rfl) (by omega) (c_X7_emit hE hc2 (by omega)) (fun g hT => ?_)
          refine ev_iinc (v := nI (i + 1)) dX7_readSum_64 rfl (nI_1 i) rfl ?_
          refine ev_goto (tgt := 7) dX7_readSum_67 (by decide) ?_
          exact FT _ g e (i + 1) _ eR (r2.emF hc2 h300) hT
        | inr v =>
          obtain ⟨h2, L2, C2, F2⟩ := v
          rw [hr] at r1 eR
          simp only [ps_bind] at eR
          have b1 := q1.2.2.2.1
          have b2 := r1.2.2.2.1
          have b0 := q.2.2.2.1
          have l9 := r1.1.le
          have r2 : rd_Q C t n p c (.inr (h2, [], Cl ++ C2, fun _ => 0)) T2 := q1.app r1
          have hl : (Cl ++ C2).length = Cl.length + C2.length := List.length_append
          refine cw_call1 (d' := d - 1) hE hT dX7_readSum_61 rfl kX7_emit lX7_168 iX7_emit vX7_emit (k := 4) (i := 0) rfl ob4 rfl (Nat.le_of_ble_eq_true rfl) (by omega) (c_X7_emit hE r2.2.2.1 (by omega)) (fun g hT => ?_)
          refine ev_iinc (v := nI (i + 1)) dX7_readSum_64 rfl (nI_1 i) rfl ?_
          refine ev_goto (tgt := 7) dX7_readSum_67 (by decide) ?_
          refine ev_none 3 ?_
          exact ih (i + 1) (by omega) (by omega) _ h2 _ _ _ g eR (r2.em (x := -9) (by omega) hP.2.2) hT
      · refine ev_aload_n dX7_readSum_24 rfl rfl ?_
        refine cw_geti (v2 := rd_sg t n h) hE hT dX7_readSum_25 fX7_22 (k := 4) (i := 0) rfl ob4 rfl hG.2.2.2.2.1 ?_
        refine ev_bipush (v := nI 45) dX7_readSum_28 (by decide) ?_
        refine ev_icmp_ne (tgt := 70) dX7_readSum_30 (by decide) (fun c2 => ?_) (fun c2 => ?_)
        · rw [ps_jn, if_neg (fun z => c1 (ra.mpr z)), if_neg (fun z => c2 (rb.mpr z))] at eR
          exact ev_vret dX7_readSum_70 rfl ⟨W, T, ⟨rfl, rfl, by rw [eR]; exact q⟩, hT⟩
        · have hz := zb.mp c2
          rw [ps_jn, if_neg (fun z => c1 (ra.mpr z)), if_pos (rb.mp c2)] at eR
          refine ev_aload_n dX7_readSum_33 rfl rfl ?_
          refine cw_geti (v2 := rd_sg t n h) hE hT dX7_readSum_34 fX7_22 (k := 4) (i := 0) rfl ob4 rfl hG.2.2.2.2.1 ?_
          refine ev_bipush (v := nI 43) dX7_readSum_37 (by decide) ?_
          refine ev_icmp_ne (tgt := 47) dX7_readSum_39 (by decide) (fun _ => ?_) (fun c => absurd c c1)
          refine ev_bipush (v := -10) dX7_readSum_47 (by decide) ?_
          refine ev_istore_n dX7_readSum_49 rfl (Nat.le_of_ble_eq_true rfl) rfl ?_
          refine ev_aload_n dX7_readSum_50 rfl rfl ?_
          refine cw_callr0 (d' := d - 1) (b := 0) (n0 := 0) hE hT dX7_readSum_51 rfl kX7_next lX7_48 iX7_next vX7_next (k := 4) (i := 0) rfl ob4 rfl (Nat.le_of_ble_eq_true rfl) (by omega) (c_X7_next (d := d - 1) hE (by omega) hG.1 hG.2.1 (by rw [hG.2.2.2.2.2, rd_bh_c hz.1 hz.2 (by decide) (by decide)]) (by omega)) (Nat.le_refl _) (Nat.le_refl _) (fun v9 W9 T1 g q9 hT => ?_) (fun E W2 C2 g q9 _ => by cases q9.2.1)
          obtain ⟨e8, e9, hx9, hT9⟩ := q9
          have e7 := e8.symm
          subst e7
          cases e9
          have hG1 := rd_next_G hG.1 hG.2.1 hx9 hT9
          have hsk := ps_skn_in (t := t) (n := n) (h := h + 1) (by omega)
          have q1 := q.sg hx9 hG1 (by omega)
          refine ev_aload_n dX7_readSum_54 rfl rfl ?_
          refine ev_iload_n dX7_readSum_55 rfl rfl ?_
          refine cw_callr1 (d' := d - 1) (b := 0) (n0 := 0) hE hT dX7_readSum_56 rfl kX7_readProduct lX7_165 iX7_readProduct vX7_readProduct (k := 4) (i := 0) rfl ob4 rfl (Nat.le_of_ble_eq_true rfl) (by omega) (hU T1 t n (ps_skn t n (h + 1)) (c + Cl.length) (q1.P hP.2.2)) (Nat.le_refl _) (Nat.le_refl _) (fun v9 W9 T2 g q9 hT => ?_) (fun E W2 C2 g q9 _ => by obtain ⟨_, h9, _⟩ := q9; cases h9)
          obtain ⟨e8, e9, r1⟩ := q9
          have e7 := e8.symm
          subst e7
          cases e9
          have r1 : rd_Q T1 t n (ps_skn t n (h + 1)) (c + Cl.length) (ps_prod t n (inn t n) (ps_skn t n (h + 1))) T2 := r1
          refine ev_aload_n dX7_readSum_59 rfl rfl ?_
          refine ev_iload_n dX7_readSum_60 rfl rfl ?_
          cases hr : ps_prod t n (inn t n) (ps_skn t n (h + 1)) with
          | inl e =>
            rw [hr] at r1 eR
            have r2 := q1.lt r1
            obtain ⟨c2, hc2, h300⟩ := r2.2.1
            refine cw_call1 (d' := d - 1) hE hT dX7_readSum_61 rfl kX7_emit lX7_168 iX7_emit vX7_emit (k := 4) (i := 0) rfl ob4 rfl (Nat.le_of_ble_eq_true rfl) (by omega) (c_X7_emit hE hc2 (by omega)) (fun g hT => ?_)
            refine ev_iinc (v := nI (i + 1)) dX7_readSum_64 rfl (nI_1 i) rfl ?_
            refine ev_goto (tgt := 7) dX7_readSum_67 (by decide) ?_
            exact FT _ g e (i + 1) _ eR (r2.emF hc2 h300) hT
          | inr v =>
            obtain ⟨h2, L2, C2, F2⟩ := v
            rw [hr] at r1 eR
            simp only [ps_bind] at eR
            have b1 := q1.2.2.2.1
            have b2 := r1.2.2.2.1
            have b0 := q.2.2.2.1
            have l9 := r1.1.le
            have r2 : rd_Q C t n p c (.inr (h2, [], Cl ++ C2, fun _ => 0)) T2 := q1.app r1
            have hl : (Cl ++ C2).length = Cl.length + C2.length := List.length_append
            refine cw_call1 (d' := d - 1) hE hT dX7_readSum_61 rfl kX7_emit lX7_168 iX7_emit vX7_emit (k := 4) (i := 0) rfl ob4 rfl (Nat.le_of_ble_eq_true rfl) (by omega) (c_X7_emit hE r2.2.2.1 (by omega)) (fun g hT => ?_)
            refine ev_iinc (v := nI (i + 1)) dX7_readSum_64 rfl (nI_1 i) rfl ?_
            refine ev_goto (tgt := 7) dX7_readSum_67 (by decide) ?_
            refine ev_none 3 ?_
            exact ih (i + 1) (by omega) (by omega) _ h2 _ _ _ g eR (r2.em (x := -10) (by omega) hP.2.2) hT
  refine ev_aload_n dX7_readSum_0 rfl rfl ?_
  refine ev_iload_n dX7_readSum_1 rfl rfl ?_
  refine cw_callr1 (d' := d - 1) (b := 0) (n0 := 0) hE hT dX7_readSum_2 rfl kX7_readProduct lX7_165 iX7_readProduct vX7_readProduct (k := 4) (i := 0) rfl ob4 rfl (Nat.le_of_ble_eq_true rfl) (by omega) (hU C t n p c hP) (Nat.le_refl _) (Nat.le_refl _) (fun v9 W9 T g q9 hT => ?_) (fun E W2 C2 g q9 _ => by obtain ⟨_, h9, _⟩ := q9; cases h9)
  obtain ⟨e8, e9, r1⟩ := q9
  have e7 := e8.symm
  subst e7
  cases e9
  have r1 : rd_Q C t n p c (ps_prod t n (inn t n) p) T := r1
  refine ev_iconst (v := nI 0) dX7_readSum_5 (by decide) ?_
  refine ev_istore_n dX7_readSum_6 rfl (Nat.le_of_ble_eq_true rfl) rfl ?_
  cases hr : ps_prod t n (inn t n) p with
  | inl e =>
    rw [hr] at r1 eR0
    exact FT T g e 0 none eR0 r1 hT
  | inr v =>
    obtain ⟨h, L, Cl, F⟩ := v
    rw [hr] at r1 eR0
    exact loop n 0 (by omega) (by omega) T h L Cl F g eR0 r1 hT
theorem rd_sum {G : ev_G} {W : cw_W} {D0 : Nat} (hE : ev_En G) (h4 : ev_En4 G D0) : ∀ (k op d : Nat), op + k = 8 → 6 * k + 12 ≤ d → rd_CM G W d mX7_readSum op (fun t n p => ps_sum t n k p)
  | k, op, d, ho, hd => by
    have hI : ∀ d', d - 2 - 3 ≤ d' → rd_In G W d' op (fun t n => ps_inner t n k) := by
      intro d' hd'
      refine ⟨by omega, fun h8 t n => ?_, fun h8 => ?_⟩
      · rw [show k = 0 by omega]; rfl
      · match k, ho, hd, hd' with
        | 0, ho, _, _ => exact absurd ho (by omega)
        | k + 1, ho, hd, hd' => exact ⟨fun t n p => ps_sum t n k p, fun t n => rfl, rd_sum hE h4 k (op + 1) d' (by omega) (by omega)⟩
    have hu : rd_CM G W (d - 1 - 1) mX7_readUnit op (fun t n p => ps_unit t n (ps_inner t n k) p) := c_X7_readUnit hE h4 (by omega) (fun d' h1 _ => hI d' (by omega))
    have hp : rd_CM G W (d - 1) mX7_readProduct op (fun t n p => ps_prod t n (ps_inner t n k) p) := c_X7_readProduct0 (inn := fun t n => ps_inner t n k) hE h4 (by omega) hu
    have hs := c_X7_readSum0 (inn := fun t n => ps_inner t n k) hE h4 (by omega) hp
    intro C t n p c hP
    have := hs C t n p c hP
    simp only [ps_sum_is]
    exact this
end RM
