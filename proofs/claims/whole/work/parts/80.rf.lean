section RF
/-- all well so far, p stands next -/
def rd_G (C : mo_S) (t : Nat → Nat) (n p : Nat) : Prop := rd_X C t n ∧ C.1 120 0 = 0 ∧ rd_T t n p C
/-- a fault -/
def rd_F (C : mo_S) (t : Nat → Nat) (n f pl : Nat) : Prop := rd_X C t n ∧ C.1 120 0 = nI f ∧ 1 ≤ f ∧ f ≤ 3 ∧ C.1 33 0 = nI pl ∧ C.1 117 0 = -2
theorem rd_F.f0 {C : mo_S} {t : Nat → Nat} {n f pl : Nat} (h : rd_F C t n f pl) : ¬ C.1 120 0 = 0 := by
  rw [h.2.1]
  exact nI_ne0 h.2.2.1 (by have := h.2.2.2.1; omega)
theorem rd_fail_F {C : mo_S} {t : Nat → Nat} {n f pl : Nat} {x : Int32} (h : rd_F C t n f pl) : cx_X7_fail C x = C := by
  unfold cx_X7_fail
  rw [if_neg h.f0]
theorem rd_fail_G {C : mo_S} {t : Nat → Nat} {n p : Nat} (f : Nat) (hf1 : 1 ≤ f) (hf3 : f ≤ 3) (h : rd_G C t n p) : rd_F (cx_X7_fail C (nI f)) t n f p ∧ cx_eqX [33, 117, 120] (cx_X7_fail C (nI f)) C := by
  obtain ⟨h1, h2, h3⟩ := h
  unfold cx_X7_fail
  rw [if_pos h2]
  refine ⟨⟨h1.cg (by rw [mo_up_ne (by decide), mo_up_ne (by decide), mo_up_ne (by decide)]) (by rw [mo_up_ne (by decide), mo_up_ne (by decide), mo_up_ne (by decide)]), by rw [mo_up_ne (by decide), mo_up_ne (by decide), mo_up_at, pk_us], hf1, hf3, ?_, by rw [mo_up_at, pk_us]⟩, (((cx_eqX.r C).up (by decide)).up (by decide)).up (by decide)⟩
  rw [mo_up_ne (by decide), mo_up_at, pk_us]
  exact h3.2.1
theorem rd_next_G {C T : mo_S} {t : Nat → Nat} {n p : Nat} (hX : rd_X C t n) (hf : C.1 120 0 = 0) (hx : cx_eqX [117, 118, 119] T C) (hT : rd_T t n p T) : rd_G T t n p := ⟨hX.cg (hx 115 (by decide)) (hx 116 (by decide)), by rw [hx 120 (by decide)]; exact hf, hT⟩
/-- a sign that is neither letter nor figure -/
theorem rd_sg_c {t : Nat → Nat} {n p c : Nat} (ht : t p < 256) (hc : c < 256) (h1 : ps_let c = false) (h2 : ps_dig c = false) : rd_sg t n p = nI c ↔ (p < n ∧ t p = c) := by
  have h97 : ¬ nI c = 97 := fun q => by
    have : c = 97 := mo_niinj (by omega) (by decide) q
    rw [this] at h1; exact absurd h1 (by decide)
  have h48 : ¬ nI c = 48 := fun q => by
    have : c = 48 := mo_niinj (by omega) (by decide) q
    rw [this] at h2; exact absurd h2 (by decide)
  have hm1 : ¬ nI c = -1 := cj_ne (by omega) (by decide)
  unfold rd_sg
  by_cases q : p < n
  · rw [if_pos q]
    by_cases a : ps_let (t p) = true
    · rw [if_pos a]
      exact ⟨fun z => absurd z.symm h97, fun z => by rw [z.2, h1] at a; cases a⟩
    · rw [if_neg a]
      by_cases b : ps_dig (t p) = true
      · rw [if_pos b]
        exact ⟨fun z => absurd z.symm h48, fun z => by rw [z.2, h2] at b; cases b⟩
      · rw [if_neg b]
        exact ⟨fun z => ⟨q, mo_niinj (by omega) (by omega) z⟩, fun z => by rw [z.2]⟩
  · rw [if_neg q]
    exact ⟨fun z => absurd z.symm hm1, fun z => absurd z.1 q⟩
theorem rd_bh_c {t : Nat → Nat} {n p c : Nat} (hp : p < n) (hc : t p = c) (h1 : ps_let c = false) (h2 : ps_dig c = false) : rd_bh t n p = p + 1 := by
  unfold rd_bh
  rw [if_pos hp, hc, h1, h2]
  rfl
theorem c_X7_take_F {G : ev_G} {W : cw_W} {d n f pl : Nat} {C : mo_S} {t : Nat → Nat} {x : Int32} (hE : ev_En G) (hd : 1 ≤ d) (h : rd_F C t n f pl) (hx : ¬ x = -2) : cw_C G W d mX7_take [.ref (W 4 0), .int x] C none C := by
  refine cw_start (lv0 := [some (.ref (W 4 0)), some (.int x)]) (by decide +kernel) rfl (Nat.le_of_ble_eq_true rfl) rfl ?_
  intro K g0 g hT
  refine ev_aload_n dX7_take_0 rfl rfl ?_
  refine cw_geti (v2 := -2) hE hT dX7_take_1 fX7_22 (k := 4) (i := 0) rfl ob4 rfl h.2.2.2.2.2 ?_
  refine ev_iload_n dX7_take_4 rfl rfl ?_
  refine ev_icmp_ne (tgt := 15) dX7_take_5 (by decide) (fun _ => ?_) (fun c => absurd c.symm hx)
  refine ev_aload_n dX7_take_15 rfl rfl ?_
  refine ev_iconst (v := 1) dX7_take_16 (by decide) ?_
  refine cw_call1 (d' := d - 1) hE hT dX7_take_17 rfl kX7_fail lX7_75 iX7_fail vX7_fail (k := 4) (i := 0) rfl ob4 rfl (Nat.le_of_ble_eq_true rfl) (by omega) (c_X7_fail hE) (fun g hT => ?_)
  rw [rd_fail_F h] at hT
  exact ev_vret dX7_take_20 rfl ⟨rfl, hT⟩
theorem c_X7_take {G : ev_G} {W : cw_W} {d n p c : Nat} {C : mo_S} {t : Nat → Nat} (hE : ev_En G) (hd : 3 ≤ d) (h : rd_G C t n p) (hc : c < 256) (h1 : ps_let c = false) (h2 : ps_dig c = false) : cw_R G W d 0 0 mX7_take [.ref (W 4 0), .int (nI c)] C (fun o W2 C2 => W2 = W ∧ o = .inl none ∧ if p < n ∧ t p = c then cx_eqX [117, 118, 119] C2 C ∧ rd_G C2 t n (ps_skn t n (p + 1)) else cx_eqX [33, 117, 120] C2 C ∧ rd_F C2 t n 1 p) := by
  refine cw_startR (lv0 := [some (.ref (W 4 0)), some (.int (nI c))]) (by decide +kernel) rfl (Nat.le_of_ble_eq_true rfl) rfl ?_
  intro K g0 g hT
  obtain ⟨hX, hf, hp, t118, t117, t119⟩ := id h
  have hs := rd_sg_c (n := n) (p := p) (hX.2.2.2 p) hc h1 h2
  refine ev_aload_n dX7_take_0 rfl rfl ?_
  refine cw_geti (v2 := rd_sg t n p) hE hT dX7_take_1 fX7_22 (k := 4) (i := 0) rfl ob4 rfl t117 ?_
  refine ev_iload_n dX7_take_4 rfl rfl ?_
  refine ev_icmp_ne (tgt := 15) dX7_take_5 (by decide) (fun c_5 => ?_) (fun c_5 => ?_)
  · refine ev_aload_n dX7_take_15 rfl rfl ?_
    refine ev_iconst (v := 1) dX7_take_16 (by decide) ?_
    refine cw_call1 (d' := d - 1) hE hT dX7_take_17 rfl kX7_fail lX7_75 iX7_fail vX7_fail (k := 4) (i := 0) rfl ob4 rfl (Nat.le_of_ble_eq_true rfl) (by omega) (c_X7_fail hE) (fun g hT => ?_)
    have hq := rd_fail_G 1 (by decide) (by decide) h
    exact ev_vret dX7_take_20 rfl ⟨W, _, ⟨rfl, rfl, by rw [if_neg (fun q => c_5 (hs.mpr q))]; exact ⟨hq.2, hq.1⟩⟩, hT⟩
  · have hq := hs.mp c_5
    refine ev_aload_n dX7_take_8 rfl rfl ?_
    refine cw_callr0 (d' := d - 1) (b := 0) (n0 := 0) hE hT dX7_take_9 rfl kX7_next lX7_48 iX7_next vX7_next (k := 4) (i := 0) rfl ob4 rfl (Nat.le_of_ble_eq_true rfl) (by omega) (c_X7_next (d := d - 1) hE (by omega) hX hf (by rw [t119, rd_bh_c hq.1 hq.2 h1 h2]) (by omega)) (Nat.le_refl _) (Nat.le_refl _) (fun v9 W9 T g q9 hT => ?_) (fun E W2 C2 g q9 _ => by cases q9.2.1)
    obtain ⟨e8, e9, hx9, hT9⟩ := q9
    have e7 := e8.symm
    subst e7
    cases e9
    refine ev_goto (tgt := 20) dX7_take_12 (by decide) ?_
    exact ev_vret dX7_take_20 rfl ⟨W, T, ⟨rfl, rfl, by rw [if_pos hq]; exact ⟨hx9, rd_next_G hX hf hx9 hT9⟩⟩, hT⟩
theorem c_X7_openBracket {G : ev_G} {W : cw_W} {d n p op : Nat} {C : mo_S} {t : Nat → Nat} (hE : ev_En G) (hd : 3 ≤ d) (h : rd_G C t n p) (ho : op ≤ 8) : cw_R G W d 0 0 mX7_openBracket [.ref (W 4 0), .int (nI op)] C (fun o W2 C2 => W2 = W ∧ if p < n ∧ t p = 40 then (if op < 8 then o = .inl (some (.int 1)) ∧ cx_eqX [117, 118, 119] C2 C ∧ rd_G C2 t n (ps_skn t n (p + 1)) else o = .inl (some (.int 0)) ∧ cx_eqX [33, 117, 120] C2 C ∧ rd_F C2 t n 3 p) else o = .inl (some (.int 0)) ∧ cx_eqX [33, 117, 120] C2 C ∧ rd_F C2 t n 1 p) := by
  refine cw_startR (lv0 := [some (.ref (W 4 0)), some (.int (nI op))]) (by decide +kernel) rfl (Nat.le_of_ble_eq_true rfl) rfl ?_
  intro K g0 g hT
  obtain ⟨hX, hf, hp, t118, t117, t119⟩ := id h
  have hs := rd_sg_c (n := n) (p := p) (c := 40) (hX.2.2.2 p) (by decide) (by decide) (by decide)
  have bad : ∀ (f : Nat) (T : mo_S) (g : ev_H), rd_F T t n f p → cx_eqX [33, 117, 120] T C → (∀ g', cw_T G K g0 W g' T → ∃ W2 C2, (W2 = W ∧ if p < n ∧ t p = 40 then (if op < 8 then (.inl (some (.int 0)) : Option Value ⊕ String) = .inl (some (.int 1)) ∧ cx_eqX [117, 118, 119] C2 C ∧ rd_G C2 t n (ps_skn t n (p + 1)) else (.inl (some (.int 0)) : Option Value ⊕ String) = .inl (some (.int 0)) ∧ cx_eqX [33, 117, 120] C2 C ∧ rd_F C2 t n 3 p) else (.inl (some (.int 0)) : Option Value ⊕ String) = .inl (some (.int 0)) ∧ cx_eqX [33, 117, 120] C2 C ∧ rd_F C2 t n 1 p) ∧ cw_T G K g0 W2 g' C2) → cw_T G K g0 W g T → ev_V G d 0 0 mX7_openBracket (fun o g' => ∃ W2 C2, (W2 = W ∧ if p < n ∧ t p = 40 then (if op < 8 then o = .inl (some (.int 1)) ∧ cx_eqX [117, 118, 119] C2 C ∧ rd_G C2 t n (ps_skn t n (p + 1)) else o = .inl (some (.int 0)) ∧ cx_eqX [33, 117, 120] C2 C ∧ rd_F C2 t n 3 p) else o = .inl (some (.int 0)) ∧ cx_eqX [33, 117, 120] C2 C ∧ rd_F C2 t n 1 p) ∧ cw_T G K g0 W2 g' C2) g 28 [some (.ref (W 4 0)), some (.int (nI op))] [] := by
    intro f T g hF hx hP hT
    refine ev_aload_n dX7_openBracket_28 rfl rfl ?_
    refine cw_call0 (d' := d - 1) hE hT dX7_openBracket_29 rfl kX7_next lX7_48 iX7_next vX7_next (k := 4) (i := 0) rfl ob4 rfl (Nat.le_of_ble_eq_true rfl) (by omega) (c_X7_next_f hE hF.f0) (fun g hT => ?_)
    refine ev_aload_n dX7_openBracket_32 rfl rfl ?_
    refine cw_getf hE hT dX7_openBracket_33 fX7_31 (k := 4) (i := 0) rfl ob4 rfl ?_
    refine ev_if_ne (tgt := 43) dX7_openBracket_36 (by decide) (fun _ => ?_) (fun c => absurd c hF.f0)
    refine ev_iconst (v := 0) dX7_openBracket_43 (by decide) ?_
    exact ev_iret dX7_openBracket_44 rfl rfl (hP _ hT)
  refine ev_aload_n dX7_openBracket_0 rfl rfl ?_
  refine cw_geti (v2 := rd_sg t n p) hE hT dX7_openBracket_1 fX7_22 (k := 4) (i := 0) rfl ob4 rfl t117 ?_
  refine ev_bipush (v := nI 40) dX7_openBracket_4 (by decide) ?_
  refine ev_icmp_eq (tgt := 17) dX7_openBracket_6 (by decide) (fun c_6 => ?_) (fun c_6 => ?_)
  · have hq := hs.mp c_6
    refine ev_iload_n dX7_openBracket_17 rfl rfl ?_
    refine ev_bipush (v := 8) dX7_openBracket_18 (by decide) ?_
    refine ev_icmp_lt (tgt := 28) dX7_openBracket_20 (by decide) (fun c_20 => ?_) (fun c_20 => ?_)
    · have ho8 : op < 8 := Nat.lt_of_not_le fun q => absurd c_20 (nI_nlt (a := op) (b := 8) q (by omega))
      refine ev_aload_n dX7_openBracket_28 rfl rfl ?_
      refine cw_callr0 (d' := d - 1) (b := 0) (n0 := 0) hE hT dX7_openBracket_29 rfl kX7_next lX7_48 iX7_next vX7_next (k := 4) (i := 0) rfl ob4 rfl (Nat.le_of_ble_eq_true rfl) (by omega) (c_X7_next (d := d - 1) hE (by omega) hX hf (by rw [t119, rd_bh_c hq.1 hq.2 (by decide) (by decide)]) (by omega)) (Nat.le_refl _) (Nat.le_refl _) (fun v9 W9 T g q9 hT => ?_) (fun E W2 C2 g q9 _ => by cases q9.2.1)
      obtain ⟨e8, e9, hx9, hT9⟩ := q9
      have e7 := e8.symm
      subst e7
      cases e9
      refine ev_aload_n dX7_openBracket_32 rfl rfl ?_
      refine cw_geti (v2 := 0) hE hT dX7_openBracket_33 fX7_31 (k := 4) (i := 0) rfl ob4 rfl (by rw [hx9 120 (by decide)]; exact hf) ?_
      refine ev_if_ne (tgt := 43) dX7_openBracket_36 (by decide) (fun c => absurd rfl c) (fun _ => ?_)
      refine ev_iconst (v := 1) dX7_openBracket_39 (by decide) ?_
      refine ev_goto (tgt := 44) dX7_openBracket_40 (by decide) ?_
      exact ev_iret dX7_openBracket_44 rfl rfl ⟨W, T, ⟨rfl, by rw [if_pos hq, if_pos ho8]; exact ⟨rfl, hx9, rd_next_G hX hf hx9 hT9⟩⟩, hT⟩
    · have ho8 : ¬ op < 8 := fun q => c_20 (nI_lt (b := 8) q (by decide))
      refine ev_aload_n dX7_openBracket_23 rfl rfl ?_
      refine ev_iconst (v := 3) dX7_openBracket_24 (by decide) ?_
      refine cw_call1 (d' := d - 1) hE hT dX7_openBracket_25 rfl kX7_fail lX7_75 iX7_fail vX7_fail (k := 4) (i := 0) rfl ob4 rfl (Nat.le_of_ble_eq_true rfl) (by omega) (c_X7_fail hE) (fun g hT => ?_)
      have hQ := rd_fail_G 3 (by decide) (by decide) h
      exact bad 3 _ g hQ.1 hQ.2 (fun g' hT' => ⟨W, _, ⟨rfl, by rw [if_pos hq, if_neg ho8]; exact ⟨rfl, hQ.2, hQ.1⟩⟩, hT'⟩) hT
  · refine ev_aload_n dX7_openBracket_9 rfl rfl ?_
    refine ev_iconst (v := 1) dX7_openBracket_10 (by decide) ?_
    refine cw_call1 (d' := d - 1) hE hT dX7_openBracket_11 rfl kX7_fail lX7_75 iX7_fail vX7_fail (k := 4) (i := 0) rfl ob4 rfl (Nat.le_of_ble_eq_true rfl) (by omega) (c_X7_fail hE) (fun g hT => ?_)
    have hQ := rd_fail_G 1 (by decide) (by decide) h
    refine ev_goto (tgt := 28) dX7_openBracket_14 (by decide) ?_
    exact bad 1 _ g hQ.1 hQ.2 (fun g' hT' => ⟨W, _, ⟨rfl, by rw [if_neg (fun q => c_6 (hs.mpr q))]; exact ⟨rfl, hQ.2, hQ.1⟩⟩, hT'⟩) hT
end RF
