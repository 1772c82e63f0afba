section RG
theorem ps_figs_rn (t : Nat → Nat) : ∀ m h v, (ps_figs t m h v).1 = rd_rn ps_dig t m h
  | 0, h, v => rfl
  | m + 1, h, v => by
    simp only [ps_figs, rd_rn]
    split
    · exact ps_figs_rn t m (h + 1) _
    · rfl
theorem rd_sg_48 {t : Nat → Nat} {n p : Nat} (ht : t p < 256) : rd_sg t n p = 48 ↔ ps_dig (ps_bt t n p) = true := by
  unfold rd_sg ps_bt
  by_cases q : p < n
  · rw [if_pos q, if_pos q]
    by_cases a : ps_let (t p) = true
    · rw [if_pos a]
      refine ⟨fun z => absurd z (by decide), fun z => ?_⟩
      have a1 := of_decide_eq_true a
      have z1 := of_decide_eq_true z
      omega
    · rw [if_neg a]
      by_cases b : ps_dig (t p) = true
      · rw [if_pos b]
        exact ⟨fun _ => b, fun _ => rfl⟩
      · rw [if_neg b]
        refine ⟨fun z => ?_, fun z => absurd z b⟩
        have : t p = 48 := mo_niinj (by omega) (by decide) z
        rw [this] at b
        exact absurd (by decide) b
  · rw [if_neg q, if_neg q]
    exact ⟨fun z => absurd z (by decide), fun z => absurd z (by decide)⟩
theorem rd_sg_97 {t : Nat → Nat} {n p : Nat} (ht : t p < 256) : rd_sg t n p = 97 ↔ (p < n ∧ ps_let (t p) = true) := by
  unfold rd_sg
  by_cases q : p < n
  · rw [if_pos q]
    by_cases a : ps_let (t p) = true
    · rw [if_pos a]
      exact ⟨fun _ => ⟨q, a⟩, fun _ => rfl⟩
    · rw [if_neg a]
      refine ⟨fun z => ?_, fun z => absurd z.2 a⟩
      by_cases b : ps_dig (t p) = true
      · rw [if_pos b] at z; exact absurd z (by decide)
      · rw [if_neg b] at z
        have : t p = 97 := mo_niinj (by omega) (by decide) z
        rw [this] at a
        exact absurd (by decide) a
  · rw [if_neg q]
    exact ⟨fun z => absurd z (by decide), fun z => absurd z.1 q⟩
/-- the word that stands at p: which of these -/
def rd_wf (t : Nat → Nat) (n p : Nat) (L : List Nat) : Option Nat := if p < n ∧ ps_let (t p) = true then rd_wa L (rd_isw t n p L) (L.length + 1) 0 0 0 else none
theorem c_X7_wordAmong_G {G : ev_G} {W : cw_W} {d D0 n p a : Nat} {C : mo_S} {t : Nat → Nat} {L : List Nat} (hE : ev_En G) (h4 : ev_En4 G D0) (hd : 5 ≤ d) (h : rd_G C t n p) (hs : ev_str G a L) : cw_C G W d mX7_wordAmong [.ref (W 4 0), .ref a] C (some (.int (sp_opt (rd_wf t n p L)))) C := by
  have hq := rd_sg_97 (n := n) (p := p) (h.1.2.2.2 p)
  unfold rd_wf
  by_cases z : p < n ∧ ps_let (t p) = true
  · rw [if_pos z]
    exact c_X7_wordAmong hE h4 hd h.1 h.2.2 hs (by rw [h.2.2.2.2.1]; exact hq.mpr z)
  · rw [if_neg z]
    exact c_X7_wordAmong_n hE (fun q => z (hq.mp (by rw [← h.2.2.2.2.1]; exact q)))
theorem c_X7_takeWord_F {G : ev_G} {W : cw_W} {d n f pl a : Nat} {C : mo_S} {t : Nat → Nat} (hE : ev_En G) (hd : 2 ≤ d) (h : rd_F C t n f pl) : cw_C G W d mX7_takeWord [.ref (W 4 0), .ref a] C (some (.int (-1))) C := by
  refine cw_start (lv0 := [some (.ref (W 4 0)), some (.ref a), none]) (by decide +kernel) rfl (Nat.le_of_ble_eq_true rfl) rfl ?_
  intro K g0 g hT
  refine ev_aload_n dX7_takeWord_0 rfl rfl ?_
  refine ev_aload_n dX7_takeWord_1 rfl rfl ?_
  refine cw_call1 (d' := d - 1) hE hT dX7_takeWord_2 rfl kX7_wordAmong lX7_92 iX7_wordAmong vX7_wordAmong (k := 4) (i := 0) rfl ob4 rfl (Nat.le_of_ble_eq_true rfl) (by omega) (c_X7_wordAmong_n hE (by rw [h.2.2.2.2.2]; decide)) (fun g hT => ?_)
  refine ev_istore_n dX7_takeWord_5 rfl (Nat.le_of_ble_eq_true rfl) rfl ?_
  refine ev_iload_n dX7_takeWord_6 rfl rfl ?_
  refine ev_iconst (v := -1) dX7_takeWord_7 (by decide) ?_
  refine ev_icmp_ne (tgt := 19) dX7_takeWord_8 (by decide) (fun c => absurd rfl c) (fun _ => ?_)
  refine ev_aload_n dX7_takeWord_11 rfl rfl ?_
  refine ev_iconst (v := 1) dX7_takeWord_12 (by decide) ?_
  refine cw_call1 (d' := d - 1) hE hT dX7_takeWord_13 rfl kX7_fail lX7_75 iX7_fail vX7_fail (k := 4) (i := 0) rfl ob4 rfl (Nat.le_of_ble_eq_true rfl) (by omega) (c_X7_fail hE) (fun g hT => ?_)
  rw [rd_fail_F h] at hT
  refine ev_goto (tgt := 23) dX7_takeWord_16 (by decide) ?_
  refine ev_iload_n dX7_takeWord_23 rfl rfl ?_
  exact ev_iret dX7_takeWord_24 rfl rfl ⟨rfl, hT⟩
theorem c_X7_takeWord {G : ev_G} {W : cw_W} {d D0 n p a : Nat} {C : mo_S} {t : Nat → Nat} {L : List Nat} (hE : ev_En G) (h4 : ev_En4 G D0) (hd : 6 ≤ d) (h : rd_G C t n p) (hs : ev_str G a L) (hx : ∀ x, rd_wf t n p L = some x → x < 100) : cw_R G W d 0 0 mX7_takeWord [.ref (W 4 0), .ref a] C (fun o W2 C2 => W2 = W ∧ o = .inl (some (.int (sp_opt (rd_wf t n p L)))) ∧ match rd_wf t n p L with
    | some _ => cx_eqX [117, 118, 119] C2 C ∧ rd_G C2 t n (ps_skn t n (rd_bh t n p))
    | none => cx_eqX [33, 117, 120] C2 C ∧ rd_F C2 t n 1 p) := by
  refine cw_startR (lv0 := [some (.ref (W 4 0)), some (.ref a), none]) (by decide +kernel) rfl (Nat.le_of_ble_eq_true rfl) rfl ?_
  intro K g0 g hT
  obtain ⟨hX, hf, hp, t118, t117, t119⟩ := id h
  have hbh := rd_bh_in (t := t) hp
  refine ev_aload_n dX7_takeWord_0 rfl rfl ?_
  refine ev_aload_n dX7_takeWord_1 rfl rfl ?_
  refine cw_call1 (d' := d - 1) hE hT dX7_takeWord_2 rfl kX7_wordAmong lX7_92 iX7_wordAmong vX7_wordAmong (k := 4) (i := 0) rfl ob4 rfl (Nat.le_of_ble_eq_true rfl) (by omega) (c_X7_wordAmong_G hE h4 (by omega) h hs) (fun g hT => ?_)
  refine ev_istore_n dX7_takeWord_5 rfl (Nat.le_of_ble_eq_true rfl) rfl ?_
  refine ev_iload_n dX7_takeWord_6 rfl rfl ?_
  refine ev_iconst (v := -1) dX7_takeWord_7 (by decide) ?_
  cases hr : rd_wf t n p L with
  | none =>
    refine ev_icmp_ne (tgt := 19) dX7_takeWord_8 (by decide) (fun c => absurd rfl c) (fun _ => ?_)
    refine ev_aload_n dX7_takeWord_11 rfl rfl ?_
    refine ev_iconst (v := 1) dX7_takeWord_12 (by decide) ?_
    refine cw_call1 (d' := d - 1) hE hT dX7_takeWord_13 rfl kX7_fail lX7_75 iX7_fail vX7_fail (k := 4) (i := 0) rfl ob4 rfl (Nat.le_of_ble_eq_true rfl) (by omega) (c_X7_fail hE) (fun g hT => ?_)
    have hq := rd_fail_G 1 (by decide) (by decide) h
    refine ev_goto (tgt := 23) dX7_takeWord_16 (by decide) ?_
    refine ev_iload_n dX7_takeWord_23 rfl rfl ?_
    exact ev_iret dX7_takeWord_24 rfl rfl ⟨W, _, ⟨rfl, rfl, hq.2, hq.1⟩, hT⟩
  | some x =>
    have hx9' := hx x hr
    refine ev_icmp_ne (tgt := 19) dX7_takeWord_8 (by decide) (fun _ => ?_) (fun c => absurd c (cj_ne (by omega) (by decide)))
    refine ev_aload_n dX7_takeWord_19 rfl rfl ?_
    refine cw_callr0 (d' := d - 1) (b := 0) (n0 := 0) hE hT dX7_takeWord_20 rfl kX7_next lX7_48 iX7_next vX7_next (k := 4) (i := 0) rfl ob4 rfl (Nat.le_of_ble_eq_true rfl) (by omega) (c_X7_next (d := d - 1) hE (by omega) hX hf t119 hbh.2) (Nat.le_refl _) (Nat.le_refl _) (fun v9 W9 T g q9 hT => ?_) (fun E W2 C2 g q9 _ => by cases q9.2.1)
    obtain ⟨e8, e9, hx9, hT9⟩ := q9
    have e7 := e8.symm
    subst e7
    cases e9
    refine ev_iload_n dX7_takeWord_23 rfl rfl ?_
    exact ev_iret dX7_takeWord_24 rfl rfl ⟨W, T, ⟨rfl, rfl, hx9, rd_next_G hX hf hx9 hT9⟩, hT⟩
theorem c_X7_takeNumber_F {G : ev_G} {W : cw_W} {d n f pl : Nat} {C : mo_S} {t : Nat → Nat} {lo hi : Int32} (hE : ev_En G) (hd : 1 ≤ d) (h : rd_F C t n f pl) : cw_C G W d mX7_takeNumber [.ref (W 4 0), .int lo, .int hi] C (some (.int lo)) C := by
  refine cw_start (lv0 := [some (.ref (W 4 0)), some (.int lo), some (.int hi), none, none]) (by decide +kernel) rfl (Nat.le_of_ble_eq_true rfl) rfl ?_
  intro K g0 g hT
  refine ev_aload_n dX7_takeNumber_0 rfl rfl ?_
  refine cw_geti (v2 := -2) hE hT dX7_takeNumber_1 fX7_22 (k := 4) (i := 0) rfl ob4 rfl h.2.2.2.2.2 ?_
  refine ev_bipush (v := 48) dX7_takeNumber_4 (by decide) ?_
  refine ev_icmp_eq (tgt := 16) dX7_takeNumber_6 (by decide) (fun c => absurd c (by decide)) (fun _ => ?_)
  refine ev_aload_n dX7_takeNumber_9 rfl rfl ?_
  refine ev_iconst (v := 1) dX7_takeNumber_10 (by decide) ?_
  refine cw_call1 (d' := d - 1) hE hT dX7_takeNumber_11 rfl kX7_fail lX7_75 iX7_fail vX7_fail (k := 4) (i := 0) rfl ob4 rfl (Nat.le_of_ble_eq_true rfl) (by omega) (c_X7_fail hE) (fun g hT => ?_)
  rw [rd_fail_F h] at hT
  refine ev_iload_n dX7_takeNumber_14 rfl rfl ?_
  exact ev_iret dX7_takeNumber_15 rfl rfl ⟨rfl, hT⟩
theorem c_X7_takeNumber {G : ev_G} {W : cw_W} {d D0 n p lo hi : Nat} {C : mo_S} {t : Nat → Nat} (hE : ev_En G) (h4 : ev_En4 G D0) (hd : 3 ≤ d) (h : rd_G C t n p) (hlo : lo ≤ 9999) (hhi : hi ≤ 9999) : cw_R G W d 0 0 mX7_takeNumber [.ref (W 4 0), .int (nI lo), .int (nI hi)] C (fun o W2 C2 => W2 = W ∧ (∃ x, o = .inl (some (.int x))) ∧ if ps_dig (ps_bt t n p) = true then (if (ps_fig t n p).2 < lo ∨ hi < (ps_fig t n p).2 then cx_eqX [33, 117, 120] C2 C ∧ rd_F C2 t n 2 p else o = .inl (some (.int (nI (ps_fig t n p).2))) ∧ cx_eqX [117, 118, 119] C2 C ∧ rd_G C2 t n (ps_skn t n (ps_fig t n p).1)) else cx_eqX [33, 117, 120] C2 C ∧ rd_F C2 t n 1 p) := by
  refine cw_startR (lv0 := [some (.ref (W 4 0)), some (.int (nI lo)), some (.int (nI hi)), none, none]) (by decide +kernel) rfl (Nat.le_of_ble_eq_true rfl) rfl ?_
  intro K g0 g hT
  obtain ⟨hX, hf, hp, t118, t117, t119⟩ := id h
  have hn3 := hX.2.1
  have hsg := rd_sg_48 (n := n) (p := p) (hX.2.2.2 p)
  refine ev_aload_n dX7_takeNumber_0 rfl rfl ?_
  refine cw_geti (v2 := rd_sg t n p) hE hT dX7_takeNumber_1 fX7_22 (k := 4) (i := 0) rfl ob4 rfl t117 ?_
  refine ev_bipush (v := 48) dX7_takeNumber_4 (by decide) ?_
  refine ev_icmp_eq (tgt := 16) dX7_takeNumber_6 (by decide) (fun c_6 => ?_) (fun c_6 => ?_)
  · have hdg := hsg.mp c_6
    have hpn : p < n := by
      rcases Nat.lt_or_ge p n with q | q
      · exact q
      · unfold ps_bt at hdg; rw [if_neg (by omega)] at hdg; exact absurd hdg (by decide)
    have hdp : ps_dig (t p) = true := by unfold ps_bt at hdg; rw [if_pos hpn] at hdg; exact hdg
    have hnl : ps_let (t p) = false := by
      have z := of_decide_eq_true hdp
      exact decide_eq_false (by omega)
    have hq : rd_bh t n p = rd_end ps_dig t n p := by
      unfold rd_bh
      rw [if_pos hpn, hnl, if_neg (by decide), if_pos hdp, rd_end_s hpn hdp]
    have hbh := rd_bh_in (t := t) hp
    have he : (ps_fig t n p).1 = rd_bh t n p := by rw [hq]; exact ps_figs_rn t (n - p) p 0
    have hin := ps_figs_in t (n - p) p 0 (by decide)
    simp only [if_pos hdg]
    refine ev_iconst (v := nI 0) dX7_takeNumber_16 (by decide) ?_
    refine ev_istore_n dX7_takeNumber_17 rfl (Nat.le_of_ble_eq_true rfl) rfl ?_
    refine ev_aload_n dX7_takeNumber_18 rfl rfl ?_
    refine cw_geti (v2 := nI p) hE hT dX7_takeNumber_19 fX7_25 (k := 4) (i := 0) rfl ob4 rfl t118 ?_
    refine ev_istore dX7_takeNumber_22 (Nat.le_of_ble_eq_true rfl) rfl ?_
    have loop : ∀ (m i v : Nat), rd_bh t n p - i = m → i ≤ rd_bh t n p → rd_end ps_dig t n i = rd_bh t n p → ps_figs t (n - i) i v = ps_fig t n p → v ≤ 1000009 → ∀ g, cw_T G K g0 W g C → ev_V G d 0 0 mX7_takeNumber (fun o g' => ∃ W2 C2, (W2 = W ∧ (∃ x, o = .inl (some (.int x))) ∧ (if (ps_fig t n p).2 < lo ∨ hi < (ps_fig t n p).2 then cx_eqX [33, 117, 120] C2 C ∧ rd_F C2 t n 2 p else o = .inl (some (.int (nI (ps_fig t n p).2))) ∧ cx_eqX [117, 118, 119] C2 C ∧ rd_G C2 t n (ps_skn t n (ps_fig t n p).1))) ∧ cw_T G K g0 W2 g' C2) g 24 [some (.ref (W 4 0)), some (.int (nI lo)), some (.int (nI hi)), some (.int (nI (min v 10000))), some (.int (nI i))] [] := by
      intro m
      induction m with
      | zero =>
        intro i v hi9 h1 h3 h5 h6 g hT
        have : i = rd_bh t n p := by omega
        have hv : (ps_fig t n p).2 = v := by
          rw [← h5]
          have hnd : ¬ (i < n ∧ ps_dig (t i) = true) := fun q => by
            have e1 := rd_end_s q.1 q.2
            have e2 := rd_end_in (f := ps_dig) (t := t) (n := n) (h := i + 1) (by omega)
            omega
          by_cases e : i < n
          · rw [show n - i = (n - (i + 1)) + 1 by omega, ps_figs, if_neg (fun q => hnd ⟨e, q⟩)]
          · rw [show n - i = 0 by omega, ps_figs]
        refine ev_iload dX7_takeNumber_24 rfl ?_
        refine ev_aload_n dX7_takeNumber_26 rfl rfl ?_
        refine cw_geti (v2 := nI (rd_bh t n p)) hE hT dX7_takeNumber_27 fX7_28 (k := 4) (i := 0) rfl ob4 rfl t119 ?_
        refine ev_icmp_ge (tgt := 60) dX7_takeNumber_30 (by decide) (fun _ => ?_) (fun c => absurd (nI_le (by omega) (by omega)) c)
        refine ev_iload_n dX7_takeNumber_60 rfl rfl ?_
        refine ev_iload_n dX7_takeNumber_61 rfl rfl ?_
        refine ev_iload_n dX7_takeNumber_62 rfl rfl ?_
        refine cw_nS3 (d' := d - 1) h4 dX7_takeNumber_63 rfl kX11_within (by decide +kernel) sX11_within (Nat.le_of_ble_eq_true rfl) (by omega) c_X11_within ?_
        have hwi : cx_X11_within (nI (min v 10000)) (nI lo) (nI hi) = decide (¬ (v < lo ∨ hi < v)) := by
          rw [cx_within_in]
          unfold sp_in
          refine decide_eq_decide.mpr ⟨fun q => ?_, fun q => ?_⟩
          · have q1 : ¬ min v 10000 < lo := fun z => absurd q.1 (nI_ge z (by omega))
            have q2 : ¬ hi < min v 10000 := fun z => absurd q.2 (nI_ge z (by omega))
            omega
          · exact ⟨nI_le (by omega) (by omega), nI_le (by omega) (by omega)⟩
        rw [hwi]
        by_cases hw : v < lo ∨ hi < v
        · rw [decide_eq_false (fun z => z hw)]
          refine ev_if_ne (tgt := 74) dX7_takeNumber_66 (by decide) (fun c => absurd rfl c) (fun _ => ?_)
          refine ev_aload_n dX7_takeNumber_69 rfl rfl ?_
          refine ev_iconst (v := 2) dX7_takeNumber_70 (by decide) ?_
          refine cw_call1 (d' := d - 1) hE hT dX7_takeNumber_71 rfl kX7_fail lX7_75 iX7_fail vX7_fail (k := 4) (i := 0) rfl ob4 rfl (Nat.le_of_ble_eq_true rfl) (by omega) (c_X7_fail hE) (fun g hT => ?_)
          have hQ := rd_fail_G 2 (by decide) (by decide) h
          refine ev_aload_n dX7_takeNumber_74 rfl rfl ?_
          refine cw_call0 (d' := d - 1) hE hT dX7_takeNumber_75 rfl kX7_next lX7_48 iX7_next vX7_next (k := 4) (i := 0) rfl ob4 rfl (Nat.le_of_ble_eq_true rfl) (by omega) (c_X7_next_f hE hQ.1.f0) (fun g hT => ?_)
          refine ev_iload_n dX7_takeNumber_78 rfl rfl ?_
          exact ev_iret dX7_takeNumber_79 rfl rfl ⟨W, _, ⟨rfl, ⟨_, rfl⟩, by rw [hv, if_pos hw]; exact ⟨hQ.2, hQ.1⟩⟩, hT⟩
        · rw [decide_eq_true hw]
          refine ev_if_ne (tgt := 74) dX7_takeNumber_66 (by decide) (fun _ => ?_) (fun c => absurd c (by decide))
          refine ev_aload_n dX7_takeNumber_74 rfl rfl ?_
          refine cw_callr0 (d' := d - 1) (b := 0) (n0 := 0) hE hT dX7_takeNumber_75 rfl kX7_next lX7_48 iX7_next vX7_next (k := 4) (i := 0) rfl ob4 rfl (Nat.le_of_ble_eq_true rfl) (by omega) (c_X7_next (d := d - 1) hE (by omega) hX hf t119 hbh.2) (Nat.le_refl _) (Nat.le_refl _) (fun v9 W9 T g q9 hT => ?_) (fun E W2 C2 g q9 _ => by cases q9.2.1)
          obtain ⟨e8, e9, hx9, hT9⟩ := q9
          have e7 := e8.symm
          subst e7
          cases e9
          refine ev_iload_n dX7_takeNumber_78 rfl rfl ?_
          exact ev_iret dX7_takeNumber_79 rfl rfl ⟨W, T, ⟨rfl, ⟨_, rfl⟩, by rw [hv, if_neg hw]; exact ⟨by rw [Nat.min_eq_left (by omega)], hx9, by rw [he]; exact rd_next_G hX hf hx9 hT9⟩⟩, hT⟩
      | succ m ih =>
        intro i v hi9 h1 h3 h5 h6 g hT
        have hdi : i < n ∧ ps_dig (t i) = true := by
          rcases Nat.lt_or_ge i n with q | q
          · refine ⟨q, ?_⟩
            cases z : ps_dig (t i) with
            | true => rfl
            | false =>
              have := rd_end_e (f := ps_dig) (t := t) (n := n) (h := i) (fun y => by rw [z] at y; exact absurd y.2 (by decide)) (by omega)
              omega
          · omega
        have hz := of_decide_eq_true hdi.2
        refine ev_iload dX7_takeNumber_24 rfl ?_
        refine ev_aload_n dX7_takeNumber_26 rfl rfl ?_
        refine cw_geti (v2 := nI (rd_bh t n p)) hE hT dX7_takeNumber_27 fX7_28 (k := 4) (i := 0) rfl ob4 rfl t119 ?_
        refine ev_icmp_ge (tgt := 60) dX7_takeNumber_30 (by decide) (fun c => absurd c (nI_ge (by omega) (by omega))) (fun _ => ?_)
        refine ev_iload_n dX7_takeNumber_33 rfl rfl ?_
        refine ev_bipush (v := nI 10) dX7_takeNumber_34 (by decide) ?_
        refine ev_imul dX7_takeNumber_36 ?_
        rw [pk_mul]
        refine ev_aload_n dX7_takeNumber_37 rfl rfl ?_
        refine ev_iload dX7_takeNumber_38 rfl ?_
        refine cw_call1 (d' := d - 1) hE hT dX7_takeNumber_40 rfl kX7_byteAt lX7_58 iX7_byteAt vX7_byteAt (k := 4) (i := 0) rfl ob4 rfl (Nat.le_of_ble_eq_true rfl) (by omega) (c_X7_byteAt2 hE hX (by omega)) (fun g hT => ?_)
        rw [show rd_by t n i = nI (t i) from if_pos hdi.1]
        refine ev_iadd dX7_takeNumber_43 ?_
        rw [nI_add]
        refine ev_bipush (v := nI 48) dX7_takeNumber_44 (by decide) ?_
        refine ev_isub dX7_takeNumber_46 ?_
        rw [pk_sub (by omega)]
        refine ev_sipush (v := nI 10000) dX7_takeNumber_47 (by decide) ?_
        refine ev_mmin dX7_takeNumber_50 lX7_62 (Nat.le_of_ble_eq_true rfl) (by omega) ?_
        rw [cl_min (by omega) (by decide)]
        refine ev_istore_n dX7_takeNumber_53 rfl (Nat.le_of_ble_eq_true rfl) rfl ?_
        refine ev_iinc (v := nI (i + 1)) dX7_takeNumber_54 rfl (nI_1 i) rfl ?_
        refine ev_goto (tgt := 24) dX7_takeNumber_57 (by decide) ?_
        rw [show min (min v 10000 * 10 + t i - 48) 10000 = min (if 100000 < v then v else 10 * v + t i - 48) 10000 by split <;> omega]
        refine ih (i + 1) (if 100000 < v then v else 10 * v + t i - 48) (by omega) (by omega) ((rd_end_s hdi.1 hdi.2).symm.trans h3) ?_ (by split <;> omega) g hT
        rw [← h5, show n - i = (n - (i + 1)) + 1 by omega, ps_figs, if_pos hdi.2]
    exact loop _ p 0 rfl hbh.1 hq.symm rfl (by decide) g hT
  · simp only [if_neg (fun q => c_6 (hsg.mpr q))]
    refine ev_aload_n dX7_takeNumber_9 rfl rfl ?_
    refine ev_iconst (v := 1) dX7_takeNumber_10 (by decide) ?_
    refine cw_call1 (d' := d - 1) hE hT dX7_takeNumber_11 rfl kX7_fail lX7_75 iX7_fail vX7_fail (k := 4) (i := 0) rfl ob4 rfl (Nat.le_of_ble_eq_true rfl) (by omega) (c_X7_fail hE) (fun g hT => ?_)
    have hq := rd_fail_G 1 (by decide) (by decide) h
    refine ev_iload_n dX7_takeNumber_14 rfl rfl ?_
    exact ev_iret dX7_takeNumber_15 rfl rfl ⟨W, _, ⟨rfl, ⟨_, rfl⟩, hq.2, hq.1⟩, hT⟩
end RG
