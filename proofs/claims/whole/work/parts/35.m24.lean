section M24
theorem ps_Q.t {S U T : mo_S} {N h o c O e : Nat} {r : ps_R} (h0 : ps_P S N h o c O) (hG : ps_G S N h c O U e []) (hQ : ps_Q U N e c O r T) : ps_Q S N h c O r T := by
  unfold ps_Q at hQ ⊢
  match r, hQ with
  | .inl (w, pl), hQ => exact ps_B.t (L := []) (h := h) (o := o) hG hQ
  | .inr (h2, L, C, F), hQ =>
    obtain ⟨e2, a, b⟩ := hQ
    have q := ps_G.t (L := []) h0 hG a (Nat.le_refl _)
    rw [hG.tx] at b
    exact ⟨e2, q, b⟩
theorem ps_tx_31 {S : mo_S} {v : Int32} : ps_tx (mo_up S 31 0 v) = ps_tx S := ps_tx_up (by decide)
theorem ps_nn_pos : ∀ k, k < 8 → ∀ c ∈ ps_nn k, 0 < c := by decide
theorem ps_nn_len : ∀ k, k < 8 → 4 ≤ (ps_nn k).length := by decide

theorem ps_MQ {G : ev_G} {P Q : ev_P} {below : List Frame} {args : Array Value} {s : State} {mc ms : Nat} {free : Addr → Prop} {t : State} (h : ∀ o g', P o g' → Q o g') (b : vx_MQ below (ev_Q G P) (ev_X G P) args s mc ms free t) : vx_MQ below (ev_Q G Q) (ev_X G Q) args s mc ms free t := by
  obtain ⟨o, b1, b2, b3⟩ := b
  refine ⟨o, b1, b2, ?_⟩
  rcases b3 with ⟨⟨v, g', c1, c2, c3⟩, c4⟩ | b3
  · exact Or.inl ⟨⟨v, g', c1, c2, h _ _ c3⟩, c4⟩
  · obtain ⟨q, ho, E, ce, L, ⟨g', d1, d2⟩, c5⟩ := b3
    exact Or.inr ⟨q, ho, E, ce, L, ⟨g', d1, h _ _ d2⟩, c5⟩
theorem ps_post {G : ev_G} {d bc bs : Nat} {M : ev_M} {P Q : ev_P} {g : ev_H} {pc : Nat} {lv : List (Option Value)} {st : List Value} (h : ∀ o g', P o g' → Q o g') (k : ev_V G d bc bs M P g pc lv st) : ev_V G d bc bs M Q g pc lv st := by
  intro p e s m args below meth c H locs cells slots mc ms ls hC hR hS hc hs hl T hT X
  obtain ⟨t, a, b⟩ := k p e s m args below meth c H locs cells slots mc ms ls hC hR hS hc hs hl T hT X
  exact ⟨t, a, ps_MQ h b⟩
theorem uo_min {G : ev_G} {W : mo_W} {d k9 : Nat} {g0 : ev_H} {S : mo_S} {N h o c O : Nat} (hE : ev_En G) (hd : 8 ≤ d) (hsF : ps_CF G W (d - 1) mX12_sum) (hs0 : ∀ k, k9 = k + 1 → ps_CM G W (d - 1) k mX12_sum (fun t n => ps_sum t n k)) (h0 : ps_P S N h o c O) (hok : o + k9 = 8) : ∀ g, mo_T G W g0 g S → ev_V G d 0 0 mX12_unit (fun o g' => ∃ r S2, o = .inl r ∧ (r = none ∧ ps_Q S N h c O (ps_two (ps_tx S) N (ps_inner (ps_tx S) N k9) true (ps_skn (ps_tx S) N h)) S2) ∧ mo_T G W g0 g' S2) g 118 [some (.ref W.1), some (.int 1), some (.int 0)] [] := by
  intro g hT
  refine ev_aload_n dX12_unit_118 rfl rfl ?_
  refine mo_call0 (d' := d - 1) hE hT dX12_unit_119 rfl rfl kX12_opens lX12_329 iX12_opens vX12_opens (Nat.le_of_ble_eq_true rfl) (by omega) (c_X12_opens hE (by omega) h0.1 h0.2.1 h0.2.2.1 h0.2.2.2.1) (fun g hT => ?_)
  have hp := ps_skn_in (t := (ps_tx S)) h0.1.2.2.2
  have hn3 := h0.1.2.1
  by_cases hb : ps_skn (ps_tx S) N h < N ∧ (ps_tx S) (ps_skn (ps_tx S) N h) = 40
  rotate_left
  · rw [if_neg hb] at hT
    have hB : ps_B S N c O _ 1 (ps_skn (ps_tx S) N h) := (ps_G.r h0).wr (pl := ps_skn (ps_tx S) N h) hp.2 (by decide)
    refine un_122 (lo := true) (tp := false) hE (by omega) hsF hB (fun U g hB hT => ⟨_, _, rfl, ⟨rfl, ?_⟩, hT⟩) g hT
    try dsimp only
    rw [show ps_two (ps_tx S) N (ps_inner (ps_tx S) N _) true (ps_skn (ps_tx S) N h) = .inl (1, ps_skn (ps_tx S) N h) from if_neg hb]
    exact hB
  rw [if_pos hb] at hT
  by_cases h88 : o = 8
  · rw [if_pos h88] at hT
    have hB0 : ps_B S N c O _ 3 (ps_skn (ps_tx S) N h) := (ps_G.r h0).wr (pl := ps_skn (ps_tx S) N h) hp.2 (by decide)
    have hF1 := ps_FR.o (v := nI (o + 1)) hB0.f
    obtain ⟨e1, he1⟩ := hF1.2
    have hB := hB0.fr (hF1.t (ps_FR.h (he1.up (j := ps_skn (ps_tx S) N h + 1) (by omega))))
    refine un_122 (lo := true) (tp := false) hE (by omega) hsF hB (fun U g hB hT => ⟨_, _, rfl, ⟨rfl, ?_⟩, hT⟩) g hT
    try dsimp only
    have hk0 : k9 = 0 := by omega
    subst hk0
    rw [show ps_two (ps_tx S) N (ps_inner (ps_tx S) N 0) true (ps_skn (ps_tx S) N h) = .inl (3, ps_skn (ps_tx S) N h) from by unfold ps_two ps_op; rw [if_pos hb]; rfl]
    exact hB
  rw [if_neg h88] at hT
  obtain ⟨k, hk⟩ : ∃ k, k9 = k + 1 := ⟨k9 - 1, by omega⟩
  subst hk
  have hs := hs0 k rfl
  have hT : mo_T G W g0 g (ps_opn S (ps_skn (ps_tx S) N h) o) := hT
  generalize hpp : ps_skn (ps_tx S) N h = p at *
  have ho8 : o < 8 := by have := h0.2.2.2.1; omega
  have hP1 := h0.op (p := p) ho8 (by omega) (by omega)
  have hG0 := ps_G.r hP1
  have hR0 : ps_two (ps_tx S) N (ps_inner (ps_tx S) N (k + 1)) true p = ps_bind (ps_sum (ps_tx S) N k (ps_skn (ps_tx S) N (p + 1))) _ := if_pos hb
  refine ev_aload_n dX12_unit_122 rfl rfl ?_
  refine mo_callr0 (d' := d - 1) hE hT dX12_unit_123 rfl rfl kX12_sum lX12_332 iX12_sum vX12_sum (Nat.le_of_ble_eq_true rfl) (by omega) (hs _ N (p + 1) (o + 1) _ O (hG0.P hP1) (by omega)) (fun r T1 g h8 hT => ?_)
  obtain ⟨rfl, h8⟩ := h8
  dsimp only at h8
  rw [hG0.tx, ps_opn_tx] at h8
  cases hu1 : ps_sum (ps_tx S) N k (ps_skn (ps_tx S) N (p + 1)) with
  | inl q =>
    obtain ⟨w, pl⟩ := q
    rw [hu1] at h8
    have hB : ps_B S N c O T1 w pl := ps_B.op (ps_B.t (h := p + 1) (o := o + 1) hG0 h8)
    refine un_126 (lo := true) (tp := false) hE (by omega) hsF hB (fun U g hB hT => ⟨_, _, rfl, ⟨rfl, ?_⟩, hT⟩) g hT
    try dsimp only
    rw [hR0, hu1]
    exact hB
  | inr q =>
    obtain ⟨h1, L1, C1, F1⟩ := q
    rw [hu1] at h8
    obtain ⟨e1, hH1, hk1⟩ := h8
    rw [hG0.tx, ps_opn_tx] at hk1
    have hG1 := ps_G.t hP1 hG0 hH1 (Nat.le_refl _)
    have hN1 := hG1.2.1.2.2.2
    have hl1 := ps_skn_in (t := (ps_tx S)) hN1
    rw [hk1] at hl1
    have hx1 : ps_tx T1 = (ps_tx S) := hG1.tx.trans ps_opn_tx
    have hS1 := hR0
    rw [hu1] at hS1
    dsimp only [ps_bind] at hS1
    refine ev_iload_n dX12_unit_126 rfl rfl ?_
    refine ev_if_ne (tgt := 134) dX12_unit_127 (by decide) (fun c_127 => ?_) (fun c_127 => absurd c_127 (by decide))
    refine ev_aload_n dX12_unit_134 rfl rfl ?_
    refine ev_bipush (v := nI 44) dX12_unit_135 (by decide) ?_
    refine mo_call1 (d' := d - 1) hE hT dX12_unit_137 rfl rfl kX12_sign lX12_298 iX12_sign vX12_sign (Nat.le_of_ble_eq_true rfl) (by omega) (c_X12_sign (c := 44) hE (by omega) hG1.2.1 hG1.2.2.2.1 (by decide)) (fun g hT => ?_)
    rw [hG1.tx, ps_opn_tx, hk1] at hT
    by_cases hy2 : h1 < N ∧ (ps_tx S) h1 = 44
    rotate_left
    · rw [if_neg hy2] at hT
      have hB : ps_B S N c O _ 1 h1 := ps_B.op (hG1.wr (pl := h1) hl1.2 (by decide))
      refine un_140 (lo := true) (tp := false) hE (by omega) hsF hB (fun U g hB hT => ⟨_, _, rfl, ⟨rfl, ?_⟩, hT⟩) g hT
      try dsimp only
      rw [hS1, ps_sg_no hy2]
      exact hB
    rw [if_pos hy2] at hT
    have hG2 := hG1.mv (e2 := h1 + 1) (by omega) (by omega)
    have hS2 := hS1.trans (ps_sg_yes hy2)
    try dsimp only at hS2
    refine ev_aload_n dX12_unit_140 rfl rfl ?_
    refine mo_callr0 (d' := d - 1) hE hT dX12_unit_141 rfl rfl kX12_sum lX12_332 iX12_sum vX12_sum (Nat.le_of_ble_eq_true rfl) (by omega) (hs _ N (h1 + 1) (o + 1) _ O (hG2.P hP1) (by omega)) (fun r T3 g h8 hT => ?_)
    obtain ⟨rfl, h8⟩ := h8
    dsimp only at h8
    rw [hG2.tx, ps_opn_tx] at h8
    cases hu3 : ps_sum (ps_tx S) N k (ps_skn (ps_tx S) N (h1 + 1)) with
    | inl q =>
      obtain ⟨w, pl⟩ := q
      rw [hu3] at h8
      have hB : ps_B S N c O T3 w pl := ps_B.op (ps_B.t (h := p + 1) (o := o + 1) hG2 h8)
      refine un_144 (lo := true) (tp := false) hE (by omega) hsF hB (fun U g hB hT => ⟨_, _, rfl, ⟨rfl, ?_⟩, hT⟩) g hT
      try dsimp only
      rw [hS2, hu3]
      exact hB
    | inr q =>
      obtain ⟨h3, L3, C3, F3⟩ := q
      rw [hu3] at h8
      obtain ⟨e3, hH3, hk3⟩ := h8
      rw [hG2.tx, ps_opn_tx] at hk3
      have hG3 := ps_G.t hP1 hG2 hH3 (Nat.le_refl _)
      have hN3 := hG3.2.1.2.2.2
      have hl3 := ps_skn_in (t := (ps_tx S)) hN3
      rw [hk3] at hl3
      have hx3 : ps_tx T3 = (ps_tx S) := hG3.tx.trans ps_opn_tx
      have hS3 := hS2
      rw [hu3] at hS3
      dsimp only [ps_bind] at hS3
      have hcO := h0.2.2.2.2.2.1
      refine ev_aload_n dX12_unit_144 rfl rfl ?_
      refine mo_call0 (d' := d - 1) hE hT dX12_unit_145 rfl rfl kX12_closes lX12_335 iX12_closes vX12_closes (Nat.le_of_ble_eq_true rfl) (by omega) (c_X12_closes (o := o) hE (by omega) hG3.2.1 hG3.2.2.2.1 (by rw [hG3.2.2.2.2.2.1]; exact ps_opn_34)) (fun g hT => ?_)
      rw [hx3, hk3] at hT
      by_cases hy8 : h3 < N ∧ (ps_tx S) h3 = 41
      rotate_left
      · rw [if_neg hy8] at hT
        have hB0 : ps_B S N c O _ 1 h3 := ps_B.op (hG3.wr (pl := h3) hl3.2 (by decide))
        have hB := hB0.fr (ps_FR.o (v := nI o) hB0.f)
        refine un_148 (lo := true) (tp := false) hE (by omega) hsF hB (fun U g hB hT => ⟨_, _, rfl, ⟨rfl, ?_⟩, hT⟩) g hT
        try dsimp only
        rw [hS3, ps_sg_no hy8]
        exact hB
      rw [if_pos hy8] at hT
      have hG8 := hG3.cl (h := h) (e2 := h3 + 1) (by omega) h0.2.2.1 (by omega) (by omega)
      have hlee := hG3.2.2.1
      have hem2 := hG8.em (x := 6) (y := 0) h0 (by simp only [List.length_append, List.length_nil, List.length_cons] at *; omega)
      refine ev_iload_n dX12_unit_148 rfl rfl ?_
      refine ev_if_ne (tgt := 156) dX12_unit_149 (by decide) (fun c_149 => ?_) (fun c_149 => absurd c_149 (by decide))
      refine ev_aload_n dX12_unit_156 rfl rfl ?_
      refine ev_iload_n dX12_unit_157 rfl rfl ?_
      refine ev_if_eq (tgt := 166) dX12_unit_158 (by decide) (fun c_158 => absurd c_158 (by decide)) (fun c_158 => ?_)
      refine ev_bipush (v := 6) dX12_unit_161 (by decide) ?_
      refine ev_goto (tgt := 168) dX12_unit_163 (by decide) ?_
      refine ev_iconst (v := 0) dX12_unit_168 (by decide) ?_
      refine mo_call2 (d' := d - 1) hE hT dX12_unit_169 rfl rfl kX12_emits lX12_305 iX12_emits vX12_emits (Nat.le_of_ble_eq_true rfl) (by omega) (c_X12_emits hE (hG8.P h0).2.1 (hG8.P h0).2.2.2.2.2.2.1 (hG8.P h0).2.2.2.2.2.2.2 (hG8.P h0).2.2.2.2.1 (by simp only [List.length_append, List.length_nil, List.length_cons] at *; omega)) (fun g hT => ?_)
      refine ev_vret dX12_unit_172 rfl ⟨_, _, rfl, ⟨rfl, ?_⟩, hT⟩
      try dsimp only
      rw [hS3, ps_sg_yes hy8]
      refine ⟨_, ?_, rfl⟩
      simpa using hem2
theorem uo_max {G : ev_G} {W : mo_W} {d k9 : Nat} {g0 : ev_H} {S : mo_S} {N h o c O : Nat} (hE : ev_En G) (hd : 8 ≤ d) (hsF : ps_CF G W (d - 1) mX12_sum) (hs0 : ∀ k, k9 = k + 1 → ps_CM G W (d - 1) k mX12_sum (fun t n => ps_sum t n k)) (h0 : ps_P S N h o c O) (hok : o + k9 = 8) : ∀ g, mo_T G W g0 g S → ev_V G d 0 0 mX12_unit (fun o g' => ∃ r S2, o = .inl r ∧ (r = none ∧ ps_Q S N h c O (ps_two (ps_tx S) N (ps_inner (ps_tx S) N k9) false (ps_skn (ps_tx S) N h)) S2) ∧ mo_T G W g0 g' S2) g 118 [some (.ref W.1), some (.int 0), some (.int 1)] [] := by
  intro g hT
  refine ev_aload_n dX12_unit_118 rfl rfl ?_
  refine mo_call0 (d' := d - 1) hE hT dX12_unit_119 rfl rfl kX12_opens lX12_329 iX12_opens vX12_opens (Nat.le_of_ble_eq_true rfl) (by omega) (c_X12_opens hE (by omega) h0.1 h0.2.1 h0.2.2.1 h0.2.2.2.1) (fun g hT => ?_)
  have hp := ps_skn_in (t := (ps_tx S)) h0.1.2.2.2
  have hn3 := h0.1.2.1
  by_cases hb : ps_skn (ps_tx S) N h < N ∧ (ps_tx S) (ps_skn (ps_tx S) N h) = 40
  rotate_left
  · rw [if_neg hb] at hT
    have hB : ps_B S N c O _ 1 (ps_skn (ps_tx S) N h) := (ps_G.r h0).wr (pl := ps_skn (ps_tx S) N h) hp.2 (by decide)
    refine un_122 (lo := false) (tp := true) hE (by omega) hsF hB (fun U g hB hT => ⟨_, _, rfl, ⟨rfl, ?_⟩, hT⟩) g hT
    try dsimp only
    rw [show ps_two (ps_tx S) N (ps_inner (ps_tx S) N _) false (ps_skn (ps_tx S) N h) = .inl (1, ps_skn (ps_tx S) N h) from if_neg hb]
    exact hB
  rw [if_pos hb] at hT
  by_cases h88 : o = 8
  · rw [if_pos h88] at hT
    have hB0 : ps_B S N c O _ 3 (ps_skn (ps_tx S) N h) := (ps_G.r h0).wr (pl := ps_skn (ps_tx S) N h) hp.2 (by decide)
    have hF1 := ps_FR.o (v := nI (o + 1)) hB0.f
    obtain ⟨e1, he1⟩ := hF1.2
    have hB := hB0.fr (hF1.t (ps_FR.h (he1.up (j := ps_skn (ps_tx S) N h + 1) (by omega))))
    refine un_122 (lo := false) (tp := true) hE (by omega) hsF hB (fun U g hB hT => ⟨_, _, rfl, ⟨rfl, ?_⟩, hT⟩) g hT
    try dsimp only
    have hk0 : k9 = 0 := by omega
    subst hk0
    rw [show ps_two (ps_tx S) N (ps_inner (ps_tx S) N 0) false (ps_skn (ps_tx S) N h) = .inl (3, ps_skn (ps_tx S) N h) from by unfold ps_two ps_op; rw [if_pos hb]; rfl]
    exact hB
  rw [if_neg h88] at hT
  obtain ⟨k, hk⟩ : ∃ k, k9 = k + 1 := ⟨k9 - 1, by omega⟩
  subst hk
  have hs := hs0 k rfl
  have hT : mo_T G W g0 g (ps_opn S (ps_skn (ps_tx S) N h) o) := hT
  generalize hpp : ps_skn (ps_tx S) N h = p at *
  have ho8 : o < 8 := by have := h0.2.2.2.1; omega
  have hP1 := h0.op (p := p) ho8 (by omega) (by omega)
  have hG0 := ps_G.r hP1
  have hR0 : ps_two (ps_tx S) N (ps_inner (ps_tx S) N (k + 1)) false p = ps_bind (ps_sum (ps_tx S) N k (ps_skn (ps_tx S) N (p + 1))) _ := if_pos hb
  refine ev_aload_n dX12_unit_122 rfl rfl ?_
  refine mo_callr0 (d' := d - 1) hE hT dX12_unit_123 rfl rfl kX12_sum lX12_332 iX12_sum vX12_sum (Nat.le_of_ble_eq_true rfl) (by omega) (hs _ N (p + 1) (o + 1) _ O (hG0.P hP1) (by omega)) (fun r T1 g h8 hT => ?_)
  obtain ⟨rfl, h8⟩ := h8
  dsimp only at h8
  rw [hG0.tx, ps_opn_tx] at h8
  cases hu1 : ps_sum (ps_tx S) N k (ps_skn (ps_tx S) N (p + 1)) with
  | inl q =>
    obtain ⟨w, pl⟩ := q
    rw [hu1] at h8
    have hB : ps_B S N c O T1 w pl := ps_B.op (ps_B.t (h := p + 1) (o := o + 1) hG0 h8)
    refine un_126 (lo := false) (tp := true) hE (by omega) hsF hB (fun U g hB hT => ⟨_, _, rfl, ⟨rfl, ?_⟩, hT⟩) g hT
    try dsimp only
    rw [hR0, hu1]
    exact hB
  | inr q =>
    obtain ⟨h1, L1, C1, F1⟩ := q
    rw [hu1] at h8
    obtain ⟨e1, hH1, hk1⟩ := h8
    rw [hG0.tx, ps_opn_tx] at hk1
    have hG1 := ps_G.t hP1 hG0 hH1 (Nat.le_refl _)
    have hN1 := hG1.2.1.2.2.2
    have hl1 := ps_skn_in (t := (ps_tx S)) hN1
    rw [hk1] at hl1
    have hx1 : ps_tx T1 = (ps_tx S) := hG1.tx.trans ps_opn_tx
    have hS1 := hR0
    rw [hu1] at hS1
    dsimp only [ps_bind] at hS1
    refine ev_iload_n dX12_unit_126 rfl rfl ?_
    refine ev_if_ne (tgt := 134) dX12_unit_127 (by decide) (fun c_127 => absurd rfl c_127) (fun c_127 => ?_)
    refine ev_iload_n dX12_unit_130 rfl rfl ?_
    refine ev_if_eq (tgt := 144) dX12_unit_131 (by decide) (fun c_131 => absurd c_131 (by decide)) (fun c_131 => ?_)
    refine ev_aload_n dX12_unit_134 rfl rfl ?_
    refine ev_bipush (v := nI 44) dX12_unit_135 (by decide) ?_
    refine mo_call1 (d' := d - 1) hE hT dX12_unit_137 rfl rfl kX12_sign lX12_298 iX12_sign vX12_sign (Nat.le_of_ble_eq_true rfl) (by omega) (c_X12_sign (c := 44) hE (by omega) hG1.2.1 hG1.2.2.2.1 (by decide)) (fun g hT => ?_)
    rw [hG1.tx, ps_opn_tx, hk1] at hT
    by_cases hy2 : h1 < N ∧ (ps_tx S) h1 = 44
    rotate_left
    · rw [if_neg hy2] at hT
      have hB : ps_B S N c O _ 1 h1 := ps_B.op (hG1.wr (pl := h1) hl1.2 (by decide))
      refine un_140 (lo := false) (tp := true) hE (by omega) hsF hB (fun U g hB hT => ⟨_, _, rfl, ⟨rfl, ?_⟩, hT⟩) g hT
      try dsimp only
      rw [hS1, ps_sg_no hy2]
      exact hB
    rw [if_pos hy2] at hT
    have hG2 := hG1.mv (e2 := h1 + 1) (by omega) (by omega)
    have hS2 := hS1.trans (ps_sg_yes hy2)
    try dsimp only at hS2
    refine ev_aload_n dX12_unit_140 rfl rfl ?_
    refine mo_callr0 (d' := d - 1) hE hT dX12_unit_141 rfl rfl kX12_sum lX12_332 iX12_sum vX12_sum (Nat.le_of_ble_eq_true rfl) (by omega) (hs _ N (h1 + 1) (o + 1) _ O (hG2.P hP1) (by omega)) (fun r T3 g h8 hT => ?_)
    obtain ⟨rfl, h8⟩ := h8
    dsimp only at h8
    rw [hG2.tx, ps_opn_tx] at h8
    cases hu3 : ps_sum (ps_tx S) N k (ps_skn (ps_tx S) N (h1 + 1)) with
    | inl q =>
      obtain ⟨w, pl⟩ := q
      rw [hu3] at h8
      have hB : ps_B S N c O T3 w pl := ps_B.op (ps_B.t (h := p + 1) (o := o + 1) hG2 h8)
      refine un_144 (lo := false) (tp := true) hE (by omega) hsF hB (fun U g hB hT => ⟨_, _, rfl, ⟨rfl, ?_⟩, hT⟩) g hT
      try dsimp only
      rw [hS2, hu3]
      exact hB
    | inr q =>
      obtain ⟨h3, L3, C3, F3⟩ := q
      rw [hu3] at h8
      obtain ⟨e3, hH3, hk3⟩ := h8
      rw [hG2.tx, ps_opn_tx] at hk3
      have hG3 := ps_G.t hP1 hG2 hH3 (Nat.le_refl _)
      have hN3 := hG3.2.1.2.2.2
      have hl3 := ps_skn_in (t := (ps_tx S)) hN3
      rw [hk3] at hl3
      have hx3 : ps_tx T3 = (ps_tx S) := hG3.tx.trans ps_opn_tx
      have hS3 := hS2
      rw [hu3] at hS3
      dsimp only [ps_bind] at hS3
      have hcO := h0.2.2.2.2.2.1
      refine ev_aload_n dX12_unit_144 rfl rfl ?_
      refine mo_call0 (d' := d - 1) hE hT dX12_unit_145 rfl rfl kX12_closes lX12_335 iX12_closes vX12_closes (Nat.le_of_ble_eq_true rfl) (by omega) (c_X12_closes (o := o) hE (by omega) hG3.2.1 hG3.2.2.2.1 (by rw [hG3.2.2.2.2.2.1]; exact ps_opn_34)) (fun g hT => ?_)
      rw [hx3, hk3] at hT
      by_cases hy8 : h3 < N ∧ (ps_tx S) h3 = 41
      rotate_left
      · rw [if_neg hy8] at hT
        have hB0 : ps_B S N c O _ 1 h3 := ps_B.op (hG3.wr (pl := h3) hl3.2 (by decide))
        have hB := hB0.fr (ps_FR.o (v := nI o) hB0.f)
        refine un_148 (lo := false) (tp := true) hE (by omega) hsF hB (fun U g hB hT => ⟨_, _, rfl, ⟨rfl, ?_⟩, hT⟩) g hT
        try dsimp only
        rw [hS3, ps_sg_no hy8]
        exact hB
      rw [if_pos hy8] at hT
      have hG8 := hG3.cl (h := h) (e2 := h3 + 1) (by omega) h0.2.2.1 (by omega) (by omega)
      have hlee := hG3.2.2.1
      have hem2 := hG8.em (x := 7) (y := 0) h0 (by simp only [List.length_append, List.length_nil, List.length_cons] at *; omega)
      refine ev_iload_n dX12_unit_148 rfl rfl ?_
      refine ev_if_ne (tgt := 156) dX12_unit_149 (by decide) (fun c_149 => absurd rfl c_149) (fun c_149 => ?_)
      refine ev_iload_n dX12_unit_152 rfl rfl ?_
      refine ev_if_eq (tgt := 172) dX12_unit_153 (by decide) (fun c_153 => absurd c_153 (by decide)) (fun c_153 => ?_)
      refine ev_aload_n dX12_unit_156 rfl rfl ?_
      refine ev_iload_n dX12_unit_157 rfl rfl ?_
      refine ev_if_eq (tgt := 166) dX12_unit_158 (by decide) (fun c_158 => ?_) (fun c_158 => absurd rfl c_158)
      refine ev_bipush (v := 7) dX12_unit_166 (by decide) ?_
      refine ev_iconst (v := 0) dX12_unit_168 (by decide) ?_
      refine mo_call2 (d' := d - 1) hE hT dX12_unit_169 rfl rfl kX12_emits lX12_305 iX12_emits vX12_emits (Nat.le_of_ble_eq_true rfl) (by omega) (c_X12_emits hE (hG8.P h0).2.1 (hG8.P h0).2.2.2.2.2.2.1 (hG8.P h0).2.2.2.2.2.2.2 (hG8.P h0).2.2.2.2.1 (by simp only [List.length_append, List.length_nil, List.length_cons] at *; omega)) (fun g hT => ?_)
      refine ev_vret dX12_unit_172 rfl ⟨_, _, rfl, ⟨rfl, ?_⟩, hT⟩
      try dsimp only
      rw [hS3, ps_sg_yes hy8]
      refine ⟨_, ?_, rfl⟩
      simpa using hem2
theorem uo_brk {G : ev_G} {W : mo_W} {d k9 : Nat} {g0 : ev_H} {S : mo_S} {N h o c O : Nat} (hE : ev_En G) (hd : 8 ≤ d) (hsF : ps_CF G W (d - 1) mX12_sum) (hs0 : ∀ k, k9 = k + 1 → ps_CM G W (d - 1) k mX12_sum (fun t n => ps_sum t n k)) (h0 : ps_P S N h o c O) (hok : o + k9 = 8) : ∀ g, mo_T G W g0 g S → ev_V G d 0 0 mX12_unit (fun o g' => ∃ r S2, o = .inl r ∧ (r = none ∧ ps_Q S N h c O (ps_brk (ps_tx S) N (ps_inner (ps_tx S) N k9) (ps_skn (ps_tx S) N h)) S2) ∧ mo_T G W g0 g' S2) g 118 [some (.ref W.1), some (.int 0), some (.int 0)] [] := by
  intro g hT
  refine ev_aload_n dX12_unit_118 rfl rfl ?_
  refine mo_call0 (d' := d - 1) hE hT dX12_unit_119 rfl rfl kX12_opens lX12_329 iX12_opens vX12_opens (Nat.le_of_ble_eq_true rfl) (by omega) (c_X12_opens hE (by omega) h0.1 h0.2.1 h0.2.2.1 h0.2.2.2.1) (fun g hT => ?_)
  have hp := ps_skn_in (t := (ps_tx S)) h0.1.2.2.2
  have hn3 := h0.1.2.1
  by_cases hb : ps_skn (ps_tx S) N h < N ∧ (ps_tx S) (ps_skn (ps_tx S) N h) = 40
  rotate_left
  · rw [if_neg hb] at hT
    have hB : ps_B S N c O _ 1 (ps_skn (ps_tx S) N h) := (ps_G.r h0).wr (pl := ps_skn (ps_tx S) N h) hp.2 (by decide)
    refine un_122 (lo := false) (tp := false) hE (by omega) hsF hB (fun U g hB hT => ⟨_, _, rfl, ⟨rfl, ?_⟩, hT⟩) g hT
    try dsimp only
    rw [show ps_brk (ps_tx S) N (ps_inner (ps_tx S) N _) (ps_skn (ps_tx S) N h) = .inl (1, ps_skn (ps_tx S) N h) from if_neg hb]
    exact hB
  rw [if_pos hb] at hT
  by_cases h88 : o = 8
  · rw [if_pos h88] at hT
    have hB0 : ps_B S N c O _ 3 (ps_skn (ps_tx S) N h) := (ps_G.r h0).wr (pl := ps_skn (ps_tx S) N h) hp.2 (by decide)
    have hF1 := ps_FR.o (v := nI (o + 1)) hB0.f
    obtain ⟨e1, he1⟩ := hF1.2
    have hB := hB0.fr (hF1.t (ps_FR.h (he1.up (j := ps_skn (ps_tx S) N h + 1) (by omega))))
    refine un_122 (lo := false) (tp := false) hE (by omega) hsF hB (fun U g hB hT => ⟨_, _, rfl, ⟨rfl, ?_⟩, hT⟩) g hT
    try dsimp only
    have hk0 : k9 = 0 := by omega
    subst hk0
    rw [show ps_brk (ps_tx S) N (ps_inner (ps_tx S) N 0) (ps_skn (ps_tx S) N h) = .inl (3, ps_skn (ps_tx S) N h) from by unfold ps_brk ps_op; rw [if_pos hb]; rfl]
    exact hB
  rw [if_neg h88] at hT
  obtain ⟨k, hk⟩ : ∃ k, k9 = k + 1 := ⟨k9 - 1, by omega⟩
  subst hk
  have hs := hs0 k rfl
  have hT : mo_T G W g0 g (ps_opn S (ps_skn (ps_tx S) N h) o) := hT
  generalize hpp : ps_skn (ps_tx S) N h = p at *
  have ho8 : o < 8 := by have := h0.2.2.2.1; omega
  have hP1 := h0.op (p := p) ho8 (by omega) (by omega)
  have hG0 := ps_G.r hP1
  have hR0 : ps_brk (ps_tx S) N (ps_inner (ps_tx S) N (k + 1)) p = ps_bind (ps_sum (ps_tx S) N k (ps_skn (ps_tx S) N (p + 1))) _ := if_pos hb
  refine ev_aload_n dX12_unit_122 rfl rfl ?_
  refine mo_callr0 (d' := d - 1) hE hT dX12_unit_123 rfl rfl kX12_sum lX12_332 iX12_sum vX12_sum (Nat.le_of_ble_eq_true rfl) (by omega) (hs _ N (p + 1) (o + 1) _ O (hG0.P hP1) (by omega)) (fun r T1 g h8 hT => ?_)
  obtain ⟨rfl, h8⟩ := h8
  dsimp only at h8
  rw [hG0.tx, ps_opn_tx] at h8
  cases hu1 : ps_sum (ps_tx S) N k (ps_skn (ps_tx S) N (p + 1)) with
  | inl q =>
    obtain ⟨w, pl⟩ := q
    rw [hu1] at h8
    have hB : ps_B S N c O T1 w pl := ps_B.op (ps_B.t (h := p + 1) (o := o + 1) hG0 h8)
    refine un_126 (lo := false) (tp := false) hE (by omega) hsF hB (fun U g hB hT => ⟨_, _, rfl, ⟨rfl, ?_⟩, hT⟩) g hT
    try dsimp only
    rw [hR0, hu1]
    exact hB
  | inr q =>
    obtain ⟨h1, L1, C1, F1⟩ := q
    rw [hu1] at h8
    obtain ⟨e1, hH1, hk1⟩ := h8
    rw [hG0.tx, ps_opn_tx] at hk1
    have hG1 := ps_G.t hP1 hG0 hH1 (Nat.le_refl _)
    have hN1 := hG1.2.1.2.2.2
    have hl1 := ps_skn_in (t := (ps_tx S)) hN1
    rw [hk1] at hl1
    have hx1 : ps_tx T1 = (ps_tx S) := hG1.tx.trans ps_opn_tx
    have hS1 := hR0
    rw [hu1] at hS1
    dsimp only [ps_bind] at hS1
    refine ev_iload_n dX12_unit_126 rfl rfl ?_
    refine ev_if_ne (tgt := 134) dX12_unit_127 (by decide) (fun c_127 => absurd rfl c_127) (fun c_127 => ?_)
    refine ev_iload_n dX12_unit_130 rfl rfl ?_
    refine ev_if_eq (tgt := 144) dX12_unit_131 (by decide) (fun c_131 => ?_) (fun c_131 => absurd rfl c_131)
    have hcO := h0.2.2.2.2.2.1
    refine ev_aload_n dX12_unit_144 rfl rfl ?_
    refine mo_call0 (d' := d - 1) hE hT dX12_unit_145 rfl rfl kX12_closes lX12_335 iX12_closes vX12_closes (Nat.le_of_ble_eq_true rfl) (by omega) (c_X12_closes (o := o) hE (by omega) hG1.2.1 hG1.2.2.2.1 (by rw [hG1.2.2.2.2.2.1]; exact ps_opn_34)) (fun g hT => ?_)
    rw [hx1, hk1] at hT
    by_cases hy8 : h1 < N ∧ (ps_tx S) h1 = 41
    rotate_left
    · rw [if_neg hy8] at hT
      have hB0 : ps_B S N c O _ 1 h1 := ps_B.op (hG1.wr (pl := h1) hl1.2 (by decide))
      have hB := hB0.fr (ps_FR.o (v := nI o) hB0.f)
      refine un_148 (lo := false) (tp := false) hE (by omega) hsF hB (fun U g hB hT => ⟨_, _, rfl, ⟨rfl, ?_⟩, hT⟩) g hT
      try dsimp only
      rw [hS1, ps_sg_no hy8]
      exact hB
    rw [if_pos hy8] at hT
    have hG8 := hG1.cl (h := h) (e2 := h1 + 1) (by omega) h0.2.2.1 (by omega) (by omega)
    have hlee := hG1.2.2.1
    refine ev_iload_n dX12_unit_148 rfl rfl ?_
    refine ev_if_ne (tgt := 156) dX12_unit_149 (by decide) (fun c_149 => absurd rfl c_149) (fun c_149 => ?_)
    refine ev_iload_n dX12_unit_152 rfl rfl ?_
    refine ev_if_eq (tgt := 172) dX12_unit_153 (by decide) (fun c_153 => ?_) (fun c_153 => absurd rfl c_153)
    refine ev_vret dX12_unit_172 rfl ⟨_, _, rfl, ⟨rfl, ?_⟩, hT⟩
    try dsimp only
    rw [hS1, ps_sg_yes hy8]
    refine ⟨_, ?_, rfl⟩
    simpa using hG8
theorem un_75 {G : ev_G} {W : mo_W} {d k9 : Nat} {g0 : ev_H} {S : mo_S} {N h o c O : Nat} (hE : ev_En G) (h3 : ev_En3 G) (hd : 10 ≤ d) (hsF : ps_CF G W (d - 1) mX12_sum) (hs0 : ∀ k, k9 = k + 1 → ps_CM G W (d - 1) k mX12_sum (fun t n => ps_sum t n k)) (h0 : ps_P S N h o c O) (hok : o + k9 = 8) (hch : ps_CM G W (d - 1) k9 mX12_chosen (fun t n => ps_if t n (ps_inner t n k9))) (hno : ps_dig (ps_bt (ps_tx S) N (ps_skn (ps_tx S) N h)) = false) (hnn : ps_fnd (ps_tx S) N (ps_skn (ps_tx S) N h) ps_nn 8 = none) (v1 : Option Value) : ∀ g, mo_T G W g0 g (mo_up S 31 0 (nI (ps_skn (ps_tx S) N h))) → ev_V G d 0 0 mX12_unit (fun o g' => ∃ r S2, o = .inl r ∧ (r = none ∧ ps_Q S N h c O (ps_unit (ps_tx S) N (ps_inner (ps_tx S) N k9) (ps_skn (ps_tx S) N h)) S2) ∧ mo_T G W g0 g' S2) g 75 [some (.ref W.1), v1, none] [] := by
  intro g hT
  have hp := ps_skn_in (t := (ps_tx S)) h0.1.2.2.2
  have hpp : ps_skn (ps_tx S) N (ps_skn (ps_tx S) N h) = (ps_skn (ps_tx S) N h) := ps_skn_i h0.1.2.2.2
  have hG0 := (ps_G.r h0).mv (e2 := (ps_skn (ps_tx S) N h)) hp.1 hp.2
  have hU := hG0.P h0
  have hn3 := h0.1.2.1
  have hun : ps_unit (ps_tx S) N (ps_inner (ps_tx S) N k9) (ps_skn (ps_tx S) N h) = (if ps_wd (ps_tx S) N (ps_skn (ps_tx S) N h) [105, 102] = true then ps_if (ps_tx S) N (ps_inner (ps_tx S) N k9) (ps_skn (ps_tx S) N ((ps_skn (ps_tx S) N h) + 2)) else if ps_wd (ps_tx S) N (ps_skn (ps_tx S) N h) [109, 105, 110] = true then ps_two (ps_tx S) N (ps_inner (ps_tx S) N k9) true (ps_skn (ps_tx S) N ((ps_skn (ps_tx S) N h) + 3)) else if ps_wd (ps_tx S) N (ps_skn (ps_tx S) N h) [109, 97, 120] = true then ps_two (ps_tx S) N (ps_inner (ps_tx S) N k9) false (ps_skn (ps_tx S) N ((ps_skn (ps_tx S) N h) + 3)) else ps_brk (ps_tx S) N (ps_inner (ps_tx S) N k9) (ps_skn (ps_tx S) N h)) := by
    unfold ps_unit
    rw [if_neg (by rw [hno]; decide), hnn]
  refine ev_aload_n dX12_unit_75 rfl rfl ?_
  refine ev_ldcwS dX12_unit_76 (ps_lit h3 22 rfl) (fun a1 hs1 => ?_)
  refine mo_call1 (d' := d - 1) hE hT dX12_unit_79 rfl rfl kX12_eat lX12_317 iX12_eat vX12_eat (Nat.le_of_ble_eq_true rfl) (by omega) (c_X12_eat (L := [105, 102]) hE h3 (by omega) hU.1 hs1 hU.2.1) (fun g hT => ?_)
  rw [ps_tx_31, hpp, ps_tw] at hT
  rw [ps_tx_31, hpp]
  refine ev_if_eq (tgt := 90) dX12_unit_82 (by decide) (fun c_82 => ?_) (fun c_82 => ?_)
  rotate_left
  · have hw := mo_b_1 c_82
    rw [if_pos hw] at hT
    have hle := ps_wd_in (by decide) hp.2 hw
    have hle : (ps_skn (ps_tx S) N h) + 2 ≤ N := hle
    have hT : mo_T G W g0 g (mo_up S 31 0 (nI ((ps_skn (ps_tx S) N h) + 2))) := hT
    have hG1 := (ps_G.r h0).mv (e2 := (ps_skn (ps_tx S) N h) + 2) (by omega) hle
    have hU1 := hG1.P h0
    refine ev_aload_n dX12_unit_85 rfl rfl ?_
    refine mo_callr0 (d' := d - 1) hE hT dX12_unit_86 rfl rfl kX12_chosen lX12_322 iX12_chosen vX12_chosen (Nat.le_of_ble_eq_true rfl) (by omega) (hch _ N _ o _ O hU1 hok) (fun r T g h8 hT => ?_)
    obtain ⟨rfl, h8⟩ := h8
    try dsimp only at h8
    rw [ps_tx_31] at h8
    refine ev_vret dX12_unit_89 rfl ⟨_, _, rfl, ⟨rfl, ?_⟩, hT⟩
    rw [hun, if_pos hw]
    exact ps_Q.t h0 hG1 h8
  have hw1 := mo_b_0 c_82
  rw [if_neg (by rw [hw1]; decide)] at hT
  refine ev_aload_n dX12_unit_90 rfl rfl ?_
  refine ev_ldcwS dX12_unit_91 (ps_lit h3 23 rfl) (fun a2 hs2 => ?_)
  refine mo_call1 (d' := d - 1) hE hT dX12_unit_94 rfl rfl kX12_eat lX12_317 iX12_eat vX12_eat (Nat.le_of_ble_eq_true rfl) (by omega) (c_X12_eat (L := [109, 105, 110]) hE h3 (by omega) hU.1 hs2 hU.2.1) (fun g hT => ?_)
  rw [ps_tx_31, hpp, ps_tw] at hT
  rw [ps_tx_31, hpp]
  refine ev_istore_n (lv' := [some (.ref W.1), some (.int (mo_b (ps_wd (ps_tx S) N (ps_skn (ps_tx S) N h) [109, 105, 110]))), none]) dX12_unit_97 rfl (Nat.le_of_ble_eq_true rfl) (by cases v1 <;> rfl) ?_
  refine ev_iload_n dX12_unit_98 rfl rfl ?_
  refine ev_if_ne (tgt := 116) dX12_unit_99 (by decide) (fun c_99 => ?_) (fun c_99 => ?_)
  · have hw := mo_b_1 c_99
    rw [if_pos hw] at hT
    have hle := ps_wd_in (by decide) hp.2 hw
    have hle : (ps_skn (ps_tx S) N h) + 3 ≤ N := hle
    have hT : mo_T G W g0 g (mo_up S 31 0 (nI ((ps_skn (ps_tx S) N h) + 3))) := hT
    have hG1 := (ps_G.r h0).mv (e2 := (ps_skn (ps_tx S) N h) + 3) (by omega) hle
    have hU1 := hG1.P h0
    refine ev_iconst (v := 0) dX12_unit_116 (by decide) ?_
    refine ev_istore_n (lv' := [some (.ref W.1), some (.int (mo_b (ps_wd (ps_tx S) N (ps_skn (ps_tx S) N h) [109, 105, 110]))), some (.int 0)]) dX12_unit_117 rfl (Nat.le_of_ble_eq_true rfl) rfl ?_
    rw [hw]
    have key := uo_min hE (by omega) hsF hs0 hU1 hok g hT
    rw [ps_tx_31] at key
    refine ps_post ?_ key
    intro o g' hq
    obtain ⟨r, S2, a1, ⟨a2, a3⟩, a4⟩ := hq
    refine ⟨r, S2, a1, ⟨a2, ?_⟩, a4⟩
    rw [hun, if_neg (by rw [hw1]; decide), if_pos hw]
    exact ps_Q.t h0 hG1 a3
  have hw2 := mo_b_0 c_99
  rw [if_neg (by rw [hw2]; decide)] at hT
  refine ev_aload_n dX12_unit_102 rfl rfl ?_
  refine ev_ldcwS dX12_unit_103 (ps_lit h3 24 rfl) (fun a3 hs3 => ?_)
  refine mo_call1 (d' := d - 1) hE hT dX12_unit_106 rfl rfl kX12_eat lX12_317 iX12_eat vX12_eat (Nat.le_of_ble_eq_true rfl) (by omega) (c_X12_eat (L := [109, 97, 120]) hE h3 (by omega) hU.1 hs3 hU.2.1) (fun g hT => ?_)
  rw [ps_tx_31, hpp, ps_tw] at hT
  rw [ps_tx_31, hpp]
  refine ev_if_eq (tgt := 116) dX12_unit_109 (by decide) (fun c_109 => ?_) (fun c_109 => ?_)
  · have hw3 := mo_b_0 c_109
    rw [if_neg (by rw [hw3]; decide)] at hT
    refine ev_iconst (v := 0) dX12_unit_116 (by decide) ?_
    refine ev_istore_n (lv' := [some (.ref W.1), some (.int (mo_b (ps_wd (ps_tx S) N (ps_skn (ps_tx S) N h) [109, 105, 110]))), some (.int 0)]) dX12_unit_117 rfl (Nat.le_of_ble_eq_true rfl) rfl ?_
    rw [hw2]
    have key := uo_brk hE (by omega) hsF hs0 hU hok g hT
    rw [ps_tx_31, hpp] at key
    refine ps_post ?_ key
    intro o g' hq
    obtain ⟨r, S2, a1, ⟨a2, a3⟩, a4⟩ := hq
    refine ⟨r, S2, a1, ⟨a2, ?_⟩, a4⟩
    rw [hun, if_neg (by rw [hw1]; decide), if_neg (by rw [hw2]; decide), if_neg (by rw [hw3]; decide)]
    exact ps_Q.t h0 hG0 a3
  · have hw := mo_b_1 c_109
    rw [if_pos hw] at hT
    have hle := ps_wd_in (by decide) hp.2 hw
    have hle : (ps_skn (ps_tx S) N h) + 3 ≤ N := hle
    have hT : mo_T G W g0 g (mo_up S 31 0 (nI ((ps_skn (ps_tx S) N h) + 3))) := hT
    have hG1 := (ps_G.r h0).mv (e2 := (ps_skn (ps_tx S) N h) + 3) (by omega) hle
    have hU1 := hG1.P h0
    refine ev_iconst (v := 1) dX12_unit_112 (by decide) ?_
    refine ev_goto (tgt := 117) dX12_unit_113 (by decide) ?_
    refine ev_istore_n (lv' := [some (.ref W.1), some (.int (mo_b (ps_wd (ps_tx S) N (ps_skn (ps_tx S) N h) [109, 105, 110]))), some (.int 1)]) dX12_unit_117 rfl (Nat.le_of_ble_eq_true rfl) rfl ?_
    rw [hw2]
    have key := uo_max hE (by omega) hsF hs0 hU1 hok g hT
    rw [ps_tx_31] at key
    refine ps_post ?_ key
    intro o g' hq
    obtain ⟨r, S2, a1, ⟨a2, a3⟩, a4⟩ := hq
    refine ⟨r, S2, a1, ⟨a2, ?_⟩, a4⟩
    rw [hun, if_neg (by rw [hw1]; decide), if_neg (by rw [hw2]; decide), if_pos hw]
    exact ps_Q.t h0 hG1 a3
theorem un_42 {G : ev_G} {W : mo_W} {d k9 : Nat} {g0 : ev_H} {S : mo_S} {N h o c O : Nat} (hE : ev_En G) (h3 : ev_En3 G) (hd : 10 ≤ d) (hsF : ps_CF G W (d - 1) mX12_sum) (hs0 : ∀ k, k9 = k + 1 → ps_CM G W (d - 1) k mX12_sum (fun t n => ps_sum t n k)) (h0 : ps_P S N h o c O) (hok : o + k9 = 8) (hch : ps_CM G W (d - 1) k9 mX12_chosen (fun t n => ps_if t n (ps_inner t n k9))) (hno : ps_dig (ps_bt (ps_tx S) N (ps_skn (ps_tx S) N h)) = false) : ∀ (n i : Nat), i ≤ 8 → 8 < i + n → ps_fnd (ps_tx S) N (ps_skn (ps_tx S) N h) ps_nn i = none → ∀ g, mo_T G W g0 g (mo_up S 31 0 (nI (ps_skn (ps_tx S) N h))) → ev_V G d 0 0 mX12_unit (fun o g' => ∃ r S2, o = .inl r ∧ (r = none ∧ ps_Q S N h c O (ps_unit (ps_tx S) N (ps_inner (ps_tx S) N k9) (ps_skn (ps_tx S) N h)) S2) ∧ mo_T G W g0 g' S2) g 42 [some (.ref W.1), some (.int (nI i)), none] [] := by
  intro n
  have hp := ps_skn_in (t := (ps_tx S)) h0.1.2.2.2
  have hpp : ps_skn (ps_tx S) N (ps_skn (ps_tx S) N h) = (ps_skn (ps_tx S) N h) := ps_skn_i h0.1.2.2.2
  have hG0 := (ps_G.r h0).mv (e2 := (ps_skn (ps_tx S) N h)) hp.1 hp.2
  have hU := hG0.P h0
  have hn3 := h0.1.2.1
  induction n with
  | zero => intro i h1 h2; exact absurd h2 (by omega)
  | succ n ih =>
    intro i h1 h2 hfn g hT
    refine ev_iload_n dX12_unit_42 rfl rfl ?_
    refine ev_bipush (v := 8) dX12_unit_43 (by decide) ?_
    refine ev_icmp_ge (tgt := 75) dX12_unit_45 (by decide) (fun c_45 => ?_) (fun c_45 => ?_)
    · have e : i = 8 := by have q := mo_ige (R := 8) rfl (by decide) (by omega) c_45; omega
      subst e
      exact un_75 hE h3 hd hsF hs0 h0 hok hch hno hfn _ g hT
    have hlt : i < 8 := mo_ilt (R := 8) rfl (by decide) (by omega) c_45
    refine ev_aload_n dX12_unit_48 rfl rfl ?_
    refine ev_iload_n dX12_unit_49 rfl rfl ?_
    refine ev_strS (d' := d - 1) dX12_unit_50 rfl kX12_nameOf lX12_314 sX12_nameOf (Nat.le_of_ble_eq_true rfl) (by omega) (c_X12_nameOf h3 hlt) (fun a hs => ?_)
    refine mo_call1 (d' := d - 1) hE hT dX12_unit_53 rfl rfl kX12_eat lX12_317 iX12_eat vX12_eat (Nat.le_of_ble_eq_true rfl) (by omega) (c_X12_eat (L := (ps_nn i)) hE h3 (by omega) hU.1 hs hU.2.1) (fun g hT => ?_)
    rw [ps_tx_31, hpp, ps_tw] at hT
    rw [ps_tx_31, hpp]
    refine ev_if_ne (tgt := 62) dX12_unit_56 (by decide) (fun c_56 => ?_) (fun c_56 => ?_)
    · have hw := mo_b_1 c_56
      rw [if_pos hw] at hT
      have hle := ps_wd_in (ps_nn_pos i hlt) hp.2 hw
      have hlen := ps_nn_len i hlt
      have hG1 := (ps_G.r h0).mv (e2 := (ps_skn (ps_tx S) N h) + (ps_nn i).length) (by omega) hle
      have hU1 := hG1.P h0
      have hem := hG1.em (x := 1) (y := nI i) h0 (by simp only [List.length_nil]; omega)
      refine ev_aload_n dX12_unit_62 rfl rfl ?_
      refine ev_iconst (v := 1) dX12_unit_63 (by decide) ?_
      refine ev_iload_n dX12_unit_64 rfl rfl ?_
      have hcO := h0.2.2.2.2.2.1
      refine mo_call2 (d' := d - 1) hE hT dX12_unit_65 rfl rfl kX12_emits lX12_305 iX12_emits vX12_emits (Nat.le_of_ble_eq_true rfl) (by omega) (c_X12_emits hE hU1.2.1 hU1.2.2.2.2.2.2.1 hU1.2.2.2.2.2.2.2 hU1.2.2.2.2.1 (by simp only [List.length_nil]; omega)) (fun g hT => ?_)
      refine ev_vret dX12_unit_68 rfl ⟨_, _, rfl, ⟨rfl, ?_⟩, hT⟩
      unfold ps_unit
      rw [if_neg (by rw [hno]; decide), show ps_fnd (ps_tx S) N (ps_skn (ps_tx S) N h) ps_nn 8 = some i from (by have q := ps_fnd_s (ps_fnd_1 hfn hw) (8 - (i + 1)); rw [show i + 1 + (8 - (i + 1)) = 8 by omega] at q; exact q)]
      exact ⟨_, hem, rfl⟩
    · have hw := mo_b_0 c_56
      rw [if_neg (by rw [hw]; decide)] at hT
      refine ev_goto (tgt := 69) dX12_unit_59 (by decide) ?_
      refine ev_iinc (v := nI (i + 1)) dX12_unit_69 rfl (by exact nI_1 i) rfl ?_
      refine ev_goto (tgt := 42) dX12_unit_72 (by decide) ?_
      exact ih (i + 1) (by omega) (by omega) (ps_fnd_0 hfn hw) g hT
theorem c_X12_unit {G : ev_G} {W : mo_W} {d k9 : Nat} (hE : ev_En G) (h3 : ev_En3 G) (hd : 10 ≤ d) (hsF : ps_CF G W (d - 1) mX12_sum) (hs0 : ∀ k, k9 = k + 1 → ps_CM G W (d - 1) k mX12_sum (fun t n => ps_sum t n k)) (hch : ps_CM G W (d - 1) k9 mX12_chosen (fun t n => ps_if t n (ps_inner t n k9))) : ps_CM G W d k9 mX12_unit (fun t n => ps_unit t n (ps_inner t n k9)) := by
  intro S N h o c O h0 hok
  refine mo_startr (lv0 := [some (.ref W.1), none, none]) (by decide +kernel) rfl (Nat.le_of_ble_eq_true rfl) rfl ?_
  intro g0 g hT
  have hp := ps_skn_in (t := (ps_tx S)) h0.1.2.2.2
  have hpp : ps_skn (ps_tx S) N (ps_skn (ps_tx S) N h) = (ps_skn (ps_tx S) N h) := ps_skn_i h0.1.2.2.2
  have hG0 := (ps_G.r h0).mv (e2 := (ps_skn (ps_tx S) N h)) hp.1 hp.2
  have hU := hG0.P h0
  have hn3 := h0.1.2.1
  refine ev_aload_n dX12_unit_0 rfl rfl ?_
  refine mo_getiE (v := 0) hE hT dX12_unit_1 fX12_222 (by decide) h0.2.1 ?_
  refine ev_if_le (tgt := 8) dX12_unit_4 (by decide) (fun c_4 => ?_) (fun c_4 => absurd (by decide) c_4)
  refine ev_aload_n dX12_unit_8 rfl rfl ?_
  refine mo_call0 (d' := d - 1) hE hT dX12_unit_9 rfl rfl kX12_blanks lX12_225 iX12_blanks vX12_blanks (Nat.le_of_ble_eq_true rfl) (by omega) (c_X12_blanks hE (by omega) h0.1) (fun g hT => ?_)
  refine ev_aload_n dX12_unit_12 rfl rfl ?_
  refine ev_aload_n dX12_unit_13 rfl rfl ?_
  refine mo_getiE (v := nI (ps_skn (ps_tx S) N h)) hE hT dX12_unit_14 fX12_215 (by decide) hU.1.2.2.1 ?_
  refine mo_call1 (d' := d - 1) hE hT dX12_unit_17 rfl rfl kX12_byteAt lX12_218 iX12_byteAt vX12_byteAt (Nat.le_of_ble_eq_true rfl) (by omega) (c_X12_byteAt (k := (ps_skn (ps_tx S) N h)) hE (by omega) hU.1) (fun g hT => ?_)
  rw [ps_tx_31]
  have hbt : ps_bt (ps_tx S) N (ps_skn (ps_tx S) N h) < 256 := ps_bt_lt
  refine ev_pS1 (d' := d - 1) dX12_unit_20 rfl kX12_isDigit lX12_282 sX12_isDigit (Nat.le_of_ble_eq_true rfl) (by omega) (c_X12_isDigit) ?_
  rw [ps_dig_is (by omega)]
  refine ev_if_eq (tgt := 40) dX12_unit_23 (by decide) (fun c_23 => ?_) (fun c_23 => ?_)
  · have hno := mo_b_0 c_23
    refine ev_iconst (v := nI 0) dX12_unit_40 (by decide) ?_
    refine ev_istore_n dX12_unit_41 rfl (Nat.le_of_ble_eq_true rfl) rfl ?_
    exact un_42 hE h3 hd hsF hs0 h0 hok hch hno 9 0 (by omega) (by omega) rfl g hT
  have hdg := mo_b_1 c_23
  have hfg := ps_fig_gt hdg
  refine ev_aload_n dX12_unit_26 rfl rfl ?_
  refine ev_iconst (v := 0) dX12_unit_27 (by decide) ?_
  refine ev_aload_n dX12_unit_28 rfl rfl ?_
  refine ev_iconst (v := nI 0) dX12_unit_29 (by decide) ?_
  refine ev_sipush (v := nI 9999) dX12_unit_30 (by decide) ?_
  refine mo_call2 (d' := d - 1) hE hT dX12_unit_33 rfl rfl kX12_figures lX12_311 iX12_figures vX12_figures (Nat.le_of_ble_eq_true rfl) (by omega) (c_X12_figures (lo := 0) (hi := 9999) hE h3 (by omega) hU.1 hU.2.1 (by decide) (by decide)) (fun g hT => ?_)
  rw [ps_tx_31, hpp, if_pos hdg] at hT
  rw [ps_tx_31, hpp, if_pos hdg]
  by_cases hbad : 9999 < (ps_fig (ps_tx S) N (ps_skn (ps_tx S) N h)).2
  · rw [if_pos (Or.inr hbad)] at hT
    have hB : ps_B S N c O _ 2 (ps_skn (ps_tx S) N h) := hG0.wr (e2 := (ps_fig (ps_tx S) N (ps_skn (ps_tx S) N h)).1) (pl := (ps_skn (ps_tx S) N h)) hfg.2 (by decide)
    refine mo_call2 (d' := d - 1) hE hT dX12_unit_36 rfl rfl kX12_emits lX12_305 iX12_emits vX12_emits (Nat.le_of_ble_eq_true rfl) (by omega) (c_X12_emitsF hE hB.f.ne.1) (fun g hT => ?_)
    refine ev_vret dX12_unit_39 rfl ⟨_, _, rfl, ⟨rfl, ?_⟩, hT⟩
    try dsimp only
    unfold ps_unit
    rw [if_pos hdg, if_pos hbad]
    exact hB
  · rw [if_neg (fun q => q.elim (fun q => absurd q (Nat.not_lt_zero _)) hbad), ps_tw] at hT
    have hG1 := (ps_G.r h0).mv (e2 := (ps_fig (ps_tx S) N (ps_skn (ps_tx S) N h)).1) (by omega) hfg.2
    have hU1 := hG1.P h0
    have hem := hG1.em (x := 0) (y := nI (ps_fig (ps_tx S) N (ps_skn (ps_tx S) N h)).2) h0 (by simp only [List.length_nil]; omega)
    have hcO := h0.2.2.2.2.2.1
    refine mo_call2 (d' := d - 1) hE hT dX12_unit_36 rfl rfl kX12_emits lX12_305 iX12_emits vX12_emits (Nat.le_of_ble_eq_true rfl) (by omega) (c_X12_emits hE hU1.2.1 hU1.2.2.2.2.2.2.1 hU1.2.2.2.2.2.2.2 hU1.2.2.2.2.1 (by simp only [List.length_nil]; omega)) (fun g hT => ?_)
    refine ev_vret dX12_unit_39 rfl ⟨_, _, rfl, ⟨rfl, ?_⟩, hT⟩
    try dsimp only
    unfold ps_unit
    rw [if_pos hdg, if_neg hbad]
    exact ⟨_, hem, rfl⟩
theorem cF_X12_unit {G : ev_G} {W : mo_W} {d : Nat} (hE : ev_En G) : ps_CF G W d mX12_unit := by
  intro S N hF
  refine mo_startr (lv0 := [some (.ref W.1), none, none]) (by decide +kernel) rfl (Nat.le_of_ble_eq_true rfl) rfl ?_
  intro g0 g hT
  refine ev_aload_n dX12_unit_0 rfl rfl ?_
  refine mo_geti hE hT dX12_unit_1 fX12_222 (by decide) ?_
  refine ev_if_le (tgt := 8) dX12_unit_4 (by decide) (fun c_4 => absurd c_4 hF.ne.1) (fun c_4 => ?_)
  exact ev_vret dX12_unit_7 rfl ⟨_, _, rfl, ⟨rfl, ps_FR.r hF⟩, hT⟩
theorem cF_X12_sums {G : ev_G} {W : mo_W} {d : Nat} (hE : ev_En G) (hd : 6 ≤ d) : ps_CF G W d mX12_sum := cF_X12_sum hE (by omega) (cF_X12_product hE (by omega) (cF_X12_unit hE))
/-- sums, by how many brackets may still be opened -/
theorem c_X12_sums {G : ev_G} {W : mo_W} (hE : ev_En G) (h3 : ev_En3 G) : ∀ (k d : Nat), 4 * k + 14 ≤ d → ps_CM G W d k mX12_sum (fun t n => ps_sum t n k)
  | 0, d, hd => by
    have hch : ps_CM G W (d - 3) 0 mX12_chosen (fun t n => ps_if t n (ps_inner t n 0)) := c_X12_chosen hE (by omega) (cF_X12_sums hE (by omega)) (fun k h => by omega)
    have hu : ps_CM G W (d - 2) 0 mX12_unit (fun t n => ps_unit t n (ps_inner t n 0)) := c_X12_unit hE h3 (by omega) (cF_X12_sums hE (by omega)) (fun k h => by omega) hch
    have hp : ps_CM G W (d - 1) 0 mX12_product (fun t n => ps_prod t n (ps_inner t n 0)) := c_X12_product hE (by omega) hu
    exact c_X12_sum hE (by omega) hp
  | k + 1, d, hd => by
    have i4 := c_X12_sums (W := W) hE h3 k (d - 4) (by omega)
    have i3 := c_X12_sums (W := W) hE h3 k (d - 3) (by omega)
    have hch : ps_CM G W (d - 3) (k + 1) mX12_chosen (fun t n => ps_if t n (ps_inner t n (k + 1))) := c_X12_chosen hE (by omega) (cF_X12_sums hE (by omega)) (fun k2 h => by cases h; exact i4)
    have hu : ps_CM G W (d - 2) (k + 1) mX12_unit (fun t n => ps_unit t n (ps_inner t n (k + 1))) := c_X12_unit hE h3 (by omega) (cF_X12_sums hE (by omega)) (fun k2 h => by cases h; exact i3) hch
    have hp : ps_CM G W (d - 1) (k + 1) mX12_product (fun t n => ps_prod t n (ps_inner t n (k + 1))) := c_X12_product hE (by omega) hu
    exact c_X12_sum hE (by omega) hp
end M24
