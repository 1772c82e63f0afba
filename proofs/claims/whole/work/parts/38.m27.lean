section M27
theorem ps_cB0 {S : mo_S} {N p c O ci e w pl : Nat} {v : Int32} (hP : ps_P S N p 0 c O) (he : e ≤ N) (hw : 1 ≤ w ∧ w ≤ 3) : ps_CB S N c O ci (ps_wr (mo_up S 31 0 v) e w pl) w pl := by
  refine ps_CB.of (e2 := e) hP (fun k h1 h2 h3 h4 h5 => ?_) ?_ he ?_ hw ?_ (fun i hi => ?_)
  · unfold ps_wr; rw [mo_up_ne h3, mo_up_ne h2, mo_up_ne h1, mo_up_ne h1]
  · unfold ps_wr; rw [mo_up_ne (by decide), mo_up_ne (by decide), mo_up_at, pk_us]
  · unfold ps_wr; rw [mo_up_ne (by decide), mo_up_at, pk_us]
  · unfold ps_wr; rw [mo_up_at, pk_us]
  · unfold ps_wr
    rw [mo_up_ne (show (38 : Nat) ≠ 33 by decide), mo_up_ne (show (38 : Nat) ≠ 32 by decide), mo_up_ne (show (38 : Nat) ≠ 31 by decide), mo_up_ne (show (38 : Nat) ≠ 31 by decide), mo_up_ne (show (39 : Nat) ≠ 33 by decide), mo_up_ne (show (39 : Nat) ≠ 32 by decide), mo_up_ne (show (39 : Nat) ≠ 31 by decide), mo_up_ne (show (39 : Nat) ≠ 31 by decide)]
    exact ⟨rfl, rfl⟩
theorem ps_cB1 {S : mo_S} {N p c O ci e w pl : Nat} {v y : Int32} (hP : ps_P S N p 0 c O) (he : e ≤ N) (hw : 1 ≤ w ∧ w ≤ 3) : ps_CB S N c O ci (ps_wr (mo_up (mo_up S 31 0 v) 38 ci y) e w pl) w pl := by
  refine ps_CB.of (e2 := e) hP (fun k h1 h2 h3 h4 h5 => ?_) ?_ he ?_ hw ?_ (fun i hi => ?_)
  · unfold ps_wr; rw [mo_up_ne h3, mo_up_ne h2, mo_up_ne h1, mo_up_ne h4, mo_up_ne h1]
  · unfold ps_wr; rw [mo_up_ne (by decide), mo_up_ne (by decide), mo_up_at, pk_us]
  · unfold ps_wr; rw [mo_up_ne (by decide), mo_up_at, pk_us]
  · unfold ps_wr; rw [mo_up_at, pk_us]
  · unfold ps_wr
    rw [mo_up_ne (show (38 : Nat) ≠ 33 by decide), mo_up_ne (show (38 : Nat) ≠ 32 by decide), mo_up_ne (show (38 : Nat) ≠ 31 by decide), mo_up_at, mo_up_ne (show (38 : Nat) ≠ 31 by decide), mo_up_ne (show (39 : Nat) ≠ 33 by decide), mo_up_ne (show (39 : Nat) ≠ 32 by decide), mo_up_ne (show (39 : Nat) ≠ 31 by decide), mo_up_ne (show (39 : Nat) ≠ 38 by decide), mo_up_ne (show (39 : Nat) ≠ 31 by decide), pk_un (by omega)]
    exact ⟨rfl, rfl⟩
theorem ps_cG1 {S : mo_S} {N p c O ci e : Nat} {v y m : Int32} (hP : ps_P S N p 0 c O) (hp : p ≤ e) (he : e ≤ N) : ps_CG S N p c O ci (mo_up (mo_up (mo_up (mo_up S 31 0 v) 38 ci y) 31 0 (nI e)) 39 ci m) e y m [] := by
  refine ps_CG.of hP (fun k h1 h2 h3 => ?_) ?_ he hp ?_ ?_
  · rw [mo_up_ne h3, mo_up_ne h1, mo_up_ne h2, mo_up_ne h1]
  · rw [mo_up_ne (by decide), mo_up_at, pk_us]
  · rw [mo_up_ne (by decide), mo_up_ne (by decide), mo_up_at, mo_up_ne (by decide)]
  · rw [mo_up_at, mo_up_ne (by decide), mo_up_ne (by decide), mo_up_ne (by decide)]
theorem ps_cG2 {S : mo_S} {N p c O ci e : Nat} {v y m : Int32} (hP : ps_P S N p 0 c O) (hp : p ≤ e) (he : e ≤ N) : ps_CG S N p c O ci (mo_up (mo_up (mo_up (mo_up (mo_up S 31 0 v) 31 0 v) 38 ci y) 31 0 (nI e)) 39 ci m) e y m [] := by
  rw [show mo_up (mo_up S 31 0 v) 31 0 v = mo_up S 31 0 v from mo_up_tw]
  exact ps_cG1 hP hp he
theorem ps_tx_38 {S : mo_S} {i : Nat} {v : Int32} : ps_tx (mo_up S 38 i v) = ps_tx S := by
  funext a
  unfold ps_tx
  rw [mo_up_ne (by decide)]
/-- a number is read at h: what is known then -/
theorem ps_at.c38 {S : mo_S} {N h ci : Nat} {y : Int32} (H : ps_at S N h) : ps_at (mo_up S 38 ci y) N h := ⟨by rw [mo_up_ne (by decide)]; exact H.1, H.2.1, by rw [mo_up_ne (by decide)]; exact H.2.2.1, H.2.2.2⟩

theorem cl_0 {G : ev_G} {W : mo_W} {d : Nat} {g0 : ev_H} {S : mo_S} {N p c O ci h : Nat} {v3 : Option Value} (hE : ev_En G) (h3 : ev_En3 G) (hd : 50 ≤ d) (hP : ps_P S N p 0 c O) (hf : ps_fnd (ps_tx S) N p ps_cn 10 = some 0) (hh : h = p + 4) (hhN : h ≤ N) (hci : ci < 120) : ∀ g, mo_T G W g0 g (mo_up S 31 0 (nI h)) → ev_V G d 0 0 mX12_clause (fun o g' => ∃ r S2, o = .inl r ∧ (r = none ∧ ps_CQ S N p c O ci (ps_cl (ps_tx S) N p) S2) ∧ mo_T G W g0 g' S2) g 39 [some (.ref W.1), some (.int (nI ci)), some (.int (nI 0)), v3] [] := by
  intro g hT
  have hn3 := hP.1.2.1
  have hfa := hP.2.1
  have HU := hP.1.up hhN
  have hsp := ps_skn_in (t := (ps_tx S)) hhN
  have hcl : ps_cl (ps_tx S) N p = ps_cf (ps_tx S) N 0 (ps_skn (ps_tx S) N (p + 4)) := by unfold ps_cl; rw [hf]; rfl
  rw [← hh] at hcl
  refine ev_aload_n dX12_clause_39 rfl rfl ?_
  refine ev_iload_n dX12_clause_40 rfl rfl ?_
  refine ev_iconst (v := 0) dX12_clause_41 (by decide) ?_
  refine mo_callr2 (d' := d - 1) hE hT dX12_clause_42 rfl rfl kX12_formula lX12_347 iX12_formula vX12_formula (Nat.le_of_ble_eq_true rfl) (by omega) (c_X12_formula hE h3 (by omega) hP (h := h) (by omega) hhN hci) (fun r T g h8 hT => ?_)
  obtain ⟨rfl, h8⟩ := h8
  refine ev_goto (tgt := 234) dX12_clause_45 (by decide) ?_
  unfold ps_cf at hcl
  cases hu : ps_sum (ps_tx S) N 8 (ps_skn (ps_tx S) N h) with
  | inl q =>
    obtain ⟨w9, pl⟩ := q
    rw [hu] at h8 hcl
    exact cl_F (R := ps_cl (ps_tx S) N p) hE (by omega) h8 hcl g hT
  | inr q =>
    obtain ⟨h2, L, C, F⟩ := q
    rw [hu] at h8 hcl
    obtain ⟨e, hG, hsk⟩ := h8
    try dsimp only at hcl
    rw [← hsk] at hcl
    exact cl_G (R := ps_cl (ps_tx S) N p) (e := e) (ww := 0) (m := 0) (mm := nI c) (L := L ++ [(12, 0)]) (C := C) (F := F) hE (by omega) hG (by rw [if_pos (by decide)]) hcl g hT
theorem cl_2 {G : ev_G} {W : mo_W} {d : Nat} {g0 : ev_H} {S : mo_S} {N p c O ci h : Nat} {v3 : Option Value} (hE : ev_En G) (h3 : ev_En3 G) (hd : 50 ≤ d) (hP : ps_P S N p 0 c O) (hf : ps_fnd (ps_tx S) N p ps_cn 10 = some 2) (hh : h = p + 5) (hhN : h ≤ N) (hci : ci < 120) : ∀ g, mo_T G W g0 g (mo_up S 31 0 (nI h)) → ev_V G d 0 0 mX12_clause (fun o g' => ∃ r S2, o = .inl r ∧ (r = none ∧ ps_CQ S N p c O ci (ps_cl (ps_tx S) N p) S2) ∧ mo_T G W g0 g' S2) g 88 [some (.ref W.1), some (.int (nI ci)), some (.int (nI 2)), v3] [] := by
  intro g hT
  have hn3 := hP.1.2.1
  have hfa := hP.2.1
  have HU := hP.1.up hhN
  have hsp := ps_skn_in (t := (ps_tx S)) hhN
  have hcl : ps_cl (ps_tx S) N p = ps_cf (ps_tx S) N 4 (ps_skn (ps_tx S) N (p + 5)) := by unfold ps_cl; rw [hf]; rfl
  rw [← hh] at hcl
  refine ev_aload_n dX12_clause_88 rfl rfl ?_
  refine ev_iload_n dX12_clause_89 rfl rfl ?_
  refine ev_iconst (v := 4) dX12_clause_90 (by decide) ?_
  refine mo_callr2 (d' := d - 1) hE hT dX12_clause_91 rfl rfl kX12_formula lX12_347 iX12_formula vX12_formula (Nat.le_of_ble_eq_true rfl) (by omega) (c_X12_formula hE h3 (by omega) hP (h := h) (by omega) hhN hci) (fun r T g h8 hT => ?_)
  obtain ⟨rfl, h8⟩ := h8
  refine ev_goto (tgt := 234) dX12_clause_94 (by decide) ?_
  unfold ps_cf at hcl
  cases hu : ps_sum (ps_tx S) N 8 (ps_skn (ps_tx S) N h) with
  | inl q =>
    obtain ⟨w9, pl⟩ := q
    rw [hu] at h8 hcl
    exact cl_F (R := ps_cl (ps_tx S) N p) hE (by omega) h8 hcl g hT
  | inr q =>
    obtain ⟨h2, L, C, F⟩ := q
    rw [hu] at h8 hcl
    obtain ⟨e, hG, hsk⟩ := h8
    try dsimp only at hcl
    rw [← hsk] at hcl
    exact cl_G (R := ps_cl (ps_tx S) N p) (e := e) (ww := 4) (m := 0) (mm := nI c) (L := L ++ [(12, 0)]) (C := C) (F := F) hE (by omega) hG (by rw [if_pos (by decide)]) hcl g hT
theorem cl_3 {G : ev_G} {W : mo_W} {d : Nat} {g0 : ev_H} {S : mo_S} {N p c O ci h : Nat} {v3 : Option Value} (hE : ev_En G) (h3 : ev_En3 G) (hd : 50 ≤ d) (hP : ps_P S N p 0 c O) (hf : ps_fnd (ps_tx S) N p ps_cn 10 = some 3) (hh : h = p + 4) (hhN : h ≤ N) (hci : ci < 120) : ∀ g, mo_T G W g0 g (mo_up S 31 0 (nI h)) → ev_V G d 0 0 mX12_clause (fun o g' => ∃ r S2, o = .inl r ∧ (r = none ∧ ps_CQ S N p c O ci (ps_cl (ps_tx S) N p) S2) ∧ mo_T G W g0 g' S2) g 97 [some (.ref W.1), some (.int (nI ci)), some (.int (nI 3)), v3] [] := by
  intro g hT
  have hn3 := hP.1.2.1
  have hfa := hP.2.1
  have HU := hP.1.up hhN
  have hsp := ps_skn_in (t := (ps_tx S)) hhN
  have hcl : ps_cl (ps_tx S) N p = ps_cg (ps_tx S) N (nI 5) 0 9999 (ps_skn (ps_tx S) N (p + 4)) := by unfold ps_cl; rw [hf]; rfl
  have HS : ps_at (mo_up (mo_up S 31 0 (nI h)) 38 ci (nI 5)) N h := HU.c38
  have hx : ps_tx (mo_up (mo_up S 31 0 (nI h)) 38 ci (nI 5)) = (ps_tx S) := by rw [ps_tx_38, ps_tx_31]
  rw [← hh] at hcl
  refine ev_iload_n dX12_clause_97 rfl rfl ?_
  refine ev_bipush (v := nI 8) dX12_clause_98 (by decide) ?_
  refine ev_icmp_ge (tgt := 147) dX12_clause_100 (by decide) (fun c_100 => absurd c_100 (by decide)) (fun c_100 => ?_)
  refine ev_aload_n dX12_clause_103 rfl rfl ?_
  refine mo_geta hE hT dX12_clause_104 fX12_90 (by decide) ?_
  refine ev_iload_n dX12_clause_107 rfl rfl ?_
  refine ev_iconst (v := 5) dX12_clause_108 (by decide) ?_
  refine ev_iload_n dX12_clause_109 rfl rfl ?_
  refine ev_iadd dX12_clause_110 ?_
  refine ev_iconst (v := 3) dX12_clause_111 (by decide) ?_
  refine ev_isub dX12_clause_112 ?_
  rw [show (5 : Int32) + nI 3 - 3 = nI 5 by decide]
  refine mo_iast (q := ci) hE hT dX12_clause_113 (by decide) rfl (show _ < 120 from hci) (fun g hT => ?_)
  refine ev_aload_n dX12_clause_114 rfl rfl ?_
  refine mo_geta hE hT dX12_clause_115 fX12_93 (by decide) ?_
  refine ev_iload_n dX12_clause_118 rfl rfl ?_
  refine ev_aload_n dX12_clause_119 rfl rfl ?_
  refine ev_iconst (v := nI 0) dX12_clause_120 (by decide) ?_
  refine ev_iload_n dX12_clause_121 rfl rfl ?_
  refine ev_iconst (v := nI 5) dX12_clause_122 (by decide) ?_
  refine ev_icmp_eq (tgt := 132) dX12_clause_123 (by decide) (fun c_123 => absurd c_123 (by decide)) (fun c_123 => ?_)
  refine ev_iload_n dX12_clause_126 rfl rfl ?_
  refine ev_bipush (v := nI 6) dX12_clause_127 (by decide) ?_
  refine ev_icmp_ne (tgt := 137) dX12_clause_129 (by decide) (fun c_129 => ?_) (fun c_129 => absurd c_129 (by decide))
  refine ev_sipush (v := nI 9999) dX12_clause_137 (by decide) ?_
  refine mo_call2 (d' := d - 1) hE hT dX12_clause_140 rfl rfl kX12_figures lX12_311 iX12_figures vX12_figures (Nat.le_of_ble_eq_true rfl) (by omega) (c_X12_figures (lo := 0) (hi := 9999) hE h3 (by omega) HS (by rw [mo_up_ne (by decide), mo_up_ne (by decide)]; exact hfa) (by decide) (by decide)) (fun g hT => ?_)
  rw [hx] at hT
  rw [hx]
  refine mo_iast (q := ci) hE hT dX12_clause_143 (by decide) rfl (show _ < 120 from hci) (fun g hT => ?_)
  refine ev_goto (tgt := 234) dX12_clause_144 (by decide) ?_
  unfold ps_cg at hcl
  by_cases y : ps_dig (ps_bt (ps_tx S) N (ps_skn (ps_tx S) N h)) = true
  · rw [if_pos y] at hcl
    rw [if_pos y, if_pos y] at hT
    have hg := ps_fig_gt y
    by_cases z : (ps_fig (ps_tx S) N (ps_skn (ps_tx S) N h)).2 < 0 ∨ 9999 < (ps_fig (ps_tx S) N (ps_skn (ps_tx S) N h)).2
    · rw [if_pos z] at hcl hT
      exact cl_F (R := ps_cl (ps_tx S) N p) hE (by omega) (ps_CB.wt (ps_cB1 hP hg.2 (by decide)) (Or.inr rfl)) hcl g hT
    · rw [if_neg z] at hcl hT
      exact cl_G (R := ps_cl (ps_tx S) N p) (e := _) (ww := _) (m := _) (mm := _) (L := _) (C := _) (F := _) hE (by omega) (ps_cG1 hP (by omega) hg.2) (by rw [if_neg (by decide)]) hcl g hT
  · rw [if_neg y] at hcl
    rw [if_neg y, if_neg y] at hT
    exact cl_F (R := ps_cl (ps_tx S) N p) hE (by omega) (ps_CB.wt (ps_cB1 hP hsp.2 (by decide)) (Or.inr rfl)) hcl g hT
theorem cl_4 {G : ev_G} {W : mo_W} {d : Nat} {g0 : ev_H} {S : mo_S} {N p c O ci h : Nat} {v3 : Option Value} (hE : ev_En G) (h3 : ev_En3 G) (hd : 50 ≤ d) (hP : ps_P S N p 0 c O) (hf : ps_fnd (ps_tx S) N p ps_cn 10 = some 4) (hh : h = p + 3) (hhN : h ≤ N) (hci : ci < 120) : ∀ g, mo_T G W g0 g (mo_up S 31 0 (nI h)) → ev_V G d 0 0 mX12_clause (fun o g' => ∃ r S2, o = .inl r ∧ (r = none ∧ ps_CQ S N p c O ci (ps_cl (ps_tx S) N p) S2) ∧ mo_T G W g0 g' S2) g 97 [some (.ref W.1), some (.int (nI ci)), some (.int (nI 4)), v3] [] := by
  intro g hT
  have hn3 := hP.1.2.1
  have hfa := hP.2.1
  have HU := hP.1.up hhN
  have hsp := ps_skn_in (t := (ps_tx S)) hhN
  have hcl : ps_cl (ps_tx S) N p = ps_cg (ps_tx S) N (nI 6) 0 9999 (ps_skn (ps_tx S) N (p + 3)) := by unfold ps_cl; rw [hf]; rfl
  have HS : ps_at (mo_up (mo_up S 31 0 (nI h)) 38 ci (nI 6)) N h := HU.c38
  have hx : ps_tx (mo_up (mo_up S 31 0 (nI h)) 38 ci (nI 6)) = (ps_tx S) := by rw [ps_tx_38, ps_tx_31]
  rw [← hh] at hcl
  refine ev_iload_n dX12_clause_97 rfl rfl ?_
  refine ev_bipush (v := nI 8) dX12_clause_98 (by decide) ?_
  refine ev_icmp_ge (tgt := 147) dX12_clause_100 (by decide) (fun c_100 => absurd c_100 (by decide)) (fun c_100 => ?_)
  refine ev_aload_n dX12_clause_103 rfl rfl ?_
  refine mo_geta hE hT dX12_clause_104 fX12_90 (by decide) ?_
  refine ev_iload_n dX12_clause_107 rfl rfl ?_
  refine ev_iconst (v := 5) dX12_clause_108 (by decide) ?_
  refine ev_iload_n dX12_clause_109 rfl rfl ?_
  refine ev_iadd dX12_clause_110 ?_
  refine ev_iconst (v := 3) dX12_clause_111 (by decide) ?_
  refine ev_isub dX12_clause_112 ?_
  rw [show (5 : Int32) + nI 4 - 3 = nI 6 by decide]
  refine mo_iast (q := ci) hE hT dX12_clause_113 (by decide) rfl (show _ < 120 from hci) (fun g hT => ?_)
  refine ev_aload_n dX12_clause_114 rfl rfl ?_
  refine mo_geta hE hT dX12_clause_115 fX12_93 (by decide) ?_
  refine ev_iload_n dX12_clause_118 rfl rfl ?_
  refine ev_aload_n dX12_clause_119 rfl rfl ?_
  refine ev_iconst (v := nI 0) dX12_clause_120 (by decide) ?_
  refine ev_iload_n dX12_clause_121 rfl rfl ?_
  refine ev_iconst (v := nI 5) dX12_clause_122 (by decide) ?_
  refine ev_icmp_eq (tgt := 132) dX12_clause_123 (by decide) (fun c_123 => absurd c_123 (by decide)) (fun c_123 => ?_)
  refine ev_iload_n dX12_clause_126 rfl rfl ?_
  refine ev_bipush (v := nI 6) dX12_clause_127 (by decide) ?_
  refine ev_icmp_ne (tgt := 137) dX12_clause_129 (by decide) (fun c_129 => ?_) (fun c_129 => absurd c_129 (by decide))
  refine ev_sipush (v := nI 9999) dX12_clause_137 (by decide) ?_
  refine mo_call2 (d' := d - 1) hE hT dX12_clause_140 rfl rfl kX12_figures lX12_311 iX12_figures vX12_figures (Nat.le_of_ble_eq_true rfl) (by omega) (c_X12_figures (lo := 0) (hi := 9999) hE h3 (by omega) HS (by rw [mo_up_ne (by decide), mo_up_ne (by decide)]; exact hfa) (by decide) (by decide)) (fun g hT => ?_)
  rw [hx] at hT
  rw [hx]
  refine mo_iast (q := ci) hE hT dX12_clause_143 (by decide) rfl (show _ < 120 from hci) (fun g hT => ?_)
  refine ev_goto (tgt := 234) dX12_clause_144 (by decide) ?_
  unfold ps_cg at hcl
  by_cases y : ps_dig (ps_bt (ps_tx S) N (ps_skn (ps_tx S) N h)) = true
  · rw [if_pos y] at hcl
    rw [if_pos y, if_pos y] at hT
    have hg := ps_fig_gt y
    by_cases z : (ps_fig (ps_tx S) N (ps_skn (ps_tx S) N h)).2 < 0 ∨ 9999 < (ps_fig (ps_tx S) N (ps_skn (ps_tx S) N h)).2
    · rw [if_pos z] at hcl hT
      exact cl_F (R := ps_cl (ps_tx S) N p) hE (by omega) (ps_CB.wt (ps_cB1 hP hg.2 (by decide)) (Or.inr rfl)) hcl g hT
    · rw [if_neg z] at hcl hT
      exact cl_G (R := ps_cl (ps_tx S) N p) (e := _) (ww := _) (m := _) (mm := _) (L := _) (C := _) (F := _) hE (by omega) (ps_cG1 hP (by omega) hg.2) (by rw [if_neg (by decide)]) hcl g hT
  · rw [if_neg y] at hcl
    rw [if_neg y, if_neg y] at hT
    exact cl_F (R := ps_cl (ps_tx S) N p) hE (by omega) (ps_CB.wt (ps_cB1 hP hsp.2 (by decide)) (Or.inr rfl)) hcl g hT
theorem cl_5 {G : ev_G} {W : mo_W} {d : Nat} {g0 : ev_H} {S : mo_S} {N p c O ci h : Nat} {v3 : Option Value} (hE : ev_En G) (h3 : ev_En3 G) (hd : 50 ≤ d) (hP : ps_P S N p 0 c O) (hf : ps_fnd (ps_tx S) N p ps_cn 10 = some 5) (hh : h = p + 4) (hhN : h ≤ N) (hci : ci < 120) : ∀ g, mo_T G W g0 g (mo_up S 31 0 (nI h)) → ev_V G d 0 0 mX12_clause (fun o g' => ∃ r S2, o = .inl r ∧ (r = none ∧ ps_CQ S N p c O ci (ps_cl (ps_tx S) N p) S2) ∧ mo_T G W g0 g' S2) g 97 [some (.ref W.1), some (.int (nI ci)), some (.int (nI 5)), v3] [] := by
  intro g hT
  have hn3 := hP.1.2.1
  have hfa := hP.2.1
  have HU := hP.1.up hhN
  have hsp := ps_skn_in (t := (ps_tx S)) hhN
  have hcl : ps_cl (ps_tx S) N p = ps_cg (ps_tx S) N (nI 7) 0 100 (ps_skn (ps_tx S) N (p + 4)) := by unfold ps_cl; rw [hf]; rfl
  have HS : ps_at (mo_up (mo_up S 31 0 (nI h)) 38 ci (nI 7)) N h := HU.c38
  have hx : ps_tx (mo_up (mo_up S 31 0 (nI h)) 38 ci (nI 7)) = (ps_tx S) := by rw [ps_tx_38, ps_tx_31]
  rw [← hh] at hcl
  refine ev_iload_n dX12_clause_97 rfl rfl ?_
  refine ev_bipush (v := nI 8) dX12_clause_98 (by decide) ?_
  refine ev_icmp_ge (tgt := 147) dX12_clause_100 (by decide) (fun c_100 => absurd c_100 (by decide)) (fun c_100 => ?_)
  refine ev_aload_n dX12_clause_103 rfl rfl ?_
  refine mo_geta hE hT dX12_clause_104 fX12_90 (by decide) ?_
  refine ev_iload_n dX12_clause_107 rfl rfl ?_
  refine ev_iconst (v := 5) dX12_clause_108 (by decide) ?_
  refine ev_iload_n dX12_clause_109 rfl rfl ?_
  refine ev_iadd dX12_clause_110 ?_
  refine ev_iconst (v := 3) dX12_clause_111 (by decide) ?_
  refine ev_isub dX12_clause_112 ?_
  rw [show (5 : Int32) + nI 5 - 3 = nI 7 by decide]
  refine mo_iast (q := ci) hE hT dX12_clause_113 (by decide) rfl (show _ < 120 from hci) (fun g hT => ?_)
  refine ev_aload_n dX12_clause_114 rfl rfl ?_
  refine mo_geta hE hT dX12_clause_115 fX12_93 (by decide) ?_
  refine ev_iload_n dX12_clause_118 rfl rfl ?_
  refine ev_aload_n dX12_clause_119 rfl rfl ?_
  refine ev_iconst (v := nI 0) dX12_clause_120 (by decide) ?_
  refine ev_iload_n dX12_clause_121 rfl rfl ?_
  refine ev_iconst (v := nI 5) dX12_clause_122 (by decide) ?_
  refine ev_icmp_eq (tgt := 132) dX12_clause_123 (by decide) (fun c_123 => ?_) (fun c_123 => absurd rfl c_123)
  refine ev_bipush (v := nI 100) dX12_clause_132 (by decide) ?_
  refine ev_goto (tgt := 140) dX12_clause_134 (by decide) ?_
  refine mo_call2 (d' := d - 1) hE hT dX12_clause_140 rfl rfl kX12_figures lX12_311 iX12_figures vX12_figures (Nat.le_of_ble_eq_true rfl) (by omega) (c_X12_figures (lo := 0) (hi := 100) hE h3 (by omega) HS (by rw [mo_up_ne (by decide), mo_up_ne (by decide)]; exact hfa) (by decide) (by decide)) (fun g hT => ?_)
  rw [hx] at hT
  rw [hx]
  refine mo_iast (q := ci) hE hT dX12_clause_143 (by decide) rfl (show _ < 120 from hci) (fun g hT => ?_)
  refine ev_goto (tgt := 234) dX12_clause_144 (by decide) ?_
  unfold ps_cg at hcl
  by_cases y : ps_dig (ps_bt (ps_tx S) N (ps_skn (ps_tx S) N h)) = true
  · rw [if_pos y] at hcl
    rw [if_pos y, if_pos y] at hT
    have hg := ps_fig_gt y
    by_cases z : (ps_fig (ps_tx S) N (ps_skn (ps_tx S) N h)).2 < 0 ∨ 100 < (ps_fig (ps_tx S) N (ps_skn (ps_tx S) N h)).2
    · rw [if_pos z] at hcl hT
      exact cl_F (R := ps_cl (ps_tx S) N p) hE (by omega) (ps_CB.wt (ps_cB1 hP hg.2 (by decide)) (Or.inr rfl)) hcl g hT
    · rw [if_neg z] at hcl hT
      exact cl_G (R := ps_cl (ps_tx S) N p) (e := _) (ww := _) (m := _) (mm := _) (L := _) (C := _) (F := _) hE (by omega) (ps_cG1 hP (by omega) hg.2) (by rw [if_neg (by decide)]) hcl g hT
  · rw [if_neg y] at hcl
    rw [if_neg y, if_neg y] at hT
    exact cl_F (R := ps_cl (ps_tx S) N p) hE (by omega) (ps_CB.wt (ps_cB1 hP hsp.2 (by decide)) (Or.inr rfl)) hcl g hT
theorem cl_6 {G : ev_G} {W : mo_W} {d : Nat} {g0 : ev_H} {S : mo_S} {N p c O ci h : Nat} {v3 : Option Value} (hE : ev_En G) (h3 : ev_En3 G) (hd : 50 ≤ d) (hP : ps_P S N p 0 c O) (hf : ps_fnd (ps_tx S) N p ps_cn 10 = some 6) (hh : h = p + 5) (hhN : h ≤ N) (hci : ci < 120) : ∀ g, mo_T G W g0 g (mo_up S 31 0 (nI h)) → ev_V G d 0 0 mX12_clause (fun o g' => ∃ r S2, o = .inl r ∧ (r = none ∧ ps_CQ S N p c O ci (ps_cl (ps_tx S) N p) S2) ∧ mo_T G W g0 g' S2) g 97 [some (.ref W.1), some (.int (nI ci)), some (.int (nI 6)), v3] [] := by
  intro g hT
  have hn3 := hP.1.2.1
  have hfa := hP.2.1
  have HU := hP.1.up hhN
  have hsp := ps_skn_in (t := (ps_tx S)) hhN
  have hcl : ps_cl (ps_tx S) N p = ps_cg (ps_tx S) N (nI 8) 0 100 (ps_skn (ps_tx S) N (p + 5)) := by unfold ps_cl; rw [hf]; rfl
  have HS : ps_at (mo_up (mo_up S 31 0 (nI h)) 38 ci (nI 8)) N h := HU.c38
  have hx : ps_tx (mo_up (mo_up S 31 0 (nI h)) 38 ci (nI 8)) = (ps_tx S) := by rw [ps_tx_38, ps_tx_31]
  rw [← hh] at hcl
  refine ev_iload_n dX12_clause_97 rfl rfl ?_
  refine ev_bipush (v := nI 8) dX12_clause_98 (by decide) ?_
  refine ev_icmp_ge (tgt := 147) dX12_clause_100 (by decide) (fun c_100 => absurd c_100 (by decide)) (fun c_100 => ?_)
  refine ev_aload_n dX12_clause_103 rfl rfl ?_
  refine mo_geta hE hT dX12_clause_104 fX12_90 (by decide) ?_
  refine ev_iload_n dX12_clause_107 rfl rfl ?_
  refine ev_iconst (v := 5) dX12_clause_108 (by decide) ?_
  refine ev_iload_n dX12_clause_109 rfl rfl ?_
  refine ev_iadd dX12_clause_110 ?_
  refine ev_iconst (v := 3) dX12_clause_111 (by decide) ?_
  refine ev_isub dX12_clause_112 ?_
  rw [show (5 : Int32) + nI 6 - 3 = nI 8 by decide]
  refine mo_iast (q := ci) hE hT dX12_clause_113 (by decide) rfl (show _ < 120 from hci) (fun g hT => ?_)
  refine ev_aload_n dX12_clause_114 rfl rfl ?_
  refine mo_geta hE hT dX12_clause_115 fX12_93 (by decide) ?_
  refine ev_iload_n dX12_clause_118 rfl rfl ?_
  refine ev_aload_n dX12_clause_119 rfl rfl ?_
  refine ev_iconst (v := nI 0) dX12_clause_120 (by decide) ?_
  refine ev_iload_n dX12_clause_121 rfl rfl ?_
  refine ev_iconst (v := nI 5) dX12_clause_122 (by decide) ?_
  refine ev_icmp_eq (tgt := 132) dX12_clause_123 (by decide) (fun c_123 => absurd c_123 (by decide)) (fun c_123 => ?_)
  refine ev_iload_n dX12_clause_126 rfl rfl ?_
  refine ev_bipush (v := nI 6) dX12_clause_127 (by decide) ?_
  refine ev_icmp_ne (tgt := 137) dX12_clause_129 (by decide) (fun c_129 => absurd rfl c_129) (fun c_129 => ?_)
  refine ev_bipush (v := nI 100) dX12_clause_132 (by decide) ?_
  refine ev_goto (tgt := 140) dX12_clause_134 (by decide) ?_
  refine mo_call2 (d' := d - 1) hE hT dX12_clause_140 rfl rfl kX12_figures lX12_311 iX12_figures vX12_figures (Nat.le_of_ble_eq_true rfl) (by omega) (c_X12_figures (lo := 0) (hi := 100) hE h3 (by omega) HS (by rw [mo_up_ne (by decide), mo_up_ne (by decide)]; exact hfa) (by decide) (by decide)) (fun g hT => ?_)
  rw [hx] at hT
  rw [hx]
  refine mo_iast (q := ci) hE hT dX12_clause_143 (by decide) rfl (show _ < 120 from hci) (fun g hT => ?_)
  refine ev_goto (tgt := 234) dX12_clause_144 (by decide) ?_
  unfold ps_cg at hcl
  by_cases y : ps_dig (ps_bt (ps_tx S) N (ps_skn (ps_tx S) N h)) = true
  · rw [if_pos y] at hcl
    rw [if_pos y, if_pos y] at hT
    have hg := ps_fig_gt y
    by_cases z : (ps_fig (ps_tx S) N (ps_skn (ps_tx S) N h)).2 < 0 ∨ 100 < (ps_fig (ps_tx S) N (ps_skn (ps_tx S) N h)).2
    · rw [if_pos z] at hcl hT
      exact cl_F (R := ps_cl (ps_tx S) N p) hE (by omega) (ps_CB.wt (ps_cB1 hP hg.2 (by decide)) (Or.inr rfl)) hcl g hT
    · rw [if_neg z] at hcl hT
      exact cl_G (R := ps_cl (ps_tx S) N p) (e := _) (ww := _) (m := _) (mm := _) (L := _) (C := _) (F := _) hE (by omega) (ps_cG1 hP (by omega) hg.2) (by rw [if_neg (by decide)]) hcl g hT
  · rw [if_neg y] at hcl
    rw [if_neg y, if_neg y] at hT
    exact cl_F (R := ps_cl (ps_tx S) N p) hE (by omega) (ps_CB.wt (ps_cB1 hP hsp.2 (by decide)) (Or.inr rfl)) hcl g hT
theorem cl_7 {G : ev_G} {W : mo_W} {d : Nat} {g0 : ev_H} {S : mo_S} {N p c O ci h : Nat} {v3 : Option Value} (hE : ev_En G) (h3 : ev_En3 G) (hd : 50 ≤ d) (hP : ps_P S N p 0 c O) (hf : ps_fnd (ps_tx S) N p ps_cn 10 = some 7) (hh : h = p + 5) (hhN : h ≤ N) (hci : ci < 120) : ∀ g, mo_T G W g0 g (mo_up S 31 0 (nI h)) → ev_V G d 0 0 mX12_clause (fun o g' => ∃ r S2, o = .inl r ∧ (r = none ∧ ps_CQ S N p c O ci (ps_cl (ps_tx S) N p) S2) ∧ mo_T G W g0 g' S2) g 97 [some (.ref W.1), some (.int (nI ci)), some (.int (nI 7)), v3] [] := by
  intro g hT
  have hn3 := hP.1.2.1
  have hfa := hP.2.1
  have HU := hP.1.up hhN
  have hsp := ps_skn_in (t := (ps_tx S)) hhN
  have hcl : ps_cl (ps_tx S) N p = ps_cg (ps_tx S) N (nI 9) 0 9999 (ps_skn (ps_tx S) N (p + 5)) := by unfold ps_cl; rw [hf]; rfl
  have HS : ps_at (mo_up (mo_up S 31 0 (nI h)) 38 ci (nI 9)) N h := HU.c38
  have hx : ps_tx (mo_up (mo_up S 31 0 (nI h)) 38 ci (nI 9)) = (ps_tx S) := by rw [ps_tx_38, ps_tx_31]
  rw [← hh] at hcl
  refine ev_iload_n dX12_clause_97 rfl rfl ?_
  refine ev_bipush (v := nI 8) dX12_clause_98 (by decide) ?_
  refine ev_icmp_ge (tgt := 147) dX12_clause_100 (by decide) (fun c_100 => absurd c_100 (by decide)) (fun c_100 => ?_)
  refine ev_aload_n dX12_clause_103 rfl rfl ?_
  refine mo_geta hE hT dX12_clause_104 fX12_90 (by decide) ?_
  refine ev_iload_n dX12_clause_107 rfl rfl ?_
  refine ev_iconst (v := 5) dX12_clause_108 (by decide) ?_
  refine ev_iload_n dX12_clause_109 rfl rfl ?_
  refine ev_iadd dX12_clause_110 ?_
  refine ev_iconst (v := 3) dX12_clause_111 (by decide) ?_
  refine ev_isub dX12_clause_112 ?_
  rw [show (5 : Int32) + nI 7 - 3 = nI 9 by decide]
  refine mo_iast (q := ci) hE hT dX12_clause_113 (by decide) rfl (show _ < 120 from hci) (fun g hT => ?_)
  refine ev_aload_n dX12_clause_114 rfl rfl ?_
  refine mo_geta hE hT dX12_clause_115 fX12_93 (by decide) ?_
  refine ev_iload_n dX12_clause_118 rfl rfl ?_
  refine ev_aload_n dX12_clause_119 rfl rfl ?_
  refine ev_iconst (v := nI 0) dX12_clause_120 (by decide) ?_
  refine ev_iload_n dX12_clause_121 rfl rfl ?_
  refine ev_iconst (v := nI 5) dX12_clause_122 (by decide) ?_
  refine ev_icmp_eq (tgt := 132) dX12_clause_123 (by decide) (fun c_123 => absurd c_123 (by decide)) (fun c_123 => ?_)
  refine ev_iload_n dX12_clause_126 rfl rfl ?_
  refine ev_bipush (v := nI 6) dX12_clause_127 (by decide) ?_
  refine ev_icmp_ne (tgt := 137) dX12_clause_129 (by decide) (fun c_129 => ?_) (fun c_129 => absurd c_129 (by decide))
  refine ev_sipush (v := nI 9999) dX12_clause_137 (by decide) ?_
  refine mo_call2 (d' := d - 1) hE hT dX12_clause_140 rfl rfl kX12_figures lX12_311 iX12_figures vX12_figures (Nat.le_of_ble_eq_true rfl) (by omega) (c_X12_figures (lo := 0) (hi := 9999) hE h3 (by omega) HS (by rw [mo_up_ne (by decide), mo_up_ne (by decide)]; exact hfa) (by decide) (by decide)) (fun g hT => ?_)
  rw [hx] at hT
  rw [hx]
  refine mo_iast (q := ci) hE hT dX12_clause_143 (by decide) rfl (show _ < 120 from hci) (fun g hT => ?_)
  refine ev_goto (tgt := 234) dX12_clause_144 (by decide) ?_
  unfold ps_cg at hcl
  by_cases y : ps_dig (ps_bt (ps_tx S) N (ps_skn (ps_tx S) N h)) = true
  · rw [if_pos y] at hcl
    rw [if_pos y, if_pos y] at hT
    have hg := ps_fig_gt y
    by_cases z : (ps_fig (ps_tx S) N (ps_skn (ps_tx S) N h)).2 < 0 ∨ 9999 < (ps_fig (ps_tx S) N (ps_skn (ps_tx S) N h)).2
    · rw [if_pos z] at hcl hT
      exact cl_F (R := ps_cl (ps_tx S) N p) hE (by omega) (ps_CB.wt (ps_cB1 hP hg.2 (by decide)) (Or.inr rfl)) hcl g hT
    · rw [if_neg z] at hcl hT
      exact cl_G (R := ps_cl (ps_tx S) N p) (e := _) (ww := _) (m := _) (mm := _) (L := _) (C := _) (F := _) hE (by omega) (ps_cG1 hP (by omega) hg.2) (by rw [if_neg (by decide)]) hcl g hT
  · rw [if_neg y] at hcl
    rw [if_neg y, if_neg y] at hT
    exact cl_F (R := ps_cl (ps_tx S) N p) hE (by omega) (ps_CB.wt (ps_cB1 hP hsp.2 (by decide)) (Or.inr rfl)) hcl g hT
theorem cl_1 {G : ev_G} {W : mo_W} {d : Nat} {g0 : ev_H} {S : mo_S} {N p c O ci h : Nat} {v3 : Option Value} (hE : ev_En G) (h3 : ev_En3 G) (hd : 50 ≤ d) (hP : ps_P S N p 0 c O) (hf : ps_fnd (ps_tx S) N p ps_cn 10 = some 1) (hh : h = p + 5) (hhN : h ≤ N) (hci : ci < 120) : ∀ g, mo_T G W g0 g (mo_up S 31 0 (nI h)) → ev_V G d 0 0 mX12_clause (fun o g' => ∃ r S2, o = .inl r ∧ (r = none ∧ ps_CQ S N p c O ci (ps_cl (ps_tx S) N p) S2) ∧ mo_T G W g0 g' S2) g 53 [some (.ref W.1), some (.int (nI ci)), some (.int (nI 1)), v3] [] := by
  intro g hT
  have hn3 := hP.1.2.1
  have hfa := hP.2.1
  have HU := hP.1.up hhN
  have hsp := ps_skn_in (t := (ps_tx S)) hhN
  have hcl : ps_cl (ps_tx S) N p = (match ps_fnd (ps_tx S) N (ps_skn (ps_tx S) N (p + 5)) ps_kn 3 with | none => .inl (1, ps_skn (ps_tx S) N (p + 5)) | some k => ps_cg (ps_tx S) N (1 + nI k) 2 64 (ps_skn (ps_tx S) N (ps_skn (ps_tx S) N (p + 5) + (ps_kn k).length))) := by unfold ps_cl; rw [hf]; rfl
  rw [← hh] at hcl
  refine ev_aload_n dX12_clause_53 rfl rfl ?_
  refine mo_geta hE hT dX12_clause_54 fX12_90 (by decide) ?_
  refine ev_iload_n dX12_clause_57 rfl rfl ?_
  refine ev_iconst (v := 1) dX12_clause_58 (by decide) ?_
  refine ev_aload_n dX12_clause_59 rfl rfl ?_
  refine ev_iconst (v := 3) dX12_clause_60 (by decide) ?_
  refine ev_iconst (v := 1) dX12_clause_61 (by decide) ?_
  refine mo_call2 (d' := d - 1) hE hT dX12_clause_62 rfl rfl kX12_oneOf lX12_350 iX12_oneOf vX12_oneOf (Nat.le_of_ble_eq_true rfl) (by omega) (c_X12_oneOfK hE h3 (by omega) HU (by rw [mo_up_ne (by decide)]; exact hfa)) (fun g hT => ?_)
  rw [ps_tx_31] at hT
  rw [ps_tx_31]
  refine ev_iadd dX12_clause_65 ?_
  refine mo_iast (q := ci) hE hT dX12_clause_66 (by decide) rfl (show _ < 120 from hci) (fun g hT => ?_)
  refine ev_aload_n dX12_clause_67 rfl rfl ?_
  refine mo_geta hE hT dX12_clause_68 fX12_93 (by decide) ?_
  refine ev_iload_n dX12_clause_71 rfl rfl ?_
  refine ev_aload_n dX12_clause_72 rfl rfl ?_
  refine ev_iconst (v := nI 2) dX12_clause_73 (by decide) ?_
  refine ev_bipush (v := nI 64) dX12_clause_74 (by decide) ?_
  cases hk : ps_fnd (ps_tx S) N (ps_skn (ps_tx S) N h) ps_kn 3 with
  | none =>
    rw [hk] at hT hcl
    dsimp only at hT hcl
    have hB : ps_CB S N c O ci _ 1 (ps_skn (ps_tx S) N h) := ps_cB0 (v := nI h) hP hsp.2 (by decide)
    have hB := ps_CB.wt (v := 1 + nI ((none : Option Nat).getD 0)) hB (Or.inl rfl)
    refine mo_call2 (d' := d - 1) hE hT dX12_clause_76 rfl rfl kX12_figures lX12_311 iX12_figures vX12_figures (Nat.le_of_ble_eq_true rfl) (by omega) (c_X12_figuresF hE hB.f.ne.1) (fun g hT => ?_)
    refine mo_iast (q := ci) hE hT dX12_clause_79 (by decide) rfl (show _ < 120 from hci) (fun g hT => ?_)
    refine ev_goto (tgt := 234) dX12_clause_80 (by decide) ?_
    exact cl_F (R := ps_cl (ps_tx S) N p) hE (by omega) (ps_CB.wt hB (Or.inr rfl)) hcl g hT
  | some k =>
    rw [hk] at hT hcl
    dsimp only [Option.getD] at hT hcl
    have hl := ps_fnd_lt hk
    have hin := ps_wd_in (ps_kn_pos k hl.1) hsp.2 hl.2
    have HS : ps_at (mo_up (mo_up (mo_up S 31 0 (nI h)) 31 0 (nI ((ps_skn (ps_tx S) N h) + (ps_kn k).length))) 38 ci (1 + nI k)) N ((ps_skn (ps_tx S) N h) + (ps_kn k).length) := (HU.up hin).c38
    have hx : ps_tx (mo_up (mo_up (mo_up S 31 0 (nI h)) 31 0 (nI ((ps_skn (ps_tx S) N h) + (ps_kn k).length))) 38 ci (1 + nI k)) = (ps_tx S) := by rw [ps_tx_38, ps_tx_31, ps_tx_31]
    refine mo_call2 (d' := d - 1) hE hT dX12_clause_76 rfl rfl kX12_figures lX12_311 iX12_figures vX12_figures (Nat.le_of_ble_eq_true rfl) (by omega) (c_X12_figures (lo := 2) (hi := 64) hE h3 (by omega) HS (by rw [mo_up_ne (by decide), mo_up_ne (by decide), mo_up_ne (by decide)]; exact hfa) (by decide) (by decide)) (fun g hT => ?_)
    rw [hx] at hT
    rw [hx]
    rw [show mo_up (mo_up S 31 0 (nI h)) 31 0 (nI ((ps_skn (ps_tx S) N h) + (ps_kn k).length)) = mo_up S 31 0 (nI ((ps_skn (ps_tx S) N h) + (ps_kn k).length)) from ps_tw] at hT
    refine mo_iast (q := ci) hE hT dX12_clause_79 (by decide) rfl (show _ < 120 from hci) (fun g hT => ?_)
    refine ev_goto (tgt := 234) dX12_clause_80 (by decide) ?_
    have hsq := ps_skn_in (t := (ps_tx S)) hin
    have hk4 : ¬ (1 + nI k = 0 ∨ 1 + nI k = 4) := by
      have : ∀ k, k < 3 → ¬ (1 + nI k = 0 ∨ 1 + nI k = 4) := by decide
      exact this k hl.1
    unfold ps_cg at hcl
    by_cases y : ps_dig (ps_bt (ps_tx S) N (ps_skn (ps_tx S) N ((ps_skn (ps_tx S) N h) + (ps_kn k).length))) = true
    · rw [if_pos y] at hcl
      rw [if_pos y, if_pos y] at hT
      have hg := ps_fig_gt y
      by_cases z : (ps_fig (ps_tx S) N (ps_skn (ps_tx S) N ((ps_skn (ps_tx S) N h) + (ps_kn k).length))).2 < 2 ∨ 64 < (ps_fig (ps_tx S) N (ps_skn (ps_tx S) N ((ps_skn (ps_tx S) N h) + (ps_kn k).length))).2
      · rw [if_pos z] at hcl hT
        exact cl_F (R := ps_cl (ps_tx S) N p) hE (by omega) (ps_CB.wt (ps_cB1 hP hg.2 (by decide)) (Or.inr rfl)) hcl g hT
      · rw [if_neg z] at hcl hT
        exact cl_G (R := ps_cl (ps_tx S) N p) (e := _) (ww := _) (m := _) (mm := _) (L := _) (C := _) (F := _) hE (by omega) (ps_cG1 hP (by omega) hg.2) (by rw [if_neg hk4]) hcl g hT
    · rw [if_neg y] at hcl
      rw [if_neg y, if_neg y] at hT
      exact cl_F (R := ps_cl (ps_tx S) N p) hE (by omega) (ps_CB.wt (ps_cB1 hP hsq.2 (by decide)) (Or.inr rfl)) hcl g hT
theorem cl_9 {G : ev_G} {W : mo_W} {d : Nat} {g0 : ev_H} {S : mo_S} {N p c O ci h : Nat} {v3 : Option Value} (hE : ev_En G) (h3 : ev_En3 G) (hd : 50 ≤ d) (hP : ps_P S N p 0 c O) (hf : ps_fnd (ps_tx S) N p ps_cn 10 = some 9) (hh : h = p + 3) (hhN : h ≤ N) (hci : ci < 120) : ∀ g, mo_T G W g0 g (mo_up S 31 0 (nI h)) → ev_V G d 0 0 mX12_clause (fun o g' => ∃ r S2, o = .inl r ∧ (r = none ∧ ps_CQ S N p c O ci (ps_cl (ps_tx S) N p) S2) ∧ mo_T G W g0 g' S2) g 214 [some (.ref W.1), some (.int (nI ci)), some (.int (nI 9)), v3] [] := by
  intro g hT
  have hn3 := hP.1.2.1
  have hfa := hP.2.1
  have HU := hP.1.up hhN
  have hsp := ps_skn_in (t := (ps_tx S)) hhN
  have hcl : ps_cl (ps_tx S) N p = (match ps_fnd (ps_tx S) N (ps_skn (ps_tx S) N (p + 3)) ps_wn 4 with | none => .inl (1, ps_skn (ps_tx S) N (p + 3)) | some k => ps_ce (ps_tx S) N (ps_skn (ps_tx S) N (ps_skn (ps_tx S) N (p + 3) + (ps_wn k).length)) 11 (nI k) [] [] (fun _ => 0)) := by unfold ps_cl; rw [hf]; rfl
  rw [← hh] at hcl
  have HS : ps_at (mo_up (mo_up S 31 0 (nI h)) 38 ci 11) N h := HU.c38
  have hx : ps_tx (mo_up (mo_up S 31 0 (nI h)) 38 ci 11) = (ps_tx S) := by rw [ps_tx_38, ps_tx_31]
  refine ev_aload_n dX12_clause_214 rfl rfl ?_
  refine mo_geta hE hT dX12_clause_215 fX12_90 (by decide) ?_
  refine ev_iload_n dX12_clause_218 rfl rfl ?_
  refine ev_bipush (v := 11) dX12_clause_219 (by decide) ?_
  refine mo_iast (q := ci) hE hT dX12_clause_221 (by decide) rfl (show _ < 120 from hci) (fun g hT => ?_)
  refine ev_aload_n dX12_clause_222 rfl rfl ?_
  refine mo_geta hE hT dX12_clause_223 fX12_93 (by decide) ?_
  refine ev_iload_n dX12_clause_226 rfl rfl ?_
  refine ev_aload_n dX12_clause_227 rfl rfl ?_
  refine ev_iconst (v := 4) dX12_clause_228 (by decide) ?_
  refine ev_iconst (v := 0) dX12_clause_229 (by decide) ?_
  refine mo_call2 (d' := d - 1) hE hT dX12_clause_230 rfl rfl kX12_oneOf lX12_350 iX12_oneOf vX12_oneOf (Nat.le_of_ble_eq_true rfl) (by omega) (c_X12_oneOfW hE h3 (by omega) HS (by rw [mo_up_ne (by decide), mo_up_ne (by decide)]; exact hfa)) (fun g hT => ?_)
  rw [hx] at hT
  rw [hx]
  refine mo_iast (q := ci) hE hT dX12_clause_233 (by decide) rfl (show _ < 120 from hci) (fun g hT => ?_)
  cases hk : ps_fnd (ps_tx S) N (ps_skn (ps_tx S) N h) ps_wn 4 with
  | none =>
    rw [hk] at hT hcl
    dsimp only at hT hcl
    exact cl_F (R := ps_cl (ps_tx S) N p) hE (by omega) (ps_CB.wt (ps_cB1 hP hsp.2 (by decide)) (Or.inr rfl)) hcl g hT
  | some k =>
    rw [hk] at hT hcl
    dsimp only [Option.getD] at hT hcl
    have hl := ps_fnd_lt hk
    have hin := ps_wd_in (ps_wn_pos k hl.1) hsp.2 hl.2
    exact cl_G (R := ps_cl (ps_tx S) N p) (e := _) (ww := _) (m := _) (mm := _) (L := _) (C := _) (F := _) hE (by omega) (ps_cG1 hP (by omega) hin) (by rw [if_neg (by decide)]) hcl g hT
theorem cl_8 {G : ev_G} {W : mo_W} {d : Nat} {g0 : ev_H} {S : mo_S} {N p c O ci h : Nat} {v3 : Option Value} (hE : ev_En G) (h3 : ev_En3 G) (hd : 50 ≤ d) (hP : ps_P S N p 0 c O) (hf : ps_fnd (ps_tx S) N p ps_cn 10 = some 8) (hh : h = p + 4) (hhN : h ≤ N) (hci : ci < 120) : ∀ g, mo_T G W g0 g (mo_up S 31 0 (nI h)) → ev_V G d 0 0 mX12_clause (fun o g' => ∃ r S2, o = .inl r ∧ (r = none ∧ ps_CQ S N p c O ci (ps_cl (ps_tx S) N p) S2) ∧ mo_T G W g0 g' S2) g 147 [some (.ref W.1), some (.int (nI ci)), some (.int (nI 8)), v3] [] := by
  intro g hT
  have hn3 := hP.1.2.1
  have hfa := hP.2.1
  have HU := hP.1.up hhN
  have hsp := ps_skn_in (t := (ps_tx S)) hhN
  have hcl : ps_cl (ps_tx S) N p = (if ps_wd (ps_tx S) N (ps_skn (ps_tx S) N (p + 4)) [109, 111, 115, 116] = true then ps_ce (ps_tx S) N (ps_skn (ps_tx S) N (ps_skn (ps_tx S) N (p + 4) + 4)) 10 1 [] [] (fun _ => 0) else if ps_wd (ps_tx S) N (ps_skn (ps_tx S) N (p + 4)) [107, 101, 101, 112] = true then ps_ce (ps_tx S) N (ps_skn (ps_tx S) N (ps_skn (ps_tx S) N (p + 4) + 4)) 10 0 [] [] (fun _ => 0) else .inl (1, ps_skn (ps_tx S) N (p + 4))) := by unfold ps_cl; rw [hf]; rfl
  rw [← hh] at hcl
  have HS : ps_at (mo_up (mo_up S 31 0 (nI h)) 38 ci 10) N h := HU.c38
  have hx : ps_tx (mo_up (mo_up S 31 0 (nI h)) 38 ci 10) = (ps_tx S) := by rw [ps_tx_38, ps_tx_31]
  have hf0 : (mo_up (mo_up S 31 0 (nI h)) 38 ci 10).1 32 0 = 0 := by rw [mo_up_ne (by decide), mo_up_ne (by decide)]; exact hfa
  refine ev_iload_n dX12_clause_147 rfl rfl ?_
  refine ev_bipush (v := nI 8) dX12_clause_148 (by decide) ?_
  refine ev_icmp_ne (tgt := 214) dX12_clause_150 (by decide) (fun c_150 => absurd rfl c_150) (fun c_150 => ?_)
  refine ev_aload_n dX12_clause_153 rfl rfl ?_
  refine mo_geta hE hT dX12_clause_154 fX12_90 (by decide) ?_
  refine ev_iload_n dX12_clause_157 rfl rfl ?_
  refine ev_bipush (v := 10) dX12_clause_158 (by decide) ?_
  refine mo_iast (q := ci) hE hT dX12_clause_160 (by decide) rfl (show _ < 120 from hci) (fun g hT => ?_)
  refine ev_aload_n dX12_clause_161 rfl rfl ?_
  refine ev_ldcwS dX12_clause_162 (ps_lit h3 25 rfl) (fun a1 hs1 => ?_)
  refine mo_call1 (d' := d - 1) hE hT dX12_clause_165 rfl rfl kX12_eat lX12_317 iX12_eat vX12_eat (Nat.le_of_ble_eq_true rfl) (by omega) (c_X12_eat hE h3 (by omega) HS hs1 hf0) (fun g hT => ?_)
  rw [hx] at hT
  rw [hx]
  refine ev_istore_n dX12_clause_168 rfl (Nat.le_of_ble_eq_true rfl) rfl ?_
  refine ev_iload_n dX12_clause_169 rfl rfl ?_
  by_cases y : ps_wd (ps_tx S) N (ps_skn (ps_tx S) N h) [109, 111, 115, 116] = true
  · rw [if_pos y] at hT hcl
    rw [y]
    refine ev_if_ne (tgt := 196) dX12_clause_170 (by decide) (fun c_170 => ?_) (fun c_170 => absurd c_170 (by decide))
    have hin : (ps_skn (ps_tx S) N h) + 4 ≤ N := ps_wd_in (L := [109, 111, 115, 116]) (by decide) hsp.2 y
    refine ev_aload_n dX12_clause_196 rfl rfl ?_
    refine mo_geta hE hT dX12_clause_197 fX12_93 (by decide) ?_
    refine ev_iload_n dX12_clause_200 rfl rfl ?_
    refine ev_iload_n dX12_clause_201 rfl rfl ?_
    refine ev_if_eq (tgt := 209) dX12_clause_202 (by decide) (fun c_202 => absurd c_202 (by decide)) (fun c_202 => ?_)
    refine ev_iconst (v := 1) dX12_clause_205 (by decide) ?_
    refine ev_goto (tgt := 210) dX12_clause_206 (by decide) ?_
    refine mo_iast (q := ci) hE hT dX12_clause_210 (by decide) rfl (show _ < 120 from hci) (fun g hT => ?_)
    refine ev_goto (tgt := 234) dX12_clause_211 (by decide) ?_
    exact cl_G (R := ps_cl (ps_tx S) N p) (e := _) (ww := _) (m := _) (mm := _) (L := _) (C := _) (F := _) hE (by omega) (ps_cG1 hP (by omega) hin) (by rw [if_neg (by decide)]) hcl g hT
  rw [if_neg y] at hT hcl
  rw [Bool.eq_false_iff.mpr y]
  refine ev_if_ne (tgt := 196) dX12_clause_170 (by decide) (fun c_170 => absurd rfl c_170) (fun c_170 => ?_)
  have HS2 : ps_at (mo_up (mo_up (mo_up S 31 0 (nI h)) 38 ci 10) 31 0 (nI (ps_skn (ps_tx S) N h))) N (ps_skn (ps_tx S) N h) := HS.up hsp.2
  have hx2 : ps_tx (mo_up (mo_up (mo_up S 31 0 (nI h)) 38 ci 10) 31 0 (nI (ps_skn (ps_tx S) N h))) = (ps_tx S) := by rw [ps_tx_31, hx]
  refine ev_aload_n dX12_clause_173 rfl rfl ?_
  refine ev_ldcwS dX12_clause_174 (ps_lit h3 26 rfl) (fun a2 hs2 => ?_)
  refine mo_call1 (d' := d - 1) hE hT dX12_clause_177 rfl rfl kX12_eat lX12_317 iX12_eat vX12_eat (Nat.le_of_ble_eq_true rfl) (by omega) (c_X12_eat hE h3 (by omega) HS2 hs2 (by rw [mo_up_ne (by decide)]; exact hf0)) (fun g hT => ?_)
  rw [hx2, ps_skn_i hhN, ps_tw] at hT
  rw [hx2, ps_skn_i hhN]
  by_cases y2 : ps_wd (ps_tx S) N (ps_skn (ps_tx S) N h) [107, 101, 101, 112] = true
  · rw [if_pos y2] at hT hcl
    rw [y2]
    refine ev_if_ne (tgt := 196) dX12_clause_180 (by decide) (fun c_180 => ?_) (fun c_180 => absurd c_180 (by decide))
    have hin : (ps_skn (ps_tx S) N h) + 4 ≤ N := ps_wd_in (L := [107, 101, 101, 112]) (by decide) hsp.2 y2
    refine ev_aload_n dX12_clause_196 rfl rfl ?_
    refine mo_geta hE hT dX12_clause_197 fX12_93 (by decide) ?_
    refine ev_iload_n dX12_clause_200 rfl rfl ?_
    refine ev_iload_n dX12_clause_201 rfl rfl ?_
    refine ev_if_eq (tgt := 209) dX12_clause_202 (by decide) (fun c_202 => ?_) (fun c_202 => absurd rfl c_202)
    refine ev_iconst (v := 0) dX12_clause_209 (by decide) ?_
    refine mo_iast (q := ci) hE hT dX12_clause_210 (by decide) rfl (show _ < 120 from hci) (fun g hT => ?_)
    refine ev_goto (tgt := 234) dX12_clause_211 (by decide) ?_
    exact cl_G (R := ps_cl (ps_tx S) N p) (e := _) (ww := _) (m := _) (mm := _) (L := _) (C := _) (F := _) hE (by omega) (ps_cG1 hP (by omega) hin) (by rw [if_neg (by decide)]) hcl g hT
  rw [if_neg y2] at hT hcl
  rw [Bool.eq_false_iff.mpr y2]
  refine ev_if_ne (tgt := 196) dX12_clause_180 (by decide) (fun c_180 => absurd rfl c_180) (fun c_180 => ?_)
  refine ev_aload_n dX12_clause_183 rfl rfl ?_
  refine mo_call0 (d' := d - 1) hE hT dX12_clause_184 rfl rfl kX12_blanks lX12_225 iX12_blanks vX12_blanks (Nat.le_of_ble_eq_true rfl) (by omega) (c_X12_blanks hE (by omega) HS2) (fun g hT => ?_)
  rw [hx2, ps_skn_i hhN, ps_tw] at hT
  refine ev_aload_n dX12_clause_187 rfl rfl ?_
  refine ev_iconst (v := nI 1) dX12_clause_188 (by decide) ?_
  refine ev_aload_n dX12_clause_189 rfl rfl ?_
  refine mo_getiE (v := nI (ps_skn (ps_tx S) N h)) hE hT dX12_clause_190 fX12_215 (by decide) (by rw [mo_up_at, pk_us]) ?_
  refine mo_call2 (d' := d - 1) hE hT dX12_clause_193 rfl rfl kX12_wrong lX12_285 iX12_wrong vX12_wrong (Nat.le_of_ble_eq_true rfl) (by omega) (c_X12_wrong (x1 := nI 1) (x2 := nI (ps_skn (ps_tx S) N h)) hE) (fun g hT => ?_)
  rw [ps_wr_is hf0] at hT
  refine ev_aload_n dX12_clause_196 rfl rfl ?_
  refine mo_geta hE hT dX12_clause_197 fX12_93 (by decide) ?_
  refine ev_iload_n dX12_clause_200 rfl rfl ?_
  refine ev_iload_n dX12_clause_201 rfl rfl ?_
  refine ev_if_eq (tgt := 209) dX12_clause_202 (by decide) (fun c_202 => ?_) (fun c_202 => absurd rfl c_202)
  refine ev_iconst (v := 0) dX12_clause_209 (by decide) ?_
  refine mo_iast (q := ci) hE hT dX12_clause_210 (by decide) rfl (show _ < 120 from hci) (fun g hT => ?_)
  refine ev_goto (tgt := 234) dX12_clause_211 (by decide) ?_
  exact cl_F (R := ps_cl (ps_tx S) N p) hE (by omega) (ps_CB.wt (ps_cB1 hP hsp.2 (by decide)) (Or.inr rfl)) hcl g hT
theorem c_X12_clause {G : ev_G} {W : mo_W} {d : Nat} {S : mo_S} {N p c O ci : Nat} (hE : ev_En G) (h3 : ev_En3 G) (hd : 50 ≤ d) (hP : ps_P S N p 0 c O) (hp : ps_skn (ps_tx S) N p = p) (hci : ci < 120) : mo_Cr G W d mX12_clause [.int (nI ci)] S (fun r T => r = none ∧ ps_CQ S N p c O ci (ps_cl (ps_tx S) N p) T) := by
  refine mo_startr (lv0 := [some (.ref W.1), some (.int (nI ci)), none, none]) (by decide +kernel) rfl (Nat.le_of_ble_eq_true rfl) rfl ?_
  intro g0 g hT
  have hn3 := hP.1.2.1
  have hpN := hP.1.2.2.2
  refine ev_aload_n dX12_clause_0 rfl rfl ?_
  refine mo_call0 (d' := d - 1) hE hT dX12_clause_1 rfl rfl kX12_clauseHere lX12_344 iX12_clauseHere vX12_clauseHere (Nat.le_of_ble_eq_true rfl) (by omega) (c_X12_clauseHere hE h3 (by omega) hP.1) (fun g hT => ?_)
  rw [hp] at hT
  rw [hp]
  refine ev_istore_n dX12_clause_4 rfl (Nat.le_of_ble_eq_true rfl) rfl ?_
  refine ev_iload_n dX12_clause_5 rfl rfl ?_
  cases hf : ps_fnd (ps_tx S) N p ps_cn 10 with
  | none =>
    refine ev_if_ge (tgt := 19) dX12_clause_6 (by decide) (fun c_6 => absurd c_6 (by decide)) (fun c_6 => ?_)
    refine ev_aload_n dX12_clause_9 rfl rfl ?_
    refine ev_iconst (v := nI 1) dX12_clause_10 (by decide) ?_
    refine ev_aload_n dX12_clause_11 rfl rfl ?_
    refine mo_getiE (v := nI p) hE hT dX12_clause_12 fX12_215 (by decide) (by rw [mo_up_at, pk_us]) ?_
    refine mo_call2 (d' := d - 1) hE hT dX12_clause_15 rfl rfl kX12_wrong lX12_285 iX12_wrong vX12_wrong (Nat.le_of_ble_eq_true rfl) (by omega) (c_X12_wrong (x1 := nI 1) (x2 := nI p) hE) (fun g hT => ?_)
    rw [ps_wr_is hP.2.1] at hT
    refine ev_vret dX12_clause_18 rfl ⟨_, _, rfl, ⟨rfl, ?_⟩, hT⟩
    unfold ps_cl
    rw [hf]
    have q : ps_CB S N c O ci _ 1 p := ps_cB0 (v := nI p) (e := p) hP hpN (by decide)
    have e1 : mo_up S 31 0 (nI p) = S := mo_up_self hP.1.2.2.1
    rw [e1] at q
    exact q
  | some k =>
    have hl := ps_fnd_lt hf
    have hin := ps_wd_in (ps_cn_pos k hl.1) hpN hl.2
    have hlen := ps_cn_len k hl.1
    refine ev_if_ge (tgt := 19) dX12_clause_6 (by decide) (fun c_6 => ?_) (fun c_6 => absurd (show (0 : Int32) ≤ nI k by have q : ∀ k, k < 10 → (0 : Int32) ≤ nI k := (by decide); exact q k hl.1) c_6)
    refine ev_aload_n dX12_clause_19 rfl rfl ?_
    refine ev_dup dX12_clause_20 rfl ?_
    refine mo_getiE (v := nI p) hE hT dX12_clause_21 fX12_215 (by decide) (by rw [mo_up_at, pk_us]) ?_
    refine ev_iload_n dX12_clause_24 rfl rfl ?_
    refine ev_strS (d' := d - 1) dX12_clause_25 rfl kX12_clauseName lX12_278 sX12_clauseName (Nat.le_of_ble_eq_true rfl) (by omega) (c_X12_clauseName h3 hl.1) (fun a hs => ?_)
    refine ev_callO (As := []) (d' := d - 1) dX12_clause_28 rfl kJ0_length_8abf5 rfl lX12_228 iJ0_length_8abf5 vJ0_length_8abf5 hs.choose_spec.1 (Nat.le_of_ble_eq_true rfl) (by omega) (c_length h3.1 (by omega) hs) ?_
    refine ev_iadd dX12_clause_31 ?_
    rw [nI_add]
    refine mo_put hE hT dX12_clause_32 pX12_215 (by decide) (fun g hT => ?_)
    rw [ps_tw, hlen] at hT
    rw [hlen] at hin
    refine ev_iload_n dX12_clause_35 rfl rfl ?_
    obtain hk | hk | hk | hk | hk | hk | hk | hk | hk | hk : k = 0 ∨ k = 1 ∨ k = 2 ∨ k = 3 ∨ k = 4 ∨ k = 5 ∨ k = 6 ∨ k = 7 ∨ k = 8 ∨ k = 9 := by have := hl.1; omega
    · subst hk
      refine ev_if_ne (tgt := 48) dX12_clause_36 (by decide) (fun c_36 => absurd rfl c_36) (fun c_36 => ?_)
      exact cl_0 hE h3 hd hP hf rfl hin hci g hT
    · subst hk
      refine ev_if_ne (tgt := 48) dX12_clause_36 (by decide) (fun c_36 => ?_) (fun c_36 => absurd c_36 (by decide))
      refine ev_iload_n dX12_clause_48 rfl rfl ?_
      refine ev_iconst (v := nI 1) dX12_clause_49 (by decide) ?_
      refine ev_icmp_ne (tgt := 83) dX12_clause_50 (by decide) (fun c_50 => absurd rfl c_50) (fun c_50 => ?_)
      exact cl_1 hE h3 hd hP hf rfl hin hci g hT
    · subst hk
      refine ev_if_ne (tgt := 48) dX12_clause_36 (by decide) (fun c_36 => ?_) (fun c_36 => absurd c_36 (by decide))
      refine ev_iload_n dX12_clause_48 rfl rfl ?_
      refine ev_iconst (v := nI 1) dX12_clause_49 (by decide) ?_
      refine ev_icmp_ne (tgt := 83) dX12_clause_50 (by decide) (fun c_50 => ?_) (fun c_50 => absurd c_50 (by decide))
      refine ev_iload_n dX12_clause_83 rfl rfl ?_
      refine ev_iconst (v := nI 2) dX12_clause_84 (by decide) ?_
      refine ev_icmp_ne (tgt := 97) dX12_clause_85 (by decide) (fun c_85 => absurd rfl c_85) (fun c_85 => ?_)
      exact cl_2 hE h3 hd hP hf rfl hin hci g hT
    · subst hk
      refine ev_if_ne (tgt := 48) dX12_clause_36 (by decide) (fun c_36 => ?_) (fun c_36 => absurd c_36 (by decide))
      refine ev_iload_n dX12_clause_48 rfl rfl ?_
      refine ev_iconst (v := nI 1) dX12_clause_49 (by decide) ?_
      refine ev_icmp_ne (tgt := 83) dX12_clause_50 (by decide) (fun c_50 => ?_) (fun c_50 => absurd c_50 (by decide))
      refine ev_iload_n dX12_clause_83 rfl rfl ?_
      refine ev_iconst (v := nI 2) dX12_clause_84 (by decide) ?_
      refine ev_icmp_ne (tgt := 97) dX12_clause_85 (by decide) (fun c_85 => ?_) (fun c_85 => absurd c_85 (by decide))
      exact cl_3 hE h3 hd hP hf rfl hin hci g hT
    · subst hk
      refine ev_if_ne (tgt := 48) dX12_clause_36 (by decide) (fun c_36 => ?_) (fun c_36 => absurd c_36 (by decide))
      refine ev_iload_n dX12_clause_48 rfl rfl ?_
      refine ev_iconst (v := nI 1) dX12_clause_49 (by decide) ?_
      refine ev_icmp_ne (tgt := 83) dX12_clause_50 (by decide) (fun c_50 => ?_) (fun c_50 => absurd c_50 (by decide))
      refine ev_iload_n dX12_clause_83 rfl rfl ?_
      refine ev_iconst (v := nI 2) dX12_clause_84 (by decide) ?_
      refine ev_icmp_ne (tgt := 97) dX12_clause_85 (by decide) (fun c_85 => ?_) (fun c_85 => absurd c_85 (by decide))
      exact cl_4 hE h3 hd hP hf rfl hin hci g hT
    · subst hk
      refine ev_if_ne (tgt := 48) dX12_clause_36 (by decide) (fun c_36 => ?_) (fun c_36 => absurd c_36 (by decide))
      refine ev_iload_n dX12_clause_48 rfl rfl ?_
      refine ev_iconst (v := nI 1) dX12_clause_49 (by decide) ?_
      refine ev_icmp_ne (tgt := 83) dX12_clause_50 (by decide) (fun c_50 => ?_) (fun c_50 => absurd c_50 (by decide))
      refine ev_iload_n dX12_clause_83 rfl rfl ?_
      refine ev_iconst (v := nI 2) dX12_clause_84 (by decide) ?_
      refine ev_icmp_ne (tgt := 97) dX12_clause_85 (by decide) (fun c_85 => ?_) (fun c_85 => absurd c_85 (by decide))
      exact cl_5 hE h3 hd hP hf rfl hin hci g hT
    · subst hk
      refine ev_if_ne (tgt := 48) dX12_clause_36 (by decide) (fun c_36 => ?_) (fun c_36 => absurd c_36 (by decide))
      refine ev_iload_n dX12_clause_48 rfl rfl ?_
      refine ev_iconst (v := nI 1) dX12_clause_49 (by decide) ?_
      refine ev_icmp_ne (tgt := 83) dX12_clause_50 (by decide) (fun c_50 => ?_) (fun c_50 => absurd c_50 (by decide))
      refine ev_iload_n dX12_clause_83 rfl rfl ?_
      refine ev_iconst (v := nI 2) dX12_clause_84 (by decide) ?_
      refine ev_icmp_ne (tgt := 97) dX12_clause_85 (by decide) (fun c_85 => ?_) (fun c_85 => absurd c_85 (by decide))
      exact cl_6 hE h3 hd hP hf rfl hin hci g hT
    · subst hk
      refine ev_if_ne (tgt := 48) dX12_clause_36 (by decide) (fun c_36 => ?_) (fun c_36 => absurd c_36 (by decide))
      refine ev_iload_n dX12_clause_48 rfl rfl ?_
      refine ev_iconst (v := nI 1) dX12_clause_49 (by decide) ?_
      refine ev_icmp_ne (tgt := 83) dX12_clause_50 (by decide) (fun c_50 => ?_) (fun c_50 => absurd c_50 (by decide))
      refine ev_iload_n dX12_clause_83 rfl rfl ?_
      refine ev_iconst (v := nI 2) dX12_clause_84 (by decide) ?_
      refine ev_icmp_ne (tgt := 97) dX12_clause_85 (by decide) (fun c_85 => ?_) (fun c_85 => absurd c_85 (by decide))
      exact cl_7 hE h3 hd hP hf rfl hin hci g hT
    · subst hk
      refine ev_if_ne (tgt := 48) dX12_clause_36 (by decide) (fun c_36 => ?_) (fun c_36 => absurd c_36 (by decide))
      refine ev_iload_n dX12_clause_48 rfl rfl ?_
      refine ev_iconst (v := nI 1) dX12_clause_49 (by decide) ?_
      refine ev_icmp_ne (tgt := 83) dX12_clause_50 (by decide) (fun c_50 => ?_) (fun c_50 => absurd c_50 (by decide))
      refine ev_iload_n dX12_clause_83 rfl rfl ?_
      refine ev_iconst (v := nI 2) dX12_clause_84 (by decide) ?_
      refine ev_icmp_ne (tgt := 97) dX12_clause_85 (by decide) (fun c_85 => ?_) (fun c_85 => absurd c_85 (by decide))
      refine ev_iload_n dX12_clause_97 rfl rfl ?_
      refine ev_bipush (v := nI 8) dX12_clause_98 (by decide) ?_
      refine ev_icmp_ge (tgt := 147) dX12_clause_100 (by decide) (fun c_100 => ?_) (fun c_100 => absurd (by decide) c_100)
      exact cl_8 hE h3 hd hP hf rfl hin hci g hT
    · subst hk
      refine ev_if_ne (tgt := 48) dX12_clause_36 (by decide) (fun c_36 => ?_) (fun c_36 => absurd c_36 (by decide))
      refine ev_iload_n dX12_clause_48 rfl rfl ?_
      refine ev_iconst (v := nI 1) dX12_clause_49 (by decide) ?_
      refine ev_icmp_ne (tgt := 83) dX12_clause_50 (by decide) (fun c_50 => ?_) (fun c_50 => absurd c_50 (by decide))
      refine ev_iload_n dX12_clause_83 rfl rfl ?_
      refine ev_iconst (v := nI 2) dX12_clause_84 (by decide) ?_
      refine ev_icmp_ne (tgt := 97) dX12_clause_85 (by decide) (fun c_85 => ?_) (fun c_85 => absurd c_85 (by decide))
      refine ev_iload_n dX12_clause_97 rfl rfl ?_
      refine ev_bipush (v := nI 8) dX12_clause_98 (by decide) ?_
      refine ev_icmp_ge (tgt := 147) dX12_clause_100 (by decide) (fun c_100 => ?_) (fun c_100 => absurd (by decide) c_100)
      refine ev_iload_n dX12_clause_147 rfl rfl ?_
      refine ev_bipush (v := nI 8) dX12_clause_148 (by decide) ?_
      refine ev_icmp_ne (tgt := 214) dX12_clause_150 (by decide) (fun c_150 => ?_) (fun c_150 => absurd c_150 (by decide))
      exact cl_9 hE h3 hd hP hf rfl hin hci g hT

end M27
