section M23
/-- a bracket is opened at p -/
def ps_opn (S : mo_S) (p o : Nat) : mo_S := mo_up (mo_up (mo_up S 31 0 (nI p)) 34 0 (nI (o + 1))) 31 0 (nI (p + 1))
theorem ps_opn_ne {S : mo_S} {p o k : Nat} (h : k ≠ 31) (h2 : k ≠ 34) : (ps_opn S p o).1 k = S.1 k := by unfold ps_opn; rw [mo_up_ne h, mo_up_ne h2, mo_up_ne h]
theorem ps_opn_34 {S : mo_S} {p o : Nat} : (ps_opn S p o).1 34 0 = nI (o + 1) := by unfold ps_opn; rw [mo_up_ne (by decide), mo_up_at, pk_us]
theorem ps_opn_at {S : mo_S} {N h p o : Nat} (H : ps_at S N h) (hp : p + 1 ≤ N) : ps_at (ps_opn S p o) N (p + 1) := ⟨by rw [ps_opn_ne (by decide) (by decide)]; exact H.1, H.2.1, by unfold ps_opn; rw [mo_up_at, pk_us], hp⟩
/-- behind an open bracket -/
theorem ps_P.op {S : mo_S} {N h o c O p : Nat} (h0 : ps_P S N h o c O) (ho : o < 8) (hp : h ≤ p) (hp2 : p + 1 ≤ N) : ps_P (ps_opn S p o) N (p + 1) (o + 1) c O := by
  obtain ⟨b1, b2, b3, b4, b5, b6, b7, b8⟩ := h0
  exact ⟨ps_opn_at b1 hp2, by rw [ps_opn_ne (by decide) (by decide)]; exact b2, ps_opn_34, by omega, by rw [ps_opn_ne (by decide) (by decide)]; exact b5, by omega, by rw [ps_opn_ne (by decide) (by decide)]; exact b7, b8⟩
theorem ps_opn_tx {S : mo_S} {p o : Nat} : ps_tx (ps_opn S p o) = ps_tx S := by
  funext a
  unfold ps_tx
  rw [ps_opn_ne (by decide) (by decide)]
/-- a fault behind the bracket -/
theorem ps_B.op {S T : mo_S} {N c O p o w pl : Nat} (h : ps_B (ps_opn S p o) N c O T w pl) : ps_B S N c O T w pl := by
  obtain ⟨a1, a2, a3, a4, a5, a6, a7⟩ := h
  refine ⟨fun k b1 b2 b3 b4 b5 b6 b7 => (a1 k b1 b2 b3 b4 b5 b6 b7).trans (ps_opn_ne b1 b4), a2, a3, a4, a5, a6, fun i hi => ?_⟩
  have := a7 i hi
  rw [ps_opn_ne (by decide) (by decide), ps_opn_ne (by decide) (by decide)] at this
  exact this
/-- the bracket is closed at e2 -/
theorem ps_G.cl {S T : mo_S} {N h c O p o e e2 : Nat} {L : List (Int32 × Int32)} (hG : ps_G (ps_opn S p o) N (p + 1) c O T e L) (hh : h ≤ p) (ho : S.1 34 0 = nI o) (he : e ≤ e2) (he2 : e2 ≤ N) : ps_G S N h c O (mo_up (mo_up T 31 0 (nI e2)) 34 0 (nI o)) e2 L := by
  obtain ⟨a1, a2, a3, a4, a5, a6, a7, a8, a9⟩ := hG.mv he he2
  refine ⟨fun k b1 b2 b3 b4 b5 b6 b7 => by rw [mo_up_ne b4]; exact (a1 k b1 b2 b3 b4 b5 b6 b7).trans (ps_opn_ne b1 b4), ⟨by rw [mo_up_ne (by decide)]; exact a2.1, a2.2.1, by rw [mo_up_ne (by decide)]; exact a2.2.2.1, a2.2.2.2⟩, by omega, by rw [mo_up_ne (by decide)]; exact a4, by rw [mo_up_ne (by decide), a5, ps_opn_ne (by decide) (by decide)], by rw [mo_up_at, pk_us]; exact ho.symm, by rw [mo_up_ne (by decide)]; exact a7, fun i hi => ?_, fun j hj => ?_⟩
  · have := a8 i hi
    rw [ps_opn_ne (by decide) (by decide), ps_opn_ne (by decide) (by decide)] at this
    rw [mo_up_ne (by decide), mo_up_ne (by decide)]
    exact this
  · rw [mo_up_ne (by decide), mo_up_ne (by decide)]
    exact a9 j hj
theorem ps_FR.o {S : mo_S} {N : Nat} {v : Int32} (h : ps_Ft S N) : ps_FR S N (mo_up S 34 0 v) := by
  obtain ⟨e, he⟩ := h.1
  exact ⟨fun k a b => mo_up_ne b, e, by rw [mo_up_ne (by decide)]; exact he.1, he.2.1, by rw [mo_up_ne (by decide)]; exact he.2.2.1, he.2.2.2⟩
theorem ps_sg_yes {t : Nat → Nat} {n p c : Nat} {f : Nat → ps_R} (h : p < n ∧ t p = c) : ps_sg t n p c f = f (ps_skn t n (p + 1)) := if_pos h
theorem ps_sg_no {t : Nat → Nat} {n p c : Nat} {f : Nat → ps_R} (h : ¬ (p < n ∧ t p = c)) : ps_sg t n p c f = .inl (1, p) := if_neg h
theorem ps_fig_gt {t : Nat → Nat} {n p : Nat} (h : ps_dig (ps_bt t n p) = true) : p + 1 ≤ (ps_fig t n p).1 ∧ (ps_fig t n p).1 ≤ n := by
  have hp : p < n := by
    rcases Nat.lt_or_ge p n with q | q
    · exact q
    · rw [ps_bt_0 q] at h; exact absurd h (by decide)
  have h2 : ps_dig (t p) = true := by unfold ps_bt at h; rw [if_pos hp] at h; exact h
  have h3 : 48 ≤ t p ∧ t p ≤ 57 := of_decide_eq_true h2
  have := ps_figs_in t (n - (p + 1)) (p + 1) (if 100000 < 0 then 0 else 10 * 0 + t p - 48) (by simp; omega)
  unfold ps_fig
  rw [show n - p = (n - (p + 1)) + 1 by omega, ps_figs, if_pos h2]
  omega


theorem cF_X12_closes {G : ev_G} {W : mo_W} {d : Nat} (hE : ev_En G) (hd : 4 ≤ d) : ps_CF G W d mX12_closes := by
  intro S N hF
  refine mo_startr (lv0 := [some (.ref W.1)]) (by decide +kernel) rfl (Nat.le_of_ble_eq_true rfl) rfl ?_
  intro g0 g hT
  refine ev_aload_n dX12_closes_0 rfl rfl ?_
  refine ev_bipush (v := nI 41) dX12_closes_1 (by decide) ?_
  refine mo_call1 (d' := d - 1) hE hT dX12_closes_3 rfl rfl kX12_sign lX12_298 iX12_sign vX12_sign (Nat.le_of_ble_eq_true rfl) (by omega) (c_X12_signF (x2 := 0) hE hF.ne.1) (fun g hT => ?_)
  refine ev_aload_n dX12_closes_6 rfl rfl ?_
  refine ev_dup dX12_closes_7 rfl ?_
  refine mo_geti hE hT dX12_closes_8 fX12_295 (by decide) ?_
  refine ev_iconst (v := 1) dX12_closes_11 (by decide) ?_
  refine ev_isub dX12_closes_12 ?_
  refine mo_put hE hT dX12_closes_13 pX12_295 (by decide) (fun g hT => ?_)
  exact ev_vret dX12_closes_16 rfl ⟨_, _, rfl, ⟨rfl, ps_FR.o hF⟩, hT⟩
theorem c_X12_closes {G : ev_G} {W : mo_W} {d : Nat} {S : mo_S} {N h o : Nat} (hE : ev_En G) (hd : 4 ≤ d) (H : ps_at S N h) (hf : S.1 32 0 = 0) (ho : S.1 34 0 = nI (o + 1)) : mo_C G W d mX12_closes [] S none (mo_up (if ps_skn (ps_tx S) N h < N ∧ ps_tx S (ps_skn (ps_tx S) N h) = 41 then mo_up S 31 0 (nI (ps_skn (ps_tx S) N h + 1)) else ps_wr S (ps_skn (ps_tx S) N h) 1 (ps_skn (ps_tx S) N h)) 34 0 (nI o)) := by
  refine mo_start (lv0 := [some (.ref W.1)]) (by decide +kernel) rfl (Nat.le_of_ble_eq_true rfl) rfl ?_
  intro g0 g hT
  refine ev_aload_n dX12_closes_0 rfl rfl ?_
  refine ev_bipush (v := nI 41) dX12_closes_1 (by decide) ?_
  refine mo_call1 (d' := d - 1) hE hT dX12_closes_3 rfl rfl kX12_sign lX12_298 iX12_sign vX12_sign (Nat.le_of_ble_eq_true rfl) (by omega) (c_X12_sign (c := 41) hE (by omega) H hf (by decide)) (fun g hT => ?_)
  refine ev_aload_n dX12_closes_6 rfl rfl ?_
  refine ev_dup dX12_closes_7 rfl ?_
  refine mo_getiE (v := nI (o + 1)) hE hT dX12_closes_8 fX12_295 (by decide) (by
    split
    · rw [mo_up_ne (by decide)]; exact ho
    · unfold ps_wr; rw [mo_up_ne (by decide), mo_up_ne (by decide), mo_up_ne (by decide)]; exact ho) ?_
  refine ev_iconst (v := 1) dX12_closes_11 (by decide) ?_
  refine ev_isub dX12_closes_12 ?_
  rw [nI_pred]
  refine mo_put hE hT dX12_closes_13 pX12_295 (by decide) (fun g hT => ?_)
  exact ev_vret dX12_closes_16 rfl ⟨rfl, hT⟩

theorem ch_131 {G : ev_G} {W : mo_W} {d : Nat} {g0 : ev_H} {S T : mo_S} {N c O w pl : Nat} {PO : ev_P} {v : Int32} (hE : ev_En G) (hd : 6 ≤ d) (hsF : ps_CF G W (d - 1) mX12_sum) (hB : ps_B S N c O T w pl) (K : ∀ U g, ps_B S N c O U w pl → mo_T G W g0 g U → PO (.inl none) g) : ∀ g, mo_T G W g0 g T → ev_V G d 0 0 mX12_chosen PO g 131 [some (.ref W.1), some (.int v)] [] := by
  intro g hT
  have hF := hB.f
  exact ev_vret dX12_chosen_131 rfl (K T g hB hT)
theorem ch_124 {G : ev_G} {W : mo_W} {d : Nat} {g0 : ev_H} {S T : mo_S} {N c O w pl : Nat} {PO : ev_P} {v : Int32} (hE : ev_En G) (hd : 6 ≤ d) (hsF : ps_CF G W (d - 1) mX12_sum) (hB : ps_B S N c O T w pl) (K : ∀ U g, ps_B S N c O U w pl → mo_T G W g0 g U → PO (.inl none) g) : ∀ g, mo_T G W g0 g T → ev_V G d 0 0 mX12_chosen PO g 124 [some (.ref W.1), some (.int v)] [] := by
  intro g hT
  have hF := hB.f
  refine ev_aload_n dX12_chosen_124 rfl rfl ?_
  refine ev_bipush (v := 8) dX12_chosen_125 (by decide) ?_
  refine ev_iconst (v := 0) dX12_chosen_127 (by decide) ?_
  refine mo_call2 (d' := d - 1) hE hT dX12_chosen_128 rfl rfl kX12_emits lX12_305 iX12_emits vX12_emits (Nat.le_of_ble_eq_true rfl) (by omega) (c_X12_emitsF hE hF.ne.1) (fun g hT => ?_)
  exact ch_131 hE hd hsF hB K g hT
theorem ch_120 {G : ev_G} {W : mo_W} {d : Nat} {g0 : ev_H} {S T : mo_S} {N c O w pl : Nat} {PO : ev_P} {v : Int32} (hE : ev_En G) (hd : 6 ≤ d) (hsF : ps_CF G W (d - 1) mX12_sum) (hB : ps_B S N c O T w pl) (K : ∀ U g, ps_B S N c O U w pl → mo_T G W g0 g U → PO (.inl none) g) : ∀ g, mo_T G W g0 g T → ev_V G d 0 0 mX12_chosen PO g 120 [some (.ref W.1), some (.int v)] [] := by
  intro g hT
  have hF := hB.f
  refine ev_aload_n dX12_chosen_120 rfl rfl ?_
  refine mo_callr0 (d' := d - 1) hE hT dX12_chosen_121 rfl rfl kX12_closes lX12_335 iX12_closes vX12_closes (Nat.le_of_ble_eq_true rfl) (by omega) (cF_X12_closes hE (by omega) _ _ hF) (fun r T2 g h8 hT => ?_)
  obtain ⟨rfl, h8⟩ := h8
  exact ch_124 hE hd hsF (hB.fr h8) K g hT
theorem ch_116 {G : ev_G} {W : mo_W} {d : Nat} {g0 : ev_H} {S T : mo_S} {N c O w pl : Nat} {PO : ev_P} {v : Int32} (hE : ev_En G) (hd : 6 ≤ d) (hsF : ps_CF G W (d - 1) mX12_sum) (hB : ps_B S N c O T w pl) (K : ∀ U g, ps_B S N c O U w pl → mo_T G W g0 g U → PO (.inl none) g) : ∀ g, mo_T G W g0 g T → ev_V G d 0 0 mX12_chosen PO g 116 [some (.ref W.1), some (.int v)] [] := by
  intro g hT
  have hF := hB.f
  refine ev_aload_n dX12_chosen_116 rfl rfl ?_
  refine mo_callr0 (d' := d - 1) hE hT dX12_chosen_117 rfl rfl kX12_sum lX12_332 iX12_sum vX12_sum (Nat.le_of_ble_eq_true rfl) (by omega) (hsF _ _ hF) (fun r T2 g h8 hT => ?_)
  obtain ⟨rfl, h8⟩ := h8
  exact ch_120 hE hd hsF (hB.fr h8) K g hT
theorem ch_110 {G : ev_G} {W : mo_W} {d : Nat} {g0 : ev_H} {S T : mo_S} {N c O w pl : Nat} {PO : ev_P} {v : Int32} (hE : ev_En G) (hd : 6 ≤ d) (hsF : ps_CF G W (d - 1) mX12_sum) (hB : ps_B S N c O T w pl) (K : ∀ U g, ps_B S N c O U w pl → mo_T G W g0 g U → PO (.inl none) g) : ∀ g, mo_T G W g0 g T → ev_V G d 0 0 mX12_chosen PO g 110 [some (.ref W.1), some (.int v)] [] := by
  intro g hT
  have hF := hB.f
  refine ev_aload_n dX12_chosen_110 rfl rfl ?_
  refine ev_bipush (v := nI 44) dX12_chosen_111 (by decide) ?_
  refine mo_call1 (d' := d - 1) hE hT dX12_chosen_113 rfl rfl kX12_sign lX12_298 iX12_sign vX12_sign (Nat.le_of_ble_eq_true rfl) (by omega) (c_X12_signF (x2 := 0) hE hF.ne.1) (fun g hT => ?_)
  exact ch_116 hE hd hsF hB K g hT
theorem ch_106 {G : ev_G} {W : mo_W} {d : Nat} {g0 : ev_H} {S T : mo_S} {N c O w pl : Nat} {PO : ev_P} {v : Int32} (hE : ev_En G) (hd : 6 ≤ d) (hsF : ps_CF G W (d - 1) mX12_sum) (hB : ps_B S N c O T w pl) (K : ∀ U g, ps_B S N c O U w pl → mo_T G W g0 g U → PO (.inl none) g) : ∀ g, mo_T G W g0 g T → ev_V G d 0 0 mX12_chosen PO g 106 [some (.ref W.1), some (.int v)] [] := by
  intro g hT
  have hF := hB.f
  refine ev_aload_n dX12_chosen_106 rfl rfl ?_
  refine mo_callr0 (d' := d - 1) hE hT dX12_chosen_107 rfl rfl kX12_sum lX12_332 iX12_sum vX12_sum (Nat.le_of_ble_eq_true rfl) (by omega) (hsF _ _ hF) (fun r T2 g h8 hT => ?_)
  obtain ⟨rfl, h8⟩ := h8
  exact ch_110 hE hd hsF (hB.fr h8) K g hT
theorem ch_100 {G : ev_G} {W : mo_W} {d : Nat} {g0 : ev_H} {S T : mo_S} {N c O w pl : Nat} {PO : ev_P} {v : Int32} (hE : ev_En G) (hd : 6 ≤ d) (hsF : ps_CF G W (d - 1) mX12_sum) (hB : ps_B S N c O T w pl) (K : ∀ U g, ps_B S N c O U w pl → mo_T G W g0 g U → PO (.inl none) g) : ∀ g, mo_T G W g0 g T → ev_V G d 0 0 mX12_chosen PO g 100 [some (.ref W.1), some (.int v)] [] := by
  intro g hT
  have hF := hB.f
  refine ev_aload_n dX12_chosen_100 rfl rfl ?_
  refine ev_bipush (v := nI 44) dX12_chosen_101 (by decide) ?_
  refine mo_call1 (d' := d - 1) hE hT dX12_chosen_103 rfl rfl kX12_sign lX12_298 iX12_sign vX12_sign (Nat.le_of_ble_eq_true rfl) (by omega) (c_X12_signF (x2 := 0) hE hF.ne.1) (fun g hT => ?_)
  exact ch_106 hE hd hsF hB K g hT
theorem ch_71 {G : ev_G} {W : mo_W} {d : Nat} {g0 : ev_H} {S T : mo_S} {N c O w pl : Nat} {PO : ev_P} {v : Int32} (hE : ev_En G) (hd : 6 ≤ d) (hsF : ps_CF G W (d - 1) mX12_sum) (hB : ps_B S N c O T w pl) (K : ∀ U g, ps_B S N c O U w pl → mo_T G W g0 g U → PO (.inl none) g) : ∀ g, mo_T G W g0 g T → ev_V G d 0 0 mX12_chosen PO g 71 [some (.ref W.1), some (.int v)] [] := by
  intro g hT
  have hF := hB.f
  have K96 : ∀ z : Int32, ev_V G d 0 0 mX12_chosen PO g 96 [some (.ref W.1), some (.int v)] (.int z :: .ref W.1 :: []) := by
    intro z
    refine ev_iconst (v := 0) dX12_chosen_96 (by decide) ?_
    refine mo_call2 (d' := d - 1) hE hT dX12_chosen_97 rfl rfl kX12_emits lX12_305 iX12_emits vX12_emits (Nat.le_of_ble_eq_true rfl) (by omega) (c_X12_emitsF hE hF.ne.1) (fun g hT => ?_)
    exact ch_100 hE hd hsF hB K g hT
  refine ev_aload_n dX12_chosen_71 rfl rfl ?_
  refine ev_iload_n dX12_chosen_72 rfl rfl ?_
  refine ev_bipush (v := 60) dX12_chosen_73 (by decide) ?_
  refine ev_icmp_ne (tgt := 83) dX12_chosen_75 (by decide) (fun c_75 => ?_) (fun c_75 => ?_)
  · refine ev_iload_n dX12_chosen_83 rfl rfl ?_
    refine ev_bipush (v := 62) dX12_chosen_84 (by decide) ?_
    refine ev_icmp_ne (tgt := 94) dX12_chosen_86 (by decide) (fun c_86 => ?_) (fun c_86 => ?_)
    · refine ev_bipush (v := 11) dX12_chosen_94 (by decide) ?_
      exact K96 _
    · refine ev_bipush (v := 10) dX12_chosen_89 (by decide) ?_
      refine ev_goto (tgt := 96) dX12_chosen_91 (by decide) ?_
      exact K96 _
  · refine ev_bipush (v := 9) dX12_chosen_78 (by decide) ?_
    refine ev_goto (tgt := 96) dX12_chosen_80 (by decide) ?_
    exact K96 _
theorem un_172 {G : ev_G} {W : mo_W} {d : Nat} {g0 : ev_H} {S T : mo_S} {N c O w pl : Nat} {PO : ev_P} {lo tp : Bool} (hE : ev_En G) (hd : 6 ≤ d) (hsF : ps_CF G W (d - 1) mX12_sum) (hB : ps_B S N c O T w pl) (K : ∀ U g, ps_B S N c O U w pl → mo_T G W g0 g U → PO (.inl none) g) : ∀ g, mo_T G W g0 g T → ev_V G d 0 0 mX12_unit PO g 172 [some (.ref W.1), some (.int (mo_b lo)), some (.int (mo_b tp))] [] := by
  intro g hT
  have hF := hB.f
  exact ev_vret dX12_unit_172 rfl (K T g hB hT)
theorem un_148 {G : ev_G} {W : mo_W} {d : Nat} {g0 : ev_H} {S T : mo_S} {N c O w pl : Nat} {PO : ev_P} {lo tp : Bool} (hE : ev_En G) (hd : 6 ≤ d) (hsF : ps_CF G W (d - 1) mX12_sum) (hB : ps_B S N c O T w pl) (K : ∀ U g, ps_B S N c O U w pl → mo_T G W g0 g U → PO (.inl none) g) : ∀ g, mo_T G W g0 g T → ev_V G d 0 0 mX12_unit PO g 148 [some (.ref W.1), some (.int (mo_b lo)), some (.int (mo_b tp))] [] := by
  intro g hT
  have hF := hB.f
  have K168 : ∀ z : Int32, ev_V G d 0 0 mX12_unit PO g 168 [some (.ref W.1), some (.int (mo_b lo)), some (.int (mo_b tp))] (.int z :: .ref W.1 :: []) := by
    intro z
    refine ev_iconst (v := 0) dX12_unit_168 (by decide) ?_
    refine mo_call2 (d' := d - 1) hE hT dX12_unit_169 rfl rfl kX12_emits lX12_305 iX12_emits vX12_emits (Nat.le_of_ble_eq_true rfl) (by omega) (c_X12_emitsF hE hF.ne.1) (fun g hT => ?_)
    exact un_172 hE hd hsF hB K g hT
  have K156 : ev_V G d 0 0 mX12_unit PO g 156 [some (.ref W.1), some (.int (mo_b lo)), some (.int (mo_b tp))] [] := by
    refine ev_aload_n dX12_unit_156 rfl rfl ?_
    refine ev_iload_n dX12_unit_157 rfl rfl ?_
    refine ev_if_eq (tgt := 166) dX12_unit_158 (by decide) (fun c_158 => ?_) (fun c_158 => ?_)
    · refine ev_bipush (v := 7) dX12_unit_166 (by decide) ?_
      exact K168 _
    · refine ev_bipush (v := 6) dX12_unit_161 (by decide) ?_
      refine ev_goto (tgt := 168) dX12_unit_163 (by decide) ?_
      exact K168 _
  refine ev_iload_n dX12_unit_148 rfl rfl ?_
  refine ev_if_ne (tgt := 156) dX12_unit_149 (by decide) (fun c_149 => K156) (fun c_149 => ?_)
  refine ev_iload_n dX12_unit_152 rfl rfl ?_
  refine ev_if_eq (tgt := 172) dX12_unit_153 (by decide) (fun c_153 => ?_) (fun c_153 => K156)
  exact un_172 hE hd hsF hB K g hT
theorem un_144 {G : ev_G} {W : mo_W} {d : Nat} {g0 : ev_H} {S T : mo_S} {N c O w pl : Nat} {PO : ev_P} {lo tp : Bool} (hE : ev_En G) (hd : 6 ≤ d) (hsF : ps_CF G W (d - 1) mX12_sum) (hB : ps_B S N c O T w pl) (K : ∀ U g, ps_B S N c O U w pl → mo_T G W g0 g U → PO (.inl none) g) : ∀ g, mo_T G W g0 g T → ev_V G d 0 0 mX12_unit PO g 144 [some (.ref W.1), some (.int (mo_b lo)), some (.int (mo_b tp))] [] := by
  intro g hT
  have hF := hB.f
  refine ev_aload_n dX12_unit_144 rfl rfl ?_
  refine mo_callr0 (d' := d - 1) hE hT dX12_unit_145 rfl rfl kX12_closes lX12_335 iX12_closes vX12_closes (Nat.le_of_ble_eq_true rfl) (by omega) (cF_X12_closes hE (by omega) _ _ hF) (fun r T2 g h8 hT => ?_)
  obtain ⟨rfl, h8⟩ := h8
  exact un_148 hE hd hsF (hB.fr h8) K g hT
theorem un_140 {G : ev_G} {W : mo_W} {d : Nat} {g0 : ev_H} {S T : mo_S} {N c O w pl : Nat} {PO : ev_P} {lo tp : Bool} (hE : ev_En G) (hd : 6 ≤ d) (hsF : ps_CF G W (d - 1) mX12_sum) (hB : ps_B S N c O T w pl) (K : ∀ U g, ps_B S N c O U w pl → mo_T G W g0 g U → PO (.inl none) g) : ∀ g, mo_T G W g0 g T → ev_V G d 0 0 mX12_unit PO g 140 [some (.ref W.1), some (.int (mo_b lo)), some (.int (mo_b tp))] [] := by
  intro g hT
  have hF := hB.f
  refine ev_aload_n dX12_unit_140 rfl rfl ?_
  refine mo_callr0 (d' := d - 1) hE hT dX12_unit_141 rfl rfl kX12_sum lX12_332 iX12_sum vX12_sum (Nat.le_of_ble_eq_true rfl) (by omega) (hsF _ _ hF) (fun r T2 g h8 hT => ?_)
  obtain ⟨rfl, h8⟩ := h8
  exact un_144 hE hd hsF (hB.fr h8) K g hT
theorem un_134 {G : ev_G} {W : mo_W} {d : Nat} {g0 : ev_H} {S T : mo_S} {N c O w pl : Nat} {PO : ev_P} {lo tp : Bool} (hE : ev_En G) (hd : 6 ≤ d) (hsF : ps_CF G W (d - 1) mX12_sum) (hB : ps_B S N c O T w pl) (K : ∀ U g, ps_B S N c O U w pl → mo_T G W g0 g U → PO (.inl none) g) : ∀ g, mo_T G W g0 g T → ev_V G d 0 0 mX12_unit PO g 134 [some (.ref W.1), some (.int (mo_b lo)), some (.int (mo_b tp))] [] := by
  intro g hT
  have hF := hB.f
  refine ev_aload_n dX12_unit_134 rfl rfl ?_
  refine ev_bipush (v := nI 44) dX12_unit_135 (by decide) ?_
  refine mo_call1 (d' := d - 1) hE hT dX12_unit_137 rfl rfl kX12_sign lX12_298 iX12_sign vX12_sign (Nat.le_of_ble_eq_true rfl) (by omega) (c_X12_signF (x2 := 0) hE hF.ne.1) (fun g hT => ?_)
  exact un_140 hE hd hsF hB K g hT
theorem un_126 {G : ev_G} {W : mo_W} {d : Nat} {g0 : ev_H} {S T : mo_S} {N c O w pl : Nat} {PO : ev_P} {lo tp : Bool} (hE : ev_En G) (hd : 6 ≤ d) (hsF : ps_CF G W (d - 1) mX12_sum) (hB : ps_B S N c O T w pl) (K : ∀ U g, ps_B S N c O U w pl → mo_T G W g0 g U → PO (.inl none) g) : ∀ g, mo_T G W g0 g T → ev_V G d 0 0 mX12_unit PO g 126 [some (.ref W.1), some (.int (mo_b lo)), some (.int (mo_b tp))] [] := by
  intro g hT
  have hF := hB.f
  refine ev_iload_n dX12_unit_126 rfl rfl ?_
  refine ev_if_ne (tgt := 134) dX12_unit_127 (by decide) (fun c_127 => un_134 hE hd hsF hB K g hT) (fun c_127 => ?_)
  refine ev_iload_n dX12_unit_130 rfl rfl ?_
  exact ev_if_eq (tgt := 144) dX12_unit_131 (by decide) (fun c_131 => un_144 hE hd hsF hB K g hT) (fun c_131 => un_134 hE hd hsF hB K g hT)
theorem un_122 {G : ev_G} {W : mo_W} {d : Nat} {g0 : ev_H} {S T : mo_S} {N c O w pl : Nat} {PO : ev_P} {lo tp : Bool} (hE : ev_En G) (hd : 6 ≤ d) (hsF : ps_CF G W (d - 1) mX12_sum) (hB : ps_B S N c O T w pl) (K : ∀ U g, ps_B S N c O U w pl → mo_T G W g0 g U → PO (.inl none) g) : ∀ g, mo_T G W g0 g T → ev_V G d 0 0 mX12_unit PO g 122 [some (.ref W.1), some (.int (mo_b lo)), some (.int (mo_b tp))] [] := by
  intro g hT
  have hF := hB.f
  refine ev_aload_n dX12_unit_122 rfl rfl ?_
  refine mo_callr0 (d' := d - 1) hE hT dX12_unit_123 rfl rfl kX12_sum lX12_332 iX12_sum vX12_sum (Nat.le_of_ble_eq_true rfl) (by omega) (hsF _ _ hF) (fun r T2 g h8 hT => ?_)
  obtain ⟨rfl, h8⟩ := h8
  exact un_126 hE hd hsF (hB.fr h8) K g hT
theorem ch_4 {G : ev_G} {W : mo_W} {d : Nat} {g0 : ev_H} {S T : mo_S} {N c O w pl : Nat} {PO : ev_P} (hE : ev_En G) (hd : 6 ≤ d) (hsF : ps_CF G W (d - 1) mX12_sum) (hB : ps_B S N c O T w pl) (K : ∀ U g, ps_B S N c O U w pl → mo_T G W g0 g U → PO (.inl none) g) : ∀ g, mo_T G W g0 g T → ev_V G d 0 0 mX12_chosen PO g 4 [some (.ref W.1), none] [] := by
  intro g hT
  have hF := hB.f
  refine ev_aload_n dX12_chosen_4 rfl rfl ?_
  refine mo_callr0 (d' := d - 1) hE hT dX12_chosen_5 rfl rfl kX12_sum lX12_332 iX12_sum vX12_sum (Nat.le_of_ble_eq_true rfl) (by omega) (hsF _ _ hF) (fun r T2 g h8 hT => ?_)
  obtain ⟨rfl, h8⟩ := h8
  have hB2 := hB.fr h8
  refine ev_aload_n dX12_chosen_8 rfl rfl ?_
  refine mo_geti hE hT dX12_chosen_9 fX12_222 (by decide) ?_
  refine ev_if_le (tgt := 16) dX12_chosen_12 (by decide) (fun c_12 => absurd c_12 hB2.f.ne.1) (fun c_12 => ?_)
  exact ev_vret dX12_chosen_15 rfl (K _ g hB2 hT)
theorem ch_8 {G : ev_G} {W : mo_W} {d : Nat} {g0 : ev_H} {S T : mo_S} {N c O w pl : Nat} {PO : ev_P} (hE : ev_En G) (hd : 6 ≤ d) (hsF : ps_CF G W (d - 1) mX12_sum) (hB : ps_B S N c O T w pl) (K : ∀ U g, ps_B S N c O U w pl → mo_T G W g0 g U → PO (.inl none) g) : ∀ g, mo_T G W g0 g T → ev_V G d 0 0 mX12_chosen PO g 8 [some (.ref W.1), none] [] := by
  intro g hT
  refine ev_aload_n dX12_chosen_8 rfl rfl ?_
  refine mo_geti hE hT dX12_chosen_9 fX12_222 (by decide) ?_
  refine ev_if_le (tgt := 16) dX12_chosen_12 (by decide) (fun c_12 => absurd c_12 hB.f.ne.1) (fun c_12 => ?_)
  exact ev_vret dX12_chosen_15 rfl (K _ g hB hT)
theorem c_X12_chosen {G : ev_G} {W : mo_W} {d k9 : Nat} (hE : ev_En G) (hd : 8 ≤ d) (hsF : ps_CF G W (d - 1) mX12_sum) (hs0 : ∀ k, k9 = k + 1 → ps_CM G W (d - 1) k mX12_sum (fun t n => ps_sum t n k)) : ps_CM G W d k9 mX12_chosen (fun t n => ps_if t n (ps_inner t n k9)) := by
  intro S N h o c O h0 hok
  refine mo_startr (lv0 := [some (.ref W.1), none]) (by decide +kernel) rfl (Nat.le_of_ble_eq_true rfl) rfl ?_
  intro g0 g hT
  refine ev_aload_n dX12_chosen_0 rfl rfl ?_
  refine mo_call0 (d' := d - 1) hE hT dX12_chosen_1 rfl rfl kX12_opens lX12_329 iX12_opens vX12_opens (Nat.le_of_ble_eq_true rfl) (by omega) (c_X12_opens hE (by omega) h0.1 h0.2.1 h0.2.2.1 h0.2.2.2.1) (fun g hT => ?_)
  have hp := ps_skn_in (t := (ps_tx S)) h0.1.2.2.2
  have hn3 := h0.1.2.1
  by_cases hb : ps_skn (ps_tx S) N h < N ∧ (ps_tx S) (ps_skn (ps_tx S) N h) = 40
  rotate_left
  · rw [if_neg hb] at hT
    have hB : ps_B S N c O _ 1 (ps_skn (ps_tx S) N h) := (ps_G.r h0).wr (pl := ps_skn (ps_tx S) N h) hp.2 (by decide)
    refine ch_4 hE (by omega) hsF hB (fun U g hB hT => ⟨_, _, rfl, ⟨rfl, ?_⟩, hT⟩) g hT
    try dsimp only
    rw [show ps_if (ps_tx S) N (ps_inner (ps_tx S) N _) (ps_skn (ps_tx S) N h) = .inl (1, ps_skn (ps_tx S) N h) from if_neg hb]
    exact hB
  rw [if_pos hb] at hT
  by_cases h88 : o = 8
  · rw [if_pos h88] at hT
    have hB0 : ps_B S N c O _ 3 (ps_skn (ps_tx S) N h) := (ps_G.r h0).wr (pl := ps_skn (ps_tx S) N h) hp.2 (by decide)
    have hF1 := ps_FR.o (v := nI (o + 1)) hB0.f
    obtain ⟨e1, he1⟩ := hF1.2
    have hB := hB0.fr (hF1.t (ps_FR.h (he1.up (j := ps_skn (ps_tx S) N h + 1) (by omega))))
    refine ch_4 hE (by omega) hsF hB (fun U g hB hT => ⟨_, _, rfl, ⟨rfl, ?_⟩, hT⟩) g hT
    try dsimp only
    have hk0 : k9 = 0 := by omega
    subst hk0
    rw [show ps_if (ps_tx S) N (ps_inner (ps_tx S) N 0) (ps_skn (ps_tx S) N h) = .inl (3, ps_skn (ps_tx S) N h) from by unfold ps_if ps_op; rw [if_pos hb]; rfl]
    exact hB
  rw [if_neg h88] at hT
  obtain ⟨k, hk⟩ : ∃ k, k9 = k + 1 := ⟨k9 - 1, by omega⟩
  subst hk
  have hs := hs0 k rfl
  have hT : mo_T G W g0 g (ps_opn S (ps_skn (ps_tx S) N h) o) := hT
  generalize hpp : ps_skn (ps_tx S) N h = p at *
  have ho8 : o < 8 := by have := h0.2.2.2.1; omega
  have hP1 := h0.op (p := p) ho8 (by omega) (by omega)
  have hG0 := ps_G.r hP1
  have hR0 : ps_if (ps_tx S) N (ps_inner (ps_tx S) N (k + 1)) p = ps_bind (ps_sum (ps_tx S) N k (ps_skn (ps_tx S) N (p + 1))) _ := if_pos hb
  refine ev_aload_n dX12_chosen_4 rfl rfl ?_
  refine mo_callr0 (d' := d - 1) hE hT dX12_chosen_5 rfl rfl kX12_sum lX12_332 iX12_sum vX12_sum (Nat.le_of_ble_eq_true rfl) (by omega) (hs _ N (p + 1) (o + 1) _ O (hG0.P hP1) (by omega)) (fun r T1 g h8 hT => ?_)
  obtain ⟨rfl, h8⟩ := h8
  dsimp only at h8
  rw [hG0.tx, ps_opn_tx] at h8
  cases hu1 : ps_sum (ps_tx S) N k (ps_skn (ps_tx S) N (p + 1)) with
  | inl q =>
    obtain ⟨w, pl⟩ := q
    rw [hu1] at h8
    have hB : ps_B S N c O T1 w pl := ps_B.op (ps_B.t (h := p + 1) (o := o + 1) hG0 h8)
    refine ch_8 hE (by omega) hsF hB (fun U g hB hT => ⟨_, _, rfl, ⟨rfl, ?_⟩, hT⟩) g hT
    try dsimp only
    rw [hR0, hu1]
    exact hB
  | inr q =>
    obtain ⟨h1, L1, C1, F1⟩ := q
    rw [hu1] at h8
    obtain ⟨e1, hH1, hk1⟩ := h8
    rw [hG0.tx, ps_opn_tx] at hk1
    have hG1 := ps_G.t hP1 hG0 hH1 (Nat.le_refl _)
    have hN1 := hG1.2.1.2.2.2
    have hl1 := ps_skn_in (t := (ps_tx S)) hN1
    rw [hk1] at hl1
    have hx1 : ps_tx T1 = (ps_tx S) := hG1.tx.trans ps_opn_tx
    have hS1 := hR0
    rw [hu1] at hS1
    dsimp only [ps_bind] at hS1
    refine ev_aload_n dX12_chosen_8 rfl rfl ?_
    refine mo_getiE (v := 0) hE hT dX12_chosen_9 fX12_222 (by decide) hG1.2.2.2.1 ?_
    refine ev_if_le (tgt := 16) dX12_chosen_12 (by decide) (fun c_12 => ?_) (fun c_12 => absurd (by decide) c_12)
    refine ev_aload_n dX12_chosen_16 rfl rfl ?_
    refine mo_call0 (d' := d - 1) hE hT dX12_chosen_17 rfl rfl kX12_blanks lX12_225 iX12_blanks vX12_blanks (Nat.le_of_ble_eq_true rfl) (by omega) (c_X12_blanks hE (by omega) hG1.2.1) (fun g hT => ?_)
    rw [hx1, hk1] at hT
    have hG1b := hG1.mv hl1.1 hl1.2
    refine ev_aload_n dX12_chosen_20 rfl rfl ?_
    refine ev_aload_n dX12_chosen_21 rfl rfl ?_
    refine mo_getiE (v := nI h1) hE hT dX12_chosen_22 fX12_215 (by decide) hG1b.2.1.2.2.1 ?_
    refine mo_call1 (d' := d - 1) hE hT dX12_chosen_25 rfl rfl kX12_byteAt lX12_218 iX12_byteAt vX12_byteAt (Nat.le_of_ble_eq_true rfl) (by omega) (c_X12_byteAt (k := h1) hE (by omega) hG1b.2.1) (fun g hT => ?_)
    rw [hG1b.tx, ps_opn_tx]
    refine ev_istore_n (lv' := [some (.ref W.1), some (.int (nI (ps_bt (ps_tx S) N h1)))]) dX12_chosen_28 rfl (Nat.le_of_ble_eq_true rfl) rfl ?_
    have hbt : ps_bt (ps_tx S) N h1 < 256 := ps_bt_lt
    -- behind the relation
    have rel : ∀ (m cc : Int32), ps_rel (ps_bt (ps_tx S) N h1) = some (m, cc) → (∀ PO : ev_P, ∀ g, (ev_V G d 0 0 mX12_chosen PO g 96 [some (.ref W.1), some (.int (nI (ps_bt (ps_tx S) N h1)))] (.int m :: .ref W.1 :: []) → ev_V G d 0 0 mX12_chosen PO g 71 [some (.ref W.1), some (.int (nI (ps_bt (ps_tx S) N h1)))] [])) → ∀ g, mo_T G W g0 g (mo_up T1 31 0 (nI h1)) → ev_V G d 0 0 mX12_chosen (fun o g' => ∃ r S2, o = .inl r ∧ (r = none ∧ ps_Q S N h c O (ps_if (ps_tx S) N (ps_inner (ps_tx S) N (k + 1)) p) S2) ∧ mo_T G W g0 g' S2) g 57 [some (.ref W.1), some (.int (nI (ps_bt (ps_tx S) N h1)))] [] := by
      intro m cc hrel hgo g hT
      have hlt1 : h1 < N := by
        rcases Nat.lt_or_ge h1 N with q | q
        · exact q
        · rw [ps_bt_0 q, show ps_rel 0 = none from rfl] at hrel; cases hrel
      refine ev_aload_n dX12_chosen_57 rfl rfl ?_
      refine ev_dup dX12_chosen_58 rfl ?_
      refine mo_getiE (v := nI h1) hE hT dX12_chosen_59 fX12_215 (by decide) hG1b.2.1.2.2.1 ?_
      refine ev_iconst (v := 1) dX12_chosen_62 (by decide) ?_
      refine ev_iadd dX12_chosen_63 ?_
      rw [nI_1]
      refine mo_put hE hT dX12_chosen_64 pX12_215 (by decide) (fun g hT => ?_)
      have hG2 := hG1b.mv (e2 := h1 + 1) (by omega) (by omega)
      have hS2 := hS1
      rw [hrel] at hS2
      dsimp only at hS2
      refine ev_aload_n dX12_chosen_67 rfl rfl ?_
      refine mo_callr0 (d' := d - 1) hE hT dX12_chosen_68 rfl rfl kX12_sum lX12_332 iX12_sum vX12_sum (Nat.le_of_ble_eq_true rfl) (by omega) (hs _ N (h1 + 1) (o + 1) _ O (hG2.P hP1) (by omega)) (fun r T3 g h8 hT => ?_)
      obtain ⟨rfl, h8⟩ := h8
      dsimp only at h8
      rw [hG2.tx, ps_opn_tx] at h8
      cases hu3 : ps_sum (ps_tx S) N k (ps_skn (ps_tx S) N (h1 + 1)) with
      | inl q =>
        obtain ⟨w, pl⟩ := q
        rw [hu3] at h8
        have hB : ps_B S N c O T3 w pl := ps_B.op (ps_B.t (h := p + 1) (o := o + 1) hG2 h8)
        refine ch_71 hE (by omega) hsF hB (fun U g hB hT => ⟨_, _, rfl, ⟨rfl, ?_⟩, hT⟩) g hT
        try dsimp only
        rw [hS2, hu3]
        exact hB
      | inr q =>
        obtain ⟨h3, L3, C3, F3⟩ := q
        rw [hu3] at h8
        obtain ⟨e3, hH3, hk3⟩ := h8
        rw [hG2.tx, ps_opn_tx] at hk3
        have hG3 := ps_G.t hP1 hG2 hH3 (Nat.le_refl _)
        have hN3 := hG3.2.1.2.2.2
        have hl3 := ps_skn_in (t := (ps_tx S)) hN3
        rw [hk3] at hl3
        have hx3 : ps_tx T3 = (ps_tx S) := hG3.tx.trans ps_opn_tx
        have hS3 := hS2
        rw [hu3] at hS3
        dsimp only [ps_bind] at hS3
        have hl30 := hG3.2.2.1
        have hlen3 : ([] ++ L1 ++ L3).length = L1.length + L3.length := by simp
        have hle1 := hG1.2.2.1
        have hle3 := hH3.2.2.1
        have hem := hG3.em (x := m) (y := 0) hP1 (by simp only [List.length_append, List.length_nil] at *; omega)
        have hcO := h0.2.2.2.2.2.1
        refine hgo _ g ?_
        refine ev_iconst (v := 0) dX12_chosen_96 (by decide) ?_
        refine mo_call2 (d' := d - 1) hE hT dX12_chosen_97 rfl rfl kX12_emits lX12_305 iX12_emits vX12_emits (Nat.le_of_ble_eq_true rfl) (by omega) (c_X12_emits hE (hG3.P hP1).2.1 (hG3.P hP1).2.2.2.2.2.2.1 (hG3.P hP1).2.2.2.2.2.2.2 (hG3.P hP1).2.2.2.2.1 (by omega)) (fun g hT => ?_)
        have hx3e := hem.tx.trans ps_opn_tx
        refine ev_aload_n dX12_chosen_100 rfl rfl ?_
        refine ev_bipush (v := nI 44) dX12_chosen_101 (by decide) ?_
        refine mo_call1 (d' := d - 1) hE hT dX12_chosen_103 rfl rfl kX12_sign lX12_298 iX12_sign vX12_sign (Nat.le_of_ble_eq_true rfl) (by omega) (c_X12_sign (c := 44) hE (by omega) hem.2.1 hem.2.2.2.1 (by decide)) (fun g hT => ?_)
        rw [hem.tx, ps_opn_tx, hk3] at hT
        by_cases hy4 : h3 < N ∧ (ps_tx S) h3 = 44
        rotate_left
        · rw [if_neg hy4] at hT
          have hB : ps_B S N c O _ 1 h3 := ps_B.op (hem.wr (pl := h3) hl3.2 (by decide))
          refine ch_106 hE (by omega) hsF hB (fun U g hB hT => ⟨_, _, rfl, ⟨rfl, ?_⟩, hT⟩) g hT
          try dsimp only
          rw [hS3, ps_sg_no hy4]
          exact hB
        rw [if_pos hy4] at hT
        have hG4 := hem.mv (e2 := h3 + 1) (by omega) (by omega)
        have hS4 := hS3.trans (ps_sg_yes hy4)
        try dsimp only at hS4
        refine ev_aload_n dX12_chosen_106 rfl rfl ?_
        refine mo_callr0 (d' := d - 1) hE hT dX12_chosen_107 rfl rfl kX12_sum lX12_332 iX12_sum vX12_sum (Nat.le_of_ble_eq_true rfl) (by omega) (hs _ N (h3 + 1) (o + 1) _ O (hG4.P hP1) (by omega)) (fun r T5 g h8 hT => ?_)
        obtain ⟨rfl, h8⟩ := h8
        dsimp only at h8
        rw [hG4.tx, ps_opn_tx] at h8
        cases hu5 : ps_sum (ps_tx S) N k (ps_skn (ps_tx S) N (h3 + 1)) with
        | inl q =>
          obtain ⟨w, pl⟩ := q
          rw [hu5] at h8
          have hB : ps_B S N c O T5 w pl := ps_B.op (ps_B.t (h := p + 1) (o := o + 1) hG4 h8)
          refine ch_110 hE (by omega) hsF hB (fun U g hB hT => ⟨_, _, rfl, ⟨rfl, ?_⟩, hT⟩) g hT
          try dsimp only
          rw [hS4, hu5]
          exact hB
        | inr q =>
          obtain ⟨h5, L5, C5, F5⟩ := q
          rw [hu5] at h8
          obtain ⟨e5, hH5, hk5⟩ := h8
          rw [hG4.tx, ps_opn_tx] at hk5
          have hG5 := ps_G.t hP1 hG4 hH5 (Nat.le_refl _)
          have hN5 := hG5.2.1.2.2.2
          have hl5 := ps_skn_in (t := (ps_tx S)) hN5
          rw [hk5] at hl5
          have hx5 : ps_tx T5 = (ps_tx S) := hG5.tx.trans ps_opn_tx
          have hS5 := hS4
          rw [hu5] at hS5
          dsimp only [ps_bind] at hS5
          refine ev_aload_n dX12_chosen_110 rfl rfl ?_
          refine ev_bipush (v := nI 44) dX12_chosen_111 (by decide) ?_
          refine mo_call1 (d' := d - 1) hE hT dX12_chosen_113 rfl rfl kX12_sign lX12_298 iX12_sign vX12_sign (Nat.le_of_ble_eq_true rfl) (by omega) (c_X12_sign (c := 44) hE (by omega) hG5.2.1 hG5.2.2.2.1 (by decide)) (fun g hT => ?_)
          rw [hG5.tx, ps_opn_tx, hk5] at hT
          by_cases hy6 : h5 < N ∧ (ps_tx S) h5 = 44
          rotate_left
          · rw [if_neg hy6] at hT
            have hB : ps_B S N c O _ 1 h5 := ps_B.op (hG5.wr (pl := h5) hl5.2 (by decide))
            refine ch_116 hE (by omega) hsF hB (fun U g hB hT => ⟨_, _, rfl, ⟨rfl, ?_⟩, hT⟩) g hT
            try dsimp only
            rw [hS5, ps_sg_no hy6]
            exact hB
          rw [if_pos hy6] at hT
          have hG6 := hG5.mv (e2 := h5 + 1) (by omega) (by omega)
          have hS6 := hS5.trans (ps_sg_yes hy6)
          try dsimp only at hS6
          refine ev_aload_n dX12_chosen_116 rfl rfl ?_
          refine mo_callr0 (d' := d - 1) hE hT dX12_chosen_117 rfl rfl kX12_sum lX12_332 iX12_sum vX12_sum (Nat.le_of_ble_eq_true rfl) (by omega) (hs _ N (h5 + 1) (o + 1) _ O (hG6.P hP1) (by omega)) (fun r T7 g h8 hT => ?_)
          obtain ⟨rfl, h8⟩ := h8
          dsimp only at h8
          rw [hG6.tx, ps_opn_tx] at h8
          cases hu7 : ps_sum (ps_tx S) N k (ps_skn (ps_tx S) N (h5 + 1)) with
          | inl q =>
            obtain ⟨w, pl⟩ := q
            rw [hu7] at h8
            have hB : ps_B S N c O T7 w pl := ps_B.op (ps_B.t (h := p + 1) (o := o + 1) hG6 h8)
            refine ch_120 hE (by omega) hsF hB (fun U g hB hT => ⟨_, _, rfl, ⟨rfl, ?_⟩, hT⟩) g hT
            try dsimp only
            rw [hS6, hu7]
            exact hB
          | inr q =>
            obtain ⟨h7, L7, C7, F7⟩ := q
            rw [hu7] at h8
            obtain ⟨e7, hH7, hk7⟩ := h8
            rw [hG6.tx, ps_opn_tx] at hk7
            have hG7 := ps_G.t hP1 hG6 hH7 (Nat.le_refl _)
            have hN7 := hG7.2.1.2.2.2
            have hl7 := ps_skn_in (t := (ps_tx S)) hN7
            rw [hk7] at hl7
            have hx7 : ps_tx T7 = (ps_tx S) := hG7.tx.trans ps_opn_tx
            have hS7 := hS6
            rw [hu7] at hS7
            dsimp only [ps_bind] at hS7
            have hcO := h0.2.2.2.2.2.1
            refine ev_aload_n dX12_chosen_120 rfl rfl ?_
            refine mo_call0 (d' := d - 1) hE hT dX12_chosen_121 rfl rfl kX12_closes lX12_335 iX12_closes vX12_closes (Nat.le_of_ble_eq_true rfl) (by omega) (c_X12_closes (o := o) hE (by omega) hG7.2.1 hG7.2.2.2.1 (by rw [hG7.2.2.2.2.2.1]; exact ps_opn_34)) (fun g hT => ?_)
            rw [hx7, hk7] at hT
            by_cases hy8 : h7 < N ∧ (ps_tx S) h7 = 41
            rotate_left
            · rw [if_neg hy8] at hT
              have hB0 : ps_B S N c O _ 1 h7 := ps_B.op (hG7.wr (pl := h7) hl7.2 (by decide))
              have hB := hB0.fr (ps_FR.o (v := nI o) hB0.f)
              refine ch_124 hE (by omega) hsF hB (fun U g hB hT => ⟨_, _, rfl, ⟨rfl, ?_⟩, hT⟩) g hT
              try dsimp only
              rw [hS7, ps_sg_no hy8]
              exact hB
            rw [if_pos hy8] at hT
            have hG8 := hG7.cl (h := h) (e2 := h7 + 1) (by omega) h0.2.2.1 (by omega) (by omega)
            have hlee := hG7.2.2.1
            have hem2 := hG8.em (x := 8) (y := 0) h0 (by simp only [List.length_append, List.length_nil, List.length_cons] at *; omega)
            refine ev_aload_n dX12_chosen_124 rfl rfl ?_
            refine ev_bipush (v := 8) dX12_chosen_125 (by decide) ?_
            refine ev_iconst (v := 0) dX12_chosen_127 (by decide) ?_
            refine mo_call2 (d' := d - 1) hE hT dX12_chosen_128 rfl rfl kX12_emits lX12_305 iX12_emits vX12_emits (Nat.le_of_ble_eq_true rfl) (by omega) (c_X12_emits hE (hG8.P h0).2.1 (hG8.P h0).2.2.2.2.2.2.1 (hG8.P h0).2.2.2.2.2.2.2 (hG8.P h0).2.2.2.2.1 (by simp only [List.length_append, List.length_nil, List.length_cons] at *; omega)) (fun g hT => ?_)
            refine ev_vret dX12_chosen_131 rfl ⟨_, _, rfl, ⟨rfl, ?_⟩, hT⟩
            try dsimp only
            rw [hS7, ps_sg_yes hy8]
            refine ⟨_, ?_, rfl⟩
            simpa using hem2
    refine ev_iload_n dX12_chosen_29 rfl rfl ?_
    refine ev_bipush (v := 60) dX12_chosen_30 (by decide) ?_
    refine ev_icmp_eq (tgt := 57) dX12_chosen_32 (by decide) (fun c_32 => ?_) (fun c_32 => ?_)
    · have q : ps_bt (ps_tx S) N h1 = 60 := (nI_eq (by omega) (by decide)).mp (show nI (ps_bt (ps_tx S) N h1) = nI 60 from c_32)
      refine rel 9 (-15) (by rw [q]; rfl) (fun PO g K => ?_) g hT
      refine ev_aload_n dX12_chosen_71 rfl rfl ?_
      refine ev_iload_n dX12_chosen_72 rfl rfl ?_
      refine ev_bipush (v := 60) dX12_chosen_73 (by decide) ?_
      refine ev_icmp_ne (tgt := 83) dX12_chosen_75 (by decide) (fun c_75 => absurd c_32 c_75) (fun c_75 => ?_)
      refine ev_bipush (v := 9) dX12_chosen_78 (by decide) ?_
      exact ev_goto (tgt := 96) dX12_chosen_80 (by decide) K
    refine ev_iload_n dX12_chosen_35 rfl rfl ?_
    refine ev_bipush (v := 62) dX12_chosen_36 (by decide) ?_
    refine ev_icmp_eq (tgt := 57) dX12_chosen_38 (by decide) (fun c_38 => ?_) (fun c_38 => ?_)
    · have q : ps_bt (ps_tx S) N h1 = 62 := (nI_eq (by omega) (by decide)).mp (show nI (ps_bt (ps_tx S) N h1) = nI 62 from c_38)
      refine rel 10 (-16) (by rw [q]; rfl) (fun PO g K => ?_) g hT
      refine ev_aload_n dX12_chosen_71 rfl rfl ?_
      refine ev_iload_n dX12_chosen_72 rfl rfl ?_
      refine ev_bipush (v := 60) dX12_chosen_73 (by decide) ?_
      refine ev_icmp_ne (tgt := 83) dX12_chosen_75 (by decide) (fun c_75 => ?_) (fun c_75 => absurd c_75 c_32)
      refine ev_iload_n dX12_chosen_83 rfl rfl ?_
      refine ev_bipush (v := 62) dX12_chosen_84 (by decide) ?_
      refine ev_icmp_ne (tgt := 94) dX12_chosen_86 (by decide) (fun c_86 => absurd c_38 c_86) (fun c_86 => ?_)
      refine ev_bipush (v := 10) dX12_chosen_89 (by decide) ?_
      exact ev_goto (tgt := 96) dX12_chosen_91 (by decide) K
    refine ev_iload_n dX12_chosen_41 rfl rfl ?_
    refine ev_bipush (v := 61) dX12_chosen_42 (by decide) ?_
    refine ev_icmp_eq (tgt := 57) dX12_chosen_44 (by decide) (fun c_44 => ?_) (fun c_44 => ?_)
    · have q : ps_bt (ps_tx S) N h1 = 61 := (nI_eq (by omega) (by decide)).mp (show nI (ps_bt (ps_tx S) N h1) = nI 61 from c_44)
      refine rel 11 (-17) (by rw [q]; rfl) (fun PO g K => ?_) g hT
      refine ev_aload_n dX12_chosen_71 rfl rfl ?_
      refine ev_iload_n dX12_chosen_72 rfl rfl ?_
      refine ev_bipush (v := 60) dX12_chosen_73 (by decide) ?_
      refine ev_icmp_ne (tgt := 83) dX12_chosen_75 (by decide) (fun c_75 => ?_) (fun c_75 => absurd c_75 c_32)
      refine ev_iload_n dX12_chosen_83 rfl rfl ?_
      refine ev_bipush (v := 62) dX12_chosen_84 (by decide) ?_
      refine ev_icmp_ne (tgt := 94) dX12_chosen_86 (by decide) (fun c_86 => ?_) (fun c_86 => absurd c_86 c_38)
      exact ev_bipush (v := 11) dX12_chosen_94 (by decide) K
    have hno : ps_rel (ps_bt (ps_tx S) N h1) = none := by
      unfold ps_rel
      rw [if_neg (fun q => c_32 (by rw [q]; rfl)), if_neg (fun q => c_38 (by rw [q]; rfl)), if_neg (fun q => c_44 (by rw [q]; rfl))]
    refine ev_aload_n dX12_chosen_47 rfl rfl ?_
    refine ev_iconst (v := nI 1) dX12_chosen_48 (by decide) ?_
    refine ev_aload_n dX12_chosen_49 rfl rfl ?_
    refine mo_getiE (v := nI h1) hE hT dX12_chosen_50 fX12_215 (by decide) hG1b.2.1.2.2.1 ?_
    refine mo_call2 (d' := d - 1) hE hT dX12_chosen_53 rfl rfl kX12_wrong lX12_285 iX12_wrong vX12_wrong (Nat.le_of_ble_eq_true rfl) (by omega) (c_X12_wrong (x1 := nI 1) (x2 := nI h1) hE) (fun g hT => ?_)
    rw [ps_wr_is hG1.2.2.2.1] at hT
    have hB : ps_B S N c O _ 1 h1 := ps_B.op (hG1.wr (pl := h1) hl1.2 (by decide))
    refine ev_vret dX12_chosen_56 rfl ⟨_, _, rfl, ⟨rfl, ?_⟩, hT⟩
    try dsimp only
    rw [hS1, hno]
    exact hB
end M23
