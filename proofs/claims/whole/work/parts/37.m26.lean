section M26
def ps_eq2 (S T : mo_S) : Prop := ∀ k, ¬ (31 ≤ k ∧ k ≤ 35) → ¬ (38 ≤ k ∧ k ≤ 41) → T.1 k = S.1 k
/-- a clause was read: what and how much it tells stand at ci -/
def ps_CG (S : mo_S) (N h c O ci : Nat) (T : mo_S) (e : Nat) (w m : Int32) (L : List (Int32 × Int32)) : Prop := ps_eq2 S T ∧ ps_at T N e ∧ h + L.length ≤ e ∧ T.1 32 0 = 0 ∧ T.1 33 0 = S.1 33 0 ∧ T.1 34 0 = S.1 34 0 ∧ T.1 35 0 = nI (c + L.length) ∧ ps_low (350 * O + c) S T ∧ (∀ j, j < L.length → T.1 40 (350 * O + c + j) = (L.getD j (0, 0)).1 ∧ T.1 41 (350 * O + c + j) = (L.getD j (0, 0)).2) ∧ T.1 38 = upd (S.1 38) ci w ∧ T.1 39 = upd (S.1 39) ci m
def ps_CB (S : mo_S) (N c O ci : Nat) (T : mo_S) (w pl : Nat) : Prop := ps_eq2 S T ∧ (∃ e, ps_at T N e) ∧ T.1 32 0 = nI w ∧ 1 ≤ w ∧ w ≤ 3 ∧ T.1 33 0 = nI pl ∧ ps_low (350 * O + c) S T ∧ ∀ i, i < ci → T.1 38 i = S.1 38 i ∧ T.1 39 i = S.1 39 i
def ps_CQ (S : mo_S) (N h c O ci : Nat) (r : ps_C) (T : mo_S) : Prop := match r with
  | .inl (w, pl) => ps_CB S N c O ci T w pl
  | .inr (h2, w, m, L, _, _) => ∃ e, ps_CG S N h c O ci T e w (if w = 0 ∨ w = 4 then nI c else m) L ∧ ps_skn (ps_tx S) N e = h2
theorem ps_eq2.tx {S T : mo_S} (h : ps_eq2 S T) : ps_tx T = ps_tx S := by
  funext a
  unfold ps_tx
  rw [h 27 (by decide) (by decide)]
theorem ps_CB.f {S T : mo_S} {N c O ci w pl : Nat} (h : ps_CB S N c O ci T w pl) : ps_Ft T N := ⟨h.2.1, w, h.2.2.2.1, h.2.2.2.2.1, h.2.2.1⟩
theorem ps_CB.fr {S T U : mo_S} {N c O ci w pl : Nat} (h : ps_CB S N c O ci T w pl) (h2 : ps_FR T N U) : ps_CB S N c O ci U w pl := by
  obtain ⟨a1, a2, a3, a4, a5, a6, a7, a8⟩ := h
  refine ⟨fun k b1 b2 => (h2.1 k (by omega) (by omega)).trans (a1 k b1 b2), h2.2, by rw [h2.1 32 (by decide) (by decide)]; exact a3, a4, a5, by rw [h2.1 33 (by decide) (by decide)]; exact a6, fun i hi => ?_, fun i hi => ?_⟩
  · rw [h2.1 40 (by decide) (by decide), h2.1 41 (by decide) (by decide)]; exact a7 i hi
  · rw [h2.1 38 (by decide) (by decide), h2.1 39 (by decide) (by decide)]; exact a8 i hi
/-- something is written at ci -/
theorem ps_CB.wt {S T : mo_S} {N c O ci w pl k : Nat} {v : Int32} (h : ps_CB S N c O ci T w pl) (hk : k = 38 ∨ k = 39) : ps_CB S N c O ci (mo_up T k ci v) w pl := by
  obtain ⟨a1, ⟨e, a2⟩, a3, a4, a5, a6, a7, a8⟩ := h
  have hn : ∀ j, j ≠ 38 → j ≠ 39 → (mo_up T k ci v).1 j = T.1 j := fun j q1 q2 => mo_up_ne (by rcases hk with rfl | rfl <;> assumption)
  refine ⟨fun j b1 b2 => (hn j (by omega) (by omega)).trans (a1 j b1 b2), ⟨e, by rw [hn 30 (by decide) (by decide)]; exact a2.1, a2.2.1, by rw [hn 31 (by decide) (by decide)]; exact a2.2.2.1, a2.2.2.2⟩, by rw [hn 32 (by decide) (by decide)]; exact a3, a4, a5, by rw [hn 33 (by decide) (by decide)]; exact a6, fun i hi => ?_, fun i hi => ?_⟩
  · rw [hn 40 (by decide) (by decide), hn 41 (by decide) (by decide)]; exact a7 i hi
  · rcases hk with rfl | rfl
    · rw [mo_up_at, mo_up_ne (show (39 : Nat) ≠ 38 by decide), pk_un (by omega)]; exact a8 i hi
    · rw [mo_up_at, mo_up_ne (show (38 : Nat) ≠ 39 by decide), pk_un (by omega)]; exact a8 i hi
theorem ps_CG.wr {S T : mo_S} {N h c O ci e e2 w pl : Nat} {ww m : Int32} {L : List (Int32 × Int32)} (h1 : ps_CG S N h c O ci T e ww m L) (h2 : e2 ≤ N) (hw : 1 ≤ w ∧ w ≤ 3) : ps_CB S N c O ci (ps_wr T e2 w pl) w pl := by
  obtain ⟨a1, a2, a3, a4, a5, a6, a7, a8, a9, a10, a11⟩ := h1
  have en : ∀ k, k ≠ 31 → k ≠ 32 → k ≠ 33 → (ps_wr T e2 w pl).1 k = T.1 k := fun k q1 q2 q3 => by unfold ps_wr; rw [mo_up_ne q3, mo_up_ne q2, mo_up_ne q1]
  refine ⟨fun k b1 b2 => by rw [en k (by omega) (by omega) (by omega)]; exact a1 k b1 b2, ⟨e2, by rw [en 30 (by decide) (by decide) (by decide)]; exact a2.1, a2.2.1, by unfold ps_wr; rw [mo_up_ne (by decide), mo_up_ne (by decide), mo_up_at, pk_us], h2⟩, by unfold ps_wr; rw [mo_up_ne (by decide), mo_up_at, pk_us], hw.1, hw.2, by unfold ps_wr; rw [mo_up_at, pk_us], fun i hi => ?_, fun i hi => ?_⟩
  · rw [en 40 (by decide) (by decide) (by decide), en 41 (by decide) (by decide) (by decide)]; exact a8 i hi
  · rw [en 38 (by decide) (by decide) (by decide), en 39 (by decide) (by decide) (by decide), a10, a11, pk_un (by omega), pk_un (by omega)]
    exact ⟨rfl, rfl⟩
theorem ps_CG.mv {S T : mo_S} {N h c O ci e e2 : Nat} {w m : Int32} {L : List (Int32 × Int32)} (h1 : ps_CG S N h c O ci T e w m L) (h2 : e ≤ e2) (h3 : e2 ≤ N) : ps_CG S N h c O ci (mo_up T 31 0 (nI e2)) e2 w m L := by
  obtain ⟨a1, a2, a3, a4, a5, a6, a7, a8, a9, a10, a11⟩ := h1
  refine ⟨fun k b1 b2 => by rw [mo_up_ne (by omega)]; exact a1 k b1 b2, a2.up h3, by omega, by rw [mo_up_ne (by decide)]; exact a4, by rw [mo_up_ne (by decide)]; exact a5, by rw [mo_up_ne (by decide)]; exact a6, by rw [mo_up_ne (by decide)]; exact a7, fun i hi => ?_, fun j hj => ?_, by rw [mo_up_ne (by decide)]; exact a10, by rw [mo_up_ne (by decide)]; exact a11⟩
  · rw [mo_up_ne (by decide), mo_up_ne (by decide)]; exact a8 i hi
  · rw [mo_up_ne (by decide), mo_up_ne (by decide)]; exact a9 j hj
/-- a state that differs by the place and what stands at ci alone -/
theorem ps_CG.of {S T : mo_S} {N h c O ci e : Nat} {w m : Int32} (hP : ps_P S N h 0 c O) (hT : ∀ k, k ≠ 31 → k ≠ 38 → k ≠ 39 → T.1 k = S.1 k) (h31 : T.1 31 0 = nI e) (he : e ≤ N) (hh : h ≤ e) (h38 : T.1 38 = upd (S.1 38) ci w) (h39 : T.1 39 = upd (S.1 39) ci m) : ps_CG S N h c O ci T e w m [] := by
  obtain ⟨b1, b2, b3, b4, b5, b6, b7, b8⟩ := hP
  refine ⟨fun k q1 q2 => hT k (by omega) (by omega) (by omega), ⟨by rw [hT 30 (by decide) (by decide) (by decide)]; exact b1.1, b1.2.1, h31, he⟩, hh, by rw [hT 32 (by decide) (by decide) (by decide)]; exact b2, by rw [hT 33 (by decide) (by decide) (by decide)], by rw [hT 34 (by decide) (by decide) (by decide)], by rw [hT 35 (by decide) (by decide) (by decide)]; exact b5, fun i hi => ?_, fun j hj => absurd hj (Nat.not_lt_zero j), h38, h39⟩
  rw [hT 40 (by decide) (by decide) (by decide), hT 41 (by decide) (by decide) (by decide)]
  exact ⟨rfl, rfl⟩
theorem ps_CB.of {S T : mo_S} {N h c O ci e2 w pl : Nat} (hP : ps_P S N h 0 c O) (hT : ∀ k, k ≠ 31 → k ≠ 32 → k ≠ 33 → k ≠ 38 → k ≠ 39 → T.1 k = S.1 k) (h31 : T.1 31 0 = nI e2) (he : e2 ≤ N) (h32 : T.1 32 0 = nI w) (hw : 1 ≤ w ∧ w ≤ 3) (h33 : T.1 33 0 = nI pl) (h38 : ∀ i, i < ci → T.1 38 i = S.1 38 i ∧ T.1 39 i = S.1 39 i) : ps_CB S N c O ci T w pl := by
  obtain ⟨b1, b2, b3, b4, b5, b6, b7, b8⟩ := hP
  refine ⟨fun k q1 q2 => hT k (by omega) (by omega) (by omega) (by omega) (by omega), ⟨e2, by rw [hT 30 (by decide) (by decide) (by decide) (by decide) (by decide)]; exact b1.1, b1.2.1, h31, he⟩, h32, hw.1, hw.2, h33, fun i hi => ?_, h38⟩
  rw [hT 40 (by decide) (by decide) (by decide) (by decide) (by decide), hT 41 (by decide) (by decide) (by decide) (by decide) (by decide)]
  exact ⟨rfl, rfl⟩
/-- the state in which a formula is read -/
def ps_fb (S : mo_S) (ci c : Nat) (w : Int32) (h : Nat) : mo_S := mo_up (mo_up (mo_up S 31 0 (nI h)) 38 ci w) 39 ci (nI c)
theorem ps_fb_ne {S : mo_S} {ci c h k : Nat} {w : Int32} (h1 : k ≠ 31) (h2 : k ≠ 38) (h3 : k ≠ 39) : (ps_fb S ci c w h).1 k = S.1 k := by unfold ps_fb; rw [mo_up_ne h3, mo_up_ne h2, mo_up_ne h1]
theorem ps_fb_P {S : mo_S} {N p h c O ci : Nat} {w : Int32} (hP : ps_P S N p 0 c O) (hh : p ≤ h) (hh2 : h ≤ N) : ps_P (ps_fb S ci c w h) N h 0 c O := by
  obtain ⟨b1, b2, b3, b4, b5, b6, b7, b8⟩ := hP
  exact ⟨⟨by rw [ps_fb_ne (by decide) (by decide) (by decide)]; exact b1.1, b1.2.1, by unfold ps_fb; rw [mo_up_ne (by decide), mo_up_ne (by decide), mo_up_at, pk_us], hh2⟩, by rw [ps_fb_ne (by decide) (by decide) (by decide)]; exact b2, by rw [ps_fb_ne (by decide) (by decide) (by decide)]; exact b3, b4, by rw [ps_fb_ne (by decide) (by decide) (by decide)]; exact b5, by omega, by rw [ps_fb_ne (by decide) (by decide) (by decide)]; exact b7, b8⟩
theorem ps_fb_tx {S : mo_S} {ci c h : Nat} {w : Int32} : ps_tx (ps_fb S ci c w h) = ps_tx S := by
  funext a
  unfold ps_tx
  rw [ps_fb_ne (by decide) (by decide) (by decide)]
theorem ps_fb_B {S T : mo_S} {N c O ci h w pl : Nat} {ww : Int32} (h1 : ps_B (ps_fb S ci c ww h) N c O T w pl) : ps_CB S N c O ci T w pl := by
  obtain ⟨a1, a2, a3, a4, a5, a6, a7⟩ := h1
  refine ⟨fun k b1 b2 => (a1 k (by omega) (by omega) (by omega) (by omega) (by omega) (by omega) (by omega)).trans (ps_fb_ne (by omega) (by omega) (by omega)), a2, a3, a4, a5, a6, fun i hi => ?_, fun i hi => ?_⟩
  · have := a7 i hi
    rw [ps_fb_ne (by decide) (by decide) (by decide), ps_fb_ne (by decide) (by decide) (by decide)] at this
    exact this
  · rw [a1 38 (by decide) (by decide) (by decide) (by decide) (by decide) (by decide) (by decide), a1 39 (by decide) (by decide) (by decide) (by decide) (by decide) (by decide) (by decide)]
    unfold ps_fb
    rw [mo_up_ne (show (38 : Nat) ≠ 39 by decide), mo_up_at, mo_up_ne (show (38 : Nat) ≠ 31 by decide), mo_up_at, mo_up_ne (show (39 : Nat) ≠ 38 by decide), mo_up_ne (show (39 : Nat) ≠ 31 by decide), pk_un (by omega), pk_un (by omega)]
    exact ⟨rfl, rfl⟩
theorem ps_fb_G {S T : mo_S} {N p c O ci h e : Nat} {ww : Int32} {L : List (Int32 × Int32)} (h1 : ps_G (ps_fb S ci c ww h) N h c O T e L) (hp : p ≤ h) : ps_CG S N p c O ci T e ww (nI c) L := by
  obtain ⟨a1, a2, a3, a4, a5, a6, a7, a8, a9⟩ := h1
  refine ⟨fun k b1 b2 => (a1 k (by omega) (by omega) (by omega) (by omega) (by omega) (by omega) (by omega)).trans (ps_fb_ne (by omega) (by omega) (by omega)), a2, by omega, a4, by rw [a5, ps_fb_ne (by decide) (by decide) (by decide)], by rw [a6, ps_fb_ne (by decide) (by decide) (by decide)], a7, fun i hi => ?_, a9, ?_, ?_⟩
  · have := a8 i hi
    rw [ps_fb_ne (by decide) (by decide) (by decide), ps_fb_ne (by decide) (by decide) (by decide)] at this
    exact this
  · rw [a1 38 (by decide) (by decide) (by decide) (by decide) (by decide) (by decide) (by decide)]
    unfold ps_fb
    rw [mo_up_ne (by decide), mo_up_at, mo_up_ne (by decide)]
  · rw [a1 39 (by decide) (by decide) (by decide) (by decide) (by decide) (by decide) (by decide)]
    unfold ps_fb
    rw [mo_up_at, mo_up_ne (by decide), mo_up_ne (by decide)]
theorem ps_CG.em {S T : mo_S} {N h c O ci e : Nat} {w m : Int32} {L : List (Int32 × Int32)} {x y : Int32} (h1 : ps_CG S N h c O ci T e w m L) (h2 : h + L.length + 1 ≤ e) : ps_CG S N h c O ci (ps_em T O (c + L.length) x y) e w m (L ++ [(x, y)]) := by
  obtain ⟨a1, a2, a3, a4, a5, a6, a7, a8, a9, a10, a11⟩ := h1
  have e40 : (ps_em T O (c + L.length) x y).1 40 = upd (T.1 40) (350 * O + (c + L.length)) x := by unfold ps_em; rw [mo_up_ne (by decide), mo_up_ne (by decide), mo_up_at]
  have e41 : (ps_em T O (c + L.length) x y).1 41 = upd (T.1 41) (350 * O + (c + L.length)) y := by unfold ps_em; rw [mo_up_ne (by decide), mo_up_at, mo_up_ne (by decide)]
  have en : ∀ k, k ≠ 35 → k ≠ 40 → k ≠ 41 → (ps_em T O (c + L.length) x y).1 k = T.1 k := fun k q1 q2 q3 => by unfold ps_em; rw [mo_up_ne q1, mo_up_ne q3, mo_up_ne q2]
  refine ⟨fun k b1 b2 => by rw [en k (by omega) (by omega) (by omega)]; exact a1 k b1 b2, ⟨by rw [en 30 (by decide) (by decide) (by decide)]; exact a2.1, a2.2.1, by rw [en 31 (by decide) (by decide) (by decide)]; exact a2.2.2.1, a2.2.2.2⟩, by rw [List.length_append]; simp only [List.length_cons, List.length_nil]; omega, by rw [en 32 (by decide) (by decide) (by decide)]; exact a4, by rw [en 33 (by decide) (by decide) (by decide)]; exact a5, by rw [en 34 (by decide) (by decide) (by decide)]; exact a6, ?_, fun i hi => ?_, fun j hj => ?_, by rw [en 38 (by decide) (by decide) (by decide)]; exact a10, by rw [en 39 (by decide) (by decide) (by decide)]; exact a11⟩
  · unfold ps_em
    rw [mo_up_at, pk_us, List.length_append]
    rfl
  · rw [e40, e41, pk_un (by omega), pk_un (by omega)]; exact a8 i hi
  · rw [e40, e41]
    by_cases q : j < L.length
    · rw [pk_un (by omega), pk_un (by omega), ps_gd_l q]; exact a9 j q
    · have q2 : j = L.length := by rw [List.length_append] at hj; simp only [List.length_cons, List.length_nil] at hj; omega
      subst q2
      rw [show 350 * O + c + L.length = 350 * O + (c + L.length) by omega, pk_us, pk_us, ps_gd_r (Nat.le_refl _), Nat.sub_self]
      exact ⟨rfl, rfl⟩

theorem cl_F {G : ev_G} {W : mo_W} {d : Nat} {g0 : ev_H} {S T : mo_S} {N p c O ci : Nat} {R : ps_C} {k2 : Int32} {v3 : Option Value} (hE : ev_En G) (hd : 5 ≤ d) {ww pl : Nat} (hB : ps_CB S N c O ci T ww pl) (hR : R = .inl (ww, pl)) : ∀ g, mo_T G W g0 g T → ev_V G d 0 0 mX12_clause (fun o g' => ∃ r S2, o = .inl r ∧ (r = none ∧ ps_CQ S N p c O ci R S2) ∧ mo_T G W g0 g' S2) g 234 [some (.ref W.1), some (.int (nI ci)), some (.int k2), v3] [] := by
  intro g hT
  refine ev_aload_n dX12_clause_234 rfl rfl ?_
  refine ev_bipush (v := nI 59) dX12_clause_235 (by decide) ?_
  refine mo_call1 (d' := d - 1) hE hT dX12_clause_237 rfl rfl kX12_sign lX12_298 iX12_sign vX12_sign (Nat.le_of_ble_eq_true rfl) (by omega) (c_X12_signF (x2 := 0) hE hB.f.ne.1) (fun g hT => ?_)
  exact ev_vret dX12_clause_240 rfl ⟨_, _, rfl, ⟨rfl, by rw [hR]; exact hB⟩, hT⟩
theorem cl_G {G : ev_G} {W : mo_W} {d : Nat} {g0 : ev_H} {S T : mo_S} {N p c O ci : Nat} {R : ps_C} {k2 : Int32} {v3 : Option Value} (hE : ev_En G) (hd : 5 ≤ d) {e : Nat} {ww m mm : Int32} {L : List (Int32 × Int32)} {C : List Int32} {F : ps_F} (hG : ps_CG S N p c O ci T e ww mm L) (hmm : mm = if ww = 0 ∨ ww = 4 then nI c else m) (hR : R = ps_ce (ps_tx S) N (ps_skn (ps_tx S) N e) ww m L C F) : ∀ g, mo_T G W g0 g T → ev_V G d 0 0 mX12_clause (fun o g' => ∃ r S2, o = .inl r ∧ (r = none ∧ ps_CQ S N p c O ci R S2) ∧ mo_T G W g0 g' S2) g 234 [some (.ref W.1), some (.int (nI ci)), some (.int k2), v3] [] := by
  intro g hT
  have hl := ps_skn_in (t := (ps_tx S)) hG.2.1.2.2.2
  refine ev_aload_n dX12_clause_234 rfl rfl ?_
  refine ev_bipush (v := nI 59) dX12_clause_235 (by decide) ?_
  refine mo_call1 (d' := d - 1) hE hT dX12_clause_237 rfl rfl kX12_sign lX12_298 iX12_sign vX12_sign (Nat.le_of_ble_eq_true rfl) (by omega) (c_X12_sign (c := 59) hE (by omega) hG.2.1 hG.2.2.2.1 (by decide)) (fun g hT => ?_)
  rw [hG.1.tx] at hT
  refine ev_vret dX12_clause_240 rfl ⟨_, _, rfl, ⟨rfl, ?_⟩, hT⟩
  rw [hR]
  unfold ps_ce
  by_cases hy : ps_skn (ps_tx S) N e < N ∧ (ps_tx S) (ps_skn (ps_tx S) N e) = 59
  · rw [if_pos hy, if_pos hy]
    refine ⟨ps_skn (ps_tx S) N e + 1, ?_, rfl⟩
    rw [← hmm]
    exact hG.mv (by omega) (by omega)
  · rw [if_neg hy, if_neg hy]
    exact hG.wr hl.2 (by decide)
theorem c_X12_formula {G : ev_G} {W : mo_W} {d : Nat} {S : mo_S} {N p h c O ci : Nat} {ww : Int32} (hE : ev_En G) (h3 : ev_En3 G) (hd : 48 ≤ d) (hP : ps_P S N p 0 c O) (hh : p + 1 ≤ h) (hh2 : h ≤ N) (hci : ci < 120) : mo_Cr G W d mX12_formula [.int (nI ci), .int ww] (mo_up S 31 0 (nI h)) (fun r T => r = none ∧ match ps_sum (ps_tx S) N 8 (ps_skn (ps_tx S) N h) with
    | .inl (w9, pl) => ps_CB S N c O ci T w9 pl
    | .inr (h2, L, _, _) => ∃ e, ps_CG S N p c O ci T e ww (nI c) (L ++ [(12, 0)]) ∧ ps_skn (ps_tx S) N e = h2) := by
  refine mo_startr (lv0 := [some (.ref W.1), some (.int (nI ci)), some (.int ww)]) (by decide +kernel) rfl (Nat.le_of_ble_eq_true rfl) rfl ?_
  intro g0 g hT
  have hn3 := hP.1.2.1
  refine ev_aload_n dX12_formula_0 rfl rfl ?_
  refine mo_geta hE hT dX12_formula_1 fX12_90 (by decide) ?_
  refine ev_iload_n dX12_formula_4 rfl rfl ?_
  refine ev_iload_n dX12_formula_5 rfl rfl ?_
  refine mo_iast (q := ci) hE hT dX12_formula_6 (by decide) rfl (show _ < 120 from hci) (fun g hT => ?_)
  refine ev_aload_n dX12_formula_7 rfl rfl ?_
  refine mo_geta hE hT dX12_formula_8 fX12_93 (by decide) ?_
  refine ev_iload_n dX12_formula_11 rfl rfl ?_
  refine ev_aload_n dX12_formula_12 rfl rfl ?_
  refine mo_getiE (v := nI c) hE hT dX12_formula_13 fX12_292 (by decide) (by rw [mo_up_ne (by decide), mo_up_ne (by decide)]; exact hP.2.2.2.2.1) ?_
  refine mo_iast (q := ci) hE hT dX12_formula_16 (by decide) rfl (show _ < 120 from hci) (fun g hT => ?_)
  have hT : mo_T G W g0 g (ps_fb S ci c ww h) := hT
  have hP1 := ps_fb_P (ci := ci) (w := ww) hP (h := h) (by omega) hh2
  refine ev_aload_n dX12_formula_17 rfl rfl ?_
  refine mo_callr0 (d' := d - 1) hE hT dX12_formula_18 rfl rfl kX12_sum lX12_332 iX12_sum vX12_sum (Nat.le_of_ble_eq_true rfl) (by omega) (c_X12_sums hE h3 8 (d - 1) (by omega) _ N h 0 c O hP1 rfl) (fun r T g h8 hT => ?_)
  obtain ⟨rfl, h8⟩ := h8
  try dsimp only at h8
  rw [ps_fb_tx] at h8
  refine ev_aload_n dX12_formula_21 rfl rfl ?_
  refine ev_bipush (v := 12) dX12_formula_22 (by decide) ?_
  refine ev_iconst (v := 0) dX12_formula_24 (by decide) ?_
  cases hu : ps_sum (ps_tx S) N 8 (ps_skn (ps_tx S) N h) with
  | inl q =>
    obtain ⟨w9, pl⟩ := q
    rw [hu] at h8
    have hB : ps_CB S N c O ci T w9 pl := ps_fb_B h8
    refine mo_call2 (d' := d - 1) hE hT dX12_formula_25 rfl rfl kX12_emits lX12_305 iX12_emits vX12_emits (Nat.le_of_ble_eq_true rfl) (by omega) (c_X12_emitsF hE hB.f.ne.1) (fun g hT => ?_)
    exact ev_vret dX12_formula_28 rfl ⟨_, _, rfl, ⟨rfl, hB⟩, hT⟩
  | inr q =>
    obtain ⟨h2, L, C, F⟩ := q
    rw [hu] at h8
    obtain ⟨e, hG, hsk⟩ := h8
    rw [ps_fb_tx] at hsk
    have hPT := hG.P hP1
    have hle := hG.2.2.1
    have heN := hG.2.1.2.2.2
    have hch := hP.2.2.2.2.2.1
    refine mo_call2 (d' := d - 1) hE hT dX12_formula_25 rfl rfl kX12_emits lX12_305 iX12_emits vX12_emits (Nat.le_of_ble_eq_true rfl) (by omega) (c_X12_emits hE hPT.2.1 hPT.2.2.2.2.2.2.1 hPT.2.2.2.2.2.2.2 hPT.2.2.2.2.1 (by omega)) (fun g hT => ?_)
    refine ev_vret dX12_formula_28 rfl ⟨_, _, rfl, ⟨rfl, ?_⟩, hT⟩
    exact ⟨e, (ps_fb_G hG (p := p) (by omega)).em (by omega), hsk⟩
end M26
