section RP
abbrev od_B : Type := (Nat × Nat) ⊕ (Nat × od_q)
def od_num (t : Nat → Nat) (n : Nat) (w : Int32) (lo hi p : Nat) : od_B := if ps_dig (ps_bt t n p) = true then (if (ps_fig t n p).2 < lo ∨ hi < (ps_fig t n p).2 then .inl (2, p) else .inr (ps_skn t n (ps_fig t n p).1, w, nI (ps_fig t n p).2, [], [], fun _ => 0)) else .inl (1, p)
def od_frm (t : Nat → Nat) (n : Nat) (w : Int32) (p : Nat) : od_B := match ps_sum t n 8 p with
  | .inl e => .inl e
  | .inr (h, L, C, F) => .inr (h, w, 0, L ++ [(12, 0)], C, F)
def od_pgs (t : Nat → Nat) (n p : Nat) : od_B := match ps_fnd t n p ps_kn 3 with
  | none => .inl (1, p)
  | some k => od_num t n (1 + nI k) 2 64 (ps_skn t n (p + (ps_kn k).length))
def od_rst (t : Nat → Nat) (n p : Nat) : od_B := match ps_fnd t n p rd_W139 2 with
  | none => .inl (1, p)
  | some k => .inr (ps_skn t n (p + 4), 10, 1 - nI k, [], [], fun _ => 0)
def od_way (t : Nat → Nat) (n p : Nat) : od_B := match ps_fnd t n p ps_wn 4 with
  | none => .inl (1, p)
  | some k => .inr (ps_skn t n (p + (ps_wn k).length), 11, nI k, [], [], fun _ => 0)
def od_cb (t : Nat → Nat) (n p : Nat) : od_B := match ps_fnd t n p ps_cn 10 with
  | none => .inl (1, p)
  | some 0 => od_frm t n 0 (ps_skn t n (p + 4))
  | some 1 => od_pgs t n (ps_skn t n (p + 5))
  | some 2 => od_frm t n 4 (ps_skn t n (p + 5))
  | some 8 => od_rst t n (ps_skn t n (p + 4))
  | some 9 => od_way t n (ps_skn t n (p + 3))
  | some k => od_num t n (nI (k + 2)) 0 (if k = 5 ∨ k = 6 then 100 else 9999) (ps_skn t n (p + (ps_cn k).length))
def od_ce (t : Nat → Nat) (n : Nat) (b : od_B) : ps_C := match b with
  | .inl e => .inl e
  | .inr (h, q) => if h < n ∧ t h = 59 then .inr (ps_skn t n (h + 1), q) else .inl (1, h)
theorem ps_cg_ce {t : Nat → Nat} {n lo hi p : Nat} {w : Int32} : ps_cg t n w lo hi p = od_ce t n (od_num t n w lo hi p) := by
  unfold ps_cg od_num
  split
  · split
    · rfl
    · rfl
  · rfl
theorem ps_cf_ce {t : Nat → Nat} {n p : Nat} {w : Int32} : ps_cf t n w p = od_ce t n (od_frm t n w p) := by
  unfold ps_cf od_frm
  cases ps_sum t n 8 p with
  | inl e => rfl
  | inr v => rfl
theorem od_fnd2 {t : Nat → Nat} {n p : Nat} : ps_fnd t n p rd_W139 2 = if ps_wd t n p [109, 111, 115, 116] = true then some 0 else if ps_wd t n p [107, 101, 101, 112] = true then some 1 else none := by
  show (match (match none with | some k => some k | none => if ps_wd t n p (rd_W139 0) = true then some 0 else none) with | some k => some k | none => if ps_wd t n p (rd_W139 1) = true then some 1 else none) = _
  by_cases a : ps_wd t n p [109, 111, 115, 116] = true
  · rw [if_pos a]
    show (match (if ps_wd t n p [109, 111, 115, 116] = true then some 0 else none) with | some k => some k | none => if ps_wd t n p (rd_W139 1) = true then some 1 else none) = _
    rw [if_pos a]
  · rw [if_neg a]
    show (match (if ps_wd t n p [109, 111, 115, 116] = true then some 0 else none) with | some k => some k | none => if ps_wd t n p [107, 101, 101, 112] = true then some 1 else none) = _
    rw [if_neg a]
theorem ps_cl_ce {t : Nat → Nat} {n p : Nat} : ps_cl t n p = od_ce t n (od_cb t n p) := by
  unfold ps_cl od_cb
  cases hk : ps_fnd t n p ps_cn 10 with
  | none => rfl
  | some k =>
    have hk10 := (ps_fnd_lt hk).1
    obtain rfl | rfl | rfl | rfl | rfl | rfl | rfl | rfl | rfl | rfl : k = 0 ∨ k = 1 ∨ k = 2 ∨ k = 3 ∨ k = 4 ∨ k = 5 ∨ k = 6 ∨ k = 7 ∨ k = 8 ∨ k = 9 := by omega
    · exact ps_cf_ce
    · unfold od_pgs
      cases ps_fnd t n (ps_skn t n (p + 5)) ps_kn 3 with
      | none => rfl
      | some k => exact ps_cg_ce
    · exact ps_cf_ce
    · exact ps_cg_ce
    · exact ps_cg_ce
    · exact ps_cg_ce
    · exact ps_cg_ce
    · exact ps_cg_ce
    · unfold od_rst
      rw [od_fnd2]
      by_cases a : ps_wd t n (ps_skn t n (p + 4)) [109, 111, 115, 116] = true
      · rw [if_pos a, if_pos a]; rfl
      · rw [if_neg a, if_neg a]
        by_cases b : ps_wd t n (ps_skn t n (p + 4)) [107, 101, 101, 112] = true
        · rw [if_pos b, if_pos b]; rfl
        · rw [if_neg b, if_neg b]; rfl
    · unfold od_way
      cases ps_fnd t n (ps_skn t n (p + 3)) ps_wn 4 with
      | none => rfl
      | some k => rfl
/-- with its number: there are 12 at most -/
def od_cc (t : Nat → Nat) (n p ci : Nat) : od_B := if ci < 12 then od_cb t n p else .inl (match ps_fnd t n p ps_cn 10 with | none => 1 | some _ => 3, p)
theorem rd_wd_bh {t : Nat → Nat} {n p : Nat} {v : List Nat} (ht : ∀ j, t j < 256) (h : ps_wd t n p v = true) (h0 : 0 < v.length) (hl : ∀ k, k < v.length → ps_let (v.getD k 0) = true) : p < n ∧ rd_bh t n p = p + v.length := by
  have c := ps_wd_l h h0 (hl 0 h0)
  have e := rd_isw_wd (s := 0) (e := v.length) (L := v) (v := v) ht c.1 c.2 (by omega) (fun j hj => by rw [Nat.zero_add]) hl
  rw [h] at e
  have e2 := (of_decide_eq_true e).1
  have := (rd_bh_in (t := t) (n := n) (p := p) (by omega)).1
  exact ⟨c.1, by omega⟩
theorem od_cn_l : ∀ k, k < 10 → 0 < (ps_cn k).length ∧ ∀ j, j < (ps_cn k).length → ps_let ((ps_cn k).getD j 0) = true := by decide +kernel
theorem od_kn_l : ∀ k, k < 3 → 0 < (ps_kn k).length ∧ ∀ j, j < (ps_kn k).length → ps_let ((ps_kn k).getD j 0) = true := by decide +kernel
theorem od_wn_l : ∀ k, k < 4 → 0 < (ps_wn k).length ∧ ∀ j, j < (ps_wn k).length → ps_let ((ps_wn k).getD j 0) = true := by decide +kernel
theorem od_rn_l : ∀ k, k < 2 → (rd_W139 k).length = 4 ∧ ∀ j, j < (rd_W139 k).length → ps_let ((rd_W139 k).getD j 0) = true := by decide +kernel
theorem rd_G.cg2 {C T : mo_S} {t : Nat → Nat} {n p : Nat} (h : rd_G C t n p) (hh : ∀ f x, 115 ≤ f → f ≤ 120 → T.1 f x = C.1 f x) : rd_G T t n p := by
  obtain ⟨⟨a1, a2, a3, a4⟩, b, c1, c2, c3, c4⟩ := h
  exact ⟨⟨by rw [hh 116 0 (by decide) (by decide)]; exact a1, a2, fun j hj => by rw [hh 115 j (by decide) (by decide)]; exact a3 j hj, a4⟩, by rw [hh 120 0 (by decide) (by decide)]; exact b, c1, by rw [hh 118 0 (by decide) (by decide)]; exact c2, by rw [hh 117 0 (by decide) (by decide)]; exact c3, by rw [hh 119 0 (by decide) (by decide)]; exact c4⟩
theorem rd_F.cg2 {C T : mo_S} {t : Nat → Nat} {n f pl : Nat} (h : rd_F C t n f pl) (hh : ∀ f x, f = 33 ∨ (115 ≤ f ∧ f ≤ 120) → T.1 f x = C.1 f x) : rd_F T t n f pl := by
  obtain ⟨⟨a1, a2, a3, a4⟩, b, c1, c2, c3, c4⟩ := h
  exact ⟨⟨by rw [hh 116 0 (by decide)]; exact a1, a2, fun j hj => by rw [hh 115 j (by decide)]; exact a3 j hj, a4⟩, by rw [hh 120 0 (by decide)]; exact b, c1, c2, by rw [hh 33 0 (by decide)]; exact c3, by rw [hh 117 0 (by decide)]; exact c4⟩
theorem od_eq.up {T C : mo_S} {f x : Nat} {v : Int32} (h : od_eq T C) (hat : od_at 11 f x) (h36 : f ≠ 36 := by omega) : od_eq (mo_up T f x v) C := fun f' x' a b => by
  rw [cw_up_at (fun q => h36 (q.1.symm.trans (b (by rw [q.1, q.2]; exact hat))))]
  exact h f' x' a b
/-- what a clause makes of the state -/
def od_pq (t : Nat → Nat) (n ci : Nat) (r : od_R) (res : od_B) (C2 : mo_S) : Prop := match res with
  | .inl (f, pl) => rd_F C2 t n f pl
  | .inr (h, q) => rd_G C2 t n h ∧ (C2.1 122 0 = 0 ∧ C2.1 33 0 = -1) ∧ od_S C2 11 (od_st r ci q)
theorem od_Xs {f x : Nat} (h : od_at 11 f x) : f ∉ rd_Xs := fun q => by
  simp only [rd_Xs, List.mem_cons, List.mem_nil_iff, or_false] at q
  unfold od_at at h
  omega
theorem od_S.x {T C : mo_S} {r : od_R} (h : od_S C 11 r) (hx : cx_eqX rd_Xs T C) : od_S T 11 r := h.cg (fun f x q => by rw [hx f (od_Xs q)])
/-- a number is put into the order -/
theorem od_numQ {C T : mo_S} {t : Nat → Nat} {n p lo hi ci w0 : Nat} {r : od_R} {x : Int32} (h5 : 5 ≤ w0) (h9 : w0 ≤ 9) (q9 : if ps_dig (ps_bt t n p) = true then (if (ps_fig t n p).2 < lo ∨ hi < (ps_fig t n p).2 then cx_eqX [33, 117, 120] T C ∧ rd_F T t n 2 p else (Sum.inl (some (Value.int x)) : Option Value ⊕ String) = .inl (some (.int (nI (ps_fig t n p).2))) ∧ cx_eqX [117, 118, 119] T C ∧ rd_G T t n (ps_skn t n (ps_fig t n p).1)) else cx_eqX [33, 117, 120] T C ∧ rd_F T t n 1 p) (hc : C.1 122 0 = 0 ∧ C.1 33 0 = -1) (hS : od_S C 11 r) : od_eq (mo_up T (98 + w0) 11 x) C ∧ od_pq t n ci r (od_num t n (nI w0) lo hi p) (mo_up T (98 + w0) 11 x) := by
  have hat : od_at 11 (98 + w0) 11 := by unfold od_at; omega
  have hne : ∀ f y, f = 33 ∨ (115 ≤ f ∧ f ≤ 122) → (mo_up T (98 + w0) 11 x).1 f y = T.1 f y := fun f y h => cw_up_at (by omega)
  have bad : ∀ f, cx_eqX [33, 117, 120] T C ∧ rd_F T t n f p → od_eq (mo_up T (98 + w0) 11 x) C ∧ rd_F (mo_up T (98 + w0) 11 x) t n f p := fun f q => ⟨(od_eq.of (q.1.mono (by decide))).up hat, q.2.cg2 (fun f y h => hne f y (by omega))⟩
  unfold od_num
  by_cases a : ps_dig (ps_bt t n p) = true
  · rw [if_pos a] at q9
    rw [if_pos a]
    by_cases b : (ps_fig t n p).2 < lo ∨ hi < (ps_fig t n p).2
    · rw [if_pos b] at q9
      rw [if_pos b]
      exact bad 2 q9
    · rw [if_neg b] at q9
      rw [if_neg b]
      obtain ⟨e, hx, hG⟩ := q9
      cases e
      refine ⟨(od_eq.of (hx.mono (by decide))).up hat, hG.cg2 (fun f y h1 h2 => hne f y (by omega)), ⟨by rw [hne 122 0 (by omega), hx 122 (by decide)]; exact hc.1, by rw [hne 33 0 (by omega), hx 33 (by decide)]; exact hc.2⟩, ?_⟩
      refine (hS.x (hx.mono (by decide))).st (w0 := w0) rfl (by omega) ⟨fun e => absurd e (by omega), fun _ e => absurd e (by omega), fun e => absurd e (by omega), fun _ _ => ?_⟩ (fun w hw e f y hcl => cw_up_at (fun q => ?_))
      · rw [mo_up_at, pk_us]
        show _ = (if w0 = 10 then _ else _)
        rw [if_neg (by omega)]
      · unfold od_cl at hcl
        omega
  · rw [if_neg a] at q9
    rw [if_neg a]
    exact bad 1 q9
theorem c_X4_tellPages_n {G : ev_G} {W : cw_W} {d : Nat} {C : mo_S} {b : Nat} {x2 x3 : Int32} (hE : ev_En G) : cw_C G W d mX4_tellPages [.ref (W 28 b), .int (-1), .int x2, .int x3] C none C := by
  refine cw_start (lv0 := [some (.ref (W 28 b)), some (.int (-1)), some (.int x2), some (.int x3)]) (by decide +kernel) rfl (Nat.le_of_ble_eq_true rfl) rfl ?_
  intro K g0 g hT
  refine ev_iload_n dX4_tellPages_0 rfl rfl ?_
  refine ev_if_lt (tgt := 36) dX4_tellPages_1 (by decide) (fun _ => ?_) (fun c => absurd (by decide) c)
  exact ev_vret dX4_tellPages_36 rfl ⟨rfl, hT⟩
theorem c_X7_readPages {G : ev_G} {W : cw_W} {d D0 n p ci : Nat} {C : mo_S} {t : Nat → Nat} {r : od_R} (hE : ev_En G) (h4 : ev_En4 G D0) (hd : 7 ≤ d) (hG : rd_G C t n p) (hc : C.1 122 0 = 0 ∧ C.1 33 0 = -1) (h133 : C.1 133 0 = 1) (hS : od_S C 11 r) : cw_R G W d 0 0 mX7_readPages [.ref (W 4 0), .ref (W 28 11), .int (nI ci)] C (fun o W2 C2 => W2 = W ∧ o = .inl none ∧ od_eq C2 C ∧ od_pq t n ci r (od_pgs t n p) C2) := by
  refine cw_startR (lv0 := [some (.ref (W 4 0)), some (.ref (W 28 11)), some (.int (nI ci)), none, none]) (by decide +kernel) rfl (Nat.le_of_ble_eq_true rfl) rfl ?_
  intro K g0 g hT
  have ht := hG.1.2.2.2
  have hw : rd_wf t n p rd_L153 = ps_fnd t n p ps_kn 3 := rd_wf153 ht
  refine ev_aload_n dX7_readPages_0 rfl rfl ?_
  refine ev_ldcS dX7_readPages_1 (h4.2.2.2.2.2.2.1 (153, rd_L153) (by decide)) (fun a ha => ?_)
  refine cw_callr1 (d' := d - 1) (b := 0) (n0 := 0) hE hT dX7_readPages_3 rfl kX7_takeWord lX7_141 iX7_takeWord vX7_takeWord (k := 4) (i := 0) rfl ob4 rfl (Nat.le_of_ble_eq_true rfl) (by omega) (c_X7_takeWord (d := d - 1) hE h4 (by omega) hG ha (fun x h => by rw [hw] at h; have := (ps_fnd_lt h).1; omega)) (Nat.le_refl _) (Nat.le_refl _) (fun v9 W9 T g q9 hT => ?_) (fun E W2 C2 g q9 _ => by obtain ⟨_, h9, _⟩ := q9; cases h9)
  obtain ⟨e8, e9, q9⟩ := q9
  have e7 := e8.symm
  subst e7
  rw [hw] at e9 q9
  cases e9
  refine ev_istore_n dX7_readPages_6 rfl (Nat.le_of_ble_eq_true rfl) rfl ?_
  refine ev_aload_n dX7_readPages_7 rfl rfl ?_
  refine ev_iconst (v := nI 2) dX7_readPages_8 (by decide) ?_
  refine ev_bipush (v := nI 64) dX7_readPages_9 (by decide) ?_
  cases hk : ps_fnd t n p ps_kn 3 with
  | none =>
    rw [hk] at q9
    obtain ⟨hx, hF⟩ := q9
    have ho : cw_ol T 11 := Or.inr (Or.inr ⟨rfl, by rw [hx 133 (by decide)]; exact h133⟩)
    refine cw_call2 (d' := d - 1) hE hT dX7_readPages_11 rfl kX7_takeNumber lX7_121 iX7_takeNumber vX7_takeNumber (k := 4) (i := 0) rfl ob4 rfl (Nat.le_of_ble_eq_true rfl) (by omega) (c_X7_takeNumber_F hE (by omega) hF) (fun g hT => ?_)
    refine ev_istore dX7_readPages_14 (Nat.le_of_ble_eq_true rfl) rfl ?_
    refine ev_aload_n dX7_readPages_16 rfl rfl ?_
    refine ev_iload_n dX7_readPages_17 rfl rfl ?_
    refine ev_iload dX7_readPages_18 rfl ?_
    refine ev_iload_n dX7_readPages_20 rfl rfl ?_
    refine cw_call3 (d' := d - 1) hE hT dX7_readPages_21 rfl kX4_tellPages lX7_155 iX4_tellPages vX4_tellPages (k := 28) (i := 11) ho ob28 rfl (Nat.le_of_ble_eq_true rfl) (by omega) (c_X4_tellPages_n hE) (fun g hT => ?_)
    exact ev_vret dX7_readPages_24 rfl ⟨W, T, ⟨rfl, rfl, od_eq.of (hx.mono (by decide)), by unfold od_pgs; rw [hk]; exact hF⟩, hT⟩
  | some k =>
    obtain ⟨hk3, hkw⟩ := ps_fnd_lt hk
    obtain ⟨hpn, hbh⟩ := rd_wd_bh ht hkw (od_kn_l k hk3).1 (od_kn_l k hk3).2
    rw [hk] at q9
    obtain ⟨hx, hG2⟩ := q9
    rw [hbh] at hG2
    refine cw_callr2 (d' := d - 1) (b := 0) (n0 := 0) hE hT dX7_readPages_11 rfl kX7_takeNumber lX7_121 iX7_takeNumber vX7_takeNumber (k := 4) (i := 0) rfl ob4 rfl (Nat.le_of_ble_eq_true rfl) (by omega) (c_X7_takeNumber (d := d - 1) (lo := 2) (hi := 64) hE h4 (by omega) hG2 (by omega) (by omega)) (Nat.le_refl _) (Nat.le_refl _) (fun v9 W9 T2 g q9 hT => ?_) (fun E W2 C2 g q9 _ => by obtain ⟨_, ⟨_, h9⟩, _⟩ := q9; cases h9)
    obtain ⟨e8, ⟨x9, e9⟩, q9⟩ := q9
    have e7 := e8.symm
    subst e7
    cases e9
    have hx2 : cx_eqX [33, 117, 118, 119, 120] T2 T := by
      split at q9
      · split at q9
        · exact q9.1.mono (by decide)
        · exact q9.2.1.mono (by decide)
      · exact q9.1.mono (by decide)
    have ho : cw_ol T2 11 := Or.inr (Or.inr ⟨rfl, by rw [hx2 133 (by decide), hx 133 (by decide)]; exact h133⟩)
    refine ev_istore dX7_readPages_14 (Nat.le_of_ble_eq_true rfl) rfl ?_
    refine ev_aload_n dX7_readPages_16 rfl rfl ?_
    refine ev_iload_n dX7_readPages_17 rfl rfl ?_
    refine ev_iload dX7_readPages_18 rfl ?_
    refine ev_iload_n dX7_readPages_20 rfl rfl ?_
    refine cw_call3 (d' := d - 1) hE hT dX7_readPages_21 rfl kX4_tellPages lX7_155 iX4_tellPages vX4_tellPages (k := 28) (i := 11) ho ob28 rfl (Nat.le_of_ble_eq_true rfl) (by omega) (c_X4_tellPages (q := k) hE ho hk3) (fun g hT => ?_)
    unfold cx_X4_tellPages at hT
    have ha1 : od_at 11 101 (3 * 11 + k) := by unfold od_at; omega
    have ha2 : od_at 11 102 (3 * 11 + k) := by unfold od_at; omega
    have hxx : od_eq T2 C := od_eq.of ((hx2.mono (by decide)).t (hx.mono (by decide)))
    have hne : ∀ f y, f = 33 ∨ (115 ≤ f ∧ f ≤ 122) → (mo_up (mo_up T2 101 (3 * 11 + k) x9) 102 (3 * 11 + k) (nI ci)).1 f y = T2.1 f y := fun f y h => by rw [cw_up_at (by omega), cw_up_at (by omega)]
    refine ev_vret dX7_readPages_24 rfl ⟨W, _, ⟨rfl, rfl, (hxx.up ha1).up ha2, ?_⟩, hT⟩
    unfold od_pgs
    rw [hk]
    show od_pq t n ci r (od_num t n (1 + nI k) 2 64 (ps_skn t n (p + (ps_kn k).length))) _
    unfold od_num
    by_cases a : ps_dig (ps_bt t n (ps_skn t n (p + (ps_kn k).length))) = true
    · rw [if_pos a] at q9
      rw [if_pos a]
      by_cases b : (ps_fig t n (ps_skn t n (p + (ps_kn k).length))).2 < 2 ∨ 64 < (ps_fig t n (ps_skn t n (p + (ps_kn k).length))).2
      · rw [if_pos b] at q9
        rw [if_pos b]
        exact q9.2.cg2 (fun f y h => hne f y (by omega))
      · rw [if_neg b] at q9
        rw [if_neg b]
        obtain ⟨e, hx3, hG3⟩ := q9
        cases e
        refine ⟨hG3.cg2 (fun f y h1 h2 => hne f y (by omega)), ⟨by rw [hne 122 0 (by omega), hx2 122 (by decide), hx 122 (by decide)]; exact hc.1, by rw [hne 33 0 (by omega), hx3 33 (by decide), hx 33 (by decide)]; exact hc.2⟩, ?_⟩
        refine (hS.x ((hx2.mono (by decide)).t (hx.mono (by decide)))).st (w0 := k + 1) (by show 1 + nI k = nI (k + 1); rw [← nI_1, Int32.add_comm]) (by omega) ⟨fun e => absurd e (by omega), fun _ _ => ⟨?_, ?_⟩, fun e => absurd e (by omega), fun e => absurd e (by omega)⟩ (fun w hw e f y hcl => ?_)
        · rw [show k + 1 - 1 = k from rfl, mo_up_ne (by decide), mo_up_at, pk_us]
          rfl
        · rw [show k + 1 - 1 = k from rfl, mo_up_at, pk_us]
          rfl
        · rw [cw_up_at (fun q => by unfold od_cl at hcl; omega), cw_up_at (fun q => by unfold od_cl at hcl; omega)]
    · rw [if_neg a] at q9
      rw [if_neg a]
      exact q9.2.cg2 (fun f y h => hne f y (by omega))
end RP
