section CK
/-- .. ahead of the parting -/
def cx_go1 (C : mo_S) : mo_S := cx_X11_admit (cx_X11_takeGrants C) ((cx_X11_takeGrants C).1 104 (cx_now C))
/-- .. behind it -/
def cx_go2 (V : mo_S) (way : Int32) : mo_S := cx_open (cx_X11_giveReels (cx_X11_creditShares V way))
theorem cx_go1_ne {C : mo_S} {k : Nat} (h : k ≠ 4 ∧ k ≠ 12) : (cx_go1 C).1 k = C.1 k := by
  show (sp_adm (sp_gr C (sp_A C)) _ _).2.1 k = _
  rw [sp_adm_ne h.2, sp_gr_ne h.1]
theorem cx_hand_ne {V : mo_S} {way : Int32} {k : Nat} (h : k ≠ 9 ∧ k ≠ 10 ∧ k ≠ 11 ∧ k ≠ 14 ∧ k ≠ 15 ∧ k ≠ 23) : (cx_X11_giveReels (cx_X11_creditShares V way)).1 k = V.1 k := by
  show (sp_hand (cx_cs V way (sp_P V)) _ _).1 k = _
  rw [sp_hand_ne ⟨h.2.1, h.2.2.1, h.2.2.2.2.2⟩, cx_cs_ne ⟨h.2.2.1, h.1, h.2.2.2.1, h.2.2.2.2.1⟩]
theorem cx_go2_ne {V : mo_S} {way : Int32} {k : Nat} (h : k ≠ 9 ∧ k ≠ 10 ∧ k ≠ 11 ∧ k ≠ 14 ∧ k ≠ 15 ∧ k ≠ 23) (h2 : k ≠ 126) (h3 : k ≠ 134) : (cx_go2 V way).1 k = V.1 k := by
  unfold cx_go2 cx_open
  rw [cx_fl_ne h2, mo_up_ne h3, cx_hand_ne h]
theorem cx_go2_10 {V : mo_S} {way : Int32} : (cx_go2 V way).1 10 = (cx_X11_giveReels (cx_X11_creditShares V way)).1 10 := by
  unfold cx_go2 cx_open
  rw [cx_fl_ne (by decide), mo_up_ne (by decide)]
/-- a paper's month, its row, its swaps forgotten -/
def cx_stp (U : mo_S) (Qf : cx_Fn) (b m n : Nat) : mo_S := cx_X5_forgetSwaps (if cx_I U n = true then cx_X2_write (cx_run U Qf b n) m n (U.1 124 n) n else U) n
def cx_glR (Qf : cx_Fn) (b m : Nat) (C : mo_S) : Nat → mo_S → Prop
  | 0, T => T = C
  | n + 1, T => ∃ U, cx_glR Qf b m C n U ∧ cx_eqX [123] T (cx_stp U Qf b m n)
theorem cx_run_ne {C : mo_S} {Qf : cx_Fn} {b p k : Nat} (h : k ≠ 9 ∧ k ≠ 10 ∧ k ≠ 13 ∧ k ≠ 16 ∧ k ≠ 17 ∧ k ≠ 18 ∧ k ≠ 19 ∧ k ≠ 20) : (cx_run C Qf b p).1 k = C.1 k := by
  unfold cx_run
  rw [mo_up_ne h.2.2.1, mo_up_ne h.2.1]
  unfold cx_r2
  split
  · unfold cx_r1
    rw [mo_up_ne h.1, mo_up_ne h.2.1]
  · rw [cx_pay_ne ⟨h.1, h.2.2.2⟩]
    unfold cx_r1
    rw [mo_up_ne h.1, mo_up_ne h.2.1]
theorem cx_run_10 {C : mo_S} {Qf : cx_Fn} {b p j : Nat} (h : j ≠ p) : (cx_run C Qf b p).1 10 j = C.1 10 j := by
  unfold cx_run
  rw [mo_up_ne (by decide), mo_up_at, pk_un h]
  unfold cx_r2
  split
  · unfold cx_r1
    rw [mo_up_ne (by decide), mo_up_at, pk_un h]
  · rw [cx_pay_ne (by decide)]
    unfold cx_r1
    rw [mo_up_ne (by decide), mo_up_at, pk_un h]
def cx_gX : List Nat := [9, 10, 13, 16, 17, 18, 19, 20, 58, 123, 126]
theorem cx_stp_ne {U : mo_S} {Qf : cx_Fn} {b m n k : Nat} (h : k ∉ cx_gX) : (cx_stp U Qf b m n).1 k = U.1 k := by
  have q : ∀ f, f ∈ cx_gX → k ≠ f := fun f hf e => h (e ▸ hf)
  unfold cx_stp cx_X5_forgetSwaps
  rw [cx_fl_ne (q 58 (by decide))]
  split
  · unfold cx_X2_write
    rw [mo_up_ne (q 126 (by decide)), mo_up_ne (q 126 (by decide)), mo_up_ne (q 126 (by decide)), mo_up_ne (q 126 (by decide)), cx_run_ne ⟨q 9 (by decide), q 10 (by decide), q 13 (by decide), q 16 (by decide), q 17 (by decide), q 18 (by decide), q 19 (by decide), q 20 (by decide)⟩]
  · rfl
theorem cx_stp_10 {U : mo_S} {Qf : cx_Fn} {b m n j : Nat} (h : j ≠ n) : (cx_stp U Qf b m n).1 10 j = U.1 10 j := by
  unfold cx_stp cx_X5_forgetSwaps
  rw [cx_fl_ne (by decide)]
  split
  · unfold cx_X2_write
    rw [mo_up_ne (by decide), mo_up_ne (by decide), mo_up_ne (by decide), mo_up_ne (by decide), cx_run_10 h]
  · rfl
theorem cx_glR_ne {Qf : cx_Fn} {b m : Nat} {C : mo_S} : ∀ {n : Nat} {T : mo_S}, cx_glR Qf b m C n T → (∀ k, k ∉ cx_gX → T.1 k = C.1 k) ∧ ∀ j, n ≤ j → T.1 10 j = C.1 10 j
  | 0, T, h => by
    have h : T = C := h
    subst h
    exact ⟨fun _ _ => rfl, fun _ _ => rfl⟩
  | n + 1, T, h => by
    obtain ⟨U, h1, h2⟩ := h
    obtain ⟨a, c⟩ := cx_glR_ne h1
    refine ⟨fun k hk => ?_, fun j hj => ?_⟩
    · rw [h2 k (fun q => hk (by rw [List.mem_singleton.mp q]; decide)), cx_stp_ne hk, a k hk]
    · rw [h2 10 (by decide), cx_stp_10 (by omega), c j (by omega)]
theorem cx_fl_eqX {X : List Nat} {f : Nat} {e : Nat → Nat} {v : Int32} {U V : mo_S} (h : cx_eqX X U V) : ∀ {n : Nat}, cx_eqX X (cx_fl U f e v n) (cx_fl V f e v n)
  | 0 => h
  | n + 1 => (cx_fl_eqX h (n := n)).upB rfl
theorem cx_write_eqX {U V : mo_S} {m i : Nat} {x : Int32} (h : cx_eqX [123] U V) : cx_eqX [123] (cx_X2_write U m i x i) (cx_X2_write V m i x i) := by
  unfold cx_X2_write
  refine (((h.upB rfl).upB ?_).upB ?_).upB ?_
  · rw [mo_up_ne (by decide), mo_up_ne (by decide), h 13 (by decide)]
  · rw [mo_up_ne (by decide), mo_up_ne (by decide), mo_up_ne (by decide), mo_up_ne (by decide), h 10 (by decide)]
  · rw [mo_up_ne (by decide), mo_up_ne (by decide), mo_up_ne (by decide), mo_up_ne (by decide), mo_up_ne (by decide), mo_up_ne (by decide), h 9 (by decide)]
def cx_goR (C : mo_S) (Qf : cx_Fn) (w : Nat → Nat) (f L : Nat) (C2 : mo_S) : Prop := ∃ V T, cx_eqX [123, 124, 125] V (cx_go1 C) ∧ (∀ j, j < sp_P C → V.1 124 j = cx_sh (cx_go1 C) w f L (cx_now C) (C.1 109 (cx_now C)) j) ∧ cx_glR Qf (cx_now C) (cw_M C) (cx_go2 V (C.1 109 (cx_now C))) (sp_P C) T ∧ C2 = mo_up T 2 0 (T.1 2 0 + 1)
/-- what a month asks -/
def cx_gH (C : mo_S) (Pf Qf : cx_Fn) (w c : Nat → Nat) (f L : Nat) : Prop :=
  cx_cd C Pf Qf ∧ cx_pH (cx_go1 C) Pf Qf w c f L (cx_now C) (C.1 109 (cx_now C)) ∧ (C.1 2 0 = nI (cw_M C) ∧ cw_M C < 600) ∧ (∀ a, a < sp_A C → (C.1 63 a).toNatClampNeg < sp_P C) ∧ (∀ p, p < sp_P C → C.1 3 p = nI (C.1 3 p).toNatClampNeg ∧ (C.1 3 p).toNatClampNeg < 3) ∧ (∀ p, p < sp_P C → C.1 6 p = nI (C.1 6 p).toNatClampNeg ∧ 1 ≤ (C.1 6 p).toNatClampNeg ∧ (C.1 6 p).toNatClampNeg ≤ 1000) ∧ (C.1 24 0 = nI (sp_W C) ∧ sp_W C ≤ 5) ∧
  ∀ V, cx_eqX [123, 124, 125] V (cx_go1 C) → (∀ j, j < sp_P C → V.1 124 j = cx_sh (cx_go1 C) w f L (cx_now C) (C.1 109 (cx_now C)) j) → ∀ p, p < sp_P C → (cx_X11_giveReels (cx_X11_creditShares V (C.1 109 (cx_now C)))).1 10 p = nI ((cx_X11_giveReels (cx_X11_creditShares V (C.1 109 (cx_now C)))).1 10 p).toNatClampNeg ∧ ((cx_X11_giveReels (cx_X11_creditShares V (C.1 109 (cx_now C)))).1 10 p).toNatClampNeg ≤ 100000000
theorem c_X11_goBy {G : ev_G} {W : cw_W} {d D0 : Nat} {C : mo_S} {Pf Qf : cx_Fn} {w c : Nat → Nat} {f L : Nat} (hE : ev_En G) (h4 : ev_En4 G D0) (hd : 9 ≤ d) (hH : cx_gH C Pf Qf w c f L) : cw_R G W d 1 48 mX11_goBy [.ref (W 0 0)] C (fun o W2 C2 => (∀ k i, k ≠ 34 → W2 k i = W k i) ∧ o = .inl none ∧ cx_goR C Qf w f L C2) := by
  refine cw_startR (lv0 := [some (.ref (W 0 0)), none, none, none]) (by decide +kernel) rfl (Nat.le_of_ble_eq_true rfl) rfl ?_
  intro K g0 g hT
  obtain ⟨hc, hpH, hm, hA, hk, hpg, hW, hst⟩ := hH
  have hBP := hT.B.1
  generalize hb0 : cx_now C = b at *
  have hb : b < sp_O C ∨ b = 10 := by rw [← hb0]; exact cx_now_b C
  refine ev_aload_n dX11_goBy_0 rfl rfl ?_
  refine cw_call0 (d' := d - 1) hE hT dX11_goBy_1 rfl kX11_orderNow lX11_185 iX11_orderNow vX11_orderNow (k := 0) (i := 0) rfl ob0 rfl (Nat.le_of_ble_eq_true rfl) (by omega) (c_X11_orderNow hE (by omega)) (fun g hT => ?_)
  rw [hb0]
  refine ev_astore_n dX11_goBy_4 rfl (Nat.le_of_ble_eq_true rfl) rfl ?_
  refine ev_aload_n dX11_goBy_5 rfl rfl ?_
  refine cw_call0 (d' := d - 1) hE hT dX11_goBy_6 rfl kX11_takeGrants lX11_396 iX11_takeGrants vX11_takeGrants (k := 0) (i := 0) rfl ob0 rfl (Nat.le_of_ble_eq_true rfl) (by omega) (c_X11_takeGrants hE (by omega) hA) (fun g hT => ?_)
  have n1 : ∀ k, k ≠ 4 → (cx_X11_takeGrants C).1 k = C.1 k := fun k h => sp_gr_ne h _
  refine ev_aload_n dX11_goBy_9 rfl rfl ?_
  refine ev_aload_n dX11_goBy_10 rfl rfl ?_
  refine cw_getf hE hT dX11_goBy_11 fX11_209 (k := 28) (i := b) (cx_olI (by rw [sp_O_cg (n1 29 (by decide))]; exact hb)) ob28 rfl ?_
  refine cw_call1 (d' := d - 1) hE hT dX11_goBy_14 rfl kX11_admit lX11_399 iX11_admit vX11_admit (k := 0) (i := 0) rfl ob0 rfl (Nat.le_of_ble_eq_true rfl) (by omega) (c_X11_admit hE (by omega)) (fun g hT => ?_)
  have e1 : cx_X11_admit (cx_X11_takeGrants C) ((cx_X11_takeGrants C).1 104 b) = cx_go1 C := by unfold cx_go1; rw [hb0]
  rw [e1] at hT
  have n2 : ∀ k, k ≠ 4 → k ≠ 12 → (cx_go1 C).1 k = C.1 k := fun k h h2 => cx_go1_ne ⟨h, h2⟩
  refine ev_aload_n dX11_goBy_17 rfl rfl ?_
  refine ev_aload_n dX11_goBy_18 rfl rfl ?_
  refine ev_aload_n dX11_goBy_19 rfl rfl ?_
  refine cw_geti (v2 := C.1 109 b) hE hT dX11_goBy_20 fX11_221 (k := 28) (i := b) (cx_olI (by rw [sp_O_cg (n2 29 (by decide) (by decide))]; exact hb)) ob28 rfl (by rw [n2 109 (by decide) (by decide)]) ?_
  refine cw_callr2 (d' := d - 1) (b := 1) (n0 := 48) hE hT dX11_goBy_23 rfl kX11_partPool lX11_234 iX11_partPool vX11_partPool (k := 0) (i := 0) rfl ob0 rfl (Nat.le_of_ble_eq_true rfl) (by omega) (c_X11_partPool (d := d - 1) hE h4 (by omega) hpH) (Nat.le_refl _) (Nat.le_refl _) (fun v9 W9 V g q9 hT => ?_) (fun E W2 C2 g q9 _ => by cases q9.2.1)
  obtain ⟨e8, e9, hv1, hv2⟩ := q9
  have e7 := e8.symm
  subst e7
  cases e9
  have eP1 : sp_P (cx_go1 C) = sp_P C := sp_P_cg (n2 1 (by decide) (by decide))
  rw [eP1] at hv2
  have n3 : ∀ k, k ≠ 4 → k ≠ 12 → k ∉ [123, 124, 125] → V.1 k = C.1 k := fun k h h2 h3 => (hv1 k h3).trans (n2 k h h2)
  refine ev_aload_n dX11_goBy_26 rfl rfl ?_
  refine ev_aload_n dX11_goBy_27 rfl rfl ?_
  refine cw_geti (v2 := C.1 109 b) hE hT dX11_goBy_28 fX11_221 (k := 28) (i := b) (cx_olI (by rw [sp_O_cg (n3 29 (by decide) (by decide) (by decide))]; exact hb)) ob28 rfl (by rw [n3 109 (by decide) (by decide) (by decide)]) ?_
  refine cw_call1 (d' := d - 1) hE hT dX11_goBy_31 rfl kX11_creditShares lX11_402 iX11_creditShares vX11_creditShares (k := 0) (i := 0) rfl ob0 rfl (Nat.le_of_ble_eq_true rfl) (by omega) (c_X11_creditShares hE (by omega)) (fun g hT => ?_)
  refine ev_aload_n dX11_goBy_34 rfl rfl ?_
  refine cw_call0 (d' := d - 1) hE hT dX11_goBy_35 rfl kX11_giveReels lX11_405 iX11_giveReels vX11_giveReels (k := 0) (i := 0) rfl ob0 rfl (Nat.le_of_ble_eq_true rfl) (by omega) (c_X11_giveReels hE (by omega)) (fun g hT => ?_)
  have hs5 := hst V hv1 hv2
  have n4 : ∀ k, k ≠ 4 → k ≠ 12 → k ∉ [123, 124, 125] → k ≠ 9 → k ≠ 10 → k ≠ 11 → k ≠ 14 → k ≠ 15 → k ≠ 23 → (cx_X11_giveReels (cx_X11_creditShares V (C.1 109 b))).1 k = C.1 k := fun k h h2 h3 a1 a2 a3 a4 a5 a6 => (cx_hand_ne ⟨a1, a2, a3, a4, a5, a6⟩).trans (n3 k h h2 h3)
  have eM4 : cw_M (cx_X11_giveReels (cx_X11_creditShares V (C.1 109 b))) = cw_M C := congrArg Int32.toNatClampNeg (congrFun (n4 134 (by decide) (by decide) (by decide) (by decide) (by decide) (by decide) (by decide) (by decide) (by decide)) 0)
  have e24 := congrFun (n4 2 (by decide) (by decide) (by decide) (by decide) (by decide) (by decide) (by decide) (by decide) (by decide)) 0
  refine ev_aload_n dX11_goBy_38 rfl rfl ?_
  refine cw_getf hE hT dX11_goBy_39 fX11_69 (k := 0) (i := 0) rfl ob0 rfl ?_
  refine ev_aload_n dX11_goBy_42 rfl rfl ?_
  refine cw_geti (v2 := nI (cw_M (cx_X11_giveReels (cx_X11_creditShares V (C.1 109 b))))) hE hT dX11_goBy_43 fX11_33 (k := 0) (i := 0) rfl ob0 rfl (by rw [eM4, e24]; exact hm.1) ?_
  refine cw_callr1 (d' := d - 1) (b := 0) (n0 := 0) hE hT dX11_goBy_46 rfl kX2_open lX11_408 iX2_open vX2_open (k := 13) (i := 0) rfl ob13 rfl (Nat.le_of_ble_eq_true rfl) (by omega) (c_X2_open (d := d - 1) hE h4 (by omega) (fun a ha => ?_) (by rw [eM4]; exact hm.2)) (Nat.le_refl _) (Nat.le_refl _) (fun v9 W9 C9 g q9 hT => ?_) (fun E W2 C2 g q9 _ => by cases q9.2.1)
  · rw [n4 63 (by decide) (by decide) (by decide) (by decide) (by decide) (by decide) (by decide) (by decide) (by decide), sp_P_cg (n4 1 (by decide) (by decide) (by decide) (by decide) (by decide) (by decide) (by decide) (by decide) (by decide))]
    exact hA a (by rw [sp_A_cg (n4 62 (by decide) (by decide) (by decide) (by decide) (by decide) (by decide) (by decide) (by decide) (by decide))] at ha; exact ha)
  obtain ⟨⟨y, e8⟩, e9, e6⟩ := q9
  cases e9
  have hWW : ∀ k i, k ≠ 34 → W9 k i = W k i := fun k i h => by rw [e8]; exact if_neg (fun z => h z.1)
  have w00 := hWW 0 0 (by decide)
  have w28 := hWW 28 b (by decide)
  rw [← w00, ← w28]
  have e6' : C9 = cx_go2 V (C.1 109 b) := e6
  subst e6'
  clear e6
  have eM5 : cw_M (cx_go2 V (C.1 109 b)) = cw_M C + 1 := by
    unfold cx_go2
    rw [cx_open_M (by rw [eM4]; exact hm.2), eM4]
  have n5 : ∀ k, k ≠ 4 → k ≠ 12 → k ∉ [123, 124, 125] → k ≠ 9 → k ≠ 10 → k ≠ 11 → k ≠ 14 → k ≠ 15 → k ≠ 23 → k ≠ 126 → k ≠ 134 → (cx_go2 V (C.1 109 b)).1 k = C.1 k := fun k h h2 h3 a1 a2 a3 a4 a5 a6 a7 a8 => (cx_go2_ne ⟨a1, a2, a3, a4, a5, a6⟩ a7 a8).trans (n3 k h h2 h3)
  refine ev_iconst (v := 0) dX11_goBy_49 (by decide) ?_
  refine ev_istore_n dX11_goBy_50 rfl (Nat.le_of_ble_eq_true rfl) rfl ?_
  have loop : ∀ (n i : Nat), i ≤ sp_P C → sp_P C < i + n → ∀ (T : mo_S) g, cx_glR Qf b (cw_M C) (cx_go2 V (C.1 109 b)) i T → cw_T G K g0 W9 g T → ev_V G d 0 0 mX11_goBy (fun o g' => ∃ W2 C2, ((∀ k i, k ≠ 34 → W2 k i = W k i) ∧ o = .inl none ∧ cx_goR C Qf w f L C2) ∧ cw_T G K g0 W2 g' C2) g 51 [some (.ref (W9 0 0)), some (.ref (W9 28 b)), some (.int (nI i)), none] [] := by
    intro n
    induction n with
    | zero => intro i h1 h2; exact absurd h2 (by omega)
    | succ n ih =>
      intro i h1 h2 T g hx hT
      obtain ⟨hne, h10⟩ := cx_glR_ne hx
      have nT : ∀ k, k ∉ [4, 9, 10, 11, 12, 13, 14, 15, 16, 17, 18, 19, 20, 23, 58, 123, 124, 125, 126, 134] → T.1 k = C.1 k := fun k h => by
        have q : ∀ f, f ∈ [4, 9, 10, 11, 12, 13, 14, 15, 16, 17, 18, 19, 20, 23, 58, 123, 124, 125, 126, 134] → k ≠ f := fun f hf e => h (e ▸ hf)
        rw [hne k (fun z => h (by revert z; simp [cx_gX]; omega))]
        exact n5 k (q 4 (by decide)) (q 12 (by decide)) (fun z => h (by revert z; simp; omega)) (q 9 (by decide)) (q 10 (by decide)) (q 11 (by decide)) (q 14 (by decide)) (q 15 (by decide)) (q 23 (by decide)) (q 126 (by decide)) (q 134 (by decide))
      have eP : sp_P T = sp_P C := sp_P_cg (nT 1 (by decide))
      have hP9 : T.1 1 0 = nI (sp_P C) := by rw [nT 1 (by decide)]; exact hBP.1
      have e2 : T.1 2 0 = nI (cw_M C) := by rw [nT 2 (by decide)]; exact hm.1
      refine ev_iload_n dX11_goBy_51 rfl rfl ?_
      refine ev_aload_n dX11_goBy_52 rfl rfl ?_
      refine cw_getf hE hT dX11_goBy_53 fX11_10 (k := 0) (i := 0) rfl ob0 rfl ?_
      refine cw_size (l := 0) (v := T.1 1 0) hE hT dX11_goBy_56 lX11_89 (by decide) (Nat.le_of_ble_eq_true rfl) (by omega) rfl ?_
      refine ev_icmp_ge (tgt := 118) dX11_goBy_59 (by decide) (fun c_59 => ?_) (fun c_59 => ?_)
      · have e : i = sp_P C := by have := mo_ige hP9 (by omega) (by omega) c_59; omega
        subst e
        refine ev_aload_n dX11_goBy_118 rfl rfl ?_
        refine ev_dup dX11_goBy_119 rfl ?_
        refine cw_getf hE hT dX11_goBy_120 fX11_33 (k := 0) (i := 0) rfl ob0 rfl ?_
        refine ev_iconst (v := 1) dX11_goBy_123 (by decide) ?_
        refine ev_iadd dX11_goBy_124 ?_
        refine cw_putf (k := 0) (i := 0) (f := 2) (x := 0) hE hT dX11_goBy_125 pX11_33 rfl ob0 (Nat.le_of_ble_eq_true rfl) rfl rfl rfl (by decide) (by decide) pu0_6 (fun g hT => ?_)
        exact ev_vret dX11_goBy_128 rfl ⟨W9, _, ⟨hWW, rfl, V, T, hv1, by rw [hb0]; exact hv2, by rw [hb0]; exact hx, rfl⟩, hT⟩
      · have hi : i < sp_P C := mo_ilt hP9 (by omega) (by omega) c_59
        have hi8 : i < sp_P T := by rw [eP]; exact hi
        refine ev_aload_n dX11_goBy_62 rfl rfl ?_
        refine cw_getf hE hT dX11_goBy_63 fX11_10 (k := 0) (i := 0) rfl ob0 rfl ?_
        refine ev_iload_n dX11_goBy_66 rfl rfl ?_
        refine cw_get (l := 0) (q := i) hE hT dX11_goBy_67 lX11_138 (by decide) rfl hi8 (Nat.le_of_ble_eq_true rfl) (by omega) ?_
        refine ev_cast hE dX11_goBy_70 lkX11_100 ((hT.at (k := 20) (i := i) hi8).1 _ _ ob20) rfl ?_
        refine ev_astore_n dX11_goBy_73 rfl (Nat.le_of_ble_eq_true rfl) rfl ?_
        refine ev_aload_n dX11_goBy_74 rfl rfl ?_
        refine cw_call0 (d' := d - 1) hE hT dX11_goBy_75 rfl kX5_isAdmitted lX11_224 iX5_isAdmitted vX5_isAdmitted (k := 20) (i := i) hi8 ob20 rfl (Nat.le_of_ble_eq_true rfl) (by omega) (c_X5_isAdmitted hE hi8) (fun g hT => ?_)
        have fin : ∀ (U : mo_S) g, cx_eqX [123] U (if cx_I T i = true then cx_X2_write (cx_run T Qf b i) (cw_M C) i (T.1 124 i) i else T) → i < sp_P U → cw_T G K g0 W9 g U → ev_V G d 0 0 mX11_goBy (fun o g' => ∃ W2 C2, ((∀ k i, k ≠ 34 → W2 k i = W k i) ∧ o = .inl none ∧ cx_goR C Qf w f L C2) ∧ cw_T G K g0 W2 g' C2) g 108 [some (.ref (W9 0 0)), some (.ref (W9 28 b)), some (.int (nI i)), some (.ref (W9 20 i))] [] := by
          intro U g hU hiU hT
          refine ev_aload_n dX11_goBy_108 rfl rfl ?_
          refine cw_call0 (d' := d - 1) hE hT dX11_goBy_109 rfl kX5_forgetSwaps lX11_419 iX5_forgetSwaps vX5_forgetSwaps (k := 20) (i := i) hiU ob20 rfl (Nat.le_of_ble_eq_true rfl) (by omega) (c_X5_forgetSwaps hE (by omega) hiU) (fun g hT => ?_)
          refine ev_iinc (v := nI (i + 1)) dX11_goBy_112 rfl (nI_1 i) rfl ?_
          refine ev_goto (tgt := 51) dX11_goBy_115 (by decide) ?_
          refine ev_none 3 ?_
          exact ih (i + 1) (by omega) (by omega) _ g ⟨T, hx, cx_fl_eqX hU⟩ hT
        refine ev_if_eq (tgt := 108) dX11_goBy_78 (by decide) (fun c_78 => ?_) (fun c_78 => ?_)
        · exact fin T g (by rw [if_neg (cl_I0 rfl c_78)]; exact cx_eqX.r T) hi8 hT
        · have hb9 : b < sp_O T ∨ b = 10 := by rw [sp_O_cg (nT 29 (by decide))]; exact hb
          have hc9 : cx_cd T Pf Qf := hc.cg (nT 29 (by decide)) (nT 110 (by decide)) (nT 111 (by decide)) (nT 112 (by decide)) (nT 113 (by decide)) (nT 114 (by decide))
          have h10i : T.1 10 i = (cx_X11_giveReels (cx_X11_creditShares V (C.1 109 b))).1 10 i := by rw [h10 i (Nat.le_refl _), cx_go2_10]
          have eW : sp_W T = sp_W C := congrArg Int32.toNatClampNeg (congrFun (nT 24 (by decide)) 0)
          refine ev_aload_n dX11_goBy_81 rfl rfl ?_
          refine ev_aload_n dX11_goBy_82 rfl rfl ?_
          refine ev_aload_n dX11_goBy_83 rfl rfl ?_
          refine cw_callr2 (d' := d - 1) (b := 0) (n0 := 0) hE hT dX11_goBy_84 rfl kX11_runMonth lX11_411 iX11_runMonth vX11_runMonth (k := 0) (i := 0) rfl ob0 rfl (Nat.le_of_ble_eq_true rfl) (by omega) (c_X11_runMonth (d := d - 1) hE h4 (by omega) hc9 hb9 hi8 (by rw [nT 3 (by decide)]; exact hk i hi) (by rw [h10i]; exact hs5 i hi) (by rw [nT 6 (by decide)]; exact hpg i hi) (by rw [nT 24 (by decide), eW]; exact hW.1) (by rw [eW]; exact hW.2)) (Nat.le_refl _) (Nat.le_refl _) (fun v9 W8 U g q9 hT => ?_) (fun E W2 C2 g q9 _ => by cases q9.2.1)
          obtain ⟨e8, e9, hu⟩ := q9
          have e7 := e8.symm
          subst e7
          cases e9
          have nU : ∀ k, k ∉ [4, 9, 10, 11, 12, 13, 14, 15, 16, 17, 18, 19, 20, 23, 58, 123, 124, 125, 126, 134] → U.1 k = C.1 k := fun k h => by
            have q : ∀ f, f ∈ [4, 9, 10, 11, 12, 13, 14, 15, 16, 17, 18, 19, 20, 23, 58, 123, 124, 125, 126, 134] → k ≠ f := fun f hf e => h (e ▸ hf)
            rw [hu k (fun z => q 123 (by decide) (List.mem_singleton.mp z)), cx_run_ne ⟨q 9 (by decide), q 10 (by decide), q 13 (by decide), q 16 (by decide), q 17 (by decide), q 18 (by decide), q 19 (by decide), q 20 (by decide)⟩]
            exact nT k h
          have ePU : sp_P U = sp_P C := sp_P_cg (nU 1 (by decide))
          have hiU : i < sp_P U := by rw [ePU]; exact hi
          have eMU : cw_M U = cw_M C + 1 := by
            have a : U.1 134 = T.1 134 := by rw [hu 134 (by decide), cx_run_ne (by decide)]
            have b9 : T.1 134 = (cx_go2 V (C.1 109 b)).1 134 := hne 134 (by decide)
            rw [← eM5]
            exact congrArg Int32.toNatClampNeg (congrFun (a.trans b9) 0)
          refine ev_aload_n dX11_goBy_87 rfl rfl ?_
          refine cw_getf hE hT dX11_goBy_88 fX11_69 (k := 0) (i := 0) rfl ob0 rfl ?_
          refine ev_aload_n dX11_goBy_91 rfl rfl ?_
          refine cw_geti (v2 := nI (cw_M C)) hE hT dX11_goBy_92 fX11_33 (k := 0) (i := 0) rfl ob0 rfl (by rw [nU 2 (by decide)]; exact hm.1) ?_
          refine ev_iload_n dX11_goBy_95 rfl rfl ?_
          refine ev_aload_n dX11_goBy_96 rfl rfl ?_
          refine cw_getf hE hT dX11_goBy_97 fX11_62 (k := 0) (i := 0) rfl ob0 rfl ?_
          refine ev_iload_n dX11_goBy_100 rfl rfl ?_
          refine cw_call1 (d' := d - 1) hE hT dX11_goBy_101 rfl kX6_shareOf lX11_238 iX6_shareOf vX6_shareOf (k := 9) (i := 0) rfl ob9 rfl (Nat.le_of_ble_eq_true rfl) (by omega) (c_X6_shareOf hE (by omega)) (fun g hT => ?_)
          refine ev_aload_n dX11_goBy_104 rfl rfl ?_
          refine cw_call4 (d' := d - 1) hE hT dX11_goBy_105 rfl kX2_write lX11_415 iX2_write vX2_write (k := 13) (i := 0) rfl ob13 rfl (Nat.le_of_ble_eq_true rfl) (by omega) (c_X2_write hE (by omega) (by omega) (by omega) hiU) (fun g hT => ?_)
          refine fin (cx_X2_write U (cw_M C) i (cx_X6_shareOf U i) i) g ?_ (lvP hiU (by unfold cx_X2_write; rw [mo_up_ne (by decide), mo_up_ne (by decide), mo_up_ne (by decide), mo_up_ne (by decide)])) hT
          rw [if_pos (cl_I1 rfl c_78), show cx_X6_shareOf U i = T.1 124 i by rw [cx_share_eq (by omega), hu 124 (by decide), cx_run_ne (by decide)]]
          exact cx_write_eqX hu
  exact loop (sp_P C + 1) 0 (by omega) (by omega) _ g rfl hT
theorem ev_room {G : ev_G} {d bc bs b n : Nat} {M : ev_M} {Post : ev_P} {g : ev_H} {pc : Nat} {lv : List (Option Value)} {st : List Value} (hb : b ≤ bc) (hn : n ≤ bs) (k : ev_V G d b n M Post g pc lv st) : ev_V G d bc bs M Post g pc lv st :=
  fun p e s m args below meth c H locs cells slots mc ms ls hC hR hS hc hs hl => k p e s m args below meth c H locs cells slots mc ms ls hC hR hS (by omega) (by omega) hl
/-- n months go by -/
def cx_goN (Qf : cx_Fn) (wf : mo_S → Nat → Nat) (ff Lf : mo_S → Nat) (C : mo_S) : Nat → mo_S → Prop
  | 0, T => T = C
  | n + 1, T => ∃ U, cx_goN Qf wf ff Lf C n U ∧ cx_goR U Qf (wf U) (ff U) (Lf U) T
theorem c_X11_months_ok {G : ev_G} {W : cw_W} {d D0 : Nat} {C : mo_S} {n : Nat} {Pf Qf : cx_Fn} {wf cf : mo_S → Nat → Nat} {ff Lf : mo_S → Nat} (hE : ev_En G) (h4 : ev_En4 G D0) (hd : 10 ≤ d) (hn : n ≤ 24) (hm : C.1 2 0 = nI (cw_M C) ∧ cw_M C + n ≤ 600) (hH : ∀ i U, i < n → cx_goN Qf wf ff Lf C i U → cx_gH U Pf Qf (wf U) (cf U) (ff U) (Lf U)) : cw_R G W d 24 1152 mX11_months [.ref (W 0 0), .int (nI n)] C (fun o W2 C2 => (∀ k i, k ≠ 34 → W2 k i = W k i) ∧ o = .inl (some (.int (C2.1 2 0))) ∧ cx_goN Qf wf ff Lf C n C2) := by
  refine cw_startR (lv0 := [some (.ref (W 0 0)), some (.int (nI n)), none]) (by decide +kernel) rfl (Nat.le_of_ble_eq_true rfl) rfl ?_
  intro K g0 g hT
  refine ev_iload_n dX11_months_0 rfl rfl ?_
  refine ev_iconst (v := 0) dX11_months_1 (by decide) ?_
  refine ev_bipush (v := 24) dX11_months_2 (by decide) ?_
  refine ev_pS3 (d' := d - 1) dX11_months_4 rfl kX11_within lX11_80 sX11_within (Nat.le_of_ble_eq_true rfl) (by omega) c_X11_within ?_
  have hw : cx_X11_within (nI n) 0 24 = true := by
    rw [cx_within_in]
    exact decide_eq_true ⟨Int32.not_lt.mp (nI_pos (by omega)), nI_le (b := 24) hn (by decide)⟩
  refine cw_need hE h4 rfl dX11_months_7 lX11_85 (Nat.le_of_ble_eq_true rfl) (by omega) (by decide) (by decide) (fun c => absurd c (by rw [hw]; decide)) (fun _ => ?_)
  refine ev_aload_n dX11_months_10 rfl rfl ?_
  refine cw_geti (v2 := nI (cw_M C)) hE hT dX11_months_11 fX11_33 (k := 0) (i := 0) rfl ob0 rfl hm.1 ?_
  refine ev_iload_n dX11_months_14 rfl rfl ?_
  refine ev_iadd dX11_months_15 ?_
  rw [nI_add]
  refine ev_sipush (v := 600) dX11_months_16 (by decide) ?_
  refine ev_icmp_le (tgt := 32) dX11_months_19 (by decide) (fun _ => ?_) (fun c => absurd (nI_le (b := 600) hm.2 (by decide)) c)
  refine ev_iconst (v := 0) dX11_months_32 (by decide) ?_
  refine ev_istore_n dX11_months_33 rfl (Nat.le_of_ble_eq_true rfl) rfl ?_
  have loop : ∀ (m i : Nat), i + m = n → ∀ (W2 : cw_W) (T : mo_S) (g : ev_H), (∀ k i, k ≠ 34 → W2 k i = W k i) → cx_goN Qf wf ff Lf C i T → cw_T G K g0 W2 g T → ev_V G d m (48 * m) mX11_months (fun o g' => ∃ W2 C2, ((∀ k i, k ≠ 34 → W2 k i = W k i) ∧ o = .inl (some (.int (C2.1 2 0))) ∧ cx_goN Qf wf ff Lf C n C2) ∧ cw_T G K g0 W2 g' C2) g 34 [some (.ref (W 0 0)), some (.int (nI n)), some (.int (nI i))] [] := by
    intro m
    induction m with
    | zero =>
      intro i hi W2 T g hW hx hT
      have hi : i = n := by omega
      subst hi
      refine ev_iload_n dX11_months_34 rfl rfl ?_
      refine ev_iload_n dX11_months_35 rfl rfl ?_
      refine ev_icmp_ge (tgt := 49) dX11_months_36 (by decide) (fun _ => ?_) (fun c => absurd (nI_le (Nat.le_refl _) (by omega)) c)
      rw [← hW 0 0 (by decide)]
      refine ev_aload_n dX11_months_49 rfl rfl ?_
      refine cw_getf hE hT dX11_months_50 fX11_33 (k := 0) (i := 0) rfl ob0 rfl ?_
      exact ev_iret dX11_months_53 rfl rfl ⟨W2, T, ⟨hW, rfl, hx⟩, hT⟩
    | succ m ih =>
      intro i hi W2 T g hW hx hT
      refine ev_iload_n dX11_months_34 rfl rfl ?_
      refine ev_iload_n dX11_months_35 rfl rfl ?_
      refine ev_icmp_ge (tgt := 49) dX11_months_36 (by decide) (fun c => absurd c (nI_ge (by omega) (by omega))) (fun _ => ?_)
      refine ev_aload_n dX11_months_39 rfl rfl ?_
      rw [← hW 0 0 (by decide)]
      refine cw_callr0 (d' := d - 1) (b := m) (n0 := 48 * m) hE hT dX11_months_40 rfl kX11_goBy lX11_243 iX11_goBy vX11_goBy (k := 0) (i := 0) rfl ob0 rfl (Nat.le_of_ble_eq_true rfl) (by omega) (c_X11_goBy (d := d - 1) hE h4 (by omega) (hH i T (by omega) hx)) (by omega) (by omega) (fun v9 W9 C9 g q9 hT => ?_) (fun E W2 C2 g q9 _ => by cases q9.2.1)
      obtain ⟨e8, e9, hg⟩ := q9
      cases e9
      rw [hW 0 0 (by decide)]
      refine ev_iinc (v := nI (i + 1)) dX11_months_43 rfl (nI_1 i) rfl ?_
      refine ev_goto (tgt := 34) dX11_months_46 (by decide) ?_
      exact ih (i + 1) (by omega) W9 C9 g (fun k j h => (e8 k j h).trans (hW k j h)) ⟨T, hx, hg⟩ hT
  refine ev_room (b := n) (n := 48 * n) (by omega) (by omega) ?_
  exact loop n 0 (by omega) W C g (fun _ _ _ => rfl) rfl hT
theorem c_X11_months_bad {G : ev_G} {W : cw_W} {d D0 : Nat} {C : mo_S} {x1 : Int32} (hE : ev_En G) (h4 : ev_En4 G D0) (hd : 7 ≤ d) (hb : sp_in x1 0 24 = false ∨ 600 < C.1 2 0 + x1) : cw_R G W d 1 8 mX11_months [.ref (W 0 0), .int x1] C (fun o W2 C2 => W2 = W ∧ C2 = C ∧ o = .inr (if sp_in x1 0 24 = false then "java/lang/IllegalArgumentException" else "java/lang/IllegalStateException")) := by
  refine cw_startR (lv0 := [some (.ref (W 0 0)), some (.int x1), none]) (by decide +kernel) rfl (Nat.le_of_ble_eq_true rfl) rfl ?_
  intro K g0 g hT
  refine ev_iload_n dX11_months_0 rfl rfl ?_
  refine ev_iconst (v := 0) dX11_months_1 (by decide) ?_
  refine ev_bipush (v := 24) dX11_months_2 (by decide) ?_
  refine ev_pS3 (d' := d - 1) dX11_months_4 rfl kX11_within lX11_80 sX11_within (Nat.le_of_ble_eq_true rfl) (by omega) c_X11_within ?_
  rw [cx_within_in]
  refine cw_need hE h4 rfl dX11_months_7 lX11_85 (Nat.le_of_ble_eq_true rfl) (by omega) (by decide) (by decide) (fun c => ⟨W, C, ⟨rfl, rfl, ?_⟩, hT⟩) (fun c => ?_)
  · rw [if_pos (by cases h : sp_in x1 0 24 with
      | false => rfl
      | true => rw [h] at c; exact absurd c (by decide))]
  · have h1 := mo_b1 c
    have h2 : 600 < C.1 2 0 + x1 := hb.resolve_left (by rw [h1]; decide)
    refine ev_aload_n dX11_months_10 rfl rfl ?_
    refine cw_getf hE hT dX11_months_11 fX11_33 (k := 0) (i := 0) rfl ob0 rfl ?_
    refine ev_iload_n dX11_months_14 rfl rfl ?_
    refine ev_iadd dX11_months_15 ?_
    refine ev_sipush (v := 600) dX11_months_16 (by decide) ?_
    refine ev_icmp_le (tgt := 32) dX11_months_19 (by decide) (fun c => absurd h2 (Int32.not_lt.mpr c)) (fun _ => ?_)
    refine ev_throwS hE h4 rfl rfl dX11_months_22 dX11_months_25 dX11_months_26 dX11_months_28 dX11_months_31 (by decide) lkX11_93 ini_IllegalStateException ev_th_97 (by decide +kernel) (by decide +kernel) (by omega) (Nat.le_of_ble_eq_true rfl) (by decide) (by decide) ⟨W, C, ⟨rfl, rfl, ?_⟩, hT⟩
    rw [if_neg (by rw [h1]; decide)]
end CK
