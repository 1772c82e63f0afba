section PB
theorem cl_in_ok {x y : Int32} {n N : Nat} (h : y = nI n) (hn : n ≤ N) (hN : N < 2147483648) (h0 : ¬ x < 0) (h1 : x < y) : sp_in x 0 (y - 1) = true := by
  unfold sp_in
  refine decide_eq_true ⟨Int32.not_lt.mp h0, ?_⟩
  have hp : 0 < n := by
    rcases Nat.eq_zero_or_pos n with q | q
    · subst q
      subst h
      exact absurd h1 h0
    · exact q
  obtain ⟨m, rfl⟩ : ∃ m, n = m + 1 := ⟨n - 1, by omega⟩
  subst h
  rw [cx_s1]
  have a := Int32.lt_iff_toInt_lt.mp h1
  rw [nI_toInt (by omega)] at a
  refine Int32.le_iff_toInt_le.mpr ?_
  rw [nI_toInt (by omega)]
  omega
theorem cl_in_n {x y : Int32} {n N : Nat} (h : y = nI n) (hn : n ≤ N) (hN : N < 2147483648) (hx : sp_in x 0 (y - 1) = true) : x = nI x.toNatClampNeg ∧ x.toNatClampNeg < n := by
  obtain ⟨h0, h1⟩ := of_decide_eq_true hx
  have b0 := Int32.le_iff_toInt_le.mp h0
  have b1 := Int32.le_iff_toInt_le.mp h1
  rw [show (0 : Int32).toInt = 0 from rfl] at b0
  have hp : 0 < n := by
    rcases Nat.eq_zero_or_pos n with q | q
    · subst q
      subst h
      rw [show (nI 0 - 1).toInt = -1 by decide] at b1
      omega
    · exact q
  obtain ⟨m, rfl⟩ : ∃ m, n = m + 1 := ⟨n - 1, by omega⟩
  subst h
  rw [cx_s1, nI_toInt (by omega)] at b1
  have e : x.toNatClampNeg = x.toInt.toNat := rfl
  refine ⟨?_, by omega⟩
  apply Int32.toInt_inj.mp
  rw [nI_toInt (by omega), e]
  omega
theorem c_X11_need_ok {G : ev_G} {d : Nat} {g : ev_H} {x : Int32} (hx : ¬ x = 0) : ev_Cp G d mX11_need [.int x] g none := by
  refine ev_start (lv0 := [some (.int x)]) (by decide +kernel) rfl (Nat.le_of_ble_eq_true rfl) rfl ?_
  refine ev_iload_n dX11_need_0 rfl rfl ?_
  refine ev_if_ne (tgt := 15) dX11_need_1 (by decide) (fun _ => ?_) (fun c => absurd c hx)
  exact ev_vret dX11_need_15 rfl ⟨rfl, rfl⟩
theorem c_X11_need_bad {G : ev_G} {d D0 : Nat} {g : ev_H} (hE : ev_En G) (h4 : ev_En4 G D0) (hd : 6 ≤ d) : ev_C G d 1 6 mX11_need [.int 0] g (fun o g' => o = .inr "java/lang/IllegalArgumentException" ∧ g' = g) := by
  refine ev_start (lv0 := [some (.int 0)]) (by decide +kernel) rfl (Nat.le_of_ble_eq_true rfl) rfl ?_
  refine ev_iload_n dX11_need_0 rfl rfl ?_
  refine ev_if_ne (tgt := 15) dX11_need_1 (by decide) (fun c => absurd rfl c) (fun _ => ?_)
  exact ev_throwW hE h4 rfl rfl dX11_need_4 dX11_need_7 dX11_need_8 dX11_need_11 dX11_need_14 (by decide) lkX11_340 ini_IllegalArgumentException ev_th_344 (by decide +kernel) (by decide +kernel) hd (Nat.le_of_ble_eq_true rfl) (by decide) (by decide) ⟨rfl, rfl⟩
theorem c_X11_paperAt_ok {G : ev_G} {W : cw_W} {d : Nat} {C : mo_S} {q : Nat} (hE : ev_En G) (hd : 4 ≤ d) (hq : q < sp_P C) : cw_C G W d mX11_paperAt [.ref (W 0 0), .int (nI q)] C (some (.ref (W 20 q))) C := by
  refine cw_start (lv0 := [some (.ref (W 0 0)), some (.int (nI q))]) (by decide +kernel) rfl (Nat.le_of_ble_eq_true rfl) rfl ?_
  intro K g0 g hT
  obtain ⟨hBP, hBR, hBO, hBA, hBM, hBc, hBl⟩ := id hT.B
  refine ev_iload_n dX11_paperAt_0 rfl rfl ?_
  refine ev_if_lt (tgt := 15) dX11_paperAt_1 (by decide) (fun c => absurd c (nI_pos (by omega))) (fun _ => ?_)
  refine ev_iload_n dX11_paperAt_4 rfl rfl ?_
  refine ev_aload_n dX11_paperAt_5 rfl rfl ?_
  refine cw_getf hE hT dX11_paperAt_6 fX11_10 (k := 0) (i := 0) rfl ob0 rfl ?_
  refine cw_size (l := 0) (v := C.1 1 0) hE hT dX11_paperAt_9 lX11_89 (by decide) (Nat.le_of_ble_eq_true rfl) (by omega) rfl ?_
  refine ev_icmp_lt (tgt := 26) dX11_paperAt_12 (by decide) (fun c_12 => ?_) (fun c_12 => absurd (by rw [hBP.1]; exact nI_lt hq (by omega)) c_12)
  refine ev_aload_n dX11_paperAt_26 rfl rfl ?_
  refine cw_getf hE hT dX11_paperAt_27 fX11_10 (k := 0) (i := 0) rfl ob0 rfl ?_
  refine ev_iload_n dX11_paperAt_30 rfl rfl ?_
  refine cw_get (l := 0) (q := q) hE hT dX11_paperAt_31 lX11_138 (by decide) rfl hq (Nat.le_of_ble_eq_true rfl) (by omega) ?_
  refine ev_cast hE dX11_paperAt_34 lkX11_100 ((hT.at (k := 20) (i := q) hq).1 _ _ ob20) rfl ?_
  exact ev_aret dX11_paperAt_37 rfl (Or.inl ⟨_, rfl⟩) (Or.inr ⟨_, rfl⟩) ⟨rfl, hT⟩
theorem c_X11_paperAt_bad {G : ev_G} {W : cw_W} {d D0 : Nat} {C : mo_S} {x : Int32} (hE : ev_En G) (h4 : ev_En4 G D0) (hd : 6 ≤ d) (hx : sp_in x 0 (C.1 1 0 - 1) = false) : cw_R G W d 1 6 mX11_paperAt [.ref (W 0 0), .int x] C (fun o W2 C2 => o = .inr "java/lang/IndexOutOfBoundsException" ∧ W2 = W ∧ C2 = C) := by
  refine cw_startR (lv0 := [some (.ref (W 0 0)), some (.int x)]) (by decide +kernel) rfl (Nat.le_of_ble_eq_true rfl) rfl ?_
  intro K g0 g hT
  obtain ⟨hBP, hBR, hBO, hBA, hBM, hBc, hBl⟩ := id hT.B
  have K_15 : ev_V G d 1 6 mX11_paperAt (fun o g' => ∃ W2 C2, (o = .inr "java/lang/IndexOutOfBoundsException" ∧ W2 = W ∧ C2 = C) ∧ cw_T G K g0 W2 g' C2) g 15 [some (.ref (W 0 0)), some (.int x)] [] :=
    ev_throwW hE h4 rfl rfl dX11_paperAt_15 dX11_paperAt_18 dX11_paperAt_19 dX11_paperAt_22 dX11_paperAt_25 (by decide) lkX11_156 ini_IndexOutOfBoundsException ev_th_160 (by decide +kernel) (by decide +kernel) hd (Nat.le_of_ble_eq_true rfl) (by decide) (by decide) ⟨W, C, ⟨rfl, rfl, rfl⟩, hT⟩
  refine ev_iload_n dX11_paperAt_0 rfl rfl ?_
  refine ev_if_lt (tgt := 15) dX11_paperAt_1 (by decide) (fun _ => K_15) (fun c_1 => ?_)
  refine ev_iload_n dX11_paperAt_4 rfl rfl ?_
  refine ev_aload_n dX11_paperAt_5 rfl rfl ?_
  refine cw_getf hE hT dX11_paperAt_6 fX11_10 (k := 0) (i := 0) rfl ob0 rfl ?_
  refine cw_size (l := 0) (v := C.1 1 0) hE hT dX11_paperAt_9 lX11_89 (by decide) (Nat.le_of_ble_eq_true rfl) (by omega) rfl ?_
  refine ev_icmp_lt (tgt := 26) dX11_paperAt_12 (by decide) (fun c_12 => ?_) (fun _ => K_15)
  exact absurd hx (by rw [cl_in_ok hBP.1 hBP.2 (by decide) c_1 c_12]; decide)
theorem c_X11_reelAt_ok {G : ev_G} {W : cw_W} {d : Nat} {C : mo_S} {q : Nat} (hE : ev_En G) (hd : 4 ≤ d) (hq : q < sp_R C) : cw_C G W d mX11_reelAt [.ref (W 0 0), .int (nI q)] C (some (.ref (W 27 q))) C := by
  refine cw_start (lv0 := [some (.ref (W 0 0)), some (.int (nI q))]) (by decide +kernel) rfl (Nat.le_of_ble_eq_true rfl) rfl ?_
  intro K g0 g hT
  obtain ⟨hBP, hBR, hBO, hBA, hBM, hBc, hBl⟩ := id hT.B
  refine ev_iload_n dX11_reelAt_0 rfl rfl ?_
  refine ev_if_lt (tgt := 15) dX11_reelAt_1 (by decide) (fun c => absurd c (nI_pos (by omega))) (fun _ => ?_)
  refine ev_iload_n dX11_reelAt_4 rfl rfl ?_
  refine ev_aload_n dX11_reelAt_5 rfl rfl ?_
  refine cw_getf hE hT dX11_reelAt_6 fX11_16 (k := 0) (i := 0) rfl ob0 rfl ?_
  refine cw_size (l := 1) (v := C.1 21 0) hE hT dX11_reelAt_9 lX11_89 (by decide) (Nat.le_of_ble_eq_true rfl) (by omega) rfl ?_
  refine ev_icmp_lt (tgt := 26) dX11_reelAt_12 (by decide) (fun c_12 => ?_) (fun c_12 => absurd (by rw [hBR.1]; exact nI_lt hq (by omega)) c_12)
  refine ev_aload_n dX11_reelAt_26 rfl rfl ?_
  refine cw_getf hE hT dX11_reelAt_27 fX11_16 (k := 0) (i := 0) rfl ob0 rfl ?_
  refine ev_iload_n dX11_reelAt_30 rfl rfl ?_
  refine cw_get (l := 1) (q := q) hE hT dX11_reelAt_31 lX11_138 (by decide) rfl hq (Nat.le_of_ble_eq_true rfl) (by omega) ?_
  refine ev_cast hE dX11_reelAt_34 lkX11_128 ((hT.at (k := 27) (i := q) hq).1 _ _ ob27) rfl ?_
  exact ev_aret dX11_reelAt_37 rfl (Or.inl ⟨_, rfl⟩) (Or.inr ⟨_, rfl⟩) ⟨rfl, hT⟩
theorem c_X11_reelAt_bad {G : ev_G} {W : cw_W} {d D0 : Nat} {C : mo_S} {x : Int32} (hE : ev_En G) (h4 : ev_En4 G D0) (hd : 6 ≤ d) (hx : sp_in x 0 (C.1 21 0 - 1) = false) : cw_R G W d 1 6 mX11_reelAt [.ref (W 0 0), .int x] C (fun o W2 C2 => o = .inr "java/lang/IndexOutOfBoundsException" ∧ W2 = W ∧ C2 = C) := by
  refine cw_startR (lv0 := [some (.ref (W 0 0)), some (.int x)]) (by decide +kernel) rfl (Nat.le_of_ble_eq_true rfl) rfl ?_
  intro K g0 g hT
  obtain ⟨hBP, hBR, hBO, hBA, hBM, hBc, hBl⟩ := id hT.B
  have K_15 : ev_V G d 1 6 mX11_reelAt (fun o g' => ∃ W2 C2, (o = .inr "java/lang/IndexOutOfBoundsException" ∧ W2 = W ∧ C2 = C) ∧ cw_T G K g0 W2 g' C2) g 15 [some (.ref (W 0 0)), some (.int x)] [] :=
    ev_throwW hE h4 rfl rfl dX11_reelAt_15 dX11_reelAt_18 dX11_reelAt_19 dX11_reelAt_22 dX11_reelAt_25 (by decide) lkX11_156 ini_IndexOutOfBoundsException ev_th_160 (by decide +kernel) (by decide +kernel) hd (Nat.le_of_ble_eq_true rfl) (by decide) (by decide) ⟨W, C, ⟨rfl, rfl, rfl⟩, hT⟩
  refine ev_iload_n dX11_reelAt_0 rfl rfl ?_
  refine ev_if_lt (tgt := 15) dX11_reelAt_1 (by decide) (fun _ => K_15) (fun c_1 => ?_)
  refine ev_iload_n dX11_reelAt_4 rfl rfl ?_
  refine ev_aload_n dX11_reelAt_5 rfl rfl ?_
  refine cw_getf hE hT dX11_reelAt_6 fX11_16 (k := 0) (i := 0) rfl ob0 rfl ?_
  refine cw_size (l := 1) (v := C.1 21 0) hE hT dX11_reelAt_9 lX11_89 (by decide) (Nat.le_of_ble_eq_true rfl) (by omega) rfl ?_
  refine ev_icmp_lt (tgt := 26) dX11_reelAt_12 (by decide) (fun c_12 => ?_) (fun _ => K_15)
  exact absurd hx (by rw [cl_in_ok hBR.1 hBR.2 (by decide) c_1 c_12]; decide)
theorem c_X11_appealAt_ok {G : ev_G} {W : cw_W} {d : Nat} {C : mo_S} {q : Nat} (hE : ev_En G) (hd : 4 ≤ d) (hq : q < sp_A C) : cw_C G W d mX11_appealAt [.ref (W 0 0), .int (nI q)] C (some (.ref (W 33 q))) C := by
  refine cw_start (lv0 := [some (.ref (W 0 0)), some (.int (nI q))]) (by decide +kernel) rfl (Nat.le_of_ble_eq_true rfl) rfl ?_
  intro K g0 g hT
  obtain ⟨hBP, hBR, hBO, hBA, hBM, hBc, hBl⟩ := id hT.B
  refine ev_iload_n dX11_appealAt_0 rfl rfl ?_
  refine ev_if_lt (tgt := 15) dX11_appealAt_1 (by decide) (fun c => absurd c (nI_pos (by omega))) (fun _ => ?_)
  refine ev_iload_n dX11_appealAt_4 rfl rfl ?_
  refine ev_aload_n dX11_appealAt_5 rfl rfl ?_
  refine cw_getf hE hT dX11_appealAt_6 fX11_22 (k := 0) (i := 0) rfl ob0 rfl ?_
  refine cw_size (l := 3) (v := C.1 62 0) hE hT dX11_appealAt_9 lX11_89 (by decide) (Nat.le_of_ble_eq_true rfl) (by omega) rfl ?_
  refine ev_icmp_lt (tgt := 26) dX11_appealAt_12 (by decide) (fun c_12 => ?_) (fun c_12 => absurd (by rw [hBA.1]; exact nI_lt hq (by omega)) c_12)
  refine ev_aload_n dX11_appealAt_26 rfl rfl ?_
  refine cw_getf hE hT dX11_appealAt_27 fX11_22 (k := 0) (i := 0) rfl ob0 rfl ?_
  refine ev_iload_n dX11_appealAt_30 rfl rfl ?_
  refine cw_get (l := 3) (q := q) hE hT dX11_appealAt_31 lX11_138 (by decide) rfl hq (Nat.le_of_ble_eq_true rfl) (by omega) ?_
  refine ev_cast hE dX11_appealAt_34 lkX11_286 ((hT.at (k := 33) (i := q) hq).1 _ _ ob33) rfl ?_
  exact ev_aret dX11_appealAt_37 rfl (Or.inl ⟨_, rfl⟩) (Or.inr ⟨_, rfl⟩) ⟨rfl, hT⟩
theorem c_X11_appealAt_bad {G : ev_G} {W : cw_W} {d D0 : Nat} {C : mo_S} {x : Int32} (hE : ev_En G) (h4 : ev_En4 G D0) (hd : 6 ≤ d) (hx : sp_in x 0 (C.1 62 0 - 1) = false) : cw_R G W d 1 6 mX11_appealAt [.ref (W 0 0), .int x] C (fun o W2 C2 => o = .inr "java/lang/IndexOutOfBoundsException" ∧ W2 = W ∧ C2 = C) := by
  refine cw_startR (lv0 := [some (.ref (W 0 0)), some (.int x)]) (by decide +kernel) rfl (Nat.le_of_ble_eq_true rfl) rfl ?_
  intro K g0 g hT
  obtain ⟨hBP, hBR, hBO, hBA, hBM, hBc, hBl⟩ := id hT.B
  have K_15 : ev_V G d 1 6 mX11_appealAt (fun o g' => ∃ W2 C2, (o = .inr "java/lang/IndexOutOfBoundsException" ∧ W2 = W ∧ C2 = C) ∧ cw_T G K g0 W2 g' C2) g 15 [some (.ref (W 0 0)), some (.int x)] [] :=
    ev_throwW hE h4 rfl rfl dX11_appealAt_15 dX11_appealAt_18 dX11_appealAt_19 dX11_appealAt_22 dX11_appealAt_25 (by decide) lkX11_156 ini_IndexOutOfBoundsException ev_th_160 (by decide +kernel) (by decide +kernel) hd (Nat.le_of_ble_eq_true rfl) (by decide) (by decide) ⟨W, C, ⟨rfl, rfl, rfl⟩, hT⟩
  refine ev_iload_n dX11_appealAt_0 rfl rfl ?_
  refine ev_if_lt (tgt := 15) dX11_appealAt_1 (by decide) (fun _ => K_15) (fun c_1 => ?_)
  refine ev_iload_n dX11_appealAt_4 rfl rfl ?_
  refine ev_aload_n dX11_appealAt_5 rfl rfl ?_
  refine cw_getf hE hT dX11_appealAt_6 fX11_22 (k := 0) (i := 0) rfl ob0 rfl ?_
  refine cw_size (l := 3) (v := C.1 62 0) hE hT dX11_appealAt_9 lX11_89 (by decide) (Nat.le_of_ble_eq_true rfl) (by omega) rfl ?_
  refine ev_icmp_lt (tgt := 26) dX11_appealAt_12 (by decide) (fun c_12 => ?_) (fun _ => K_15)
  exact absurd hx (by rw [cl_in_ok hBA.1 hBA.2 (by decide) c_1 c_12]; decide)
section RS
variable {G : ev_G} {d bc bs D0 : Nat} {M : ev_M} {Post : ev_P} {g : ev_H} {pc : Nat} {lv : List (Option Value)} {st : List Value}
variable {K : Nat → Prop} {g0 : ev_H} {W : cw_W} {C : mo_S}
theorem cw_alenv {k i n : Nat} {h : Nat → Int32} {v : Int32} (hE : ev_En G) (hT : cw_T G K g0 W g C) (hd : decode M.2.1 pc = .ok (.arraylength, 1)) (hl : cw_lv C k i) (hk : cw_ar C k i = some (n, h)) (hv : nI n = v) (kk : ev_V G d bc bs M Post g (pc + 1) lv (.int v :: st)) : ev_V G d bc bs M Post g pc lv (.ref (W k i) :: st) := by
  subst hv
  exact cw_alen hE hT hd hl hk kk
theorem cw_need {index : Nat} {x : Int32} (hE : ev_En G) (h4 : ev_En4 G D0) (hM : M.2.2.2.2 = []) (hd : decode M.2.1 pc = .ok (.invokestatic index, 3)) (hl1 : Cond.methodLink M.1.cls index yX11_need ∈ ev_T) (hr : (st.map fun v => v.category).sum ≤ 8) (hdd : 7 ≤ d) (hb : 1 ≤ bc) (hs0 : 6 ≤ bs) (kx : x = 0 → Post (.inr "java/lang/IllegalArgumentException") g) (kk : ¬ x = 0 → ev_V G d bc bs M Post g (pc + 3) lv st) : ev_V G d bc bs M Post g pc lv (.int x :: st) := by
  by_cases hx : x = 0
  · subst hx
    exact ev_callS (d' := d - 1) (b := bc - 1) (k0 := bs - 6) (ci := 0) (r := 0) (fs := []) (As := [.int 0]) hd rfl kX11_need rfl hl1 sX11_need hr (by omega) (c_X11_need_bad hE h4 (by omega)) (by omega) (by omega) (fun v g' h => by cases h.1) (fun E g' h => by obtain ⟨h1, rfl⟩ := h; cases h1; exact ev_out hM (kx rfl))
  · exact ev_pS1 (d' := d - 1) hd rfl kX11_need hl1 sX11_need hr (by omega) (c_X11_need_ok hx) (kk hx)
theorem cw_paperAt {index : Nat} {x : Int32} (hE : ev_En G) (h4 : ev_En4 G D0) (hM : M.2.2.2.2 = []) (hT : cw_T G K g0 W g C) (hd : decode M.2.1 pc = .ok (.invokevirtual index, 3)) (hl1 : Cond.methodLink M.1.cls index yX11_paperAt ∈ ev_T) (hr : (st.map fun v => v.category).sum ≤ 8) (hdd : 7 ≤ d) (hb : 1 ≤ bc) (hs0 : 6 ≤ bs) (kx : sp_in x 0 (C.1 1 0 - 1) = false → ∀ g', cw_T G K g0 W g' C → Post (.inr "java/lang/IndexOutOfBoundsException") g') (kk : ∀ q, sp_in x 0 (C.1 1 0 - 1) = true → x = nI q → q = x.toNatClampNeg → q < sp_P C → ∀ g', cw_T G K g0 W g' C → ev_V G d bc bs M Post g' (pc + 3) lv (.ref (W 20 q) :: st)) : ev_V G d bc bs M Post g pc lv (.int x :: .ref (W 0 0) :: st) := by
  by_cases hx : sp_in x 0 (C.1 1 0 - 1) = true
  · obtain ⟨e, hq⟩ := cl_in_n hT.B.1.1 hT.B.1.2 (by decide) hx
    have kk2 := kk _ hx e rfl hq
    generalize x.toNatClampNeg = q at e hq kk2
    subst e
    exact cw_call1 (d' := d - 1) hE hT hd rfl kX11_paperAt hl1 iX11_paperAt vX11_paperAt (k := 0) (i := 0) rfl ob0 rfl hr (by omega) (c_X11_paperAt_ok hE (by omega) hq) kk2
  · have hx2 : sp_in x 0 (C.1 1 0 - 1) = false := by cases h : sp_in x 0 (C.1 1 0 - 1) with
      | false => rfl
      | true => exact absurd h hx
    exact cw_callr1 (d' := d - 1) (b := bc - 1) (n0 := bs - 6) hE hT hd rfl kX11_paperAt hl1 iX11_paperAt vX11_paperAt (k := 0) (i := 0) rfl ob0 rfl hr (by omega) (c_X11_paperAt_bad hE h4 (by omega) hx2) (by omega) (by omega) (fun v W2 C2 g' h _ => by cases h.1) (fun E W2 C2 g' h hT2 => by obtain ⟨h1, rfl, rfl⟩ := h; cases h1; exact ev_out hM (kx hx2 g' hT2))
theorem cw_reelAt {index : Nat} {x : Int32} (hE : ev_En G) (h4 : ev_En4 G D0) (hM : M.2.2.2.2 = []) (hT : cw_T G K g0 W g C) (hd : decode M.2.1 pc = .ok (.invokevirtual index, 3)) (hl1 : Cond.methodLink M.1.cls index yX11_reelAt ∈ ev_T) (hr : (st.map fun v => v.category).sum ≤ 8) (hdd : 7 ≤ d) (hb : 1 ≤ bc) (hs0 : 6 ≤ bs) (kx : sp_in x 0 (C.1 21 0 - 1) = false → ∀ g', cw_T G K g0 W g' C → Post (.inr "java/lang/IndexOutOfBoundsException") g') (kk : ∀ q, sp_in x 0 (C.1 21 0 - 1) = true → x = nI q → q = x.toNatClampNeg → q < sp_R C → ∀ g', cw_T G K g0 W g' C → ev_V G d bc bs M Post g' (pc + 3) lv (.ref (W 27 q) :: st)) : ev_V G d bc bs M Post g pc lv (.int x :: .ref (W 0 0) :: st) := by
  by_cases hx : sp_in x 0 (C.1 21 0 - 1) = true
  · obtain ⟨e, hq⟩ := cl_in_n hT.B.2.1.1 hT.B.2.1.2 (by decide) hx
    have kk2 := kk _ hx e rfl hq
    generalize x.toNatClampNeg = q at e hq kk2
    subst e
    exact cw_call1 (d' := d - 1) hE hT hd rfl kX11_reelAt hl1 iX11_reelAt vX11_reelAt (k := 0) (i := 0) rfl ob0 rfl hr (by omega) (c_X11_reelAt_ok hE (by omega) hq) kk2
  · have hx2 : sp_in x 0 (C.1 21 0 - 1) = false := by cases h : sp_in x 0 (C.1 21 0 - 1) with
      | false => rfl
      | true => exact absurd h hx
    exact cw_callr1 (d' := d - 1) (b := bc - 1) (n0 := bs - 6) hE hT hd rfl kX11_reelAt hl1 iX11_reelAt vX11_reelAt (k := 0) (i := 0) rfl ob0 rfl hr (by omega) (c_X11_reelAt_bad hE h4 (by omega) hx2) (by omega) (by omega) (fun v W2 C2 g' h _ => by cases h.1) (fun E W2 C2 g' h hT2 => by obtain ⟨h1, rfl, rfl⟩ := h; cases h1; exact ev_out hM (kx hx2 g' hT2))
theorem cw_appealAt {index : Nat} {x : Int32} (hE : ev_En G) (h4 : ev_En4 G D0) (hM : M.2.2.2.2 = []) (hT : cw_T G K g0 W g C) (hd : decode M.2.1 pc = .ok (.invokevirtual index, 3)) (hl1 : Cond.methodLink M.1.cls index yX11_appealAt ∈ ev_T) (hr : (st.map fun v => v.category).sum ≤ 8) (hdd : 7 ≤ d) (hb : 1 ≤ bc) (hs0 : 6 ≤ bs) (kx : sp_in x 0 (C.1 62 0 - 1) = false → ∀ g', cw_T G K g0 W g' C → Post (.inr "java/lang/IndexOutOfBoundsException") g') (kk : ∀ q, sp_in x 0 (C.1 62 0 - 1) = true → x = nI q → q = x.toNatClampNeg → q < sp_A C → ∀ g', cw_T G K g0 W g' C → ev_V G d bc bs M Post g' (pc + 3) lv (.ref (W 33 q) :: st)) : ev_V G d bc bs M Post g pc lv (.int x :: .ref (W 0 0) :: st) := by
  by_cases hx : sp_in x 0 (C.1 62 0 - 1) = true
  · obtain ⟨e, hq⟩ := cl_in_n hT.B.2.2.2.1.1 hT.B.2.2.2.1.2 (by decide) hx
    have kk2 := kk _ hx e rfl hq
    generalize x.toNatClampNeg = q at e hq kk2
    subst e
    exact cw_call1 (d' := d - 1) hE hT hd rfl kX11_appealAt hl1 iX11_appealAt vX11_appealAt (k := 0) (i := 0) rfl ob0 rfl hr (by omega) (c_X11_appealAt_ok hE (by omega) hq) kk2
  · have hx2 : sp_in x 0 (C.1 62 0 - 1) = false := by cases h : sp_in x 0 (C.1 62 0 - 1) with
      | false => rfl
      | true => exact absurd h hx
    exact cw_callr1 (d' := d - 1) (b := bc - 1) (n0 := bs - 6) hE hT hd rfl kX11_appealAt hl1 iX11_appealAt vX11_appealAt (k := 0) (i := 0) rfl ob0 rfl hr (by omega) (c_X11_appealAt_bad hE h4 (by omega) hx2) (by omega) (by omega) (fun v W2 C2 g' h _ => by cases h.1) (fun E W2 C2 g' h hT2 => by obtain ⟨h1, rfl, rfl⟩ := h; cases h1; exact ev_out hM (kx hx2 g' hT2))
end RS
/-- a public method's outcome: an exception, or an answer and the state then -/
abbrev cx_Out : Type := (String ⊕ Int32) × mo_S
def cx_o (u : String ⊕ Int32) : Option Value ⊕ String := match u with
  | .inl E => .inr E
  | .inr r => .inl (some (.int r))
def cw_P (G : ev_G) (W : cw_W) (d mc ms : Nat) (M : ev_M) (As : List Value) (C : mo_S) (u : cx_Out) : Prop := cw_R G W d mc ms M As C (fun o W2 C2 => W2 = W ∧ o = cx_o u.1 ∧ C2 = u.2)
end PB
