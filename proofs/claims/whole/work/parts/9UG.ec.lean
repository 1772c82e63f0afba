section EC
def la_Po : ev_P := fun o _ => o = .inl (some (.int 1))
theorem la_T.le {G : ev_G} {D0 : Nat} {W : cw_W} {V : mo_W} {a : Nat} {B B2 : Int} {g : ev_H} {C S : mo_S} (h : la_T G D0 W V a B g C S) (hB : B ≤ B2) : la_T G D0 W V a B2 g C S := by
  obtain ⟨F, OL, h1, h2, h3, h4, h5, h6, h7⟩ := h
  exact ⟨F, OL, h1, h2, h3, h4, h5, h6, h7.le hB⟩
set_option maxHeartbeats 2000000 in
theorem la_loop {G : ev_G} {D0 q : Nat} {V : mo_W} {a b L : Nat} {xs : Nat → Int32} (hE : ev_En G) (h4 : ev_En4 G D0) (hN : la_N G) (hb : b < G.2.1.heap.size) (hX : va_X b L xs G.2.1 G.2.1.heap) (hL : L ≤ 3072) : ∀ (n i : Nat) (W : cw_W) (C S : mo_S) (g : ev_H) (B : Int) (bc bs : Nat), W 0 0 = q → i ≤ L → L < i + 6 * n + 6 → B + 2000 * n ≤ 8000000 → 24 * n ≤ bc → 4120 * n ≤ bs → la_T G D0 W V a B g C S → ev_V G 66 bc bs mL_law la_Po g 23 [some (.ref b), some (.ref q), some (.ref V.1), some (.ref a), some (.int (nI i)), none, none] [] := by
  intro n
  induction n with
  | zero =>
    intro i W C S g B bc bs hq hiL hn hB hbc hbs hA
    refine ev_iload dL_law_23 rfl ?_
    refine ev_aload_n dL_law_25 rfl rfl ?_
    refine ev_slen dL_law_26 hb hX ?_
    refine ev_bipush (v := 6) dL_law_27 (by decide) ?_
    refine ev_isub dL_law_29 ?_
    refine ev_icmp_gt (tgt := 2393) dL_law_30 (by decide) (fun _ => ?_) (fun c => ?_)
    · refine ev_iconst (v := 1) dL_law_2393 (by decide) ?_
      exact ev_iret dL_law_2394 rfl rfl rfl
    · exfalso
      refine c (Int32.lt_iff_toInt_lt.mpr ?_)
      rw [show (6 : Int32) = nI 6 from rfl, pk_sub_toInt (by omega) (by decide), nI_toInt (by omega)]
      omega
  | succ n ih =>
    intro i W C S g B bc bs hq hiL hn hB hbc hbs hA
    refine ev_iload dL_law_23 rfl ?_
    refine ev_aload_n dL_law_25 rfl rfl ?_
    refine ev_slen dL_law_26 hb hX ?_
    refine ev_bipush (v := 6) dL_law_27 (by decide) ?_
    refine ev_isub dL_law_29 ?_
    refine ev_icmp_gt (tgt := 2393) dL_law_30 (by decide) (fun _ => ?_) (fun c => ?_)
    · refine ev_iconst (v := 1) dL_law_2393 (by decide) ?_
      exact ev_iret dL_law_2394 rfl rfl rfl
    · have hi : i + 6 ≤ L := by
        rcases Nat.lt_or_ge L (i + 6) with z | z
        · exfalso
          refine c (Int32.lt_iff_toInt_lt.mpr ?_)
          rw [show (6 : Int32) = nI 6 from rfl, pk_sub_toInt (by omega) (by decide), nI_toInt (by omega)]
          omega
        · exact z
      have k : ∀ (W2 : cw_W) (C2 S2 : mo_S) (g2 : ev_H), W2 0 0 = W 0 0 → la_T G D0 W2 V a (B + 2000) g2 C2 S2 → ev_V G 66 (24 * n) (4120 * n) mL_law la_Po g2 2387 [some (.ref b), some (.ref (W 0 0)), some (.ref V.1), some (.ref a), some (.int (nI i)), none, none] [] := fun W2 C2 S2 g2 h1 h2 => by
        refine ev_iinc (v := nI (i + 6)) (lv' := [some (.ref b), some (.ref (W 0 0)), some (.ref V.1), some (.ref a), some (.int (nI (i + 6))), none, none]) dL_law_2387 rfl (by rw [← nI_add]; rfl) rfl ?_
        refine ev_goto (tgt := 23) dL_law_2390 (by decide) ?_
        rw [hq]
        exact ih (i + 6) W2 C2 S2 g2 (B + 2000) _ _ (h1.trans hq) hi (by omega) (by omega) (Nat.le_refl _) (Nat.le_refl _) h2
      have hbc2 : 24 * n + 24 ≤ bc := by omega
      have hbs2 : 4120 * n + 4120 ≤ bs := by omega
      have hB8 : B ≤ 8000000 := by omega
      subst hq
      refine ev_aload_n dL_law_33 rfl rfl ?_
      refine ev_iload dL_law_34 rfl ?_
      refine ev_sld dL_law_36 hb hX (vp_in_nI (by omega) (by omega)) ?_
      rw [nI_clamp (by omega)]
      refine ev_bipush (v := 63) dL_law_37 (by decide) ?_
      refine ev_iand dL_law_39 ?_
      obtain ⟨j, hj, ej⟩ := pk_andE (xs i) (m := 63) 6 (by decide)
      rw [ej]
      by_cases j33 : 33 ≤ j
      · refine ev_tableOut (tgt := 2387) dL_law_40 (Or.inr (by rw [nI_toInt (by omega)]; omega)) (by decide) ?_
        exact ev_room (by omega) (by omega) (k W C S g rfl (hA.le (by omega)))
      · have jj : j = 0 ∨ j = 1 ∨ j = 2 ∨ j = 3 ∨ j = 4 ∨ j = 5 ∨ j = 6 ∨ j = 7 ∨ j = 8 ∨ j = 9 ∨ j = 10 ∨ j = 11 ∨ j = 12 ∨ j = 13 ∨ j = 14 ∨ j = 15 ∨ j = 16 ∨ j = 17 ∨ j = 18 ∨ j = 19 ∨ j = 20 ∨ j = 21 ∨ j = 22 ∨ j = 23 ∨ j = 24 ∨ j = 25 ∨ j = 26 ∨ j = 27 ∨ j = 28 ∨ j = 29 ∨ j = 30 ∨ j = 31 ∨ j = 32 := by omega
        rcases jj with rfl | rfl | rfl | rfl | rfl | rfl | rfl | rfl | rfl | rfl | rfl | rfl | rfl | rfl | rfl | rfl | rfl | rfl | rfl | rfl | rfl | rfl | rfl | rfl | rfl | rfl | rfl | rfl | rfl | rfl | rfl | rfl | rfl
        · exact ev_tableIn (off := 148) (tgt := 188) dL_law_40 (by decide) (by decide) rfl (by decide) (lb_paper hE h4 hN hb hX hL hi hA hB8 hbc2 hbs2 k)
        · exact ev_tableIn (off := 252) (tgt := 292) dL_law_40 (by decide) (by decide) rfl (by decide) (lb_set hE h4 hN hb hX hL hi hA hB8 hbc2 hbs2 k)
        · exact ev_tableIn (off := 332) (tgt := 372) dL_law_40 (by decide) (by decide) rfl (by decide) (lb_told hE h4 hN hb hX hL hi hA hB8 hbc2 hbs2 k)
        · exact ev_tableIn (off := 400) (tgt := 440) dL_law_40 (by decide) (by decide) rfl (by decide) (lb_reel hE h4 hN hb hX hL hi hA hB8 hbc2 hbs2 k)
        · exact ev_tableIn (off := 468) (tgt := 508) dL_law_40 (by decide) (by decide) rfl (by decide) (lb_where hE h4 hN hb hX hL hi hA hB8 hbc2 hbs2 k)
        · exact ev_tableIn (off := 524) (tgt := 564) dL_law_40 (by decide) (by decide) rfl (by decide) (lb_steal hE h4 hN hb hX hL hi hA hB8 hbc2 hbs2 k)
        · exact ev_tableIn (off := 580) (tgt := 620) dL_law_40 (by decide) (by decide) rfl (by decide) (lb_find hE h4 hN hb hX hL hi hA hB8 hbc2 hbs2 k)
        · exact ev_tableIn (off := 636) (tgt := 676) dL_law_40 (by decide) (by decide) rfl (by decide) (lb_ward hE h4 hN hb hX hL hi hA hB8 hbc2 hbs2 k)
        · exact ev_tableIn (off := 692) (tgt := 732) dL_law_40 (by decide) (by decide) rfl (by decide) (lb_loyal hE h4 hN hb hX hL hi hA hB8 hbc2 hbs2 k)
        · exact ev_tableIn (off := 772) (tgt := 812) dL_law_40 (by decide) (by decide) rfl (by decide) (lb_demand hE h4 hN hb hX hL hi hA hB8 hbc2 hbs2 k)
        · exact ev_tableIn (off := 840) (tgt := 880) dL_law_40 (by decide) (by decide) rfl (by decide) (lb_feed hE h4 hN hb hX hL hi hA hB8 hbc2 hbs2 k)
        · exact ev_tableIn (off := 913) (tgt := 953) dL_law_40 (by decide) (by decide) rfl (by decide) (lb_order hE h4 hN hb hX hL hi hA hB8 hbc2 hbs2 k)
        · exact ev_tableIn (off := 981) (tgt := 1021) dL_law_40 (by decide) (by decide) rfl (by decide) (lb_fault hE h4 hN hb hX hL hi hA hB8 hbc2 hbs2 k)
        · exact ev_tableIn (off := 994) (tgt := 1034) dL_law_40 (by decide) (by decide) rfl (by decide) (lb_force hE h4 hN hb hX hL hi hA hB8 hbc2 hbs2 k)
        · exact ev_tableIn (off := 1050) (tgt := 1090) dL_law_40 (by decide) (by decide) rfl (by decide) (lb_tells hE h4 hN hb hX hL hi hA hB8 hbc2 hbs2 k)
        · exact ev_tableIn (off := 1118) (tgt := 1158) dL_law_40 (by decide) (by decide) rfl (by decide) (lb_bid hE h4 hN hb hX hL hi hA hB8 hbc2 hbs2 k)
        · exact ev_tableIn (off := 1198) (tgt := 1238) dL_law_40 (by decide) (by decide) rfl (by decide) (lb_parted hE h4 hN hb hX hL hi hA hB8 hbc2 hbs2 k)
        · exact ev_tableIn (off := 1266) (tgt := 1306) dL_law_40 (by decide) (by decide) rfl (by decide) (lb_months hE h4 hN hb hX hL hi hA hB8 hbc2 hbs2 k)
        · exact ev_tableIn (off := 1322) (tgt := 1362) dL_law_40 (by decide) (by decide) rfl (by decide) (lb_swap hE h4 hN hb hX hL hi hA hB8 hbc2 hbs2 k)
        · exact ev_tableIn (off := 1402) (tgt := 1442) dL_law_40 (by decide) (by decide) rfl (by decide) (lb_netted hE h4 hN hb hX hL hi hA hB8 hbc2 hbs2 k)
        · exact ev_tableIn (off := 1470) (tgt := 1510) dL_law_40 (by decide) (by decide) rfl (by decide) (lb_merge hE h4 hN hb hX hL hi hA hB8 hbc2 hbs2 k)
        · exact ev_tableIn (off := 1538) (tgt := 1578) dL_law_40 (by decide) (by decide) rfl (by decide) (lb_gain hE h4 hN hb hX hL hi hA hB8 hbc2 hbs2 k)
        · exact ev_tableIn (off := 1606) (tgt := 1646) dL_law_40 (by decide) (by decide) rfl (by decide) (lb_breach hE h4 hN hb hX hL hi hA hB8 hbc2 hbs2 k)
        · exact ev_tableIn (off := 1674) (tgt := 1714) dL_law_40 (by decide) (by decide) rfl (by decide) (lb_source hE h4 hN hb hX hL hi hA hB8 hbc2 hbs2 k)
        · exact ev_tableIn (off := 1754) (tgt := 1794) dL_law_40 (by decide) (by decide) rfl (by decide) (lb_borne hE h4 hN hb hX hL hi hA hB8 hbc2 hbs2 k)
        · exact ev_tableIn (off := 1822) (tgt := 1862) dL_law_40 (by decide) (by decide) rfl (by decide) (lb_appeal hE h4 hN hb hX hL hi hA hB8 hbc2 hbs2 k)
        · exact ev_tableIn (off := 1890) (tgt := 1930) dL_law_40 (by decide) (by decide) rfl (by decide) (lb_alike hE h4 hN hb hX hL hi hA hB8 hbc2 hbs2 k)
        · exact ev_tableIn (off := 1946) (tgt := 1986) dL_law_40 (by decide) (by decide) rfl (by decide) (lb_apart hE h4 hN hb hX hL hi hA hB8 hbc2 hbs2 k)
        · exact ev_tableIn (off := 2014) (tgt := 2054) dL_law_40 (by decide) (by decide) rfl (by decide) (lb_grant hE h4 hN hb hX hL hi hA hB8 hbc2 hbs2 k)
        · exact ev_tableIn (off := 2082) (tgt := 2122) dL_law_40 (by decide) (by decide) rfl (by decide) (lb_best hE h4 hN hb hX hL hi hA hB8 hbc2 hbs2 k)
        · exact ev_tableIn (off := 2150) (tgt := 2190) dL_law_40 (by decide) (by decide) rfl (by decide) (lb_correct hE h4 hN hb hX hL hi hA hB8 hbc2 hbs2 k)
        · exact ev_tableIn (off := 2230) (tgt := 2270) dL_law_40 (by decide) (by decide) rfl (by decide) (lb_row hE h4 hN hb hX hL hi hA hB8 hbc2 hbs2 k)
        · exact ev_tableIn (off := 2322) (tgt := 2362) dL_law_40 (by decide) (by decide) rfl (by decide) (lb_count hE h4 hN hb hX hL hi hA hB8 hbc2 hbs2 k)
set_option maxHeartbeats 2000000 in
/-- from the law's entry to its end -/
theorem la_law {G : ev_G} {D0 b L : Nat} {xs : Nat → Int32} (hE : ev_En G) (h4 : ev_En4 G D0) (hN : la_N G) (hb : b < G.2.1.heap.size) (hX : va_X b L xs G.2.1 G.2.1.heap) (hL : L ≤ 3072) {g0 : ev_H} : ev_V G 66 12366 2156240 mL_law la_Po g0 0 [some (.ref b), none, none, none, none, none, none] [] := by
  refine ev_new2 (b := 12365) (n := 2156227) hE dL_law_0 wL_8 (by decide) (by decide) (fun q1 g1 k0 k1 k2 => ?_)
  refine ev_dup dL_law_3 rfl ?_
  refine ev_callI (d' := 65) (b := 12340) (k0 := 2154626) (As := []) dL_law_4 rfl rfl kX11_init rfl rfl lL_110 iX11_init (Nat.le_of_ble_eq_true rfl) (by decide) (c_X11_init (d := 65) hE h4 (by decide) k1) (by decide) (by decide) (fun v g2 h => ?_) (fun E g2 h => by cases h.1)
  obtain ⟨h1, h⟩ := h
  cases h1
  obtain ⟨A, A0, HA, hi, KO⟩ := nw_mk k1 h
  refine ev_astore_n (lv' := [some (.ref b), some (.ref q1), none, none, none, none, none]) dL_law_7 rfl (Nat.le_of_ble_eq_true rfl) rfl ?_
  refine ev_new2 (b := 12339) (n := 2154548) hE dL_law_8 wL_111 (by decide) (by decide) (fun q2 g3 m0 m1 m2 => ?_)
  refine ev_dup dL_law_11 rfl ?_
  refine ev_callI (d' := 65) (b := 12289) (k0 := 2109441) (As := []) dL_law_12 rfl rfl kX12_init rfl rfl lL_113 iX12_init (Nat.le_of_ble_eq_true rfl) (by decide) (c_X12_init (d := 65) (A := fun _ => 0) hE (by decide) (by rw [m1]; rfl)) (by decide) (by decide) (fun v g4 h => ?_) (fun E g4 h => by cases h.1)
  obtain ⟨h1, V, hD, hR, N0, KO2⟩ := h
  cases h1
  refine ev_astore_n (lv' := [some (.ref b), some (.ref q1), some (.ref q2), none, none, none, none]) dL_law_15 rfl (Nat.le_of_ble_eq_true rfl) rfl ?_
  refine ev_iconst (v := 1) dL_law_16 (by decide) ?_
  refine ev_newa2_long (N := 1) (b := 12288) (n := 2109440) hE dL_law_17 a_long (by decide) (by decide) (by decide) (by decide) (by decide) (fun a g5 n0 n1 n2 => ?_)
  refine ev_astore_n (lv' := [some (.ref b), some (.ref q1), some (.ref q2), some (.ref a), none, none, none]) dL_law_19 rfl (Nat.le_of_ble_eq_true rfl) rfl ?_
  refine ev_iconst (v := nI 0) dL_law_20 (by decide) ?_
  refine ev_istore (lv' := [some (.ref b), some (.ref q1), some (.ref q2), some (.ref a), some (.int (nI 0)), none, none]) dL_law_21 (Nat.le_of_ble_eq_true rfl) rfl ?_
  -- the world
  have A2 : ∀ j, j < 26 → A j ≠ q2 := fun j hj z => by have := HA j hj; rw [z, m0] at this; cases this
  have H3 : ∀ j, j < 26 → g3 (A j) = some (nw_e G D0 A j) := fun j hj => (m2 _ (A2 j hj)).trans (HA j hj)
  have H4 : ∀ j, j < 26 → g4 (A j) = some (nw_e G D0 A j) := fun j hj => KO2 _ _ (A2 j hj) (H3 j hj)
  have Aa : ∀ j, j < 26 → A j ≠ a := fun j hj z => by have := H4 j hj; rw [z, n0] at this; cases this
  have H5 : nw_H G D0 A g5 := fun j hj => (n2 _ (Aa j hj)).trans (H4 j hj)
  have Va : ¬ mo_in (q2, V) a := fun z => by
    obtain ⟨e, he⟩ := hR.ex z
    rw [n0] at he; cases he
  have hR5 : mo_R G (q2, V) g5 nw_S := hR.cg (fun c hc => n2 c (fun z => Va (by rw [← z]; exact hc)))
  have hT : cw_T G (la_K (q2, V) a) g5 (nw_W D0 A) g5 nw_C := by
    refine nw_T H5 hi (fun c hc => ?_) (fun j hj hc => ?_)
    · rcases hc with z | rfl
      · exact hR5.ex z
      · exact ⟨_, n1⟩
    · rcases hc with (z | ⟨k, hk, hk2, z⟩) | z
      · exact A2 j hj z
      · have y := N0 k hk hk2
        have z : A j = V k := z
        rw [← z, H3 j hj] at y
        cases y
      · exact Aa j hj z
  have hq : nw_W D0 A 0 0 = q1 := A0
  exact la_loop (V := (q2, V)) hE h4 hN hb hX hL 512 0 (nw_W D0 A) nw_C nw_S g5 0 12288 2109440 hq (Nat.zero_le _) (by omega) (by decide) (by decide) (by decide) ⟨_, _, hT, hD, hR5, Va, ⟨_, n1⟩, rfl, nw_R⟩
end EC
