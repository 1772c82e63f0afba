section DY
theorem wr_paper {G : ev_G} {K : Nat → Prop} {W : cw_W} {D0 : Nat} {C : mo_S} {mc ms a : Nat} {f : Nat → Int64} {g : ev_H} {Z : (Option Value ⊕ String) → cw_W → mo_S → Prop} {x1 x2 x3 x4 x5 : Int32} (hE : ev_En G) (h4 : ev_En4 G D0) (hN : la_N G) (hc : cw_R G W 64 mc ms mX11_paper [.ref (W 0 0), .int x1, .int x2, .int x3, .int x4, .int x5] C Z) (hZ : ∀ o W2 C2, Z o W2 C2 → la_ok [cl_IA, cl_IS] o) (hK : K a) (hT : cw_T G K g W g C) (hg : g a = some (.inl (G.2.2.2 1, 1, .inr (.inl f)))) : ev_C G 65 mc ms mL_paper [.ref (W 0 0), .int x1, .int x2, .int x3, .int x4, .int x5, .ref a] g (la_P G K [cl_IA, cl_IS] Z a g) := by
  have _hN := hN
  refine ev_startH (lv0 := [some (.ref (W 0 0)), some (.int x1), some (.int x2), some (.int x3), some (.int x4), some (.int x5), some (.ref a), none]) (by decide +kernel) rfl (Nat.le_of_ble_eq_true rfl) rfl ?_
  refine ev_aload dL_paper_0 rfl ?_
  refine ev_iconst (v := 0) dL_paper_2 (by decide) ?_
  refine ev_aload_n dL_paper_3 rfl rfl ?_
  refine ev_iload_n dL_paper_4 rfl rfl ?_
  refine ev_iload_n dL_paper_5 rfl rfl ?_
  refine ev_iload_n dL_paper_6 rfl rfl ?_
  refine ev_iload dL_paper_7 rfl ?_
  refine ev_iload dL_paper_9 rfl ?_
  refine ev_callV (d' := 64) (b := 0) (k0 := 0) (r := W 0 0) (As := [.int x1, .int x2, .int x3, .int x4, .int x5]) (rest := [.int 0, .ref a]) hE dL_paper_11 rfl kX11_paper rfl lL_7 iX11_paper vX11_paper ((hT.at (k := 0) (i := 0) rfl).1 _ _ ob0) rfl (Nat.le_of_ble_eq_true rfl) (by decide) (hc K g g hT) (by omega) (by omega) (fun v g1 h => ?_) (fun e g1 h => ?_)
  · obtain ⟨W2, C2, hz, hT1⟩ := h
    obtain ⟨y, rfl⟩ := (hZ _ _ _ hz).v
    refine ev_i2l dL_paper_14 ?_
    refine ev_last hE dL_paper_15 (by rw [(hT1.2.1 a hK).1]; exact hg) (vp_in_nI (n := 0) (by decide) (by decide)) ?_
    refine ev_goto (tgt := 27) dL_paper_16 (by decide) ?_
    refine ev_iconst (v := 0) dL_paper_27 (by decide) ?_
    exact ev_iret dL_paper_28 rfl rfl (la_P.ok hT1 hK hz)
  · obtain ⟨W2, C2, hz, hT1⟩ := h
    rcases (hZ _ _ _ hz).e2 with rfl | rfl
    · refine ev_catch (pre := []) (name := cl_IA) rfl (fun z hz => absurd hz List.not_mem_nil) (by decide) (by decide) (by decide) lkL_13 h4.cA (fun q => ?_)
      refine ev_astore (lv' := [some (.ref (W 0 0)), some (.int x1), some (.int x2), some (.int x3), some (.int x4), some (.int x5), some (.ref a), some (.ref q)]) dL_paper_19 (Nat.le_of_ble_eq_true rfl) rfl ?_
      refine ev_iconst (v := nI (0 + 1)) dL_paper_21 (by decide) ?_
      exact ev_iret dL_paper_22 rfl rfl (la_P.ex (j := 0) hT1 hK hg rfl hz)
    · refine ev_catch (pre := [(0, 16, 19, 13)]) (name := cl_IS) rfl (fun z hz => by rw [List.mem_singleton.mp hz]; exact ⟨by decide, cl_IA, lkL_13, hN.2⟩) (by decide) (by decide) (by decide) lkL_15 h4.cS (fun q => ?_)
      refine ev_astore (lv' := [some (.ref (W 0 0)), some (.int x1), some (.int x2), some (.int x3), some (.int x4), some (.int x5), some (.ref a), some (.ref q)]) dL_paper_23 (Nat.le_of_ble_eq_true rfl) rfl ?_
      refine ev_iconst (v := nI (1 + 1)) dL_paper_25 (by decide) ?_
      exact ev_iret dL_paper_26 rfl rfl (la_P.ex (j := 1) hT1 hK hg rfl hz)
theorem wr_set {G : ev_G} {K : Nat → Prop} {W : cw_W} {D0 : Nat} {C : mo_S} {mc ms a : Nat} {f : Nat → Int64} {g : ev_H} {Z : (Option Value ⊕ String) → cw_W → mo_S → Prop} {x1 x2 x3 : Int32} (hE : ev_En G) (h4 : ev_En4 G D0) (hN : la_N G) (hc : cw_R G W 64 mc ms mX11_set [.ref (W 0 0), .int x1, .int x2, .int x3] C Z) (hZ : ∀ o W2 C2, Z o W2 C2 → la_ok [cl_IO, cl_IA] o) (hK : K a) (hT : cw_T G K g W g C) (hg : g a = some (.inl (G.2.2.2 1, 1, .inr (.inl f)))) : ev_C G 65 mc ms mL_set [.ref (W 0 0), .int x1, .int x2, .int x3, .ref a] g (la_P G K [cl_IO, cl_IA] Z a g) := by
  have _hN := hN
  refine ev_startH (lv0 := [some (.ref (W 0 0)), some (.int x1), some (.int x2), some (.int x3), some (.ref a), none]) (by decide +kernel) rfl (Nat.le_of_ble_eq_true rfl) rfl ?_
  refine ev_aload dL_set_0 rfl ?_
  refine ev_iconst (v := 0) dL_set_2 (by decide) ?_
  refine ev_aload_n dL_set_3 rfl rfl ?_
  refine ev_iload_n dL_set_4 rfl rfl ?_
  refine ev_iload_n dL_set_5 rfl rfl ?_
  refine ev_iload_n dL_set_6 rfl rfl ?_
  refine ev_callV (d' := 64) (b := 0) (k0 := 0) (r := W 0 0) (As := [.int x1, .int x2, .int x3]) (rest := [.int 0, .ref a]) hE dL_set_7 rfl kX11_set rfl lL_17 iX11_set vX11_set ((hT.at (k := 0) (i := 0) rfl).1 _ _ ob0) rfl (Nat.le_of_ble_eq_true rfl) (by decide) (hc K g g hT) (by omega) (by omega) (fun v g1 h => ?_) (fun e g1 h => ?_)
  · obtain ⟨W2, C2, hz, hT1⟩ := h
    obtain ⟨y, rfl⟩ := (hZ _ _ _ hz).v
    refine ev_i2l dL_set_10 ?_
    refine ev_last hE dL_set_11 (by rw [(hT1.2.1 a hK).1]; exact hg) (vp_in_nI (n := 0) (by decide) (by decide)) ?_
    refine ev_goto (tgt := 23) dL_set_12 (by decide) ?_
    refine ev_iconst (v := 0) dL_set_23 (by decide) ?_
    exact ev_iret dL_set_24 rfl rfl (la_P.ok hT1 hK hz)
  · obtain ⟨W2, C2, hz, hT1⟩ := h
    rcases (hZ _ _ _ hz).e2 with rfl | rfl
    · refine ev_catch (pre := []) (name := cl_IO) rfl (fun z hz => absurd hz List.not_mem_nil) (by decide) (by decide) (by decide) lkL_21 h4.cO (fun q => ?_)
      refine ev_astore (lv' := [some (.ref (W 0 0)), some (.int x1), some (.int x2), some (.int x3), some (.ref a), some (.ref q)]) dL_set_15 (Nat.le_of_ble_eq_true rfl) rfl ?_
      refine ev_iconst (v := nI (0 + 1)) dL_set_17 (by decide) ?_
      exact ev_iret dL_set_18 rfl rfl (la_P.ex (j := 0) hT1 hK hg rfl hz)
    · refine ev_catch (pre := [(0, 12, 15, 21)]) (name := cl_IA) rfl (fun z hz => by rw [List.mem_singleton.mp hz]; exact ⟨by decide, cl_IO, lkL_21, hN.1⟩) (by decide) (by decide) (by decide) lkL_13 h4.cA (fun q => ?_)
      refine ev_astore (lv' := [some (.ref (W 0 0)), some (.int x1), some (.int x2), some (.int x3), some (.ref a), some (.ref q)]) dL_set_19 (Nat.le_of_ble_eq_true rfl) rfl ?_
      refine ev_iconst (v := nI (1 + 1)) dL_set_21 (by decide) ?_
      exact ev_iret dL_set_22 rfl rfl (la_P.ex (j := 1) hT1 hK hg rfl hz)
theorem wr_told {G : ev_G} {K : Nat → Prop} {W : cw_W} {D0 : Nat} {C : mo_S} {mc ms a : Nat} {f : Nat → Int64} {g : ev_H} {Z : (Option Value ⊕ String) → cw_W → mo_S → Prop} {x1 x2 : Int32} (hE : ev_En G) (h4 : ev_En4 G D0) (hN : la_N G) (hc : cw_R G W 64 mc ms mX11_told [.ref (W 0 0), .int x1, .int x2] C Z) (hZ : ∀ o W2 C2, Z o W2 C2 → la_ok [cl_IO, cl_IA] o) (hK : K a) (hT : cw_T G K g W g C) (hg : g a = some (.inl (G.2.2.2 1, 1, .inr (.inl f)))) : ev_C G 65 mc ms mL_told [.ref (W 0 0), .int x1, .int x2, .ref a] g (la_P G K [cl_IO, cl_IA] Z a g) := by
  have _hN := hN
  refine ev_startH (lv0 := [some (.ref (W 0 0)), some (.int x1), some (.int x2), some (.ref a), none]) (by decide +kernel) rfl (Nat.le_of_ble_eq_true rfl) rfl ?_
  refine ev_aload_n dL_told_0 rfl rfl ?_
  refine ev_iconst (v := 0) dL_told_1 (by decide) ?_
  refine ev_aload_n dL_told_2 rfl rfl ?_
  refine ev_iload_n dL_told_3 rfl rfl ?_
  refine ev_iload_n dL_told_4 rfl rfl ?_
  refine ev_callV (d' := 64) (b := 0) (k0 := 0) (r := W 0 0) (As := [.int x1, .int x2]) (rest := [.int 0, .ref a]) hE dL_told_5 rfl kX11_told rfl lL_23 iX11_told vX11_told ((hT.at (k := 0) (i := 0) rfl).1 _ _ ob0) rfl (Nat.le_of_ble_eq_true rfl) (by decide) (hc K g g hT) (by omega) (by omega) (fun v g1 h => ?_) (fun e g1 h => ?_)
  · obtain ⟨W2, C2, hz, hT1⟩ := h
    obtain ⟨y, rfl⟩ := (hZ _ _ _ hz).v
    refine ev_i2l dL_told_8 ?_
    refine ev_last hE dL_told_9 (by rw [(hT1.2.1 a hK).1]; exact hg) (vp_in_nI (n := 0) (by decide) (by decide)) ?_
    refine ev_goto (tgt := 21) dL_told_10 (by decide) ?_
    refine ev_iconst (v := 0) dL_told_21 (by decide) ?_
    exact ev_iret dL_told_22 rfl rfl (la_P.ok hT1 hK hz)
  · obtain ⟨W2, C2, hz, hT1⟩ := h
    rcases (hZ _ _ _ hz).e2 with rfl | rfl
    · refine ev_catch (pre := []) (name := cl_IO) rfl (fun z hz => absurd hz List.not_mem_nil) (by decide) (by decide) (by decide) lkL_21 h4.cO (fun q => ?_)
      refine ev_astore (lv' := [some (.ref (W 0 0)), some (.int x1), some (.int x2), some (.ref a), some (.ref q)]) dL_told_13 (Nat.le_of_ble_eq_true rfl) rfl ?_
      refine ev_iconst (v := nI (0 + 1)) dL_told_15 (by decide) ?_
      exact ev_iret dL_told_16 rfl rfl (la_P.ex (j := 0) hT1 hK hg rfl hz)
    · refine ev_catch (pre := [(0, 10, 13, 21)]) (name := cl_IA) rfl (fun z hz => by rw [List.mem_singleton.mp hz]; exact ⟨by decide, cl_IO, lkL_21, hN.1⟩) (by decide) (by decide) (by decide) lkL_13 h4.cA (fun q => ?_)
      refine ev_astore (lv' := [some (.ref (W 0 0)), some (.int x1), some (.int x2), some (.ref a), some (.ref q)]) dL_told_17 (Nat.le_of_ble_eq_true rfl) rfl ?_
      refine ev_iconst (v := nI (1 + 1)) dL_told_19 (by decide) ?_
      exact ev_iret dL_told_20 rfl rfl (la_P.ex (j := 1) hT1 hK hg rfl hz)
theorem wr_reel {G : ev_G} {K : Nat → Prop} {W : cw_W} {D0 : Nat} {C : mo_S} {mc ms a : Nat} {f : Nat → Int64} {g : ev_H} {Z : (Option Value ⊕ String) → cw_W → mo_S → Prop} {x1 x2 : Int32} (hE : ev_En G) (h4 : ev_En4 G D0) (hN : la_N G) (hc : cw_R G W 64 mc ms mX11_reel [.ref (W 0 0), .int x1, .int x2] C Z) (hZ : ∀ o W2 C2, Z o W2 C2 → la_ok [cl_IA] o) (hK : K a) (hT : cw_T G K g W g C) (hg : g a = some (.inl (G.2.2.2 1, 1, .inr (.inl f)))) : ev_C G 65 mc ms mL_reel [.ref (W 0 0), .int x1, .int x2, .ref a] g (la_P G K [cl_IA] Z a g) := by
  have _hN := hN
  refine ev_startH (lv0 := [some (.ref (W 0 0)), some (.int x1), some (.int x2), some (.ref a), none]) (by decide +kernel) rfl (Nat.le_of_ble_eq_true rfl) rfl ?_
  refine ev_aload_n dL_reel_0 rfl rfl ?_
  refine ev_iconst (v := 0) dL_reel_1 (by decide) ?_
  refine ev_aload_n dL_reel_2 rfl rfl ?_
  refine ev_iload_n dL_reel_3 rfl rfl ?_
  refine ev_iload_n dL_reel_4 rfl rfl ?_
  refine ev_callV (d' := 64) (b := 0) (k0 := 0) (r := W 0 0) (As := [.int x1, .int x2]) (rest := [.int 0, .ref a]) hE dL_reel_5 rfl kX11_reel rfl lL_27 iX11_reel vX11_reel ((hT.at (k := 0) (i := 0) rfl).1 _ _ ob0) rfl (Nat.le_of_ble_eq_true rfl) (by decide) (hc K g g hT) (by omega) (by omega) (fun v g1 h => ?_) (fun e g1 h => ?_)
  · obtain ⟨W2, C2, hz, hT1⟩ := h
    obtain ⟨y, rfl⟩ := (hZ _ _ _ hz).v
    refine ev_i2l dL_reel_8 ?_
    refine ev_last hE dL_reel_9 (by rw [(hT1.2.1 a hK).1]; exact hg) (vp_in_nI (n := 0) (by decide) (by decide)) ?_
    refine ev_goto (tgt := 17) dL_reel_10 (by decide) ?_
    refine ev_iconst (v := 0) dL_reel_17 (by decide) ?_
    exact ev_iret dL_reel_18 rfl rfl (la_P.ok hT1 hK hz)
  · obtain ⟨W2, C2, hz, hT1⟩ := h
    obtain rfl := (hZ _ _ _ hz).e1
    refine ev_catch (pre := []) (name := cl_IA) rfl (fun z hz => absurd hz List.not_mem_nil) (by decide) (by decide) (by decide) lkL_13 h4.cA (fun q => ?_)
    refine ev_astore (lv' := [some (.ref (W 0 0)), some (.int x1), some (.int x2), some (.ref a), some (.ref q)]) dL_reel_13 (Nat.le_of_ble_eq_true rfl) rfl ?_
    refine ev_iconst (v := nI (0 + 1)) dL_reel_15 (by decide) ?_
    exact ev_iret dL_reel_16 rfl rfl (la_P.ex (j := 0) hT1 hK hg rfl hz)
theorem wr_where {G : ev_G} {K : Nat → Prop} {W : cw_W} {D0 : Nat} {C : mo_S} {mc ms a : Nat} {f : Nat → Int64} {g : ev_H} {Z : (Option Value ⊕ String) → cw_W → mo_S → Prop} {x1 : Int32} (hE : ev_En G) (h4 : ev_En4 G D0) (hN : la_N G) (hc : cw_R G W 64 mc ms mX11_where [.ref (W 0 0), .int x1] C Z) (hZ : ∀ o W2 C2, Z o W2 C2 → la_ok [cl_IO] o) (hK : K a) (hT : cw_T G K g W g C) (hg : g a = some (.inl (G.2.2.2 1, 1, .inr (.inl f)))) : ev_C G 65 mc ms mL_where [.ref (W 0 0), .int x1, .ref a] g (la_P G K [cl_IO] Z a g) := by
  have _hN := hN
  refine ev_startH (lv0 := [some (.ref (W 0 0)), some (.int x1), some (.ref a), none]) (by decide +kernel) rfl (Nat.le_of_ble_eq_true rfl) rfl ?_
  refine ev_aload_n dL_where_0 rfl rfl ?_
  refine ev_iconst (v := 0) dL_where_1 (by decide) ?_
  refine ev_aload_n dL_where_2 rfl rfl ?_
  refine ev_iload_n dL_where_3 rfl rfl ?_
  refine ev_callV (d' := 64) (b := 0) (k0 := 0) (r := W 0 0) (As := [.int x1]) (rest := [.int 0, .ref a]) hE dL_where_4 rfl kX11_where rfl lL_30 iX11_where vX11_where ((hT.at (k := 0) (i := 0) rfl).1 _ _ ob0) rfl (Nat.le_of_ble_eq_true rfl) (by decide) (hc K g g hT) (by omega) (by omega) (fun v g1 h => ?_) (fun e g1 h => ?_)
  · obtain ⟨W2, C2, hz, hT1⟩ := h
    obtain ⟨y, rfl⟩ := (hZ _ _ _ hz).v
    refine ev_i2l dL_where_7 ?_
    refine ev_last hE dL_where_8 (by rw [(hT1.2.1 a hK).1]; exact hg) (vp_in_nI (n := 0) (by decide) (by decide)) ?_
    refine ev_goto (tgt := 15) dL_where_9 (by decide) ?_
    refine ev_iconst (v := 0) dL_where_15 (by decide) ?_
    exact ev_iret dL_where_16 rfl rfl (la_P.ok hT1 hK hz)
  · obtain ⟨W2, C2, hz, hT1⟩ := h
    obtain rfl := (hZ _ _ _ hz).e1
    refine ev_catch (pre := []) (name := cl_IO) rfl (fun z hz => absurd hz List.not_mem_nil) (by decide) (by decide) (by decide) lkL_21 h4.cO (fun q => ?_)
    refine ev_astore_n (lv' := [some (.ref (W 0 0)), some (.int x1), some (.ref a), some (.ref q)]) dL_where_12 rfl (Nat.le_of_ble_eq_true rfl) rfl ?_
    refine ev_iconst (v := nI (0 + 1)) dL_where_13 (by decide) ?_
    exact ev_iret dL_where_14 rfl rfl (la_P.ex (j := 0) hT1 hK hg rfl hz)
theorem wr_steal {G : ev_G} {K : Nat → Prop} {W : cw_W} {D0 : Nat} {C : mo_S} {mc ms a : Nat} {f : Nat → Int64} {g : ev_H} {Z : (Option Value ⊕ String) → cw_W → mo_S → Prop} {x1 : Int32} (hE : ev_En G) (h4 : ev_En4 G D0) (hN : la_N G) (hc : cw_R G W 64 mc ms mX11_steal [.ref (W 0 0), .int x1] C Z) (hZ : ∀ o W2 C2, Z o W2 C2 → la_ok [cl_IO] o) (hK : K a) (hT : cw_T G K g W g C) (hg : g a = some (.inl (G.2.2.2 1, 1, .inr (.inl f)))) : ev_C G 65 mc ms mL_steal [.ref (W 0 0), .int x1, .ref a] g (la_P G K [cl_IO] Z a g) := by
  have _hN := hN
  refine ev_startH (lv0 := [some (.ref (W 0 0)), some (.int x1), some (.ref a), none]) (by decide +kernel) rfl (Nat.le_of_ble_eq_true rfl) rfl ?_
  refine ev_aload_n dL_steal_0 rfl rfl ?_
  refine ev_iconst (v := 0) dL_steal_1 (by decide) ?_
  refine ev_aload_n dL_steal_2 rfl rfl ?_
  refine ev_iload_n dL_steal_3 rfl rfl ?_
  refine ev_callV (d' := 64) (b := 0) (k0 := 0) (r := W 0 0) (As := [.int x1]) (rest := [.int 0, .ref a]) hE dL_steal_4 rfl kX11_steal rfl lL_34 iX11_steal vX11_steal ((hT.at (k := 0) (i := 0) rfl).1 _ _ ob0) rfl (Nat.le_of_ble_eq_true rfl) (by decide) (hc K g g hT) (by omega) (by omega) (fun v g1 h => ?_) (fun e g1 h => ?_)
  · obtain ⟨W2, C2, hz, hT1⟩ := h
    obtain ⟨y, rfl⟩ := (hZ _ _ _ hz).v
    refine ev_i2l dL_steal_7 ?_
    refine ev_last hE dL_steal_8 (by rw [(hT1.2.1 a hK).1]; exact hg) (vp_in_nI (n := 0) (by decide) (by decide)) ?_
    refine ev_goto (tgt := 15) dL_steal_9 (by decide) ?_
    refine ev_iconst (v := 0) dL_steal_15 (by decide) ?_
    exact ev_iret dL_steal_16 rfl rfl (la_P.ok hT1 hK hz)
  · obtain ⟨W2, C2, hz, hT1⟩ := h
    obtain rfl := (hZ _ _ _ hz).e1
    refine ev_catch (pre := []) (name := cl_IO) rfl (fun z hz => absurd hz List.not_mem_nil) (by decide) (by decide) (by decide) lkL_21 h4.cO (fun q => ?_)
    refine ev_astore_n (lv' := [some (.ref (W 0 0)), some (.int x1), some (.ref a), some (.ref q)]) dL_steal_12 rfl (Nat.le_of_ble_eq_true rfl) rfl ?_
    refine ev_iconst (v := nI (0 + 1)) dL_steal_13 (by decide) ?_
    exact ev_iret dL_steal_14 rfl rfl (la_P.ex (j := 0) hT1 hK hg rfl hz)
theorem wr_find {G : ev_G} {K : Nat → Prop} {W : cw_W} {D0 : Nat} {C : mo_S} {mc ms a : Nat} {f : Nat → Int64} {g : ev_H} {Z : (Option Value ⊕ String) → cw_W → mo_S → Prop} {x1 : Int32} (hE : ev_En G) (h4 : ev_En4 G D0) (hN : la_N G) (hc : cw_R G W 64 mc ms mX11_find [.ref (W 0 0), .int x1] C Z) (hZ : ∀ o W2 C2, Z o W2 C2 → la_ok [cl_IO] o) (hK : K a) (hT : cw_T G K g W g C) (hg : g a = some (.inl (G.2.2.2 1, 1, .inr (.inl f)))) : ev_C G 65 mc ms mL_find [.ref (W 0 0), .int x1, .ref a] g (la_P G K [cl_IO] Z a g) := by
  have _hN := hN
  refine ev_startH (lv0 := [some (.ref (W 0 0)), some (.int x1), some (.ref a), none]) (by decide +kernel) rfl (Nat.le_of_ble_eq_true rfl) rfl ?_
  refine ev_aload_n dL_find_0 rfl rfl ?_
  refine ev_iconst (v := 0) dL_find_1 (by decide) ?_
  refine ev_aload_n dL_find_2 rfl rfl ?_
  refine ev_iload_n dL_find_3 rfl rfl ?_
  refine ev_callV (d' := 64) (b := 0) (k0 := 0) (r := W 0 0) (As := [.int x1]) (rest := [.int 0, .ref a]) hE dL_find_4 rfl kX11_find rfl lL_37 iX11_find vX11_find ((hT.at (k := 0) (i := 0) rfl).1 _ _ ob0) rfl (Nat.le_of_ble_eq_true rfl) (by decide) (hc K g g hT) (by omega) (by omega) (fun v g1 h => ?_) (fun e g1 h => ?_)
  · obtain ⟨W2, C2, hz, hT1⟩ := h
    obtain ⟨y, rfl⟩ := (hZ _ _ _ hz).v
    refine ev_i2l dL_find_7 ?_
    refine ev_last hE dL_find_8 (by rw [(hT1.2.1 a hK).1]; exact hg) (vp_in_nI (n := 0) (by decide) (by decide)) ?_
    refine ev_goto (tgt := 15) dL_find_9 (by decide) ?_
    refine ev_iconst (v := 0) dL_find_15 (by decide) ?_
    exact ev_iret dL_find_16 rfl rfl (la_P.ok hT1 hK hz)
  · obtain ⟨W2, C2, hz, hT1⟩ := h
    obtain rfl := (hZ _ _ _ hz).e1
    refine ev_catch (pre := []) (name := cl_IO) rfl (fun z hz => absurd hz List.not_mem_nil) (by decide) (by decide) (by decide) lkL_21 h4.cO (fun q => ?_)
    refine ev_astore_n (lv' := [some (.ref (W 0 0)), some (.int x1), some (.ref a), some (.ref q)]) dL_find_12 rfl (Nat.le_of_ble_eq_true rfl) rfl ?_
    refine ev_iconst (v := nI (0 + 1)) dL_find_13 (by decide) ?_
    exact ev_iret dL_find_14 rfl rfl (la_P.ex (j := 0) hT1 hK hg rfl hz)
theorem wr_ward {G : ev_G} {K : Nat → Prop} {W : cw_W} {D0 : Nat} {C : mo_S} {mc ms a : Nat} {f : Nat → Int64} {g : ev_H} {Z : (Option Value ⊕ String) → cw_W → mo_S → Prop} {x1 : Int32} (hE : ev_En G) (h4 : ev_En4 G D0) (hN : la_N G) (hc : cw_R G W 64 mc ms mX11_ward [.ref (W 0 0), .int x1] C Z) (hZ : ∀ o W2 C2, Z o W2 C2 → la_ok [cl_IA] o) (hK : K a) (hT : cw_T G K g W g C) (hg : g a = some (.inl (G.2.2.2 1, 1, .inr (.inl f)))) : ev_C G 65 mc ms mL_ward [.ref (W 0 0), .int x1, .ref a] g (la_P G K [cl_IA] Z a g) := by
  have _hN := hN
  refine ev_startH (lv0 := [some (.ref (W 0 0)), some (.int x1), some (.ref a), none]) (by decide +kernel) rfl (Nat.le_of_ble_eq_true rfl) rfl ?_
  refine ev_aload_n dL_ward_0 rfl rfl ?_
  refine ev_iconst (v := 0) dL_ward_1 (by decide) ?_
  refine ev_aload_n dL_ward_2 rfl rfl ?_
  refine ev_iload_n dL_ward_3 rfl rfl ?_
  refine ev_callV (d' := 64) (b := 0) (k0 := 0) (r := W 0 0) (As := [.int x1]) (rest := [.int 0, .ref a]) hE dL_ward_4 rfl kX11_ward rfl lL_40 iX11_ward vX11_ward ((hT.at (k := 0) (i := 0) rfl).1 _ _ ob0) rfl (Nat.le_of_ble_eq_true rfl) (by decide) (hc K g g hT) (by omega) (by omega) (fun v g1 h => ?_) (fun e g1 h => ?_)
  · obtain ⟨W2, C2, hz, hT1⟩ := h
    obtain ⟨y, rfl⟩ := (hZ _ _ _ hz).v
    refine ev_i2l dL_ward_7 ?_
    refine ev_last hE dL_ward_8 (by rw [(hT1.2.1 a hK).1]; exact hg) (vp_in_nI (n := 0) (by decide) (by decide)) ?_
    refine ev_goto (tgt := 15) dL_ward_9 (by decide) ?_
    refine ev_iconst (v := 0) dL_ward_15 (by decide) ?_
    exact ev_iret dL_ward_16 rfl rfl (la_P.ok hT1 hK hz)
  · obtain ⟨W2, C2, hz, hT1⟩ := h
    obtain rfl := (hZ _ _ _ hz).e1
    refine ev_catch (pre := []) (name := cl_IA) rfl (fun z hz => absurd hz List.not_mem_nil) (by decide) (by decide) (by decide) lkL_13 h4.cA (fun q => ?_)
    refine ev_astore_n (lv' := [some (.ref (W 0 0)), some (.int x1), some (.ref a), some (.ref q)]) dL_ward_12 rfl (Nat.le_of_ble_eq_true rfl) rfl ?_
    refine ev_iconst (v := nI (0 + 1)) dL_ward_13 (by decide) ?_
    exact ev_iret dL_ward_14 rfl rfl (la_P.ex (j := 0) hT1 hK hg rfl hz)
theorem wr_loyal {G : ev_G} {K : Nat → Prop} {W : cw_W} {D0 : Nat} {C : mo_S} {mc ms a : Nat} {f : Nat → Int64} {g : ev_H} {Z : (Option Value ⊕ String) → cw_W → mo_S → Prop} {x1 x2 x3 : Int32} (hE : ev_En G) (h4 : ev_En4 G D0) (hN : la_N G) (hc : cw_R G W 64 mc ms mX11_loyal [.ref (W 0 0), .int x1, .int x2, .int x3] C Z) (hZ : ∀ o W2 C2, Z o W2 C2 → la_ok [cl_IO, cl_IA] o) (hK : K a) (hT : cw_T G K g W g C) (hg : g a = some (.inl (G.2.2.2 1, 1, .inr (.inl f)))) : ev_C G 65 mc ms mL_loyal [.ref (W 0 0), .int x1, .int x2, .int x3, .ref a] g (la_P G K [cl_IO, cl_IA] Z a g) := by
  have _hN := hN
  refine ev_startH (lv0 := [some (.ref (W 0 0)), some (.int x1), some (.int x2), some (.int x3), some (.ref a), none]) (by decide +kernel) rfl (Nat.le_of_ble_eq_true rfl) rfl ?_
  refine ev_aload dL_loyal_0 rfl ?_
  refine ev_iconst (v := 0) dL_loyal_2 (by decide) ?_
  refine ev_aload_n dL_loyal_3 rfl rfl ?_
  refine ev_iload_n dL_loyal_4 rfl rfl ?_
  refine ev_iload_n dL_loyal_5 rfl rfl ?_
  refine ev_iload_n dL_loyal_6 rfl rfl ?_
  refine ev_callV (d' := 64) (b := 0) (k0 := 0) (r := W 0 0) (As := [.int x1, .int x2, .int x3]) (rest := [.int 0, .ref a]) hE dL_loyal_7 rfl kX11_loyal rfl lL_43 iX11_loyal vX11_loyal ((hT.at (k := 0) (i := 0) rfl).1 _ _ ob0) rfl (Nat.le_of_ble_eq_true rfl) (by decide) (hc K g g hT) (by omega) (by omega) (fun v g1 h => ?_) (fun e g1 h => ?_)
  · obtain ⟨W2, C2, hz, hT1⟩ := h
    obtain ⟨y, rfl⟩ := (hZ _ _ _ hz).v
    refine ev_i2l dL_loyal_10 ?_
    refine ev_last hE dL_loyal_11 (by rw [(hT1.2.1 a hK).1]; exact hg) (vp_in_nI (n := 0) (by decide) (by decide)) ?_
    refine ev_goto (tgt := 23) dL_loyal_12 (by decide) ?_
    refine ev_iconst (v := 0) dL_loyal_23 (by decide) ?_
    exact ev_iret dL_loyal_24 rfl rfl (la_P.ok hT1 hK hz)
  · obtain ⟨W2, C2, hz, hT1⟩ := h
    rcases (hZ _ _ _ hz).e2 with rfl | rfl
    · refine ev_catch (pre := []) (name := cl_IO) rfl (fun z hz => absurd hz List.not_mem_nil) (by decide) (by decide) (by decide) lkL_21 h4.cO (fun q => ?_)
      refine ev_astore (lv' := [some (.ref (W 0 0)), some (.int x1), some (.int x2), some (.int x3), some (.ref a), some (.ref q)]) dL_loyal_15 (Nat.le_of_ble_eq_true rfl) rfl ?_
      refine ev_iconst (v := nI (0 + 1)) dL_loyal_17 (by decide) ?_
      exact ev_iret dL_loyal_18 rfl rfl (la_P.ex (j := 0) hT1 hK hg rfl hz)
    · refine ev_catch (pre := [(0, 12, 15, 21)]) (name := cl_IA) rfl (fun z hz => by rw [List.mem_singleton.mp hz]; exact ⟨by decide, cl_IO, lkL_21, hN.1⟩) (by decide) (by decide) (by decide) lkL_13 h4.cA (fun q => ?_)
      refine ev_astore (lv' := [some (.ref (W 0 0)), some (.int x1), some (.int x2), some (.int x3), some (.ref a), some (.ref q)]) dL_loyal_19 (Nat.le_of_ble_eq_true rfl) rfl ?_
      refine ev_iconst (v := nI (1 + 1)) dL_loyal_21 (by decide) ?_
      exact ev_iret dL_loyal_22 rfl rfl (la_P.ex (j := 1) hT1 hK hg rfl hz)
theorem wr_demand {G : ev_G} {K : Nat → Prop} {W : cw_W} {D0 : Nat} {C : mo_S} {mc ms a : Nat} {f : Nat → Int64} {g : ev_H} {Z : (Option Value ⊕ String) → cw_W → mo_S → Prop} {x1 x2 : Int32} (hE : ev_En G) (h4 : ev_En4 G D0) (hN : la_N G) (hc : cw_R G W 64 mc ms mX11_demand [.ref (W 0 0), .int x1, .int x2] C Z) (hZ : ∀ o W2 C2, Z o W2 C2 → la_ok [cl_IO, cl_IA] o) (hK : K a) (hT : cw_T G K g W g C) (hg : g a = some (.inl (G.2.2.2 1, 1, .inr (.inl f)))) : ev_C G 65 mc ms mL_demand [.ref (W 0 0), .int x1, .int x2, .ref a] g (la_P G K [cl_IO, cl_IA] Z a g) := by
  have _hN := hN
  refine ev_startH (lv0 := [some (.ref (W 0 0)), some (.int x1), some (.int x2), some (.ref a), none]) (by decide +kernel) rfl (Nat.le_of_ble_eq_true rfl) rfl ?_
  refine ev_aload_n dL_demand_0 rfl rfl ?_
  refine ev_iconst (v := 0) dL_demand_1 (by decide) ?_
  refine ev_aload_n dL_demand_2 rfl rfl ?_
  refine ev_iload_n dL_demand_3 rfl rfl ?_
  refine ev_iload_n dL_demand_4 rfl rfl ?_
  refine ev_callV (d' := 64) (b := 0) (k0 := 0) (r := W 0 0) (As := [.int x1, .int x2]) (rest := [.int 0, .ref a]) hE dL_demand_5 rfl kX11_demand rfl lL_46 iX11_demand vX11_demand ((hT.at (k := 0) (i := 0) rfl).1 _ _ ob0) rfl (Nat.le_of_ble_eq_true rfl) (by decide) (hc K g g hT) (by omega) (by omega) (fun v g1 h => ?_) (fun e g1 h => ?_)
  · obtain ⟨W2, C2, hz, hT1⟩ := h
    obtain ⟨y, rfl⟩ := (hZ _ _ _ hz).v
    refine ev_i2l dL_demand_8 ?_
    refine ev_last hE dL_demand_9 (by rw [(hT1.2.1 a hK).1]; exact hg) (vp_in_nI (n := 0) (by decide) (by decide)) ?_
    refine ev_goto (tgt := 21) dL_demand_10 (by decide) ?_
    refine ev_iconst (v := 0) dL_demand_21 (by decide) ?_
    exact ev_iret dL_demand_22 rfl rfl (la_P.ok hT1 hK hz)
  · obtain ⟨W2, C2, hz, hT1⟩ := h
    rcases (hZ _ _ _ hz).e2 with rfl | rfl
    · refine ev_catch (pre := []) (name := cl_IO) rfl (fun z hz => absurd hz List.not_mem_nil) (by decide) (by decide) (by decide) lkL_21 h4.cO (fun q => ?_)
      refine ev_astore (lv' := [some (.ref (W 0 0)), some (.int x1), some (.int x2), some (.ref a), some (.ref q)]) dL_demand_13 (Nat.le_of_ble_eq_true rfl) rfl ?_
      refine ev_iconst (v := nI (0 + 1)) dL_demand_15 (by decide) ?_
      exact ev_iret dL_demand_16 rfl rfl (la_P.ex (j := 0) hT1 hK hg rfl hz)
    · refine ev_catch (pre := [(0, 10, 13, 21)]) (name := cl_IA) rfl (fun z hz => by rw [List.mem_singleton.mp hz]; exact ⟨by decide, cl_IO, lkL_21, hN.1⟩) (by decide) (by decide) (by decide) lkL_13 h4.cA (fun q => ?_)
      refine ev_astore (lv' := [some (.ref (W 0 0)), some (.int x1), some (.int x2), some (.ref a), some (.ref q)]) dL_demand_17 (Nat.le_of_ble_eq_true rfl) rfl ?_
      refine ev_iconst (v := nI (1 + 1)) dL_demand_19 (by decide) ?_
      exact ev_iret dL_demand_20 rfl rfl (la_P.ex (j := 1) hT1 hK hg rfl hz)
theorem wr_force {G : ev_G} {K : Nat → Prop} {W : cw_W} {D0 : Nat} {C : mo_S} {mc ms a : Nat} {f : Nat → Int64} {g : ev_H} {Z : (Option Value ⊕ String) → cw_W → mo_S → Prop} {x1 : Int32} (hE : ev_En G) (h4 : ev_En4 G D0) (hN : la_N G) (hc : cw_R G W 64 mc ms mX11_force [.ref (W 0 0), .int x1] C Z) (hZ : ∀ o W2 C2, Z o W2 C2 → la_ok [cl_IA] o) (hK : K a) (hT : cw_T G K g W g C) (hg : g a = some (.inl (G.2.2.2 1, 1, .inr (.inl f)))) : ev_C G 65 mc ms mL_force [.ref (W 0 0), .int x1, .ref a] g (la_P G K [cl_IA] Z a g) := by
  have _hN := hN
  refine ev_startH (lv0 := [some (.ref (W 0 0)), some (.int x1), some (.ref a), none]) (by decide +kernel) rfl (Nat.le_of_ble_eq_true rfl) rfl ?_
  refine ev_aload_n dL_force_0 rfl rfl ?_
  refine ev_iconst (v := 0) dL_force_1 (by decide) ?_
  refine ev_aload_n dL_force_2 rfl rfl ?_
  refine ev_iload_n dL_force_3 rfl rfl ?_
  refine ev_callV (d' := 64) (b := 0) (k0 := 0) (r := W 0 0) (As := [.int x1]) (rest := [.int 0, .ref a]) hE dL_force_4 rfl kX11_force rfl lL_52 iX11_force vX11_force ((hT.at (k := 0) (i := 0) rfl).1 _ _ ob0) rfl (Nat.le_of_ble_eq_true rfl) (by decide) (hc K g g hT) (by omega) (by omega) (fun v g1 h => ?_) (fun e g1 h => ?_)
  · obtain ⟨W2, C2, hz, hT1⟩ := h
    obtain ⟨y, rfl⟩ := (hZ _ _ _ hz).v
    refine ev_i2l dL_force_7 ?_
    refine ev_last hE dL_force_8 (by rw [(hT1.2.1 a hK).1]; exact hg) (vp_in_nI (n := 0) (by decide) (by decide)) ?_
    refine ev_goto (tgt := 15) dL_force_9 (by decide) ?_
    refine ev_iconst (v := 0) dL_force_15 (by decide) ?_
    exact ev_iret dL_force_16 rfl rfl (la_P.ok hT1 hK hz)
  · obtain ⟨W2, C2, hz, hT1⟩ := h
    obtain rfl := (hZ _ _ _ hz).e1
    refine ev_catch (pre := []) (name := cl_IA) rfl (fun z hz => absurd hz List.not_mem_nil) (by decide) (by decide) (by decide) lkL_13 h4.cA (fun q => ?_)
    refine ev_astore_n (lv' := [some (.ref (W 0 0)), some (.int x1), some (.ref a), some (.ref q)]) dL_force_12 rfl (Nat.le_of_ble_eq_true rfl) rfl ?_
    refine ev_iconst (v := nI (0 + 1)) dL_force_13 (by decide) ?_
    exact ev_iret dL_force_14 rfl rfl (la_P.ex (j := 0) hT1 hK hg rfl hz)
theorem wr_bid {G : ev_G} {K : Nat → Prop} {W : cw_W} {D0 : Nat} {C : mo_S} {mc ms a : Nat} {f : Nat → Int64} {g : ev_H} {Z : (Option Value ⊕ String) → cw_W → mo_S → Prop} {x1 x2 x3 : Int32} (hE : ev_En G) (h4 : ev_En4 G D0) (hN : la_N G) (hc : cw_R G W 64 mc ms mX11_bid [.ref (W 0 0), .int x1, .int x2, .int x3] C Z) (hZ : ∀ o W2 C2, Z o W2 C2 → la_ok [cl_IO, cl_IA] o) (hK : K a) (hT : cw_T G K g W g C) (hg : g a = some (.inl (G.2.2.2 1, 1, .inr (.inl f)))) : ev_C G 65 mc ms mL_bid [.ref (W 0 0), .int x1, .int x2, .int x3, .ref a] g (la_P G K [cl_IO, cl_IA] Z a g) := by
  have _hN := hN
  refine ev_startH (lv0 := [some (.ref (W 0 0)), some (.int x1), some (.int x2), some (.int x3), some (.ref a), none]) (by decide +kernel) rfl (Nat.le_of_ble_eq_true rfl) rfl ?_
  refine ev_aload dL_bid_0 rfl ?_
  refine ev_iconst (v := 0) dL_bid_2 (by decide) ?_
  refine ev_aload_n dL_bid_3 rfl rfl ?_
  refine ev_iload_n dL_bid_4 rfl rfl ?_
  refine ev_iload_n dL_bid_5 rfl rfl ?_
  refine ev_iload_n dL_bid_6 rfl rfl ?_
  refine ev_callV (d' := 64) (b := 0) (k0 := 0) (r := W 0 0) (As := [.int x1, .int x2, .int x3]) (rest := [.int 0, .ref a]) hE dL_bid_7 rfl kX11_bid rfl lL_58 iX11_bid vX11_bid ((hT.at (k := 0) (i := 0) rfl).1 _ _ ob0) rfl (Nat.le_of_ble_eq_true rfl) (by decide) (hc K g g hT) (by omega) (by omega) (fun v g1 h => ?_) (fun e g1 h => ?_)
  · obtain ⟨W2, C2, hz, hT1⟩ := h
    obtain ⟨y, rfl⟩ := (hZ _ _ _ hz).v
    refine ev_i2l dL_bid_10 ?_
    refine ev_last hE dL_bid_11 (by rw [(hT1.2.1 a hK).1]; exact hg) (vp_in_nI (n := 0) (by decide) (by decide)) ?_
    refine ev_goto (tgt := 23) dL_bid_12 (by decide) ?_
    refine ev_iconst (v := 0) dL_bid_23 (by decide) ?_
    exact ev_iret dL_bid_24 rfl rfl (la_P.ok hT1 hK hz)
  · obtain ⟨W2, C2, hz, hT1⟩ := h
    rcases (hZ _ _ _ hz).e2 with rfl | rfl
    · refine ev_catch (pre := []) (name := cl_IO) rfl (fun z hz => absurd hz List.not_mem_nil) (by decide) (by decide) (by decide) lkL_21 h4.cO (fun q => ?_)
      refine ev_astore (lv' := [some (.ref (W 0 0)), some (.int x1), some (.int x2), some (.int x3), some (.ref a), some (.ref q)]) dL_bid_15 (Nat.le_of_ble_eq_true rfl) rfl ?_
      refine ev_iconst (v := nI (0 + 1)) dL_bid_17 (by decide) ?_
      exact ev_iret dL_bid_18 rfl rfl (la_P.ex (j := 0) hT1 hK hg rfl hz)
    · refine ev_catch (pre := [(0, 12, 15, 21)]) (name := cl_IA) rfl (fun z hz => by rw [List.mem_singleton.mp hz]; exact ⟨by decide, cl_IO, lkL_21, hN.1⟩) (by decide) (by decide) (by decide) lkL_13 h4.cA (fun q => ?_)
      refine ev_astore (lv' := [some (.ref (W 0 0)), some (.int x1), some (.int x2), some (.int x3), some (.ref a), some (.ref q)]) dL_bid_19 (Nat.le_of_ble_eq_true rfl) rfl ?_
      refine ev_iconst (v := nI (1 + 1)) dL_bid_21 (by decide) ?_
      exact ev_iret dL_bid_22 rfl rfl (la_P.ex (j := 1) hT1 hK hg rfl hz)
theorem wr_swap {G : ev_G} {K : Nat → Prop} {W : cw_W} {D0 : Nat} {C : mo_S} {mc ms a : Nat} {f : Nat → Int64} {g : ev_H} {Z : (Option Value ⊕ String) → cw_W → mo_S → Prop} {x1 x2 x3 : Int32} (hE : ev_En G) (h4 : ev_En4 G D0) (hN : la_N G) (hc : cw_R G W 64 mc ms mX11_swap [.ref (W 0 0), .int x1, .int x2, .int x3] C Z) (hZ : ∀ o W2 C2, Z o W2 C2 → la_ok [cl_IO, cl_IA] o) (hK : K a) (hT : cw_T G K g W g C) (hg : g a = some (.inl (G.2.2.2 1, 1, .inr (.inl f)))) : ev_C G 65 mc ms mL_swap [.ref (W 0 0), .int x1, .int x2, .int x3, .ref a] g (la_P G K [cl_IO, cl_IA] Z a g) := by
  have _hN := hN
  refine ev_startH (lv0 := [some (.ref (W 0 0)), some (.int x1), some (.int x2), some (.int x3), some (.ref a), none]) (by decide +kernel) rfl (Nat.le_of_ble_eq_true rfl) rfl ?_
  refine ev_aload dL_swap_0 rfl ?_
  refine ev_iconst (v := 0) dL_swap_2 (by decide) ?_
  refine ev_aload_n dL_swap_3 rfl rfl ?_
  refine ev_iload_n dL_swap_4 rfl rfl ?_
  refine ev_iload_n dL_swap_5 rfl rfl ?_
  refine ev_iload_n dL_swap_6 rfl rfl ?_
  refine ev_callV (d' := 64) (b := 0) (k0 := 0) (r := W 0 0) (As := [.int x1, .int x2, .int x3]) (rest := [.int 0, .ref a]) hE dL_swap_7 rfl kX11_swap rfl lL_67 iX11_swap vX11_swap ((hT.at (k := 0) (i := 0) rfl).1 _ _ ob0) rfl (Nat.le_of_ble_eq_true rfl) (by decide) (hc K g g hT) (by omega) (by omega) (fun v g1 h => ?_) (fun e g1 h => ?_)
  · obtain ⟨W2, C2, hz, hT1⟩ := h
    obtain ⟨y, rfl⟩ := (hZ _ _ _ hz).v
    refine ev_i2l dL_swap_10 ?_
    refine ev_last hE dL_swap_11 (by rw [(hT1.2.1 a hK).1]; exact hg) (vp_in_nI (n := 0) (by decide) (by decide)) ?_
    refine ev_goto (tgt := 23) dL_swap_12 (by decide) ?_
    refine ev_iconst (v := 0) dL_swap_23 (by decide) ?_
    exact ev_iret dL_swap_24 rfl rfl (la_P.ok hT1 hK hz)
  · obtain ⟨W2, C2, hz, hT1⟩ := h
    rcases (hZ _ _ _ hz).e2 with rfl | rfl
    · refine ev_catch (pre := []) (name := cl_IO) rfl (fun z hz => absurd hz List.not_mem_nil) (by decide) (by decide) (by decide) lkL_21 h4.cO (fun q => ?_)
      refine ev_astore (lv' := [some (.ref (W 0 0)), some (.int x1), some (.int x2), some (.int x3), some (.ref a), some (.ref q)]) dL_swap_15 (Nat.le_of_ble_eq_true rfl) rfl ?_
      refine ev_iconst (v := nI (0 + 1)) dL_swap_17 (by decide) ?_
      exact ev_iret dL_swap_18 rfl rfl (la_P.ex (j := 0) hT1 hK hg rfl hz)
    · refine ev_catch (pre := [(0, 12, 15, 21)]) (name := cl_IA) rfl (fun z hz => by rw [List.mem_singleton.mp hz]; exact ⟨by decide, cl_IO, lkL_21, hN.1⟩) (by decide) (by decide) (by decide) lkL_13 h4.cA (fun q => ?_)
      refine ev_astore (lv' := [some (.ref (W 0 0)), some (.int x1), some (.int x2), some (.int x3), some (.ref a), some (.ref q)]) dL_swap_19 (Nat.le_of_ble_eq_true rfl) rfl ?_
      refine ev_iconst (v := nI (1 + 1)) dL_swap_21 (by decide) ?_
      exact ev_iret dL_swap_22 rfl rfl (la_P.ex (j := 1) hT1 hK hg rfl hz)
theorem wr_netted {G : ev_G} {K : Nat → Prop} {W : cw_W} {D0 : Nat} {C : mo_S} {mc ms a : Nat} {f : Nat → Int64} {g : ev_H} {Z : (Option Value ⊕ String) → cw_W → mo_S → Prop} {x1 x2 : Int32} (hE : ev_En G) (h4 : ev_En4 G D0) (hN : la_N G) (hc : cw_R G W 64 mc ms mX11_netted [.ref (W 0 0), .int x1, .int x2] C Z) (hZ : ∀ o W2 C2, Z o W2 C2 → la_ok [cl_IO] o) (hK : K a) (hT : cw_T G K g W g C) (hg : g a = some (.inl (G.2.2.2 1, 1, .inr (.inl f)))) : ev_C G 65 mc ms mL_netted [.ref (W 0 0), .int x1, .int x2, .ref a] g (la_P G K [cl_IO] Z a g) := by
  have _hN := hN
  refine ev_startH (lv0 := [some (.ref (W 0 0)), some (.int x1), some (.int x2), some (.ref a), none]) (by decide +kernel) rfl (Nat.le_of_ble_eq_true rfl) rfl ?_
  refine ev_aload_n dL_netted_0 rfl rfl ?_
  refine ev_iconst (v := 0) dL_netted_1 (by decide) ?_
  refine ev_aload_n dL_netted_2 rfl rfl ?_
  refine ev_iload_n dL_netted_3 rfl rfl ?_
  refine ev_iload_n dL_netted_4 rfl rfl ?_
  refine ev_callV (d' := 64) (b := 0) (k0 := 0) (r := W 0 0) (As := [.int x1, .int x2]) (rest := [.int 0, .ref a]) hE dL_netted_5 rfl kX11_netted rfl lL_70 iX11_netted vX11_netted ((hT.at (k := 0) (i := 0) rfl).1 _ _ ob0) rfl (Nat.le_of_ble_eq_true rfl) (by decide) (hc K g g hT) (by omega) (by omega) (fun v g1 h => ?_) (fun e g1 h => ?_)
  · obtain ⟨W2, C2, hz, hT1⟩ := h
    obtain ⟨y, rfl⟩ := (hZ _ _ _ hz).v
    refine ev_i2l dL_netted_8 ?_
    refine ev_last hE dL_netted_9 (by rw [(hT1.2.1 a hK).1]; exact hg) (vp_in_nI (n := 0) (by decide) (by decide)) ?_
    refine ev_goto (tgt := 17) dL_netted_10 (by decide) ?_
    refine ev_iconst (v := 0) dL_netted_17 (by decide) ?_
    exact ev_iret dL_netted_18 rfl rfl (la_P.ok hT1 hK hz)
  · obtain ⟨W2, C2, hz, hT1⟩ := h
    obtain rfl := (hZ _ _ _ hz).e1
    refine ev_catch (pre := []) (name := cl_IO) rfl (fun z hz => absurd hz List.not_mem_nil) (by decide) (by decide) (by decide) lkL_21 h4.cO (fun q => ?_)
    refine ev_astore (lv' := [some (.ref (W 0 0)), some (.int x1), some (.int x2), some (.ref a), some (.ref q)]) dL_netted_13 (Nat.le_of_ble_eq_true rfl) rfl ?_
    refine ev_iconst (v := nI (0 + 1)) dL_netted_15 (by decide) ?_
    exact ev_iret dL_netted_16 rfl rfl (la_P.ex (j := 0) hT1 hK hg rfl hz)
theorem wr_breach {G : ev_G} {K : Nat → Prop} {W : cw_W} {D0 : Nat} {C : mo_S} {mc ms a : Nat} {f : Nat → Int64} {g : ev_H} {Z : (Option Value ⊕ String) → cw_W → mo_S → Prop} {x1 x2 : Int32} (hE : ev_En G) (h4 : ev_En4 G D0) (hN : la_N G) (hc : cw_R G W 64 mc ms mX11_breach [.ref (W 0 0), .int x1, .int x2] C Z) (hZ : ∀ o W2 C2, Z o W2 C2 → la_ok [cl_IO, cl_IA] o) (hK : K a) (hT : cw_T G K g W g C) (hg : g a = some (.inl (G.2.2.2 1, 1, .inr (.inl f)))) : ev_C G 65 mc ms mL_breach [.ref (W 0 0), .int x1, .int x2, .ref a] g (la_P G K [cl_IO, cl_IA] Z a g) := by
  have _hN := hN
  refine ev_startH (lv0 := [some (.ref (W 0 0)), some (.int x1), some (.int x2), some (.ref a), none]) (by decide +kernel) rfl (Nat.le_of_ble_eq_true rfl) rfl ?_
  refine ev_aload_n dL_breach_0 rfl rfl ?_
  refine ev_iconst (v := 0) dL_breach_1 (by decide) ?_
  refine ev_aload_n dL_breach_2 rfl rfl ?_
  refine ev_iload_n dL_breach_3 rfl rfl ?_
  refine ev_iload_n dL_breach_4 rfl rfl ?_
  refine ev_callV (d' := 64) (b := 0) (k0 := 0) (r := W 0 0) (As := [.int x1, .int x2]) (rest := [.int 0, .ref a]) hE dL_breach_5 rfl kX11_breach rfl lL_79 iX11_breach vX11_breach ((hT.at (k := 0) (i := 0) rfl).1 _ _ ob0) rfl (Nat.le_of_ble_eq_true rfl) (by decide) (hc K g g hT) (by omega) (by omega) (fun v g1 h => ?_) (fun e g1 h => ?_)
  · obtain ⟨W2, C2, hz, hT1⟩ := h
    obtain ⟨y, rfl⟩ := (hZ _ _ _ hz).v
    refine ev_i2l dL_breach_8 ?_
    refine ev_last hE dL_breach_9 (by rw [(hT1.2.1 a hK).1]; exact hg) (vp_in_nI (n := 0) (by decide) (by decide)) ?_
    refine ev_goto (tgt := 21) dL_breach_10 (by decide) ?_
    refine ev_iconst (v := 0) dL_breach_21 (by decide) ?_
    exact ev_iret dL_breach_22 rfl rfl (la_P.ok hT1 hK hz)
  · obtain ⟨W2, C2, hz, hT1⟩ := h
    rcases (hZ _ _ _ hz).e2 with rfl | rfl
    · refine ev_catch (pre := []) (name := cl_IO) rfl (fun z hz => absurd hz List.not_mem_nil) (by decide) (by decide) (by decide) lkL_21 h4.cO (fun q => ?_)
      refine ev_astore (lv' := [some (.ref (W 0 0)), some (.int x1), some (.int x2), some (.ref a), some (.ref q)]) dL_breach_13 (Nat.le_of_ble_eq_true rfl) rfl ?_
      refine ev_iconst (v := nI (0 + 1)) dL_breach_15 (by decide) ?_
      exact ev_iret dL_breach_16 rfl rfl (la_P.ex (j := 0) hT1 hK hg rfl hz)
    · refine ev_catch (pre := [(0, 10, 13, 21)]) (name := cl_IA) rfl (fun z hz => by rw [List.mem_singleton.mp hz]; exact ⟨by decide, cl_IO, lkL_21, hN.1⟩) (by decide) (by decide) (by decide) lkL_13 h4.cA (fun q => ?_)
      refine ev_astore (lv' := [some (.ref (W 0 0)), some (.int x1), some (.int x2), some (.ref a), some (.ref q)]) dL_breach_17 (Nat.le_of_ble_eq_true rfl) rfl ?_
      refine ev_iconst (v := nI (1 + 1)) dL_breach_19 (by decide) ?_
      exact ev_iret dL_breach_20 rfl rfl (la_P.ex (j := 1) hT1 hK hg rfl hz)
theorem wr_source {G : ev_G} {K : Nat → Prop} {W : cw_W} {D0 : Nat} {C : mo_S} {mc ms a : Nat} {f : Nat → Int64} {g : ev_H} {Z : (Option Value ⊕ String) → cw_W → mo_S → Prop} {x1 x2 x3 : Int32} (hE : ev_En G) (h4 : ev_En4 G D0) (hN : la_N G) (hc : cw_R G W 64 mc ms mX11_source [.ref (W 0 0), .int x1, .int x2, .int x3] C Z) (hZ : ∀ o W2 C2, Z o W2 C2 → la_ok [cl_IO, cl_IA] o) (hK : K a) (hT : cw_T G K g W g C) (hg : g a = some (.inl (G.2.2.2 1, 1, .inr (.inl f)))) : ev_C G 65 mc ms mL_source [.ref (W 0 0), .int x1, .int x2, .int x3, .ref a] g (la_P G K [cl_IO, cl_IA] Z a g) := by
  have _hN := hN
  refine ev_startH (lv0 := [some (.ref (W 0 0)), some (.int x1), some (.int x2), some (.int x3), some (.ref a), none]) (by decide +kernel) rfl (Nat.le_of_ble_eq_true rfl) rfl ?_
  refine ev_aload dL_source_0 rfl ?_
  refine ev_iconst (v := 0) dL_source_2 (by decide) ?_
  refine ev_aload_n dL_source_3 rfl rfl ?_
  refine ev_iload_n dL_source_4 rfl rfl ?_
  refine ev_iload_n dL_source_5 rfl rfl ?_
  refine ev_iload_n dL_source_6 rfl rfl ?_
  refine ev_callV (d' := 64) (b := 0) (k0 := 0) (r := W 0 0) (As := [.int x1, .int x2, .int x3]) (rest := [.int 0, .ref a]) hE dL_source_7 rfl kX11_source rfl lL_82 iX11_source vX11_source ((hT.at (k := 0) (i := 0) rfl).1 _ _ ob0) rfl (Nat.le_of_ble_eq_true rfl) (by decide) (hc K g g hT) (by omega) (by omega) (fun v g1 h => ?_) (fun e g1 h => ?_)
  · obtain ⟨W2, C2, hz, hT1⟩ := h
    obtain ⟨y, rfl⟩ := (hZ _ _ _ hz).v
    refine ev_i2l dL_source_10 ?_
    refine ev_last hE dL_source_11 (by rw [(hT1.2.1 a hK).1]; exact hg) (vp_in_nI (n := 0) (by decide) (by decide)) ?_
    refine ev_goto (tgt := 23) dL_source_12 (by decide) ?_
    refine ev_iconst (v := 0) dL_source_23 (by decide) ?_
    exact ev_iret dL_source_24 rfl rfl (la_P.ok hT1 hK hz)
  · obtain ⟨W2, C2, hz, hT1⟩ := h
    rcases (hZ _ _ _ hz).e2 with rfl | rfl
    · refine ev_catch (pre := []) (name := cl_IO) rfl (fun z hz => absurd hz List.not_mem_nil) (by decide) (by decide) (by decide) lkL_21 h4.cO (fun q => ?_)
      refine ev_astore (lv' := [some (.ref (W 0 0)), some (.int x1), some (.int x2), some (.int x3), some (.ref a), some (.ref q)]) dL_source_15 (Nat.le_of_ble_eq_true rfl) rfl ?_
      refine ev_iconst (v := nI (0 + 1)) dL_source_17 (by decide) ?_
      exact ev_iret dL_source_18 rfl rfl (la_P.ex (j := 0) hT1 hK hg rfl hz)
    · refine ev_catch (pre := [(0, 12, 15, 21)]) (name := cl_IA) rfl (fun z hz => by rw [List.mem_singleton.mp hz]; exact ⟨by decide, cl_IO, lkL_21, hN.1⟩) (by decide) (by decide) (by decide) lkL_13 h4.cA (fun q => ?_)
      refine ev_astore (lv' := [some (.ref (W 0 0)), some (.int x1), some (.int x2), some (.int x3), some (.ref a), some (.ref q)]) dL_source_19 (Nat.le_of_ble_eq_true rfl) rfl ?_
      refine ev_iconst (v := nI (1 + 1)) dL_source_21 (by decide) ?_
      exact ev_iret dL_source_22 rfl rfl (la_P.ex (j := 1) hT1 hK hg rfl hz)
theorem wr_appeal {G : ev_G} {K : Nat → Prop} {W : cw_W} {D0 : Nat} {C : mo_S} {mc ms a : Nat} {f : Nat → Int64} {g : ev_H} {Z : (Option Value ⊕ String) → cw_W → mo_S → Prop} {x1 x2 : Int32} (hE : ev_En G) (h4 : ev_En4 G D0) (hN : la_N G) (hc : cw_R G W 64 mc ms mX11_appeal [.ref (W 0 0), .int x1, .int x2] C Z) (hZ : ∀ o W2 C2, Z o W2 C2 → la_ok [cl_IO, cl_IA] o) (hK : K a) (hT : cw_T G K g W g C) (hg : g a = some (.inl (G.2.2.2 1, 1, .inr (.inl f)))) : ev_C G 65 mc ms mL_appeal [.ref (W 0 0), .int x1, .int x2, .ref a] g (la_P G K [cl_IO, cl_IA] Z a g) := by
  have _hN := hN
  refine ev_startH (lv0 := [some (.ref (W 0 0)), some (.int x1), some (.int x2), some (.ref a), none]) (by decide +kernel) rfl (Nat.le_of_ble_eq_true rfl) rfl ?_
  refine ev_aload_n dL_appeal_0 rfl rfl ?_
  refine ev_iconst (v := 0) dL_appeal_1 (by decide) ?_
  refine ev_aload_n dL_appeal_2 rfl rfl ?_
  refine ev_iload_n dL_appeal_3 rfl rfl ?_
  refine ev_iload_n dL_appeal_4 rfl rfl ?_
  refine ev_callV (d' := 64) (b := 0) (k0 := 0) (r := W 0 0) (As := [.int x1, .int x2]) (rest := [.int 0, .ref a]) hE dL_appeal_5 rfl kX11_appeal rfl lL_88 iX11_appeal vX11_appeal ((hT.at (k := 0) (i := 0) rfl).1 _ _ ob0) rfl (Nat.le_of_ble_eq_true rfl) (by decide) (hc K g g hT) (by omega) (by omega) (fun v g1 h => ?_) (fun e g1 h => ?_)
  · obtain ⟨W2, C2, hz, hT1⟩ := h
    obtain ⟨y, rfl⟩ := (hZ _ _ _ hz).v
    refine ev_i2l dL_appeal_8 ?_
    refine ev_last hE dL_appeal_9 (by rw [(hT1.2.1 a hK).1]; exact hg) (vp_in_nI (n := 0) (by decide) (by decide)) ?_
    refine ev_goto (tgt := 21) dL_appeal_10 (by decide) ?_
    refine ev_iconst (v := 0) dL_appeal_21 (by decide) ?_
    exact ev_iret dL_appeal_22 rfl rfl (la_P.ok hT1 hK hz)
  · obtain ⟨W2, C2, hz, hT1⟩ := h
    rcases (hZ _ _ _ hz).e2 with rfl | rfl
    · refine ev_catch (pre := []) (name := cl_IO) rfl (fun z hz => absurd hz List.not_mem_nil) (by decide) (by decide) (by decide) lkL_21 h4.cO (fun q => ?_)
      refine ev_astore (lv' := [some (.ref (W 0 0)), some (.int x1), some (.int x2), some (.ref a), some (.ref q)]) dL_appeal_13 (Nat.le_of_ble_eq_true rfl) rfl ?_
      refine ev_iconst (v := nI (0 + 1)) dL_appeal_15 (by decide) ?_
      exact ev_iret dL_appeal_16 rfl rfl (la_P.ex (j := 0) hT1 hK hg rfl hz)
    · refine ev_catch (pre := [(0, 10, 13, 21)]) (name := cl_IA) rfl (fun z hz => by rw [List.mem_singleton.mp hz]; exact ⟨by decide, cl_IO, lkL_21, hN.1⟩) (by decide) (by decide) (by decide) lkL_13 h4.cA (fun q => ?_)
      refine ev_astore (lv' := [some (.ref (W 0 0)), some (.int x1), some (.int x2), some (.ref a), some (.ref q)]) dL_appeal_17 (Nat.le_of_ble_eq_true rfl) rfl ?_
      refine ev_iconst (v := nI (1 + 1)) dL_appeal_19 (by decide) ?_
      exact ev_iret dL_appeal_20 rfl rfl (la_P.ex (j := 1) hT1 hK hg rfl hz)
theorem wr_apart {G : ev_G} {K : Nat → Prop} {W : cw_W} {D0 : Nat} {C : mo_S} {mc ms a : Nat} {f : Nat → Int64} {g : ev_H} {Z : (Option Value ⊕ String) → cw_W → mo_S → Prop} {x1 x2 : Int32} (hE : ev_En G) (h4 : ev_En4 G D0) (hN : la_N G) (hc : cw_R G W 64 mc ms mX11_apart [.ref (W 0 0), .int x1, .int x2] C Z) (hZ : ∀ o W2 C2, Z o W2 C2 → la_ok [cl_IO] o) (hK : K a) (hT : cw_T G K g W g C) (hg : g a = some (.inl (G.2.2.2 1, 1, .inr (.inl f)))) : ev_C G 65 mc ms mL_apart [.ref (W 0 0), .int x1, .int x2, .ref a] g (la_P G K [cl_IO] Z a g) := by
  have _hN := hN
  refine ev_startH (lv0 := [some (.ref (W 0 0)), some (.int x1), some (.int x2), some (.ref a), none]) (by decide +kernel) rfl (Nat.le_of_ble_eq_true rfl) rfl ?_
  refine ev_aload_n dL_apart_0 rfl rfl ?_
  refine ev_iconst (v := 0) dL_apart_1 (by decide) ?_
  refine ev_aload_n dL_apart_2 rfl rfl ?_
  refine ev_iload_n dL_apart_3 rfl rfl ?_
  refine ev_iload_n dL_apart_4 rfl rfl ?_
  refine ev_callV (d' := 64) (b := 0) (k0 := 0) (r := W 0 0) (As := [.int x1, .int x2]) (rest := [.int 0, .ref a]) hE dL_apart_5 rfl kX11_apart rfl lL_94 iX11_apart vX11_apart ((hT.at (k := 0) (i := 0) rfl).1 _ _ ob0) rfl (Nat.le_of_ble_eq_true rfl) (by decide) (hc K g g hT) (by omega) (by omega) (fun v g1 h => ?_) (fun e g1 h => ?_)
  · obtain ⟨W2, C2, hz, hT1⟩ := h
    obtain ⟨y, rfl⟩ := (hZ _ _ _ hz).v
    refine ev_i2l dL_apart_8 ?_
    refine ev_last hE dL_apart_9 (by rw [(hT1.2.1 a hK).1]; exact hg) (vp_in_nI (n := 0) (by decide) (by decide)) ?_
    refine ev_goto (tgt := 17) dL_apart_10 (by decide) ?_
    refine ev_iconst (v := 0) dL_apart_17 (by decide) ?_
    exact ev_iret dL_apart_18 rfl rfl (la_P.ok hT1 hK hz)
  · obtain ⟨W2, C2, hz, hT1⟩ := h
    obtain rfl := (hZ _ _ _ hz).e1
    refine ev_catch (pre := []) (name := cl_IO) rfl (fun z hz => absurd hz List.not_mem_nil) (by decide) (by decide) (by decide) lkL_21 h4.cO (fun q => ?_)
    refine ev_astore (lv' := [some (.ref (W 0 0)), some (.int x1), some (.int x2), some (.ref a), some (.ref q)]) dL_apart_13 (Nat.le_of_ble_eq_true rfl) rfl ?_
    refine ev_iconst (v := nI (0 + 1)) dL_apart_15 (by decide) ?_
    exact ev_iret dL_apart_16 rfl rfl (la_P.ex (j := 0) hT1 hK hg rfl hz)
theorem wr_grant {G : ev_G} {K : Nat → Prop} {W : cw_W} {D0 : Nat} {C : mo_S} {mc ms a : Nat} {f : Nat → Int64} {g : ev_H} {Z : (Option Value ⊕ String) → cw_W → mo_S → Prop} {x1 x2 : Int32} (hE : ev_En G) (h4 : ev_En4 G D0) (hN : la_N G) (hc : cw_R G W 64 mc ms mX11_grant [.ref (W 0 0), .int x1, .int x2] C Z) (hZ : ∀ o W2 C2, Z o W2 C2 → la_ok [cl_IO, cl_IA] o) (hK : K a) (hT : cw_T G K g W g C) (hg : g a = some (.inl (G.2.2.2 1, 1, .inr (.inl f)))) : ev_C G 65 mc ms mL_grant [.ref (W 0 0), .int x1, .int x2, .ref a] g (la_P G K [cl_IO, cl_IA] Z a g) := by
  have _hN := hN
  refine ev_startH (lv0 := [some (.ref (W 0 0)), some (.int x1), some (.int x2), some (.ref a), none]) (by decide +kernel) rfl (Nat.le_of_ble_eq_true rfl) rfl ?_
  refine ev_aload_n dL_grant_0 rfl rfl ?_
  refine ev_iconst (v := 0) dL_grant_1 (by decide) ?_
  refine ev_aload_n dL_grant_2 rfl rfl ?_
  refine ev_iload_n dL_grant_3 rfl rfl ?_
  refine ev_iload_n dL_grant_4 rfl rfl ?_
  refine ev_callV (d' := 64) (b := 0) (k0 := 0) (r := W 0 0) (As := [.int x1, .int x2]) (rest := [.int 0, .ref a]) hE dL_grant_5 rfl kX11_grant rfl lL_97 iX11_grant vX11_grant ((hT.at (k := 0) (i := 0) rfl).1 _ _ ob0) rfl (Nat.le_of_ble_eq_true rfl) (by decide) (hc K g g hT) (by omega) (by omega) (fun v g1 h => ?_) (fun e g1 h => ?_)
  · obtain ⟨W2, C2, hz, hT1⟩ := h
    obtain ⟨y, rfl⟩ := (hZ _ _ _ hz).v
    refine ev_i2l dL_grant_8 ?_
    refine ev_last hE dL_grant_9 (by rw [(hT1.2.1 a hK).1]; exact hg) (vp_in_nI (n := 0) (by decide) (by decide)) ?_
    refine ev_goto (tgt := 21) dL_grant_10 (by decide) ?_
    refine ev_iconst (v := 0) dL_grant_21 (by decide) ?_
    exact ev_iret dL_grant_22 rfl rfl (la_P.ok hT1 hK hz)
  · obtain ⟨W2, C2, hz, hT1⟩ := h
    rcases (hZ _ _ _ hz).e2 with rfl | rfl
    · refine ev_catch (pre := []) (name := cl_IO) rfl (fun z hz => absurd hz List.not_mem_nil) (by decide) (by decide) (by decide) lkL_21 h4.cO (fun q => ?_)
      refine ev_astore (lv' := [some (.ref (W 0 0)), some (.int x1), some (.int x2), some (.ref a), some (.ref q)]) dL_grant_13 (Nat.le_of_ble_eq_true rfl) rfl ?_
      refine ev_iconst (v := nI (0 + 1)) dL_grant_15 (by decide) ?_
      exact ev_iret dL_grant_16 rfl rfl (la_P.ex (j := 0) hT1 hK hg rfl hz)
    · refine ev_catch (pre := [(0, 10, 13, 21)]) (name := cl_IA) rfl (fun z hz => by rw [List.mem_singleton.mp hz]; exact ⟨by decide, cl_IO, lkL_21, hN.1⟩) (by decide) (by decide) (by decide) lkL_13 h4.cA (fun q => ?_)
      refine ev_astore (lv' := [some (.ref (W 0 0)), some (.int x1), some (.int x2), some (.ref a), some (.ref q)]) dL_grant_17 (Nat.le_of_ble_eq_true rfl) rfl ?_
      refine ev_iconst (v := nI (1 + 1)) dL_grant_19 (by decide) ?_
      exact ev_iret dL_grant_20 rfl rfl (la_P.ex (j := 1) hT1 hK hg rfl hz)
theorem wr_correct {G : ev_G} {K : Nat → Prop} {W : cw_W} {D0 : Nat} {C : mo_S} {mc ms a : Nat} {f : Nat → Int64} {g : ev_H} {Z : (Option Value ⊕ String) → cw_W → mo_S → Prop} {x1 x2 x3 : Int32} (hE : ev_En G) (h4 : ev_En4 G D0) (hN : la_N G) (hc : cw_R G W 64 mc ms mX11_correct [.ref (W 0 0), .int x1, .int x2, .int x3] C Z) (hZ : ∀ o W2 C2, Z o W2 C2 → la_ok [cl_IO, cl_IA] o) (hK : K a) (hT : cw_T G K g W g C) (hg : g a = some (.inl (G.2.2.2 1, 1, .inr (.inl f)))) : ev_C G 65 mc ms mL_correct [.ref (W 0 0), .int x1, .int x2, .int x3, .ref a] g (la_P G K [cl_IO, cl_IA] Z a g) := by
  have _hN := hN
  refine ev_startH (lv0 := [some (.ref (W 0 0)), some (.int x1), some (.int x2), some (.int x3), some (.ref a), none]) (by decide +kernel) rfl (Nat.le_of_ble_eq_true rfl) rfl ?_
  refine ev_aload dL_correct_0 rfl ?_
  refine ev_iconst (v := 0) dL_correct_2 (by decide) ?_
  refine ev_aload_n dL_correct_3 rfl rfl ?_
  refine ev_iload_n dL_correct_4 rfl rfl ?_
  refine ev_iload_n dL_correct_5 rfl rfl ?_
  refine ev_iload_n dL_correct_6 rfl rfl ?_
  refine ev_callV (d' := 64) (b := 0) (k0 := 0) (r := W 0 0) (As := [.int x1, .int x2, .int x3]) (rest := [.int 0, .ref a]) hE dL_correct_7 rfl kX11_correct rfl lL_103 iX11_correct vX11_correct ((hT.at (k := 0) (i := 0) rfl).1 _ _ ob0) rfl (Nat.le_of_ble_eq_true rfl) (by decide) (hc K g g hT) (by omega) (by omega) (fun v g1 h => ?_) (fun e g1 h => ?_)
  · obtain ⟨W2, C2, hz, hT1⟩ := h
    obtain ⟨y, rfl⟩ := (hZ _ _ _ hz).v
    refine ev_i2l dL_correct_10 ?_
    refine ev_last hE dL_correct_11 (by rw [(hT1.2.1 a hK).1]; exact hg) (vp_in_nI (n := 0) (by decide) (by decide)) ?_
    refine ev_goto (tgt := 23) dL_correct_12 (by decide) ?_
    refine ev_iconst (v := 0) dL_correct_23 (by decide) ?_
    exact ev_iret dL_correct_24 rfl rfl (la_P.ok hT1 hK hz)
  · obtain ⟨W2, C2, hz, hT1⟩ := h
    rcases (hZ _ _ _ hz).e2 with rfl | rfl
    · refine ev_catch (pre := []) (name := cl_IO) rfl (fun z hz => absurd hz List.not_mem_nil) (by decide) (by decide) (by decide) lkL_21 h4.cO (fun q => ?_)
      refine ev_astore (lv' := [some (.ref (W 0 0)), some (.int x1), some (.int x2), some (.int x3), some (.ref a), some (.ref q)]) dL_correct_15 (Nat.le_of_ble_eq_true rfl) rfl ?_
      refine ev_iconst (v := nI (0 + 1)) dL_correct_17 (by decide) ?_
      exact ev_iret dL_correct_18 rfl rfl (la_P.ex (j := 0) hT1 hK hg rfl hz)
    · refine ev_catch (pre := [(0, 12, 15, 21)]) (name := cl_IA) rfl (fun z hz => by rw [List.mem_singleton.mp hz]; exact ⟨by decide, cl_IO, lkL_21, hN.1⟩) (by decide) (by decide) (by decide) lkL_13 h4.cA (fun q => ?_)
      refine ev_astore (lv' := [some (.ref (W 0 0)), some (.int x1), some (.int x2), some (.int x3), some (.ref a), some (.ref q)]) dL_correct_19 (Nat.le_of_ble_eq_true rfl) rfl ?_
      refine ev_iconst (v := nI (1 + 1)) dL_correct_21 (by decide) ?_
      exact ev_iret dL_correct_22 rfl rfl (la_P.ex (j := 1) hT1 hK hg rfl hz)
theorem wr_tells {G : ev_G} {K : Nat → Prop} {W : cw_W} {D0 : Nat} {C : mo_S} {mc ms a : Nat} {f : Nat → Int64} {g : ev_H} {Z : (Option Value ⊕ String) → cw_W → mo_S → Prop} {x1 x2 : Int32} (hE : ev_En G) (h4 : ev_En4 G D0) (hN : la_N G) (hc : cw_R G W 64 mc ms mX11_tells [.ref (W 0 0), .int x1, .int x2] C Z) (hZ : ∀ o W2 C2, Z o W2 C2 → la_ok [cl_IO, cl_IA] o) (hK : K a) (hT : cw_T G K g W g C) (hg : g a = some (.inl (G.2.2.2 1, 1, .inr (.inl f)))) : ev_C G 65 mc ms mL_tells [.ref (W 0 0), .int x1, .int x2, .ref a] g (la_P G K [cl_IO, cl_IA] Z a g) := by
  have _hN := hN
  refine ev_startH (lv0 := [some (.ref (W 0 0)), some (.int x1), some (.int x2), some (.ref a), none]) (by decide +kernel) rfl (Nat.le_of_ble_eq_true rfl) rfl ?_
  refine ev_aload_n dL_tells_0 rfl rfl ?_
  refine ev_iconst (v := 0) dL_tells_1 (by decide) ?_
  refine ev_aload_n dL_tells_2 rfl rfl ?_
  refine ev_iload_n dL_tells_3 rfl rfl ?_
  refine ev_iload_n dL_tells_4 rfl rfl ?_
  refine ev_callV (d' := 64) (b := 0) (k0 := 0) (r := W 0 0) (As := [.int x1, .int x2]) (rest := [.int 0, .ref a]) hE dL_tells_5 rfl kX11_tells rfl lL_55 iX11_tells vX11_tells ((hT.at (k := 0) (i := 0) rfl).1 _ _ ob0) rfl (Nat.le_of_ble_eq_true rfl) (by decide) (hc K g g hT) (by omega) (by omega) (fun v g1 h => ?_) (fun e g1 h => ?_)
  · obtain ⟨W2, C2, hz, hT1⟩ := h
    obtain ⟨y, rfl⟩ := (hZ _ _ _ hz).v
    refine ev_i2l dL_tells_8 ?_
    refine ev_last hE dL_tells_9 (by rw [(hT1.2.1 a hK).1]; exact hg) (vp_in_nI (n := 0) (by decide) (by decide)) ?_
    refine ev_goto (tgt := 21) dL_tells_10 (by decide) ?_
    refine ev_iconst (v := 0) dL_tells_21 (by decide) ?_
    exact ev_iret dL_tells_22 rfl rfl (la_P.ok hT1 hK hz)
  · obtain ⟨W2, C2, hz, hT1⟩ := h
    rcases (hZ _ _ _ hz).e2 with rfl | rfl
    · refine ev_catch (pre := []) (name := cl_IO) rfl (fun z hz => absurd hz List.not_mem_nil) (by decide) (by decide) (by decide) lkL_21 h4.cO (fun q => ?_)
      refine ev_astore (lv' := [some (.ref (W 0 0)), some (.int x1), some (.int x2), some (.ref a), some (.ref q)]) dL_tells_13 (Nat.le_of_ble_eq_true rfl) rfl ?_
      refine ev_iconst (v := nI (0 + 1)) dL_tells_15 (by decide) ?_
      exact ev_iret dL_tells_16 rfl rfl (la_P.ex (j := 0) hT1 hK hg rfl hz)
    · refine ev_catch (pre := [(0, 10, 13, 21)]) (name := cl_IA) rfl (fun z hz => by rw [List.mem_singleton.mp hz]; exact ⟨by decide, cl_IO, lkL_21, hN.1⟩) (by decide) (by decide) (by decide) lkL_13 h4.cA (fun q => ?_)
      refine ev_astore (lv' := [some (.ref (W 0 0)), some (.int x1), some (.int x2), some (.ref a), some (.ref q)]) dL_tells_17 (Nat.le_of_ble_eq_true rfl) rfl ?_
      refine ev_iconst (v := nI (1 + 1)) dL_tells_19 (by decide) ?_
      exact ev_iret dL_tells_20 rfl rfl (la_P.ex (j := 1) hT1 hK hg rfl hz)
theorem wr_parted {G : ev_G} {K : Nat → Prop} {W : cw_W} {D0 : Nat} {C : mo_S} {mc ms a : Nat} {f : Nat → Int64} {g : ev_H} {Z : (Option Value ⊕ String) → cw_W → mo_S → Prop} {x1 x2 : Int32} (hE : ev_En G) (h4 : ev_En4 G D0) (hN : la_N G) (hc : cw_R G W 64 mc ms mX11_parted [.ref (W 0 0), .int x1, .int x2] C Z) (hZ : ∀ o W2 C2, Z o W2 C2 → la_ok [cl_IO, cl_IA] o) (hK : K a) (hT : cw_T G K g W g C) (hg : g a = some (.inl (G.2.2.2 1, 1, .inr (.inl f)))) : ev_C G 65 mc ms mL_parted [.ref (W 0 0), .int x1, .int x2, .ref a] g (la_P G K [cl_IO, cl_IA] Z a g) := by
  have _hN := hN
  refine ev_startH (lv0 := [some (.ref (W 0 0)), some (.int x1), some (.int x2), some (.ref a), none]) (by decide +kernel) rfl (Nat.le_of_ble_eq_true rfl) rfl ?_
  refine ev_aload_n dL_parted_0 rfl rfl ?_
  refine ev_iconst (v := 0) dL_parted_1 (by decide) ?_
  refine ev_aload_n dL_parted_2 rfl rfl ?_
  refine ev_iload_n dL_parted_3 rfl rfl ?_
  refine ev_iload_n dL_parted_4 rfl rfl ?_
  refine ev_callV (d' := 64) (b := 0) (k0 := 0) (r := W 0 0) (As := [.int x1, .int x2]) (rest := [.int 0, .ref a]) hE dL_parted_5 rfl kX11_parted rfl lL_61 iX11_parted vX11_parted ((hT.at (k := 0) (i := 0) rfl).1 _ _ ob0) rfl (Nat.le_of_ble_eq_true rfl) (by decide) (hc K g g hT) (by omega) (by omega) (fun v g1 h => ?_) (fun e g1 h => ?_)
  · obtain ⟨W2, C2, hz, hT1⟩ := h
    obtain ⟨y, rfl⟩ := (hZ _ _ _ hz).v
    refine ev_i2l dL_parted_8 ?_
    refine ev_last hE dL_parted_9 (by rw [(hT1.2.1 a hK).1]; exact hg) (vp_in_nI (n := 0) (by decide) (by decide)) ?_
    refine ev_goto (tgt := 21) dL_parted_10 (by decide) ?_
    refine ev_iconst (v := 0) dL_parted_21 (by decide) ?_
    exact ev_iret dL_parted_22 rfl rfl (la_P.ok hT1 hK hz)
  · obtain ⟨W2, C2, hz, hT1⟩ := h
    rcases (hZ _ _ _ hz).e2 with rfl | rfl
    · refine ev_catch (pre := []) (name := cl_IO) rfl (fun z hz => absurd hz List.not_mem_nil) (by decide) (by decide) (by decide) lkL_21 h4.cO (fun q => ?_)
      refine ev_astore (lv' := [some (.ref (W 0 0)), some (.int x1), some (.int x2), some (.ref a), some (.ref q)]) dL_parted_13 (Nat.le_of_ble_eq_true rfl) rfl ?_
      refine ev_iconst (v := nI (0 + 1)) dL_parted_15 (by decide) ?_
      exact ev_iret dL_parted_16 rfl rfl (la_P.ex (j := 0) hT1 hK hg rfl hz)
    · refine ev_catch (pre := [(0, 10, 13, 21)]) (name := cl_IA) rfl (fun z hz => by rw [List.mem_singleton.mp hz]; exact ⟨by decide, cl_IO, lkL_21, hN.1⟩) (by decide) (by decide) (by decide) lkL_13 h4.cA (fun q => ?_)
      refine ev_astore (lv' := [some (.ref (W 0 0)), some (.int x1), some (.int x2), some (.ref a), some (.ref q)]) dL_parted_17 (Nat.le_of_ble_eq_true rfl) rfl ?_
      refine ev_iconst (v := nI (1 + 1)) dL_parted_19 (by decide) ?_
      exact ev_iret dL_parted_20 rfl rfl (la_P.ex (j := 1) hT1 hK hg rfl hz)
theorem wr_merge {G : ev_G} {K : Nat → Prop} {W : cw_W} {D0 : Nat} {C : mo_S} {mc ms a : Nat} {f : Nat → Int64} {g : ev_H} {Z : (Option Value ⊕ String) → cw_W → mo_S → Prop} {x1 x2 : Int32} (hE : ev_En G) (h4 : ev_En4 G D0) (hN : la_N G) (hc : cw_R G W 64 mc ms mX11_merge [.ref (W 0 0), .int x1, .int x2] C Z) (hZ : ∀ o W2 C2, Z o W2 C2 → la_ok [cl_IO] o) (hK : K a) (hT : cw_T G K g W g C) (hg : g a = some (.inl (G.2.2.2 1, 1, .inr (.inl f)))) : ev_C G 65 mc ms mL_merge [.ref (W 0 0), .int x1, .int x2, .ref a] g (la_P G K [cl_IO] Z a g) := by
  have _hN := hN
  refine ev_startH (lv0 := [some (.ref (W 0 0)), some (.int x1), some (.int x2), some (.ref a), none]) (by decide +kernel) rfl (Nat.le_of_ble_eq_true rfl) rfl ?_
  refine ev_aload_n dL_merge_0 rfl rfl ?_
  refine ev_iconst (v := 0) dL_merge_1 (by decide) ?_
  refine ev_aload_n dL_merge_2 rfl rfl ?_
  refine ev_iload_n dL_merge_3 rfl rfl ?_
  refine ev_iload_n dL_merge_4 rfl rfl ?_
  refine ev_callV (d' := 64) (b := 0) (k0 := 0) (r := W 0 0) (As := [.int x1, .int x2]) (rest := [.int 0, .ref a]) hE dL_merge_5 rfl kX11_merge rfl lL_73 iX11_merge vX11_merge ((hT.at (k := 0) (i := 0) rfl).1 _ _ ob0) rfl (Nat.le_of_ble_eq_true rfl) (by decide) (hc K g g hT) (by omega) (by omega) (fun v g1 h => ?_) (fun e g1 h => ?_)
  · obtain ⟨W2, C2, hz, hT1⟩ := h
    obtain ⟨y, rfl⟩ := (hZ _ _ _ hz).v
    refine ev_i2l dL_merge_8 ?_
    refine ev_last hE dL_merge_9 (by rw [(hT1.2.1 a hK).1]; exact hg) (vp_in_nI (n := 0) (by decide) (by decide)) ?_
    refine ev_goto (tgt := 17) dL_merge_10 (by decide) ?_
    refine ev_iconst (v := 0) dL_merge_17 (by decide) ?_
    exact ev_iret dL_merge_18 rfl rfl (la_P.ok hT1 hK hz)
  · obtain ⟨W2, C2, hz, hT1⟩ := h
    obtain rfl := (hZ _ _ _ hz).e1
    refine ev_catch (pre := []) (name := cl_IO) rfl (fun z hz => absurd hz List.not_mem_nil) (by decide) (by decide) (by decide) lkL_21 h4.cO (fun q => ?_)
    refine ev_astore (lv' := [some (.ref (W 0 0)), some (.int x1), some (.int x2), some (.ref a), some (.ref q)]) dL_merge_13 (Nat.le_of_ble_eq_true rfl) rfl ?_
    refine ev_iconst (v := nI (0 + 1)) dL_merge_15 (by decide) ?_
    exact ev_iret dL_merge_16 rfl rfl (la_P.ex (j := 0) hT1 hK hg rfl hz)
theorem wr_gain {G : ev_G} {K : Nat → Prop} {W : cw_W} {D0 : Nat} {C : mo_S} {mc ms a : Nat} {f : Nat → Int64} {g : ev_H} {Z : (Option Value ⊕ String) → cw_W → mo_S → Prop} {x1 x2 : Int32} (hE : ev_En G) (h4 : ev_En4 G D0) (hN : la_N G) (hc : cw_R G W 64 mc ms mX11_gain [.ref (W 0 0), .int x1, .int x2] C Z) (hZ : ∀ o W2 C2, Z o W2 C2 → la_ok [cl_IO] o) (hK : K a) (hT : cw_T G K g W g C) (hg : g a = some (.inl (G.2.2.2 1, 1, .inr (.inl f)))) : ev_C G 65 mc ms mL_gain [.ref (W 0 0), .int x1, .int x2, .ref a] g (la_P G K [cl_IO] Z a g) := by
  have _hN := hN
  refine ev_startH (lv0 := [some (.ref (W 0 0)), some (.int x1), some (.int x2), some (.ref a), none]) (by decide +kernel) rfl (Nat.le_of_ble_eq_true rfl) rfl ?_
  refine ev_aload_n dL_gain_0 rfl rfl ?_
  refine ev_iconst (v := 0) dL_gain_1 (by decide) ?_
  refine ev_aload_n dL_gain_2 rfl rfl ?_
  refine ev_iload_n dL_gain_3 rfl rfl ?_
  refine ev_iload_n dL_gain_4 rfl rfl ?_
  refine ev_callV (d' := 64) (b := 0) (k0 := 0) (r := W 0 0) (As := [.int x1, .int x2]) (rest := [.int 0, .ref a]) hE dL_gain_5 rfl kX11_gain rfl lL_76 iX11_gain vX11_gain ((hT.at (k := 0) (i := 0) rfl).1 _ _ ob0) rfl (Nat.le_of_ble_eq_true rfl) (by decide) (hc K g g hT) (by omega) (by omega) (fun v g1 h => ?_) (fun e g1 h => ?_)
  · obtain ⟨W2, C2, hz, hT1⟩ := h
    obtain ⟨y, rfl⟩ := (hZ _ _ _ hz).v
    refine ev_i2l dL_gain_8 ?_
    refine ev_last hE dL_gain_9 (by rw [(hT1.2.1 a hK).1]; exact hg) (vp_in_nI (n := 0) (by decide) (by decide)) ?_
    refine ev_goto (tgt := 17) dL_gain_10 (by decide) ?_
    refine ev_iconst (v := 0) dL_gain_17 (by decide) ?_
    exact ev_iret dL_gain_18 rfl rfl (la_P.ok hT1 hK hz)
  · obtain ⟨W2, C2, hz, hT1⟩ := h
    obtain rfl := (hZ _ _ _ hz).e1
    refine ev_catch (pre := []) (name := cl_IO) rfl (fun z hz => absurd hz List.not_mem_nil) (by decide) (by decide) (by decide) lkL_21 h4.cO (fun q => ?_)
    refine ev_astore (lv' := [some (.ref (W 0 0)), some (.int x1), some (.int x2), some (.ref a), some (.ref q)]) dL_gain_13 (Nat.le_of_ble_eq_true rfl) rfl ?_
    refine ev_iconst (v := nI (0 + 1)) dL_gain_15 (by decide) ?_
    exact ev_iret dL_gain_16 rfl rfl (la_P.ex (j := 0) hT1 hK hg rfl hz)
theorem wr_borne {G : ev_G} {K : Nat → Prop} {W : cw_W} {D0 : Nat} {C : mo_S} {mc ms a : Nat} {f : Nat → Int64} {g : ev_H} {Z : (Option Value ⊕ String) → cw_W → mo_S → Prop} {x1 x2 : Int32} (hE : ev_En G) (h4 : ev_En4 G D0) (hN : la_N G) (hc : cw_R G W 64 mc ms mX11_borne [.ref (W 0 0), .int x1, .int x2] C Z) (hZ : ∀ o W2 C2, Z o W2 C2 → la_ok [cl_IO, cl_IA] o) (hK : K a) (hT : cw_T G K g W g C) (hg : g a = some (.inl (G.2.2.2 1, 1, .inr (.inl f)))) : ev_C G 65 mc ms mL_borne [.ref (W 0 0), .int x1, .int x2, .ref a] g (la_P G K [cl_IO, cl_IA] Z a g) := by
  have _hN := hN
  refine ev_startH (lv0 := [some (.ref (W 0 0)), some (.int x1), some (.int x2), some (.ref a), none]) (by decide +kernel) rfl (Nat.le_of_ble_eq_true rfl) rfl ?_
  refine ev_aload_n dL_borne_0 rfl rfl ?_
  refine ev_iconst (v := 0) dL_borne_1 (by decide) ?_
  refine ev_aload_n dL_borne_2 rfl rfl ?_
  refine ev_iload_n dL_borne_3 rfl rfl ?_
  refine ev_iload_n dL_borne_4 rfl rfl ?_
  refine ev_callV (d' := 64) (b := 0) (k0 := 0) (r := W 0 0) (As := [.int x1, .int x2]) (rest := [.int 0, .ref a]) hE dL_borne_5 rfl kX11_borne rfl lL_85 iX11_borne vX11_borne ((hT.at (k := 0) (i := 0) rfl).1 _ _ ob0) rfl (Nat.le_of_ble_eq_true rfl) (by decide) (hc K g g hT) (by omega) (by omega) (fun v g1 h => ?_) (fun e g1 h => ?_)
  · obtain ⟨W2, C2, hz, hT1⟩ := h
    obtain ⟨y, rfl⟩ := (hZ _ _ _ hz).v
    refine ev_i2l dL_borne_8 ?_
    refine ev_last hE dL_borne_9 (by rw [(hT1.2.1 a hK).1]; exact hg) (vp_in_nI (n := 0) (by decide) (by decide)) ?_
    refine ev_goto (tgt := 21) dL_borne_10 (by decide) ?_
    refine ev_iconst (v := 0) dL_borne_21 (by decide) ?_
    exact ev_iret dL_borne_22 rfl rfl (la_P.ok hT1 hK hz)
  · obtain ⟨W2, C2, hz, hT1⟩ := h
    rcases (hZ _ _ _ hz).e2 with rfl | rfl
    · refine ev_catch (pre := []) (name := cl_IO) rfl (fun z hz => absurd hz List.not_mem_nil) (by decide) (by decide) (by decide) lkL_21 h4.cO (fun q => ?_)
      refine ev_astore (lv' := [some (.ref (W 0 0)), some (.int x1), some (.int x2), some (.ref a), some (.ref q)]) dL_borne_13 (Nat.le_of_ble_eq_true rfl) rfl ?_
      refine ev_iconst (v := nI (0 + 1)) dL_borne_15 (by decide) ?_
      exact ev_iret dL_borne_16 rfl rfl (la_P.ex (j := 0) hT1 hK hg rfl hz)
    · refine ev_catch (pre := [(0, 10, 13, 21)]) (name := cl_IA) rfl (fun z hz => by rw [List.mem_singleton.mp hz]; exact ⟨by decide, cl_IO, lkL_21, hN.1⟩) (by decide) (by decide) (by decide) lkL_13 h4.cA (fun q => ?_)
      refine ev_astore (lv' := [some (.ref (W 0 0)), some (.int x1), some (.int x2), some (.ref a), some (.ref q)]) dL_borne_17 (Nat.le_of_ble_eq_true rfl) rfl ?_
      refine ev_iconst (v := nI (1 + 1)) dL_borne_19 (by decide) ?_
      exact ev_iret dL_borne_20 rfl rfl (la_P.ex (j := 1) hT1 hK hg rfl hz)
theorem wr_alike {G : ev_G} {K : Nat → Prop} {W : cw_W} {D0 : Nat} {C : mo_S} {mc ms a : Nat} {f : Nat → Int64} {g : ev_H} {Z : (Option Value ⊕ String) → cw_W → mo_S → Prop} {x1 : Int32} (hE : ev_En G) (h4 : ev_En4 G D0) (hN : la_N G) (hc : cw_R G W 64 mc ms mX11_alike [.ref (W 0 0), .int x1] C Z) (hZ : ∀ o W2 C2, Z o W2 C2 → la_ok [cl_IO] o) (hK : K a) (hT : cw_T G K g W g C) (hg : g a = some (.inl (G.2.2.2 1, 1, .inr (.inl f)))) : ev_C G 65 mc ms mL_alike [.ref (W 0 0), .int x1, .ref a] g (la_P G K [cl_IO] Z a g) := by
  have _hN := hN
  refine ev_startH (lv0 := [some (.ref (W 0 0)), some (.int x1), some (.ref a), none]) (by decide +kernel) rfl (Nat.le_of_ble_eq_true rfl) rfl ?_
  refine ev_aload_n dL_alike_0 rfl rfl ?_
  refine ev_iconst (v := 0) dL_alike_1 (by decide) ?_
  refine ev_aload_n dL_alike_2 rfl rfl ?_
  refine ev_iload_n dL_alike_3 rfl rfl ?_
  refine ev_callV (d' := 64) (b := 0) (k0 := 0) (r := W 0 0) (As := [.int x1]) (rest := [.int 0, .ref a]) hE dL_alike_4 rfl kX11_alike rfl lL_91 iX11_alike vX11_alike ((hT.at (k := 0) (i := 0) rfl).1 _ _ ob0) rfl (Nat.le_of_ble_eq_true rfl) (by decide) (hc K g g hT) (by omega) (by omega) (fun v g1 h => ?_) (fun e g1 h => ?_)
  · obtain ⟨W2, C2, hz, hT1⟩ := h
    obtain ⟨y, rfl⟩ := (hZ _ _ _ hz).v
    refine ev_i2l dL_alike_7 ?_
    refine ev_last hE dL_alike_8 (by rw [(hT1.2.1 a hK).1]; exact hg) (vp_in_nI (n := 0) (by decide) (by decide)) ?_
    refine ev_goto (tgt := 15) dL_alike_9 (by decide) ?_
    refine ev_iconst (v := 0) dL_alike_15 (by decide) ?_
    exact ev_iret dL_alike_16 rfl rfl (la_P.ok hT1 hK hz)
  · obtain ⟨W2, C2, hz, hT1⟩ := h
    obtain rfl := (hZ _ _ _ hz).e1
    refine ev_catch (pre := []) (name := cl_IO) rfl (fun z hz => absurd hz List.not_mem_nil) (by decide) (by decide) (by decide) lkL_21 h4.cO (fun q => ?_)
    refine ev_astore_n (lv' := [some (.ref (W 0 0)), some (.int x1), some (.ref a), some (.ref q)]) dL_alike_12 rfl (Nat.le_of_ble_eq_true rfl) rfl ?_
    refine ev_iconst (v := nI (0 + 1)) dL_alike_13 (by decide) ?_
    exact ev_iret dL_alike_14 rfl rfl (la_P.ex (j := 0) hT1 hK hg rfl hz)
theorem wr_best {G : ev_G} {K : Nat → Prop} {W : cw_W} {D0 : Nat} {C : mo_S} {mc ms a : Nat} {f : Nat → Int64} {g : ev_H} {Z : (Option Value ⊕ String) → cw_W → mo_S → Prop} {x1 x2 : Int32} (hE : ev_En G) (h4 : ev_En4 G D0) (hN : la_N G) (hc : cw_R G W 64 mc ms mX11_best [.ref (W 0 0), .int x1, .int x2] C Z) (hZ : ∀ o W2 C2, Z o W2 C2 → la_ok [cl_IO, cl_IA] o) (hK : K a) (hT : cw_T G K g W g C) (hg : g a = some (.inl (G.2.2.2 1, 1, .inr (.inl f)))) : ev_C G 65 mc ms mL_best [.ref (W 0 0), .int x1, .int x2, .ref a] g (la_P G K [cl_IO, cl_IA] Z a g) := by
  have _hN := hN
  refine ev_startH (lv0 := [some (.ref (W 0 0)), some (.int x1), some (.int x2), some (.ref a), none]) (by decide +kernel) rfl (Nat.le_of_ble_eq_true rfl) rfl ?_
  refine ev_aload_n dL_best_0 rfl rfl ?_
  refine ev_iconst (v := 0) dL_best_1 (by decide) ?_
  refine ev_aload_n dL_best_2 rfl rfl ?_
  refine ev_iload_n dL_best_3 rfl rfl ?_
  refine ev_iload_n dL_best_4 rfl rfl ?_
  refine ev_callV (d' := 64) (b := 0) (k0 := 0) (r := W 0 0) (As := [.int x1, .int x2]) (rest := [.int 0, .ref a]) hE dL_best_5 rfl kX11_best rfl lL_100 iX11_best vX11_best ((hT.at (k := 0) (i := 0) rfl).1 _ _ ob0) rfl (Nat.le_of_ble_eq_true rfl) (by decide) (hc K g g hT) (by omega) (by omega) (fun v g1 h => ?_) (fun e g1 h => ?_)
  · obtain ⟨W2, C2, hz, hT1⟩ := h
    obtain ⟨y, rfl⟩ := (hZ _ _ _ hz).v
    refine ev_i2l dL_best_8 ?_
    refine ev_last hE dL_best_9 (by rw [(hT1.2.1 a hK).1]; exact hg) (vp_in_nI (n := 0) (by decide) (by decide)) ?_
    refine ev_goto (tgt := 21) dL_best_10 (by decide) ?_
    refine ev_iconst (v := 0) dL_best_21 (by decide) ?_
    exact ev_iret dL_best_22 rfl rfl (la_P.ok hT1 hK hz)
  · obtain ⟨W2, C2, hz, hT1⟩ := h
    rcases (hZ _ _ _ hz).e2 with rfl | rfl
    · refine ev_catch (pre := []) (name := cl_IO) rfl (fun z hz => absurd hz List.not_mem_nil) (by decide) (by decide) (by decide) lkL_21 h4.cO (fun q => ?_)
      refine ev_astore (lv' := [some (.ref (W 0 0)), some (.int x1), some (.int x2), some (.ref a), some (.ref q)]) dL_best_13 (Nat.le_of_ble_eq_true rfl) rfl ?_
      refine ev_iconst (v := nI (0 + 1)) dL_best_15 (by decide) ?_
      exact ev_iret dL_best_16 rfl rfl (la_P.ex (j := 0) hT1 hK hg rfl hz)
    · refine ev_catch (pre := [(0, 10, 13, 21)]) (name := cl_IA) rfl (fun z hz => by rw [List.mem_singleton.mp hz]; exact ⟨by decide, cl_IO, lkL_21, hN.1⟩) (by decide) (by decide) (by decide) lkL_13 h4.cA (fun q => ?_)
      refine ev_astore (lv' := [some (.ref (W 0 0)), some (.int x1), some (.int x2), some (.ref a), some (.ref q)]) dL_best_17 (Nat.le_of_ble_eq_true rfl) rfl ?_
      refine ev_iconst (v := nI (1 + 1)) dL_best_19 (by decide) ?_
      exact ev_iret dL_best_20 rfl rfl (la_P.ex (j := 1) hT1 hK hg rfl hz)
theorem wr_row {G : ev_G} {K : Nat → Prop} {W : cw_W} {D0 : Nat} {C : mo_S} {mc ms a : Nat} {f : Nat → Int64} {g : ev_H} {Z : (Option Value ⊕ String) → cw_W → mo_S → Prop} {x1 x2 x3 x4 : Int32} (hE : ev_En G) (h4 : ev_En4 G D0) (hN : la_N G) (hc : cw_R G W 64 mc ms mX11_row [.ref (W 0 0), .int x1, .int x2, .int x3, .int x4] C Z) (hZ : ∀ o W2 C2, Z o W2 C2 → la_ok [cl_IO, cl_IA] o) (hK : K a) (hT : cw_T G K g W g C) (hg : g a = some (.inl (G.2.2.2 1, 1, .inr (.inl f)))) : ev_C G 65 mc ms mL_row [.ref (W 0 0), .int x1, .int x2, .int x3, .int x4, .ref a] g (la_P G K [cl_IO, cl_IA] Z a g) := by
  have _hN := hN
  refine ev_startH (lv0 := [some (.ref (W 0 0)), some (.int x1), some (.int x2), some (.int x3), some (.int x4), some (.ref a), none]) (by decide +kernel) rfl (Nat.le_of_ble_eq_true rfl) rfl ?_
  refine ev_aload dL_row_0 rfl ?_
  refine ev_iconst (v := 0) dL_row_2 (by decide) ?_
  refine ev_aload_n dL_row_3 rfl rfl ?_
  refine ev_iload_n dL_row_4 rfl rfl ?_
  refine ev_iload_n dL_row_5 rfl rfl ?_
  refine ev_iload_n dL_row_6 rfl rfl ?_
  refine ev_iload dL_row_7 rfl ?_
  refine ev_callV (d' := 64) (b := 0) (k0 := 0) (r := W 0 0) (As := [.int x1, .int x2, .int x3, .int x4]) (rest := [.int 0, .ref a]) hE dL_row_9 rfl kX11_row rfl lL_106 iX11_row vX11_row ((hT.at (k := 0) (i := 0) rfl).1 _ _ ob0) rfl (Nat.le_of_ble_eq_true rfl) (by decide) (hc K g g hT) (by omega) (by omega) (fun v g1 h => ?_) (fun e g1 h => ?_)
  · obtain ⟨W2, C2, hz, hT1⟩ := h
    obtain ⟨y, rfl⟩ := (hZ _ _ _ hz).v
    refine ev_i2l dL_row_12 ?_
    refine ev_last hE dL_row_13 (by rw [(hT1.2.1 a hK).1]; exact hg) (vp_in_nI (n := 0) (by decide) (by decide)) ?_
    refine ev_goto (tgt := 25) dL_row_14 (by decide) ?_
    refine ev_iconst (v := 0) dL_row_25 (by decide) ?_
    exact ev_iret dL_row_26 rfl rfl (la_P.ok hT1 hK hz)
  · obtain ⟨W2, C2, hz, hT1⟩ := h
    rcases (hZ _ _ _ hz).e2 with rfl | rfl
    · refine ev_catch (pre := []) (name := cl_IO) rfl (fun z hz => absurd hz List.not_mem_nil) (by decide) (by decide) (by decide) lkL_21 h4.cO (fun q => ?_)
      refine ev_astore (lv' := [some (.ref (W 0 0)), some (.int x1), some (.int x2), some (.int x3), some (.int x4), some (.ref a), some (.ref q)]) dL_row_17 (Nat.le_of_ble_eq_true rfl) rfl ?_
      refine ev_iconst (v := nI (0 + 1)) dL_row_19 (by decide) ?_
      exact ev_iret dL_row_20 rfl rfl (la_P.ex (j := 0) hT1 hK hg rfl hz)
    · refine ev_catch (pre := [(0, 14, 17, 21)]) (name := cl_IA) rfl (fun z hz => by rw [List.mem_singleton.mp hz]; exact ⟨by decide, cl_IO, lkL_21, hN.1⟩) (by decide) (by decide) (by decide) lkL_13 h4.cA (fun q => ?_)
      refine ev_astore (lv' := [some (.ref (W 0 0)), some (.int x1), some (.int x2), some (.int x3), some (.int x4), some (.ref a), some (.ref q)]) dL_row_21 (Nat.le_of_ble_eq_true rfl) rfl ?_
      refine ev_iconst (v := nI (1 + 1)) dL_row_23 (by decide) ?_
      exact ev_iret dL_row_24 rfl rfl (la_P.ex (j := 1) hT1 hK hg rfl hz)
theorem wr_order {G : ev_G} {K : Nat → Prop} {W : cw_W} {D0 : Nat} {C : mo_S} {mc ms a : Nat} {f : Nat → Int64} {g : ev_H} {Z : (Option Value ⊕ String) → cw_W → mo_S → Prop} {x1 x2 : Int32} (hE : ev_En G) (h4 : ev_En4 G D0) (hN : la_N G) (hc : cw_R G W 64 mc ms mX11_order [.ref (W 0 0), .int x1, .int x2] C Z) (hZ : ∀ o W2 C2, Z o W2 C2 → la_ok [cl_IA] o) (hK : K a) (hT : cw_T G K g W g C) (hg : g a = some (.inl (G.2.2.2 1, 1, .inr (.inl f)))) : ev_C G 65 mc ms mL_order [.ref (W 0 0), .int x1, .int x2, .ref a] g (la_P G K [cl_IA] Z a g) := by
  have _hN := hN
  refine ev_startH (lv0 := [some (.ref (W 0 0)), some (.int x1), some (.int x2), some (.ref a), none]) (by decide +kernel) rfl (Nat.le_of_ble_eq_true rfl) rfl ?_
  refine ev_aload_n dL_order_0 rfl rfl ?_
  refine ev_iconst (v := 0) dL_order_1 (by decide) ?_
  refine ev_aload_n dL_order_2 rfl rfl ?_
  refine ev_iload_n dL_order_3 rfl rfl ?_
  refine ev_iload_n dL_order_4 rfl rfl ?_
  refine ev_callV (d' := 64) (b := 0) (k0 := 0) (r := W 0 0) (As := [.int x1, .int x2]) (rest := [.int 0, .ref a]) hE dL_order_5 rfl kX11_order rfl lL_49 iX11_order vX11_order ((hT.at (k := 0) (i := 0) rfl).1 _ _ ob0) rfl (Nat.le_of_ble_eq_true rfl) (by decide) (hc K g g hT) (by omega) (by omega) (fun v g1 h => ?_) (fun e g1 h => ?_)
  · obtain ⟨W2, C2, hz, hT1⟩ := h
    obtain ⟨y, rfl⟩ := (hZ _ _ _ hz).v
    refine ev_i2l dL_order_8 ?_
    refine ev_last hE dL_order_9 (by rw [(hT1.2.1 a hK).1]; exact hg) (vp_in_nI (n := 0) (by decide) (by decide)) ?_
    refine ev_goto (tgt := 17) dL_order_10 (by decide) ?_
    refine ev_iconst (v := 0) dL_order_17 (by decide) ?_
    exact ev_iret dL_order_18 rfl rfl (la_P.ok hT1 hK hz)
  · obtain ⟨W2, C2, hz, hT1⟩ := h
    obtain rfl := (hZ _ _ _ hz).e1
    refine ev_catch (pre := []) (name := cl_IA) rfl (fun z hz => absurd hz List.not_mem_nil) (by decide) (by decide) (by decide) lkL_13 h4.cA (fun q => ?_)
    refine ev_astore (lv' := [some (.ref (W 0 0)), some (.int x1), some (.int x2), some (.ref a), some (.ref q)]) dL_order_13 (Nat.le_of_ble_eq_true rfl) rfl ?_
    refine ev_iconst (v := nI (0 + 1)) dL_order_15 (by decide) ?_
    exact ev_iret dL_order_16 rfl rfl (la_P.ex (j := 0) hT1 hK hg rfl hz)
theorem wr_months {G : ev_G} {K : Nat → Prop} {W : cw_W} {D0 : Nat} {C : mo_S} {mc ms a : Nat} {f : Nat → Int64} {g : ev_H} {Z : (Option Value ⊕ String) → cw_W → mo_S → Prop} {x1 : Int32} (hE : ev_En G) (h4 : ev_En4 G D0) (hN : la_N G) (hc : cw_R G W 64 mc ms mX11_months [.ref (W 0 0), .int x1] C Z) (hZ : ∀ o W2 C2, Z o W2 C2 → la_ok [cl_IA, cl_IS] o) (hK : K a) (hT : cw_T G K g W g C) (hg : g a = some (.inl (G.2.2.2 1, 1, .inr (.inl f)))) : ev_C G 65 mc ms mL_months [.ref (W 0 0), .int x1, .ref a] g (la_P G K [cl_IA, cl_IS] Z a g) := by
  have _hN := hN
  refine ev_startH (lv0 := [some (.ref (W 0 0)), some (.int x1), some (.ref a), none]) (by decide +kernel) rfl (Nat.le_of_ble_eq_true rfl) rfl ?_
  refine ev_aload_n dL_months_0 rfl rfl ?_
  refine ev_iconst (v := 0) dL_months_1 (by decide) ?_
  refine ev_aload_n dL_months_2 rfl rfl ?_
  refine ev_iload_n dL_months_3 rfl rfl ?_
  refine ev_callV (d' := 64) (b := 0) (k0 := 0) (r := W 0 0) (As := [.int x1]) (rest := [.int 0, .ref a]) hE dL_months_4 rfl kX11_months rfl lL_64 iX11_months vX11_months ((hT.at (k := 0) (i := 0) rfl).1 _ _ ob0) rfl (Nat.le_of_ble_eq_true rfl) (by decide) (hc K g g hT) (by omega) (by omega) (fun v g1 h => ?_) (fun e g1 h => ?_)
  · obtain ⟨W2, C2, hz, hT1⟩ := h
    obtain ⟨y, rfl⟩ := (hZ _ _ _ hz).v
    refine ev_i2l dL_months_7 ?_
    refine ev_last hE dL_months_8 (by rw [(hT1.2.1 a hK).1]; exact hg) (vp_in_nI (n := 0) (by decide) (by decide)) ?_
    refine ev_goto (tgt := 18) dL_months_9 (by decide) ?_
    refine ev_iconst (v := 0) dL_months_18 (by decide) ?_
    exact ev_iret dL_months_19 rfl rfl (la_P.ok hT1 hK hz)
  · obtain ⟨W2, C2, hz, hT1⟩ := h
    rcases (hZ _ _ _ hz).e2 with rfl | rfl
    · refine ev_catch (pre := []) (name := cl_IA) rfl (fun z hz => absurd hz List.not_mem_nil) (by decide) (by decide) (by decide) lkL_13 h4.cA (fun q => ?_)
      refine ev_astore_n (lv' := [some (.ref (W 0 0)), some (.int x1), some (.ref a), some (.ref q)]) dL_months_12 rfl (Nat.le_of_ble_eq_true rfl) rfl ?_
      refine ev_iconst (v := nI (0 + 1)) dL_months_13 (by decide) ?_
      exact ev_iret dL_months_14 rfl rfl (la_P.ex (j := 0) hT1 hK hg rfl hz)
    · refine ev_catch (pre := [(0, 9, 12, 13)]) (name := cl_IS) rfl (fun z hz => by rw [List.mem_singleton.mp hz]; exact ⟨by decide, cl_IA, lkL_13, hN.2⟩) (by decide) (by decide) (by decide) lkL_15 h4.cS (fun q => ?_)
      refine ev_astore_n (lv' := [some (.ref (W 0 0)), some (.int x1), some (.ref a), some (.ref q)]) dL_months_15 rfl (Nat.le_of_ble_eq_true rfl) rfl ?_
      refine ev_iconst (v := nI (1 + 1)) dL_months_16 (by decide) ?_
      exact ev_iret dL_months_17 rfl rfl (la_P.ex (j := 1) hT1 hK hg rfl hz)
end DY
