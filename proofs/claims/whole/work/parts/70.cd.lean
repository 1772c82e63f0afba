section CD
def cw_PF (G : ev_G) (W : cw_W) (d mc ms : Nat) (M : ev_M) (As : List Value) (C : mo_S) (u : cx_Out) : Prop := cw_R G W d mc ms M As C (fun o W2 C2 => W2 99 0 = W 99 0 ∧ W2 0 0 = W 0 0 ∧ o = cx_o u.1 ∧ cx_eqX cw_X C2 u.2)
/-- a list has one more -/
def cx_grow (C : mo_S) (l n : Nat) : mo_S := mo_up (mo_up (mo_up C (cw_sz l) 0 (nI (n + 1))) 132 l (nI (cl_cap n (C.1 132 l).toNatClampNeg))) 131 l (C.1 131 l + 1)
theorem cw_sz_lt (l : Nat) : cw_sz l < 100 := by
  unfold cw_sz
  split <;> decide
theorem cx_grow_cu {C : mo_S} {l n cap : Nat} (hc : C.1 132 l = nI cap) (hc2 : cap ≤ 200) : cw_cu (cx_grow C l n) C l n cap := by
  have hs := cw_sz_lt l
  have e : (C.1 132 l).toNatClampNeg = cap := by rw [hc, nI_clamp (by omega)]
  refine ⟨?_, ?_, ?_, fun f x h1 h2 h3 _ => ?_, rfl⟩
  · unfold cx_grow
    rw [mo_up_ne (by omega), mo_up_ne (by omega), mo_up_at, pk_us]
  · unfold cx_grow
    rw [mo_up_ne (by decide), mo_up_at, pk_us, e]
  · unfold cx_grow
    rw [mo_up_at, pk_us]
  · unfold cx_grow
    rw [cw_up_at h3, cw_up_at h2, cw_up_at h1]
theorem cw_cu.up {C2 C : mo_S} {l n cap f x k : Nat} {v : Int32} (h : cw_cu C2 C l n cap) (ho : cw_ow f x = (k, n)) (hk : k ∈ cw_nk l) (hf : f ∉ cw_S) (hf2 : f ≠ 131) : cw_cu (mo_up C2 f x v) C l n cap := by
  obtain ⟨h1, h2, h3, h4, h5⟩ := h
  have hsz : cw_sz l ≠ f := fun e => hf (by
    rw [← e]
    unfold cw_sz
    split <;> decide)
  refine ⟨by rw [mo_up_ne hsz]; exact h1, by rw [mo_up_ne (fun e => hf (by rw [← e]; decide))]; exact h2, by rw [mo_up_ne (fun e => hf2 e.symm)]; exact h3, fun f' x' a b c q => ?_, h5⟩
  rw [cw_up_at (fun e => q (by rw [e.1, e.2, ho]; exact ⟨hk, rfl⟩))]
  exact h4 f' x' a b c q
theorem cw_cu.fl {C2 C : mo_S} {l n cap f k : Nat} {e : Nat → Nat} {v : Int32} (h : cw_cu C2 C l n cap) : ∀ {m : Nat}, (∀ j, j < m → cw_ow f (e j) = (k, n)) → k ∈ cw_nk l → f ∉ cw_S → f ≠ 131 → cw_cu (cx_fl C2 f e v m) C l n cap
  | 0, _, _, _, _ => h
  | m + 1, ho, hk, hf, hf2 => (h.fl (m := m) (fun j hj => ho j (by omega)) hk hf hf2).up (ho m (by omega)) hk hf hf2
theorem cw_wu_o {W : cw_W} {l n q k i : Nat} {A : Nat → Nat} (h2 : k ≠ 2) (hk : k ∉ cw_nk l) : cw_wu W l n q A k i = W k i := by
  unfold cw_wu
  rw [if_neg (fun z => h2 z.1), if_neg (fun z => hk z.1)]
def cx_newR (C : mo_S) (v : Int32) : mo_S := mo_up (mo_up (cx_grow C 1 (sp_R C)) 22 (sp_R C) v) 23 (sp_R C) (-1)
def cx_X11_reel (C : mo_S) (x1 : Int32) (x2 : Int32) : cx_Out :=
  (if (mo_b (if (mo_b (cx_X11_within x1 1 2000)) = 0 then false else (if (mo_b (cx_X11_within x2 0 500)) = 0 then false else true))) = 0 then ((.inl "java/lang/IllegalArgumentException"), C) else (if (C.1 21 0) < 80 then ((.inr (((nI (sp_R C + 1)) - 1))), (cx_newR C ((x1 * (1000 - x2)) / 1000))) else ((.inr ((-1))), C)))
theorem c_X11_reel {G : ev_G} {W : cw_W} {d D0 : Nat} {C : mo_S} {x1 : Int32} {x2 : Int32}  (hE : ev_En G) (h4 : ev_En4 G D0) (hd : 8 ≤ d) (h99 : W 99 0 = D0) (hA : ∀ a, a < sp_A C → (C.1 63 a).toNatClampNeg < sp_P C) : cw_PF G W d 2 202 mX11_reel [.ref (W 0 0), .int x1, .int x2] C (cx_X11_reel C x1 x2) := by
  refine cw_startR (lv0 := [some (.ref (W 0 0)), some (.int x1), some (.int x2)]) (by decide +kernel) rfl (Nat.le_of_ble_eq_true rfl) rfl ?_
  intro K g0 g hT
  have hBP := hT.B.1
  have hBR := hT.B.2.1
  have hBA := hT.B.2.2.2.1
  refine ev_iload_n dX11_reel_0 rfl rfl ?_
  refine ev_iconst (v := 1) dX11_reel_1 (by decide) ?_
  refine ev_sipush (v := 2000) dX11_reel_2 (by decide) ?_
  refine ev_pS3 (d' := d - 1) dX11_reel_5 rfl kX11_within lX11_80 sX11_within (Nat.le_of_ble_eq_true rfl) (by omega) (c_X11_within) ?_
  have K_27 : ∀ (g : ev_H) (hT : cw_T G K g0 W g C), ∀ x9 : Int32, x9 = (mo_b (if (mo_b (cx_X11_within x1 1 2000)) = 0 then false else (if (mo_b (cx_X11_within x2 0 500)) = 0 then false else true))) → ev_V G d 2 202 mX11_reel (fun o g' => ∃ W2 C2, (W2 99 0 = W 99 0 ∧ W2 0 0 = W 0 0 ∧ o = cx_o (cx_X11_reel C x1 x2).1 ∧ cx_eqX cw_X C2 (cx_X11_reel C x1 x2).2) ∧ cw_T G K g0 W2 g' C2) g 27 [some (.ref (W 0 0)), some (.int x1), some (.int x2)] (.int x9 :: []) := by
    intro g hT x9 h9
    subst h9
    refine cw_need hE h4 rfl dX11_reel_27 lX11_85 (Nat.le_of_ble_eq_true rfl) (by omega) (by decide) (by decide) (fun c_27 => ?_) (fun c_27 => ?_)
    · have e9 : cx_X11_reel C x1 x2 = ((.inl "java/lang/IllegalArgumentException"), C) := by unfold cx_X11_reel; rw [if_pos c_27]
      exact ⟨W, C, ⟨rfl, rfl, by rw [e9]; rfl, by rw [e9]; exact (cx_eqX.r _)⟩, hT⟩
    refine ev_aload_n dX11_reel_30 rfl rfl ?_
    refine cw_getf hE hT dX11_reel_31 fX11_16 (k := 0) (i := 0) rfl ob0 rfl ?_
    refine cw_size (l := 1) (v := (C.1 21 0)) hE hT dX11_reel_34 lX11_89 (by decide) (Nat.le_of_ble_eq_true rfl) (by omega) rfl ?_
    refine ev_bipush (v := 80) dX11_reel_37 (by decide) ?_
    refine ev_icmp_lt (tgt := 44) dX11_reel_39 (by decide) (fun c_39 => ?_) (fun c_39 => ?_)
    · refine ev_aload_n dX11_reel_44 rfl rfl ?_
      refine cw_getf hE hT dX11_reel_45 fX11_16 (k := 0) (i := 0) rfl ob0 rfl ?_
      refine ev_new2 (b := 1) (n := 200) hE dX11_reel_48 wX11_128 (by decide) (by decide) (fun y g1 k0 k1 k2 => ?_)
      refine ev_dup dX11_reel_51 rfl ?_
      refine ev_iload_n dX11_reel_52 rfl rfl ?_
      refine ev_sipush (v := 1000) dX11_reel_53 (by decide) ?_
      refine ev_iload_n dX11_reel_56 rfl rfl ?_
      refine ev_isub dX11_reel_57 ?_
      refine ev_imul dX11_reel_58 ?_
      refine ev_sipush (v := 1000) dX11_reel_59 (by decide) ?_
      refine ev_idiv dX11_reel_62 (by decide) ?_
      refine ev_callI (d' := d - 1) (b := 1) (k0 := 200) (As := [.int ((x1 * (1000 - x2)) / 1000)]) dX11_reel_63 rfl rfl kX8_init rfl rfl lX11_130 iX8_init (Nat.le_of_ble_eq_true rfl) (by omega) (c_X8_init (d := d - 1) hE h4 (by omega) k1) (by decide) (by decide) (fun v g2 h => ?_) (fun E g h => by cases h.1)
      obtain ⟨h1, H9, KO⟩ := h
      cases h1
      have hg2 : ∀ b e, g b = some e → g2 b = some e := fun b e h => by
        have hne : b ≠ y := fun z => by rw [z, k0] at h; cases h
        exact KO b e hne ((k2 b hne).trans h)
      obtain ⟨cap, f1, f2, f3, f4⟩ := hT.B.2.2.2.2.2.1 1 (by decide)
      have hcu : cw_cu (cx_newR C (x1 * (1000 - x2) / 1000)) C 1 (sp_R C) cap := ((cx_grow_cu f1 f2).up (k := 27) rfl (by decide) (by decide) (by decide)).up (k := 27) rfl (by decide) (by decide) (by decide)
      have hR80 : sp_R C < 80 := Nat.lt_of_not_le fun q => absurd (show nI (sp_R C) < nI 80 by rw [← hBR.1]; exact c_39) (nI_nlt (a := sp_R C) (b := 80) q (by omega))
      refine cw_addc1 (C2 := (cx_newR C ((x1 * (1000 - x2)) / 1000))) (cap := cap) (A := fun _ => y) (b := 0) (n0 := 0) hE h4 h99 hT dX11_reel_66 lX11_105 hA hg2 (fun k hk => ⟨k0, _, H9⟩) (fun k k' hk hk' _ => by have a : k = 27 := List.mem_singleton.mp hk; have b : k' = 27 := List.mem_singleton.mp hk'; rw [a, b]) H9 f1 f2 f3 f4 ?_ (by omega) ?_ (Nat.le_of_ble_eq_true rfl) (by omega) (by decide) (by decide) (fun q9 g hT => ?_)
      · exact hcu
      · intro q k hk
        have hk : k = 27 := List.mem_singleton.mp hk
        subst hk
        refine ⟨fun ci fs e => ?_, fun m h e => (by simp only [cw_ar] at e; cases e)⟩
        rw [ob27] at e
        cases e
        rw [H9]
        unfold cx_newR
        rw [mo_up_ne (by decide), mo_up_at, pk_us, mo_up_at, pk_us]
      have e00 : (cw_wu W 1 (sp_R C) q9 (fun _ => y)) 0 0 = W 0 0 := cw_wu_o (by decide) (by decide)
      have e99 : (cw_wu W 1 (sp_R C) q9 (fun _ => y)) 99 0 = W 99 0 := cw_wu_o (by decide) (by decide)
      rw [← e00]
      refine ev_pop dX11_reel_69 rfl ?_
      refine ev_aload_n dX11_reel_70 rfl rfl ?_
      refine cw_getf hE hT dX11_reel_71 fX11_16 (k := 0) (i := 0) rfl ob0 rfl ?_
      refine cw_size (l := 1) (v := nI (sp_R C + 1)) hE hT dX11_reel_74 lX11_89 (by decide) (Nat.le_of_ble_eq_true rfl) (by omega) (hcu.1) ?_
      refine ev_iconst (v := 1) dX11_reel_77 (by decide) ?_
      refine ev_isub dX11_reel_78 ?_
      have e9 : cx_X11_reel C x1 x2 = ((.inr (((nI (sp_R C + 1)) - 1))), (cx_newR C ((x1 * (1000 - x2)) / 1000))) := by unfold cx_X11_reel; rw [if_neg c_27, if_pos c_39]
      exact ev_iret dX11_reel_79 rfl rfl ⟨(cw_wu W 1 (sp_R C) q9 (fun _ => y)), (cx_newR C ((x1 * (1000 - x2)) / 1000)), ⟨e99, e00, by rw [e9]; rfl, by rw [e9]; exact (cx_eqX.r _)⟩, hT⟩
    · refine ev_iconst (v := (-1)) dX11_reel_42 (by decide) ?_
      have e9 : cx_X11_reel C x1 x2 = ((.inr ((-1))), C) := by unfold cx_X11_reel; rw [if_neg c_27, if_neg c_39]
      exact ev_iret dX11_reel_43 rfl rfl ⟨W, C, ⟨rfl, rfl, by rw [e9]; rfl, by rw [e9]; exact (cx_eqX.r _)⟩, hT⟩
  refine ev_if_eq (tgt := 26) dX11_reel_8 (by decide) (fun c_8 => ?_) (fun c_8 => ?_)
  · refine ev_iconst (v := 0) dX11_reel_26 (by decide) ?_
    exact K_27 g hT _ (by rw [if_pos c_8]; rfl)
  · refine ev_iload_n dX11_reel_11 rfl rfl ?_
    refine ev_iconst (v := 0) dX11_reel_12 (by decide) ?_
    refine ev_sipush (v := 500) dX11_reel_13 (by decide) ?_
    refine ev_pS3 (d' := d - 1) dX11_reel_16 rfl kX11_within lX11_80 sX11_within (Nat.le_of_ble_eq_true rfl) (by omega) (c_X11_within) ?_
    refine ev_if_eq (tgt := 26) dX11_reel_19 (by decide) (fun c_19 => ?_) (fun c_19 => ?_)
    · refine ev_iconst (v := 0) dX11_reel_26 (by decide) ?_
      exact K_27 g hT _ (by rw [if_neg c_8, if_pos c_19]; rfl)
    · refine ev_iconst (v := 1) dX11_reel_22 (by decide) ?_
      refine ev_goto (tgt := 27) dX11_reel_23 (by decide) ?_
      exact K_27 g hT _ (by rw [if_neg c_8, if_neg c_19]; rfl)
theorem cw_T.ne0 {G : ev_G} {K : Nat → Prop} {g0 g : ev_H} {W : cw_W} {C : mo_S} {k i q : Nat} (hT : cw_T G K g0 W g C) (hl : cw_lv C k i) (hq : g q = none) : W k i ≠ q := fun z => by
  obtain ⟨e, he⟩ := hT.ex9 hl
  rw [z, hq] at he
  cases he
theorem cw_wu_n {W : cw_W} {l n q k : Nat} {A : Nat → Nat} (h2 : k ≠ 2) (hk : k ∈ cw_nk l) : cw_wu W l n q A k n = A k := by
  unfold cw_wu
  rw [if_neg (fun z => h2 z.1), if_pos ⟨hk, rfl⟩]
def cx_newA (C : mo_S) (p : Nat) (v : Int32) : mo_S := mo_up (mo_up (mo_up (mo_up (mo_up (cx_grow C 3 (sp_A C)) 63 (sp_A C) (nI p)) 64 (sp_A C) v) 65 (sp_A C) (C.1 4 p)) 66 (sp_A C) (C.1 5 p)) 68 (sp_A C) (-1)
def cx_X11_appeal (C : mo_S) (x1 : Int32) (x2 : Int32) : cx_Out :=
  (if sp_in x1 0 (C.1 1 0 - 1) = true then (if (mo_b (cx_X11_within x2 0 100000)) = 0 then ((.inl "java/lang/IllegalArgumentException"), C) else (if (C.1 62 0) < 20 then (if (mo_b (cx_X5_isAdmitted C (x1).toNatClampNeg)) = 0 then ((.inr ((-2))), C) else ((.inr (((nI (sp_A C + 1)) - 1))), (cx_newA C (x1).toNatClampNeg x2))) else ((.inr ((-1))), C))) else ((.inl "java/lang/IndexOutOfBoundsException"), C))
theorem c_X11_appeal {G : ev_G} {W : cw_W} {d D0 : Nat} {C : mo_S} {x1 : Int32} {x2 : Int32}  (hE : ev_En G) (h4 : ev_En4 G D0) (hd : 8 ≤ d) (h99 : W 99 0 = D0) (hA : ∀ a, a < sp_A C → (C.1 63 a).toNatClampNeg < sp_P C) : cw_PF G W d 2 205 mX11_appeal [.ref (W 0 0), .int x1, .int x2] C (cx_X11_appeal C x1 x2) := by
  refine cw_startR (lv0 := [some (.ref (W 0 0)), some (.int x1), some (.int x2), none]) (by decide +kernel) rfl (Nat.le_of_ble_eq_true rfl) rfl ?_
  intro K g0 g hT
  have hBP := hT.B.1
  have hBR := hT.B.2.1
  have hBA := hT.B.2.2.2.1
  refine ev_aload_n dX11_appeal_0 rfl rfl ?_
  refine ev_iload_n dX11_appeal_1 rfl rfl ?_
  refine cw_paperAt hE h4 rfl hT dX11_appeal_2 lX11_109 (Nat.le_of_ble_eq_true rfl) (by omega) (by decide) (by decide) (fun c_2 g hT => ?_) (fun q9 c_2 e_2 u_2 hP2 g hT => ?_)
  · have e9 : cx_X11_appeal C x1 x2 = ((.inl "java/lang/IndexOutOfBoundsException"), C) := by unfold cx_X11_appeal; rw [if_neg (cl_nf c_2)]
    exact ⟨W, C, ⟨rfl, rfl, by rw [e9]; rfl, by rw [e9]; exact (cx_eqX.r _)⟩, hT⟩
  subst u_2
  refine ev_astore_n (lv' := [some (.ref (W 0 0)), some (.int x1), some (.int x2), some (.ref (W 20 (x1).toNatClampNeg))]) dX11_appeal_5 rfl (Nat.le_of_ble_eq_true rfl) rfl ?_
  refine ev_iload_n dX11_appeal_6 rfl rfl ?_
  refine ev_iconst (v := 0) dX11_appeal_7 (by decide) ?_
  refine ev_ldc dX11_appeal_8 nX11_84 ?_
  refine ev_pS3 (d' := d - 1) dX11_appeal_10 rfl kX11_within lX11_80 sX11_within (Nat.le_of_ble_eq_true rfl) (by omega) (c_X11_within) ?_
  refine cw_need hE h4 rfl dX11_appeal_13 lX11_85 (Nat.le_of_ble_eq_true rfl) (by omega) (by decide) (by decide) (fun c_13 => ?_) (fun c_13 => ?_)
  · have e9 : cx_X11_appeal C x1 x2 = ((.inl "java/lang/IllegalArgumentException"), C) := by unfold cx_X11_appeal; rw [if_pos c_2, if_pos c_13]
    exact ⟨W, C, ⟨rfl, rfl, by rw [e9]; rfl, by rw [e9]; exact (cx_eqX.r _)⟩, hT⟩
  refine ev_aload_n dX11_appeal_16 rfl rfl ?_
  refine cw_getf hE hT dX11_appeal_17 fX11_22 (k := 0) (i := 0) rfl ob0 rfl ?_
  refine cw_size (l := 3) (v := (C.1 62 0)) hE hT dX11_appeal_20 lX11_89 (by decide) (Nat.le_of_ble_eq_true rfl) (by omega) rfl ?_
  refine ev_bipush (v := 20) dX11_appeal_23 (by decide) ?_
  refine ev_icmp_lt (tgt := 30) dX11_appeal_25 (by decide) (fun c_25 => ?_) (fun c_25 => ?_)
  · refine ev_aload_n dX11_appeal_30 rfl rfl ?_
    refine cw_call0 (d' := d - 1) hE hT dX11_appeal_31 rfl kX5_isAdmitted lX11_224 iX5_isAdmitted vX5_isAdmitted (k := 20) (i := (x1).toNatClampNeg) hP2 ob20 rfl (Nat.le_of_ble_eq_true rfl) (by omega) (c_X5_isAdmitted hE hP2) (fun g hT => ?_)
    refine ev_if_ne (tgt := 40) dX11_appeal_34 (by decide) (fun c_34 => ?_) (fun c_34 => ?_)
    · refine ev_aload_n dX11_appeal_40 rfl rfl ?_
      refine cw_getf hE hT dX11_appeal_41 fX11_22 (k := 0) (i := 0) rfl ob0 rfl ?_
      refine ev_new2 (b := 1) (n := 200) hE dX11_appeal_44 wX11_286 (by decide) (by decide) (fun y g1 k0 k1 k2 => ?_)
      refine ev_dup dX11_appeal_47 rfl ?_
      refine ev_aload_n dX11_appeal_48 rfl rfl ?_
      refine ev_iload_n dX11_appeal_49 rfl rfl ?_
      refine ev_callI (d' := d - 1) (b := 1) (k0 := 200) (As := [.ref (W 20 (x1).toNatClampNeg), .int x2]) dX11_appeal_50 rfl rfl kX0_init rfl rfl lX11_288 iX0_init (Nat.le_of_ble_eq_true rfl) (by omega) (c_X0_init (d := d - 1) hE h4 (by omega) k1 ((k2 _ (hT.ne0 (k := 20) hP2 k0)).trans ((hT.at (k := 20) hP2).1 _ _ ob20)) (hT.ne0 (k := 20) hP2 k0) (fun z => hT.ne0 (k := 20) hP2 k0 z.symm)) (by decide) (by decide) (fun v g2 h => ?_) (fun E g h => by cases h.1)
      obtain ⟨h1, H9, KO⟩ := h
      cases h1
      have hg2 : ∀ b e, g b = some e → g2 b = some e := fun b e h => by
        have hne : b ≠ y := fun z => by rw [z, k0] at h; cases h
        exact KO b e hne ((k2 b hne).trans h)
      obtain ⟨cap, f1, f2, f3, f4⟩ := hT.B.2.2.2.2.2.1 3 (by decide)
      have hcu : cw_cu (cx_newA C (x1).toNatClampNeg x2) C 3 (sp_A C) cap := (((((cx_grow_cu f1 f2).up (k := 33) rfl (by decide) (by decide) (by decide)).up (k := 33) rfl (by decide) (by decide) (by decide)).up (k := 33) rfl (by decide) (by decide) (by decide)).up (k := 33) rfl (by decide) (by decide) (by decide)).up (k := 33) rfl (by decide) (by decide) (by decide)
      have hA20 : sp_A C < 20 := Nat.lt_of_not_le fun q => absurd (show nI (sp_A C) < nI 20 by rw [← hBA.1]; exact c_25) (nI_nlt (a := sp_A C) (b := 20) q (by omega))
      have hp12 : (x1).toNatClampNeg < 12 := by omega
      refine cw_addc3 (C2 := (cx_newA C (x1).toNatClampNeg x2)) (cap := cap) (A := fun _ => y) (b := 0) (n0 := 0) hE h4 h99 hT dX11_appeal_53 lX11_105 hA hg2 (fun k hk => by have a : k = 33 := List.mem_singleton.mp hk; subst a; exact ⟨k0, _, H9⟩) (fun k k' hk hk' _ => by have a : k = 33 := List.mem_singleton.mp hk; have b : k' = 33 := List.mem_singleton.mp hk'; rw [a, b]) H9 f1 f2 f3 f4 ?_ (by omega) ?_ (Nat.le_of_ble_eq_true rfl) (by omega) (by decide) (by decide) (fun q9 g hT => ?_)
      · exact hcu
      · intro q k hk
        have hk : k = 33 := List.mem_singleton.mp hk
        subst hk
        refine ⟨fun ci fs e => ?_, fun m h e => (by simp only [cw_ar] at e; cases e)⟩
        rw [ob33] at e
        cases e
        rw [H9, cw_wu_o (by decide) (by decide)]
        unfold cx_newA
        have e63 : (cx_newA C (x1).toNatClampNeg x2).1 63 (sp_A C) = nI (x1).toNatClampNeg := by unfold cx_newA; rw [mo_up_ne (by decide), mo_up_ne (by decide), mo_up_ne (by decide), mo_up_ne (by decide), mo_up_at, pk_us]
        unfold cx_newA at e63
        rw [e63, nI_clamp (by omega)]
        rw [mo_up_ne (show (64 : Nat) ≠ 68 by decide), mo_up_ne (show (64 : Nat) ≠ 66 by decide), mo_up_ne (show (64 : Nat) ≠ 65 by decide), mo_up_at, pk_us]
        rw [mo_up_ne (show (65 : Nat) ≠ 68 by decide), mo_up_ne (show (65 : Nat) ≠ 66 by decide), mo_up_at, pk_us]
        rw [mo_up_ne (show (66 : Nat) ≠ 68 by decide), mo_up_at, pk_us, mo_up_at, pk_us]
      have e00 : (cw_wu W 3 (sp_A C) q9 (fun _ => y)) 0 0 = W 0 0 := cw_wu_o (by decide) (by decide)
      have e99 : (cw_wu W 3 (sp_A C) q9 (fun _ => y)) 99 0 = W 99 0 := cw_wu_o (by decide) (by decide)
      rw [← e00]
      refine ev_pop dX11_appeal_56 rfl ?_
      refine ev_aload_n dX11_appeal_57 rfl rfl ?_
      refine cw_getf hE hT dX11_appeal_58 fX11_22 (k := 0) (i := 0) rfl ob0 rfl ?_
      refine cw_size (l := 3) (v := nI (sp_A C + 1)) hE hT dX11_appeal_61 lX11_89 (by decide) (Nat.le_of_ble_eq_true rfl) (by omega) (hcu.1) ?_
      refine ev_iconst (v := 1) dX11_appeal_64 (by decide) ?_
      refine ev_isub dX11_appeal_65 ?_
      have e9 : cx_X11_appeal C x1 x2 = ((.inr (((nI (sp_A C + 1)) - 1))), (cx_newA C (x1).toNatClampNeg x2)) := by unfold cx_X11_appeal; rw [if_pos c_2, if_neg c_13, if_pos c_25, if_neg c_34]
      exact ev_iret dX11_appeal_66 rfl rfl ⟨(cw_wu W 3 (sp_A C) q9 (fun _ => y)), (cx_newA C (x1).toNatClampNeg x2), ⟨e99, e00, by rw [e9]; rfl, by rw [e9]; exact (cx_eqX.r _)⟩, hT⟩
    · refine ev_bipush (v := (-2)) dX11_appeal_37 (by decide) ?_
      have e9 : cx_X11_appeal C x1 x2 = ((.inr ((-2))), C) := by unfold cx_X11_appeal; rw [if_pos c_2, if_neg c_13, if_pos c_25, if_pos c_34]
      exact ev_iret dX11_appeal_39 rfl rfl ⟨W, C, ⟨rfl, rfl, by rw [e9]; rfl, by rw [e9]; exact (cx_eqX.r _)⟩, hT⟩
  · refine ev_iconst (v := (-1)) dX11_appeal_28 (by decide) ?_
    have e9 : cx_X11_appeal C x1 x2 = ((.inr ((-1))), C) := by unfold cx_X11_appeal; rw [if_pos c_2, if_neg c_13, if_neg c_25]
    exact ev_iret dX11_appeal_29 rfl rfl ⟨W, C, ⟨rfl, rfl, by rw [e9]; rfl, by rw [e9]; exact (cx_eqX.r _)⟩, hT⟩
def cx_newP (C : mo_S) (x1 x2 x3 x4 x5 : Int32) : mo_S := (mo_up (mo_up (mo_up (mo_up (mo_up (mo_up (mo_up (mo_up (mo_up (mo_up (mo_up (mo_up (mo_up (mo_up (mo_up (mo_up (mo_up (mo_up (mo_up (cx_fl (cx_fl (cx_fl (cx_fl (cx_grow C 0 (sp_P C)) 26 (fun j => 12 * j + sp_P C) 0 5) 58 (fun j => 12 * sp_P C + j) 0 12) 60 (fun j => 8 * sp_P C + j) 0 8) 61 (fun j => 8 * sp_P C + j) 0 8) 3 (sp_P C) x1) 4 (sp_P C) x2) 5 (sp_P C) x3) 6 (sp_P C) x4) 7 (sp_P C) x5) 8 (sp_P C) 0) 9 (sp_P C) 0) 10 (sp_P C) 0) 11 (sp_P C) 0) 12 (sp_P C) 0) 13 (sp_P C) 0) 14 (sp_P C) 0) 15 (sp_P C) 0) 16 (sp_P C) 0) 17 (sp_P C) (-1)) 18 (sp_P C) 0) 19 (sp_P C) (-1)) 20 (sp_P C) (-1)) 59 (sp_P C) 0)
theorem cx_newP_cu {C : mo_S} {cap : Nat} {x1 x2 x3 x4 x5 : Int32} (f1 : C.1 132 0 = nI cap) (f2 : cap ≤ 200) (hP12 : sp_P C < 12) : cw_cu (cx_newP C x1 x2 x3 x4 x5) C 0 (sp_P C) cap := ((((((((((((((((((((((((cx_grow_cu f1 f2).fl (k := 21) (fun j hj => by show (21, (12 * j + sp_P C) % 12) = (21, sp_P C); rw [Nat.mul_add_mod, Nat.mod_eq_of_lt hP12]) (by decide) (by decide) (by decide)).fl (k := 22) (fun j hj => by show (22, (12 * sp_P C + j) / 12) = (22, sp_P C); rw [Nat.mul_add_div (by decide), Nat.div_eq_of_lt hj]; rfl) (by decide) (by decide) (by decide)).fl (k := 25) (fun j hj => by show (25, (8 * sp_P C + j) / 8) = (25, sp_P C); rw [Nat.mul_add_div (by decide), Nat.div_eq_of_lt hj]; rfl) (by decide) (by decide) (by decide)).fl (k := 26) (fun j hj => by show (26, (8 * sp_P C + j) / 8) = (26, sp_P C); rw [Nat.mul_add_div (by decide), Nat.div_eq_of_lt hj]; rfl) (by decide) (by decide) (by decide)).up (k := 20) rfl (by decide) (by decide) (by decide)).up (k := 20) rfl (by decide) (by decide) (by decide)).up (k := 20) rfl (by decide) (by decide) (by decide)).up (k := 20) rfl (by decide) (by decide) (by decide)).up (k := 20) rfl (by decide) (by decide) (by decide)).up (k := 20) rfl (by decide) (by decide) (by decide)).up (k := 20) rfl (by decide) (by decide) (by decide)).up (k := 20) rfl (by decide) (by decide) (by decide)).up (k := 20) rfl (by decide) (by decide) (by decide)).up (k := 20) rfl (by decide) (by decide) (by decide)).up (k := 20) rfl (by decide) (by decide) (by decide)).up (k := 20) rfl (by decide) (by decide) (by decide)).up (k := 20) rfl (by decide) (by decide) (by decide)).up (k := 23) rfl (by decide) (by decide) (by decide)).up (k := 23) rfl (by decide) (by decide) (by decide)).up (k := 23) rfl (by decide) (by decide) (by decide)).up (k := 23) rfl (by decide) (by decide) (by decide)).up (k := 23) rfl (by decide) (by decide) (by decide)).up (k := 24) rfl (by decide) (by decide) (by decide))
theorem cx_newP_3 {C : mo_S} {x1 x2 x3 x4 x5 : Int32} : (cx_newP C x1 x2 x3 x4 x5).1 3 (sp_P C) = x1 := by
  unfold cx_newP
  rw [mo_up_ne (show (3 : Nat) ≠ 59 by decide), mo_up_ne (show (3 : Nat) ≠ 20 by decide), mo_up_ne (show (3 : Nat) ≠ 19 by decide), mo_up_ne (show (3 : Nat) ≠ 18 by decide), mo_up_ne (show (3 : Nat) ≠ 17 by decide), mo_up_ne (show (3 : Nat) ≠ 16 by decide), mo_up_ne (show (3 : Nat) ≠ 15 by decide), mo_up_ne (show (3 : Nat) ≠ 14 by decide), mo_up_ne (show (3 : Nat) ≠ 13 by decide), mo_up_ne (show (3 : Nat) ≠ 12 by decide), mo_up_ne (show (3 : Nat) ≠ 11 by decide), mo_up_ne (show (3 : Nat) ≠ 10 by decide), mo_up_ne (show (3 : Nat) ≠ 9 by decide), mo_up_ne (show (3 : Nat) ≠ 8 by decide), mo_up_ne (show (3 : Nat) ≠ 7 by decide), mo_up_ne (show (3 : Nat) ≠ 6 by decide), mo_up_ne (show (3 : Nat) ≠ 5 by decide), mo_up_ne (show (3 : Nat) ≠ 4 by decide), mo_up_at, pk_us]
theorem cx_newP_4 {C : mo_S} {x1 x2 x3 x4 x5 : Int32} : (cx_newP C x1 x2 x3 x4 x5).1 4 (sp_P C) = x2 := by
  unfold cx_newP
  rw [mo_up_ne (show (4 : Nat) ≠ 59 by decide), mo_up_ne (show (4 : Nat) ≠ 20 by decide), mo_up_ne (show (4 : Nat) ≠ 19 by decide), mo_up_ne (show (4 : Nat) ≠ 18 by decide), mo_up_ne (show (4 : Nat) ≠ 17 by decide), mo_up_ne (show (4 : Nat) ≠ 16 by decide), mo_up_ne (show (4 : Nat) ≠ 15 by decide), mo_up_ne (show (4 : Nat) ≠ 14 by decide), mo_up_ne (show (4 : Nat) ≠ 13 by decide), mo_up_ne (show (4 : Nat) ≠ 12 by decide), mo_up_ne (show (4 : Nat) ≠ 11 by decide), mo_up_ne (show (4 : Nat) ≠ 10 by decide), mo_up_ne (show (4 : Nat) ≠ 9 by decide), mo_up_ne (show (4 : Nat) ≠ 8 by decide), mo_up_ne (show (4 : Nat) ≠ 7 by decide), mo_up_ne (show (4 : Nat) ≠ 6 by decide), mo_up_ne (show (4 : Nat) ≠ 5 by decide), mo_up_at, pk_us]
theorem cx_newP_5 {C : mo_S} {x1 x2 x3 x4 x5 : Int32} : (cx_newP C x1 x2 x3 x4 x5).1 5 (sp_P C) = x3 := by
  unfold cx_newP
  rw [mo_up_ne (show (5 : Nat) ≠ 59 by decide), mo_up_ne (show (5 : Nat) ≠ 20 by decide), mo_up_ne (show (5 : Nat) ≠ 19 by decide), mo_up_ne (show (5 : Nat) ≠ 18 by decide), mo_up_ne (show (5 : Nat) ≠ 17 by decide), mo_up_ne (show (5 : Nat) ≠ 16 by decide), mo_up_ne (show (5 : Nat) ≠ 15 by decide), mo_up_ne (show (5 : Nat) ≠ 14 by decide), mo_up_ne (show (5 : Nat) ≠ 13 by decide), mo_up_ne (show (5 : Nat) ≠ 12 by decide), mo_up_ne (show (5 : Nat) ≠ 11 by decide), mo_up_ne (show (5 : Nat) ≠ 10 by decide), mo_up_ne (show (5 : Nat) ≠ 9 by decide), mo_up_ne (show (5 : Nat) ≠ 8 by decide), mo_up_ne (show (5 : Nat) ≠ 7 by decide), mo_up_ne (show (5 : Nat) ≠ 6 by decide), mo_up_at, pk_us]
theorem cx_newP_6 {C : mo_S} {x1 x2 x3 x4 x5 : Int32} : (cx_newP C x1 x2 x3 x4 x5).1 6 (sp_P C) = x4 := by
  unfold cx_newP
  rw [mo_up_ne (show (6 : Nat) ≠ 59 by decide), mo_up_ne (show (6 : Nat) ≠ 20 by decide), mo_up_ne (show (6 : Nat) ≠ 19 by decide), mo_up_ne (show (6 : Nat) ≠ 18 by decide), mo_up_ne (show (6 : Nat) ≠ 17 by decide), mo_up_ne (show (6 : Nat) ≠ 16 by decide), mo_up_ne (show (6 : Nat) ≠ 15 by decide), mo_up_ne (show (6 : Nat) ≠ 14 by decide), mo_up_ne (show (6 : Nat) ≠ 13 by decide), mo_up_ne (show (6 : Nat) ≠ 12 by decide), mo_up_ne (show (6 : Nat) ≠ 11 by decide), mo_up_ne (show (6 : Nat) ≠ 10 by decide), mo_up_ne (show (6 : Nat) ≠ 9 by decide), mo_up_ne (show (6 : Nat) ≠ 8 by decide), mo_up_ne (show (6 : Nat) ≠ 7 by decide), mo_up_at, pk_us]
theorem cx_newP_7 {C : mo_S} {x1 x2 x3 x4 x5 : Int32} : (cx_newP C x1 x2 x3 x4 x5).1 7 (sp_P C) = x5 := by
  unfold cx_newP
  rw [mo_up_ne (show (7 : Nat) ≠ 59 by decide), mo_up_ne (show (7 : Nat) ≠ 20 by decide), mo_up_ne (show (7 : Nat) ≠ 19 by decide), mo_up_ne (show (7 : Nat) ≠ 18 by decide), mo_up_ne (show (7 : Nat) ≠ 17 by decide), mo_up_ne (show (7 : Nat) ≠ 16 by decide), mo_up_ne (show (7 : Nat) ≠ 15 by decide), mo_up_ne (show (7 : Nat) ≠ 14 by decide), mo_up_ne (show (7 : Nat) ≠ 13 by decide), mo_up_ne (show (7 : Nat) ≠ 12 by decide), mo_up_ne (show (7 : Nat) ≠ 11 by decide), mo_up_ne (show (7 : Nat) ≠ 10 by decide), mo_up_ne (show (7 : Nat) ≠ 9 by decide), mo_up_ne (show (7 : Nat) ≠ 8 by decide), mo_up_at, pk_us]
theorem cx_newP_8 {C : mo_S} {x1 x2 x3 x4 x5 : Int32} : (cx_newP C x1 x2 x3 x4 x5).1 8 (sp_P C) = 0 := by
  unfold cx_newP
  rw [mo_up_ne (show (8 : Nat) ≠ 59 by decide), mo_up_ne (show (8 : Nat) ≠ 20 by decide), mo_up_ne (show (8 : Nat) ≠ 19 by decide), mo_up_ne (show (8 : Nat) ≠ 18 by decide), mo_up_ne (show (8 : Nat) ≠ 17 by decide), mo_up_ne (show (8 : Nat) ≠ 16 by decide), mo_up_ne (show (8 : Nat) ≠ 15 by decide), mo_up_ne (show (8 : Nat) ≠ 14 by decide), mo_up_ne (show (8 : Nat) ≠ 13 by decide), mo_up_ne (show (8 : Nat) ≠ 12 by decide), mo_up_ne (show (8 : Nat) ≠ 11 by decide), mo_up_ne (show (8 : Nat) ≠ 10 by decide), mo_up_ne (show (8 : Nat) ≠ 9 by decide), mo_up_at, pk_us]
theorem cx_newP_9 {C : mo_S} {x1 x2 x3 x4 x5 : Int32} : (cx_newP C x1 x2 x3 x4 x5).1 9 (sp_P C) = 0 := by
  unfold cx_newP
  rw [mo_up_ne (show (9 : Nat) ≠ 59 by decide), mo_up_ne (show (9 : Nat) ≠ 20 by decide), mo_up_ne (show (9 : Nat) ≠ 19 by decide), mo_up_ne (show (9 : Nat) ≠ 18 by decide), mo_up_ne (show (9 : Nat) ≠ 17 by decide), mo_up_ne (show (9 : Nat) ≠ 16 by decide), mo_up_ne (show (9 : Nat) ≠ 15 by decide), mo_up_ne (show (9 : Nat) ≠ 14 by decide), mo_up_ne (show (9 : Nat) ≠ 13 by decide), mo_up_ne (show (9 : Nat) ≠ 12 by decide), mo_up_ne (show (9 : Nat) ≠ 11 by decide), mo_up_ne (show (9 : Nat) ≠ 10 by decide), mo_up_at, pk_us]
theorem cx_newP_10 {C : mo_S} {x1 x2 x3 x4 x5 : Int32} : (cx_newP C x1 x2 x3 x4 x5).1 10 (sp_P C) = 0 := by
  unfold cx_newP
  rw [mo_up_ne (show (10 : Nat) ≠ 59 by decide), mo_up_ne (show (10 : Nat) ≠ 20 by decide), mo_up_ne (show (10 : Nat) ≠ 19 by decide), mo_up_ne (show (10 : Nat) ≠ 18 by decide), mo_up_ne (show (10 : Nat) ≠ 17 by decide), mo_up_ne (show (10 : Nat) ≠ 16 by decide), mo_up_ne (show (10 : Nat) ≠ 15 by decide), mo_up_ne (show (10 : Nat) ≠ 14 by decide), mo_up_ne (show (10 : Nat) ≠ 13 by decide), mo_up_ne (show (10 : Nat) ≠ 12 by decide), mo_up_ne (show (10 : Nat) ≠ 11 by decide), mo_up_at, pk_us]
theorem cx_newP_11 {C : mo_S} {x1 x2 x3 x4 x5 : Int32} : (cx_newP C x1 x2 x3 x4 x5).1 11 (sp_P C) = 0 := by
  unfold cx_newP
  rw [mo_up_ne (show (11 : Nat) ≠ 59 by decide), mo_up_ne (show (11 : Nat) ≠ 20 by decide), mo_up_ne (show (11 : Nat) ≠ 19 by decide), mo_up_ne (show (11 : Nat) ≠ 18 by decide), mo_up_ne (show (11 : Nat) ≠ 17 by decide), mo_up_ne (show (11 : Nat) ≠ 16 by decide), mo_up_ne (show (11 : Nat) ≠ 15 by decide), mo_up_ne (show (11 : Nat) ≠ 14 by decide), mo_up_ne (show (11 : Nat) ≠ 13 by decide), mo_up_ne (show (11 : Nat) ≠ 12 by decide), mo_up_at, pk_us]
theorem cx_newP_12 {C : mo_S} {x1 x2 x3 x4 x5 : Int32} : (cx_newP C x1 x2 x3 x4 x5).1 12 (sp_P C) = 0 := by
  unfold cx_newP
  rw [mo_up_ne (show (12 : Nat) ≠ 59 by decide), mo_up_ne (show (12 : Nat) ≠ 20 by decide), mo_up_ne (show (12 : Nat) ≠ 19 by decide), mo_up_ne (show (12 : Nat) ≠ 18 by decide), mo_up_ne (show (12 : Nat) ≠ 17 by decide), mo_up_ne (show (12 : Nat) ≠ 16 by decide), mo_up_ne (show (12 : Nat) ≠ 15 by decide), mo_up_ne (show (12 : Nat) ≠ 14 by decide), mo_up_ne (show (12 : Nat) ≠ 13 by decide), mo_up_at, pk_us]
theorem cx_newP_13 {C : mo_S} {x1 x2 x3 x4 x5 : Int32} : (cx_newP C x1 x2 x3 x4 x5).1 13 (sp_P C) = 0 := by
  unfold cx_newP
  rw [mo_up_ne (show (13 : Nat) ≠ 59 by decide), mo_up_ne (show (13 : Nat) ≠ 20 by decide), mo_up_ne (show (13 : Nat) ≠ 19 by decide), mo_up_ne (show (13 : Nat) ≠ 18 by decide), mo_up_ne (show (13 : Nat) ≠ 17 by decide), mo_up_ne (show (13 : Nat) ≠ 16 by decide), mo_up_ne (show (13 : Nat) ≠ 15 by decide), mo_up_ne (show (13 : Nat) ≠ 14 by decide), mo_up_at, pk_us]
theorem cx_newP_14 {C : mo_S} {x1 x2 x3 x4 x5 : Int32} : (cx_newP C x1 x2 x3 x4 x5).1 14 (sp_P C) = 0 := by
  unfold cx_newP
  rw [mo_up_ne (show (14 : Nat) ≠ 59 by decide), mo_up_ne (show (14 : Nat) ≠ 20 by decide), mo_up_ne (show (14 : Nat) ≠ 19 by decide), mo_up_ne (show (14 : Nat) ≠ 18 by decide), mo_up_ne (show (14 : Nat) ≠ 17 by decide), mo_up_ne (show (14 : Nat) ≠ 16 by decide), mo_up_ne (show (14 : Nat) ≠ 15 by decide), mo_up_at, pk_us]
theorem cx_newP_15 {C : mo_S} {x1 x2 x3 x4 x5 : Int32} : (cx_newP C x1 x2 x3 x4 x5).1 15 (sp_P C) = 0 := by
  unfold cx_newP
  rw [mo_up_ne (show (15 : Nat) ≠ 59 by decide), mo_up_ne (show (15 : Nat) ≠ 20 by decide), mo_up_ne (show (15 : Nat) ≠ 19 by decide), mo_up_ne (show (15 : Nat) ≠ 18 by decide), mo_up_ne (show (15 : Nat) ≠ 17 by decide), mo_up_ne (show (15 : Nat) ≠ 16 by decide), mo_up_at, pk_us]
theorem cx_newP_16 {C : mo_S} {x1 x2 x3 x4 x5 : Int32} : (cx_newP C x1 x2 x3 x4 x5).1 16 (sp_P C) = 0 := by
  unfold cx_newP
  rw [mo_up_ne (show (16 : Nat) ≠ 59 by decide), mo_up_ne (show (16 : Nat) ≠ 20 by decide), mo_up_ne (show (16 : Nat) ≠ 19 by decide), mo_up_ne (show (16 : Nat) ≠ 18 by decide), mo_up_ne (show (16 : Nat) ≠ 17 by decide), mo_up_at, pk_us]
theorem cx_newP_17 {C : mo_S} {x1 x2 x3 x4 x5 : Int32} : (cx_newP C x1 x2 x3 x4 x5).1 17 (sp_P C) = (-1) := by
  unfold cx_newP
  rw [mo_up_ne (show (17 : Nat) ≠ 59 by decide), mo_up_ne (show (17 : Nat) ≠ 20 by decide), mo_up_ne (show (17 : Nat) ≠ 19 by decide), mo_up_ne (show (17 : Nat) ≠ 18 by decide), mo_up_at, pk_us]
theorem cx_newP_18 {C : mo_S} {x1 x2 x3 x4 x5 : Int32} : (cx_newP C x1 x2 x3 x4 x5).1 18 (sp_P C) = 0 := by
  unfold cx_newP
  rw [mo_up_ne (show (18 : Nat) ≠ 59 by decide), mo_up_ne (show (18 : Nat) ≠ 20 by decide), mo_up_ne (show (18 : Nat) ≠ 19 by decide), mo_up_at, pk_us]
theorem cx_newP_19 {C : mo_S} {x1 x2 x3 x4 x5 : Int32} : (cx_newP C x1 x2 x3 x4 x5).1 19 (sp_P C) = (-1) := by
  unfold cx_newP
  rw [mo_up_ne (show (19 : Nat) ≠ 59 by decide), mo_up_ne (show (19 : Nat) ≠ 20 by decide), mo_up_at, pk_us]
theorem cx_newP_20 {C : mo_S} {x1 x2 x3 x4 x5 : Int32} : (cx_newP C x1 x2 x3 x4 x5).1 20 (sp_P C) = (-1) := by
  unfold cx_newP
  rw [mo_up_ne (show (20 : Nat) ≠ 59 by decide), mo_up_at, pk_us]
theorem cx_newP_59 {C : mo_S} {x1 x2 x3 x4 x5 : Int32} : (cx_newP C x1 x2 x3 x4 x5).1 59 (sp_P C) = 0 := by
  unfold cx_newP
  rw [mo_up_at, pk_us]
theorem cx_newP_26 {C : mo_S} {x1 x2 x3 x4 x5 : Int32} {j : Nat} (hj : j < 5) : (cx_newP C x1 x2 x3 x4 x5).1 26 (12 * j + sp_P C) = 0 := by
  unfold cx_newP
  rw [mo_up_ne (show (26 : Nat) ≠ 59 by decide), mo_up_ne (show (26 : Nat) ≠ 20 by decide), mo_up_ne (show (26 : Nat) ≠ 19 by decide), mo_up_ne (show (26 : Nat) ≠ 18 by decide), mo_up_ne (show (26 : Nat) ≠ 17 by decide), mo_up_ne (show (26 : Nat) ≠ 16 by decide), mo_up_ne (show (26 : Nat) ≠ 15 by decide), mo_up_ne (show (26 : Nat) ≠ 14 by decide), mo_up_ne (show (26 : Nat) ≠ 13 by decide), mo_up_ne (show (26 : Nat) ≠ 12 by decide), mo_up_ne (show (26 : Nat) ≠ 11 by decide), mo_up_ne (show (26 : Nat) ≠ 10 by decide), mo_up_ne (show (26 : Nat) ≠ 9 by decide), mo_up_ne (show (26 : Nat) ≠ 8 by decide), mo_up_ne (show (26 : Nat) ≠ 7 by decide), mo_up_ne (show (26 : Nat) ≠ 6 by decide), mo_up_ne (show (26 : Nat) ≠ 5 by decide), mo_up_ne (show (26 : Nat) ≠ 4 by decide), mo_up_ne (show (26 : Nat) ≠ 3 by decide), cx_fl_ne (show (26 : Nat) ≠ 61 by decide), cx_fl_ne (show (26 : Nat) ≠ 60 by decide), cx_fl_ne (show (26 : Nat) ≠ 58 by decide)]
  exact cx_fl_at (e := fun j => 12 * j + sp_P C) 5 j hj
theorem cx_newP_58 {C : mo_S} {x1 x2 x3 x4 x5 : Int32} {j : Nat} (hj : j < 12) : (cx_newP C x1 x2 x3 x4 x5).1 58 (12 * sp_P C + j) = 0 := by
  unfold cx_newP
  rw [mo_up_ne (show (58 : Nat) ≠ 59 by decide), mo_up_ne (show (58 : Nat) ≠ 20 by decide), mo_up_ne (show (58 : Nat) ≠ 19 by decide), mo_up_ne (show (58 : Nat) ≠ 18 by decide), mo_up_ne (show (58 : Nat) ≠ 17 by decide), mo_up_ne (show (58 : Nat) ≠ 16 by decide), mo_up_ne (show (58 : Nat) ≠ 15 by decide), mo_up_ne (show (58 : Nat) ≠ 14 by decide), mo_up_ne (show (58 : Nat) ≠ 13 by decide), mo_up_ne (show (58 : Nat) ≠ 12 by decide), mo_up_ne (show (58 : Nat) ≠ 11 by decide), mo_up_ne (show (58 : Nat) ≠ 10 by decide), mo_up_ne (show (58 : Nat) ≠ 9 by decide), mo_up_ne (show (58 : Nat) ≠ 8 by decide), mo_up_ne (show (58 : Nat) ≠ 7 by decide), mo_up_ne (show (58 : Nat) ≠ 6 by decide), mo_up_ne (show (58 : Nat) ≠ 5 by decide), mo_up_ne (show (58 : Nat) ≠ 4 by decide), mo_up_ne (show (58 : Nat) ≠ 3 by decide), cx_fl_ne (show (58 : Nat) ≠ 61 by decide), cx_fl_ne (show (58 : Nat) ≠ 60 by decide)]
  exact cx_fl_at (e := fun j => 12 * sp_P C + j) 12 j hj
theorem cx_newP_60 {C : mo_S} {x1 x2 x3 x4 x5 : Int32} {j : Nat} (hj : j < 8) : (cx_newP C x1 x2 x3 x4 x5).1 60 (8 * sp_P C + j) = 0 := by
  unfold cx_newP
  rw [mo_up_ne (show (60 : Nat) ≠ 59 by decide), mo_up_ne (show (60 : Nat) ≠ 20 by decide), mo_up_ne (show (60 : Nat) ≠ 19 by decide), mo_up_ne (show (60 : Nat) ≠ 18 by decide), mo_up_ne (show (60 : Nat) ≠ 17 by decide), mo_up_ne (show (60 : Nat) ≠ 16 by decide), mo_up_ne (show (60 : Nat) ≠ 15 by decide), mo_up_ne (show (60 : Nat) ≠ 14 by decide), mo_up_ne (show (60 : Nat) ≠ 13 by decide), mo_up_ne (show (60 : Nat) ≠ 12 by decide), mo_up_ne (show (60 : Nat) ≠ 11 by decide), mo_up_ne (show (60 : Nat) ≠ 10 by decide), mo_up_ne (show (60 : Nat) ≠ 9 by decide), mo_up_ne (show (60 : Nat) ≠ 8 by decide), mo_up_ne (show (60 : Nat) ≠ 7 by decide), mo_up_ne (show (60 : Nat) ≠ 6 by decide), mo_up_ne (show (60 : Nat) ≠ 5 by decide), mo_up_ne (show (60 : Nat) ≠ 4 by decide), mo_up_ne (show (60 : Nat) ≠ 3 by decide), cx_fl_ne (show (60 : Nat) ≠ 61 by decide)]
  exact cx_fl_at (e := fun j => 8 * sp_P C + j) 8 j hj
theorem cx_newP_61 {C : mo_S} {x1 x2 x3 x4 x5 : Int32} {j : Nat} (hj : j < 8) : (cx_newP C x1 x2 x3 x4 x5).1 61 (8 * sp_P C + j) = 0 := by
  unfold cx_newP
  rw [mo_up_ne (show (61 : Nat) ≠ 59 by decide), mo_up_ne (show (61 : Nat) ≠ 20 by decide), mo_up_ne (show (61 : Nat) ≠ 19 by decide), mo_up_ne (show (61 : Nat) ≠ 18 by decide), mo_up_ne (show (61 : Nat) ≠ 17 by decide), mo_up_ne (show (61 : Nat) ≠ 16 by decide), mo_up_ne (show (61 : Nat) ≠ 15 by decide), mo_up_ne (show (61 : Nat) ≠ 14 by decide), mo_up_ne (show (61 : Nat) ≠ 13 by decide), mo_up_ne (show (61 : Nat) ≠ 12 by decide), mo_up_ne (show (61 : Nat) ≠ 11 by decide), mo_up_ne (show (61 : Nat) ≠ 10 by decide), mo_up_ne (show (61 : Nat) ≠ 9 by decide), mo_up_ne (show (61 : Nat) ≠ 8 by decide), mo_up_ne (show (61 : Nat) ≠ 7 by decide), mo_up_ne (show (61 : Nat) ≠ 6 by decide), mo_up_ne (show (61 : Nat) ≠ 5 by decide), mo_up_ne (show (61 : Nat) ≠ 4 by decide), mo_up_ne (show (61 : Nat) ≠ 3 by decide)]
  exact cx_fl_at (e := fun j => 8 * sp_P C + j) 8 j hj
def cx_X11_paper (C : mo_S) (x1 : Int32) (x2 : Int32) (x3 : Int32) (x4 : Int32) (x5 : Int32) : cx_Out :=
  (if (mo_b (if (mo_b (cx_X11_within x1 0 2)) = 0 then false else (if (mo_b (cx_X11_within x2 0 100000)) = 0 then false else true))) = 0 then ((.inl "java/lang/IllegalArgumentException"), C) else (if (mo_b (if (mo_b (cx_X11_within x3 0 1000)) = 0 then false else (if (mo_b (cx_X11_within x4 2 64)) = 0 then false else true))) = 0 then ((.inl "java/lang/IllegalArgumentException"), C) else (if (mo_b (cx_X11_within x5 1 100)) = 0 then ((.inl "java/lang/IllegalArgumentException"), C) else (if (C.1 1 0) < 12 then ((.inr (((nI (sp_P C + 1)) - 1))), (cx_newP C x1 x2 x3 x4 x5)) else ((.inl "java/lang/IllegalStateException"), C)))))
theorem c_X11_paper {G : ev_G} {W : cw_W} {d D0 : Nat} {C : mo_S} {x1 : Int32} {x2 : Int32} {x3 : Int32} {x4 : Int32} {x5 : Int32}  (hE : ev_En G) (h4 : ev_En4 G D0) (hd : 8 ≤ d) (h99 : W 99 0 = D0) (hA : ∀ a, a < sp_A C → (C.1 63 a).toNatClampNeg < sp_P C) : cw_PF G W d 8 258 mX11_paper [.ref (W 0 0), .int x1, .int x2, .int x3, .int x4, .int x5] C (cx_X11_paper C x1 x2 x3 x4 x5) := by
  refine cw_startR (lv0 := [some (.ref (W 0 0)), some (.int x1), some (.int x2), some (.int x3), some (.int x4), some (.int x5)]) (by decide +kernel) rfl (Nat.le_of_ble_eq_true rfl) rfl ?_
  intro K g0 g hT
  have hBP := hT.B.1
  have hBR := hT.B.2.1
  have hBA := hT.B.2.2.2.1
  refine ev_iload_n dX11_paper_0 rfl rfl ?_
  refine ev_iconst (v := 0) dX11_paper_1 (by decide) ?_
  refine ev_iconst (v := 2) dX11_paper_2 (by decide) ?_
  refine ev_pS3 (d' := d - 1) dX11_paper_3 rfl kX11_within lX11_80 sX11_within (Nat.le_of_ble_eq_true rfl) (by omega) (c_X11_within) ?_
  have K_24 : ∀ (g : ev_H) (hT : cw_T G K g0 W g C), ∀ x9 : Int32, x9 = (mo_b (if (mo_b (cx_X11_within x1 0 2)) = 0 then false else (if (mo_b (cx_X11_within x2 0 100000)) = 0 then false else true))) → ev_V G d 8 258 mX11_paper (fun o g' => ∃ W2 C2, (W2 99 0 = W 99 0 ∧ W2 0 0 = W 0 0 ∧ o = cx_o (cx_X11_paper C x1 x2 x3 x4 x5).1 ∧ cx_eqX cw_X C2 (cx_X11_paper C x1 x2 x3 x4 x5).2) ∧ cw_T G K g0 W2 g' C2) g 24 [some (.ref (W 0 0)), some (.int x1), some (.int x2), some (.int x3), some (.int x4), some (.int x5)] (.int x9 :: []) := by
    intro g hT x9 h9
    subst h9
    refine cw_need hE h4 rfl dX11_paper_24 lX11_85 (Nat.le_of_ble_eq_true rfl) (by omega) (by decide) (by decide) (fun c_24 => ?_) (fun c_24 => ?_)
    · have e9 : cx_X11_paper C x1 x2 x3 x4 x5 = ((.inl "java/lang/IllegalArgumentException"), C) := by unfold cx_X11_paper; rw [if_pos c_24]
      exact ⟨W, C, ⟨rfl, rfl, by rw [e9]; rfl, by rw [e9]; exact (cx_eqX.r _)⟩, hT⟩
    refine ev_iload_n dX11_paper_27 rfl rfl ?_
    refine ev_iconst (v := 0) dX11_paper_28 (by decide) ?_
    refine ev_sipush (v := 1000) dX11_paper_29 (by decide) ?_
    refine ev_pS3 (d' := d - 1) dX11_paper_32 rfl kX11_within lX11_80 sX11_within (Nat.le_of_ble_eq_true rfl) (by omega) (c_X11_within) ?_
    have K_54 : ∀ (g : ev_H) (hT : cw_T G K g0 W g C), ∀ x9 : Int32, x9 = (mo_b (if (mo_b (cx_X11_within x3 0 1000)) = 0 then false else (if (mo_b (cx_X11_within x4 2 64)) = 0 then false else true))) → ev_V G d 8 258 mX11_paper (fun o g' => ∃ W2 C2, (W2 99 0 = W 99 0 ∧ W2 0 0 = W 0 0 ∧ o = cx_o (cx_X11_paper C x1 x2 x3 x4 x5).1 ∧ cx_eqX cw_X C2 (cx_X11_paper C x1 x2 x3 x4 x5).2) ∧ cw_T G K g0 W2 g' C2) g 54 [some (.ref (W 0 0)), some (.int x1), some (.int x2), some (.int x3), some (.int x4), some (.int x5)] (.int x9 :: []) := by
      intro g hT x9 h9
      subst h9
      refine cw_need hE h4 rfl dX11_paper_54 lX11_85 (Nat.le_of_ble_eq_true rfl) (by omega) (by decide) (by decide) (fun c_54 => ?_) (fun c_54 => ?_)
      · have e9 : cx_X11_paper C x1 x2 x3 x4 x5 = ((.inl "java/lang/IllegalArgumentException"), C) := by unfold cx_X11_paper; rw [if_neg c_24, if_pos c_54]
        exact ⟨W, C, ⟨rfl, rfl, by rw [e9]; rfl, by rw [e9]; exact (cx_eqX.r _)⟩, hT⟩
      refine ev_iload dX11_paper_57 rfl ?_
      refine ev_iconst (v := 1) dX11_paper_59 (by decide) ?_
      refine ev_bipush (v := 100) dX11_paper_60 (by decide) ?_
      refine ev_pS3 (d' := d - 1) dX11_paper_62 rfl kX11_within lX11_80 sX11_within (Nat.le_of_ble_eq_true rfl) (by omega) (c_X11_within) ?_
      refine cw_need hE h4 rfl dX11_paper_65 lX11_85 (Nat.le_of_ble_eq_true rfl) (by omega) (by decide) (by decide) (fun c_65 => ?_) (fun c_65 => ?_)
      · have e9 : cx_X11_paper C x1 x2 x3 x4 x5 = ((.inl "java/lang/IllegalArgumentException"), C) := by unfold cx_X11_paper; rw [if_neg c_24, if_neg c_54, if_pos c_65]
        exact ⟨W, C, ⟨rfl, rfl, by rw [e9]; rfl, by rw [e9]; exact (cx_eqX.r _)⟩, hT⟩
      refine ev_aload_n dX11_paper_68 rfl rfl ?_
      refine cw_getf hE hT dX11_paper_69 fX11_10 (k := 0) (i := 0) rfl ob0 rfl ?_
      refine cw_size (l := 0) (v := (C.1 1 0)) hE hT dX11_paper_72 lX11_89 (by decide) (Nat.le_of_ble_eq_true rfl) (by omega) rfl ?_
      refine ev_bipush (v := 12) dX11_paper_75 (by decide) ?_
      refine ev_icmp_lt (tgt := 90) dX11_paper_77 (by decide) (fun c_77 => ?_) (fun c_77 => ?_)
      · refine ev_aload_n dX11_paper_90 rfl rfl ?_
        refine cw_getf hE hT dX11_paper_91 fX11_10 (k := 0) (i := 0) rfl ob0 rfl ?_
        refine ev_new2 (b := 7) (n := 241) hE dX11_paper_94 wX11_100 (by decide) (by decide) (fun y g1 k0 k1 k2 => ?_)
        refine ev_dup dX11_paper_97 rfl ?_
        refine ev_iload_n dX11_paper_98 rfl rfl ?_
        refine ev_iload_n dX11_paper_99 rfl rfl ?_
        refine ev_iload_n dX11_paper_100 rfl rfl ?_
        refine ev_iload dX11_paper_101 rfl ?_
        refine ev_iload dX11_paper_103 rfl ?_
        refine ev_callI (d' := d - 1) (b := 1) (k0 := 200) (As := [.int x1, .int x2, .int x3, .int x4, .int x5]) dX11_paper_105 rfl rfl kX5_init rfl rfl lX11_102 iX5_init (Nat.le_of_ble_eq_true rfl) (by omega) (c_X5_init (d := d - 1) hE h4 (by omega) k1) (by decide) (by decide) (fun v g2 h => ?_) (fun E g h => by cases h.1)
        obtain ⟨h1, a1, a2, a3, a4, a5, a6, H9, ⟨FF_a1, HH_a1⟩, ⟨FF_a2, HH_a2⟩, ⟨FF_a3, HH_a3⟩, ⟨FF_a4, HH_a4⟩, ⟨FF_a5, HH_a5⟩, ⟨FF_a6, HH_a6⟩, ⟨NN_a1_a2, NN_a1_a3, NN_a1_a4, NN_a1_a5, NN_a1_a6⟩, ⟨NN_a2_a3, NN_a2_a4, NN_a2_a5, NN_a2_a6⟩, ⟨NN_a3_a4, NN_a3_a5, NN_a3_a6⟩, ⟨NN_a4_a5, NN_a4_a6⟩, NN_a5_a6, KO⟩ := h
        cases h1
        have hg2 : ∀ b e, g b = some e → g2 b = some e := fun b e h => by
          have hne : b ≠ y := fun z => by rw [z, k0] at h; cases h
          exact KO b e hne ((k2 b hne).trans h)
        have F0_a1 : g a1 = none := by
          cases z : g a1 with
          | none => rfl
          | some e =>
            have hne : a1 ≠ y := fun z2 => by rw [z2, k0] at z; cases z
            rw [k2 a1 hne, z] at FF_a1; cases FF_a1
        have F0_a2 : g a2 = none := by
          cases z : g a2 with
          | none => rfl
          | some e =>
            have hne : a2 ≠ y := fun z2 => by rw [z2, k0] at z; cases z
            rw [k2 a2 hne, z] at FF_a2; cases FF_a2
        have F0_a3 : g a3 = none := by
          cases z : g a3 with
          | none => rfl
          | some e =>
            have hne : a3 ≠ y := fun z2 => by rw [z2, k0] at z; cases z
            rw [k2 a3 hne, z] at FF_a3; cases FF_a3
        have F0_a4 : g a4 = none := by
          cases z : g a4 with
          | none => rfl
          | some e =>
            have hne : a4 ≠ y := fun z2 => by rw [z2, k0] at z; cases z
            rw [k2 a4 hne, z] at FF_a4; cases FF_a4
        have F0_a5 : g a5 = none := by
          cases z : g a5 with
          | none => rfl
          | some e =>
            have hne : a5 ≠ y := fun z2 => by rw [z2, k0] at z; cases z
            rw [k2 a5 hne, z] at FF_a5; cases FF_a5
        have F0_a6 : g a6 = none := by
          cases z : g a6 with
          | none => rfl
          | some e =>
            have hne : a6 ≠ y := fun z2 => by rw [z2, k0] at z; cases z
            rw [k2 a6 hne, z] at FF_a6; cases FF_a6
        have Ny_a1 : y ≠ a1 := fun z => by rw [← z, k1] at FF_a1; cases FF_a1
        have Ny_a2 : y ≠ a2 := fun z => by rw [← z, k1] at FF_a2; cases FF_a2
        have Ny_a3 : y ≠ a3 := fun z => by rw [← z, k1] at FF_a3; cases FF_a3
        have Ny_a4 : y ≠ a4 := fun z => by rw [← z, k1] at FF_a4; cases FF_a4
        have Ny_a5 : y ≠ a5 := fun z => by rw [← z, k1] at FF_a5; cases FF_a5
        have Ny_a6 : y ≠ a6 := fun z => by rw [← z, k1] at FF_a6; cases FF_a6
        obtain ⟨cap, f1, f2, f3, f4⟩ := hT.B.2.2.2.2.2.1 0 (by decide)
        have hP12 : sp_P C < 12 := Nat.lt_of_not_le fun q => absurd (show nI (sp_P C) < nI 12 by rw [← hBP.1]; exact c_77) (nI_nlt (a := sp_P C) (b := 12) q (by omega))
        have hcu := cx_newP_cu (x1 := x1) (x2 := x2) (x3 := x3) (x4 := x4) (x5 := x5) f1 f2 hP12
        have hA0 : ∀ k, k ∈ cw_nk 0 → g ((fun k => match k with | 20 => y | 21 => a1 | 22 => a2 | 23 => a3 | 24 => a4 | 25 => a5 | _ => a6) k) = none ∧ ∃ e, g2 ((fun k => match k with | 20 => y | 21 => a1 | 22 => a2 | 23 => a3 | 24 => a4 | 25 => a5 | _ => a6) k) = some e := by
          intro k hk
          have hk : k ∈ [20, 21, 22, 23, 24, 25, 26] := hk
          simp only [List.mem_cons, List.mem_nil_iff, or_false] at hk
          rcases hk with rfl | rfl | rfl | rfl | rfl | rfl | rfl
          · exact ⟨k0, _, H9⟩
          · exact ⟨F0_a1, _, HH_a1⟩
          · exact ⟨F0_a2, _, HH_a2⟩
          · exact ⟨F0_a3, _, HH_a3⟩
          · exact ⟨F0_a4, _, HH_a4⟩
          · exact ⟨F0_a5, _, HH_a5⟩
          · exact ⟨F0_a6, _, HH_a6⟩
        have hAi : ∀ k k', k ∈ cw_nk 0 → k' ∈ cw_nk 0 → (fun k => match k with | 20 => y | 21 => a1 | 22 => a2 | 23 => a3 | 24 => a4 | 25 => a5 | _ => a6) k = (fun k => match k with | 20 => y | 21 => a1 | 22 => a2 | 23 => a3 | 24 => a4 | 25 => a5 | _ => a6) k' → k = k' := by
          intro k k' hk hk' h
          have hk : k ∈ [20, 21, 22, 23, 24, 25, 26] := hk
          have hk' : k' ∈ [20, 21, 22, 23, 24, 25, 26] := hk'
          simp only [List.mem_cons, List.mem_nil_iff, or_false] at hk hk'
          rcases hk with rfl | rfl | rfl | rfl | rfl | rfl | rfl <;> rcases hk' with rfl | rfl | rfl | rfl | rfl | rfl | rfl
          · exact rfl
          · exact absurd h Ny_a1
          · exact absurd h Ny_a2
          · exact absurd h Ny_a3
          · exact absurd h Ny_a4
          · exact absurd h Ny_a5
          · exact absurd h Ny_a6
          · exact absurd h.symm Ny_a1
          · exact rfl
          · exact absurd h NN_a1_a2
          · exact absurd h NN_a1_a3
          · exact absurd h NN_a1_a4
          · exact absurd h NN_a1_a5
          · exact absurd h NN_a1_a6
          · exact absurd h.symm Ny_a2
          · exact absurd h.symm NN_a1_a2
          · exact rfl
          · exact absurd h NN_a2_a3
          · exact absurd h NN_a2_a4
          · exact absurd h NN_a2_a5
          · exact absurd h NN_a2_a6
          · exact absurd h.symm Ny_a3
          · exact absurd h.symm NN_a1_a3
          · exact absurd h.symm NN_a2_a3
          · exact rfl
          · exact absurd h NN_a3_a4
          · exact absurd h NN_a3_a5
          · exact absurd h NN_a3_a6
          · exact absurd h.symm Ny_a4
          · exact absurd h.symm NN_a1_a4
          · exact absurd h.symm NN_a2_a4
          · exact absurd h.symm NN_a3_a4
          · exact rfl
          · exact absurd h NN_a4_a5
          · exact absurd h NN_a4_a6
          · exact absurd h.symm Ny_a5
          · exact absurd h.symm NN_a1_a5
          · exact absurd h.symm NN_a2_a5
          · exact absurd h.symm NN_a3_a5
          · exact absurd h.symm NN_a4_a5
          · exact rfl
          · exact absurd h NN_a5_a6
          · exact absurd h.symm Ny_a6
          · exact absurd h.symm NN_a1_a6
          · exact absurd h.symm NN_a2_a6
          · exact absurd h.symm NN_a3_a6
          · exact absurd h.symm NN_a4_a6
          · exact absurd h.symm NN_a5_a6
          · exact rfl
        refine cw_addc0 (C2 := (cx_newP C x1 x2 x3 x4 x5)) (cap := cap) (A := fun k => match k with | 20 => y | 21 => a1 | 22 => a2 | 23 => a3 | 24 => a4 | 25 => a5 | _ => a6) (b := 0) (n0 := 0) hE h4 h99 hT dX11_paper_108 lX11_105 hA hg2 hA0 hAi H9 f1 f2 f3 f4 ?_ (by omega) ?_ (Nat.le_of_ble_eq_true rfl) (by omega) (by decide) (by decide) (fun q9 g hT => ?_)
        · exact hcu
        · intro q k hk
          have hk : k ∈ [20, 21, 22, 23, 24, 25, 26] := hk
          simp only [List.mem_cons, List.mem_nil_iff, or_false] at hk
          rcases hk with rfl | rfl | rfl | rfl | rfl | rfl | rfl
          · refine ⟨fun ci fs e => ?_, fun m h e => (by simp only [cw_ar] at e; cases e)⟩
            rw [ob20, cw_wu_n (k := 21) (by decide) (by decide), cw_wu_n (k := 22) (by decide) (by decide), cw_wu_n (k := 23) (by decide) (by decide), cw_wu_n (k := 24) (by decide) (by decide), cx_newP_3, cx_newP_4, cx_newP_5, cx_newP_6, cx_newP_7, cx_newP_8, cx_newP_9, cx_newP_10, cx_newP_11, cx_newP_12, cx_newP_13, cx_newP_14, cx_newP_15] at e
            cases e
            exact H9
          · refine ⟨fun ci fs e => (by simp only [cw_ob] at e; cases e), fun m h e => ?_⟩
            rw [ar21] at e
            cases e
            exact ⟨_, HH_a1, fun j hj => (cx_newP_26 hj).symm⟩
          · refine ⟨fun ci fs e => (by simp only [cw_ob] at e; cases e), fun m h e => ?_⟩
            rw [ar22] at e
            cases e
            exact ⟨_, HH_a2, fun j hj => (cx_newP_58 hj).symm⟩
          · refine ⟨fun ci fs e => ?_, fun m h e => (by simp only [cw_ar] at e; cases e)⟩
            rw [ob23, cx_newP_16, cx_newP_17, cx_newP_18, cx_newP_19, cx_newP_20] at e
            cases e
            exact HH_a3
          · refine ⟨fun ci fs e => ?_, fun m h e => (by simp only [cw_ar] at e; cases e)⟩
            rw [ob24, cw_wu_n (k := 25) (by decide) (by decide), cw_wu_n (k := 26) (by decide) (by decide), cx_newP_59] at e
            cases e
            exact HH_a4
          · refine ⟨fun ci fs e => (by simp only [cw_ob] at e; cases e), fun m h e => ?_⟩
            rw [ar25] at e
            cases e
            exact ⟨_, HH_a5, fun j hj => (cx_newP_60 hj).symm⟩
          · refine ⟨fun ci fs e => (by simp only [cw_ob] at e; cases e), fun m h e => ?_⟩
            rw [ar26] at e
            cases e
            exact ⟨_, HH_a6, fun j hj => (cx_newP_61 hj).symm⟩
        have e00 : (cw_wu W 0 (sp_P C) q9 (fun k => match k with | 20 => y | 21 => a1 | 22 => a2 | 23 => a3 | 24 => a4 | 25 => a5 | _ => a6)) 0 0 = W 0 0 := cw_wu_o (by decide) (by decide)
        have e99 : (cw_wu W 0 (sp_P C) q9 (fun k => match k with | 20 => y | 21 => a1 | 22 => a2 | 23 => a3 | 24 => a4 | 25 => a5 | _ => a6)) 99 0 = W 99 0 := cw_wu_o (by decide) (by decide)
        rw [← e00]
        refine ev_pop dX11_paper_111 rfl ?_
        refine ev_aload_n dX11_paper_112 rfl rfl ?_
        refine cw_getf hE hT dX11_paper_113 fX11_10 (k := 0) (i := 0) rfl ob0 rfl ?_
        refine cw_size (l := 0) (v := nI (sp_P C + 1)) hE hT dX11_paper_116 lX11_89 (by decide) (Nat.le_of_ble_eq_true rfl) (by omega) (hcu.1) ?_
        refine ev_iconst (v := 1) dX11_paper_119 (by decide) ?_
        refine ev_isub dX11_paper_120 ?_
        have e9 : cx_X11_paper C x1 x2 x3 x4 x5 = ((.inr (((nI (sp_P C + 1)) - 1))), (cx_newP C x1 x2 x3 x4 x5)) := by unfold cx_X11_paper; rw [if_neg c_24, if_neg c_54, if_neg c_65, if_pos c_77]
        exact ev_iret dX11_paper_121 rfl rfl ⟨(cw_wu W 0 (sp_P C) q9 (fun k => match k with | 20 => y | 21 => a1 | 22 => a2 | 23 => a3 | 24 => a4 | 25 => a5 | _ => a6)), (cx_newP C x1 x2 x3 x4 x5), ⟨e99, e00, by rw [e9]; rfl, by rw [e9]; exact (cx_eqX.r _)⟩, hT⟩
      · refine ev_throwS hE h4 rfl rfl dX11_paper_80 dX11_paper_83 dX11_paper_84 dX11_paper_86 dX11_paper_89 (by decide) lkX11_93 ini_IllegalStateException ev_th_97 (by decide +kernel) (by decide +kernel) (by omega) (Nat.le_of_ble_eq_true rfl) (by decide) (by decide) ?_
        have e9 : cx_X11_paper C x1 x2 x3 x4 x5 = ((.inl "java/lang/IllegalStateException"), C) := by unfold cx_X11_paper; rw [if_neg c_24, if_neg c_54, if_neg c_65, if_neg c_77]
        exact ⟨W, C, ⟨rfl, rfl, by rw [e9]; rfl, by rw [e9]; exact (cx_eqX.r _)⟩, hT⟩
    refine ev_if_eq (tgt := 53) dX11_paper_35 (by decide) (fun c_35 => ?_) (fun c_35 => ?_)
    · refine ev_iconst (v := 0) dX11_paper_53 (by decide) ?_
      exact K_54 g hT _ (by rw [if_pos c_35]; rfl)
    · refine ev_iload dX11_paper_38 rfl ?_
      refine ev_iconst (v := 2) dX11_paper_40 (by decide) ?_
      refine ev_bipush (v := 64) dX11_paper_41 (by decide) ?_
      refine ev_pS3 (d' := d - 1) dX11_paper_43 rfl kX11_within lX11_80 sX11_within (Nat.le_of_ble_eq_true rfl) (by omega) (c_X11_within) ?_
      refine ev_if_eq (tgt := 53) dX11_paper_46 (by decide) (fun c_46 => ?_) (fun c_46 => ?_)
      · refine ev_iconst (v := 0) dX11_paper_53 (by decide) ?_
        exact K_54 g hT _ (by rw [if_neg c_35, if_pos c_46]; rfl)
      · refine ev_iconst (v := 1) dX11_paper_49 (by decide) ?_
        refine ev_goto (tgt := 54) dX11_paper_50 (by decide) ?_
        exact K_54 g hT _ (by rw [if_neg c_35, if_neg c_46]; rfl)
  refine ev_if_eq (tgt := 23) dX11_paper_6 (by decide) (fun c_6 => ?_) (fun c_6 => ?_)
  · refine ev_iconst (v := 0) dX11_paper_23 (by decide) ?_
    exact K_24 g hT _ (by rw [if_pos c_6]; rfl)
  · refine ev_iload_n dX11_paper_9 rfl rfl ?_
    refine ev_iconst (v := 0) dX11_paper_10 (by decide) ?_
    refine ev_ldc dX11_paper_11 nX11_84 ?_
    refine ev_pS3 (d' := d - 1) dX11_paper_13 rfl kX11_within lX11_80 sX11_within (Nat.le_of_ble_eq_true rfl) (by omega) (c_X11_within) ?_
    refine ev_if_eq (tgt := 23) dX11_paper_16 (by decide) (fun c_16 => ?_) (fun c_16 => ?_)
    · refine ev_iconst (v := 0) dX11_paper_23 (by decide) ?_
      exact K_24 g hT _ (by rw [if_neg c_6, if_pos c_16]; rfl)
    · refine ev_iconst (v := 1) dX11_paper_19 (by decide) ?_
      refine ev_goto (tgt := 24) dX11_paper_20 (by decide) ?_
      exact K_24 g hT _ (by rw [if_neg c_6, if_neg c_16]; rfl)
end CD
