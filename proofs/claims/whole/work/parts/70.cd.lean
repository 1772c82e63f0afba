section CD
def cw_PF (G : ev_G) (W : cw_W) (d mc ms : Nat) (M : ev_M) (As : List Value) (C : mo_S) (u : cx_Out) : Prop := cw_R G W d mc ms M As C (fun o W2 C2 => W2 99 0 = W 99 0 ∧ W2 0 0 = W 0 0 ∧ o = cx_o u.1 ∧ cx_eqX cw_X C2 u.2)
/-- a list has one more -/
def cx_grow (C : mo_S) (l n : Nat) : mo_S := mo_up (mo_up (mo_up C (cw_sz l) 0 (nI (n + 1))) 132 l (nI (cl_cap n (C.1 132 l).toNatClampNeg))) 131 l (C.1 131 l + 1)
theorem cw_sz_lt (l : Nat) : cw_sz l < 100 := by
  unfold cw_sz
  split <;> decide
theorem cx_grow_cu {C : mo_S} {l n cap : Nat} (hc : C.1 132 l = nI cap) (hc2 : cap ≤ 200) : cw_cu (cx_grow C l n) C l n cap := by
  have hs := cw_sz_lt l
  have e : (C.1 132 l).toNatClampNeg = cap := by rw [hc, nI_clamp (by omega)]
  refine ⟨?_, ?_, ?_, fun f x h1 h2 h3 _ => ?_, rfl⟩
  · unfold cx_grow
    rw [mo_up_ne (by omega), mo_up_ne (by omega), mo_up_at, pk_us]
  · unfold cx_grow
    rw [mo_up_ne (by decide), mo_up_at, pk_us, e]
  · unfold cx_grow
    rw [mo_up_at, pk_us]
  · unfold cx_grow
    rw [cw_up_at h3, cw_up_at h2, cw_up_at h1]
theorem cw_cu.up {C2 C : mo_S} {l n cap f x k : Nat} {v : Int32} (h : cw_cu C2 C l n cap) (ho : cw_ow f x = (k, n)) (hk : k ∈ cw_nk l) (hf : f ∉ cw_S) (hf2 : f ≠ 131) : cw_cu (mo_up C2 f x v) C l n cap := by
  obtain ⟨h1, h2, h3, h4, h5⟩ := h
  have hsz : cw_sz l ≠ f := fun e => hf (by
    rw [← e]
    unfold cw_sz
    split <;> decide)
  refine ⟨by rw [mo_up_ne hsz]; exact h1, by rw [mo_up_ne (fun e => hf (by rw [← e]; decide))]; exact h2, by rw [mo_up_ne (fun e => hf2 e.symm)]; exact h3, fun f' x' a b c q => ?_, h5⟩
  rw [cw_up_at (fun e => q (by rw [e.1, e.2, ho]; exact ⟨hk, rfl⟩))]
  exact h4 f' x' a b c q
theorem cw_cu.fl {C2 C : mo_S} {l n cap f k : Nat} {e : Nat → Nat} {v : Int32} (h : cw_cu C2 C l n cap) : ∀ {m : Nat}, (∀ j, j < m → cw_ow f (e j) = (k, n)) → k ∈ cw_nk l → f ∉ cw_S → f ≠ 131 → cw_cu (cx_fl C2 f e v m) C l n cap
  | 0, _, _, _, _ => h
  | m + 1, ho, hk, hf, hf2 => (h.fl (m := m) (fun j hj => ho j (by omega)) hk hf hf2).up (ho m (by omega)) hk hf hf2
theorem cw_wu_o {W : cw_W} {l n q k i : Nat} {A : Nat → Nat} (h2 : k ≠ 2) (hk : k ∉ cw_nk l) : cw_wu W l n q A k i = W k i := by
  unfold cw_wu
  rw [if_neg (fun z => h2 z.1), if_neg (fun z => hk z.1)]
def cx_newR (C : mo_S) (v : Int32) : mo_S := mo_up (mo_up (cx_grow C 1 (sp_R C)) 22 (sp_R C) v) 23 (sp_R C) (-1)
def cx_X11_reel (C : mo_S) (x1 : Int32) (x2 : Int32) : cx_Out :=
  (if (mo_b (if (mo_b (cx_X11_within x1 1 2000)) = 0 then false else (if (mo_b (cx_X11_within x2 0 500)) = 0 then false else true))) = 0 then ((.inl "java/lang/IllegalArgumentException"), C) else (if (C.1 21 0) < 80 then ((.inr (((nI (sp_R C + 1)) - 1))), (cx_newR C ((x1 * (1000 - x2)) / 1000))) else ((.inr ((-1))), C)))
theorem c_X11_reel {G : ev_G} {W : cw_W} {d D0 : Nat} {C : mo_S} {x1 : Int32} {x2 : Int32}  (hE : ev_En G) (h4 : ev_En4 G D0) (hd : 8 ≤ d) (h99 : W 99 0 = D0) (hA : ∀ a, a < sp_A C → (C.1 63 a).toNatClampNeg < sp_P C) : cw_PF G W d 2 202 mX11_reel [.ref (W 0 0), .int x1, .int x2] C (cx_X11_reel C x1 x2) := by
  refine cw_startR (lv0 := [some (.ref (W 0 0)), some (.int x1), some (.int x2)]) (by decide +kernel) rfl (Nat.le_of_ble_eq_true rfl) rfl ?_
  intro K g0 g hT
  have hBP := hT.B.1
  have hBR := hT.B.2.1
  have hBA := hT.B.2.2.2.1
  refine ev_iload_n dX11_reel_0 rfl rfl ?_
  refine ev_iconst (v := 1) dX11_reel_1 (by decide) ?_
  refine ev_sipush (v := 2000) dX11_reel_2 (by decide) ?_
  refine ev_pS3 (d' := d - 1) dX11_reel_5 rfl kX11_within lX11_80 sX11_within (Nat.le_of_ble_eq_true rfl) (by omega) (c_X11_within) ?_
  have K_27 : ∀ (g : ev_H) (hT : cw_T G K g0 W g C), ∀ x9 : Int32, x9 = (mo_b (if (mo_b (cx_X11_within x1 1 2000)) = 0 then false else (if (mo_b (cx_X11_within x2 0 500)) = 0 then false else true))) → ev_V G d 2 202 mX11_reel (fun o g' => ∃ W2 C2, (W2 99 0 = W 99 0 ∧ W2 0 0 = W 0 0 ∧ o = cx_o (cx_X11_reel C x1 x2).1 ∧ cx_eqX cw_X C2 (cx_X11_reel C x1 x2).2) ∧ cw_T G K g0 W2 g' C2) g 27 [some (.ref (W 0 0)), some (.int x1), some (.int x2)] (.int x9 :: []) := by
    intro g hT x9 h9
    subst h9
    refine cw_need hE h4 rfl dX11_reel_27 lX11_85 (Nat.le_of_ble_eq_true rfl) (by omega) (by decide) (by decide) (fun c_27 => ?_) (fun c_27 => ?_)
    · have e9 : cx_X11_reel C x1 x2 = ((.inl "java/lang/IllegalArgumentException"), C) := by unfold cx_X11_reel; rw [if_pos c_27]
      exact ⟨W, C, ⟨rfl, rfl, by rw [e9]; rfl, by rw [e9]; exact (cx_eqX.r _)⟩, hT⟩
    refine ev_aload_n dX11_reel_30 rfl rfl ?_
    refine cw_getf hE hT dX11_reel_31 fX11_16 (k := 0) (i := 0) rfl ob0 rfl ?_
    refine cw_size (l := 1) (v := (C.1 21 0)) hE hT dX11_reel_34 lX11_89 (by decide) (Nat.le_of_ble_eq_true rfl) (by omega) rfl ?_
    refine ev_bipush (v := 80) dX11_reel_37 (by decide) ?_
    refine ev_icmp_lt (tgt := 44) dX11_reel_39 (by decide) (fun c_39 => ?_) (fun c_39 => ?_)
    · refine ev_aload_n dX11_reel_44 rfl rfl ?_
      refine cw_getf hE hT dX11_reel_45 fX11_16 (k := 0) (i := 0) rfl ob0 rfl ?_
      refine ev_new2 (b := 1) (n := 200) hE dX11_reel_48 wX11_128 (by decide) (by decide) (fun y g1 k0 k1 k2 => ?_)
      refine ev_dup dX11_reel_51 rfl ?_
      refine ev_iload_n dX11_reel_52 rfl rfl ?_
      refine ev_sipush (v := 1000) dX11_reel_53 (by decide) ?_
      refine ev_iload_n dX11_reel_56 rfl rfl ?_
      refine ev_isub dX11_reel_57 ?_
      refine ev_imul dX11_reel_58 ?_
      refine ev_sipush (v := 1000) dX11_reel_59 (by decide) ?_
      refine ev_idiv dX11_reel_62 (by decide) ?_
      refine ev_callI (d' := d - 1) (b := 1) (k0 := 200) (As := [.int ((x1 * (1000 - x2)) / 1000)]) dX11_reel_63 rfl rfl kX8_init rfl rfl lX11_130 iX8_init (Nat.le_of_ble_eq_true rfl) (by omega) (c_X8_init (d := d - 1) hE h4 (by omega) k1) (by decide) (by decide) (fun v g2 h => ?_) (fun E g h => by cases h.1)
      obtain ⟨h1, H9, KO⟩ := h
      cases h1
      have hg2 : ∀ b e, g b = some e → g2 b = some e := fun b e h => by
        have hne : b ≠ y := fun z => by rw [z, k0] at h; cases h
        exact KO b e hne ((k2 b hne).trans h)
      obtain ⟨cap, f1, f2, f3, f4⟩ := hT.B.2.2.2.2.2.1 1 (by decide)
      have hcu : cw_cu (cx_newR C (x1 * (1000 - x2) / 1000)) C 1 (sp_R C) cap := ((cx_grow_cu f1 f2).up (k := 27) rfl (by decide) (by decide) (by decide)).up (k := 27) rfl (by decide) (by decide) (by decide)
      have hR80 : sp_R C < 80 := Nat.lt_of_not_le fun q => absurd (show nI (sp_R C) < nI 80 by rw [← hBR.1]; exact c_39) (nI_nlt (a := sp_R C) (b := 80) q (by omega))
      refine cw_addc1 (C2 := (cx_newR C ((x1 * (1000 - x2)) / 1000))) (cap := cap) (A := fun _ => y) (b := 0) (n0 := 0) hE h4 h99 hT dX11_reel_66 lX11_105 hA hg2 (fun k hk => ⟨k0, _, H9⟩) (fun k k' hk hk' _ => by have a : k = 27 := List.mem_singleton.mp hk; have b : k' = 27 := List.mem_singleton.mp hk'; rw [a, b]) H9 f1 f2 f3 f4 ?_ (by omega) ?_ (Nat.le_of_ble_eq_true rfl) (by omega) (by decide) (by decide) (fun q9 g hT => ?_)
      · exact hcu
      · intro q k hk
        have hk : k = 27 := List.mem_singleton.mp hk
        subst hk
        refine ⟨fun ci fs e => ?_, fun m h e => (by simp only [cw_ar] at e; cases e)⟩
        rw [ob27] at e
        cases e
        rw [H9]
        unfold cx_newR
        rw [mo_up_ne (by decide), mo_up_at, pk_us, mo_up_at, pk_us]
      have e00 : (cw_wu W 1 (sp_R C) q9 (fun _ => y)) 0 0 = W 0 0 := cw_wu_o (by decide) (by decide)
      have e99 : (cw_wu W 1 (sp_R C) q9 (fun _ => y)) 99 0 = W 99 0 := cw_wu_o (by decide) (by decide)
      rw [← e00]
      refine ev_pop dX11_reel_69 rfl ?_
      refine ev_aload_n dX11_reel_70 rfl rfl ?_
      refine cw_getf hE hT dX11_reel_71 fX11_16 (k := 0) (i := 0) rfl ob0 rfl ?_
      refine cw_size (l := 1) (v := nI (sp_R C + 1)) hE hT dX11_reel_74 lX11_89 (by decide) (Nat.le_of_ble_eq_true rfl) (by omega) (hcu.1) ?_
      refine ev_iconst (v := 1) dX11_reel_77 (by decide) ?_
      refine ev_isub dX11_reel_78 ?_
      have e9 : cx_X11_reel C x1 x2 = ((.inr (((nI (sp_R C + 1)) - 1))), (cx_newR C ((x1 * (1000 - x2)) / 1000))) := by unfold cx_X11_reel; rw [if_neg c_27, if_pos c_39]
      exact ev_iret dX11_reel_79 rfl rfl ⟨(cw_wu W 1 (sp_R C) q9 (fun _ => y)), (cx_newR C ((x1 * (1000 - x2)) / 1000)), ⟨e99, e00, by rw [e9]; rfl, by rw [e9]; exact (cx_eqX.r _)⟩, hT⟩
    · refine ev_iconst (v := (-1)) dX11_reel_42 (by decide) ?_
      have e9 : cx_X11_reel C x1 x2 = ((.inr ((-1))), C) := by unfold cx_X11_reel; rw [if_neg c_27, if_neg c_39]
      exact ev_iret dX11_reel_43 rfl rfl ⟨W, C, ⟨rfl, rfl, by rw [e9]; rfl, by rw [e9]; exact (cx_eqX.r _)⟩, hT⟩
  refine ev_if_eq (tgt := 26) dX11_reel_8 (by decide) (fun c_8 => ?_) (fun c_8 => ?_)
  · refine ev_iconst (v := 0) dX11_reel_26 (by decide) ?_
    exact K_27 g hT _ (by rw [if_pos c_8]; rfl)
  · refine ev_iload_n dX11_reel_11 rfl rfl ?_
    refine ev_iconst (v := 0) dX11_reel_12 (by decide) ?_
    refine ev_sipush (v := 500) dX11_reel_13 (by decide) ?_
    refine ev_pS3 (d' := d - 1) dX11_reel_16 rfl kX11_within lX11_80 sX11_within (Nat.le_of_ble_eq_true rfl) (by omega) (c_X11_within) ?_
    refine ev_if_eq (tgt := 26) dX11_reel_19 (by decide) (fun c_19 => ?_) (fun c_19 => ?_)
    · refine ev_iconst (v := 0) dX11_reel_26 (by decide) ?_
      exact K_27 g hT _ (by rw [if_neg c_8, if_pos c_19]; rfl)
    · refine ev_iconst (v := 1) dX11_reel_22 (by decide) ?_
      refine ev_goto (tgt := 27) dX11_reel_23 (by decide) ?_
      exact K_27 g hT _ (by rw [if_neg c_8, if_neg c_19]; rfl)
end CD
