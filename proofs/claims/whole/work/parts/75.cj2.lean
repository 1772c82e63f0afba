section CJ2
def cx_open (C : mo_S) : mo_S := cx_fl (mo_up C 134 0 (nI (cw_M C + 1))) 126 (fun j => 48 * cw_M C + j) (-2000000000) 48
def cw_wo (W : cw_W) (m y : Nat) : cw_W := fun k i => if k = 34 ∧ i = m then y else W k i
theorem cx_open_ne {C : mo_S} {k x : Nat} (h : ¬ (k = 134 ∧ x = 0)) (h2 : ¬ (k = 126 ∧ x / 48 = cw_M C)) : (cx_open C).1 k x = C.1 k x := by
  unfold cx_open
  by_cases z : k = 126
  · subst z
    rw [cx_fl_no 48 (fun j hj e => h2 ⟨rfl, by rw [← e, Nat.mul_add_div (by decide), Nat.div_eq_of_lt hj]; rfl⟩), mo_up_ne (by decide)]
  · rw [cx_fl_ne z, cw_up_at h]
theorem cx_open_M {C : mo_S} (h : cw_M C < 600) : cw_M (cx_open C) = cw_M C + 1 := by
  have e : (cx_open C).1 134 0 = nI (cw_M C + 1) := by
    unfold cx_open
    rw [cx_fl_ne (by decide), mo_up_at, pk_us]
  show ((cx_open C).1 134 0).toNatClampNeg = _
  rw [e, nI_clamp (by omega)]
theorem cx_open_at {C : mo_S} {j : Nat} (hj : j < 48) : (cx_open C).1 126 (48 * cw_M C + j) = -2000000000 := cx_fl_at (e := fun j => 48 * cw_M C + j) 48 j hj
theorem cx_open_lv {C : mo_S} {k i : Nat} (h : cw_M C < 600) (hl : cw_lv (cx_open C) k i) : (k = 34 ∧ i = cw_M C) ∨ cw_lv C k i := by
  have f : ∀ f x, f ≠ 134 → f ≠ 126 → (cx_open C).1 f x = C.1 f x := fun f x a b => cx_open_ne (fun q => a q.1) (fun q => b q.1)
  have s0 : sp_P (cx_open C) = sp_P C := congrArg Int32.toNatClampNeg (f 1 0 (by decide) (by decide))
  have s1 : sp_R (cx_open C) = sp_R C := congrArg Int32.toNatClampNeg (f 21 0 (by decide) (by decide))
  have s2 : sp_O (cx_open C) = sp_O C := congrArg Int32.toNatClampNeg (f 29 0 (by decide) (by decide))
  have s3 : sp_A (cx_open C) = sp_A C := congrArg Int32.toNatClampNeg (f 62 0 (by decide) (by decide))
  have sM := cx_open_M h
  have sO : ∀ i, cw_ol (cx_open C) i ↔ cw_ol C i := fun i => by unfold cw_ol; rw [s2, f 133 0 (by decide) (by decide)]
  have hk : k < 35 := by
    rcases Nat.lt_or_ge k 35 with q | q
    · exact q
    · exfalso
      obtain ⟨m, rfl⟩ : ∃ m, k = m + 35 := ⟨k - 35, by omega⟩
      exact hl
  match k, hk, hl with
  | 0, _, hl => have h0 : i = 0 := hl; exact Or.inr h0
  | 1, _, hl => have h0 : i < 4 := hl; exact Or.inr h0
  | 2, _, hl => exact Or.inr ⟨hl.1, by rw [← f 132 i (by decide) (by decide)]; exact hl.2⟩
  | 3, _, hl => have h0 : i = 0 := hl; exact Or.inr h0
  | 4, _, hl => have h0 : i = 0 := hl; exact Or.inr h0
  | 5, _, hl => have h0 : i = 0 := hl; exact Or.inr h0
  | 6, _, hl => have h0 : i = 0 := hl; exact Or.inr h0
  | 7, _, hl => have h0 : i = 0 := hl; exact Or.inr h0
  | 8, _, hl => have h0 : i = 0 := hl; exact Or.inr h0
  | 9, _, hl => have h0 : i = 0 := hl; exact Or.inr h0
  | 10, _, hl => have h0 : i = 0 := hl; exact Or.inr h0
  | 11, _, hl => have h0 : i = 0 := hl; exact Or.inr h0
  | 12, _, hl => have h0 : i = 0 := hl; exact Or.inr h0
  | 13, _, hl => have h0 : i = 0 := hl; exact Or.inr h0
  | 14, _, hl => have h0 : i = 0 := hl; exact Or.inr h0
  | 15, _, hl => have h0 : i = 0 := hl; exact Or.inr h0
  | 16, _, hl => have h0 : i = 0 := hl; exact Or.inr h0
  | 17, _, hl => have h0 : i = 0 := hl; exact Or.inr h0
  | 18, _, hl => have h0 : i = 0 := hl; exact Or.inr h0
  | 19, _, hl => have h0 : i = 0 := hl; exact Or.inr h0
  | 20, _, hl => exact Or.inr (by have hl : i < sp_P (cx_open C) := hl; rw [s0] at hl; exact hl)
  | 21, _, hl => exact Or.inr (by have hl : i < sp_P (cx_open C) := hl; rw [s0] at hl; exact hl)
  | 22, _, hl => exact Or.inr (by have hl : i < sp_P (cx_open C) := hl; rw [s0] at hl; exact hl)
  | 23, _, hl => exact Or.inr (by have hl : i < sp_P (cx_open C) := hl; rw [s0] at hl; exact hl)
  | 24, _, hl => exact Or.inr (by have hl : i < sp_P (cx_open C) := hl; rw [s0] at hl; exact hl)
  | 25, _, hl => exact Or.inr (by have hl : i < sp_P (cx_open C) := hl; rw [s0] at hl; exact hl)
  | 26, _, hl => exact Or.inr (by have hl : i < sp_P (cx_open C) := hl; rw [s0] at hl; exact hl)
  | 27, _, hl => exact Or.inr (by have hl : i < sp_R (cx_open C) := hl; rw [s1] at hl; exact hl)
  | 28, _, hl => exact Or.inr ((sO i).mp hl)
  | 29, _, hl => exact Or.inr ((sO i).mp hl)
  | 30, _, hl => exact Or.inr ⟨(sO i).mp hl.1, by rw [← f 110 i (by decide) (by decide)]; exact hl.2⟩
  | 31, _, hl => exact Or.inr ((sO i).mp hl)
  | 32, _, hl => exact Or.inr ((sO i).mp hl)
  | 33, _, hl => exact Or.inr (by have hl : i < sp_A (cx_open C) := hl; rw [s3] at hl; exact hl)
  | 34, _, hl =>
    have hl : i < cw_M (cx_open C) := hl
    rcases Nat.lt_or_ge i (cw_M C) with z | z
    · exact Or.inr z
    · exact Or.inl ⟨rfl, by omega⟩
  | k + 35, hk, _ => exact absurd hk (by omega)
theorem cx_open_B {C : mo_S} (hB : cw_B C) (h : cw_M C < 600) : cw_B (cx_open C) := by
  have f : ∀ f x, f ≠ 134 → f ≠ 126 → (cx_open C).1 f x = C.1 f x := fun f x a b => cx_open_ne (fun q => a q.1) (fun q => b q.1)
  obtain ⟨a0, a1, a2, a3, aM, aC, aL⟩ := hB
  have s0 : sp_P (cx_open C) = sp_P C := congrArg Int32.toNatClampNeg (f 1 0 (by decide) (by decide))
  have s1 : sp_R (cx_open C) = sp_R C := congrArg Int32.toNatClampNeg (f 21 0 (by decide) (by decide))
  have s2 : sp_O (cx_open C) = sp_O C := congrArg Int32.toNatClampNeg (f 29 0 (by decide) (by decide))
  have s3 : sp_A (cx_open C) = sp_A C := congrArg Int32.toNatClampNeg (f 62 0 (by decide) (by decide))
  refine ⟨⟨by rw [f 1 0 (by decide) (by decide), s0]; exact a0.1, by rw [s0]; exact a0.2⟩, ⟨by rw [f 21 0 (by decide) (by decide), s1]; exact a1.1, by rw [s1]; exact a1.2⟩, ⟨by rw [f 29 0 (by decide) (by decide), s2]; exact a2.1, by rw [s2]; exact a2.2⟩, ⟨by rw [f 62 0 (by decide) (by decide), s3]; exact a3.1, by rw [s3]; exact a3.2⟩, ⟨?_, by rw [cx_open_M h]; omega⟩, fun l hl => ?_, fun i => by rw [f 111 i (by decide) (by decide), f 113 i (by decide) (by decide)]; exact aL i⟩
  · rw [cx_open_M h]
    unfold cx_open
    rw [cx_fl_ne (by decide), mo_up_at, pk_us]
  · obtain ⟨cp, b1, b2, b3, b4⟩ := aC l hl
    refine ⟨cp, by rw [f 132 l (by decide) (by decide)]; exact b1, b2, ?_, b4⟩
    have e : cw_n (cx_open C) l = cw_n C l := by
      obtain rfl | rfl | rfl | rfl : l = 0 ∨ l = 1 ∨ l = 2 ∨ l = 3 := by omega
      · exact s0
      · exact s1
      · exact s2
      · exact s3
    rw [e]; exact b3
theorem cw_T.opn {G : ev_G} {K : Nat → Prop} {g0 g g2 : ev_H} {W : cw_W} {C : mo_S} {y : Nat} {f : Nat → Int32} {r : Nat → Option Nat} (hT : cw_T G K g0 W g C) (hA : ∀ a, a < sp_A C → (C.1 63 a).toNatClampNeg < sp_P C) (hm : cw_M C < 600) (hy : g y = none) (hy2 : g2 y = some (.inl (G.2.2.2 0, 48, .inl f))) (hf : ∀ j, j < 48 → f j = -2000000000) (h14 : g2 (W 14 0) = some (.inl (G.2.2.2 5, 600, .inr (.inr (.inr (.inr (va_up r (cw_M C) (some y)))))))) (hr : ∀ j, j < 600 → r j = if j < cw_M C then some (W 34 j) else none) (ho : ∀ b, b ≠ y → b ≠ W 14 0 → g2 b = g b) : cw_T G K g0 (cw_wo W (cw_M C) y) g2 (cx_open C) := by
  have hex := @cw_T.ex9 G K g0 g W C hT
  have hD0 := hT.2.2.2
  have hl14 : cw_lv C 14 0 := rfl
  have hWy : ∀ k i, cw_lv C k i → W k i ≠ y := fun k i h => hT.ne0 h hy
  have hWo : ∀ k i, cw_lv C k i → cw_wo W (cw_M C) y k i = W k i := fun k i h => by
    unfold cw_wo
    rw [if_neg (fun z => ?_)]
    obtain ⟨rfl, rfl⟩ := z
    exact absurd h (Nat.lt_irrefl _)
  have hN : cw_wo W (cw_M C) y 34 (cw_M C) = y := if_pos ⟨rfl, rfl⟩
  have hN14 : cw_wo W (cw_M C) y 14 0 = W 14 0 := hWo 14 0 hl14
  have ff : ∀ f x, f ≠ 134 → f ≠ 126 → (cx_open C).1 f x = C.1 f x := fun f x a b => cx_open_ne (fun q => a q.1) (fun q => b q.1)
  refine hT.grow (l := 4) (fun k i => (k = 14 ∧ i = 0) ∨ (k = 34 ∧ i = cw_M C)) (if_neg (fun z => absurd z.1 (by decide))) (fun k i h _ => hWo k i h) hA (cx_open_B hT.B hm) (fun a ha => ?_) (fun k i hl => ?_) (fun k i k' i' h1 h2 e => ?_)
  · obtain ⟨t1, v, t2⟩ := hT.2.1 a ha
    exact ho a (fun z => hT.K0 hy (z ▸ ha)) (fun z => (hT.2.2.1 14 0 hl14).2 (z ▸ ha))
  · by_cases z1 : k = 14 ∧ i = 0
    · obtain ⟨rfl, rfl⟩ := z1
      refine Or.inr ⟨Or.inl ⟨rfl, rfl⟩, ⟨fun ci fs e => (by simp only [cw_ob] at e; cases e), fun m h e => (by simp only [cw_ar] at e; cases e), fun e => absurd e (by decide), fun e => absurd e (by decide), fun _ => ⟨_, by rw [hN14]; exact h14, fun j hj => ?_⟩⟩, by rw [hN14]; exact (hT.2.2.1 14 0 hl14).2⟩
      rw [cx_open_M hm]
      by_cases q : j = cw_M C
      · rw [q, va_up_self, if_pos (by omega), hN]
      · rw [va_up_ne _ _ q, hr j hj]
        by_cases q2 : j < cw_M C
        · rw [if_pos q2, if_pos (by omega), hWo 34 j q2]
        · rw [if_neg q2, if_neg (by omega)]
    · by_cases z2 : k = 34 ∧ i = cw_M C
      · obtain ⟨rfl, rfl⟩ := z2
        refine Or.inr ⟨Or.inr ⟨rfl, rfl⟩, cw_at_ar (by decide) ar34 ⟨f, by rw [hN]; exact hy2, fun j hj => ?_⟩, by rw [hN]; exact hT.K0 hy⟩
        rw [hf j hj]
        exact (cx_open_at hj).symm
      · have hl0 : cw_lv C k i := (cx_open_lv hm hl).resolve_left z2
        refine Or.inl ⟨hl0, fun y4 => ?_, ⟨fun f' x ho' => cx_open_ne (fun q => ?_) (fun q => ?_), fun y4 => ?_, fun _ _ => ⟨ff _ _ (by decide) (by decide), ff _ _ (by decide) (by decide), ff _ _ (by decide) (by decide)⟩, fun e => ?_, fun _ => cx_fl_2 48⟩, ?_⟩
        · have hi4 : i < 4 := by
            rcases y4 with rfl | rfl
            · exact hl0
            · exact hl0.1
          omega
        · rw [q.1] at ho'
          cases ho'
          exact hl0
        · rw [q.1] at ho'
          have e2 : (34, x / 48) = (k, i) := ho'
          cases e2
          exact z2 ⟨rfl, q.2⟩
        · refine ⟨ff _ _ (by decide) (by decide), ff _ _ ?_ ?_⟩
          · have := cw_sz_lt i; omega
          · have := cw_sz_lt i; omega
        · subst e
          have : i = 0 := hl0
          exact absurd ⟨rfl, this⟩ z1
        · refine ho _ (hWy k i hl0) (fun e => ?_)
          obtain ⟨r1, r2⟩ := hD0 k i 14 0 hl0 hl14 e
          exact z1 ⟨r1, r2⟩
  · have hk' : (k' = 34 ∧ i' = cw_M C) ∨ cw_lv C k' i' := cx_open_lv hm h2
    rcases h1 with ⟨rfl, rfl⟩ | ⟨rfl, rfl⟩
    · rw [hN14] at e
      rcases hk' with ⟨rfl, rfl⟩ | q
      · rw [hN] at e; exact absurd e (hWy 14 0 hl14)
      · rw [hWo k' i' q] at e; exact hD0 14 0 k' i' hl14 q e
    · rw [hN] at e
      rcases hk' with ⟨rfl, rfl⟩ | q
      · exact ⟨rfl, rfl⟩
      · rw [hWo k' i' q] at e; exact absurd e.symm (hWy k' i' q)
theorem c_X2_open {G : ev_G} {W : cw_W} {d D0 : Nat} {C : mo_S} (hE : ev_En G) (h4 : ev_En4 G D0) (hd : 1 ≤ d) (hA : ∀ a, a < sp_A C → (C.1 63 a).toNatClampNeg < sp_P C) (hm : cw_M C < 600) : cw_R G W d 1 48 mX2_open [.ref (W 13 0), .int (nI (cw_M C))] C (fun o W2 C2 => (∃ y, W2 = cw_wo W (cw_M C) y) ∧ o = .inl none ∧ C2 = cx_open C) := by
  refine cw_startR (lv0 := [some (.ref (W 13 0)), some (.int (nI (cw_M C))), none]) (by decide +kernel) rfl (Nat.le_of_ble_eq_true rfl) rfl ?_
  intro K g0 g hT
  obtain ⟨r, a1, a2⟩ := (hT.at (k := 14) (i := 0) rfl).2.2.2.2 rfl
  refine ev_iload_n dX2_open_0 rfl rfl ?_
  refine ev_if_lt (tgt := 31) dX2_open_1 (by decide) (fun c => absurd c (nI_pos (by omega))) (fun _ => ?_)
  refine ev_iload_n dX2_open_4 rfl rfl ?_
  refine ev_aload_n dX2_open_5 rfl rfl ?_
  refine cw_getf hE hT dX2_open_6 fX2_11 (k := 13) (i := 0) rfl ob13 rfl ?_
  refine ev_alen (t0 := 5) hE dX2_open_9 rfl a1 ?_
  refine ev_icmp_ge (tgt := 31) dX2_open_10 (by decide) (fun c => absurd c (nI_ge hm (by decide))) (fun _ => ?_)
  refine ev_bipush (v := 48) dX2_open_13 (by decide) ?_
  refine ev_newa2_int (N := 48) (b := 0) (n := 0) hE dX2_open_15 a_int (by decide) (by decide) (by decide) (by decide) (by decide) (fun y g1 k0 k1 k2 => ?_)
  refine ev_astore_n dX2_open_17 rfl (Nat.le_of_ble_eq_true rfl) rfl ?_
  refine ev_aload_n dX2_open_18 rfl rfl ?_
  refine ev_ldc dX2_open_19 nX2_33 ?_
  refine ev_callS (d' := d - 1) (b := 0) (k0 := 0) (ci := 0) (r := 0) (fs := []) (As := [.ref y, .int (-2000000000)]) dX2_open_21 rfl kJ7_fill_53178 rfl lX2_34 sJ7_fill_53178 (Nat.le_of_ble_eq_true rfl) (by omega) (c_fill hE k1 (by decide)) (Nat.le_refl _) (Nat.le_refl _) (fun v2 g2 h => ?_) (fun E g' h => by cases h.1)
  obtain ⟨h1, f, h2, h3⟩ := h
  cases h1
  have ho : ∀ b, b ≠ y → g2 b = g b := fun b hb => by rw [h2, ev_up_n _ _ hb, k2 b hb]
  have hT2 : cw_T G K g0 W g2 C := hT.mv (fun b e h => by rw [ho b (fun z => by rw [z, k0] at h; cases h)]; exact h)
  have hy2 : g2 y = some (.inl (G.2.2.2 0, 48, .inl f)) := by rw [h2]; exact ev_up_s _ _ _
  have hne : W 14 0 ≠ y := hT.ne0 (k := 14) (i := 0) rfl k0
  refine ev_aload_n dX2_open_24 rfl rfl ?_
  refine cw_getf hE hT2 dX2_open_25 fX2_11 (k := 13) (i := 0) rfl ob13 rfl ?_
  refine ev_iload_n dX2_open_28 rfl rfl ?_
  refine ev_aload_n dX2_open_29 rfl rfl ?_
  refine ev_gastq hE h4 dX2_open_30 (by rw [ho _ hne]; exact a1) hy2 (vp_in_nI hm (by decide)) ?_
  rw [nI_clamp (by omega)]
  refine ev_vret dX2_open_31 rfl ⟨_, _, ⟨⟨y, rfl⟩, rfl, rfl⟩, hT.opn hA hm k0 (by rw [ev_up_n _ _ (Ne.symm hne)]; exact hy2) h3 (ev_up_s _ _ _) a2 (fun b b1 b2 => by rw [ev_up_n _ _ b2]; exact ho b b1)⟩
end CJ2
