section CB
section RS
variable {G : ev_G} {d bc bs D0 : Nat} {M : ev_M} {Post : ev_P} {g : ev_H} {pc : Nat} {lv : List (Option Value)} {st : List Value}
variable {K : Nat → Prop} {g0 : ev_H} {W : cw_W} {C : mo_S}
/-- what was made since lies apart from what was there at the start -/
theorem ev_ge (kk : (∀ a e, g a = some e → ev_A G a) → ev_V G d bc bs M Post g pc lv st) : ev_V G d bc bs M Post g pc lv st := by
  intro p e s m args below meth c H locs cells slots mc ms ls hC hR hS hc hs hl
  obtain ⟨L, f, h1, h2, h3⟩ := id hR
  refine kk (fun a x h => ?_) p e s m args below meth c H locs cells slots mc ms ls hC hR hS hc hs hl
  have ha := ((h1 a x).mp h).1
  obtain ⟨k, hk⟩ := List.getElem?_of_mem ha
  exact h3.2 k (a, f a) (by unfold va_pl; rw [List.getElem?_map, hk]; rfl)
theorem cw_addc0 {index b n0 cap : Nat} {C2 : mo_S} {g1 : ev_H} {A : Nat → Nat} {fy : List Value} (hE : ev_En G) (h4 : ev_En4 G D0) (h99 : W 99 0 = D0) (hT : cw_T G K g0 W g C) (hd : decode M.2.1 pc = .ok (.invokevirtual index, 3)) (hl1 : Cond.methodLink M.1.cls index yJx4a65c_add_9ea2d ∈ ev_T) (hA : ∀ a, a < sp_A C → (C.1 63 a).toNatClampNeg < sp_P C) (hg : ∀ b e, g b = some e → g1 b = some e) (hA0 : ∀ k, k ∈ cw_nk 0 → g (A k) = none ∧ ∃ e, g1 (A k) = some e) (hAi : ∀ k k', k ∈ cw_nk 0 → k' ∈ cw_nk 0 → A k = A k' → k = k') (hy : g1 (A 20) = some (.inr (6, fy))) (hcap : C.1 132 0 = nI cap) (hc2 : cap ≤ 200) (hc3 : sp_P C ≤ cap) (hc4 : cap = 0 ∨ 10 ≤ cap) (hC : cw_cu C2 C 0 (sp_P C) cap) (hn : sp_P C + 1 ≤ 12)
    (hnew : ∀ q, ∀ k, k ∈ cw_nk 0 → (∀ ci fs, cw_ob (cw_wu W 0 (sp_P C) q A) C2 k (sp_P C) = some (ci, fs) → g1 (A k) = some (.inr (ci, fs))) ∧ ∀ m h, cw_ar C2 k (sp_P C) = some (m, h) → cw_ia G g1 (A k) m h)
    (hr : (st.map fun v => v.category).sum ≤ 8) (hdd : 8 ≤ d) (hb : b + 1 ≤ bc) (hs0 : n0 + 200 ≤ bs) (kk : ∀ q g2, cw_T G K g0 (cw_wu W 0 (sp_P C) q A) g2 C2 → ev_V G d b n0 M Post g2 (pc + 3) lv (.int 1 :: st)) : ev_V G d bc bs M Post g1 pc lv (.ref (A 20) :: .ref (W 1 0) :: st) := by
  refine ev_ge (fun hge => ?_)
  have hsz : C.1 1 0 = nI (sp_P C) ∧ sp_P C ≤ 12 := hT.B.1
  have hlv1 : cw_lv C 1 0 := (show (0 : Nat) < 4 by decide)
  have hex := @cw_T.ex9 G K g0 g W C hT
  have hob : g (W 1 0) = some (.inr (0, [.int (C.1 131 0), .ref (if C.1 132 0 = 0 then W 99 0 else W 2 0), .int (nI (sp_P C))])) := by
    have := (hT.at hlv1).1 _ _ ob1
    rw [← hsz.1]
    exact this
  have hne : ∀ k i, cw_lv C k i → W k i ≠ A 20 := fun k i h e => by
    obtain ⟨v, hv⟩ := hex h
    rw [e, (hA0 20 (by decide)).1] at hv
    cases hv
  have hpre : cl_pre G D0 g1 (W 1 0) (C.1 131 0) (if C.1 132 0 = 0 then W 99 0 else W 2 0) (sp_P C) cap 6 (fun j => if j < sp_P C then some (W (cw_ek 0) j) else none) := by
    refine ⟨hg _ _ hob, ?_, hc3, by omega, hc2, fun i y hy => ?_, fun j hj => if_neg (by omega)⟩
    · by_cases z : C.1 132 0 = 0
      · have hz : cap = 0 := by
          rcases hc4 with q | q
          · exact q
          · exact absurd (hcap.symm.trans z) (nI_ne0 (by omega) (by omega))
        have hz2 : sp_P C = 0 := by omega
        exact Or.inl ⟨hz, by rw [if_pos z]; exact h99, hz2, fun j => if_neg (by omega)⟩
      · obtain ⟨f, a1, a2⟩ := (hT.at (k := 2) (i := 0) ⟨by decide, z⟩).2.2.1 rfl
        rw [hcap, nI_clamp (by omega)] at a1
        have ef : f = fun j => if j < sp_P C then some (W (cw_ek 0) j) else none := funext fun j => a2 j
        rw [ef] at a1
        refine Or.inr ⟨?_, by rw [if_neg z]; exact hg _ _ a1⟩
        rcases hc4 with q | q
        · exact absurd (by rw [hcap, q]; rfl) z
        · exact q
    · dsimp only at hy
      by_cases z : i < sp_P C
      · rw [if_pos z] at hy
        cases hy
        exact ⟨_, hg _ _ ((hT.at (k := 20) (i := i) z).1 _ _ ob20)⟩
      · rw [if_neg z] at hy
        cases hy
  have hae : W 1 0 ≠ (if C.1 132 0 = 0 then W 99 0 else W 2 0) := by
    by_cases z : C.1 132 0 = 0
    · rw [if_pos z, h99]
      intro e
      obtain ⟨cell, _, _, _, _, _, _, hn9⟩ := h4.2.2.1.2
      exact hn9 (by rw [← e]; exact hge _ _ (hg _ _ hob))
    · rw [if_neg z]
      intro e
      have := hT.2.2.2 1 0 2 0 hlv1 ⟨by decide, z⟩ e
      exact absurd this.1 (by decide)
  refine ev_callV (d' := d - 1) (b := b) (k0 := n0) (As := [.ref (A 20)]) hE hd rfl kJx4a65c_add_9ea2d rfl hl1 iJx4a65c_add_9ea2d vJx4a65c_add_9ea2d (hg _ _ hob) rfl hr (by omega) (cl_add (ci := 6) (Cn := RX5) hE h4 (by omega) hpre hy (hne 1 0 hlv1) hae rfl (by decide) (by decide)) hb hs0 (fun v g' h => ?_) (fun E g' h => by cases h.1)
  obtain ⟨h1, h2⟩ := h
  cases h1
  obtain ⟨q, hT2⟩ := hT.add0 hA hg hA0 hAi rfl (fun _ => rfl) hcap hc2 hc3 hc4 h2 hC hn hnew
  exact kk q g' hT2
theorem cw_addc1 {index b n0 cap : Nat} {C2 : mo_S} {g1 : ev_H} {A : Nat → Nat} {fy : List Value} (hE : ev_En G) (h4 : ev_En4 G D0) (h99 : W 99 0 = D0) (hT : cw_T G K g0 W g C) (hd : decode M.2.1 pc = .ok (.invokevirtual index, 3)) (hl1 : Cond.methodLink M.1.cls index yJx4a65c_add_9ea2d ∈ ev_T) (hA : ∀ a, a < sp_A C → (C.1 63 a).toNatClampNeg < sp_P C) (hg : ∀ b e, g b = some e → g1 b = some e) (hA0 : ∀ k, k ∈ cw_nk 1 → g (A k) = none ∧ ∃ e, g1 (A k) = some e) (hAi : ∀ k k', k ∈ cw_nk 1 → k' ∈ cw_nk 1 → A k = A k' → k = k') (hy : g1 (A 27) = some (.inr (9, fy))) (hcap : C.1 132 1 = nI cap) (hc2 : cap ≤ 200) (hc3 : sp_R C ≤ cap) (hc4 : cap = 0 ∨ 10 ≤ cap) (hC : cw_cu C2 C 1 (sp_R C) cap) (hn : sp_R C + 1 ≤ 80)
    (hnew : ∀ q, ∀ k, k ∈ cw_nk 1 → (∀ ci fs, cw_ob (cw_wu W 1 (sp_R C) q A) C2 k (sp_R C) = some (ci, fs) → g1 (A k) = some (.inr (ci, fs))) ∧ ∀ m h, cw_ar C2 k (sp_R C) = some (m, h) → cw_ia G g1 (A k) m h)
    (hr : (st.map fun v => v.category).sum ≤ 8) (hdd : 8 ≤ d) (hb : b + 1 ≤ bc) (hs0 : n0 + 200 ≤ bs) (kk : ∀ q g2, cw_T G K g0 (cw_wu W 1 (sp_R C) q A) g2 C2 → ev_V G d b n0 M Post g2 (pc + 3) lv (.int 1 :: st)) : ev_V G d bc bs M Post g1 pc lv (.ref (A 27) :: .ref (W 1 1) :: st) := by
  refine ev_ge (fun hge => ?_)
  have hsz : C.1 21 0 = nI (sp_R C) ∧ sp_R C ≤ 80 := hT.B.2.1
  have hlv1 : cw_lv C 1 1 := (show (1 : Nat) < 4 by decide)
  have hex := @cw_T.ex9 G K g0 g W C hT
  have hob : g (W 1 1) = some (.inr (0, [.int (C.1 131 1), .ref (if C.1 132 1 = 0 then W 99 0 else W 2 1), .int (nI (sp_R C))])) := by
    have := (hT.at hlv1).1 _ _ ob1
    rw [← hsz.1]
    exact this
  have hne : ∀ k i, cw_lv C k i → W k i ≠ A 27 := fun k i h e => by
    obtain ⟨v, hv⟩ := hex h
    rw [e, (hA0 27 (by decide)).1] at hv
    cases hv
  have hpre : cl_pre G D0 g1 (W 1 1) (C.1 131 1) (if C.1 132 1 = 0 then W 99 0 else W 2 1) (sp_R C) cap 9 (fun j => if j < sp_R C then some (W (cw_ek 1) j) else none) := by
    refine ⟨hg _ _ hob, ?_, hc3, by omega, hc2, fun i y hy => ?_, fun j hj => if_neg (by omega)⟩
    · by_cases z : C.1 132 1 = 0
      · have hz : cap = 0 := by
          rcases hc4 with q | q
          · exact q
          · exact absurd (hcap.symm.trans z) (nI_ne0 (by omega) (by omega))
        have hz2 : sp_R C = 0 := by omega
        exact Or.inl ⟨hz, by rw [if_pos z]; exact h99, hz2, fun j => if_neg (by omega)⟩
      · obtain ⟨f, a1, a2⟩ := (hT.at (k := 2) (i := 1) ⟨by decide, z⟩).2.2.1 rfl
        rw [hcap, nI_clamp (by omega)] at a1
        have ef : f = fun j => if j < sp_R C then some (W (cw_ek 1) j) else none := funext fun j => a2 j
        rw [ef] at a1
        refine Or.inr ⟨?_, by rw [if_neg z]; exact hg _ _ a1⟩
        rcases hc4 with q | q
        · exact absurd (by rw [hcap, q]; rfl) z
        · exact q
    · dsimp only at hy
      by_cases z : i < sp_R C
      · rw [if_pos z] at hy
        cases hy
        exact ⟨_, hg _ _ ((hT.at (k := 27) (i := i) z).1 _ _ ob27)⟩
      · rw [if_neg z] at hy
        cases hy
  have hae : W 1 1 ≠ (if C.1 132 1 = 0 then W 99 0 else W 2 1) := by
    by_cases z : C.1 132 1 = 0
    · rw [if_pos z, h99]
      intro e
      obtain ⟨cell, _, _, _, _, _, _, hn9⟩ := h4.2.2.1.2
      exact hn9 (by rw [← e]; exact hge _ _ (hg _ _ hob))
    · rw [if_neg z]
      intro e
      have := hT.2.2.2 1 1 2 1 hlv1 ⟨by decide, z⟩ e
      exact absurd this.1 (by decide)
  refine ev_callV (d' := d - 1) (b := b) (k0 := n0) (As := [.ref (A 27)]) hE hd rfl kJx4a65c_add_9ea2d rfl hl1 iJx4a65c_add_9ea2d vJx4a65c_add_9ea2d (hg _ _ hob) rfl hr (by omega) (cl_add (ci := 9) (Cn := RX8) hE h4 (by omega) hpre hy (hne 1 1 hlv1) hae rfl (by decide) (by decide)) hb hs0 (fun v g' h => ?_) (fun E g' h => by cases h.1)
  obtain ⟨h1, h2⟩ := h
  cases h1
  obtain ⟨q, hT2⟩ := hT.add1 hA hg hA0 hAi rfl (fun _ => rfl) hcap hc2 hc3 hc4 h2 hC hn hnew
  exact kk q g' hT2
theorem cw_addc3 {index b n0 cap : Nat} {C2 : mo_S} {g1 : ev_H} {A : Nat → Nat} {fy : List Value} (hE : ev_En G) (h4 : ev_En4 G D0) (h99 : W 99 0 = D0) (hT : cw_T G K g0 W g C) (hd : decode M.2.1 pc = .ok (.invokevirtual index, 3)) (hl1 : Cond.methodLink M.1.cls index yJx4a65c_add_9ea2d ∈ ev_T) (hA : ∀ a, a < sp_A C → (C.1 63 a).toNatClampNeg < sp_P C) (hg : ∀ b e, g b = some e → g1 b = some e) (hA0 : ∀ k, k ∈ cw_nk 3 → g (A k) = none ∧ ∃ e, g1 (A k) = some e) (hAi : ∀ k k', k ∈ cw_nk 3 → k' ∈ cw_nk 3 → A k = A k' → k = k') (hy : g1 (A 33) = some (.inr (1, fy))) (hcap : C.1 132 3 = nI cap) (hc2 : cap ≤ 200) (hc3 : sp_A C ≤ cap) (hc4 : cap = 0 ∨ 10 ≤ cap) (hC : cw_cu C2 C 3 (sp_A C) cap) (hn : sp_A C + 1 ≤ 20)
    (hnew : ∀ q, ∀ k, k ∈ cw_nk 3 → (∀ ci fs, cw_ob (cw_wu W 3 (sp_A C) q A) C2 k (sp_A C) = some (ci, fs) → g1 (A k) = some (.inr (ci, fs))) ∧ ∀ m h, cw_ar C2 k (sp_A C) = some (m, h) → cw_ia G g1 (A k) m h)
    (hr : (st.map fun v => v.category).sum ≤ 8) (hdd : 8 ≤ d) (hb : b + 1 ≤ bc) (hs0 : n0 + 200 ≤ bs) (kk : ∀ q g2, cw_T G K g0 (cw_wu W 3 (sp_A C) q A) g2 C2 → ev_V G d b n0 M Post g2 (pc + 3) lv (.int 1 :: st)) : ev_V G d bc bs M Post g1 pc lv (.ref (A 33) :: .ref (W 1 3) :: st) := by
  refine ev_ge (fun hge => ?_)
  have hsz : C.1 62 0 = nI (sp_A C) ∧ sp_A C ≤ 20 := hT.B.2.2.2.1
  have hlv1 : cw_lv C 1 3 := (show (3 : Nat) < 4 by decide)
  have hex := @cw_T.ex9 G K g0 g W C hT
  have hob : g (W 1 3) = some (.inr (0, [.int (C.1 131 3), .ref (if C.1 132 3 = 0 then W 99 0 else W 2 3), .int (nI (sp_A C))])) := by
    have := (hT.at hlv1).1 _ _ ob1
    rw [← hsz.1]
    exact this
  have hne : ∀ k i, cw_lv C k i → W k i ≠ A 33 := fun k i h e => by
    obtain ⟨v, hv⟩ := hex h
    rw [e, (hA0 33 (by decide)).1] at hv
    cases hv
  have hpre : cl_pre G D0 g1 (W 1 3) (C.1 131 3) (if C.1 132 3 = 0 then W 99 0 else W 2 3) (sp_A C) cap 1 (fun j => if j < sp_A C then some (W (cw_ek 3) j) else none) := by
    refine ⟨hg _ _ hob, ?_, hc3, by omega, hc2, fun i y hy => ?_, fun j hj => if_neg (by omega)⟩
    · by_cases z : C.1 132 3 = 0
      · have hz : cap = 0 := by
          rcases hc4 with q | q
          · exact q
          · exact absurd (hcap.symm.trans z) (nI_ne0 (by omega) (by omega))
        have hz2 : sp_A C = 0 := by omega
        exact Or.inl ⟨hz, by rw [if_pos z]; exact h99, hz2, fun j => if_neg (by omega)⟩
      · obtain ⟨f, a1, a2⟩ := (hT.at (k := 2) (i := 3) ⟨by decide, z⟩).2.2.1 rfl
        rw [hcap, nI_clamp (by omega)] at a1
        have ef : f = fun j => if j < sp_A C then some (W (cw_ek 3) j) else none := funext fun j => a2 j
        rw [ef] at a1
        refine Or.inr ⟨?_, by rw [if_neg z]; exact hg _ _ a1⟩
        rcases hc4 with q | q
        · exact absurd (by rw [hcap, q]; rfl) z
        · exact q
    · dsimp only at hy
      by_cases z : i < sp_A C
      · rw [if_pos z] at hy
        cases hy
        exact ⟨_, hg _ _ ((hT.at (k := 33) (i := i) z).1 _ _ ob33)⟩
      · rw [if_neg z] at hy
        cases hy
  have hae : W 1 3 ≠ (if C.1 132 3 = 0 then W 99 0 else W 2 3) := by
    by_cases z : C.1 132 3 = 0
    · rw [if_pos z, h99]
      intro e
      obtain ⟨cell, _, _, _, _, _, _, hn9⟩ := h4.2.2.1.2
      exact hn9 (by rw [← e]; exact hge _ _ (hg _ _ hob))
    · rw [if_neg z]
      intro e
      have := hT.2.2.2 1 3 2 3 hlv1 ⟨by decide, z⟩ e
      exact absurd this.1 (by decide)
  refine ev_callV (d' := d - 1) (b := b) (k0 := n0) (As := [.ref (A 33)]) hE hd rfl kJx4a65c_add_9ea2d rfl hl1 iJx4a65c_add_9ea2d vJx4a65c_add_9ea2d (hg _ _ hob) rfl hr (by omega) (cl_add (ci := 1) (Cn := RX0) hE h4 (by omega) hpre hy (hne 1 3 hlv1) hae rfl (by decide) (by decide)) hb hs0 (fun v g' h => ?_) (fun E g' h => by cases h.1)
  obtain ⟨h1, h2⟩ := h
  cases h1
  obtain ⟨q, hT2⟩ := hT.add3 hA hg hA0 hAi rfl (fun _ => rfl) hcap hc2 hc3 hc4 h2 hC hn hnew
  exact kk q g' hT2
end RS
end CB
