section CA
/-- what a list's new one is made of -/
def cw_nk (l : Nat) : List Nat := match l with | 0 => [20, 21, 22, 23, 24, 25, 26] | 1 => [27] | _ => [33]
def cw_wu (W : cw_W) (l n q : Nat) (A : Nat → Nat) : cw_W := fun k i => if k = 2 ∧ i = l then q else if k ∈ cw_nk l ∧ i = n then A k else W k i
/-- the numbers then -/
def cw_cu (C2 C : mo_S) (l n cap : Nat) : Prop :=
  C2.1 (cw_sz l) 0 = nI (n + 1) ∧ C2.1 132 l = nI (cl_cap n cap) ∧ C2.1 131 l = C.1 131 l + 1 ∧ (∀ f x, ¬ (f = cw_sz l ∧ x = 0) → ¬ (f = 132 ∧ x = l) → ¬ (f = 131 ∧ x = l) → ¬ ((cw_ow f x).1 ∈ cw_nk l ∧ (cw_ow f x).2 = n) → C2.1 f x = C.1 f x) ∧ C2.2 = C.2
theorem cl_cap_p {n cap : Nat} (h : n ≤ cap) (h0 : cap = 0 ∨ 10 ≤ cap) (hc : cap ≤ 200) (hn : n ≤ 80) : n < cl_cap n cap ∧ 10 ≤ cl_cap n cap ∧ cl_cap n cap ≤ 200 := by
  unfold cl_cap
  split
  · split <;> omega
  · omega
theorem cw_cu_sz0 {C2 C : mo_S} {n cap : Nat} (h : cw_cu C2 C 0 n cap) (hn : n + 1 < 2147483648) : sp_P C2 = n + 1 ∧ C2.1 21 0 = C.1 21 0 ∧ C2.1 29 0 = C.1 29 0 ∧ C2.1 62 0 = C.1 62 0 ∧ (∀ x, C2.1 110 x = C.1 110 x) ∧ (∀ x, C2.1 111 x = C.1 111 x) ∧ (∀ x, C2.1 113 x = C.1 113 x) ∧ C2.1 133 0 = C.1 133 0 ∧ C2.1 134 0 = C.1 134 0 ∧ ∀ x, x ≠ 0 → C2.1 132 x = C.1 132 x := by
  obtain ⟨h1, h2, h3, h4, h5⟩ := h
  have k : ∀ f x, f ∈ cw_S → f ≠ 1 → (f = 132 → x ≠ 0) → C2.1 f x = C.1 f x := fun f x hf a b => h4 f x (fun q => a q.1) (fun q => b q.1 q.2) (fun q => by rw [q.1] at hf; revert hf; decide) (fun q => by
    have e : cw_ow f x = (99, 0) := by
      simp only [cw_S, List.mem_cons, List.mem_nil_iff, or_false] at hf
      rcases hf with rfl | rfl | rfl | rfl | rfl | rfl | rfl | rfl | rfl | rfl <;> rfl
    rw [e] at q
    exact absurd q.1 (show ¬ 99 ∈ cw_nk 0 by decide))
  refine ⟨?_, k 21 0 (by decide) (by decide) (fun q => absurd q (by decide)), k 29 0 (by decide) (by decide) (fun q => absurd q (by decide)), k 62 0 (by decide) (by decide) (fun q => absurd q (by decide)), fun x => k 110 x (by decide) (by decide) (fun q => absurd q (by decide)), fun x => k 111 x (by decide) (by decide) (fun q => absurd q (by decide)), fun x => k 113 x (by decide) (by decide) (fun q => absurd q (by decide)), k 133 0 (by decide) (by decide) (fun q => absurd q (by decide)), k 134 0 (by decide) (by decide) (fun q => absurd q (by decide)), fun x hx => k 132 x (by decide) (by decide) (fun _ => hx)⟩
  have e : sp_P C2 = (C2.1 1 0).toNatClampNeg := rfl
  have h1' : C2.1 1 0 = nI (n + 1) := h1
  rw [e, h1', nI_clamp hn]
theorem cw_cu_lv0 {C2 C : mo_S} {k i cap : Nat} (h : cw_cu C2 C 0 (sp_P C) cap) (hn : sp_P C + 1 < 2147483648) (hl : cw_lv C2 k i) : (k ∈ cw_nk 0 ∧ i = sp_P C) ∨ (k = 2 ∧ i = 0) ∨ cw_lv C k i := by
  obtain ⟨e0, e1, e2, e3, e110, e111, e113, e133, e134, e132⟩ := cw_cu_sz0 h hn
  clear hn h
  have s1 : sp_R C2 = sp_R C := congrArg Int32.toNatClampNeg e1
  have s2 : sp_O C2 = sp_O C := congrArg Int32.toNatClampNeg e2
  have s3 : sp_A C2 = sp_A C := congrArg Int32.toNatClampNeg e3
  have sM : cw_M C2 = cw_M C := congrArg Int32.toNatClampNeg e134
  have sO : ∀ i, cw_ol C2 i ↔ cw_ol C i := fun i => by unfold cw_ol; rw [s2, e133]
  have hk : k < 35 := by
    rcases Nat.lt_or_ge k 35 with q | q
    · exact q
    · exfalso
      obtain ⟨m, rfl⟩ : ∃ m, k = m + 35 := ⟨k - 35, by omega⟩
      exact hl
  match k, hk, hl with
  | 0, _, hl => have h0 : i = 0 := hl; exact Or.inr (Or.inr h0)
  | 1, _, hl => have h0 : i < 4 := hl; exact Or.inr (Or.inr h0)
  | 2, _, hl =>
    by_cases z : i = 0
    · exact Or.inr (Or.inl ⟨rfl, z⟩)
    · exact Or.inr (Or.inr ⟨hl.1, by rw [← e132 i z]; exact hl.2⟩)
  | 3, _, hl => have h0 : i = 0 := hl; exact Or.inr (Or.inr h0)
  | 4, _, hl => have h0 : i = 0 := hl; exact Or.inr (Or.inr h0)
  | 5, _, hl => have h0 : i = 0 := hl; exact Or.inr (Or.inr h0)
  | 6, _, hl => have h0 : i = 0 := hl; exact Or.inr (Or.inr h0)
  | 7, _, hl => have h0 : i = 0 := hl; exact Or.inr (Or.inr h0)
  | 8, _, hl => have h0 : i = 0 := hl; exact Or.inr (Or.inr h0)
  | 9, _, hl => have h0 : i = 0 := hl; exact Or.inr (Or.inr h0)
  | 10, _, hl => have h0 : i = 0 := hl; exact Or.inr (Or.inr h0)
  | 11, _, hl => have h0 : i = 0 := hl; exact Or.inr (Or.inr h0)
  | 12, _, hl => have h0 : i = 0 := hl; exact Or.inr (Or.inr h0)
  | 13, _, hl => have h0 : i = 0 := hl; exact Or.inr (Or.inr h0)
  | 14, _, hl => have h0 : i = 0 := hl; exact Or.inr (Or.inr h0)
  | 15, _, hl => have h0 : i = 0 := hl; exact Or.inr (Or.inr h0)
  | 16, _, hl => have h0 : i = 0 := hl; exact Or.inr (Or.inr h0)
  | 17, _, hl => have h0 : i = 0 := hl; exact Or.inr (Or.inr h0)
  | 18, _, hl => have h0 : i = 0 := hl; exact Or.inr (Or.inr h0)
  | 19, _, hl => have h0 : i = 0 := hl; exact Or.inr (Or.inr h0)
  | 20, _, hl =>
    have hl : i < sp_P C2 := hl
    rcases Nat.lt_or_ge i (sp_P C) with z | z
    · exact Or.inr (Or.inr z)
    · exact Or.inl ⟨(show 20 ∈ cw_nk 0 by decide), by omega⟩
  | 21, _, hl =>
    have hl : i < sp_P C2 := hl
    rcases Nat.lt_or_ge i (sp_P C) with z | z
    · exact Or.inr (Or.inr z)
    · exact Or.inl ⟨(show 21 ∈ cw_nk 0 by decide), by omega⟩
  | 22, _, hl =>
    have hl : i < sp_P C2 := hl
    rcases Nat.lt_or_ge i (sp_P C) with z | z
    · exact Or.inr (Or.inr z)
    · exact Or.inl ⟨(show 22 ∈ cw_nk 0 by decide), by omega⟩
  | 23, _, hl =>
    have hl : i < sp_P C2 := hl
    rcases Nat.lt_or_ge i (sp_P C) with z | z
    · exact Or.inr (Or.inr z)
    · exact Or.inl ⟨(show 23 ∈ cw_nk 0 by decide), by omega⟩
  | 24, _, hl =>
    have hl : i < sp_P C2 := hl
    rcases Nat.lt_or_ge i (sp_P C) with z | z
    · exact Or.inr (Or.inr z)
    · exact Or.inl ⟨(show 24 ∈ cw_nk 0 by decide), by omega⟩
  | 25, _, hl =>
    have hl : i < sp_P C2 := hl
    rcases Nat.lt_or_ge i (sp_P C) with z | z
    · exact Or.inr (Or.inr z)
    · exact Or.inl ⟨(show 25 ∈ cw_nk 0 by decide), by omega⟩
  | 26, _, hl =>
    have hl : i < sp_P C2 := hl
    rcases Nat.lt_or_ge i (sp_P C) with z | z
    · exact Or.inr (Or.inr z)
    · exact Or.inl ⟨(show 26 ∈ cw_nk 0 by decide), by omega⟩
  | 27, _, hl => exact Or.inr (Or.inr (by have hl : i < sp_R C2 := hl; rw [s1] at hl; exact hl))
  | 28, _, hl => exact Or.inr (Or.inr ((sO i).mp hl))
  | 29, _, hl => exact Or.inr (Or.inr ((sO i).mp hl))
  | 30, _, hl => exact Or.inr (Or.inr ⟨(sO i).mp hl.1, by rw [← e110 i]; exact hl.2⟩)
  | 31, _, hl => exact Or.inr (Or.inr ((sO i).mp hl))
  | 32, _, hl => exact Or.inr (Or.inr ((sO i).mp hl))
  | 33, _, hl => exact Or.inr (Or.inr (by have hl : i < sp_A C2 := hl; rw [s3] at hl; exact hl))
  | 34, _, hl => exact Or.inr (Or.inr (by have hl : i < cw_M C2 := hl; rw [sM] at hl; exact hl))
  | k + 35, hk, _ => exact absurd hk (by omega)
theorem cw_cu_B0 {C2 C : mo_S} {cap : Nat} (hB : cw_B C) (h : cw_cu C2 C 0 (sp_P C) cap) (hn : sp_P C + 1 ≤ 12) (hc : C.1 132 0 = nI cap) (hc2 : cap ≤ 200) (hc3 : sp_P C ≤ cap) (hc4 : cap = 0 ∨ 10 ≤ cap) : cw_B C2 := by
  have hh := h.1
  have h132 := h.2.1
  obtain ⟨e0, e1, e2, e3, e110, e111, e113, e133, e134, e132⟩ := cw_cu_sz0 h (by omega)
  obtain ⟨a0, a1, a2, a3, aM, aC, aL⟩ := hB
  have hp := cl_cap_p hc3 hc4 hc2 (by omega)
  have s1 : sp_R C2 = sp_R C := congrArg Int32.toNatClampNeg e1
  have s2 : sp_O C2 = sp_O C := congrArg Int32.toNatClampNeg e2
  have s3 : sp_A C2 = sp_A C := congrArg Int32.toNatClampNeg e3
  have sM : cw_M C2 = cw_M C := congrArg Int32.toNatClampNeg e134
  refine ⟨⟨by rw [e0]; exact hh, by rw [e0]; exact hn⟩, ⟨by rw [e1, s1]; exact a1.1, by rw [s1]; exact a1.2⟩, ⟨by rw [e2, s2]; exact a2.1, by rw [s2]; exact a2.2⟩, ⟨by rw [e3, s3]; exact a3.1, by rw [s3]; exact a3.2⟩, ⟨by rw [e134, sM]; exact aM.1, by rw [sM]; exact aM.2⟩, fun l hl => ?_, fun i => by rw [e111, e113]; exact aL i⟩
  by_cases z : l = 0
  · subst z
    exact ⟨_, h132, hp.2.2, by show sp_P C2 ≤ _; rw [e0]; exact hp.1, Or.inr hp.2.1⟩
  · obtain ⟨cp, b1, b2, b3, b4⟩ := aC l hl
    refine ⟨cp, by rw [e132 l z]; exact b1, b2, ?_, b4⟩
    have e : cw_n C2 l = cw_n C l := by
      obtain rfl | rfl | rfl : l = 1 ∨ l = 2 ∨ l = 3 := by omega
      · exact s1
      · exact s2
      · exact s3
    rw [e]; exact b3
theorem cw_cu_sz1 {C2 C : mo_S} {n cap : Nat} (h : cw_cu C2 C 1 n cap) (hn : n + 1 < 2147483648) : sp_R C2 = n + 1 ∧ C2.1 1 0 = C.1 1 0 ∧ C2.1 29 0 = C.1 29 0 ∧ C2.1 62 0 = C.1 62 0 ∧ (∀ x, C2.1 110 x = C.1 110 x) ∧ (∀ x, C2.1 111 x = C.1 111 x) ∧ (∀ x, C2.1 113 x = C.1 113 x) ∧ C2.1 133 0 = C.1 133 0 ∧ C2.1 134 0 = C.1 134 0 ∧ ∀ x, x ≠ 1 → C2.1 132 x = C.1 132 x := by
  obtain ⟨h1, h2, h3, h4, h5⟩ := h
  have k : ∀ f x, f ∈ cw_S → f ≠ 21 → (f = 132 → x ≠ 1) → C2.1 f x = C.1 f x := fun f x hf a b => h4 f x (fun q => a q.1) (fun q => b q.1 q.2) (fun q => by rw [q.1] at hf; revert hf; decide) (fun q => by
    have e : cw_ow f x = (99, 0) := by
      simp only [cw_S, List.mem_cons, List.mem_nil_iff, or_false] at hf
      rcases hf with rfl | rfl | rfl | rfl | rfl | rfl | rfl | rfl | rfl | rfl <;> rfl
    rw [e] at q
    exact absurd q.1 (show ¬ 99 ∈ cw_nk 1 by decide))
  refine ⟨?_, k 1 0 (by decide) (by decide) (fun q => absurd q (by decide)), k 29 0 (by decide) (by decide) (fun q => absurd q (by decide)), k 62 0 (by decide) (by decide) (fun q => absurd q (by decide)), fun x => k 110 x (by decide) (by decide) (fun q => absurd q (by decide)), fun x => k 111 x (by decide) (by decide) (fun q => absurd q (by decide)), fun x => k 113 x (by decide) (by decide) (fun q => absurd q (by decide)), k 133 0 (by decide) (by decide) (fun q => absurd q (by decide)), k 134 0 (by decide) (by decide) (fun q => absurd q (by decide)), fun x hx => k 132 x (by decide) (by decide) (fun _ => hx)⟩
  have e : sp_R C2 = (C2.1 21 0).toNatClampNeg := rfl
  have h1' : C2.1 21 0 = nI (n + 1) := h1
  rw [e, h1', nI_clamp hn]
theorem cw_cu_lv1 {C2 C : mo_S} {k i cap : Nat} (h : cw_cu C2 C 1 (sp_R C) cap) (hn : sp_R C + 1 < 2147483648) (hl : cw_lv C2 k i) : (k ∈ cw_nk 1 ∧ i = sp_R C) ∨ (k = 2 ∧ i = 1) ∨ cw_lv C k i := by
  obtain ⟨e0, e1, e2, e3, e110, e111, e113, e133, e134, e132⟩ := cw_cu_sz1 h hn
  clear hn h
  have s0 : sp_P C2 = sp_P C := congrArg Int32.toNatClampNeg e1
  have s2 : sp_O C2 = sp_O C := congrArg Int32.toNatClampNeg e2
  have s3 : sp_A C2 = sp_A C := congrArg Int32.toNatClampNeg e3
  have sM : cw_M C2 = cw_M C := congrArg Int32.toNatClampNeg e134
  have sO : ∀ i, cw_ol C2 i ↔ cw_ol C i := fun i => by unfold cw_ol; rw [s2, e133]
  have hk : k < 35 := by
    rcases Nat.lt_or_ge k 35 with q | q
    · exact q
    · exfalso
      obtain ⟨m, rfl⟩ : ∃ m, k = m + 35 := ⟨k - 35, by omega⟩
      exact hl
  match k, hk, hl with
  | 0, _, hl => have h0 : i = 0 := hl; exact Or.inr (Or.inr h0)
  | 1, _, hl => have h0 : i < 4 := hl; exact Or.inr (Or.inr h0)
  | 2, _, hl =>
    by_cases z : i = 1
    · exact Or.inr (Or.inl ⟨rfl, z⟩)
    · exact Or.inr (Or.inr ⟨hl.1, by rw [← e132 i z]; exact hl.2⟩)
  | 3, _, hl => have h0 : i = 0 := hl; exact Or.inr (Or.inr h0)
  | 4, _, hl => have h0 : i = 0 := hl; exact Or.inr (Or.inr h0)
  | 5, _, hl => have h0 : i = 0 := hl; exact Or.inr (Or.inr h0)
  | 6, _, hl => have h0 : i = 0 := hl; exact Or.inr (Or.inr h0)
  | 7, _, hl => have h0 : i = 0 := hl; exact Or.inr (Or.inr h0)
  | 8, _, hl => have h0 : i = 0 := hl; exact Or.inr (Or.inr h0)
  | 9, _, hl => have h0 : i = 0 := hl; exact Or.inr (Or.inr h0)
  | 10, _, hl => have h0 : i = 0 := hl; exact Or.inr (Or.inr h0)
  | 11, _, hl => have h0 : i = 0 := hl; exact Or.inr (Or.inr h0)
  | 12, _, hl => have h0 : i = 0 := hl; exact Or.inr (Or.inr h0)
  | 13, _, hl => have h0 : i = 0 := hl; exact Or.inr (Or.inr h0)
  | 14, _, hl => have h0 : i = 0 := hl; exact Or.inr (Or.inr h0)
  | 15, _, hl => have h0 : i = 0 := hl; exact Or.inr (Or.inr h0)
  | 16, _, hl => have h0 : i = 0 := hl; exact Or.inr (Or.inr h0)
  | 17, _, hl => have h0 : i = 0 := hl; exact Or.inr (Or.inr h0)
  | 18, _, hl => have h0 : i = 0 := hl; exact Or.inr (Or.inr h0)
  | 19, _, hl => have h0 : i = 0 := hl; exact Or.inr (Or.inr h0)
  | 20, _, hl => exact Or.inr (Or.inr (by have hl : i < sp_P C2 := hl; rw [s0] at hl; exact hl))
  | 21, _, hl => exact Or.inr (Or.inr (by have hl : i < sp_P C2 := hl; rw [s0] at hl; exact hl))
  | 22, _, hl => exact Or.inr (Or.inr (by have hl : i < sp_P C2 := hl; rw [s0] at hl; exact hl))
  | 23, _, hl => exact Or.inr (Or.inr (by have hl : i < sp_P C2 := hl; rw [s0] at hl; exact hl))
  | 24, _, hl => exact Or.inr (Or.inr (by have hl : i < sp_P C2 := hl; rw [s0] at hl; exact hl))
  | 25, _, hl => exact Or.inr (Or.inr (by have hl : i < sp_P C2 := hl; rw [s0] at hl; exact hl))
  | 26, _, hl => exact Or.inr (Or.inr (by have hl : i < sp_P C2 := hl; rw [s0] at hl; exact hl))
  | 27, _, hl =>
    have hl : i < sp_R C2 := hl
    rcases Nat.lt_or_ge i (sp_R C) with z | z
    · exact Or.inr (Or.inr z)
    · exact Or.inl ⟨(show 27 ∈ cw_nk 1 by decide), by omega⟩
  | 28, _, hl => exact Or.inr (Or.inr ((sO i).mp hl))
  | 29, _, hl => exact Or.inr (Or.inr ((sO i).mp hl))
  | 30, _, hl => exact Or.inr (Or.inr ⟨(sO i).mp hl.1, by rw [← e110 i]; exact hl.2⟩)
  | 31, _, hl => exact Or.inr (Or.inr ((sO i).mp hl))
  | 32, _, hl => exact Or.inr (Or.inr ((sO i).mp hl))
  | 33, _, hl => exact Or.inr (Or.inr (by have hl : i < sp_A C2 := hl; rw [s3] at hl; exact hl))
  | 34, _, hl => exact Or.inr (Or.inr (by have hl : i < cw_M C2 := hl; rw [sM] at hl; exact hl))
  | k + 35, hk, _ => exact absurd hk (by omega)
theorem cw_cu_B1 {C2 C : mo_S} {cap : Nat} (hB : cw_B C) (h : cw_cu C2 C 1 (sp_R C) cap) (hn : sp_R C + 1 ≤ 80) (hc : C.1 132 1 = nI cap) (hc2 : cap ≤ 200) (hc3 : sp_R C ≤ cap) (hc4 : cap = 0 ∨ 10 ≤ cap) : cw_B C2 := by
  have hh := h.1
  have h132 := h.2.1
  obtain ⟨e0, e1, e2, e3, e110, e111, e113, e133, e134, e132⟩ := cw_cu_sz1 h (by omega)
  obtain ⟨a0, a1, a2, a3, aM, aC, aL⟩ := hB
  have hp := cl_cap_p hc3 hc4 hc2 (by omega)
  have s0 : sp_P C2 = sp_P C := congrArg Int32.toNatClampNeg e1
  have s2 : sp_O C2 = sp_O C := congrArg Int32.toNatClampNeg e2
  have s3 : sp_A C2 = sp_A C := congrArg Int32.toNatClampNeg e3
  have sM : cw_M C2 = cw_M C := congrArg Int32.toNatClampNeg e134
  refine ⟨⟨by rw [e1, s0]; exact a0.1, by rw [s0]; exact a0.2⟩, ⟨by rw [e0]; exact hh, by rw [e0]; exact hn⟩, ⟨by rw [e2, s2]; exact a2.1, by rw [s2]; exact a2.2⟩, ⟨by rw [e3, s3]; exact a3.1, by rw [s3]; exact a3.2⟩, ⟨by rw [e134, sM]; exact aM.1, by rw [sM]; exact aM.2⟩, fun l hl => ?_, fun i => by rw [e111, e113]; exact aL i⟩
  by_cases z : l = 1
  · subst z
    exact ⟨_, h132, hp.2.2, by show sp_R C2 ≤ _; rw [e0]; exact hp.1, Or.inr hp.2.1⟩
  · obtain ⟨cp, b1, b2, b3, b4⟩ := aC l hl
    refine ⟨cp, by rw [e132 l z]; exact b1, b2, ?_, b4⟩
    have e : cw_n C2 l = cw_n C l := by
      obtain rfl | rfl | rfl : l = 0 ∨ l = 2 ∨ l = 3 := by omega
      · exact s0
      · exact s2
      · exact s3
    rw [e]; exact b3
theorem cw_cu_sz3 {C2 C : mo_S} {n cap : Nat} (h : cw_cu C2 C 3 n cap) (hn : n + 1 < 2147483648) : sp_A C2 = n + 1 ∧ C2.1 1 0 = C.1 1 0 ∧ C2.1 21 0 = C.1 21 0 ∧ C2.1 29 0 = C.1 29 0 ∧ (∀ x, C2.1 110 x = C.1 110 x) ∧ (∀ x, C2.1 111 x = C.1 111 x) ∧ (∀ x, C2.1 113 x = C.1 113 x) ∧ C2.1 133 0 = C.1 133 0 ∧ C2.1 134 0 = C.1 134 0 ∧ ∀ x, x ≠ 3 → C2.1 132 x = C.1 132 x := by
  obtain ⟨h1, h2, h3, h4, h5⟩ := h
  have k : ∀ f x, f ∈ cw_S → f ≠ 62 → (f = 132 → x ≠ 3) → C2.1 f x = C.1 f x := fun f x hf a b => h4 f x (fun q => a q.1) (fun q => b q.1 q.2) (fun q => by rw [q.1] at hf; revert hf; decide) (fun q => by
    have e : cw_ow f x = (99, 0) := by
      simp only [cw_S, List.mem_cons, List.mem_nil_iff, or_false] at hf
      rcases hf with rfl | rfl | rfl | rfl | rfl | rfl | rfl | rfl | rfl | rfl <;> rfl
    rw [e] at q
    exact absurd q.1 (show ¬ 99 ∈ cw_nk 3 by decide))
  refine ⟨?_, k 1 0 (by decide) (by decide) (fun q => absurd q (by decide)), k 21 0 (by decide) (by decide) (fun q => absurd q (by decide)), k 29 0 (by decide) (by decide) (fun q => absurd q (by decide)), fun x => k 110 x (by decide) (by decide) (fun q => absurd q (by decide)), fun x => k 111 x (by decide) (by decide) (fun q => absurd q (by decide)), fun x => k 113 x (by decide) (by decide) (fun q => absurd q (by decide)), k 133 0 (by decide) (by decide) (fun q => absurd q (by decide)), k 134 0 (by decide) (by decide) (fun q => absurd q (by decide)), fun x hx => k 132 x (by decide) (by decide) (fun _ => hx)⟩
  have e : sp_A C2 = (C2.1 62 0).toNatClampNeg := rfl
  have h1' : C2.1 62 0 = nI (n + 1) := h1
  rw [e, h1', nI_clamp hn]
theorem cw_cu_lv3 {C2 C : mo_S} {k i cap : Nat} (h : cw_cu C2 C 3 (sp_A C) cap) (hn : sp_A C + 1 < 2147483648) (hl : cw_lv C2 k i) : (k ∈ cw_nk 3 ∧ i = sp_A C) ∨ (k = 2 ∧ i = 3) ∨ cw_lv C k i := by
  obtain ⟨e0, e1, e2, e3, e110, e111, e113, e133, e134, e132⟩ := cw_cu_sz3 h hn
  clear hn h
  have s0 : sp_P C2 = sp_P C := congrArg Int32.toNatClampNeg e1
  have s1 : sp_R C2 = sp_R C := congrArg Int32.toNatClampNeg e2
  have s2 : sp_O C2 = sp_O C := congrArg Int32.toNatClampNeg e3
  have sM : cw_M C2 = cw_M C := congrArg Int32.toNatClampNeg e134
  have sO : ∀ i, cw_ol C2 i ↔ cw_ol C i := fun i => by unfold cw_ol; rw [s2, e133]
  have hk : k < 35 := by
    rcases Nat.lt_or_ge k 35 with q | q
    · exact q
    · exfalso
      obtain ⟨m, rfl⟩ : ∃ m, k = m + 35 := ⟨k - 35, by omega⟩
      exact hl
  match k, hk, hl with
  | 0, _, hl => have h0 : i = 0 := hl; exact Or.inr (Or.inr h0)
  | 1, _, hl => have h0 : i < 4 := hl; exact Or.inr (Or.inr h0)
  | 2, _, hl =>
    by_cases z : i = 3
    · exact Or.inr (Or.inl ⟨rfl, z⟩)
    · exact Or.inr (Or.inr ⟨hl.1, by rw [← e132 i z]; exact hl.2⟩)
  | 3, _, hl => have h0 : i = 0 := hl; exact Or.inr (Or.inr h0)
  | 4, _, hl => have h0 : i = 0 := hl; exact Or.inr (Or.inr h0)
  | 5, _, hl => have h0 : i = 0 := hl; exact Or.inr (Or.inr h0)
  | 6, _, hl => have h0 : i = 0 := hl; exact Or.inr (Or.inr h0)
  | 7, _, hl => have h0 : i = 0 := hl; exact Or.inr (Or.inr h0)
  | 8, _, hl => have h0 : i = 0 := hl; exact Or.inr (Or.inr h0)
  | 9, _, hl => have h0 : i = 0 := hl; exact Or.inr (Or.inr h0)
  | 10, _, hl => have h0 : i = 0 := hl; exact Or.inr (Or.inr h0)
  | 11, _, hl => have h0 : i = 0 := hl; exact Or.inr (Or.inr h0)
  | 12, _, hl => have h0 : i = 0 := hl; exact Or.inr (Or.inr h0)
  | 13, _, hl => have h0 : i = 0 := hl; exact Or.inr (Or.inr h0)
  | 14, _, hl => have h0 : i = 0 := hl; exact Or.inr (Or.inr h0)
  | 15, _, hl => have h0 : i = 0 := hl; exact Or.inr (Or.inr h0)
  | 16, _, hl => have h0 : i = 0 := hl; exact Or.inr (Or.inr h0)
  | 17, _, hl => have h0 : i = 0 := hl; exact Or.inr (Or.inr h0)
  | 18, _, hl => have h0 : i = 0 := hl; exact Or.inr (Or.inr h0)
  | 19, _, hl => have h0 : i = 0 := hl; exact Or.inr (Or.inr h0)
  | 20, _, hl => exact Or.inr (Or.inr (by have hl : i < sp_P C2 := hl; rw [s0] at hl; exact hl))
  | 21, _, hl => exact Or.inr (Or.inr (by have hl : i < sp_P C2 := hl; rw [s0] at hl; exact hl))
  | 22, _, hl => exact Or.inr (Or.inr (by have hl : i < sp_P C2 := hl; rw [s0] at hl; exact hl))
  | 23, _, hl => exact Or.inr (Or.inr (by have hl : i < sp_P C2 := hl; rw [s0] at hl; exact hl))
  | 24, _, hl => exact Or.inr (Or.inr (by have hl : i < sp_P C2 := hl; rw [s0] at hl; exact hl))
  | 25, _, hl => exact Or.inr (Or.inr (by have hl : i < sp_P C2 := hl; rw [s0] at hl; exact hl))
  | 26, _, hl => exact Or.inr (Or.inr (by have hl : i < sp_P C2 := hl; rw [s0] at hl; exact hl))
  | 27, _, hl => exact Or.inr (Or.inr (by have hl : i < sp_R C2 := hl; rw [s1] at hl; exact hl))
  | 28, _, hl => exact Or.inr (Or.inr ((sO i).mp hl))
  | 29, _, hl => exact Or.inr (Or.inr ((sO i).mp hl))
  | 30, _, hl => exact Or.inr (Or.inr ⟨(sO i).mp hl.1, by rw [← e110 i]; exact hl.2⟩)
  | 31, _, hl => exact Or.inr (Or.inr ((sO i).mp hl))
  | 32, _, hl => exact Or.inr (Or.inr ((sO i).mp hl))
  | 33, _, hl =>
    have hl : i < sp_A C2 := hl
    rcases Nat.lt_or_ge i (sp_A C) with z | z
    · exact Or.inr (Or.inr z)
    · exact Or.inl ⟨(show 33 ∈ cw_nk 3 by decide), by omega⟩
  | 34, _, hl => exact Or.inr (Or.inr (by have hl : i < cw_M C2 := hl; rw [sM] at hl; exact hl))
  | k + 35, hk, _ => exact absurd hk (by omega)
theorem cw_cu_B3 {C2 C : mo_S} {cap : Nat} (hB : cw_B C) (h : cw_cu C2 C 3 (sp_A C) cap) (hn : sp_A C + 1 ≤ 20) (hc : C.1 132 3 = nI cap) (hc2 : cap ≤ 200) (hc3 : sp_A C ≤ cap) (hc4 : cap = 0 ∨ 10 ≤ cap) : cw_B C2 := by
  have hh := h.1
  have h132 := h.2.1
  obtain ⟨e0, e1, e2, e3, e110, e111, e113, e133, e134, e132⟩ := cw_cu_sz3 h (by omega)
  obtain ⟨a0, a1, a2, a3, aM, aC, aL⟩ := hB
  have hp := cl_cap_p hc3 hc4 hc2 (by omega)
  have s0 : sp_P C2 = sp_P C := congrArg Int32.toNatClampNeg e1
  have s1 : sp_R C2 = sp_R C := congrArg Int32.toNatClampNeg e2
  have s2 : sp_O C2 = sp_O C := congrArg Int32.toNatClampNeg e3
  have sM : cw_M C2 = cw_M C := congrArg Int32.toNatClampNeg e134
  refine ⟨⟨by rw [e1, s0]; exact a0.1, by rw [s0]; exact a0.2⟩, ⟨by rw [e2, s1]; exact a1.1, by rw [s1]; exact a1.2⟩, ⟨by rw [e3, s2]; exact a2.1, by rw [s2]; exact a2.2⟩, ⟨by rw [e0]; exact hh, by rw [e0]; exact hn⟩, ⟨by rw [e134, sM]; exact aM.1, by rw [sM]; exact aM.2⟩, fun l hl => ?_, fun i => by rw [e111, e113]; exact aL i⟩
  by_cases z : l = 3
  · subst z
    exact ⟨_, h132, hp.2.2, by show sp_A C2 ≤ _; rw [e0]; exact hp.1, Or.inr hp.2.1⟩
  · obtain ⟨cp, b1, b2, b3, b4⟩ := aC l hl
    refine ⟨cp, by rw [e132 l z]; exact b1, b2, ?_, b4⟩
    have e : cw_n C2 l = cw_n C l := by
      obtain rfl | rfl | rfl : l = 0 ∨ l = 1 ∨ l = 2 := by omega
      · exact s0
      · exact s1
      · exact s2
    rw [e]; exact b3
section CT
variable {G : ev_G} {K : Nat → Prop} {g0 g : ev_H} {W : cw_W} {C : mo_S}
theorem cw_T.K0 (hT : cw_T G K g0 W g C) {a : Nat} (h : g a = none) : ¬ K a := fun q => by
  obtain ⟨h1, e, h2⟩ := hT.2.1 a q
  rw [h1, h2] at h
  cases h
theorem cw_T.add0 {C2 : mo_S} {g1 g2 : ev_H} {A : Nat → Nat} {ed cap : Nat} {f : Nat → Option Nat} (hT : cw_T G K g0 W g C) (hA : ∀ a, a < sp_A C → (C.1 63 a).toNatClampNeg < sp_P C) (hg : ∀ b e, g b = some e → g1 b = some e) (hA0 : ∀ k, k ∈ cw_nk 0 → g (A k) = none ∧ ∃ e, g1 (A k) = some e) (hAi : ∀ k k', k ∈ cw_nk 0 → k' ∈ cw_nk 0 → A k = A k' → k = k')
    (hed : ed = if C.1 132 0 = 0 then W 99 0 else W 2 0) (hf : ∀ j, f j = if j < sp_P C then some (W (cw_ek 0) j) else none) (hc : C.1 132 0 = nI cap) (hc2 : cap ≤ 200) (hc3 : sp_P C ≤ cap) (hc4 : cap = 0 ∨ 10 ≤ cap)
    (hp : cl_post G g1 (W 1 0) (C.1 131 0 + 1) ed (sp_P C) cap (A (cw_ek 0)) f g2) (hC : cw_cu C2 C 0 (sp_P C) cap) (hn : sp_P C + 1 ≤ 12)
    (hnew : ∀ q, ∀ k, k ∈ cw_nk 0 → (∀ ci fs, cw_ob (cw_wu W 0 (sp_P C) q A) C2 k (sp_P C) = some (ci, fs) → g1 (A k) = some (.inr (ci, fs))) ∧ ∀ m h, cw_ar C2 k (sp_P C) = some (m, h) → cw_ia G g1 (A k) m h) : ∃ q, cw_T G K g0 (cw_wu W 0 (sp_P C) q A) g2 C2 := by
  obtain ⟨q, f', p1, p2, p3, p4, p5, p6⟩ := hp
  have hcp := cl_cap_p hc3 hc4 hc2 (by omega)
  have hex := @cw_T.ex9 G K g0 g W C hT
  have hD0 := hT.2.2.2
  have hlv1 : cw_lv C 1 0 := (show (0 : Nat) < 4 by decide)
  have hq : (q = W 2 0 ∧ cw_lv C 2 0) ∨ (g1 q = none ∧ g q = none) := by
    rcases p1 with ⟨z1, z2⟩ | z
    · have hne : ¬ C.1 132 0 = 0 := by
        rw [hc]
        exact nI_ne0 (by omega) (by omega)
      rw [if_neg hne] at hed
      exact Or.inl ⟨z1.trans hed, (show (0 : Nat) < 4 by decide), hne⟩
    · refine Or.inr ⟨z, ?_⟩
      cases e : g q with
      | none => rfl
      | some v => rw [hg q v e] at z; cases z
  -- an old address is none of the new
  have hWq : ∀ k i, cw_lv C k i → (k = 2 → i ≠ 0) → W k i ≠ q := fun k i h1 h2 e => by
    rcases hq with ⟨z, hz⟩ | ⟨_, z⟩
    · rw [z] at e
      obtain ⟨r1, r2⟩ := hD0 k i 2 0 h1 hz e
      exact h2 r1 r2
    · obtain ⟨v, hv⟩ := hex h1
      rw [e, z] at hv
      cases hv
  have hWA : ∀ k i k', cw_lv C k i → k' ∈ cw_nk 0 → W k i ≠ A k' := fun k i k' h1 h2 e => by
    obtain ⟨v, hv⟩ := hex h1
    rw [e, (hA0 k' h2).1] at hv
    cases hv
  have hqA : ∀ k, k ∈ cw_nk 0 → q ≠ A k := fun k h e => by
    rcases hq with ⟨z, hz⟩ | ⟨z, _⟩
    · exact hWA 2 0 k hz h (by rw [← z]; exact e)
    · obtain ⟨v, hv⟩ := (hA0 k h).2
      rw [← e, z] at hv
      cases hv
  have hold : ∀ k i, cw_lv C k i → (k = 1 ∨ k = 2 → i ≠ 0) → g2 (W k i) = g (W k i) := fun k i h1 h2 => by
    obtain ⟨v, hv⟩ := hex h1
    rw [p6 _ (fun e => ?_) (hWq k i h1 (fun z => h2 (Or.inr z))), hg _ _ hv, hv]
    obtain ⟨r1, r2⟩ := hD0 k i 1 0 h1 hlv1 e
    exact h2 (Or.inl r1) r2
  have hW2 : ∀ k i, cw_lv C k i → (k = 2 → i ≠ 0) → cw_wu W 0 (sp_P C) q A k i = W k i := fun k i h1 h2 => by
    unfold cw_wu
    rw [if_neg (fun z => h2 z.1 z.2), if_neg (fun z => ?_)]
    obtain ⟨z1, z2⟩ := z
    subst z2
    have z1 : k ∈ [20, 21, 22, 23, 24, 25, 26] := z1
    simp only [List.mem_cons, List.mem_nil_iff, or_false] at z1
    rcases z1 with rfl | rfl | rfl | rfl | rfl | rfl | rfl <;> exact absurd h1 (Nat.lt_irrefl _)
  have hN : ∀ k, k ∈ cw_nk 0 → cw_wu W 0 (sp_P C) q A k (sp_P C) = A k := fun k h => by
    unfold cw_wu
    rw [if_neg (fun z => by rw [z.1] at h; revert h; decide), if_pos ⟨h, rfl⟩]
  have hN2 : cw_wu W 0 (sp_P C) q A 2 0 = q := if_pos ⟨rfl, rfl⟩
  have hN1 : cw_wu W 0 (sp_P C) q A 1 0 = W 1 0 := hW2 1 0 hlv1 (fun z => absurd z (by decide))
  have hNk : ∀ k, k ∈ cw_nk 0 → g2 (A k) = g1 (A k) := fun k h => p6 _ (fun e => hWA 1 0 k hlv1 h e.symm) (fun e => hqA k h e.symm)
  have hKq : ¬ K q := by
    rcases hq with ⟨z, hz⟩ | ⟨_, z⟩
    · rw [z]; exact (hT.2.2.1 2 0 hz).2
    · exact hT.K0 z
  have hlvs := fun k i => @cw_cu_lv0 C2 C k i cap hC (by omega)
  obtain ⟨e0, e1, e2, e3, e110, e111, e113, e133, e134, e132⟩ := cw_cu_sz0 hC (by omega)
  obtain ⟨u1, u2, u3, u4, u5⟩ := id hC
  refine ⟨q, hT.grow (l := 0) (fun k i => (k = 1 ∧ i = 0) ∨ (k = 2 ∧ i = 0) ∨ (k ∈ cw_nk 0 ∧ i = sp_P C)) (by unfold cw_wu; rw [if_neg (by omega), if_neg (fun z => absurd z.1 (by decide))]) hW2 hA (cw_cu_B0 hT.B hC hn hc hc2 hc3 hc4) (fun a ha => ?_) (fun k i hl => ?_) (fun k i k' i' h1 h2 e => ?_)⟩
  · obtain ⟨t1, v, t2⟩ := hT.2.1 a ha
    rw [p6 a (fun z => (hT.2.2.1 1 0 hlv1).2 (z ▸ ha)) (fun z => hKq (z ▸ ha)), hg a v (by rw [t1]; exact t2), t1, t2]
  · by_cases z1 : k = 1 ∧ i = 0
    · obtain ⟨rfl, rfl⟩ := z1
      refine Or.inr ⟨Or.inl ⟨rfl, rfl⟩, cw_at_ob (by decide) ob1 ?_, ?_⟩
      · rw [hN1, hN2, p3, u3, u2, if_neg (nI_ne0 (by omega) (by omega)), u1]
      · rw [hN1]; exact (hT.2.2.1 1 0 hlv1).2
    · by_cases z2 : k = 2 ∧ i = 0
      · obtain ⟨rfl, rfl⟩ := z2
        refine Or.inr ⟨Or.inr (Or.inl ⟨rfl, rfl⟩), ⟨fun ci fs e => (by simp only [cw_ob] at e; cases e), fun m h e => (by simp only [cw_ar] at e; cases e), fun _ => ⟨f', ?_, fun j => ?_⟩, fun e => absurd e (by decide), fun e => absurd e (by decide)⟩, ?_⟩
        · rw [hN2, p4, u2, nI_clamp (by omega)]
        · rw [p5 j, hf j]
          have en : cw_n C2 0 = sp_P C + 1 := e0
          rw [en]
          by_cases y : j = sp_P C
          · rw [if_pos y, if_pos (by omega), y, hN _ (by decide)]
          · rw [if_neg y]
            by_cases y2 : j < sp_P C
            · rw [if_pos y2, if_pos (by omega), hW2 _ _ (cw_ek_lv (l := 0) (by decide) y2) (fun z => absurd z (cw_ek_2 0))]
            · rw [if_neg y2, if_neg (by omega)]
        · rw [hN2]; exact hKq
      · by_cases z3 : k ∈ cw_nk 0 ∧ i = sp_P C
        · obtain ⟨z3, rfl⟩ := z3
          obtain ⟨b1, b2⟩ := hnew q k z3
          have hk : k ≠ 2 ∧ k ≠ 12 ∧ k ≠ 14 := ⟨fun z => by rw [z] at z3; revert z3; decide, fun z => by rw [z] at z3; revert z3; decide, fun z => by rw [z] at z3; revert z3; decide⟩
          refine Or.inr ⟨Or.inr (Or.inr ⟨z3, rfl⟩), ⟨fun ci fs e => ?_, fun m h e => ?_, fun e => absurd e hk.1, fun e => absurd e hk.2.1, fun e => absurd e hk.2.2⟩, ?_⟩
          · rw [hN k z3, hNk k z3]; exact b1 ci fs e
          · obtain ⟨ff, c1, c2⟩ := b2 m h e
            exact ⟨ff, by rw [hN k z3, hNk k z3]; exact c1, c2⟩
          · rw [hN k z3]; exact hT.K0 (hA0 k z3).1
        · have hl0 : cw_lv C k i := by
            rcases hlvs k i hl with z | z | z
            · exact absurd z z3
            · exact absurd z z2
            · exact z
          have hil : k = 1 ∨ k = 2 → i ≠ 0 := fun y z => by
            rcases y with y | y
            · exact z1 ⟨y, z⟩
            · exact z2 ⟨y, z⟩
          refine Or.inl ⟨hl0, hil, ⟨fun ff x ho => ?_, fun y => ?_, fun _ _ => ⟨e110 i, e111 i, e113 i⟩, fun _ => e134, fun _ => u5⟩, hold k i hl0 hil⟩
          · have ne99 : k ≠ 99 := fun z => by rw [z] at hl0; exact hl0
            refine u4 ff x (fun z => ne99 ?_) (fun z => ne99 ?_) (fun z => ?_) (fun z => z3 (by rw [ho] at z; exact z))
            · rw [z.1] at ho; cases ho; rfl
            · rw [z.1] at ho; cases ho; rfl
            · rw [z.1, z.2] at ho; cases ho; exact z1 ⟨rfl, rfl⟩
          · refine ⟨e132 i (hil y), ?_⟩
            have hi4 : i < 4 := by
              rcases y with rfl | rfl
              · exact hl0
              · exact hl0.1
            have hi := hil y
            obtain rfl | rfl | rfl : i = 1 ∨ i = 2 ∨ i = 3 := by omega
            · exact e1
            · exact e2
            · exact e3
  · -- apart
    have key : ∀ k i, ((k = 1 ∧ i = 0) ∨ (k = 2 ∧ i = 0) ∨ (k ∈ cw_nk 0 ∧ i = sp_P C)) ∨ (cw_lv C k i ∧ ¬ (k = 1 ∧ i = 0) ∧ (k = 2 → i ≠ 0) ∧ ¬ (k ∈ cw_nk 0 ∧ i = sp_P C)) ∨ ¬ cw_lv C2 k i := fun k i => by
      by_cases y1 : k = 1 ∧ i = 0
      · exact Or.inl (Or.inl y1)
      · by_cases y2 : k = 2 ∧ i = 0
        · exact Or.inl (Or.inr (Or.inl y2))
        · by_cases y3 : k ∈ cw_nk 0 ∧ i = sp_P C
          · exact Or.inl (Or.inr (Or.inr y3))
          · by_cases y4 : cw_lv C2 k i
            · refine Or.inr (Or.inl ⟨?_, y1, fun z z2 => y2 ⟨z, z2⟩, y3⟩)
              rcases hlvs k i y4 with z | z | z
              · exact absurd z y3
              · exact absurd z y2
              · exact z
            · exact Or.inr (Or.inr y4)
    have vold : ∀ k i, cw_lv C k i → (k = 2 → i ≠ 0) → cw_wu W 0 (sp_P C) q A k i = W k i := hW2
    rcases h1 with ⟨rfl, rfl⟩ | ⟨rfl, rfl⟩ | ⟨z3, rfl⟩
    · rw [hN1] at e
      rcases key k' i' with (⟨rfl, rfl⟩ | ⟨rfl, rfl⟩ | ⟨y3, rfl⟩) | ⟨y1, y2, y3, y4⟩ | y
      · exact ⟨rfl, rfl⟩
      · rw [hN2] at e; exact absurd e p2
      · rw [hN k' y3] at e; exact absurd e (hWA 1 0 k' hlv1 y3)
      · rw [vold k' i' y1 y3] at e
        exact hD0 1 0 k' i' hlv1 y1 e
      · exact absurd h2 y
    · rw [hN2] at e
      rcases key k' i' with (⟨rfl, rfl⟩ | ⟨rfl, rfl⟩ | ⟨y3, rfl⟩) | ⟨y1, y2, y3, y4⟩ | y
      · rw [hN1] at e; exact absurd e.symm p2
      · exact ⟨rfl, rfl⟩
      · rw [hN k' y3] at e; exact absurd e (hqA k' y3)
      · rw [vold k' i' y1 y3] at e
        exact absurd e.symm (hWq k' i' y1 y3)
      · exact absurd h2 y
    · rw [hN k z3] at e
      rcases key k' i' with (⟨rfl, rfl⟩ | ⟨rfl, rfl⟩ | ⟨y3, rfl⟩) | ⟨y1, y2, y3, y4⟩ | y
      · rw [hN1] at e; exact absurd e.symm (hWA 1 0 k hlv1 z3)
      · rw [hN2] at e; exact absurd e.symm (hqA k z3)
      · rw [hN k' y3] at e; exact ⟨hAi k k' z3 y3 e, rfl⟩
      · rw [vold k' i' y1 y3] at e
        exact absurd e.symm (hWA k' i' k y1 z3)
      · exact absurd h2 y
theorem cw_T.add1 {C2 : mo_S} {g1 g2 : ev_H} {A : Nat → Nat} {ed cap : Nat} {f : Nat → Option Nat} (hT : cw_T G K g0 W g C) (hA : ∀ a, a < sp_A C → (C.1 63 a).toNatClampNeg < sp_P C) (hg : ∀ b e, g b = some e → g1 b = some e) (hA0 : ∀ k, k ∈ cw_nk 1 → g (A k) = none ∧ ∃ e, g1 (A k) = some e) (hAi : ∀ k k', k ∈ cw_nk 1 → k' ∈ cw_nk 1 → A k = A k' → k = k')
    (hed : ed = if C.1 132 1 = 0 then W 99 0 else W 2 1) (hf : ∀ j, f j = if j < sp_R C then some (W (cw_ek 1) j) else none) (hc : C.1 132 1 = nI cap) (hc2 : cap ≤ 200) (hc3 : sp_R C ≤ cap) (hc4 : cap = 0 ∨ 10 ≤ cap)
    (hp : cl_post G g1 (W 1 1) (C.1 131 1 + 1) ed (sp_R C) cap (A (cw_ek 1)) f g2) (hC : cw_cu C2 C 1 (sp_R C) cap) (hn : sp_R C + 1 ≤ 80)
    (hnew : ∀ q, ∀ k, k ∈ cw_nk 1 → (∀ ci fs, cw_ob (cw_wu W 1 (sp_R C) q A) C2 k (sp_R C) = some (ci, fs) → g1 (A k) = some (.inr (ci, fs))) ∧ ∀ m h, cw_ar C2 k (sp_R C) = some (m, h) → cw_ia G g1 (A k) m h) : ∃ q, cw_T G K g0 (cw_wu W 1 (sp_R C) q A) g2 C2 := by
  obtain ⟨q, f', p1, p2, p3, p4, p5, p6⟩ := hp
  have hcp := cl_cap_p hc3 hc4 hc2 (by omega)
  have hex := @cw_T.ex9 G K g0 g W C hT
  have hD0 := hT.2.2.2
  have hlv1 : cw_lv C 1 1 := (show (1 : Nat) < 4 by decide)
  have hq : (q = W 2 1 ∧ cw_lv C 2 1) ∨ (g1 q = none ∧ g q = none) := by
    rcases p1 with ⟨z1, z2⟩ | z
    · have hne : ¬ C.1 132 1 = 0 := by
        rw [hc]
        exact nI_ne0 (by omega) (by omega)
      rw [if_neg hne] at hed
      exact Or.inl ⟨z1.trans hed, (show (1 : Nat) < 4 by decide), hne⟩
    · refine Or.inr ⟨z, ?_⟩
      cases e : g q with
      | none => rfl
      | some v => rw [hg q v e] at z; cases z
  -- an old address is none of the new
  have hWq : ∀ k i, cw_lv C k i → (k = 2 → i ≠ 1) → W k i ≠ q := fun k i h1 h2 e => by
    rcases hq with ⟨z, hz⟩ | ⟨_, z⟩
    · rw [z] at e
      obtain ⟨r1, r2⟩ := hD0 k i 2 1 h1 hz e
      exact h2 r1 r2
    · obtain ⟨v, hv⟩ := hex h1
      rw [e, z] at hv
      cases hv
  have hWA : ∀ k i k', cw_lv C k i → k' ∈ cw_nk 1 → W k i ≠ A k' := fun k i k' h1 h2 e => by
    obtain ⟨v, hv⟩ := hex h1
    rw [e, (hA0 k' h2).1] at hv
    cases hv
  have hqA : ∀ k, k ∈ cw_nk 1 → q ≠ A k := fun k h e => by
    rcases hq with ⟨z, hz⟩ | ⟨z, _⟩
    · exact hWA 2 1 k hz h (by rw [← z]; exact e)
    · obtain ⟨v, hv⟩ := (hA0 k h).2
      rw [← e, z] at hv
      cases hv
  have hold : ∀ k i, cw_lv C k i → (k = 1 ∨ k = 2 → i ≠ 1) → g2 (W k i) = g (W k i) := fun k i h1 h2 => by
    obtain ⟨v, hv⟩ := hex h1
    rw [p6 _ (fun e => ?_) (hWq k i h1 (fun z => h2 (Or.inr z))), hg _ _ hv, hv]
    obtain ⟨r1, r2⟩ := hD0 k i 1 1 h1 hlv1 e
    exact h2 (Or.inl r1) r2
  have hW2 : ∀ k i, cw_lv C k i → (k = 2 → i ≠ 1) → cw_wu W 1 (sp_R C) q A k i = W k i := fun k i h1 h2 => by
    unfold cw_wu
    rw [if_neg (fun z => h2 z.1 z.2), if_neg (fun z => ?_)]
    obtain ⟨z1, z2⟩ := z
    subst z2
    have z1 : k ∈ [27] := z1
    simp only [List.mem_cons, List.mem_nil_iff, or_false] at z1
    rcases z1 with rfl <;> exact absurd h1 (Nat.lt_irrefl _)
  have hN : ∀ k, k ∈ cw_nk 1 → cw_wu W 1 (sp_R C) q A k (sp_R C) = A k := fun k h => by
    unfold cw_wu
    rw [if_neg (fun z => by rw [z.1] at h; revert h; decide), if_pos ⟨h, rfl⟩]
  have hN2 : cw_wu W 1 (sp_R C) q A 2 1 = q := if_pos ⟨rfl, rfl⟩
  have hN1 : cw_wu W 1 (sp_R C) q A 1 1 = W 1 1 := hW2 1 1 hlv1 (fun z => absurd z (by decide))
  have hNk : ∀ k, k ∈ cw_nk 1 → g2 (A k) = g1 (A k) := fun k h => p6 _ (fun e => hWA 1 1 k hlv1 h e.symm) (fun e => hqA k h e.symm)
  have hKq : ¬ K q := by
    rcases hq with ⟨z, hz⟩ | ⟨_, z⟩
    · rw [z]; exact (hT.2.2.1 2 1 hz).2
    · exact hT.K0 z
  have hlvs := fun k i => @cw_cu_lv1 C2 C k i cap hC (by omega)
  obtain ⟨e0, e1, e2, e3, e110, e111, e113, e133, e134, e132⟩ := cw_cu_sz1 hC (by omega)
  obtain ⟨u1, u2, u3, u4, u5⟩ := id hC
  refine ⟨q, hT.grow (l := 1) (fun k i => (k = 1 ∧ i = 1) ∨ (k = 2 ∧ i = 1) ∨ (k ∈ cw_nk 1 ∧ i = sp_R C)) (by unfold cw_wu; rw [if_neg (by omega), if_neg (fun z => absurd z.1 (by decide))]) hW2 hA (cw_cu_B1 hT.B hC hn hc hc2 hc3 hc4) (fun a ha => ?_) (fun k i hl => ?_) (fun k i k' i' h1 h2 e => ?_)⟩
  · obtain ⟨t1, v, t2⟩ := hT.2.1 a ha
    rw [p6 a (fun z => (hT.2.2.1 1 1 hlv1).2 (z ▸ ha)) (fun z => hKq (z ▸ ha)), hg a v (by rw [t1]; exact t2), t1, t2]
  · by_cases z1 : k = 1 ∧ i = 1
    · obtain ⟨rfl, rfl⟩ := z1
      refine Or.inr ⟨Or.inl ⟨rfl, rfl⟩, cw_at_ob (by decide) ob1 ?_, ?_⟩
      · rw [hN1, hN2, p3, u3, u2, if_neg (nI_ne0 (by omega) (by omega)), u1]
      · rw [hN1]; exact (hT.2.2.1 1 1 hlv1).2
    · by_cases z2 : k = 2 ∧ i = 1
      · obtain ⟨rfl, rfl⟩ := z2
        refine Or.inr ⟨Or.inr (Or.inl ⟨rfl, rfl⟩), ⟨fun ci fs e => (by simp only [cw_ob] at e; cases e), fun m h e => (by simp only [cw_ar] at e; cases e), fun _ => ⟨f', ?_, fun j => ?_⟩, fun e => absurd e (by decide), fun e => absurd e (by decide)⟩, ?_⟩
        · rw [hN2, p4, u2, nI_clamp (by omega)]
        · rw [p5 j, hf j]
          have en : cw_n C2 1 = sp_R C + 1 := e0
          rw [en]
          by_cases y : j = sp_R C
          · rw [if_pos y, if_pos (by omega), y, hN _ (by decide)]
          · rw [if_neg y]
            by_cases y2 : j < sp_R C
            · rw [if_pos y2, if_pos (by omega), hW2 _ _ (cw_ek_lv (l := 1) (by decide) y2) (fun z => absurd z (cw_ek_2 1))]
            · rw [if_neg y2, if_neg (by omega)]
        · rw [hN2]; exact hKq
      · by_cases z3 : k ∈ cw_nk 1 ∧ i = sp_R C
        · obtain ⟨z3, rfl⟩ := z3
          obtain ⟨b1, b2⟩ := hnew q k z3
          have hk : k ≠ 2 ∧ k ≠ 12 ∧ k ≠ 14 := ⟨fun z => by rw [z] at z3; revert z3; decide, fun z => by rw [z] at z3; revert z3; decide, fun z => by rw [z] at z3; revert z3; decide⟩
          refine Or.inr ⟨Or.inr (Or.inr ⟨z3, rfl⟩), ⟨fun ci fs e => ?_, fun m h e => ?_, fun e => absurd e hk.1, fun e => absurd e hk.2.1, fun e => absurd e hk.2.2⟩, ?_⟩
          · rw [hN k z3, hNk k z3]; exact b1 ci fs e
          · obtain ⟨ff, c1, c2⟩ := b2 m h e
            exact ⟨ff, by rw [hN k z3, hNk k z3]; exact c1, c2⟩
          · rw [hN k z3]; exact hT.K0 (hA0 k z3).1
        · have hl0 : cw_lv C k i := by
            rcases hlvs k i hl with z | z | z
            · exact absurd z z3
            · exact absurd z z2
            · exact z
          have hil : k = 1 ∨ k = 2 → i ≠ 1 := fun y z => by
            rcases y with y | y
            · exact z1 ⟨y, z⟩
            · exact z2 ⟨y, z⟩
          refine Or.inl ⟨hl0, hil, ⟨fun ff x ho => ?_, fun y => ?_, fun _ _ => ⟨e110 i, e111 i, e113 i⟩, fun _ => e134, fun _ => u5⟩, hold k i hl0 hil⟩
          · have ne99 : k ≠ 99 := fun z => by rw [z] at hl0; exact hl0
            refine u4 ff x (fun z => ne99 ?_) (fun z => ne99 ?_) (fun z => ?_) (fun z => z3 (by rw [ho] at z; exact z))
            · rw [z.1] at ho; cases ho; rfl
            · rw [z.1] at ho; cases ho; rfl
            · rw [z.1, z.2] at ho; cases ho; exact z1 ⟨rfl, rfl⟩
          · refine ⟨e132 i (hil y), ?_⟩
            have hi4 : i < 4 := by
              rcases y with rfl | rfl
              · exact hl0
              · exact hl0.1
            have hi := hil y
            obtain rfl | rfl | rfl : i = 0 ∨ i = 2 ∨ i = 3 := by omega
            · exact e1
            · exact e2
            · exact e3
  · -- apart
    have key : ∀ k i, ((k = 1 ∧ i = 1) ∨ (k = 2 ∧ i = 1) ∨ (k ∈ cw_nk 1 ∧ i = sp_R C)) ∨ (cw_lv C k i ∧ ¬ (k = 1 ∧ i = 1) ∧ (k = 2 → i ≠ 1) ∧ ¬ (k ∈ cw_nk 1 ∧ i = sp_R C)) ∨ ¬ cw_lv C2 k i := fun k i => by
      by_cases y1 : k = 1 ∧ i = 1
      · exact Or.inl (Or.inl y1)
      · by_cases y2 : k = 2 ∧ i = 1
        · exact Or.inl (Or.inr (Or.inl y2))
        · by_cases y3 : k ∈ cw_nk 1 ∧ i = sp_R C
          · exact Or.inl (Or.inr (Or.inr y3))
          · by_cases y4 : cw_lv C2 k i
            · refine Or.inr (Or.inl ⟨?_, y1, fun z z2 => y2 ⟨z, z2⟩, y3⟩)
              rcases hlvs k i y4 with z | z | z
              · exact absurd z y3
              · exact absurd z y2
              · exact z
            · exact Or.inr (Or.inr y4)
    have vold : ∀ k i, cw_lv C k i → (k = 2 → i ≠ 1) → cw_wu W 1 (sp_R C) q A k i = W k i := hW2
    rcases h1 with ⟨rfl, rfl⟩ | ⟨rfl, rfl⟩ | ⟨z3, rfl⟩
    · rw [hN1] at e
      rcases key k' i' with (⟨rfl, rfl⟩ | ⟨rfl, rfl⟩ | ⟨y3, rfl⟩) | ⟨y1, y2, y3, y4⟩ | y
      · exact ⟨rfl, rfl⟩
      · rw [hN2] at e; exact absurd e p2
      · rw [hN k' y3] at e; exact absurd e (hWA 1 1 k' hlv1 y3)
      · rw [vold k' i' y1 y3] at e
        exact hD0 1 1 k' i' hlv1 y1 e
      · exact absurd h2 y
    · rw [hN2] at e
      rcases key k' i' with (⟨rfl, rfl⟩ | ⟨rfl, rfl⟩ | ⟨y3, rfl⟩) | ⟨y1, y2, y3, y4⟩ | y
      · rw [hN1] at e; exact absurd e.symm p2
      · exact ⟨rfl, rfl⟩
      · rw [hN k' y3] at e; exact absurd e (hqA k' y3)
      · rw [vold k' i' y1 y3] at e
        exact absurd e.symm (hWq k' i' y1 y3)
      · exact absurd h2 y
    · rw [hN k z3] at e
      rcases key k' i' with (⟨rfl, rfl⟩ | ⟨rfl, rfl⟩ | ⟨y3, rfl⟩) | ⟨y1, y2, y3, y4⟩ | y
      · rw [hN1] at e; exact absurd e.symm (hWA 1 1 k hlv1 z3)
      · rw [hN2] at e; exact absurd e.symm (hqA k z3)
      · rw [hN k' y3] at e; exact ⟨hAi k k' z3 y3 e, rfl⟩
      · rw [vold k' i' y1 y3] at e
        exact absurd e.symm (hWA k' i' k y1 z3)
      · exact absurd h2 y
theorem cw_T.add3 {C2 : mo_S} {g1 g2 : ev_H} {A : Nat → Nat} {ed cap : Nat} {f : Nat → Option Nat} (hT : cw_T G K g0 W g C) (hA : ∀ a, a < sp_A C → (C.1 63 a).toNatClampNeg < sp_P C) (hg : ∀ b e, g b = some e → g1 b = some e) (hA0 : ∀ k, k ∈ cw_nk 3 → g (A k) = none ∧ ∃ e, g1 (A k) = some e) (hAi : ∀ k k', k ∈ cw_nk 3 → k' ∈ cw_nk 3 → A k = A k' → k = k')
    (hed : ed = if C.1 132 3 = 0 then W 99 0 else W 2 3) (hf : ∀ j, f j = if j < sp_A C then some (W (cw_ek 3) j) else none) (hc : C.1 132 3 = nI cap) (hc2 : cap ≤ 200) (hc3 : sp_A C ≤ cap) (hc4 : cap = 0 ∨ 10 ≤ cap)
    (hp : cl_post G g1 (W 1 3) (C.1 131 3 + 1) ed (sp_A C) cap (A (cw_ek 3)) f g2) (hC : cw_cu C2 C 3 (sp_A C) cap) (hn : sp_A C + 1 ≤ 20)
    (hnew : ∀ q, ∀ k, k ∈ cw_nk 3 → (∀ ci fs, cw_ob (cw_wu W 3 (sp_A C) q A) C2 k (sp_A C) = some (ci, fs) → g1 (A k) = some (.inr (ci, fs))) ∧ ∀ m h, cw_ar C2 k (sp_A C) = some (m, h) → cw_ia G g1 (A k) m h) : ∃ q, cw_T G K g0 (cw_wu W 3 (sp_A C) q A) g2 C2 := by
  obtain ⟨q, f', p1, p2, p3, p4, p5, p6⟩ := hp
  have hcp := cl_cap_p hc3 hc4 hc2 (by omega)
  have hex := @cw_T.ex9 G K g0 g W C hT
  have hD0 := hT.2.2.2
  have hlv1 : cw_lv C 1 3 := (show (3 : Nat) < 4 by decide)
  have hq : (q = W 2 3 ∧ cw_lv C 2 3) ∨ (g1 q = none ∧ g q = none) := by
    rcases p1 with ⟨z1, z2⟩ | z
    · have hne : ¬ C.1 132 3 = 0 := by
        rw [hc]
        exact nI_ne0 (by omega) (by omega)
      rw [if_neg hne] at hed
      exact Or.inl ⟨z1.trans hed, (show (3 : Nat) < 4 by decide), hne⟩
    · refine Or.inr ⟨z, ?_⟩
      cases e : g q with
      | none => rfl
      | some v => rw [hg q v e] at z; cases z
  -- an old address is none of the new
  have hWq : ∀ k i, cw_lv C k i → (k = 2 → i ≠ 3) → W k i ≠ q := fun k i h1 h2 e => by
    rcases hq with ⟨z, hz⟩ | ⟨_, z⟩
    · rw [z] at e
      obtain ⟨r1, r2⟩ := hD0 k i 2 3 h1 hz e
      exact h2 r1 r2
    · obtain ⟨v, hv⟩ := hex h1
      rw [e, z] at hv
      cases hv
  have hWA : ∀ k i k', cw_lv C k i → k' ∈ cw_nk 3 → W k i ≠ A k' := fun k i k' h1 h2 e => by
    obtain ⟨v, hv⟩ := hex h1
    rw [e, (hA0 k' h2).1] at hv
    cases hv
  have hqA : ∀ k, k ∈ cw_nk 3 → q ≠ A k := fun k h e => by
    rcases hq with ⟨z, hz⟩ | ⟨z, _⟩
    · exact hWA 2 3 k hz h (by rw [← z]; exact e)
    · obtain ⟨v, hv⟩ := (hA0 k h).2
      rw [← e, z] at hv
      cases hv
  have hold : ∀ k i, cw_lv C k i → (k = 1 ∨ k = 2 → i ≠ 3) → g2 (W k i) = g (W k i) := fun k i h1 h2 => by
    obtain ⟨v, hv⟩ := hex h1
    rw [p6 _ (fun e => ?_) (hWq k i h1 (fun z => h2 (Or.inr z))), hg _ _ hv, hv]
    obtain ⟨r1, r2⟩ := hD0 k i 1 3 h1 hlv1 e
    exact h2 (Or.inl r1) r2
  have hW2 : ∀ k i, cw_lv C k i → (k = 2 → i ≠ 3) → cw_wu W 3 (sp_A C) q A k i = W k i := fun k i h1 h2 => by
    unfold cw_wu
    rw [if_neg (fun z => h2 z.1 z.2), if_neg (fun z => ?_)]
    obtain ⟨z1, z2⟩ := z
    subst z2
    have z1 : k ∈ [33] := z1
    simp only [List.mem_cons, List.mem_nil_iff, or_false] at z1
    rcases z1 with rfl <;> exact absurd h1 (Nat.lt_irrefl _)
  have hN : ∀ k, k ∈ cw_nk 3 → cw_wu W 3 (sp_A C) q A k (sp_A C) = A k := fun k h => by
    unfold cw_wu
    rw [if_neg (fun z => by rw [z.1] at h; revert h; decide), if_pos ⟨h, rfl⟩]
  have hN2 : cw_wu W 3 (sp_A C) q A 2 3 = q := if_pos ⟨rfl, rfl⟩
  have hN1 : cw_wu W 3 (sp_A C) q A 1 3 = W 1 3 := hW2 1 3 hlv1 (fun z => absurd z (by decide))
  have hNk : ∀ k, k ∈ cw_nk 3 → g2 (A k) = g1 (A k) := fun k h => p6 _ (fun e => hWA 1 3 k hlv1 h e.symm) (fun e => hqA k h e.symm)
  have hKq : ¬ K q := by
    rcases hq with ⟨z, hz⟩ | ⟨_, z⟩
    · rw [z]; exact (hT.2.2.1 2 3 hz).2
    · exact hT.K0 z
  have hlvs := fun k i => @cw_cu_lv3 C2 C k i cap hC (by omega)
  obtain ⟨e0, e1, e2, e3, e110, e111, e113, e133, e134, e132⟩ := cw_cu_sz3 hC (by omega)
  obtain ⟨u1, u2, u3, u4, u5⟩ := id hC
  refine ⟨q, hT.grow (l := 3) (fun k i => (k = 1 ∧ i = 3) ∨ (k = 2 ∧ i = 3) ∨ (k ∈ cw_nk 3 ∧ i = sp_A C)) (by unfold cw_wu; rw [if_neg (by omega), if_neg (fun z => absurd z.1 (by decide))]) hW2 hA (cw_cu_B3 hT.B hC hn hc hc2 hc3 hc4) (fun a ha => ?_) (fun k i hl => ?_) (fun k i k' i' h1 h2 e => ?_)⟩
  · obtain ⟨t1, v, t2⟩ := hT.2.1 a ha
    rw [p6 a (fun z => (hT.2.2.1 1 3 hlv1).2 (z ▸ ha)) (fun z => hKq (z ▸ ha)), hg a v (by rw [t1]; exact t2), t1, t2]
  · by_cases z1 : k = 1 ∧ i = 3
    · obtain ⟨rfl, rfl⟩ := z1
      refine Or.inr ⟨Or.inl ⟨rfl, rfl⟩, cw_at_ob (by decide) ob1 ?_, ?_⟩
      · rw [hN1, hN2, p3, u3, u2, if_neg (nI_ne0 (by omega) (by omega)), u1]
      · rw [hN1]; exact (hT.2.2.1 1 3 hlv1).2
    · by_cases z2 : k = 2 ∧ i = 3
      · obtain ⟨rfl, rfl⟩ := z2
        refine Or.inr ⟨Or.inr (Or.inl ⟨rfl, rfl⟩), ⟨fun ci fs e => (by simp only [cw_ob] at e; cases e), fun m h e => (by simp only [cw_ar] at e; cases e), fun _ => ⟨f', ?_, fun j => ?_⟩, fun e => absurd e (by decide), fun e => absurd e (by decide)⟩, ?_⟩
        · rw [hN2, p4, u2, nI_clamp (by omega)]
        · rw [p5 j, hf j]
          have en : cw_n C2 3 = sp_A C + 1 := e0
          rw [en]
          by_cases y : j = sp_A C
          · rw [if_pos y, if_pos (by omega), y, hN _ (by decide)]
          · rw [if_neg y]
            by_cases y2 : j < sp_A C
            · rw [if_pos y2, if_pos (by omega), hW2 _ _ (cw_ek_lv (l := 3) (by decide) y2) (fun z => absurd z (cw_ek_2 3))]
            · rw [if_neg y2, if_neg (by omega)]
        · rw [hN2]; exact hKq
      · by_cases z3 : k ∈ cw_nk 3 ∧ i = sp_A C
        · obtain ⟨z3, rfl⟩ := z3
          obtain ⟨b1, b2⟩ := hnew q k z3
          have hk : k ≠ 2 ∧ k ≠ 12 ∧ k ≠ 14 := ⟨fun z => by rw [z] at z3; revert z3; decide, fun z => by rw [z] at z3; revert z3; decide, fun z => by rw [z] at z3; revert z3; decide⟩
          refine Or.inr ⟨Or.inr (Or.inr ⟨z3, rfl⟩), ⟨fun ci fs e => ?_, fun m h e => ?_, fun e => absurd e hk.1, fun e => absurd e hk.2.1, fun e => absurd e hk.2.2⟩, ?_⟩
          · rw [hN k z3, hNk k z3]; exact b1 ci fs e
          · obtain ⟨ff, c1, c2⟩ := b2 m h e
            exact ⟨ff, by rw [hN k z3, hNk k z3]; exact c1, c2⟩
          · rw [hN k z3]; exact hT.K0 (hA0 k z3).1
        · have hl0 : cw_lv C k i := by
            rcases hlvs k i hl with z | z | z
            · exact absurd z z3
            · exact absurd z z2
            · exact z
          have hil : k = 1 ∨ k = 2 → i ≠ 3 := fun y z => by
            rcases y with y | y
            · exact z1 ⟨y, z⟩
            · exact z2 ⟨y, z⟩
          refine Or.inl ⟨hl0, hil, ⟨fun ff x ho => ?_, fun y => ?_, fun _ _ => ⟨e110 i, e111 i, e113 i⟩, fun _ => e134, fun _ => u5⟩, hold k i hl0 hil⟩
          · have ne99 : k ≠ 99 := fun z => by rw [z] at hl0; exact hl0
            refine u4 ff x (fun z => ne99 ?_) (fun z => ne99 ?_) (fun z => ?_) (fun z => z3 (by rw [ho] at z; exact z))
            · rw [z.1] at ho; cases ho; rfl
            · rw [z.1] at ho; cases ho; rfl
            · rw [z.1, z.2] at ho; cases ho; exact z1 ⟨rfl, rfl⟩
          · refine ⟨e132 i (hil y), ?_⟩
            have hi4 : i < 4 := by
              rcases y with rfl | rfl
              · exact hl0
              · exact hl0.1
            have hi := hil y
            obtain rfl | rfl | rfl : i = 0 ∨ i = 1 ∨ i = 2 := by omega
            · exact e1
            · exact e2
            · exact e3
  · -- apart
    have key : ∀ k i, ((k = 1 ∧ i = 3) ∨ (k = 2 ∧ i = 3) ∨ (k ∈ cw_nk 3 ∧ i = sp_A C)) ∨ (cw_lv C k i ∧ ¬ (k = 1 ∧ i = 3) ∧ (k = 2 → i ≠ 3) ∧ ¬ (k ∈ cw_nk 3 ∧ i = sp_A C)) ∨ ¬ cw_lv C2 k i := fun k i => by
      by_cases y1 : k = 1 ∧ i = 3
      · exact Or.inl (Or.inl y1)
      · by_cases y2 : k = 2 ∧ i = 3
        · exact Or.inl (Or.inr (Or.inl y2))
        · by_cases y3 : k ∈ cw_nk 3 ∧ i = sp_A C
          · exact Or.inl (Or.inr (Or.inr y3))
          · by_cases y4 : cw_lv C2 k i
            · refine Or.inr (Or.inl ⟨?_, y1, fun z z2 => y2 ⟨z, z2⟩, y3⟩)
              rcases hlvs k i y4 with z | z | z
              · exact absurd z y3
              · exact absurd z y2
              · exact z
            · exact Or.inr (Or.inr y4)
    have vold : ∀ k i, cw_lv C k i → (k = 2 → i ≠ 3) → cw_wu W 3 (sp_A C) q A k i = W k i := hW2
    rcases h1 with ⟨rfl, rfl⟩ | ⟨rfl, rfl⟩ | ⟨z3, rfl⟩
    · rw [hN1] at e
      rcases key k' i' with (⟨rfl, rfl⟩ | ⟨rfl, rfl⟩ | ⟨y3, rfl⟩) | ⟨y1, y2, y3, y4⟩ | y
      · exact ⟨rfl, rfl⟩
      · rw [hN2] at e; exact absurd e p2
      · rw [hN k' y3] at e; exact absurd e (hWA 1 3 k' hlv1 y3)
      · rw [vold k' i' y1 y3] at e
        exact hD0 1 3 k' i' hlv1 y1 e
      · exact absurd h2 y
    · rw [hN2] at e
      rcases key k' i' with (⟨rfl, rfl⟩ | ⟨rfl, rfl⟩ | ⟨y3, rfl⟩) | ⟨y1, y2, y3, y4⟩ | y
      · rw [hN1] at e; exact absurd e.symm p2
      · exact ⟨rfl, rfl⟩
      · rw [hN k' y3] at e; exact absurd e (hqA k' y3)
      · rw [vold k' i' y1 y3] at e
        exact absurd e.symm (hWq k' i' y1 y3)
      · exact absurd h2 y
    · rw [hN k z3] at e
      rcases key k' i' with (⟨rfl, rfl⟩ | ⟨rfl, rfl⟩ | ⟨y3, rfl⟩) | ⟨y1, y2, y3, y4⟩ | y
      · rw [hN1] at e; exact absurd e.symm (hWA 1 3 k hlv1 z3)
      · rw [hN2] at e; exact absurd e.symm (hqA k z3)
      · rw [hN k' y3] at e; exact ⟨hAi k k' z3 y3 e, rfl⟩
      · rw [vold k' i' y1 y3] at e
        exact absurd e.symm (hWA k' i' k y1 z3)
      · exact absurd h2 y
end CT
end CA
