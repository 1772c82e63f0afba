section RT
/-- the order that was made is the last of the list -/
def od_mv (C : mo_S) (n cap : Nat) : mo_S := (fun f x => if f = 29 ∧ x = 0 then nI (n + 1) else if f = 132 ∧ x = 2 then nI (cl_cap n cap) else if f = 131 ∧ x = 2 then C.1 131 2 + 1 else if f = 133 ∧ x = 0 then 0 else if (f = 36 ∨ f = 100 ∨ (103 ≤ f ∧ f ≤ 111) ∨ f = 113) ∧ x = n then C.1 f 11 else if (f = 101 ∨ f = 102) ∧ x / 3 = n then C.1 f (3 * 11 + x % 3) else if (f = 112 ∨ f = 114) ∧ x / 300 = n then C.1 f (300 * 11 + x % 300) else C.1 f x, C.2)
section MV
variable {C : mo_S} {n cap : Nat}
theorem od_mv_ne {f x : Nat} (h29 : ¬ (f = 29 ∧ x = 0)) (h132 : ¬ (f = 132 ∧ x = 2)) (h131 : ¬ (f = 131 ∧ x = 2)) (h133 : ¬ (f = 133 ∧ x = 0)) (h : ¬ od_at n f x) : (od_mv C n cap).1 f x = C.1 f x := by
  unfold od_at at h
  show (if _ then _ else _) = _
  rw [if_neg h29, if_neg h132, if_neg h131, if_neg h133, if_neg (by omega), if_neg (by omega), if_neg (by omega)]
theorem od_mv_29 : (od_mv C n cap).1 29 0 = nI (n + 1) := by
  first | rfl | simp [od_mv]
theorem od_mv_132 : (od_mv C n cap).1 132 2 = nI (cl_cap n cap) := by
  first | rfl | simp [od_mv]
theorem od_mv_131 : (od_mv C n cap).1 131 2 = C.1 131 2 + 1 := by
  first | rfl | simp [od_mv]
theorem od_mv_133 : (od_mv C n cap).1 133 0 = 0 := by
  first | rfl | simp [od_mv]
theorem od_mv_n {f : Nat} (h : f = 36 ∨ f = 100 ∨ (103 ≤ f ∧ f ≤ 111) ∨ f = 113) : (od_mv C n cap).1 f n = C.1 f 11 := by
  show (if _ then _ else _) = _
  rw [if_neg (by omega), if_neg (by omega), if_neg (by omega), if_neg (by omega), if_pos ⟨h, rfl⟩]
theorem od_mv_3 {f j : Nat} (h : f = 101 ∨ f = 102) (hj : j < 3) : (od_mv C n cap).1 f (3 * n + j) = C.1 f (3 * 11 + j) := by
  show (if _ then _ else _) = _
  rw [if_neg (by omega), if_neg (by omega), if_neg (by omega), if_neg (by omega), if_neg (by omega), if_pos ⟨h, by omega⟩, show (3 * n + j) % 3 = j by omega]
theorem od_mv_300 {f j : Nat} (h : f = 112 ∨ f = 114) (hj : j < 300) : (od_mv C n cap).1 f (300 * n + j) = C.1 f (300 * 11 + j) := by
  show (if _ then _ else _) = _
  rw [if_neg (by omega), if_neg (by omega), if_neg (by omega), if_neg (by omega), if_neg (by omega), if_neg (by omega), if_pos ⟨h, by omega⟩, show (300 * n + j) % 300 = j by omega]
theorem od_mv_sz (hn : n < 10) : sp_P (od_mv C n cap) = sp_P C ∧ sp_R (od_mv C n cap) = sp_R C ∧ sp_O (od_mv C n cap) = n + 1 ∧ sp_A (od_mv C n cap) = sp_A C ∧ cw_M (od_mv C n cap) = cw_M C := by
  have k : ∀ f, (f = 1 ∨ f = 21 ∨ f = 62 ∨ f = 134) → (od_mv C n cap).1 f 0 = C.1 f 0 := fun f hf => od_mv_ne (by omega) (by omega) (by omega) (by omega) (by unfold od_at; omega)
  unfold sp_P sp_R sp_O sp_A cw_M
  rw [k 1 (by omega), k 21 (by omega), k 62 (by omega), k 134 (by omega), od_mv_29, nI_clamp (by omega)]
  exact ⟨rfl, rfl, rfl, rfl, rfl⟩
theorem od_mv_S {r : od_R} (h : od_S C 11 r) : od_S (od_mv C n cap) n r := fun w hw => by
  obtain ⟨h0, h1, h4, h5⟩ := h w hw
  refine ⟨fun e => ?_, fun e1 e2 => ?_, fun e => ?_, fun e1 e2 => ?_⟩
  · obtain ⟨a, b, c⟩ := h0 e
    exact ⟨by rw [od_mv_n (by omega)]; exact a, b, fun j hj => by rw [od_mv_300 (by omega) (by omega)]; exact c j hj⟩
  · rw [od_mv_3 (by omega) (by omega), od_mv_3 (by omega) (by omega)]
    exact h1 e1 e2
  · obtain ⟨a, b, c⟩ := h4 e
    refine ⟨by rw [od_mv_n (by omega)]; exact a, by rw [od_mv_n (by omega)]; exact b, fun q => ?_⟩
    obtain ⟨q1, q2, q3⟩ := c q
    exact ⟨by rw [od_mv_n (by omega)]; exact q1, q2, fun j hj => by rw [od_mv_300 (by omega) (by omega)]; exact q3 j hj⟩
  · rw [od_mv_n (by omega)]
    exact h5 e1 e2
end MV
theorem od_mv_lv {C : mo_S} {n cap k i : Nat} (hn : n < 10) (hO : sp_O C = n) (hl : cw_lv (od_mv C n cap) k i) : (28 ≤ k ∧ k ≤ 32 ∧ i = n ∧ (k = 30 → ¬ C.1 110 11 = 0)) ∨ (k = 2 ∧ i = 2) ∨ cw_lv (mo_up C 133 0 0) k i := by
  obtain ⟨s0, s1, s2, s3, sM⟩ := od_mv_sz (C := C) (cap := cap) hn
  have f132 : ∀ x, x ≠ 2 → (od_mv C n cap).1 132 x = C.1 132 x := fun x hx => od_mv_ne (by omega) (by omega) (by omega) (by omega) (by unfold od_at; omega)
  have sO : ∀ i, cw_ol (od_mv C n cap) i → i = n ∨ cw_ol (mo_up C 133 0 0) i := fun i q => by
    rcases q with q | q | q
    · rw [s2] at q
      by_cases z : i = n
      · exact Or.inl z
      · exact Or.inr (Or.inl (show i < sp_O C by omega))
    · exact Or.inr (Or.inr (Or.inl q))
    · rw [od_mv_133] at q
      exact absurd q.2 (by decide)
  have hk : k < 35 := by
    rcases Nat.lt_or_ge k 35 with q | q
    · exact q
    · exfalso
      obtain ⟨m, rfl⟩ : ∃ m, k = m + 35 := ⟨k - 35, by omega⟩
      exact hl
  match k, hk, hl with
  | 0, _, hl => have h0 : i = 0 := hl; exact Or.inr (Or.inr h0)
  | 1, _, hl => have h0 : i < 4 := hl; exact Or.inr (Or.inr h0)
  | 2, _, hl =>
    by_cases e : i = 2
    · exact Or.inr (Or.inl ⟨rfl, e⟩)
    · exact Or.inr (Or.inr ⟨hl.1, by rw [mo_up_ne (by decide), ← f132 i e]; exact hl.2⟩)
  | 3, _, hl => have h0 : i = 0 := hl; exact Or.inr (Or.inr h0)
  | 4, _, hl => have h0 : i = 0 := hl; exact Or.inr (Or.inr h0)
  | 5, _, hl => have h0 : i = 0 := hl; exact Or.inr (Or.inr h0)
  | 6, _, hl => have h0 : i = 0 := hl; exact Or.inr (Or.inr h0)
  | 7, _, hl => have h0 : i = 0 := hl; exact Or.inr (Or.inr h0)
  | 8, _, hl => have h0 : i = 0 := hl; exact Or.inr (Or.inr h0)
  | 9, _, hl => have h0 : i = 0 := hl; exact Or.inr (Or.inr h0)
  | 10, _, hl => have h0 : i = 0 := hl; exact Or.inr (Or.inr h0)
  | 11, _, hl => have h0 : i = 0 := hl; exact Or.inr (Or.inr h0)
  | 12, _, hl => have h0 : i = 0 := hl; exact Or.inr (Or.inr h0)
  | 13, _, hl => have h0 : i = 0 := hl; exact Or.inr (Or.inr h0)
  | 14, _, hl => have h0 : i = 0 := hl; exact Or.inr (Or.inr h0)
  | 15, _, hl => have h0 : i = 0 := hl; exact Or.inr (Or.inr h0)
  | 16, _, hl => have h0 : i = 0 := hl; exact Or.inr (Or.inr h0)
  | 17, _, hl => have h0 : i = 0 := hl; exact Or.inr (Or.inr h0)
  | 18, _, hl => have h0 : i = 0 := hl; exact Or.inr (Or.inr h0)
  | 19, _, hl => have h0 : i = 0 := hl; exact Or.inr (Or.inr h0)
  | 20, _, hl => exact Or.inr (Or.inr (by have hl : i < sp_P (od_mv C n cap) := hl; rw [s0] at hl; exact hl))
  | 21, _, hl => exact Or.inr (Or.inr (by have hl : i < sp_P (od_mv C n cap) := hl; rw [s0] at hl; exact hl))
  | 22, _, hl => exact Or.inr (Or.inr (by have hl : i < sp_P (od_mv C n cap) := hl; rw [s0] at hl; exact hl))
  | 23, _, hl => exact Or.inr (Or.inr (by have hl : i < sp_P (od_mv C n cap) := hl; rw [s0] at hl; exact hl))
  | 24, _, hl => exact Or.inr (Or.inr (by have hl : i < sp_P (od_mv C n cap) := hl; rw [s0] at hl; exact hl))
  | 25, _, hl => exact Or.inr (Or.inr (by have hl : i < sp_P (od_mv C n cap) := hl; rw [s0] at hl; exact hl))
  | 26, _, hl => exact Or.inr (Or.inr (by have hl : i < sp_P (od_mv C n cap) := hl; rw [s0] at hl; exact hl))
  | 27, _, hl => exact Or.inr (Or.inr (by have hl : i < sp_R (od_mv C n cap) := hl; rw [s1] at hl; exact hl))
  | 28, _, hl =>
    rcases sO i hl with q | q
    · exact Or.inl ⟨by decide, by decide, q, fun e => absurd e (by decide)⟩
    · exact Or.inr (Or.inr q)
  | 29, _, hl =>
    rcases sO i hl with q | q
    · exact Or.inl ⟨by decide, by decide, q, fun e => absurd e (by decide)⟩
    · exact Or.inr (Or.inr q)
  | 30, _, hl =>
    by_cases e : i = n
    · exact Or.inl ⟨by decide, by decide, e, fun _ => by rw [← od_mv_n (C := C) (n := n) (cap := cap) (f := 110) (by omega), ← e]; rw [e]; exact e ▸ hl.2⟩
    · refine Or.inr (Or.inr ⟨(sO i hl.1).resolve_left e, ?_⟩)
      rw [mo_up_ne (by decide), ← od_mv_ne (C := C) (n := n) (cap := cap) (f := 110) (x := i) (by omega) (by omega) (by omega) (by omega) (by unfold od_at; omega)]
      exact hl.2
  | 31, _, hl =>
    rcases sO i hl with q | q
    · exact Or.inl ⟨by decide, by decide, q, fun e => absurd e (by decide)⟩
    · exact Or.inr (Or.inr q)
  | 32, _, hl =>
    rcases sO i hl with q | q
    · exact Or.inl ⟨by decide, by decide, q, fun e => absurd e (by decide)⟩
    · exact Or.inr (Or.inr q)
  | 33, _, hl => exact Or.inr (Or.inr (by have hl : i < sp_A (od_mv C n cap) := hl; rw [s3] at hl; exact hl))
  | 34, _, hl => exact Or.inr (Or.inr (by have hl : i < cw_M (od_mv C n cap) := hl; rw [sM] at hl; exact hl))
  | k + 35, hk, _ => exact absurd hk (by omega)
def od_Wa (W : cw_W) (n q : Nat) : cw_W := fun k i => if k = 2 ∧ i = 2 then q else if 28 ≤ k ∧ k ≤ 32 ∧ i = n then W k 11 else W k i
section CT
variable {G : ev_G} {K : Nat → Prop} {g0 g : ev_H} {W : cw_W} {C : mo_S} {n cap : Nat}
theorem od_mv_B (hB : cw_B C) (hn : n < 10) (hO : sp_O C = n) (hc : C.1 132 2 = nI cap) (hc2 : cap ≤ 200) (hc3 : n ≤ cap) (hc4 : cap = 0 ∨ 10 ≤ cap) : cw_B (od_mv C n cap) := by
  obtain ⟨s0, s1, s2, s3, sM⟩ := od_mv_sz (C := C) (cap := cap) hn
  obtain ⟨a0, a1, a2, a3, aM, aC, aL⟩ := hB
  have k : ∀ f, (f = 1 ∨ f = 21 ∨ f = 62 ∨ f = 134) → (od_mv C n cap).1 f 0 = C.1 f 0 := fun f hf => od_mv_ne (by omega) (by omega) (by omega) (by omega) (by unfold od_at; omega)
  have hp := cl_cap_p hc3 hc4 hc2 (by omega)
  refine ⟨by rw [k 1 (by omega), s0]; exact a0, by rw [k 21 (by omega), s1]; exact a1, ⟨by rw [s2]; exact od_mv_29, by omega⟩, by rw [k 62 (by omega), s3]; exact a3, by rw [k 134 (by omega), sM]; exact aM, fun l hl => ?_, fun i => ?_⟩
  · by_cases z : l = 2
    · subst z
      exact ⟨_, od_mv_132, hp.2.2, by show sp_O (od_mv C n cap) ≤ _; rw [s2]; exact hp.1, Or.inr hp.2.1⟩
    · obtain ⟨cp, b1, b2, b3, b4⟩ := aC l hl
      refine ⟨cp, by rw [od_mv_ne (by omega) (by omega) (by omega) (by omega) (by unfold od_at; omega)]; exact b1, b2, ?_, b4⟩
      have e : cw_n (od_mv C n cap) l = cw_n C l := by
        obtain rfl | rfl | rfl : l = 0 ∨ l = 1 ∨ l = 3 := by omega
        · exact s0
        · exact s1
        · exact s3
      rw [e]; exact b3
  · by_cases e : i = n
    · rw [e, od_mv_n (by omega), od_mv_n (by omega)]; exact aL 11
    · rw [od_mv_ne (by omega) (by omega) (by omega) (by omega) (by unfold od_at; omega), od_mv_ne (by omega) (by omega) (by omega) (by omega) (by unfold od_at; omega)]; exact aL i
theorem cw_T.add2 {g2 : ev_H} {ed : Nat} {f : Nat → Option Nat} (hT : cw_T G K g0 W g C) (h133 : C.1 133 0 = 1) (hA : ∀ a, a < sp_A C → (C.1 63 a).toNatClampNeg < sp_P C) (hn : n < 10) (hO : sp_O C = n) (hed : ed = if C.1 132 2 = 0 then W 99 0 else W 2 2) (hf : ∀ j, f j = if j < n then some (W 28 j) else none) (hc : C.1 132 2 = nI cap) (hc2 : cap ≤ 200) (hc3 : n ≤ cap) (hc4 : cap = 0 ∨ 10 ≤ cap) (hp : cl_post G g (W 1 2) (C.1 131 2 + 1) ed n cap (W 28 11) f g2) : ∃ q, cw_T G K g0 (od_Wa W n q) g2 (od_mv C n cap) := by
  obtain ⟨q, f', p1, p2, p3, p4, p5, p6⟩ := hp
  have hcp := cl_cap_p hc3 hc4 hc2 (by omega)
  have hex := @cw_T.ex9 G K g0 g W C hT
  have hD0 := hT.2.2.2
  have hlv1 : cw_lv C 1 2 := (show (2 : Nat) < 4 by decide)
  have h28 : cw_lv C 28 11 := Or.inr (Or.inr ⟨rfl, h133⟩)
  have hl9 : ∀ k, 28 ≤ k → k ≤ 32 → (k = 30 → ¬ C.1 110 11 = 0) → cw_lv C k 11 := fun k k1 k2 k3 => by
    obtain rfl | rfl | rfl | rfl | rfl : k = 28 ∨ k = 29 ∨ k = 30 ∨ k = 31 ∨ k = 32 := by omega
    · exact h28
    · exact h28
    · exact ⟨h28, k3 rfl⟩
    · exact h28
    · exact h28
  have hq : (q = W 2 2 ∧ cw_lv C 2 2) ∨ g q = none := by
    rcases p1 with ⟨z1, z2⟩ | z
    · have hne : ¬ C.1 132 2 = 0 := by
        rw [hc]
        exact nI_ne0 (by omega) (by omega)
      rw [if_neg hne] at hed
      exact Or.inl ⟨z1.trans hed, (show (2 : Nat) < 4 by decide), hne⟩
    · exact Or.inr z
  have hWq : ∀ k i, cw_lv C k i → (k = 2 → i ≠ 2) → W k i ≠ q := fun k i h1 h2 e => by
    rcases hq with ⟨z, hz⟩ | z
    · rw [z] at e
      obtain ⟨r1, r2⟩ := hD0 k i 2 2 h1 hz e
      exact h2 r1 r2
    · exact hT.ne0 h1 z e
  have hKq : ¬ K q := by
    rcases hq with ⟨z, hz⟩ | z
    · rw [z]; exact (hT.2.2.1 2 2 hz).2
    · exact hT.K0 z
  have hold : ∀ k i, cw_lv C k i → (k = 1 ∨ k = 2 → i ≠ 2) → g2 (W k i) = g (W k i) := fun k i h1 h2 => by
    refine p6 _ (fun e => ?_) (hWq k i h1 (fun z => h2 (Or.inr z)))
    obtain ⟨r1, r2⟩ := hD0 k i 1 2 h1 hlv1 e
    exact h2 (Or.inl r1) r2
  have hB0 := (hT.drop hA).B
  have hlv0 : ∀ k i, cw_lv (mo_up C 133 0 0) k i → cw_lv C k i ∧ ¬ (28 ≤ k ∧ k ≤ 32 ∧ i = 11) ∧ ¬ (28 ≤ k ∧ k ≤ 32 ∧ i = n) := fun k i h => by
    have hn0 := od_lv0 hB0 (by rw [mo_up_at, pk_us]) h
    have hnn : ¬ (28 ≤ k ∧ k ≤ 32 ∧ i = n) := fun q => by
      have z : ¬ cw_ol (mo_up C 133 0 0) n := fun z => by
        rcases z with z | z | z
        · exact absurd (show n < sp_O C from z) (by omega)
        · omega
        · omega
      obtain ⟨q1, q2, rfl⟩ := q
      obtain rfl | rfl | rfl | rfl | rfl : k = 28 ∨ k = 29 ∨ k = 30 ∨ k = 31 ∨ k = 32 := by omega
      · exact z h
      · exact z h
      · exact z h.1
      · exact z h
      · exact z h
    rcases od_lv (C2 := mo_up C 133 0 0) (C := C) ⟨fun f x _ h => cw_up_at (fun q => h q), rfl⟩ h with q | q
    · exact absurd ⟨q.1, q.2.1, q.2.2.1⟩ hn0
    · exact ⟨q, hn0, hnn⟩
  have hWo : ∀ k i, cw_lv (mo_up C 133 0 0) k i → (k = 2 → i ≠ 2) → od_Wa W n q k i = W k i := fun k i h1 h2 => by
    unfold od_Wa
    rw [if_neg (fun z => h2 z.1 z.2), if_neg (hlv0 k i h1).2.2]
  have hN2 : od_Wa W n q 2 2 = q := if_pos ⟨rfl, rfl⟩
  have hN1 : od_Wa W n q 1 2 = W 1 2 := (if_neg (by omega)).trans (if_neg (by omega))
  have hNk : ∀ k, 28 ≤ k → k ≤ 32 → od_Wa W n q k n = W k 11 := fun k k1 k2 => (if_neg (by omega)).trans (if_pos ⟨k1, k2, rfl⟩)
  have hlvs := fun k i => @od_mv_lv C n cap k i hn hO
  obtain ⟨s0, s1, s2, s3, sM⟩ := od_mv_sz (C := C) (cap := cap) hn
  have hg11 : ∀ k, 28 ≤ k → k ≤ 32 → (k = 30 → ¬ C.1 110 11 = 0) → g2 (W k 11) = g (W k 11) := fun k k1 k2 k3 => hold k 11 (hl9 k k1 k2 k3) (fun z => by omega)
  refine ⟨q, (hT.drop hA).grow (l := 2) (fun k i => (k = 1 ∧ i = 2) ∨ (k = 2 ∧ i = 2) ∨ (28 ≤ k ∧ k ≤ 32 ∧ i = n ∧ (k = 30 → ¬ C.1 110 11 = 0))) ((if_neg (by omega)).trans (if_neg (by omega))) hWo hA (od_mv_B hT.B hn hO hc hc2 hc3 hc4) (fun a ha => p6 a (fun z => (hT.2.2.1 1 2 hlv1).2 (z ▸ ha)) (fun z => hKq (z ▸ ha))) (fun k i hl => ?_) (fun k i k' i' h1 h2 e => ?_)⟩
  · by_cases z1 : k = 1 ∧ i = 2
    · obtain ⟨rfl, rfl⟩ := z1
      refine Or.inr ⟨Or.inl ⟨rfl, rfl⟩, cw_at_ob (by decide) ob1 ?_, ?_⟩
      · rw [hN1, hN2, p3, od_mv_131, od_mv_132, if_neg (nI_ne0 (by omega) (by omega)), show cw_sz 2 = 29 from rfl, od_mv_29]
      · rw [hN1]; exact (hT.2.2.1 1 2 hlv1).2
    · by_cases z2 : k = 2 ∧ i = 2
      · obtain ⟨rfl, rfl⟩ := z2
        refine Or.inr ⟨Or.inr (Or.inl ⟨rfl, rfl⟩), ⟨fun ci fs e => (by simp only [cw_ob] at e; cases e), fun m h e => (by simp only [cw_ar] at e; cases e), fun _ => ⟨f', ?_, fun j => ?_⟩, fun e => absurd e (by decide), fun e => absurd e (by decide)⟩, ?_⟩
        · rw [hN2, p4, od_mv_132, nI_clamp (by omega)]
        · rw [p5 j, hf j]
          have en : cw_n (od_mv C n cap) 2 = n + 1 := s2
          have ek : cw_ek 2 = 28 := rfl
          rw [en, ek]
          by_cases y : j = n
          · rw [if_pos y, if_pos (by omega), y, hNk 28 (by decide) (by decide)]
          · rw [if_neg y]
            by_cases y2 : j < n
            · rw [if_pos y2, if_pos (by omega), hWo 28 j (Or.inl (show j < sp_O C by omega)) (fun z => absurd z (by decide))]
            · rw [if_neg y2, if_neg (by omega)]
        · rw [hN2]; exact hKq
      · rcases hlvs k i hl with ⟨k1, k2, rfl, k3⟩ | z | hl0
        · have hat := (hT.2.2.1 k 11 (hl9 k k1 k2 k3))
          refine Or.inr ⟨Or.inr (Or.inr ⟨k1, k2, rfl, k3⟩), ?_, by rw [hNk k k1 k2]; exact hat.2⟩
          have hgk := hg11 k k1 k2 k3
          obtain rfl | rfl | rfl | rfl | rfl : k = 28 ∨ k = 29 ∨ k = 30 ∨ k = 31 ∨ k = 32 := by omega
          · refine cw_at_ob (by decide) ob28 ?_
            rw [hNk 28 (by decide) (by decide), hNk 29 (by decide) (by decide), hNk 30 (by decide) (by decide), hNk 31 (by decide) (by decide), hNk 32 (by decide) (by decide), od_mv_n (by omega), od_mv_n (by omega), od_mv_n (by omega), od_mv_n (by omega), od_mv_n (by omega), od_mv_n (by omega), od_mv_n (by omega), od_mv_n (by omega), od_mv_n (by omega), od_mv_n (by omega), hgk]
            exact hat.1.1 _ _ ob28
          · exact cw_at_ar (by decide) ar29 (by rw [hNk 29 (by decide) (by decide)]; exact (hat.1.2.1 _ _ ar29).mv hgk (by rw [od_mv_n (by omega)]) (fun j hj => od_mv_300 (by omega) (Nat.lt_of_lt_of_le hj (hT.B.2.2.2.2.2.2 11).1)))
          · exact cw_at_ar (by decide) ar30 (by rw [hNk 30 (by decide) (by decide)]; exact (hat.1.2.1 _ _ ar30).mv hgk (by rw [od_mv_n (by omega)]) (fun j hj => od_mv_300 (by omega) (Nat.lt_of_lt_of_le hj (hT.B.2.2.2.2.2.2 11).2)))
          · exact cw_at_ar (by decide) ar31 (by rw [hNk 31 (by decide) (by decide)]; exact (hat.1.2.1 _ _ ar31).mv hgk rfl (fun j hj => od_mv_3 (by omega) hj))
          · exact cw_at_ar (by decide) ar32 (by rw [hNk 32 (by decide) (by decide)]; exact (hat.1.2.1 _ _ ar32).mv hgk rfl (fun j hj => od_mv_3 (by omega) hj))
        · exact absurd z z2
        · obtain ⟨hlC, hn11, hnn⟩ := hlv0 k i hl0
          have hil : k = 1 ∨ k = 2 → i ≠ 2 := fun y z => by
            rcases y with y | y
            · exact z1 ⟨y, z⟩
            · exact z2 ⟨y, z⟩
          have ne99 : k ≠ 99 := fun z => by rw [z] at hlC; exact hlC
          have own : ∀ f x, cw_ow f x = (k, i) → (od_mv C n cap).1 f x = (mo_up C 133 0 0).1 f x := fun f x ho => by
            have n29 : ∀ f', f' ∈ cw_S → f ≠ f' := fun f' hf' e => by
              subst e
              have e9 : cw_ow f x = (99, 0) := by
                simp only [cw_S, List.mem_cons, List.mem_nil_iff, or_false] at hf'
                rcases hf' with rfl | rfl | rfl | rfl | rfl | rfl | rfl | rfl | rfl | rfl <;> rfl
              rw [e9] at ho
              cases ho
              exact ne99 rfl
            rw [mo_up_ne (n29 133 (by decide))]
            refine od_mv_ne (fun z => n29 29 (by decide) z.1) (fun z => n29 132 (by decide) z.1) (fun z => ?_) (fun z => n29 133 (by decide) z.1) (fun z => ?_)
            · rw [z.1, z.2] at ho
              have ho : ((1 : Nat), (2 : Nat)) = (k, i) := ho
              cases ho
              exact z1 ⟨rfl, rfl⟩
            · unfold od_at at z
              rcases z with ⟨y1, y2⟩ | ⟨y1, y2⟩ | ⟨y1, y2⟩
              · have h110 := n29 110 (by decide)
                have h111 := n29 111 (by decide)
                have h113 := n29 113 (by decide)
                obtain rfl | rfl | rfl | rfl | rfl | rfl | rfl | rfl | rfl : f = 36 ∨ f = 100 ∨ f = 103 ∨ f = 104 ∨ f = 105 ∨ f = 106 ∨ f = 107 ∨ f = 108 ∨ f = 109 := by omega
                all_goals
                  have ho : ((28 : Nat), x) = (k, i) := ho
                  cases ho
                  exact hnn ⟨by decide, by decide, y2⟩
              · obtain rfl | rfl : f = 101 ∨ f = 102 := y1
                · have ho : ((31 : Nat), x / 3) = (k, i) := ho; cases ho; exact hnn ⟨by decide, by decide, y2⟩
                · have ho : ((32 : Nat), x / 3) = (k, i) := ho; cases ho; exact hnn ⟨by decide, by decide, y2⟩
              · obtain rfl | rfl : f = 112 ∨ f = 114 := y1
                · have ho : ((29 : Nat), x / 300) = (k, i) := ho; cases ho; exact hnn ⟨by decide, by decide, y2⟩
                · have ho : ((30 : Nat), x / 300) = (k, i) := ho; cases ho; exact hnn ⟨by decide, by decide, y2⟩
          have st : ∀ f x, ¬ (f = 29 ∧ x = 0) → ¬ (f = 132 ∧ x = 2) → ¬ (f = 131 ∧ x = 2) → f ≠ 133 → ¬ od_at n f x → (od_mv C n cap).1 f x = (mo_up C 133 0 0).1 f x := fun f x a b c e h => by
            rw [mo_up_ne e]
            exact od_mv_ne a b c (fun z => e z.1) h
          refine Or.inl ⟨hl0, hil, ⟨own, fun y => ?_, fun a b => ?_, fun _ => st 134 0 (by omega) (by omega) (by omega) (by omega) (by unfold od_at; omega), fun _ => rfl⟩, hold k i hlC hil⟩
          · have hi4 : i < 4 := by
              rcases y with rfl | rfl
              · exact hl0
              · exact hl0.1
            have hi := hil y
            refine ⟨st 132 i (by omega) (by omega) (by omega) (by omega) (by unfold od_at; omega), ?_⟩
            obtain rfl | rfl | rfl : i = 0 ∨ i = 1 ∨ i = 3 := by omega
            · exact st 1 0 (by omega) (by omega) (by omega) (by omega) (by unfold od_at; omega)
            · exact st 21 0 (by omega) (by omega) (by omega) (by omega) (by unfold od_at; omega)
            · exact st 62 0 (by omega) (by omega) (by omega) (by omega) (by unfold od_at; omega)
          · have hin : i ≠ n := fun z => hnn ⟨a, by omega, z⟩
            exact ⟨st 110 i (by omega) (by omega) (by omega) (by omega) (by unfold od_at; omega), st 111 i (by omega) (by omega) (by omega) (by omega) (by unfold od_at; omega), st 113 i (by omega) (by omega) (by omega) (by omega) (by unfold od_at; omega)⟩
  · -- apart
    have key : ∀ k i, cw_lv (od_mv C n cap) k i → ((k = 1 ∧ i = 2) ∧ od_Wa W n q k i = W 1 2) ∨ ((k = 2 ∧ i = 2) ∧ od_Wa W n q k i = q) ∨ ((28 ≤ k ∧ k ≤ 32 ∧ i = n ∧ (k = 30 → ¬ C.1 110 11 = 0)) ∧ od_Wa W n q k i = W k 11) ∨ (cw_lv C k i ∧ ¬ (28 ≤ k ∧ k ≤ 32 ∧ i = 11) ∧ ¬ (k = 1 ∧ i = 2) ∧ (k = 2 → i ≠ 2) ∧ od_Wa W n q k i = W k i) := fun k i hl => by
      by_cases y1 : k = 1 ∧ i = 2
      · exact Or.inl ⟨y1, by rw [y1.1, y1.2]; exact hN1⟩
      · by_cases y2 : k = 2 ∧ i = 2
        · exact Or.inr (Or.inl ⟨y2, by rw [y2.1, y2.2]; exact hN2⟩)
        · rcases hlvs k i hl with z | z | z
          · exact Or.inr (Or.inr (Or.inl ⟨z, by rw [z.2.2.1]; exact hNk k z.1 z.2.1⟩))
          · exact absurd z y2
          · have := hlv0 k i z
            exact Or.inr (Or.inr (Or.inr ⟨this.1, this.2.1, y1, fun a b => y2 ⟨a, b⟩, hWo k i z (fun a b => y2 ⟨a, b⟩)⟩))
    have hk := key k' i' h2
    rcases h1 with ⟨rfl, rfl⟩ | ⟨rfl, rfl⟩ | ⟨k1, k2, rfl, k3⟩
    · rw [hN1] at e
      rcases hk with ⟨⟨rfl, rfl⟩, -⟩ | ⟨-, z⟩ | ⟨⟨b1, b2, -, b3⟩, z⟩ | ⟨b1, -, -, -, z⟩
      · exact ⟨rfl, rfl⟩
      · rw [z] at e; exact absurd e p2
      · rw [z] at e
        have := hD0 1 2 k' 11 hlv1 (hl9 k' b1 b2 b3) e
        omega
      · rw [z] at e; exact hD0 1 2 k' i' hlv1 b1 e
    · rw [hN2] at e
      rcases hk with ⟨-, z⟩ | ⟨⟨rfl, rfl⟩, -⟩ | ⟨⟨b1, b2, -, b3⟩, z⟩ | ⟨b1, -, -, b4, z⟩
      · rw [z] at e; exact absurd e.symm p2
      · exact ⟨rfl, rfl⟩
      · rw [z] at e; exact absurd e.symm (hWq k' 11 (hl9 k' b1 b2 b3) (by omega))
      · rw [z] at e; exact absurd e.symm (hWq k' i' b1 b4)
    · rw [hNk k k1 k2] at e
      have hlk := hl9 k k1 k2 k3
      rcases hk with ⟨-, z⟩ | ⟨-, z⟩ | ⟨⟨b1, b2, b0, b3⟩, z⟩ | ⟨b1, b2, b3, b4, z⟩
      · rw [z] at e
        have := hD0 k 11 1 2 hlk hlv1 e
        omega
      · rw [z] at e; exact absurd e (hWq k 11 hlk (by omega))
      · rw [z] at e
        exact ⟨(hD0 k 11 k' 11 hlk (hl9 k' b1 b2 b3) e).1, b0.symm⟩
      · rw [z] at e
        have := hD0 k 11 k' i' hlk b1 e
        exact absurd ⟨by omega, by omega, this.2.symm⟩ b2
end CT
section RS
variable {G : ev_G} {d bc bs D0 : Nat} {M : ev_M} {Post : ev_P} {g : ev_H} {pc : Nat} {lv : List (Option Value)} {st : List Value}
variable {K : Nat → Prop} {g0 : ev_H} {W : cw_W} {C : mo_S}
theorem cw_addc2 {index b n0 n : Nat} (hE : ev_En G) (h4 : ev_En4 G D0) (h99 : W 99 0 = D0) (hT : cw_T G K g0 W g C) (hd : decode M.2.1 pc = .ok (.invokevirtual index, 3)) (hl1 : Cond.methodLink M.1.cls index yJx4a65c_add_9ea2d ∈ ev_T) (h133 : C.1 133 0 = 1) (hA : ∀ a, a < sp_A C → (C.1 63 a).toNatClampNeg < sp_P C) (hn : n < 10) (hO : sp_O C = n) (hr : (st.map fun v => v.category).sum ≤ 8) (hdd : 8 ≤ d) (hb : b + 1 ≤ bc) (hs0 : n0 + 200 ≤ bs) (kk : ∀ q cap g2, cw_T G K g0 (od_Wa W n q) g2 (od_mv C n cap) → ev_V G d b n0 M Post g2 (pc + 3) lv (.int 1 :: st)) : ev_V G d bc bs M Post g pc lv (.ref (W 28 11) :: .ref (W 1 2) :: st) := by
  refine ev_ge (fun hge => ?_)
  obtain ⟨cap, hcap, hc2, hc3, hc4⟩ := hT.B.2.2.2.2.2.1 2 (by decide)
  have hc3 : n ≤ cap := by have e : cw_n C 2 = sp_O C := rfl; omega
  have hsz : C.1 29 0 = nI n := by have := hT.B.2.2.1.1; rw [hO] at this; exact this
  have hlv1 : cw_lv C 1 2 := (show (2 : Nat) < 4 by decide)
  have h28 : cw_lv C 28 11 := Or.inr (Or.inr ⟨rfl, h133⟩)
  have hob : g (W 1 2) = some (.inr (0, [.int (C.1 131 2), .ref (if C.1 132 2 = 0 then W 99 0 else W 2 2), .int (nI n)])) := by
    have := (hT.at hlv1).1 _ _ ob1
    rw [← hsz]
    exact this
  have hpre : cl_pre G D0 g (W 1 2) (C.1 131 2) (if C.1 132 2 = 0 then W 99 0 else W 2 2) n cap 5 (fun j => if j < n then some (W 28 j) else none) := by
    refine ⟨hob, ?_, hc3, by omega, hc2, fun i y hy => ?_, fun j hj => if_neg (by omega)⟩
    · by_cases z : C.1 132 2 = 0
      · have hz : cap = 0 := by
          rcases hc4 with q | q
          · exact q
          · exact absurd (hcap.symm.trans z) (nI_ne0 (by omega) (by omega))
        exact Or.inl ⟨hz, by rw [if_pos z]; exact h99, by omega, fun j => if_neg (by omega)⟩
      · obtain ⟨f, a1, a2⟩ := (hT.at (k := 2) (i := 2) ⟨by decide, z⟩).2.2.1 rfl
        rw [hcap, nI_clamp (by omega)] at a1
        have ef : f = fun j => if j < n then some (W 28 j) else none := funext fun j => by
          rw [a2 j, show cw_n C 2 = n from hO]
          rfl
        rw [ef] at a1
        refine Or.inr ⟨?_, by rw [if_neg z]; exact a1⟩
        rcases hc4 with q | q
        · exact absurd (by rw [hcap, q]; rfl) z
        · exact q
    · dsimp only at hy
      by_cases z : i < n
      · rw [if_pos z] at hy
        cases hy
        exact ⟨_, (hT.at (k := 28) (i := i) (Or.inl (by omega))).1 _ _ ob28⟩
      · rw [if_neg z] at hy
        cases hy
  have hae : W 1 2 ≠ (if C.1 132 2 = 0 then W 99 0 else W 2 2) := by
    by_cases z : C.1 132 2 = 0
    · rw [if_pos z, h99]
      intro e
      obtain ⟨cell, _, _, _, _, _, _, hn9⟩ := h4.2.2.1.2
      exact hn9 (by rw [← e]; exact hge _ _ hob)
    · rw [if_neg z]
      intro e
      have := hT.2.2.2 1 2 2 2 hlv1 ⟨by decide, z⟩ e
      exact absurd this.1 (by decide)
  refine ev_callV (d' := d - 1) (b := b) (k0 := n0) (As := [.ref (W 28 11)]) hE hd rfl kJx4a65c_add_9ea2d rfl hl1 iJx4a65c_add_9ea2d vJx4a65c_add_9ea2d hob rfl hr (by omega) (cl_add (ci := 5) (Cn := RX4) hE h4 (by omega) hpre ((hT.at h28).1 _ _ ob28) (fun e => by have := hT.2.2.2 1 2 28 11 hlv1 h28 e; omega) hae rfl (by decide) (by decide)) hb hs0 (fun v g' h => ?_) (fun E g' h => by cases h.1)
  obtain ⟨h1, h2⟩ := h
  cases h1
  obtain ⟨q, hT2⟩ := hT.add2 h133 hA hn hO rfl (fun _ => rfl) hcap hc2 hc3 hc4 h2
  exact kk q cap g' hT2
end RS
/-- an order: what is answered, what is then -/
def od_X : List Nat := [28, 33, 116, 117, 118, 119, 120, 121, 122, 123, 124, 125, 127, 128, 129, 130, 131, 132, 133]
def od_oq (C : mo_S) (x1 : Int32) (t : Nat → Nat) (n : Nat) (o : Option Value ⊕ String) (C2 : mo_S) : Prop := C2.1 28 0 = 0 ∧ ((sp_O C = 10 ∧ o = .inl (some (.int (-1))) ∧ C2.1 33 0 = -1 ∧ ∀ f x, f ∉ od_X → ¬ od_at 11 f x → C2.1 f x = C.1 f x) ∨ (sp_O C < 10 ∧ match od_fo 0 (fun _ => none) (ps_os t n 12 (ps_skn t n 0)) with
  | .inl (f, pl) => 1 ≤ f ∧ f ≤ 3 ∧ o = .inl (some (.int (nI f - 10))) ∧ C2.1 33 0 = nI pl ∧ ∀ f x, f ∉ od_X → ¬ od_at 11 f x → C2.1 f x = C.1 f x
  | .inr r => o = .inl (some (.int (nI (sp_O C)))) ∧ C2.1 33 0 = -1 ∧ C2.1 29 0 = nI (sp_O C + 1) ∧ C2.1 36 (sp_O C) = x1 ∧ od_S C2 (sp_O C) r ∧ ∀ f x, f ∉ od_X → ¬ od_at 11 f x → ¬ od_at (sp_O C) f x → ¬ (f = 29 ∧ x = 0) → C2.1 f x = C.1 f x))
theorem c_X11_order {G : ev_G} {W : cw_W} {d D0 : Nat} {C : mo_S} {t : Nat → Nat} {x1 x2 : Int32} (hE : ev_En G) (h4 : ev_En4 G D0) (hd : 63 ≤ d) (h99 : W 99 0 = D0) (ht : ∀ j, t j < 256) (htp : ∀ j, j < 300 → C.1 115 j = nI (t j)) (m : Nat) (h28 : C.1 28 0 = nI m) (hm : m ≤ 300) (h133 : C.1 133 0 = 0) (hA : ∀ a, a < sp_A C → (C.1 63 a).toNatClampNeg < sp_P C) : cw_R G W d 18 4120 mX11_order [.ref (W 0 0), .int x1, .int x2] C (fun o W2 C2 => W2 99 0 = W 99 0 ∧ W2 0 0 = W 0 0 ∧ C2.1 133 0 = 0 ∧ (((sp_in x1 0 600 && sp_in x2 0 (nI m)) = false ∧ o = .inr "java/lang/IllegalArgumentException" ∧ C2 = C) ∨ (sp_in x1 0 600 = true ∧ ∃ n, x2 = nI n ∧ n ≤ m ∧ od_oq C x1 t n o C2))) := by
  refine cw_startR (lv0 := [some (.ref (W 0 0)), some (.int x1), some (.int x2), none]) (by decide +kernel) rfl (Nat.le_of_ble_eq_true rfl) rfl ?_
  intro K g0 g hT
  refine ev_iload_n dX11_order_0 rfl rfl ?_
  refine ev_iconst (v := 0) dX11_order_1 (by decide) ?_
  refine ev_sipush (v := 600) dX11_order_2 (by decide) ?_
  refine ev_pS3 (d' := d - 1) dX11_order_5 rfl kX11_within lX11_80 sX11_within (Nat.le_of_ble_eq_true rfl) (by omega) (c_X11_within) ?_
  have bad : ∀ g, (sp_in x1 0 600 && sp_in x2 0 (nI m)) = false → cw_T G K g0 W g C → ev_V G d 18 4120 mX11_order (fun o g' => ∃ W2 C2, (W2 99 0 = W 99 0 ∧ W2 0 0 = W 0 0 ∧ C2.1 133 0 = 0 ∧ (((sp_in x1 0 600 && sp_in x2 0 (nI m)) = false ∧ o = .inr "java/lang/IllegalArgumentException" ∧ C2 = C) ∨ (sp_in x1 0 600 = true ∧ ∃ n, x2 = nI n ∧ n ≤ m ∧ od_oq C x1 t n o C2))) ∧ cw_T G K g0 W2 g' C2) g 31 [some (.ref (W 0 0)), some (.int x1), some (.int x2), none] [.int 0] := by
    intro g hf hT
    exact cw_need hE h4 rfl dX11_order_31 lX11_85 (Nat.le_of_ble_eq_true rfl) (by omega) (by decide) (by decide) (fun _ => ⟨W, C, ⟨rfl, rfl, h133, Or.inl ⟨hf, rfl, rfl⟩⟩, hT⟩) (fun c => absurd rfl c)
  rw [cx_within_in]
  by_cases a : sp_in x1 0 600 = true
  · refine ev_if_eq (tgt := 30) dX11_order_8 (by decide) (fun c => absurd c (by rw [a]; decide)) (fun _ => ?_)
    refine ev_iload_n dX11_order_11 rfl rfl ?_
    refine ev_iconst (v := 0) dX11_order_12 (by decide) ?_
    refine ev_aload_n dX11_order_13 rfl rfl ?_
    refine cw_getf hE hT dX11_order_14 fX11_48 (k := 0) (i := 0) rfl ob0 rfl ?_
    refine cw_geti (v2 := nI m) hE hT dX11_order_17 fX11_165 (k := 4) (i := 0) rfl ob4 rfl h28 ?_
    refine ev_pS3 (d' := d - 1) dX11_order_20 rfl kX11_within lX11_80 sX11_within (Nat.le_of_ble_eq_true rfl) (by omega) (c_X11_within) ?_
    rw [cx_within_in]
    by_cases b : sp_in x2 0 (nI m) = true
    · refine ev_if_eq (tgt := 30) dX11_order_23 (by decide) (fun c => absurd c (by rw [b]; decide)) (fun _ => ?_)
      refine ev_iconst (v := 1) dX11_order_26 (by decide) ?_
      refine ev_goto (tgt := 31) dX11_order_27 (by decide) ?_
      refine cw_need hE h4 rfl dX11_order_31 lX11_85 (Nat.le_of_ble_eq_true rfl) (by omega) (by decide) (by decide) (fun c => absurd c (by decide)) (fun _ => ?_)
      obtain ⟨n, hn, rfl⟩ := mo_vinB (by omega) b
      refine ev_aload_n dX11_order_34 rfl rfl ?_
      refine cw_getf hE hT dX11_order_35 fX11_48 (k := 0) (i := 0) rfl ob0 rfl ?_
      refine cw_call0 (d' := d - 1) hE hT dX11_order_38 rfl kX7_empty lX11_171 iX7_empty vX7_empty (k := 4) (i := 0) rfl ob4 rfl (Nat.le_of_ble_eq_true rfl) (by omega) (c_X7_empty hE) (fun g hT => ?_)
      have u0 : ∀ f x, f ≠ 28 → f ≠ 120 → f ≠ 33 → (cx_X7_empty C).1 f x = C.1 f x := fun f x a b c => by
        unfold cx_X7_empty
        rw [mo_up_ne (by assumption), mo_up_ne (by assumption), mo_up_ne (by assumption)]
      have u28 : (cx_X7_empty C).1 28 0 = 0 := by
        unfold cx_X7_empty
        rw [mo_up_ne (by decide), mo_up_ne (by decide), mo_up_at, pk_us]
      have u120 : (cx_X7_empty C).1 120 0 = 0 := by
        unfold cx_X7_empty
        rw [mo_up_ne (by decide), mo_up_at, pk_us]
      have u33 : (cx_X7_empty C).1 33 0 = -1 := by
        unfold cx_X7_empty
        rw [mo_up_at, pk_us]
      generalize hU : cx_X7_empty C = U at hT u0 u28 u120 u33
      have hUO : sp_O U = sp_O C := congrArg Int32.toNatClampNeg (u0 29 0 (by decide) (by decide) (by decide))
      have hUA : ∀ a, a < sp_A U → (U.1 63 a).toNatClampNeg < sp_P U := fun a ha => by
        have sA : sp_A U = sp_A C := congrArg Int32.toNatClampNeg (u0 62 0 (by decide) (by decide) (by decide))
        have sP : sp_P U = sp_P C := congrArg Int32.toNatClampNeg (u0 1 0 (by decide) (by decide) (by decide))
        rw [sA] at ha
        rw [sP, u0 63 a (by decide) (by decide) (by decide)]
        exact hA a ha
      have hBO := hT.B.2.2.1
      rw [hUO] at hBO
      have u133 : U.1 133 0 = 0 := (u0 133 0 (by decide) (by decide) (by decide)).trans h133
      refine ev_aload_n dX11_order_41 rfl rfl ?_
      refine cw_getf hE hT dX11_order_42 fX11_19 (k := 0) (i := 0) rfl ob0 rfl ?_
      refine cw_size (l := 2) (v := nI (sp_O C)) hE hT dX11_order_45 lX11_89 (by decide) (Nat.le_of_ble_eq_true rfl) (by omega) hBO.1 ?_
      refine ev_bipush (v := nI 10) dX11_order_48 (by decide) ?_
      by_cases z : sp_O C < 10
      · refine ev_icmp_lt (tgt := 55) dX11_order_50 (by decide) (fun _ => ?_) (fun c => absurd (nI_lt z (by omega)) c)
        refine ev_aload_n dX11_order_55 rfl rfl ?_
        refine cw_getf hE hT dX11_order_56 fX11_48 (k := 0) (i := 0) rfl ob0 rfl ?_
        refine ev_iload_n dX11_order_59 rfl rfl ?_
        refine ev_iload_n dX11_order_60 rfl rfl ?_
        refine cw_callr2 (d' := d - 1) (b := 1) (n0 := 200) hE hT dX11_order_61 rfl kX7_read lX11_174 iX7_read vX7_read (k := 4) (i := 0) rfl ob4 rfl (Nat.le_of_ble_eq_true rfl) (by omega) (c_X7_read (d := d - 1) (t := t) hE h4 (by omega) (by omega) ht (fun j hj => by rw [u0 115 j (by decide) (by decide) (by decide)]; exact htp j hj) u120 u33 u133 hUA) (by omega) (by omega) (fun v9 W2 T g q9 hT => ?_) (fun E W2 C2 g q9 _ => ?_)
        · obtain ⟨r1, r2, r3⟩ := q9
          have hTC : ∀ f x, f ∉ od_X → ¬ od_at 11 f x → T.1 f x = C.1 f x := fun f x a b => by
            simp only [od_X, List.mem_cons, List.mem_nil_iff, or_false, not_or] at a
            rw [r2 f x (fun z => by simp only [List.mem_cons, List.mem_nil_iff, or_false] at z; omega) b, u0 f x (by omega) (by omega) (by omega)]
          have e0 : W 0 0 = W2 0 0 := (r1 0 0 (by decide)).symm
          have hT28 : T.1 28 0 = 0 := by rw [r2 28 0 (by decide) (by unfold od_at; omega)]; exact u28
          cases hR : od_fo 0 (fun _ => none) (ps_os t n 12 (ps_skn t n 0)) with
          | inl e =>
            obtain ⟨f, pl⟩ := e
            rw [hR] at r3
            obtain ⟨r4, r5, r6⟩ := r3
            cases r4
            refine ev_astore_nN dX11_order_64 rfl (Nat.le_of_ble_eq_true rfl) rfl ?_
            refine ev_aload_nN dX11_order_65 rfl rfl ?_
            refine ev_ifnonnullN dX11_order_66 ?_
            refine ev_aload_n dX11_order_69 rfl rfl ?_
            rw [e0]
            refine cw_getf hE hT dX11_order_70 fX11_48 (k := 0) (i := 0) rfl ob0 rfl ?_
            refine cw_geti (v2 := nI f) hE hT dX11_order_73 fX11_178 (k := 4) (i := 0) rfl ob4 rfl r5.2.1 ?_
            refine ev_bipush (v := 10) dX11_order_76 (by decide) ?_
            refine ev_isub dX11_order_78 ?_
            refine ev_iret dX11_order_79 rfl rfl ⟨W2, T, ⟨r1 99 0 (by decide), by first | rfl | exact r1 0 0 (by decide), r6, Or.inr ⟨a, n, rfl, hn, hT28, Or.inr ⟨z, ?_⟩⟩⟩, hT⟩
            rw [hR]
            exact ⟨r5.2.2.1, r5.2.2.2.1, rfl, r5.2.2.2.2.1, hTC⟩
          | inr r =>
            rw [hR] at r3
            obtain ⟨r4, r5, r6, r7, r8, r9⟩ := r3
            cases r4
            have sO : sp_O T = sp_O C := congrArg Int32.toNatClampNeg (hTC 29 0 (by decide) (by unfold od_at; omega))
            have hTA : ∀ a, a < sp_A T → (T.1 63 a).toNatClampNeg < sp_P T := fun a ha => by
              have sA : sp_A T = sp_A C := congrArg Int32.toNatClampNeg (hTC 62 0 (by decide) (by unfold od_at; omega))
              have sP : sp_P T = sp_P C := congrArg Int32.toNatClampNeg (hTC 1 0 (by decide) (by unfold od_at; omega))
              rw [sA] at ha
              rw [sP, hTC 63 a (by decide) (by unfold od_at; omega)]
              exact hA a ha
            refine ev_astore_n dX11_order_64 rfl (Nat.le_of_ble_eq_true rfl) rfl ?_
            refine ev_aload_n dX11_order_65 rfl rfl ?_
            refine ev_ifnonnull (tgt := 80) dX11_order_66 (by decide) ?_
            refine ev_aload_n dX11_order_80 rfl rfl ?_
            rw [e0]
            refine cw_getf hE hT dX11_order_81 fX11_19 (k := 0) (i := 0) rfl ob0 rfl ?_
            refine ev_aload_n dX11_order_84 rfl rfl ?_
            refine cw_addc2 (n := sp_O C) (b := 0) (n0 := 0) hE h4 ((r1 99 0 (by decide)).trans h99) hT dX11_order_85 lX11_105 r9 hTA z sO (Nat.le_of_ble_eq_true rfl) (by omega) (by omega) (by omega) (fun q cap g hT => ?_)
            have a0 : od_Wa W2 (sp_O C) q 0 0 = W2 0 0 := (if_neg (by omega)).trans (if_neg (by omega))
            have a99 : od_Wa W2 (sp_O C) q 99 0 = W2 99 0 := (if_neg (by omega)).trans (if_neg (by omega))
            refine ev_pop dX11_order_88 rfl ?_
            refine ev_aload_n dX11_order_89 rfl rfl ?_
            rw [← a0]
            refine cw_getf hE hT dX11_order_90 fX11_19 (k := 0) (i := 0) rfl ob0 rfl ?_
            refine cw_size (l := 2) (v := nI (sp_O C + 1)) hE hT dX11_order_93 lX11_89 (by decide) (Nat.le_of_ble_eq_true rfl) (by omega) od_mv_29 ?_
            refine ev_iconst (v := 1) dX11_order_96 (by decide) ?_
            refine ev_isub dX11_order_97 ?_
            rw [show nI (sp_O C + 1) - 1 = nI (sp_O C) by rw [← nI_1]; exact Int32.add_sub_cancel _ _]
            have hne : ∀ f x, ¬ (f = 29 ∧ x = 0) → f ∉ [131, 132, 133] → ¬ od_at (sp_O C) f x → (od_mv T (sp_O C) cap).1 f x = T.1 f x := fun f x a b c => by
              simp only [List.mem_cons, List.mem_nil_iff, or_false, not_or] at b
              exact od_mv_ne a (by omega) (by omega) (by omega) c
            refine ev_iret dX11_order_98 rfl rfl ⟨_, _, ⟨a99.trans (r1 99 0 (by decide)), by first | rfl | exact a0.trans (r1 0 0 (by decide)), od_mv_133, Or.inr ⟨a, n, rfl, hn, (hne 28 0 (by omega) (by decide) (by unfold od_at; omega)).trans hT28, Or.inr ⟨z, ?_⟩⟩⟩, hT⟩
            rw [hR]
            refine ⟨rfl, (hne 33 0 (by omega) (by decide) (by unfold od_at; omega)).trans r6, od_mv_29, (od_mv_n (by omega)).trans r8, od_mv_S r7, fun f x a b c e => ?_⟩
            have a' := a
            simp only [od_X, List.mem_cons, List.mem_nil_iff, or_false, not_or] at a'
            rw [hne f x e (fun z => by simp only [List.mem_cons, List.mem_nil_iff, or_false] at z; omega) c]
            exact hTC f x a b
        · obtain ⟨-, -, r3⟩ := q9
          cases hR : od_fo 0 (fun _ => none) (ps_os t n 12 (ps_skn t n 0)) with
          | inl e => obtain ⟨f, pl⟩ := e; rw [hR] at r3; cases r3.1
          | inr r => rw [hR] at r3; cases r3.1
      · refine ev_icmp_lt (tgt := 55) dX11_order_50 (by decide) (fun c => absurd c (nI_nlt (by omega) (by omega))) (fun _ => ?_)
        refine ev_iconst (v := -1) dX11_order_53 (by decide) ?_
        refine ev_iret dX11_order_54 rfl rfl ⟨W, U, ⟨rfl, rfl, u133, Or.inr ⟨a, n, rfl, hn, u28, Or.inl ⟨by omega, rfl, u33, fun f x a b => ?_⟩⟩⟩, hT⟩
        simp only [od_X, List.mem_cons, List.mem_nil_iff, or_false, not_or] at a
        exact u0 f x (by omega) (by omega) (by omega)
    · refine ev_if_eq (tgt := 30) dX11_order_23 (by decide) (fun _ => ?_) (fun c => absurd (by rw [Bool.eq_false_iff.mpr b]; rfl) c)
      refine ev_iconst (v := 0) dX11_order_30 (by decide) ?_
      exact bad g (by rw [Bool.eq_false_iff.mpr b, Bool.and_false]) hT
  · refine ev_if_eq (tgt := 30) dX11_order_8 (by decide) (fun _ => ?_) (fun c => absurd (by rw [Bool.eq_false_iff.mpr a]; rfl) c)
    refine ev_iconst (v := 0) dX11_order_30 (by decide) ?_
    exact bad g (by rw [Bool.eq_false_iff.mpr a]; rfl) hT
end RT
