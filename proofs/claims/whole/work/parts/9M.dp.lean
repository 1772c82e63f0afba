section DP
theorem sp_rowW_55 {U : mo_S} {r p q j : Nat} (hj : j < 4) : (sp_rowW U r p).1 55 (4 * q + j) = if q = r then (if j = 0 then U.1 57 p else if j = 1 then U.1 13 p else if j = 2 then U.1 10 p else U.1 9 p) else U.1 55 (4 * q + j) := by
  unfold sp_rowW
  rw [mo_up_at, mo_up_at, mo_up_at, mo_up_at, mo_up_ne (show (55 : Nat) ≠ 56 by decide)]
  by_cases e : q = r
  · subst e
    rw [if_pos rfl]
    obtain rfl | rfl | rfl | rfl : j = 0 ∨ j = 1 ∨ j = 2 ∨ j = 3 := by omega
    · rw [pk_un (by omega), pk_un (by omega), pk_un (by omega), if_pos rfl]
      exact pk_us
    · rw [pk_un (by omega), pk_un (by omega), pk_us, if_neg (by decide), if_pos rfl]
    · rw [pk_un (by omega), pk_us, if_neg (by decide), if_neg (by decide), if_pos rfl]
    · rw [pk_us, if_neg (by decide), if_neg (by decide), if_neg (by decide)]
  · rw [if_neg e, pk_un (by omega), pk_un (by omega), pk_un (by omega), pk_un (by omega)]
theorem sp_rowW_56 {U : mo_S} {r p q : Nat} : (sp_rowW U r p).1 56 q = if q = r then 1 else U.1 56 q := by
  unfold sp_rowW
  rw [mo_up_ne (by decide), mo_up_ne (by decide), mo_up_ne (by decide), mo_up_ne (by decide), mo_up_at]
  by_cases e : q = r
  · rw [e, pk_us, if_pos rfl]
  · rw [pk_un e, if_neg e]
theorem sp_stp_56 {F : mo_Fn} {S : mo_S} {n q : Nat} : (sp_stp F S n).1 56 q = if S.1 12 n = 1 ∧ q = 12 * sp_M S + n then 1 else S.1 56 q := by
  unfold sp_stp
  by_cases e : S.1 12 n = 1
  · rw [if_pos e, sp_rowW_56, sp_prints_ne (by decide)]
    by_cases e2 : q = 12 * sp_M S + n
    · rw [if_pos e2, if_pos ⟨e, e2⟩]
    · rw [if_neg e2, if_neg (fun z => e2 z.2)]
  · rw [if_neg e, if_neg (fun z => e z.1)]
theorem sp_stp_55 {F : mo_Fn} {S : mo_S} {n q j : Nat} (hj : j < 4) : (sp_stp F S n).1 55 (4 * q + j) = if S.1 12 n = 1 ∧ q = 12 * sp_M S + n then (if j = 0 then S.1 57 n else if j = 1 then (sp_prints S F n).1 13 n else if j = 2 then (sp_prints S F n).1 10 n else (sp_prints S F n).1 9 n) else S.1 55 (4 * q + j) := by
  unfold sp_stp
  by_cases e : S.1 12 n = 1
  · rw [if_pos e, sp_rowW_55 hj, sp_prints_ne (k := 55) (by decide), sp_prints_ne (k := 57) (by decide)]
    by_cases e2 : q = 12 * sp_M S + n
    · rw [if_pos e2, if_pos (show S.1 12 n = 1 ∧ q = 12 * sp_M S + n from ⟨e, e2⟩)]
    · rw [if_neg e2, if_neg (fun z : S.1 12 n = 1 ∧ q = 12 * sp_M S + n => e2 z.2)]
  · rw [if_neg e, if_neg (fun z : S.1 12 n = 1 ∧ q = 12 * sp_M S + n => e z.1)]
theorem sp_div_57 {S : mo_S} {sh : Nat → Int32} {way : Int32} {p : Nat} : ∀ n, p < n → (sp_div S sh way n).1 57 p = sh p
  | 0, h => absurd h (by omega)
  | n + 1, h => by
    have go : ∀ T : mo_S, T.1 57 = upd ((sp_div S sh way n).1 57) n (sh n) → T.1 57 p = sh p := fun T hT => by
      rw [hT]
      by_cases e : p = n
      · rw [e, pk_us]
      · rw [pk_un e]; exact sp_div_57 n (by omega)
    simp only [sp_div]
    split
    · exact go _ (by rw [mo_up_ne (by decide), mo_up_ne (by decide), mo_up_ne (by decide), mo_up_ne (by decide), mo_up_at])
    · exact go _ (by rw [mo_up_ne (by decide), mo_up_ne (by decide), mo_up_ne (by decide), mo_up_at])
theorem sp_hand_23 {S : mo_S} {P r : Nat} : ∀ n, (sp_hand S P n).1 23 r = S.1 23 r ∨ ∃ b, b < P ∧ (sp_hand S P n).1 23 r = nI b
  | 0 => Or.inl rfl
  | n + 1 => by
    have q := sp_hand_23 (S := S) (P := P) (r := r) n
    simp only [sp_hand]
    split
    · split
      · exact q
      · rename_i b hb
        have hb2 := sp_owed_lt hb
        unfold sp_give
        rw [mo_up_ne (by decide), mo_up_ne (by decide), mo_up_at]
        by_cases e : r = n
        · rw [e, pk_us]; exact Or.inr ⟨b, hb2, rfl⟩
        · rw [pk_un e]; exact q
    · exact q
/-! in the midst of a month: n papers have printed -/
def mo_kX : List Nat := [4, 9, 10, 11, 12, 13, 14, 15, 16, 17, 18, 19, 20, 23, 55, 56, 57]
def mo_km (B X : Int) (n : Nat) (S T : mo_S) (F : mo_Fn) : Prop := mo_J T F ∧ (∀ k, k ∉ mo_kX → (k < 42 ∨ 52 < k) → T.1 k = S.1 k) ∧ (∀ k i, k ≠ 4 → k ≠ 23 → k ≠ 55 → k ≠ 56 → (k < 42 ∨ 52 < k) → sp_P S ≤ i → T.1 k i = S.1 k i) ∧ (∀ r, r < sp_R S → (T.1 23 r).toInt < sp_P S) ∧ mo_ISx B X T ∧ (∀ m p, p < 12 → sp_M S < m ∨ (m = sp_M S ∧ n ≤ p) ∨ sp_P S ≤ p → T.1 56 (12 * m + p) = 0) ∧ ∀ r, T.1 56 r = 1 → 0 ≤ (T.1 55 (4 * r)).toInt
theorem mo_K.km {B : Int} {S : mo_S} {F : mo_Fn} (h : mo_K B S F) : mo_km B (320000 * sp_M S) 0 S S F := by
  obtain ⟨⟨h1, h2, h3, h4⟩, h5⟩ := h
  exact ⟨h1, fun _ _ _ => rfl, fun _ _ _ _ _ _ _ _ => rfl, h3.1, h4, fun m p hp hm => h3.2.2.1 m p hp (by omega), h3.2.2.2.1⟩
section KM
variable {B X : Int} {n : Nat} {S T U : mo_S} {F : mo_Fn}
theorem mo_km.P (h : mo_km B X n S T F) : sp_P T = sp_P S := sp_P_cg (h.2.1 1 (by decide) (by decide))
theorem mo_km.R (h : mo_km B X n S T F) : sp_R T = sp_R S := sp_R_cg (h.2.1 21 (by decide) (by decide))
theorem mo_km.M (h : mo_km B X n S T F) : sp_M T = sp_M S := by unfold sp_M; rw [h.2.1 2 (by decide) (by decide)]
theorem mo_km.cg (h : mo_km B X n S T F) (hJ : mo_J U F) (hU : ∀ k, k ≠ 4 → k ≠ 12 → (k < 42 ∨ 52 < k) → U.1 k = T.1 k) (hz : ∀ i, sp_P S ≤ i → U.1 12 i = T.1 12 i) : mo_km B X n S U F := by
  obtain ⟨h1, h2, h3, h4, h5, h6, h7⟩ := h
  have c4 : ∀ k, k ∉ mo_kX → k ≠ 4 ∧ k ≠ 12 := fun k hk => ⟨fun e => hk (by rw [e]; decide), fun e => hk (by rw [e]; decide)⟩
  refine ⟨hJ, fun k hk hk2 => by rw [hU k (c4 k hk).1 (c4 k hk).2 hk2]; exact h2 k hk hk2, fun k i a1 a2 a3 a4 a5 hi => ?_, by rw [hU 23 (by decide) (by decide) (by decide)]; exact h4, h5.cg (fun k hk => hU k (by omega) (by omega) (by omega)), by rw [hU 56 (by decide) (by decide) (by decide)]; exact h6, by rw [hU 56 (by decide) (by decide) (by decide), hU 55 (by decide) (by decide) (by decide)]; exact h7⟩
  by_cases e : k = 12
  · subst e
    rw [hz i hi]
    exact h3 12 i a1 a2 a3 a4 a5 hi
  · rw [hU k a1 e a5]
    exact h3 k i a1 a2 a3 a4 a5 hi
theorem mo_km.eqM (h : mo_km B X n S T F) (e : sp_eqM U T) : mo_km B X n S U F := h.cg (h.1.cong e) (fun k _ _ hk => e k hk) (fun i _ => by rw [e 12 (by decide)])
theorem mo_K.km0 (h : mo_K B S F) : mo_km B (320000 * sp_M S) 0 S (sp_adm0 S) F := by
  refine h.km.cg h.1.1.adm0 (fun k h4 h12 _ => sp_adm0_ne ⟨h4, h12⟩) (fun i hi => ?_)
  unfold sp_adm0
  rw [sp_P_cg (T := sp_gr S (sp_A S)) (C := S) (sp_gr_ne (by decide) _), sp_adm_z _ hi, sp_gr_ne (by decide)]
theorem mo_km.divs (h : mo_km B X 0 S T F) (hX : 0 ≤ X ∧ X ≤ 1000000000) : mo_km B (X + 160000) 0 S (sp_divides T F) F ∧ ∀ p, p < sp_P S → 0 ≤ ((sp_divides T F).1 57 p).toInt := by
  have eP := h.P
  have hP := h.1.P.2
  have hL := h.1.L.2
  have hJ := h.1.div (sp_shN T F (sp_X12_much T 11)) (sp_X12_much T 11) (sp_P T)
  obtain ⟨s, s1, s2, -⟩ := h.1.shs (sp_X12_much T 11)
  have e : sp_shN T F (sp_X12_much T 11) = fun p => nI (s p) := funext s1
  obtain ⟨h1, h2, h3, h4, h5, h6, h7⟩ := h
  have c4 : ∀ k, k ∉ mo_kX → k ≠ 57 ∧ k ≠ 11 ∧ k ≠ 9 ∧ k ≠ 14 ∧ k ≠ 15 := fun k hk => ⟨fun e => hk (by rw [e]; decide), fun e => hk (by rw [e]; decide), fun e => hk (by rw [e]; decide), fun e => hk (by rw [e]; decide), fun e => hk (by rw [e]; decide)⟩
  refine ⟨⟨hJ, fun k hk hk2 => by rw [sp_divides_ne (c4 k hk)]; exact h2 k hk hk2, fun k i a1 a2 a3 a4 a5 hi => ?_, by rw [sp_divides_ne (by decide)]; exact h4, ?_, by rw [sp_divides_ne (by decide)]; exact h6, by rw [sp_divides_ne (by decide), sp_divides_ne (by decide)]; exact h7⟩, fun p hp => ?_⟩
  · unfold sp_divides
    rw [sp_div_z _ (by omega)]
    exact h3 k i a1 a2 a3 a4 a5 hi
  · unfold sp_divides
    rw [e]
    exact (h5.div (s := s) hX (sp_P T) hP (by omega)).le (by omega)
  · have q := pt_sm_at (w := s) (j := p) (n := sp_P T) (by omega)
    unfold sp_divides
    rw [sp_div_57 _ (by omega), s1 p, nI_toInt (by omega)]
    omega
theorem mo_km.hands (h : mo_km B X 0 S T F) (hX : 0 ≤ X ∧ X ≤ 500000000) (hB : B ≤ 2000000000) : mo_km B (X + 160000) 0 S (sp_hand T (sp_P T) (sp_R T)) F := by
  have eP := h.P
  have hP := h.1.P.2
  have hR := h.1.R.2
  obtain ⟨h1, h2, h3, h4, h5, h6, h7⟩ := h
  have c4 : ∀ k, k ∉ mo_kX → k ≠ 10 ∧ k ≠ 11 ∧ k ≠ 23 := fun k hk => ⟨fun e => hk (by rw [e]; decide), fun e => hk (by rw [e]; decide), fun e => hk (by rw [e]; decide)⟩
  refine ⟨h1.hand hP _, fun k hk hk2 => by rw [sp_hand_ne (c4 k hk)]; exact h2 k hk hk2, fun k i a1 a2 a3 a4 a5 hi => ?_, fun r hr => ?_, (h5.hand h1 hP hX hB (sp_R T) (Nat.le_refl _)).le (by omega), by rw [sp_hand_ne (by decide)]; exact h6, by rw [sp_hand_ne (by decide), sp_hand_ne (by decide)]; exact h7⟩
  · rw [sp_hand_z a2 (by omega)]
    exact h3 k i a1 a2 a3 a4 a5 hi
  · rcases sp_hand_23 (S := T) (P := sp_P T) (r := r) (sp_R T) with q | ⟨b, hb, q⟩
    · rw [q]; exact h4 r hr
    · rw [q, nI_toInt (by omega)]; omega
theorem mo_km.stp (h : mo_km B X n S T F) (hB : B ≤ 100000000) (hn : n < sp_P S) (h57 : 0 ≤ (T.1 57 n).toInt) : mo_km B X (n + 1) S (sp_stp F T n) F := by
  have eP := h.P
  have eM := h.M
  have hP := h.1.P.2
  obtain ⟨h1, h2, h3, h4, h5, h6, h7⟩ := h
  have c4 : ∀ k, k ∉ mo_kX → k ≠ 9 ∧ k ≠ 10 ∧ k ≠ 13 ∧ ¬ (16 ≤ k ∧ k ≤ 20) ∧ k ≠ 55 ∧ k ≠ 56 := fun k hk => by
    have q : ∀ f, f ∈ mo_kX → k ≠ f := fun f hf e => hk (by rw [e]; exact hf)
    have a1 := q 9 (by decide)
    have a2 := q 10 (by decide)
    have a3 := q 13 (by decide)
    have a4 := q 16 (by decide)
    have a5 := q 17 (by decide)
    have a6 := q 18 (by decide)
    have a7 := q 19 (by decide)
    have a8 := q 20 (by decide)
    have a9 := q 55 (by decide)
    have a10 := q 56 (by decide)
    omega
  refine ⟨h1.step n, fun k hk hk2 => by rw [sp_stp_ne (c4 k hk)]; exact h2 k hk hk2, fun k i a1 a2 a3 a4 a5 hi => ?_, by rw [sp_stp_ne (by decide)]; exact h4, h5.stp h1 hB (by omega), fun m p hp hm => ?_, fun r hr => ?_⟩
  · rw [sp_stp_z ⟨a3, a4⟩ (by omega)]
    exact h3 k i a1 a2 a3 a4 a5 hi
  · rw [sp_stp_56, if_neg (fun z => by have := z.2; omega)]
    exact h6 m p hp (by omega)
  · rw [sp_stp_56] at hr
    have q := sp_stp_55 (F := F) (S := T) (n := n) (q := r) (j := 0) (by decide)
    rw [Nat.add_zero] at q
    rw [q]
    by_cases e : T.1 12 n = 1 ∧ r = 12 * sp_M T + n
    · rw [if_pos e, if_pos rfl]; exact h57
    · rw [if_neg e] at hr ⊢
      exact h7 r hr
theorem mo_km.prR (h : mo_km B X 0 S T F) (hB : B ≤ 100000000) (h57 : ∀ p, p < sp_P S → 0 ≤ (T.1 57 p).toInt) : ∀ {n U}, n ≤ sp_P S → sp_prR F T n U → mo_km B X n S U F
  | 0, U, _, q => h.eqM q
  | n + 1, U, hn, q => by
    obtain ⟨V, q1, q2⟩ := q
    refine ((mo_km.prR h hB h57 (by omega) q1).stp hB (by omega) ?_).eqM q2
    rw [sp_prR_ne (by decide) q1]
    exact h57 n (by omega)
theorem sp_clr_at {S : mo_S} {j : Nat} : ∀ n, j < n → (sp_clr S n).1 58 j = 0
  | 0, h => absurd h (by omega)
  | n + 1, h => by
    simp only [sp_clr]
    rw [mo_up_at]
    by_cases e : j = n
    · rw [e, pk_us]
    · rw [pk_un e]; exact sp_clr_at n (by omega)
theorem sp_end_ne {k : Nat} (h2 : k ≠ 2) (h58 : k ≠ 58) : (sp_end S).1 k = S.1 k := by
  unfold sp_end
  rw [mo_up_ne h2, sp_clr_ne h58]
theorem sp_end_58 {j : Nat} (h : j < 144) : (sp_end S).1 58 j = 0 := by
  unfold sp_end
  rw [mo_up_ne (by decide), sp_clr_at _ h]
theorem mo_km.end_ (h : mo_km B X (sp_P S) S T F) (hS : mo_K B S F) (hM : sp_M S < 600) (hX : X ≤ 320000 * (sp_M S + 1 : Nat)) : mo_K B (sp_end T) F := by
  have eM := h.M
  obtain ⟨j1, j2, j3⟩ := h.1.end_ (by omega)
  obtain ⟨h1, h2, h3, h4, h5, h6, h7⟩ := h
  obtain ⟨⟨g1, g2, g3, g4⟩, g5⟩ := hS
  have e := fun k a b => sp_end_ne (S := T) (k := k) a b
  have n : ∀ k, k ∉ mo_kX → (k < 42 ∨ 52 < k) → k ≠ 2 → k ≠ 58 → (sp_end T).1 k = S.1 k := fun k a b c d => (e k c d).trans (h2 k a b)
  have n1 := n 1 (by decide) (by decide) (by decide) (by decide)
  have n21 := n 21 (by decide) (by decide) (by decide) (by decide)
  have n24 := n 24 (by decide) (by decide) (by decide) (by decide)
  have n26 := n 26 (by decide) (by decide) (by decide) (by decide)
  have n59 := n 59 (by decide) (by decide) (by decide) (by decide)
  have eP : sp_P (sp_end T) = sp_P S := sp_P_cg n1
  have eR : sp_R (sp_end T) = sp_R S := sp_R_cg n21
  have eW : sp_W (sp_end T) = sp_W S := by unfold sp_W; rw [n24]
  have eA : sp_A (sp_end T) = sp_A S := sp_A_cg (n 62 (by decide) (by decide) (by decide) (by decide))
  have eO : sp_O (sp_end T) = sp_O S := sp_O_cg (n 29 (by decide) (by decide) (by decide) (by decide))
  have eM2 : sp_M (sp_end T) = sp_M S + 1 := by
    show ((sp_end T).1 2 0).toNatClampNeg = _
    rw [j3, nI_clamp (by omega), eM]
  have z : ∀ k i, k ≠ 4 → k ≠ 23 → k ≠ 55 → k ≠ 56 → (k < 42 ∨ 52 < k) → k ≠ 2 → k ≠ 58 → sp_P S ≤ i → (sp_end T).1 k i = S.1 k i := fun k i a1 a2 a3 a4 a5 c d hi => by rw [e k c d]; exact h3 k i a1 a2 a3 a4 a5 hi
  refine ⟨⟨j1, ⟨fun p hp => ?_, fun x p hp hx => ?_, fun p q hp hq _ => sp_end_58 (by omega)⟩, ⟨fun r hr => ?_, fun a ha => ?_, fun m p hp hm => ?_, ?_, ?_, ?_, ?_, ?_⟩, ?_⟩, g5.cg (fun a ha => ?_)⟩
  · rw [eP] at hp
    rw [z 8 p (by decide) (by decide) (by decide) (by decide) (by decide) (by decide) (by decide) hp, z 9 p (by decide) (by decide) (by decide) (by decide) (by decide) (by decide) (by decide) hp, z 10 p (by decide) (by decide) (by decide) (by decide) (by decide) (by decide) (by decide) hp, z 11 p (by decide) (by decide) (by decide) (by decide) (by decide) (by decide) (by decide) hp, z 12 p (by decide) (by decide) (by decide) (by decide) (by decide) (by decide) (by decide) hp, z 13 p (by decide) (by decide) (by decide) (by decide) (by decide) (by decide) (by decide) hp, z 14 p (by decide) (by decide) (by decide) (by decide) (by decide) (by decide) (by decide) hp, z 15 p (by decide) (by decide) (by decide) (by decide) (by decide) (by decide) (by decide) hp, z 16 p (by decide) (by decide) (by decide) (by decide) (by decide) (by decide) (by decide) hp, z 18 p (by decide) (by decide) (by decide) (by decide) (by decide) (by decide) (by decide) hp, z 59 p (by decide) (by decide) (by decide) (by decide) (by decide) (by decide) (by decide) hp]
    exact g2.1 p hp
  · rw [eP, eW] at hx
    rw [n26]
    exact g2.2.1 x p hp hx
  · rw [eR] at hr
    rw [eP, e 23 (by decide) (by decide)]
    exact h4 r hr
  · rw [eA] at ha
    rw [eP, n 63 (by decide) (by decide) (by decide) (by decide)]
    exact g3.2.1 a ha
  · rw [eM2, eP] at hm
    rw [e 56 (by decide) (by decide)]
    exact h6 m p hp (by omega)
  · rw [e 56 (by decide) (by decide), e 55 (by decide) (by decide)]
    exact h7
  · rw [n59, n 60 (by decide) (by decide) (by decide) (by decide), n 61 (by decide) (by decide) (by decide) (by decide)]
    exact g3.2.2.2.2.1
  · rw [eO, n 33 (by decide) (by decide) (by decide) (by decide)]
    exact g3.2.2.2.2.2.1
  · rw [n 53 (by decide) (by decide) (by decide) (by decide)]
    exact g3.2.2.2.2.2.2.1
  · rw [n 54 (by decide) (by decide) (by decide) (by decide)]
    exact g3.2.2.2.2.2.2.2
  · have q := h5.le hX
    unfold mo_ISx mo_pl at q
    unfold mo_IS mo_pl
    rw [eM2, eR, e 10 (by decide) (by decide), e 11 (by decide) (by decide), e 22 (by decide) (by decide), e 23 (by decide) (by decide)]
    rw [show sp_R T = sp_R S from sp_R_cg (h2 21 (by decide) (by decide))] at q
    exact q
  · have c : ∀ a, a ∈ [29, 37, 38, 39, 40] → a ∉ mo_kX ∧ (a < 42 ∨ 52 < a) ∧ a ≠ 2 ∧ a ≠ 58 := by decide
    obtain ⟨c1, c2, c3, c4⟩ := c a ha
    exact n a c1 c2 c3 c4
theorem mo_K.goes {S2 : mo_S} (h : mo_K B S F) (hB : B ≤ 100000000) (hM : sp_M S < 600) (hg : sp_goesR S F S2) : mo_K B S2 F := by
  obtain ⟨T2, T3, q1, q2, q3⟩ := hg
  obtain ⟨d1, d2⟩ := h.km0.divs (by omega)
  have d3 := (d1.eqM q1).hands (by omega) (by omega)
  have d4 := d3.prR hB (fun p hp => by rw [sp_hand_ne (by decide), q1 57 (by decide)]; exact d2 p hp) (Nat.le_refl _) q2
  exact (d4.end_ h hM (by omega)).congM q3
end KM
end DP
