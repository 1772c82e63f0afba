section M32
/-! AN ORDER KEEPS ALL THAT HOLDS BETWEEN CALLS -/
def sp_eqO (S T : mo_S) : Prop := ∀ k, k ≠ 0 → ¬ (28 ≤ k ∧ k ≤ 41) → T.1 k = S.1 k
theorem sp_ordE.o {S T : mo_S} {O : Nat} (h : sp_ordE S T O) : sp_eqO S T := fun k h1 h2 => h.1 k h1 (by omega) (by omega) (by omega)
theorem sp_eqO.P {S T : mo_S} (h : sp_eqO S T) : sp_P T = sp_P S ∧ sp_W T = sp_W S ∧ sp_R T = sp_R S ∧ sp_M T = sp_M S ∧ sp_A T = sp_A S := by
  unfold sp_P sp_W sp_R sp_M sp_A
  rw [h 1 (by decide) (by decide), h 24 (by decide) (by decide), h 21 (by decide) (by decide), h 2 (by decide) (by decide), h 62 (by decide) (by decide)]
  exact ⟨rfl, rfl, rfl, rfl, rfl⟩
theorem sp_eqO.Z {S T : mo_S} (h : sp_eqO S T) (hZ : mo_IZ S) : mo_IZ T := by
  obtain ⟨p1, p2, p3, p4, p5⟩ := h.P
  unfold mo_IZ at hZ ⊢
  rw [p1, p2, h 8 (by decide) (by decide), h 9 (by decide) (by decide), h 10 (by decide) (by decide), h 11 (by decide) (by decide), h 12 (by decide) (by decide), h 13 (by decide) (by decide), h 14 (by decide) (by decide), h 15 (by decide) (by decide), h 16 (by decide) (by decide), h 18 (by decide) (by decide), h 59 (by decide) (by decide), h 26 (by decide) (by decide), h 58 (by decide) (by decide)]
  exact hZ
theorem sp_eqO.S {S T : mo_S} {B : Int} (h : sp_eqO S T) (hS : mo_IS B S) : mo_IS B T := by
  obtain ⟨p1, p2, p3, p4, p5⟩ := h.P
  unfold mo_IS mo_pl at hS ⊢
  rw [p3, p4, h 10 (by decide) (by decide), h 11 (by decide) (by decide), h 22 (by decide) (by decide), h 23 (by decide) (by decide)]
  exact hS
theorem sp_eqO.I {S T : mo_S} (h : sp_eqO S T) (hO : sp_O T = 10 → T.1 33 0 = -1) (hI : mo_IP S) : mo_IP T := by
  obtain ⟨p1, p2, p3, p4, p5⟩ := h.P
  unfold mo_IP at hI ⊢
  rw [p1, p3, p4, p5, h 23 (by decide) (by decide), h 63 (by decide) (by decide), h 56 (by decide) (by decide), h 55 (by decide) (by decide), h 59 (by decide) (by decide), h 60 (by decide) (by decide), h 61 (by decide) (by decide), h 53 (by decide) (by decide), h 54 (by decide) (by decide)]
  exact ⟨hI.1, hI.2.1, hI.2.2.1, hI.2.2.2.1, hI.2.2.2.2.1, hO, hI.2.2.2.2.2.2⟩
/-- orders that are as they were -/
theorem mo_J.ord0 {S T : mo_S} {F : mo_Fn} (h : mo_J S F) (hC : mo_IC S) (hO : sp_O S ≤ 10) (hE : sp_ordE S T (sp_O S)) (h29 : T.1 29 = S.1 29) (h36 : T.1 36 = S.1 36) (h37 : T.1 37 = S.1 37) : mo_J T F ∧ mo_IC T := by
  have hOT : sp_O T = sp_O S := by unfold sp_O; rw [h29]
  have h1 := h.1
  have hrg : mo_rg T := hE.rg h1 (fun i => by rw [h29]; exact h1 29 i (by decide)) (fun i => by rw [h36]; exact h1 36 i (by decide)) (fun i => by rw [h37]; exact h1 37 i (by decide))
  have hN : ∀ b, S.1 37 b = nI (S.1 37 b).toNatClampNeg ∧ (S.1 37 b).toNatClampNeg ≤ 12 := fun b => mo_rgC h1 b 12 (by decide) (by decide) (by decide)
  have oc : ∀ b k, b < sp_O S → k < 12 → T.1 38 (12 * b + k) = S.1 38 (12 * b + k) ∧ T.1 39 (12 * b + k) = S.1 39 (12 * b + k) := fun b k hb hk => hE.2.1 _ (by omega)
  have ec : ∀ j, j < 350 * sp_O S → T.1 40 j = S.1 40 j ∧ T.1 41 j = S.1 41 j := fun j hj => hE.2.2.1 j hj
  refine ⟨⟨hrg, ⟨fun b k C hb hCb hC12 hk hw => ?_, fun b k hb hk => ?_⟩, fun p hp => ?_, ?_⟩, fun b k hb hk hw => ?_⟩
  · rw [hOT] at hb
    have hk12 : k < 12 := by omega
    have eo := oc b k hb hk12
    rw [h37] at hCb
    rw [eo.1] at hw
    obtain ⟨k0, len, a1, a2⟩ := h.2.1.1 b k C hb hCb hC12 hk hw
    obtain ⟨m, len2, c1, c2, c3⟩ := hC b k hb (by rw [hCb, nI_clamp (by omega)]; exact hk) hw
    have w0 := a2 (fun _ => 0)
    have ek : k0 = 350 * b + m := by
      rw [mo_350 b (by omega) k hk12, c1, nI_add] at a1
      exact (mo_niinj (by omega) (by have := w0.1; omega) a1).symm
    have hle : len ≤ len2 := by
      rcases Nat.lt_or_ge len2 len with q | q
      · exact absurd (by rw [ek]; exact c3) (w0.2.2.2.1 len2 q)
      · exact q
    refine ⟨k0, len, by rw [eo.2]; exact a1, fun v => ?_⟩
    obtain ⟨w1, w2, w3, w4, w5⟩ := a2 v
    refine ⟨w1, w2, by rw [(ec _ (by omega)).1]; exact w3, fun j hj => by rw [(ec _ (by omega)).1]; exact w4 j hj, ?_⟩
    rw [sp_runs_congI (fun j hj => ec _ (by omega))]
    exact w5
  · rw [hOT] at hb
    rw [h37] at hk
    have hk12 : k < 12 := by have := (hN b).2; omega
    have eo := oc b k hb hk12
    rw [eo.1, eo.2]
    exact h.2.1.2 b k hb hk
  · rw [hE.1 6 (by decide) (by decide) (by decide) (by decide), hE.1 7 (by decide) (by decide) (by decide) (by decide)]
    rw [hE.o.P.1] at hp
    exact h.2.2.1 p hp
  · rw [hE.1 53 (by decide) (by decide) (by decide) (by decide), hE.1 54 (by decide) (by decide) (by decide) (by decide)]
    exact h.2.2.2
  · rw [hOT] at hb
    rw [h37] at hk
    have hk12 : k < 12 := by have := (hN b).2; omega
    have eo := oc b k hb hk12
    rw [eo.1] at hw
    obtain ⟨m, len2, c1, c2, c3⟩ := hC b k hb hk hw
    exact ⟨m, len2, by rw [eo.2]; exact c1, c2, by rw [(ec _ (by omega)).1]; exact c3⟩
/-- what the values of the formulas are behind an order -/
def sp_ordF (S : mo_S) (F : mo_Fn) (n : Nat) : mo_Fn := if sp_O S = 10 then F else match ps_os (ps_tx S) n 12 (ps_skn (ps_tx S) n 0) with
  | .inl _ => F
  | .inr l => mo_F2 F (sp_O S) l
theorem mo_I.order {S T : mo_S} {F : mo_Fn} {B : Int} {x1 : Int32} {n : Nat} {r : Option Value} (h : mo_I B S F) (hC : mo_IC S) (hx : sp_in x1 0 600 = true) (hQ : sp_ordQ S (sp_O S) n x1 r T) : mo_I B T (sp_ordF S F n) ∧ mo_IC T := by
  obtain ⟨hJ, hZ, hI, hS⟩ := h
  have hO := hJ.O.2
  unfold sp_ordF
  rcases hQ with ⟨q1, q2, q3⟩ | ⟨q1, q2, q3⟩
  · rw [if_pos q1]
    have hE : sp_ordE S T (sp_O S) := by
      rw [q3]
      refine ⟨fun k a1 a2 a3 a4 => by rw [mo_up_ne a2, mo_up_ne (by omega), mo_up_ne a1], fun i hi => ?_, fun i hi => ?_, ?_, ?_⟩
      · rw [mo_up_ne (by decide), mo_up_ne (by decide), mo_up_ne (by decide), mo_up_ne (by decide), mo_up_ne (by decide), mo_up_ne (by decide)]
        exact ⟨rfl, rfl⟩
      · rw [mo_up_ne (by decide), mo_up_ne (by decide), mo_up_ne (by decide), mo_up_ne (by decide), mo_up_ne (by decide), mo_up_ne (by decide)]
        exact ⟨rfl, rfl⟩
      · rw [mo_up_ne (by decide), mo_up_ne (by decide), mo_up_at]
      · rw [mo_up_at, mo_up_ne (by decide), mo_up_ne (by decide)]
    have e : ∀ k, k ≠ 0 → k ≠ 28 → k ≠ 30 → T.1 k = S.1 k := fun k a1 a2 a3 => by rw [q3, mo_up_ne a2, mo_up_ne a3, mo_up_ne a1]
    obtain ⟨j1, j2⟩ := hJ.ord0 hC hO hE (e 29 (by decide) (by decide) (by decide)) (e 36 (by decide) (by decide) (by decide)) (e 37 (by decide) (by decide) (by decide))
    exact ⟨⟨j1, hE.o.Z hZ, hE.o.I (fun _ => by rw [e 33 (by decide) (by decide) (by decide)]; exact hI.2.2.2.2.2.1 q1) hI, hE.o.S hS⟩, j2⟩
  · rw [if_neg (by omega)]
    cases ho : ps_os (ps_tx S) n 12 (ps_skn (ps_tx S) n 0) with
    | inl e =>
      obtain ⟨w, pl⟩ := e
      rw [ho] at q3
      obtain ⟨e1, e2, e3, e4, e5⟩ := q3
      obtain ⟨j1, j2⟩ := hJ.ord0 hC hO q2 e3 e4 e5
      exact ⟨⟨j1, q2.o.Z hZ, q2.o.I (fun a => absurd a (by unfold sp_O at q1 ⊢; rw [e3]; omega)) hI, q2.o.S hS⟩, j2⟩
    | inr l =>
      rw [ho] at q3
      obtain ⟨e1, e2, e3, e4, e5, e6⟩ := q3
      obtain ⟨j1, j2⟩ := hJ.order hC q1 q2 hx ho e3 e4 e5 e6
      exact ⟨⟨j1, q2.o.Z hZ, q2.o.I (fun _ => e2) hI, q2.o.S hS⟩, j2⟩
end M32
