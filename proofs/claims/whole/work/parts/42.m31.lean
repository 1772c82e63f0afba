section M31
/-! A NEW ORDER AND WHAT HOLDS BETWEEN CALLS -/
/-- every formula ends within its order's codes -/
def mo_IC (S : mo_S) : Prop := ∀ b n, b < sp_O S → n < (S.1 37 b).toNatClampNeg → (S.1 38 (12 * b + n) = 0 ∨ S.1 38 (12 * b + n) = 4) → ∃ m len : Nat, S.1 39 (12 * b + n) = nI m ∧ m + len < 350 ∧ S.1 40 (350 * b + m + len) = 12
/-- the values of formulas, with those of a new order -/
def mo_F2 (F : mo_Fn) (O : Nat) (l : List (Int32 × Int32 × List (Int32 × Int32) × List Int32 × ps_F)) : mo_Fn := fun c v => if 12 * O ≤ c then (match l[c - 12 * O]? with
  | some q => q.2.2.2.2 v
  | none => 0) else F c v
theorem mo_350 : ∀ b, b < 10 → ∀ n, n < 12 → 350 * (nI (12 * b + n) / 12) = nI (350 * b) := by decide +kernel
theorem mo_niinj {a b : Nat} (ha : a < 2147483648) (hb : b < 2147483648) (h : nI a = nI b) : a = b := by
  have q := congrArg Int32.toNatClampNeg h
  rw [nI_clamp ha, nI_clamp hb] at q
  exact q
theorem sp_runs_congI {S T : mo_S} {v : Int32 → Int32} : ∀ {n k : Nat} {st : List Int32}, (∀ j, j < n → T.1 40 (k + j) = S.1 40 (k + j) ∧ T.1 41 (k + j) = S.1 41 (k + j)) → sp_runs T v n k st = sp_runs S v n k st
  | 0, k, st, _ => rfl
  | n + 1, k, st, h => by
    have h0 := h 0 (by omega)
    rw [Nat.add_zero] at h0
    unfold sp_runs
    rw [h0.1, h0.2]
    cases sp_step v (S.1 40 k) (S.1 41 k) st with
    | none => rfl
    | some s =>
      dsimp only
      refine sp_runs_congI (fun j hj => ?_)
      have := h (j + 1) (by omega)
      rw [show k + 1 + j = k + (j + 1) by omega]
      exact this
theorem mo_fullI {k : Nat} (h : mo_lo k = -2147483648 ∧ mo_hi k = 2147483647) (x : Int32) : mo_lo k ≤ x.toInt ∧ x.toInt ≤ mo_hi k := by
  have h1 := Int32.le_toInt x
  have h2 := Int32.toInt_lt x
  rw [h.1, h.2]
  omega
theorem mo_full_is : ∀ k, 30 ≤ k → k ≤ 41 → k ≠ 36 → k ≠ 37 → mo_lo k = -2147483648 ∧ mo_hi k = 2147483647 := by
  intro k h1 h2 h3 h4
  obtain h | h | h | h | h | h | h | h | h | h : k = 30 ∨ k = 31 ∨ k = 32 ∨ k = 33 ∨ k = 34 ∨ k = 35 ∨ k = 38 ∨ k = 39 ∨ k = 40 ∨ k = 41 := by omega
  all_goals subst h; decide
theorem sp_in_to {x : Int32} {M : Nat} (hM : M < 2147483648) (h : sp_in x 0 (nI M) = true) : 0 ≤ x.toInt ∧ x.toInt ≤ M := by
  have h2 := of_decide_eq_true h
  have h3 := Int32.le_iff_toInt_le.mp h2.1
  have h4 := Int32.le_iff_toInt_le.mp h2.2
  rw [nI_toInt hM] at h4
  exact ⟨h3, h4⟩
/-- bounds, of a state that an order left -/
theorem sp_ordE.rg {S T : mo_S} {O : Nat} (h : mo_rg S) (hE : sp_ordE S T O) (h29 : ∀ i, mo_lo 29 ≤ (T.1 29 i).toInt ∧ (T.1 29 i).toInt ≤ mo_hi 29) (h36 : ∀ i, mo_lo 36 ≤ (T.1 36 i).toInt ∧ (T.1 36 i).toInt ≤ mo_hi 36) (h37 : ∀ i, mo_lo 37 ≤ (T.1 37 i).toInt ∧ (T.1 37 i).toInt ≤ mo_hi 37) : mo_rg T := by
  intro k i hk
  obtain ⟨e1, e2, e3, e4, e5⟩ := hE
  by_cases q0 : k = 0
  · subst q0; exact mo_fullI (by decide) _
  by_cases q28 : k = 28
  · subst q28
    rw [e5]
    by_cases qi : i = 0
    · subst qi; rw [pk_us]; decide
    · rw [pk_un (by omega)]; exact h 28 i hk
  by_cases q29 : k = 29
  · subst q29; exact h29 i
  by_cases q36 : k = 36
  · subst q36; exact h36 i
  by_cases q37 : k = 37
  · subst q37; exact h37 i
  by_cases qq : 30 ≤ k ∧ k ≤ 41
  · exact mo_fullI (mo_full_is k qq.1 qq.2 q36 q37) _
  · rw [e1 k q0 q28 q29 qq]; exact h k i hk
theorem mo_J.order {S T : mo_S} {F : mo_Fn} {x1 : Int32} {n p : Nat} {t : Nat → Nat} {l : List (Int32 × Int32 × List (Int32 × Int32) × List Int32 × ps_F)} (h : mo_J S F) (hC : mo_IC S) (hO : sp_O S < 10) (hE : sp_ordE S T (sp_O S)) (hx : sp_in x1 0 600 = true) (hl : ps_os t n 12 p = .inr l) (h29 : T.1 29 = upd (S.1 29) 0 (nI (sp_O S + 1))) (h36 : T.1 36 = upd (S.1 36) (sp_O S) x1) (h37 : T.1 37 = upd (S.1 37) (sp_O S) (nI l.length)) (hW : ps_LW T (sp_O S) 0 0 l) : mo_J T (mo_F2 F (sp_O S) l) ∧ mo_IC T := by
  have hlen := ps_os_len hl
  have hok := ps_os_ok hl
  have hOT : sp_O T = sp_O S + 1 := by
    unfold sp_O
    rw [h29, pk_us, nI_clamp (by omega)]
    rfl
  have h1 := h.1
  have hrg : mo_rg T := by
    refine hE.rg h1 (fun i => ?_) (fun i => ?_) (fun i => ?_)
    · rw [h29]
      by_cases qi : i = 0
      · subst qi; rw [pk_us, nI_toInt (by omega)]; show (0 : Int) ≤ _ ∧ _ ≤ (10 : Int); omega
      · rw [pk_un (by omega)]; exact h1 29 i (by decide)
    · rw [h36]
      by_cases qi : i = sp_O S
      · subst qi; rw [pk_us]; exact sp_in_to (M := 600) (by decide) hx
      · rw [pk_un (by omega)]; exact h1 36 i (by decide)
    · rw [h37]
      by_cases qi : i = sp_O S
      · subst qi; rw [pk_us, nI_toInt (by omega)]; show (0 : Int) ≤ _ ∧ _ ≤ (12 : Int); omega
      · rw [pk_un (by omega)]; exact h1 37 i (by decide)
  -- the cells of older orders
  have hN : ∀ b, S.1 37 b = nI (S.1 37 b).toNatClampNeg ∧ (S.1 37 b).toNatClampNeg ≤ 12 := fun b => mo_rgC h1 b 12 (by decide) (by decide) (by decide)
  have old : ∀ b, b < sp_O S → T.1 37 b = S.1 37 b := fun b hb => by rw [h37, pk_un (by omega)]
  have oc : ∀ b k, b < sp_O S → k < 12 → T.1 38 (12 * b + k) = S.1 38 (12 * b + k) ∧ T.1 39 (12 * b + k) = S.1 39 (12 * b + k) := fun b k hb hk => hE.2.1 _ (by omega)
  -- what is new
  have new : ∀ k, k < l.length → ∃ q cn, l[k]? = some q ∧ ps_okC q ∧ cn + q.2.2.1.length ≤ 300 ∧ T.1 38 (12 * sp_O S + k) = q.1 ∧ T.1 39 (12 * sp_O S + k) = (if q.1 = 0 ∨ q.1 = 4 then nI cn else q.2.1) ∧ ∀ j, j < q.2.2.1.length → T.1 40 (350 * sp_O S + cn + j) = (q.2.2.1.getD j (0, 0)).1 ∧ T.1 41 (350 * sp_O S + cn + j) = (q.2.2.1.getD j (0, 0)).2 := fun k hk => by
    have e : l[k]? = some l[k] := List.getElem?_eq_getElem hk
    obtain ⟨cn, a1, a2, a3, a4⟩ := hW.at e
    rw [Nat.zero_add] at a2 a3
    exact ⟨l[k], cn, e, hok _ (List.getElem_mem _), a1, a2, a3, a4⟩
  have hcl : (T.1 37 (sp_O S)).toNatClampNeg = l.length := by rw [h37, pk_us, nI_clamp (by omega)]
  refine ⟨⟨hrg, ⟨fun b k C hb hCb hC12 hk hw => ?_, fun b k hb hk => ?_⟩, fun p hp => ?_, ?_⟩, fun b k hb hk hw => ?_⟩
  · by_cases qb : b = sp_O S
    · subst qb
      have eC : C = l.length := by rw [← hcl, hCb, nI_clamp (by omega)]
      obtain ⟨q, cn, e1, e2, e3, e4, e5, e6⟩ := new k (by omega)
      rw [e4] at hw
      obtain ⟨-, L0, hL, ho⟩ := e2.resolve_right (fun x => x.1 hw)
      rw [if_pos hw] at e5
      refine ⟨350 * sp_O S + cn, L0.length, ?_, fun v => ?_⟩
      · rw [mo_350 _ hO _ (by omega), e5, nI_add]
      · have := ps_wf hO e3 hL ho e6 v
        unfold mo_F2
        rw [if_pos (by omega), show 12 * sp_O S + k - 12 * sp_O S = k by omega, e1]
        exact this
    · have hb2 : b < sp_O S := by omega
      have hk12 : k < 12 := by omega
      have eo := oc b k hb2 hk12
      rw [old b hb2] at hCb
      rw [eo.1] at hw
      obtain ⟨k0, len, a1, a2⟩ := h.2.1.1 b k C hb2 hCb hC12 hk hw
      obtain ⟨m, len2, c1, c2, c3⟩ := hC b k hb2 (by rw [hCb, nI_clamp (by omega)]; exact hk) hw
      have w0 := a2 (fun _ => 0)
      have ek : k0 = 350 * b + m := by
        rw [mo_350 b (by omega) k hk12, c1, nI_add] at a1
        exact (mo_niinj (by omega) (by have := w0.1; omega) a1).symm
      have hle : len ≤ len2 := by
        rcases Nat.lt_or_ge len2 len with q | q
        · exact absurd (by rw [ek]; exact c3) (w0.2.2.2.1 len2 q)
        · exact q
      have ec : ∀ j, j < 350 * sp_O S → T.1 40 j = S.1 40 j ∧ T.1 41 j = S.1 41 j := fun j hj => hE.2.2.1 j hj
      refine ⟨k0, len, by rw [eo.2]; exact a1, fun v => ?_⟩
      obtain ⟨w1, w2, w3, w4, w5⟩ := a2 v
      unfold mo_F2
      rw [if_neg (by omega)]
      refine ⟨w1, w2, by rw [(ec _ (by omega)).1]; exact w3, fun j hj => by rw [(ec _ (by omega)).1]; exact w4 j hj, ?_⟩
      rw [sp_runs_congI (fun j hj => ec _ (by omega))]
      exact w5
  · by_cases qb : b = sp_O S
    · subst qb
      rw [hcl] at hk
      obtain ⟨q, cn, e1, e2, e3, e4, e5, e6⟩ := new k hk
      rw [e4, e5]
      rcases e2 with e2 | e2
      · exact Or.inl e2.1
      · rw [if_neg e2.1]; exact e2.2.1
    · have hb2 : b < sp_O S := by omega
      rw [old b hb2] at hk
      have hk12 : k < 12 := by have := (hN b).2; omega
      have eo := oc b k hb2 hk12
      rw [eo.1, eo.2]
      exact h.2.1.2 b k hb2 hk
  · rw [hE.1 6 (by decide) (by decide) (by decide) (by decide), hE.1 7 (by decide) (by decide) (by decide) (by decide)]
    refine h.2.2.1 p ?_
    unfold sp_P at hp ⊢
    rw [hE.1 1 (by decide) (by decide) (by decide) (by decide)] at hp
    exact hp
  · rw [hE.1 53 (by decide) (by decide) (by decide) (by decide), hE.1 54 (by decide) (by decide) (by decide) (by decide)]
    exact h.2.2.2
  · by_cases qb : b = sp_O S
    · subst qb
      rw [hcl] at hk
      obtain ⟨q, cn, e1, e2, e3, e4, e5, e6⟩ := new k hk
      rw [e4] at hw
      obtain ⟨-, L0, hL, ho⟩ := e2.resolve_right (fun x => x.1 hw)
      rw [if_pos hw] at e5
      have hlen : q.2.2.1.length = L0.length + 1 := by rw [hL, List.length_append]; rfl
      refine ⟨cn, L0.length, e5, by omega, ?_⟩
      have := (e6 L0.length (by omega)).1
      rw [hL, ps_gd_r (Nat.le_refl _), Nat.sub_self] at this
      exact this
    · have hb2 : b < sp_O S := by omega
      rw [old b hb2] at hk
      have hk12 : k < 12 := by have := (hN b).2; omega
      have eo := oc b k hb2 hk12
      rw [eo.1] at hw
      obtain ⟨m, len2, c1, c2, c3⟩ := hC b k hb2 hk hw
      exact ⟨m, len2, by rw [eo.2]; exact c1, c2, by rw [(hE.2.2.1 _ (by omega)).1]; exact c3⟩
end M31
