section M30
/-! A CLAUSE THAT WAS READ -/
def ps_okC (q : Int32 × Int32 × List (Int32 × Int32) × List Int32 × ps_F) : Prop := ((q.1 = 0 ∨ q.1 = 4) ∧ ∃ L0, q.2.2.1 = L0 ++ [(12, 0)] ∧ ps_okL 43 L0 q.2.2.2.1 q.2.2.2.2) ∨ (¬ (q.1 = 0 ∨ q.1 = 4) ∧ mo_tell q.1 q.2.1 ∧ q.2.2.1 = [])
theorem ps_ce_ok {t : Nat → Nat} {n h h2 : Nat} {w m : Int32} {L : List (Int32 × Int32)} {C : List Int32} {F : ps_F} {q : Int32 × Int32 × List (Int32 × Int32) × List Int32 × ps_F} (hq : ps_okC (w, m, L, C, F)) (e : ps_ce t n h w m L C F = .inr (h2, q)) : ps_okC q := by
  unfold ps_ce at e
  split at e
  · cases e; exact hq
  · cases e
theorem ps_cf_ok {t : Nat → Nat} {n h h2 : Nat} {w : Int32} {q : Int32 × Int32 × List (Int32 × Int32) × List Int32 × ps_F} (hw : w = 0 ∨ w = 4) (e : ps_cf t n w h = .inr (h2, q)) : ps_okC q := by
  unfold ps_cf at e
  cases hs : ps_sum t n 8 h with
  | inl q => rw [hs] at e; cases e
  | inr r =>
    obtain ⟨h9, L, C, F⟩ := r
    rw [hs] at e
    exact ps_ce_ok (Or.inl ⟨hw, L, rfl, ps_ok_sum 8 h _ _ _ _ hs⟩) e
theorem ps_cg_ok {t : Nat → Nat} {n h h2 lo hi : Nat} {w : Int32} {q : Int32 × Int32 × List (Int32 × Int32) × List Int32 × ps_F} (hw : ¬ (w = 0 ∨ w = 4)) (ht : ∀ m, lo ≤ m → m ≤ hi → mo_tell w (nI m)) (e : ps_cg t n w lo hi h = .inr (h2, q)) : ps_okC q := by
  unfold ps_cg at e
  split at e
  · split at e
    · cases e
    · rename_i hm
      exact ps_ce_ok (Or.inr ⟨hw, ht _ (by omega) (by omega), rfl⟩) e
  · cases e
theorem ps_cl_ok {t : Nat → Nat} {n p h : Nat} {q : Int32 × Int32 × List (Int32 × Int32) × List Int32 × ps_F} (e : ps_cl t n p = .inr (h, q)) : ps_okC q := by
  unfold ps_cl at e
  cases hf : ps_fnd t n p ps_cn 10 with
  | none => rw [hf] at e; cases e
  | some k =>
    rw [hf] at e
    have hk := (ps_fnd_lt hf).1
    obtain hk | hk | hk | hk | hk | hk | hk | hk | hk | hk : k = 0 ∨ k = 1 ∨ k = 2 ∨ k = 3 ∨ k = 4 ∨ k = 5 ∨ k = 6 ∨ k = 7 ∨ k = 8 ∨ k = 9 := by omega
    · subst hk; exact ps_cf_ok (Or.inl rfl) e
    · subst hk
      try dsimp only at e
      cases hq : ps_fnd t n (ps_skn t n (p + 5)) ps_kn 3 with
      | none => rw [hq] at e; cases e
      | some j =>
        rw [hq] at e
        have hj := (ps_fnd_lt hq).1
        refine ps_cg_ok ?_ (fun m h1 h2 => Or.inr (Or.inl ⟨?_, m, rfl, h1, h2⟩)) e
        · have : ∀ k, k < 3 → ¬ (1 + nI k = 0 ∨ 1 + nI k = 4) := by decide
          exact this j hj
        · have : ∀ k, k < 3 → (1 + nI k = 1 ∨ 1 + nI k = 2 ∨ 1 + nI k = 3) := by decide
          exact this j hj
    · subst hk; exact ps_cf_ok (Or.inr rfl) e
    · subst hk; exact ps_cg_ok (w := nI 5) (lo := 0) (hi := 9999) (by decide) (fun m h1 h2 => Or.inr (Or.inr (Or.inl ⟨Or.inl rfl, m, rfl, h2⟩))) e
    · subst hk; exact ps_cg_ok (w := nI 6) (lo := 0) (hi := 9999) (by decide) (fun m h1 h2 => Or.inr (Or.inr (Or.inl ⟨Or.inr (Or.inl rfl), m, rfl, h2⟩))) e
    · subst hk; exact ps_cg_ok (w := nI 7) (lo := 0) (hi := 100) (by decide) (fun m h1 h2 => Or.inr (Or.inr (Or.inr (Or.inl ⟨Or.inl rfl, m, rfl, h2⟩)))) e
    · subst hk; exact ps_cg_ok (w := nI 8) (lo := 0) (hi := 100) (by decide) (fun m h1 h2 => Or.inr (Or.inr (Or.inr (Or.inl ⟨Or.inr rfl, m, rfl, h2⟩)))) e
    · subst hk; exact ps_cg_ok (w := nI 9) (lo := 0) (hi := 9999) (by decide) (fun m h1 h2 => Or.inr (Or.inr (Or.inl ⟨Or.inr (Or.inr rfl), m, rfl, h2⟩))) e
    · subst hk
      have e : (if ps_wd t n (ps_skn t n (p + 4)) [109, 111, 115, 116] = true then ps_ce t n (ps_skn t n (ps_skn t n (p + 4) + 4)) 10 1 [] [] (fun _ => 0) else if ps_wd t n (ps_skn t n (p + 4)) [107, 101, 101, 112] = true then ps_ce t n (ps_skn t n (ps_skn t n (p + 4) + 4)) 10 0 [] [] (fun _ => 0) else .inl (1, ps_skn t n (p + 4))) = .inr (h, q) := e
      split at e
      · exact ps_ce_ok (Or.inr ⟨by show ¬ ((10 : Int32) = 0 ∨ (10 : Int32) = 4); decide, Or.inr (Or.inr (Or.inr (Or.inr (Or.inl ⟨rfl, Or.inr rfl⟩)))), rfl⟩) e
      · split at e
        · exact ps_ce_ok (Or.inr ⟨by show ¬ ((10 : Int32) = 0 ∨ (10 : Int32) = 4); decide, Or.inr (Or.inr (Or.inr (Or.inr (Or.inl ⟨rfl, Or.inl rfl⟩)))), rfl⟩) e
        · cases e
    · subst hk
      try dsimp only at e
      cases hq : ps_fnd t n (ps_skn t n (p + 3)) ps_wn 4 with
      | none => rw [hq] at e; cases e
      | some j =>
        rw [hq] at e
        have hj := (ps_fnd_lt hq).1
        exact ps_ce_ok (Or.inr ⟨by show ¬ ((11 : Int32) = 0 ∨ (11 : Int32) = 4); decide, Or.inr (Or.inr (Or.inr (Or.inr (Or.inr ⟨rfl, j, rfl, by omega⟩)))), rfl⟩) e
theorem ps_os_ok {t : Nat → Nat} {n : Nat} : ∀ {m p l}, ps_os t n m p = .inr l → ∀ q ∈ l, ps_okC q
  | 0, p, l, h, q, hq => by
    unfold ps_os at h
    split at h
    · cases h
    · cases h; cases hq
  | m + 1, p, l, h, q, hq => by
    unfold ps_os at h
    split at h
    · cases hc : ps_cl t n p with
      | inl e => rw [hc] at h; cases h
      | inr r =>
        obtain ⟨h9, q9⟩ := r
        rw [hc] at h
        dsimp only at h
        cases ho : ps_os t n m h9 with
        | inl e => rw [ho] at h; cases h
        | inr l2 =>
          rw [ho] at h
          cases h
          rcases List.mem_cons.mp hq with e | e
          · rw [e]; exact ps_cl_ok hc
          · exact ps_os_ok ho q e
    · cases h; cases hq
theorem sp_runs_run {S : mo_S} {v : Int32 → Int32} : ∀ {L : List (Int32 × Int32)} {k : Nat} {st : List Int32}, (∀ j, j < L.length → S.1 40 (k + j) = (L.getD j (0, 0)).1 ∧ S.1 41 (k + j) = (L.getD j (0, 0)).2) → sp_runs S v L.length k st = ps_run v L st
  | [], k, st, _ => rfl
  | q :: L, k, st, h => by
    have h0 := h 0 (by rw [List.length_cons]; omega)
    have e0 : (q :: L).getD 0 (0, 0) = q := rfl
    rw [Nat.add_zero, e0] at h0
    show (match sp_step v (S.1 40 k) (S.1 41 k) st with
      | none => none
      | some st' => sp_runs S v L.length (k + 1) st') = (sp_step v q.1 q.2 st).bind (ps_run v L)
    rw [h0.1, h0.2]
    cases sp_step v q.1 q.2 st with
    | none => rfl
    | some s =>
      show sp_runs S v L.length (k + 1) s = ps_run v L s
      refine sp_runs_run (fun j hj => ?_)
      have := h (j + 1) (by rw [List.length_cons]; omega)
      rw [show k + 1 + j = k + (j + 1) by omega]
      exact this
/-- what stands in the tables for clause n of the new order -/
theorem ps_LW.at {T : mo_S} {O : Nat} : ∀ {l : List (Int32 × Int32 × List (Int32 × Int32) × List Int32 × ps_F)} {i c n : Nat} {q : Int32 × Int32 × List (Int32 × Int32) × List Int32 × ps_F}, ps_LW T O i c l → l[n]? = some q → ∃ cn, cn + q.2.2.1.length ≤ 300 ∧ T.1 38 (12 * O + (i + n)) = q.1 ∧ T.1 39 (12 * O + (i + n)) = (if q.1 = 0 ∨ q.1 = 4 then nI cn else q.2.1) ∧ ∀ j, j < q.2.2.1.length → T.1 40 (350 * O + cn + j) = (q.2.2.1.getD j (0, 0)).1 ∧ T.1 41 (350 * O + cn + j) = (q.2.2.1.getD j (0, 0)).2
  | [], i, c, n, q, _, h => by cases h
  | q9 :: l, i, c, 0, q, h, hq => by
    cases hq
    exact ⟨c, h.1⟩
  | q9 :: l, i, c, n + 1, q, h, hq => by
    obtain ⟨cn, h9⟩ := ps_LW.at h.2 (n := n) (q := q) hq
    rw [show i + 1 + n = i + (n + 1) by omega] at h9
    exact ⟨cn, h9⟩
/-- a formula that was read stands well-formed -/
theorem ps_wf {T : mo_S} {O cn : Nat} {q : Int32 × Int32 × List (Int32 × Int32) × List Int32 × ps_F} {L0 : List (Int32 × Int32)} (hO : O < 10) (hl : cn + q.2.2.1.length ≤ 300) (hL : q.2.2.1 = L0 ++ [(12, 0)]) (hok : ps_okL 43 L0 q.2.2.2.1 q.2.2.2.2) (hc : ∀ j, j < q.2.2.1.length → T.1 40 (350 * O + cn + j) = (q.2.2.1.getD j (0, 0)).1 ∧ T.1 41 (350 * O + cn + j) = (q.2.2.1.getD j (0, 0)).2) (v : Int32 → Int32) : sp_wf T v (350 * O + cn) L0.length (q.2.2.2.2 v) := by
  have hlen : q.2.2.1.length = L0.length + 1 := by rw [hL, List.length_append]; rfl
  have hc0 : ∀ j, j < L0.length → T.1 40 (350 * O + cn + j) = (L0.getD j (0, 0)).1 ∧ T.1 41 (350 * O + cn + j) = (L0.getD j (0, 0)).2 := fun j hj => by
    have := hc j (by omega)
    rw [hL, ps_gd_l hj] at this
    exact this
  refine ⟨by omega, by omega, ?_, fun j hj => ?_, ?_⟩
  · have := (hc L0.length (by omega)).1
    rw [hL, ps_gd_r (Nat.le_refl _), Nat.sub_self] at this
    exact this
  · rw [(hc0 j hj).1]
    refine hok.2.1 _ ?_
    rw [List.getD_eq_getElem?_getD, List.getElem?_eq_getElem hj]
    exact List.getElem_mem _
  · rw [sp_runs_run hc0]
    exact hok.1 v []
end M30
