section EA
/-! both objects new: class and model alike -/
def nw_C : mo_S := (fun f x => if f = 33 ∧ x = 0 then -1 else if f = 117 ∧ x = 0 then -1 else if f = 100 ∧ x = 10 then -1 else if f = 101 ∧ 30 ≤ x ∧ x < 33 then 64 else if f = 102 ∧ 30 ≤ x ∧ x < 33 then -1 else if f = 103 ∧ x = 10 then 10 else if f = 104 ∧ x = 10 then 12 else if f = 105 ∧ x = 10 then 100 else if f = 111 ∧ x = 10 then 1 else if f = 112 ∧ x = 3000 then -1 else 0, fun _ => 0)
theorem nw_0 {k i : Nat} (h : ¬ (k = 33 ∨ k = 53 ∨ k = 54)) : nw_S.1 k i = 0 := if_neg (fun z => h z.1)
theorem nw_C0 {f x : Nat} (h : f ∉ [33, 117, 100, 101, 102, 103, 104, 105, 111, 112]) : nw_C.1 f x = 0 := by
  simp only [List.mem_cons, List.mem_nil_iff, or_false, not_or] at h
  unfold nw_C
  dsimp only
  rw [if_neg (by omega), if_neg (by omega), if_neg (by omega), if_neg (by omega), if_neg (by omega), if_neg (by omega), if_neg (by omega), if_neg (by omega), if_neg (by omega), if_neg (by omega)]
theorem nw_lo (k : Nat) : mo_lo k ≤ 0 ∧ 0 ≤ mo_hi k := by
  rcases Nat.lt_or_ge k 78 with h | h
  · have c : ∀ k, k < 78 → mo_lo k ≤ 0 ∧ 0 ≤ mo_hi k := by decide
    exact c k h
  · have e1 : mo_lo k = -2147483648 := by
      unfold mo_lo
      rw [List.getD_eq_getElem?_getD, List.getElem?_eq_none (by simpa using h)]
      rfl
    have e2 : mo_hi k = 2147483647 := by
      unfold mo_hi
      rw [List.getD_eq_getElem?_getD, List.getElem?_eq_none (by simpa using h)]
      rfl
    rw [e1, e2]
    decide
theorem nw_sum {f : Nat → Int} (h : ∀ i, f i = 0) : ∀ n, mo_sum f n = 0
  | 0 => rfl
  | n + 1 => by
    simp only [mo_sum]
    rw [nw_sum h n, h n]
    rfl
theorem nw_K {F : mo_Fn} : mo_K 0 nw_S F := by
  have eO : sp_O nw_S = 0 := rfl
  have eP : sp_P nw_S = 0 := rfl
  have eR : sp_R nw_S = 0 := rfl
  have eA : sp_A nw_S = 0 := rfl
  refine ⟨⟨⟨fun k i _ => ?_, ⟨fun b n C hb => ?_, fun b n hb => ?_⟩, fun p hp => ?_, Or.inl rfl⟩, ⟨fun p _ => ⟨nw_0 (by decide), nw_0 (by decide), nw_0 (by decide), nw_0 (by decide), nw_0 (by decide), nw_0 (by decide), nw_0 (by decide), nw_0 (by decide), nw_0 (by decide), nw_0 (by decide), nw_0 (by decide)⟩, fun w p _ _ => nw_0 (by decide), fun p q _ _ _ => nw_0 (by decide)⟩, ⟨fun r hr => ?_, fun a ha => ?_, fun m p _ _ => nw_0 (by decide), fun r hr => ?_, fun p j hj => ?_, fun h => ?_, rfl, rfl⟩, ⟨fun p => ?_, ?_, ?_⟩⟩, fun b n hb => ?_⟩
  · by_cases c : (k = 33 ∨ k = 53 ∨ k = 54) ∧ i = 0
    · have e : nw_S.1 k i = -1 := if_pos c
      rw [e]
      obtain ⟨rfl | rfl | rfl, -⟩ := c
      all_goals decide
    · have e : nw_S.1 k i = 0 := if_neg c
      rw [e]
      exact nw_lo k
  · rw [eO] at hb; exact absurd hb (by omega)
  · rw [eO] at hb; exact absurd hb (by omega)
  · rw [eP] at hp; exact absurd hp (by omega)
  · rw [eR] at hr; exact absurd hr (by omega)
  · rw [eA] at ha; exact absurd ha (by omega)
  · rw [nw_0 (by decide)] at hr; exact absurd hr (by decide)
  · rw [nw_0 (by decide)] at hj; exact absurd hj (Nat.not_lt_zero _)
  · rw [eO] at h; exact absurd h (by decide)
  · rw [nw_0 (by decide)]; decide
  · have e1 : mo_sum (fun p => (nw_S.1 10 p).toInt) 12 = 0 := nw_sum (fun i => by rw [nw_0 (by decide)]; rfl) 12
    rw [e1, eR]
    decide
  · have e1 : mo_sum (fun p => ((nw_S.1 11 p).toInt.natAbs : Int)) 12 = 0 := nw_sum (fun i => by rw [nw_0 (by decide)]; rfl) 12
    rw [e1]
    decide
  · rw [eO] at hb; exact absurd hb (by omega)
theorem nw_R : cl_R 0 nw_C nw_S (fun _ _ => 0) (fun _ => []) := by
  refine ⟨⟨fun k hk => ?_, fun p => ?_, fun p j _ _ => ⟨nw_0 (by decide), nw_0 (by decide)⟩, fun j _ => ?_, ⟨rfl, rfl⟩, fun m p x hm => ?_, fun a ha => ?_⟩, ⟨fun w hw => ?_, fun b hb => ?_⟩, nw_K⟩
  · have c : ∀ k, k ∈ cl_K → k < 100 ∧ k ≠ 53 ∧ k ≠ 54 := by decide
    obtain ⟨c1, c2, c3⟩ := c k hk
    funext i
    by_cases e : k = 33
    · subst e
      by_cases z : i = 0
      · rw [z]; rfl
      · have e1 : nw_C.1 33 i = 0 := by
          unfold nw_C
          dsimp only
          rw [if_neg (by omega), if_neg (by omega), if_neg (by omega), if_neg (by omega), if_neg (by omega), if_neg (by omega), if_neg (by omega), if_neg (by omega), if_neg (by omega), if_neg (by omega)]
        have e2 : nw_S.1 33 i = 0 := if_neg (fun q => z q.2)
        rw [e1, e2]
    · rw [nw_0 (by omega), nw_C0 (by simp only [List.mem_cons, List.mem_nil_iff, or_false, not_or]; omega)]
  · rw [nw_C0 (by decide), nw_C0 (by decide)]
    exact ⟨fun _ => ⟨(nw_0 (by decide)).symm, (nw_0 (by decide)).symm⟩, ⟨0, rfl, by decide⟩, ⟨0, rfl, by decide⟩⟩
  · unfold ps_tx
    rw [nw_C0 (by decide), nw_0 (by decide)]
    rfl
  · have eM : sp_M nw_S = 0 := rfl
    rw [eM] at hm
    exact absurd hm (by omega)
  · have eA : sp_A nw_S = 0 := rfl
    rw [eA] at ha
    exact absurd ha (by omega)
  · refine ⟨fun e => ?_, fun e1 e2 => ?_, fun e => ?_, fun e1 e2 => ?_⟩
    · refine ⟨rfl, Nat.le_of_ble_eq_true rfl, fun j hj => ?_⟩
      have hj : j < 1 := hj
      have e0 : j = 0 := by omega
      rw [e0]
      rfl
    · obtain rfl | rfl | rfl : w = 1 ∨ w = 2 ∨ w = 3 := by omega
      all_goals exact ⟨rfl, rfl⟩
    · exact ⟨rfl, rfl, fun h => by cases h⟩
    · obtain rfl | rfl | rfl | rfl | rfl | rfl | rfl : w = 5 ∨ w = 6 ∨ w = 7 ∨ w = 8 ∨ w = 9 ∨ w = 10 ∨ w = 11 := by omega
      all_goals rfl
  · have eO : sp_O nw_S = 0 := rfl
    rw [eO] at hb
    exact absurd hb (by omega)
end EA
