section M29
/-! CODES RUN TO THE VALUE -/
def ps_run (v : Int32 → Int32) : List (Int32 × Int32) → List Int32 → Option (List Int32)
  | [], st => some st
  | q :: L, st => (sp_step v q.1 q.2 st).bind (ps_run v L)
/-- one code of the class -/
def ps_cst (v : Int32 → Int32) (c : Int32) (st : List Int32) : Option (List Int32) :=
  if -8 ≤ c then (if st.length < 64 then some ((if 0 ≤ c then c else v (-1 - c)) :: st) else none)
  else if -14 ≤ c then (match st with
    | y :: x :: r => some (sp_X12_worked (-7 - c) x y :: r)
    | _ => none)
  else match st with
    | z :: y :: b :: a :: r => some ((if sp_X12_worked (-6 - c) a b = 1 then y else z) :: r)
    | _ => none
def ps_crun (v : Int32 → Int32) : List Int32 → List Int32 → Option (List Int32)
  | [], st => some st
  | q :: L, st => (ps_cst v q st).bind (ps_crun v L)
theorem ps_run_app {v : Int32 → Int32} : ∀ {L M : List (Int32 × Int32)} {st : List Int32}, ps_run v (L ++ M) st = (ps_run v L st).bind (ps_run v M)
  | [], M, st => rfl
  | q :: L, M, st => by
    show (sp_step v q.1 q.2 st).bind (ps_run v (L ++ M)) = ((sp_step v q.1 q.2 st).bind (ps_run v L)).bind (ps_run v M)
    cases sp_step v q.1 q.2 st with
    | none => rfl
    | some s => exact ps_run_app
theorem ps_crun_app {v : Int32 → Int32} : ∀ {L M : List Int32} {st : List Int32}, ps_crun v (L ++ M) st = (ps_crun v L st).bind (ps_crun v M)
  | [], M, st => rfl
  | q :: L, M, st => by
    show (ps_cst v q st).bind (ps_crun v (L ++ M)) = ((ps_cst v q st).bind (ps_crun v L)).bind (ps_crun v M)
    cases ps_cst v q st with
    | none => rfl
    | some s => exact ps_crun_app
/-- both codes run to F; the class' with K places -/
def ps_okL (K : Nat) (L : List (Int32 × Int32)) (C : List Int32) (F : ps_F) : Prop := (∀ v st, ps_run v L st = some (F v :: st)) ∧ (∀ q ∈ L, q.1 ≠ 12) ∧ ∀ v st, st.length + K ≤ 64 → ps_crun v C st = some (F v :: st)
def ps_ok (K : Nat) (r : ps_R) : Prop := ∀ h L C F, r = .inr (h, L, C, F) → ps_okL K L C F
theorem ps_okL.le {K K2 : Nat} {L : List (Int32 × Int32)} {C : List Int32} {F : ps_F} (h : ps_okL K L C F) (hk : K ≤ K2) : ps_okL K2 L C F := ⟨h.1, h.2.1, fun v st hs => h.2.2 v st (by omega)⟩
theorem ps_ok_l {K : Nat} {e : Nat × Nat} : ps_ok K (.inl e) := fun _ _ _ _ h => by cases h
theorem ps_ok_r {K h : Nat} {L : List (Int32 × Int32)} {C : List Int32} {F : ps_F} (q : ps_okL K L C F) : ps_ok K (.inr (h, L, C, F)) := fun _ _ _ _ e => by cases e; exact q
theorem ps_ok_b {K K2 : Nat} {r : ps_R} {f : Nat → List (Int32 × Int32) → List Int32 → ps_F → ps_R} (hr : ps_ok K r) (hf : ∀ h L C F, ps_okL K L C F → ps_ok K2 (f h L C F)) : ps_ok K2 (ps_bind r f) := by
  cases r with
  | inl e => exact ps_ok_l
  | inr q => obtain ⟨h, L, C, F⟩ := q; exact hf h L C F (hr h L C F rfl)
theorem ps_ok_s {K : Nat} {t : Nat → Nat} {n p c : Nat} {f : Nat → ps_R} (hf : ∀ q, ps_ok K (f q)) : ps_ok K (ps_sg t n p c f) := by
  unfold ps_sg
  split
  · exact hf _
  · exact ps_ok_l
theorem ps_ok_o {K K2 : Nat} {t : Nat → Nat} {n p : Nat} {inner : Option (Nat → ps_R)} {f : (Nat → ps_R) → Nat → ps_R} (hi : ∀ s, inner = some s → ∀ q, ps_ok K (s q)) (hf : ∀ s, inner = some s → (∀ q, ps_ok K (s q)) → ∀ q, ps_ok K2 (f s q)) : ps_ok K2 (ps_op t n inner p f) := by
  unfold ps_op
  split
  · cases hq : inner with
    | none => exact ps_ok_l
    | some s => exact hf s hq (hi s hq) _
  · exact ps_ok_l
theorem ps_mem1 {α : Type} {a b : α} (h : a ∈ [b]) : a = b := by
  cases h with
  | head => rfl
  | tail _ h => cases h
/-- two values, joined -/
theorem ps_okL.bin {K : Nat} {L L2 : List (Int32 × Int32)} {C C2 : List Int32} {F F2 : ps_F} {o c : Int32} (h : ps_okL (K + 1) L C F) (h2 : ps_okL K L2 C2 F2) (ho : o ≠ 0 ∧ o ≠ 1 ∧ o ≠ 8 ∧ o ≠ 12) (hc : ¬ -8 ≤ c ∧ -14 ≤ c ∧ -7 - c = o) : ps_okL (K + 1) (L ++ L2 ++ [(o, 0)]) (C ++ C2 ++ [c]) (fun v => sp_X12_worked o (F v) (F2 v)) := by
  refine ⟨fun v st => ?_, fun q hq => ?_, fun v st hs => ?_⟩
  · rw [ps_run_app, ps_run_app, h.1 v st, Option.bind_some, h2.1 v, Option.bind_some]
    simp only [ps_run, sp_step]
    rw [if_neg ho.1, if_neg ho.2.1, if_neg ho.2.2.1]
    rfl
  · rcases List.mem_append.mp hq with hq | hq
    · rcases List.mem_append.mp hq with hq | hq
      · exact h.2.1 q hq
      · exact h2.2.1 q hq
    · rw [ps_mem1 hq]; exact ho.2.2.2
  · rw [ps_crun_app, ps_crun_app, h.2.2 v st hs, Option.bind_some, h2.2.2 v (F v :: st) (by simp only [List.length_cons]; omega), Option.bind_some]
    simp only [ps_crun, ps_cst]
    rw [if_neg hc.1, if_pos hc.2.1, hc.2.2]
    rfl
/-- a choice -/
theorem ps_okL.cho {K : Nat} {L L2 L3 L4 : List (Int32 × Int32)} {C C2 C3 C4 : List Int32} {F F2 F3 F4 : ps_F} {m c : Int32} (h : ps_okL K L C F) (h2 : ps_okL K L2 C2 F2) (h3 : ps_okL K L3 C3 F3) (h4 : ps_okL K L4 C4 F4) (ho : m ≠ 0 ∧ m ≠ 1 ∧ m ≠ 8 ∧ m ≠ 12) (hc : ¬ -8 ≤ c ∧ ¬ -14 ≤ c ∧ -6 - c = m) : ps_okL (K + 3) (L ++ L2 ++ [(m, 0)] ++ L3 ++ L4 ++ [(8, 0)]) (C ++ C2 ++ C3 ++ C4 ++ [c]) (fun v => if sp_X12_worked m (F v) (F2 v) = 1 then F3 v else F4 v) := by
  refine ⟨fun v st => ?_, fun q hq => ?_, fun v st hs => ?_⟩
  · rw [ps_run_app, ps_run_app, ps_run_app, ps_run_app, ps_run_app, h.1 v st, Option.bind_some, h2.1 v, Option.bind_some]
    have e : ps_run v [(m, 0)] (F2 v :: F v :: st) = some (sp_X12_worked m (F v) (F2 v) :: st) := by
      simp only [ps_run, sp_step]
      rw [if_neg ho.1, if_neg ho.2.1, if_neg ho.2.2.1]
      rfl
    rw [e, Option.bind_some, h3.1 v, Option.bind_some, h4.1 v, Option.bind_some]
    simp only [ps_run, sp_step]
    rw [if_neg (by decide), if_neg (by decide), if_pos trivial]
    rfl
  · rcases List.mem_append.mp hq with hq | hq
    · rcases List.mem_append.mp hq with hq | hq
      · rcases List.mem_append.mp hq with hq | hq
        · rcases List.mem_append.mp hq with hq | hq
          · rcases List.mem_append.mp hq with hq | hq
            · exact h.2.1 q hq
            · exact h2.2.1 q hq
          · rw [ps_mem1 hq]; exact ho.2.2.2
        · exact h3.2.1 q hq
      · exact h4.2.1 q hq
    · rw [ps_mem1 hq]; show (8 : Int32) ≠ 12; decide
  · rw [ps_crun_app, ps_crun_app, ps_crun_app, ps_crun_app, h.2.2 v st (by omega), Option.bind_some, h2.2.2 v (F v :: st) (by simp only [List.length_cons]; omega), Option.bind_some, h3.2.2 v _ (by simp only [List.length_cons]; omega), Option.bind_some, h4.2.2 v _ (by simp only [List.length_cons]; omega), Option.bind_some]
    simp only [ps_crun, ps_cst]
    rw [if_neg hc.1, if_neg hc.2.1, hc.2.2]
    rfl
theorem ps_okL.num {n : Nat} (hn : n ≤ 9999) : ps_okL 1 [(0, nI n)] [nI n] (fun _ => nI n) := by
  have h0 : (0 : Int32) ≤ nI n := nI_le (a := 0) (Nat.zero_le n) (by omega)
  have h8 : (-8 : Int32) ≤ nI n := Int32.le_trans (by decide) h0
  refine ⟨fun v st => rfl, fun q hq => ?_, fun v st hs => ?_⟩
  · rw [ps_mem1 hq]; show (0 : Int32) ≠ 12; decide
  · simp only [ps_crun, ps_cst]
    rw [if_pos h8, if_pos (by omega), if_pos h0]
    rfl
theorem ps_okL.nam {k : Nat} (hk : k < 8) : ps_okL 1 [(1, nI k)] [-1 - nI k] (fun v => v (nI k)) := by
  have h1 : ∀ k, k < 8 → (-8 : Int32) ≤ -1 - nI k ∧ ¬ (0 : Int32) ≤ -1 - nI k ∧ -1 - (-1 - nI k) = nI k := by decide
  obtain ⟨a, b, c⟩ := h1 k hk
  refine ⟨fun v st => rfl, fun q hq => ?_, fun v st hs => ?_⟩
  · rw [ps_mem1 hq]; show (1 : Int32) ≠ 12; decide
  · simp only [ps_crun, ps_cst]
    rw [if_pos a, if_pos (by omega), if_neg b, c]
    rfl
theorem ps_ok_brk {K : Nat} {t : Nat → Nat} {n p : Nat} {inner : Option (Nat → ps_R)} (hi : ∀ s, inner = some s → ∀ q, ps_ok K (s q)) : ps_ok K (ps_brk t n inner p) := by
  unfold ps_brk
  exact ps_ok_o hi fun s _ hs q => ps_ok_b (hs q) fun h L C F hL => ps_ok_s fun q2 => ps_ok_r hL
theorem ps_ok_two {K : Nat} {t : Nat → Nat} {n p : Nat} {low : Bool} {inner : Option (Nat → ps_R)} (hi : ∀ s, inner = some s → ∀ q, ps_ok K (s q)) : ps_ok (K + 1) (ps_two t n inner low p) := by
  unfold ps_two
  refine ps_ok_o hi fun s _ hs q => ps_ok_b (hs q) fun h L C F hL => ps_ok_s fun q2 => ps_ok_b (hs _) fun h3 L2 C2 F2 hL2 => ps_ok_s fun q4 => ps_ok_r ?_
  cases low
  · exact (hL.le (Nat.le_succ _)).bin hL2 (by decide) (by decide)
  · exact (hL.le (Nat.le_succ _)).bin hL2 (by decide) (by decide)
theorem ps_rel_ok {c : Nat} {m cc : Int32} (h : ps_rel c = some (m, cc)) : (m ≠ 0 ∧ m ≠ 1 ∧ m ≠ 8 ∧ m ≠ 12) ∧ (¬ -8 ≤ cc ∧ ¬ -14 ≤ cc ∧ -6 - cc = m) := by
  unfold ps_rel at h
  split at h
  · cases h; decide
  · split at h
    · cases h; decide
    · split at h
      · cases h; decide
      · cases h
theorem ps_ok_if {K : Nat} {t : Nat → Nat} {n p : Nat} {inner : Option (Nat → ps_R)} (hi : ∀ s, inner = some s → ∀ q, ps_ok K (s q)) : ps_ok (K + 3) (ps_if t n inner p) := by
  unfold ps_if
  refine ps_ok_o hi fun s _ hs q => ps_ok_b (hs q) fun h L C F hL => ?_
  cases hr : ps_rel (ps_bt t n h) with
  | none => exact ps_ok_l
  | some mc =>
    obtain ⟨m, cc⟩ := mc
    exact ps_ok_b (hs _) fun h3 L2 C2 F2 hL2 => ps_ok_s fun q4 => ps_ok_b (hs _) fun h5 L3 C3 F3 hL3 => ps_ok_s fun q6 => ps_ok_b (hs _) fun h7 L4 C4 F4 hL4 => ps_ok_s fun q8 => ps_ok_r (hL.cho hL2 hL3 hL4 (ps_rel_ok hr).1 (ps_rel_ok hr).2)
theorem ps_ok_unit {K : Nat} {t : Nat → Nat} {n p : Nat} {inner : Option (Nat → ps_R)} (hi : ∀ s, inner = some s → ∀ q, ps_ok (K - 3) (s q)) (hK : inner ≠ none → 3 ≤ K) (h1 : 1 ≤ K) : ps_ok K (ps_unit t n inner p) := by
  have le : ∀ {K1 K2 : Nat} {r : ps_R}, ps_ok K1 r → K1 ≤ K2 → ps_ok K2 r := fun hr hk h L C F e => (hr h L C F e).le hk
  have nn : inner = none → ∀ (K2 : Nat) (f : (Nat → ps_R) → Nat → ps_R) (p : Nat), ps_ok K2 (ps_op t n inner p f) := fun e K2 f p => by
    refine ps_ok_o (K := 0) (fun s q => ?_) (fun s q => ?_)
    · rw [e] at q; cases q
    · rw [e] at q; cases q
  unfold ps_unit
  split
  · split
    · exact ps_ok_l
    · rename_i h
      exact ps_ok_r ((ps_okL.num (by omega)).le h1)
  · split
    · rename_i k hk
      exact ps_ok_r ((ps_okL.nam (ps_fnd_lt hk).1).le h1)
    · cases hin : inner with
      | none =>
        have nn2 : ∀ (K2 : Nat) (f : (Nat → ps_R) → Nat → ps_R) (p : Nat), ps_ok K2 (ps_op t n none p f) := fun K2 f p => by have := nn hin K2 f p; rw [hin] at this; exact this
        split
        · unfold ps_if; exact nn2 _ _ _
        · split
          · unfold ps_two; exact nn2 _ _ _
          · split
            · unfold ps_two; exact nn2 _ _ _
            · unfold ps_brk; exact nn2 _ _ _
      | some s0 =>
        have h3 := hK (by rw [hin]; intro q; cases q)
        rw [hin] at hi
        split
        · exact le (ps_ok_if hi) (by omega)
        · split
          · exact le (ps_ok_two hi) (by omega)
          · split
            · exact le (ps_ok_two hi) (by omega)
            · exact le (ps_ok_brk hi) (by omega)
theorem ps_ok_jn {K : Nat} {t : Nat → Nat} {n a b : Nat} {oa ob ca cb : Int32} {u : Nat → ps_R} (hu : ∀ q, ps_ok K (u q)) (ha : oa ≠ 0 ∧ oa ≠ 1 ∧ oa ≠ 8 ∧ oa ≠ 12) (hb : ob ≠ 0 ∧ ob ≠ 1 ∧ ob ≠ 8 ∧ ob ≠ 12) (hca : ¬ -8 ≤ ca ∧ -14 ≤ ca ∧ -7 - ca = oa) (hcb : ¬ -8 ≤ cb ∧ -14 ≤ cb ∧ -7 - cb = ob) : ∀ (m h : Nat) (L : List (Int32 × Int32)) (C : List Int32) (F : ps_F), ps_okL (K + 1) L C F → ps_ok (K + 1) (ps_jn t n u a b oa ob ca cb m h L C F)
  | 0, h, L, C, F, hL => ps_ok_r hL
  | m + 1, h, L, C, F, hL => by
    unfold ps_jn
    split
    · exact ps_ok_b (hu _) fun h2 L2 C2 F2 hL2 => ps_ok_jn hu ha hb hca hcb m h2 _ _ _ (hL.bin hL2 ha hca)
    · split
      · exact ps_ok_b (hu _) fun h2 L2 C2 F2 hL2 => ps_ok_jn hu ha hb hca hcb m h2 _ _ _ (hL.bin hL2 hb hcb)
      · exact ps_ok_r hL
theorem ps_ok_lev {K : Nat} {t : Nat → Nat} {n p : Nat} {inner : Option (Nat → ps_R)} (hi : ∀ s, inner = some s → ∀ q, ps_ok (K - 3) (s q)) (hK : inner ≠ none → 3 ≤ K) (h1 : 1 ≤ K) : ps_ok (K + 2) (ps_lev t n inner p) := by
  have hp : ∀ q, ps_ok (K + 1) (ps_prod t n inner q) := fun q => by
    unfold ps_prod
    exact ps_ok_b (ps_ok_unit hi hK h1) fun h L C F hL => ps_ok_jn (fun q => ps_ok_unit hi hK h1) (by decide) (by decide) (by decide) (by decide) n h L C F (hL.le (Nat.le_succ _))
  unfold ps_lev
  exact ps_ok_b (hp p) fun h L C F hL => ps_ok_jn hp (by decide) (by decide) (by decide) (by decide) n h L C F (hL.le (Nat.le_succ _))
theorem ps_ok_sum {t : Nat → Nat} {n : Nat} : ∀ (k p : Nat), ps_ok (5 * k + 3) (ps_sum t n k p)
  | 0, p => by
    rw [ps_sum]
    exact ps_ok_lev (K := 1) (fun s h => by cases h) (fun h => absurd rfl h) (by decide)
  | k + 1, p => by
    rw [ps_sum]
    have := ps_ok_lev (K := 5 * k + 6) (t := t) (n := n) (p := p) (inner := some (ps_sum t n k)) (fun s h q => by cases h; exact ps_ok_sum k q) (fun _ => by omega) (by omega)
    exact this
end M29
