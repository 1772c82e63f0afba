section CM10
/-- j is behind l -/
def bd_beh (c : Nat → Nat) (j : Nat) : Option Nat → Prop
  | none => True
  | some l => c j < c l ∨ (c j = c l ∧ l < j)
def bd_bB (c : Nat → Nat) (j : Nat) : Option Nat → Bool
  | none => true
  | some l => decide (c j < c l ∨ (c j = c l ∧ l < j))
theorem bd_bB_iff {c : Nat → Nat} {j : Nat} {l : Option Nat} : bd_bB c j l = true ↔ bd_beh c j l := by
  cases l with
  | none => exact ⟨fun _ => trivial, fun _ => rfl⟩
  | some l => exact decide_eq_true_iff
def bd_bid (I : Nat → Bool) (K : Nat → Int32) (j : Nat) : Prop := I j = true ∧ ¬ K j = 0
/-- whose turn it is behind l, among the first i -/
def bd_nx (I : Nat → Bool) (K : Nat → Int32) (c : Nat → Nat) (l : Option Nat) (i : Nat) : Option Nat → Prop
  | none => ∀ j, j < i → bd_bid I K j → ¬ bd_beh c j l
  | some b => b < i ∧ bd_bid I K b ∧ bd_beh c b l ∧ ∀ j, j < i → bd_bid I K j → bd_beh c j l → c j < c b ∨ (c j = c b ∧ b ≤ j)
theorem bd_b1 {I : Nat → Bool} {K C : Nat → Int32} {v : Int32} {r : Int32 × (Nat → Int32)} {m : Nat} : ∀ {n}, m ≤ n → (∀ j, m ≤ j → j < n → ¬ (bd_bid I K j ∧ C j = v)) → pt_b1 I K C v r n = pt_b1 I K C v r m
  | 0, h, _ => by rw [Nat.le_zero.mp h]
  | n + 1, h, hn => by
    by_cases e : m = n + 1
    · rw [e]
    · simp only [pt_b1]
      rw [if_neg (fun q => hn n (by omega) (by omega) ⟨⟨q.1, q.2.1⟩, q.2.2⟩)]
      exact bd_b1 (by omega) (fun j h1 h2 => hn j h1 (by omega))
theorem bd_bA {I : Nat → Bool} {K C : Nat → Int32} {L : Int32} {P a : Nat} : ∀ {b}, a ≤ b → (∀ n, a ≤ n → n < b → ∀ j, j < P → ¬ (bd_bid I K j ∧ C j = sp_bidv n)) → pt_bA I K C L P b = pt_bA I K C L P a
  | 0, h, _ => by rw [Nat.le_zero.mp h]
  | b + 1, h, hn => by
    by_cases e : a = b + 1
    · rw [e]
    · simp only [pt_bA]
      rw [bd_b1 (m := 0) (Nat.zero_le _) (fun j _ hj => hn b (by omega) (by omega) j hj)]
      exact bd_bA (by omega) (fun n h1 h2 => hn n h1 (by omega))
theorem bd_v {n : Nat} (h : n ≤ 100) : sp_bidv n = nI (100 - n) := by
  unfold sp_bidv
  exact pk_sub (a := 100) (b := n) h
theorem bd_vi {n : Nat} {x : Nat} (h : n ≤ 100) (hx : x ≤ 100) (e : nI x = sp_bidv n) : x = 100 - n := by
  rw [bd_v h] at e
  exact mo_niinj (by omega) (by omega) e
/-- what is done when l had its turn -/
def bd_St (I : Nat → Bool) (K C : Nat → Int32) (c : Nat → Nat) (L : Int32) (P : Nat) : Option Nat → Int32 × (Nat → Int32)
  | none => (L, fun _ => 0)
  | some b => pt_b1 I K C (sp_bidv (100 - c b)) (pt_bA I K C L P (100 - c b)) (b + 1)
section S
variable {I : Nat → Bool} {K C : Nat → Int32} {c : Nat → Nat} {L : Int32} {P : Nat}
theorem bd_end {l : Option Nat} (hC : ∀ j, j < P → C j = nI (c j) ∧ c j ≤ 100) (hl : ∀ b, l = some b → b < P) (h : bd_nx I K c l P none) : pt_bA I K C L P 101 = bd_St I K C c L P l := by
  have hn : ∀ j, j < P → bd_bid I K j → ¬ bd_beh c j l := h
  cases l with
  | none => exact bd_bA (a := 0) (by omega) (fun n _ _ j hj q => hn j hj q.1 trivial)
  | some b =>
    have hb := hl b rfl
    have hc := (hC b hb).2
    have e1 : pt_bA I K C L P 101 = pt_bA I K C L P (100 - c b + 1) := bd_bA (by omega) (fun n h1 h2 j hj q => by
      have e := bd_vi (n := n) (x := c j) (by omega) (hC j hj).2 (by rw [← (hC j hj).1]; exact q.2)
      exact hn j hj q.1 (Or.inl (by omega)))
    rw [e1]
    show pt_b1 I K C (sp_bidv (100 - c b)) (pt_bA I K C L P (100 - c b)) P = _
    exact bd_b1 (by omega) (fun j h1 h2 q => by
      have e := bd_vi (n := 100 - c b) (x := c j) (by omega) (hC j h2).2 (by rw [← (hC j h2).1]; exact q.2)
      exact hn j h2 q.1 (Or.inr ⟨by omega, by omega⟩))
theorem bd_step {l : Option Nat} {b : Nat} (hC : ∀ j, j < P → C j = nI (c j) ∧ c j ≤ 100) (hl : ∀ b, l = some b → b < P) (h : bd_nx I K c l P (some b)) : bd_St I K C c L P (some b) = ((bd_St I K C c L P l).1 - sp_least (K b) (bd_St I K C c L P l).1, upd (bd_St I K C c L P l).2 b (sp_least (K b) (bd_St I K C c L P l).1)) := by
  obtain ⟨hb, hbid, hbeh, hmax⟩ := h
  have hc := (hC b hb).2
  have e0 : pt_b1 I K C (sp_bidv (100 - c b)) (pt_bA I K C L P (100 - c b)) b = bd_St I K C c L P l := by
    have low : ∀ j, j < b → bd_bid I K j → c j = c b → bd_beh c j l → False := fun j h1 h2 h3 h4 => by
      rcases hmax j (by omega) h2 h4 with q | q <;> omega
    have vi : ∀ j, j < P → ∀ n, n ≤ 100 → C j = sp_bidv n → c j = 100 - n := fun j hj n hn q => bd_vi hn (hC j hj).2 (by rw [← (hC j hj).1]; exact q)
    cases l with
    | none =>
      rw [bd_b1 (m := 0) (Nat.zero_le _) (fun j _ hj q => by
        have e := vi j (by omega) _ (by omega) q.2
        exact low j hj q.1 (by omega) trivial)]
      show pt_bA I K C L P (100 - c b) = pt_bA I K C L P 0
      exact bd_bA (by omega) (fun n _ h2 j hj q => by
        have e := vi j hj _ (by omega) q.2
        rcases hmax j hj q.1 trivial with r | r <;> omega)
    | some d =>
      have hd := hl d rfl
      have hcd := (hC d hd).2
      rcases hbeh with q | q
      · rw [bd_b1 (m := 0) (Nat.zero_le _) (fun j _ hj r => by
          have e := vi j (by omega) _ (by omega) r.2
          exact low j hj r.1 (by omega) (Or.inl (by omega)))]
        show pt_bA I K C L P (100 - c b) = _
        have e1 : pt_bA I K C L P (100 - c b) = pt_bA I K C L P (100 - c d + 1) := bd_bA (by omega) (fun n h1 h2 j hj r => by
          have e := vi j hj _ (by omega) r.2
          rcases hmax j hj r.1 (Or.inl (by omega)) with s | s <;> omega)
        rw [e1]
        show pt_b1 I K C (sp_bidv (100 - c d)) (pt_bA I K C L P (100 - c d)) P = _
        exact bd_b1 (by omega) (fun j h1 h2 r => by
          have e := vi j h2 _ (by omega) r.2
          rcases hmax j h2 r.1 (Or.inr ⟨by omega, by omega⟩) with s | s <;> omega)
      · show _ = pt_b1 I K C (sp_bidv (100 - c d)) (pt_bA I K C L P (100 - c d)) (d + 1)
        rw [← q.1]
        exact bd_b1 (by omega) (fun j h1 h2 r => by
          have e := vi j (by omega) _ (by omega) r.2
          exact low j h2 r.1 (by omega) (Or.inr ⟨by omega, by omega⟩))
  show pt_b1 I K C (sp_bidv (100 - c b)) (pt_bA I K C L P (100 - c b)) (b + 1) = _
  simp only [pt_b1]
  rw [if_pos ⟨hbid.1, hbid.2, by rw [bd_v (by omega), (hC b hb).1]; congr 1; omega⟩, e0]
end S
/-- how many there are -/
def bd_ct (p : Nat → Bool) : Nat → Nat
  | 0 => 0
  | n + 1 => bd_ct p n + (if p n = true then 1 else 0)
theorem bd_ct_le (p : Nat → Bool) : ∀ n, bd_ct p n ≤ n
  | 0 => Nat.le_refl _
  | n + 1 => by
    have := bd_ct_le p n
    simp only [bd_ct]
    split <;> omega
theorem bd_ct_mono {p q : Nat → Bool} : ∀ n, (∀ j, j < n → p j = true → q j = true) → bd_ct p n ≤ bd_ct q n
  | 0, _ => Nat.le_refl _
  | n + 1, h => by
    have h1 := bd_ct_mono n (fun j hj => h j (by omega))
    have h2 := h n (by omega)
    simp only [bd_ct]
    by_cases e : p n = true
    · rw [if_pos e, if_pos (h2 e)]; omega
    · rw [if_neg e]; omega
theorem bd_ct_lt {p q : Nat → Bool} {b : Nat} (hp : ¬ p b = true) (hq : q b = true) : ∀ n, b < n → (∀ j, j < n → p j = true → q j = true) → bd_ct p n + 1 ≤ bd_ct q n
  | 0, h, _ => absurd h (by omega)
  | n + 1, h, hm => by
    simp only [bd_ct]
    by_cases e : b = n
    · subst e
      have h1 := bd_ct_mono b (fun j hj => hm j (by omega))
      rw [if_neg hp, if_pos hq]
      omega
    · have h1 := bd_ct_lt hp hq n (by omega) (fun j hj => hm j (by omega))
      have h2 := hm n (by omega)
      by_cases e : p n = true
      · rw [if_pos e, if_pos (h2 e)]; omega
      · rw [if_neg e]; omega
theorem bd_ct_full {p : Nat → Bool} : ∀ n, n ≤ bd_ct p n → ∀ j, j < n → p j = true
  | 0, _, j, h => absurd h (by omega)
  | n + 1, h, j, hj => by
    have h1 := bd_ct_le p n
    simp only [bd_ct] at h
    have h2 : p n = true := by
      by_cases e : p n = true
      · exact e
      · rw [if_neg e] at h; omega
    rw [if_pos h2] at h
    by_cases e : j = n
    · rw [e]; exact h2
    · exact bd_ct_full n (by omega) j (by omega)
/-- had their turn -/
def bd_dn (I : Nat → Bool) (K : Nat → Int32) (c : Nat → Nat) (l : Option Nat) (j : Nat) : Bool := I j && decide (¬ K j = 0) && !(bd_bB c j l)
theorem bd_dn_iff {I : Nat → Bool} {K : Nat → Int32} {c : Nat → Nat} {l : Option Nat} {j : Nat} : bd_dn I K c l j = true ↔ bd_bid I K j ∧ ¬ bd_beh c j l := by
  unfold bd_dn bd_bid
  rw [← bd_bB_iff]
  simp
theorem bd_more {I : Nat → Bool} {K : Nat → Int32} {c : Nat → Nat} {P : Nat} {l : Option Nat} {b : Nat} (h : bd_nx I K c l P (some b)) : bd_ct (bd_dn I K c l) P + 1 ≤ bd_ct (bd_dn I K c (some b)) P := by
  obtain ⟨hb, hbid, hbeh, hmax⟩ := h
  refine bd_ct_lt (b := b) (fun q => (bd_dn_iff.mp q).2 hbeh) (bd_dn_iff.mpr ⟨hbid, fun q => ?_⟩) P hb (fun j hj q => ?_)
  · have : c b < c b ∨ (c b = c b ∧ b < b) := q
    omega
  · obtain ⟨q1, q2⟩ := bd_dn_iff.mp q
    refine bd_dn_iff.mpr ⟨q1, fun r => q2 ?_⟩
    cases l with
    | none => trivial
    | some d =>
      have r1 : c j < c b ∨ (c j = c b ∧ b < j) := r
      have r2 : c b < c d ∨ (c b = c d ∧ d < b) := hbeh
      show c j < c d ∨ (c j = c d ∧ d < j)
      omega
theorem bd_all {I : Nat → Bool} {K : Nat → Int32} {c : Nat → Nat} {P : Nat} {l : Option Nat} (h : P ≤ bd_ct (bd_dn I K c l) P) : bd_nx I K c l P none := fun j hj _ => (bd_dn_iff.mp (bd_ct_full P h j hj)).2
end CM10
