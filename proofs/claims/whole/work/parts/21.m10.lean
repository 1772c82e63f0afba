section PT
/-! PARTING BY WEIGHTS, in whole numbers. f: the least; I: who is in; L: the pool; w: the weights (0 for who isn't in) -/
def pt_lf (f : Nat) (I : Nat → Bool) (L : Nat) : Nat → Nat
  | 0 => L
  | n + 1 => if I n = true then pt_lf f I L n - min f (pt_lf f I L n) else pt_lf f I L n
def pt_s (f : Nat) (I : Nat → Bool) (L p : Nat) : Nat := if I p = true then min f (pt_lf f I L p) else 0
def pt_sm (w : Nat → Nat) : Nat → Nat
  | 0 => 0
  | n + 1 => pt_sm w n + w n
theorem pt_lf_le (f : Nat) (I : Nat → Bool) (L : Nat) : ∀ n, pt_lf f I L n ≤ L
  | 0 => Nat.le_refl _
  | n + 1 => by
    have := pt_lf_le f I L n
    simp only [pt_lf]
    split <;> omega
theorem pt_s_le (f : Nat) (I : Nat → Bool) (L p : Nat) : pt_s f I L p ≤ L := by
  have := pt_lf_le f I L p
  unfold pt_s
  split <;> omega
theorem pt_lf_s {f : Nat} {I : Nat → Bool} {L n : Nat} : pt_lf f I L (n + 1) = pt_lf f I L n - pt_s f I L n := by
  simp only [pt_lf, pt_s]
  split <;> omega
theorem pt_sm_le {w : Nat → Nat} {c : Nat} : ∀ {n}, (∀ j, j < n → w j ≤ c) → pt_sm w n ≤ n * c
  | 0, _ => by simp [pt_sm]
  | n + 1, h => by
    have h1 := pt_sm_le (n := n) (fun j hj => h j (by omega))
    have h2 := h n (by omega)
    have h3 : (n + 1) * c = n * c + c := Nat.succ_mul n c
    simp only [pt_sm]
    omega
theorem pt_sm_mono {w : Nat → Nat} (m : Nat) : ∀ n, pt_sm w m ≤ pt_sm w (m + n)
  | 0 => Nat.le_refl _
  | n + 1 => by
    have := pt_sm_mono (w := w) m n
    show _ ≤ pt_sm w (m + n) + w (m + n)
    omega
theorem pt_sm_at {w : Nat → Nat} {j n : Nat} (h : j < n) : w j ≤ pt_sm w n := by
  have := pt_sm_mono (w := w) (j + 1) (n - (j + 1))
  rw [show j + 1 + (n - (j + 1)) = n by omega] at this
  simp only [pt_sm] at this
  omega
theorem pt_sm_cong {w v : Nat → Nat} : ∀ {n}, (∀ j, j < n → w j = v j) → pt_sm w n = pt_sm v n
  | 0, _ => rfl
  | n + 1, h => by simp only [pt_sm]; rw [pt_sm_cong (fun j hj => h j (by omega)), h n (by omega)]
theorem pt_sm_mul {w : Nat → Nat} (L : Nat) : ∀ n, pt_sm (fun j => L * w j) n = L * pt_sm w n
  | 0 => rfl
  | n + 1 => by simp only [pt_sm]; rw [pt_sm_mul L n, Nat.mul_add]
theorem pt_sm_dm {v : Nat → Nat} (A : Nat) : ∀ n, pt_sm v n = A * pt_sm (fun j => v j / A) n + pt_sm (fun j => v j % A) n
  | 0 => rfl
  | n + 1 => by
    have h1 := pt_sm_dm (v := v) A n
    have h2 := Nat.div_add_mod (v n) A
    simp only [pt_sm, Nat.mul_add]
    omega
def pt_q (L A : Nat) (w : Nat → Nat) (p : Nat) : Nat := L * w p / A
def pt_r (L A : Nat) (w : Nat → Nat) (p : Nat) : Nat := L * w p % A
def pt_ov (L A : Nat) (w : Nat → Nat) (n : Nat) : Nat := L - pt_sm (pt_q L A w) n
/-- what is over is as the rests tell -/
theorem pt_over {L : Nat} {w : Nat → Nat} {P : Nat} (h : 0 < pt_sm w P) : pt_sm (pt_q L (pt_sm w P) w) P ≤ L ∧ pt_sm w P * pt_ov L (pt_sm w P) w P = pt_sm (pt_r L (pt_sm w P) w) P := by
  have h1 := pt_sm_dm (v := fun j => L * w j) (pt_sm w P) P
  rw [pt_sm_mul] at h1
  have h2 : pt_sm w P * pt_sm (pt_q L (pt_sm w P) w) P ≤ pt_sm w P * L := by
    rw [Nat.mul_comm _ L, h1]
    exact Nat.le_add_right _ _
  refine ⟨Nat.le_of_mul_le_mul_left h2 h, ?_⟩
  unfold pt_ov
  have h3 : pt_sm w P * pt_sm (pt_q L (pt_sm w P) w) P + pt_sm (pt_r L (pt_sm w P) w) P = L * pt_sm w P := h1.symm
  rw [Nat.mul_sub, Nat.mul_comm _ L]
  omega
theorem pt_ov_s {L A : Nat} {w : Nat → Nat} {n : Nat} : pt_ov L A w (n + 1) = pt_ov L A w n - pt_q L A w n := by
  unfold pt_ov
  simp only [pt_sm]
  omega
theorem pt_q_le {L : Nat} {w : Nat → Nat} {P n : Nat} (h : 0 < pt_sm w P) (hn : n < P) : pt_q L (pt_sm w P) w n ≤ pt_ov L (pt_sm w P) w n := by
  have h1 := (pt_over (L := L) h).1
  have h2 := pt_sm_mono (w := pt_q L (pt_sm w P) w) (n + 1) (P - (n + 1))
  rw [show n + 1 + (P - (n + 1)) = P by omega] at h2
  simp only [pt_sm] at h2
  unfold pt_ov
  omega
/-- the first with the greatest rest, among the first n -/
def pt_top (R : Nat → Option Nat) : Nat → Option Nat
  | 0 => none
  | n + 1 => match R n with
    | none => pt_top R n
    | some x => match pt_top R n with
      | none => some n
      | some b => if (R b).getD 0 < x then some n else some b
theorem pt_top_some {R : Nat → Option Nat} : ∀ {n b : Nat}, pt_top R n = some b → b < n ∧ ∃ x, R b = some x
  | 0, b, h => by cases h
  | n + 1, b, h => by
    unfold pt_top at h
    cases hq : R n with
    | none =>
      rw [hq] at h
      have := pt_top_some h
      exact ⟨by omega, this.2⟩
    | some x =>
      rw [hq] at h
      cases ht : pt_top R n with
      | none =>
        rw [ht] at h
        cases h
        exact ⟨by omega, x, hq⟩
      | some c =>
        rw [ht] at h
        have := pt_top_some ht
        dsimp only at h
        split at h
        · cases h; exact ⟨by omega, x, hq⟩
        · cases h; exact ⟨by omega, this.2⟩
def pt_cnt (R : Nat → Option Nat) : Nat → Nat
  | 0 => 0
  | n + 1 => pt_cnt R n + (match R n with | none => 0 | some _ => 1)
theorem pt_top_none {R : Nat → Option Nat} : ∀ {n : Nat}, pt_top R n = none → pt_cnt R n = 0
  | 0, _ => rfl
  | n + 1, h => by
    unfold pt_top at h
    simp only [pt_cnt]
    cases hq : R n with
    | none => rw [hq] at h; dsimp only at h ⊢; rw [pt_top_none h]
    | some x =>
      rw [hq] at h
      cases ht : pt_top R n with
      | none => rw [ht] at h; cases h
      | some c => rw [ht] at h; dsimp only at h; split at h <;> cases h
def pt_off (R : Nat → Option Nat) (b : Nat) : Nat → Option Nat := fun j => if j = b then none else R j
theorem pt_cnt_out {R : Nat → Option Nat} {b : Nat} : ∀ {n}, n ≤ b → pt_cnt (pt_off R b) n = pt_cnt R n
  | 0, _ => rfl
  | n + 1, h => by
    simp only [pt_cnt]
    rw [pt_cnt_out (by omega), show pt_off R b n = R n from if_neg (by omega)]
theorem pt_cnt_off {R : Nat → Option Nat} {b x : Nat} (hx : R b = some x) : ∀ {n}, b < n → pt_cnt (pt_off R b) n + 1 = pt_cnt R n
  | 0, h => absurd h (by omega)
  | n + 1, h => by
    simp only [pt_cnt]
    by_cases e : b = n
    · subst e
      rw [pt_cnt_out (Nat.le_refl _), show pt_off R b b = none from if_pos rfl, hx]
      rfl
    · have h1 := pt_cnt_off hx (n := n) (by omega)
      rw [show pt_off R b n = R n from if_neg (by omega)]
      omega
/-- a kilogram each to the greatest rests, k of them -/
def pt_giv (P : Nat) (sh : Nat → Nat) (R : Nat → Option Nat) : Nat → (Nat → Nat) × (Nat → Option Nat)
  | 0 => (sh, R)
  | k + 1 => match pt_top (pt_giv P sh R k).2 P with
    | none => pt_giv P sh R k
    | some b => (fun j => if j = b then (pt_giv P sh R k).1 j + 1 else (pt_giv P sh R k).1 j, pt_off (pt_giv P sh R k).2 b)
theorem pt_giv_cnt {P : Nat} {sh : Nat → Nat} {R : Nat → Option Nat} : ∀ {k}, k ≤ pt_cnt R P → pt_cnt (pt_giv P sh R k).2 P = pt_cnt R P - k
  | 0, _ => rfl
  | k + 1, h => by
    have h1 := pt_giv_cnt (P := P) (sh := sh) (R := R) (k := k) (by omega)
    simp only [pt_giv]
    cases ht : pt_top (pt_giv P sh R k).2 P with
    | none =>
      have := pt_top_none ht
      omega
    | some b =>
      obtain ⟨h2, x, h3⟩ := pt_top_some ht
      have := pt_cnt_off h3 h2
      dsimp only
      omega
theorem pt_giv_top {P : Nat} {sh : Nat → Nat} {R : Nat → Option Nat} {k : Nat} (h : k < pt_cnt R P) : ∃ b x, pt_top (pt_giv P sh R k).2 P = some b ∧ b < P ∧ (pt_giv P sh R k).2 b = some x := by
  cases ht : pt_top (pt_giv P sh R k).2 P with
  | none =>
    have h1 := pt_top_none ht
    have h2 := pt_giv_cnt (P := P) (sh := sh) (R := R) (k := k) (by omega)
    omega
  | some b =>
    obtain ⟨h2, x, h3⟩ := pt_top_some ht
    exact ⟨b, x, rfl, h2, h3⟩
def pt_R (L A : Nat) (w : Nat → Nat) (p : Nat) : Option Nat := if w p = 0 then none else some (pt_r L A w p)
theorem pt_rest_le {L A : Nat} {w : Nat → Nat} (hA : 0 < A) : ∀ n, pt_sm (pt_r L A w) n ≤ pt_cnt (pt_R L A w) n * (A - 1)
  | 0 => by simp [pt_sm]
  | n + 1 => by
    have h1 := pt_rest_le (L := L) (w := w) hA n
    simp only [pt_sm, pt_cnt, pt_R]
    by_cases e : w n = 0
    · rw [if_pos e]
      have : pt_r L A w n = 0 := by unfold pt_r; rw [e, Nat.mul_zero, Nat.zero_mod]
      rw [this]
      exact h1
    · rw [if_neg e]
      have h2 : pt_r L A w n < A := Nat.mod_lt _ hA
      dsimp only
      rw [Nat.add_mul, Nat.one_mul]
      have h3 := h1
      unfold pt_R at h3
      omega
theorem pt_cnt_pos {L A : Nat} {w : Nat → Nat} : ∀ {n}, 0 < pt_sm w n → 0 < pt_cnt (pt_R L A w) n
  | 0, h => absurd h (by simp [pt_sm])
  | n + 1, h => by
    simp only [pt_sm] at h
    simp only [pt_cnt]
    by_cases e : w n = 0
    · have h1 := pt_cnt_pos (L := L) (A := A) (w := w) (n := n) (by omega)
      omega
    · rw [show pt_R L A w n = some (pt_r L A w n) from if_neg e]
      dsimp only
      omega
/-- less is over than there are rests -/
theorem pt_few {L : Nat} {w : Nat → Nat} {P : Nat} (h : 0 < pt_sm w P) : pt_ov L (pt_sm w P) w P < pt_cnt (pt_R L (pt_sm w P) w) P := by
  have h1 := (pt_over (L := L) h).2
  have h2 := pt_rest_le (L := L) (w := w) h P
  have h3 := pt_cnt_pos (L := L) (A := pt_sm w P) h
  rw [← h1] at h2
  refine Nat.lt_of_not_le fun q => ?_
  have h4 : pt_sm w P * pt_cnt (pt_R L (pt_sm w P) w) P ≤ pt_sm w P * pt_ov L (pt_sm w P) w P := Nat.mul_le_mul_left _ q
  have h5 := Nat.le_trans h4 h2
  rw [Nat.mul_comm _ (pt_sm w P - 1), Nat.sub_mul, Nat.one_mul] at h5
  have h6 : pt_cnt (pt_R L (pt_sm w P) w) P ≤ pt_sm w P * pt_cnt (pt_R L (pt_sm w P) w) P := Nat.le_mul_of_pos_left _ h
  omega
theorem pt_giv_le {P : Nat} {sh : Nat → Nat} {R : Nat → Option Nat} (p : Nat) : ∀ k, (pt_giv P sh R k).1 p ≤ sh p + k
  | 0 => Nat.le_refl _
  | k + 1 => by
    have := pt_giv_le (P := P) (sh := sh) (R := R) p k
    simp only [pt_giv]
    split
    · omega
    · dsimp only
      split <;> omega
/-- what p has -/
def pt_share (f : Nat) (most : Bool) (I : Nat → Bool) (w : Nat → Nat) (P L p : Nat) : Nat :=
  if pt_sm w P = 0 then pt_s f I L p
  else if most = true then (pt_giv P (fun j => pt_s f I L j + pt_q (pt_lf f I L P) (pt_sm w P) w j) (pt_R (pt_lf f I L P) (pt_sm w P) w) (pt_ov (pt_lf f I L P) (pt_sm w P) w P)).1 p
  else pt_s f I L p + pt_q (pt_lf f I L P) (pt_sm w P) w p
/-! by bids -/
def pt_b1 (I : Nat → Bool) (K C : Nat → Int32) (v : Int32) (r : Int32 × (Nat → Int32)) : Nat → Int32 × (Nat → Int32)
  | 0 => r
  | n + 1 => if I n = true ∧ ¬ K n = 0 ∧ C n = v then ((pt_b1 I K C v r n).1 - sp_least (K n) (pt_b1 I K C v r n).1, upd (pt_b1 I K C v r n).2 n (sp_least (K n) (pt_b1 I K C v r n).1)) else pt_b1 I K C v r n
end PT

section M10
def pt_bA (I : Nat → Bool) (K C : Nat → Int32) (L : Int32) (P : Nat) : Nat → Int32 × (Nat → Int32)
  | 0 => (L, fun _ => 0)
  | n + 1 => pt_b1 I K C (sp_bidv n) (pt_bA I K C L P n) P
theorem pt_b1_cg {I : Nat → Bool} {K C : Nat → Int32} {v : Int32} {r r' : Int32 × (Nat → Int32)} (h1 : r.1 = r'.1) (h2 : ∀ p, p < 12 → r.2 p = r'.2 p) : ∀ n, (pt_b1 I K C v r n).1 = (pt_b1 I K C v r' n).1 ∧ ∀ p, p < 12 → (pt_b1 I K C v r n).2 p = (pt_b1 I K C v r' n).2 p
  | 0 => ⟨h1, h2⟩
  | n + 1 => by
    obtain ⟨e1, e2⟩ := pt_b1_cg (I := I) (K := K) (C := C) (v := v) h1 h2 n
    simp only [pt_b1]
    split
    · refine ⟨by rw [e1], fun p hp => ?_⟩
      dsimp only
      by_cases e : p = n
      · subst e; rw [pk_us, pk_us, e1]
      · rw [pk_un e, pk_un e]; exact e2 p hp
    · exact ⟨e1, e2⟩
/-- the same but for the scratch of a parting -/
def sp_eqM (T S : mo_S) : Prop := ∀ k, (k < 42 ∨ 52 < k) → T.1 k = S.1 k
theorem sp_eqM_r (S : mo_S) : sp_eqM S S := fun _ _ => rfl
theorem sp_eqM_F {T S : mo_S} (h : sp_eqM T S) : sp_eqF T S := ⟨h _ (by decide), h _ (by decide), h _ (by decide), h _ (by decide), h _ (by decide), h _ (by decide), h _ (by decide), h _ (by decide)⟩
theorem sp_eqM_u {T S : mo_S} {k i : Nat} {v : Int32} (hk : 42 ≤ k ∧ k ≤ 52) (h : sp_eqM T S) : sp_eqM (mo_up T k i v) S := by
  intro j hj
  rw [← h j hj]
  funext b
  have e : j ≠ k := by omega
  simp [mo_up, e]
theorem sp_eqM_uL {T S : mo_S} {i : Nat} {v : Int64} (h : sp_eqM T S) : sp_eqM (mo_upL T i v) S := h
theorem sp_eqM_N {T U S : mo_S} (h : sp_eqN T U) (h2 : sp_eqM U S) : sp_eqM T S := fun k hk => by rw [h.1 k (by omega), h2 k hk]
theorem sp_eqM_t {T U S : mo_S} (h : sp_eqM T U) (h2 : sp_eqM U S) : sp_eqM T S := fun k hk => by rw [h k hk, h2 k hk]
def sp_I (S : mo_S) (p : Nat) : Bool := sp_X12_isIn S (nI p)
theorem sp_I_cong {T S : mo_S} (h : T.1 12 = S.1 12) (h2 : T.1 53 = S.1 53) (p : Nat) : sp_X12_isIn T (nI p) = sp_I S p := by
  unfold sp_I sp_X12_isIn
  rw [h, h2]
theorem sp_eqM_I {T S : mo_S} (h : sp_eqM T S) (p : Nat) : sp_X12_isIn T (nI p) = sp_I S p := sp_I_cong (h _ (by decide)) (h _ (by decide)) p
theorem sp_bid1_is {v : Int32} {r0 : Int32 × mo_S} : ∀ n, (sp_bid1 v r0 n).1 = (pt_b1 (sp_I r0.2) (r0.2.1 14) (r0.2.1 15) v (r0.1, r0.2.1 51) n).1 ∧ (sp_bid1 v r0 n).2.1 51 = (pt_b1 (sp_I r0.2) (r0.2.1 14) (r0.2.1 15) v (r0.1, r0.2.1 51) n).2
  | 0 => ⟨rfl, rfl⟩
  | n + 1 => by
    obtain ⟨e1, e2⟩ := sp_bid1_is (v := v) (r0 := r0) n
    have e3 := sp_I_cong (sp_bid1_ne (v := v) (r0 := r0) (k := 12) (by decide) n) (sp_bid1_ne (v := v) (r0 := r0) (k := 53) (by decide) n) n
    have e4 := sp_bid1_ne (v := v) (r0 := r0) (k := 14) (by decide) n
    have e5 := sp_bid1_ne (v := v) (r0 := r0) (k := 15) (by decide) n
    simp only [sp_bid1, pt_b1]
    rw [e3, e4, e5]
    cases hI : sp_I r0.2 n with
    | false => rw [if_pos (show mo_b false = 0 from rfl), if_neg (by simp)]; exact ⟨e1, e2⟩
    | true =>
      rw [if_neg (show ¬ mo_b true = 0 by decide)]
      by_cases h1 : r0.2.1 14 n = 0
      · rw [if_pos h1, if_neg (fun q => q.2.1 h1)]; exact ⟨e1, e2⟩
      · rw [if_neg h1]
        by_cases h2 : r0.2.1 15 n = v
        · rw [if_pos h2, if_pos ⟨rfl, h1, h2⟩]
          refine ⟨by rw [e1], ?_⟩
          dsimp only
          rw [mo_up_at, e1, e2]
        · rw [if_neg h2, if_neg (fun q => h2 q.2.2)]; exact ⟨e1, e2⟩
theorem sp_bidA_is {S : mo_S} {L : Int32} {P : Nat} (hz : ∀ p, p < 12 → S.1 51 p = 0) : ∀ n, (sp_bidA S L P n).1 = (pt_bA (sp_I S) (S.1 14) (S.1 15) L P n).1 ∧ ∀ p, p < 12 → (sp_bidA S L P n).2.1 51 p = (pt_bA (sp_I S) (S.1 14) (S.1 15) L P n).2 p
  | 0 => ⟨rfl, hz⟩
  | n + 1 => by
    obtain ⟨e1, e2⟩ := sp_bidA_is (S := S) (L := L) (P := P) hz n
    have e3 := sp_bid1_is (v := sp_bidv n) (r0 := sp_bidA S L P n) P
    rw [show sp_I (sp_bidA S L P n).2 = sp_I S from funext fun p => sp_I_cong (sp_bidA_ne (by decide) n) (sp_bidA_ne (by decide) n) p, sp_bidA_ne (k := 14) (by decide) n, sp_bidA_ne (k := 15) (by decide) n] at e3
    have e4 := pt_b1_cg (I := sp_I S) (K := S.1 14) (C := S.1 15) (v := sp_bidv n) (r := ((sp_bidA S L P n).1, (sp_bidA S L P n).2.1 51)) (r' := pt_bA (sp_I S) (S.1 14) (S.1 15) L P n) e1 e2 P
    rw [sp_bidA, pt_bA]
    exact ⟨e3.1.trans e4.1, fun p hp => (congrFun e3.2 p).trans (e4.2 p hp)⟩
theorem sp_named_cong {T S : mo_S} (h2 : T.1 2 = S.1 2) (h : ∀ k, 42 ≤ k → k ≤ 48 → T.1 k 0 = S.1 k 0) : sp_X12_named T = sp_X12_named S := by
  funext n
  unfold sp_X12_named
  rw [h2, h 42 (by decide) (by decide), h 43 (by decide) (by decide), h 44 (by decide) (by decide), h 45 (by decide) (by decide), h 46 (by decide) (by decide), h 47 (by decide) (by decide), h 48 (by decide) (by decide)]
theorem sp_part_cong {T S : mo_S} {F : mo_Fn} (h : sp_eqF T S) (h2 : ∀ k, 42 ≤ k → k ≤ 48 → T.1 k 0 = S.1 k 0) : sp_part T F = sp_part S F := by
  unfold sp_part
  rw [sp_eqF_teller h, h2 43 (by decide) (by decide), sp_named_cong h.1 h2]
theorem sp_price_cong {T S : mo_S} {F : mo_Fn} (h : sp_eqF T S) (h2 : ∀ k, 42 ≤ k → k ≤ 48 → T.1 k 0 = S.1 k 0) : sp_price T F = sp_price S F := by
  unfold sp_price
  rw [sp_eqF_teller h, sp_named_cong h.1 h2]
theorem sp_means_cong {T S : mo_S} (h : ∀ k, k < 42 → T.1 k = S.1 k) (x : Int32) : ∀ k, 42 ≤ k → k ≤ 48 → (sp_X12_means T x).1 k 0 = (sp_X12_means S x).1 k 0 := by
  intro k h1 h2
  have e : k = 42 ∨ k = 43 ∨ k = 44 ∨ k = 45 ∨ k = 46 ∨ k = 47 ∨ k = 48 := by omega
  rcases e with rfl | rfl | rfl | rfl | rfl | rfl | rfl <;> simp [sp_X12_means, mo_up, h 3 (by decide), h 4 (by decide), h 5 (by decide), h 6 (by decide), h 7 (by decide), h 10 (by decide), h 13 (by decide)]
theorem sp_eqN_envW (S : mo_S) (x1 : Int32) : sp_eqN (sp_envW S x1) S := by
  unfold sp_envW
  split <;> repeat (first | exact sp_eqN_means S x1 | refine sp_eqN_u (by decide) ?_)
theorem sp_envW_cong {T S : mo_S} (h : sp_eqM T S) (x : Int32) : ∀ k, 42 ≤ k → k ≤ 48 → (sp_envW T x).1 k 0 = (sp_envW S x).1 k 0 := by
  have e0 := sp_means_cong (fun k hk => h k (by omega)) x
  have e1 : (sp_X12_means T x).1 54 0 = (sp_X12_means S x).1 54 0 := by rw [(sp_eqN_means T x).1 54 (by decide), (sp_eqN_means S x).1 54 (by decide), h 54 (by decide)]
  have e2 : (sp_X12_means T x).1 53 0 = (sp_X12_means S x).1 53 0 := by rw [(sp_eqN_means T x).1 53 (by decide), (sp_eqN_means S x).1 53 (by decide), h 53 (by decide)]
  have e3 : ∀ k, k < 42 → (sp_X12_means T x).1 k = (sp_X12_means S x).1 k := fun k hk => by rw [(sp_eqN_means T x).1 k (by omega), (sp_eqN_means S x).1 k (by omega), h k (by omega)]
  intro k h1 h2
  unfold sp_envW
  rw [e1, e2, e3 4 (by decide), e3 5 (by decide), e3 10 (by decide)]
  split
  · have e : k = 42 ∨ k = 43 ∨ k = 44 ∨ k = 45 ∨ k = 46 ∨ k = 47 ∨ k = 48 := by omega
    have q := e0 k h1 h2
    rcases e with rfl | rfl | rfl | rfl | rfl | rfl | rfl <;> simp [mo_up] <;> exact q
  · exact e0 k h1 h2
theorem sp_eqM_weight {T S : mo_S} {F : mo_Fn} (h : sp_eqM T S) (x way : Int32) : sp_weight T F x way = sp_weight S F x way := by
  unfold sp_weight
  have e1 : sp_eqF (sp_envW T x) (sp_envW S x) := by
    have a := sp_eqN_F (sp_eqN_envW T x)
    have b := sp_eqN_F (sp_eqN_envW S x)
    have c := sp_eqM_F h
    unfold sp_eqF at a b c ⊢
    rw [a.1, a.2.1, a.2.2.1, a.2.2.2.1, a.2.2.2.2.1, a.2.2.2.2.2.1, a.2.2.2.2.2.2.1, a.2.2.2.2.2.2.2, b.1, b.2.1, b.2.2.1, b.2.2.2.1, b.2.2.2.2.1, b.2.2.2.2.2.1, b.2.2.2.2.2.2.1, b.2.2.2.2.2.2.2]
    exact c
  rw [sp_part_cong e1 (sp_envW_cong h x), h 8 (by decide)]
def sp_w (S : mo_S) (F : mo_Fn) (x2 : Int32) (p : Nat) : Nat := if sp_I S p = true then (sp_weight S F (nI p) x2).toNatClampNeg else 0
/-- what the parting asks for -/
def pa_H (S : mo_S) (F : mo_Fn) (f L : Nat) (x2 : Int32) (d : Nat) : Prop :=
  6 ≤ d ∧ S.1 1 0 = nI (sp_P S) ∧ sp_P S ≤ 12 ∧ S.1 29 0 = nI (sp_O S) ∧ sp_O S ≤ 10 ∧ (∀ b, b < sp_O S → ∃ C, C ≤ 12 ∧ S.1 37 b = nI C) ∧ mo_FF S F ∧ (∀ p, p < 12 → nI p = S.1 54 0 → vp_in (S.1 53 0) 12) ∧ L ≤ 200000 ∧ sp_X12_much S 9 = nI f ∧ f ≤ 9999 ∧ (∀ p, p < sp_P S → sp_I S p = true → sp_weight S F (nI p) x2 = nI (sp_w S F x2 p) ∧ sp_w S F x2 p ≤ 1000000)
def pa_lf (S : mo_S) (f L : Nat) : Nat := pt_lf f (sp_I S) L (sp_P S)
def pa_A (S : mo_S) (F : mo_Fn) (x2 : Int32) : Nat := pt_sm (sp_w S F x2) (sp_P S)
def pa_ov (S : mo_S) (F : mo_Fn) (f L : Nat) (x2 : Int32) : Nat := pt_ov (pa_lf S f L) (pa_A S F x2) (sp_w S F x2) (sp_P S)
def pa_sh0 (S : mo_S) (F : mo_Fn) (f L : Nat) (x2 : Int32) (j : Nat) : Nat := pt_s f (sp_I S) L j + pt_q (pa_lf S f L) (pa_A S F x2) (sp_w S F x2) j
def pa_R0 (S : mo_S) (F : mo_Fn) (f L : Nat) (x2 : Int32) : Nat → Option Nat := pt_R (pa_lf S f L) (pa_A S F x2) (sp_w S F x2)
def pa_g (S : mo_S) (F : mo_Fn) (f L : Nat) (x2 : Int32) (k : Nat) : (Nat → Nat) × (Nat → Option Nat) := pt_giv (sp_P S) (pa_sh0 S F f L x2) (pa_R0 S F f L x2) k
/-- what paper p has of a pool of L kilograms -/
def sp_sh (S : mo_S) (F : mo_Fn) (f L : Nat) (x2 : Int32) (p : Nat) : Int32 := if x2 = 3 then (pt_bA (sp_I S) (S.1 14) (S.1 15) (nI L) (sp_P S) 101).2 p else nI (pt_share f (decide (sp_X12_much S 10 = 1)) (sp_I S) (sp_w S F x2) (sp_P S) L p)
def pa_P (G : ev_G) (W : mo_W) (g0 : ev_H) (S : mo_S) (F : mo_Fn) (f L : Nat) (x2 : Int32) : ev_P := fun o g' => ∃ r S2, o = .inl r ∧ (r = none ∧ sp_eqM S2 S ∧ ∀ p, p < sp_P S → S2.1 51 p = sp_sh S F f L x2 p) ∧ mo_T G W g0 g' S2
theorem pa_w_in {S : mo_S} {F : mo_Fn} {f L d : Nat} {x2 : Int32} (h : pa_H S F f L x2 d) {p : Nat} (hp : p < sp_P S) : sp_w S F x2 p ≤ 1000000 := by
  unfold sp_w
  by_cases e : sp_I S p = true
  · have q := (h.2.2.2.2.2.2.2.2.2.2.2 p hp e).2
    unfold sp_w at q
    exact q
  · rw [if_neg e]; omega
theorem pa_A_le {S : mo_S} {F : mo_Fn} {f L d : Nat} {x2 : Int32} (h : pa_H S F f L x2 d) {n : Nat} (hn : n ≤ sp_P S) : pt_sm (sp_w S F x2) n ≤ 12000000 := by
  have h1 := pt_sm_le (w := sp_w S F x2) (n := n) (c := 1000000) (fun j hj => pa_w_in h (by omega))
  have h2 := h.2.2.1
  have h3 : n * 1000000 ≤ 12 * 1000000 := Nat.mul_le_mul_right _ (by omega)
  omega
theorem pa_w_out {S : mo_S} {F : mo_Fn} {x2 : Int32} {p : Nat} (h : sp_I S p = false) : sp_w S F x2 p = 0 := by unfold sp_w; rw [h]; rfl
def pt_rl : Option Nat → Int64
  | none => -1
  | some x => lN x
theorem pa_R {S : mo_S} {F : mo_Fn} {f L : Nat} {x2 : Int32} (j : Nat) : ∀ k, (pa_g S F f L x2 k).2 j = none ∨ (pa_g S F f L x2 k).2 j = pa_R0 S F f L x2 j
  | 0 => Or.inr rfl
  | k + 1 => by
    have h := pa_R (S := S) (F := F) (f := f) (L := L) (x2 := x2) j k
    unfold pa_g at h ⊢
    simp only [pt_giv]
    split
    · exact h
    · dsimp only [pt_off]
      split
      · exact Or.inl rfl
      · exact h
theorem pa_R_out {S : mo_S} {F : mo_Fn} {f L : Nat} {x2 : Int32} {j k : Nat} (h : sp_I S j = false) : (pa_g S F f L x2 k).2 j = none := by
  rcases pa_R (S := S) (F := F) (f := f) (L := L) (x2 := x2) j k with q | q
  · exact q
  · rw [q]
    unfold pa_R0 pt_R
    rw [pa_w_out h]
    rfl
theorem pa_R_lt {S : mo_S} {F : mo_Fn} {f L d : Nat} {x2 : Int32} (h : pa_H S F f L x2 d) (hA : 0 < pa_A S F x2) {j k x : Nat} (hx : (pa_g S F f L x2 k).2 j = some x) : x < 12000000 := by
  rcases pa_R (S := S) (F := F) (f := f) (L := L) (x2 := x2) j k with q | q
  · rw [q] at hx; cases hx
  · rw [q] at hx
    unfold pa_R0 pt_R at hx
    split at hx
    · cases hx
    · cases hx
      have h1 := pa_A_le h (Nat.le_refl _)
      have h2 := Nat.mod_lt (pa_lf S f L * sp_w S F x2 j) hA
      unfold pt_r
      unfold pa_A at h2 ⊢
      omega
theorem pt_top_n {R : Nat → Option Nat} {n : Nat} (h : R n = none) : pt_top R (n + 1) = pt_top R n := by rw [pt_top, h]
theorem pt_top_f {R : Nat → Option Nat} {n x : Nat} (h : R n = some x) (h2 : pt_top R n = none) : pt_top R (n + 1) = some n := by rw [pt_top, h, h2]
theorem pt_top_g {R : Nat → Option Nat} {n x b y : Nat} (h : R n = some x) (h2 : pt_top R n = some b) (h3 : R b = some y) (h4 : y < x) : pt_top R (n + 1) = some n := by
  rw [pt_top, h, h2]
  dsimp only
  rw [h3, if_pos (show (some y).getD 0 < x from h4)]
theorem pt_top_l {R : Nat → Option Nat} {n x b y : Nat} (h : R n = some x) (h2 : pt_top R n = some b) (h3 : R b = some y) (h4 : ¬ y < x) : pt_top R (n + 1) = some b := by
  rw [pt_top, h, h2]
  dsimp only
  rw [h3, if_neg (show ¬ (some y).getD 0 < x from h4)]
theorem pt_rl_neg {r : Option Nat} (h : ∀ x, r = some x → x < 9000000000000000000) : lg_cmp (pt_rl r) 0 < 0 ↔ r = none := by
  rw [lg_cmp_lt]
  cases r with
  | none => exact ⟨fun _ => rfl, fun _ => by decide⟩
  | some x =>
    refine ⟨fun q => ?_, fun q => by cases q⟩
    have h1 := h x rfl
    have q2 : lN x < lN 0 := q
    have := (pk_lLT (show x < 2 ^ 63 by omega) (show 0 < 2 ^ 63 by decide)).mp q2
    exact absurd this (by omega)
/-- round k of what is over: what the state tells -/
def pa_J (S : mo_S) (F : mo_Fn) (f L : Nat) (x2 : Int32) (k : Nat) (T : mo_S) : Prop := sp_eqM T S ∧ (∀ j, j < sp_P S → T.1 51 j = nI ((pa_g S F f L x2 k).1 j)) ∧ ∀ j, j < sp_P S → sp_I S j = true → T.2 j = pt_rl ((pa_g S F f L x2 k).2 j)

theorem pa_top {G : ev_G} {W : mo_W} {d : Nat} {g0 : ev_H} {S : mo_S} {F : mo_Fn} {f L : Nat} {x2 : Int32} (hE : ev_En G) (h : pa_H S F f L x2 d) {T : mo_S} {k : Nat} (hA : 0 < pa_A S F x2) (hJ : pa_J S F f L x2 k T) (K : ∀ g, mo_T G W g0 g T → ev_V G d 0 0 mX12_parts (pa_P G W g0 S F f L x2) g 322 [some (.ref W.1), some (.int (nI L)), some (.int x2), some (.int (nI f)), some (.int (nI (pa_lf S f L))), some (.int (nI ((pa_ov S F f L x2) - k))), some (.long (lN (pa_A S F x2))), none, some (.int (sp_opt (pt_top (pa_g S F f L x2 k).2 (sp_P S)))), some (.int (nI (sp_P S))), none] [])  : ∀ (n p : Nat), p ≤ sp_P S → sp_P S < p + n → ∀ (u : Unit), u = () → ∀ g, mo_T G W g0 g T → ev_V G d 0 0 mX12_parts (pa_P G W g0 S F f L x2) g 259 [some (.ref W.1), some (.int (nI L)), some (.int x2), some (.int (nI f)), some (.int (nI (pa_lf S f L))), some (.int (nI ((pa_ov S F f L x2) - k))), some (.long (lN (pa_A S F x2))), none, some (.int (sp_opt (pt_top (pa_g S F f L x2 k).2 p))), some (.int (nI p)), none] [] := by
  intro n
  induction n with
  | zero => intro p h1 h2; exact absurd h2 (by omega)
  | succ n ih =>
    intro p h1 h2 u hI g hT
    obtain ⟨hd, hP, hP2, hO, hO2, hC, hF, hwi, hL, hf, hf2, hw⟩ := id h
    obtain ⟨hM, hJ1, hJ2⟩ := id hJ
    have hP9 : T.1 1 0 = nI (sp_P S) := by rw [hM 1 (by decide)]; exact hP
    refine ev_iload dX12_parts_259 rfl ?_
    refine ev_aload_n dX12_parts_261 rfl rfl ?_
    refine mo_geti hE hT dX12_parts_262 fX12_185 (by decide) ?_
    refine ev_icmp_ge (tgt := 322) dX12_parts_265 (by decide) (fun c_265 => ?_) (fun c_265 => ?_)
    · have e : p = sp_P S := by have q := mo_ige hP9 (by omega) (by omega) c_265; omega
      subst e
      exact K g hT
    · have hlt : p < sp_P S := mo_ilt hP9 (by omega) (by omega) c_265
      refine ev_aload_n dX12_parts_268 rfl rfl ?_
      refine ev_iload dX12_parts_269 rfl ?_
      refine mo_call1 (d' := d - 1) hE hT dX12_parts_271 rfl rfl kX12_isIn lX12_418 iX12_isIn vX12_isIn (Nat.le_of_ble_eq_true rfl) (by omega) (c_X12_isIn hE (vp_in_nI (by omega) (by decide))) (fun g hT => ?_)
      rw [sp_eqM_I hM]
      refine ev_if_eq (tgt := 316) dX12_parts_274 (by decide) (fun c_274 => ?_) (fun c_274 => ?_)
      · refine ev_iinc (v := (nI (p + 1))) dX12_parts_316 rfl (by exact nI_1 p) rfl ?_
        refine ev_goto (tgt := 259) dX12_parts_319 (by decide) ?_
        have hlt : p < sp_P S := mo_ilt hP9 (by omega) (by omega) c_265
        have e8 : ∀ z, z = sp_opt (pt_top (pa_g S F f L x2 k).2 (p + 1)) → ev_V G d 0 0 mX12_parts (pa_P G W g0 S F f L x2) g 259 [some (.ref W.1), some (.int (nI L)), some (.int x2), some (.int (nI f)), some (.int (nI (pa_lf S f L))), some (.int (nI ((pa_ov S F f L x2) - k))), some (.long (lN (pa_A S F x2))), none, some (.int z), some (.int (nI (p + 1))), none] [] := fun z hz => by subst hz; exact ih (p + 1) (by omega) (by omega) () rfl g hT
        refine e8 _ ?_
        first
          | (rw [pt_top_n (pa_R_out (Bool.eq_false_iff.mpr (fun q => by rw [q] at c_274; exact absurd c_274 (by decide))))]; done)
          | (rw [pt_top_n ((pt_rl_neg (fun x q => by have := pa_R_lt h hA q; omega)).mp (by rw [← e2]; exact c_286))]; done)
          | (rw [pt_top_l hx hb hy (fun q => by rw [lg_cmp_le, e2, e3, hx, hy] at c_309; exact absurd q (Nat.not_lt.mpr ((pk_lLE (show x < 2 ^ 63 by omega) (show y < 2 ^ 63 by omega)).mp c_309))), hb]; done)
          | (rw [pt_top_g hx hb hy (by rw [lg_cmp_le, e2, e3, hx, hy] at c_309; exact Nat.lt_of_not_le (fun q => c_309 ((pk_lLE (show x < 2 ^ 63 by omega) (show y < 2 ^ 63 by omega)).mpr q)))]; rfl)
          | (rw [pt_top_f hx (by
              cases hq : pt_top (pa_g S F f L x2 k).2 p with
              | none => rfl
              | some b => rw [hq] at c_291; exact absurd c_291 (nI_pos (by have := (pt_top_some hq).1; omega)))]; rfl)
      · have hi := mo_b_1 c_274
        have e2 := hJ2 p hlt hi
        refine ev_aload_n dX12_parts_277 rfl rfl ?_
        refine mo_geta hE hT dX12_parts_278 fX12_111 (by decide) ?_
        refine ev_iload dX12_parts_281 rfl ?_
        refine mo_lald (q := p) hE hT dX12_parts_283 rfl (by omega) ?_
        refine ev_lconst (v := 0) dX12_parts_284 (by decide) ?_
        refine ev_lcmp dX12_parts_285 ?_
        refine ev_if_lt (tgt := 316) dX12_parts_286 (by decide) (fun c_286 => ?_) (fun c_286 => ?_)
        · refine ev_iinc (v := (nI (p + 1))) dX12_parts_316 rfl (by exact nI_1 p) rfl ?_
          refine ev_goto (tgt := 259) dX12_parts_319 (by decide) ?_
          have hlt : p < sp_P S := mo_ilt hP9 (by omega) (by omega) c_265
          have e8 : ∀ z, z = sp_opt (pt_top (pa_g S F f L x2 k).2 (p + 1)) → ev_V G d 0 0 mX12_parts (pa_P G W g0 S F f L x2) g 259 [some (.ref W.1), some (.int (nI L)), some (.int x2), some (.int (nI f)), some (.int (nI (pa_lf S f L))), some (.int (nI ((pa_ov S F f L x2) - k))), some (.long (lN (pa_A S F x2))), none, some (.int z), some (.int (nI (p + 1))), none] [] := fun z hz => by subst hz; exact ih (p + 1) (by omega) (by omega) () rfl g hT
          refine e8 _ ?_
          first
            | (rw [pt_top_n (pa_R_out (Bool.eq_false_iff.mpr (fun q => by rw [q] at c_274; exact absurd c_274 (by decide))))]; done)
            | (rw [pt_top_n ((pt_rl_neg (fun x q => by have := pa_R_lt h hA q; omega)).mp (by rw [← e2]; exact c_286))]; done)
            | (rw [pt_top_l hx hb hy (fun q => by rw [lg_cmp_le, e2, e3, hx, hy] at c_309; exact absurd q (Nat.not_lt.mpr ((pk_lLE (show x < 2 ^ 63 by omega) (show y < 2 ^ 63 by omega)).mp c_309))), hb]; done)
            | (rw [pt_top_g hx hb hy (by rw [lg_cmp_le, e2, e3, hx, hy] at c_309; exact Nat.lt_of_not_le (fun q => c_309 ((pk_lLE (show x < 2 ^ 63 by omega) (show y < 2 ^ 63 by omega)).mpr q)))]; rfl)
            | (rw [pt_top_f hx (by
                cases hq : pt_top (pa_g S F f L x2 k).2 p with
                | none => rfl
                | some b => rw [hq] at c_291; exact absurd c_291 (nI_pos (by have := (pt_top_some hq).1; omega)))]; rfl)
        · obtain ⟨x, hx⟩ : ∃ x, (pa_g S F f L x2 k).2 p = some x := by
            cases hq : (pa_g S F f L x2 k).2 p with
            | none => rw [e2, hq] at c_286; exact absurd ((pt_rl_neg (by intro x q; cases q)).mpr rfl) c_286
            | some x => exact ⟨x, rfl⟩
          have hx2 := pa_R_lt h hA hx
          refine ev_iload dX12_parts_289 rfl ?_
          refine ev_if_lt (tgt := 312) dX12_parts_291 (by decide) (fun c_291 => ?_) (fun c_291 => ?_)
          · refine ev_iload dX12_parts_312 rfl ?_
            refine ev_istore dX12_parts_314 (Nat.le_of_ble_eq_true rfl) rfl ?_
            refine ev_iinc (v := (nI (p + 1))) dX12_parts_316 rfl (by exact nI_1 p) rfl ?_
            refine ev_goto (tgt := 259) dX12_parts_319 (by decide) ?_
            have hlt : p < sp_P S := mo_ilt hP9 (by omega) (by omega) c_265
            have e8 : ∀ z, z = sp_opt (pt_top (pa_g S F f L x2 k).2 (p + 1)) → ev_V G d 0 0 mX12_parts (pa_P G W g0 S F f L x2) g 259 [some (.ref W.1), some (.int (nI L)), some (.int x2), some (.int (nI f)), some (.int (nI (pa_lf S f L))), some (.int (nI ((pa_ov S F f L x2) - k))), some (.long (lN (pa_A S F x2))), none, some (.int z), some (.int (nI (p + 1))), none] [] := fun z hz => by subst hz; exact ih (p + 1) (by omega) (by omega) () rfl g hT
            refine e8 _ ?_
            first
              | (rw [pt_top_n (pa_R_out (Bool.eq_false_iff.mpr (fun q => by rw [q] at c_274; exact absurd c_274 (by decide))))]; done)
              | (rw [pt_top_n ((pt_rl_neg (fun x q => by have := pa_R_lt h hA q; omega)).mp (by rw [← e2]; exact c_286))]; done)
              | (rw [pt_top_l hx hb hy (fun q => by rw [lg_cmp_le, e2, e3, hx, hy] at c_309; exact absurd q (Nat.not_lt.mpr ((pk_lLE (show x < 2 ^ 63 by omega) (show y < 2 ^ 63 by omega)).mp c_309))), hb]; done)
              | (rw [pt_top_g hx hb hy (by rw [lg_cmp_le, e2, e3, hx, hy] at c_309; exact Nat.lt_of_not_le (fun q => c_309 ((pk_lLE (show x < 2 ^ 63 by omega) (show y < 2 ^ 63 by omega)).mpr q)))]; rfl)
              | (rw [pt_top_f hx (by
                  cases hq : pt_top (pa_g S F f L x2 k).2 p with
                  | none => rfl
                  | some b => rw [hq] at c_291; exact absurd c_291 (nI_pos (by have := (pt_top_some hq).1; omega)))]; rfl)
          · obtain ⟨b, hb⟩ : ∃ b, pt_top (pa_g S F f L x2 k).2 p = some b := by
              cases hq : pt_top (pa_g S F f L x2 k).2 p with
              | none => rw [hq] at c_291; exact absurd (show (-1 : Int32) < 0 by decide) c_291
              | some b => exact ⟨b, rfl⟩
            obtain ⟨hb2, y, hy⟩ := pt_top_some hb
            have hy2 := pa_R_lt h hA hy
            have hbi : sp_I S b = true := by
              cases hq : sp_I S b with
              | true => rfl
              | false => rw [pa_R_out hq] at hy; cases hy
            have e3 := hJ2 b (by omega) hbi
            refine ev_aload_n dX12_parts_294 rfl rfl ?_
            refine mo_geta hE hT dX12_parts_295 fX12_111 (by decide) ?_
            refine ev_iload dX12_parts_298 rfl ?_
            refine mo_lald (q := p) hE hT dX12_parts_300 rfl (by omega) ?_
            refine ev_aload_n dX12_parts_301 rfl rfl ?_
            refine mo_geta hE hT dX12_parts_302 fX12_111 (by decide) ?_
            refine ev_iload dX12_parts_305 rfl ?_
            refine mo_lald (q := b) hE hT dX12_parts_307 (by rw [hb]; rfl) (by omega) ?_
            refine ev_lcmp dX12_parts_308 ?_
            refine ev_if_le (tgt := 316) dX12_parts_309 (by decide) (fun c_309 => ?_) (fun c_309 => ?_)
            · refine ev_iinc (v := (nI (p + 1))) dX12_parts_316 rfl (by exact nI_1 p) rfl ?_
              refine ev_goto (tgt := 259) dX12_parts_319 (by decide) ?_
              have hlt : p < sp_P S := mo_ilt hP9 (by omega) (by omega) c_265
              have e8 : ∀ z, z = sp_opt (pt_top (pa_g S F f L x2 k).2 (p + 1)) → ev_V G d 0 0 mX12_parts (pa_P G W g0 S F f L x2) g 259 [some (.ref W.1), some (.int (nI L)), some (.int x2), some (.int (nI f)), some (.int (nI (pa_lf S f L))), some (.int (nI ((pa_ov S F f L x2) - k))), some (.long (lN (pa_A S F x2))), none, some (.int z), some (.int (nI (p + 1))), none] [] := fun z hz => by subst hz; exact ih (p + 1) (by omega) (by omega) () rfl g hT
              refine e8 _ ?_
              first
                | (rw [pt_top_n (pa_R_out (Bool.eq_false_iff.mpr (fun q => by rw [q] at c_274; exact absurd c_274 (by decide))))]; done)
                | (rw [pt_top_n ((pt_rl_neg (fun x q => by have := pa_R_lt h hA q; omega)).mp (by rw [← e2]; exact c_286))]; done)
                | (rw [pt_top_l hx hb hy (fun q => by rw [lg_cmp_le, e2, e3, hx, hy] at c_309; exact absurd q (Nat.not_lt.mpr ((pk_lLE (show x < 2 ^ 63 by omega) (show y < 2 ^ 63 by omega)).mp c_309))), hb]; done)
                | (rw [pt_top_g hx hb hy (by rw [lg_cmp_le, e2, e3, hx, hy] at c_309; exact Nat.lt_of_not_le (fun q => c_309 ((pk_lLE (show x < 2 ^ 63 by omega) (show y < 2 ^ 63 by omega)).mpr q)))]; rfl)
                | (rw [pt_top_f hx (by
                    cases hq : pt_top (pa_g S F f L x2 k).2 p with
                    | none => rfl
                    | some b => rw [hq] at c_291; exact absurd c_291 (nI_pos (by have := (pt_top_some hq).1; omega)))]; rfl)
            · refine ev_iload dX12_parts_312 rfl ?_
              refine ev_istore dX12_parts_314 (Nat.le_of_ble_eq_true rfl) rfl ?_
              refine ev_iinc (v := (nI (p + 1))) dX12_parts_316 rfl (by exact nI_1 p) rfl ?_
              refine ev_goto (tgt := 259) dX12_parts_319 (by decide) ?_
              have hlt : p < sp_P S := mo_ilt hP9 (by omega) (by omega) c_265
              have e8 : ∀ z, z = sp_opt (pt_top (pa_g S F f L x2 k).2 (p + 1)) → ev_V G d 0 0 mX12_parts (pa_P G W g0 S F f L x2) g 259 [some (.ref W.1), some (.int (nI L)), some (.int x2), some (.int (nI f)), some (.int (nI (pa_lf S f L))), some (.int (nI ((pa_ov S F f L x2) - k))), some (.long (lN (pa_A S F x2))), none, some (.int z), some (.int (nI (p + 1))), none] [] := fun z hz => by subst hz; exact ih (p + 1) (by omega) (by omega) () rfl g hT
              refine e8 _ ?_
              first
                | (rw [pt_top_n (pa_R_out (Bool.eq_false_iff.mpr (fun q => by rw [q] at c_274; exact absurd c_274 (by decide))))]; done)
                | (rw [pt_top_n ((pt_rl_neg (fun x q => by have := pa_R_lt h hA q; omega)).mp (by rw [← e2]; exact c_286))]; done)
                | (rw [pt_top_l hx hb hy (fun q => by rw [lg_cmp_le, e2, e3, hx, hy] at c_309; exact absurd q (Nat.not_lt.mpr ((pk_lLE (show x < 2 ^ 63 by omega) (show y < 2 ^ 63 by omega)).mp c_309))), hb]; done)
                | (rw [pt_top_g hx hb hy (by rw [lg_cmp_le, e2, e3, hx, hy] at c_309; exact Nat.lt_of_not_le (fun q => c_309 ((pk_lLE (show x < 2 ^ 63 by omega) (show y < 2 ^ 63 by omega)).mpr q)))]; rfl)
                | (rw [pt_top_f hx (by
                    cases hq : pt_top (pa_g S F f L x2 k).2 p with
                    | none => rfl
                    | some b => rw [hq] at c_291; exact absurd c_291 (nI_pos (by have := (pt_top_some hq).1; omega)))]; rfl)
theorem pa_rounds {G : ev_G} {W : mo_W} {d : Nat} {g0 : ev_H} {S : mo_S} {F : mo_Fn} {f L : Nat} {x2 : Int32} (hE : ev_En G) (h : pa_H S F f L x2 d) (hA : 0 < pa_A S F x2) (h3 : ¬ x2 = 3)  : ∀ (n k : Nat), k ≤ (pa_ov S F f L x2) → (pa_ov S F f L x2) < k + n → ∀ (T : mo_S), pa_J S F f L x2 k T → (¬ sp_X12_much S 10 = 1 → k = 0) → ∀ g, mo_T G W g0 g T → ev_V G d 0 0 mX12_parts (pa_P G W g0 S F f L x2) g 238 [some (.ref W.1), some (.int (nI L)), some (.int x2), some (.int (nI f)), some (.int (nI (pa_lf S f L))), some (.int (nI ((pa_ov S F f L x2) - k))), some (.long (lN (pa_A S F x2))), none, none, none, none] [] := by
  intro n
  induction n with
  | zero => intro k h1 h2; exact absurd h2 (by omega)
  | succ n ih =>
    intro k h1 h2 T hI hk0 g hT
    obtain ⟨hM, hJ1, hJ2⟩ := id hI
    have hov : pa_ov S F f L x2 ≤ 200000 := by have a := pt_lf_le f (sp_I S) L (sp_P S); have b := h.2.2.2.2.2.2.2.2.1; unfold pa_ov pt_ov pa_lf; omega
    obtain ⟨hd, hP, hP2, hO, hO2, hC, hF, hwi, hL, hf, hf2, hw⟩ := id h
    refine ev_iload dX12_parts_238 rfl ?_
    refine ev_if_le (tgt := 349) dX12_parts_240 (by decide) (fun c_240 => ?_) (fun c_240 => ?_)
    · refine ev_vret dX12_parts_349 rfl ⟨_, T, rfl, ⟨rfl, hM, fun p hp => ?_⟩, hT⟩
      rw [hJ1 p hp]
      unfold sp_sh
      rw [if_neg h3]
      unfold pt_share
      rw [if_neg (by unfold pa_A at hA; omega)]
      first
        | (rw [if_neg (by simpa using c_250), hk0 (by exact c_250)]; rfl)
        | (have e : k = (pa_ov S F f L x2) := by
            rcases Nat.lt_or_ge k (pa_ov S F f L x2) with q | q
            · exact absurd c_240 (nI_nle (by omega) (by omega))
            · omega
           have e2 : k = pa_ov S F f L x2 := e
           by_cases hm : sp_X12_much S 10 = 1
           · rw [if_pos (by simpa using hm), e]; rfl
           · rw [if_neg (by simpa using hm), hk0 hm]; rfl)
    · have hk3 : k < (pa_ov S F f L x2) := by
        rcases Nat.lt_or_ge k (pa_ov S F f L x2) with q | q
        · exact q
        · exact absurd (show nI ((pa_ov S F f L x2) - k) ≤ 0 by rw [show (pa_ov S F f L x2) - k = 0 by omega]; decide) c_240
      refine ev_aload_n dX12_parts_243 rfl rfl ?_
      refine ev_bipush (v := 10) dX12_parts_244 (by decide) ?_
      refine mo_call1 (d' := d - 1) hE hT dX12_parts_246 rfl rfl kX12_much lX12_412 iX12_much vX12_much (Nat.le_of_ble_eq_true rfl) (by omega) (c_X12_much hE (by omega) (sp_eqF_hO (sp_eqM_F hM) hO) (sp_eqF_hO2 (sp_eqM_F hM) hO2) (sp_eqF_hC (sp_eqM_F hM) hC)) (fun g hT => ?_)
      rw [sp_eqF_much (sp_eqM_F hM)]
      refine ev_iconst (v := 1) dX12_parts_249 (by decide) ?_
      refine ev_icmp_ne (tgt := 349) dX12_parts_250 (by decide) (fun c_250 => ?_) (fun c_250 => ?_)
      · refine ev_vret dX12_parts_349 rfl ⟨_, T, rfl, ⟨rfl, hM, fun p hp => ?_⟩, hT⟩
        rw [hJ1 p hp]
        unfold sp_sh
        rw [if_neg h3]
        unfold pt_share
        rw [if_neg (by unfold pa_A at hA; omega)]
        first
          | (rw [if_neg (by simpa using c_250), hk0 (by exact c_250)]; rfl)
          | (have e : k = (pa_ov S F f L x2) := by
              rcases Nat.lt_or_ge k (pa_ov S F f L x2) with q | q
              · exact absurd c_240 (nI_nle (by omega) (by omega))
              · omega
             have e2 : k = pa_ov S F f L x2 := e
             by_cases hm : sp_X12_much S 10 = 1
             · rw [if_pos (by simpa using hm), e]; rfl
             · rw [if_neg (by simpa using hm), hk0 hm]; rfl)
      · refine ev_iconst (v := (-1)) dX12_parts_253 (by decide) ?_
        refine ev_istore dX12_parts_254 (Nat.le_of_ble_eq_true rfl) rfl ?_
        refine ev_iconst (v := (nI 0)) dX12_parts_256 (by decide) ?_
        refine ev_istore dX12_parts_257 (Nat.le_of_ble_eq_true rfl) rfl ?_
        refine pa_top hE h hA hI (fun g hT => ?_) (sp_P S + 1) 0 (by omega) (by omega) () rfl g hT
        have hk4 : k < pt_cnt (pa_R0 S F f L x2) (sp_P S) := Nat.lt_trans hk3 (by have q := pt_few (L := pa_lf S f L) (w := sp_w S F x2) (P := sp_P S) hA; exact q)
        obtain ⟨b, r0, hb, hb2, hr0⟩ := pt_giv_top (sh := pa_sh0 S F f L x2) hk4
        have hb : pt_top (pa_g S F f L x2 k).2 (sp_P S) = some b := hb
        have hr0 : (pa_g S F f L x2 k).2 b = some r0 := hr0
        have hk5 : nI ((pa_ov S F f L x2) - k) + Int32.ofInt (-1) = nI ((pa_ov S F f L x2) - (k + 1)) := by
          rw [show (pa_ov S F f L x2) - k = ((pa_ov S F f L x2) - (k + 1)) + 1 by omega]
          exact pk_m1 _
        have hbi : sp_I S b = true := by
          cases hq : sp_I S b with
          | true => rfl
          | false => rw [pa_R_out hq] at hr0; cases hr0
        refine ev_aload_n dX12_parts_322 rfl rfl ?_
        refine mo_geta hE hT dX12_parts_323 fX12_108 (by decide) ?_
        refine ev_iload dX12_parts_326 rfl ?_
        refine ev_dup2 dX12_parts_328 rfl rfl ?_
        refine mo_ialdQ (q := b) (v := (nI ((pa_g S F f L x2 k).1 b))) hE hT dX12_parts_329 (by decide) (by rw [hb]; rfl) (show _ < 12 from (by omega)) (hJ1 b hb2) ?_
        refine ev_iconst (v := 1) dX12_parts_330 (by decide) ?_
        refine ev_iadd dX12_parts_331 ?_
        refine mo_iast (q := b) hE hT dX12_parts_332 (by decide) (by rw [hb]; rfl) (show _ < 12 from (by omega)) (fun g hT => ?_)
        refine ev_aload_n dX12_parts_333 rfl rfl ?_
        refine mo_geta hE hT dX12_parts_334 fX12_111 (by decide) ?_
        refine ev_iload dX12_parts_337 rfl ?_
        refine ev_ldc2 dX12_parts_339 nX12_429 ?_
        refine mo_last (q := b) hE hT dX12_parts_342 (by rw [hb]; rfl) (by omega) (fun g hT => ?_)
        refine ev_iinc (v := (nI ((pa_ov S F f L x2) - (k + 1)))) dX12_parts_343 rfl hk5 rfl ?_
        refine ev_goto (tgt := 238) dX12_parts_346 (by decide) ?_
        refine ev_none 8 ?_
        refine ev_none 9 ?_
        have e9 : pa_g S F f L x2 (k + 1) = (fun j => if j = b then (pa_g S F f L x2 k).1 j + 1 else (pa_g S F f L x2 k).1 j, pt_off (pa_g S F f L x2 k).2 b) := by
          show pt_giv _ _ _ (k + 1) = _
          simp only [pt_giv]
          rw [show pt_top (pt_giv (sp_P S) (pa_sh0 S F f L x2) (pa_R0 S F f L x2) k).2 (sp_P S) = some b from hb]
          rfl
        exact ih (k + 1) (by omega) (by omega) _ ⟨sp_eqM_uL (sp_eqM_u (by decide) hM), fun j hj => by
          rw [e9]
          show (mo_up T 51 b (nI ((pa_g S F f L x2 k).1 b) + 1)).1 51 j = _
          rw [mo_up_at, nI_1]
          dsimp only
          by_cases e : j = b
          · subst e; rw [pk_us, if_pos rfl]
          · rw [pk_un e, if_neg e]; exact hJ1 j hj, fun j hj hi => by
          rw [e9]
          show (if j = b then -1 else T.2 j) = pt_rl (pt_off _ b j)
          unfold pt_off
          by_cases e : j = b
          · rw [if_pos e, if_pos e]; rfl
          · rw [if_neg e, if_neg e]; exact hJ2 j hj hi⟩ (fun q => absurd c_250 q) g hT
theorem pa_divs {G : ev_G} {W : mo_W} {d : Nat} {g0 : ev_H} {S : mo_S} {F : mo_Fn} {f L : Nat} {x2 : Int32} (hE : ev_En G) (h : pa_H S F f L x2 d) (hA : 0 < pa_A S F x2) (h3 : ¬ x2 = 3)  : ∀ (n i : Nat), i ≤ sp_P S → sp_P S < i + n → ∀ (T : mo_S), sp_eqM T S ∧ (∀ j, j < sp_P S → T.1 51 j = nI (pt_s f (sp_I S) L j + (if j < i then pt_q (pa_lf S f L) (pa_A S F x2) (sp_w S F x2) j else 0))) ∧ (∀ j, j < sp_P S → sp_I S j = true → T.1 50 j = nI (sp_w S F x2 j)) ∧ (∀ j, j < i → sp_I S j = true → T.2 j = pt_rl (pa_R0 S F f L x2 j)) → ∀ g, mo_T G W g0 g T → ev_V G d 0 0 mX12_parts (pa_P G W g0 S F f L x2) g 142 [some (.ref W.1), some (.int (nI L)), some (.int x2), some (.int (nI f)), some (.int (nI (pa_lf S f L))), some (.int (nI (pt_ov (pa_lf S f L) (pa_A S F x2) (sp_w S F x2) i))), some (.long (lN (pa_A S F x2))), none, some (.int (nI i)), none, none] [] := by
  intro n
  induction n with
  | zero => intro i h1 h2; exact absurd h2 (by omega)
  | succ n ih =>
    intro i h1 h2 T hI g hT
    obtain ⟨hd, hP, hP2, hO, hO2, hC, hF, hwi, hL, hf, hf2, hw⟩ := id h
    obtain ⟨hM, hI1, hI2, hI3⟩ := id hI
    have hP9 : T.1 1 0 = nI (sp_P S) := by rw [hM 1 (by decide)]; exact hP
    refine ev_iload dX12_parts_142 rfl ?_
    refine ev_aload_n dX12_parts_144 rfl rfl ?_
    refine mo_geti hE hT dX12_parts_145 fX12_185 (by decide) ?_
    refine ev_icmp_ge (tgt := 238) dX12_parts_148 (by decide) (fun c_148 => ?_) (fun c_148 => ?_)
    · have e : i = sp_P S := by have q := mo_ige hP9 (by omega) (by omega) c_148; omega
      subst e
      refine ev_none 8 ?_
      refine pa_rounds hE h hA h3 ((pa_ov S F f L x2) + 1) 0 (by omega) (by omega) T ⟨hM, fun j hj => ?_, fun j hj hi2 => hI3 j hj hi2⟩ (fun _ => rfl) g hT
      rw [hI1 j hj, if_pos hj]
      rfl
    · have hlt : i < sp_P S := mo_ilt hP9 (by omega) (by omega) c_148
      refine ev_aload_n dX12_parts_151 rfl rfl ?_
      refine ev_iload dX12_parts_152 rfl ?_
      refine mo_call1 (d' := d - 1) hE hT dX12_parts_154 rfl rfl kX12_isIn lX12_418 iX12_isIn vX12_isIn (Nat.le_of_ble_eq_true rfl) (by omega) (c_X12_isIn hE (vp_in_nI (by omega) (by decide))) (fun g hT => ?_)
      rw [sp_eqM_I hM]
      refine ev_if_ne (tgt := 163) dX12_parts_157 (by decide) (fun c_157 => ?_) (fun c_157 => ?_)
      · have hi : sp_I S i = true := mo_b_1 c_157
        have hw1 := pa_w_in h hlt
        have hA2 := pa_A_le h (Nat.le_refl _)
        have hlf := pt_lf_le f (sp_I S) L (sp_P S)
        have hLW : (pa_lf S f L * sp_w S F x2 i) < 2 ^ 63 := by
          have a : pa_lf S f L ≤ 200000 := by unfold pa_lf; omega
          have b : (pa_lf S f L * sp_w S F x2 i) ≤ 200000 * 1000000 := Nat.mul_le_mul a hw1
          omega
        have eLW : (nI (pa_lf S f L)).toInt64 * (nI (sp_w S F x2 i)).toInt64 = lN (pa_lf S f L * sp_w S F x2 i) := by
          rw [nI_l (by unfold pa_lf; omega), nI_l (by omega), lN_mul]
        have hA3 : pa_A S F x2 < 2 ^ 63 := by unfold pa_A; omega
        have hA0 : ¬ lN (pa_A S F x2) = 0 := fun q => by
          have := (pk_lEQ hA3 (show 0 < 2 ^ 63 by decide)).mp q
          omega
        have eDiv : lN (pa_lf S f L * sp_w S F x2 i) / lN (pa_A S F x2) = lN (pt_q (pa_lf S f L) (pa_A S F x2) (sp_w S F x2) i) := pk_lDiv hLW hA hA3
        have eRem : lN (pa_lf S f L * sp_w S F x2 i) - lN (pa_lf S f L * sp_w S F x2 i) / lN (pa_A S F x2) * lN (pa_A S F x2) = lN (pt_r (pa_lf S f L) (pa_A S F x2) (sp_w S F x2) i) := pk_lRem hLW hA hA3
        have hq9 := pt_q_le (L := pa_lf S f L) (w := sp_w S F x2) hA hlt
        have eOv : nI (pt_ov (pa_lf S f L) (pa_A S F x2) (sp_w S F x2) i) - nI (pt_q (pa_lf S f L) (pa_A S F x2) (sp_w S F x2) i) = nI (pt_ov (pa_lf S f L) (pa_A S F x2) (sp_w S F x2) (i + 1)) := by
          rw [pt_ov_s]
          exact pk_sub hq9
        refine ev_iload dX12_parts_163 rfl ?_
        refine ev_i2l dX12_parts_165 ?_
        refine ev_aload_n dX12_parts_166 rfl rfl ?_
        refine mo_geta hE hT dX12_parts_167 fX12_105 (by decide) ?_
        refine ev_iload dX12_parts_170 rfl ?_
        refine mo_ialdQ (q := i) (v := (nI (sp_w S F x2 i))) hE hT dX12_parts_172 (by decide) rfl (show _ < 12 from (by omega)) (hI2 i hlt hi) ?_
        refine ev_i2l dX12_parts_173 ?_
        refine ev_lmul dX12_parts_174 ?_
        rw [eLW]
        refine ev_lstore dX12_parts_175 (Nat.le_of_ble_eq_true rfl) rfl ?_
        refine ev_aload_n dX12_parts_177 rfl rfl ?_
        refine mo_geta hE hT dX12_parts_178 fX12_108 (by decide) ?_
        refine ev_iload dX12_parts_181 rfl ?_
        refine ev_dup2 dX12_parts_183 rfl rfl ?_
        refine mo_ialdQ (q := i) (v := (nI (pt_s f (sp_I S) L i))) hE hT dX12_parts_184 (by decide) rfl (show _ < 12 from (by omega)) (by rw [hI1 i hlt, if_neg (Nat.lt_irrefl i)]; rfl) ?_
        refine ev_lload dX12_parts_185 rfl ?_
        refine ev_lload dX12_parts_187 rfl ?_
        refine ev_ldiv dX12_parts_189 hA0 ?_
        rw [eDiv]
        refine ev_l2i dX12_parts_190 ?_
        rw [lN_i]
        refine ev_iadd dX12_parts_191 ?_
        rw [nI_add]
        refine mo_iast (q := i) hE hT dX12_parts_192 (by decide) rfl (show _ < 12 from (by omega)) (fun g hT => ?_)
        refine ev_iload dX12_parts_193 rfl ?_
        refine ev_lload dX12_parts_195 rfl ?_
        refine ev_lload dX12_parts_197 rfl ?_
        refine ev_ldiv dX12_parts_199 hA0 ?_
        rw [eDiv]
        refine ev_l2i dX12_parts_200 ?_
        rw [lN_i]
        refine ev_isub dX12_parts_201 ?_
        rw [eOv]
        refine ev_istore dX12_parts_202 (Nat.le_of_ble_eq_true rfl) rfl ?_
        refine ev_aload_n dX12_parts_204 rfl rfl ?_
        refine mo_geta hE hT dX12_parts_205 fX12_111 (by decide) ?_
        refine ev_iload dX12_parts_208 rfl ?_
        refine ev_aload_n dX12_parts_210 rfl rfl ?_
        refine mo_geta hE hT dX12_parts_211 fX12_105 (by decide) ?_
        refine ev_iload dX12_parts_214 rfl ?_
        refine mo_ialdQ (q := i) (v := (nI (sp_w S F x2 i))) hE hT dX12_parts_216 (by decide) rfl (show _ < 12 from (by omega)) (by rw [show (mo_up T 51 i _).1 50 = T.1 50 from funext fun b => by simp [mo_up]]; exact hI2 i hlt hi) ?_
        refine ev_if_ne (tgt := 226) dX12_parts_217 (by decide) (fun c_217 => ?_) (fun c_217 => ?_)
        · refine ev_lload dX12_parts_226 rfl ?_
          refine ev_lload dX12_parts_228 rfl ?_
          refine ev_lrem dX12_parts_230 hA0 ?_
          rw [eRem]
          refine mo_last (q := i) hE hT dX12_parts_231 rfl (by omega) (fun g hT => ?_)
          refine ev_iinc (v := (nI (i + 1))) dX12_parts_232 rfl (by exact nI_1 i) rfl ?_
          refine ev_goto (tgt := 142) dX12_parts_235 (by decide) ?_
          have hlt : i < sp_P S := mo_ilt hP9 (by omega) (by omega) c_148
          first
            | (have hw0 : sp_w S F x2 i = 0 := pa_w_out (Bool.eq_false_iff.mpr (fun q => by rw [q] at c_157; exact absurd c_157 (by decide)))
               have hq0 : (pt_q (pa_lf S f L) (pa_A S F x2) (sp_w S F x2) i) = 0 := by unfold pt_q; rw [hw0, Nat.mul_zero, Nat.zero_div]
               have e7 : (pt_ov (pa_lf S f L) (pa_A S F x2) (sp_w S F x2) i) = (pt_ov (pa_lf S f L) (pa_A S F x2) (sp_w S F x2) (i + 1)) := by rw [pt_ov_s, hq0, Nat.sub_zero]
               have hi0 : sp_I S i = false := Bool.eq_false_iff.mpr (fun q => by rw [q] at c_157; exact absurd c_157 (by decide))
               rw [e7]
               refine ih (i + 1) (by omega) (by omega) T ⟨hM, fun j hj => ?_, hI2, fun j hj hi2 => ?_⟩ g hT
               · rw [hI1 j hj]
                 by_cases e : j = i
                 · subst e; rw [if_neg (Nat.lt_irrefl j), if_pos (by omega), hq0]
                 · by_cases e2 : j < i
                   · rw [if_pos e2, if_pos (by omega)]
                   · rw [if_neg e2, if_neg (by omega)]
               · by_cases e : j = i
                 · subst e; rw [hi0] at hi2; cases hi2
                 · exact hI3 j (by omega) hi2)
            | (refine ev_none 9 ?_
               refine ih (i + 1) (by omega) (by omega) _ ⟨sp_eqM_uL (sp_eqM_u (by decide) hM), fun j hj => ?_, fun j hj hi2 => ?_, fun j hj hi2 => ?_⟩ g hT
               · show (mo_up T 51 i _).1 51 j = _
                 rw [mo_up_at]
                 by_cases e : j = i
                 · subst e; rw [pk_us, if_pos (by omega)]
                 · rw [pk_un e, hI1 j hj]
                   by_cases e2 : j < i
                   · rw [if_pos e2, if_pos (by omega)]
                   · rw [if_neg e2, if_neg (by omega)]
               · rw [show ∀ v z, (mo_upL (mo_up T 51 i v) i z).1 50 = T.1 50 from fun v z => funext fun b => by simp [mo_up, mo_upL]]
                 exact hI2 j hj hi2
               · show (if j = i then _ else T.2 j) = _
                 by_cases e : j = i
                 · subst e
                   rw [if_pos rfl]
                   unfold pa_R0 pt_R
                   first
                     | (rw [if_neg (fun q => c_217 (by rw [q]; rfl))]; rfl)
                     | (rw [if_pos ((nI_eq (by omega) (by decide)).mp c_217)]; rfl)
                 · rw [if_neg e]
                   exact hI3 j (by omega) hi2)
        · refine ev_ldc2 dX12_parts_220 nX12_429 ?_
          refine ev_goto (tgt := 231) dX12_parts_223 (by decide) ?_
          refine mo_last (q := i) hE hT dX12_parts_231 rfl (by omega) (fun g hT => ?_)
          refine ev_iinc (v := (nI (i + 1))) dX12_parts_232 rfl (by exact nI_1 i) rfl ?_
          refine ev_goto (tgt := 142) dX12_parts_235 (by decide) ?_
          have hlt : i < sp_P S := mo_ilt hP9 (by omega) (by omega) c_148
          first
            | (have hw0 : sp_w S F x2 i = 0 := pa_w_out (Bool.eq_false_iff.mpr (fun q => by rw [q] at c_157; exact absurd c_157 (by decide)))
               have hq0 : (pt_q (pa_lf S f L) (pa_A S F x2) (sp_w S F x2) i) = 0 := by unfold pt_q; rw [hw0, Nat.mul_zero, Nat.zero_div]
               have e7 : (pt_ov (pa_lf S f L) (pa_A S F x2) (sp_w S F x2) i) = (pt_ov (pa_lf S f L) (pa_A S F x2) (sp_w S F x2) (i + 1)) := by rw [pt_ov_s, hq0, Nat.sub_zero]
               have hi0 : sp_I S i = false := Bool.eq_false_iff.mpr (fun q => by rw [q] at c_157; exact absurd c_157 (by decide))
               rw [e7]
               refine ih (i + 1) (by omega) (by omega) T ⟨hM, fun j hj => ?_, hI2, fun j hj hi2 => ?_⟩ g hT
               · rw [hI1 j hj]
                 by_cases e : j = i
                 · subst e; rw [if_neg (Nat.lt_irrefl j), if_pos (by omega), hq0]
                 · by_cases e2 : j < i
                   · rw [if_pos e2, if_pos (by omega)]
                   · rw [if_neg e2, if_neg (by omega)]
               · by_cases e : j = i
                 · subst e; rw [hi0] at hi2; cases hi2
                 · exact hI3 j (by omega) hi2)
            | (refine ev_none 9 ?_
               refine ih (i + 1) (by omega) (by omega) _ ⟨sp_eqM_uL (sp_eqM_u (by decide) hM), fun j hj => ?_, fun j hj hi2 => ?_, fun j hj hi2 => ?_⟩ g hT
               · show (mo_up T 51 i _).1 51 j = _
                 rw [mo_up_at]
                 by_cases e : j = i
                 · subst e; rw [pk_us, if_pos (by omega)]
                 · rw [pk_un e, hI1 j hj]
                   by_cases e2 : j < i
                   · rw [if_pos e2, if_pos (by omega)]
                   · rw [if_neg e2, if_neg (by omega)]
               · rw [show ∀ v z, (mo_upL (mo_up T 51 i v) i z).1 50 = T.1 50 from fun v z => funext fun b => by simp [mo_up, mo_upL]]
                 exact hI2 j hj hi2
               · show (if j = i then _ else T.2 j) = _
                 by_cases e : j = i
                 · subst e
                   rw [if_pos rfl]
                   unfold pa_R0 pt_R
                   first
                     | (rw [if_neg (fun q => c_217 (by rw [q]; rfl))]; rfl)
                     | (rw [if_pos ((nI_eq (by omega) (by decide)).mp c_217)]; rfl)
                 · rw [if_neg e]
                   exact hI3 j (by omega) hi2)
      · refine ev_goto (tgt := 232) dX12_parts_160 (by decide) ?_
        refine ev_iinc (v := (nI (i + 1))) dX12_parts_232 rfl (by exact nI_1 i) rfl ?_
        refine ev_goto (tgt := 142) dX12_parts_235 (by decide) ?_
        have hlt : i < sp_P S := mo_ilt hP9 (by omega) (by omega) c_148
        first
          | (have hw0 : sp_w S F x2 i = 0 := pa_w_out (Bool.eq_false_iff.mpr (fun q => by rw [q] at c_157; exact absurd c_157 (by decide)))
             have hq0 : (pt_q (pa_lf S f L) (pa_A S F x2) (sp_w S F x2) i) = 0 := by unfold pt_q; rw [hw0, Nat.mul_zero, Nat.zero_div]
             have e7 : (pt_ov (pa_lf S f L) (pa_A S F x2) (sp_w S F x2) i) = (pt_ov (pa_lf S f L) (pa_A S F x2) (sp_w S F x2) (i + 1)) := by rw [pt_ov_s, hq0, Nat.sub_zero]
             have hi0 : sp_I S i = false := Bool.eq_false_iff.mpr (fun q => by rw [q] at c_157; exact absurd c_157 (by decide))
             rw [e7]
             refine ih (i + 1) (by omega) (by omega) T ⟨hM, fun j hj => ?_, hI2, fun j hj hi2 => ?_⟩ g hT
             · rw [hI1 j hj]
               by_cases e : j = i
               · subst e; rw [if_neg (Nat.lt_irrefl j), if_pos (by omega), hq0]
               · by_cases e2 : j < i
                 · rw [if_pos e2, if_pos (by omega)]
                 · rw [if_neg e2, if_neg (by omega)]
             · by_cases e : j = i
               · subst e; rw [hi0] at hi2; cases hi2
               · exact hI3 j (by omega) hi2)
          | (refine ev_none 9 ?_
             refine ih (i + 1) (by omega) (by omega) _ ⟨sp_eqM_uL (sp_eqM_u (by decide) hM), fun j hj => ?_, fun j hj hi2 => ?_, fun j hj hi2 => ?_⟩ g hT
             · show (mo_up T 51 i _).1 51 j = _
               rw [mo_up_at]
               by_cases e : j = i
               · subst e; rw [pk_us, if_pos (by omega)]
               · rw [pk_un e, hI1 j hj]
                 by_cases e2 : j < i
                 · rw [if_pos e2, if_pos (by omega)]
                 · rw [if_neg e2, if_neg (by omega)]
             · rw [show ∀ v z, (mo_upL (mo_up T 51 i v) i z).1 50 = T.1 50 from fun v z => funext fun b => by simp [mo_up, mo_upL]]
               exact hI2 j hj hi2
             · show (if j = i then _ else T.2 j) = _
               by_cases e : j = i
               · subst e
                 rw [if_pos rfl]
                 unfold pa_R0 pt_R
                 first
                   | (rw [if_neg (fun q => c_217 (by rw [q]; rfl))]; rfl)
                   | (rw [if_pos ((nI_eq (by omega) (by decide)).mp c_217)]; rfl)
               · rw [if_neg e]
                 exact hI3 j (by omega) hi2)
theorem pa_weigh {G : ev_G} {W : mo_W} {d : Nat} {g0 : ev_H} {S : mo_S} {F : mo_Fn} {f L : Nat} {x2 : Int32} (hE : ev_En G) (h : pa_H S F f L x2 d) (h3 : ¬ x2 = 3)  : ∀ (n i : Nat), i ≤ sp_P S → sp_P S < i + n → ∀ (T : mo_S), sp_eqM T S ∧ (∀ j, j < sp_P S → T.1 51 j = nI (if j < i then pt_s f (sp_I S) L j else 0)) ∧ (∀ j, j < i → sp_I S j = true → T.1 50 j = nI (sp_w S F x2 j)) → ∀ g, mo_T G W g0 g T → ev_V G d 0 0 mX12_parts (pa_P G W g0 S F f L x2) g 48 [some (.ref W.1), some (.int (nI L)), some (.int x2), some (.int (nI f)), some (.int (nI (pt_lf f (sp_I S) L i))), none, some (.long (lN (pt_sm (sp_w S F x2) i))), none, some (.int (nI i)), none, none] [] := by
  intro n
  induction n with
  | zero => intro i h1 h2; exact absurd h2 (by omega)
  | succ n ih =>
    intro i h1 h2 T hI g hT
    obtain ⟨hd, hP, hP2, hO, hO2, hC, hF, hwi, hL, hf, hf2, hw⟩ := id h
    obtain ⟨hM, hI1, hI2⟩ := id hI
    have hP9 : T.1 1 0 = nI (sp_P S) := by rw [hM 1 (by decide)]; exact hP
    refine ev_iload dX12_parts_48 rfl ?_
    refine ev_aload_n dX12_parts_50 rfl rfl ?_
    refine mo_geti hE hT dX12_parts_51 fX12_185 (by decide) ?_
    refine ev_icmp_ge (tgt := 127) dX12_parts_54 (by decide) (fun c_54 => ?_) (fun c_54 => ?_)
    · have e : i = sp_P S := by have q := mo_ige hP9 (by omega) (by omega) c_54; omega
      subst e
      have hA3 := pa_A_le h (Nat.le_refl _)
      refine ev_lload dX12_parts_127 rfl ?_
      refine ev_lconst (v := 0) dX12_parts_129 (by decide) ?_
      refine ev_lcmp dX12_parts_130 ?_
      refine ev_if_ne (tgt := 135) dX12_parts_131 (by decide) (fun c_131 => ?_) (fun c_131 => ?_)
      · refine ev_iload dX12_parts_135 rfl ?_
        refine ev_istore dX12_parts_137 (Nat.le_of_ble_eq_true rfl) rfl ?_
        refine ev_iconst (v := (nI 0)) dX12_parts_139 (by decide) ?_
        refine ev_istore dX12_parts_140 (Nat.le_of_ble_eq_true rfl) rfl ?_
        have hA : 0 < pa_A S F x2 := by
          rcases Nat.eq_zero_or_pos (pa_A S F x2) with q | q
          · exact absurd ((lg_cmp_eq _ _).mpr (by rw [show (pt_sm (sp_w S F x2) (sp_P S)) = 0 from q]; rfl)) c_131
          · exact q
        refine pa_divs hE h hA h3 (sp_P S + 1) 0 (by omega) (by omega) T ⟨hM, fun j hj => ?_, hI2, fun j hj => absurd hj (Nat.not_lt_zero j)⟩ g hT
        rw [hI1 j hj, if_pos hj, if_neg (Nat.not_lt_zero j)]
        rfl
      · have hA0 : (pt_sm (sp_w S F x2) (sp_P S)) = 0 := (pk_lEQ (show (pt_sm (sp_w S F x2) (sp_P S)) < 2 ^ 63 by omega) (show 0 < 2 ^ 63 by decide)).mp ((lg_cmp_eq _ _).mp c_131)
        refine ev_vret dX12_parts_134 rfl ⟨_, T, rfl, ⟨rfl, hM, fun p hp => ?_⟩, hT⟩
        rw [hI1 p hp, if_pos hp]
        unfold sp_sh pt_share
        rw [if_neg h3, if_pos hA0]
    · have hlt : i < sp_P S := mo_ilt hP9 (by omega) (by omega) c_54
      refine ev_aload_n dX12_parts_57 rfl rfl ?_
      refine ev_iload dX12_parts_58 rfl ?_
      refine mo_call1 (d' := d - 1) hE hT dX12_parts_60 rfl rfl kX12_isIn lX12_418 iX12_isIn vX12_isIn (Nat.le_of_ble_eq_true rfl) (by omega) (c_X12_isIn hE (vp_in_nI (by omega) (by decide))) (fun g hT => ?_)
      rw [sp_eqM_I hM]
      refine ev_if_ne (tgt := 69) dX12_parts_63 (by decide) (fun c_63 => ?_) (fun c_63 => ?_)
      · have hi : sp_I S i = true := mo_b_1 c_63
        have hw1 := pa_w_in h hlt
        have hlf := pt_lf_le f (sp_I S) L i
        have hs : pt_s f (sp_I S) L i = min f (pt_lf f (sp_I S) L i) := by unfold pt_s; rw [if_pos hi]
        have eLe : sp_least (nI f) (nI (pt_lf f (sp_I S) L i)) = nI (pt_s f (sp_I S) L i) := by
          rw [hs]
          unfold sp_least
          by_cases e : f < (pt_lf f (sp_I S) L i)
          · rw [if_pos (nI_lt e (by omega)), Nat.min_eq_left (by omega)]
          · rw [if_neg (nI_nlt (by omega) (by omega)), Nat.min_eq_right (by omega)]
        have eLf : nI (pt_lf f (sp_I S) L i) - nI (pt_s f (sp_I S) L i) = nI (pt_lf f (sp_I S) L (i + 1)) := by
          rw [pt_lf_s]
          exact pk_sub (by rw [hs]; exact Nat.min_le_right _ _)
        have eSm : lN (pt_sm (sp_w S F x2) i) + lN (sp_w S F x2 i) = lN (pt_sm (sp_w S F x2) (i + 1)) := lN_add _ _
        refine ev_aload_n dX12_parts_69 rfl rfl ?_
        refine mo_geta hE hT dX12_parts_70 fX12_108 (by decide) ?_
        refine ev_iload dX12_parts_73 rfl ?_
        refine ev_iload_n dX12_parts_75 rfl rfl ?_
        refine ev_iload dX12_parts_76 rfl ?_
        refine ev_pS2 (d' := d - 1) dX12_parts_78 rfl kX12_least lX12_421 sX12_least (Nat.le_of_ble_eq_true rfl) (by omega) (c_X12_least) ?_
        rw [eLe]
        refine mo_iast (q := i) hE hT dX12_parts_81 (by decide) rfl (show _ < 12 from (by omega)) (fun g hT => ?_)
        refine ev_iload dX12_parts_82 rfl ?_
        refine ev_aload_n dX12_parts_84 rfl rfl ?_
        refine mo_geta hE hT dX12_parts_85 fX12_108 (by decide) ?_
        refine ev_iload dX12_parts_88 rfl ?_
        refine mo_ialdQ (q := i) (v := (nI (pt_s f (sp_I S) L i))) hE hT dX12_parts_90 (by decide) rfl (show _ < 12 from (by omega)) (by simp [sp_bad_ne, mo_up]) ?_
        refine ev_isub dX12_parts_91 ?_
        rw [eLf]
        refine ev_istore dX12_parts_92 (Nat.le_of_ble_eq_true rfl) rfl ?_
        refine ev_aload_n dX12_parts_94 rfl rfl ?_
        refine mo_geta hE hT dX12_parts_95 fX12_105 (by decide) ?_
        refine ev_iload dX12_parts_98 rfl ?_
        refine ev_aload_n dX12_parts_100 rfl rfl ?_
        refine ev_iload dX12_parts_101 rfl ?_
        refine ev_iload_n dX12_parts_103 rfl rfl ?_
        have hM1 : sp_eqM (mo_up T 51 i (nI (pt_s f (sp_I S) L i))) S := sp_eqM_u (by decide) hM
        have hq := sp_eqM_F hM1
        refine mo_callr2 (d' := d - 1) hE hT dX12_parts_104 rfl rfl kX12_weightOf lX12_426 iX12_weightOf vX12_weightOf (Nat.le_of_ble_eq_true rfl) (by omega) (c_X12_weightOf hE (by omega) (sp_eqF_hO hq hO) (sp_eqF_hO2 hq hO2) (sp_eqF_hC hq hC) (hF.cong hq) (vp_in_nI (by omega) (by decide)) (fun q => by rw [hM1 53 (by decide)]; exact hwi i (by omega) (by rw [hM1 54 (by decide)] at q; exact q))) (fun r S2 g h8 hT => ?_)
        obtain ⟨rfl, h8⟩ := h8
        rw [sp_eqM_weight hM1, (hw i hlt hi).1]
        have hM2 : sp_eqM S2 S := sp_eqM_N h8 hM1
        have h51 : S2.1 51 = upd (T.1 51) i (nI (pt_s f (sp_I S) L i)) := by rw [h8.1 51 (by decide), mo_up_at]
        have h50 : S2.1 50 = T.1 50 := by rw [h8.1 50 (by decide)]; funext b; simp [mo_up]
        refine mo_iast (q := i) hE hT dX12_parts_107 (by decide) rfl (show _ < 12 from (by omega)) (fun g hT => ?_)
        refine ev_lload dX12_parts_108 rfl ?_
        refine ev_aload_n dX12_parts_110 rfl rfl ?_
        refine mo_geta hE hT dX12_parts_111 fX12_105 (by decide) ?_
        refine ev_iload dX12_parts_114 rfl ?_
        refine mo_ialdQ (q := i) (v := (nI (sp_w S F x2 i))) hE hT dX12_parts_116 (by decide) rfl (show _ < 12 from (by omega)) (by simp [sp_bad_ne, mo_up]) ?_
        refine ev_i2l dX12_parts_117 ?_
        rw [nI_l (by omega)]
        refine ev_ladd dX12_parts_118 ?_
        rw [eSm]
        refine ev_lstore dX12_parts_119 (Nat.le_of_ble_eq_true rfl) rfl ?_
        refine ev_iinc (v := (nI (i + 1))) dX12_parts_121 rfl (by exact nI_1 i) rfl ?_
        refine ev_goto (tgt := 48) dX12_parts_124 (by decide) ?_
        have hlt : i < sp_P S := mo_ilt hP9 (by omega) (by omega) c_54
        first
          | (have hi0 : sp_I S i = false := Bool.eq_false_iff.mpr (fun q => by rw [q] at c_63; exact absurd c_63 (by decide))
             have e1 : (pt_lf f (sp_I S) L i) = (pt_lf f (sp_I S) L (i + 1)) := by show _ = (if sp_I S i = true then _ else _); rw [hi0]; rfl
             have e2 : (pt_sm (sp_w S F x2) i) = (pt_sm (sp_w S F x2) (i + 1)) := by show _ = (pt_sm (sp_w S F x2) i) + sp_w S F x2 i; rw [pa_w_out hi0]; rfl
             rw [e1, e2]
             refine ih (i + 1) (by omega) (by omega) T ⟨hM, fun j hj => ?_, fun j hj hi2 => ?_⟩ g hT
             · rw [hI1 j hj]
               by_cases e : j = i
               · subst e; rw [if_neg (Nat.lt_irrefl j), if_pos (by omega)]; unfold pt_s; rw [hi0]; rfl
               · by_cases e2 : j < i
                 · rw [if_pos e2, if_pos (by omega)]
                 · rw [if_neg e2, if_neg (by omega)]
             · by_cases e : j = i
               · subst e; rw [hi0] at hi2; cases hi2
               · exact hI2 j (by omega) hi2)
          | (refine ih (i + 1) (by omega) (by omega) _ ⟨sp_eqM_u (by decide) hM2, fun j hj => ?_, fun j hj hi2 => ?_⟩ g hT
             · rw [show (mo_up S2 50 i _).1 51 = S2.1 51 from funext fun b => by simp [mo_up], h51]
               by_cases e : j = i
               · subst e; rw [pk_us, if_pos (by omega)]
               · rw [pk_un e, hI1 j hj]
                 by_cases e2 : j < i
                 · rw [if_pos e2, if_pos (by omega)]
                 · rw [if_neg e2, if_neg (by omega)]
             · rw [mo_up_at]
               by_cases e : j = i
               · subst e; rw [pk_us]
               · rw [pk_un e, h50]; exact hI2 j (by omega) hi2)
      · refine ev_goto (tgt := 121) dX12_parts_66 (by decide) ?_
        refine ev_iinc (v := (nI (i + 1))) dX12_parts_121 rfl (by exact nI_1 i) rfl ?_
        refine ev_goto (tgt := 48) dX12_parts_124 (by decide) ?_
        have hlt : i < sp_P S := mo_ilt hP9 (by omega) (by omega) c_54
        first
          | (have hi0 : sp_I S i = false := Bool.eq_false_iff.mpr (fun q => by rw [q] at c_63; exact absurd c_63 (by decide))
             have e1 : (pt_lf f (sp_I S) L i) = (pt_lf f (sp_I S) L (i + 1)) := by show _ = (if sp_I S i = true then _ else _); rw [hi0]; rfl
             have e2 : (pt_sm (sp_w S F x2) i) = (pt_sm (sp_w S F x2) (i + 1)) := by show _ = (pt_sm (sp_w S F x2) i) + sp_w S F x2 i; rw [pa_w_out hi0]; rfl
             rw [e1, e2]
             refine ih (i + 1) (by omega) (by omega) T ⟨hM, fun j hj => ?_, fun j hj hi2 => ?_⟩ g hT
             · rw [hI1 j hj]
               by_cases e : j = i
               · subst e; rw [if_neg (Nat.lt_irrefl j), if_pos (by omega)]; unfold pt_s; rw [hi0]; rfl
               · by_cases e2 : j < i
                 · rw [if_pos e2, if_pos (by omega)]
                 · rw [if_neg e2, if_neg (by omega)]
             · by_cases e : j = i
               · subst e; rw [hi0] at hi2; cases hi2
               · exact hI2 j (by omega) hi2)
          | (refine ih (i + 1) (by omega) (by omega) _ ⟨sp_eqM_u (by decide) hM2, fun j hj => ?_, fun j hj hi2 => ?_⟩ g hT
             · rw [show (mo_up S2 50 i _).1 51 = S2.1 51 from funext fun b => by simp [mo_up], h51]
               by_cases e : j = i
               · subst e; rw [pk_us, if_pos (by omega)]
               · rw [pk_un e, hI1 j hj]
                 by_cases e2 : j < i
                 · rw [if_pos e2, if_pos (by omega)]
                 · rw [if_neg e2, if_neg (by omega)]
             · rw [mo_up_at]
               by_cases e : j = i
               · subst e; rw [pk_us]
               · rw [pk_un e, h50]; exact hI2 j (by omega) hi2)
theorem pa_zero {G : ev_G} {W : mo_W} {d : Nat} {g0 : ev_H} {S : mo_S} {F : mo_Fn} {f L : Nat} {x2 : Int32} (hE : ev_En G) (h : pa_H S F f L x2 d)  : ∀ (n i : Nat), i ≤ 12 → 12 < i + n → ∀ (T : mo_S), sp_eqM T S ∧ (∀ j, j < i → T.1 51 j = 0) → ∀ g, mo_T G W g0 g T → ev_V G d 0 0 mX12_parts (pa_P G W g0 S F f L x2) g 2 [some (.ref W.1), some (.int (nI L)), some (.int x2), some (.int (nI i)), none, none, none, none, none, none, none] [] := by
  intro n
  induction n with
  | zero => intro i h1 h2; exact absurd h2 (by omega)
  | succ n ih =>
    intro i h1 h2 T hI g hT
    obtain ⟨hd, hP, hP2, hO, hO2, hC, hF, hwi, hL, hf, hf2, hw⟩ := id h
    obtain ⟨hM, hI1⟩ := id hI
    have hP9 : T.1 1 0 = nI (sp_P S) := by rw [hM 1 (by decide)]; exact hP
    refine ev_iload_n dX12_parts_2 rfl rfl ?_
    refine ev_bipush (v := 12) dX12_parts_3 (by decide) ?_
    refine ev_icmp_ge (tgt := 21) dX12_parts_5 (by decide) (fun c_5 => ?_) (fun c_5 => ?_)
    · have e : i = 12 := by have q := mo_ige (R := 12) rfl (by decide) (by omega) c_5; omega
      subst e
      refine ev_iload_n dX12_parts_21 rfl rfl ?_
      refine ev_iconst (v := 3) dX12_parts_22 (by decide) ?_
      refine ev_icmp_ne (tgt := 32) dX12_parts_23 (by decide) (fun c_23 => ?_) (fun c_23 => ?_)
      · refine ev_aload_n dX12_parts_32 rfl rfl ?_
        refine ev_bipush (v := 9) dX12_parts_33 (by decide) ?_
        refine mo_call1 (d' := d - 1) hE hT dX12_parts_35 rfl rfl kX12_much lX12_412 iX12_much vX12_much (Nat.le_of_ble_eq_true rfl) (by omega) (c_X12_much hE (by omega) (sp_eqF_hO (sp_eqM_F hM) hO) (sp_eqF_hO2 (sp_eqM_F hM) hO2) (sp_eqF_hC (sp_eqM_F hM) hC)) (fun g hT => ?_)
        rw [sp_eqF_much (sp_eqM_F hM)]
        rw [hf]
        refine ev_istore_n dX12_parts_38 rfl (Nat.le_of_ble_eq_true rfl) rfl ?_
        refine ev_iload_n dX12_parts_39 rfl rfl ?_
        refine ev_istore dX12_parts_40 (Nat.le_of_ble_eq_true rfl) rfl ?_
        refine ev_lconst (v := 0) dX12_parts_42 (by decide) ?_
        refine ev_lstore dX12_parts_43 (Nat.le_of_ble_eq_true rfl) rfl ?_
        refine ev_iconst (v := (nI 0)) dX12_parts_45 (by decide) ?_
        refine ev_istore dX12_parts_46 (Nat.le_of_ble_eq_true rfl) rfl ?_
        exact pa_weigh hE h c_23 (sp_P S + 1) 0 (by omega) (by omega) T ⟨hM, fun j hj => by rw [if_neg (Nat.not_lt_zero j)]; exact hI1 j (by omega), fun j hj => absurd hj (Nat.not_lt_zero j)⟩ g hT
      · refine ev_aload_n dX12_parts_26 rfl rfl ?_
        refine ev_iload_n dX12_parts_27 rfl rfl ?_
        have hPT : sp_P T = sp_P S := by unfold sp_P; rw [hM 1 (by decide)]
        refine mo_call1 (d' := d - 1) hE hT dX12_parts_28 rfl rfl kX12_byBids lX12_423 iX12_byBids vX12_byBids (Nat.le_of_ble_eq_true rfl) (by omega) (c_X12_byBids hE (by omega) (by rw [hPT]; exact hP9) (by omega)) (fun g hT => ?_)
        have hz := sp_bidA_is (S := T) (L := nI L) (P := sp_P T) hI1 101
        refine ev_vret dX12_parts_31 rfl ⟨_, _, rfl, ⟨rfl, fun k hk => ?_, fun p hp => ?_⟩, hT⟩
        · rw [sp_bidA_ne (by omega)]; exact hM k hk
        · rw [hz.2 p (by omega)]
          unfold sp_sh
          rw [if_pos c_23, hPT, hM 14 (by decide), hM 15 (by decide), show sp_I T = sp_I S from funext fun q => sp_eqM_I hM q]
    · have hlt : i < 12 := mo_ilt (R := 12) rfl (by decide) (by omega) c_5
      refine ev_aload_n dX12_parts_8 rfl rfl ?_
      refine mo_geta hE hT dX12_parts_9 fX12_108 (by decide) ?_
      refine ev_iload_n dX12_parts_12 rfl rfl ?_
      refine ev_iconst (v := 0) dX12_parts_13 (by decide) ?_
      refine mo_iast (q := i) hE hT dX12_parts_14 (by decide) rfl (show _ < 12 from (by omega)) (fun g hT => ?_)
      refine ev_iinc (v := (nI (i + 1))) dX12_parts_15 rfl (by exact nI_1 i) rfl ?_
      refine ev_goto (tgt := 2) dX12_parts_18 (by decide) ?_
      have hlt : i < 12 := mo_ilt (R := 12) rfl (by decide) (by omega) c_5
      refine ih (i + 1) (by omega) (by omega) _ ⟨sp_eqM_u (by decide) hM, fun j hj => ?_⟩ g hT
      rw [mo_up_at]
      by_cases e : j = i
      · subst e; rw [pk_us]
      · rw [pk_un e]; exact hI1 j (by omega)
theorem c_X12_parts {G : ev_G} {W : mo_W} {d : Nat} {S : mo_S} {F : mo_Fn} {f L : Nat} {x2 : Int32} (hE : ev_En G) (h : pa_H S F f L x2 d) : mo_Cr G W d mX12_parts [.int (nI L), .int x2] S (fun r S2 => r = none ∧ sp_eqM S2 S ∧ ∀ p, p < sp_P S → S2.1 51 p = sp_sh S F f L x2 p) := by
  refine mo_startr (lv0 := [some (.ref W.1), some (.int (nI L)), some (.int x2), none, none, none, none, none, none, none, none]) (by decide +kernel) rfl (Nat.le_of_ble_eq_true rfl) rfl ?_
  intro g0 g hT
  refine ev_iconst (v := nI 0) dX12_parts_0 (by decide) ?_
  refine ev_istore_n dX12_parts_1 rfl (Nat.le_of_ble_eq_true rfl) rfl ?_
  exact pa_zero hE h 13 0 (by omega) (by omega) S ⟨sp_eqM_r S, fun j hj => absurd hj (Nat.not_lt_zero j)⟩ g hT
end M10
