section DO
/-! shares, summed -/
theorem pt_sm_1 {f : Nat → Nat} {b : Nat} : ∀ n, pt_sm (fun j => if j = b then f j + 1 else f j) n = pt_sm f n + (if b < n then 1 else 0)
  | 0 => by rw [if_neg (by omega)]; rfl
  | n + 1 => by
    have a := pt_sm_1 (f := f) (b := b) n
    simp only [pt_sm]
    rw [a]
    by_cases e : n = b
    · subst e
      rw [if_pos rfl, if_neg (by omega), if_pos (by omega)]
      omega
    · rw [if_neg e]
      by_cases c : b < n
      · rw [if_pos c, if_pos (by omega)]; omega
      · rw [if_neg c, if_neg (by omega)]; omega
theorem pt_sm_add {f g : Nat → Nat} : ∀ n, pt_sm (fun j => f j + g j) n = pt_sm f n + pt_sm g n
  | 0 => rfl
  | n + 1 => by
    have a := pt_sm_add (f := f) (g := g) n
    simp only [pt_sm]
    rw [a]
    omega
theorem pt_sm_u {f : Nat → Nat} {b x : Nat} : ∀ n, pt_sm (fun j => if j = b then x else f j) n ≤ pt_sm f n + x
  | 0 => by simp only [pt_sm]; omega
  | n + 1 => by
    have a := pt_sm_u (f := f) (b := b) (x := x) n
    simp only [pt_sm]
    by_cases e : n = b
    · have q : pt_sm (fun j => if j = b then x else f j) n = pt_sm f n := pt_sm_cong (fun j hj => if_neg (by omega))
      rw [if_pos e, q]
      omega
    · rw [if_neg e]; omega
theorem pt_giv_sum {P : Nat} {sh : Nat → Nat} {R : Nat → Option Nat} : ∀ k, pt_sm (pt_giv P sh R k).1 P ≤ pt_sm sh P + k
  | 0 => Nat.le_refl _
  | k + 1 => by
    have a := pt_giv_sum (P := P) (sh := sh) (R := R) k
    simp only [pt_giv]
    split
    · omega
    · rename_i b hb
      dsimp only
      rw [pt_sm_1]
      split <;> omega
theorem pt_giv_no {P : Nat} {sh : Nat → Nat} {R : Nat → Option Nat} {p : Nat} (hp : R p = none) : ∀ k, (pt_giv P sh R k).1 p = sh p ∧ (pt_giv P sh R k).2 p = none
  | 0 => ⟨rfl, hp⟩
  | k + 1 => by
    obtain ⟨a1, a2⟩ := pt_giv_no (P := P) (sh := sh) hp k
    simp only [pt_giv]
    split
    · exact ⟨a1, a2⟩
    · rename_i b hb
      obtain ⟨-, x, hx⟩ := pt_top_some hb
      have e : p ≠ b := fun e => by rw [← e, a2] at hx; cases hx
      dsimp only
      unfold pt_off
      rw [if_neg e, if_neg e]
      exact ⟨a1, a2⟩
theorem pt_lf_sum {f : Nat} {I : Nat → Bool} {L : Nat} : ∀ n, pt_sm (pt_s f I L) n + pt_lf f I L n = L
  | 0 => by simp only [pt_sm, pt_lf]; omega
  | n + 1 => by
    have a := pt_lf_sum (f := f) (I := I) (L := L) n
    have b : pt_s f I L n ≤ pt_lf f I L n := by
      unfold pt_s
      split <;> omega
    rw [pt_lf_s]
    simp only [pt_sm]
    omega
theorem pt_share_sum {f : Nat} {most : Bool} {I : Nat → Bool} {w : Nat → Nat} {P L : Nat} : pt_sm (pt_share f most I w P L) P ≤ L := by
  have a := pt_lf_sum (f := f) (I := I) (L := L) P
  by_cases e : pt_sm w P = 0
  · have q : pt_sm (pt_share f most I w P L) P = pt_sm (pt_s f I L) P := pt_sm_cong (fun j _ => by unfold pt_share; rw [if_pos e])
    rw [q]; omega
  · have b := (pt_over (L := pt_lf f I L P) (w := w) (P := P) (by omega)).1
    by_cases c : most = true
    · have q : pt_sm (pt_share f most I w P L) P = pt_sm (pt_giv P (fun j => pt_s f I L j + pt_q (pt_lf f I L P) (pt_sm w P) w j) (pt_R (pt_lf f I L P) (pt_sm w P) w) (pt_ov (pt_lf f I L P) (pt_sm w P) w P)).1 P := pt_sm_cong (fun j _ => by unfold pt_share; rw [if_neg e, if_pos c])
      have r := pt_giv_sum (P := P) (sh := fun j => pt_s f I L j + pt_q (pt_lf f I L P) (pt_sm w P) w j) (R := pt_R (pt_lf f I L P) (pt_sm w P) w) (pt_ov (pt_lf f I L P) (pt_sm w P) w P)
      rw [pt_sm_add] at r
      rw [q]
      unfold pt_ov at r ⊢
      omega
    · have q : pt_sm (pt_share f most I w P L) P = pt_sm (fun j => pt_s f I L j + pt_q (pt_lf f I L P) (pt_sm w P) w j) P := pt_sm_cong (fun j _ => by unfold pt_share; rw [if_neg e, if_neg c])
      rw [q, pt_sm_add]
      omega
theorem pt_share_no {f : Nat} {most : Bool} {I : Nat → Bool} {w : Nat → Nat} {P L p : Nat} (hI : I p = false) (hw : w p = 0) : pt_share f most I w P L p = 0 := by
  have s0 : pt_s f I L p = 0 := by unfold pt_s; rw [hI]; exact if_neg (by decide)
  have q0 : ∀ l a, pt_q l a w p = 0 := fun l a => by unfold pt_q; rw [hw, Nat.mul_zero, Nat.zero_div]
  unfold pt_share
  split
  · exact s0
  · split
    · rw [(pt_giv_no (by unfold pt_R; rw [hw]; exact if_pos rfl) _).1, s0, q0]
    · rw [s0, q0]
/-- by bids -/
def pt_bI (I : Nat → Bool) (P L : Nat) (r : Int32 × (Nat → Int32)) : Prop := ∃ (l : Nat) (s : Nat → Nat), r.1 = nI l ∧ (∀ p, r.2 p = nI (s p)) ∧ l + pt_sm s P ≤ L ∧ ∀ p, I p = false → s p = 0
theorem pt_b1_I {I : Nat → Bool} {K C : Nat → Int32} {v : Int32} {r : Int32 × (Nat → Int32)} {P L : Nat} (hL : L < 2147483648) (hK : ∀ p, ∃ a : Nat, K p = nI a ∧ a < 2147483648) (h : pt_bI I P L r) : ∀ n, pt_bI I P L (pt_b1 I K C v r n)
  | 0 => h
  | n + 1 => by
    have q := pt_b1_I (C := C) (v := v) hL hK h n
    simp only [pt_b1]
    split
    · rename_i c
      obtain ⟨l, s, q1, q2, q3, q4⟩ := q
      obtain ⟨a, ha, ha2⟩ := hK n
      have e : sp_least (K n) (pt_b1 I K C v r n).1 = nI (min a l) := by
        rw [q1, ha]
        unfold sp_least
        by_cases z : a < l
        · rw [if_pos (nI_lt z (by omega)), Nat.min_eq_left (by omega)]
        · rw [if_neg (nI_nlt (by omega) (by omega)), Nat.min_eq_right (by omega)]
      have u := pt_sm_u (f := s) (b := n) (x := min a l) P
      refine ⟨l - min a l, fun j => if j = n then min a l else s j, ?_, fun p => ?_, by omega, fun p hp => ?_⟩
      · dsimp only
        rw [e, q1, pk_sub (Nat.min_le_right _ _)]
      · dsimp only
        by_cases z : p = n
        · rw [z, pk_us, e, if_pos rfl]
        · rw [pk_un z, q2 p, if_neg z]
      · have z : p ≠ n := fun z => by rw [z, c.1] at hp; cases hp
        dsimp only
        rw [if_neg z]
        exact q4 p hp
    · exact q
theorem pt_bA_I {I : Nat → Bool} {K C : Nat → Int32} {P L : Nat} (hL : L < 2147483648) (hK : ∀ p, ∃ a : Nat, K p = nI a ∧ a < 2147483648) : ∀ n, pt_bI I P L (pt_bA I K C (nI L) P n)
  | 0 => ⟨L, fun _ => 0, rfl, fun _ => rfl, by
      have : ∀ n, pt_sm (fun _ => 0) n = 0 := fun n => by
        induction n with
        | zero => rfl
        | succ n ih => simp only [pt_sm]; omega
      rw [this]; omega, fun _ _ => rfl⟩
  | n + 1 => pt_b1_I hL hK (pt_bA_I hL hK n) P
/-- the model's shares -/
theorem mo_J.shs {S : mo_S} {F : mo_Fn} (h : mo_J S F) (x : Int32) : ∃ s : Nat → Nat, (∀ p, sp_shN S F x p = nI (s p)) ∧ pt_sm s (sp_P S) ≤ sp_L S ∧ ∀ p, sp_I S p = false → s p = 0 := by
  have hL := h.L.2
  unfold sp_shN sp_sh
  by_cases e : x = 3
  · obtain ⟨l, s, -, q2, q3, q4⟩ := pt_bA_I (I := sp_I S) (K := S.1 14) (C := S.1 15) (P := sp_P S) (L := sp_L S) (by omega) (fun p => by obtain ⟨a, b⟩ := h.N (k := 14) p 100000 (by decide); exact ⟨_, a, by omega⟩) 101
    refine ⟨s, fun p => by rw [if_pos e]; exact q2 p, by omega, q4⟩
  · refine ⟨pt_share (sp_f S) (decide (sp_X12_much S 10 = 1)) (sp_I S) (sp_w S F x) (sp_P S) (sp_L S), fun p => by rw [if_neg e], pt_share_sum, fun p hp => pt_share_no hp ?_⟩
    unfold sp_w
    rw [hp]
    exact if_neg (by decide)
/-! where a step writes -/
theorem mo_up_z {S : mo_S} {k j k2 i : Nat} {v : Int32} (h : i ≠ j) : (mo_up S k j v).1 k2 i = S.1 k2 i := by
  unfold mo_up
  exact if_neg (fun q => h q.2)
theorem sp_adm_z {S : mo_S} {L : Int32} {k i : Nat} : ∀ n, n ≤ i → (sp_adm S L n).2.1 k i = S.1 k i
  | 0, _ => rfl
  | n + 1, h => by
    have q := sp_adm_z (S := S) (L := L) (k := k) (i := i) n (by omega)
    simp only [sp_adm]
    split
    · exact q
    · split
      · rw [mo_up_z (by omega)]; exact q
      · exact q
theorem sp_div_z {S : mo_S} {sh : Nat → Int32} {way : Int32} {k i : Nat} : ∀ n, n ≤ i → (sp_div S sh way n).1 k i = S.1 k i
  | 0, _ => rfl
  | n + 1, h => by
    have q := sp_div_z (S := S) (sh := sh) (way := way) (k := k) (i := i) n (by omega)
    simp only [sp_div]
    split
    · rw [mo_up_z (by omega), mo_up_z (by omega), mo_up_z (by omega), mo_up_z (by omega), mo_up_z (by omega)]; exact q
    · rw [mo_up_z (by omega), mo_up_z (by omega), mo_up_z (by omega), mo_up_z (by omega)]; exact q
theorem sp_hand_z {S : mo_S} {P k i : Nat} (hk : k ≠ 23) (hi : P ≤ i) : ∀ n, (sp_hand S P n).1 k i = S.1 k i
  | 0 => rfl
  | n + 1 => by
    have q := sp_hand_z (S := S) hk hi n
    simp only [sp_hand]
    split
    · split
      · exact q
      · rename_i b hb
        have := sp_owed_lt hb
        unfold sp_give
        rw [mo_up_z (by omega), mo_up_z (by omega), mo_up_ne hk]; exact q
    · exact q
theorem sp_brk_z {S : mo_S} {p k i : Nat} {B PR : Int32} (hi : i ≠ p) : (sp_brk S p B PR).1 k i = S.1 k i := by
  unfold sp_brk
  repeat' (first | rfl | rw [mo_up_z hi] | split)
theorem sp_prints_z {S : mo_S} {F : mo_Fn} {p k i : Nat} (hi : i ≠ p) : (sp_prints S F p).1 k i = S.1 k i := by
  have h1 : (sp_pr1 S p).1 k i = S.1 k i := by unfold sp_pr1; rw [mo_up_z hi, mo_up_z hi]
  unfold sp_prints sp_pr2
  rw [mo_up_z hi, mo_up_z hi]
  split
  · exact h1
  · unfold sp_breaks
    rw [sp_brk_z hi]; exact h1
theorem sp_stp_z {F : mo_Fn} {S : mo_S} {n k i : Nat} (hk : k ≠ 55 ∧ k ≠ 56) (hi : i ≠ n) : (sp_stp F S n).1 k i = S.1 k i := by
  unfold sp_stp
  split
  · rw [sp_rowW_ne hk, sp_prints_z hi]
  · rfl
/-! what is printed takes no more than there is -/
theorem sp_prv_is {S : mo_S} {F : mo_Fn} {p s : Nat} (h : mo_J S F) (hp : p < sp_P S) (hs : S.1 10 p = nI s) (hs2 : s ≤ 100000000) : ∃ v : Nat, sp_prv S p = nI v ∧ v ≤ s := by
  obtain ⟨e5, b5⟩ := h.N (k := 5) p 1000 (by decide)
  obtain ⟨e6, b6⟩ := h.N (k := 6) p 64 (by decide)
  have g1 := (h.2.2.1 p hp).1
  generalize ha : (S.1 5 p).toNatClampNeg = a at *
  generalize hg : (S.1 6 p).toNatClampNeg = g at *
  rw [e6, nI_toInt (by omega)] at g1
  have key : ∀ c : Nat, c ≤ (10 * s + 9) / (3 * g) → c * g * 3 ≤ 10 * s + 9 := fun c hc => by
    have q := Nat.mul_le_mul_right (3 * g) hc
    have q2 := Nat.div_mul_le_self (10 * s + 9) (3 * g)
    have q3 : c * g * 3 = c * (3 * g) := by rw [Nat.mul_assoc, Nat.mul_comm g 3]
    omega
  have e1 : ((10 : Int32) * nI s + 9) / (3 * nI g) = nI ((10 * s + 9) / (3 * g)) := by
    rw [show (10 : Int32) = nI 10 from rfl, show (9 : Int32) = nI 9 from rfl, show (3 : Int32) = nI 3 from rfl, pk_mul, nI_add, pk_mul, pk_div (by omega) (by omega) (by omega)]
  have fin : ∀ c : Nat, c ≤ (10 * s + 9) / (3 * g) → sp_X12_kilograms (nI c) (nI g) = nI (c * g * 3 / 10) ∧ c * g * 3 / 10 ≤ s := fun c hc => by
    have k := key c hc
    refine ⟨?_, by omega⟩
    unfold sp_X12_kilograms
    rw [pk_mul, show (3 : Int32) = nI 3 from rfl, pk_mul, show (10 : Int32) = nI 10 from rfl, pk_div (by omega) (by decide) (by decide)]
  unfold sp_prv sp_prc sp_X12_printable
  rw [hs, e5, e6, e1]
  by_cases c : nI ((10 * s + 9) / (3 * g)) ≤ nI a
  · rw [if_pos c]
    exact ⟨_, fin _ (Nat.le_refl _)⟩
  · rw [if_neg c]
    refine ⟨_, fin a ?_⟩
    exact Nat.le_of_not_lt (fun z => c (nI_le (by omega) (by omega)))
theorem mo_J.back {S : mo_S} {F : mo_Fn} (h : mo_J S F) : ∃ f : Nat, f ≤ 100 ∧ sp_X12_much S 8 = nI f := by
  rcases h.tell 8 with q | q
  · exact ⟨0, by decide, q⟩
  · exact mo_tellN (by decide) (by decide) q
theorem sp_prints_10 {S : mo_S} {F : mo_Fn} {p s : Nat} (h : mo_J S F) (hp : p < sp_P S) (hs : S.1 10 p = nI s) (hs2 : s ≤ 100000000) : ∃ t : Nat, (sp_prints S F p).1 10 p = nI t ∧ t ≤ s := by
  obtain ⟨v, e, hv⟩ := sp_prv_is h hp hs hs2
  obtain ⟨f, hf, ef⟩ := h.back
  have h1 : (sp_pr1 S p).1 10 p = nI (s - v) := by
    unfold sp_pr1
    rw [mo_up_ne (by decide), mo_up_at, pk_us, hs, e, pk_sub hv]
  have fin : ∀ T : mo_S, T.1 10 p = nI (s - v) → sp_eqF T S → ∃ t : Nat, (sp_pr2 T p (sp_prv S p)).1 10 p = nI t ∧ t ≤ s := fun T hT hF => by
    refine ⟨s - v + v / 20 * f / 100, ?_, ?_⟩
    · unfold sp_pr2
      rw [mo_up_at, pk_us, hT, e, sp_much_up _ (by decide), sp_eqF_much hF, ef, show (20 : Int32) = nI 20 from rfl, pk_div (by omega) (by decide) (by decide), pk_mul, show (100 : Int32) = nI 100 from rfl, pk_div (by have := Nat.mul_le_mul_left (v / 20) hf; omega) (by decide) (by decide), nI_add]
    · have := Nat.mul_le_mul_left (v / 20) hf
      omega
  unfold sp_prints
  split
  · exact fin _ h1 (sp_pr1_F S p)
  · refine fin _ ?_ (sp_eqF_t (sp_breaks_F _ F p) (sp_pr1_F S p))
    unfold sp_breaks
    rw [sp_brk_ne (by decide)]
    exact h1
/-! stock, pool and rights in a month -/
theorem mo_sum_at {g : Nat → Int} {p n : Nat} (hp : p < n) (h : ∀ i, 0 ≤ g i) : g p ≤ mo_sum g n := by
  have a := mo_sum_1 (f := fun i => if i = p then 0 else g i) (g := g) (r := p) n (fun i _ hi => if_neg hi)
  have b := mo_sum_nn (f := fun i => if i = p then 0 else g i) (fun i => by
    split
    · exact Int.le_refl _
    · exact h i) n
  rw [if_pos hp, if_pos rfl] at a
  omega
def mo_ISx (B X : Int) (S : mo_S) : Prop := (∀ p, 0 ≤ (S.1 10 p).toInt) ∧ mo_sum (fun p => (S.1 10 p).toInt) 12 + mo_pl S (sp_R S) ≤ B ∧ mo_sum (fun p => ((S.1 11 p).toInt.natAbs : Int)) 12 ≤ X
theorem mo_ISx.cg {B X : Int} {S T : mo_S} (h : mo_ISx B X S) (n : ∀ k, k = 10 ∨ k = 11 ∨ k = 21 ∨ k = 22 ∨ k = 23 → T.1 k = S.1 k) : mo_ISx B X T := by
  unfold mo_ISx mo_pl sp_R at h ⊢
  rw [n 10 (by decide), n 11 (by decide), n 21 (by decide), n 22 (by decide), n 23 (by decide)]
  exact h
/-- a right changes by d at the most -/
theorem mo_ab {a b : Int32} {d : Nat} {z : Int} (hb : b.toInt = z) (hz : z.natAbs ≤ d) (ha : a.toInt.natAbs + d < 2147483648) : ((a + b).toInt.natAbs : Int) ≤ a.toInt.natAbs + d := by
  rw [Int32.toInt_add, hb, Int.bmod_eq_of_le (by omega) (by omega)]
  omega
theorem mo_sb {a b : Int32} {d : Nat} {z : Int} (hb : b.toInt = z) (hz : z.natAbs ≤ d) (ha : a.toInt.natAbs + d < 2147483648) : ((a - b).toInt.natAbs : Int) ≤ a.toInt.natAbs + d := by
  rw [Int32.toInt_sub, hb, Int.bmod_eq_of_le (by omega) (by omega)]
  omega
theorem mo_ISx.r11 {B X : Int} {S : mo_S} {p d : Nat} {v : Int32} (h : mo_ISx B X S) (hp : p < 12) (hv : (v.toInt.natAbs : Int) ≤ (S.1 11 p).toInt.natAbs + d) : mo_ISx B (X + d) (mo_up S 11 p v) := by
  obtain ⟨h1, h2, h3⟩ := h
  refine ⟨by rw [mo_up_ne (by decide)]; exact h1, ?_, ?_⟩
  · unfold mo_pl sp_R at h2 ⊢
    rw [mo_up_ne (by decide), mo_up_ne (by decide), mo_up_ne (by decide), mo_up_ne (by decide)]
    exact h2
  · rw [mo_up_at, mo_sum_1 (r := p) (g := fun p => ((S.1 11 p).toInt.natAbs : Int)) 12 (fun i _ hi => by rw [pk_un hi]), if_pos hp, pk_us]
    try dsimp only
    omega
theorem mo_ISx.le11 {B X : Int} {S : mo_S} {p : Nat} (h : mo_ISx B X S) (hp : p < 12) : ((S.1 11 p).toInt.natAbs : Int) ≤ X := by
  have a := mo_sum_at (g := fun p => ((S.1 11 p).toInt.natAbs : Int)) hp (fun i => by omega)
  have b := h.2.2
  exact Int.le_trans a b
theorem mo_ISx.le {B X Y : Int} {S : mo_S} (h : mo_ISx B X S) (hX : X ≤ Y) : mo_ISx B Y S := ⟨h.1, h.2.1, Int.le_trans h.2.2 hX⟩
theorem mo_ISx.div {B X : Int} {S : mo_S} {s : Nat → Nat} {way : Int32} (h : mo_ISx B X S) (hX : 0 ≤ X ∧ X ≤ 1000000000) : ∀ n, n ≤ 12 → pt_sm s n ≤ 1000000 → mo_ISx B (X + pt_sm s n) (sp_div S (fun p => nI (s p)) way n)
  | 0, _, _ => by
    show mo_ISx B (X + ((0 : Nat) : Int)) S
    exact h.le (by omega)
  | n + 1, hn, hs => by
    have hs2 : pt_sm s n + s n ≤ 1000000 := hs
    have q := h.div (s := s) (way := way) hX n (by omega) (by omega)
    have r := q.le11 (p := n) (by omega)
    have step : mo_ISx B (X + pt_sm s n + s n) (mo_up (sp_div S (fun p => nI (s p)) way n) 11 n ((sp_div S (fun p => nI (s p)) way n).1 11 n + nI (s n))) := q.r11 (by omega) (mo_ab (z := s n) (nI_toInt (by omega)) (by omega) (by omega))
    have step2 := step.le (Y := X + ((pt_sm s n + s n : Nat) : Int)) (by omega)
    show mo_ISx B (X + ((pt_sm s n + s n : Nat) : Int)) _
    simp only [sp_div]
    split
    · refine step2.cg (fun k hk => ?_)
      rw [mo_up_ne (by omega), mo_up_ne (by omega), mo_up_ne (by omega)]
      by_cases e : k = 11
      · subst e; rw [mo_up_at, mo_up_at, mo_up_ne (by decide)]
      · rw [mo_up_ne e, mo_up_ne (by omega), mo_up_ne e]
    · refine step2.cg (fun k hk => ?_)
      rw [mo_up_ne (by omega), mo_up_ne (by omega)]
      by_cases e : k = 11
      · subst e; rw [mo_up_at, mo_up_at, mo_up_ne (by decide)]
      · rw [mo_up_ne e, mo_up_ne (by omega), mo_up_ne e]
theorem mo_ISx.give {B X : Int} {S : mo_S} {F : mo_Fn} {r b : Nat} (h : mo_ISx B X S) (hJ : mo_J S F) (hX : 0 ≤ X ∧ X ≤ 1000000000) (hB : B ≤ 2000000000) (hr : r < sp_R S) (hb : b < 12) (h23 : S.1 23 r = -1) : mo_ISx B (X + 2000) (sp_give S r b) := by
  have a := h.le11 (p := b) hb
  have e22 := hJ.1 22 r (by decide)
  have c1 : (0 : Int) ≤ (S.1 22 r).toInt := e22.1
  have c2 : (S.1 22 r).toInt ≤ 2000 := e22.2
  obtain ⟨h1, h2, h3⟩ := h
  have m : mo_ISx B X (mo_up (mo_up S 23 r (nI b)) 10 b (S.1 10 b + S.1 22 r)) := by
    have pl := mo_pl_nn hJ (sp_R S)
    have at10 := mo_sum_at (g := fun p => (S.1 10 p).toInt) hb h1
    try dsimp only at at10
    have plr : (S.1 22 r).toInt ≤ mo_pl S (sp_R S) := by
      have z := mo_sum_at (g := fun r => if S.1 23 r = -1 then (S.1 22 r).toInt else 0) hr (fun i => by
        split
        · exact (hJ.1 22 i (by decide)).1
        · exact Int.le_refl _)
      try dsimp only at z
      rw [if_pos h23] at z
      exact z
    have e10 : (S.1 10 b + S.1 22 r).toInt = (S.1 10 b).toInt + (S.1 22 r).toInt := by
      have := h1 b
      rw [Int32.toInt_add, Int.bmod_eq_of_le (by omega) (by omega)]
    refine ⟨fun p => ?_, ?_, ?_⟩
    · rw [mo_up_at, mo_up_ne (by decide)]
      by_cases e : p = b
      · rw [e, pk_us, e10]
        have := h1 b
        omega
      · rw [pk_un e]; exact h1 p
    · have e1 : mo_pl (mo_up (mo_up S 23 r (nI b)) 10 b (S.1 10 b + S.1 22 r)) (sp_R (mo_up (mo_up S 23 r (nI b)) 10 b (S.1 10 b + S.1 22 r))) = mo_pl S (sp_R S) - (S.1 22 r).toInt := by
        have z : mo_pl (mo_up (mo_up S 23 r (nI b)) 10 b (S.1 10 b + S.1 22 r)) = mo_pl (mo_up S 23 r (nI b)) := by
          funext n
          unfold mo_pl
          rw [mo_up_ne (show (23 : Nat) ≠ 10 by decide), mo_up_ne (show (22 : Nat) ≠ 10 by decide)]
        rw [z, sp_R_cg (T := mo_up (mo_up S 23 r (nI b)) 10 b (S.1 10 b + S.1 22 r)) (C := S) (by rw [mo_up_ne (by decide), mo_up_ne (by decide)]), mo_pl_23, if_pos hr, if_pos h23, if_neg (cj_ne (by omega) (by decide))]
        omega
      rw [e1, mo_up_at, mo_up_ne (by decide), mo_sum_1 (r := b) (g := fun p => (S.1 10 p).toInt) 12 (fun i _ hi => by rw [pk_un hi]), if_pos hb, pk_us]
      try dsimp only
      rw [e10]
      omega
    · rw [mo_up_ne (by decide), mo_up_ne (by decide)]
      exact h3
  refine m.r11 (d := 2000) hb ?_
  have e11 : (mo_up (mo_up S 23 r (nI b)) 10 b (S.1 10 b + S.1 22 r)).1 11 = S.1 11 := by rw [mo_up_ne (by decide), mo_up_ne (by decide)]
  rw [e11]
  exact mo_sb (z := (S.1 22 r).toInt) rfl (by omega) (by omega)
theorem mo_ISx.hand {B X : Int} {S : mo_S} {F : mo_Fn} {P : Nat} (h : mo_ISx B X S) (hJ : mo_J S F) (hP : P ≤ 12) (hX : 0 ≤ X ∧ X ≤ 500000000) (hB : B ≤ 2000000000) : ∀ n, n ≤ sp_R S → mo_ISx B (X + 2000 * n) (sp_hand S P n)
  | 0, _ => by
    show mo_ISx B (X + 2000 * ((0 : Nat) : Int)) S
    exact h.le (by omega)
  | n + 1, hn => by
    have hR := hJ.R.2
    have q := h.hand hJ hP hX hB n (by omega)
    have eR : sp_R (sp_hand S P n) = sp_R S := sp_R_cg (sp_hand_ne (by decide) n)
    simp only [sp_hand]
    split
    · rename_i c
      split
      · exact q.le (by omega)
      · rename_i b hb
        have hb2 := sp_owed_lt hb
        have r := q.give (hJ.hand hP n) (by omega) hB (r := n) (b := b) (by rw [eR]; omega) (by omega) c
        exact r.le (by omega)
    · exact q.le (by omega)
theorem mo_ISx.stp {B X : Int} {S : mo_S} {F : mo_Fn} {p : Nat} (h : mo_ISx B X S) (hJ : mo_J S F) (hB : B ≤ 100000000) (hp : p < sp_P S) : mo_ISx B X (sp_stp F S p) := by
  have hP := hJ.P.2
  unfold sp_stp
  split
  · obtain ⟨h1, h2, h3⟩ := h
    have at10 := mo_sum_at (g := fun p => (S.1 10 p).toInt) (p := p) (n := 12) (by omega) h1
    have pl := mo_pl_nn hJ (sp_R S)
    have hp0 := h1 p
    try dsimp only at at10
    have e0 : S.1 10 p = nI (S.1 10 p).toInt.toNat := by
      refine Int32.toInt_inj.mp ?_
      have := h1 p
      rw [nI_toInt (by omega)]
      omega
    obtain ⟨t, et, ht⟩ := sp_prints_10 hJ hp e0 (by omega)
    have hi : ∀ i, i ≠ p → (sp_rowW (sp_prints S F p) (12 * sp_M S + p) p).1 10 i = S.1 10 i := fun i hi => by rw [sp_rowW_ne (by decide), sp_prints_z hi]
    have hp10 : (sp_rowW (sp_prints S F p) (12 * sp_M S + p) p).1 10 p = nI t := by rw [sp_rowW_ne (by decide)]; exact et
    have n : ∀ k, k = 11 ∨ k = 21 ∨ k = 22 ∨ k = 23 → (sp_rowW (sp_prints S F p) (12 * sp_M S + p) p).1 k = S.1 k := fun k hk => by rw [sp_rowW_ne (by omega), sp_prints_ne (by omega)]
    refine ⟨fun i => ?_, ?_, by rw [n 11 (by decide)]; exact h3⟩
    · by_cases e : i = p
      · rw [e, hp10, nI_toInt (by omega)]; omega
      · rw [hi i e]; exact h1 i
    · unfold mo_pl sp_R at h2 pl ⊢
      rw [n 21 (by decide), n 22 (by decide), n 23 (by decide), mo_sum_1 (r := p) (g := fun p => (S.1 10 p).toInt) 12 (fun i _ hi2 => by rw [hi i hi2]), if_pos (by omega)]
      try dsimp only
      rw [hp10, nI_toInt (by omega)]
      omega
  · exact h
end DO
