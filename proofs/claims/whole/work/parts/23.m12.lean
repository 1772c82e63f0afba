section M12
/-! WHAT HOLDS OF THE MODEL'S STATE between calls -/
def mo_lo (k : Nat) : Int := ([-2147483648, 0, 0, 0, 0, 0, 0, 0, 0, -2147483648, -2147483648, -2147483648, 0, -2147483648, 0, 0, -2147483648, -2147483648, -2147483648, -2147483648, -2147483648, 0, 0, -2, 0, 0, 0, -128, 0, 0, -2147483648, -2147483648, -2147483648, -2147483648, -2147483648, -2147483648, 0, 0, -2147483648, -2147483648, -2147483648, -2147483648, -2147483648, -2147483648, -2147483648, -2147483648, -2147483648, -2147483648, -2147483648, -2147483648, -2147483648, -2147483648, -2147483648, -1, -1, -2147483648, 0, -2147483648, -2147483648, 0, 0, 0, 0, 0, 0, 0, 0, 0, -1, -2147483648, -2147483648, -2147483648, -2147483648, 0, -2147483648, -2147483648, -2147483648, -2147483648] : List Int).getD k (-2147483648)
def mo_hi (k : Nat) : Int := ([2147483647, 12, 600, 2, 100000, 1000, 64, 100, 1000, 2147483647, 2147483647, 2147483647, 2, 2147483647, 100000, 100, 2147483647, 2147483647, 2147483647, 2147483647, 2147483647, 80, 2000, 11, 5, 1000, 100, 127, 300, 10, 2147483647, 2147483647, 2147483647, 2147483647, 2147483647, 2147483647, 600, 12, 2147483647, 2147483647, 2147483647, 2147483647, 2147483647, 2147483647, 2147483647, 2147483647, 2147483647, 2147483647, 2147483647, 2147483647, 2147483647, 2147483647, 2147483647, 11, 11, 2147483647, 1, 2147483647, 2147483647, 8, 100000, 100000, 20, 11, 100000, 100000, 1000, 2, 600, 2147483647, 2147483647, 2147483647, 2147483647, 60, 2147483647, 2147483647, 2147483647, 2147483647] : List Int).getD k 2147483647
/-- every cell in its bounds -/
def mo_rg (S : mo_S) : Prop := ∀ k i, k < 42 ∨ 52 < k → mo_lo k ≤ (S.1 k i).toInt ∧ (S.1 k i).toInt ≤ mo_hi k
def mo_sum (f : Nat → Int) : Nat → Int
  | 0 => 0
  | n + 1 => mo_sum f n + f n
/-- what a clause tells is as its kind asks -/
def mo_tell (what v : Int32) : Prop := (what = 0 ∨ what = 4) ∨ ((what = 1 ∨ what = 2 ∨ what = 3) ∧ ∃ n : Nat, v = nI n ∧ 2 ≤ n ∧ n ≤ 64) ∨ ((what = 5 ∨ what = 6 ∨ what = 9) ∧ ∃ n : Nat, v = nI n ∧ n ≤ 9999) ∨ ((what = 7 ∨ what = 8) ∧ ∃ n : Nat, v = nI n ∧ n ≤ 100) ∨ (what = 10 ∧ (v = 0 ∨ v = 1)) ∨ (what = 11 ∧ ∃ n : Nat, v = nI n ∧ n ≤ 3)
def mo_pl (S : mo_S) (n : Nat) : Int := mo_sum (fun r => if S.1 23 r = -1 then (S.1 22 r).toInt else 0) n
/-- orders -/
def mo_IO (S : mo_S) (F : mo_Fn) : Prop := mo_FF S F ∧ ∀ b n, b < sp_O S → n < (S.1 37 b).toNatClampNeg → mo_tell (S.1 38 (12 * b + n)) (S.1 39 (12 * b + n))
/-- who isn't there has nothing -/
def mo_IZ (S : mo_S) : Prop := (∀ p, sp_P S ≤ p → S.1 8 p = 0 ∧ S.1 9 p = 0 ∧ S.1 10 p = 0 ∧ S.1 11 p = 0 ∧ S.1 12 p = 0 ∧ S.1 13 p = 0 ∧ S.1 14 p = 0 ∧ S.1 15 p = 0 ∧ S.1 16 p = 0 ∧ S.1 18 p = 0 ∧ S.1 59 p = 0) ∧ (∀ w p, p < 12 → sp_W S ≤ w ∨ sp_P S ≤ p → S.1 26 (12 * w + p) = 0) ∧ (∀ p q, p < 12 → q < 12 → sp_P S ≤ p ∨ sp_P S ≤ q → S.1 58 (12 * p + q) = 0)
/-- papers that are there, reels, appeals, rows, sources, faults -/
def mo_IP (S : mo_S) : Prop := (∀ r, r < sp_R S → (S.1 23 r).toInt < sp_P S) ∧ (∀ a, a < sp_A S → (S.1 63 a).toInt < sp_P S) ∧ (∀ m p, p < 12 → sp_M S ≤ m ∨ sp_P S ≤ p → S.1 56 (12 * m + p) = 0) ∧ (∀ r, S.1 56 r = 1 → 0 ≤ (S.1 55 (4 * r)).toInt) ∧ (∀ p j, j < (S.1 59 p).toNatClampNeg → S.1 60 (8 * p + j) ≤ S.1 61 (8 * p + j)) ∧ (sp_O S = 10 → S.1 33 0 = -1) ∧ S.1 53 0 = -1 ∧ S.1 54 0 = -1
/-- stock and right don't grow above what the room of a number bears -/
def mo_IS (B : Int) (S : mo_S) : Prop := (∀ p, 0 ≤ (S.1 10 p).toInt) ∧ mo_sum (fun p => (S.1 10 p).toInt) 12 + mo_pl S (sp_R S) ≤ B ∧ mo_sum (fun p => ((S.1 11 p).toInt.natAbs : Int)) 12 ≤ 320000 * sp_M S
/-- .. what every method asks for, also in the midst of a month -/
def mo_J (S : mo_S) (F : mo_Fn) : Prop := mo_rg S ∧ mo_IO S F ∧ (∀ p, p < sp_P S → 2 ≤ (S.1 6 p).toInt ∧ 1 ≤ (S.1 7 p).toInt) ∧ (S.1 54 0 = -1 ∨ 0 ≤ (S.1 53 0).toInt)
def mo_I (B : Int) (S : mo_S) (F : mo_Fn) : Prop := mo_J S F ∧ mo_IZ S ∧ mo_IP S ∧ mo_IS B S
theorem mo_rgN {S : mo_S} (h : mo_rg S) {k i n : Nat} (hk : k < 42 ∨ 52 < k) (h0 : 0 ≤ mo_lo k) (hn : mo_hi k ≤ n) : ∃ j : Nat, j ≤ n ∧ j < 2147483648 ∧ S.1 k i = nI j := by
  obtain ⟨h1, h2⟩ := h k i hk
  have h3 := Int32.toInt_lt (S.1 k i)
  refine ⟨(S.1 k i).toInt.toNat, by omega, by omega, ?_⟩
  refine Int32.toInt_inj.mp ?_
  rw [nI_toInt (by omega)]
  omega
theorem mo_rgC {S : mo_S} (h : mo_rg S) {k : Nat} (i n : Nat) (hk : k < 42 ∨ 52 < k) (h0 : 0 ≤ mo_lo k) (hn : mo_hi k ≤ n) : S.1 k i = nI (S.1 k i).toNatClampNeg ∧ (S.1 k i).toNatClampNeg ≤ n := by
  obtain ⟨j, h1, h2, h3⟩ := mo_rgN h (i := i) hk h0 hn
  rw [h3, nI_clamp h2]
  exact ⟨rfl, h1⟩
section MOI
variable {S : mo_S} {F : mo_Fn}
theorem mo_J.P (h : mo_J S F) : S.1 1 0 = nI (sp_P S) ∧ sp_P S ≤ 12 := mo_rgC h.1 0 12 (by decide) (by decide) (by decide)
theorem mo_J.M (h : mo_J S F) : S.1 2 0 = nI (sp_M S) ∧ sp_M S ≤ 600 := mo_rgC h.1 0 600 (by decide) (by decide) (by decide)
theorem mo_J.R (h : mo_J S F) : S.1 21 0 = nI (sp_R S) ∧ sp_R S ≤ 80 := mo_rgC h.1 0 80 (by decide) (by decide) (by decide)
theorem mo_J.W (h : mo_J S F) : S.1 24 0 = nI (sp_W S) ∧ sp_W S ≤ 5 := mo_rgC h.1 0 5 (by decide) (by decide) (by decide)
theorem mo_J.O (h : mo_J S F) : S.1 29 0 = nI (sp_O S) ∧ sp_O S ≤ 10 := mo_rgC h.1 0 10 (by decide) (by decide) (by decide)
theorem mo_J.A (h : mo_J S F) : S.1 62 0 = nI (sp_A S) ∧ sp_A S ≤ 20 := mo_rgC h.1 0 20 (by decide) (by decide) (by decide)
theorem mo_J.Z (h : mo_J S F) : S.1 73 0 = nI (sp_Z S) ∧ sp_Z S ≤ 60 := mo_rgC h.1 0 60 (by decide) (by decide) (by decide)
theorem mo_J.C (h : mo_J S F) : ∀ b, b < sp_O S → ∃ C, C ≤ 12 ∧ S.1 37 b = nI C := fun b _ => by
  have q := mo_rgC h.1 (k := 37) b 12 (by decide) (by decide) (by decide)
  exact ⟨_, q.2, q.1⟩
theorem mo_J.FF (h : mo_J S F) : mo_FF S F := h.2.1.1
theorem mo_J.N (h : mo_J S F) {k : Nat} (i n : Nat) (hk : (k < 42 ∨ 52 < k) ∧ 0 ≤ mo_lo k ∧ mo_hi k ≤ n) : S.1 k i = nI (S.1 k i).toNatClampNeg ∧ (S.1 k i).toNatClampNeg ≤ n := mo_rgC h.1 i n hk.1 hk.2.1 hk.2.2
theorem mo_J.v (h : mo_J S F) {k : Nat} (i n : Nat) (hk : (k < 42 ∨ 52 < k) ∧ 0 ≤ mo_lo k ∧ mo_hi k ≤ n) (n2 : Nat) (hn : n < n2) (h2 : n2 < 2147483648) : vp_in (S.1 k i) n2 := by
  obtain ⟨e1, e2⟩ := h.N (k := k) i n hk
  rw [e1]
  exact vp_in_nI (by omega) h2
theorem mo_J.wi (h : mo_J S F) : ∀ p, p < 12 → nI p = S.1 54 0 → vp_in (S.1 53 0) 12 := by
  intro p hp q
  have h4 : 0 ≤ (S.1 53 0).toInt := by
    rcases h.2.2.2 with e | e
    · rw [e] at q
      exact absurd (show nI p < 0 by rw [q]; decide) (nI_pos (by omega))
    · exact e
  have h5 := (h.1 53 0 (by decide)).2
  rw [show mo_hi 53 = 11 from by decide] at h5
  have e : S.1 53 0 = nI (S.1 53 0).toInt.toNat := by
    refine Int32.toInt_inj.mp ?_
    rw [nI_toInt (by omega)]
    omega
  rw [e]
  exact vp_in_nI (by omega) (by decide)
/-- what the order in force tells is as its kind asks -/
theorem mo_J.tell (h : mo_J S F) (what : Int32) : sp_X12_much S what = sp_X12_without what ∨ mo_tell what (sp_X12_much S what) := by
  unfold sp_X12_much
  cases hq : sp_teller S what with
  | none => exact Or.inl (if_neg (show ¬ (0 : Int32) ≤ -1 by decide))
  | some c =>
    have hc := sp_teller_lt h.O.2 h.C hq
    refine Or.inr ?_
    rw [show sp_opt (some c) = nI c from rfl, if_pos (nI_pos' (by omega)), nI_clamp (by omega)]
    unfold sp_teller at hq
    cases hb : sp_now S with
    | none => rw [hb] at hq; cases hq
    | some b =>
      rw [hb] at hq
      obtain ⟨j, h3, h4, h5⟩ := sp_tell_sp (n := sp_cN S (some b)) hq
      subst h4
      have := h.2.1.2 b j (sp_now_lt hb) h3
      rw [h5] at this
      exact this
theorem mo_tellN {what v : Int32} {n : Nat} (ho : what ≠ 0 ∧ what ≠ 4 ∧ what ≠ 10) (hn : (what = 1 ∨ what = 2 ∨ what = 3 → 64 ≤ n) ∧ (what = 5 ∨ what = 6 ∨ what = 9 → 9999 ≤ n) ∧ (what = 7 ∨ what = 8 → 100 ≤ n) ∧ (what = 11 → 3 ≤ n)) (h : mo_tell what v) : ∃ f : Nat, f ≤ n ∧ v = nI f := by
  rcases h with h | ⟨h, f, h1, h2, h3⟩ | ⟨h, f, h1, h2⟩ | ⟨h, f, h1, h2⟩ | ⟨h, -⟩ | ⟨h, f, h1, h2⟩
  · rcases h with h | h
    · exact absurd h ho.1
    · exact absurd h ho.2.1
  · exact ⟨f, Nat.le_trans h3 (hn.1 h), h1⟩
  · exact ⟨f, Nat.le_trans h2 (hn.2.1 h), h1⟩
  · exact ⟨f, Nat.le_trans h2 (hn.2.2.1 h), h1⟩
  · exact absurd h ho.2.2
  · exact ⟨f, Nat.le_trans h2 (hn.2.2.2 h), h1⟩
theorem mo_J.least (h : mo_J S F) : ∃ f : Nat, f ≤ 9999 ∧ sp_X12_much S 9 = nI f := by
  rcases h.tell 9 with q | q
  · exact ⟨0, by decide, q⟩
  · exact mo_tellN (by decide) (by decide) q
theorem mo_J.way (h : mo_J S F) : ∃ f : Nat, f ≤ 3 ∧ sp_X12_much S 11 = nI f := by
  rcases h.tell 11 with q | q
  · exact ⟨0, by decide, q⟩
  · exact mo_tellN (by decide) (by decide) q
theorem mo_J.pages (h : mo_J S F) {k : Nat} (hk : k ≤ 2) : ∃ f : Nat, 2 ≤ f ∧ f ≤ 64 ∧ sp_X12_much S (1 + nI k) = nI f := by
  have e : k = 0 ∨ k = 1 ∨ k = 2 := by omega
  rcases e with rfl | rfl | rfl <;>
  · rcases h.tell (1 + nI _) with q | q
    · exact ⟨64, by decide, by decide, q⟩
    · rcases q with q | ⟨-, f, h1, h2, h3⟩ | ⟨q, -⟩ | ⟨q, -⟩ | ⟨q, -⟩ | ⟨q, -⟩
      · exact absurd q (by decide)
      · exact ⟨f, h2, h3, h1⟩
      all_goals exact absurd q (by decide)
end MOI
theorem sp_bounded_in {v : Int32} {a b : Nat} (hab : a ≤ b) (hb : b < 2147483648) : ∃ f : Nat, a ≤ f ∧ f ≤ b ∧ sp_X12_bounded v (nI a) (nI b) = nI f := by
  unfold sp_X12_bounded
  by_cases h1 : nI a ≤ v
  · rw [if_pos h1]
    obtain ⟨j, hj, rfl⟩ := nI_of (x := v) (Int32.not_lt.mpr (Int32.le_trans (nI_pos' (by omega)) h1))
    have h3 := (nI_leI (by omega) hj).mp h1
    by_cases h2 : nI j ≤ nI b
    · rw [if_pos h2]
      exact ⟨j, h3, (nI_leI hj hb).mp h2, rfl⟩
    · rw [if_neg h2]
      exact ⟨b, hab, Nat.le_refl _, rfl⟩
  · rw [if_neg h1]
    exact ⟨a, Nat.le_refl _, hab, rfl⟩

/-- the pool in kilograms -/
theorem mo_J.pool {S : mo_S} {F : mo_Fn} (h : mo_J S F) : ∀ n, ∃ L : Nat, sp_pool S n = nI L ∧ L ≤ 2000 * n
  | 0 => ⟨0, rfl, by omega⟩
  | n + 1 => by
    obtain ⟨L, h1, h2⟩ := h.pool n
    obtain ⟨e1, e2⟩ := h.N (k := 22) n 2000 (by decide)
    simp only [sp_pool]
    rw [h1, e1]
    by_cases c : S.1 23 n = -1
    · rw [if_pos c]
      exact ⟨L + (S.1 22 n).toNatClampNeg, nI_add _ _, by omega⟩
    · rw [if_neg c]
      exact ⟨L, by rw [show (0 : Int32) = nI 0 from rfl, nI_add]; rfl, by omega⟩
theorem sp_pool_cong {T S : mo_S} (h : T.1 22 = S.1 22) (h2 : T.1 23 = S.1 23) : ∀ n, sp_pool T n = sp_pool S n
  | 0 => rfl
  | n + 1 => by simp only [sp_pool]; rw [sp_pool_cong h h2 n, h, h2]
def sp_L (S : mo_S) : Nat := (sp_pool S (sp_R S)).toNatClampNeg
def sp_f (S : mo_S) : Nat := (sp_X12_much S 9).toNatClampNeg
theorem mo_J.L {S : mo_S} {F : mo_Fn} (h : mo_J S F) : sp_pool S (sp_R S) = nI (sp_L S) ∧ sp_L S ≤ 160000 := by
  obtain ⟨L, h1, h2⟩ := h.pool (sp_R S)
  have h3 := h.R.2
  unfold sp_L
  rw [h1, nI_clamp (by omega)]
  exact ⟨rfl, by omega⟩
theorem mo_J.f {S : mo_S} {F : mo_Fn} (h : mo_J S F) : sp_X12_much S 9 = nI (sp_f S) ∧ sp_f S ≤ 9999 := by
  obtain ⟨f, h1, h2⟩ := h.least
  unfold sp_f
  rw [h2, nI_clamp (by omega)]
  exact ⟨rfl, h1⟩
/-- a weight is a small whole number -/
theorem mo_J.weight {S : mo_S} {F : mo_Fn} (h : mo_J S F) (p : Nat) (x2 : Int32) : ∃ n : Nat, n ≤ 1000000 ∧ sp_weight S F (nI p) x2 = nI n := by
  unfold sp_weight
  by_cases c : x2 ≤ 0
  · rw [if_pos c]
    unfold sp_part
    cases hq : sp_teller (sp_envW S (nI p)) 0 with
    | none =>
      dsimp only
      unfold sp_envW
      split
      · rename_i q
        rw [(sp_eqN_means S (nI p)).1 53 (by decide), (sp_eqN_means S (nI p)).1 4 (by decide)]
        have e : ∀ a b : mo_S, ∀ x y z : Int32, (mo_up (mo_up (mo_up a 43 0 x) 44 0 y) 47 0 z).1 43 0 = x := fun a b x y z => by simp [mo_up]
        rw [e _ S]
        obtain ⟨e1, e2⟩ := h.N (k := 4) (nI p).toNatClampNeg 100000 (by decide)
        obtain ⟨e3, e4⟩ := h.N (k := 4) (S.1 53 0).toNatClampNeg 100000 (by decide)
        rw [e1, e3, nI_add]
        unfold sp_least
        split
        · exact ⟨_, by omega, rfl⟩
        · exact ⟨100000, by decide, rfl⟩
      · have e : (sp_X12_means S (nI p)).1 43 0 = S.1 4 (nI p).toNatClampNeg := by simp [sp_X12_means, mo_up]
        rw [e]
        obtain ⟨e1, e2⟩ := h.N (k := 4) (nI p).toNatClampNeg 100000 (by decide)
        rw [e1]
        exact ⟨_, by omega, rfl⟩
    | some c =>
      obtain ⟨f, -, h2, h3⟩ := sp_bounded_in (v := F c (sp_X12_named (sp_envW S (nI p)))) (a := 0) (b := 1000000) (by decide) (by decide)
      exact ⟨f, h2, h3⟩
  · rw [if_neg c]
    by_cases c2 : x2 = 1
    · rw [if_pos c2]
      obtain ⟨e1, e2⟩ := h.N (k := 8) (nI p).toNatClampNeg 1000 (by decide)
      rw [e1]
      exact ⟨_, by omega, rfl⟩
    · rw [if_neg c2]
      exact ⟨1, by decide, rfl⟩
theorem mo_J.w_is {S : mo_S} {F : mo_Fn} (h : mo_J S F) (x2 : Int32) (p : Nat) (hp : sp_I S p = true) : sp_weight S F (nI p) x2 = nI (sp_w S F x2 p) ∧ sp_w S F x2 p ≤ 1000000 := by
  obtain ⟨n, h1, h2⟩ := h.weight p x2
  unfold sp_w
  rw [if_pos hp, h2, nI_clamp (by omega)]
  exact ⟨rfl, h1⟩
theorem mo_J.pa {S : mo_S} {F : mo_Fn} {d : Nat} (h : mo_J S F) (hd : 6 ≤ d) (x2 : Int32) : pa_H S F (sp_f S) (sp_L S) x2 d :=
  ⟨hd, h.P.1, h.P.2, h.O.1, h.O.2, h.C, h.FF, h.wi, by have := h.L.2; omega, h.f.1, h.f.2, fun p _ hi => h.w_is x2 p hi⟩
/-- each has its share: the first n -/
def sp_div (S : mo_S) (sh : Nat → Int32) (way : Int32) : Nat → mo_S
  | 0 => S
  | n + 1 => if way = 3 then mo_up (mo_up (mo_up (mo_up (mo_up (sp_div S sh way n) 57 n (sh n)) 11 n ((sp_div S sh way n).1 11 n + sh n)) 9 n ((sp_div S sh way n).1 9 n - sh n * (sp_div S sh way n).1 15 n)) 14 n 0) 15 n 0
    else mo_up (mo_up (mo_up (mo_up (sp_div S sh way n) 57 n (sh n)) 11 n ((sp_div S sh way n).1 11 n + sh n)) 14 n 0) 15 n 0
theorem sp_div_ne {S : mo_S} {sh : Nat → Int32} {way : Int32} {k : Nat} (h : k ≠ 57 ∧ k ≠ 11 ∧ k ≠ 9 ∧ k ≠ 14 ∧ k ≠ 15) : ∀ n, (sp_div S sh way n).1 k = S.1 k
  | 0 => rfl
  | n + 1 => by
    simp only [sp_div]
    split
    · rw [mo_up_ne (by omega), mo_up_ne (by omega), mo_up_ne (by omega), mo_up_ne (by omega), mo_up_ne (by omega)]; exact sp_div_ne h n
    · rw [mo_up_ne (by omega), mo_up_ne (by omega), mo_up_ne (by omega), mo_up_ne (by omega)]; exact sp_div_ne h n
def sp_shN (S : mo_S) (F : mo_Fn) (x2 : Int32) (p : Nat) : Int32 := sp_sh S F (sp_f S) (sp_L S) x2 p
def sp_divides (S : mo_S) (F : mo_Fn) : mo_S := sp_div S (sp_shN S F (sp_X12_much S 11)) (sp_X12_much S 11) (sp_P S)
theorem mo_J.up {S : mo_S} {F : mo_Fn} {k i : Nat} {v : Int32} (h : mo_J S F) (hk : (k < 42 ∨ 52 < k) ∧ k ≠ 1 ∧ k ≠ 2 ∧ k ≠ 29 ∧ ¬ (36 ≤ k ∧ k ≤ 41) ∧ k ≠ 6 ∧ k ≠ 7 ∧ k ≠ 53 ∧ k ≠ 54) (hv : mo_lo k ≤ v.toInt ∧ v.toInt ≤ mo_hi k) : mo_J (mo_up S k i v) F := by
  obtain ⟨h1, ⟨h2, h3⟩, h4, h5⟩ := h
  have hq := sp_eqF_up (S := S) (T := S) (k := k) (i := i) (v := v) (by omega) (sp_eqF_r S)
  refine ⟨fun j b hj => ?_, ⟨h2.cong hq, fun b n hb hn => ?_⟩, fun p hp => ?_, by rw [mo_up_ne (by omega), mo_up_ne (by omega)]; exact h5⟩
  · by_cases e : j = k
    · subst e
      rw [mo_up_at]
      by_cases e2 : b = i
      · subst e2; rw [pk_us]; exact hv
      · rw [pk_un e2]; exact h1 j b hj
    · rw [mo_up_ne e]; exact h1 j b hj
  · rw [sp_eqF_O hq] at hb
    rw [hq.2.2.2.1] at hn
    rw [hq.2.2.2.2.1, hq.2.2.2.2.2.1]
    exact h3 b n hb hn
  · rw [mo_up_ne (by omega), mo_up_ne (by omega)]
    unfold sp_P at hp
    rw [mo_up_ne (by omega)] at hp
    exact h4 p hp
theorem mo_J.cong {T S : mo_S} {F : mo_Fn} (e : sp_eqM T S) (h : mo_J S F) : mo_J T F := by
  obtain ⟨h1, ⟨h2, h3⟩, h4, h5⟩ := h
  have hq := sp_eqM_F e
  refine ⟨fun j b hj => by rw [e j hj]; exact h1 j b hj, ⟨h2.cong hq, fun b n hb hn => ?_⟩, fun p hp => ?_, by rw [e 53 (by decide), e 54 (by decide)]; exact h5⟩
  · rw [sp_eqF_O hq] at hb
    rw [hq.2.2.2.1] at hn
    rw [hq.2.2.2.2.1, hq.2.2.2.2.2.1]
    exact h3 b n hb hn
  · rw [e 6 (by decide), e 7 (by decide)]
    unfold sp_P at hp
    rw [e 1 (by decide)] at hp
    exact h4 p hp
theorem mo_any {v : Int32} : (-2147483648 : Int) ≤ v.toInt ∧ v.toInt ≤ 2147483647 := by
  have a := Int32.le_toInt v
  have b := Int32.toInt_lt v
  constructor <;> omega
theorem mo_J.upA {S : mo_S} {F : mo_Fn} {k i : Nat} {v : Int32} (h : mo_J S F) (hk : ((k < 42 ∨ 52 < k) ∧ k ≠ 1 ∧ k ≠ 2 ∧ k ≠ 29 ∧ ¬ (36 ≤ k ∧ k ≤ 41) ∧ k ≠ 6 ∧ k ≠ 7 ∧ k ≠ 53 ∧ k ≠ 54) ∧ mo_lo k = -2147483648 ∧ mo_hi k = 2147483647) : mo_J (mo_up S k i v) F := h.up hk.1 (by rw [hk.2.1, hk.2.2]; exact mo_any)

theorem dv_loop {G : ev_G} {W : mo_W} {d : Nat} {g0 : ev_H} {S : mo_S} {F : mo_Fn} (hE : ev_En G) (h : mo_J S F)  : ∀ (n i : Nat), i ≤ sp_P S → sp_P S < i + n → ∀ (T : mo_S), sp_eqM T (sp_div S (sp_shN S F (sp_X12_much S 11)) (sp_X12_much S 11) i) ∧ (∀ j, j < sp_P S → T.1 51 j = (sp_shN S F (sp_X12_much S 11)) j) → ∀ g, mo_T G W g0 g T → ev_V G d 0 0 mX12_divides (fun o g' => ∃ r S2, o = .inl r ∧ (r = none ∧ sp_eqM S2 (sp_divides S F)) ∧ mo_T G W g0 g' S2) g 18 [some (.ref W.1), some (.int (sp_X12_much S 11)), some (.int (nI i))] [] := by
  intro n
  induction n with
  | zero => intro i h1 h2; exact absurd h2 (by omega)
  | succ n ih =>
    intro i h1 h2 T hI g hT
    obtain ⟨hM, hI2⟩ := id hI
    have hP2 := h.P.2
    have hP9 : T.1 1 0 = nI (sp_P S) := by rw [hM 1 (by decide), sp_div_ne (by decide)]; exact h.P.1
    refine ev_iload_n dX12_divides_18 rfl rfl ?_
    refine ev_aload_n dX12_divides_19 rfl rfl ?_
    refine mo_geti hE hT dX12_divides_20 fX12_185 (by decide) ?_
    refine ev_icmp_ge (tgt := 100) dX12_divides_23 (by decide) (fun c_23 => ?_) (fun c_23 => ?_)
    · have e : i = sp_P S := by have q := mo_ige hP9 (by omega) (by omega) c_23; omega
      subst e
      exact ev_vret dX12_divides_100 rfl ⟨_, T, rfl, ⟨rfl, hM⟩, hT⟩
    · have hlt : i < sp_P S := mo_ilt hP9 (by omega) (by omega) c_23
      have h51 := hI2 i hlt
      refine ev_aload_n dX12_divides_26 rfl rfl ?_
      refine mo_geta hE hT dX12_divides_27 fX12_128 (by decide) ?_
      refine ev_iload_n dX12_divides_30 rfl rfl ?_
      refine ev_aload_n dX12_divides_31 rfl rfl ?_
      refine mo_geta hE hT dX12_divides_32 fX12_108 (by decide) ?_
      refine ev_iload_n dX12_divides_35 rfl rfl ?_
      refine mo_ialdQ (q := i) (v := ((sp_shN S F (sp_X12_much S 11)) i)) hE hT dX12_divides_36 (by decide) rfl (show _ < 12 from (by omega)) (by simpa [mo_up] using h51) ?_
      refine mo_iast (q := i) hE hT dX12_divides_37 (by decide) rfl (show _ < 12 from (by omega)) (fun g hT => ?_)
      refine ev_aload_n dX12_divides_38 rfl rfl ?_
      refine mo_geta hE hT dX12_divides_39 fX12_34 (by decide) ?_
      refine ev_iload_n dX12_divides_42 rfl rfl ?_
      refine ev_dup2 dX12_divides_43 rfl rfl ?_
      refine mo_ialdQ (q := i) (v := (T.1 11 i)) hE hT dX12_divides_44 (by decide) rfl (show _ < 12 from (by omega)) (by simp [sp_bad_ne, mo_up]) ?_
      refine ev_aload_n dX12_divides_45 rfl rfl ?_
      refine mo_geta hE hT dX12_divides_46 fX12_108 (by decide) ?_
      refine ev_iload_n dX12_divides_49 rfl rfl ?_
      refine mo_ialdQ (q := i) (v := ((sp_shN S F (sp_X12_much S 11)) i)) hE hT dX12_divides_50 (by decide) rfl (show _ < 12 from (by omega)) (by simpa [mo_up] using h51) ?_
      refine ev_iadd dX12_divides_51 ?_
      refine mo_iast (q := i) hE hT dX12_divides_52 (by decide) rfl (show _ < 12 from (by omega)) (fun g hT => ?_)
      refine ev_iload_n dX12_divides_53 rfl rfl ?_
      refine ev_iconst (v := 3) dX12_divides_54 (by decide) ?_
      refine ev_icmp_ne (tgt := 80) dX12_divides_55 (by decide) (fun c_55 => ?_) (fun c_55 => ?_)
      · refine ev_aload_n dX12_divides_80 rfl rfl ?_
        refine mo_geta hE hT dX12_divides_81 fX12_43 (by decide) ?_
        refine ev_iload_n dX12_divides_84 rfl rfl ?_
        refine ev_iconst (v := 0) dX12_divides_85 (by decide) ?_
        refine mo_iast (q := i) hE hT dX12_divides_86 (by decide) rfl (show _ < 12 from (by omega)) (fun g hT => ?_)
        refine ev_aload_n dX12_divides_87 rfl rfl ?_
        refine mo_geta hE hT dX12_divides_88 fX12_46 (by decide) ?_
        refine ev_iload_n dX12_divides_91 rfl rfl ?_
        refine ev_iconst (v := 0) dX12_divides_92 (by decide) ?_
        refine mo_iast (q := i) hE hT dX12_divides_93 (by decide) rfl (show _ < 12 from (by omega)) (fun g hT => ?_)
        refine ev_iinc (v := (nI (i + 1))) dX12_divides_94 rfl (by exact nI_1 i) rfl ?_
        refine ev_goto (tgt := 18) dX12_divides_97 (by decide) ?_
        have hlt : i < sp_P S := mo_ilt hP9 (by omega) (by omega) c_23
        have h51 := hI2 i hlt
        refine ih (i + 1) (by omega) (by omega) _ ⟨?_, fun j hj => by simpa [mo_up] using hI2 j hj⟩ g hT
        simp only [sp_div]
        first
          | (rw [if_pos c_55, ← hM 11 (by decide), ← hM 9 (by decide), ← hM 15 (by decide)]; repeat' (first | exact hM | apply sp_eqM_up))
          | (rw [if_neg c_55, ← hM 11 (by decide)]; repeat' (first | exact hM | apply sp_eqM_up))
      · refine ev_aload_n dX12_divides_58 rfl rfl ?_
        refine mo_geta hE hT dX12_divides_59 fX12_28 (by decide) ?_
        refine ev_iload_n dX12_divides_62 rfl rfl ?_
        refine ev_dup2 dX12_divides_63 rfl rfl ?_
        refine mo_ialdQ (q := i) (v := (T.1 9 i)) hE hT dX12_divides_64 (by decide) rfl (show _ < 12 from (by omega)) (by simp [sp_bad_ne, mo_up]) ?_
        refine ev_aload_n dX12_divides_65 rfl rfl ?_
        refine mo_geta hE hT dX12_divides_66 fX12_108 (by decide) ?_
        refine ev_iload_n dX12_divides_69 rfl rfl ?_
        refine mo_ialdQ (q := i) (v := ((sp_shN S F (sp_X12_much S 11)) i)) hE hT dX12_divides_70 (by decide) rfl (show _ < 12 from (by omega)) (by simpa [mo_up] using h51) ?_
        refine ev_aload_n dX12_divides_71 rfl rfl ?_
        refine mo_geta hE hT dX12_divides_72 fX12_46 (by decide) ?_
        refine ev_iload_n dX12_divides_75 rfl rfl ?_
        refine mo_ialdQ (q := i) (v := (T.1 15 i)) hE hT dX12_divides_76 (by decide) rfl (show _ < 12 from (by omega)) (by simp [sp_bad_ne, mo_up]) ?_
        refine ev_imul dX12_divides_77 ?_
        refine ev_isub dX12_divides_78 ?_
        refine mo_iast (q := i) hE hT dX12_divides_79 (by decide) rfl (show _ < 12 from (by omega)) (fun g hT => ?_)
        refine ev_aload_n dX12_divides_80 rfl rfl ?_
        refine mo_geta hE hT dX12_divides_81 fX12_43 (by decide) ?_
        refine ev_iload_n dX12_divides_84 rfl rfl ?_
        refine ev_iconst (v := 0) dX12_divides_85 (by decide) ?_
        refine mo_iast (q := i) hE hT dX12_divides_86 (by decide) rfl (show _ < 12 from (by omega)) (fun g hT => ?_)
        refine ev_aload_n dX12_divides_87 rfl rfl ?_
        refine mo_geta hE hT dX12_divides_88 fX12_46 (by decide) ?_
        refine ev_iload_n dX12_divides_91 rfl rfl ?_
        refine ev_iconst (v := 0) dX12_divides_92 (by decide) ?_
        refine mo_iast (q := i) hE hT dX12_divides_93 (by decide) rfl (show _ < 12 from (by omega)) (fun g hT => ?_)
        refine ev_iinc (v := (nI (i + 1))) dX12_divides_94 rfl (by exact nI_1 i) rfl ?_
        refine ev_goto (tgt := 18) dX12_divides_97 (by decide) ?_
        have hlt : i < sp_P S := mo_ilt hP9 (by omega) (by omega) c_23
        have h51 := hI2 i hlt
        refine ih (i + 1) (by omega) (by omega) _ ⟨?_, fun j hj => by simpa [mo_up] using hI2 j hj⟩ g hT
        simp only [sp_div]
        first
          | (rw [if_pos c_55, ← hM 11 (by decide), ← hM 9 (by decide), ← hM 15 (by decide)]; repeat' (first | exact hM | apply sp_eqM_up))
          | (rw [if_neg c_55, ← hM 11 (by decide)]; repeat' (first | exact hM | apply sp_eqM_up))
theorem c_X12_divides {G : ev_G} {W : mo_W} {d : Nat} {S : mo_S} {F : mo_Fn} (hE : ev_En G) (hd : 7 ≤ d) (h : mo_J S F) : mo_Cr G W d mX12_divides [] S (fun r S2 => r = none ∧ sp_eqM S2 (sp_divides S F)) := by
  refine mo_startr (lv0 := [some (.ref W.1), none, none]) (by decide +kernel) rfl (Nat.le_of_ble_eq_true rfl) rfl ?_
  intro g0 g hT
  refine ev_aload_n dX12_divides_0 rfl rfl ?_
  refine ev_bipush (v := 11) dX12_divides_1 (by decide) ?_
  refine mo_call1 (d' := d - 1) hE hT dX12_divides_3 rfl rfl kX12_much lX12_412 iX12_much vX12_much (Nat.le_of_ble_eq_true rfl) (by omega) (c_X12_much hE (by omega) h.O.1 h.O.2 h.C) (fun g hT => ?_)
  refine ev_istore_n dX12_divides_6 rfl (Nat.le_of_ble_eq_true rfl) rfl ?_
  refine ev_aload_n dX12_divides_7 rfl rfl ?_
  refine ev_aload_n dX12_divides_8 rfl rfl ?_
  refine mo_call0 (d' := d - 1) hE hT dX12_divides_9 rfl rfl kX12_pool lX12_431 iX12_pool vX12_pool (Nat.le_of_ble_eq_true rfl) (by omega) (c_X12_pool hE h.R.1 h.R.2) (fun g hT => ?_)
  refine ev_iload_n dX12_divides_12 rfl rfl ?_
  rw [h.L.1]
  refine mo_callr2 (d' := d - 1) hE hT dX12_divides_13 rfl rfl kX12_parts lX12_434 iX12_parts vX12_parts (Nat.le_of_ble_eq_true rfl) (by omega) (c_X12_parts hE (h.pa (by omega) _)) (fun r T g h8 hT => ?_)
  obtain ⟨rfl, hM, h51⟩ := h8
  refine ev_iconst (v := (nI 0)) dX12_divides_16 (by decide) ?_
  refine ev_istore_n dX12_divides_17 rfl (Nat.le_of_ble_eq_true rfl) rfl ?_
  exact dv_loop hE h (sp_P S + 1) 0 (by omega) (by omega) T ⟨hM, h51⟩ g hT
end M12
