section DK
theorem mo_sum_2 {f g : Nat → Int} {p q n : Nat} (hp : p < n) (hq : q < n) (hpq : p ≠ q) (h : ∀ i, i < n → i ≠ p → i ≠ q → f i = g i) : mo_sum f n = mo_sum g n + (f p - g p) + (f q - g q) := by
  have a := mo_sum_1 (f := fun i => if i = p then f p else g i) (g := g) (r := p) n (fun i _ hi => if_neg hi)
  have b := mo_sum_1 (f := f) (g := fun i => if i = p then f p else g i) (r := q) n (fun i h1 hi => by
    show f i = if i = p then f p else g i
    by_cases e : i = p
    · rw [if_pos e, e]
    · rw [if_neg e]; exact h i h1 e hi)
  rw [if_pos hp, if_pos rfl] at a
  rw [if_pos hq, if_neg (Ne.symm hpq), a] at b
  exact b
theorem mo_sum_nn {f : Nat → Int} (h : ∀ i, 0 ≤ f i) : ∀ n, 0 ≤ mo_sum f n
  | 0 => Int.le_refl _
  | n + 1 => Int.add_nonneg (mo_sum_nn h n) (h n)
theorem mo_sum_pr {g : Nat → Int} {p q n : Nat} (hp : p < n) (hq : q < n) (hpq : p ≠ q) (h : ∀ i, 0 ≤ g i) : g p + g q ≤ mo_sum g n := by
  have a := mo_sum_2 (f := fun i => if i = p ∨ i = q then 0 else g i) (g := g) hp hq hpq (fun i _ h1 h2 => if_neg (by omega))
  have b := mo_sum_nn (f := fun i => if i = p ∨ i = q then 0 else g i) (fun i => by
    split
    · exact Int.le_refl _
    · exact h i) n
  rw [if_pos (Or.inl rfl), if_pos (Or.inr rfl)] at a
  omega
/-- what papers have and reels' places change, of those that are there -/
theorem mo_K.chg {S T : mo_S} {F : mo_Fn} {B B2 : Int} (h : mo_K B S F) (hJ : mo_J T F) (n : ∀ a, a ∉ [0, 4, 5, 9, 10, 11, 12, 14, 15, 23, 26, 58] → T.1 a = S.1 a) (hz : ∀ k, k ∈ [9, 10, 11, 12, 14, 15] → ∀ r, sp_P S ≤ r → T.1 k r = S.1 k r) (h26 : ∀ x r, r < 12 → sp_W S ≤ x ∨ sp_P S ≤ r → T.1 26 (12 * x + r) = S.1 26 (12 * x + r)) (h58 : ∀ x r, x < 12 → r < 12 → sp_P S ≤ x ∨ sp_P S ≤ r → T.1 58 (12 * x + r) = S.1 58 (12 * x + r)) (h23 : ∀ r, r < sp_R S → (T.1 23 r).toInt < sp_P S) (hS : mo_IS B2 T) : mo_K B2 T F := by
  obtain ⟨⟨h1, h2, h3, h4⟩, h5⟩ := h
  have eP : sp_P T = sp_P S := sp_P_cg (n 1 (by decide))
  have eR : sp_R T = sp_R S := sp_R_cg (n 21 (by decide))
  have eW : sp_W T = sp_W S := by unfold sp_W; rw [n 24 (by decide)]
  refine ⟨⟨hJ, ⟨fun q hq => ?_, fun x r hr hx => ?_, fun x r hx hr hxr => ?_⟩, ⟨fun r hr => ?_, ?_⟩, hS⟩, h5.cg (fun a ha => n a (fun e => by revert ha e; revert a; decide))⟩
  · rw [eP] at hq
    rw [n 8 (by decide), hz 9 (by decide) q hq, hz 10 (by decide) q hq, hz 11 (by decide) q hq, hz 12 (by decide) q hq, n 13 (by decide), hz 14 (by decide) q hq, hz 15 (by decide) q hq, n 16 (by decide), n 18 (by decide), n 59 (by decide)]
    exact h2.1 q hq
  · rw [eP, eW] at hx
    rw [h26 x r hr hx]
    exact h2.2.1 x r hr hx
  · rw [eP] at hxr
    rw [h58 x r hx hr hxr]
    exact h2.2.2 x r hx hr hxr
  · rw [eP]
    exact h23 r (by rw [← eR]; exact hr)
  · obtain ⟨-, h3⟩ := h3
    unfold sp_P sp_A sp_M sp_O at h3 ⊢
    rw [n 1 (by decide), n 2 (by decide), n 29 (by decide), n 59 (by decide), n 62 (by decide), n 63 (by decide), n 56 (by decide), n 55 (by decide), n 60 (by decide), n 61 (by decide), n 33 (by decide), n 53 (by decide), n 54 (by decide)]
    exact h3
theorem mo_pl_nn {S : mo_S} {F : mo_Fn} (h : mo_J S F) (n : Nat) : 0 ≤ mo_pl S n := by
  unfold mo_pl
  refine mo_sum_nn (fun i => ?_) n
  split
  · exact (h.1 22 i (by decide)).1
  · exact Int.le_refl _
theorem mo_J.rate {S : mo_S} {F : mo_Fn} (h : mo_J S F) : ∃ f : Nat, f ≤ 100 ∧ sp_X12_much S 7 = nI f := by
  rcases h.tell 7 with q | q
  · exact ⟨100, by decide, q⟩
  · exact mo_tellN (by decide) (by decide) q
/-- stock goes from p to q, no more than p had -/
theorem mo_K.swp {S : mo_S} {F : mo_Fn} {B : Int} {p q x g : Nat} {v : Int32} (h : mo_K B S F) (hB : B ≤ 2000000000) (hp : p < sp_P S) (hq : q < sp_P S) (hpq : p ≠ q) (hx : x ≤ 100000 ∧ nI x ≤ S.1 10 p) (hg : g ≤ x) : mo_K B (mo_up (mo_up (mo_up S 10 p (S.1 10 p - nI x)) 10 q (S.1 10 q + nI g)) 58 (12 * q + p) v) F := by
  have hP := h.1.1.P.2
  have hI := h.1.2.2.2
  have nn := hI.1
  have pr := mo_sum_pr (g := fun p => (S.1 10 p).toInt) (p := p) (q := q) (n := 12) (by omega) (by omega) hpq nn
  have pl := mo_pl_nn h.1.1 (sp_R S)
  have hx2 := Int32.le_iff_toInt_le.mp hx.2
  rw [nI_toInt (by omega)] at hx2
  have b1 := hI.2.1
  try dsimp only at pr
  have c1 : (S.1 10 p - nI x).toInt = (S.1 10 p).toInt - x := by
    rw [Int32.toInt_sub, nI_toInt (by omega), Int.bmod_eq_of_le (by omega) (by have := nn q; omega)]
  have c2 : (S.1 10 q + nI g).toInt = (S.1 10 q).toInt + g := by
    rw [Int32.toInt_add, nI_toInt (by omega), Int.bmod_eq_of_le (by have := nn q; omega) (by omega)]
  have n : ∀ a, a ≠ 10 → a ≠ 58 → (mo_up (mo_up (mo_up S 10 p (S.1 10 p - nI x)) 10 q (S.1 10 q + nI g)) 58 (12 * q + p) v).1 a = S.1 a := fun a ha hb => by rw [mo_up_ne hb, mo_up_ne ha, mo_up_ne ha]
  have e10 : ∀ r, (mo_up (mo_up (mo_up S 10 p (S.1 10 p - nI x)) 10 q (S.1 10 q + nI g)) 58 (12 * q + p) v).1 10 r = if r = q then S.1 10 q + nI g else if r = p then S.1 10 p - nI x else S.1 10 r := fun r => by
    rw [mo_up_ne (by decide), mo_up_at]
    by_cases e : r = q
    · rw [e, pk_us, if_pos rfl]
    · rw [pk_un e, if_neg e, mo_up_at]
      by_cases e2 : r = p
      · rw [e2, pk_us, if_pos rfl]
      · rw [pk_un e2, if_neg e2]
  refine h.chg (((h.1.1.upA (by decide)).upA (by decide)).upA (by decide)) (fun a ha => n a (fun e => by subst e; revert ha; decide) (fun e => by subst e; revert ha; decide)) (fun k hk r hr => ?_) (fun y r hr hy => by rw [n 26 (by decide) (by decide)]) (fun y r hy hr hyr => ?_) (fun r hr => by rw [n 23 (by decide) (by decide)]; exact h.1.2.2.1.1 r hr) ⟨fun r => ?_, ?_, ?_⟩
  · by_cases e : k = 10
    · rw [e, e10, if_neg (by omega), if_neg (by omega)]
    · rw [n k e (fun e => by subst e; revert hk; decide)]
  · rw [mo_up_at, pk_un (by omega), mo_up_ne (by decide), mo_up_ne (by decide)]
  · rw [e10]
    split
    · rw [c2]; have := nn q; omega
    · split
      · rw [c1]; omega
      · exact nn r
  · have e1 : ∀ n2, mo_pl (mo_up (mo_up (mo_up S 10 p (S.1 10 p - nI x)) 10 q (S.1 10 q + nI g)) 58 (12 * q + p) v) n2 = mo_pl S n2 := fun n2 => by
      unfold mo_pl
      rw [n 22 (by decide) (by decide), n 23 (by decide) (by decide)]
    rw [e1, sp_R_cg (n 21 (by decide) (by decide))]
    have s := mo_sum_2 (f := fun r => ((mo_up (mo_up (mo_up S 10 p (S.1 10 p - nI x)) 10 q (S.1 10 q + nI g)) 58 (12 * q + p) v).1 10 r).toInt) (g := fun p => (S.1 10 p).toInt) (p := p) (q := q) (n := 12) (by omega) (by omega) hpq (fun i _ h1 h2 => by rw [e10, if_neg h2, if_neg h1])
    rw [s]
    try dsimp only
    rw [e10, e10, if_pos rfl, if_neg hpq, if_pos rfl, c1, c2]
    omega
  · rw [n 11 (by decide) (by decide)]
    unfold sp_M
    rw [n 2 (by decide) (by decide)]
    exact hI.2.2
theorem cl_swap {B : Int} {C S : mo_S} {F : mo_Fn} {OL : Nat → List od_q} (h : cl_R B C S F OL) (hB : B ≤ 2000000000) (x1 x2 x3 : Int32) : cl_st B [cl_IO, cl_IA] (cx_X11_swap C x1 x2 x3) (sp_X12_swap S x1 x2 x3) := by
  unfold cx_X11_swap sp_X12_swap cx_X5_takeFrom
  rw [h.1.k 1 (by decide)]
  simp only [cx_within_in]
  have hP := h.J.P
  cases a : sp_in x1 0 (S.1 1 0 - 1)
  · simp only [mo_b_t, mo_b_f, cl_10, eq_self, Bool.false_eq_true, Bool.not_true, Bool.not_false, if_true, if_false, cl_bt, cl_bf, Bool.true_and, Bool.false_and]
    exact cl_st.E0 rfl h
  · cases b : sp_in x2 0 (S.1 1 0 - 1)
    · simp only [mo_b_t, mo_b_f, cl_10, eq_self, Bool.false_eq_true, Bool.not_true, Bool.not_false, if_true, if_false, cl_bt, cl_bf, Bool.true_and, Bool.false_and]
      exact cl_st.E0 rfl h
    · obtain ⟨-, p1, e1⟩ := mo_vin (N := 12) hP.1 hP.2 (by decide) a
      obtain ⟨-, p2, e2⟩ := mo_vin (N := 12) hP.1 hP.2 (by decide) b
      cases c : sp_in x3 1 100000
      · simp only [mo_b_t, mo_b_f, cl_10, eq_self, Bool.false_eq_true, Bool.not_true, Bool.not_false, if_true, if_false, cl_bt, cl_bf, Bool.true_and, Bool.false_and]
        exact cl_st.E1 rfl h.u0
      · simp only [mo_b_t, mo_b_f, cl_10, eq_self, Bool.false_eq_true, Bool.not_true, Bool.not_false, if_true, if_false, cl_bt, cl_bf, Bool.true_and, Bool.false_and]
        have h0 := h.u0 (v := 0)
        have hz : (mo_up S 0 0 0).1 10 = S.1 10 ∧ (mo_up S 0 0 0).1 58 = S.1 58 := ⟨mo_up_ne (by decide), mo_up_ne (by decide)⟩
        have ok : ∀ v : Int32, cl_st B [cl_IO, cl_IA] (.inr v, C) (v, mo_up S 0 0 0) := fun v => cl_st.ok0 h
        have z0 : (mo_up S 0 0 0).1 0 0 = 0 := by rw [mo_up_at, pk_us]
        rw [← hz.1, ← hz.2]
        have zP : sp_P (mo_up S 0 0 0) = sp_P S := kl_P (by decide)
        rw [← zP] at p1 p2
        have e105 : C.1 105 (cx_now C) = sp_X12_much (mo_up S 0 0 0) 7 := h0.vl (x := 7) (by omega) (by omega) (by omega)
        generalize mo_up S 0 0 0 = Z at h0 ok z0 p1 p2 e105
        have hZP := h0.J.P.2
        generalize x1.toNatClampNeg = p at p1 e1
        generalize x2.toNatClampNeg = q at p2 e2
        subst e1 e2
        rw [cl_two h0.1 (by omega) (by omega), e105]
        have q2 : (12 * nI q + nI p).toNatClampNeg = 12 * q + p := by rw [show (12 : Int32) = nI 12 from rfl, pk_mul, nI_add, nI_clamp (by omega)]
        rw [q2]
        cases t : sp_X12_areTwo Z (nI p) (nI q)
        · simp only [mo_b_t, mo_b_f, cl_10, eq_self, Bool.false_eq_true, Bool.not_true, Bool.not_false, if_true, if_false, cl_bt, cl_bf, Bool.true_and, Bool.false_and]
          exact ok _
        · simp only [mo_b_t, mo_b_f, cl_10, eq_self, Bool.false_eq_true, Bool.not_true, Bool.not_false, if_true, if_false, cl_bt, cl_bf, Bool.true_and, Bool.false_and]
          have hpq := cl_two_ne t
          rw [h0.1.k 10 (by decide)]
          by_cases s : x3 ≤ Z.1 10 p
          · rw [if_pos s, if_pos s]
            by_cases m : sp_X12_much Z 7 = 0
            · rw [if_pos m, if_pos m]
              exact ok _
            · rw [if_neg m, if_neg m]
              obtain ⟨f, f1, f2⟩ := h0.J.rate
              rw [f2]
              have i3 := kl_in c
              have j3 : (1 : Int) ≤ x3.toInt := i3.1
              have k3 : x3.toInt ≤ 100000 := i3.2
              have e3 : x3 = nI x3.toInt.toNat := by refine Int32.toInt_inj.mp ?_; rw [nI_toInt (by omega)]; omega
              have k4 : x3.toInt.toNat ≤ 100000 := by omega
              generalize x3.toInt.toNat = x at e3 k4
              subst e3
              have hm : x * f ≤ x * 100 := Nat.mul_le_mul_left _ f1
              rw [show (100 : Int32) = nI 100 from rfl, pk_mul, pk_div (by omega) (by decide) (by decide)]
              have hg : x * f / 100 ≤ x := by omega
              have e10 : ∀ T : mo_S, T.1 10 = Z.1 10 → (mo_up T 10 p (Z.1 10 p - nI x)).1 10 q = Z.1 10 q := fun T hT => by rw [mo_up_at, pk_un (Ne.symm hpq), hT]
              have e58 : (mo_up (mo_up C 10 p (Z.1 10 p - nI x)) 10 q (Z.1 10 q + nI (x * f / 100))).1 58 (12 * q + p) = Z.1 58 (12 * q + p) := by rw [mo_up_ne (by decide), mo_up_ne (by decide), h0.1.k 58 (by decide)]
              rw [e10 C (h0.1.k 10 (by decide)), e10 Z rfl, e58]
              have hK := h0.2.2.swp (v := Z.1 58 (12 * q + p) + nI (x * f / 100)) hB p1 p2 hpq ⟨k4, s⟩ hg
              refine cl_st.ok (F := F) (OL := OL) (by rw [mo_up_ne (by decide), mo_up_ne (by decide), mo_up_ne (by decide)]; exact z0) ⟨((h0.1.up (by decide)).up (by decide)).up (by decide), ((h0.2.1.up (by decide)).up (by decide)).up (by decide), hK.le (by omega)⟩
          · rw [if_neg s, if_neg s]
            exact ok _
end DK
