section DD
/-- an appeal -/
theorem mo_K.appeal0 {S T : mo_S} {F : mo_Fn} {B : Int} {p : Nat} (h : mo_K B S F) (hp : p < sp_P S) (hA : sp_A S < 20) (hJ : mo_J T F) (n : ∀ a, ¬ (62 ≤ a ∧ a ≤ 68) → T.1 a = S.1 a) (e62 : T.1 62 0 = nI (sp_A S + 1)) (e63 : T.1 63 = upd (S.1 63) (sp_A S) (nI p)) : mo_K B T F := by
  obtain ⟨⟨i1, i2, i3, i4⟩, i5⟩ := id h
  have hP := i1.P.2
  refine ⟨⟨hJ, i2.cg (fun a ha => n a ?_), ?_, i4.cg (fun a ha => n a ?_)⟩, i5.cg (fun a ha => n a ?_)⟩
  · have q : ∀ a ∈ [1, 8, 9, 10, 11, 12, 13, 14, 15, 16, 18, 24, 26, 58, 59], ¬ (62 ≤ a ∧ a ≤ 68) := by decide
    exact q a ha
  · obtain ⟨a1, a2, a3, a4, a5, a6, a7⟩ := i3
    refine ⟨?_, fun a ha => ?_, ?_, ?_, ?_, ?_, ?_⟩
    · unfold sp_R sp_P at a1 ⊢; rw [n 23 (by decide), n 21 (by decide), n 1 (by decide)]; exact a1
    · have eA : sp_A T = sp_A S + 1 := by
        unfold sp_A
        rw [e62, nI_clamp (by omega)]
        rfl
      have eP : sp_P T = sp_P S := by unfold sp_P; rw [n 1 (by decide)]
      rw [eA] at ha
      rw [eP, e63]
      by_cases qa : a = sp_A S
      · rw [qa, pk_us, nI_toInt (by omega)]; omega
      · rw [pk_un qa]; exact a2 a (by omega)
    · unfold sp_M sp_P at a3 ⊢; rw [n 56 (by decide), n 2 (by decide), n 1 (by decide)]; exact a3
    · rw [n 56 (by decide), n 55 (by decide)]; exact a4
    · rw [n 59 (by decide), n 60 (by decide), n 61 (by decide)]; exact a5
    · unfold sp_O at a6 ⊢; rw [n 29 (by decide), n 33 (by decide)]; exact a6
    · rw [n 53 (by decide), n 54 (by decide)]; exact a7
  · have q : ∀ a ∈ [2, 10, 11, 21, 22, 23], ¬ (62 ≤ a ∧ a ≤ 68) := by decide
    exact q a ha
  · have q : ∀ a ∈ [29, 37, 38, 39, 40], ¬ (62 ≤ a ∧ a ≤ 68) := by decide
    exact q a ha
/-- one more reel -/
theorem mo_K.reel {S : mo_S} {F : mo_Fn} {B : Int} {v : Nat} (h : mo_K B S F) (hR : sp_R S < 80) (hv : v ≤ 2000) : mo_K (B + 2000) (mo_up (mo_up (mo_up S 22 (sp_R S) (nI v)) 23 (sp_R S) (-1)) 21 0 (nI (sp_R S + 1))) F := by
  obtain ⟨⟨h1, h2, h3, h4⟩, h5⟩ := h
  have n : ∀ a, a ≠ 21 → a ≠ 22 → a ≠ 23 → (mo_up (mo_up (mo_up S 22 (sp_R S) (nI v)) 23 (sp_R S) (-1)) 21 0 (nI (sp_R S + 1))).1 a = S.1 a := fun a b c d => by rw [mo_up_ne b, mo_up_ne d, mo_up_ne c]
  have e21 : (mo_up (mo_up (mo_up S 22 (sp_R S) (nI v)) 23 (sp_R S) (-1)) 21 0 (nI (sp_R S + 1))).1 21 0 = nI (sp_R S + 1) := by rw [mo_up_at, pk_us]
  have e22 : (mo_up (mo_up (mo_up S 22 (sp_R S) (nI v)) 23 (sp_R S) (-1)) 21 0 (nI (sp_R S + 1))).1 22 = upd (S.1 22) (sp_R S) (nI v) := by rw [mo_up_ne (by decide), mo_up_ne (by decide), mo_up_at]
  have e23 : (mo_up (mo_up (mo_up S 22 (sp_R S) (nI v)) 23 (sp_R S) (-1)) 21 0 (nI (sp_R S + 1))).1 23 = upd (S.1 23) (sp_R S) (-1) := by rw [mo_up_ne (by decide), mo_up_at, mo_up_ne (by decide)]
  have j1 : mo_J (mo_up S 22 (sp_R S) (nI v)) F := h1.up (by decide) ⟨by rw [nI_toInt (by omega)]; show (0 : Int) ≤ _; omega, by rw [nI_toInt (by omega)]; show _ ≤ (2000 : Int); omega⟩
  have j2 : mo_J (mo_up (mo_up S 22 (sp_R S) (nI v)) 23 (sp_R S) (-1)) F := j1.up (by decide) (by decide)
  have j3 : mo_J (mo_up (mo_up (mo_up S 22 (sp_R S) (nI v)) 23 (sp_R S) (-1)) 21 0 (nI (sp_R S + 1))) F := j2.up (by decide) ⟨by rw [nI_toInt (by omega)]; show (0 : Int) ≤ _; omega, by rw [nI_toInt (by omega)]; show _ ≤ (80 : Int); omega⟩
  refine ⟨⟨j3, h2.cg (fun a ha => n a (fun e => by subst e; revert ha; decide) (fun e => by subst e; revert ha; decide) (fun e => by subst e; revert ha; decide)), ?_, ?_⟩, h5.cg (fun a ha => n a (fun e => by subst e; revert ha; decide) (fun e => by subst e; revert ha; decide) (fun e => by subst e; revert ha; decide))⟩
  · obtain ⟨b1, b2⟩ := h3
    refine ⟨fun q hq => ?_, ?_⟩
    · have eR : sp_R (mo_up (mo_up (mo_up S 22 (sp_R S) (nI v)) 23 (sp_R S) (-1)) 21 0 (nI (sp_R S + 1))) = sp_R S + 1 := (congrArg Int32.toNatClampNeg e21).trans (nI_clamp (by omega))
      have eP : sp_P (mo_up (mo_up (mo_up S 22 (sp_R S) (nI v)) 23 (sp_R S) (-1)) 21 0 (nI (sp_R S + 1))) = sp_P S := congrArg Int32.toNatClampNeg (congrFun (n 1 (by decide) (by decide) (by decide)) 0)
      rw [eR] at hq
      rw [e23, eP]
      by_cases e : q = sp_R S
      · rw [e, pk_us]; show (-1 : Int) < _; omega
      · rw [pk_un e]; exact b1 q (by omega)
    · unfold sp_A sp_P sp_M sp_O at b2 ⊢
      rw [n 1 (by decide) (by decide) (by decide), n 2 (by decide) (by decide) (by decide), n 29 (by decide) (by decide) (by decide), n 59 (by decide) (by decide) (by decide), n 62 (by decide) (by decide) (by decide), n 63 (by decide) (by decide) (by decide), n 56 (by decide) (by decide) (by decide), n 55 (by decide) (by decide) (by decide), n 60 (by decide) (by decide) (by decide), n 61 (by decide) (by decide) (by decide), n 33 (by decide) (by decide) (by decide), n 53 (by decide) (by decide) (by decide), n 54 (by decide) (by decide) (by decide)]
      exact b2
  · obtain ⟨b1, b2, b3⟩ := h4
    have eR : sp_R (mo_up (mo_up (mo_up S 22 (sp_R S) (nI v)) 23 (sp_R S) (-1)) 21 0 (nI (sp_R S + 1))) = sp_R S + 1 := (congrArg Int32.toNatClampNeg e21).trans (nI_clamp (by omega))
    refine ⟨by rw [n 10 (by decide) (by decide) (by decide)]; exact b1, ?_, by rw [n 11 (by decide) (by decide) (by decide)]; unfold sp_M; rw [n 2 (by decide) (by decide) (by decide)]; exact b3⟩
    rw [n 10 (by decide) (by decide) (by decide), eR]
    have ep : mo_pl (mo_up (mo_up (mo_up S 22 (sp_R S) (nI v)) 23 (sp_R S) (-1)) 21 0 (nI (sp_R S + 1))) (sp_R S + 1) = mo_pl S (sp_R S) + v := by
      unfold mo_pl
      rw [e22, e23]
      simp only [mo_sum]
      rw [pk_us, pk_us, if_pos rfl, nI_toInt (by omega), mo_sum_cg (g := fun r => if S.1 23 r = -1 then (S.1 22 r).toInt else 0) (sp_R S) (fun i hi => by rw [pk_un (by omega), pk_un (by omega)])]
    rw [ep]
    omega
theorem cl_nat {x : Int32} {a b : Int32} (ha : 0 ≤ a.toInt) (h : sp_in x a b = true) : ∃ n : Nat, x = nI n ∧ a.toInt ≤ n ∧ (n : Int) ≤ b.toInt := by
  have i := kl_in h
  have l := Int32.toInt_lt b
  refine ⟨x.toInt.toNat, Int32.toInt_inj.mp ?_, by omega, by omega⟩
  rw [nI_toInt (by omega)]
  omega
theorem cl_dry {x1 x2 : Int32} (a : sp_in x1 1 2000 = true) (b : sp_in x2 0 500 = true) : ∃ v : Nat, v ≤ 2000 ∧ x1 * (1000 - x2) / 1000 = nI v := by
  obtain ⟨p, rfl, p1, p2⟩ := cl_nat (by decide) a
  obtain ⟨q, rfl, q1, q2⟩ := cl_nat (by decide) b
  have p2 : (p : Int) ≤ 2000 := p2
  have q2 : (q : Int) ≤ 500 := q2
  have hb : p * (1000 - q) ≤ 2000 * 1000 := Nat.mul_le_mul (by omega) (by omega)
  refine ⟨p * (1000 - q) / 1000, by omega, ?_⟩
  rw [show (1000 : Int32) = nI 1000 from rfl, pk_sub (by omega), pk_mul, pk_div (by omega) (by decide) (by decide)]
theorem cl_reel {B : Int} {C S : mo_S} {F : mo_Fn} {OL : Nat → List od_q} (h : cl_R B C S F OL) (x1 x2 : Int32) : cl_st B [cl_IA] (cx_X11_reel C x1 x2) (sp_X12_reel S x1 x2) := by
  unfold cx_X11_reel sp_X12_reel
  rw [h.1.sz.2.1, h.1.k 21 (by decide)]
  simp only [cx_within_in]
  have hR := h.J.R
  have h0 := h.u0 (v := 0)
  cases a : sp_in x1 1 2000
  · simp only [mo_b_t, mo_b_f, cl_10, eq_self, Bool.false_eq_true, Bool.not_true, Bool.not_false, if_true, if_false, cl_bt, cl_bf, Bool.true_and, Bool.false_and]
    exact ⟨⟨0, rfl, by show (mo_up _ 0 0 1).1 0 0 = _; rw [mo_up_at, pk_us]; rfl⟩, F, OL, h.u0.u0.le (by omega)⟩
  · cases b : sp_in x2 0 500
    · simp only [mo_b_t, mo_b_f, cl_10, eq_self, Bool.false_eq_true, Bool.not_true, Bool.not_false, if_true, if_false, cl_bt, cl_bf, Bool.true_and, Bool.false_and]
      exact ⟨⟨0, rfl, by show (mo_up _ 0 0 1).1 0 0 = _; rw [mo_up_at, pk_us]; rfl⟩, F, OL, h.u0.u0.le (by omega)⟩
    · by_cases c : S.1 21 0 = 80
      · have c2 : ¬ S.1 21 0 < 80 := by rw [c]; decide
        simp only [if_neg c2, if_pos c, mo_b_t, mo_b_f, cl_10, eq_self, Bool.false_eq_true, Bool.not_true, Bool.not_false, if_true, if_false, cl_bt, cl_bf, Bool.true_and, Bool.false_and]
        exact cl_st.ok0 h
      · have hlt : sp_R S < 80 := by
          rcases Nat.lt_or_ge (sp_R S) 80 with q | q
          · exact q
          · exact absurd (by rw [hR.1, show sp_R S = 80 by omega]; rfl) c
        have c2 : S.1 21 0 < 80 := by rw [hR.1]; exact nI_lt (b := 80) hlt (by decide)
        simp only [if_pos c2, if_neg c, mo_b_t, mo_b_f, cl_10, eq_self, Bool.false_eq_true, Bool.not_true, Bool.not_false, if_true, if_false, cl_bt, cl_bf, Bool.true_and, Bool.false_and]
        obtain ⟨v, hv, ev⟩ := cl_dry a b
        rw [ev, hR.1, nI_clamp (by omega), show nI (sp_R S) + 1 = nI (sp_R S + 1) from nI_1 _]
        have hRR : sp_R (mo_up S 0 0 0) = sp_R S := by unfold sp_R; rw [mo_up_ne (by decide)]
        have hK := h0.2.2.reel (v := v) (by rw [hRR]; exact hlt) hv
        rw [hRR] at hK
        refine cl_st.ok (F := F) (OL := OL) (by rw [mo_up_ne (by decide), mo_up_ne (by decide), mo_up_ne (by decide), mo_up_at, pk_us]) ⟨?_, ?_, hK⟩
        · refine cl_S.c (((h0.1.up (k := 22) (i := sp_R S) (v := nI v) (by decide)).up (k := 23) (i := sp_R S) (v := -1) (by decide)).up (k := 21) (i := 0) (v := nI (sp_R S + 1)) (by decide)) (fun k hk => ?_)
          unfold cx_newR cx_grow
          rw [h.1.sz.2.1]
          have n131 : k ≠ 131 := fun e => by subst e; revert hk; decide
          have n132 : k ≠ 132 := fun e => by subst e; revert hk; decide
          by_cases e21 : k = 21
          · subst e21
            rw [mo_up_ne (by decide), mo_up_ne (by decide), mo_up_ne (by decide), mo_up_ne (by decide), show cw_sz 1 = 21 from rfl, mo_up_at, mo_up_at, mo_up_ne (by decide), mo_up_ne (by decide)]
          · by_cases e22 : k = 22
            · subst e22
              rw [mo_up_ne (by decide), mo_up_at, mo_up_ne (by decide), mo_up_ne (by decide), mo_up_ne (show (22 : Nat) ≠ cw_sz 1 by decide), mo_up_ne (by decide), mo_up_ne (by decide), mo_up_at]
            · by_cases e23 : k = 23
              · subst e23
                rw [mo_up_at, mo_up_ne (by decide), mo_up_ne (by decide), mo_up_ne (by decide), mo_up_ne (show (23 : Nat) ≠ cw_sz 1 by decide), mo_up_ne (by decide), mo_up_at, mo_up_ne (by decide)]
              · rw [mo_up_ne e23, mo_up_ne e22, mo_up_ne n131, mo_up_ne n132, mo_up_ne (show k ≠ cw_sz 1 from e21), mo_up_ne e21, mo_up_ne e23, mo_up_ne e22]
        · refine h0.2.1.cg (fun k hk => ?_) (fun k hk => by rw [mo_up_ne (by omega), mo_up_ne (by omega), mo_up_ne (by omega)])
          unfold cx_newR cx_grow
          rw [mo_up_ne (by omega), mo_up_ne (by omega), mo_up_ne (by omega), mo_up_ne (by omega), mo_up_ne (show k ≠ cw_sz 1 by rw [show cw_sz 1 = 21 from rfl]; omega)]
end DD
