section CZ
/-! sums -/
theorem mo_sum_cg {f g : Nat → Int} : ∀ n, (∀ i, i < n → f i = g i) → mo_sum f n = mo_sum g n
  | 0, _ => rfl
  | n + 1, h => by simp only [mo_sum]; rw [mo_sum_cg n (fun i hi => h i (by omega)), h n (by omega)]
theorem mo_sum_le {f g : Nat → Int} : ∀ n, (∀ i, i < n → f i ≤ g i) → mo_sum f n ≤ mo_sum g n
  | 0, _ => Int.le_refl _
  | n + 1, h => by
    have a := mo_sum_le n (fun i hi => h i (by omega))
    have b := h n (by omega)
    simp only [mo_sum]
    omega
/-- one of them alone changes -/
theorem mo_sum_1 {f g : Nat → Int} {r : Nat} : ∀ n, (∀ i, i < n → i ≠ r → f i = g i) → mo_sum f n = mo_sum g n + (if r < n then f r - g r else 0)
  | 0, _ => by rw [if_neg (by omega)]; rfl
  | n + 1, h => by
    have a := mo_sum_1 n (fun i hi hn => h i (by omega) hn)
    simp only [mo_sum]
    rw [a]
    by_cases e : n = r
    · subst e
      rw [if_neg (by omega), if_pos (by omega)]
      omega
    · rw [h n (by omega) e]
      by_cases c : r < n
      · rw [if_pos c, if_pos (by omega)]; omega
      · rw [if_neg c, if_neg (by omega)]; omega
/-- a reel goes to another place -/
theorem mo_pl_23 {S : mo_S} {r : Nat} {v : Int32} (n : Nat) : mo_pl (mo_up S 23 r v) n = mo_pl S n + (if r < n then (if v = -1 then (S.1 22 r).toInt else 0) - (if S.1 23 r = -1 then (S.1 22 r).toInt else 0) else 0) := by
  unfold mo_pl
  rw [mo_up_at, mo_up_ne (show (22 : Nat) ≠ 23 by decide)]
  rw [mo_sum_1 (r := r) (g := fun r => if S.1 23 r = -1 then (S.1 22 r).toInt else 0) n (fun i _ hi => by rw [pk_un hi])]
  rw [pk_us]
theorem mo_K.r23 {S : mo_S} {F : mo_Fn} {B : Int} {r : Nat} {v : Int32} (h : mo_K B S F) (hr : r < sp_R S) (hv : -2 ≤ v.toInt ∧ v.toInt < sp_P S) : mo_K (B + 2000) (mo_up S 23 r v) F := by
  obtain ⟨⟨h1, h2, h3, h4⟩, h5⟩ := h
  have hP := h1.P.2
  have e22 := h1.1 22 r (by decide)
  have a1 : (0 : Int) ≤ (S.1 22 r).toInt := e22.1
  have a2 : (S.1 22 r).toInt ≤ 2000 := e22.2
  have n : ∀ a, a ≠ 23 → (mo_up S 23 r v).1 a = S.1 a := fun a ha => mo_up_ne ha
  refine ⟨⟨h1.up (by decide) ⟨hv.1, ?_⟩, h2.cg (fun a ha => n a (fun e => by subst e; revert ha; decide)), ?_, ?_⟩, h5.cg (fun a ha => n a (fun e => by subst e; revert ha; decide))⟩
  · show v.toInt ≤ 11
    omega
  · obtain ⟨b1, b2⟩ := h3
    refine ⟨fun q hq => ?_, ?_⟩
    · have hq : q < sp_R S := by unfold sp_R at hq ⊢; rw [n 21 (by decide)] at hq; exact hq
      rw [mo_up_at, show sp_P (mo_up S 23 r v) = sp_P S from kl_P (by decide)]
      by_cases e : q = r
      · rw [e, pk_us]; exact hv.2
      · rw [pk_un e]; exact b1 q hq
    · unfold sp_A sp_P sp_M sp_O at b2 ⊢
      rw [n 1 (by decide), n 2 (by decide), n 29 (by decide), n 59 (by decide), n 62 (by decide), n 63 (by decide), n 56 (by decide), n 55 (by decide), n 60 (by decide), n 61 (by decide), n 33 (by decide), n 53 (by decide), n 54 (by decide)]
      exact b2
  · obtain ⟨b1, b2, b3⟩ := h4
    refine ⟨by rw [n 10 (by decide)]; exact b1, ?_, by rw [n 11 (by decide)]; unfold sp_M; rw [n 2 (by decide)]; exact b3⟩
    rw [n 10 (by decide), show sp_R (mo_up S 23 r v) = sp_R S by unfold sp_R; rw [n 21 (by decide)], mo_pl_23, if_pos hr]
    split <;> split <;> omega
theorem cl_told {B : Int} {C S : mo_S} {F : mo_Fn} {OL : Nat → List od_q} (h : cl_R B C S F OL) (x1 x2 : Int32) : cl_st B [cl_IO, cl_IA] (cx_X11_told C x1 x2) (sp_X12_told S x1 x2) := by
  unfold cx_X11_told sp_X12_told cx_X5_field
  rw [h.1.k 1 (by decide), h.1.k 3 (by decide), h.1.k 4 (by decide), h.1.k 5 (by decide), h.1.k 6 (by decide), h.1.k 7 (by decide), h.1.k 8 (by decide), h.1.k 9 (by decide), h.1.k 10 (by decide), h.1.k 11 (by decide), h.1.k 12 (by decide), h.1.k 13 (by decide)]
  simp only [cx_within_in]
  cases a : sp_in x1 0 (S.1 1 0 - 1)
  · simp only [mo_b_t, mo_b_f, cl_10, eq_self, Bool.false_eq_true, Bool.not_true, Bool.not_false, if_true, if_false, cl_bt, cl_bf, Bool.true_and, Bool.false_and]
    exact cl_st.E0 rfl h
  · cases b : sp_in x2 0 10
    · simp only [mo_b_t, mo_b_f, cl_10, eq_self, Bool.false_eq_true, Bool.not_true, Bool.not_false, if_true, if_false, cl_bt, cl_bf, Bool.true_and, Bool.false_and]
      exact cl_st.E1 rfl h.u0
    · simp only [mo_b_t, mo_b_f, cl_10, eq_self, Bool.false_eq_true, Bool.not_true, Bool.not_false, if_true, if_false, cl_bt, cl_bf, Bool.true_and, Bool.false_and]
      have k : ∀ v : Int32, cl_st B [cl_IO, cl_IA] (.inr v, C) (v, mo_up S 0 0 0) := fun v => cl_st.ok0 h
      repeat' split
      all_goals exact k _
theorem cl_breach {B : Int} {C S : mo_S} {F : mo_Fn} {OL : Nat → List od_q} (h : cl_R B C S F OL) (x1 x2 : Int32) : cl_st B [cl_IO, cl_IA] (cx_X11_breach C x1 x2) (sp_X12_breach S x1 x2) := by
  unfold cx_X11_breach sp_X12_breach cx_X1_field
  rw [h.1.k 1 (by decide), h.1.k 16 (by decide), h.1.k 17 (by decide), h.1.k 18 (by decide), h.1.k 19 (by decide), h.1.k 20 (by decide)]
  simp only [cx_within_in]
  cases a : sp_in x1 0 (S.1 1 0 - 1)
  · simp only [mo_b_t, mo_b_f, cl_10, eq_self, Bool.false_eq_true, Bool.not_true, Bool.not_false, if_true, if_false, cl_bt, cl_bf, Bool.true_and, Bool.false_and]
    exact cl_st.E0 rfl h
  · cases b : sp_in x2 0 4
    · simp only [mo_b_t, mo_b_f, cl_10, eq_self, Bool.false_eq_true, Bool.not_true, Bool.not_false, if_true, if_false, cl_bt, cl_bf, Bool.true_and, Bool.false_and]
      exact cl_st.E1 rfl h.u0
    · simp only [mo_b_t, mo_b_f, cl_10, eq_self, Bool.false_eq_true, Bool.not_true, Bool.not_false, if_true, if_false, cl_bt, cl_bf, Bool.true_and, Bool.false_and]
      exact cl_st.ok0 h
theorem cl_where {B : Int} {C S : mo_S} {F : mo_Fn} {OL : Nat → List od_q} (h : cl_R B C S F OL) (x1 : Int32) : cl_st B [cl_IO] (cx_X11_where C x1) (sp_X12_where S x1) := by
  unfold cx_X11_where sp_X12_where
  rw [h.1.k 21 (by decide), h.1.k 23 (by decide)]
  cases a : sp_in x1 0 (S.1 21 0 - 1)
  · simp only [mo_b_t, mo_b_f, cl_10, eq_self, Bool.false_eq_true, Bool.not_true, Bool.not_false, if_true, if_false, cl_bt, cl_bf, Bool.true_and, Bool.false_and]
    exact cl_st.E0 rfl h
  · simp only [mo_b_t, mo_b_f, cl_10, eq_self, Bool.false_eq_true, Bool.not_true, Bool.not_false, if_true, if_false, cl_bt, cl_bf, Bool.true_and, Bool.false_and]
    exact cl_st.ok0 h
theorem cl_force {B : Int} {C S : mo_S} {F : mo_Fn} {OL : Nat → List od_q} (h : cl_R B C S F OL) (x1 : Int32) : cl_st B [cl_IA] (cx_X11_force C x1) (sp_X12_force S x1) := by
  unfold cx_X11_force sp_X12_force
  rw [h.frc]
  simp only [cx_within_in]
  cases a : sp_in x1 0 600
  · simp only [mo_b_t, mo_b_f, cl_10, eq_self, Bool.false_eq_true, Bool.not_true, Bool.not_false, if_true, if_false, cl_bt, cl_bf, Bool.true_and, Bool.false_and]
    exact ⟨⟨0, rfl, by show (mo_up _ 0 0 1).1 0 0 = _; rw [mo_up_at, pk_us]; rfl⟩, F, OL, h.u0.u0.le (by omega)⟩
  · simp only [mo_b_t, mo_b_f, cl_10, eq_self, Bool.false_eq_true, Bool.not_true, Bool.not_false, if_true, if_false, cl_bt, cl_bf, Bool.true_and, Bool.false_and]
    rw [show sp_force (mo_up S 0 0 0) x1 (sp_O S) = sp_force S x1 (sp_O S) from sp_force_cg (by rw [mo_up_ne (by decide)]) _]
    exact cl_st.ok0 h
theorem cl_demand {B : Int} {C S : mo_S} {F : mo_Fn} {OL : Nat → List od_q} (h : cl_R B C S F OL) (x1 x2 : Int32) : cl_st B [cl_IO, cl_IA] (cx_X11_demand C x1 x2) (sp_X12_demand S x1 x2) := by
  unfold cx_X11_demand sp_X12_demand
  rw [h.1.sz.2.2.2.2.2.1, h.1.k 1 (by decide)]
  simp only [cx_within_in]
  cases a : sp_in x1 0 (S.1 1 0 - 1)
  · simp only [mo_b_t, mo_b_f, cl_10, eq_self, Bool.false_eq_true, Bool.not_true, Bool.not_false, if_true, if_false, cl_bt, cl_bf, Bool.true_and, Bool.false_and]
    exact cl_st.E0 rfl h
  · cases b : sp_in x2 1 100
    · simp only [mo_b_t, mo_b_f, cl_10, eq_self, Bool.false_eq_true, Bool.not_true, Bool.not_false, if_true, if_false, cl_bt, cl_bf, Bool.true_and, Bool.false_and]
      exact cl_st.E1 rfl h.u0
    · simp only [mo_b_t, mo_b_f, cl_10, eq_self, Bool.false_eq_true, Bool.not_true, Bool.not_false, if_true, if_false, cl_bt, cl_bf, Bool.true_and, Bool.false_and]
      rw [show sp_demand (mo_up S 0 0 0) x1.toNatClampNeg x2 (sp_W S) = sp_demand S x1.toNatClampNeg x2 (sp_W S) from sp_demand_cg (by rw [mo_up_ne (by decide)]) (by rw [mo_up_ne (by decide)]) _, sp_demand_cg (h.1.k 25 (by decide)) (h.1.k 26 (by decide))]
      exact cl_st.ok0 h
theorem cl_netted {B : Int} {C S : mo_S} {F : mo_Fn} {OL : Nat → List od_q} (h : cl_R B C S F OL) (x1 x2 : Int32) : cl_st B [cl_IO] (cx_X11_netted C x1 x2) (sp_X12_netted S x1 x2) := by
  unfold cx_X11_netted sp_X12_netted cx_X5_tookFrom
  rw [h.1.k 1 (by decide), h.1.k 58 (by decide)]
  have hP := h.J.P
  cases a : sp_in x1 0 (S.1 1 0 - 1)
  · simp only [mo_b_t, mo_b_f, cl_10, eq_self, Bool.false_eq_true, Bool.not_true, Bool.not_false, if_true, if_false, cl_bt, cl_bf, Bool.true_and, Bool.false_and]
    exact cl_st.E0 rfl h
  · cases b : sp_in x2 0 (S.1 1 0 - 1)
    · simp only [mo_b_t, mo_b_f, cl_10, eq_self, Bool.false_eq_true, Bool.not_true, Bool.not_false, if_true, if_false, cl_bt, cl_bf, Bool.true_and, Bool.false_and]
      exact cl_st.E0 rfl h
    · simp only [mo_b_t, mo_b_f, cl_10, eq_self, Bool.false_eq_true, Bool.not_true, Bool.not_false, if_true, if_false, cl_bt, cl_bf, Bool.true_and, Bool.false_and]
      obtain ⟨-, p1, e1⟩ := mo_vin (N := 12) hP.1 hP.2 (by decide) a
      obtain ⟨-, p2, e2⟩ := mo_vin (N := 12) hP.1 hP.2 (by decide) b
      have q1 : (12 * x1 + x2).toNatClampNeg = 12 * x1.toNatClampNeg + x2.toNatClampNeg := by rw [e1, e2, nI_clamp (by omega), nI_clamp (by omega), show (12 : Int32) = nI 12 from rfl, pk_mul, nI_add, nI_clamp (by omega)]
      have q2 : (12 * x2 + x1).toNatClampNeg = 12 * x2.toNatClampNeg + x1.toNatClampNeg := by rw [e1, e2, nI_clamp (by omega), nI_clamp (by omega), show (12 : Int32) = nI 12 from rfl, pk_mul, nI_add, nI_clamp (by omega)]
      rw [q1, q2]
      exact cl_st.ok0 h
theorem cl_find {B : Int} {C S : mo_S} {F : mo_Fn} {OL : Nat → List od_q} (h : cl_R B C S F OL) (x1 : Int32) : cl_st B [cl_IO] (cx_X11_find C x1) (sp_X12_find S x1) := by
  unfold cx_X11_find sp_X12_find
  rw [h.1.k 21 (by decide), h.1.k 22 (by decide), h.1.k 23 (by decide)]
  have hR := h.J.R
  cases a : sp_in x1 0 (S.1 21 0 - 1)
  · simp only [mo_b_t, mo_b_f, cl_10, eq_self, Bool.false_eq_true, Bool.not_true, Bool.not_false, if_true, if_false, cl_bt, cl_bf, Bool.true_and, Bool.false_and]
    exact cl_st.E0 rfl h
  · simp only [mo_b_t, mo_b_f, cl_10, eq_self, Bool.false_eq_true, Bool.not_true, Bool.not_false, if_true, if_false, cl_bt, cl_bf, Bool.true_and, Bool.false_and]
    obtain ⟨-, p1, e1⟩ := mo_vin (N := 80) hR.1 hR.2 (by decide) a
    by_cases c : S.1 23 x1.toNatClampNeg = -2
    · rw [if_pos c, if_pos c]
      exact cl_st.ok (F := F) (OL := OL) (by rw [mo_up_ne (by decide), mo_up_at, pk_us]) ⟨h.u0.1.up (by decide), h.u0.2.1.up (by decide), (h.u0.2.2).r23 p1 ⟨by decide, by show (-1 : Int) < _; omega⟩⟩
    · rw [if_neg c, if_neg c]
      exact cl_st.ok0 h
theorem cl_bid {B : Int} {C S : mo_S} {F : mo_Fn} {OL : Nat → List od_q} (h : cl_R B C S F OL) (x1 x2 x3 : Int32) : cl_st B [cl_IO, cl_IA] (cx_X11_bid C x1 x2 x3) (sp_X12_bid S x1 x2 x3) := by
  unfold cx_X11_bid sp_X12_bid cx_X5_isAdmitted
  rw [h.1.k 1 (by decide), h.1.k 12 (by decide)]
  simp only [cx_within_in]
  have hP := h.J.P
  cases a : sp_in x1 0 (S.1 1 0 - 1)
  · simp only [mo_b_t, mo_b_f, cl_10, eq_self, Bool.false_eq_true, Bool.not_true, Bool.not_false, if_true, if_false, cl_bt, cl_bf, Bool.true_and, Bool.false_and]
    exact cl_st.E0 rfl h
  · obtain ⟨-, p1, e1⟩ := mo_vin (N := 12) hP.1 hP.2 (by decide) a
    cases b : sp_in x2 1 100000
    · simp only [mo_b_t, mo_b_f, cl_10, eq_self, Bool.false_eq_true, Bool.not_true, Bool.not_false, if_true, if_false, cl_bt, cl_bf, Bool.true_and, Bool.false_and]
      exact cl_st.E1 rfl h.u0
    · cases b2 : sp_in x3 0 100
      · simp only [mo_b_t, mo_b_f, cl_10, eq_self, Bool.false_eq_true, Bool.not_true, Bool.not_false, if_true, if_false, cl_bt, cl_bf, Bool.true_and, Bool.false_and]
        exact cl_st.E1 rfl h.u0
      · simp only [mo_b_t, mo_b_f, cl_10, eq_self, Bool.false_eq_true, Bool.not_true, Bool.not_false, if_true, if_false, cl_bt, cl_bf, Bool.true_and, Bool.false_and]
        by_cases c : S.1 12 x1.toNatClampNeg = 1
        · simp only [c, eq_self, if_true, mo_b_t, cl_10, if_false]
          have i2 := kl_in b
          have i3 := kl_in b2
          have j2 : (1 : Int) ≤ x2.toInt := i2.1
          have k2 : x2.toInt ≤ 100000 := i2.2
          have j3 : (0 : Int) ≤ x3.toInt := i3.1
          have k3 : x3.toInt ≤ 100 := i3.2
          have e2 : x2 = nI x2.toInt.toNat := by refine Int32.toInt_inj.mp ?_; rw [nI_toInt (by omega)]; omega
          have e3 : x3 = nI x3.toInt.toNat := by refine Int32.toInt_inj.mp ?_; rw [nI_toInt (by omega)]; omega
          have hs := h.u0 (v := 0)
          refine cl_st.ok (F := F) (OL := OL) (by rw [mo_up_ne (by decide), mo_up_ne (by decide), mo_up_at, pk_us]) ⟨?_, (hs.2.1.up (by decide)).up (by decide), ?_⟩
          · rw [e2, e3]
            exact hs.1.bid (by omega) (by omega)
          · refine mo_K.le ?_ (show B ≤ B + 2000 by omega)
            exact (hs.2.2.upP (by decide) (by rw [kl_P (by decide)]; exact p1) ⟨by show (0 : Int) ≤ _; omega, k2⟩).upP (by decide) (by rw [kl_P (by decide), kl_P (by decide)]; exact p1) ⟨j3, k3⟩
        · simp only [c, if_false, mo_b_f, eq_self, if_true]
          exact cl_st.ok0 h
theorem cl_grant {B : Int} {C S : mo_S} {F : mo_Fn} {OL : Nat → List od_q} (h : cl_R B C S F OL) (x1 x2 : Int32) : cl_st B [cl_IO, cl_IA] (cx_X11_grant C x1 x2) (sp_X12_grant S x1 x2) := by
  have hK := h.2.2.grant x1 x2
  unfold cx_X11_grant
  unfold sp_X12_grant sp_X12_isAppeal at hK ⊢
  unfold cx_X0_isGranted
  rw [mo_up_ne (show (62 : Nat) ≠ 0 by decide)] at hK ⊢
  rw [h.1.k 62 (by decide), h.1.k 2 (by decide), h.1.k 68 (by decide)]
  simp only [cx_within_in]
  cases a : sp_in x1 0 (S.1 62 0 - 1)
  · simp only [mo_b_t, mo_b_f, cl_10, eq_self, Bool.false_eq_true, Bool.not_true, Bool.not_false, if_true, if_false, cl_bt, cl_bf, Bool.true_and, Bool.false_and]
    exact cl_st.E0 rfl h.u0
  · cases b : sp_in x2 (S.1 2 0) 600
    · simp only [mo_b_t, mo_b_f, cl_10, eq_self, Bool.false_eq_true, Bool.not_true, Bool.not_false, if_true, if_false, cl_bt, cl_bf, Bool.true_and, Bool.false_and]
      exact cl_st.E1 rfl h.u0
    · simp only [a, b, mo_b_t, mo_b_f, cl_10, eq_self, Bool.false_eq_true, Bool.not_true, Bool.not_false, if_true, if_false, cl_bt, cl_bf, Bool.true_and, Bool.false_and] at hK
      simp only [mo_b_t, mo_b_f, cl_10, eq_self, Bool.false_eq_true, Bool.not_true, Bool.not_false, if_true, if_false, cl_bt, cl_bf, Bool.true_and, Bool.false_and]
      by_cases c : S.1 68 x1.toNatClampNeg = -1
      · have c2 : S.1 68 x1.toNatClampNeg < 0 := by rw [c]; decide
        rw [if_pos c2] at hK
        simp only [c, c2, eq_self, if_true, mo_b_f]
        exact cl_st.ok (F := F) (OL := OL) (by rw [mo_up_ne (by decide), mo_up_at, pk_us]) ((h.u0.up (by decide) hK).le (by omega))
      · have c2 : ¬ S.1 68 x1.toNatClampNeg < 0 := fun q => by
          have r1 := (h.J.1 68 x1.toNatClampNeg (by decide)).1
          have r2 := Int32.lt_iff_toInt_lt.mp q
          have r3 : (-1 : Int) ≤ (S.1 68 x1.toNatClampNeg).toInt := r1
          have r4 : (S.1 68 x1.toNatClampNeg).toInt < 0 := r2
          exact c (Int32.toInt_inj.mp (by show _ = (-1 : Int); omega))
        simp only [c, c2, if_false, mo_b_t, cl_10]
        exact cl_st.ok0 h
theorem mo_K.loy {S : mo_S} {F : mo_Fn} {B : Int} {i p : Nat} {v : Int32} (h : mo_K B S F) (hi : i < sp_W S) (hp : p < sp_P S) (hv : (0 : Int32).toInt ≤ v.toInt ∧ v.toInt ≤ (100 : Int32).toInt) : mo_K B (mo_up S 26 (12 * i + p) v) F := by
  obtain ⟨⟨h1, h2, h3, h4⟩, h5⟩ := h
  have hP := h1.P.2
  have n : ∀ a, a ≠ 26 → (mo_up S 26 (12 * i + p) v).1 a = S.1 a := fun a ha => mo_up_ne ha
  refine ⟨⟨h1.up (by decide) hv, ?_, ?_, h4.cg (fun a ha => n a (fun e => by subst e; revert ha; decide))⟩, h5.cg (fun a ha => n a (fun e => by subst e; revert ha; decide))⟩
  · have eP : sp_P (mo_up S 26 (12 * i + p) v) = sp_P S := kl_P (by decide)
    have eW : sp_W (mo_up S 26 (12 * i + p) v) = sp_W S := by unfold sp_W; rw [n 24 (by decide)]
    refine ⟨fun q hq => ?_, fun x q hq hx => ?_, ?_⟩
    · rw [eP] at hq
      rw [n 8 (by decide), n 9 (by decide), n 10 (by decide), n 11 (by decide), n 12 (by decide), n 13 (by decide), n 14 (by decide), n 15 (by decide), n 16 (by decide), n 18 (by decide), n 59 (by decide)]
      exact h2.1 q hq
    · rw [eP, eW] at hx
      rw [mo_up_at, pk_un (by omega)]
      exact h2.2.1 x q hq hx
    · rw [eP, n 58 (by decide)]
      exact h2.2.2
  · unfold mo_IP sp_P sp_R sp_A sp_M sp_O at h3 ⊢
    rw [n 1 (by decide), n 2 (by decide), n 21 (by decide), n 23 (by decide), n 29 (by decide), n 59 (by decide), n 62 (by decide), n 63 (by decide), n 56 (by decide), n 55 (by decide), n 60 (by decide), n 61 (by decide), n 33 (by decide), n 53 (by decide), n 54 (by decide)]
    exact h3
theorem cl_loyal {B : Int} {C S : mo_S} {F : mo_Fn} {OL : Nat → List od_q} (h : cl_R B C S F OL) (x1 x2 x3 : Int32) : cl_st B [cl_IO, cl_IA] (cx_X11_loyal C x1 x2 x3) (sp_X12_loyal S x1 x2 x3) := by
  unfold cx_X11_loyal sp_X12_loyal
  rw [h.1.k 1 (by decide), h.1.k 24 (by decide), h.1.k 26 (by decide)]
  simp only [cx_within_in]
  have hP := h.J.P
  have hW := h.J.W
  cases a : sp_in x2 0 (S.1 1 0 - 1)
  · cases a1 : sp_in x1 0 (S.1 24 0 - 1)
    · simp only [mo_b_t, mo_b_f, cl_10, eq_self, Bool.false_eq_true, Bool.not_true, Bool.not_false, if_true, if_false, cl_bt, cl_bf, Bool.true_and, Bool.false_and]
      exact cl_st.E0 rfl h.u0
    · simp only [mo_b_t, mo_b_f, cl_10, eq_self, Bool.false_eq_true, Bool.not_true, Bool.not_false, if_true, if_false, cl_bt, cl_bf, Bool.true_and, Bool.false_and]
      exact cl_st.E0 rfl h.u0
  · obtain ⟨-, p2, e2⟩ := mo_vin (N := 12) hP.1 hP.2 (by decide) a
    cases a1 : sp_in x1 0 (S.1 24 0 - 1)
    · have n1 : x1 < 0 ∨ S.1 24 0 ≤ x1 := by
        by_cases q : x1 < 0
        · exact Or.inl q
        · refine Or.inr (Int32.not_lt.mp (fun z => ?_))
          obtain ⟨j, hj, rfl⟩ := nI_of q
          rw [hW.1] at z a1
          have hj2 : j < sp_W S := by
            rcases Nat.lt_or_ge j (sp_W S) with y | y
            · exact y
            · exact absurd z (nI_nlt y (by omega))
          rw [show nI (sp_W S) - 1 = nI (sp_W S - 1) by rw [show sp_W S = sp_W S - 1 + 1 by omega, ← nI_1, Int32.add_sub_cancel]; rfl] at a1
          exact absurd (show sp_in (nI j) 0 (nI (sp_W S - 1)) = true from decide_eq_true ⟨nI_pos' (by omega), nI_le (by omega) (by omega)⟩) (by rw [a1]; decide)
      simp only [mo_b_t, mo_b_f, cl_10, eq_self, Bool.false_eq_true, Bool.not_true, Bool.not_false, if_true, if_false, cl_bt, cl_bf, Bool.true_and, Bool.false_and]
      by_cases q : x1 < 0
      · rw [if_pos q]
        exact cl_st.E0 rfl h.u0
      · rw [if_neg q, if_pos (n1.resolve_left q)]
        exact cl_st.E0 rfl h.u0
    · obtain ⟨-, p1, e1⟩ := mo_vin (N := 5) hW.1 hW.2 (by decide) a1
      have q0 : ¬ x1 < 0 := by rw [e1]; exact nI_pos (by omega)
      have q1 : ¬ S.1 24 0 ≤ x1 := by rw [e1, hW.1]; exact nI_ge p1 (by omega)
      have q3 : (12 * x1 + x2).toNatClampNeg = 12 * x1.toNatClampNeg + x2.toNatClampNeg := by rw [e1, e2, nI_clamp (by omega), nI_clamp (by omega), show (12 : Int32) = nI 12 from rfl, pk_mul, nI_add, nI_clamp (by omega)]
      cases b : sp_in x3 0 100
      · simp only [q0, q1, mo_b_t, mo_b_f, cl_10, eq_self, Bool.false_eq_true, Bool.not_true, Bool.not_false, if_true, if_false, cl_bt, cl_bf, Bool.true_and, Bool.false_and]
        exact cl_st.E1 rfl h.u0
      · simp only [q0, q1, q3, mo_b_t, mo_b_f, cl_10, eq_self, Bool.false_eq_true, Bool.not_true, Bool.not_false, if_true, if_false, cl_bt, cl_bf, Bool.true_and, Bool.false_and]
        have hs := h.u0 (v := 0)
        have i3 := kl_in b
        refine cl_st.ok (F := F) (OL := OL) (by rw [mo_up_ne (by decide), mo_up_at, pk_us]) (cl_R.le (F := F) (OL := OL) ?_ (show B ≤ B + 2000 by omega))
        exact hs.up (by decide) (hs.2.2.loy p1 p2 i3)
end CZ
