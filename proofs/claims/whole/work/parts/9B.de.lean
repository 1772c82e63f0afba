section DE
theorem cl_app {B : Int} {C S : mo_S} {F : mo_Fn} {OL : Nat → List od_q} (h : cl_R B C S F OL) {p : Nat} {v : Int32} (hp : p < sp_P S) (hA : sp_A S < 20) (hv : 0 ≤ v.toInt ∧ v.toInt ≤ 100000) : cl_R B (cx_newA C p v) (mo_up (mo_up (mo_up (mo_up (mo_up (mo_up (mo_up (mo_up S 0 0 0) 63 (sp_A S) (nI p)) 64 (sp_A S) v) 65 (sp_A S) (S.1 4 p)) 66 (sp_A S) (S.1 5 p)) 67 (sp_A S) (S.1 3 p)) 68 (sp_A S) (-1)) 62 0 (nI (sp_A S + 1))) F OL := by
  have h0 := h.u0 (v := 0)
  have hP := h.J.P.2
  generalize hZ : mo_up S 0 0 0 = Z at h0
  have z1 : ∀ k, k ≠ 0 → Z.1 k = S.1 k := fun k hk => by rw [← hZ]; exact mo_up_ne hk
  have sA : sp_A C = sp_A S := h.1.sz.2.2.2.1
  have n : ∀ k, ¬ (62 ≤ k ∧ k ≤ 68) → (mo_up (mo_up (mo_up (mo_up (mo_up (mo_up (mo_up Z 63 (sp_A S) (nI p)) 64 (sp_A S) v) 65 (sp_A S) (S.1 4 p)) 66 (sp_A S) (S.1 5 p)) 67 (sp_A S) (S.1 3 p)) 68 (sp_A S) (-1)) 62 0 (nI (sp_A S + 1))).1 k = Z.1 k := fun k hk => by rw [mo_up_ne (by omega), mo_up_ne (by omega), mo_up_ne (by omega), mo_up_ne (by omega), mo_up_ne (by omega), mo_up_ne (by omega), mo_up_ne (by omega)]
  have c : ∀ k, ¬ (62 ≤ k ∧ k ≤ 68) → k ≠ 131 → k ≠ 132 → (cx_newA C p v).1 k = C.1 k := fun k hk h1 h2 => by
    unfold cx_newA cx_grow
    rw [mo_up_ne (by omega), mo_up_ne (by omega), mo_up_ne (by omega), mo_up_ne (by omega), mo_up_ne (by omega), mo_up_ne h1, mo_up_ne h2, mo_up_ne (show k ≠ cw_sz 3 by rw [show cw_sz 3 = 62 from rfl]; omega)]
  have e62 : (mo_up (mo_up (mo_up (mo_up (mo_up (mo_up (mo_up Z 63 (sp_A S) (nI p)) 64 (sp_A S) v) 65 (sp_A S) (S.1 4 p)) 66 (sp_A S) (S.1 5 p)) 67 (sp_A S) (S.1 3 p)) 68 (sp_A S) (-1)) 62 0 (nI (sp_A S + 1))).1 62 = upd (Z.1 62) 0 (nI (sp_A S + 1)) := by rw [mo_up_at, mo_up_ne (by decide), mo_up_ne (by decide), mo_up_ne (by decide), mo_up_ne (by decide), mo_up_ne (by decide), mo_up_ne (by decide)]
  have e63 : (mo_up (mo_up (mo_up (mo_up (mo_up (mo_up (mo_up Z 63 (sp_A S) (nI p)) 64 (sp_A S) v) 65 (sp_A S) (S.1 4 p)) 66 (sp_A S) (S.1 5 p)) 67 (sp_A S) (S.1 3 p)) 68 (sp_A S) (-1)) 62 0 (nI (sp_A S + 1))).1 63 = upd (Z.1 63) (sp_A S) (nI p) := by rw [mo_up_ne (by decide), mo_up_ne (by decide), mo_up_ne (by decide), mo_up_ne (by decide), mo_up_ne (by decide), mo_up_ne (by decide), mo_up_at]
  have e67 : (mo_up (mo_up (mo_up (mo_up (mo_up (mo_up (mo_up Z 63 (sp_A S) (nI p)) 64 (sp_A S) v) 65 (sp_A S) (S.1 4 p)) 66 (sp_A S) (S.1 5 p)) 67 (sp_A S) (S.1 3 p)) 68 (sp_A S) (-1)) 62 0 (nI (sp_A S + 1))).1 67 = upd (Z.1 67) (sp_A S) (S.1 3 p) := by rw [mo_up_ne (by decide), mo_up_ne (by decide), mo_up_at, mo_up_ne (by decide), mo_up_ne (by decide), mo_up_ne (by decide), mo_up_ne (by decide)]
  have eP : sp_P (mo_up (mo_up (mo_up (mo_up (mo_up (mo_up (mo_up Z 63 (sp_A S) (nI p)) 64 (sp_A S) v) 65 (sp_A S) (S.1 4 p)) 66 (sp_A S) (S.1 5 p)) 67 (sp_A S) (S.1 3 p)) 68 (sp_A S) (-1)) 62 0 (nI (sp_A S + 1))) = sp_P Z := congrArg Int32.toNatClampNeg (congrFun (n 1 (by omega)) 0)
  have eM : sp_M (mo_up (mo_up (mo_up (mo_up (mo_up (mo_up (mo_up Z 63 (sp_A S) (nI p)) 64 (sp_A S) v) 65 (sp_A S) (S.1 4 p)) 66 (sp_A S) (S.1 5 p)) 67 (sp_A S) (S.1 3 p)) 68 (sp_A S) (-1)) 62 0 (nI (sp_A S + 1))) = sp_M Z := congrArg Int32.toNatClampNeg (congrFun (n 2 (by omega)) 0)
  have zA : sp_A Z = sp_A S := congrArg Int32.toNatClampNeg (congrFun (z1 62 (by decide)) 0)
  have zP : sp_P Z = sp_P S := congrArg Int32.toNatClampNeg (congrFun (z1 1 (by decide)) 0)
  have r := fun k i (hk : k < 42 ∨ 52 < k) => h.J.1 k i hk
  obtain ⟨⟨h1, h2, h3, h4, h5, h6, h7⟩, hO, hK⟩ := h0
  refine ⟨⟨fun k hk => ?_, fun q => ?_, fun q j hq hj => ?_, fun j hj => ?_, ?_, fun m q x hm hq hx => ?_, fun a ha => ?_⟩, hO.cg (fun k hk => c k (by omega) (by omega) (by omega)) (fun k hk => n k (by omega)), ?_⟩
  · have n131 : k ≠ 131 := fun e => by subst e; revert hk; decide
    have n132 : k ≠ 132 := fun e => by subst e; revert hk; decide
    have n67 : k ≠ 67 := fun e => by subst e; revert hk; decide
    by_cases e : 62 ≤ k ∧ k ≤ 68
    · have q4 : C.1 4 p = S.1 4 p := by rw [h.1.k 4 (by decide)]
      have q5 : C.1 5 p = S.1 5 p := by rw [h.1.k 5 (by decide)]
      obtain rfl | rfl | rfl | rfl | rfl | rfl : k = 62 ∨ k = 63 ∨ k = 64 ∨ k = 65 ∨ k = 66 ∨ k = 68 := by omega
      · unfold cx_newA cx_grow
        rw [mo_up_ne (by decide), mo_up_ne (by decide), mo_up_ne (by decide), mo_up_ne (by decide), mo_up_ne (by decide), mo_up_ne (by decide), mo_up_ne (by decide), show cw_sz 3 = 62 from rfl, mo_up_at, mo_up_at, mo_up_ne (by decide), mo_up_ne (by decide), mo_up_ne (by decide), mo_up_ne (by decide), mo_up_ne (by decide), mo_up_ne (by decide), sA, h1 62 (by decide)]
      · unfold cx_newA cx_grow
        rw [mo_up_ne (by decide), mo_up_ne (by decide), mo_up_ne (by decide), mo_up_ne (by decide), mo_up_at, mo_up_ne (by decide), mo_up_ne (by decide), mo_up_ne (show (63 : Nat) ≠ cw_sz 3 by decide), mo_up_ne (by decide), mo_up_ne (by decide), mo_up_ne (by decide), mo_up_ne (by decide), mo_up_ne (by decide), mo_up_ne (by decide), mo_up_at, sA, h1 63 (by decide)]
      · unfold cx_newA cx_grow
        rw [mo_up_ne (by decide), mo_up_ne (by decide), mo_up_ne (by decide), mo_up_at, mo_up_ne (by decide), mo_up_ne (by decide), mo_up_ne (by decide), mo_up_ne (show (64 : Nat) ≠ cw_sz 3 by decide), mo_up_ne (by decide), mo_up_ne (by decide), mo_up_ne (by decide), mo_up_ne (by decide), mo_up_ne (by decide), mo_up_at, mo_up_ne (by decide), sA, h1 64 (by decide)]
      · unfold cx_newA cx_grow
        rw [mo_up_ne (by decide), mo_up_ne (by decide), mo_up_at, mo_up_ne (by decide), mo_up_ne (by decide), mo_up_ne (by decide), mo_up_ne (by decide), mo_up_ne (show (65 : Nat) ≠ cw_sz 3 by decide), mo_up_ne (by decide), mo_up_ne (by decide), mo_up_ne (by decide), mo_up_ne (by decide), mo_up_at, mo_up_ne (by decide), mo_up_ne (by decide), sA, h1 65 (by decide), q4]
      · unfold cx_newA cx_grow
        rw [mo_up_ne (by decide), mo_up_at, mo_up_ne (by decide), mo_up_ne (by decide), mo_up_ne (by decide), mo_up_ne (by decide), mo_up_ne (by decide), mo_up_ne (show (66 : Nat) ≠ cw_sz 3 by decide), mo_up_ne (by decide), mo_up_ne (by decide), mo_up_ne (by decide), mo_up_at, mo_up_ne (by decide), mo_up_ne (by decide), mo_up_ne (by decide), sA, h1 66 (by decide), q5]
      · unfold cx_newA cx_grow
        rw [mo_up_at, mo_up_ne (by decide), mo_up_ne (by decide), mo_up_ne (by decide), mo_up_ne (by decide), mo_up_ne (by decide), mo_up_ne (by decide), mo_up_ne (show (68 : Nat) ≠ cw_sz 3 by decide), mo_up_ne (by decide), mo_up_at, mo_up_ne (by decide), mo_up_ne (by decide), mo_up_ne (by decide), mo_up_ne (by decide), mo_up_ne (by decide), sA, h1 68 (by decide)]
    · rw [c k e n131 n132, n k e]; exact h1 k hk
  · rw [c 14 (by omega) (by decide) (by decide), c 15 (by omega) (by decide) (by decide), n 12 (by omega), n 14 (by omega), n 15 (by omega)]; exact h2 q
  · rw [n 60 (by omega), n 61 (by omega)]; exact h3 q j (by rw [← eP]; exact hq) hj
  · rw [c 115 (by omega) (by decide) (by decide), show ps_tx (mo_up (mo_up (mo_up (mo_up (mo_up (mo_up (mo_up Z 63 (sp_A S) (nI p)) 64 (sp_A S) v) 65 (sp_A S) (S.1 4 p)) 66 (sp_A S) (S.1 5 p)) 67 (sp_A S) (S.1 3 p)) 68 (sp_A S) (-1)) 62 0 (nI (sp_A S + 1))) = ps_tx Z by funext y; unfold ps_tx; rw [n 27 (by omega)]]; exact h4 j hj
  · rw [c 134 (by omega) (by decide) (by decide), c 133 (by omega) (by decide) (by decide), n 2 (by omega)]; exact h5
  · unfold cl_row; rw [c 126 (by omega) (by decide) (by decide), n 56 (by omega), n 55 (by omega)]; exact h6 m q x (by rw [← eM]; exact hm) hq hx
  · have eA : sp_A (mo_up (mo_up (mo_up (mo_up (mo_up (mo_up (mo_up Z 63 (sp_A S) (nI p)) 64 (sp_A S) v) 65 (sp_A S) (S.1 4 p)) 66 (sp_A S) (S.1 5 p)) 67 (sp_A S) (S.1 3 p)) 68 (sp_A S) (-1)) 62 0 (nI (sp_A S + 1))) = sp_A S + 1 := (congrArg Int32.toNatClampNeg (by rw [e62, pk_us])).trans (nI_clamp (n := sp_A S + 1) (by omega))
    rw [eA] at ha
    rw [e67, e63, n 3 (by omega)]
    by_cases e : a = sp_A S
    · rw [e, pk_us, pk_us, nI_clamp (by omega), z1 3 (by decide)]
    · rw [pk_un e, pk_un e]; exact h7 a (by rw [zA]; omega)
  · refine hK.appeal0 (p := p) (by rw [zP]; exact hp) (by rw [zA]; exact hA) ?_ n (by rw [e62, pk_us, zA]) (by rw [e63, zA])
    have b1 := r 4 p (by decide)
    have b2 := r 5 p (by decide)
    have b3 := r 3 p (by decide)
    have j1 : mo_J (mo_up Z 63 (sp_A S) (nI p)) F := hK.1.1.up (by decide) ⟨by rw [nI_toInt (by omega)]; show (0 : Int) ≤ _; omega, by rw [nI_toInt (by omega)]; show _ ≤ (11 : Int); omega⟩
    have j2 : mo_J (mo_up (mo_up Z 63 (sp_A S) (nI p)) 64 (sp_A S) v) F := j1.up (by decide) hv
    have j3 : mo_J (mo_up (mo_up (mo_up Z 63 (sp_A S) (nI p)) 64 (sp_A S) v) 65 (sp_A S) (S.1 4 p)) F := j2.up (by decide) ⟨b1.1, b1.2⟩
    have j4 : mo_J (mo_up (mo_up (mo_up (mo_up Z 63 (sp_A S) (nI p)) 64 (sp_A S) v) 65 (sp_A S) (S.1 4 p)) 66 (sp_A S) (S.1 5 p)) F := j3.up (by decide) ⟨b2.1, b2.2⟩
    have j5 : mo_J (mo_up (mo_up (mo_up (mo_up (mo_up Z 63 (sp_A S) (nI p)) 64 (sp_A S) v) 65 (sp_A S) (S.1 4 p)) 66 (sp_A S) (S.1 5 p)) 67 (sp_A S) (S.1 3 p)) F := j4.up (by decide) ⟨b3.1, b3.2⟩
    have j6 : mo_J (mo_up (mo_up (mo_up (mo_up (mo_up (mo_up Z 63 (sp_A S) (nI p)) 64 (sp_A S) v) 65 (sp_A S) (S.1 4 p)) 66 (sp_A S) (S.1 5 p)) 67 (sp_A S) (S.1 3 p)) 68 (sp_A S) (-1)) F := j5.up (by decide) (by decide)
    exact j6.up (by decide) ⟨by rw [nI_toInt (by omega)]; show (0 : Int) ≤ _; omega, by rw [nI_toInt (by omega)]; show _ ≤ (20 : Int); omega⟩
theorem cl_appeal {B : Int} {C S : mo_S} {F : mo_Fn} {OL : Nat → List od_q} (h : cl_R B C S F OL) (x1 x2 : Int32) : cl_st B [cl_IO, cl_IA] (cx_X11_appeal C x1 x2) (sp_X12_appeal S x1 x2) := by
  unfold cx_X11_appeal sp_X12_appeal cx_X5_isAdmitted
  rw [h.1.sz.2.2.2.1, h.1.k 1 (by decide), h.1.k 12 (by decide), h.1.k 62 (by decide)]
  simp only [cx_within_in]
  have hP := h.J.P
  have hA := h.J.A
  cases a : sp_in x1 0 (S.1 1 0 - 1)
  · simp only [mo_b_t, mo_b_f, cl_10, eq_self, Bool.false_eq_true, Bool.not_true, Bool.not_false, if_true, if_false, cl_bt, cl_bf, Bool.true_and, Bool.false_and]
    exact cl_st.E0 rfl h
  · obtain ⟨-, p1, e1⟩ := mo_vin (N := 12) hP.1 hP.2 (by decide) a
    cases b : sp_in x2 0 100000
    · simp only [mo_b_t, mo_b_f, cl_10, eq_self, Bool.false_eq_true, Bool.not_true, Bool.not_false, if_true, if_false, cl_bt, cl_bf, Bool.true_and, Bool.false_and]
      exact cl_st.E1 rfl h.u0
    · by_cases c : S.1 62 0 = 20
      · have c2 : ¬ S.1 62 0 < 20 := by rw [c]; decide
        simp only [if_neg c2, if_pos c, mo_b_t, mo_b_f, cl_10, eq_self, Bool.false_eq_true, Bool.not_true, Bool.not_false, if_true, if_false, cl_bt, cl_bf, Bool.true_and, Bool.false_and]
        exact cl_st.ok0 h
      · have hlt : sp_A S < 20 := by
          rcases Nat.lt_or_ge (sp_A S) 20 with q | q
          · exact q
          · exact absurd (by rw [hA.1, show sp_A S = 20 by omega]; rfl) c
        have c2 : S.1 62 0 < 20 := by rw [hA.1]; exact nI_lt (b := 20) hlt (by decide)
        simp only [if_pos c2, if_neg c, mo_b_t, mo_b_f, cl_10, eq_self, Bool.false_eq_true, Bool.not_true, Bool.not_false, if_true, if_false, cl_bt, cl_bf, Bool.true_and, Bool.false_and]
        by_cases z : S.1 12 x1.toNatClampNeg = 1
        · simp only [z, eq_self, if_true, mo_b_t, cl_10, if_false]
          have hh := cl_app h (p := x1.toNatClampNeg) (v := x2) p1 hlt (kl_in b)
          rw [← e1] at hh
          rw [hA.1, nI_clamp (by omega), show nI (sp_A S) + 1 = nI (sp_A S + 1) from nI_1 _]
          refine cl_st.ok (F := F) (OL := OL) (by rw [mo_up_ne (by decide), mo_up_ne (by decide), mo_up_ne (by decide), mo_up_ne (by decide), mo_up_ne (by decide), mo_up_ne (by decide), mo_up_ne (by decide), mo_up_at, pk_us]) (hh.le (by omega))
        · simp only [z, if_false, mo_b_f, eq_self, if_true]
          exact cl_st.ok0 h
theorem cx_fl_id {T : mo_S} {f : Nat} {e : Nat → Nat} {v : Int32} : ∀ n, (∀ j, j < n → T.1 f (e j) = v) → (cx_fl T f e v n).1 f = T.1 f
  | 0, _ => rfl
  | n + 1, h => by
    rw [cx_fl, mo_up_at, cx_fl_id n (fun j hj => h j (by omega))]
    funext x
    by_cases q : x = e n
    · rw [q, pk_us, h n (by omega)]
    · rw [pk_un q]
section NP
variable {C : mo_S} {x1 x2 x3 x4 x5 : Int32}
theorem cx_newP_o {k : Nat} (hk : k ∉ [1, 131, 132, 3, 4, 5, 6, 7, 8, 9, 10, 11, 12, 13, 14, 15, 16, 17, 18, 19, 20, 59, 26, 58, 60, 61]) : (cx_newP C x1 x2 x3 x4 x5).1 k = C.1 k := by
  simp only [List.mem_cons, List.mem_nil_iff, or_false, not_or] at hk
  unfold cx_newP cx_grow
  rw [mo_up_ne (by omega), mo_up_ne (by omega), mo_up_ne (by omega), mo_up_ne (by omega), mo_up_ne (by omega), mo_up_ne (by omega), mo_up_ne (by omega), mo_up_ne (by omega), mo_up_ne (by omega), mo_up_ne (by omega), mo_up_ne (by omega), mo_up_ne (by omega), mo_up_ne (by omega), mo_up_ne (by omega), mo_up_ne (by omega), mo_up_ne (by omega), mo_up_ne (by omega), mo_up_ne (by omega), mo_up_ne (by omega), cx_fl_ne (by omega), cx_fl_ne (by omega), cx_fl_ne (by omega), cx_fl_ne (by omega), mo_up_ne (by omega), mo_up_ne (by omega), mo_up_ne (show k ≠ cw_sz 0 by rw [show cw_sz 0 = 1 from rfl]; omega)]
theorem cx_newP_u1 : (cx_newP C x1 x2 x3 x4 x5).1 1 = upd (C.1 1) 0 (nI (sp_P C + 1)) := by
  unfold cx_newP cx_grow
  rw [mo_up_ne (by decide), mo_up_ne (by decide), mo_up_ne (by decide), mo_up_ne (by decide), mo_up_ne (by decide), mo_up_ne (by decide), mo_up_ne (by decide), mo_up_ne (by decide), mo_up_ne (by decide), mo_up_ne (by decide), mo_up_ne (by decide), mo_up_ne (by decide), mo_up_ne (by decide), mo_up_ne (by decide), mo_up_ne (by decide), mo_up_ne (by decide), mo_up_ne (by decide), mo_up_ne (by decide), mo_up_ne (by decide), cx_fl_ne (by decide), cx_fl_ne (by decide), cx_fl_ne (by decide), cx_fl_ne (by decide), mo_up_ne (by decide), mo_up_ne (by decide), show cw_sz 0 = 1 from rfl, mo_up_at]
theorem cx_newP_u3 : (cx_newP C x1 x2 x3 x4 x5).1 3 = upd (C.1 3) (sp_P C) x1 := by
  unfold cx_newP cx_grow
  rw [mo_up_ne (by decide), mo_up_ne (by decide), mo_up_ne (by decide), mo_up_ne (by decide), mo_up_ne (by decide), mo_up_ne (by decide), mo_up_ne (by decide), mo_up_ne (by decide), mo_up_ne (by decide), mo_up_ne (by decide), mo_up_ne (by decide), mo_up_ne (by decide), mo_up_ne (by decide), mo_up_ne (by decide), mo_up_ne (by decide), mo_up_ne (by decide), mo_up_ne (by decide), mo_up_ne (by decide), mo_up_at, cx_fl_ne (by decide), cx_fl_ne (by decide), cx_fl_ne (by decide), cx_fl_ne (by decide), mo_up_ne (by decide), mo_up_ne (by decide), mo_up_ne (show (3 : Nat) ≠ cw_sz 0 by decide)]
theorem cx_newP_u4 : (cx_newP C x1 x2 x3 x4 x5).1 4 = upd (C.1 4) (sp_P C) x2 := by
  unfold cx_newP cx_grow
  rw [mo_up_ne (by decide), mo_up_ne (by decide), mo_up_ne (by decide), mo_up_ne (by decide), mo_up_ne (by decide), mo_up_ne (by decide), mo_up_ne (by decide), mo_up_ne (by decide), mo_up_ne (by decide), mo_up_ne (by decide), mo_up_ne (by decide), mo_up_ne (by decide), mo_up_ne (by decide), mo_up_ne (by decide), mo_up_ne (by decide), mo_up_ne (by decide), mo_up_ne (by decide), mo_up_at, mo_up_ne (by decide), cx_fl_ne (by decide), cx_fl_ne (by decide), cx_fl_ne (by decide), cx_fl_ne (by decide), mo_up_ne (by decide), mo_up_ne (by decide), mo_up_ne (show (4 : Nat) ≠ cw_sz 0 by decide)]
theorem cx_newP_u5 : (cx_newP C x1 x2 x3 x4 x5).1 5 = upd (C.1 5) (sp_P C) x3 := by
  unfold cx_newP cx_grow
  rw [mo_up_ne (by decide), mo_up_ne (by decide), mo_up_ne (by decide), mo_up_ne (by decide), mo_up_ne (by decide), mo_up_ne (by decide), mo_up_ne (by decide), mo_up_ne (by decide), mo_up_ne (by decide), mo_up_ne (by decide), mo_up_ne (by decide), mo_up_ne (by decide), mo_up_ne (by decide), mo_up_ne (by decide), mo_up_ne (by decide), mo_up_ne (by decide), mo_up_at, mo_up_ne (by decide), mo_up_ne (by decide), cx_fl_ne (by decide), cx_fl_ne (by decide), cx_fl_ne (by decide), cx_fl_ne (by decide), mo_up_ne (by decide), mo_up_ne (by decide), mo_up_ne (show (5 : Nat) ≠ cw_sz 0 by decide)]
theorem cx_newP_u6 : (cx_newP C x1 x2 x3 x4 x5).1 6 = upd (C.1 6) (sp_P C) x4 := by
  unfold cx_newP cx_grow
  rw [mo_up_ne (by decide), mo_up_ne (by decide), mo_up_ne (by decide), mo_up_ne (by decide), mo_up_ne (by decide), mo_up_ne (by decide), mo_up_ne (by decide), mo_up_ne (by decide), mo_up_ne (by decide), mo_up_ne (by decide), mo_up_ne (by decide), mo_up_ne (by decide), mo_up_ne (by decide), mo_up_ne (by decide), mo_up_ne (by decide), mo_up_at, mo_up_ne (by decide), mo_up_ne (by decide), mo_up_ne (by decide), cx_fl_ne (by decide), cx_fl_ne (by decide), cx_fl_ne (by decide), cx_fl_ne (by decide), mo_up_ne (by decide), mo_up_ne (by decide), mo_up_ne (show (6 : Nat) ≠ cw_sz 0 by decide)]
theorem cx_newP_u7 : (cx_newP C x1 x2 x3 x4 x5).1 7 = upd (C.1 7) (sp_P C) x5 := by
  unfold cx_newP cx_grow
  rw [mo_up_ne (by decide), mo_up_ne (by decide), mo_up_ne (by decide), mo_up_ne (by decide), mo_up_ne (by decide), mo_up_ne (by decide), mo_up_ne (by decide), mo_up_ne (by decide), mo_up_ne (by decide), mo_up_ne (by decide), mo_up_ne (by decide), mo_up_ne (by decide), mo_up_ne (by decide), mo_up_ne (by decide), mo_up_at, mo_up_ne (by decide), mo_up_ne (by decide), mo_up_ne (by decide), mo_up_ne (by decide), cx_fl_ne (by decide), cx_fl_ne (by decide), cx_fl_ne (by decide), cx_fl_ne (by decide), mo_up_ne (by decide), mo_up_ne (by decide), mo_up_ne (show (7 : Nat) ≠ cw_sz 0 by decide)]
theorem cx_newP_u8 : (cx_newP C x1 x2 x3 x4 x5).1 8 = upd (C.1 8) (sp_P C) 0 := by
  unfold cx_newP cx_grow
  rw [mo_up_ne (by decide), mo_up_ne (by decide), mo_up_ne (by decide), mo_up_ne (by decide), mo_up_ne (by decide), mo_up_ne (by decide), mo_up_ne (by decide), mo_up_ne (by decide), mo_up_ne (by decide), mo_up_ne (by decide), mo_up_ne (by decide), mo_up_ne (by decide), mo_up_ne (by decide), mo_up_at, mo_up_ne (by decide), mo_up_ne (by decide), mo_up_ne (by decide), mo_up_ne (by decide), mo_up_ne (by decide), cx_fl_ne (by decide), cx_fl_ne (by decide), cx_fl_ne (by decide), cx_fl_ne (by decide), mo_up_ne (by decide), mo_up_ne (by decide), mo_up_ne (show (8 : Nat) ≠ cw_sz 0 by decide)]
theorem cx_newP_u9 : (cx_newP C x1 x2 x3 x4 x5).1 9 = upd (C.1 9) (sp_P C) 0 := by
  unfold cx_newP cx_grow
  rw [mo_up_ne (by decide), mo_up_ne (by decide), mo_up_ne (by decide), mo_up_ne (by decide), mo_up_ne (by decide), mo_up_ne (by decide), mo_up_ne (by decide), mo_up_ne (by decide), mo_up_ne (by decide), mo_up_ne (by decide), mo_up_ne (by decide), mo_up_ne (by decide), mo_up_at, mo_up_ne (by decide), mo_up_ne (by decide), mo_up_ne (by decide), mo_up_ne (by decide), mo_up_ne (by decide), mo_up_ne (by decide), cx_fl_ne (by decide), cx_fl_ne (by decide), cx_fl_ne (by decide), cx_fl_ne (by decide), mo_up_ne (by decide), mo_up_ne (by decide), mo_up_ne (show (9 : Nat) ≠ cw_sz 0 by decide)]
theorem cx_newP_u10 : (cx_newP C x1 x2 x3 x4 x5).1 10 = upd (C.1 10) (sp_P C) 0 := by
  unfold cx_newP cx_grow
  rw [mo_up_ne (by decide), mo_up_ne (by decide), mo_up_ne (by decide), mo_up_ne (by decide), mo_up_ne (by decide), mo_up_ne (by decide), mo_up_ne (by decide), mo_up_ne (by decide), mo_up_ne (by decide), mo_up_ne (by decide), mo_up_ne (by decide), mo_up_at, mo_up_ne (by decide), mo_up_ne (by decide), mo_up_ne (by decide), mo_up_ne (by decide), mo_up_ne (by decide), mo_up_ne (by decide), mo_up_ne (by decide), cx_fl_ne (by decide), cx_fl_ne (by decide), cx_fl_ne (by decide), cx_fl_ne (by decide), mo_up_ne (by decide), mo_up_ne (by decide), mo_up_ne (show (10 : Nat) ≠ cw_sz 0 by decide)]
theorem cx_newP_u11 : (cx_newP C x1 x2 x3 x4 x5).1 11 = upd (C.1 11) (sp_P C) 0 := by
  unfold cx_newP cx_grow
  rw [mo_up_ne (by decide), mo_up_ne (by decide), mo_up_ne (by decide), mo_up_ne (by decide), mo_up_ne (by decide), mo_up_ne (by decide), mo_up_ne (by decide), mo_up_ne (by decide), mo_up_ne (by decide), mo_up_ne (by decide), mo_up_at, mo_up_ne (by decide), mo_up_ne (by decide), mo_up_ne (by decide), mo_up_ne (by decide), mo_up_ne (by decide), mo_up_ne (by decide), mo_up_ne (by decide), mo_up_ne (by decide), cx_fl_ne (by decide), cx_fl_ne (by decide), cx_fl_ne (by decide), cx_fl_ne (by decide), mo_up_ne (by decide), mo_up_ne (by decide), mo_up_ne (show (11 : Nat) ≠ cw_sz 0 by decide)]
theorem cx_newP_u12 : (cx_newP C x1 x2 x3 x4 x5).1 12 = upd (C.1 12) (sp_P C) 0 := by
  unfold cx_newP cx_grow
  rw [mo_up_ne (by decide), mo_up_ne (by decide), mo_up_ne (by decide), mo_up_ne (by decide), mo_up_ne (by decide), mo_up_ne (by decide), mo_up_ne (by decide), mo_up_ne (by decide), mo_up_ne (by decide), mo_up_at, mo_up_ne (by decide), mo_up_ne (by decide), mo_up_ne (by decide), mo_up_ne (by decide), mo_up_ne (by decide), mo_up_ne (by decide), mo_up_ne (by decide), mo_up_ne (by decide), mo_up_ne (by decide), cx_fl_ne (by decide), cx_fl_ne (by decide), cx_fl_ne (by decide), cx_fl_ne (by decide), mo_up_ne (by decide), mo_up_ne (by decide), mo_up_ne (show (12 : Nat) ≠ cw_sz 0 by decide)]
theorem cx_newP_u13 : (cx_newP C x1 x2 x3 x4 x5).1 13 = upd (C.1 13) (sp_P C) 0 := by
  unfold cx_newP cx_grow
  rw [mo_up_ne (by decide), mo_up_ne (by decide), mo_up_ne (by decide), mo_up_ne (by decide), mo_up_ne (by decide), mo_up_ne (by decide), mo_up_ne (by decide), mo_up_ne (by decide), mo_up_at, mo_up_ne (by decide), mo_up_ne (by decide), mo_up_ne (by decide), mo_up_ne (by decide), mo_up_ne (by decide), mo_up_ne (by decide), mo_up_ne (by decide), mo_up_ne (by decide), mo_up_ne (by decide), mo_up_ne (by decide), cx_fl_ne (by decide), cx_fl_ne (by decide), cx_fl_ne (by decide), cx_fl_ne (by decide), mo_up_ne (by decide), mo_up_ne (by decide), mo_up_ne (show (13 : Nat) ≠ cw_sz 0 by decide)]
theorem cx_newP_u14 : (cx_newP C x1 x2 x3 x4 x5).1 14 = upd (C.1 14) (sp_P C) 0 := by
  unfold cx_newP cx_grow
  rw [mo_up_ne (by decide), mo_up_ne (by decide), mo_up_ne (by decide), mo_up_ne (by decide), mo_up_ne (by decide), mo_up_ne (by decide), mo_up_ne (by decide), mo_up_at, mo_up_ne (by decide), mo_up_ne (by decide), mo_up_ne (by decide), mo_up_ne (by decide), mo_up_ne (by decide), mo_up_ne (by decide), mo_up_ne (by decide), mo_up_ne (by decide), mo_up_ne (by decide), mo_up_ne (by decide), mo_up_ne (by decide), cx_fl_ne (by decide), cx_fl_ne (by decide), cx_fl_ne (by decide), cx_fl_ne (by decide), mo_up_ne (by decide), mo_up_ne (by decide), mo_up_ne (show (14 : Nat) ≠ cw_sz 0 by decide)]
theorem cx_newP_u15 : (cx_newP C x1 x2 x3 x4 x5).1 15 = upd (C.1 15) (sp_P C) 0 := by
  unfold cx_newP cx_grow
  rw [mo_up_ne (by decide), mo_up_ne (by decide), mo_up_ne (by decide), mo_up_ne (by decide), mo_up_ne (by decide), mo_up_ne (by decide), mo_up_at, mo_up_ne (by decide), mo_up_ne (by decide), mo_up_ne (by decide), mo_up_ne (by decide), mo_up_ne (by decide), mo_up_ne (by decide), mo_up_ne (by decide), mo_up_ne (by decide), mo_up_ne (by decide), mo_up_ne (by decide), mo_up_ne (by decide), mo_up_ne (by decide), cx_fl_ne (by decide), cx_fl_ne (by decide), cx_fl_ne (by decide), cx_fl_ne (by decide), mo_up_ne (by decide), mo_up_ne (by decide), mo_up_ne (show (15 : Nat) ≠ cw_sz 0 by decide)]
theorem cx_newP_u16 : (cx_newP C x1 x2 x3 x4 x5).1 16 = upd (C.1 16) (sp_P C) 0 := by
  unfold cx_newP cx_grow
  rw [mo_up_ne (by decide), mo_up_ne (by decide), mo_up_ne (by decide), mo_up_ne (by decide), mo_up_ne (by decide), mo_up_at, mo_up_ne (by decide), mo_up_ne (by decide), mo_up_ne (by decide), mo_up_ne (by decide), mo_up_ne (by decide), mo_up_ne (by decide), mo_up_ne (by decide), mo_up_ne (by decide), mo_up_ne (by decide), mo_up_ne (by decide), mo_up_ne (by decide), mo_up_ne (by decide), mo_up_ne (by decide), cx_fl_ne (by decide), cx_fl_ne (by decide), cx_fl_ne (by decide), cx_fl_ne (by decide), mo_up_ne (by decide), mo_up_ne (by decide), mo_up_ne (show (16 : Nat) ≠ cw_sz 0 by decide)]
theorem cx_newP_u17 : (cx_newP C x1 x2 x3 x4 x5).1 17 = upd (C.1 17) (sp_P C) (-1) := by
  unfold cx_newP cx_grow
  rw [mo_up_ne (by decide), mo_up_ne (by decide), mo_up_ne (by decide), mo_up_ne (by decide), mo_up_at, mo_up_ne (by decide), mo_up_ne (by decide), mo_up_ne (by decide), mo_up_ne (by decide), mo_up_ne (by decide), mo_up_ne (by decide), mo_up_ne (by decide), mo_up_ne (by decide), mo_up_ne (by decide), mo_up_ne (by decide), mo_up_ne (by decide), mo_up_ne (by decide), mo_up_ne (by decide), mo_up_ne (by decide), cx_fl_ne (by decide), cx_fl_ne (by decide), cx_fl_ne (by decide), cx_fl_ne (by decide), mo_up_ne (by decide), mo_up_ne (by decide), mo_up_ne (show (17 : Nat) ≠ cw_sz 0 by decide)]
theorem cx_newP_u18 : (cx_newP C x1 x2 x3 x4 x5).1 18 = upd (C.1 18) (sp_P C) 0 := by
  unfold cx_newP cx_grow
  rw [mo_up_ne (by decide), mo_up_ne (by decide), mo_up_ne (by decide), mo_up_at, mo_up_ne (by decide), mo_up_ne (by decide), mo_up_ne (by decide), mo_up_ne (by decide), mo_up_ne (by decide), mo_up_ne (by decide), mo_up_ne (by decide), mo_up_ne (by decide), mo_up_ne (by decide), mo_up_ne (by decide), mo_up_ne (by decide), mo_up_ne (by decide), mo_up_ne (by decide), mo_up_ne (by decide), mo_up_ne (by decide), cx_fl_ne (by decide), cx_fl_ne (by decide), cx_fl_ne (by decide), cx_fl_ne (by decide), mo_up_ne (by decide), mo_up_ne (by decide), mo_up_ne (show (18 : Nat) ≠ cw_sz 0 by decide)]
theorem cx_newP_u19 : (cx_newP C x1 x2 x3 x4 x5).1 19 = upd (C.1 19) (sp_P C) (-1) := by
  unfold cx_newP cx_grow
  rw [mo_up_ne (by decide), mo_up_ne (by decide), mo_up_at, mo_up_ne (by decide), mo_up_ne (by decide), mo_up_ne (by decide), mo_up_ne (by decide), mo_up_ne (by decide), mo_up_ne (by decide), mo_up_ne (by decide), mo_up_ne (by decide), mo_up_ne (by decide), mo_up_ne (by decide), mo_up_ne (by decide), mo_up_ne (by decide), mo_up_ne (by decide), mo_up_ne (by decide), mo_up_ne (by decide), mo_up_ne (by decide), cx_fl_ne (by decide), cx_fl_ne (by decide), cx_fl_ne (by decide), cx_fl_ne (by decide), mo_up_ne (by decide), mo_up_ne (by decide), mo_up_ne (show (19 : Nat) ≠ cw_sz 0 by decide)]
theorem cx_newP_u20 : (cx_newP C x1 x2 x3 x4 x5).1 20 = upd (C.1 20) (sp_P C) (-1) := by
  unfold cx_newP cx_grow
  rw [mo_up_ne (by decide), mo_up_at, mo_up_ne (by decide), mo_up_ne (by decide), mo_up_ne (by decide), mo_up_ne (by decide), mo_up_ne (by decide), mo_up_ne (by decide), mo_up_ne (by decide), mo_up_ne (by decide), mo_up_ne (by decide), mo_up_ne (by decide), mo_up_ne (by decide), mo_up_ne (by decide), mo_up_ne (by decide), mo_up_ne (by decide), mo_up_ne (by decide), mo_up_ne (by decide), mo_up_ne (by decide), cx_fl_ne (by decide), cx_fl_ne (by decide), cx_fl_ne (by decide), cx_fl_ne (by decide), mo_up_ne (by decide), mo_up_ne (by decide), mo_up_ne (show (20 : Nat) ≠ cw_sz 0 by decide)]
theorem cx_newP_u59 : (cx_newP C x1 x2 x3 x4 x5).1 59 = upd (C.1 59) (sp_P C) 0 := by
  unfold cx_newP cx_grow
  rw [mo_up_at, mo_up_ne (by decide), mo_up_ne (by decide), mo_up_ne (by decide), mo_up_ne (by decide), mo_up_ne (by decide), mo_up_ne (by decide), mo_up_ne (by decide), mo_up_ne (by decide), mo_up_ne (by decide), mo_up_ne (by decide), mo_up_ne (by decide), mo_up_ne (by decide), mo_up_ne (by decide), mo_up_ne (by decide), mo_up_ne (by decide), mo_up_ne (by decide), mo_up_ne (by decide), mo_up_ne (by decide), cx_fl_ne (by decide), cx_fl_ne (by decide), cx_fl_ne (by decide), cx_fl_ne (by decide), mo_up_ne (by decide), mo_up_ne (by decide), mo_up_ne (show (59 : Nat) ≠ cw_sz 0 by decide)]
theorem cx_newP_u26 (hz : ∀ j, j < 5 → C.1 26 (12 * j + sp_P C) = 0) : (cx_newP C x1 x2 x3 x4 x5).1 26 = C.1 26 := by
  unfold cx_newP
  rw [mo_up_ne (by decide), mo_up_ne (by decide), mo_up_ne (by decide), mo_up_ne (by decide), mo_up_ne (by decide), mo_up_ne (by decide), mo_up_ne (by decide), mo_up_ne (by decide), mo_up_ne (by decide), mo_up_ne (by decide), mo_up_ne (by decide), mo_up_ne (by decide), mo_up_ne (by decide), mo_up_ne (by decide), mo_up_ne (by decide), mo_up_ne (by decide), mo_up_ne (by decide), mo_up_ne (by decide), mo_up_ne (by decide), cx_fl_ne (by decide), cx_fl_ne (by decide), cx_fl_ne (by decide)]
  have e9 : ∀ T : mo_S, T.1 26 = C.1 26 → (cx_fl T 26 (fun j => 12 * j + sp_P C) 0 5).1 26 = C.1 26 := fun T hT => (cx_fl_id 5 (fun j hj => by rw [hT]; exact hz j hj)).trans hT
  refine e9 _ ?_
  unfold cx_grow
  rw [mo_up_ne (by decide), mo_up_ne (by decide), mo_up_ne (show (26 : Nat) ≠ cw_sz 0 by decide)]
theorem cx_newP_u58 (hz : ∀ j, j < 12 → C.1 58 (12 * sp_P C + j) = 0) : (cx_newP C x1 x2 x3 x4 x5).1 58 = C.1 58 := by
  unfold cx_newP
  rw [mo_up_ne (by decide), mo_up_ne (by decide), mo_up_ne (by decide), mo_up_ne (by decide), mo_up_ne (by decide), mo_up_ne (by decide), mo_up_ne (by decide), mo_up_ne (by decide), mo_up_ne (by decide), mo_up_ne (by decide), mo_up_ne (by decide), mo_up_ne (by decide), mo_up_ne (by decide), mo_up_ne (by decide), mo_up_ne (by decide), mo_up_ne (by decide), mo_up_ne (by decide), mo_up_ne (by decide), mo_up_ne (by decide), cx_fl_ne (by decide), cx_fl_ne (by decide)]
  have e9 : ∀ T : mo_S, T.1 58 = C.1 58 → (cx_fl T 58 (fun j => 12 * sp_P C + j) 0 12).1 58 = C.1 58 := fun T hT => (cx_fl_id 12 (fun j hj => by rw [hT]; exact hz j hj)).trans hT
  refine e9 _ ?_
  unfold cx_grow
  rw [cx_fl_ne (by decide), mo_up_ne (by decide), mo_up_ne (by decide), mo_up_ne (show (58 : Nat) ≠ cw_sz 0 by decide)]
theorem cx_newP_u60 (hz : ∀ j, j < 8 → C.1 60 (8 * sp_P C + j) = 0) : (cx_newP C x1 x2 x3 x4 x5).1 60 = C.1 60 := by
  unfold cx_newP
  rw [mo_up_ne (by decide), mo_up_ne (by decide), mo_up_ne (by decide), mo_up_ne (by decide), mo_up_ne (by decide), mo_up_ne (by decide), mo_up_ne (by decide), mo_up_ne (by decide), mo_up_ne (by decide), mo_up_ne (by decide), mo_up_ne (by decide), mo_up_ne (by decide), mo_up_ne (by decide), mo_up_ne (by decide), mo_up_ne (by decide), mo_up_ne (by decide), mo_up_ne (by decide), mo_up_ne (by decide), mo_up_ne (by decide), cx_fl_ne (by decide)]
  have e9 : ∀ T : mo_S, T.1 60 = C.1 60 → (cx_fl T 60 (fun j => 8 * sp_P C + j) 0 8).1 60 = C.1 60 := fun T hT => (cx_fl_id 8 (fun j hj => by rw [hT]; exact hz j hj)).trans hT
  refine e9 _ ?_
  unfold cx_grow
  rw [cx_fl_ne (by decide), cx_fl_ne (by decide), mo_up_ne (by decide), mo_up_ne (by decide), mo_up_ne (show (60 : Nat) ≠ cw_sz 0 by decide)]
theorem cx_newP_u61 (hz : ∀ j, j < 8 → C.1 61 (8 * sp_P C + j) = 0) : (cx_newP C x1 x2 x3 x4 x5).1 61 = C.1 61 := by
  unfold cx_newP
  rw [mo_up_ne (by decide), mo_up_ne (by decide), mo_up_ne (by decide), mo_up_ne (by decide), mo_up_ne (by decide), mo_up_ne (by decide), mo_up_ne (by decide), mo_up_ne (by decide), mo_up_ne (by decide), mo_up_ne (by decide), mo_up_ne (by decide), mo_up_ne (by decide), mo_up_ne (by decide), mo_up_ne (by decide), mo_up_ne (by decide), mo_up_ne (by decide), mo_up_ne (by decide), mo_up_ne (by decide), mo_up_ne (by decide)]
  have e9 : ∀ T : mo_S, T.1 61 = C.1 61 → (cx_fl T 61 (fun j => 8 * sp_P C + j) 0 8).1 61 = C.1 61 := fun T hT => (cx_fl_id 8 (fun j hj => by rw [hT]; exact hz j hj)).trans hT
  refine e9 _ ?_
  unfold cx_grow
  rw [cx_fl_ne (by decide), cx_fl_ne (by decide), cx_fl_ne (by decide), mo_up_ne (by decide), mo_up_ne (by decide), mo_up_ne (show (61 : Nat) ≠ cw_sz 0 by decide)]
end NP
/-- one more paper -/
theorem mo_K.paper0 {S T : mo_S} {F : mo_Fn} {B : Int} {x1 x2 x3 x4 x5 : Int32} (h : mo_K B S F) (hP : sp_P S < 12) (b1 : sp_in x1 0 2 = true) (b2 : sp_in x2 0 100000 = true) (b3 : sp_in x3 0 1000 = true) (b4 : sp_in x4 2 64 = true) (b5 : sp_in x5 1 100 = true) (n : ∀ k, k ∉ [1, 3, 4, 5, 6, 7, 17, 19, 20] → T.1 k = S.1 k) (e3 : T.1 3 = upd (S.1 3) (sp_P S) x1) (e4 : T.1 4 = upd (S.1 4) (sp_P S) x2) (e5 : T.1 5 = upd (S.1 5) (sp_P S) x3) (e6 : T.1 6 = upd (S.1 6) (sp_P S) x4) (e7 : T.1 7 = upd (S.1 7) (sp_P S) x5) (e1 : T.1 1 = upd (S.1 1) 0 (nI (sp_P S + 1))) : mo_K B T F := by
  obtain ⟨⟨⟨h1, ⟨h2, h3⟩, h4, h5⟩, i2, i3, i4⟩, i5⟩ := h
  have eP : sp_P T = sp_P S + 1 := (congrArg Int32.toNatClampNeg (by rw [e1, pk_us])).trans (nI_clamp (n := sp_P S + 1) (by omega))
  have hq : sp_eqF T S := ⟨n 2 (by decide), n 29 (by decide), n 36 (by decide), n 37 (by decide), n 38 (by decide), n 39 (by decide), n 40 (by decide), n 41 (by decide)⟩
  have c1 := kl_in b1
  have c2 := kl_in b2
  have c3 := kl_in b3
  have c4 := kl_in b4
  have c5 := kl_in b5
  have d4 : (2 : Int) ≤ x4.toInt := c4.1
  have d5 : (1 : Int) ≤ x5.toInt := c5.1
  have ub : ∀ (k : Nat) (v : Int32) (p : Nat), (k < 42 ∨ 52 < k) → (mo_lo k ≤ v.toInt ∧ v.toInt ≤ mo_hi k) → T.1 k = upd (S.1 k) p v → ∀ i, mo_lo k ≤ (T.1 k i).toInt ∧ (T.1 k i).toInt ≤ mo_hi k := fun k v p hk hv e i => by
    rw [e]
    by_cases q : i = p
    · rw [q, pk_us]; exact hv
    · rw [pk_un q]; exact h1 k i hk
  refine ⟨⟨⟨fun k i hk => ?_, ⟨h2.cong hq, ?_⟩, fun p hp => ?_, by rw [n 54 (by decide), n 53 (by decide)]; exact h5⟩, ⟨fun p hp => ?_, fun x p hp hx => ?_, fun p q hp hq hx => ?_⟩, ?_, i4.cg (fun a ha => n a (fun e => ?_))⟩, i5.cg (fun a ha => n a (fun e => ?_))⟩
  · by_cases e : k ∈ [1, 3, 4, 5, 6, 7, 17, 19, 20]
    · simp only [List.mem_cons, List.mem_nil_iff, or_false] at e
      rcases e with rfl | rfl | rfl | rfl | rfl | rfl | rfl | rfl | rfl
      · exact ub 1 _ 0 (by decide) ⟨by rw [nI_toInt (by omega)]; show (0 : Int) ≤ _; omega, by rw [nI_toInt (by omega)]; show _ ≤ (12 : Int); omega⟩ e1 i
      · exact ub 3 _ _ (by decide) c1 e3 i
      · exact ub 4 _ _ (by decide) c2 e4 i
      · exact ub 5 _ _ (by decide) c3 e5 i
      · exact ub 6 _ _ (by decide) ⟨by show (0 : Int) ≤ _; omega, c4.2⟩ e6 i
      · exact ub 7 _ _ (by decide) ⟨by show (0 : Int) ≤ _; omega, c5.2⟩ e7 i
      · exact mo_fullI (by decide) _
      · exact mo_fullI (by decide) _
      · exact mo_fullI (by decide) _
    · rw [n k e]; exact h1 k i hk
  · unfold sp_O at h3 ⊢
    rw [n 29 (by decide), n 37 (by decide), n 38 (by decide), n 39 (by decide)]
    exact h3
  · rw [eP] at hp
    rw [e6, e7]
    by_cases q : p = sp_P S
    · rw [q, pk_us, pk_us]; exact ⟨d4, d5⟩
    · rw [pk_un q, pk_un q]; exact h4 p (by omega)
  · rw [eP] at hp
    rw [n 8 (by decide), n 9 (by decide), n 10 (by decide), n 11 (by decide), n 12 (by decide), n 13 (by decide), n 14 (by decide), n 15 (by decide), n 16 (by decide), n 18 (by decide), n 59 (by decide)]
    exact i2.1 p (by omega)
  · rw [n 26 (by decide)]
    refine i2.2.1 x p hp (hx.imp (fun y => ?_) (fun y => by rw [eP] at y; omega))
    unfold sp_W at y ⊢
    rw [n 24 (by decide)] at y
    exact y
  · rw [n 58 (by decide)]
    exact i2.2.2 p q hp hq (hx.imp (fun y => by rw [eP] at y; omega) (fun y => by rw [eP] at y; omega))
  · obtain ⟨a1, a2, a3, a4⟩ := i3
    refine ⟨fun r hr => ?_, fun a ha => ?_, fun m p hp hx => ?_, ?_⟩
    · rw [n 23 (by decide), eP]
      have := a1 r (by unfold sp_R at hr ⊢; rw [n 21 (by decide)] at hr; exact hr)
      omega
    · rw [n 63 (by decide), eP]
      have := a2 a (by unfold sp_A at ha ⊢; rw [n 62 (by decide)] at ha; exact ha)
      omega
    · rw [n 56 (by decide)]
      refine a3 m p hp (hx.imp (fun y => ?_) (fun y => by rw [eP] at y; omega))
      unfold sp_M at y ⊢
      rw [n 2 (by decide)] at y
      exact y
    · unfold sp_O at a4 ⊢
      rw [n 29 (by decide), n 59 (by decide), n 56 (by decide), n 55 (by decide), n 60 (by decide), n 61 (by decide), n 33 (by decide), n 53 (by decide), n 54 (by decide)]
      exact a4
  · simp only [List.mem_cons, List.mem_nil_iff, or_false] at ha e
    omega
  · simp only [List.mem_cons, List.mem_nil_iff, or_false] at ha e
    omega
theorem cl_pap {B : Int} {C S : mo_S} {F : mo_Fn} {OL : Nat → List od_q} (h : cl_R B C S F OL) {x1 x2 x3 x4 x5 : Int32} (hP12 : sp_P S < 12) (b1 : sp_in x1 0 2 = true) (b2 : sp_in x2 0 100000 = true) (b3 : sp_in x3 0 1000 = true) (b4 : sp_in x4 2 64 = true) (b5 : sp_in x5 1 100 = true) : cl_R B (cx_newP C x1 x2 x3 x4 x5) (mo_up (mo_up (mo_up (mo_up (mo_up (mo_up (mo_up (mo_up (mo_up (mo_up S 0 0 0) 3 (sp_P S) x1) 4 (sp_P S) x2) 5 (sp_P S) x3) 6 (sp_P S) x4) 7 (sp_P S) x5) 17 (sp_P S) (-1)) 19 (sp_P S) (-1)) 20 (sp_P S) (-1)) 1 0 (nI (sp_P S + 1))) F OL := by
  have h0 := h.u0 (v := 0)
  generalize hZ : mo_up S 0 0 0 = Z at h0
  have z1 : ∀ k, k ≠ 0 → Z.1 k = S.1 k := fun k hk => by rw [← hZ]; exact mo_up_ne hk
  have sP : sp_P C = sp_P S := h.1.sz.1
  have zP : sp_P Z = sp_P S := congrArg Int32.toNatClampNeg (congrFun (z1 1 (by decide)) 0)
  have n : ∀ k, k ∉ [1, 3, 4, 5, 6, 7, 17, 19, 20] → (mo_up (mo_up (mo_up (mo_up (mo_up (mo_up (mo_up (mo_up (mo_up Z 3 (sp_P S) x1) 4 (sp_P S) x2) 5 (sp_P S) x3) 6 (sp_P S) x4) 7 (sp_P S) x5) 17 (sp_P S) (-1)) 19 (sp_P S) (-1)) 20 (sp_P S) (-1)) 1 0 (nI (sp_P S + 1))).1 k = Z.1 k := fun k hk => by
    simp only [List.mem_cons, List.mem_nil_iff, or_false, not_or] at hk
    rw [mo_up_ne (by omega), mo_up_ne (by omega), mo_up_ne (by omega), mo_up_ne (by omega), mo_up_ne (by omega), mo_up_ne (by omega), mo_up_ne (by omega), mo_up_ne (by omega), mo_up_ne (by omega)]
  have e1 : (mo_up (mo_up (mo_up (mo_up (mo_up (mo_up (mo_up (mo_up (mo_up Z 3 (sp_P S) x1) 4 (sp_P S) x2) 5 (sp_P S) x3) 6 (sp_P S) x4) 7 (sp_P S) x5) 17 (sp_P S) (-1)) 19 (sp_P S) (-1)) 20 (sp_P S) (-1)) 1 0 (nI (sp_P S + 1))).1 1 0 = nI (sp_P S + 1) := by rw [mo_up_at, pk_us]
  have eP : sp_P (mo_up (mo_up (mo_up (mo_up (mo_up (mo_up (mo_up (mo_up (mo_up Z 3 (sp_P S) x1) 4 (sp_P S) x2) 5 (sp_P S) x3) 6 (sp_P S) x4) 7 (sp_P S) x5) 17 (sp_P S) (-1)) 19 (sp_P S) (-1)) 20 (sp_P S) (-1)) 1 0 (nI (sp_P S + 1))) = sp_P S + 1 := (congrArg Int32.toNatClampNeg e1).trans (nI_clamp (by omega))
  obtain ⟨⟨h1, h2, h3, h4, h5, h6, h7⟩, hO, hK⟩ := h0
  have hz := hK.1.2.1
  have up0 : ∀ {f : Nat → Int32} {p : Nat}, f p = 0 → upd f p 0 = f := fun {f p} hf => by
    funext x
    by_cases q : x = p
    · rw [q, pk_us, hf]
    · rw [pk_un q]
  refine ⟨⟨fun k hk => ?_, fun q => ?_, fun q j hq hj => ?_, fun j hj => ?_, ?_, fun m q x hm hq hx => ?_, fun a ha => ?_⟩, hO.cg (fun k hk => cx_newP_o (by simp only [List.mem_cons, List.mem_nil_iff, or_false, not_or]; omega)) (fun k hk => n k (by simp only [List.mem_cons, List.mem_nil_iff, or_false, not_or]; omega)), ?_⟩
  · simp only [cl_K, List.mem_cons, List.mem_nil_iff, or_false] at hk
    rcases hk with rfl | rfl | rfl | rfl | rfl | rfl | rfl | rfl | rfl | rfl | rfl | rfl | rfl | rfl | rfl | rfl | rfl | rfl | rfl | rfl | rfl | rfl | rfl | rfl | rfl | rfl | rfl | rfl | rfl | rfl | rfl | rfl | rfl | rfl | rfl | rfl | rfl | rfl | rfl | rfl | rfl | rfl
    · rw [cx_newP_u1, mo_up_at, mo_up_ne (by decide), mo_up_ne (by decide), mo_up_ne (by decide), mo_up_ne (by decide), mo_up_ne (by decide), mo_up_ne (by decide), mo_up_ne (by decide), mo_up_ne (by decide), sP, h1 1 (by decide)]
    · rw [cx_newP_o (by decide), n 2 (by decide)]; exact h1 2 (by decide)
    · rw [cx_newP_u3, mo_up_ne (by decide), mo_up_ne (by decide), mo_up_ne (by decide), mo_up_ne (by decide), mo_up_ne (by decide), mo_up_ne (by decide), mo_up_ne (by decide), mo_up_ne (by decide), mo_up_at, sP, h1 3 (by decide)]
    · rw [cx_newP_u4, mo_up_ne (by decide), mo_up_ne (by decide), mo_up_ne (by decide), mo_up_ne (by decide), mo_up_ne (by decide), mo_up_ne (by decide), mo_up_ne (by decide), mo_up_at, mo_up_ne (by decide), sP, h1 4 (by decide)]
    · rw [cx_newP_u5, mo_up_ne (by decide), mo_up_ne (by decide), mo_up_ne (by decide), mo_up_ne (by decide), mo_up_ne (by decide), mo_up_ne (by decide), mo_up_at, mo_up_ne (by decide), mo_up_ne (by decide), sP, h1 5 (by decide)]
    · rw [cx_newP_u6, mo_up_ne (by decide), mo_up_ne (by decide), mo_up_ne (by decide), mo_up_ne (by decide), mo_up_ne (by decide), mo_up_at, mo_up_ne (by decide), mo_up_ne (by decide), mo_up_ne (by decide), sP, h1 6 (by decide)]
    · rw [cx_newP_u7, mo_up_ne (by decide), mo_up_ne (by decide), mo_up_ne (by decide), mo_up_ne (by decide), mo_up_at, mo_up_ne (by decide), mo_up_ne (by decide), mo_up_ne (by decide), mo_up_ne (by decide), sP, h1 7 (by decide)]
    · rw [cx_newP_u8, n 8 (by decide), sP, h1 8 (by decide)]; exact up0 (hz.1 (sp_P S) (by rw [zP]; exact Nat.le_refl _)).1
    · rw [cx_newP_u9, n 9 (by decide), sP, h1 9 (by decide)]; exact up0 (hz.1 (sp_P S) (by rw [zP]; exact Nat.le_refl _)).2.1
    · rw [cx_newP_u10, n 10 (by decide), sP, h1 10 (by decide)]; exact up0 (hz.1 (sp_P S) (by rw [zP]; exact Nat.le_refl _)).2.2.1
    · rw [cx_newP_u11, n 11 (by decide), sP, h1 11 (by decide)]; exact up0 (hz.1 (sp_P S) (by rw [zP]; exact Nat.le_refl _)).2.2.2.1
    · rw [cx_newP_u12, n 12 (by decide), sP, h1 12 (by decide)]; exact up0 (hz.1 (sp_P S) (by rw [zP]; exact Nat.le_refl _)).2.2.2.2.1
    · rw [cx_newP_u13, n 13 (by decide), sP, h1 13 (by decide)]; exact up0 (hz.1 (sp_P S) (by rw [zP]; exact Nat.le_refl _)).2.2.2.2.2.1
    · rw [cx_newP_u16, n 16 (by decide), sP, h1 16 (by decide)]; exact up0 (hz.1 (sp_P S) (by rw [zP]; exact Nat.le_refl _)).2.2.2.2.2.2.2.2.1
    · rw [cx_newP_u17, mo_up_ne (by decide), mo_up_ne (by decide), mo_up_ne (by decide), mo_up_at, mo_up_ne (by decide), mo_up_ne (by decide), mo_up_ne (by decide), mo_up_ne (by decide), mo_up_ne (by decide), sP, h1 17 (by decide)]
    · rw [cx_newP_u18, n 18 (by decide), sP, h1 18 (by decide)]; exact up0 (hz.1 (sp_P S) (by rw [zP]; exact Nat.le_refl _)).2.2.2.2.2.2.2.2.2.1
    · rw [cx_newP_u19, mo_up_ne (by decide), mo_up_ne (by decide), mo_up_at, mo_up_ne (by decide), mo_up_ne (by decide), mo_up_ne (by decide), mo_up_ne (by decide), mo_up_ne (by decide), mo_up_ne (by decide), sP, h1 19 (by decide)]
    · rw [cx_newP_u20, mo_up_ne (by decide), mo_up_at, mo_up_ne (by decide), mo_up_ne (by decide), mo_up_ne (by decide), mo_up_ne (by decide), mo_up_ne (by decide), mo_up_ne (by decide), mo_up_ne (by decide), sP, h1 20 (by decide)]
    · rw [cx_newP_o (by decide), n 21 (by decide)]; exact h1 21 (by decide)
    · rw [cx_newP_o (by decide), n 22 (by decide)]; exact h1 22 (by decide)
    · rw [cx_newP_o (by decide), n 23 (by decide)]; exact h1 23 (by decide)
    · rw [cx_newP_o (by decide), n 24 (by decide)]; exact h1 24 (by decide)
    · rw [cx_newP_o (by decide), n 25 (by decide)]; exact h1 25 (by decide)
    · rw [cx_newP_u26 (fun j hj => by rw [h1 26 (by decide), sP]; exact hz.2.1 j (sp_P S) hP12 (Or.inr (by rw [zP]; exact Nat.le_refl _))), n 26 (by decide)]; exact h1 26 (by decide)
    · rw [cx_newP_o (by decide), n 28 (by decide)]; exact h1 28 (by decide)
    · rw [cx_newP_o (by decide), n 29 (by decide)]; exact h1 29 (by decide)
    · rw [cx_newP_o (by decide), n 33 (by decide)]; exact h1 33 (by decide)
    · rw [cx_newP_u58 (fun j hj => by rw [h1 58 (by decide), sP]; exact hz.2.2 (sp_P S) j hP12 hj (Or.inl (by rw [zP]; exact Nat.le_refl _))), n 58 (by decide)]; exact h1 58 (by decide)
    · rw [cx_newP_u59, n 59 (by decide), sP, h1 59 (by decide)]; exact up0 (hz.1 (sp_P S) (by rw [zP]; exact Nat.le_refl _)).2.2.2.2.2.2.2.2.2.2
    · rw [cx_newP_u60 (fun j hj => by rw [h1 60 (by decide), sP]; exact (h3 (sp_P S) j (by rw [zP]; exact Nat.le_refl _) hj).1), n 60 (by decide)]; exact h1 60 (by decide)
    · rw [cx_newP_u61 (fun j hj => by rw [h1 61 (by decide), sP]; exact (h3 (sp_P S) j (by rw [zP]; exact Nat.le_refl _) hj).2), n 61 (by decide)]; exact h1 61 (by decide)
    · rw [cx_newP_o (by decide), n 62 (by decide)]; exact h1 62 (by decide)
    · rw [cx_newP_o (by decide), n 63 (by decide)]; exact h1 63 (by decide)
    · rw [cx_newP_o (by decide), n 64 (by decide)]; exact h1 64 (by decide)
    · rw [cx_newP_o (by decide), n 65 (by decide)]; exact h1 65 (by decide)
    · rw [cx_newP_o (by decide), n 66 (by decide)]; exact h1 66 (by decide)
    · rw [cx_newP_o (by decide), n 68 (by decide)]; exact h1 68 (by decide)
    · rw [cx_newP_o (by decide), n 73 (by decide)]; exact h1 73 (by decide)
    · rw [cx_newP_o (by decide), n 74 (by decide)]; exact h1 74 (by decide)
    · rw [cx_newP_o (by decide), n 75 (by decide)]; exact h1 75 (by decide)
    · rw [cx_newP_o (by decide), n 76 (by decide)]; exact h1 76 (by decide)
    · rw [cx_newP_o (by decide), n 77 (by decide)]; exact h1 77 (by decide)
  · rw [cx_newP_u14, cx_newP_u15, n 12 (by decide), n 14 (by decide), n 15 (by decide), sP]
    by_cases e : q = sp_P S
    · have hq := hz.1 (sp_P S) (by rw [zP]; exact Nat.le_refl _)
      rw [e, pk_us, pk_us]
      exact ⟨fun _ => ⟨hq.2.2.2.2.2.2.1.symm, hq.2.2.2.2.2.2.2.1.symm⟩, ⟨0, rfl, by decide⟩, ⟨0, rfl, by decide⟩⟩
    · rw [pk_un e, pk_un e]; exact h2 q
  · rw [eP] at hq
    rw [n 60 (by decide), n 61 (by decide)]; exact h3 q j (by rw [zP]; omega) hj
  · rw [cx_newP_o (by decide), show ps_tx (mo_up (mo_up (mo_up (mo_up (mo_up (mo_up (mo_up (mo_up (mo_up Z 3 (sp_P S) x1) 4 (sp_P S) x2) 5 (sp_P S) x3) 6 (sp_P S) x4) 7 (sp_P S) x5) 17 (sp_P S) (-1)) 19 (sp_P S) (-1)) 20 (sp_P S) (-1)) 1 0 (nI (sp_P S + 1))) = ps_tx Z by funext y; unfold ps_tx; rw [n 27 (by decide)]]; exact h4 j hj
  · rw [cx_newP_o (by decide), cx_newP_o (by decide), n 2 (by decide)]; exact h5
  · unfold cl_row; rw [cx_newP_o (by decide), n 56 (by decide), n 55 (by decide)]
    exact h6 m q x (by unfold sp_M at hm ⊢; rw [n 2 (by decide)] at hm; exact hm) hq hx
  · have hA : a < sp_A Z := by unfold sp_A at ha ⊢; rw [n 62 (by decide)] at ha; exact ha
    have h63 := hK.1.2.2.1.2.1 a hA
    rw [zP] at h63
    have r63 : (0 : Int) ≤ (Z.1 63 a).toInt := (hK.1.1.1 63 a (by decide)).1
    rw [n 67 (by decide), n 63 (by decide), mo_up_ne (by decide), mo_up_ne (by decide), mo_up_ne (by decide), mo_up_ne (by decide), mo_up_ne (by decide), mo_up_ne (by decide), mo_up_ne (by decide), mo_up_ne (by decide), mo_up_at, pk_un (by show (Z.1 63 a).toInt.toNat ≠ _; omega)]
    exact h7 a hA
  · exact hK.paper0 (by rw [zP]; exact hP12) b1 b2 b3 b4 b5 n (by rw [zP, mo_up_ne (by decide), mo_up_ne (by decide), mo_up_ne (by decide), mo_up_ne (by decide), mo_up_ne (by decide), mo_up_ne (by decide), mo_up_ne (by decide), mo_up_ne (by decide), mo_up_at]) (by rw [zP, mo_up_ne (by decide), mo_up_ne (by decide), mo_up_ne (by decide), mo_up_ne (by decide), mo_up_ne (by decide), mo_up_ne (by decide), mo_up_ne (by decide), mo_up_at, mo_up_ne (by decide)]) (by rw [zP, mo_up_ne (by decide), mo_up_ne (by decide), mo_up_ne (by decide), mo_up_ne (by decide), mo_up_ne (by decide), mo_up_ne (by decide), mo_up_at, mo_up_ne (by decide), mo_up_ne (by decide)]) (by rw [zP, mo_up_ne (by decide), mo_up_ne (by decide), mo_up_ne (by decide), mo_up_ne (by decide), mo_up_ne (by decide), mo_up_at, mo_up_ne (by decide), mo_up_ne (by decide), mo_up_ne (by decide)]) (by rw [zP, mo_up_ne (by decide), mo_up_ne (by decide), mo_up_ne (by decide), mo_up_ne (by decide), mo_up_at, mo_up_ne (by decide), mo_up_ne (by decide), mo_up_ne (by decide), mo_up_ne (by decide)]) (by rw [zP, mo_up_at, mo_up_ne (by decide), mo_up_ne (by decide), mo_up_ne (by decide), mo_up_ne (by decide), mo_up_ne (by decide), mo_up_ne (by decide), mo_up_ne (by decide), mo_up_ne (by decide)])
theorem cl_paper {B : Int} {C S : mo_S} {F : mo_Fn} {OL : Nat → List od_q} (h : cl_R B C S F OL) (x1 x2 x3 x4 x5 : Int32) : cl_st B [cl_IA, cl_IS] (cx_X11_paper C x1 x2 x3 x4 x5) (sp_X12_paper S x1 x2 x3 x4 x5) := by
  unfold cx_X11_paper sp_X12_paper
  rw [h.1.sz.1, h.1.k 1 (by decide)]
  simp only [cx_within_in]
  have hP := h.J.P
  have bad : ∀ (Z : mo_S) (e : String) (r : Int32), e = cl_IA → cl_R B C Z F OL → cl_st B [cl_IA, cl_IS] (.inl e, C) (r, mo_up Z 0 0 1) := fun Z e r he hZ => by
    subst he
    exact cl_st.E0 rfl hZ
  have h0 := h.u0 (v := 0)
  cases b1 : sp_in x1 0 2
  · simp only [mo_b_t, mo_b_f, cl_10, eq_self, Bool.false_eq_true, Bool.not_true, Bool.not_false, if_true, if_false, cl_bt, cl_bf, Bool.true_and, Bool.false_and]
    exact bad _ _ _ rfl h0
  · cases b2 : sp_in x2 0 100000
    · simp only [mo_b_t, mo_b_f, cl_10, eq_self, Bool.false_eq_true, Bool.not_true, Bool.not_false, if_true, if_false, cl_bt, cl_bf, Bool.true_and, Bool.false_and]
      exact bad _ _ _ rfl h0
    · cases b3 : sp_in x3 0 1000
      · simp only [mo_b_t, mo_b_f, cl_10, eq_self, Bool.false_eq_true, Bool.not_true, Bool.not_false, if_true, if_false, cl_bt, cl_bf, Bool.true_and, Bool.false_and]
        exact bad _ _ _ rfl h0
      · cases b4 : sp_in x4 2 64
        · simp only [mo_b_t, mo_b_f, cl_10, eq_self, Bool.false_eq_true, Bool.not_true, Bool.not_false, if_true, if_false, cl_bt, cl_bf, Bool.true_and, Bool.false_and]
          exact bad _ _ _ rfl h0
        · cases b5 : sp_in x5 1 100
          · simp only [mo_b_t, mo_b_f, cl_10, eq_self, Bool.false_eq_true, Bool.not_true, Bool.not_false, if_true, if_false, cl_bt, cl_bf, Bool.true_and, Bool.false_and]
            exact bad _ _ _ rfl h0
          · by_cases c : S.1 1 0 = 12
            · have c2 : ¬ S.1 1 0 < 12 := by rw [c]; decide
              simp only [if_neg c2, if_pos c, mo_b_t, mo_b_f, cl_10, eq_self, Bool.false_eq_true, Bool.not_true, Bool.not_false, if_true, if_false, cl_bt, cl_bf, Bool.true_and, Bool.false_and]
              exact cl_st.E1 rfl h0
            · have hlt : sp_P S < 12 := by
                rcases Nat.lt_or_ge (sp_P S) 12 with q | q
                · exact q
                · exact absurd (by rw [hP.1, show sp_P S = 12 by omega]; rfl) c
              have c2 : S.1 1 0 < 12 := by rw [hP.1]; exact nI_lt (b := 12) hlt (by decide)
              simp only [if_pos c2, if_neg c, mo_b_t, mo_b_f, cl_10, eq_self, Bool.false_eq_true, Bool.not_true, Bool.not_false, if_true, if_false, cl_bt, cl_bf, Bool.true_and, Bool.false_and]
              rw [hP.1, nI_clamp (by omega), show nI (sp_P S) + 1 = nI (sp_P S + 1) from nI_1 _]
              exact cl_st.ok (F := F) (OL := OL) (by rw [mo_up_ne (by decide), mo_up_ne (by decide), mo_up_ne (by decide), mo_up_ne (by decide), mo_up_ne (by decide), mo_up_ne (by decide), mo_up_ne (by decide), mo_up_ne (by decide), mo_up_ne (by decide), mo_up_at, pk_us]) ((cl_pap h hlt b1 b2 b3 b4 b5).le (by omega))
end DE
