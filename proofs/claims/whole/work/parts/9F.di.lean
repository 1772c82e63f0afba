section DI
/-- the class' weights -/
def cl_w (C : mo_S) (OL : Nat → List od_q) (b : Nat) (x : Int32) (p : Nat) : Nat := if cx_I C p = true then (cx_weight C (cl_Pf OL) b p x).toNatClampNeg else 0
def cl_c (C : mo_S) (p : Nat) : Nat := (C.1 15 p).toNatClampNeg
theorem cl_part_in (C : mo_S) (Pf : cx_Fn) (b p : Nat) : ∃ n : Nat, cx_part C Pf b p = nI n ∧ n ≤ 1000000 := by
  unfold cx_part
  rw [cl_bnd (by decide)]
  obtain ⟨f, -, f2, f3⟩ := sp_bounded_in (v := Pf b (cx_v C p (C.1 6 p) (C.1 2 0))) (a := 0) (b := 1000000) (by decide) (by decide)
  exact ⟨f, f3, f2⟩
/-- what a parting asks: of a state that is the class' but for size and state of papers -/
theorem cl_pH {C T S : mo_S} {F : mo_Fn} {OL : Nat → List od_q} (h : cl_Q C S F OL) (hT : ∀ k, k ∉ [4, 5, 10, 12] → T.1 k = C.1 k) (x : Int32) : cx_pH T (cl_Pf OL) (cl_Qf OL) (cl_w T OL (cx_now C) x) (cl_c C) (sp_f S) (sp_L S) (cx_now C) x := by
  obtain ⟨sP, sR, sO, -⟩ := h.1.sz
  have tP : sp_P T = sp_P C := sp_P_cg (hT 1 (by decide))
  have tR : sp_R T = sp_R C := sp_R_cg (hT 21 (by decide))
  have tO : sp_O T = sp_O C := sp_O_cg (hT 29 (by decide))
  refine ⟨h.cd.cg (hT 29 (by decide)) (hT 110 (by decide)) (hT 111 (by decide)) (hT 112 (by decide)) (hT 113 (by decide)) (hT 114 (by decide)), by rw [tO, sO]; exact h.nb, ⟨?_, Nat.le_trans h.J.L.2 (by decide)⟩, ⟨?_, Nat.le_trans h.J.f.2 (by decide)⟩, fun _ p hp => ?_, fun j _ => ?_, fun j _ => ?_⟩
  · rw [tR, sR, sp_pool_cg (hT 22 (by decide)) (hT 23 (by decide)), sp_pool_cg (h.1.k 22 (by decide)) (h.1.k 23 (by decide))]
    exact h.J.L.1
  · rw [hT 107 (by decide), show C.1 107 (cx_now C) = sp_X12_much S (nI 9) from h.vl (x := 9) (by omega) (by omega) (by omega)]
    exact h.J.f.1
  · unfold cl_w
    by_cases e : cx_I T p = true
    · rw [if_pos e, if_pos e]
      have q : ∃ n : Nat, cx_weight T (cl_Pf OL) (cx_now C) p x = nI n ∧ n ≤ 1000000 := by
        unfold cx_weight
        split
        · exact cl_part_in _ _ _ _
        · split
          · rw [hT 8 (by decide), h.1.k 8 (by decide)]
            obtain ⟨a, b⟩ := h.J.N (k := 8) p 1000 (by decide)
            exact ⟨_, a, Nat.le_trans b (by decide)⟩
          · exact ⟨1, rfl, by decide⟩
      obtain ⟨n, q1, q2⟩ := q
      rw [q1, nI_clamp (by omega)]
      exact ⟨rfl, q2⟩
    · rw [if_neg e, if_neg e]
      exact ⟨rfl, Nat.zero_le _⟩
  · obtain ⟨a, e, ha⟩ := (h.1.2.1 j).2.2
    unfold cl_c
    rw [hT 15 (by decide), e, nI_clamp (by omega)]
    exact ⟨rfl, ha⟩
  · obtain ⟨a, e, ha⟩ := (h.1.2.1 j).2.1
    exact ⟨a, by rw [hT 14 (by decide)]; exact e, by omega⟩
section R
variable {C S : mo_S} {F : mo_Fn} {OL : Nat → List od_q}
theorem cl_Q.I (h : cl_Q C S F OL) {p : Nat} (hp : p < 2147483648) : cx_I C p = sp_I S p := by
  unfold cx_I sp_I sp_X12_isIn
  rw [nI_clamp hp, h.1.k 12 (by decide), h.2.2.2.1]
  by_cases e : S.1 12 p = 1
  · rw [if_pos e, if_neg (cj_ne (by omega) (by decide))]
    exact decide_eq_true e
  · rw [if_neg e]
    exact decide_eq_false e
theorem cl_Q.env (h : cl_Q C S F OL) {p : Nat} (hp : p < 2147483648) : sp_envW S (nI p) = sp_X12_means S (nI p) := by
  unfold sp_envW
  refine if_neg ?_
  unfold sp_X12_means
  rw [mo_up_ne (by decide), mo_up_ne (by decide), mo_up_ne (by decide), mo_up_ne (by decide), mo_up_ne (by decide), mo_up_ne (by decide), mo_up_ne (by decide), h.2.2.2.2]
  exact cj_ne (by omega) (by decide)
theorem cl_Q.wgt (h : cl_Q C S F OL) {p : Nat} (hp : p < 2147483648) {x : Int32} (hx : x = 0 ∨ 0 < x) : cx_weight C (cl_Pf OL) (cx_now C) p x = sp_weight S F (nI p) x := by
  unfold cx_weight sp_weight
  rw [nI_clamp hp, h.env hp]
  by_cases e : x = 0
  · rw [if_pos e, if_pos (by rw [e]; decide)]
    obtain ⟨m1, m2, m3, m4⟩ := h.means hp (S.1 6 p)
    rw [m4] at m1 m2 m3
    exact h.part m1 (by rw [h.1.k 6 (by decide)]; exact m2) m3
  · have hx := hx.resolve_left e
    rw [if_neg e, if_neg (Int32.not_le.mpr hx), h.1.k 8 (by decide)]
/-- the shares -/
theorem cl_Q.sh (h : cl_Q C S F OL) {p : Nat} (hp : p < sp_P S) {x : Int32} (hx : x = 0 ∨ 0 < x) : cx_sh C (cl_w C OL (cx_now C) x) (sp_f S) (sp_L S) (cx_now C) x p = sp_shN S F x p := by
  have hP := h.J.P.2
  unfold cx_sh sp_shN sp_sh
  rw [h.1.sz.1]
  by_cases e : x = 3
  · rw [if_pos e, if_pos e, pt_bA_c2 (fun q hq => ⟨h.I (by omega), fun hi => (h.1.2.1 q).1 (fun z => ?_)⟩)]
    unfold cx_I at hi
    rw [h.1.k 12 (by decide), z] at hi
    exact absurd hi (by decide)
  · rw [if_neg e, if_neg e, h.keep]
    have ek : decide ((1 : Int32) - sp_X12_much S 10 = 0) = decide (sp_X12_much S 10 = 1) := by
      by_cases z : sp_X12_much S 10 = 1
      · rw [z]; rfl
      · rw [decide_eq_false z]
        refine decide_eq_false (fun y => z ?_)
        have := congrArg (fun q => q + sp_X12_much S 10) y
        rw [Int32.sub_add_cancel, Int32.zero_add] at this
        exact this.symm
    rw [ek, pt_share_cg hp (fun j hj => h.I (p := j) (by omega)) (v := sp_w S F x) (fun j hj => ?_)]
    unfold cl_w sp_w
    rw [h.I (by omega), h.wgt (by omega) hx]
end R
theorem cl_partedq {B : Int} {C S : mo_S} {F : mo_Fn} {OL : Nat → List od_q} (h : cl_R B C S F OL) (x1 x2 : Int32) {r : Option Value} {S2 : mo_S} (hq : (r = some (.int 0) ∧ ∃ k : Int32, ((k = 1 ∧ sp_in x1 0 (S.1 1 0 - 1) = false) ∨ (k = 2 ∧ sp_in x1 0 (S.1 1 0 - 1) = true ∧ sp_in x2 (-1) 3 = false)) ∧ S2 = mo_up S 0 0 k) ∨ (sp_in x1 0 (S.1 1 0 - 1) = true ∧ sp_in x2 (-1) 3 = true ∧ (∃ p, x1 = nI p ∧ p < sp_P S ∧ sp_eqM S2 (mo_up S 0 0 0) ∧ r = some (.int (if S.1 12 p = 1 then sp_shN (mo_up S 0 0 0) F (sp_way (mo_up S 0 0 0) x2) p else 0))))) : ∃ v : Int32, r = some (.int v) ∧ cl_st B [cl_IO, cl_IA] (cx_X11_parted C (fun x => cl_w C OL (cx_now C) x) (sp_f (mo_up S 0 0 0)) (sp_L (mo_up S 0 0 0)) x1 x2) (v, S2) := by
  unfold cx_X11_parted cx_X5_isAdmitted
  rw [h.1.k 1 (by decide), h.1.k 12 (by decide)]
  simp only [cx_within_in]
  have e13 : sp_in x2 (-1) 3 = if x2 = -1 then true else sp_in x2 0 3 := by
    by_cases e : x2 = -1
    · rw [if_pos e, e]; rfl
    · rw [if_neg e]
      unfold sp_in
      have q : (-1 ≤ x2) ↔ 0 ≤ x2 := by
        rw [Int32.le_iff_toInt_le, Int32.le_iff_toInt_le]
        have n1 : x2.toInt ≠ (-1 : Int) := fun z => e (Int32.toInt_inj.mp z)
        show (-1 : Int) ≤ _ ↔ (0 : Int) ≤ _
        omega
      simp only [q]
  rw [e13] at hq
  rcases hq with ⟨e, k, hk, rfl⟩ | ⟨a, b, p, rfl, hp, hM, e⟩
  · refine ⟨0, e, ?_⟩
    rcases hk with ⟨rfl, a⟩ | ⟨rfl, a, b⟩
    · simp only [a, mo_b_t, mo_b_f, cl_10, eq_self, Bool.false_eq_true, Bool.not_true, Bool.not_false, if_true, if_false, cl_bt, cl_bf, Bool.true_and, Bool.false_and]
      exact cl_st.E0 rfl h
    · by_cases z : x2 = -1
      · rw [if_pos z] at b; cases b
      · rw [if_neg z] at b
        simp only [a, b, z, mo_b_t, mo_b_f, cl_10, eq_self, Bool.false_eq_true, Bool.not_true, Bool.not_false, if_true, if_false, cl_bt, cl_bf, Bool.true_and, Bool.false_and]
        exact cl_st.E1 rfl h
  · refine ⟨_, e, ?_⟩
    have hP := h.J.P.2
    have h0 := h.u0 (v := 0)
    have hS2 : ∀ v : Int32, cl_st B [cl_IO, cl_IA] (.inr v, C) (v, S2) := fun v => by
      have hh := h0.s (T := S2) (fun k hk => hM k (by omega))
      refine cl_st.ok (F := F) (OL := OL) ?_ (hh.le (by omega))
      rw [hM 0 (by omega), mo_up_at, pk_us]
    have zP : sp_P (mo_up S 0 0 0) = sp_P S := kl_P (by decide)
    have ok : (mo_b (if x2 = -1 then true else (if (mo_b (sp_in x2 0 3)) = 0 then false else true))) = 1 := by
      by_cases z : x2 = -1
      · rw [if_pos z]; rfl
      · rw [if_neg z] at b
        rw [if_neg z, b]; rfl
    have ew : (if x2 = -1 then C.1 109 (cx_now C) else x2) = sp_way (mo_up S 0 0 0) x2 ∧ ((if x2 = -1 then C.1 109 (cx_now C) else x2) = 0 ∨ 0 < (if x2 = -1 then C.1 109 (cx_now C) else x2)) := by
      unfold sp_way
      have e109 : C.1 109 (cx_now C) = sp_X12_much (mo_up S 0 0 0) 11 := h0.vl (x := 11) (by omega) (by omega) (by omega)
      obtain ⟨f, f3, ef⟩ := h0.J.way
      by_cases z : x2 = -1
      · rw [if_pos z, z, if_neg (by decide), e109, ef]
        refine ⟨rfl, ?_⟩
        by_cases f0 : f = 0
        · exact Or.inl (by rw [f0]; rfl)
        · exact Or.inr (nI_lt (a := 0) (by omega) (by omega))
      · rw [if_neg z] at b
        have i0 := (of_decide_eq_true b).1
        rw [if_neg z, if_pos i0]
        refine ⟨rfl, ?_⟩
        by_cases y : x2 = 0
        · exact Or.inl y
        · refine Or.inr (Int32.lt_iff_toInt_lt.mpr ?_)
          have i1 := Int32.le_iff_toInt_le.mp i0
          have y1 : x2.toInt ≠ (0 : Int) := fun q => y (Int32.toInt_inj.mp q)
          have i2 : (0 : Int) ≤ x2.toInt := i1
          show (0 : Int) < _
          omega
    simp only [ok]
    simp only [a, mo_b_t, mo_b_f, cl_10, eq_self, Bool.false_eq_true, Bool.not_true, Bool.not_false, if_true, if_false, cl_bt, cl_bf, Bool.true_and, Bool.false_and]
    rw [nI_clamp (by omega)]
    by_cases c : S.1 12 p = 1
    · simp only [c, eq_self, if_true, mo_b_t, cl_10, if_false]
      rw [h0.q.sh (by rw [zP]; exact hp) ew.2, ew.1]
      exact hS2 _
    · simp only [c, if_false, mo_b_f, eq_self, if_true]
      exact hS2 _
end DI
