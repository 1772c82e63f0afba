section DN
def cl_bk (C : mo_S) (p : Nat) : Nat := (C.1 10 p + cj_max (C.1 11 p) 0).toNatClampNeg
def cl_bm (C : mo_S) (p : Nat) : Nat := (cx_X4_pagesFor C (cx_now C) (C.1 3 p).toNatClampNeg).toNatClampNeg
theorem cj_max0 (x : Int32) : cj_max x 0 = if x ≤ 0 then 0 else x := by
  unfold cj_max
  by_cases e : x ≤ 0
  · rw [if_pos e]
    split
    · rfl
    · rename_i c
      exact Int32.le_antisymm e (Int32.not_lt.mp c)
  · rw [if_neg e]
    split
    · rename_i c
      exact absurd (Int32.le_of_lt c) e
    · rfl
/-- stock and right together -/
theorem mo_K.have_ {S : mo_S} {F : mo_Fn} {B : Int} (h : mo_K B S F) (hB : B ≤ 8000000) {p : Nat} (hp : p < 12) : ∃ k : Nat, sp_have S p = nI k ∧ k ≤ 200000000 := by
  have hI := h.1.2.2.2
  have nn := hI.1
  have hM := h.1.1.M.2
  have b1 := hI.2.1
  have b2 := hI.2.2
  have pl := mo_pl_nn h.1.1 (sp_R S)
  have n11 : ∀ i, (0 : Int) ≤ ((fun p => ((S.1 11 p).toInt.natAbs : Int)) i) := fun i => by show (0 : Int) ≤ ((S.1 11 i).toInt.natAbs : Int); omega
  have key : ∀ q, q < 12 → p ≠ q → (S.1 10 p).toInt ≤ 8000000 ∧ (S.1 11 p).toInt ≤ 192000000 := fun q hq hpq => by
    have pr := mo_sum_pr (g := fun p => (S.1 10 p).toInt) (p := p) (q := q) (n := 12) hp hq hpq nn
    have pr11 := mo_sum_pr (g := fun p => ((S.1 11 p).toInt.natAbs : Int)) (p := p) (q := q) (n := 12) hp hq hpq n11
    have := nn q
    try dsimp only at pr pr11
    omega
  have a : (S.1 10 p).toInt ≤ 8000000 ∧ (S.1 11 p).toInt ≤ 192000000 := by
    by_cases e : p = 0
    · exact key 1 (by decide) (by omega)
    · exact key 0 (by decide) e
  have np := nn p
  unfold sp_have
  refine ⟨(S.1 10 p + if S.1 11 p ≤ 0 then 0 else S.1 11 p).toInt.toNat, ?_, ?_⟩
  all_goals
    by_cases c : S.1 11 p ≤ 0
    · rw [if_pos c, Int32.add_zero]
      first
        | (refine Int32.toInt_inj.mp ?_; rw [nI_toInt (by omega)]; omega)
        | omega
    · rw [if_neg c]
      have c2 := Int32.lt_iff_toInt_lt.mp (Int32.not_le.mp c)
      have c2 : (0 : Int) < (S.1 11 p).toInt := c2
      have e : (S.1 10 p + S.1 11 p).toInt = (S.1 10 p).toInt + (S.1 11 p).toInt := by
        rw [Int32.toInt_add, Int.bmod_eq_of_le (by omega) (by omega)]
      first
        | (refine Int32.toInt_inj.mp ?_; rw [nI_toInt (by rw [e]; omega), e]; omega)
        | (rw [e]; omega)
section R
variable {C S : mo_S} {F : mo_Fn} {OL : Nat → List od_q}
/-- how many are printed and what they are worth -/
def cl_bK (C : mo_S) (p k i : Nat) (v : Int32) : Int32 := cj_min (sp_demand C p v (sp_W C)) (nI ((10 * k + 9) / (3 * (2 * i + 2))))
theorem cl_Q.tc (h : cl_Q C S F OL) {p k i : Nat} (hk : k ≤ 200000000) (hi : i < 1000) (v : Int32) : sp_tc S p (nI k) (nI (2 * i + 2)) v = cl_bK C p k i v := by
  unfold sp_tc sp_X12_printable cl_bK cj_min
  rw [h.1.sz.2.2.2.2.2.1, sp_demand_cg (h.1.k 25 (by decide)) (h.1.k 26 (by decide)), show (10 : Int32) * nI k + 9 = nI (10 * k + 9) by rw [show (10 : Int32) = nI 10 from rfl, show (9 : Int32) = nI 9 from rfl, pk_mul, nI_add], show (3 : Int32) * nI (2 * i + 2) = nI (3 * (2 * i + 2)) by rw [show (3 : Int32) = nI 3 from rfl, pk_mul], pk_div (by omega) (by omega) (by omega)]
  generalize sp_demand S p v (sp_W S) = d
  generalize nI ((10 * k + 9) / (3 * (2 * i + 2))) = x
  by_cases e : x < d
  · rw [if_pos e, if_pos (Int32.le_of_lt e)]
  · rw [if_neg e]
    by_cases c : x ≤ d
    · rw [if_pos c]
      exact Int32.le_antisymm c (Int32.not_lt.mp e)
    · rw [if_neg c]
theorem cl_Q.prg (h : cl_Q C S F OL) {p : Nat} (hp : p < 2147483648) (g : Int32) : sp_prg S F p g = cx_price C (cl_Qf OL) (cx_now C) p g := by
  obtain ⟨m1, m2, -, -⟩ := h.means hp g
  exact (h.prc m1 m2).symm
/-- prices are free -/
theorem cl_f2i {p k j : Nat} {T : mo_S} : ∀ n, bs_q (cx_f2i C p k (nI (j + 1)) T n) = bs_f2i (fun i j => cl_bK C p k i (nI (j + 1))) (fun i j => bs_w (cl_bK C p k i (nI (j + 1))) (nI (j + 1)) (nI (2 * i + 2))) j (bs_q T) n
  | 0 => rfl
  | n + 1 => by
    simp only [cx_f2i, bs_f2i]
    rw [bs_q_con, cl_f2i n]
    rfl
theorem cl_f2 {p k N : Nat} : ∀ n, bs_q (cx_f2 C p k N n) = bs_f2 (fun i j => cl_bK C p k i (nI (j + 1))) (fun i j => bs_w (cl_bK C p k i (nI (j + 1))) (nI (j + 1)) (nI (2 * i + 2))) N (bs_q (cx_X3_clear C)) n
  | 0 => rfl
  | n + 1 => by
    simp only [cx_f2, bs_f2]
    rw [cl_f2i, cl_f2 n]
theorem cl_Q.trv (h : cl_Q C S F OL) {p k i : Nat} (hk : k ≤ 200000000) (hi : i < 1000) {q : sp_Q4} : ∀ n, sp_trv S p (nI k) (nI (2 * i + 2)) q n = bs_gi (fun i j => cl_bK C p k i (nI (j + 1))) (fun i j => bs_w (cl_bK C p k i (nI (j + 1))) (nI (j + 1)) (nI (2 * i + 2))) i q n
  | 0 => rfl
  | n + 1 => by
    simp only [sp_trv, bs_gi]
    rw [h.trv hk hi n]
    unfold sp_try sp_tw bs_try bs_c bs_w
    rw [h.tc hk hi]
theorem cl_Q.trg (h : cl_Q C S F OL) {p k : Nat} (hp : p < 2147483648) (hk : k ≤ 200000000) (h110 : C.1 110 (cx_now C) = 0) : ∀ n, n ≤ 1000 → sp_trg S F p (nI k) n = bs_g (fun i j => cl_bK C p k i (nI (j + 1))) (fun i j => bs_w (cl_bK C p k i (nI (j + 1))) (nI (j + 1)) (nI (2 * i + 2))) n
  | 0, _ => rfl
  | n + 1, hn => by
    simp only [sp_trg, bs_g]
    rw [h.prg hp, show cx_price C (cl_Qf OL) (cx_now C) p (nI (2 * n + 2)) = -1 by unfold cx_price; rw [if_pos h110], if_pos (by decide), h.trg hp hk h110 n (by omega), h.trv hk (by omega)]
/-- they are told -/
theorem cl_Q.f1 (h : cl_Q C S F OL) {p k : Nat} (hp : p < 2147483648) (hk : k ≤ 200000000) (h110 : ¬ C.1 110 (cx_now C) = 0) : ∀ n, n ≤ 100 → (n = 0 ∨ bs_q (cx_f1 C (cl_Qf OL) (cx_now C) p k n) = sp_trg S F p (nI k) n) ∧ ((n = 0 ∧ (bs_q (cx_f1 C (cl_Qf OL) (cx_now C) p k n)).1 = 0) ∨ ∃ i, i < n ∧ (bs_q (cx_f1 C (cl_Qf OL) (cx_now C) p k n)).1 = nI (2 * i + 2))
  | 0, _ => ⟨Or.inl rfl, Or.inl ⟨rfl, bs_q_clear⟩⟩
  | n + 1, hn => by
    obtain ⟨i1, i2⟩ := h.f1 hp hk h110 n (by omega)
    have epr := h.prg (p := p) hp (nI (2 * n + 2))
    have hpr : ¬ sp_prg S F p (nI (2 * n + 2)) < 0 := by
      rw [epr]
      unfold cx_price
      rw [if_neg h110, cl_bnd (by decide)]
      obtain ⟨f, -, f2, f3⟩ := sp_bounded_in (v := cl_Qf OL (cx_now C) (cx_v C p (nI (2 * n + 2)) (C.1 2 0))) (a := 1) (b := 100) (by decide) (by decide)
      rw [show sp_X12_bounded _ 1 100 = nI f from f3]
      exact nI_pos (by omega)
    simp only [cx_f1, sp_trg]
    rw [if_neg hpr, bs_q_con, ← epr]
    have er : sp_try S p (nI k) (nI (2 * n + 2)) (sp_prg S F p (nI (2 * n + 2))) (sp_trg S F p (nI k) n) = bs_try (sp_trg S F p (nI k) n) (nI (2 * n + 2), sp_prg S F p (nI (2 * n + 2)), cl_bK C p k n (sp_prg S F p (nI (2 * n + 2))), bs_w (cl_bK C p k n (sp_prg S F p (nI (2 * n + 2)))) (sp_prg S F p (nI (2 * n + 2))) (nI (2 * n + 2))) := by
      unfold sp_try sp_tw bs_try bs_w
      rw [h.tc hk (by omega)]
    rw [er]
    show (_ ∨ bs_con (bs_q (cx_f1 C (cl_Qf OL) (cx_now C) p k n)) (nI (2 * n + 2), sp_prg S F p (nI (2 * n + 2)), cl_bK C p k n (sp_prg S F p (nI (2 * n + 2))), bs_w (cl_bK C p k n (sp_prg S F p (nI (2 * n + 2)))) (sp_prg S F p (nI (2 * n + 2))) (nI (2 * n + 2))) = _) ∧ (_ ∨ ∃ i, i < n + 1 ∧ (bs_con (bs_q (cx_f1 C (cl_Qf OL) (cx_now C) p k n)) (nI (2 * n + 2), sp_prg S F p (nI (2 * n + 2)), cl_bK C p k n (sp_prg S F p (nI (2 * n + 2))), bs_w (cl_bK C p k n (sp_prg S F p (nI (2 * n + 2)))) (sp_prg S F p (nI (2 * n + 2))) (nI (2 * n + 2)))).1 = nI (2 * i + 2))
    generalize sp_prg S F p (nI (2 * n + 2)) = v
    generalize cl_bK C p k n v = c
    generalize bs_w c v (nI (2 * n + 2)) = x
    rcases i2 with ⟨rfl, i2⟩ | ⟨i, hi, i2⟩
    · have e1 : bs_con (bs_q (cx_f1 C (cl_Qf OL) (cx_now C) p k 0)) (nI (2 * 0 + 2), v, c, x) = (nI (2 * 0 + 2), v, c, x) := by unfold bs_con; rw [if_pos i2]
      rw [e1]
      exact ⟨Or.inr rfl, Or.inr ⟨0, by omega, rfl⟩⟩
    · have i1 := i1.resolve_left (by omega)
      rw [← i1]
      generalize bs_q (cx_f1 C (cl_Qf OL) (cx_now C) p k n) = q at i2
      obtain ⟨q1, q2, q3, q4⟩ := q
      dsimp only at i2
      subst i2
      have z1 : ¬ nI (2 * i + 2) = 0 := fun e => by
        have := bs_eq.mp e
        rw [bs_ni (by omega)] at this
        have : ((2 * i + 2 : Nat) : Int) = 0 := this
        omega
      have z2 : ¬ nI (2 * i + 2) ≤ 0 := fun e => by
        have := bs_le.mp e
        rw [bs_ni (by omega)] at this
        have : ((2 * i + 2 : Nat) : Int) ≤ 0 := this
        omega
      have z3 : ¬ nI (2 * n + 2) < nI (2 * i + 2) := fun e => by
        have := bs_lt.mp e
        rw [bs_ni (by omega), bs_ni (by omega)] at this
        omega
      have z4 : ¬ nI (2 * n + 2) = nI (2 * i + 2) := fun e => by
        have := bs_eq.mp e
        rw [bs_ni (by omega), bs_ni (by omega)] at this
        omega
      have ec : bs_con (nI (2 * i + 2), q2, q3, q4) (nI (2 * n + 2), v, c, x) = if q4 < x then (nI (2 * n + 2), v, c, x) else (nI (2 * i + 2), q2, q3, q4) := by
        unfold bs_con
        dsimp only
        rw [if_neg z1, if_neg z3, if_neg z4]
        by_cases c1 : x = q4
        · rw [if_pos c1, if_neg (by decide), if_neg (by rw [c1]; exact fun z => Int32.lt_irrefl z)]
        · rw [if_neg c1]
          by_cases c2 : x ≤ q4
          · rw [if_pos c2, if_neg (by decide), if_neg (Int32.not_lt.mpr c2)]
          · rw [if_neg c2, if_pos rfl, if_pos (Int32.not_le.mp c2)]
      rw [ec]
      refine ⟨Or.inr ?_, Or.inr ?_⟩
      · unfold bs_try
        dsimp only
        rw [if_neg z2]
      · split
        · exact ⟨n, by omega, rfl⟩
        · exact ⟨i, by omega, rfl⟩
/-- the best of both -/
theorem cl_Q.bst (h : cl_Q C S F OL) {p k : Nat} (hp : p < sp_P S) (hk : k ≤ 200000000) (e : sp_have S p = nI k) : bs_q (cx_fbs C (cl_Qf OL) (cx_now C) p k (cl_bm C p / 2)) = sp_bst S F p := by
  have hP := h.J.P.2
  have hz := h.J.N (k := 3) p 2 (by decide)
  have em : cl_bm C p = (sp_X12_much S (1 + S.1 3 p)).toNatClampNeg := by
    unfold cl_bm cx_X4_pagesFor
    rw [h.1.k 3 (by decide), (h.pg (k := (S.1 3 p).toNatClampNeg) (by omega)).1, ← hz.1]
  have en : 2 ≤ cl_bm C p ∧ cl_bm C p ≤ 64 := by
    obtain ⟨f, f1, f2, f3⟩ := h.J.pages (k := (S.1 3 p).toNatClampNeg) hz.2
    rw [← hz.1] at f3
    rw [em, f3, nI_clamp (by omega)]
    exact ⟨f1, f2⟩
  unfold sp_bst cx_fbs
  rw [e, ← em]
  by_cases c : C.1 110 (cx_now C) = 0
  · rw [if_pos c, cl_f2, bs_same (by omega) (by omega) bs_q_clear, h.trg (by omega) hk c _ (by omega)]
  · rw [if_neg c]
    exact (h.f1 (by omega) hk c _ (by omega)).1.resolve_left (by omega)
end R
theorem cl_bestq {B : Int} {C S : mo_S} {F : mo_Fn} {OL : Nat → List od_q} (h : cl_R B C S F OL) (hB : B ≤ 8000000) (x1 x2 : Int32) {r : Option Value} {S2 : mo_S} (hq : (r = some (.int 0) ∧ ∃ k : Int32, ((k = 1 ∧ sp_in x1 0 (S.1 1 0 - 1) = false) ∨ (k = 2 ∧ sp_in x1 0 (S.1 1 0 - 1) = true ∧ sp_in x2 0 3 = false)) ∧ S2 = mo_up S 0 0 k) ∨ (sp_in x1 0 (S.1 1 0 - 1) = true ∧ sp_in x2 0 3 = true ∧ (∃ p, x1 = nI p ∧ p < sp_P S ∧ sp_eqB S2 (mo_up S 0 0 0) ∧ r = some (.int (sp_best (mo_up S 0 0 0) F p x2))))) : ∃ v : Int32, r = some (.int v) ∧ cl_st B [cl_IO, cl_IA] (cx_X11_best C (cl_Qf OL) (cl_bk C x1.toNatClampNeg) (cl_bm C x1.toNatClampNeg) x1 x2) (v, S2) := by
  unfold cx_X11_best cx_X5_isAdmitted
  rw [h.1.k 1 (by decide), h.1.k 12 (by decide)]
  simp only [cx_within_in]
  rcases hq with ⟨e, k, hk, rfl⟩ | ⟨a, b, p, rfl, hp, hM, e⟩
  · refine ⟨0, e, ?_⟩
    rcases hk with ⟨rfl, a⟩ | ⟨rfl, a, b⟩
    · simp only [a, mo_b_t, mo_b_f, cl_10, eq_self, Bool.false_eq_true, Bool.not_true, Bool.not_false, if_true, if_false, cl_bt, cl_bf, Bool.true_and, Bool.false_and]
      exact cl_st.E0 rfl h
    · simp only [a, b, mo_b_t, mo_b_f, cl_10, eq_self, Bool.false_eq_true, Bool.not_true, Bool.not_false, if_true, if_false, cl_bt, cl_bf, Bool.true_and, Bool.false_and]
      exact cl_st.E1 rfl h
  · refine ⟨_, e, ?_⟩
    have hP := h.J.P.2
    have h0 := h.u0 (v := 0)
    have hS2 : ∀ v : Int32, cl_st B [cl_IO, cl_IA] (.inr v, C) (v, S2) := fun v => by
      have hh := h0.s (T := S2) hM
      refine cl_st.ok (F := F) (OL := OL) ?_ (hh.le (by omega))
      rw [hM 0 (by omega), mo_up_at, pk_us]
    have zP : sp_P (mo_up S 0 0 0) = sp_P S := kl_P (by decide)
    simp only [a, b, mo_b_t, mo_b_f, cl_10, eq_self, Bool.false_eq_true, Bool.not_true, Bool.not_false, if_true, if_false, cl_bt, cl_bf, Bool.true_and, Bool.false_and]
    rw [nI_clamp (by omega)]
    have z12 : (mo_up S 0 0 0).1 12 = S.1 12 := mo_up_ne (by decide)
    unfold sp_best
    rw [z12]
    generalize hZ : mo_up S 0 0 0 = Z at h0 zP
    by_cases c : S.1 12 p = 1
    · simp only [c, eq_self, if_true, mo_b_t, cl_10, if_false]
      obtain ⟨k, k1, k2⟩ := h0.2.2.have_ hB (p := p) (by omega)
      have ek : cl_bk C p = k := by
        unfold cl_bk
        rw [cj_max0, h0.1.k 10 (by decide), h0.1.k 11 (by decide), show Z.1 10 p + (if Z.1 11 p ≤ 0 then 0 else Z.1 11 p) = nI k from k1, nI_clamp (by omega)]
      rw [ek]
      have eb := h0.q.bst (by omega) k2 k1
      rw [← eb]
      exact hS2 _
    · simp only [c, if_false, mo_b_f, eq_self, if_true]
      exact hS2 _
end DN
