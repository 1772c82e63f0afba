section DQ
/-! a paper's month: class and model -/
theorem mo_upup {S : mo_S} {k i : Nat} {a b : Int32} : mo_up (mo_up S k i a) k i b = mo_up S k i b := by
  unfold mo_up
  refine Prod.ext ?_ rfl
  funext k2 i2
  by_cases h : k2 = k ∧ i2 = i
  · simp [h]
  · simp [h]
section R
variable {C S : mo_S} {F : mo_Fn} {OL : Nat → List od_q}
theorem cl_Q.up (h : cl_Q C S F OL) {k i : Nat} {v : Int32} (hk : (k ∈ cl_K ∧ k ∉ [1, 2, 3, 12, 14, 15, 27, 29, 55, 56, 59, 60, 61, 62, 63, 115, 126, 133, 134]) ∧ k ≠ 53 ∧ k ≠ 54) (hK : mo_J (mo_up S k i v) F) : cl_Q (mo_up C k i v) (mo_up S k i v) F OL := by
  obtain ⟨⟨a, b⟩, c1, c2⟩ := hk
  have c : ∀ k, k ∈ cl_K → k < 100 ∧ ¬ (36 ≤ k ∧ k ≤ 39) := by decide
  simp only [List.mem_cons, List.mem_nil_iff, or_false, not_or] at b
  refine ⟨h.1.up ⟨a, ?_⟩, h.2.1.up ⟨(c k a).1, by omega, (c k a).2⟩, hK, ?_, ?_⟩
  · simp only [List.mem_cons, List.mem_nil_iff, or_false, not_or]
    omega
  · rw [mo_up_ne (by omega)]; exact h.2.2.2.1
  · rw [mo_up_ne (by omega)]; exact h.2.2.2.2
theorem cl_Q.upv (h : cl_Q C S F OL) {k i : Nat} {v w : Int32} (hv : v = w) (hk : (k ∈ cl_K ∧ k ∉ [1, 2, 3, 12, 14, 15, 27, 29, 55, 56, 59, 60, 61, 62, 63, 115, 126, 133, 134]) ∧ k ≠ 53 ∧ k ≠ 54) (hK : mo_J (mo_up S k i w) F) : cl_Q (mo_up C k i v) (mo_up S k i w) F OL := by
  subst hv
  exact h.up hk hK
theorem cl_Q.brk6 (h : cl_Q C S F OL) {p : Nat} {v9 v16 v17 v18 v19 v20 w9 w16 w17 w18 w19 w20 : Int32} (e9 : v9 = w9) (e16 : v16 = w16) (e17 : v17 = w17) (e18 : v18 = w18) (e19 : v19 = w19) (e20 : v20 = w20) : cl_Q (mo_up (mo_up (mo_up (mo_up (mo_up (mo_up C 9 p v9) 16 p v16) 17 p v17) 18 p v18) 19 p v19) 20 p v20) (mo_up (mo_up (mo_up (mo_up (mo_up (mo_up S 9 p w9) 16 p w16) 17 p w17) 18 p w18) 19 p w19) 20 p w20) F OL := by
  subst e9 e16 e17 e18 e19 e20
  have j1 := h.J.upA (k := 9) (i := p) (v := v9) (by decide)
  have j2 := j1.upA (k := 16) (i := p) (v := v16) (by decide)
  have j3 := j2.upA (k := 17) (i := p) (v := v17) (by decide)
  have j4 := j3.upA (k := 18) (i := p) (v := v18) (by decide)
  have j5 := j4.upA (k := 19) (i := p) (v := v19) (by decide)
  exact (((((h.up (by decide) j1).up (by decide) j2).up (by decide) j3).up (by decide) j4).up (by decide) j5).up (by decide) (j5.upA (by decide))
/-- the price that is told: none, or one of 1 to 100, told by a clause -/
theorem cl_Q.pr (h : cl_Q C S F OL) (p : Nat) : sp_priceP S F p = -1 ∨ ∃ n c : Nat, sp_priceP S F p = nI n ∧ n ≤ 100 ∧ sp_teller S 4 = some c := by
  have m1 : sp_eqF (sp_X12_means S (nI p)) S := by
    unfold sp_X12_means
    exact sp_eqF_up (by decide) (sp_eqF_up (by decide) (sp_eqF_up (by decide) (sp_eqF_up (by decide) (sp_eqF_up (by decide) (sp_eqF_up (by decide) (sp_eqF_up (by decide) (sp_eqF_r S)))))))
  unfold sp_priceP sp_price
  rw [sp_eqF_teller m1]
  cases e : sp_teller S 4 with
  | none => exact Or.inl rfl
  | some c =>
    obtain ⟨f, f1, f2, f3⟩ := sp_bounded_in (v := F c (sp_X12_named (sp_X12_means S (nI p)))) (a := 1) (b := 100) (by decide) (by decide)
    exact Or.inr ⟨f, c, f3, f2, rfl⟩
/-- a clause and its order -/
theorem cl_Q.cls (h : cl_Q C S F OL) {x : Int32} {c : Nat} (e : sp_teller S x = some c) : sp_opt (sp_teller S x) / 12 = sp_opt (sp_force C (C.1 2 0) (sp_O C)) ∧ sp_opt (sp_teller S x) - sp_opt (sp_teller S x) / 12 * 12 = od_c (od_of OL (cx_now C) x) := by
  obtain ⟨j, q, b1, b2, b3, b4, b5, b6⟩ := (h.tel x).2 c e
  have hO := h.J.O.2
  have en : sp_force C (C.1 2 0) (sp_O C) = some (cx_now C) := by
    show sp_now C = _
    unfold cx_now at b3 ⊢
    cases z : sp_now C with
    | none => rw [z] at b3; dsimp only at b3; omega
    | some b => rfl
  rw [e, en, b6]
  show nI c / 12 = nI (cx_now C) ∧ nI c - nI c / 12 * 12 = nI j
  have d12 : (12 : Int32) = nI 12 := rfl
  have q1 : c / 12 = cx_now C := by omega
  have q2 : c % 12 = j := by omega
  constructor
  · rw [d12, pk_div (by omega) (by decide) (by decide), q1]
  · rw [d12, pk_rem (by omega) (by decide) (by decide), q2]
set_option maxHeartbeats 2000000 in
theorem cl_Q.pay (h : cl_Q C S F OL) {p : Nat} (hp : p < sp_P S) : cl_Q (cx_pay C (cx_now C) p (sp_priceP S F p)) (sp_breaks S F p) F OL := by
  obtain ⟨e3, b3⟩ := h.J.N (k := 3) p 2 (by decide)
  obtain ⟨e6, b6⟩ := h.J.N (k := 6) p 64 (by decide)
  have g2 := (h.J.2.2.1 p hp).1
  generalize hk : (S.1 3 p).toNatClampNeg = k at *
  generalize hg : (S.1 6 p).toNatClampNeg = g at *
  rw [e6, nI_toInt (by omega)] at g2
  obtain ⟨f, f1, f2, ef⟩ := h.J.pages (k := k) (by omega)
  obtain ⟨p1, p2⟩ := h.pg (k := k) (by omega)
  have hF : C.1 103 (cx_now C) = sp_X12_much S 5 := h.vl (x := 5) (by omega) (by omega) (by omega)
  have h100 : C.1 100 (cx_now C) = od_c (od_of OL (cx_now C) 4) := ((h.nS 4 (by omega)).2.2.1 rfl).2.1
  have c3 : C.1 3 = S.1 3 := h.1.k 3 (by decide)
  have c6 : C.1 6 = S.1 6 := h.1.k 6 (by decide)
  have c7 : C.1 7 = S.1 7 := h.1.k 7 (by decide)
  have c9 : C.1 9 = S.1 9 := h.1.k 9 (by decide)
  have c16 : C.1 16 = S.1 16 := h.1.k 16 (by decide)
  have c2 : C.1 2 = S.1 2 := h.1.k 2 (by decide)
  -- the pages' clause, where there are more pages than it tells
  have hc : ¬ g ≤ f → sp_opt (sp_teller S (1 + nI k)) / 12 = sp_opt (sp_force C (C.1 2 0) (sp_O C)) ∧ sp_opt (sp_teller S (1 + nI k)) - sp_opt (sp_teller S (1 + nI k)) / 12 * 12 = C.1 102 (3 * cx_now C + k) := fun hgf => by
    rw [p2]
    cases e : sp_teller S (1 + nI k) with
    | some c => rw [← e]; exact h.cls e
    | none =>
      exfalso
      have hx : ¬ ((1 : Int32) + nI k = 0 ∨ (1 : Int32) + nI k = 4) := by
        obtain rfl | rfl | rfl : k = 0 ∨ k = 1 ∨ k = 2 := by omega
        all_goals decide
      have m := h.much hx
      rw [(h.tel (1 + nI k)).1 e, ef] at m
      have m2 : nI f = 64 := by
        rw [m]
        obtain rfl | rfl | rfl : k = 0 ∨ k = 1 ∨ k = 2 := by omega
        all_goals rfl
      have := mo_niinj (a := f) (b := 64) (by omega) (by decide) m2
      omega
  have e1 : ∀ (T : mo_S) (z : Int32) m n, sp_force (mo_up T 9 p z) m n = sp_force T m n := fun T z m n => sp_force_cg (by rw [mo_up_ne (by decide)]) n
  have e2 : ∀ (T : mo_S) (z : Int32), sp_O (mo_up T 9 p z) = sp_O T := fun T z => sp_O_cg (by rw [mo_up_ne (by decide)])
  have eT : ∀ (z : Int32) x, sp_teller (mo_up S 9 p z) x = sp_teller S x := fun z x => sp_eqF_teller (sp_eqF_up (by decide) (sp_eqF_r S)) x
  have eM : ∀ (z : Int32) x, sp_X12_much (mo_up S 9 p z) x = sp_X12_much S x := fun z x => sp_eqF_much (sp_eqF_up (by decide) (sp_eqF_r S)) x
  have k2 : ∀ (T : mo_S) (z : Int32), (mo_up T 9 p z).1 2 = T.1 2 := fun T z => mo_up_ne (by decide)
  have k3 : ∀ (T : mo_S) (z : Int32), (mo_up T 9 p z).1 3 = T.1 3 := fun T z => mo_up_ne (by decide)
  have k16 : ∀ (T : mo_S) (z : Int32), (mo_up T 9 p z).1 16 = T.1 16 := fun T z => mo_up_ne (by decide)
  have k17 : ∀ (T : mo_S) (z : Int32), (mo_up T 9 p z).1 17 = T.1 17 := fun T z => mo_up_ne (by decide)
  have k18 : ∀ (T : mo_S) (z : Int32), (mo_up T 9 p z).1 18 = T.1 18 := fun T z => mo_up_ne (by decide)
  have k19 : ∀ (T : mo_S) (z : Int32), (mo_up T 9 p z).1 19 = T.1 19 := fun T z => mo_up_ne (by decide)
  have k20 : ∀ (T : mo_S) (z : Int32), (mo_up T 9 p z).1 20 = T.1 20 := fun T z => mo_up_ne (by decide)
  have k102 : ∀ (T : mo_S) (z : Int32), (mo_up T 9 p z).1 102 = T.1 102 := fun T z => mo_up_ne (by decide)
  unfold cx_pay sp_breaks sp_brk cx_X1_add cx_X4_pagesFor cx_X4_pagesClauseFor
  rw [c3, hk, c6, p1, e3, ef, e6, c7, c9, hF, h100]
  have b1 : sp_J6_bitCount_0f7a4 1 = 1 := by decide
  have b2 : sp_J6_bitCount_0f7a4 2 = 1 := by decide
  have b33 : sp_J6_bitCount_0f7a4 3 = 2 := by decide
  have hpr := h.pr p
  have hcls4 := fun c (e : sp_teller S 4 = some c) => h.cls e
  generalize sp_priceP S F p = y at *
  have hle : (nI g - nI f ≤ 0) ↔ g ≤ f := by
    constructor
    · intro q
      have q1 := Int32.le_iff_toInt_le.mp q
      rw [pk_sub_toInt (by omega) (by omega)] at q1
      have q2 : (g : Int) - f ≤ 0 := q1
      omega
    · intro q
      refine Int32.le_iff_toInt_le.mpr ?_
      rw [pk_sub_toInt (by omega) (by omega)]
      show (g : Int) - f ≤ 0
      omega
  have hle2 : (nI g ≤ nI f) ↔ g ≤ f := nI_leI (by omega) (by omega)
  simp only [hle, hle2, k2, k3, k16, k17, k18, k19, k20, k102, e1, e2, eT, eM, mo_upup, b1, b2, b33]
  by_cases a : g ≤ f
  · simp only [a, if_true]
    rcases hpr with rfl | ⟨n, c, rfl, n1, ec⟩
    · rw [if_pos rfl, if_pos (by decide)]
      exact h
    · rw [if_neg (fun z => cj_ne (n := n) (by omega) (by decide) z), if_neg (nI_pos (by omega))]
      by_cases d : nI n = S.1 7 p
      · rw [if_pos d, if_pos d]; exact h
      · rw [if_neg d, if_neg d]
        obtain ⟨q1, q2⟩ := hcls4 c ec
        exact h.brk6 rfl (by rw [c16]) (by rw [c2]) rfl q1.symm q2.symm
  · simp only [a, if_false]
    obtain ⟨r1, r2⟩ := hc a
    rcases hpr with rfl | ⟨n, c, rfl, n1, ec⟩
    · rw [if_pos rfl, if_pos (by decide)]
      exact h.brk6 (by rw [Int32.mul_comm]) (by rw [c16]) (by rw [c2]) rfl r1.symm r2.symm
    · rw [if_neg (fun z => cj_ne (n := n) (by omega) (by decide) z), if_neg (nI_pos (by omega))]
      by_cases d : nI n = S.1 7 p
      · rw [if_pos d, if_pos d]
        exact h.brk6 (by rw [Int32.mul_comm]) (by rw [c16]) (by rw [c2]) rfl r1.symm r2.symm
      · rw [if_neg d, if_neg d]
        refine h.brk6 ?_ (by rw [c16]) (by rw [c2]) rfl r1.symm r2.symm
        rw [Int32.mul_comm, Int32.sub_eq_add_neg, Int32.sub_eq_add_neg, Int32.sub_eq_add_neg, Int32.sub_eq_add_neg, Int32.add_assoc, Int32.add_comm (-_) (-_), ← Int32.add_assoc, Int32.sub_eq_add_neg]
theorem cl_Q.prc2 (h : cl_Q C S F OL) {p s : Nat} (hp : p < sp_P S) (hs : S.1 10 p = nI s) (hs2 : s ≤ 100000000) : cx_prc C p = sp_prc S p := by
  obtain ⟨e6, b6⟩ := h.J.N (k := 6) p 64 (by decide)
  have g2 := (h.J.2.2.1 p hp).1
  unfold cx_prc sp_prc sp_X12_printable
  rw [h.1.k 5 (by decide), h.1.k 6 (by decide), h.1.k 10 (by decide), hs, nI_clamp (by omega)]
  generalize hg : (S.1 6 p).toNatClampNeg = g at *
  rw [e6, nI_toInt (by omega)] at g2
  have e1 : ((10 : Int32) * nI s + 9) / (3 * S.1 6 p) = nI ((10 * s + 9) / (3 * g)) := by
    rw [e6, show (10 : Int32) = nI 10 from rfl, show (9 : Int32) = nI 9 from rfl, show (3 : Int32) = nI 3 from rfl, pk_mul, nI_add, pk_mul, pk_div (by omega) (by omega) (by omega)]
  rw [e1]
  generalize nI ((10 * s + 9) / (3 * g)) = z
  generalize S.1 5 p = x
  unfold cj_min
  by_cases c : z ≤ x
  · rw [if_pos c]
    by_cases d : z < x
    · rw [if_pos d]
    · rw [if_neg d]
      exact Int32.le_antisymm (Int32.not_lt.mp d) c
  · rw [if_neg c, if_neg (fun d => c (Int32.le_of_lt d))]
theorem cl_Q.run (h : cl_Q C S F OL) {p s : Nat} (hp : p < sp_P S) (hs : S.1 10 p = nI s) (hs2 : s ≤ 100000000) : cl_Q (cx_run C (cl_Qf OL) (cx_now C) p) (sp_prints S F p) F OL := by
  have hP := h.J.P.2
  have e1 := h.prc2 hp hs hs2
  have e2 : cx_usd C p = sp_prv S p := by
    unfold cx_usd sp_prv
    rw [e1, h.1.k 6 (by decide)]
    rfl
  have h1 : cl_Q (cx_r1 C p) (sp_pr1 S p) F OL := by
    unfold cx_r1 sp_pr1
    rw [e1, e2, cj_least, h.1.k 10 (by decide), h.1.k 9 (by decide), h.1.k 7 (by decide), sp_demand_cg (h.1.k 25 (by decide)) (h.1.k 26 (by decide)), h.1.sz.2.2.2.2.2.1]
    have j1 := h.J.upA (k := 10) (i := p) (v := S.1 10 p - sp_prv S p) (by decide)
    exact (h.up (by decide) j1).up (by decide) (j1.upA (by decide))
  have en : cx_now (cx_r1 C p) = cx_now C := cx_now_cg (by unfold cx_r1; rw [mo_up_ne (by decide), mo_up_ne (by decide)]) (by unfold cx_r1; rw [mo_up_ne (by decide), mo_up_ne (by decide)]) (by unfold cx_r1; rw [mo_up_ne (by decide), mo_up_ne (by decide)])
  have h2 : cl_Q (cx_r2 C (cl_Qf OL) (cx_now C) p) (if sp_prc S p ≤ 0 then sp_pr1 S p else sp_breaks (sp_pr1 S p) F p) F OL := by
    unfold cx_r2
    rw [e1]
    by_cases c : sp_prc S p ≤ 0
    · rw [if_pos c, if_pos c]; exact h1
    · rw [if_neg c, if_neg c]
      have e6 : C.1 6 p = (cx_r1 C p).1 6 p := by unfold cx_r1; rw [mo_up_ne (by decide), mo_up_ne (by decide)]
      obtain ⟨m1, m2, m3, m4⟩ := h1.means (p := p) (by omega) ((sp_pr1 S p).1 6 p)
      rw [m4] at m1 m2
      have q := h1.prc m1 m2
      rw [← h1.1.k 6 (by decide), ← e6] at q
      rw [← en, q]
      refine h1.pay ?_
      have : sp_P (sp_pr1 S p) = sp_P S := sp_P_cg (by unfold sp_pr1; rw [mo_up_ne (by decide), mo_up_ne (by decide)])
      rw [this]; exact hp
  have hn2 : ∀ k, k ≠ 9 ∧ k ≠ 10 ∧ ¬ (16 ≤ k ∧ k ≤ 20) → (cx_r2 C (cl_Qf OL) (cx_now C) p).1 k = C.1 k := fun k hk => by
    unfold cx_r2
    split
    · unfold cx_r1; rw [mo_up_ne hk.1, mo_up_ne hk.2.1]
    · rw [cx_pay_ne (by omega)]
      unfold cx_r1; rw [mo_up_ne hk.1, mo_up_ne hk.2.1]
  unfold cx_run sp_prints sp_pr2
  rw [mo_up_comm (by decide), e2]
  have h3 := h2.up (k := 13) (i := p) (v := sp_prv S p) (by decide) (h2.J.upA (by decide))
  have en3 : cx_now (mo_up (cx_r2 C (cl_Qf OL) (cx_now C) p) 13 p (sp_prv S p)) = cx_now C := cx_now_cg (by rw [mo_up_ne (by decide), hn2 _ (by omega)]) (by rw [mo_up_ne (by decide), hn2 _ (by omega)]) (by rw [mo_up_ne (by decide), hn2 _ (by omega)])
  have ew := h3.vl (x := 8) (by omega) (by omega) (by omega)
  rw [en3] at ew
  have ew2 : C.1 106 (cx_now C) = (mo_up (cx_r2 C (cl_Qf OL) (cx_now C) p) 13 p (sp_prv S p)).1 (98 + 8) (cx_now C) := by rw [mo_up_ne (by decide), hn2 _ (by omega)]
  refine h3.upv ?_ (by decide) (h3.J.upA (by decide))
  rw [ew2, ew, h2.1.k 10 (by decide)]
  rfl
end R
end DQ
