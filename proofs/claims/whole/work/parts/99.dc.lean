section DC
theorem sp_anew_0 {S : mo_S} {z : Int32} {p : Nat} {m what known v : Int32} : ∀ n, sp_anew (mo_up S 0 0 z) p m what known v n = sp_anew S p m what known v n
  | 0 => rfl
  | n + 1 => by simp only [sp_anew]; rw [sp_anew_0 n, mo_up_ne (by decide), mo_up_ne (by decide), mo_up_ne (by decide), mo_up_ne (by decide)]
theorem sp_row_0 {S : mo_S} {z : Int32} {p : Nat} {m what known : Int32} : sp_row (mo_up S 0 0 z) p m what known = sp_row S p m what known := by
  unfold sp_row sp_X12_isRow sp_Z
  rw [sp_anew_0, mo_up_ne (by decide), mo_up_ne (by decide), mo_up_ne (by decide), mo_up_ne (by decide)]
theorem cl_uk {C S : mo_S} {p : Nat} {m k : Int32} (h : ∀ x, x = 74 ∨ x = 75 ∨ x = 76 ∨ x = 77 → C.1 x = S.1 x) : ∀ n, cx_uk C p m k n = sp_anew S p m 1 k (cx_cell C p m 1) n
  | 0 => rfl
  | n + 1 => by
    simp only [cx_uk, sp_anew]
    rw [cl_uk h n, h 74 (by decide), h 75 (by decide), h 76 (by decide), h 77 (by decide)]
    by_cases a : S.1 74 n = nI p
    · by_cases b : S.1 75 n = m
      · by_cases c : k < S.1 77 n
        · rw [if_pos a, if_pos b, if_pos c, if_neg (fun q => absurd c (Int32.not_lt.mpr q.2.2.2))]
        · rw [if_pos a, if_pos b, if_neg c, if_pos ⟨trivial, a, b, Int32.not_lt.mp c⟩]
      · rw [if_pos a, if_neg b, if_neg (fun q => b q.2.2.1)]
    · rw [if_neg a, if_neg (fun q => a q.2.1)]
theorem cl_rowq {B : Int} {C S : mo_S} {F : mo_Fn} {OL : Nat → List od_q} (h : cl_R B C S F OL) (x1 x2 x3 x4 : Int32) {r : Option Value} {S2 : mo_S} (hq : (r = some (.int 0) ∧ ∃ k : Int32, ((k = 1 ∧ sp_in x1 0 (S.1 1 0 - 1) = false) ∨ (k = 2 ∧ sp_in x1 0 (S.1 1 0 - 1) = true ∧ sp_in x3 0 3 = false)) ∧ S2 = mo_up S 0 0 k) ∨ (sp_in x1 0 (S.1 1 0 - 1) = true ∧ sp_in x3 0 3 = true ∧ (∃ p, x1 = nI p ∧ p < sp_P S ∧ S2 = (mo_up S 0 0 0) ∧ r = some (.int (sp_row (mo_up S 0 0 0) p x2 x3 x4))))) : ∃ v : Int32, r = some (.int v) ∧ cl_st B [cl_IO, cl_IA] (cx_X11_row C x1 x2 x3 x4) (v, S2) := by
  unfold cx_X11_row
  rw [h.1.k 1 (by decide)]
  simp only [cx_within_in]
  rcases hq with ⟨e, k, hk, rfl⟩ | ⟨a, b, p, rfl, hp, rfl, e⟩
  · refine ⟨0, e, ?_⟩
    rcases hk with ⟨rfl, a⟩ | ⟨rfl, a, b⟩
    · simp only [a, mo_b_t, mo_b_f, cl_10, eq_self, Bool.false_eq_true, Bool.not_true, Bool.not_false, if_true, if_false, cl_bt, cl_bf, Bool.true_and, Bool.false_and]
      exact cl_st.E0 rfl h
    · simp only [a, b, mo_b_t, mo_b_f, cl_10, eq_self, Bool.false_eq_true, Bool.not_true, Bool.not_false, if_true, if_false, cl_bt, cl_bf, Bool.true_and, Bool.false_and]
      exact cl_st.E1 rfl h
  · refine ⟨_, e, ?_⟩
    have hP := h.J.P.2
    rw [sp_row_0]
    simp only [a, b, mo_b_t, mo_b_f, cl_10, eq_self, Bool.false_eq_true, Bool.not_true, Bool.not_false, if_true, if_false, cl_bt, cl_bf, Bool.true_and, Bool.false_and]
    rw [nI_clamp (by omega)]
    obtain ⟨hh, hc⟩ := h.has (p := p) (by omega) x2
    rw [hh]
    unfold sp_row
    cases z : sp_X12_isRow S (nI p) x2
    · simp only [mo_b_t, mo_b_f, cl_10, eq_self, Bool.false_eq_true, Bool.not_true, Bool.not_false, if_true, if_false, cl_bt, cl_bf, Bool.true_and, Bool.false_and]
      split
      · exact cl_st.ok0 h
      · exact cl_st.ok0 h
    · simp only [mo_b_t, mo_b_f, cl_10, eq_self, Bool.false_eq_true, Bool.not_true, Bool.not_false, if_true, if_false, cl_bt, cl_bf, Bool.true_and, Bool.false_and]
      by_cases c : x4 ≤ x2
      · rw [if_pos c, if_pos c]
        exact cl_st.ok0 h
      · rw [if_neg c, if_neg c]
        have ez : cx_tn C = sp_Z S := by unfold cx_tn sp_Z; rw [h.1.k 73 (by decide)]
        by_cases c1 : x3 = 1
        · subst c1
          rw [if_pos rfl]
          unfold cx_X2_usedAsKnown
          rw [ez, cl_uk (fun x hx => h.1.k x (by rcases hx with rfl | rfl | rfl | rfl <;> decide)), hc 1 (by decide) z]
          exact cl_st.ok0 h
        · rw [if_neg c1, sp_anew_no c1]
          have i3 := kl_in b
          have j3 : (0 : Int) ≤ x3.toInt := i3.1
          have k3 : x3.toInt ≤ 3 := i3.2
          rw [hc x3.toNatClampNeg (by show x3.toInt.toNat < 4; omega) z]
          exact cl_st.ok0 h
theorem sp_many_cg {T S : mo_S} (h : T.1 12 = S.1 12) (v : Int32) : ∀ n, sp_many T v n = sp_many S v n
  | 0 => rfl
  | n + 1 => by simp only [sp_many]; rw [sp_many_cg h v n, h]
theorem sp_stol_cg {T S : mo_S} (h : T.1 23 = S.1 23) : ∀ n, sp_stol T n = sp_stol S n
  | 0 => rfl
  | n + 1 => by simp only [sp_stol]; rw [sp_stol_cg h n, h]
theorem cl_countq {B : Int} {C S : mo_S} {F : mo_Fn} {OL : Nat → List od_q} (h : cl_R B C S F OL) (x1 : Int32) {r : Option Value} {S2 : mo_S} (hq : r = some (.int (sp_count S x1)) ∧ S2 = mo_up S 0 0 0) : ∃ v : Int32, r = some (.int v) ∧ cl_st B [] (cx_X11_count C x1) (v, S2) := by
  obtain ⟨e, rfl⟩ := hq
  refine ⟨_, e, ?_⟩
  obtain ⟨sP, sR, -⟩ := h.1.sz
  unfold cx_X11_count sp_count
  rw [sP, sR, sp_many_cg (h.1.k 12 (by decide)), sp_many_cg (h.1.k 12 (by decide)), sp_many_cg (show (mo_up S 0 0 0).1 12 = S.1 12 from mo_up_ne (by decide)), sp_many_cg (show (mo_up S 0 0 0).1 12 = S.1 12 from mo_up_ne (by decide)), sp_pool_cg (h.1.k 22 (by decide)) (h.1.k 23 (by decide)), sp_pool_cg (show (mo_up S 0 0 0).1 22 = S.1 22 from mo_up_ne (by decide)) (show (mo_up S 0 0 0).1 23 = S.1 23 from mo_up_ne (by decide)), sp_stol_cg (h.1.k 23 (by decide)), h.1.k 1 (by decide), h.1.k 2 (by decide), h.1.k 21 (by decide), h.1.k 24 (by decide), h.1.k 28 (by decide), h.1.k 29 (by decide), h.1.k 62 (by decide), h.1.k 73 (by decide)]
  have k : ∀ v : Int32, cl_st B [] (.inr v, C) (v, mo_up S 0 0 0) := fun v => cl_st.ok0 h
  by_cases c0 : x1 = 0
  · rw [if_pos c0, if_pos c0]; exact k _
  rw [if_neg c0, if_neg c0]
  by_cases c1 : x1 = 1
  · rw [if_pos c1, if_pos c1]; exact k _
  rw [if_neg c1, if_neg c1]
  by_cases c2 : x1 = 2
  · rw [if_pos c2, if_pos c2]; exact k _
  rw [if_neg c2, if_neg c2]
  by_cases c3 : x1 = 3
  · rw [if_pos c3, if_pos c3]; exact k _
  rw [if_neg c3, if_neg c3]
  by_cases c4 : x1 = 4
  · rw [if_pos c4, if_pos c4]; exact k _
  rw [if_neg c4, if_neg c4]
  by_cases c5 : x1 = 5
  · rw [if_pos c5, if_pos c5]; exact k _
  rw [if_neg c5, if_neg c5]
  by_cases c6 : x1 = 6
  · rw [if_pos c6, if_pos c6]; exact k _
  rw [if_neg c6, if_neg c6]
  by_cases c7 : x1 = 7
  · rw [if_pos c7, if_pos c7]; exact k _
  rw [if_neg c7, if_neg c7]
  by_cases c8 : x1 = 8
  · rw [if_pos c8, if_pos c8]; exact k _
  rw [if_neg c8, if_neg c8]
  by_cases c9 : x1 = 9
  · rw [if_pos c9, if_pos c9]; exact k _
  rw [if_neg c9, if_neg c9]
  by_cases c10 : x1 = 10
  · rw [if_pos c10, if_pos c10]; exact k _
  rw [if_neg c10, if_neg c10]
  by_cases c11 : x1 = 11
  · rw [if_pos c11, if_pos c11]; exact k _
  rw [if_neg c11, if_neg c11]
  exact k _
theorem cl_farS {x y : Int32} : sp_X12_far x y = sp_X12_far y x := by
  unfold sp_X12_far
  by_cases a : y ≤ x
  · rw [if_pos a]
    by_cases b : x ≤ y
    · rw [if_pos b, Int32.le_antisymm a b]
    · rw [if_neg b]
  · rw [if_neg a, if_pos (by
      have q : ¬ y.toInt ≤ x.toInt := fun z => a (Int32.le_iff_toInt_le.mpr z)
      exact Int32.le_iff_toInt_le.mpr (by omega))]
theorem cl_R.farC {B : Int} {C S : mo_S} {F : mo_Fn} {OL : Nat → List od_q} (h : cl_R B C S F OL) {a b : Nat} (ha : a < sp_A S) (hb : b < sp_A S) : cx_X0_farFrom C a b = sp_X12_apartOf S (nI b) (nI a) := by
  have hA := h.J.A.2
  have q := h.far (x1 := nI a) (x2 := nI b) (by rw [nI_clamp (by omega)]; exact ha) (by rw [nI_clamp (by omega)]; exact hb)
  have s : sp_X12_apartOf S (nI b) (nI a) = sp_X12_apartOf S (nI a) (nI b) := by
    unfold sp_X12_apartOf
    rw [cl_farS, @cl_farS (S.1 66 (nI b).toNatClampNeg)]
    by_cases e : S.1 67 (nI b).toNatClampNeg = S.1 67 (nI a).toNatClampNeg
    · rw [if_pos e, if_pos e.symm]
    · rw [if_neg e, if_neg (fun z => e z.symm)]
  rw [s, q, nI_clamp (by omega), nI_clamp (by omega)]
  unfold cx_X0_farFrom
  rw [h.1.k 65 (by decide), h.1.k 66 (by decide), h.1.k 63 (by decide), h.1.k 3 (by decide)]
theorem cl_R.near {B : Int} {C S : mo_S} {F : mo_Fn} {OL : Nat → List od_q} (h : cl_R B C S F OL) {a : Nat} (ha : a < sp_A S) : ∀ n, n ≤ a → cx_al C a n = match sp_near S a n with | none => (-1, 0) | some b => (nI b, cx_X0_farFrom C a b)
  | 0, _ => rfl
  | n + 1, hn => by
    have ih := cl_R.near h ha n (by omega)
    have hA := h.J.A.2
    simp only [cx_al, sp_near]
    rw [ih]
    unfold cx_X0_isGranted
    rw [h.1.k 68 (by decide)]
    have r1 := (h.J.1 68 n (by decide)).1
    have r3 : (-1 : Int) ≤ (S.1 68 n).toInt := r1
    by_cases c : S.1 68 n = -1
    · have c2 : S.1 68 n < 0 := by rw [c]; decide
      rw [if_pos c, if_neg (by decide), if_pos c2]
    · have c2 : ¬ S.1 68 n < 0 := fun q => by
        have r2 := Int32.lt_iff_toInt_lt.mp q
        have r4 : (S.1 68 n).toInt < 0 := r2
        exact c (Int32.toInt_inj.mp (by show _ = (-1 : Int); omega))
      rw [if_neg c, if_pos rfl, if_neg c2]
      cases e : sp_near S a n with
      | none => rw [if_pos rfl]
      | some b =>
        have hb := sp_near_lt e
        dsimp only
        have hfb := h.farC ha (b := b) (by omega)
        have hfn := h.farC ha (b := n) (by omega)
        rw [if_neg (cj_ne (by omega) (by decide))]
        by_cases z : sp_X12_apartOf S (nI n) (nI a) ≤ sp_X12_apartOf S (nI b) (nI a)
        · rw [if_pos z, if_neg (by rw [hfb, hfn]; exact Int32.not_lt.mpr z)]
        · rw [if_neg z, if_pos (by rw [hfb, hfn]; exact Int32.not_le.mp z)]
theorem cl_alikeq {B : Int} {C S : mo_S} {F : mo_Fn} {OL : Nat → List od_q} (h : cl_R B C S F OL) (x1 : Int32) {r : Option Value} {S2 : mo_S} (hq : (r = some (.int 0) ∧ ∃ k : Int32, ((k = 1 ∧ sp_X12_isAppeal (mo_up S 0 0 0) x1 = false)) ∧ S2 = mo_up S 0 0 k) ∨ (sp_X12_isAppeal (mo_up S 0 0 0) x1 = true ∧ (∃ a, x1 = nI a ∧ a < sp_A S ∧ S2 = (mo_up S 0 0 0) ∧ r = some (.int (sp_opt (sp_near (mo_up S 0 0 0) a a)))))) : ∃ v : Int32, r = some (.int v) ∧ cl_st B [cl_IO] (cx_X11_alike C x1) (v, S2) := by
  unfold cx_X11_alike
  have ei : sp_X12_isAppeal (mo_up S 0 0 0) x1 = sp_in x1 0 (S.1 62 0 - 1) := by unfold sp_X12_isAppeal; rw [mo_up_ne (by decide)]
  rw [ei] at hq
  rw [h.1.k 62 (by decide)]
  rcases hq with ⟨e, k, ⟨rfl, a⟩, rfl⟩ | ⟨a, p, rfl, hp, rfl, e⟩
  · refine ⟨0, e, ?_⟩
    simp only [a, mo_b_t, mo_b_f, cl_10, eq_self, Bool.false_eq_true, Bool.not_true, Bool.not_false, if_true, if_false, cl_bt, cl_bf, Bool.true_and, Bool.false_and]
    exact cl_st.E0 rfl h
  · refine ⟨_, e, ?_⟩
    have hA := h.J.A.2
    have en : ∀ n, sp_near (mo_up S 0 0 0) p n = sp_near S p n := fun n => by
      induction n with
      | zero => rfl
      | succ n ih =>
        simp only [sp_near]
        rw [ih, mo_up_ne (by decide)]
        have ea : ∀ x y, sp_X12_apartOf (mo_up S 0 0 0) x y = sp_X12_apartOf S x y := fun x y => by unfold sp_X12_apartOf; rw [mo_up_ne (by decide), mo_up_ne (by decide), mo_up_ne (by decide)]
        simp only [ea]
    rw [en]
    simp only [a, mo_b_t, mo_b_f, cl_10, eq_self, Bool.false_eq_true, Bool.not_true, Bool.not_false, if_true, if_false, cl_bt, cl_bf, Bool.true_and, Bool.false_and]
    rw [nI_clamp (by omega), h.near hp p (Nat.le_refl _)]
    cases sp_near S p p with
    | none => exact cl_st.ok0 h
    | some b => exact cl_st.ok0 h
theorem sp_brn_cg {T S : mo_S} (h : T.1 60 = S.1 60) (h2 : T.1 61 = S.1 61) (p K : Nat) : ∀ n, sp_brn T p K n = sp_brn S p K n
  | 0 => rfl
  | n + 1 => by simp only [sp_brn]; rw [sp_brn_cg h h2 p K n, sp_lies_cong h h2, h]
theorem sp_brt_cg {T S : mo_S} (h2 : T.1 61 = S.1 61) (p : Nat) (b : Int32) : ∀ n, sp_brt T p b n = sp_brt S p b n
  | 0 => rfl
  | n + 1 => by simp only [sp_brt]; rw [sp_brt_cg h2 p b n, h2]
theorem sp_borne_cg {T S : mo_S} (h0 : T.1 59 = S.1 59) (h : T.1 60 = S.1 60) (h2 : T.1 61 = S.1 61) (p : Nat) (x : Int32) : sp_borne T p x = sp_borne S p x := by
  have eK : sp_K T p = sp_K S p := by unfold sp_K; rw [h0]
  unfold sp_borne
  rw [sp_brn_cg h h2, sp_brt_cg h2, h0, eK]
theorem cl_borneq {B : Int} {C S : mo_S} {F : mo_Fn} {OL : Nat → List od_q} (h : cl_R B C S F OL) (x1 x2 : Int32) {r : Option Value} {S2 : mo_S} (hq : (r = some (.int 0) ∧ ∃ k : Int32, ((k = 1 ∧ sp_in x1 0 (S.1 1 0 - 1) = false) ∨ (k = 2 ∧ sp_in x1 0 (S.1 1 0 - 1) = true ∧ sp_in x2 0 3 = false)) ∧ S2 = mo_up S 0 0 k) ∨ (sp_in x1 0 (S.1 1 0 - 1) = true ∧ sp_in x2 0 3 = true ∧ (∃ p, x1 = nI p ∧ p < sp_P S ∧ S2 = (mo_up S 0 0 0) ∧ r = some (.int (sp_borne (mo_up S 0 0 0) p x2))))) : ∃ v : Int32, r = some (.int v) ∧ cl_st B [cl_IO, cl_IA] (cx_X11_borne C x1 x2) (v, S2) := by
  unfold cx_X11_borne
  rw [h.1.k 1 (by decide)]
  simp only [cx_within_in]
  rcases hq with ⟨e, k, hk, rfl⟩ | ⟨a, b, p, rfl, hp, rfl, e⟩
  · refine ⟨0, e, ?_⟩
    rcases hk with ⟨rfl, a⟩ | ⟨rfl, a, b⟩
    · simp only [a, mo_b_t, mo_b_f, cl_10, eq_self, Bool.false_eq_true, Bool.not_true, Bool.not_false, if_true, if_false, cl_bt, cl_bf, Bool.true_and, Bool.false_and]
      exact cl_st.E0 rfl h
    · simp only [a, b, mo_b_t, mo_b_f, cl_10, eq_self, Bool.false_eq_true, Bool.not_true, Bool.not_false, if_true, if_false, cl_bt, cl_bf, Bool.true_and, Bool.false_and]
      exact cl_st.E1 rfl h
  · refine ⟨_, e, ?_⟩
    have hP := h.J.P.2
    obtain ⟨k1, k2⟩ := h.J.N (k := 59) p 8 (by decide)
    have eK : sp_K C p = sp_K S p := by unfold sp_K; rw [h.1.k 59 (by decide)]
    rw [sp_borne_cg (show (mo_up S 0 0 0).1 59 = S.1 59 from mo_up_ne (by decide)) (show (mo_up S 0 0 0).1 60 = S.1 60 from mo_up_ne (by decide)) (show (mo_up S 0 0 0).1 61 = S.1 61 from mo_up_ne (by decide))]
    simp only [a, b, mo_b_t, mo_b_f, cl_10, eq_self, Bool.false_eq_true, Bool.not_true, Bool.not_false, if_true, if_false, cl_bt, cl_bf, Bool.true_and, Bool.false_and]
    rw [nI_clamp (by omega), cx_field_eq x2 (by rw [eK, h.1.k 59 (by decide)]; exact k1) (by rw [eK]; exact k2) (fun j hj => by rw [h.1.k 60 (by decide), h.1.k 61 (by decide)]; exact h.2.2.1.2.2.1.2.2.2.2.1 p j (by rw [eK] at hj; exact hj)), sp_borne_cg (h.1.k 59 (by decide)) (h.1.k 60 (by decide)) (h.1.k 61 (by decide))]
    exact cl_st.ok0 h
end DC
