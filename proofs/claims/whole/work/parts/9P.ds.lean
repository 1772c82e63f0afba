section DS
/-! the papers' months one behind another, and the month's end -/
theorem mo_ISx.st {B X : Int} {S : mo_S} {F : mo_Fn} {p : Nat} (h : mo_ISx B X S) (hJ : mo_J S F) (hB : B ≤ 100000000) (hp : p < 12) : ∃ s : Nat, S.1 10 p = nI s ∧ s ≤ 100000000 := by
  obtain ⟨h1, h2, h3⟩ := h
  have at10 := mo_sum_at (g := fun p => (S.1 10 p).toInt) (p := p) (n := 12) hp h1
  have pl := mo_pl_nn hJ (sp_R S)
  try dsimp only at at10
  have q := h1 p
  refine ⟨(S.1 10 p).toInt.toNat, ?_, by omega⟩
  refine Int32.toInt_inj.mp ?_
  rw [nI_toInt (by omega)]
  omega
theorem cx_pay_cgX {X : List Nat} {V C : mo_S} {b p : Nat} {y : Int32} (hX : ∀ k, k ∈ [2, 3, 6, 7, 9, 16, 29, 36, 100, 101, 102, 103] → k ∉ X) (h : cx_eqX X V C) : cx_eqX X (cx_pay V b p y) (cx_pay C b p y) := by
  have h2 := h 2 (hX _ (by decide))
  have h3 := h 3 (hX _ (by decide))
  have h6 := h 6 (hX _ (by decide))
  have h7 := h 7 (hX _ (by decide))
  have h9 := h 9 (hX _ (by decide))
  have h16 := h 16 (hX _ (by decide))
  have h100 := h 100 (hX _ (by decide))
  have h101 := h 101 (hX _ (by decide))
  have h102 := h 102 (hX _ (by decide))
  have h103 := h 103 (hX _ (by decide))
  have e1 : ∀ (S : mo_S) (z : Int32) m n, sp_force (mo_up S 9 p z) m n = sp_force S m n := fun S z m n => sp_force_cg (by rw [mo_up_ne (by decide)]) n
  have e3 : ∀ (S : mo_S) (z : Int32), sp_O (mo_up S 9 p z) = sp_O S := fun S z => sp_O_cg (by rw [mo_up_ne (by decide)])
  have e5 : ∀ m n, sp_force V m n = sp_force C m n := fun m n => sp_force_cg (h 36 (hX _ (by decide))) n
  have e6 : sp_O V = sp_O C := sp_O_cg (h 29 (hX _ (by decide)))
  unfold cx_pay cx_X1_add cx_X4_pagesFor cx_X4_pagesClauseFor
  simp only [mo_up_ne (show (16 : Nat) ≠ 9 by decide), mo_up_ne (show (102 : Nat) ≠ 9 by decide), mo_up_at, e1, e3, e5, e6, h2, h3, h6, h7, h9, h16, h100, h101, h102, h103]
  repeat' (first | exact h | refine cx_eqX.ite (fun _ => ?_) (fun _ => ?_) | refine cx_eqX.upR ?_)
def cl_rd : List Nat := [2, 3, 4, 5, 6, 7, 8, 9, 10, 13, 16, 24, 25, 26, 29, 36, 100, 101, 102, 103, 106, 110]
theorem cx_run_cgX {X : List Nat} {V C : mo_S} {Qf : cx_Fn} {b p : Nat} (hX : ∀ k, k ∈ cl_rd → k ∉ X) (h : cx_eqX X V C) : cx_eqX X (cx_run V Qf b p) (cx_run C Qf b p) := by
  have e : ∀ k, k ∈ cl_rd → V.1 k = C.1 k := fun k hk => h k (hX k hk)
  have e1 : cx_prc V p = cx_prc C p := by unfold cx_prc; rw [e 5 (by decide), e 6 (by decide), e 10 (by decide)]
  have e2 : cx_usd V p = cx_usd C p := by unfold cx_usd; rw [e1, e 6 (by decide)]
  have eW : sp_W V = sp_W C := by unfold sp_W; rw [e 24 (by decide)]
  have h1 : cx_eqX X (cx_r1 V p) (cx_r1 C p) := by
    unfold cx_r1
    rw [e1, e2, eW, e 10 (by decide), e 9 (by decide), e 7 (by decide), sp_demand_cg (e 25 (by decide)) (e 26 (by decide))]
    exact h.upR.upR
  have e3 : ∀ k, k ∈ cl_rd → (cx_r1 V p).1 k = (cx_r1 C p).1 k := fun k hk => h1 k (hX k hk)
  have c8 : ∀ f, f ∈ cx_rd → f ∈ cl_rd := by decide
  have h2 : cx_eqX X (cx_r2 V Qf b p) (cx_r2 C Qf b p) := by
    unfold cx_r2
    rw [e1, e 6 (by decide), cx_price_cg (T := cx_r1 V p) (C := cx_r1 C p) (fun f hf => e3 f (c8 f hf)) (e3 110 (by decide))]
    refine cx_eqX.ite (fun _ => h1) (fun _ => cx_pay_cgX (fun k hk => hX k ?_) h1)
    revert k
    decide
  unfold cx_run
  rw [e2, e 106 (by decide), h2 10 (hX _ (by decide))]
  exact h2.upR.upR
theorem sp_clr_z {S : mo_S} {i : Nat} : ∀ n, n ≤ i → (sp_clr S n).1 58 i = S.1 58 i
  | 0, _ => rfl
  | n + 1, h => by
    simp only [sp_clr]
    rw [mo_up_at, pk_un (by omega)]
    exact sp_clr_z n (by omega)
/-- the ledger and the swaps as the model has them -/
def cl_fx (C S : mo_S) : mo_S := (fun k => if k = 134 then S.1 2 else if k = 58 then S.1 58 else C.1 k, C.2)
theorem cl_fx_ne {C S : mo_S} {k : Nat} (h : k ≠ 58) (h2 : k ≠ 134) : (cl_fx C S).1 k = C.1 k := by
  show (if k = 134 then S.1 2 else if k = 58 then S.1 58 else C.1 k) = _
  rw [if_neg h2, if_neg h]
theorem cl_fx_eqX {C S : mo_S} : cx_eqX [58, 134] (cl_fx C S) C := fun k hk => by
  simp only [List.mem_cons, List.mem_nil_iff, or_false, not_or] at hk
  exact cl_fx_ne hk.1 hk.2
theorem cl_fx_cg {T C U S : mo_S} (h : ∀ k, k ≠ 58 → k ≠ 134 → T.1 k = C.1 k) (ht : T.2 = C.2) (h2 : U.1 2 = S.1 2) (h58 : U.1 58 = S.1 58) : cl_fx T U = cl_fx C S := by
  refine Prod.ext ?_ ht
  funext k
  show (if k = 134 then U.1 2 else if k = 58 then U.1 58 else T.1 k) = (if k = 134 then S.1 2 else if k = 58 then S.1 58 else C.1 k)
  by_cases a : k = 134
  · rw [if_pos a, if_pos a, h2]
  · rw [if_neg a, if_neg a]
    by_cases b : k = 58
    · rw [if_pos b, if_pos b, h58]
    · rw [if_neg b, if_neg b, h k b a]
section R
variable {C S : mo_S} {F : mo_Fn} {OL : Nat → List od_q}
theorem cl_Q.c (h : cl_Q C S F OL) {T : mo_S} (hT : ∀ k, k < 123 ∨ 125 < k → T.1 k = C.1 k) : cl_Q T S F OL := by
  have q : ∀ k, k ∈ cl_K ++ [14, 15, 60, 61, 115, 126, 133, 134] → k < 123 ∨ 125 < k := by decide
  exact ⟨h.1.c (fun k hk => hT k (q k hk)), h.2.1.c (fun k hk => hT k (by omega)), h.2.2⟩
theorem cl_Q.s (h : cl_Q C S F OL) {T : mo_S} (e : sp_eqM T S) : cl_Q C T F OL := by
  have q : ∀ k, k ∈ cl_K ++ [14, 15, 27, 55, 56, 60, 61, 67] → k < 42 ∨ 52 < k := by decide
  exact ⟨h.1.s (fun k hk => e k (q k hk)), h.2.1.s (fun k hk => e k (by omega)), h.J.cong e, by rw [e 53 (by decide)]; exact h.2.2.2.1, by rw [e 54 (by decide)]; exact h.2.2.2.2⟩
end R
/-- n papers have had their month -/
def cl_N (b M P n : Nat) (F : mo_Fn) (OL : Nat → List od_q) (C S : mo_S) : Prop := cl_Q (cl_fx C S) S F OL ∧ C.1 134 0 = nI (M + 1) ∧ (∀ p x, p < 12 → x < 4 → C.1 126 (48 * M + 4 * p + x) = cl_row S M p x) ∧ (∀ i, C.1 58 i = if i < 12 * n then 0 else S.1 58 i) ∧ (∀ p, p < P → C.1 124 p = S.1 57 p) ∧ sp_M S = M ∧ sp_P S = P ∧ cx_now C = b
theorem cl_row_cg {T S : mo_S} {m p x : Nat} (h55 : T.1 55 (4 * (12 * m + p) + x) = S.1 55 (4 * (12 * m + p) + x)) (h56 : T.1 56 (12 * m + p) = S.1 56 (12 * m + p)) : cl_row T m p x = cl_row S m p x := by
  unfold cl_row
  rw [h55, h56]
theorem cx_write_126 {C : mo_S} {M p q j : Nat} {v : Int32} : (cx_X2_write C M p v q).1 126 j = if j = 48 * M + (4 * p + 3) then C.1 9 q else if j = 48 * M + (4 * p + 2) then C.1 10 q else if j = 48 * M + (4 * p + 1) then C.1 13 q else if j = 48 * M + (4 * p + 0) then v else C.1 126 j := by
  have u : ∀ (A : mo_S) (i : Nat) (w : Int32), (mo_up A 126 i w).1 126 j = if j = i then w else A.1 126 j := fun A i w => by
    rw [mo_up_at]
    by_cases e : j = i
    · rw [e, pk_us, if_pos rfl]
    · rw [pk_un e, if_neg e]
  unfold cx_X2_write
  rw [u, u, u, u, mo_up_ne (by decide), mo_up_ne (by decide), mo_up_ne (by decide), mo_up_ne (by decide), mo_up_ne (by decide), mo_up_ne (by decide)]
theorem cx_write_ne {C : mo_S} {M p q k : Nat} {v : Int32} (h : k ≠ 126) : (cx_X2_write C M p v q).1 k = C.1 k := by
  unfold cx_X2_write
  rw [mo_up_ne h, mo_up_ne h, mo_up_ne h, mo_up_ne h]
section N
variable {b M P n : Nat} {F : mo_Fn} {OL : Nat → List od_q} {C S : mo_S}
theorem cl_N.c (h : cl_N b M P n F OL C S) {T : mo_S} (e : cx_eqX [123] T C) : cl_N b M P n F OL T S := by
  have e : ∀ k, k ≠ 123 → T.1 k = C.1 k := fun k hk => e k (by simp only [List.mem_cons, List.mem_nil_iff, or_false]; exact hk)
  obtain ⟨h1, h2, h3, h4, h5, h6, h7, h8⟩ := h
  refine ⟨h1.c (fun k hk => ?_), by rw [e 134 (by decide)]; exact h2, by rw [e 126 (by decide)]; exact h3, by rw [e 58 (by decide)]; exact h4, by rw [e 124 (by decide)]; exact h5, h6, h7, by rw [cx_now_cg (e 2 (by decide)) (e 29 (by decide)) (e 36 (by decide))]; exact h8⟩
  show (if k = 134 then S.1 2 else if k = 58 then S.1 58 else T.1 k) = (if k = 134 then S.1 2 else if k = 58 then S.1 58 else C.1 k)
  rw [e k (by omega)]
theorem cl_N.s (h : cl_N b M P n F OL C S) {T : mo_S} (e : sp_eqM T S) : cl_N b M P n F OL C T := by
  obtain ⟨h1, h2, h3, h4, h5, h6, h7, h8⟩ := h
  refine ⟨?_, h2, fun p x hp hx => ?_, by rw [e 58 (by decide)]; exact h4, by rw [e 57 (by decide)]; exact h5, by rw [← h6]; unfold sp_M; rw [e 2 (by decide)], by rw [← h7]; exact sp_P_cg (e 1 (by decide)), h8⟩
  · rw [cl_fx_cg (T := C) (C := C) (U := T) (S := S) (fun _ _ _ => rfl) rfl (e 2 (by decide)) (e 58 (by decide))]
    exact h1.s e
  · rw [h3 p x hp hx]
    exact (cl_row_cg (by rw [e 55 (by decide)]) (by rw [e 56 (by decide)])).symm
theorem cl_N.forget (h : cl_N b M P n F OL C S) : cl_N b M P (n + 1) F OL (cx_X5_forgetSwaps C n) S := by
  have e : ∀ k, k ≠ 58 → (cx_X5_forgetSwaps C n).1 k = C.1 k := fun k hk => cx_fl_ne hk _
  obtain ⟨h1, h2, h3, h4, h5, h6, h7, h8⟩ := h
  refine ⟨?_, by rw [e 134 (by decide)]; exact h2, by rw [e 126 (by decide)]; exact h3, fun i => ?_, by rw [e 124 (by decide)]; exact h5, h6, h7, by rw [cx_now_cg (e 2 (by decide)) (e 29 (by decide)) (e 36 (by decide))]; exact h8⟩
  · rw [cl_fx_cg (T := cx_X5_forgetSwaps C n) (C := C) (U := S) (S := S) (fun k hk _ => e k hk) (cx_fl_2 _) rfl rfl]
    exact h1
  · show (cx_fl C 58 (fun j => 12 * n + j) 0 12).1 58 i = _
    by_cases c : 12 * n ≤ i ∧ i < 12 * n + 12
    · have q := cx_fl_at (C := C) (f := 58) (e := fun j => 12 * n + j) (v := 0) 12 (i - 12 * n) (by omega)
      rw [show 12 * n + (i - 12 * n) = i by omega] at q
      rw [q, if_pos (by omega)]
    · rw [cx_fl_no 12 (fun j hj => by omega), h4 i]
      by_cases d : i < 12 * n
      · rw [if_pos d, if_pos (by omega)]
      · rw [if_neg d, if_neg (by omega)]
set_option maxHeartbeats 1000000 in
theorem cl_N.write (h : cl_N b M P n F OL C S) (hn : n < P) {s : Nat} (hs : S.1 10 n = nI s) (hs2 : s ≤ 100000000) : cl_N b M P n F OL (cx_X2_write (cx_run C (cl_Qf OL) b n) M n (C.1 124 n) n) (sp_rowW (sp_prints S F n) (12 * sp_M S + n) n) := by
  obtain ⟨h1, h2, h3, h4, h5, h6, h7, h8⟩ := h
  have hP := h1.J.P.2
  have en : cx_now (cl_fx C S) = b := by
    rw [cx_now_cg (cl_fx_ne (by decide) (by decide)) (cl_fx_ne (by decide) (by decide)) (cl_fx_ne (by decide) (by decide))]
    exact h8
  have hq := h1.run (by rw [h7]; exact hn) hs hs2
  rw [en] at hq
  have eR : ∀ k, k ≠ 58 → k ≠ 134 → (cx_run C (cl_Qf OL) b n).1 k = (cx_run (cl_fx C S) (cl_Qf OL) b n).1 k := fun k a c => (cx_run_cgX (X := [58, 134]) (by decide) cl_fx_eqX k (by simp only [List.mem_cons, List.mem_nil_iff, or_false, not_or]; exact ⟨a, c⟩)).symm
  have wn : ∀ k, k ≠ 126 → (cx_X2_write (cx_run C (cl_Qf OL) b n) M n (C.1 124 n) n).1 k = (cx_run C (cl_Qf OL) b n).1 k := fun k hk => cx_write_ne hk
  have wa : ∀ j, (cx_X2_write (cx_run C (cl_Qf OL) b n) M n (C.1 124 n) n).1 126 j = _ := fun j => cx_write_126
  have eS : ∀ k, k ≠ 9 ∧ k ≠ 10 ∧ k ≠ 13 ∧ ¬ (16 ≤ k ∧ k ≤ 20) → (sp_prints S F n).1 k = S.1 k := fun k hk => sp_prints_ne hk
  have eC : ∀ k, k ≠ 9 ∧ k ≠ 10 ∧ k ≠ 13 ∧ ¬ (16 ≤ k ∧ k ≤ 20) → (cx_run C (cl_Qf OL) b n).1 k = C.1 k := fun k hk => cx_run_ne (by omega)
  have tn : ∀ k, k ≠ 55 → k ≠ 56 → (sp_rowW (sp_prints S F n) (12 * sp_M S + n) n).1 k = (sp_prints S F n).1 k := fun k a c => sp_rowW_ne ⟨a, c⟩
  have t55 : ∀ q j, j < 4 → (sp_rowW (sp_prints S F n) (12 * sp_M S + n) n).1 55 (4 * q + j) = _ := fun q j hj => sp_rowW_55 hj
  have t56 : ∀ q, (sp_rowW (sp_prints S F n) (12 * sp_M S + n) n).1 56 q = _ := fun q => sp_rowW_56
  have hJ := hq.J.rowW (12 * sp_M S + n) n
  generalize hD : cx_X2_write (cx_run C (cl_Qf OL) b n) M n (C.1 124 n) n = D at *
  generalize hT : sp_rowW (sp_prints S F n) (12 * sp_M S + n) n = T at *
  have tM : sp_M T = M := by rw [← h6]; unfold sp_M; rw [tn 2 (by decide) (by decide), eS 2 (by omega)]
  have tP : sp_P T = P := by rw [← h7]; exact sp_P_cg (by rw [tn 1 (by decide) (by decide), eS 1 (by omega)])
  have rowo : ∀ m p x, p < 12 → x < 4 → ¬ (m = M ∧ p = n) → cl_row T m p x = cl_row S m p x := fun m p x hp hx hne => cl_row_cg (by rw [t55 _ x hx, if_neg (by omega), eS 55 (by omega)]) (by rw [t56, if_neg (by omega), eS 56 (by omega)])
  refine ⟨hq.gen (fun k hk => ?_) (fun p => ?_) (fun k hk => ?_) rfl (fun k hk => ?_) (fun m p x hm hp hx => ?_) hJ, ?_, fun p x hp hx => ?_, fun i => ?_, fun p hp => ?_, tM, tP, ?_⟩
  · have c : ∀ k, k ∈ cl_K → k ≠ 134 ∧ k ≠ 126 ∧ k ≠ 55 ∧ k ≠ 56 := by decide
    obtain ⟨c1, c2, c3, c4⟩ := c k hk
    by_cases e : k = 58
    · rw [e]; rfl
    · rw [cl_fx_ne e c1, wn k c2, eR k e c1, tn k c3 c4]
      exact hq.1.k k hk
  · rw [cl_fx_ne (by decide) (by decide), cl_fx_ne (by decide) (by decide), wn 14 (by decide), wn 15 (by decide), eR 14 (by decide) (by decide), eR 15 (by decide) (by decide), tn 12 (by decide) (by decide), tn 14 (by decide) (by decide), tn 15 (by decide) (by decide)]
    exact hq.1.2.1 p
  · rw [cl_fx_ne (by omega) (by omega), wn k (by omega), eR k (by omega) (by omega)]
  · simp only [List.mem_cons, List.mem_nil_iff, or_false] at hk
    exact tn k (by omega) (by omega)
  · rw [tM] at hm
    rw [cl_fx_ne (by decide) (by decide), wa, if_neg (by omega), if_neg (by omega), if_neg (by omega), if_neg (by omega), eC 126 (by omega), rowo m p x hp hx (by omega)]
    have q := h1.1.2.2.2.2.2.1 m p x (by rw [h6]; exact hm) hp hx
    rw [cl_fx_ne (by decide) (by decide)] at q
    exact q
  · rw [wn 134 (by decide), eC 134 (by omega)]; exact h2
  · by_cases e : p = n
    · subst e
      have a13 : (cx_run C (cl_Qf OL) b p).1 13 = (sp_prints S F p).1 13 := by rw [eR 13 (by decide) (by decide)]; exact hq.1.k 13 (by decide)
      have a10 : (cx_run C (cl_Qf OL) b p).1 10 = (sp_prints S F p).1 10 := by rw [eR 10 (by decide) (by decide)]; exact hq.1.k 10 (by decide)
      have a9 : (cx_run C (cl_Qf OL) b p).1 9 = (sp_prints S F p).1 9 := by rw [eR 9 (by decide) (by decide)]; exact hq.1.k 9 (by decide)
      have e56 : T.1 56 (12 * M + p) = 1 := by rw [t56, if_pos (by rw [h6])]
      have e55 : T.1 55 (4 * (12 * M + p) + x) = (if x = 0 then (sp_prints S F p).1 57 p else if x = 1 then (sp_prints S F p).1 13 p else if x = 2 then (sp_prints S F p).1 10 p else (sp_prints S F p).1 9 p) := by rw [t55 _ x hx, if_pos (by rw [h6])]
      unfold cl_row
      rw [if_pos e56, e55, wa]
      obtain rfl | rfl | rfl | rfl : x = 0 ∨ x = 1 ∨ x = 2 ∨ x = 3 := by omega
      · rw [if_neg (by omega), if_neg (by omega), if_neg (by omega), if_pos (by omega), if_pos rfl, h5 p hn, eS 57 (by omega)]
      · rw [if_neg (by omega), if_neg (by omega), if_pos (by omega), if_neg (by decide), if_pos rfl, a13]
      · rw [if_neg (by omega), if_pos (by omega), if_neg (by decide), if_neg (by decide), if_pos rfl, a10]
      · rw [if_pos (by omega), if_neg (by decide), if_neg (by decide), if_neg (by decide), a9]
    · rw [wa, if_neg (by omega), if_neg (by omega), if_neg (by omega), if_neg (by omega), eC 126 (by omega), rowo M p x hp hx (by omega)]
      exact h3 p x hp hx
  · rw [wn 58 (by decide), eC 58 (by omega), tn 58 (by decide) (by decide), eS 58 (by omega)]
    exact h4 i
  · rw [wn 124 (by decide), eC 124 (by omega), tn 57 (by decide) (by decide), eS 57 (by omega)]
    exact h5 p hp
  · rw [cx_now_cg (T := D) (C := C) (by rw [wn 2 (by decide), eC 2 (by omega)]) (by rw [wn 29 (by decide), eC 29 (by omega)]) (by rw [wn 36 (by decide), eC 36 (by omega)])]
    exact h8
theorem cl_N.step (h : cl_N b M P n F OL C S) (hn : n < P) (hs : ∃ s : Nat, S.1 10 n = nI s ∧ s ≤ 100000000) : cl_N b M P (n + 1) F OL (cx_stp C (cl_Qf OL) b M n) (sp_stp F S n) := by
  obtain ⟨s, hs1, hs2⟩ := hs
  have e12 : C.1 12 = S.1 12 := by
    have q := h.1.1.k 12 (by decide)
    rw [cl_fx_ne (by decide) (by decide)] at q
    exact q
  unfold cx_stp sp_stp cx_I
  rw [e12]
  by_cases a : S.1 12 n = 1
  · rw [if_pos (decide_eq_true a), if_pos a]
    exact (h.write hn hs1 hs2).forget
  · rw [if_neg (fun z => a (of_decide_eq_true z)), if_neg a]
    exact h.forget
theorem cl_N.loop (h : cl_N b M P 0 F OL C S) (hs : ∀ n U, n < P → sp_prR F S n U → ∃ s : Nat, U.1 10 n = nI s ∧ s ≤ 100000000) : ∀ {n T U}, n ≤ P → cx_glR (cl_Qf OL) b M C n T → sp_prR F S n U → cl_N b M P n F OL T U
  | 0, T, U, _, hT, hU => by
    have e : T = C := hT
    rw [e]
    exact h.s hU
  | n + 1, T, U, hn, hT, hU => by
    obtain ⟨T1, t1, t2⟩ := hT
    obtain ⟨U1, u1, u2⟩ := hU
    exact (((cl_N.loop h hs (by omega) t1 u1).step (by omega) (hs n U1 (by omega) u1)).s u2).c t2
theorem cl_N.fin (h : cl_N b M P P F OL C S) (h58 : ∀ i, 12 * P ≤ i → i < 144 → S.1 58 i = 0) (hM : M < 600) {S2 : mo_S} (hS2 : sp_eqM S2 (sp_end S)) : cl_Q (mo_up C 2 0 (C.1 2 0 + 1)) S2 F OL := by
  obtain ⟨h1, h2, h3, h4, h5, h6, h7, h8⟩ := h
  have hP := h1.J.P.2
  have e2 : C.1 2 = S.1 2 := by
    have q := h1.1.k 2 (by decide)
    rw [cl_fx_ne (by decide) (by decide)] at q
    exact q
  have m2 : S.1 2 0 = nI M := by rw [← h6]; exact h1.J.M.1
  have en : ∀ k, k ≠ 2 → k ≠ 58 → (k < 42 ∨ 52 < k) → S2.1 k = S.1 k := fun k a c d => by rw [hS2 k d, sp_end_ne a c]
  have en2 : S2.1 2 = upd (S.1 2) 0 (S.1 2 0 + 1) := by
    rw [hS2 2 (by decide)]
    unfold sp_end
    rw [mo_up_at, sp_clr_ne (by decide)]
  have eM2 : sp_M S2 = M + 1 := by
    show (S2.1 2 0).toNatClampNeg = _
    rw [en2, pk_us, m2, nI_1, nI_clamp (by omega)]
  refine h1.gen (fun k hk => ?_) (fun p => ?_) (fun k hk => ?_) ?_ (fun k hk => ?_) (fun m p x hm hp hx => ?_) ((h1.J.end_ (by omega)).1.cong hS2)
  · have c : ∀ k, k ∈ cl_K → k ≠ 134 ∧ (k < 42 ∨ 52 < k) := by decide
    obtain ⟨c1, c2⟩ := c k hk
    by_cases a : k = 2
    · rw [a, mo_up_at, en2, e2]
    · rw [mo_up_ne a]
      by_cases d : k = 58
      · rw [d, hS2 58 (by decide)]
        funext i
        rw [h4 i]
        by_cases f : i < 144
        · rw [sp_end_58 f]
          by_cases g : i < 12 * P
          · rw [if_pos g]
          · rw [if_neg g]; exact h58 i (by omega) f
        · rw [if_neg (by omega)]
          unfold sp_end
          rw [mo_up_ne (by decide), sp_clr_z _ (by omega)]
      · rw [en k a d c2]
        have q := h1.1.k k hk
        rw [cl_fx_ne d c1] at q
        exact q
  · rw [mo_up_ne (by decide), mo_up_ne (by decide), en 12 (by decide) (by decide) (by decide), en 14 (by decide) (by decide) (by decide), en 15 (by decide) (by decide) (by decide)]
    have q := h1.1.2.1 p
    rw [cl_fx_ne (by decide) (by decide), cl_fx_ne (by decide) (by decide)] at q
    exact q
  · rw [mo_up_ne (by omega), cl_fx_ne (by omega) (by omega)]
  · rw [mo_up_ne (by decide), h2, en2, pk_us, m2, nI_1]
  · have c : ∀ k, k ∈ [1, 3, 27, 29, 36, 37, 38, 39, 53, 54, 60, 61, 62, 63, 67] → k ≠ 2 ∧ k ≠ 58 ∧ (k < 42 ∨ 52 < k) := by decide
    obtain ⟨c1, c2, c3⟩ := c k hk
    exact en k c1 c2 c3
  · rw [eM2] at hm
    rw [mo_up_ne (by decide), cl_row_cg (T := S2) (S := S) (by rw [en 55 (by decide) (by decide) (by decide)]) (by rw [en 56 (by decide) (by decide) (by decide)])]
    by_cases e : m = M
    · rw [e]; exact h3 p x hp hx
    · have q := h1.1.2.2.2.2.2.1 m p x (by rw [h6]; omega) hp hx
      rw [cl_fx_ne (by decide) (by decide)] at q
      exact q
end N
end DS
