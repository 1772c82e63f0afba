section DR
/-! ahead of the papers' months: grants, admissions, the parting, the reels -/
theorem sp_gr_cg2 {C S : mo_S} (h : ∀ k, k ∈ [2, 4, 12, 63, 64, 68] → C.1 k = S.1 k) : ∀ n, (sp_gr C n).1 4 = (sp_gr S n).1 4
  | 0 => h 4 (by decide)
  | n + 1 => by
    have q := sp_gr_cg2 h n
    have e : ∀ k, k ≠ 4 → k ∈ [2, 4, 12, 63, 64, 68] → (sp_gr C n).1 k = (sp_gr S n).1 k := fun k h4 hk => by rw [sp_gr_ne h4, sp_gr_ne h4, h k hk]
    simp only [sp_gr]
    rw [e 68 (by decide) (by decide), e 2 (by decide) (by decide), e 12 (by decide) (by decide), e 63 (by decide) (by decide), e 64 (by decide) (by decide)]
    split
    · split
      · rw [mo_up_at, mo_up_at, q]
      · exact q
    · exact q
theorem sp_adm_cg2 {C S : mo_S} {L : Int32} (h : C.1 12 = S.1 12) : ∀ n, (sp_adm C L n).1 = (sp_adm S L n).1 ∧ (sp_adm C L n).2.1 12 = (sp_adm S L n).2.1 12
  | 0 => ⟨rfl, h⟩
  | n + 1 => by
    obtain ⟨q1, q2⟩ := sp_adm_cg2 (L := L) h n
    simp only [sp_adm]
    rw [q1, q2]
    split
    · exact ⟨q1, q2⟩
    · split
      · refine ⟨rfl, ?_⟩
        dsimp only
        rw [mo_up_at, mo_up_at, q2]
      · exact ⟨q1, q2⟩
theorem sp_adm_2 {S : mo_S} {L : Int32} {p : Nat} (h : S.1 12 p = 2) : ∀ n, (sp_adm S L n).2.1 12 p = 2
  | 0 => h
  | n + 1 => by
    have q := sp_adm_2 (L := L) h n
    simp only [sp_adm]
    split
    · exact q
    · split
      · rename_i c
        dsimp only
        rw [mo_up_at]
        have e : p ≠ n := fun e => by subst e; rw [q] at c; exact absurd c (by decide)
        rw [pk_un e]; exact q
      · exact q
theorem cl_S.gen {C S T U : mo_S} (h : cl_S C S) (h1 : ∀ k, k ∈ cl_K → T.1 k = U.1 k) (h2 : ∀ p, (¬ U.1 12 p = 2 → T.1 14 p = U.1 14 p ∧ T.1 15 p = U.1 15 p) ∧ (∃ a : Nat, T.1 14 p = nI a ∧ a ≤ 100000) ∧ ∃ a : Nat, T.1 15 p = nI a ∧ a ≤ 100) (hT : ∀ k, k ∈ [115, 133] → T.1 k = C.1 k) (h134 : T.1 134 0 = U.1 2 0) (hU : ∀ k, k ∈ [1, 3, 27, 60, 61, 62, 63, 67] → U.1 k = S.1 k) (h6 : ∀ m p x, m < sp_M U → p < 12 → x < 4 → T.1 126 (48 * m + 4 * p + x) = cl_row U m p x) : cl_S T U := by
  obtain ⟨a1, a2, a3, a4, a5, a6, a7⟩ := h
  have eX : ps_tx U = ps_tx S := by funext k; unfold ps_tx; rw [hU 27 (by decide)]
  refine ⟨h1, h2, ?_, fun j hj => by rw [eX, hT 115 (by decide)]; exact a4 j hj, ⟨h134, by rw [hT 133 (by decide)]; exact a5.2⟩, h6, ?_⟩
  · unfold sp_P
    rw [hU 1 (by decide), hU 60 (by decide), hU 61 (by decide)]
    exact a3
  · unfold sp_A
    rw [hU 3 (by decide), hU 62 (by decide), hU 63 (by decide), hU 67 (by decide)]
    exact a7
/-- rows of the months that are over stay -/
theorem cl_S.row6 {C S T U : mo_S} (h : cl_S C S) (h126 : T.1 126 = C.1 126) (hU : ∀ k, k ∈ [2, 55, 56] → U.1 k = S.1 k) : ∀ m p x, m < sp_M U → p < 12 → x < 4 → T.1 126 (48 * m + 4 * p + x) = cl_row U m p x := fun m p x hm hp hx => by
  unfold cl_row
  rw [h126, hU 55 (by decide), hU 56 (by decide)]
  refine h.2.2.2.2.2.1 m p x ?_ hp hx
  unfold sp_M at hm ⊢
  rw [hU 2 (by decide)] at hm
  exact hm
section R
variable {C S : mo_S} {F : mo_Fn} {OL : Nat → List od_q}
theorem cl_Q.gen {T U : mo_S} (h : cl_Q C S F OL) (h1 : ∀ k, k ∈ cl_K → T.1 k = U.1 k) (h2 : ∀ p, (¬ U.1 12 p = 2 → T.1 14 p = U.1 14 p ∧ T.1 15 p = U.1 15 p) ∧ (∃ a : Nat, T.1 14 p = nI a ∧ a ≤ 100000) ∧ ∃ a : Nat, T.1 15 p = nI a ∧ a ≤ 100) (hT : ∀ k, k = 36 ∨ (100 ≤ k ∧ k ≤ 115) ∨ k = 133 → T.1 k = C.1 k) (h134 : T.1 134 0 = U.1 2 0) (hU : ∀ k, k ∈ [1, 3, 27, 29, 36, 37, 38, 39, 53, 54, 60, 61, 62, 63, 67] → U.1 k = S.1 k) (h6 : ∀ m p x, m < sp_M U → p < 12 → x < 4 → T.1 126 (48 * m + 4 * p + x) = cl_row U m p x) (hJ : mo_J U F) : cl_Q T U F OL := by
  have s : ∀ k, k ∈ [1, 3, 27, 60, 61, 62, 63, 67] → k ∈ [1, 3, 27, 29, 36, 37, 38, 39, 53, 54, 60, 61, 62, 63, 67] := by decide
  refine ⟨h.1.gen h1 h2 (fun k hk => hT k ?_) h134 (fun k hk => hU k (s k hk)) h6, h.2.1.cg (fun k hk => hT k (by omega)) (fun k hk => ?_), hJ, by rw [hU 53 (by decide)]; exact h.2.2.2.1, by rw [hU 54 (by decide)]; exact h.2.2.2.2⟩
  · simp only [List.mem_cons, List.mem_nil_iff, or_false] at hk
    omega
  · obtain rfl | rfl | rfl | rfl | rfl : k = 29 ∨ k = 36 ∨ k = 37 ∨ k = 38 ∨ k = 39 := by omega
    all_goals exact hU _ (by decide)
theorem cl_Q.go1 (h : cl_Q C S F OL) : cl_Q (cx_go1 C) (sp_adm0 S) F OL := by
  have e : ∀ k, k ∈ [2, 4, 12, 63, 64, 68] → C.1 k = S.1 k := fun k hk => h.1.k k (by revert k; decide)
  have sA := h.1.sz.2.2.2.1
  have e104 : (cx_X11_takeGrants C).1 104 (cx_now C) = sp_X12_much (sp_gr S (sp_A S)) 6 := by
    show (sp_gr C (sp_A C)).1 104 _ = _
    rw [sp_gr_ne (by decide), sp_eqF_much (T := sp_gr S (sp_A S)) (S := S) ⟨sp_gr_ne (by decide) _, sp_gr_ne (by decide) _, sp_gr_ne (by decide) _, sp_gr_ne (by decide) _, sp_gr_ne (by decide) _, sp_gr_ne (by decide) _, sp_gr_ne (by decide) _, sp_gr_ne (by decide) _⟩]
    exact h.vl (x := 6) (by omega) (by omega) (by omega)
  have g4 : (sp_gr C (sp_A C)).1 4 = (sp_gr S (sp_A S)).1 4 := by rw [sA]; exact sp_gr_cg2 e _
  have g12 : (sp_gr C (sp_A C)).1 12 = (sp_gr S (sp_A S)).1 12 := by rw [sp_gr_ne (by decide), sp_gr_ne (by decide)]; exact e 12 (by decide)
  have gP : sp_P (sp_gr C (sp_A C)) = sp_P (sp_gr S (sp_A S)) := by unfold sp_P; rw [sp_gr_ne (by decide), sp_gr_ne (by decide), h.1.k 1 (by decide)]
  have f4 : (cx_go1 C).1 4 = (sp_adm0 S).1 4 := by
    show (sp_adm (sp_gr C (sp_A C)) _ _).2.1 4 = (sp_adm (sp_gr S (sp_A S)) _ _).2.1 4
    rw [sp_adm_ne (by decide), sp_adm_ne (by decide), g4]
  have f12 : (cx_go1 C).1 12 = (sp_adm0 S).1 12 := by
    show (sp_adm (sp_gr C (sp_A C)) ((cx_X11_takeGrants C).1 104 (cx_now C)) (sp_P (sp_gr C (sp_A C)))).2.1 12 = (sp_adm (sp_gr S (sp_A S)) _ (sp_P (sp_gr S (sp_A S)))).2.1 12
    rw [e104, gP]
    exact (sp_adm_cg2 g12 _).2
  have nC : ∀ k, k ≠ 4 → k ≠ 12 → (cx_go1 C).1 k = C.1 k := fun k a b => cx_go1_ne ⟨a, b⟩
  have nS : ∀ k, k ≠ 4 → k ≠ 12 → (sp_adm0 S).1 k = S.1 k := fun k a b => sp_adm0_ne ⟨a, b⟩
  refine h.gen (fun k hk => ?_) (fun p => ?_) (fun k hk => nC k (by omega) (by omega)) (by rw [nC 134 (by decide) (by decide), nS 2 (by decide) (by decide)]; exact h.1.2.2.2.2.1.1) (fun k hk => ?_) (h.1.row6 (nC 126 (by decide) (by decide)) (fun k hk => ?_)) h.J.adm0
  · by_cases k4 : k = 4
    · rw [k4]; exact f4
    · by_cases k12 : k = 12
      · rw [k12]; exact f12
      · rw [nC k k4 k12, nS k k4 k12]; exact h.1.k k hk
  · obtain ⟨b1, b2, b3⟩ := h.1.2.1 p
    rw [nC 14 (by decide) (by decide), nC 15 (by decide) (by decide), nS 14 (by decide) (by decide), nS 15 (by decide) (by decide)]
    refine ⟨fun c => b1 (fun z => c ?_), b2, b3⟩
    exact sp_adm_2 (by rw [sp_gr_ne (by decide)]; exact z) _
  · simp only [List.mem_cons, List.mem_nil_iff, or_false] at hk
    exact nS k (by omega) (by omega)
  · simp only [List.mem_cons, List.mem_nil_iff, or_false] at hk
    exact nS k (by omega) (by omega)
end R
theorem sp_owed_cg2 {A B : mo_S} (h11 : A.1 11 = B.1 11) (h12 : A.1 12 = B.1 12) : ∀ n, sp_owed A n = sp_owed B n
  | 0 => rfl
  | n + 1 => by
    simp only [sp_owed]
    rw [sp_owed_cg2 h11 h12 n, h11, h12]
theorem sp_hand_cg2 {A B : mo_S} {P : Nat} (h : ∀ k, k ∈ [10, 11, 12, 22, 23] → A.1 k = B.1 k) : ∀ n k, k ∈ [10, 11, 12, 22, 23] → (sp_hand A P n).1 k = (sp_hand B P n).1 k
  | 0, k, hk => h k hk
  | n + 1, k, hk => by
    have q := sp_hand_cg2 (P := P) h n
    simp only [sp_hand]
    rw [q 23 (by decide), sp_owed_cg2 (q 11 (by decide)) (q 12 (by decide))]
    by_cases c : (sp_hand B P n).1 23 n = -1
    · rw [if_pos c, if_pos c]
      cases hb : sp_owed (sp_hand B P n) P with
      | none => exact q k hk
      | some b =>
        show (sp_give (sp_hand A P n) n b).1 k = (sp_give (sp_hand B P n) n b).1 k
        unfold sp_give
        rw [q 10 (by decide), q 11 (by decide), q 22 (by decide)]
        simp only [List.mem_cons, List.mem_nil_iff, or_false] at hk
        rcases hk with rfl | rfl | rfl | rfl | rfl
        · rw [mo_up_ne (by decide), mo_up_at, mo_up_ne (by decide), mo_up_ne (by decide), mo_up_at, mo_up_ne (by decide), q 10 (by decide)]
        · rw [mo_up_at, mo_up_at, mo_up_ne (by decide), mo_up_ne (by decide), mo_up_ne (by decide), mo_up_ne (by decide), q 11 (by decide)]
        · rw [mo_up_ne (by decide), mo_up_ne (by decide), mo_up_ne (by decide), mo_up_ne (by decide), mo_up_ne (by decide), mo_up_ne (by decide)]; exact q 12 (by decide)
        · rw [mo_up_ne (by decide), mo_up_ne (by decide), mo_up_ne (by decide), mo_up_ne (by decide), mo_up_ne (by decide), mo_up_ne (by decide)]; exact q 22 (by decide)
        · rw [mo_up_ne (by decide), mo_up_ne (by decide), mo_up_at, mo_up_ne (by decide), mo_up_ne (by decide), mo_up_at, q 23 (by decide)]
    · rw [if_neg c, if_neg c]
      exact q k hk
/-- shares are credited: the class passes over those that aren't admitted, whose share is none -/
theorem cl_cs {V S : mo_S} {sh : Nat → Int32} {way : Int32} {P : Nat} (h9 : V.1 9 = S.1 9) (h11 : V.1 11 = S.1 11) (h12 : V.1 12 = S.1 12) (hs : ∀ j, j < P → V.1 124 j = sh j) (h0 : ∀ j, j < P → ¬ S.1 12 j = 1 → sh j = 0) (h15 : ∀ j, j < P → S.1 12 j = 1 → V.1 15 j = S.1 15 j) : ∀ n, n ≤ P → (cx_cs V way n).1 9 = (sp_div S sh way n).1 9 ∧ (cx_cs V way n).1 11 = (sp_div S sh way n).1 11 ∧ (∀ j, j < n → (cx_cs V way n).1 14 j = 0 ∧ (cx_cs V way n).1 15 j = 0 ∧ (sp_div S sh way n).1 14 j = 0 ∧ (sp_div S sh way n).1 15 j = 0) ∧ (∀ j, n ≤ j → (cx_cs V way n).1 14 j = V.1 14 j ∧ (cx_cs V way n).1 15 j = V.1 15 j)
  | 0, _ => ⟨h9, h11, fun j hj => absurd hj (by omega), fun j _ => ⟨rfl, rfl⟩⟩
  | n + 1, hn => by
    obtain ⟨q9, q11, q0, qn⟩ := cl_cs (way := way) h9 h11 h12 hs h0 h15 n (by omega)
    have e12 : (cx_cs V way n).1 12 n = S.1 12 n := by rw [cx_cs_ne (by decide), h12]
    have e124 : (cx_cs V way n).1 124 n = sh n := by rw [cx_cs_ne (by decide)]; exact hs n (by omega)
    have d15 : (sp_div S sh way n).1 15 n = S.1 15 n := sp_div_z n (Nat.le_refl _)
    have z : ∀ (A : mo_S) j, (mo_up (mo_up A 14 n 0) 15 n 0).1 14 j = (if j = n then 0 else A.1 14 j) ∧ (mo_up (mo_up A 14 n 0) 15 n 0).1 15 j = (if j = n then 0 else A.1 15 j) := fun A j => by
      constructor
      · rw [mo_up_ne (by decide), mo_up_at]
        by_cases e : j = n
        · rw [e, pk_us, if_pos rfl]
        · rw [pk_un e, if_neg e]
      · rw [mo_up_at, mo_up_ne (by decide)]
        by_cases e : j = n
        · rw [e, pk_us, if_pos rfl]
        · rw [pk_un e, if_neg e]
    have fin : ∀ A B : mo_S, A.1 9 = B.1 9 → A.1 11 = B.1 11 → (∀ j, A.1 14 j = (cx_cs V way n).1 14 j ∧ A.1 15 j = (cx_cs V way n).1 15 j) → (∀ j, B.1 14 j = (sp_div S sh way n).1 14 j ∧ B.1 15 j = (sp_div S sh way n).1 15 j) → (mo_up (mo_up A 14 n 0) 15 n 0).1 9 = (mo_up (mo_up B 14 n 0) 15 n 0).1 9 ∧ (mo_up (mo_up A 14 n 0) 15 n 0).1 11 = (mo_up (mo_up B 14 n 0) 15 n 0).1 11 ∧ (∀ j, j < n + 1 → (mo_up (mo_up A 14 n 0) 15 n 0).1 14 j = 0 ∧ (mo_up (mo_up A 14 n 0) 15 n 0).1 15 j = 0 ∧ (mo_up (mo_up B 14 n 0) 15 n 0).1 14 j = 0 ∧ (mo_up (mo_up B 14 n 0) 15 n 0).1 15 j = 0) ∧ (∀ j, n + 1 ≤ j → (mo_up (mo_up A 14 n 0) 15 n 0).1 14 j = V.1 14 j ∧ (mo_up (mo_up A 14 n 0) 15 n 0).1 15 j = V.1 15 j) := fun A B a9 a11 aA aB => by
      refine ⟨by rw [mo_up_ne (by decide), mo_up_ne (by decide), mo_up_ne (by decide), mo_up_ne (by decide)]; exact a9, by rw [mo_up_ne (by decide), mo_up_ne (by decide), mo_up_ne (by decide), mo_up_ne (by decide)]; exact a11, fun j hj => ?_, fun j hj => ?_⟩
      · rw [(z A j).1, (z A j).2, (z B j).1, (z B j).2]
        by_cases e : j = n
        · rw [if_pos e, if_pos e, if_pos e, if_pos e]
          exact ⟨rfl, rfl, rfl, rfl⟩
        · rw [if_neg e, if_neg e, if_neg e, if_neg e, (aA j).1, (aA j).2, (aB j).1, (aB j).2]
          exact q0 j (by omega)
      · rw [(z A j).1, (z A j).2, if_neg (by omega), if_neg (by omega), (aA j).1, (aA j).2]
        exact qn j (by omega)
    simp only [cx_cs, sp_div]
    rw [e12, e124, d15]
    by_cases a : S.1 12 n = 1
    · rw [if_pos a, (qn n (Nat.le_refl _)).2, h15 n (by omega) a]
      by_cases w : way = 3
      · rw [if_pos w, if_pos w]
        refine fin _ _ ?_ ?_ (fun j => ?_) (fun j => ?_)
        · rw [mo_up_at, mo_up_at, mo_up_ne (by decide), mo_up_ne (by decide), mo_up_ne (by decide), q9]
        · rw [mo_up_ne (by decide), mo_up_at, mo_up_ne (by decide), mo_up_at, mo_up_ne (by decide), q11]
        · exact ⟨by rw [mo_up_ne (by decide), mo_up_ne (by decide)], by rw [mo_up_ne (by decide), mo_up_ne (by decide)]⟩
        · exact ⟨by rw [mo_up_ne (by decide), mo_up_ne (by decide), mo_up_ne (by decide)], by rw [mo_up_ne (by decide), mo_up_ne (by decide), mo_up_ne (by decide)]⟩
      · rw [if_neg w, if_neg w]
        refine fin _ _ ?_ ?_ (fun j => ?_) (fun j => ?_)
        · rw [mo_up_ne (by decide), mo_up_ne (by decide), mo_up_ne (by decide), q9]
        · rw [mo_up_at, mo_up_at, mo_up_ne (by decide), q11]
        · exact ⟨by rw [mo_up_ne (by decide)], by rw [mo_up_ne (by decide)]⟩
        · exact ⟨by rw [mo_up_ne (by decide), mo_up_ne (by decide)], by rw [mo_up_ne (by decide), mo_up_ne (by decide)]⟩
    · have s0 := h0 n (by omega) a
      have upid : ∀ (f : Nat → Int32), upd f n (f n) = f := fun f => by
        funext j
        by_cases e : j = n
        · rw [e, pk_us]
        · rw [pk_un e]
      rw [if_neg a, s0]
      by_cases w : way = 3
      · rw [if_pos w]
        refine fin _ _ ?_ ?_ (fun j => ⟨rfl, rfl⟩) (fun j => ?_)
        · rw [mo_up_at, mo_up_ne (by decide), mo_up_ne (by decide), Int32.zero_mul, Int32.sub_zero, upid, q9]
        · rw [mo_up_ne (by decide), mo_up_at, mo_up_ne (by decide), Int32.add_zero, upid, q11]
        · exact ⟨by rw [mo_up_ne (by decide), mo_up_ne (by decide), mo_up_ne (by decide)], by rw [mo_up_ne (by decide), mo_up_ne (by decide), mo_up_ne (by decide)]⟩
      · rw [if_neg w]
        refine fin _ _ ?_ ?_ (fun j => ⟨rfl, rfl⟩) (fun j => ?_)
        · rw [mo_up_ne (by decide), mo_up_ne (by decide), q9]
        · rw [mo_up_at, mo_up_ne (by decide), Int32.add_zero, upid, q11]
        · exact ⟨by rw [mo_up_ne (by decide), mo_up_ne (by decide)], by rw [mo_up_ne (by decide), mo_up_ne (by decide)]⟩
theorem sp_divides_57 {S : mo_S} {F : mo_Fn} {p : Nat} (hp : p < sp_P S) : (sp_divides S F).1 57 p = sp_shN S F (sp_X12_much S 11) p := by
  unfold sp_divides
  exact sp_div_57 _ hp
section R
variable {C S : mo_S} {F : mo_Fn} {OL : Nat → List od_q}
/-- the parting and the reels: V the class behind its parting, T2 the model behind its own -/
theorem cl_Q.parts (h : cl_Q C S F OL) {V T2 : mo_S} (hz : ∀ p, sp_P S ≤ p → S.1 12 p = 0) (hV : cx_eqX [123, 124, 125] V C) (hs : ∀ j, j < sp_P C → V.1 124 j = cx_sh C (cl_w C OL (cx_now C) (C.1 109 (cx_now C))) (sp_f S) (sp_L S) (cx_now C) (C.1 109 (cx_now C)) j) (hT : sp_eqM T2 (sp_divides S F)) : cl_Q (cx_X11_giveReels (cx_X11_creditShares V (C.1 109 (cx_now C)))) (sp_hand T2 (sp_P T2) (sp_R T2)) F OL ∧ ∀ p, p < sp_P S → V.1 124 p = T2.1 57 p := by
  have hP := h.J.P.2
  have eC : sp_P C = sp_P S := h.1.sz.1
  have ex : C.1 109 (cx_now C) = sp_X12_much S 11 := h.vl (x := 11) (by omega) (by omega) (by omega)
  have hx : sp_X12_much S 11 = 0 ∨ 0 < sp_X12_much S 11 := by
    obtain ⟨f, f3, ef⟩ := h.J.way
    rw [ef]
    by_cases f0 : f = 0
    · exact Or.inl (by rw [f0]; rfl)
    · exact Or.inr (nI_lt (a := 0) (by omega) (by omega))
  rw [ex] at hs ⊢
  have hs2 : ∀ j, j < sp_P S → V.1 124 j = sp_shN S F (sp_X12_much S 11) j := fun j hj => by
    rw [hs j (by rw [eC]; exact hj)]
    exact h.sh hj hx
  obtain ⟨s, s1, -, s3⟩ := h.J.shs (sp_X12_much S 11)
  have hv : ∀ k, k ∉ [123, 124, 125] → V.1 k = C.1 k := hV
  have eP : sp_P V = sp_P S := (sp_P_cg (hv 1 (by decide))).trans eC
  obtain ⟨c9, c11, c0, cn⟩ := cl_cs (V := V) (S := S) (sh := sp_shN S F (sp_X12_much S 11)) (way := sp_X12_much S 11) (P := sp_P S) (by rw [hv 9 (by decide)]; exact h.1.k 9 (by decide)) (by rw [hv 11 (by decide)]; exact h.1.k 11 (by decide)) (by rw [hv 12 (by decide)]; exact h.1.k 12 (by decide)) hs2 (fun j hj a => by
    rw [s1 j, s3 j (by
      rw [← h.I (by omega)]
      unfold cx_I
      rw [h.1.k 12 (by decide)]
      exact decide_eq_false a)]
    rfl) (fun j hj a => by rw [hv 15 (by decide)]; exact ((h.1.2.1 j).1 (fun z => by rw [a] at z; exact absurd z (by decide))).2) (sp_P S) (Nat.le_refl _)
  have t : ∀ k, k < 42 ∨ 52 < k → T2.1 k = (sp_divides S F).1 k := hT
  have tP : sp_P T2 = sp_P S := sp_P_cg (by rw [t 1 (by decide), sp_divides_ne (by decide)])
  have tR : sp_R T2 = sp_R S := sp_R_cg (by rw [t 21 (by decide), sp_divides_ne (by decide)])
  have cR : sp_R V = sp_R S := (sp_R_cg (hv 21 (by decide))).trans h.1.sz.2.1
  have hJ : mo_J (sp_hand T2 (sp_P T2) (sp_R T2)) F := ((h.J.div (sp_shN S F (sp_X12_much S 11)) (sp_X12_much S 11) (sp_P S)).cong hT).hand (by rw [tP]; exact hP) _
  have eg : cx_X11_giveReels (cx_X11_creditShares V (sp_X12_much S 11)) = sp_hand (cx_cs V (sp_X12_much S 11) (sp_P S)) (sp_P S) (sp_R S) := by
    show sp_hand (cx_cs V (sp_X12_much S 11) (sp_P V)) (sp_P (cx_cs V (sp_X12_much S 11) (sp_P V))) (sp_R (cx_cs V (sp_X12_much S 11) (sp_P V))) = _
    rw [sp_P_cg (T := cx_cs V (sp_X12_much S 11) (sp_P V)) (C := V) (cx_cs_ne (by decide) _), sp_R_cg (T := cx_cs V (sp_X12_much S 11) (sp_P V)) (C := V) (cx_cs_ne (by decide) _), eP, cR]
  have hA : ∀ k, k ∈ [10, 11, 12, 22, 23] → (cx_cs V (sp_X12_much S 11) (sp_P S)).1 k = T2.1 k := fun k hk => by
    have k42 : k < 42 := by revert k; decide
    rw [t k (Or.inl k42)]
    by_cases e : k = 11
    · rw [e]; exact c11
    · simp only [List.mem_cons, List.mem_nil_iff, or_false] at hk
      rw [cx_cs_ne (by omega), sp_divides_ne (by omega), hv k (by simp only [List.mem_cons, List.mem_nil_iff, or_false]; omega)]
      refine h.1.k k ?_
      rcases hk with rfl | rfl | rfl | rfl | rfl <;> decide
  have hh := sp_hand_cg2 (P := sp_P S) hA (sp_R S)
  refine ⟨?_, fun p hp => by rw [hs2 p hp, t 57 (by decide), sp_divides_57 hp]⟩
  rw [eg, tP, tR]
  rw [tP, tR] at hJ
  have nC : ∀ k, k ∉ [9, 10, 11, 14, 15, 23, 123, 124, 125] → (sp_hand (cx_cs V (sp_X12_much S 11) (sp_P S)) (sp_P S) (sp_R S)).1 k = C.1 k := fun k hk => by
    simp only [List.mem_cons, List.mem_nil_iff, or_false, not_or] at hk
    rw [sp_hand_ne (by omega), cx_cs_ne (by omega), hv k (by simp only [List.mem_cons, List.mem_nil_iff, or_false]; omega)]
  have nS : ∀ k, k ∉ [9, 10, 11, 14, 15, 23, 57] → (k < 42 ∨ 52 < k) → (sp_hand T2 (sp_P S) (sp_R S)).1 k = S.1 k := fun k hk hk2 => by
    simp only [List.mem_cons, List.mem_nil_iff, or_false, not_or] at hk
    rw [sp_hand_ne (by omega), t k hk2, sp_divides_ne (by omega)]
  have r2 : sp_M (sp_hand T2 (sp_P S) (sp_R S)) = sp_M S := by unfold sp_M; rw [nS 2 (by decide) (by decide)]
  refine h.gen (fun k hk => ?_) (fun p => ?_) (fun k hk => nC k ?_) (by rw [nC 134 (by decide), nS 2 (by decide) (by decide)]; exact h.1.2.2.2.2.1.1) (fun k hk => ?_) (h.1.row6 (nC 126 (by decide)) (fun k hk => ?_)) hJ
  · by_cases k1 : k ∈ [10, 11, 12, 22, 23]
    · exact hh k k1
    · simp only [List.mem_cons, List.mem_nil_iff, or_false, not_or] at k1
      have c : ∀ k, k ∈ cl_K → (k < 42 ∨ 52 < k) ∧ k ≠ 14 ∧ k ≠ 15 ∧ k ≠ 57 ∧ k < 123 := by decide
      obtain ⟨c1, c2, c3, c4, c5⟩ := c k hk
      by_cases k9 : k = 9
      · rw [k9, sp_hand_ne (by decide), sp_hand_ne (by decide), t 9 (by decide)]
        exact c9
      · rw [nC k (by simp only [List.mem_cons, List.mem_nil_iff, or_false, not_or]; omega), nS k (by simp only [List.mem_cons, List.mem_nil_iff, or_false, not_or]; omega) c1]
        exact h.1.k k hk
  · rw [sp_hand_ne (k := 14) (by decide), sp_hand_ne (k := 15) (by decide), sp_hand_ne (S := T2) (k := 14) (by decide), sp_hand_ne (S := T2) (k := 15) (by decide), t 14 (by decide), t 15 (by decide)]
    by_cases e : p < sp_P S
    · obtain ⟨d1, d2, d3, d4⟩ := c0 p e
      rw [d1, d2]
      exact ⟨fun _ => ⟨d3.symm, d4.symm⟩, ⟨0, rfl, by decide⟩, ⟨0, rfl, by decide⟩⟩
    · obtain ⟨d1, d2⟩ := cn p (by omega)
      have u14 : (sp_divides S F).1 14 p = S.1 14 p := by unfold sp_divides; rw [sp_div_z _ (by omega)]
      have u15 : (sp_divides S F).1 15 p = S.1 15 p := by unfold sp_divides; rw [sp_div_z _ (by omega)]
      obtain ⟨b1, b2, b3⟩ := h.1.2.1 p
      rw [d1, d2, hv 14 (by decide), hv 15 (by decide), u14, u15]
      exact ⟨fun _ => b1 (fun z => by rw [hz p (by omega)] at z; exact absurd z (by decide)), b2, b3⟩
  · simp only [List.mem_cons, List.mem_nil_iff, or_false, not_or]
    omega
  · have c : ∀ k, k ∈ [1, 3, 27, 29, 36, 37, 38, 39, 53, 54, 60, 61, 62, 63, 67] → k ∉ [9, 10, 11, 14, 15, 23, 57] ∧ (k < 42 ∨ 52 < k) := by decide
    exact nS k (c k hk).1 (c k hk).2
  · have c : ∀ k, k ∈ [2, 55, 56] → k ∉ [9, 10, 11, 14, 15, 23, 57] ∧ (k < 42 ∨ 52 < k) := by decide
    exact nS k (c k hk).1 (c k hk).2
end R
end DR
