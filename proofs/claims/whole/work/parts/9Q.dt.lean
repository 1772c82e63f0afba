section DT
/-! a month, and months -/
theorem cx_open_nf {C : mo_S} {k : Nat} (h : k ≠ 126) (h2 : k ≠ 134) : (cx_open C).1 k = C.1 k := by
  unfold cx_open
  rw [cx_fl_ne h, mo_up_ne h2]
theorem cl_Q.open_ {C S : mo_S} {F : mo_Fn} {OL : Nat → List od_q} {b M P : Nat} (h : cl_Q C S F OL) (hM : sp_M S = M) (hM2 : M < 600) (hP : sp_P S = P) (hb : cx_now C = b) (h56 : ∀ p, p < 12 → S.1 56 (12 * M + p) = 0) (h124 : ∀ p, p < P → C.1 124 p = S.1 57 p) : cl_N b M P 0 F OL (cx_open C) S := by
  have cM : cw_M C = M := h.1.sz.2.2.2.2.2.2.2.trans hM
  have e := fun k a c => cx_open_nf (C := C) (k := k) a c
  refine ⟨h.gen (fun k hk => ?_) (fun p => ?_) (fun k hk => ?_) rfl (fun _ _ => rfl) (fun m p x hm hp hx => ?_) h.J, ?_, fun p x hp hx => ?_, fun i => ?_, fun p hp => ?_, hM, hP, ?_⟩
  · have c : ∀ k, k ∈ cl_K → k ≠ 134 ∧ k ≠ 126 := by decide
    obtain ⟨c1, c2⟩ := c k hk
    by_cases d : k = 58
    · rw [d]; rfl
    · rw [cl_fx_ne d c1, e k c2 c1]; exact h.1.k k hk
  · rw [cl_fx_ne (by decide) (by decide), cl_fx_ne (by decide) (by decide), e 14 (by decide) (by decide), e 15 (by decide) (by decide)]
    exact h.1.2.1 p
  · rw [cl_fx_ne (by omega) (by omega), e k (by omega) (by omega)]
  · rw [cl_fx_ne (by decide) (by decide), cx_open_ne (by omega) (by rw [cM]; omega)]
    exact h.1.2.2.2.2.2.1 m p x hm hp hx
  · unfold cx_open
    rw [cx_fl_ne (by decide), mo_up_at, pk_us, cM]
  · have q := cx_open_at (C := C) (j := 4 * p + x) (by omega)
    rw [cM, ← Nat.add_assoc] at q
    unfold cl_row
    rw [q, h56 p hp, if_neg (by decide)]
  · rw [e 58 (by decide) (by decide), h.1.k 58 (by decide)]
    exact (if_neg (by omega)).symm
  · rw [e 124 (by decide) (by decide)]; exact h124 p hp
  · rw [cx_now_cg (e 2 (by decide) (by decide)) (e 29 (by decide) (by decide)) (e 36 (by decide) (by decide))]; exact hb
def cl_wf (OL : Nat → List od_q) (U : mo_S) : Nat → Nat := cl_w (cx_go1 U) OL (cx_now U) (U.1 109 (cx_now U))
def cl_cf (U : mo_S) : Nat → Nat := cl_c (cx_go1 U)
def cl_ff (U : mo_S) : Nat := (U.1 107 (cx_now U)).toNatClampNeg
theorem mo_km.st {B X : Int} {n : Nat} {S T : mo_S} {F : mo_Fn} (h : mo_km B X n S T F) (hB : B ≤ 100000000) {p : Nat} (hp : p < 12) : ∃ s : Nat, T.1 10 p = nI s ∧ s ≤ 100000000 := h.2.2.2.2.1.st h.1 hB hp
theorem cl_R.goes {B : Int} {C S : mo_S} {F : mo_Fn} {OL : Nat → List od_q} (h : cl_R B C S F OL) (hB : B ≤ 100000000) (hM : sp_M S < 600) : cx_gH C (cl_Pf OL) (cl_Qf OL) (cl_wf OL C) (cl_cf C) (cl_ff C) (sp_L C) ∧ ∀ C2 S2, cx_goR C (cl_Qf OL) (cl_wf OL C) (cl_ff C) (sp_L C) C2 → sp_goesR S F S2 → cl_R B C2 S2 F OL := by
  have h1 := h.q.go1
  have hP12 := h.J.P.2
  obtain ⟨sP, sR, sO, sA, sM, sW, sZ, cM⟩ := h.1.sz
  have now1 : cx_now (cx_go1 C) = cx_now C := cx_now_cg (cx_go1_ne (by decide)) (cx_go1_ne (by decide)) (cx_go1_ne (by decide))
  have g109 : (cx_go1 C).1 109 = C.1 109 := cx_go1_ne (by decide)
  have aP : sp_P (sp_adm0 S) = sp_P S := sp_P_cg (sp_adm0_ne (by decide))
  have gP : sp_P (cx_go1 C) = sp_P C := sp_P_cg (cx_go1_ne (by decide))
  have gR : sp_R (cx_go1 C) = sp_R C := sp_R_cg (cx_go1_ne (by decide))
  have ef : cl_ff C = sp_f (sp_adm0 S) := by
    have q := h1.vl (x := 9) (by omega) (by omega) (by omega)
    rw [now1, cx_go1_ne (by decide)] at q
    unfold cl_ff sp_f
    exact congrArg Int32.toNatClampNeg q
  have eL : sp_L C = sp_L (sp_adm0 S) := by
    unfold sp_L
    rw [← gR, ← h1.1.sz.2.1, ← sp_pool_cg (T := cx_go1 C) (C := C) (cx_go1_ne (by decide)) (cx_go1_ne (by decide)), sp_pool_cg (T := cx_go1 C) (C := sp_adm0 S) (h1.1.k 22 (by decide)) (h1.1.k 23 (by decide))]
  have hz : ∀ p, sp_P (sp_adm0 S) ≤ p → (sp_adm0 S).1 12 p = 0 := fun p hp => by
    rw [aP] at hp
    have q : (sp_adm0 S).1 12 p = S.1 12 p := by
      unfold sp_adm0
      rw [sp_P_cg (T := sp_gr S (sp_A S)) (C := S) (sp_gr_ne (by decide) _), sp_adm_z _ hp, sp_gr_ne (by decide)]
    rw [q]
    exact (h.2.2.1.2.1.1 p hp).2.2.2.2.1
  obtain ⟨d1, d2⟩ := h.2.2.km0.divs (by omega)
  have hpH := cl_pH (T := cx_go1 C) h1 (fun _ _ => rfl) (C.1 109 (cx_now C))
  rw [now1] at hpH
  have parts := fun (V T2 : mo_S) (hV : cx_eqX [123, 124, 125] V (cx_go1 C)) (hs : ∀ j, j < sp_P C → V.1 124 j = cx_sh (cx_go1 C) (cl_wf OL C) (sp_f (sp_adm0 S)) (sp_L (sp_adm0 S)) (cx_now C) (C.1 109 (cx_now C)) j) (hT : sp_eqM T2 (sp_divides (sp_adm0 S) F)) => h1.parts hz hV (fun j hj => by rw [now1, g109]; exact hs j (by rw [← gP]; exact hj)) hT
  rw [now1, g109] at parts
  rw [ef, eL]
  refine ⟨⟨h.cd, hpH, ⟨by rw [h.1.k 2 (by decide), cM]; exact h.J.M.1, by rw [cM]; exact hM⟩, h.A, fun p hp => ?_, fun p hp => ?_, h.W, fun V hV hs p hp => ?_⟩, fun C2 S2 hC hS => ?_⟩
  · rw [h.1.k 3 (by decide)]
    obtain ⟨a, b⟩ := h.J.N (k := 3) p 2 (by decide)
    exact ⟨a, by omega⟩
  · rw [h.1.k 6 (by decide)]
    obtain ⟨a, b⟩ := h.J.N (k := 6) p 64 (by decide)
    have g2 := (h.J.2.2.1 p (by rw [← sP]; exact hp)).1
    rw [a, nI_toInt (by omega)] at g2
    exact ⟨a, by omega, by omega⟩
  · obtain ⟨q, -⟩ := parts V _ hV hs (sp_eqM_r _)
    have d3 := d1.hands (by omega) (by omega)
    rw [q.1.k 10 (by decide)]
    obtain ⟨s, e1, e2⟩ := d3.st hB (p := p) (by omega)
    rw [e1, nI_clamp (by omega)]
    exact ⟨rfl, e2⟩
  · obtain ⟨V, T, hV, hs, hg, rfl⟩ := hC
    obtain ⟨T2, T3, q1, q2, q3⟩ := id hS
    obtain ⟨p1, p2⟩ := parts V T2 hV hs q1
    have d3 := (d1.eqM q1).hands (by omega) (by omega)
    have hT2 : ∀ k, k ≠ 10 ∧ k ≠ 11 ∧ k ≠ 23 → (sp_hand T2 (sp_P T2) (sp_R T2)).1 k = T2.1 k := fun k hk => sp_hand_ne hk _
    have vn : ∀ k, k ∉ [123, 124, 125] → V.1 k = (cx_go1 C).1 k := hV
    have hN : cl_N (cx_now C) (sp_M S) (sp_P S) 0 F OL (cx_go2 V (C.1 109 (cx_now C))) (sp_hand T2 (sp_P T2) (sp_R T2)) := by
      refine p1.open_ d3.M hM d3.P ?_ (fun p hp => d3.2.2.2.2.2.1 (sp_M S) p hp (by omega)) (fun p hp => ?_)
      · rw [← now1]
        exact cx_now_cg (by rw [cx_hand_ne (by decide), vn 2 (by decide)]) (by rw [cx_hand_ne (by decide), vn 29 (by decide)]) (by rw [cx_hand_ne (by decide), vn 36 (by decide)])
      · rw [cx_hand_ne (by decide), hT2 57 (by decide)]
        exact p2 p (by rw [aP]; exact hp)
    rw [sP, cM] at hg
    have h57 : ∀ p, p < sp_P S → 0 ≤ ((sp_hand T2 (sp_P T2) (sp_R T2)).1 57 p).toInt := fun p hp => by rw [hT2 57 (by decide), q1 57 (by decide)]; exact d2 p hp
    have hL := hN.loop (fun n U hn hU => (d3.prR hB h57 (by omega) hU).st hB (by omega)) (Nat.le_refl _) hg q2
    have hl58 : T3.1 58 = S.1 58 := by rw [sp_prR_ne (by decide) q2, hT2 58 (by decide), q1 58 (by decide), sp_divides_ne (by decide), sp_adm0_ne (by decide)]
    have hf := hL.fin (fun i a b => by
      rw [hl58]
      have q := h.2.2.1.2.1.2.2 (i / 12) (i % 12) (by omega) (by omega) (Or.inl (by omega))
      rw [show 12 * (i / 12) + i % 12 = i by omega] at q
      exact q) hM q3
    exact ⟨hf.1, hf.2.1, h.2.2.goes hB hM hS⟩
theorem sp_prR_ex {F : mo_Fn} {S : mo_S} : ∀ n, ∃ T, sp_prR F S n T
  | 0 => ⟨S, sp_eqM_r S⟩
  | n + 1 => by
    obtain ⟨U, hU⟩ := sp_prR_ex (F := F) (S := S) n
    exact ⟨_, U, hU, sp_eqM_r _⟩
theorem sp_goesN_ex {F : mo_Fn} {S : mo_S} : ∀ n, ∃ T, sp_goesN F S n T
  | 0 => ⟨S, rfl⟩
  | n + 1 => by
    obtain ⟨U, hU⟩ := sp_goesN_ex (F := F) (S := S) n
    obtain ⟨T3, h3⟩ := sp_prR_ex (F := F) (S := sp_hand (sp_divides (sp_adm0 U) F) (sp_P (sp_divides (sp_adm0 U) F)) (sp_R (sp_divides (sp_adm0 U) F))) (sp_P U)
    exact ⟨_, U, hU, _, T3, sp_eqM_r _, h3, sp_eqM_r _⟩
theorem cl_R.goN {B : Int} {C S : mo_S} {F : mo_Fn} {OL : Nat → List od_q} (h : cl_R B C S F OL) (hB : B ≤ 100000000) : ∀ {n T U}, sp_M S + n ≤ 600 → cx_goN (cl_Qf OL) (cl_wf OL) cl_ff sp_L C n T → sp_goesN F S n U → cl_R B T U F OL
  | 0, T, U, _, hT, hU => by
    have e : T = C := hT
    have e2 : U = S := hU
    rw [e, e2]
    exact h
  | n + 1, T, U, hn, hT, hU => by
    obtain ⟨T1, t1, t2⟩ := hT
    obtain ⟨U1, u1, u2⟩ := hU
    have q := cl_R.goN h hB (by omega) t1 u1
    have m := (sp_goesN_J h.J (n := n) (by omega) u1).2.2
    exact (q.goes hB (by omega)).2 T U t2 u2
theorem cl_R.goH {B : Int} {C S : mo_S} {F : mo_Fn} {OL : Nat → List od_q} (h : cl_R B C S F OL) (hB : B ≤ 100000000) {n : Nat} (hn : sp_M S + n ≤ 600) : ∀ i U, i < n → cx_goN (cl_Qf OL) (cl_wf OL) cl_ff sp_L C i U → cx_gH U (cl_Pf OL) (cl_Qf OL) (cl_wf OL U) (cl_cf U) (cl_ff U) (sp_L U) := fun i U hi hU => by
  obtain ⟨T, hT⟩ := sp_goesN_ex (F := F) (S := S) i
  have q := h.goN hB (by omega) hU hT
  have m := (sp_goesN_J h.J (n := i) (by omega) hT).2.2
  exact (q.goes hB (by omega)).1
end DT
