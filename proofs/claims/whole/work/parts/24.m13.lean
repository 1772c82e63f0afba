section M13
/-- grants that begin now: the first n appeals -/
def sp_gr (S : mo_S) : Nat → mo_S
  | 0 => S
  | n + 1 => if (sp_gr S n).1 68 n = (sp_gr S n).1 2 0 then (if (sp_gr S n).1 12 ((sp_gr S n).1 63 n).toNatClampNeg = 1 then mo_up (sp_gr S n) 4 ((sp_gr S n).1 63 n).toNatClampNeg ((sp_gr S n).1 64 n) else sp_gr S n) else sp_gr S n
theorem sp_gr_ne {S : mo_S} {k : Nat} (h : k ≠ 4) : ∀ n, (sp_gr S n).1 k = S.1 k
  | 0 => rfl
  | n + 1 => by
    simp only [sp_gr]
    split
    · split
      · rw [mo_up_ne h]; exact sp_gr_ne h n
      · exact sp_gr_ne h n
    · exact sp_gr_ne h n
theorem mo_J.gr {S : mo_S} {F : mo_Fn} (h : mo_J S F) : ∀ n, mo_J (sp_gr S n) F
  | 0 => h
  | n + 1 => by
    have q := h.gr n
    simp only [sp_gr]
    split
    · split
      · exact q.up (by decide) (q.1 64 n (by decide))
      · exact q
    · exact q
theorem mo_J.adm {S : mo_S} {F : mo_Fn} (h : mo_J S F) (L : Int32) : ∀ n, mo_J (sp_adm S L n).2 F
  | 0 => h
  | n + 1 => by
    have q := h.adm L n
    simp only [sp_adm]
    split
    · exact q
    · split
      · exact q.up (by decide) (by decide)
      · exact q
theorem mo_J.div {S : mo_S} {F : mo_Fn} (h : mo_J S F) (sh : Nat → Int32) (way : Int32) : ∀ n, mo_J (sp_div S sh way n) F
  | 0 => h
  | n + 1 => by
    have q := h.div sh way n
    simp only [sp_div]
    split
    · exact ((((q.upA (by decide)).upA (by decide)).upA (by decide)).up (by decide) (by decide)).up (by decide) (by decide)
    · exact (((q.upA (by decide)).upA (by decide)).up (by decide) (by decide)).up (by decide) (by decide)
theorem mo_J.hand {S : mo_S} {F : mo_Fn} (h : mo_J S F) {P : Nat} (hP : P ≤ 12) : ∀ n, mo_J (sp_hand S P n) F
  | 0 => h
  | n + 1 => by
    have q := h.hand hP n
    simp only [sp_hand]
    split
    · split
      · exact q
      · rename_i b hb
        have hb2 := sp_owed_lt hb
        unfold sp_give
        refine ((q.up (by decide) ?_).upA (by decide)).upA (by decide)
        rw [nI_toInt (by omega)]
        have e1 : mo_lo 23 = -2 := by decide
        have e2 : mo_hi 23 = 11 := by decide
        rw [e1, e2]
        omega
    · exact q
theorem mo_J.ite {A B : mo_S} {F : mo_Fn} {c : Prop} [Decidable c] (h1 : c → mo_J A F) (h2 : ¬ c → mo_J B F) : mo_J (if c then A else B) F := by
  by_cases e : c
  · rw [if_pos e]; exact h1 e
  · rw [if_neg e]; exact h2 e
theorem mo_J.brk {S : mo_S} {F : mo_Fn} (h : mo_J S F) (p : Nat) (B PR : Int32) : mo_J (sp_brk S p B PR) F := by
  unfold sp_brk
  repeat' (first | intro _ | with_reducible exact h | with_reducible apply mo_J.ite | with_reducible apply mo_J.upA)
  all_goals decide
theorem mo_J.prints {S : mo_S} {F : mo_Fn} (h : mo_J S F) (p : Nat) : mo_J (sp_prints S F p) F := by
  have h1 : mo_J (sp_pr1 S p) F := (h.upA (by decide)).upA (by decide)
  unfold sp_prints sp_pr2
  refine mo_J.upA (mo_J.upA ?_ (by decide)) (by decide)
  split
  · exact h1
  · exact h1.brk p _ _
theorem sp_brk_ne {S : mo_S} {p : Nat} {B PR : Int32} {k : Nat} (hk : k ≠ 9 ∧ ¬ (16 ≤ k ∧ k ≤ 20)) : (sp_brk S p B PR).1 k = S.1 k := by
  unfold sp_brk
  repeat' (first | rfl | rw [mo_up_ne (by omega)] | split)
theorem sp_prints_ne {S : mo_S} {F : mo_Fn} {p k : Nat} (hk : k ≠ 9 ∧ k ≠ 10 ∧ k ≠ 13 ∧ ¬ (16 ≤ k ∧ k ≤ 20)) : (sp_prints S F p).1 k = S.1 k := by
  have h1 : (sp_pr1 S p).1 k = S.1 k := by unfold sp_pr1; rw [mo_up_ne (by omega), mo_up_ne (by omega)]
  unfold sp_prints sp_pr2
  rw [mo_up_ne (by omega), mo_up_ne (by omega)]
  split
  · exact h1
  · unfold sp_breaks
    rw [sp_brk_ne (by omega)]; exact h1
/-- the row of p -/
def sp_rowW (U : mo_S) (r p : Nat) : mo_S := mo_up (mo_up (mo_up (mo_up (mo_up U 56 r 1) 55 (4 * r) (U.1 57 p)) 55 (4 * r + 1) (U.1 13 p)) 55 (4 * r + 2) (U.1 10 p)) 55 (4 * r + 3) (U.1 9 p)
theorem sp_rowW_ne {U : mo_S} {r p k : Nat} (hk : k ≠ 55 ∧ k ≠ 56) : (sp_rowW U r p).1 k = U.1 k := by
  unfold sp_rowW
  rw [mo_up_ne hk.1, mo_up_ne hk.1, mo_up_ne hk.1, mo_up_ne hk.1, mo_up_ne hk.2]
theorem mo_J.rowW {S : mo_S} {F : mo_Fn} (h : mo_J S F) (r p : Nat) : mo_J (sp_rowW S r p) F :=
  ((((h.up (by decide) (by decide)).upA (by decide)).upA (by decide)).upA (by decide)).upA (by decide)
theorem sp_rowW_cong {T S : mo_S} (h : sp_eqM T S) (r p : Nat) : sp_eqM (sp_rowW T r p) (sp_rowW S r p) := by
  unfold sp_rowW
  rw [h 57 (by decide), h 13 (by decide), h 10 (by decide), h 9 (by decide)]
  exact sp_eqM_up (sp_eqM_up (sp_eqM_up (sp_eqM_up (sp_eqM_up h))))
/-- p prints, if it is admitted, and has its row -/
def sp_stp (F : mo_Fn) (U : mo_S) (n : Nat) : mo_S := if U.1 12 n = 1 then sp_rowW (sp_prints U F n) (12 * sp_M U + n) n else U
def sp_prR (F : mo_Fn) (S : mo_S) : Nat → mo_S → Prop
  | 0, T => sp_eqM T S
  | n + 1, T => ∃ U, sp_prR F S n U ∧ sp_eqM T (sp_stp F U n)
def sp_clr (S : mo_S) : Nat → mo_S
  | 0 => S
  | n + 1 => mo_up (sp_clr S n) 58 n 0
theorem sp_clr_ne {S : mo_S} {k : Nat} (h : k ≠ 58) : ∀ n, (sp_clr S n).1 k = S.1 k
  | 0 => rfl
  | n + 1 => by simp only [sp_clr]; rw [mo_up_ne h, sp_clr_ne h n]
def sp_end (T : mo_S) : mo_S := mo_up (sp_clr T 144) 2 0 ((sp_clr T 144).1 2 0 + 1)
def sp_adm0 (S : mo_S) : mo_S := (sp_adm (sp_gr S (sp_A S)) (sp_X12_much (sp_gr S (sp_A S)) 6) (sp_P (sp_gr S (sp_A S)))).2
/-- a month goes by -/
def sp_goesR (S : mo_S) (F : mo_Fn) (S2 : mo_S) : Prop := ∃ T2 T3, sp_eqM T2 (sp_divides (sp_adm0 S) F) ∧ sp_prR F (sp_hand T2 (sp_P T2) (sp_R T2)) (sp_P S) T3 ∧ sp_eqM S2 (sp_end T3)
theorem mo_J.step {S : mo_S} {F : mo_Fn} (h : mo_J S F) (n : Nat) : mo_J (sp_stp F S n) F := by
  unfold sp_stp
  split
  · exact (h.prints n).rowW _ _
  · exact h
theorem sp_stp_ne {S : mo_S} {F : mo_Fn} {n k : Nat} (hk : k ≠ 9 ∧ k ≠ 10 ∧ k ≠ 13 ∧ ¬ (16 ≤ k ∧ k ≤ 20) ∧ k ≠ 55 ∧ k ≠ 56) : (sp_stp F S n).1 k = S.1 k := by
  unfold sp_stp
  split
  · rw [sp_rowW_ne (by omega), sp_prints_ne (by omega)]
  · rfl
theorem sp_prR_ne {F : mo_Fn} {S : mo_S} {k : Nat} (hk : k ≠ 9 ∧ k ≠ 10 ∧ k ≠ 13 ∧ ¬ (16 ≤ k ∧ k ≤ 20) ∧ k ≠ 55 ∧ k ≠ 56 ∧ (k < 42 ∨ 52 < k)) : ∀ {n T}, sp_prR F S n T → T.1 k = S.1 k
  | 0, T, h => h k (by omega)
  | n + 1, T, h => by
    obtain ⟨U, h1, h2⟩ := h
    rw [h2 k (by omega), sp_stp_ne (by omega), sp_prR_ne hk h1]
theorem sp_prR_J {F : mo_Fn} {S : mo_S} (hS : mo_J S F) : ∀ {n T}, sp_prR F S n T → mo_J T F
  | 0, T, h => hS.cong h
  | n + 1, T, h => by
    obtain ⟨U, h1, h2⟩ := h
    exact ((sp_prR_J hS h1).step n).cong h2
theorem sp_runs_cong {T S : mo_S} (h40 : T.1 40 = S.1 40) (h41 : T.1 41 = S.1 41) (v : Int32 → Int32) : ∀ (n k : Nat) (st : List Int32), sp_runs T v n k st = sp_runs S v n k st
  | 0, _, _ => rfl
  | n + 1, k, st => by
    unfold sp_runs
    rw [h40, h41]
    cases sp_step v (S.1 40 k) (S.1 41 k) st with
    | none => rfl
    | some st' => exact sp_runs_cong h40 h41 v n (k + 1) st'
theorem mo_FF.cong2 {T S : mo_S} {F : mo_Fn} (h : T.1 29 = S.1 29 ∧ T.1 37 = S.1 37 ∧ T.1 38 = S.1 38 ∧ T.1 39 = S.1 39 ∧ T.1 40 = S.1 40 ∧ T.1 41 = S.1 41) (hF : mo_FF S F) : mo_FF T F := by
  intro b n C hb hC hC2 hn hw
  obtain ⟨h29, h37, h38, h39, h40, h41⟩ := h
  unfold sp_O at hb
  rw [h29] at hb
  rw [h37] at hC
  rw [h38] at hw
  obtain ⟨k0, len, e, hwf⟩ := hF b n C hb hC hC2 hn hw
  refine ⟨k0, len, by rw [h39]; exact e, fun v => ?_⟩
  obtain ⟨w1, w2, w3, w4, w5⟩ := hwf v
  exact ⟨w1, w2, by rw [h40]; exact w3, fun j hj => by rw [h40]; exact w4 j hj, by rw [sp_runs_cong h40 h41]; exact w5⟩
theorem mo_J.end_ {S : mo_S} {F : mo_Fn} (h : mo_J S F) (hM : sp_M S < 600) : mo_J (sp_end S) F ∧ (sp_end S).1 1 = S.1 1 ∧ (sp_end S).1 2 0 = nI (sp_M S + 1) := by
  have h1 : ∀ n, mo_J (sp_clr S n) F := by
    intro n
    induction n with
    | zero => exact h
    | succ n ih => exact ih.upA (by decide)
  have e2 : (sp_clr S 144).1 2 0 + 1 = nI (sp_M S + 1) := by rw [sp_clr_ne (by decide), h.M.1, nI_1]
  have hh := h1 144
  unfold sp_end
  rw [e2]
  refine ⟨⟨fun j b hj => ?_, ⟨?_, ?_⟩, ?_, by rw [mo_up_ne (by decide), mo_up_ne (by decide)]; exact hh.2.2.2⟩, by rw [mo_up_ne (by decide), sp_clr_ne (by decide)], by rw [mo_up_at, pk_us]⟩
  · by_cases e : j = 2
    · subst e
      rw [mo_up_at]
      by_cases e3 : b = 0
      · subst e3
        rw [pk_us, nI_toInt (by omega)]
        have a1 : mo_lo 2 = 0 := by decide
        have a2 : mo_hi 2 = 600 := by decide
        rw [a1, a2]
        omega
      · rw [pk_un e3]; exact hh.1 2 b hj
    · rw [mo_up_ne e]; exact hh.1 j b hj
  · exact hh.2.1.1.cong2 ⟨mo_up_ne (by decide), mo_up_ne (by decide), mo_up_ne (by decide), mo_up_ne (by decide), mo_up_ne (by decide), mo_up_ne (by decide)⟩
  · intro b n hb hn
    unfold sp_O at hb
    rw [mo_up_ne (by decide)] at hb hn
    rw [mo_up_ne (by decide), mo_up_ne (by decide)]
    exact hh.2.1.2 b n hb hn
  · intro p hp
    unfold sp_P at hp
    rw [mo_up_ne (by decide)] at hp
    rw [mo_up_ne (by decide), mo_up_ne (by decide)]
    exact hh.2.2.1 p hp
theorem mo_J.adm0 {S : mo_S} {F : mo_Fn} (h : mo_J S F) : mo_J (sp_adm0 S) F := (h.gr _).adm _ _
theorem sp_adm0_ne {S : mo_S} {k : Nat} (hk : k ≠ 4 ∧ k ≠ 12) : (sp_adm0 S).1 k = S.1 k := by
  unfold sp_adm0
  rw [sp_adm_ne hk.2, sp_gr_ne hk.1]
theorem sp_divides_ne {S : mo_S} {F : mo_Fn} {k : Nat} (h : k ≠ 57 ∧ k ≠ 11 ∧ k ≠ 9 ∧ k ≠ 14 ∧ k ≠ 15) : (sp_divides S F).1 k = S.1 k := sp_div_ne h _
/-- what a month leaves -/
theorem sp_goesR_J {S S2 : mo_S} {F : mo_Fn} (h : mo_J S F) (hM : sp_M S < 600) (hg : sp_goesR S F S2) : mo_J S2 F ∧ S2.1 1 = S.1 1 ∧ S2.1 2 0 = nI (sp_M S + 1) := by
  obtain ⟨T2, T3, h1, h2, h3⟩ := hg
  have j2 : mo_J T2 F := (h.adm0.div _ _ _).cong h1
  have j3 : mo_J (sp_hand T2 (sp_P T2) (sp_R T2)) F := j2.hand j2.P.2 _
  have j4 := sp_prR_J j3 h2
  have eM : T3.1 2 = S.1 2 := by rw [sp_prR_ne (by decide) h2, sp_hand_ne (by decide), h1 2 (by decide), sp_divides_ne (by decide), sp_adm0_ne (by decide)]
  have eP : T3.1 1 = S.1 1 := by rw [sp_prR_ne (by decide) h2, sp_hand_ne (by decide), h1 1 (by decide), sp_divides_ne (by decide), sp_adm0_ne (by decide)]
  have eM2 : sp_M T3 = sp_M S := by unfold sp_M; rw [eM]
  obtain ⟨a, b, c⟩ := j4.end_ (by rw [eM2]; exact hM)
  refine ⟨a.cong h3, by rw [h3 1 (by decide), b, eP], by rw [h3 2 (by decide), c, eM2]⟩
/-- n months -/
def sp_goesN (F : mo_Fn) (S : mo_S) : Nat → mo_S → Prop
  | 0, T => T = S
  | n + 1, T => ∃ U, sp_goesN F S n U ∧ sp_goesR U F T
theorem sp_goesN_J {S : mo_S} {F : mo_Fn} (h : mo_J S F) : ∀ {n T}, sp_M S + n ≤ 600 → sp_goesN F S n T → mo_J T F ∧ T.1 1 = S.1 1 ∧ sp_M T = sp_M S + n
  | 0, T, hn, hg => by
    subst hg
    exact ⟨h, rfl, rfl⟩
  | n + 1, T, hn, hg => by
    obtain ⟨U, h1, h2⟩ := hg
    obtain ⟨a, b, c⟩ := sp_goesN_J h (by omega) h1
    obtain ⟨a2, b2, c2⟩ := sp_goesR_J a (by omega) h2
    refine ⟨a2, b2.trans b, ?_⟩
    show (T.1 2 0).toNatClampNeg = _
    rw [c2, nI_clamp (by omega)]
    omega
theorem sp_in_neg {b : Bool} (h : mo_b b = 0) : b = false := mo_b_0 h
theorem mo_J.hg {S : mo_S} {F : mo_Fn} (h : mo_J S F) {p : Nat} (hp : p < sp_P S) : ¬ 3 * S.1 6 p = 0 := by
  obtain ⟨e1, e2⟩ := h.N (k := 6) p 64 (by decide)
  have h3 := (h.2.2.1 p hp).1
  rw [e1] at h3 ⊢
  rw [nI_toInt (by omega)] at h3
  rw [show (3 : Int32) = nI 3 from rfl, pk_mul]
  exact nI_ne0 (by omega) (by omega)

theorem mo_l2 (a b c : Nat) : nI a * nI b + nI c = nI (a * b + c) := by rw [pk_mul, nI_add]
theorem gs_clr {G : ev_G} {W : mo_W} {d : Nat} {g0 : ev_H} {S : mo_S} {F : mo_Fn} {T : mo_S} {v2 : Option Value} (hE : ev_En G) (K : sp_goesR S F (sp_end T))  : ∀ (n i : Nat), i ≤ 144 → 144 < i + n → ∀ (u : Unit), u = () → ∀ g, mo_T G W g0 g (sp_clr T i) → ev_V G d 0 0 mX12_goes (fun o g' => ∃ r S2, o = .inl r ∧ (r = none ∧ sp_goesR S F S2) ∧ mo_T G W g0 g' S2) g 188 [some (.ref W.1), some (.int (nI i)), none] [] := by
  intro n
  induction n with
  | zero => intro i h1 h2; exact absurd h2 (by omega)
  | succ n ih =>
    intro i h1 h2 u hI g hT
    refine ev_iload_n dX12_goes_188 rfl rfl ?_
    refine ev_sipush (v := 144) dX12_goes_189 (by decide) ?_
    refine ev_icmp_ge (tgt := 208) dX12_goes_192 (by decide) (fun c_192 => ?_) (fun c_192 => ?_)
    · have e : i = 144 := by have q := mo_ige (R := 144) rfl (by decide) (by omega) c_192; omega
      subst e
      refine ev_aload_n dX12_goes_208 rfl rfl ?_
      refine ev_dup dX12_goes_209 rfl ?_
      refine mo_geti hE hT dX12_goes_210 fX12_364 (by decide) ?_
      refine ev_iconst (v := 1) dX12_goes_213 (by decide) ?_
      refine ev_iadd dX12_goes_214 ?_
      refine mo_put hE hT dX12_goes_215 pX12_364 (by decide) (fun g hT => ?_)
      exact ev_vret dX12_goes_218 rfl ⟨_, _, rfl, ⟨rfl, K⟩, hT⟩
    · have hlt : i < 144 := mo_ilt (R := 144) rfl (by decide) (by omega) c_192
      refine ev_aload_n dX12_goes_195 rfl rfl ?_
      refine mo_geta hE hT dX12_goes_196 fX12_131 (by decide) ?_
      refine ev_iload_n dX12_goes_199 rfl rfl ?_
      refine ev_iconst (v := 0) dX12_goes_200 (by decide) ?_
      refine mo_iast (q := i) hE hT dX12_goes_201 (by decide) rfl (show _ < 144 from (by omega)) (fun g hT => ?_)
      refine ev_iinc (v := (nI (i + 1))) dX12_goes_202 rfl (by exact nI_1 i) rfl ?_
      refine ev_goto (tgt := 188) dX12_goes_205 (by decide) ?_
      exact ih (i + 1) (by omega) (by omega) () rfl g hT
theorem gs_print {G : ev_G} {W : mo_W} {d : Nat} {g0 : ev_H} {S : mo_S} {F : mo_Fn} (hE : ev_En G) (h : mo_J S F) (hd : 7 ≤ d) (hM : sp_M S < 600) {T2 : mo_S} (hT2 : sp_eqM T2 (sp_divides (sp_adm0 S) F))  : ∀ (n i : Nat), i ≤ sp_P S → sp_P S < i + n → ∀ (T : mo_S), sp_prR F (sp_hand T2 (sp_P T2) (sp_R T2)) i T → ∀ g, mo_T G W g0 g T → ev_V G d 0 0 mX12_goes (fun o g' => ∃ r S2, o = .inl r ∧ (r = none ∧ sp_goesR S F S2) ∧ mo_T G W g0 g' S2) g 75 [some (.ref W.1), some (.int (nI i)), none] [] := by
  intro n
  induction n with
  | zero => intro i h1 h2; exact absurd h2 (by omega)
  | succ n ih =>
    intro i h1 h2 T hI g hT
    have hR := hI
    have hP2 := h.P.2
    have j2 : mo_J T2 F := (h.adm0.div _ _ _).cong hT2
    have hJ := sp_prR_J (j2.hand j2.P.2 _) hR
    have hP9 : T.1 1 0 = nI (sp_P S) := by rw [sp_prR_ne (by decide) hR, sp_hand_ne (by decide), hT2 1 (by decide), sp_divides_ne (by decide), sp_adm0_ne (by decide)]; exact h.P.1
    have hM9 : T.1 2 0 = nI (sp_M S) := by rw [sp_prR_ne (by decide) hR, sp_hand_ne (by decide), hT2 2 (by decide), sp_divides_ne (by decide), sp_adm0_ne (by decide)]; exact h.M.1
    refine ev_iload_n dX12_goes_75 rfl rfl ?_
    refine ev_aload_n dX12_goes_76 rfl rfl ?_
    refine mo_geti hE hT dX12_goes_77 fX12_185 (by decide) ?_
    refine ev_icmp_ge (tgt := 186) dX12_goes_80 (by decide) (fun c_80 => ?_) (fun c_80 => ?_)
    · have e : i = sp_P S := by have q := mo_ige hP9 (by omega) (by omega) c_80; omega
      subst e
      refine ev_iconst (v := nI 0) dX12_goes_186 (by decide) ?_
      refine ev_istore_n dX12_goes_187 rfl (Nat.le_of_ble_eq_true rfl) rfl ?_
      exact gs_clr (v2 := none) hE ⟨T2, T, hT2, hR, sp_eqM_r _⟩ 145 0 (by omega) (by omega) () rfl g hT
    · have hlt : i < sp_P S := mo_ilt hP9 (by omega) (by omega) c_80
      refine ev_aload_n dX12_goes_83 rfl rfl ?_
      refine mo_geta hE hT dX12_goes_84 fX12_37 (by decide) ?_
      refine ev_iload_n dX12_goes_87 rfl rfl ?_
      refine mo_iald (q := i) hE hT dX12_goes_88 (by decide) rfl (show _ < 12 from (by omega)) ?_
      refine ev_iconst (v := 1) dX12_goes_89 (by decide) ?_
      refine ev_icmp_eq (tgt := 96) dX12_goes_90 (by decide) (fun c_90 => ?_) (fun c_90 => ?_)
      · refine ev_aload_n dX12_goes_96 rfl rfl ?_
        refine ev_iload_n dX12_goes_97 rfl rfl ?_
        refine mo_callr1 (d' := d - 1) hE hT dX12_goes_98 rfl rfl kX12_prints lX12_458 iX12_prints vX12_prints (Nat.le_of_ble_eq_true rfl) (by omega) (c_X12_prints hE (by omega) (by omega) (hJ.hg (by unfold sp_P; rw [hP9, nI_clamp (by omega)]; exact hlt)) hJ.W.1 hJ.W.2 hJ.O.1 hJ.O.2 hJ.C hJ.FF) (fun r T2 g h8 hT => ?_)
        obtain ⟨rfl, h8⟩ := h8
        have hM2 : T2.1 2 0 = nI (sp_M S) := by rw [h8 2 (by decide), sp_prints_ne (by decide)]; exact hM9
        have e12 : 12 * T2.1 2 0 + nI i = nI (12 * sp_M S + i) := by rw [hM2]; exact mo_l2 12 (sp_M S) i
        refine ev_bipush (v := 12) dX12_goes_101 (by decide) ?_
        refine ev_aload_n dX12_goes_103 rfl rfl ?_
        refine mo_geti hE hT dX12_goes_104 fX12_364 (by decide) ?_
        refine ev_imul dX12_goes_107 ?_
        refine ev_iload_n dX12_goes_108 rfl rfl ?_
        refine ev_iadd dX12_goes_109 ?_
        rw [e12]
        refine ev_istore_n dX12_goes_110 rfl (Nat.le_of_ble_eq_true rfl) rfl ?_
        refine ev_aload_n dX12_goes_111 rfl rfl ?_
        refine mo_geta hE hT dX12_goes_112 fX12_124 (by decide) ?_
        refine ev_iload_n dX12_goes_115 rfl rfl ?_
        refine ev_iconst (v := 1) dX12_goes_116 (by decide) ?_
        refine mo_zast (q := (12 * sp_M S + i)) hE hT dX12_goes_117 rfl (by omega) (fun g hT => ?_)
        rw [show vp_nar .boolean 1 = (1 : Int32) from by decide] at hT
        refine ev_aload_n dX12_goes_118 rfl rfl ?_
        refine mo_geta hE hT dX12_goes_119 fX12_121 (by decide) ?_
        refine ev_iconst (v := 4) dX12_goes_122 (by decide) ?_
        refine ev_iload_n dX12_goes_123 rfl rfl ?_
        refine ev_imul dX12_goes_124 ?_
        refine ev_aload_n dX12_goes_125 rfl rfl ?_
        refine mo_geta hE hT dX12_goes_126 fX12_128 (by decide) ?_
        refine ev_iload_n dX12_goes_129 rfl rfl ?_
        refine mo_ialdQ (q := i) (v := (T2.1 57 i)) hE hT dX12_goes_130 (by decide) rfl (show _ < 12 from (by omega)) (by simp [sp_bad_ne, mo_up]) ?_
        refine mo_iast (q := (4 * (12 * sp_M S + i))) hE hT dX12_goes_131 (by decide) (by exact pk_mul 4 (12 * sp_M S + i)) (show _ < 28800 from (by omega)) (fun g hT => ?_)
        refine ev_aload_n dX12_goes_132 rfl rfl ?_
        refine mo_geta hE hT dX12_goes_133 fX12_121 (by decide) ?_
        refine ev_iconst (v := 4) dX12_goes_136 (by decide) ?_
        refine ev_iload_n dX12_goes_137 rfl rfl ?_
        refine ev_imul dX12_goes_138 ?_
        refine ev_iconst (v := 1) dX12_goes_139 (by decide) ?_
        refine ev_iadd dX12_goes_140 ?_
        refine ev_aload_n dX12_goes_141 rfl rfl ?_
        refine mo_geta hE hT dX12_goes_142 fX12_40 (by decide) ?_
        refine ev_iload_n dX12_goes_145 rfl rfl ?_
        refine mo_ialdQ (q := i) (v := (T2.1 13 i)) hE hT dX12_goes_146 (by decide) rfl (show _ < 12 from (by omega)) (by simp [sp_bad_ne, mo_up]) ?_
        refine mo_iast (q := (4 * (12 * sp_M S + i) + 1)) hE hT dX12_goes_147 (by decide) (by exact mo_l2 4 (12 * sp_M S + i) 1) (show _ < 28800 from (by omega)) (fun g hT => ?_)
        refine ev_aload_n dX12_goes_148 rfl rfl ?_
        refine mo_geta hE hT dX12_goes_149 fX12_121 (by decide) ?_
        refine ev_iconst (v := 4) dX12_goes_152 (by decide) ?_
        refine ev_iload_n dX12_goes_153 rfl rfl ?_
        refine ev_imul dX12_goes_154 ?_
        refine ev_iconst (v := 2) dX12_goes_155 (by decide) ?_
        refine ev_iadd dX12_goes_156 ?_
        refine ev_aload_n dX12_goes_157 rfl rfl ?_
        refine mo_geta hE hT dX12_goes_158 fX12_31 (by decide) ?_
        refine ev_iload_n dX12_goes_161 rfl rfl ?_
        refine mo_ialdQ (q := i) (v := (T2.1 10 i)) hE hT dX12_goes_162 (by decide) rfl (show _ < 12 from (by omega)) (by simp [sp_bad_ne, mo_up]) ?_
        refine mo_iast (q := (4 * (12 * sp_M S + i) + 2)) hE hT dX12_goes_163 (by decide) (by exact mo_l2 4 (12 * sp_M S + i) 2) (show _ < 28800 from (by omega)) (fun g hT => ?_)
        refine ev_aload_n dX12_goes_164 rfl rfl ?_
        refine mo_geta hE hT dX12_goes_165 fX12_121 (by decide) ?_
        refine ev_iconst (v := 4) dX12_goes_168 (by decide) ?_
        refine ev_iload_n dX12_goes_169 rfl rfl ?_
        refine ev_imul dX12_goes_170 ?_
        refine ev_iconst (v := 3) dX12_goes_171 (by decide) ?_
        refine ev_iadd dX12_goes_172 ?_
        refine ev_aload_n dX12_goes_173 rfl rfl ?_
        refine mo_geta hE hT dX12_goes_174 fX12_28 (by decide) ?_
        refine ev_iload_n dX12_goes_177 rfl rfl ?_
        refine mo_ialdQ (q := i) (v := (T2.1 9 i)) hE hT dX12_goes_178 (by decide) rfl (show _ < 12 from (by omega)) (by simp [sp_bad_ne, mo_up]) ?_
        refine mo_iast (q := (4 * (12 * sp_M S + i) + 3)) hE hT dX12_goes_179 (by decide) (by exact mo_l2 4 (12 * sp_M S + i) 3) (show _ < 28800 from (by omega)) (fun g hT => ?_)
        refine ev_iinc (v := (nI (i + 1))) dX12_goes_180 rfl (by exact nI_1 i) rfl ?_
        refine ev_goto (tgt := 75) dX12_goes_183 (by decide) ?_
        have hlt : i < sp_P S := mo_ilt hP9 (by omega) (by omega) c_80
        have hMT : sp_M T = sp_M S := by unfold sp_M; rw [hM9, nI_clamp (by omega)]; rfl
        first
          | exact ih (i + 1) (by omega) (by omega) T ⟨T, hR, by unfold sp_stp; rw [if_neg c_90]; exact sp_eqM_r T⟩ g hT
          | (refine ev_none 2 ?_
             exact ih (i + 1) (by omega) (by omega) _ ⟨T, hR, by unfold sp_stp; rw [if_pos c_90, hMT]; exact sp_rowW_cong h8 _ _⟩ g hT)
      · refine ev_goto (tgt := 180) dX12_goes_93 (by decide) ?_
        refine ev_iinc (v := (nI (i + 1))) dX12_goes_180 rfl (by exact nI_1 i) rfl ?_
        refine ev_goto (tgt := 75) dX12_goes_183 (by decide) ?_
        have hlt : i < sp_P S := mo_ilt hP9 (by omega) (by omega) c_80
        have hMT : sp_M T = sp_M S := by unfold sp_M; rw [hM9, nI_clamp (by omega)]; rfl
        first
          | exact ih (i + 1) (by omega) (by omega) T ⟨T, hR, by unfold sp_stp; rw [if_neg c_90]; exact sp_eqM_r T⟩ g hT
          | (refine ev_none 2 ?_
             exact ih (i + 1) (by omega) (by omega) _ ⟨T, hR, by unfold sp_stp; rw [if_pos c_90, hMT]; exact sp_rowW_cong h8 _ _⟩ g hT)
theorem gs_grant {G : ev_G} {W : mo_W} {d : Nat} {g0 : ev_H} {S : mo_S} {F : mo_Fn} (hE : ev_En G) (h : mo_J S F) (hd : 8 ≤ d) (hM : sp_M S < 600)  : ∀ (n i : Nat), i ≤ sp_A S → sp_A S < i + n → ∀ (u : Unit), u = () → ∀ g, mo_T G W g0 g (sp_gr S i) → ev_V G d 0 0 mX12_goes (fun o g' => ∃ r S2, o = .inl r ∧ (r = none ∧ sp_goesR S F S2) ∧ mo_T G W g0 g' S2) g 2 [some (.ref W.1), some (.int (nI i)), none] [] := by
  intro n
  induction n with
  | zero => intro i h1 h2; exact absurd h2 (by omega)
  | succ n ih =>
    intro i h1 h2 u hI g hT
    have hA2 := h.A.2
    have hA9 : (sp_gr S i).1 62 0 = nI (sp_A S) := by rw [sp_gr_ne (by decide)]; exact h.A.1
    refine ev_iload_n dX12_goes_2 rfl rfl ?_
    refine ev_aload_n dX12_goes_3 rfl rfl ?_
    refine mo_geti hE hT dX12_goes_4 fX12_446 (by decide) ?_
    refine ev_icmp_ge (tgt := 61) dX12_goes_7 (by decide) (fun c_7 => ?_) (fun c_7 => ?_)
    · have e : i = sp_A S := by have q := mo_ige hA9 (by omega) (by omega) c_7; omega
      subst e
      have jg := h.gr (sp_A S)
      refine ev_aload_n dX12_goes_61 rfl rfl ?_
      refine mo_call0 (d' := d - 1) hE hT dX12_goes_62 rfl rfl kX12_admits lX12_449 iX12_admits vX12_admits (Nat.le_of_ble_eq_true rfl) (by omega) (c_X12_admits hE (by omega) jg.P.1 jg.P.2 jg.O.1 jg.O.2 jg.C) (fun g hT => ?_)
      refine ev_aload_n dX12_goes_65 rfl rfl ?_
      refine mo_callr0 (d' := d - 1) hE hT dX12_goes_66 rfl rfl kX12_divides lX12_452 iX12_divides vX12_divides (Nat.le_of_ble_eq_true rfl) (by omega) (c_X12_divides hE (by omega) h.adm0) (fun r T2 g h8 hT => ?_)
      obtain ⟨rfl, h8⟩ := h8
      have j2 : mo_J T2 F := (h.adm0.div _ _ _).cong h8
      refine ev_aload_n dX12_goes_69 rfl rfl ?_
      refine mo_call0 (d' := d - 1) hE hT dX12_goes_70 rfl rfl kX12_hands lX12_455 iX12_hands vX12_hands (Nat.le_of_ble_eq_true rfl) (by omega) (c_X12_hands hE j2.P.1 j2.P.2 j2.R.1 j2.R.2) (fun g hT => ?_)
      refine ev_iconst (v := (nI 0)) dX12_goes_73 (by decide) ?_
      refine ev_istore_n dX12_goes_74 rfl (Nat.le_of_ble_eq_true rfl) rfl ?_
      exact gs_print hE h (by omega) hM h8 (sp_P S + 1) 0 (by omega) (by omega) _ (sp_eqM_r _) g hT
    · have hlt : i < sp_A S := mo_ilt hA9 (by omega) (by omega) c_7
      have hv := (h.gr i).v (k := 63) i 11 (by decide) 12 (by decide) (by decide)
      refine ev_aload_n dX12_goes_10 rfl rfl ?_
      refine mo_geta hE hT dX12_goes_11 fX12_158 (by decide) ?_
      refine ev_iload_n dX12_goes_14 rfl rfl ?_
      refine mo_iald (q := i) hE hT dX12_goes_15 (by decide) rfl (show _ < 20 from (by omega)) ?_
      refine ev_aload_n dX12_goes_16 rfl rfl ?_
      refine mo_geti hE hT dX12_goes_17 fX12_364 (by decide) ?_
      refine ev_icmp_ne (tgt := 55) dX12_goes_20 (by decide) (fun c_20 => ?_) (fun c_20 => ?_)
      · refine ev_iinc (v := (nI (i + 1))) dX12_goes_55 rfl (by exact nI_1 i) rfl ?_
        refine ev_goto (tgt := 2) dX12_goes_58 (by decide) ?_
        have hlt : i < sp_A S := mo_ilt hA9 (by omega) (by omega) c_7
        first
          | exact ih (i + 1) (by omega) (by omega) () rfl g (by simp only [sp_gr]; rw [if_neg c_20]; exact hT)
          | exact ih (i + 1) (by omega) (by omega) () rfl g (by simp only [sp_gr]; rw [if_pos c_20, if_neg c_35]; exact hT)
          | exact ih (i + 1) (by omega) (by omega) () rfl g (by simp only [sp_gr]; rw [if_pos c_20, if_pos c_35]; exact hT)
      · refine ev_aload_n dX12_goes_23 rfl rfl ?_
        refine mo_geta hE hT dX12_goes_24 fX12_37 (by decide) ?_
        refine ev_aload_n dX12_goes_27 rfl rfl ?_
        refine mo_geta hE hT dX12_goes_28 fX12_143 (by decide) ?_
        refine ev_iload_n dX12_goes_31 rfl rfl ?_
        refine mo_iald (q := i) hE hT dX12_goes_32 (by decide) rfl (show _ < 20 from (by omega)) ?_
        refine mo_ialdV hE hT dX12_goes_33 (by decide) (show vp_in _ 12 from hv) ?_
        refine ev_iconst (v := 1) dX12_goes_34 (by decide) ?_
        refine ev_icmp_ne (tgt := 55) dX12_goes_35 (by decide) (fun c_35 => ?_) (fun c_35 => ?_)
        · refine ev_iinc (v := (nI (i + 1))) dX12_goes_55 rfl (by exact nI_1 i) rfl ?_
          refine ev_goto (tgt := 2) dX12_goes_58 (by decide) ?_
          have hlt : i < sp_A S := mo_ilt hA9 (by omega) (by omega) c_7
          first
            | exact ih (i + 1) (by omega) (by omega) () rfl g (by simp only [sp_gr]; rw [if_neg c_20]; exact hT)
            | exact ih (i + 1) (by omega) (by omega) () rfl g (by simp only [sp_gr]; rw [if_pos c_20, if_neg c_35]; exact hT)
            | exact ih (i + 1) (by omega) (by omega) () rfl g (by simp only [sp_gr]; rw [if_pos c_20, if_pos c_35]; exact hT)
        · refine ev_aload_n dX12_goes_38 rfl rfl ?_
          refine mo_geta hE hT dX12_goes_39 fX12_13 (by decide) ?_
          refine ev_aload_n dX12_goes_42 rfl rfl ?_
          refine mo_geta hE hT dX12_goes_43 fX12_143 (by decide) ?_
          refine ev_iload_n dX12_goes_46 rfl rfl ?_
          refine mo_iald (q := i) hE hT dX12_goes_47 (by decide) rfl (show _ < 20 from (by omega)) ?_
          refine ev_aload_n dX12_goes_48 rfl rfl ?_
          refine mo_geta hE hT dX12_goes_49 fX12_146 (by decide) ?_
          refine ev_iload_n dX12_goes_52 rfl rfl ?_
          refine mo_iald (q := i) hE hT dX12_goes_53 (by decide) rfl (show _ < 20 from (by omega)) ?_
          refine mo_iastV hE hT dX12_goes_54 (by decide) (show vp_in _ 12 from hv) (fun g hT => ?_)
          refine ev_iinc (v := (nI (i + 1))) dX12_goes_55 rfl (by exact nI_1 i) rfl ?_
          refine ev_goto (tgt := 2) dX12_goes_58 (by decide) ?_
          have hlt : i < sp_A S := mo_ilt hA9 (by omega) (by omega) c_7
          first
            | exact ih (i + 1) (by omega) (by omega) () rfl g (by simp only [sp_gr]; rw [if_neg c_20]; exact hT)
            | exact ih (i + 1) (by omega) (by omega) () rfl g (by simp only [sp_gr]; rw [if_pos c_20, if_neg c_35]; exact hT)
            | exact ih (i + 1) (by omega) (by omega) () rfl g (by simp only [sp_gr]; rw [if_pos c_20, if_pos c_35]; exact hT)
theorem c_X12_goes {G : ev_G} {W : mo_W} {d : Nat} {S : mo_S} {F : mo_Fn} (hE : ev_En G) (hd : 8 ≤ d) (h : mo_J S F) (hM : sp_M S < 600) : mo_Cr G W d mX12_goes [] S (fun r S2 => r = none ∧ sp_goesR S F S2) := by
  refine mo_startr (lv0 := [some (.ref W.1), none, none]) (by decide +kernel) rfl (Nat.le_of_ble_eq_true rfl) rfl ?_
  intro g0 g hT
  refine ev_iconst (v := nI 0) dX12_goes_0 (by decide) ?_
  refine ev_istore_n dX12_goes_1 rfl (Nat.le_of_ble_eq_true rfl) rfl ?_
  exact gs_grant hE h hd hM (sp_A S + 1) 0 (by omega) (by omega) () rfl g hT
theorem mt_loop {G : ev_G} {W : mo_W} {d : Nat} {g0 : ev_H} {S : mo_S} {F : mo_Fn} {x1 : Int32} (hE : ev_En G) (h : mo_J S F) {N : Nat} (hd : 9 ≤ d) (hN : x1 = nI N) (hN2 : N ≤ 24) (hi : sp_in x1 0 24 = true) (hm : S.1 2 0 + x1 ≤ 600)  : ∀ (n i : Nat), i ≤ N → N < i + n → ∀ (T : mo_S), sp_goesN F (mo_up S 0 0 0) i T → ∀ g, mo_T G W g0 g T → ev_V G d 0 0 mX12_months (fun o g' => ∃ r S2, o = .inl r ∧ ((r = some (.int 0) ∧ ∃ k, (k = 1 ∧ sp_in x1 0 24 = false ∨ k = 2 ∧ sp_in x1 0 24 = true ∧ 600 < S.1 2 0 + x1) ∧ S2 = mo_up (mo_up S 0 0 0) 0 0 k) ∨ (sp_in x1 0 24 = true ∧ S.1 2 0 + x1 ≤ 600 ∧ ∃ N, x1 = nI N ∧ sp_goesN F (mo_up S 0 0 0) N S2 ∧ r = some (.int (S2.1 2 0)))) ∧ mo_T G W g0 g' S2) g 57 [some (.ref W.1), some (.int (nI N)), some (.int (nI i))] [] := by
  intro n
  induction n with
  | zero => intro i h1 h2; exact absurd h2 (by omega)
  | succ n ih =>
    intro i h1 h2 T hI g hT
    have j0 : mo_J (mo_up S 0 0 0) F := h.upA (by decide)
    have eM0 : sp_M (mo_up S 0 0 0) = sp_M S := by unfold sp_M; rw [mo_up_ne (by decide)]
    have hM600 : sp_M S + N ≤ 600 := by
      have q := hm
      rw [hN, h.M.1, nI_add] at q
      have := h.M.2
      exact (nI_leI (by omega) (by decide)).mp q
    refine ev_iload_n dX12_months_57 rfl rfl ?_
    refine ev_iload_n dX12_months_58 rfl rfl ?_
    refine ev_icmp_ge (tgt := 72) dX12_months_59 (by decide) (fun c_59 => ?_) (fun c_59 => ?_)
    · have e : i = N := by have q := mo_ige rfl (by omega) (by omega) c_59; omega
      subst e
      refine ev_aload_n dX12_months_72 rfl rfl ?_
      refine mo_geti hE hT dX12_months_73 fX12_364 (by decide) ?_
      exact ev_iret dX12_months_76 rfl rfl ⟨_, T, rfl, Or.inr ⟨hi, hm, i, hN, hI, rfl⟩, hT⟩
    · refine ev_aload_n dX12_months_62 rfl rfl ?_
      obtain ⟨jT, -, mT⟩ := sp_goesN_J j0 (n := i) (by omega) hI
      have hlt : i < N := mo_ilt rfl (by omega) (by omega) c_59
      refine mo_callr0 (d' := d - 1) hE hT dX12_months_63 rfl rfl kX12_goes lX12_461 iX12_goes vX12_goes (Nat.le_of_ble_eq_true rfl) (by omega) (c_X12_goes hE (by omega) jT (by omega)) (fun r T2 g h8 hT => ?_)
      obtain ⟨rfl, h8⟩ := h8
      refine ev_iinc (v := (nI (i + 1))) dX12_months_66 rfl (by exact nI_1 i) rfl ?_
      refine ev_goto (tgt := 57) dX12_months_69 (by decide) ?_
      exact ih (i + 1) (by omega) (by omega) T2 ⟨T, hI, h8⟩ g hT
theorem c_X12_months {G : ev_G} {W : mo_W} {d : Nat} {S : mo_S} {F : mo_Fn} {x1 : Int32} (hE : ev_En G) (h : mo_J S F) (hd : 9 ≤ d) : mo_Cr G W d mX12_months [.int x1] S (fun r S2 => (r = some (.int 0) ∧ ∃ k, (k = 1 ∧ sp_in x1 0 24 = false ∨ k = 2 ∧ sp_in x1 0 24 = true ∧ 600 < S.1 2 0 + x1) ∧ S2 = mo_up (mo_up S 0 0 0) 0 0 k) ∨ (sp_in x1 0 24 = true ∧ S.1 2 0 + x1 ≤ 600 ∧ ∃ N, x1 = nI N ∧ sp_goesN F (mo_up S 0 0 0) N S2 ∧ r = some (.int (S2.1 2 0)))) := by
  refine mo_startr (lv0 := [some (.ref W.1), some (.int x1), none]) (by decide +kernel) rfl (Nat.le_of_ble_eq_true rfl) rfl ?_
  intro g0 g hT
  refine ev_aload_n dX12_months_0 rfl rfl ?_
  refine ev_iconst (v := 0) dX12_months_1 (by decide) ?_
  refine mo_put hE hT dX12_months_2 pX12_173 (by decide) (fun g hT => ?_)
  refine ev_aload_n dX12_months_5 rfl rfl ?_
  refine ev_iload_n dX12_months_6 rfl rfl ?_
  refine ev_iconst (v := 0) dX12_months_7 (by decide) ?_
  refine ev_bipush (v := 24) dX12_months_8 (by decide) ?_
  refine ev_pS3 (d' := d - 1) dX12_months_10 rfl kX12_in lX12_176 sX12_in (Nat.le_of_ble_eq_true rfl) (by omega) (c_X12_in) ?_
  have K_21 : ∀ (g : ev_H) (hT : mo_T G W g0 g (mo_up S 0 0 0)), ∀ x9 : Int32, x9 = (mo_b (if (mo_b (sp_in x1 0 24)) = 0 then true else false)) → ev_V G d 0 0 mX12_months (fun o g' => ∃ r S2, o = .inl r ∧ ((r = some (.int 0) ∧ ∃ k, (k = 1 ∧ sp_in x1 0 24 = false ∨ k = 2 ∧ sp_in x1 0 24 = true ∧ 600 < S.1 2 0 + x1) ∧ S2 = mo_up (mo_up S 0 0 0) 0 0 k) ∨ (sp_in x1 0 24 = true ∧ S.1 2 0 + x1 ≤ 600 ∧ ∃ N, x1 = nI N ∧ sp_goesN F (mo_up S 0 0 0) N S2 ∧ r = some (.int (S2.1 2 0)))) ∧ mo_T G W g0 g' S2) g 21 [some (.ref W.1), some (.int x1), none] (.int x9 :: .ref W.1 :: []) := by
    intro g hT x9 h9
    subst h9
    refine ev_iconst (v := 1) dX12_months_21 (by decide) ?_
    refine mo_call2 (d' := d - 1) hE hT dX12_months_22 rfl rfl kX12_bad lX12_181 iX12_bad vX12_bad (Nat.le_of_ble_eq_true rfl) (by omega) (c_X12_bad hE) (fun g hT => ?_)
    refine ev_if_ne (tgt := 53) dX12_months_25 (by decide) (fun c_25 => ?_) (fun c_25 => ?_)
    · refine ev_iconst (v := 0) dX12_months_53 (by decide) ?_
      refine ev_iret dX12_months_54 rfl rfl ⟨_, _, rfl, Or.inl ⟨rfl, ?_⟩, hT⟩
      first
        | (have q : sp_in x1 0 24 = false := by cases hq : sp_in x1 0 24 <;> simp_all [mo_b]
           refine ⟨1, Or.inl ⟨rfl, q⟩, ?_⟩
           rw [q]; rfl)
        | (have q : sp_in x1 0 24 = true := by cases hq : sp_in x1 0 24 <;> simp_all [mo_b]
           have q2 : 600 < S.1 2 0 + x1 := by
             rcases Int32.lt_or_le 600 (S.1 2 0 + x1) with a | a
             · exact a
             · exact absurd a (by intro a; simp_all [mo_b, sp_bad])
           refine ⟨2, Or.inr ⟨rfl, q, q2⟩, ?_⟩
           rw [q]; simp_all [sp_bad, mo_b])
    · refine ev_aload_n dX12_months_28 rfl rfl ?_
      refine ev_aload_n dX12_months_29 rfl rfl ?_
      refine mo_getiE (v := (S.1 2 0)) hE hT dX12_months_30 fX12_364 (by decide) (by simp [sp_bad_ne, mo_up]) ?_
      refine ev_iload_n dX12_months_33 rfl rfl ?_
      refine ev_iadd dX12_months_34 ?_
      refine ev_sipush (v := 600) dX12_months_35 (by decide) ?_
      have K_46 : ∀ (g : ev_H) (hT : mo_T G W g0 g (sp_bad (if (mo_b (sp_in x1 0 24)) = 0 then true else false) 1 (mo_up S 0 0 0))), ∀ x9 : Int32, x9 = (mo_b (if ((S.1 2 0) + x1) ≤ 600 then false else true)) → ev_V G d 0 0 mX12_months (fun o g' => ∃ r S2, o = .inl r ∧ ((r = some (.int 0) ∧ ∃ k, (k = 1 ∧ sp_in x1 0 24 = false ∨ k = 2 ∧ sp_in x1 0 24 = true ∧ 600 < S.1 2 0 + x1) ∧ S2 = mo_up (mo_up S 0 0 0) 0 0 k) ∨ (sp_in x1 0 24 = true ∧ S.1 2 0 + x1 ≤ 600 ∧ ∃ N, x1 = nI N ∧ sp_goesN F (mo_up S 0 0 0) N S2 ∧ r = some (.int (S2.1 2 0)))) ∧ mo_T G W g0 g' S2) g 46 [some (.ref W.1), some (.int x1), none] (.int x9 :: .ref W.1 :: []) := by
        intro g hT x9 h9
        subst h9
        refine ev_iconst (v := 2) dX12_months_46 (by decide) ?_
        refine mo_call2 (d' := d - 1) hE hT dX12_months_47 rfl rfl kX12_bad lX12_181 iX12_bad vX12_bad (Nat.le_of_ble_eq_true rfl) (by omega) (c_X12_bad hE) (fun g hT => ?_)
        refine ev_if_eq (tgt := 55) dX12_months_50 (by decide) (fun c_50 => ?_) (fun c_50 => ?_)
        · have q : sp_in x1 0 24 = true := by cases hq : sp_in x1 0 24 <;> simp_all [mo_b]
          have q2 : S.1 2 0 + x1 ≤ 600 := by
            rcases Int32.lt_or_le 600 (S.1 2 0 + x1) with a | a
            · exact absurd a (by intro a; simp_all [mo_b, sp_bad])
            · exact a
          have q1 : 0 ≤ x1 ∧ x1 ≤ 24 := by simpa [sp_in] using q
          obtain ⟨N, hN, rfl⟩ := nI_of (x := x1) (Int32.not_lt.mpr q1.1)
          have hN2 : N ≤ 24 := (nI_leI hN (by decide)).mp q1.2
          have e9 : ∀ b1 b2, b1 = false → b2 = false → sp_bad b1 2 (sp_bad b2 1 (mo_up S 0 0 0)) = mo_up S 0 0 0 := fun b1 b2 h1 h2 => by rw [h1, h2]; rfl
          refine ev_iconst (v := nI 0) dX12_months_55 (by decide) ?_
          refine ev_istore_n dX12_months_56 rfl (Nat.le_of_ble_eq_true rfl) rfl ?_
          rw [e9 _ _ (by simp_all [mo_b]) (by simp_all [mo_b])] at hT
          exact mt_loop hE h hd rfl hN2 q q2 (N + 1) 0 (by omega) (by omega) _ rfl g hT
        · refine ev_iconst (v := 0) dX12_months_53 (by decide) ?_
          refine ev_iret dX12_months_54 rfl rfl ⟨_, _, rfl, Or.inl ⟨rfl, ?_⟩, hT⟩
          first
            | (have q : sp_in x1 0 24 = false := by cases hq : sp_in x1 0 24 <;> simp_all [mo_b]
               refine ⟨1, Or.inl ⟨rfl, q⟩, ?_⟩
               rw [q]; rfl)
            | (have q : sp_in x1 0 24 = true := by cases hq : sp_in x1 0 24 <;> simp_all [mo_b]
               have q2 : 600 < S.1 2 0 + x1 := by
                 rcases Int32.lt_or_le 600 (S.1 2 0 + x1) with a | a
                 · exact a
                 · exact absurd a (by intro a; simp_all [mo_b, sp_bad])
               refine ⟨2, Or.inr ⟨rfl, q, q2⟩, ?_⟩
               rw [q]; simp_all [sp_bad, mo_b])
      refine ev_icmp_le (tgt := 45) dX12_months_38 (by decide) (fun c_38 => ?_) (fun c_38 => ?_)
      · refine ev_iconst (v := 0) dX12_months_45 (by decide) ?_
        exact K_46 g hT _ (by rw [if_pos c_38]; rfl)
      · refine ev_iconst (v := 1) dX12_months_41 (by decide) ?_
        refine ev_goto (tgt := 46) dX12_months_42 (by decide) ?_
        exact K_46 g hT _ (by rw [if_neg c_38]; rfl)
  refine ev_if_ne (tgt := 20) dX12_months_13 (by decide) (fun c_13 => ?_) (fun c_13 => ?_)
  · refine ev_iconst (v := 0) dX12_months_20 (by decide) ?_
    exact K_21 g hT _ (by rw [if_neg c_13]; rfl)
  · refine ev_iconst (v := 1) dX12_months_16 (by decide) ?_
    refine ev_goto (tgt := 21) dX12_months_17 (by decide) ?_
    exact K_21 g hT _ (by rw [if_pos c_13]; rfl)
end M13
