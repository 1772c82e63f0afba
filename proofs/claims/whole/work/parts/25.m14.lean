section M14
theorem ev_lvE {G : ev_G} {d bc bs : Nat} {M : ev_M} {Post : ev_P} {g : ev_H} {pc : Nat} {lv lv2 : List (Option Value)} {st : List Value} (e : lv = lv2) (k : ev_V G d bc bs M Post g pc lv2 st) : ev_V G d bc bs M Post g pc lv st := e ▸ k
theorem mo_up_tw {S : mo_S} {k i : Nat} {v x : Int32} : mo_up (mo_up S k i v) k i x = mo_up S k i x := by
  unfold mo_up
  refine Prod.ext ?_ rfl
  funext a b
  dsimp only
  split <;> rfl
theorem mo_J.u0 {S : mo_S} {F : mo_Fn} {v : Int32} (h : mo_J S F) : mo_J (mo_up S 0 0 v) F := h.upA (by decide)
/-- the way that is asked for -/
def sp_way (S : mo_S) (x : Int32) : Int32 := if 0 ≤ x then x else sp_X12_much S 11

theorem c_X12_parted {G : ev_G} {W : mo_W} {d : Nat} {S : mo_S} {F : mo_Fn} {x1 x2 : Int32} (hE : ev_En G) (h : mo_J S F) (hd : 9 ≤ d) : mo_Cr G W d mX12_parted [.int x1, .int x2] S (fun r S2 => (r = some (.int 0) ∧ ∃ k : Int32, ((k = 1 ∧ sp_in x1 0 (S.1 1 0 - 1) = false) ∨ (k = 2 ∧ sp_in x1 0 (S.1 1 0 - 1) = true ∧ sp_in x2 (-1) 3 = false)) ∧ S2 = mo_up S 0 0 k) ∨ (sp_in x1 0 (S.1 1 0 - 1) = true ∧ sp_in x2 (-1) 3 = true ∧ (∃ p, x1 = nI p ∧ p < sp_P S ∧ sp_eqM S2 (mo_up S 0 0 0) ∧ r = some (.int (if S.1 12 p = 1 then sp_shN (mo_up S 0 0 0) F (sp_way (mo_up S 0 0 0) x2) p else 0))))) := by
  refine mo_startr (lv0 := [some (.ref W.1), some (.int x1), some (.int x2)]) (by decide +kernel) rfl (Nat.le_of_ble_eq_true rfl) rfl ?_
  intro g0 g hT
  refine ev_aload_n dX12_parted_0 rfl rfl ?_
  refine ev_iload_n dX12_parted_1 rfl rfl ?_
  refine mo_call1 (d' := d - 1) hE hT dX12_parted_2 rfl rfl kX12_isPaper lX12_188 iX12_isPaper vX12_isPaper (Nat.le_of_ble_eq_true rfl) (by omega) (c_X12_isPaper hE (by omega)) (fun g hT => ?_)
  refine ev_if_eq (tgt := 30) dX12_parted_5 (by decide) (fun c_5 => ?_) (fun c_5 => ?_)
  · refine ev_iconst (v := 0) dX12_parted_30 (by decide) ?_
    refine ev_iret dX12_parted_31 rfl rfl ⟨_, _, rfl, Or.inl ⟨rfl, ?_⟩, hT⟩
    clear hT
    first
      | (cases hq0 : sp_in x1 0 (S.1 1 0 - 1) <;> cases hq1 : sp_in x2 (-1) 3 <;> first | (exfalso; simp_all [mo_b]; done) | (refine ⟨1, Or.inl ⟨rfl, rfl⟩, ?_⟩; simp_all [mo_b, sp_bad, mo_up_tw]; done))
      | (cases hq0 : sp_in x1 0 (S.1 1 0 - 1) <;> cases hq1 : sp_in x2 (-1) 3 <;> first | (exfalso; simp_all [mo_b]; done) | (refine ⟨2, Or.inr (⟨rfl, rfl, rfl⟩), ?_⟩; simp_all [mo_b, sp_bad, mo_up_tw]; done))
  · refine ev_aload_n dX12_parted_8 rfl rfl ?_
    refine ev_iload_n dX12_parted_9 rfl rfl ?_
    refine ev_iconst (v := (-1)) dX12_parted_10 (by decide) ?_
    refine ev_iconst (v := 3) dX12_parted_11 (by decide) ?_
    refine ev_pS3 (d' := d - 1) dX12_parted_12 rfl kX12_in lX12_176 sX12_in (Nat.le_of_ble_eq_true rfl) (by omega) (c_X12_in) ?_
    have K_23 : ∀ (g : ev_H) (hT : mo_T G W g0 g (mo_up S 0 0 (mo_b (!sp_in x1 0 (S.1 1 0 - 1))))), ∀ x9 : Int32, x9 = (mo_b (if (mo_b (sp_in x2 (-1) 3)) = 0 then true else false)) → ev_V G d 0 0 mX12_parted (fun o g' => ∃ r S2, o = .inl r ∧ ((r = some (.int 0) ∧ ∃ k : Int32, ((k = 1 ∧ sp_in x1 0 (S.1 1 0 - 1) = false) ∨ (k = 2 ∧ sp_in x1 0 (S.1 1 0 - 1) = true ∧ sp_in x2 (-1) 3 = false)) ∧ S2 = mo_up S 0 0 k) ∨ (sp_in x1 0 (S.1 1 0 - 1) = true ∧ sp_in x2 (-1) 3 = true ∧ (∃ p, x1 = nI p ∧ p < sp_P S ∧ sp_eqM S2 (mo_up S 0 0 0) ∧ r = some (.int (if S.1 12 p = 1 then sp_shN (mo_up S 0 0 0) F (sp_way (mo_up S 0 0 0) x2) p else 0))))) ∧ mo_T G W g0 g' S2) g 23 [some (.ref W.1), some (.int x1), some (.int x2)] (.int x9 :: .ref W.1 :: []) := by
      intro g hT x9 h9
      subst h9
      refine ev_iconst (v := 2) dX12_parted_23 (by decide) ?_
      refine mo_call2 (d' := d - 1) hE hT dX12_parted_24 rfl rfl kX12_bad lX12_181 iX12_bad vX12_bad (Nat.le_of_ble_eq_true rfl) (by omega) (c_X12_bad hE) (fun g hT => ?_)
      refine ev_if_eq (tgt := 32) dX12_parted_27 (by decide) (fun c_27 => ?_) (fun c_27 => ?_)
      · have q0 : sp_in x1 0 (S.1 1 0 - 1) = true := by clear hT; cases hq0 : sp_in x1 0 (S.1 1 0 - 1) <;> cases hq1 : sp_in x2 (-1) 3 <;> first | rfl | (exfalso; simp_all [mo_b]; done)
        have q1 : sp_in x2 (-1) 3 = true := by clear hT; cases hq0 : sp_in x1 0 (S.1 1 0 - 1) <;> cases hq1 : sp_in x2 (-1) 3 <;> first | rfl | (exfalso; simp_all [mo_b]; done)
        rw [show (sp_bad (if (mo_b (sp_in x2 (-1) 3)) = 0 then true else false) 2 (mo_up S 0 0 (mo_b (!sp_in x1 0 (S.1 1 0 - 1))))) = mo_up S 0 0 0 from by simp only [q0, q1]; first | rfl | simp_all [mo_b, sp_bad, mo_up_tw]] at hT
        obtain ⟨p, hp, ep⟩ := mo_vinE (N := 12) h.P.1 h.P.2 (by decide) q0
        refine ev_lvE (lv2 := [some (.ref W.1), some (.int (nI p)), some (.int x2)]) (by rw [ep]) ?_
        have hP2 := h.P.2
        have hu : mo_J (mo_up S 0 0 0) F := h.u0
        refine ev_aload_n dX12_parted_32 rfl rfl ?_
        refine mo_geta hE hT dX12_parted_33 fX12_37 (by decide) ?_
        refine ev_iload_n dX12_parted_36 rfl rfl ?_
        refine mo_ialdQ (q := p) (v := (S.1 12 p)) hE hT dX12_parted_37 (by decide) rfl (show _ < 12 from (by omega)) (by simp [sp_bad_ne, mo_up]) ?_
        refine ev_iconst (v := 1) dX12_parted_38 (by decide) ?_
        refine ev_icmp_eq (tgt := 44) dX12_parted_39 (by decide) (fun c_39 => ?_) (fun c_39 => ?_)
        · refine ev_aload_n dX12_parted_44 rfl rfl ?_
          refine ev_aload_n dX12_parted_45 rfl rfl ?_
          refine mo_call0 (d' := d - 1) hE hT dX12_parted_46 rfl rfl kX12_pool lX12_431 iX12_pool vX12_pool (Nat.le_of_ble_eq_true rfl) (by omega) (c_X12_pool hE hu.R.1 hu.R.2) (fun g hT => ?_)
          refine ev_iload_n dX12_parted_49 rfl rfl ?_
          have K_63 : ∀ (g : ev_H) (hT : mo_T G W g0 g (mo_up S 0 0 0)), ∀ x9 : Int32, x9 = (if 0 ≤ x2 then x2 else (sp_X12_much (mo_up S 0 0 0) 11)) → ev_V G d 0 0 mX12_parted (fun o g' => ∃ r S2, o = .inl r ∧ ((r = some (.int 0) ∧ ∃ k : Int32, ((k = 1 ∧ sp_in x1 0 (S.1 1 0 - 1) = false) ∨ (k = 2 ∧ sp_in x1 0 (S.1 1 0 - 1) = true ∧ sp_in x2 (-1) 3 = false)) ∧ S2 = mo_up S 0 0 k) ∨ (sp_in x1 0 (S.1 1 0 - 1) = true ∧ sp_in x2 (-1) 3 = true ∧ (∃ p, x1 = nI p ∧ p < sp_P S ∧ sp_eqM S2 (mo_up S 0 0 0) ∧ r = some (.int (if S.1 12 p = 1 then sp_shN (mo_up S 0 0 0) F (sp_way (mo_up S 0 0 0) x2) p else 0))))) ∧ mo_T G W g0 g' S2) g 63 [some (.ref W.1), some (.int (nI p)), some (.int x2)] (.int x9 :: .int (sp_pool (mo_up S 0 0 0) (sp_R (mo_up S 0 0 0))) :: .ref W.1 :: []) := by
            intro g hT x9 h9
            subst h9
            rw [hu.L.1]
            refine mo_callr2 (d' := d - 1) hE hT dX12_parted_63 rfl rfl kX12_parts lX12_434 iX12_parts vX12_parts (Nat.le_of_ble_eq_true rfl) (by omega) (c_X12_parts hE (hu.pa (by omega) _)) (fun r T g h8 hT => ?_)
            obtain ⟨rfl, hM, h51⟩ := h8
            refine ev_aload_n dX12_parted_66 rfl rfl ?_
            refine mo_geta hE hT dX12_parted_67 fX12_108 (by decide) ?_
            refine ev_iload_n dX12_parted_70 rfl rfl ?_
            refine mo_iald (q := p) hE hT dX12_parted_71 (by decide) rfl (show _ < 12 from (by omega)) ?_
            exact ev_iret dX12_parted_72 rfl rfl ⟨_, _, rfl, Or.inr ⟨q0, q1, p, ep, hp, hM, by rw [if_pos c_39, h51 p (by show p < sp_P (mo_up S 0 0 0); unfold sp_P; rw [mo_up_ne (by decide)]; exact hp)]; rfl⟩, hT⟩
          refine ev_if_ge (tgt := 62) dX12_parted_50 (by decide) (fun c_50 => ?_) (fun c_50 => ?_)
          · refine ev_iload_n dX12_parted_62 rfl rfl ?_
            exact K_63 g hT _ (by rw [if_pos c_50])
          · refine ev_aload_n dX12_parted_53 rfl rfl ?_
            refine ev_bipush (v := 11) dX12_parted_54 (by decide) ?_
            refine mo_call1 (d' := d - 1) hE hT dX12_parted_56 rfl rfl kX12_much lX12_412 iX12_much vX12_much (Nat.le_of_ble_eq_true rfl) (by omega) (c_X12_much hE (by omega) hu.O.1 hu.O.2 hu.C) (fun g hT => ?_)
            refine ev_goto (tgt := 63) dX12_parted_59 (by decide) ?_
            exact K_63 g hT _ (by rw [if_neg c_50])
        · refine ev_iconst (v := 0) dX12_parted_42 (by decide) ?_
          exact ev_iret dX12_parted_43 rfl rfl ⟨_, _, rfl, Or.inr ⟨q0, q1, p, ep, hp, sp_eqM_r _, by rw [if_neg c_39]⟩, hT⟩
      · refine ev_iconst (v := 0) dX12_parted_30 (by decide) ?_
        refine ev_iret dX12_parted_31 rfl rfl ⟨_, _, rfl, Or.inl ⟨rfl, ?_⟩, hT⟩
        clear hT
        first
          | (cases hq0 : sp_in x1 0 (S.1 1 0 - 1) <;> cases hq1 : sp_in x2 (-1) 3 <;> first | (exfalso; simp_all [mo_b]; done) | (refine ⟨1, Or.inl ⟨rfl, rfl⟩, ?_⟩; simp_all [mo_b, sp_bad, mo_up_tw]; done))
          | (cases hq0 : sp_in x1 0 (S.1 1 0 - 1) <;> cases hq1 : sp_in x2 (-1) 3 <;> first | (exfalso; simp_all [mo_b]; done) | (refine ⟨2, Or.inr (⟨rfl, rfl, rfl⟩), ?_⟩; simp_all [mo_b, sp_bad, mo_up_tw]; done))
    refine ev_if_ne (tgt := 22) dX12_parted_15 (by decide) (fun c_15 => ?_) (fun c_15 => ?_)
    · refine ev_iconst (v := 0) dX12_parted_22 (by decide) ?_
      exact K_23 g hT _ (by rw [if_neg c_15]; rfl)
    · refine ev_iconst (v := 1) dX12_parted_18 (by decide) ?_
      refine ev_goto (tgt := 23) dX12_parted_19 (by decide) ?_
      exact K_23 g hT _ (by rw [if_pos c_15]; rfl)
theorem sp_P_cong {T S : mo_S} (h : T.1 1 = S.1 1) : sp_P T = sp_P S := by unfold sp_P; rw [h]
theorem sp_w_cong {T S : mo_S} {F : mo_Fn} (h : sp_eqM T S) (x : Int32) : sp_w T F x = sp_w S F x := by
  funext p
  unfold sp_w
  rw [show sp_I T p = sp_I S p from sp_eqM_I h p, sp_eqM_weight h]
theorem sp_shN_cong {T S : mo_S} {F : mo_Fn} (h : sp_eqM T S) (x : Int32) (p : Nat) : sp_shN T F x p = sp_shN S F x p := by
  unfold sp_shN sp_sh sp_f sp_L
  rw [show sp_I T = sp_I S from funext fun q => sp_eqM_I h q, sp_w_cong h, h 14 (by decide), h 15 (by decide), sp_P_cong (h 1 (by decide)), sp_eqF_much (sp_eqM_F h), sp_eqF_much (sp_eqM_F h), sp_pool_cong (h 22 (by decide)) (h 23 (by decide)), show sp_R T = sp_R S from by unfold sp_R; rw [h 21 (by decide)]]
theorem sp_part_means {T S : mo_S} {F : mo_Fn} (h : sp_eqM T S) (x : Int32) : sp_part (sp_X12_means T x) F = sp_part (sp_X12_means S x) F :=
  sp_part_cong (sp_eqF_t (sp_eqF_t (sp_eqN_F (sp_eqN_means T x)) (sp_eqM_F h)) ⟨((sp_eqN_means S x).1 2 (by decide)).symm, ((sp_eqN_means S x).1 29 (by decide)).symm, ((sp_eqN_means S x).1 36 (by decide)).symm, ((sp_eqN_means S x).1 37 (by decide)).symm, ((sp_eqN_means S x).1 38 (by decide)).symm, ((sp_eqN_means S x).1 39 (by decide)).symm, ((sp_eqN_means S x).1 40 (by decide)).symm, ((sp_eqN_means S x).1 41 (by decide)).symm⟩) (sp_means_cong (fun k hk => h k (by omega)) x)
/-- the state in which 'gain' parts behind the merger -/
def sp_gn (S : mo_S) (p q : Nat) : mo_S := mo_up (mo_up S 53 0 (nI q)) 54 0 (nI p)
theorem mo_J.gn {S : mo_S} {F : mo_Fn} (h : mo_J S F) {p q : Nat} (hp : p < 12) (hq : q < 12) : mo_J (sp_gn S p q) F := by
  obtain ⟨h1, ⟨h2, h3⟩, h4, h5⟩ := h
  have a1 : mo_lo 53 = -1 := by decide
  have a2 : mo_hi 53 = 11 := by decide
  have a3 : mo_lo 54 = -1 := by decide
  have a4 : mo_hi 54 = 11 := by decide
  have hF : sp_eqF (sp_gn S p q) S := sp_eqF_up (by decide) (sp_eqF_up (by decide) (sp_eqF_r S))
  have hn : ∀ k, k ≠ 53 → k ≠ 54 → (sp_gn S p q).1 k = S.1 k := fun k e1 e2 => by unfold sp_gn; rw [mo_up_ne e2, mo_up_ne e1]
  have h53 : (sp_gn S p q).1 53 = upd (S.1 53) 0 (nI q) := by unfold sp_gn; rw [mo_up_ne (by decide), mo_up_at]
  have h54 : (sp_gn S p q).1 54 = upd (S.1 54) 0 (nI p) := by unfold sp_gn; rw [mo_up_at, mo_up_ne (by decide)]
  refine ⟨fun j b hj => ?_, ⟨h2.cong hF, fun b n hb hn2 => ?_⟩, fun r hr => ?_, Or.inr ?_⟩
  · by_cases e1 : j = 53
    · subst e1
      rw [h53]
      by_cases e : b = 0
      · subst e; rw [pk_us, nI_toInt (by omega), a1, a2]; omega
      · rw [pk_un e]; exact h1 53 b hj
    · by_cases e2 : j = 54
      · subst e2
        rw [h54]
        by_cases e : b = 0
        · subst e; rw [pk_us, nI_toInt (by omega), a3, a4]; omega
        · rw [pk_un e]; exact h1 54 b hj
      · rw [hn j e1 e2]; exact h1 j b hj
  · rw [sp_eqF_O hF] at hb
    rw [hF.2.2.2.1] at hn2
    rw [hF.2.2.2.2.1, hF.2.2.2.2.2.1]
    exact h3 b n hb hn2
  · rw [hn 6 (by decide) (by decide), hn 7 (by decide) (by decide)]
    rw [sp_P_cong (hn 1 (by decide) (by decide))] at hr
    exact h4 r hr
  · rw [h53, pk_us, nI_toInt (by omega)]
    omega
/-- reels that are told in a way, counted -/
def sp_stol (S : mo_S) : Nat → Int32
  | 0 => 0
  | n + 1 => sp_stol S n + (if S.1 23 n = -2 then 1 else 0)
/-- used of a row, as told anew, the first n -/
def sp_anew (S : mo_S) (p : Nat) (m what known v : Int32) : Nat → Int32
  | 0 => v
  | n + 1 => if what = 1 ∧ S.1 74 n = nI p ∧ S.1 75 n = m ∧ S.1 77 n ≤ known then S.1 76 n else sp_anew S p m what known v n
theorem sp_anew_no {S : mo_S} {p : Nat} {m what known v : Int32} (h : ¬ what = 1) : ∀ n, sp_anew S p m what known v n = v
  | 0 => rfl
  | n + 1 => by rw [sp_anew, if_neg (fun q => h q.1), sp_anew_no h n]
/-- the granted one least far from a, the latest of them; among the first n -/
def sp_near (S : mo_S) (a : Nat) : Nat → Option Nat
  | 0 => none
  | n + 1 => if S.1 68 n < 0 then sp_near S a n else match sp_near S a n with
    | none => some n
    | some b => if sp_X12_apartOf S (nI n) (nI a) ≤ sp_X12_apartOf S (nI b) (nI a) then some n else some b
theorem sp_near_lt {S : mo_S} {a : Nat} : ∀ {n b : Nat}, sp_near S a n = some b → b < n
  | 0, b, h => by cases h
  | n + 1, b, h => by
    unfold sp_near at h
    split at h
    · have := sp_near_lt h; omega
    · split at h
      · cases h; omega
      · rename_i c hc
        have := sp_near_lt hc
        split at h <;> cases h <;> omega

def sp_tells (S : mo_S) (F : mo_Fn) (p : Nat) (x2 : Int32) : Int32 :=
  (if x2 = 0 then (sp_part (sp_X12_means S (nI p)) F) else (if x2 = 1 then (sp_X12_much S (1 + (S.1 3 p))) else (if x2 = 2 then (sp_price (sp_X12_means S (nI p)) F) else (if x2 = 3 then (sp_X12_much S ((5 + x2) - 3)) else (if x2 = 4 then (sp_X12_much S ((5 + x2) - 3)) else (if x2 = 5 then (sp_X12_much S ((5 + x2) - 3)) else (if x2 = 6 then (sp_X12_much S ((5 + x2) - 3)) else (if x2 = 7 then (sp_X12_much S ((5 + x2) - 3)) else (if x2 = 8 then (sp_X12_much S 11) else (sp_X12_much S ((5 + x2) - 3)))))))))))
theorem c_X12_tells {G : ev_G} {W : mo_W} {d : Nat} {S : mo_S} {F : mo_Fn} {x1 x2 : Int32} (hE : ev_En G) (h : mo_J S F) (hd : 9 ≤ d) : mo_Cr G W d mX12_tells [.int x1, .int x2] S (fun r S2 => (r = some (.int 0) ∧ ∃ k : Int32, ((k = 1 ∧ sp_in x1 0 (S.1 1 0 - 1) = false) ∨ (k = 2 ∧ sp_in x1 0 (S.1 1 0 - 1) = true ∧ sp_in x2 0 8 = false)) ∧ S2 = mo_up S 0 0 k) ∨ (sp_in x1 0 (S.1 1 0 - 1) = true ∧ sp_in x2 0 8 = true ∧ (∃ p, x1 = nI p ∧ p < sp_P S ∧ sp_eqM S2 (mo_up S 0 0 0) ∧ r = some (.int (sp_tells (mo_up S 0 0 0) F p x2))))) := by
  refine mo_startr (lv0 := [some (.ref W.1), some (.int x1), some (.int x2)]) (by decide +kernel) rfl (Nat.le_of_ble_eq_true rfl) rfl ?_
  intro g0 g hT
  refine ev_aload_n dX12_tells_0 rfl rfl ?_
  refine ev_iload_n dX12_tells_1 rfl rfl ?_
  refine mo_call1 (d' := d - 1) hE hT dX12_tells_2 rfl rfl kX12_isPaper lX12_188 iX12_isPaper vX12_isPaper (Nat.le_of_ble_eq_true rfl) (by omega) (c_X12_isPaper hE (by omega)) (fun g hT => ?_)
  refine ev_if_eq (tgt := 31) dX12_tells_5 (by decide) (fun c_5 => ?_) (fun c_5 => ?_)
  · refine ev_iconst (v := 0) dX12_tells_31 (by decide) ?_
    refine ev_iret dX12_tells_32 rfl rfl ⟨_, _, rfl, Or.inl ⟨rfl, ?_⟩, hT⟩
    clear hT
    first
      | (cases hq0 : sp_in x1 0 (S.1 1 0 - 1) <;> cases hq1 : sp_in x2 0 8 <;> first | (exfalso; simp_all [mo_b]; done) | (refine ⟨1, Or.inl ⟨rfl, rfl⟩, ?_⟩; simp_all [mo_b, sp_bad, mo_up_tw]; done))
      | (cases hq0 : sp_in x1 0 (S.1 1 0 - 1) <;> cases hq1 : sp_in x2 0 8 <;> first | (exfalso; simp_all [mo_b]; done) | (refine ⟨2, Or.inr (⟨rfl, rfl, rfl⟩), ?_⟩; simp_all [mo_b, sp_bad, mo_up_tw]; done))
  · refine ev_aload_n dX12_tells_8 rfl rfl ?_
    refine ev_iload_n dX12_tells_9 rfl rfl ?_
    refine ev_iconst (v := 0) dX12_tells_10 (by decide) ?_
    refine ev_bipush (v := 8) dX12_tells_11 (by decide) ?_
    refine ev_pS3 (d' := d - 1) dX12_tells_13 rfl kX12_in lX12_176 sX12_in (Nat.le_of_ble_eq_true rfl) (by omega) (c_X12_in) ?_
    have K_24 : ∀ (g : ev_H) (hT : mo_T G W g0 g (mo_up S 0 0 (mo_b (!sp_in x1 0 (S.1 1 0 - 1))))), ∀ x9 : Int32, x9 = (mo_b (if (mo_b (sp_in x2 0 8)) = 0 then true else false)) → ev_V G d 0 0 mX12_tells (fun o g' => ∃ r S2, o = .inl r ∧ ((r = some (.int 0) ∧ ∃ k : Int32, ((k = 1 ∧ sp_in x1 0 (S.1 1 0 - 1) = false) ∨ (k = 2 ∧ sp_in x1 0 (S.1 1 0 - 1) = true ∧ sp_in x2 0 8 = false)) ∧ S2 = mo_up S 0 0 k) ∨ (sp_in x1 0 (S.1 1 0 - 1) = true ∧ sp_in x2 0 8 = true ∧ (∃ p, x1 = nI p ∧ p < sp_P S ∧ sp_eqM S2 (mo_up S 0 0 0) ∧ r = some (.int (sp_tells (mo_up S 0 0 0) F p x2))))) ∧ mo_T G W g0 g' S2) g 24 [some (.ref W.1), some (.int x1), some (.int x2)] (.int x9 :: .ref W.1 :: []) := by
      intro g hT x9 h9
      subst h9
      refine ev_iconst (v := 2) dX12_tells_24 (by decide) ?_
      refine mo_call2 (d' := d - 1) hE hT dX12_tells_25 rfl rfl kX12_bad lX12_181 iX12_bad vX12_bad (Nat.le_of_ble_eq_true rfl) (by omega) (c_X12_bad hE) (fun g hT => ?_)
      refine ev_if_eq (tgt := 33) dX12_tells_28 (by decide) (fun c_28 => ?_) (fun c_28 => ?_)
      · have q0 : sp_in x1 0 (S.1 1 0 - 1) = true := by clear hT; cases hq0 : sp_in x1 0 (S.1 1 0 - 1) <;> cases hq1 : sp_in x2 0 8 <;> first | rfl | (exfalso; simp_all [mo_b]; done)
        have q1 : sp_in x2 0 8 = true := by clear hT; cases hq0 : sp_in x1 0 (S.1 1 0 - 1) <;> cases hq1 : sp_in x2 0 8 <;> first | rfl | (exfalso; simp_all [mo_b]; done)
        rw [show (sp_bad (if (mo_b (sp_in x2 0 8)) = 0 then true else false) 2 (mo_up S 0 0 (mo_b (!sp_in x1 0 (S.1 1 0 - 1))))) = mo_up S 0 0 0 from by simp only [q0, q1]; first | rfl | simp_all [mo_b, sp_bad, mo_up_tw]] at hT
        obtain ⟨p, hp, ep⟩ := mo_vinE (N := 12) h.P.1 h.P.2 (by decide) q0
        refine ev_lvE (lv2 := [some (.ref W.1), some (.int (nI p)), some (.int x2)]) (by rw [ep]) ?_
        have hP2 := h.P.2
        have hu : mo_J (mo_up S 0 0 0) F := h.u0
        have hN := sp_eqN_means (mo_up S 0 0 0) (nI p)
        have hq := sp_eqN_F hN
        have hM : sp_eqM (sp_X12_means (mo_up S 0 0 0) (nI p)) (mo_up S 0 0 0) := sp_eqM_N hN (sp_eqM_r _)
        refine ev_aload_n dX12_tells_33 rfl rfl ?_
        refine ev_iload_n dX12_tells_34 rfl rfl ?_
        refine mo_call1 (d' := d - 1) hE hT dX12_tells_35 rfl rfl kX12_means lX12_406 iX12_means vX12_means (Nat.le_of_ble_eq_true rfl) (by omega) (c_X12_means hE (vp_in_nI (by omega) (by decide))) (fun g hT => ?_)
        refine ev_iload_n dX12_tells_38 rfl rfl ?_
        by_cases c_39_0 : x2 = 0
        · refine ev_tableIn (tgt := 88) (off := 49) dX12_tells_39 (by rw [c_39_0]; decide) (by rw [c_39_0]; decide) (by rw [c_39_0]; rfl) (by decide) ?_
          refine ev_aload_n dX12_tells_88 rfl rfl ?_
          refine mo_callr0 (d' := d - 1) hE hT dX12_tells_89 rfl rfl kX12_partNow lX12_409 iX12_partNow vX12_partNow (Nat.le_of_ble_eq_true rfl) (by omega) (c_X12_partNow hE (by omega) (sp_eqF_hO hq hu.O.1) (sp_eqF_hO2 hq hu.O.2) (sp_eqF_hC hq hu.C) (hu.FF.cong hq)) (fun r T g h8 hT => ?_)
          obtain ⟨rfl, h8⟩ := h8
          have hM : sp_eqM T (mo_up S 0 0 0) := sp_eqM_N (sp_eqN_P h8 hN) (sp_eqM_r _)
          have e9 : sp_tells (mo_up S 0 0 0) F p x2 = (sp_part (sp_X12_means (mo_up S 0 0 0) (nI p)) F) := by unfold sp_tells; rw [if_pos c_39_0]
          exact ev_iret dX12_tells_92 rfl rfl ⟨_, _, rfl, Or.inr ⟨q0, q1, p, ep, hp, (by first | exact hM | exact sp_eqM_r _), by rw [e9]⟩, hT⟩
        · by_cases c_39_1 : x2 = 1
          · refine ev_tableIn (tgt := 93) (off := 54) dX12_tells_39 (by rw [c_39_1]; decide) (by rw [c_39_1]; decide) (by rw [c_39_1]; rfl) (by decide) ?_
            refine ev_aload_n dX12_tells_93 rfl rfl ?_
            refine ev_iconst (v := 1) dX12_tells_94 (by decide) ?_
            refine ev_aload_n dX12_tells_95 rfl rfl ?_
            refine mo_geta hE hT dX12_tells_96 fX12_9 (by decide) ?_
            refine ev_iload_n dX12_tells_99 rfl rfl ?_
            refine mo_ialdQ (q := p) (v := ((mo_up S 0 0 0).1 3 p)) hE hT dX12_tells_100 (by decide) rfl (show _ < 12 from (by omega)) (by rw [hN.1 3 (by decide)]) ?_
            refine ev_iadd dX12_tells_101 ?_
            refine mo_call1 (d' := d - 1) hE hT dX12_tells_102 rfl rfl kX12_much lX12_412 iX12_much vX12_much (Nat.le_of_ble_eq_true rfl) (by omega) (c_X12_much hE (by omega) (sp_eqF_hO hq hu.O.1) (sp_eqF_hO2 hq hu.O.2) (sp_eqF_hC hq hu.C)) (fun g hT => ?_)
            rw [sp_eqF_much hq]
            have e9 : sp_tells (mo_up S 0 0 0) F p x2 = (sp_X12_much (mo_up S 0 0 0) (1 + ((mo_up S 0 0 0).1 3 p))) := by unfold sp_tells; rw [if_neg c_39_0, if_pos c_39_1]
            exact ev_iret dX12_tells_105 rfl rfl ⟨_, _, rfl, Or.inr ⟨q0, q1, p, ep, hp, (by first | exact hM | exact sp_eqM_r _), by rw [e9]⟩, hT⟩
          · by_cases c_39_2 : x2 = 2
            · refine ev_tableIn (tgt := 106) (off := 67) dX12_tells_39 (by rw [c_39_2]; decide) (by rw [c_39_2]; decide) (by rw [c_39_2]; rfl) (by decide) ?_
              refine ev_aload_n dX12_tells_106 rfl rfl ?_
              refine mo_callr0 (d' := d - 1) hE hT dX12_tells_107 rfl rfl kX12_priceNow lX12_415 iX12_priceNow vX12_priceNow (Nat.le_of_ble_eq_true rfl) (by omega) (c_X12_priceNow hE (by omega) (sp_eqF_hO hq hu.O.1) (sp_eqF_hO2 hq hu.O.2) (sp_eqF_hC hq hu.C) (hu.FF.cong hq)) (fun r T g h8 hT => ?_)
              obtain ⟨rfl, h8⟩ := h8
              have hM : sp_eqM T (mo_up S 0 0 0) := sp_eqM_N (sp_eqN_P h8 hN) (sp_eqM_r _)
              have e9 : sp_tells (mo_up S 0 0 0) F p x2 = (sp_price (sp_X12_means (mo_up S 0 0 0) (nI p)) F) := by unfold sp_tells; rw [if_neg c_39_0, if_neg c_39_1, if_pos c_39_2]
              exact ev_iret dX12_tells_110 rfl rfl ⟨_, _, rfl, Or.inr ⟨q0, q1, p, ep, hp, (by first | exact hM | exact sp_eqM_r _), by rw [e9]⟩, hT⟩
            · by_cases c_39_3 : x2 = 3
              · refine ev_tableIn (tgt := 118) (off := 79) dX12_tells_39 (by rw [c_39_3]; decide) (by rw [c_39_3]; decide) (by rw [c_39_3]; rfl) (by decide) ?_
                refine ev_aload_n dX12_tells_118 rfl rfl ?_
                refine ev_iconst (v := 5) dX12_tells_119 (by decide) ?_
                refine ev_iload_n dX12_tells_120 rfl rfl ?_
                refine ev_iadd dX12_tells_121 ?_
                refine ev_iconst (v := 3) dX12_tells_122 (by decide) ?_
                refine ev_isub dX12_tells_123 ?_
                refine mo_call1 (d' := d - 1) hE hT dX12_tells_124 rfl rfl kX12_much lX12_412 iX12_much vX12_much (Nat.le_of_ble_eq_true rfl) (by omega) (c_X12_much hE (by omega) (sp_eqF_hO hq hu.O.1) (sp_eqF_hO2 hq hu.O.2) (sp_eqF_hC hq hu.C)) (fun g hT => ?_)
                rw [sp_eqF_much hq]
                have e9 : sp_tells (mo_up S 0 0 0) F p x2 = (sp_X12_much (mo_up S 0 0 0) ((5 + x2) - 3)) := by unfold sp_tells; rw [if_neg c_39_0, if_neg c_39_1, if_neg c_39_2, if_pos c_39_3]
                exact ev_iret dX12_tells_127 rfl rfl ⟨_, _, rfl, Or.inr ⟨q0, q1, p, ep, hp, (by first | exact hM | exact sp_eqM_r _), by rw [e9]⟩, hT⟩
              · by_cases c_39_4 : x2 = 4
                · refine ev_tableIn (tgt := 118) (off := 79) dX12_tells_39 (by rw [c_39_4]; decide) (by rw [c_39_4]; decide) (by rw [c_39_4]; rfl) (by decide) ?_
                  refine ev_aload_n dX12_tells_118 rfl rfl ?_
                  refine ev_iconst (v := 5) dX12_tells_119 (by decide) ?_
                  refine ev_iload_n dX12_tells_120 rfl rfl ?_
                  refine ev_iadd dX12_tells_121 ?_
                  refine ev_iconst (v := 3) dX12_tells_122 (by decide) ?_
                  refine ev_isub dX12_tells_123 ?_
                  refine mo_call1 (d' := d - 1) hE hT dX12_tells_124 rfl rfl kX12_much lX12_412 iX12_much vX12_much (Nat.le_of_ble_eq_true rfl) (by omega) (c_X12_much hE (by omega) (sp_eqF_hO hq hu.O.1) (sp_eqF_hO2 hq hu.O.2) (sp_eqF_hC hq hu.C)) (fun g hT => ?_)
                  rw [sp_eqF_much hq]
                  have e9 : sp_tells (mo_up S 0 0 0) F p x2 = (sp_X12_much (mo_up S 0 0 0) ((5 + x2) - 3)) := by unfold sp_tells; rw [if_neg c_39_0, if_neg c_39_1, if_neg c_39_2, if_neg c_39_3, if_pos c_39_4]
                  exact ev_iret dX12_tells_127 rfl rfl ⟨_, _, rfl, Or.inr ⟨q0, q1, p, ep, hp, (by first | exact hM | exact sp_eqM_r _), by rw [e9]⟩, hT⟩
                · by_cases c_39_5 : x2 = 5
                  · refine ev_tableIn (tgt := 118) (off := 79) dX12_tells_39 (by rw [c_39_5]; decide) (by rw [c_39_5]; decide) (by rw [c_39_5]; rfl) (by decide) ?_
                    refine ev_aload_n dX12_tells_118 rfl rfl ?_
                    refine ev_iconst (v := 5) dX12_tells_119 (by decide) ?_
                    refine ev_iload_n dX12_tells_120 rfl rfl ?_
                    refine ev_iadd dX12_tells_121 ?_
                    refine ev_iconst (v := 3) dX12_tells_122 (by decide) ?_
                    refine ev_isub dX12_tells_123 ?_
                    refine mo_call1 (d' := d - 1) hE hT dX12_tells_124 rfl rfl kX12_much lX12_412 iX12_much vX12_much (Nat.le_of_ble_eq_true rfl) (by omega) (c_X12_much hE (by omega) (sp_eqF_hO hq hu.O.1) (sp_eqF_hO2 hq hu.O.2) (sp_eqF_hC hq hu.C)) (fun g hT => ?_)
                    rw [sp_eqF_much hq]
                    have e9 : sp_tells (mo_up S 0 0 0) F p x2 = (sp_X12_much (mo_up S 0 0 0) ((5 + x2) - 3)) := by unfold sp_tells; rw [if_neg c_39_0, if_neg c_39_1, if_neg c_39_2, if_neg c_39_3, if_neg c_39_4, if_pos c_39_5]
                    exact ev_iret dX12_tells_127 rfl rfl ⟨_, _, rfl, Or.inr ⟨q0, q1, p, ep, hp, (by first | exact hM | exact sp_eqM_r _), by rw [e9]⟩, hT⟩
                  · by_cases c_39_6 : x2 = 6
                    · refine ev_tableIn (tgt := 118) (off := 79) dX12_tells_39 (by rw [c_39_6]; decide) (by rw [c_39_6]; decide) (by rw [c_39_6]; rfl) (by decide) ?_
                      refine ev_aload_n dX12_tells_118 rfl rfl ?_
                      refine ev_iconst (v := 5) dX12_tells_119 (by decide) ?_
                      refine ev_iload_n dX12_tells_120 rfl rfl ?_
                      refine ev_iadd dX12_tells_121 ?_
                      refine ev_iconst (v := 3) dX12_tells_122 (by decide) ?_
                      refine ev_isub dX12_tells_123 ?_
                      refine mo_call1 (d' := d - 1) hE hT dX12_tells_124 rfl rfl kX12_much lX12_412 iX12_much vX12_much (Nat.le_of_ble_eq_true rfl) (by omega) (c_X12_much hE (by omega) (sp_eqF_hO hq hu.O.1) (sp_eqF_hO2 hq hu.O.2) (sp_eqF_hC hq hu.C)) (fun g hT => ?_)
                      rw [sp_eqF_much hq]
                      have e9 : sp_tells (mo_up S 0 0 0) F p x2 = (sp_X12_much (mo_up S 0 0 0) ((5 + x2) - 3)) := by unfold sp_tells; rw [if_neg c_39_0, if_neg c_39_1, if_neg c_39_2, if_neg c_39_3, if_neg c_39_4, if_neg c_39_5, if_pos c_39_6]
                      exact ev_iret dX12_tells_127 rfl rfl ⟨_, _, rfl, Or.inr ⟨q0, q1, p, ep, hp, (by first | exact hM | exact sp_eqM_r _), by rw [e9]⟩, hT⟩
                    · by_cases c_39_7 : x2 = 7
                      · refine ev_tableIn (tgt := 118) (off := 79) dX12_tells_39 (by rw [c_39_7]; decide) (by rw [c_39_7]; decide) (by rw [c_39_7]; rfl) (by decide) ?_
                        refine ev_aload_n dX12_tells_118 rfl rfl ?_
                        refine ev_iconst (v := 5) dX12_tells_119 (by decide) ?_
                        refine ev_iload_n dX12_tells_120 rfl rfl ?_
                        refine ev_iadd dX12_tells_121 ?_
                        refine ev_iconst (v := 3) dX12_tells_122 (by decide) ?_
                        refine ev_isub dX12_tells_123 ?_
                        refine mo_call1 (d' := d - 1) hE hT dX12_tells_124 rfl rfl kX12_much lX12_412 iX12_much vX12_much (Nat.le_of_ble_eq_true rfl) (by omega) (c_X12_much hE (by omega) (sp_eqF_hO hq hu.O.1) (sp_eqF_hO2 hq hu.O.2) (sp_eqF_hC hq hu.C)) (fun g hT => ?_)
                        rw [sp_eqF_much hq]
                        have e9 : sp_tells (mo_up S 0 0 0) F p x2 = (sp_X12_much (mo_up S 0 0 0) ((5 + x2) - 3)) := by unfold sp_tells; rw [if_neg c_39_0, if_neg c_39_1, if_neg c_39_2, if_neg c_39_3, if_neg c_39_4, if_neg c_39_5, if_neg c_39_6, if_pos c_39_7]
                        exact ev_iret dX12_tells_127 rfl rfl ⟨_, _, rfl, Or.inr ⟨q0, q1, p, ep, hp, (by first | exact hM | exact sp_eqM_r _), by rw [e9]⟩, hT⟩
                      · by_cases c_39_8 : x2 = 8
                        · refine ev_tableIn (tgt := 111) (off := 72) dX12_tells_39 (by rw [c_39_8]; decide) (by rw [c_39_8]; decide) (by rw [c_39_8]; rfl) (by decide) ?_
                          refine ev_aload_n dX12_tells_111 rfl rfl ?_
                          refine ev_bipush (v := 11) dX12_tells_112 (by decide) ?_
                          refine mo_call1 (d' := d - 1) hE hT dX12_tells_114 rfl rfl kX12_much lX12_412 iX12_much vX12_much (Nat.le_of_ble_eq_true rfl) (by omega) (c_X12_much hE (by omega) (sp_eqF_hO hq hu.O.1) (sp_eqF_hO2 hq hu.O.2) (sp_eqF_hC hq hu.C)) (fun g hT => ?_)
                          rw [sp_eqF_much hq]
                          have e9 : sp_tells (mo_up S 0 0 0) F p x2 = (sp_X12_much (mo_up S 0 0 0) 11) := by unfold sp_tells; rw [if_neg c_39_0, if_neg c_39_1, if_neg c_39_2, if_neg c_39_3, if_neg c_39_4, if_neg c_39_5, if_neg c_39_6, if_neg c_39_7, if_pos c_39_8]
                          exact ev_iret dX12_tells_117 rfl rfl ⟨_, _, rfl, Or.inr ⟨q0, q1, p, ep, hp, (by first | exact hM | exact sp_eqM_r _), by rw [e9]⟩, hT⟩
                        · refine ev_tableOut (tgt := 118) dX12_tells_39 (by have h0 : (x2).toInt ≠ 0 := fun q => c_39_0 (Int32.toInt_inj.mp (by rw [q]; rfl)); have h1 : (x2).toInt ≠ 1 := fun q => c_39_1 (Int32.toInt_inj.mp (by rw [q]; rfl)); have h2 : (x2).toInt ≠ 2 := fun q => c_39_2 (Int32.toInt_inj.mp (by rw [q]; rfl)); have h3 : (x2).toInt ≠ 3 := fun q => c_39_3 (Int32.toInt_inj.mp (by rw [q]; rfl)); have h4 : (x2).toInt ≠ 4 := fun q => c_39_4 (Int32.toInt_inj.mp (by rw [q]; rfl)); have h5 : (x2).toInt ≠ 5 := fun q => c_39_5 (Int32.toInt_inj.mp (by rw [q]; rfl)); have h6 : (x2).toInt ≠ 6 := fun q => c_39_6 (Int32.toInt_inj.mp (by rw [q]; rfl)); have h7 : (x2).toInt ≠ 7 := fun q => c_39_7 (Int32.toInt_inj.mp (by rw [q]; rfl)); have h8 : (x2).toInt ≠ 8 := fun q => c_39_8 (Int32.toInt_inj.mp (by rw [q]; rfl)); omega) (by decide) ?_
                          refine ev_aload_n dX12_tells_118 rfl rfl ?_
                          refine ev_iconst (v := 5) dX12_tells_119 (by decide) ?_
                          refine ev_iload_n dX12_tells_120 rfl rfl ?_
                          refine ev_iadd dX12_tells_121 ?_
                          refine ev_iconst (v := 3) dX12_tells_122 (by decide) ?_
                          refine ev_isub dX12_tells_123 ?_
                          refine mo_call1 (d' := d - 1) hE hT dX12_tells_124 rfl rfl kX12_much lX12_412 iX12_much vX12_much (Nat.le_of_ble_eq_true rfl) (by omega) (c_X12_much hE (by omega) (sp_eqF_hO hq hu.O.1) (sp_eqF_hO2 hq hu.O.2) (sp_eqF_hC hq hu.C)) (fun g hT => ?_)
                          rw [sp_eqF_much hq]
                          have e9 : sp_tells (mo_up S 0 0 0) F p x2 = (sp_X12_much (mo_up S 0 0 0) ((5 + x2) - 3)) := by unfold sp_tells; rw [if_neg c_39_0, if_neg c_39_1, if_neg c_39_2, if_neg c_39_3, if_neg c_39_4, if_neg c_39_5, if_neg c_39_6, if_neg c_39_7, if_neg c_39_8]
                          exact ev_iret dX12_tells_127 rfl rfl ⟨_, _, rfl, Or.inr ⟨q0, q1, p, ep, hp, (by first | exact hM | exact sp_eqM_r _), by rw [e9]⟩, hT⟩
      · refine ev_iconst (v := 0) dX12_tells_31 (by decide) ?_
        refine ev_iret dX12_tells_32 rfl rfl ⟨_, _, rfl, Or.inl ⟨rfl, ?_⟩, hT⟩
        clear hT
        first
          | (cases hq0 : sp_in x1 0 (S.1 1 0 - 1) <;> cases hq1 : sp_in x2 0 8 <;> first | (exfalso; simp_all [mo_b]; done) | (refine ⟨1, Or.inl ⟨rfl, rfl⟩, ?_⟩; simp_all [mo_b, sp_bad, mo_up_tw]; done))
          | (cases hq0 : sp_in x1 0 (S.1 1 0 - 1) <;> cases hq1 : sp_in x2 0 8 <;> first | (exfalso; simp_all [mo_b]; done) | (refine ⟨2, Or.inr (⟨rfl, rfl, rfl⟩), ?_⟩; simp_all [mo_b, sp_bad, mo_up_tw]; done))
    refine ev_if_ne (tgt := 23) dX12_tells_16 (by decide) (fun c_16 => ?_) (fun c_16 => ?_)
    · refine ev_iconst (v := 0) dX12_tells_23 (by decide) ?_
      exact K_24 g hT _ (by rw [if_neg c_16]; rfl)
    · refine ev_iconst (v := 1) dX12_tells_19 (by decide) ?_
      refine ev_goto (tgt := 24) dX12_tells_20 (by decide) ?_
      exact K_24 g hT _ (by rw [if_pos c_16]; rfl)
/-- gain -/
def sp_gain (S : mo_S) (F : mo_Fn) (p q : Nat) : Int32 := if sp_X12_areTwo S (nI p) (nI q) = false then -2000000000 else sp_shN (sp_gn S p q) F (sp_X12_much S 11) p - (sp_shN S F (sp_X12_much S 11) p + sp_shN S F (sp_X12_much S 11) q)
theorem c_X12_gain {G : ev_G} {W : mo_W} {d : Nat} {S : mo_S} {F : mo_Fn} {x1 x2 : Int32} (hE : ev_En G) (h : mo_J S F) (hw : S.1 53 0 = -1 ∧ S.1 54 0 = -1) (hd : 9 ≤ d) : mo_Cr G W d mX12_gain [.int x1, .int x2] S (fun r S2 => (r = some (.int 0) ∧ ∃ k : Int32, ((k = 1 ∧ (sp_in x1 0 (S.1 1 0 - 1) && sp_in x2 0 (S.1 1 0 - 1)) = false)) ∧ S2 = mo_up S 0 0 k) ∨ ((sp_in x1 0 (S.1 1 0 - 1) && sp_in x2 0 (S.1 1 0 - 1)) = true ∧ (∃ p q, x1 = nI p ∧ x2 = nI q ∧ p < sp_P S ∧ q < sp_P S ∧ sp_eqM S2 (mo_up S 0 0 0) ∧ r = some (.int (sp_gain (mo_up S 0 0 0) F p q))))) := by
  refine mo_startr (lv0 := [some (.ref W.1), some (.int x1), some (.int x2), none, none]) (by decide +kernel) rfl (Nat.le_of_ble_eq_true rfl) rfl ?_
  intro g0 g hT
  refine ev_aload_n dX12_gain_0 rfl rfl ?_
  refine ev_iload_n dX12_gain_1 rfl rfl ?_
  refine ev_iload_n dX12_gain_2 rfl rfl ?_
  refine mo_call2 (d' := d - 1) hE hT dX12_gain_3 rfl rfl kX12_isTwo lX12_464 iX12_isTwo vX12_isTwo (Nat.le_of_ble_eq_true rfl) (by omega) (c_X12_isTwoB hE (by omega)) (fun g hT => ?_)
  refine ev_if_ne (tgt := 11) dX12_gain_6 (by decide) (fun c_6 => ?_) (fun c_6 => ?_)
  · have q0 : (sp_in x1 0 (S.1 1 0 - 1) && sp_in x2 0 (S.1 1 0 - 1)) = true := by clear hT; cases hq0 : (sp_in x1 0 (S.1 1 0 - 1) && sp_in x2 0 (S.1 1 0 - 1)) <;> first | rfl | (exfalso; simp_all [mo_b]; done)
    rw [show (mo_up S 0 0 (mo_b (!(sp_in x1 0 (S.1 1 0 - 1) && sp_in x2 0 (S.1 1 0 - 1))))) = mo_up S 0 0 0 from by simp only [q0]; first | rfl | simp_all [mo_b, sp_bad, mo_up_tw]] at hT
    have hu : mo_J (mo_up S 0 0 0) F := h.u0
    obtain ⟨qa, qb⟩ : sp_in x1 0 (S.1 1 0 - 1) = true ∧ sp_in x2 0 (S.1 1 0 - 1) = true := by simpa using q0
    obtain ⟨p, hp, ep⟩ := mo_vinE (N := 12) h.P.1 h.P.2 (by decide) qa
    obtain ⟨q, hq, eq⟩ := mo_vinE (N := 12) h.P.1 h.P.2 (by decide) qb
    have hP2 := h.P.2
    have hPU : sp_P (mo_up S 0 0 0) = sp_P S := sp_P_cong (mo_up_ne (by decide))
    have hg2 : mo_J (sp_gn (mo_up S 0 0 0) p q) F := hu.gn (by omega) (by omega)
    refine ev_lvE (lv2 := [some (.ref W.1), some (.int (nI p)), some (.int (nI q)), none, none]) (by rw [ep, eq]) ?_
    refine ev_aload_n dX12_gain_11 rfl rfl ?_
    refine ev_iload_n dX12_gain_12 rfl rfl ?_
    refine ev_iload_n dX12_gain_13 rfl rfl ?_
    refine mo_call2 (d' := d - 1) hE hT dX12_gain_14 rfl rfl kX12_areTwo lX12_467 iX12_areTwo vX12_areTwo (Nat.le_of_ble_eq_true rfl) (by omega) (c_X12_areTwo hE (vp_in_nI (by omega) (by decide)) (vp_in_nI (by omega) (by decide))) (fun g hT => ?_)
    refine ev_if_ne (tgt := 24) dX12_gain_17 (by decide) (fun c_17 => ?_) (fun c_17 => ?_)
    · refine ev_aload_n dX12_gain_24 rfl rfl ?_
      refine ev_bipush (v := 11) dX12_gain_25 (by decide) ?_
      refine mo_call1 (d' := d - 1) hE hT dX12_gain_27 rfl rfl kX12_much lX12_412 iX12_much vX12_much (Nat.le_of_ble_eq_true rfl) (by omega) (c_X12_much hE (by omega) hu.O.1 hu.O.2 hu.C) (fun g hT => ?_)
      refine ev_istore_n dX12_gain_30 rfl (Nat.le_of_ble_eq_true rfl) rfl ?_
      refine ev_aload_n dX12_gain_31 rfl rfl ?_
      refine ev_aload_n dX12_gain_32 rfl rfl ?_
      refine mo_call0 (d' := d - 1) hE hT dX12_gain_33 rfl rfl kX12_pool lX12_431 iX12_pool vX12_pool (Nat.le_of_ble_eq_true rfl) (by omega) (c_X12_pool hE hu.R.1 hu.R.2) (fun g hT => ?_)
      refine ev_iload_n dX12_gain_36 rfl rfl ?_
      rw [hu.L.1]
      refine mo_callr2 (d' := d - 1) hE hT dX12_gain_37 rfl rfl kX12_parts lX12_434 iX12_parts vX12_parts (Nat.le_of_ble_eq_true rfl) (by omega) (c_X12_parts hE (hu.pa (by omega) _)) (fun r T g h8 hT => ?_)
      obtain ⟨rfl, hM, h51⟩ := h8
      refine ev_aload_n dX12_gain_40 rfl rfl ?_
      refine mo_geta hE hT dX12_gain_41 fX12_108 (by decide) ?_
      refine ev_iload_n dX12_gain_44 rfl rfl ?_
      refine mo_ialdQ (q := p) (v := (sp_shN (mo_up S 0 0 0) F (sp_X12_much (mo_up S 0 0 0) 11) p)) hE hT dX12_gain_45 (by decide) rfl (show _ < 12 from (by omega)) (h51 p (by omega)) ?_
      refine ev_aload_n dX12_gain_46 rfl rfl ?_
      refine mo_geta hE hT dX12_gain_47 fX12_108 (by decide) ?_
      refine ev_iload_n dX12_gain_50 rfl rfl ?_
      refine mo_ialdQ (q := q) (v := (sp_shN (mo_up S 0 0 0) F (sp_X12_much (mo_up S 0 0 0) 11) q)) hE hT dX12_gain_51 (by decide) rfl (show _ < 12 from (by omega)) (h51 q (by omega)) ?_
      refine ev_iadd dX12_gain_52 ?_
      refine ev_istore dX12_gain_53 (Nat.le_of_ble_eq_true rfl) rfl ?_
      refine ev_aload_n dX12_gain_55 rfl rfl ?_
      refine ev_iload_n dX12_gain_56 rfl rfl ?_
      refine mo_put hE hT dX12_gain_57 pX12_115 (by decide) (fun g hT => ?_)
      refine ev_aload_n dX12_gain_60 rfl rfl ?_
      refine ev_iload_n dX12_gain_61 rfl rfl ?_
      refine mo_put hE hT dX12_gain_62 pX12_118 (by decide) (fun g hT => ?_)
      refine ev_aload_n dX12_gain_65 rfl rfl ?_
      refine ev_aload_n dX12_gain_66 rfl rfl ?_
      have hM2 : sp_eqM (mo_up (mo_up T 53 0 (nI q)) 54 0 (nI p)) (sp_gn (mo_up S 0 0 0) p q) := sp_eqM_up (sp_eqM_up hM)
      generalize hT2 : (mo_up (mo_up T 53 0 (nI q)) 54 0 (nI p)) = T2 at hT hM2
      have j2 : mo_J T2 F := hg2.cong hM2
      refine mo_call0 (d' := d - 1) hE hT dX12_gain_67 rfl rfl kX12_pool lX12_431 iX12_pool vX12_pool (Nat.le_of_ble_eq_true rfl) (by omega) (c_X12_pool hE j2.R.1 j2.R.2) (fun g hT => ?_)
      rw [j2.L.1]
      refine ev_iload_n dX12_gain_70 rfl rfl ?_
      refine mo_callr2 (d' := d - 1) hE hT dX12_gain_71 rfl rfl kX12_parts lX12_434 iX12_parts vX12_parts (Nat.le_of_ble_eq_true rfl) (by omega) (c_X12_parts hE (j2.pa (by omega) _)) (fun r T3 g h8 hT => ?_)
      obtain ⟨rfl, hM3, h52⟩ := h8
      refine ev_aload_n dX12_gain_74 rfl rfl ?_
      refine ev_iconst (v := (-1)) dX12_gain_75 (by decide) ?_
      refine mo_put hE hT dX12_gain_76 pX12_115 (by decide) (fun g hT => ?_)
      refine ev_aload_n dX12_gain_79 rfl rfl ?_
      refine ev_iconst (v := (-1)) dX12_gain_80 (by decide) ?_
      refine mo_put hE hT dX12_gain_81 pX12_118 (by decide) (fun g hT => ?_)
      refine ev_aload_n dX12_gain_84 rfl rfl ?_
      refine mo_geta hE hT dX12_gain_85 fX12_108 (by decide) ?_
      refine ev_iload_n dX12_gain_88 rfl rfl ?_
      refine mo_ialdQ (q := p) (v := (sp_shN (sp_gn (mo_up S 0 0 0) p q) F (sp_X12_much (mo_up S 0 0 0) 11) p)) hE hT dX12_gain_89 (by decide) rfl (show _ < 12 from (by omega)) (by rw [mo_up_ne (by decide), mo_up_ne (by decide), h52 p (by rw [sp_P_cong (hM2 1 (by decide))]; unfold sp_gn; rw [sp_P_cong (mo_up_ne (by decide)), sp_P_cong (mo_up_ne (by decide))]; omega)]; exact sp_shN_cong hM2 _ p) ?_
      refine ev_iload dX12_gain_90 rfl ?_
      refine ev_isub dX12_gain_92 ?_
      have hW : sp_eqM (mo_up (mo_up T3 53 0 (-1)) 54 0 (-1)) (mo_up S 0 0 0) := by
        intro k hk
        have e0 := hM3 k hk
        have e1 := hM2 k hk
        by_cases a : k = 54
        · subst a
          rw [mo_up_at, mo_up_ne (by decide), e0, e1]
          unfold sp_gn
          rw [mo_up_at, mo_up_ne (by decide), mo_up_ne (by decide)]
          funext b
          by_cases c : b = 0
          · subst c; rw [pk_us]; exact hw.2.symm
          · rw [pk_un c, pk_un c]
        · by_cases a2 : k = 53
          · subst a2
            rw [mo_up_ne (by decide), mo_up_at, e0, e1]
            unfold sp_gn
            rw [mo_up_ne (by decide), mo_up_at, mo_up_ne (by decide)]
            funext b
            by_cases c : b = 0
            · subst c; rw [pk_us]; exact hw.1.symm
            · rw [pk_un c, pk_un c]
          · rw [mo_up_ne a, mo_up_ne a2, e0, e1]
            unfold sp_gn
            rw [mo_up_ne a, mo_up_ne a2]
      exact ev_iret dX12_gain_93 rfl rfl ⟨_, _, rfl, Or.inr ⟨q0, p, q, ep, eq, hp, hq, hW, by unfold sp_gain; rw [if_neg (by rw [mo_b_1 c_17]; decide)]⟩, hT⟩
    · refine ev_ldcw dX12_gain_20 nX12_470 ?_
      exact ev_iret dX12_gain_23 rfl rfl ⟨_, _, rfl, Or.inr ⟨q0, p, q, ep, eq, hp, hq, sp_eqM_r _, by unfold sp_gain; rw [if_pos (mo_b_0 c_17)]⟩, hT⟩
  · refine ev_iconst (v := 0) dX12_gain_9 (by decide) ?_
    refine ev_iret dX12_gain_10 rfl rfl ⟨_, _, rfl, Or.inl ⟨rfl, ?_⟩, hT⟩
    clear hT
    first
      | (cases hq0 : (sp_in x1 0 (S.1 1 0 - 1) && sp_in x2 0 (S.1 1 0 - 1)) <;> first | (exfalso; simp_all [mo_b]; done) | (refine ⟨1, ⟨rfl, rfl⟩, ?_⟩; simp_all [mo_b, sp_bad, mo_up_tw]; done))
end M14
