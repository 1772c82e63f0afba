section M14
theorem ev_lvE {G : ev_G} {d bc bs : Nat} {M : ev_M} {Post : ev_P} {g : ev_H} {pc : Nat} {lv lv2 : List (Option Value)} {st : List Value} (e : lv = lv2) (k : ev_V G d bc bs M Post g pc lv2 st) : ev_V G d bc bs M Post g pc lv st := e ▸ k
theorem mo_up_tw {S : mo_S} {k i : Nat} {v x : Int32} : mo_up (mo_up S k i v) k i x = mo_up S k i x := by
  unfold mo_up
  refine Prod.ext ?_ rfl
  funext a b
  dsimp only
  split <;> rfl
theorem mo_J.u0 {S : mo_S} {F : mo_Fn} {v : Int32} (h : mo_J S F) : mo_J (mo_up S 0 0 v) F := h.upA (by decide)
/-- the way that is asked for -/
def sp_way (S : mo_S) (x : Int32) : Int32 := if 0 ≤ x then x else sp_X12_much S 11

theorem c_X12_parted {G : ev_G} {W : mo_W} {d : Nat} {S : mo_S} {F : mo_Fn} {x1 x2 : Int32} (hE : ev_En G) (h : mo_J S F) (hd : 9 ≤ d) : mo_Cr G W d mX12_parted [.int x1, .int x2] S (fun r S2 => (r = some (.int 0) ∧ ∃ k : Int32, ((k = 1 ∧ sp_in x1 0 (S.1 1 0 - 1) = false) ∨ (k = 2 ∧ sp_in x1 0 (S.1 1 0 - 1) = true ∧ sp_in x2 (-1) 3 = false)) ∧ S2 = mo_up S 0 0 k) ∨ (sp_in x1 0 (S.1 1 0 - 1) = true ∧ sp_in x2 (-1) 3 = true ∧ (∃ p, x1 = nI p ∧ p < sp_P S ∧ sp_eqM S2 (mo_up S 0 0 0) ∧ r = some (.int (if S.1 12 p = 1 then sp_shN (mo_up S 0 0 0) F (sp_way (mo_up S 0 0 0) x2) p else 0))))) := by
  refine mo_startr (lv0 := [some (.ref W.1), some (.int x1), some (.int x2)]) (by decide +kernel) rfl (Nat.le_of_ble_eq_true rfl) rfl ?_
  intro g0 g hT
  refine ev_aload_n dX12_parted_0 rfl rfl ?_
  refine ev_iload_n dX12_parted_1 rfl rfl ?_
  refine mo_call1 (d' := d - 1) hE hT dX12_parted_2 rfl rfl kX12_isPaper lX12_188 iX12_isPaper vX12_isPaper (Nat.le_of_ble_eq_true rfl) (by omega) (c_X12_isPaper hE (by omega)) (fun g hT => ?_)
  refine ev_if_eq (tgt := 30) dX12_parted_5 (by decide) (fun c_5 => ?_) (fun c_5 => ?_)
  · refine ev_iconst (v := 0) dX12_parted_30 (by decide) ?_
    refine ev_iret dX12_parted_31 rfl rfl ⟨_, _, rfl, Or.inl ⟨rfl, ?_⟩, hT⟩
    clear hT
    first
      | (cases hq0 : sp_in x1 0 (S.1 1 0 - 1) <;> cases hq1 : sp_in x2 (-1) 3 <;> first | (exfalso; simp_all [mo_b]; done) | (refine ⟨1, Or.inl ⟨rfl, rfl⟩, ?_⟩; simp_all [mo_b, sp_bad, mo_up_tw]; done))
      | (cases hq0 : sp_in x1 0 (S.1 1 0 - 1) <;> cases hq1 : sp_in x2 (-1) 3 <;> first | (exfalso; simp_all [mo_b]; done) | (refine ⟨2, Or.inr (⟨rfl, rfl, rfl⟩), ?_⟩; simp_all [mo_b, sp_bad, mo_up_tw]; done))
  · refine ev_aload_n dX12_parted_8 rfl rfl ?_
    refine ev_iload_n dX12_parted_9 rfl rfl ?_
    refine ev_iconst (v := (-1)) dX12_parted_10 (by decide) ?_
    refine ev_iconst (v := 3) dX12_parted_11 (by decide) ?_
    refine ev_pS3 (d' := d - 1) dX12_parted_12 rfl kX12_in lX12_176 sX12_in (Nat.le_of_ble_eq_true rfl) (by omega) (c_X12_in) ?_
    have K_23 : ∀ (g : ev_H) (hT : mo_T G W g0 g (mo_up S 0 0 (mo_b (!sp_in x1 0 (S.1 1 0 - 1))))), ∀ x9 : Int32, x9 = (mo_b (if (mo_b (sp_in x2 (-1) 3)) = 0 then true else false)) → ev_V G d 0 0 mX12_parted (fun o g' => ∃ r S2, o = .inl r ∧ ((r = some (.int 0) ∧ ∃ k : Int32, ((k = 1 ∧ sp_in x1 0 (S.1 1 0 - 1) = false) ∨ (k = 2 ∧ sp_in x1 0 (S.1 1 0 - 1) = true ∧ sp_in x2 (-1) 3 = false)) ∧ S2 = mo_up S 0 0 k) ∨ (sp_in x1 0 (S.1 1 0 - 1) = true ∧ sp_in x2 (-1) 3 = true ∧ (∃ p, x1 = nI p ∧ p < sp_P S ∧ sp_eqM S2 (mo_up S 0 0 0) ∧ r = some (.int (if S.1 12 p = 1 then sp_shN (mo_up S 0 0 0) F (sp_way (mo_up S 0 0 0) x2) p else 0))))) ∧ mo_T G W g0 g' S2) g 23 [some (.ref W.1), some (.int x1), some (.int x2)] (.int x9 :: .ref W.1 :: []) := by
      intro g hT x9 h9
      subst h9
      refine ev_iconst (v := 2) dX12_parted_23 (by decide) ?_
      refine mo_call2 (d' := d - 1) hE hT dX12_parted_24 rfl rfl kX12_bad lX12_181 iX12_bad vX12_bad (Nat.le_of_ble_eq_true rfl) (by omega) (c_X12_bad hE) (fun g hT => ?_)
      refine ev_if_eq (tgt := 32) dX12_parted_27 (by decide) (fun c_27 => ?_) (fun c_27 => ?_)
      · have q0 : sp_in x1 0 (S.1 1 0 - 1) = true := by clear hT; cases hq0 : sp_in x1 0 (S.1 1 0 - 1) <;> cases hq1 : sp_in x2 (-1) 3 <;> first | rfl | (exfalso; simp_all [mo_b]; done)
        have q1 : sp_in x2 (-1) 3 = true := by clear hT; cases hq0 : sp_in x1 0 (S.1 1 0 - 1) <;> cases hq1 : sp_in x2 (-1) 3 <;> first | rfl | (exfalso; simp_all [mo_b]; done)
        rw [show (sp_bad (if (mo_b (sp_in x2 (-1) 3)) = 0 then true else false) 2 (mo_up S 0 0 (mo_b (!sp_in x1 0 (S.1 1 0 - 1))))) = mo_up S 0 0 0 from by simp only [q0, q1]; first | rfl | simp_all [mo_b, sp_bad, mo_up_tw]] at hT
        obtain ⟨p, hp, ep⟩ := mo_vinE (N := 12) h.P.1 h.P.2 (by decide) q0
        refine ev_lvE (lv2 := [some (.ref W.1), some (.int (nI p)), some (.int x2)]) (by rw [ep]) ?_
        have hP2 := h.P.2
        have hu : mo_J (mo_up S 0 0 0) F := h.u0
        refine ev_aload_n dX12_parted_32 rfl rfl ?_
        refine mo_geta hE hT dX12_parted_33 fX12_37 (by decide) ?_
        refine ev_iload_n dX12_parted_36 rfl rfl ?_
        refine mo_ialdQ (q := p) (v := (S.1 12 p)) hE hT dX12_parted_37 (by decide) rfl (show _ < 12 from (by omega)) (by simp [sp_bad_ne, mo_up]) ?_
        refine ev_iconst (v := 1) dX12_parted_38 (by decide) ?_
        refine ev_icmp_eq (tgt := 44) dX12_parted_39 (by decide) (fun c_39 => ?_) (fun c_39 => ?_)
        · refine ev_aload_n dX12_parted_44 rfl rfl ?_
          refine ev_aload_n dX12_parted_45 rfl rfl ?_
          refine mo_call0 (d' := d - 1) hE hT dX12_parted_46 rfl rfl kX12_pool lX12_431 iX12_pool vX12_pool (Nat.le_of_ble_eq_true rfl) (by omega) (c_X12_pool hE hu.R.1 hu.R.2) (fun g hT => ?_)
          refine ev_iload_n dX12_parted_49 rfl rfl ?_
          have K_63 : ∀ (g : ev_H) (hT : mo_T G W g0 g (mo_up S 0 0 0)), ∀ x9 : Int32, x9 = (if 0 ≤ x2 then x2 else (sp_X12_much (mo_up S 0 0 0) 11)) → ev_V G d 0 0 mX12_parted (fun o g' => ∃ r S2, o = .inl r ∧ ((r = some (.int 0) ∧ ∃ k : Int32, ((k = 1 ∧ sp_in x1 0 (S.1 1 0 - 1) = false) ∨ (k = 2 ∧ sp_in x1 0 (S.1 1 0 - 1) = true ∧ sp_in x2 (-1) 3 = false)) ∧ S2 = mo_up S 0 0 k) ∨ (sp_in x1 0 (S.1 1 0 - 1) = true ∧ sp_in x2 (-1) 3 = true ∧ (∃ p, x1 = nI p ∧ p < sp_P S ∧ sp_eqM S2 (mo_up S 0 0 0) ∧ r = some (.int (if S.1 12 p = 1 then sp_shN (mo_up S 0 0 0) F (sp_way (mo_up S 0 0 0) x2) p else 0))))) ∧ mo_T G W g0 g' S2) g 63 [some (.ref W.1), some (.int (nI p)), some (.int x2)] (.int x9 :: .int (sp_pool (mo_up S 0 0 0) (sp_R (mo_up S 0 0 0))) :: .ref W.1 :: []) := by
            intro g hT x9 h9
            subst h9
            rw [hu.L.1]
            refine mo_callr2 (d' := d - 1) hE hT dX12_parted_63 rfl rfl kX12_parts lX12_434 iX12_parts vX12_parts (Nat.le_of_ble_eq_true rfl) (by omega) (c_X12_parts hE (hu.pa (by omega) _)) (fun r T g h8 hT => ?_)
            obtain ⟨rfl, hM, h51⟩ := h8
            refine ev_aload_n dX12_parted_66 rfl rfl ?_
            refine mo_geta hE hT dX12_parted_67 fX12_108 (by decide) ?_
            refine ev_iload_n dX12_parted_70 rfl rfl ?_
            refine mo_iald (q := p) hE hT dX12_parted_71 (by decide) rfl (show _ < 12 from (by omega)) ?_
            exact ev_iret dX12_parted_72 rfl rfl ⟨_, _, rfl, Or.inr ⟨q0, q1, p, ep, hp, hM, by rw [if_pos c_39, h51 p (by show p < sp_P (mo_up S 0 0 0); unfold sp_P; rw [mo_up_ne (by decide)]; exact hp)]; rfl⟩, hT⟩
          refine ev_if_ge (tgt := 62) dX12_parted_50 (by decide) (fun c_50 => ?_) (fun c_50 => ?_)
          · refine ev_iload_n dX12_parted_62 rfl rfl ?_
            exact K_63 g hT _ (by rw [if_pos c_50])
          · refine ev_aload_n dX12_parted_53 rfl rfl ?_
            refine ev_bipush (v := 11) dX12_parted_54 (by decide) ?_
            refine mo_call1 (d' := d - 1) hE hT dX12_parted_56 rfl rfl kX12_much lX12_412 iX12_much vX12_much (Nat.le_of_ble_eq_true rfl) (by omega) (c_X12_much hE (by omega) hu.O.1 hu.O.2 hu.C) (fun g hT => ?_)
            refine ev_goto (tgt := 63) dX12_parted_59 (by decide) ?_
            exact K_63 g hT _ (by rw [if_neg c_50])
        · refine ev_iconst (v := 0) dX12_parted_42 (by decide) ?_
          exact ev_iret dX12_parted_43 rfl rfl ⟨_, _, rfl, Or.inr ⟨q0, q1, p, ep, hp, sp_eqM_r _, by rw [if_neg c_39]⟩, hT⟩
      · refine ev_iconst (v := 0) dX12_parted_30 (by decide) ?_
        refine ev_iret dX12_parted_31 rfl rfl ⟨_, _, rfl, Or.inl ⟨rfl, ?_⟩, hT⟩
        clear hT
        first
          | (cases hq0 : sp_in x1 0 (S.1 1 0 - 1) <;> cases hq1 : sp_in x2 (-1) 3 <;> first | (exfalso; simp_all [mo_b]; done) | (refine ⟨1, Or.inl ⟨rfl, rfl⟩, ?_⟩; simp_all [mo_b, sp_bad, mo_up_tw]; done))
          | (cases hq0 : sp_in x1 0 (S.1 1 0 - 1) <;> cases hq1 : sp_in x2 (-1) 3 <;> first | (exfalso; simp_all [mo_b]; done) | (refine ⟨2, Or.inr (⟨rfl, rfl, rfl⟩), ?_⟩; simp_all [mo_b, sp_bad, mo_up_tw]; done))
    refine ev_if_ne (tgt := 22) dX12_parted_15 (by decide) (fun c_15 => ?_) (fun c_15 => ?_)
    · refine ev_iconst (v := 0) dX12_parted_22 (by decide) ?_
      exact K_23 g hT _ (by rw [if_neg c_15]; rfl)
    · refine ev_iconst (v := 1) dX12_parted_18 (by decide) ?_
      refine ev_goto (tgt := 23) dX12_parted_19 (by decide) ?_
      exact K_23 g hT _ (by rw [if_pos c_15]; rfl)
end M14
