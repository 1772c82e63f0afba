section M9
/-- the bids of v coins, the first n papers: what is left and the state -/
def sp_bid1 (v : Int32) (r0 : Int32 × mo_S) : Nat → Int32 × mo_S
  | 0 => r0
  | n + 1 => if mo_b (sp_X12_isIn (sp_bid1 v r0 n).2 (nI n)) = 0 then sp_bid1 v r0 n
    else if (sp_bid1 v r0 n).2.1 14 n = 0 then sp_bid1 v r0 n
    else if (sp_bid1 v r0 n).2.1 15 n = v then ((sp_bid1 v r0 n).1 - sp_least ((sp_bid1 v r0 n).2.1 14 n) (sp_bid1 v r0 n).1, mo_up (sp_bid1 v r0 n).2 51 n (sp_least ((sp_bid1 v r0 n).2.1 14 n) (sp_bid1 v r0 n).1))
    else sp_bid1 v r0 n
def sp_bidv (n : Nat) : Int32 := 100 - nI n
/-- .. of 100 coins, 99 coins and on, n of them -/
def sp_bidA (S : mo_S) (L : Int32) (P : Nat) : Nat → Int32 × mo_S
  | 0 => (L, S)
  | n + 1 => sp_bid1 (sp_bidv n) (sp_bidA S L P n) P
theorem sp_bid1_ne {v : Int32} {r0 : Int32 × mo_S} {k : Nat} (h : k ≠ 51) : ∀ n, (sp_bid1 v r0 n).2.1 k = r0.2.1 k
  | 0 => rfl
  | n + 1 => by
    simp only [sp_bid1]
    split
    · exact sp_bid1_ne h n
    · split
      · exact sp_bid1_ne h n
      · split
        · rw [← sp_bid1_ne (v := v) (r0 := r0) h n]
          funext b
          simp [mo_up, h]
        · exact sp_bid1_ne h n
theorem sp_bidA_ne {S : mo_S} {L : Int32} {P k : Nat} (h : k ≠ 51) : ∀ n, (sp_bidA S L P n).2.1 k = S.1 k
  | 0 => rfl
  | n + 1 => by rw [sp_bidA, sp_bid1_ne h, sp_bidA_ne h n]
theorem sp_bidv_1 (n : Nat) : sp_bidv n + Int32.ofInt (-1) = sp_bidv (n + 1) := by
  unfold sp_bidv
  rw [nI_succ, show Int32.ofInt (-1) = -1 from by decide, Int32.sub_eq_add_neg, Int32.sub_eq_add_neg, Int32.neg_add, Int32.add_assoc, Int32.sub_eq_add_neg (-nI n)]
theorem sp_bidv_in {n : Nat} (h : n ≤ 100) : ¬ sp_bidv n < 0 := by
  unfold sp_bidv
  rw [show (100 : Int32) = nI 100 from rfl, pk_sub h]
  exact nI_pos (by omega)
theorem sp_bidv_out : sp_bidv 101 < 0 := by decide
theorem c_X12_byBids {G : ev_G} {W : mo_W} {d : Nat} {S : mo_S} {x1 : Int32} (hE : ev_En G) (hd : 1 ≤ d) (hP : S.1 1 0 = nI (sp_P S)) (hP2 : sp_P S ≤ 12) : mo_C G W d mX12_byBids [.int x1] S none ((sp_bidA S x1 (sp_P S) 101).2) := by
  refine mo_start (lv0 := [some (.ref W.1), some (.int x1), none, none, none]) (by decide +kernel) rfl (Nat.le_of_ble_eq_true rfl) rfl ?_
  intro g0 g hT
  refine ev_iload_n dX12_byBids_0 rfl rfl ?_
  refine ev_istore_n dX12_byBids_1 rfl (Nat.le_of_ble_eq_true rfl) rfl ?_
  refine ev_bipush (v := (sp_bidv 0)) dX12_byBids_2 (by decide) ?_
  refine ev_istore_n dX12_byBids_4 rfl (Nat.le_of_ble_eq_true rfl) rfl ?_
  have loop : ∀ (n i : Nat), i ≤ 101 → 101 < i + n → ∀ (u : Unit), u = () → ∀ g, mo_T G W g0 g (sp_bidA S x1 (sp_P S) i).2 → ev_V G d 0 0 mX12_byBids (fun o g' => o = .inl none ∧ mo_T G W g0 g' ((sp_bidA S x1 (sp_P S) 101).2)) g 5 [some (.ref W.1), some (.int x1), some (.int (sp_bidA S x1 (sp_P S) i).1), some (.int (sp_bidv i)), none] [] := by
    intro n
    induction n with
    | zero => intro i h1 h2; exact absurd h2 (by omega)
    | succ n ih =>
      intro i h1 h2 u hx g hT
      refine ev_iload_n dX12_byBids_5 rfl rfl ?_
      refine ev_if_lt (tgt := 94) dX12_byBids_6 (by decide) (fun c_6 => ?_) (fun c_6 => ?_)
      · have e : i = 101 := by
          rcases Nat.lt_or_ge i 101 with q | q
          · exact absurd c_6 (sp_bidv_in (by omega))
          · omega
        subst e
        exact ev_vret dX12_byBids_94 rfl ⟨rfl, hT⟩
      · have hlt : i < 101 := by
          rcases Nat.lt_or_ge i 101 with q | q
          · exact q
          · exact absurd (by rw [show i = 101 by omega]; exact sp_bidv_out) c_6
        refine ev_iconst (v := (nI 0)) dX12_byBids_9 (by decide) ?_
        refine ev_istore dX12_byBids_10 (Nat.le_of_ble_eq_true rfl) rfl ?_
        have K88 : ∀ g, mo_T G W g0 g (sp_bid1 (sp_bidv i) (sp_bidA S x1 (sp_P S) i) (sp_P S)).2 → ev_V G d 0 0 mX12_byBids (fun o g' => o = .inl none ∧ mo_T G W g0 g' (sp_bidA S x1 (sp_P S) 101).2) g 88 [some (.ref W.1), some (.int x1), some (.int (sp_bid1 (sp_bidv i) (sp_bidA S x1 (sp_P S) i) (sp_P S)).1), some (.int (sp_bidv i)), some (.int (nI (sp_P S)))] [] := by
          intro g hT
          refine ev_iinc (v := (sp_bidv (i + 1))) dX12_byBids_88 rfl (sp_bidv_1 i) rfl ?_
          refine ev_goto (tgt := 5) dX12_byBids_91 (by decide) ?_
          refine ev_none 4 ?_
          exact ih (i + 1) (by omega) (by omega) () rfl g hT
        have loop2 : ∀ (n2 p : Nat), p ≤ (sp_P S) → (sp_P S) < p + n2 → ∀ (z2 : Int32), z2 = (sp_bid1 (sp_bidv i) (sp_bidA S x1 (sp_P S) i) p).1 → ∀ g, mo_T G W g0 g (sp_bid1 (sp_bidv i) (sp_bidA S x1 (sp_P S) i) p).2 → ev_V G d 0 0 mX12_byBids (fun o g' => o = .inl none ∧ mo_T G W g0 g' (sp_bidA S x1 (sp_P S) 101).2) g 12 [some (.ref W.1), some (.int x1), some (.int z2), some (.int (sp_bidv i)), some (.int (nI p))] [] := by
          intro n2
          induction n2 with
          | zero => intro p h12 h22; exact absurd h22 (by omega)
          | succ n2 ih2 =>
            intro p h12 h22 z2 hx2 g hT
            refine ev_iload dX12_byBids_12 rfl ?_
            have hP9 : (sp_bid1 (sp_bidv i) (sp_bidA S x1 (sp_P S) i) p).2.1 1 0 = nI (sp_P S) := by rw [sp_bid1_ne (by decide), sp_bidA_ne (by decide)]; exact hP
            refine ev_aload_n dX12_byBids_14 rfl rfl ?_
            refine mo_geti hE hT dX12_byBids_15 fX12_185 (by decide) ?_
            refine ev_icmp_ge (tgt := 88) dX12_byBids_18 (by decide) (fun c_18 => ?_) (fun c_18 => ?_)
            · have e : p = sp_P S := by have q := mo_ige hP9 (by omega) (by omega) c_18; omega
              subst e
              rw [hx2]
              exact K88 g hT
            · have hlp : p < sp_P S := mo_ilt hP9 (by omega) (by omega) c_18
              refine ev_aload_n dX12_byBids_21 rfl rfl ?_
              refine ev_iload dX12_byBids_22 rfl ?_
              refine mo_call1 (d' := d - 1) hE hT dX12_byBids_24 rfl rfl kX12_isIn lX12_418 iX12_isIn vX12_isIn (Nat.le_of_ble_eq_true rfl) (by omega) (c_X12_isIn hE (vp_in_nI (by omega) (by decide))) (fun g hT => ?_)
              refine ev_if_eq (tgt := 82) dX12_byBids_27 (by decide) (fun c_27 => ?_) (fun c_27 => ?_)
              · refine ev_iinc (v := (nI (p + 1))) dX12_byBids_82 rfl (by exact nI_1 p) rfl ?_
                refine ev_goto (tgt := 12) dX12_byBids_85 (by decide) ?_
                subst hx2
                have hlp : p < sp_P S := mo_ilt hP9 (by omega) (by omega) c_18
                first
                  | exact ih2 (p + 1) (by omega) (by omega) _ (by simp only [sp_bid1]; rw [if_pos c_27]) g (by simp only [sp_bid1]; rw [if_pos c_27]; exact hT)
                  | exact ih2 (p + 1) (by omega) (by omega) _ (by simp only [sp_bid1]; rw [if_neg c_27, if_pos c_37]) g (by simp only [sp_bid1]; rw [if_neg c_27, if_pos c_37]; exact hT)
                  | exact ih2 (p + 1) (by omega) (by omega) _ (by simp only [sp_bid1]; rw [if_neg c_27, if_neg c_37, if_pos c_48]) g (by simp only [sp_bid1]; rw [if_neg c_27, if_neg c_37, if_pos c_48]; exact hT)
                  | exact ih2 (p + 1) (by omega) (by omega) _ (by simp only [sp_bid1]; rw [if_neg c_27, if_neg c_37, if_neg c_48]) g (by simp only [sp_bid1]; rw [if_neg c_27, if_neg c_37, if_neg c_48]; exact hT)
              · refine ev_aload_n dX12_byBids_30 rfl rfl ?_
                refine mo_geta hE hT dX12_byBids_31 fX12_43 (by decide) ?_
                refine ev_iload dX12_byBids_34 rfl ?_
                refine mo_iald (q := p) hE hT dX12_byBids_36 (by decide) rfl (show _ < 12 from (by omega)) ?_
                refine ev_if_eq (tgt := 82) dX12_byBids_37 (by decide) (fun c_37 => ?_) (fun c_37 => ?_)
                · refine ev_iinc (v := (nI (p + 1))) dX12_byBids_82 rfl (by exact nI_1 p) rfl ?_
                  refine ev_goto (tgt := 12) dX12_byBids_85 (by decide) ?_
                  subst hx2
                  have hlp : p < sp_P S := mo_ilt hP9 (by omega) (by omega) c_18
                  first
                    | exact ih2 (p + 1) (by omega) (by omega) _ (by simp only [sp_bid1]; rw [if_pos c_27]) g (by simp only [sp_bid1]; rw [if_pos c_27]; exact hT)
                    | exact ih2 (p + 1) (by omega) (by omega) _ (by simp only [sp_bid1]; rw [if_neg c_27, if_pos c_37]) g (by simp only [sp_bid1]; rw [if_neg c_27, if_pos c_37]; exact hT)
                    | exact ih2 (p + 1) (by omega) (by omega) _ (by simp only [sp_bid1]; rw [if_neg c_27, if_neg c_37, if_pos c_48]) g (by simp only [sp_bid1]; rw [if_neg c_27, if_neg c_37, if_pos c_48]; exact hT)
                    | exact ih2 (p + 1) (by omega) (by omega) _ (by simp only [sp_bid1]; rw [if_neg c_27, if_neg c_37, if_neg c_48]) g (by simp only [sp_bid1]; rw [if_neg c_27, if_neg c_37, if_neg c_48]; exact hT)
                · refine ev_aload_n dX12_byBids_40 rfl rfl ?_
                  refine mo_geta hE hT dX12_byBids_41 fX12_46 (by decide) ?_
                  refine ev_iload dX12_byBids_44 rfl ?_
                  refine mo_iald (q := p) hE hT dX12_byBids_46 (by decide) rfl (show _ < 12 from (by omega)) ?_
                  refine ev_iload_n dX12_byBids_47 rfl rfl ?_
                  refine ev_icmp_eq (tgt := 54) dX12_byBids_48 (by decide) (fun c_48 => ?_) (fun c_48 => ?_)
                  · refine ev_aload_n dX12_byBids_54 rfl rfl ?_
                    refine mo_geta hE hT dX12_byBids_55 fX12_108 (by decide) ?_
                    refine ev_iload dX12_byBids_58 rfl ?_
                    refine ev_aload_n dX12_byBids_60 rfl rfl ?_
                    refine mo_geta hE hT dX12_byBids_61 fX12_43 (by decide) ?_
                    refine ev_iload dX12_byBids_64 rfl ?_
                    refine mo_iald (q := p) hE hT dX12_byBids_66 (by decide) rfl (show _ < 12 from (by omega)) ?_
                    refine ev_iload_n dX12_byBids_67 rfl rfl ?_
                    refine ev_pS2 (d' := d - 1) dX12_byBids_68 rfl kX12_least lX12_421 sX12_least (Nat.le_of_ble_eq_true rfl) (by omega) (c_X12_least) ?_
                    refine mo_iast (q := p) hE hT dX12_byBids_71 (by decide) rfl (show _ < 12 from (by omega)) (fun g hT => ?_)
                    refine ev_iload_n dX12_byBids_72 rfl rfl ?_
                    refine ev_aload_n dX12_byBids_73 rfl rfl ?_
                    refine mo_geta hE hT dX12_byBids_74 fX12_108 (by decide) ?_
                    refine ev_iload dX12_byBids_77 rfl ?_
                    refine mo_ialdQ (q := p) (v := (sp_least ((sp_bid1 (sp_bidv i) (sp_bidA S x1 (sp_P S) i) p).2.1 14 p) z2)) hE hT dX12_byBids_79 (by decide) rfl (show _ < 12 from (by omega)) (by simp [sp_bad_ne, mo_up]) ?_
                    refine ev_isub dX12_byBids_80 ?_
                    refine ev_istore_n dX12_byBids_81 rfl (Nat.le_of_ble_eq_true rfl) rfl ?_
                    refine ev_iinc (v := (nI (p + 1))) dX12_byBids_82 rfl (by exact nI_1 p) rfl ?_
                    refine ev_goto (tgt := 12) dX12_byBids_85 (by decide) ?_
                    subst hx2
                    have hlp : p < sp_P S := mo_ilt hP9 (by omega) (by omega) c_18
                    first
                      | exact ih2 (p + 1) (by omega) (by omega) _ (by simp only [sp_bid1]; rw [if_pos c_27]) g (by simp only [sp_bid1]; rw [if_pos c_27]; exact hT)
                      | exact ih2 (p + 1) (by omega) (by omega) _ (by simp only [sp_bid1]; rw [if_neg c_27, if_pos c_37]) g (by simp only [sp_bid1]; rw [if_neg c_27, if_pos c_37]; exact hT)
                      | exact ih2 (p + 1) (by omega) (by omega) _ (by simp only [sp_bid1]; rw [if_neg c_27, if_neg c_37, if_pos c_48]) g (by simp only [sp_bid1]; rw [if_neg c_27, if_neg c_37, if_pos c_48]; exact hT)
                      | exact ih2 (p + 1) (by omega) (by omega) _ (by simp only [sp_bid1]; rw [if_neg c_27, if_neg c_37, if_neg c_48]) g (by simp only [sp_bid1]; rw [if_neg c_27, if_neg c_37, if_neg c_48]; exact hT)
                  · refine ev_goto (tgt := 82) dX12_byBids_51 (by decide) ?_
                    refine ev_iinc (v := (nI (p + 1))) dX12_byBids_82 rfl (by exact nI_1 p) rfl ?_
                    refine ev_goto (tgt := 12) dX12_byBids_85 (by decide) ?_
                    subst hx2
                    have hlp : p < sp_P S := mo_ilt hP9 (by omega) (by omega) c_18
                    first
                      | exact ih2 (p + 1) (by omega) (by omega) _ (by simp only [sp_bid1]; rw [if_pos c_27]) g (by simp only [sp_bid1]; rw [if_pos c_27]; exact hT)
                      | exact ih2 (p + 1) (by omega) (by omega) _ (by simp only [sp_bid1]; rw [if_neg c_27, if_pos c_37]) g (by simp only [sp_bid1]; rw [if_neg c_27, if_pos c_37]; exact hT)
                      | exact ih2 (p + 1) (by omega) (by omega) _ (by simp only [sp_bid1]; rw [if_neg c_27, if_neg c_37, if_pos c_48]) g (by simp only [sp_bid1]; rw [if_neg c_27, if_neg c_37, if_pos c_48]; exact hT)
                      | exact ih2 (p + 1) (by omega) (by omega) _ (by simp only [sp_bid1]; rw [if_neg c_27, if_neg c_37, if_neg c_48]) g (by simp only [sp_bid1]; rw [if_neg c_27, if_neg c_37, if_neg c_48]; exact hT)
        exact loop2 ((sp_P S) + 1) 0 (by omega) (by omega) _ rfl g hT
  exact loop (101 + 1) 0 (by omega) (by omega) () rfl g hT
end M9
