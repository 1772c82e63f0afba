section M16
/-- the scratch of 'best' and of what it calls -/
def sp_eqB (T S : mo_S) : Prop := ∀ k, (k < 42 ∨ (52 < k ∧ k < 69) ∨ 72 < k) → T.1 k = S.1 k
abbrev sp_Q4 : Type := Int32 × Int32 × Int32 × Int32
/-- what the state tells of the best so far -/
def sp_bq (T U : mo_S) (q : sp_Q4) : Prop := sp_eqB T U ∧ T.1 69 0 = q.1 ∧ (0 < q.1 → T.1 70 0 = q.2.1 ∧ T.1 71 0 = q.2.2.1 ∧ T.1 72 0 = q.2.2.2)
def sp_tc (S : mo_S) (p : Nat) (have_ g v : Int32) : Int32 := sp_X12_printable (sp_demand S p v (sp_W S)) g have_
def sp_tw (S : mo_S) (p : Nat) (have_ g v : Int32) : Int32 := (sp_tc S p have_ g v * v + sp_tc S p have_ g v * g / 4) - 2 * sp_X12_kilograms (sp_tc S p have_ g v) g
/-- one try -/
def sp_try (S : mo_S) (p : Nat) (have_ g v : Int32) (q : sp_Q4) : sp_Q4 := if q.1 ≤ 0 then (g, v, sp_tc S p have_ g v, sp_tw S p have_ g v) else if q.2.2.2 < sp_tw S p have_ g v then (g, v, sp_tc S p have_ g v, sp_tw S p have_ g v) else q
/-- prices 1 to n with these pages -/
def sp_trv (S : mo_S) (p : Nat) (have_ g : Int32) (q : sp_Q4) : Nat → sp_Q4
  | 0 => q
  | n + 1 => sp_try S p have_ g (nI (n + 1)) (sp_trv S p have_ g q n)
/-- the price that is told for p with g pages -/
def sp_prg (S : mo_S) (F : mo_Fn) (p : Nat) (g : Int32) : Int32 := sp_price (mo_up (sp_X12_means S (nI p)) 45 0 g) F
def sp_trg (S : mo_S) (F : mo_Fn) (p : Nat) (have_ : Int32) : Nat → sp_Q4
  | 0 => (0, 0, 0, 0)
  | n + 1 => if sp_prg S F p (nI (2 * n + 2)) < 0 then sp_trv S p have_ (nI (2 * n + 2)) (sp_trg S F p have_ n) 60 else sp_try S p have_ (nI (2 * n + 2)) (sp_prg S F p (nI (2 * n + 2))) (sp_trg S F p have_ n)
def sp_have (S : mo_S) (p : Nat) : Int32 := S.1 10 p + (if S.1 11 p ≤ 0 then 0 else S.1 11 p)
/-- the best of p: by how many pages the order allows -/
def sp_bst (S : mo_S) (F : mo_Fn) (p : Nat) : sp_Q4 := sp_trg S F p (sp_have S p) ((sp_X12_much S (1 + S.1 3 p)).toNatClampNeg / 2)
def sp_best (S : mo_S) (F : mo_Fn) (p : Nat) (x2 : Int32) : Int32 := if S.1 12 p = 1 then (if x2 = 0 then (sp_bst S F p).1 else if x2 = 1 then (sp_bst S F p).2.1 else if x2 = 2 then (sp_bst S F p).2.2.1 else (sp_bst S F p).2.2.2) else -2000000000
theorem sp_eqB_F {T S : mo_S} (h : sp_eqB T S) : sp_eqF T S := ⟨h _ (by decide), h _ (by decide), h _ (by decide), h _ (by decide), h _ (by decide), h _ (by decide), h _ (by decide), h _ (by decide)⟩
theorem sp_eqB_J {T S : mo_S} {F : mo_Fn} (e : sp_eqB T S) (h : mo_J S F) : mo_J T F := by
  obtain ⟨h1, ⟨h2, h3⟩, h4, h5⟩ := h
  have hq := sp_eqB_F e
  refine ⟨fun j b hj => ?_, ⟨h2.cong hq, fun b n hb hn => ?_⟩, fun p hp => ?_, by rw [e 53 (by decide), e 54 (by decide)]; exact h5⟩
  · by_cases c : j < 42 ∨ (52 < j ∧ j < 69) ∨ 72 < j
    · rw [e j c]; exact h1 j b hj
    · have c2 : j = 69 ∨ j = 70 ∨ j = 71 ∨ j = 72 := by omega
      rcases c2 with rfl | rfl | rfl | rfl
      · exact ⟨by rw [show mo_lo 69 = -2147483648 from by decide]; exact mo_any.1, by rw [show mo_hi 69 = 2147483647 from by decide]; exact mo_any.2⟩
      · exact ⟨by rw [show mo_lo 70 = -2147483648 from by decide]; exact mo_any.1, by rw [show mo_hi 70 = 2147483647 from by decide]; exact mo_any.2⟩
      · exact ⟨by rw [show mo_lo 71 = -2147483648 from by decide]; exact mo_any.1, by rw [show mo_hi 71 = 2147483647 from by decide]; exact mo_any.2⟩
      · exact ⟨by rw [show mo_lo 72 = -2147483648 from by decide]; exact mo_any.1, by rw [show mo_hi 72 = 2147483647 from by decide]; exact mo_any.2⟩
  · rw [sp_eqF_O hq] at hb
    rw [hq.2.2.2.1] at hn
    rw [hq.2.2.2.2.1, hq.2.2.2.2.2.1]
    exact h3 b n hb hn
  · rw [e 6 (by decide), e 7 (by decide)]
    rw [sp_P_cong (e 1 (by decide))] at hp
    exact h4 p hp
theorem sp_eqB_up {T S : mo_S} {k i : Nat} {v : Int32} (hk : (42 ≤ k ∧ k ≤ 52) ∨ (69 ≤ k ∧ k ≤ 72)) (h : sp_eqB T S) : sp_eqB (mo_up T k i v) S := fun j hj => by rw [mo_up_ne (by omega)]; exact h j hj
theorem sp_eqB_N {T U S : mo_S} (h : sp_eqN T U) (h2 : sp_eqB U S) : sp_eqB T S := fun k hk => by rw [h.1 k (by omega), h2 k hk]
theorem sp_bq_N {T V U : mo_S} {q : sp_Q4} (h : sp_eqN T V) (h2 : sp_bq V U q) : sp_bq T U q := ⟨sp_eqB_N h h2.1, by rw [h.1 69 (by decide)]; exact h2.2.1, fun a => by rw [h.1 70 (by decide), h.1 71 (by decide), h.1 72 (by decide)]; exact h2.2.2 a⟩
theorem sp_W_cong {T S : mo_S} (h : T.1 24 = S.1 24) : sp_W T = sp_W S := by unfold sp_W; rw [h]

/-- a merger, but for reels, the loyal and the second one's state -/
def sp_mg0 (S : mo_S) (p q : Nat) : mo_S :=
  (mo_up (mo_up (mo_up (mo_up (mo_up (mo_up (mo_up (mo_up (mo_up (mo_up (mo_up (mo_up (mo_up S 0 0 0) 4 p (sp_least ((S.1 4 p) + (S.1 4 q)) 100000)) 5 p (sp_least ((S.1 5 p) + (S.1 5 q)) 1000)) 10 p ((S.1 10 p) + (S.1 10 q))) 11 p ((S.1 11 p) + (S.1 11 q))) 9 p ((S.1 9 p) + (S.1 9 q))) 4 q 0) 5 q 0) 10 q 0) 11 q 0) 9 q 0) 14 q 0) 15 q 0)
def sp_merge (S : mo_S) (p q : Nat) : mo_S := mo_up (sp_mgW (sp_mgR (sp_mg0 S p q) p q (sp_R S)) p q (sp_W S)) 12 q 2
theorem c_X12_merge {G : ev_G} {W : mo_W} {d : Nat} {S : mo_S} {F : mo_Fn} {x1 x2 : Int32} (hE : ev_En G) (h : mo_J S F) (hd : 9 ≤ d) : mo_Cr G W d mX12_merge [.int x1, .int x2] S (fun r S2 => (r = some (.int 0) ∧ ∃ k : Int32, ((k = 1 ∧ (sp_in x1 0 (S.1 1 0 - 1) && sp_in x2 0 (S.1 1 0 - 1)) = false)) ∧ S2 = mo_up S 0 0 k) ∨ ((sp_in x1 0 (S.1 1 0 - 1) && sp_in x2 0 (S.1 1 0 - 1)) = true ∧ (∃ p q, x1 = nI p ∧ x2 = nI q ∧ p < sp_P S ∧ q < sp_P S ∧ ((sp_X12_areTwo (mo_up S 0 0 0) (nI p) (nI q) = false ∧ S2 = (mo_up S 0 0 0) ∧ r = some (.int (-1))) ∨ (sp_X12_areTwo (mo_up S 0 0 0) (nI p) (nI q) = true ∧ S2 = sp_merge S p q ∧ r = some (.int 1)))))) := by
  refine mo_startr (lv0 := [some (.ref W.1), some (.int x1), some (.int x2), none]) (by decide +kernel) rfl (Nat.le_of_ble_eq_true rfl) rfl ?_
  intro g0 g hT
  refine ev_aload_n dX12_merge_0 rfl rfl ?_
  refine ev_iload_n dX12_merge_1 rfl rfl ?_
  refine ev_iload_n dX12_merge_2 rfl rfl ?_
  refine mo_call2 (d' := d - 1) hE hT dX12_merge_3 rfl rfl kX12_isTwo lX12_464 iX12_isTwo vX12_isTwo (Nat.le_of_ble_eq_true rfl) (by omega) (c_X12_isTwoB hE (by omega)) (fun g hT => ?_)
  refine ev_if_ne (tgt := 11) dX12_merge_6 (by decide) (fun c_6 => ?_) (fun c_6 => ?_)
  · have q0 : (sp_in x1 0 (S.1 1 0 - 1) && sp_in x2 0 (S.1 1 0 - 1)) = true := by clear hT; cases hq0 : (sp_in x1 0 (S.1 1 0 - 1) && sp_in x2 0 (S.1 1 0 - 1)) <;> first | rfl | (exfalso; simp_all [mo_b]; done)
    rw [show (mo_up S 0 0 (mo_b (!(sp_in x1 0 (S.1 1 0 - 1) && sp_in x2 0 (S.1 1 0 - 1))))) = mo_up S 0 0 0 from by simp only [q0]; first | rfl | simp_all [mo_b, sp_bad, mo_up_tw]] at hT
    obtain ⟨qa, qb⟩ : sp_in x1 0 (S.1 1 0 - 1) = true ∧ sp_in x2 0 (S.1 1 0 - 1) = true := by simpa using q0
    obtain ⟨p, hp, ep⟩ := mo_vinE (N := 12) h.P.1 h.P.2 (by decide) qa
    obtain ⟨q, hq, eq⟩ := mo_vinE (N := 12) h.P.1 h.P.2 (by decide) qb
    have hP2 := h.P.2
    have hR2 := h.R.2
    have hW2 := h.W.2
    refine ev_lvE (lv2 := [some (.ref W.1), some (.int (nI p)), some (.int (nI q)), none]) (by rw [ep, eq]) ?_
    refine ev_aload_n dX12_merge_11 rfl rfl ?_
    refine ev_iload_n dX12_merge_12 rfl rfl ?_
    refine ev_iload_n dX12_merge_13 rfl rfl ?_
    refine mo_call2 (d' := d - 1) hE hT dX12_merge_14 rfl rfl kX12_areTwo lX12_467 iX12_areTwo vX12_areTwo (Nat.le_of_ble_eq_true rfl) (by omega) (c_X12_areTwo hE (vp_in_nI (by omega) (by decide)) (vp_in_nI (by omega) (by decide))) (fun g hT => ?_)
    refine ev_if_ne (tgt := 22) dX12_merge_17 (by decide) (fun c_17 => ?_) (fun c_17 => ?_)
    · refine ev_aload_n dX12_merge_22 rfl rfl ?_
      refine mo_geta hE hT dX12_merge_23 fX12_13 (by decide) ?_
      refine ev_iload_n dX12_merge_26 rfl rfl ?_
      refine ev_aload_n dX12_merge_27 rfl rfl ?_
      refine mo_geta hE hT dX12_merge_28 fX12_13 (by decide) ?_
      refine ev_iload_n dX12_merge_31 rfl rfl ?_
      refine mo_ialdQ (q := p) (v := (S.1 4 p)) hE hT dX12_merge_32 (by decide) rfl (show _ < 12 from (by omega)) (by simp [sp_bad_ne, mo_up]) ?_
      refine ev_aload_n dX12_merge_33 rfl rfl ?_
      refine mo_geta hE hT dX12_merge_34 fX12_13 (by decide) ?_
      refine ev_iload_n dX12_merge_37 rfl rfl ?_
      refine mo_ialdQ (q := q) (v := (S.1 4 q)) hE hT dX12_merge_38 (by decide) rfl (show _ < 12 from (by omega)) (by simp [sp_bad_ne, mo_up]) ?_
      refine ev_iadd dX12_merge_39 ?_
      refine ev_ldc dX12_merge_40 nX12_180 ?_
      refine ev_pS2 (d' := d - 1) dX12_merge_42 rfl kX12_least lX12_421 sX12_least (Nat.le_of_ble_eq_true rfl) (by omega) (c_X12_least) ?_
      refine mo_iast (q := p) hE hT dX12_merge_45 (by decide) rfl (show _ < 12 from (by omega)) (fun g hT => ?_)
      refine ev_aload_n dX12_merge_46 rfl rfl ?_
      refine mo_geta hE hT dX12_merge_47 fX12_16 (by decide) ?_
      refine ev_iload_n dX12_merge_50 rfl rfl ?_
      refine ev_aload_n dX12_merge_51 rfl rfl ?_
      refine mo_geta hE hT dX12_merge_52 fX12_16 (by decide) ?_
      refine ev_iload_n dX12_merge_55 rfl rfl ?_
      refine mo_ialdQ (q := p) (v := (S.1 5 p)) hE hT dX12_merge_56 (by decide) rfl (show _ < 12 from (by omega)) (by simp [sp_bad_ne, mo_up]) ?_
      refine ev_aload_n dX12_merge_57 rfl rfl ?_
      refine mo_geta hE hT dX12_merge_58 fX12_16 (by decide) ?_
      refine ev_iload_n dX12_merge_61 rfl rfl ?_
      refine mo_ialdQ (q := q) (v := (S.1 5 q)) hE hT dX12_merge_62 (by decide) rfl (show _ < 12 from (by omega)) (by simp [sp_bad_ne, mo_up]) ?_
      refine ev_iadd dX12_merge_63 ?_
      refine ev_sipush (v := 1000) dX12_merge_64 (by decide) ?_
      refine ev_pS2 (d' := d - 1) dX12_merge_67 rfl kX12_least lX12_421 sX12_least (Nat.le_of_ble_eq_true rfl) (by omega) (c_X12_least) ?_
      refine mo_iast (q := p) hE hT dX12_merge_70 (by decide) rfl (show _ < 12 from (by omega)) (fun g hT => ?_)
      refine ev_aload_n dX12_merge_71 rfl rfl ?_
      refine mo_geta hE hT dX12_merge_72 fX12_31 (by decide) ?_
      refine ev_iload_n dX12_merge_75 rfl rfl ?_
      refine ev_dup2 dX12_merge_76 rfl rfl ?_
      refine mo_ialdQ (q := p) (v := (S.1 10 p)) hE hT dX12_merge_77 (by decide) rfl (show _ < 12 from (by omega)) (by simp [sp_bad_ne, mo_up]) ?_
      refine ev_aload_n dX12_merge_78 rfl rfl ?_
      refine mo_geta hE hT dX12_merge_79 fX12_31 (by decide) ?_
      refine ev_iload_n dX12_merge_82 rfl rfl ?_
      refine mo_ialdQ (q := q) (v := (S.1 10 q)) hE hT dX12_merge_83 (by decide) rfl (show _ < 12 from (by omega)) (by simp [sp_bad_ne, mo_up]) ?_
      refine ev_iadd dX12_merge_84 ?_
      refine mo_iast (q := p) hE hT dX12_merge_85 (by decide) rfl (show _ < 12 from (by omega)) (fun g hT => ?_)
      refine ev_aload_n dX12_merge_86 rfl rfl ?_
      refine mo_geta hE hT dX12_merge_87 fX12_34 (by decide) ?_
      refine ev_iload_n dX12_merge_90 rfl rfl ?_
      refine ev_dup2 dX12_merge_91 rfl rfl ?_
      refine mo_ialdQ (q := p) (v := (S.1 11 p)) hE hT dX12_merge_92 (by decide) rfl (show _ < 12 from (by omega)) (by simp [sp_bad_ne, mo_up]) ?_
      refine ev_aload_n dX12_merge_93 rfl rfl ?_
      refine mo_geta hE hT dX12_merge_94 fX12_34 (by decide) ?_
      refine ev_iload_n dX12_merge_97 rfl rfl ?_
      refine mo_ialdQ (q := q) (v := (S.1 11 q)) hE hT dX12_merge_98 (by decide) rfl (show _ < 12 from (by omega)) (by simp [sp_bad_ne, mo_up]) ?_
      refine ev_iadd dX12_merge_99 ?_
      refine mo_iast (q := p) hE hT dX12_merge_100 (by decide) rfl (show _ < 12 from (by omega)) (fun g hT => ?_)
      refine ev_aload_n dX12_merge_101 rfl rfl ?_
      refine mo_geta hE hT dX12_merge_102 fX12_28 (by decide) ?_
      refine ev_iload_n dX12_merge_105 rfl rfl ?_
      refine ev_dup2 dX12_merge_106 rfl rfl ?_
      refine mo_ialdQ (q := p) (v := (S.1 9 p)) hE hT dX12_merge_107 (by decide) rfl (show _ < 12 from (by omega)) (by simp [sp_bad_ne, mo_up]) ?_
      refine ev_aload_n dX12_merge_108 rfl rfl ?_
      refine mo_geta hE hT dX12_merge_109 fX12_28 (by decide) ?_
      refine ev_iload_n dX12_merge_112 rfl rfl ?_
      refine mo_ialdQ (q := q) (v := (S.1 9 q)) hE hT dX12_merge_113 (by decide) rfl (show _ < 12 from (by omega)) (by simp [sp_bad_ne, mo_up]) ?_
      refine ev_iadd dX12_merge_114 ?_
      refine mo_iast (q := p) hE hT dX12_merge_115 (by decide) rfl (show _ < 12 from (by omega)) (fun g hT => ?_)
      refine ev_aload_n dX12_merge_116 rfl rfl ?_
      refine mo_geta hE hT dX12_merge_117 fX12_13 (by decide) ?_
      refine ev_iload_n dX12_merge_120 rfl rfl ?_
      refine ev_iconst (v := 0) dX12_merge_121 (by decide) ?_
      refine mo_iast (q := q) hE hT dX12_merge_122 (by decide) rfl (show _ < 12 from (by omega)) (fun g hT => ?_)
      refine ev_aload_n dX12_merge_123 rfl rfl ?_
      refine mo_geta hE hT dX12_merge_124 fX12_16 (by decide) ?_
      refine ev_iload_n dX12_merge_127 rfl rfl ?_
      refine ev_iconst (v := 0) dX12_merge_128 (by decide) ?_
      refine mo_iast (q := q) hE hT dX12_merge_129 (by decide) rfl (show _ < 12 from (by omega)) (fun g hT => ?_)
      refine ev_aload_n dX12_merge_130 rfl rfl ?_
      refine mo_geta hE hT dX12_merge_131 fX12_31 (by decide) ?_
      refine ev_iload_n dX12_merge_134 rfl rfl ?_
      refine ev_iconst (v := 0) dX12_merge_135 (by decide) ?_
      refine mo_iast (q := q) hE hT dX12_merge_136 (by decide) rfl (show _ < 12 from (by omega)) (fun g hT => ?_)
      refine ev_aload_n dX12_merge_137 rfl rfl ?_
      refine mo_geta hE hT dX12_merge_138 fX12_34 (by decide) ?_
      refine ev_iload_n dX12_merge_141 rfl rfl ?_
      refine ev_iconst (v := 0) dX12_merge_142 (by decide) ?_
      refine mo_iast (q := q) hE hT dX12_merge_143 (by decide) rfl (show _ < 12 from (by omega)) (fun g hT => ?_)
      refine ev_aload_n dX12_merge_144 rfl rfl ?_
      refine mo_geta hE hT dX12_merge_145 fX12_28 (by decide) ?_
      refine ev_iload_n dX12_merge_148 rfl rfl ?_
      refine ev_iconst (v := 0) dX12_merge_149 (by decide) ?_
      refine mo_iast (q := q) hE hT dX12_merge_150 (by decide) rfl (show _ < 12 from (by omega)) (fun g hT => ?_)
      refine ev_aload_n dX12_merge_151 rfl rfl ?_
      refine mo_geta hE hT dX12_merge_152 fX12_43 (by decide) ?_
      refine ev_iload_n dX12_merge_155 rfl rfl ?_
      refine ev_iconst (v := 0) dX12_merge_156 (by decide) ?_
      refine mo_iast (q := q) hE hT dX12_merge_157 (by decide) rfl (show _ < 12 from (by omega)) (fun g hT => ?_)
      refine ev_aload_n dX12_merge_158 rfl rfl ?_
      refine mo_geta hE hT dX12_merge_159 fX12_46 (by decide) ?_
      refine ev_iload_n dX12_merge_162 rfl rfl ?_
      refine ev_iconst (v := 0) dX12_merge_163 (by decide) ?_
      refine mo_iast (q := q) hE hT dX12_merge_164 (by decide) rfl (show _ < 12 from (by omega)) (fun g hT => ?_)
      have h0 : ∀ k, (k = 21 ∨ k = 24) → (sp_mg0 S p q).1 k = S.1 k := fun k hk => by
        unfold sp_mg0
        rcases hk with rfl | rfl <;> simp [mo_up_ne]
      rw [show (mo_up (mo_up (mo_up (mo_up (mo_up (mo_up (mo_up (mo_up (mo_up (mo_up (mo_up (mo_up (mo_up S 0 0 0) 4 p (sp_least ((S.1 4 p) + (S.1 4 q)) 100000)) 5 p (sp_least ((S.1 5 p) + (S.1 5 q)) 1000)) 10 p ((S.1 10 p) + (S.1 10 q))) 11 p ((S.1 11 p) + (S.1 11 q))) 9 p ((S.1 9 p) + (S.1 9 q))) 4 q 0) 5 q 0) 10 q 0) 11 q 0) 9 q 0) 14 q 0) 15 q 0) = (sp_mg0 S p q) from rfl] at hT
      refine ev_iconst (v := (nI 0)) dX12_merge_165 (by decide) ?_
      refine ev_istore_n dX12_merge_166 rfl (Nat.le_of_ble_eq_true rfl) rfl ?_
      have loop : ∀ (n i : Nat), i ≤ (sp_R S) → (sp_R S) < i + n → ∀ (u : Unit), u = () → ∀ g, mo_T G W g0 g (sp_mgR (sp_mg0 S p q) p q i) → ev_V G d 0 0 mX12_merge (fun o g' => ∃ r S2, o = .inl r ∧ ((r = some (.int 0) ∧ ∃ k : Int32, ((k = 1 ∧ (sp_in x1 0 (S.1 1 0 - 1) && sp_in x2 0 (S.1 1 0 - 1)) = false)) ∧ S2 = mo_up S 0 0 k) ∨ ((sp_in x1 0 (S.1 1 0 - 1) && sp_in x2 0 (S.1 1 0 - 1)) = true ∧ (∃ p q, x1 = nI p ∧ x2 = nI q ∧ p < sp_P S ∧ q < sp_P S ∧ ((sp_X12_areTwo (mo_up S 0 0 0) (nI p) (nI q) = false ∧ S2 = (mo_up S 0 0 0) ∧ r = some (.int (-1))) ∨ (sp_X12_areTwo (mo_up S 0 0 0) (nI p) (nI q) = true ∧ S2 = sp_merge S p q ∧ r = some (.int 1)))))) ∧ mo_T G W g0 g' S2) g 167 [some (.ref W.1), some (.int (nI p)), some (.int (nI q)), some (.int (nI i))] [] := by
        intro n
        induction n with
        | zero => intro i h1 h2; exact absurd h2 (by omega)
        | succ n ih =>
          intro i h1 h2 u hx g hT
          refine ev_iload_n dX12_merge_167 rfl rfl ?_
          have hR9 : (sp_mgR (sp_mg0 S p q) p q i).1 21 0 = nI (sp_R S) := by rw [sp_mgR_ne (by decide)]; exact h0 21 (by decide) ▸ h.R.1
          refine ev_aload_n dX12_merge_168 rfl rfl ?_
          refine mo_geti hE hT dX12_merge_169 fX12_196 (by decide) ?_
          refine ev_icmp_ge (tgt := 198) dX12_merge_172 (by decide) (fun c_172 => ?_) (fun c_172 => ?_)
          · have e : i = sp_R S := by have q9 := mo_ige hR9 (by omega) (by omega) c_172; omega
            rw [e] at hT
            rw [e]
            refine ev_iconst (v := (nI 0)) dX12_merge_198 (by decide) ?_
            refine ev_istore_n dX12_merge_199 rfl (Nat.le_of_ble_eq_true rfl) rfl ?_
            have loop2 : ∀ (n2 j : Nat), j ≤ (sp_W S) → (sp_W S) < j + n2 → ∀ (u : Unit), u = () → ∀ g, mo_T G W g0 g (sp_mgW (sp_mgR (sp_mg0 S p q) p q (sp_R S)) p q j) → ev_V G d 0 0 mX12_merge (fun o g' => ∃ r S2, o = .inl r ∧ ((r = some (.int 0) ∧ ∃ k : Int32, ((k = 1 ∧ (sp_in x1 0 (S.1 1 0 - 1) && sp_in x2 0 (S.1 1 0 - 1)) = false)) ∧ S2 = mo_up S 0 0 k) ∨ ((sp_in x1 0 (S.1 1 0 - 1) && sp_in x2 0 (S.1 1 0 - 1)) = true ∧ (∃ p q, x1 = nI p ∧ x2 = nI q ∧ p < sp_P S ∧ q < sp_P S ∧ ((sp_X12_areTwo (mo_up S 0 0 0) (nI p) (nI q) = false ∧ S2 = (mo_up S 0 0 0) ∧ r = some (.int (-1))) ∨ (sp_X12_areTwo (mo_up S 0 0 0) (nI p) (nI q) = true ∧ S2 = sp_merge S p q ∧ r = some (.int 1)))))) ∧ mo_T G W g0 g' S2) g 200 [some (.ref W.1), some (.int (nI p)), some (.int (nI q)), some (.int (nI j))] [] := by
              intro n2
              induction n2 with
              | zero => intro j h12 h22; exact absurd h22 (by omega)
              | succ n2 ih2 =>
                intro j h12 h22 u hx2 g hT
                refine ev_iload_n dX12_merge_200 rfl rfl ?_
                have hW9 : (sp_mgW (sp_mgR (sp_mg0 S p q) p q (sp_R S)) p q j).1 24 0 = nI (sp_W S) := by rw [sp_mgW_ne (by decide), sp_mgR_ne (by decide)]; exact h0 24 (by decide) ▸ h.W.1
                refine ev_aload_n dX12_merge_201 rfl rfl ?_
                refine mo_geti hE hT dX12_merge_202 fX12_202 (by decide) ?_
                refine ev_icmp_ge (tgt := 265) dX12_merge_205 (by decide) (fun c_205 => ?_) (fun c_205 => ?_)
                · have e : j = sp_W S := by have q9 := mo_ige hW9 (by omega) (by omega) c_205; omega
                  rw [e] at hT
                  refine ev_aload_n dX12_merge_265 rfl rfl ?_
                  refine mo_geta hE hT dX12_merge_266 fX12_37 (by decide) ?_
                  refine ev_iload_n dX12_merge_269 rfl rfl ?_
                  refine ev_iconst (v := 2) dX12_merge_270 (by decide) ?_
                  refine mo_iast (q := q) hE hT dX12_merge_271 (by decide) rfl (show _ < 12 from (by omega)) (fun g hT => ?_)
                  refine ev_iconst (v := 1) dX12_merge_272 (by decide) ?_
                  exact ev_iret dX12_merge_273 rfl rfl ⟨_, _, rfl, Or.inr ⟨q0, p, q, ep, eq, hp, hq, Or.inr ⟨mo_b_1 c_17, rfl, rfl⟩⟩, hT⟩
                · have hlt : j < sp_W S := mo_ilt hW9 (by omega) (by omega) c_205
                  have e1 : 12 * nI j + nI p = nI (12 * j + p) := mo_l2 12 j p
                  have e2 : 12 * nI j + nI q = nI (12 * j + q) := mo_l2 12 j q
                  refine ev_aload_n dX12_merge_208 rfl rfl ?_
                  refine mo_geta hE hT dX12_merge_209 fX12_73 (by decide) ?_
                  refine ev_bipush (v := 12) dX12_merge_212 (by decide) ?_
                  refine ev_iload_n dX12_merge_214 rfl rfl ?_
                  refine ev_imul dX12_merge_215 ?_
                  refine ev_iload_n dX12_merge_216 rfl rfl ?_
                  refine ev_iadd dX12_merge_217 ?_
                  refine ev_aload_n dX12_merge_218 rfl rfl ?_
                  refine mo_geta hE hT dX12_merge_219 fX12_73 (by decide) ?_
                  refine ev_bipush (v := 12) dX12_merge_222 (by decide) ?_
                  refine ev_iload_n dX12_merge_224 rfl rfl ?_
                  refine ev_imul dX12_merge_225 ?_
                  refine ev_iload_n dX12_merge_226 rfl rfl ?_
                  refine ev_iadd dX12_merge_227 ?_
                  refine mo_iald (q := (12 * j + p)) hE hT dX12_merge_228 (by decide) e1 (show _ < 60 from (by omega)) ?_
                  refine ev_aload_n dX12_merge_229 rfl rfl ?_
                  refine mo_geta hE hT dX12_merge_230 fX12_73 (by decide) ?_
                  refine ev_bipush (v := 12) dX12_merge_233 (by decide) ?_
                  refine ev_iload_n dX12_merge_235 rfl rfl ?_
                  refine ev_imul dX12_merge_236 ?_
                  refine ev_iload_n dX12_merge_237 rfl rfl ?_
                  refine ev_iadd dX12_merge_238 ?_
                  refine mo_iald (q := (12 * j + q)) hE hT dX12_merge_239 (by decide) e2 (show _ < 60 from (by omega)) ?_
                  refine ev_iadd dX12_merge_240 ?_
                  refine ev_bipush (v := 100) dX12_merge_241 (by decide) ?_
                  refine ev_pS2 (d' := d - 1) dX12_merge_243 rfl kX12_least lX12_421 sX12_least (Nat.le_of_ble_eq_true rfl) (by omega) (c_X12_least) ?_
                  refine mo_iast (q := (12 * j + p)) hE hT dX12_merge_246 (by decide) e1 (show _ < 60 from (by omega)) (fun g hT => ?_)
                  refine ev_aload_n dX12_merge_247 rfl rfl ?_
                  refine mo_geta hE hT dX12_merge_248 fX12_73 (by decide) ?_
                  refine ev_bipush (v := 12) dX12_merge_251 (by decide) ?_
                  refine ev_iload_n dX12_merge_253 rfl rfl ?_
                  refine ev_imul dX12_merge_254 ?_
                  refine ev_iload_n dX12_merge_255 rfl rfl ?_
                  refine ev_iadd dX12_merge_256 ?_
                  refine ev_iconst (v := 0) dX12_merge_257 (by decide) ?_
                  refine mo_iast (q := (12 * j + q)) hE hT dX12_merge_258 (by decide) e2 (show _ < 60 from (by omega)) (fun g hT => ?_)
                  refine ev_iinc (v := (nI (j + 1))) dX12_merge_259 rfl (by exact nI_1 j) rfl ?_
                  refine ev_goto (tgt := 200) dX12_merge_262 (by decide) ?_
                  exact ih2 (j + 1) (by omega) (by omega) () rfl g hT
            exact loop2 ((sp_W S) + 1) 0 (by omega) (by omega) () rfl g hT
          · have hlt : i < sp_R S := mo_ilt hR9 (by omega) (by omega) c_172
            refine ev_aload_n dX12_merge_175 rfl rfl ?_
            refine mo_geta hE hT dX12_merge_176 fX12_67 (by decide) ?_
            refine ev_iload_n dX12_merge_179 rfl rfl ?_
            refine mo_iald (q := i) hE hT dX12_merge_180 (by decide) rfl (show _ < 80 from (by omega)) ?_
            refine ev_iload_n dX12_merge_181 rfl rfl ?_
            refine ev_icmp_ne (tgt := 192) dX12_merge_182 (by decide) (fun c_182 => ?_) (fun c_182 => ?_)
            · refine ev_iinc (v := (nI (i + 1))) dX12_merge_192 rfl (by exact nI_1 i) rfl ?_
              refine ev_goto (tgt := 167) dX12_merge_195 (by decide) ?_
              exact ih (i + 1) (by omega) (by omega) () rfl g (by
                have hlt : i < sp_R S := mo_ilt hR9 (by omega) (by omega) c_172
                rw [sp_mgR]
                first
                  | (rw [if_pos c_182]; exact hT)
                  | (rw [if_neg c_182]; exact hT))
            · refine ev_aload_n dX12_merge_185 rfl rfl ?_
              refine mo_geta hE hT dX12_merge_186 fX12_67 (by decide) ?_
              refine ev_iload_n dX12_merge_189 rfl rfl ?_
              refine ev_iload_n dX12_merge_190 rfl rfl ?_
              refine mo_iast (q := i) hE hT dX12_merge_191 (by decide) rfl (show _ < 80 from (by omega)) (fun g hT => ?_)
              refine ev_iinc (v := (nI (i + 1))) dX12_merge_192 rfl (by exact nI_1 i) rfl ?_
              refine ev_goto (tgt := 167) dX12_merge_195 (by decide) ?_
              exact ih (i + 1) (by omega) (by omega) () rfl g (by
                have hlt : i < sp_R S := mo_ilt hR9 (by omega) (by omega) c_172
                rw [sp_mgR]
                first
                  | (rw [if_pos c_182]; exact hT)
                  | (rw [if_neg c_182]; exact hT))
      exact loop ((sp_R S) + 1) 0 (by omega) (by omega) () rfl g hT
    · refine ev_iconst (v := -1) dX12_merge_20 (by decide) ?_
      exact ev_iret dX12_merge_21 rfl rfl ⟨_, _, rfl, Or.inr ⟨q0, p, q, ep, eq, hp, hq, Or.inl ⟨mo_b_0 c_17, rfl, rfl⟩⟩, hT⟩
  · refine ev_iconst (v := 0) dX12_merge_9 (by decide) ?_
    refine ev_iret dX12_merge_10 rfl rfl ⟨_, _, rfl, Or.inl ⟨rfl, ?_⟩, hT⟩
    clear hT
    first
      | (cases hq0 : (sp_in x1 0 (S.1 1 0 - 1) && sp_in x2 0 (S.1 1 0 - 1)) <;> first | (exfalso; simp_all [mo_b]; done) | (refine ⟨1, ⟨rfl, rfl⟩, ?_⟩; simp_all [mo_b, sp_bad, mo_up_tw]; done))
def sp_t (S : mo_S) : Nat := (S.1 28 0).toNatClampNeg
/-- a byte comes on the tape -/
def sp_put1 (S : mo_S) (t : Nat) (b : Int32) : mo_S := mo_up (mo_up S 27 t (vp_nar .byte b)) 28 0 (nI (t + 1))
/-- four bytes of a number, the highest first -/
def sp_put4 (S : mo_S) (t : Nat) (v : Int32) : mo_S := sp_put1 (sp_put1 (sp_put1 (sp_put1 S t (v >>> (24 &&& 31)).toInt8.toInt32) (t + 1) (v >>> (16 &&& 31)).toInt8.toInt32) (t + 2) (v >>> (8 &&& 31)).toInt8.toInt32) (t + 3) (v >>> (0 &&& 31)).toInt8.toInt32
theorem sp_put4_28 {S : mo_S} {t : Nat} {v : Int32} : (sp_put4 S t v).1 28 0 = nI (t + 4) := by unfold sp_put4 sp_put1; rw [mo_up_at, pk_us]
def sp_feed (S : mo_S) (x1 x2 x3 x4 x5 : Int32) : mo_S := sp_put4 (sp_put4 (sp_put4 (sp_put4 (sp_put4 (mo_up S 0 0 0) (sp_t S) x1) (sp_t S + 4) x2) (sp_t S + 8) x3) (sp_t S + 12) x4) (sp_t S + 16) x5
theorem fd_4 {G : ev_G} {W : mo_W} {d : Nat} {g0 : ev_H} {PO : ev_P} {T : mo_S} {t : Nat} {v w6 x1 x2 x3 x4 x5 : Int32} (hE : ev_En G) (ht : T.1 28 0 = nI t) (ht2 : t + 4 ≤ 300) (K : ∀ g, mo_T G W g0 g (sp_put4 T t v) → ev_V G d 0 0 mX12_feed PO g 113 [some (.ref W.1), some (.int x1), some (.int x2), some (.int x3), some (.int x4), some (.int x5), some (.int w6), some (.int v), some (.int (-8))] []) : ∀ g, mo_T G W g0 g T → ev_V G d 0 0 mX12_feed PO g 77 [some (.ref W.1), some (.int x1), some (.int x2), some (.int x3), some (.int x4), some (.int x5), some (.int w6), some (.int v), some (.int 24)] [] := by
  intro g hT
  refine ev_iload dX12_feed_77 rfl ?_
  refine ev_if_lt (tgt := 113) dX12_feed_79 (by decide) (fun c_79 => ?_) (fun c_79 => ?_)
  · exact absurd c_79 (by decide)
  · refine ev_aload_n dX12_feed_82 rfl rfl ?_
    refine mo_geta hE hT dX12_feed_83 fX12_76 (by decide) ?_
    refine ev_aload_n dX12_feed_86 rfl rfl ?_
    refine mo_getiE (v := (nI t)) hE hT dX12_feed_87 fX12_209 (by decide) (by first | exact ht | (rw [mo_up_ne (by decide)]; exact ht) | (rw [mo_up_at, pk_us]) | (rw [mo_up_ne (by decide), mo_up_at, pk_us])) ?_
    refine ev_iload dX12_feed_90 rfl ?_
    refine ev_iload dX12_feed_92 rfl ?_
    refine ev_ishr dX12_feed_94 ?_
    refine ev_i2b dX12_feed_95 ?_
    refine mo_bast (q := t) hE hT dX12_feed_96 rfl (by omega) (fun g hT => ?_)
    refine ev_aload_n dX12_feed_97 rfl rfl ?_
    refine ev_dup dX12_feed_98 rfl ?_
    refine mo_getiE (v := (nI t)) hE hT dX12_feed_99 fX12_209 (by decide) (by first | exact ht | (rw [mo_up_ne (by decide)]; exact ht) | (rw [mo_up_at, pk_us]) | (rw [mo_up_ne (by decide), mo_up_at, pk_us])) ?_
    refine ev_iconst (v := 1) dX12_feed_102 (by decide) ?_
    refine ev_iadd dX12_feed_103 ?_
    rw [show nI t + 1 = nI (t + 1) from nI_1 t]
    refine mo_put hE hT dX12_feed_104 pX12_209 (by decide) (fun g hT => ?_)
    refine ev_iinc (v := 16) dX12_feed_107 rfl (by decide) rfl ?_
    refine ev_goto (tgt := 77) dX12_feed_110 (by decide) ?_
    refine ev_iload dX12_feed_77 rfl ?_
    refine ev_if_lt (tgt := 113) dX12_feed_79 (by decide) (fun c_79 => ?_) (fun c_79 => ?_)
    · exact absurd c_79 (by decide)
    · refine ev_aload_n dX12_feed_82 rfl rfl ?_
      refine mo_geta hE hT dX12_feed_83 fX12_76 (by decide) ?_
      refine ev_aload_n dX12_feed_86 rfl rfl ?_
      refine mo_getiE (v := (nI (t + 1))) hE hT dX12_feed_87 fX12_209 (by decide) (by first | exact ht | (rw [mo_up_ne (by decide)]; exact ht) | (rw [mo_up_at, pk_us]) | (rw [mo_up_ne (by decide), mo_up_at, pk_us])) ?_
      refine ev_iload dX12_feed_90 rfl ?_
      refine ev_iload dX12_feed_92 rfl ?_
      refine ev_ishr dX12_feed_94 ?_
      refine ev_i2b dX12_feed_95 ?_
      refine mo_bast (q := (t + 1)) hE hT dX12_feed_96 rfl (by omega) (fun g hT => ?_)
      refine ev_aload_n dX12_feed_97 rfl rfl ?_
      refine ev_dup dX12_feed_98 rfl ?_
      refine mo_getiE (v := (nI (t + 1))) hE hT dX12_feed_99 fX12_209 (by decide) (by first | exact ht | (rw [mo_up_ne (by decide)]; exact ht) | (rw [mo_up_at, pk_us]) | (rw [mo_up_ne (by decide), mo_up_at, pk_us])) ?_
      refine ev_iconst (v := 1) dX12_feed_102 (by decide) ?_
      refine ev_iadd dX12_feed_103 ?_
      rw [show nI (t + 1) + 1 = nI (t + 2) from nI_1 (t + 1)]
      refine mo_put hE hT dX12_feed_104 pX12_209 (by decide) (fun g hT => ?_)
      refine ev_iinc (v := 8) dX12_feed_107 rfl (by decide) rfl ?_
      refine ev_goto (tgt := 77) dX12_feed_110 (by decide) ?_
      refine ev_iload dX12_feed_77 rfl ?_
      refine ev_if_lt (tgt := 113) dX12_feed_79 (by decide) (fun c_79 => ?_) (fun c_79 => ?_)
      · exact absurd c_79 (by decide)
      · refine ev_aload_n dX12_feed_82 rfl rfl ?_
        refine mo_geta hE hT dX12_feed_83 fX12_76 (by decide) ?_
        refine ev_aload_n dX12_feed_86 rfl rfl ?_
        refine mo_getiE (v := (nI (t + 2))) hE hT dX12_feed_87 fX12_209 (by decide) (by first | exact ht | (rw [mo_up_ne (by decide)]; exact ht) | (rw [mo_up_at, pk_us]) | (rw [mo_up_ne (by decide), mo_up_at, pk_us])) ?_
        refine ev_iload dX12_feed_90 rfl ?_
        refine ev_iload dX12_feed_92 rfl ?_
        refine ev_ishr dX12_feed_94 ?_
        refine ev_i2b dX12_feed_95 ?_
        refine mo_bast (q := (t + 2)) hE hT dX12_feed_96 rfl (by omega) (fun g hT => ?_)
        refine ev_aload_n dX12_feed_97 rfl rfl ?_
        refine ev_dup dX12_feed_98 rfl ?_
        refine mo_getiE (v := (nI (t + 2))) hE hT dX12_feed_99 fX12_209 (by decide) (by first | exact ht | (rw [mo_up_ne (by decide)]; exact ht) | (rw [mo_up_at, pk_us]) | (rw [mo_up_ne (by decide), mo_up_at, pk_us])) ?_
        refine ev_iconst (v := 1) dX12_feed_102 (by decide) ?_
        refine ev_iadd dX12_feed_103 ?_
        rw [show nI (t + 2) + 1 = nI (t + 3) from nI_1 (t + 2)]
        refine mo_put hE hT dX12_feed_104 pX12_209 (by decide) (fun g hT => ?_)
        refine ev_iinc (v := 0) dX12_feed_107 rfl (by decide) rfl ?_
        refine ev_goto (tgt := 77) dX12_feed_110 (by decide) ?_
        refine ev_iload dX12_feed_77 rfl ?_
        refine ev_if_lt (tgt := 113) dX12_feed_79 (by decide) (fun c_79 => ?_) (fun c_79 => ?_)
        · exact absurd c_79 (by decide)
        · refine ev_aload_n dX12_feed_82 rfl rfl ?_
          refine mo_geta hE hT dX12_feed_83 fX12_76 (by decide) ?_
          refine ev_aload_n dX12_feed_86 rfl rfl ?_
          refine mo_getiE (v := (nI (t + 3))) hE hT dX12_feed_87 fX12_209 (by decide) (by first | exact ht | (rw [mo_up_ne (by decide)]; exact ht) | (rw [mo_up_at, pk_us]) | (rw [mo_up_ne (by decide), mo_up_at, pk_us])) ?_
          refine ev_iload dX12_feed_90 rfl ?_
          refine ev_iload dX12_feed_92 rfl ?_
          refine ev_ishr dX12_feed_94 ?_
          refine ev_i2b dX12_feed_95 ?_
          refine mo_bast (q := (t + 3)) hE hT dX12_feed_96 rfl (by omega) (fun g hT => ?_)
          refine ev_aload_n dX12_feed_97 rfl rfl ?_
          refine ev_dup dX12_feed_98 rfl ?_
          refine mo_getiE (v := (nI (t + 3))) hE hT dX12_feed_99 fX12_209 (by decide) (by first | exact ht | (rw [mo_up_ne (by decide)]; exact ht) | (rw [mo_up_at, pk_us]) | (rw [mo_up_ne (by decide), mo_up_at, pk_us])) ?_
          refine ev_iconst (v := 1) dX12_feed_102 (by decide) ?_
          refine ev_iadd dX12_feed_103 ?_
          rw [show nI (t + 3) + 1 = nI (t + 4) from nI_1 (t + 3)]
          refine mo_put hE hT dX12_feed_104 pX12_209 (by decide) (fun g hT => ?_)
          refine ev_iinc (v := (-8)) dX12_feed_107 rfl (by decide) rfl ?_
          refine ev_goto (tgt := 77) dX12_feed_110 (by decide) ?_
          refine ev_iload dX12_feed_77 rfl ?_
          refine ev_if_lt (tgt := 113) dX12_feed_79 (by decide) (fun c_79 => ?_) (fun c_79 => ?_)
          · exact K g hT
          · exact absurd (by decide) c_79
theorem c_X12_feed {G : ev_G} {W : mo_W} {d : Nat} {S : mo_S} {F : mo_Fn} {x1 x2 x3 x4 x5 : Int32} (hE : ev_En G) (h : mo_J S F) (hd : 9 ≤ d) : mo_Cr G W d mX12_feed [.int x1, .int x2, .int x3, .int x4, .int x5] S (fun r S2 => (280 < sp_t S ∧ r = some (.int (-1)) ∧ S2 = (mo_up S 0 0 0)) ∨ (sp_t S ≤ 280 ∧ r = some (.int (nI (sp_t S + 20))) ∧ S2 = sp_feed S x1 x2 x3 x4 x5)) := by
  refine mo_startr (lv0 := [some (.ref W.1), some (.int x1), some (.int x2), some (.int x3), some (.int x4), some (.int x5), none, none, none]) (by decide +kernel) rfl (Nat.le_of_ble_eq_true rfl) rfl ?_
  intro g0 g hT
  obtain ⟨ht, ht2⟩ : S.1 28 0 = nI (sp_t S) ∧ sp_t S ≤ 300 := mo_rgC h.1 0 300 (by decide) (by decide) (by decide)
  refine ev_aload_n dX12_feed_0 rfl rfl ?_
  refine ev_iconst (v := 0) dX12_feed_1 (by decide) ?_
  refine mo_put hE hT dX12_feed_2 pX12_173 (by decide) (fun g hT => ?_)
  refine ev_aload_n dX12_feed_5 rfl rfl ?_
  refine mo_getiE (v := (S.1 28 0)) hE hT dX12_feed_6 fX12_209 (by decide) (by simp [sp_bad_ne, mo_up]) ?_
  refine ev_bipush (v := 20) dX12_feed_9 (by decide) ?_
  refine ev_iadd dX12_feed_11 ?_
  refine ev_sipush (v := 300) dX12_feed_12 (by decide) ?_
  refine ev_icmp_le (tgt := 20) dX12_feed_15 (by decide) (fun c_15 => ?_) (fun c_15 => ?_)
  · have htl : sp_t S ≤ 280 := by
      rw [ht, show (20 : Int32) = nI 20 from rfl, nI_add] at c_15
      have := (nI_leI (a := sp_t S + 20) (b := 300) (by omega) (by decide)).mp c_15
      omega
    have ht0 : (mo_up S 0 0 0).1 28 0 = nI (sp_t S) := by rw [mo_up_ne (by decide)]; exact ht
    refine ev_iconst (v := 0) dX12_feed_20 (by decide) ?_
    refine ev_istore dX12_feed_21 (Nat.le_of_ble_eq_true rfl) rfl ?_
    refine ev_iload dX12_feed_23 rfl ?_
    refine ev_iconst (v := 5) dX12_feed_25 (by decide) ?_
    refine ev_icmp_ge (tgt := 119) dX12_feed_26 (by decide) (fun c_26 => ?_) (fun c_26 => ?_)
    · exact absurd c_26 (by decide)
    · refine ev_iload dX12_feed_29 rfl ?_
      refine ev_if_ne (tgt := 38) dX12_feed_31 (by decide) (fun c_31 => ?_) (fun c_31 => ?_)
      · exact absurd (by decide) c_31
      · refine ev_iload_n dX12_feed_34 rfl rfl ?_
        refine ev_goto (tgt := 71) dX12_feed_35 (by decide) ?_
        refine ev_istore dX12_feed_71 (Nat.le_of_ble_eq_true rfl) rfl ?_
        refine ev_bipush (v := 24) dX12_feed_73 (by decide) ?_
        refine ev_istore dX12_feed_75 (Nat.le_of_ble_eq_true rfl) rfl ?_
        refine fd_4 (t := (sp_t S)) hE ht0 (by omega) (fun g hT => ?_) g hT
        refine ev_iinc (v := 1) dX12_feed_113 rfl (by decide) rfl ?_
        refine ev_goto (tgt := 23) dX12_feed_116 (by decide) ?_
        refine ev_iload dX12_feed_23 rfl ?_
        refine ev_iconst (v := 5) dX12_feed_25 (by decide) ?_
        refine ev_icmp_ge (tgt := 119) dX12_feed_26 (by decide) (fun c_26 => ?_) (fun c_26 => ?_)
        · exact absurd c_26 (by decide)
        · refine ev_iload dX12_feed_29 rfl ?_
          refine ev_if_ne (tgt := 38) dX12_feed_31 (by decide) (fun c_31 => ?_) (fun c_31 => ?_)
          · refine ev_iload dX12_feed_38 rfl ?_
            refine ev_iconst (v := 1) dX12_feed_40 (by decide) ?_
            refine ev_icmp_ne (tgt := 48) dX12_feed_41 (by decide) (fun c_41 => ?_) (fun c_41 => ?_)
            · exact absurd (by decide) c_41
            · refine ev_iload_n dX12_feed_44 rfl rfl ?_
              refine ev_goto (tgt := 71) dX12_feed_45 (by decide) ?_
              refine ev_istore dX12_feed_71 (Nat.le_of_ble_eq_true rfl) rfl ?_
              refine ev_bipush (v := 24) dX12_feed_73 (by decide) ?_
              refine ev_istore dX12_feed_75 (Nat.le_of_ble_eq_true rfl) rfl ?_
              refine fd_4 (t := (sp_t S + 4)) hE sp_put4_28 (by omega) (fun g hT => ?_) g hT
              refine ev_iinc (v := 2) dX12_feed_113 rfl (by decide) rfl ?_
              refine ev_goto (tgt := 23) dX12_feed_116 (by decide) ?_
              refine ev_iload dX12_feed_23 rfl ?_
              refine ev_iconst (v := 5) dX12_feed_25 (by decide) ?_
              refine ev_icmp_ge (tgt := 119) dX12_feed_26 (by decide) (fun c_26 => ?_) (fun c_26 => ?_)
              · exact absurd c_26 (by decide)
              · refine ev_iload dX12_feed_29 rfl ?_
                refine ev_if_ne (tgt := 38) dX12_feed_31 (by decide) (fun c_31 => ?_) (fun c_31 => ?_)
                · refine ev_iload dX12_feed_38 rfl ?_
                  refine ev_iconst (v := 1) dX12_feed_40 (by decide) ?_
                  refine ev_icmp_ne (tgt := 48) dX12_feed_41 (by decide) (fun c_41 => ?_) (fun c_41 => ?_)
                  · refine ev_iload dX12_feed_48 rfl ?_
                    refine ev_iconst (v := 2) dX12_feed_50 (by decide) ?_
                    refine ev_icmp_ne (tgt := 58) dX12_feed_51 (by decide) (fun c_51 => ?_) (fun c_51 => ?_)
                    · exact absurd (by decide) c_51
                    · refine ev_iload_n dX12_feed_54 rfl rfl ?_
                      refine ev_goto (tgt := 71) dX12_feed_55 (by decide) ?_
                      refine ev_istore dX12_feed_71 (Nat.le_of_ble_eq_true rfl) rfl ?_
                      refine ev_bipush (v := 24) dX12_feed_73 (by decide) ?_
                      refine ev_istore dX12_feed_75 (Nat.le_of_ble_eq_true rfl) rfl ?_
                      refine fd_4 (t := (sp_t S + 8)) hE sp_put4_28 (by omega) (fun g hT => ?_) g hT
                      refine ev_iinc (v := 3) dX12_feed_113 rfl (by decide) rfl ?_
                      refine ev_goto (tgt := 23) dX12_feed_116 (by decide) ?_
                      refine ev_iload dX12_feed_23 rfl ?_
                      refine ev_iconst (v := 5) dX12_feed_25 (by decide) ?_
                      refine ev_icmp_ge (tgt := 119) dX12_feed_26 (by decide) (fun c_26 => ?_) (fun c_26 => ?_)
                      · exact absurd c_26 (by decide)
                      · refine ev_iload dX12_feed_29 rfl ?_
                        refine ev_if_ne (tgt := 38) dX12_feed_31 (by decide) (fun c_31 => ?_) (fun c_31 => ?_)
                        · refine ev_iload dX12_feed_38 rfl ?_
                          refine ev_iconst (v := 1) dX12_feed_40 (by decide) ?_
                          refine ev_icmp_ne (tgt := 48) dX12_feed_41 (by decide) (fun c_41 => ?_) (fun c_41 => ?_)
                          · refine ev_iload dX12_feed_48 rfl ?_
                            refine ev_iconst (v := 2) dX12_feed_50 (by decide) ?_
                            refine ev_icmp_ne (tgt := 58) dX12_feed_51 (by decide) (fun c_51 => ?_) (fun c_51 => ?_)
                            · refine ev_iload dX12_feed_58 rfl ?_
                              refine ev_iconst (v := 3) dX12_feed_60 (by decide) ?_
                              refine ev_icmp_ne (tgt := 69) dX12_feed_61 (by decide) (fun c_61 => ?_) (fun c_61 => ?_)
                              · exact absurd (by decide) c_61
                              · refine ev_iload dX12_feed_64 rfl ?_
                                refine ev_goto (tgt := 71) dX12_feed_66 (by decide) ?_
                                refine ev_istore dX12_feed_71 (Nat.le_of_ble_eq_true rfl) rfl ?_
                                refine ev_bipush (v := 24) dX12_feed_73 (by decide) ?_
                                refine ev_istore dX12_feed_75 (Nat.le_of_ble_eq_true rfl) rfl ?_
                                refine fd_4 (t := (sp_t S + 12)) hE sp_put4_28 (by omega) (fun g hT => ?_) g hT
                                refine ev_iinc (v := 4) dX12_feed_113 rfl (by decide) rfl ?_
                                refine ev_goto (tgt := 23) dX12_feed_116 (by decide) ?_
                                refine ev_iload dX12_feed_23 rfl ?_
                                refine ev_iconst (v := 5) dX12_feed_25 (by decide) ?_
                                refine ev_icmp_ge (tgt := 119) dX12_feed_26 (by decide) (fun c_26 => ?_) (fun c_26 => ?_)
                                · exact absurd c_26 (by decide)
                                · refine ev_iload dX12_feed_29 rfl ?_
                                  refine ev_if_ne (tgt := 38) dX12_feed_31 (by decide) (fun c_31 => ?_) (fun c_31 => ?_)
                                  · refine ev_iload dX12_feed_38 rfl ?_
                                    refine ev_iconst (v := 1) dX12_feed_40 (by decide) ?_
                                    refine ev_icmp_ne (tgt := 48) dX12_feed_41 (by decide) (fun c_41 => ?_) (fun c_41 => ?_)
                                    · refine ev_iload dX12_feed_48 rfl ?_
                                      refine ev_iconst (v := 2) dX12_feed_50 (by decide) ?_
                                      refine ev_icmp_ne (tgt := 58) dX12_feed_51 (by decide) (fun c_51 => ?_) (fun c_51 => ?_)
                                      · refine ev_iload dX12_feed_58 rfl ?_
                                        refine ev_iconst (v := 3) dX12_feed_60 (by decide) ?_
                                        refine ev_icmp_ne (tgt := 69) dX12_feed_61 (by decide) (fun c_61 => ?_) (fun c_61 => ?_)
                                        · refine ev_iload dX12_feed_69 rfl ?_
                                          refine ev_istore dX12_feed_71 (Nat.le_of_ble_eq_true rfl) rfl ?_
                                          refine ev_bipush (v := 24) dX12_feed_73 (by decide) ?_
                                          refine ev_istore dX12_feed_75 (Nat.le_of_ble_eq_true rfl) rfl ?_
                                          refine fd_4 (t := (sp_t S + 16)) hE sp_put4_28 (by omega) (fun g hT => ?_) g hT
                                          refine ev_iinc (v := 5) dX12_feed_113 rfl (by decide) rfl ?_
                                          refine ev_goto (tgt := 23) dX12_feed_116 (by decide) ?_
                                          refine ev_iload dX12_feed_23 rfl ?_
                                          refine ev_iconst (v := 5) dX12_feed_25 (by decide) ?_
                                          refine ev_icmp_ge (tgt := 119) dX12_feed_26 (by decide) (fun c_26 => ?_) (fun c_26 => ?_)
                                          · refine ev_aload_n dX12_feed_119 rfl rfl ?_
                                            refine mo_getiE (v := (nI (sp_t S + 20))) hE hT dX12_feed_120 fX12_209 (by decide) sp_put4_28 ?_
                                            exact ev_iret dX12_feed_123 rfl rfl ⟨_, _, rfl, Or.inr ⟨htl, rfl, rfl⟩, hT⟩
                                          · exact absurd (by decide) c_26
                                        · exact absurd c_61 (by decide)
                                      · exact absurd c_51 (by decide)
                                    · exact absurd c_41 (by decide)
                                  · exact absurd c_31 (by decide)
                            · exact absurd c_51 (by decide)
                          · exact absurd c_41 (by decide)
                        · exact absurd c_31 (by decide)
                  · exact absurd c_41 (by decide)
                · exact absurd c_31 (by decide)
          · exact absurd c_31 (by decide)
  · refine ev_iconst (v := -1) dX12_feed_18 (by decide) ?_
    exact ev_iret dX12_feed_19 rfl rfl ⟨_, _, rfl, Or.inl ⟨by
      rw [ht, show (20 : Int32) = nI 20 from rfl, nI_add] at c_15
      exact Nat.lt_of_not_le fun q => c_15 (nI_le (b := 300) (by omega) (by decide)), rfl, rfl⟩, hT⟩
theorem c_X12_tries {G : ev_G} {W : mo_W} {d : Nat} {S U : mo_S} {q : sp_Q4} {p : Nat} {x2 x3 x4 : Int32} (hE : ev_En G) (hd : 3 ≤ d) (hp : p < 12) (hQ : S.1 24 0 = nI (sp_W S)) (hQ2 : sp_W S ≤ 5) (hg : ¬ 3 * x2 = 0) (hb : sp_bq S U q) : mo_Cr G W d mX12_tries [.int (nI p), .int x2, .int x3, .int x4] S (fun r S2 => r = none ∧ sp_bq S2 U (sp_try U p x4 x2 x3 q)) := by
  refine mo_startr (lv0 := [some (.ref W.1), some (.int (nI p)), some (.int x2), some (.int x3), some (.int x4), none, none]) (by decide +kernel) rfl (Nat.le_of_ble_eq_true rfl) rfl ?_
  intro g0 g hT
  refine ev_aload_n dX12_tries_0 rfl rfl ?_
  refine ev_iload_n dX12_tries_1 rfl rfl ?_
  refine ev_iload_n dX12_tries_2 rfl rfl ?_
  refine mo_call2 (d' := d - 1) hE hT dX12_tries_3 rfl rfl kX12_demandOf lX12_205 iX12_demandOf vX12_demandOf (Nat.le_of_ble_eq_true rfl) (by omega) (c_X12_demandOf hE (p := p) (Q := sp_W S) hQ hQ2 rfl hp) (fun g hT => ?_)
  refine ev_iload_n dX12_tries_6 rfl rfl ?_
  refine ev_iload dX12_tries_7 rfl ?_
  refine ev_pS3 (d' := d - 1) dX12_tries_9 rfl kX12_printable lX12_437 sX12_printable (Nat.le_of_ble_eq_true rfl) (by omega) (c_X12_printable hg) ?_
  refine ev_istore dX12_tries_12 (Nat.le_of_ble_eq_true rfl) rfl ?_
  refine ev_iload dX12_tries_14 rfl ?_
  refine ev_iload_n dX12_tries_16 rfl rfl ?_
  refine ev_imul dX12_tries_17 ?_
  refine ev_iload dX12_tries_18 rfl ?_
  refine ev_iload_n dX12_tries_20 rfl rfl ?_
  refine ev_imul dX12_tries_21 ?_
  refine ev_iconst (v := 4) dX12_tries_22 (by decide) ?_
  refine ev_idiv dX12_tries_23 (by decide) ?_
  refine ev_iadd dX12_tries_24 ?_
  refine ev_iconst (v := 2) dX12_tries_25 (by decide) ?_
  refine ev_iload dX12_tries_26 rfl ?_
  refine ev_iload_n dX12_tries_28 rfl rfl ?_
  refine ev_pS2 (d' := d - 1) dX12_tries_29 rfl kX12_kilograms lX12_440 sX12_kilograms (Nat.le_of_ble_eq_true rfl) (by omega) (c_X12_kilograms) ?_
  refine ev_imul dX12_tries_32 ?_
  refine ev_isub dX12_tries_33 ?_
  refine ev_istore dX12_tries_34 (Nat.le_of_ble_eq_true rfl) rfl ?_
  have ec : sp_X12_printable (sp_demand S p x3 (sp_W S)) x2 x4 = sp_tc U p x4 x2 x3 := by unfold sp_tc; rw [sp_demand_cong (hb.1 25 (by decide)) (hb.1 26 (by decide)), sp_W_cong (hb.1 24 (by decide))]
  have ew : ((sp_X12_printable (sp_demand S p x3 (sp_W S)) x2 x4 * x3 + sp_X12_printable (sp_demand S p x3 (sp_W S)) x2 x4 * x2 / 4) - 2 * sp_X12_kilograms (sp_X12_printable (sp_demand S p x3 (sp_W S)) x2 x4) x2) = sp_tw U p x4 x2 x3 := by rw [ec]; rfl
  refine ev_aload_n dX12_tries_36 rfl rfl ?_
  refine mo_geti hE hT dX12_tries_37 fX12_486 (by decide) ?_
  refine ev_if_le (tgt := 53) dX12_tries_40 (by decide) (fun c_40 => ?_) (fun c_40 => ?_)
  · refine ev_aload_n dX12_tries_53 rfl rfl ?_
    refine ev_iload_n dX12_tries_54 rfl rfl ?_
    refine mo_put hE hT dX12_tries_55 pX12_486 (by decide) (fun g hT => ?_)
    refine ev_aload_n dX12_tries_58 rfl rfl ?_
    refine ev_iload_n dX12_tries_59 rfl rfl ?_
    refine mo_put hE hT dX12_tries_60 pX12_492 (by decide) (fun g hT => ?_)
    refine ev_aload_n dX12_tries_63 rfl rfl ?_
    refine ev_iload dX12_tries_64 rfl ?_
    refine mo_put hE hT dX12_tries_66 pX12_495 (by decide) (fun g hT => ?_)
    refine ev_aload_n dX12_tries_69 rfl rfl ?_
    refine ev_iload dX12_tries_70 rfl ?_
    refine mo_put hE hT dX12_tries_72 pX12_489 (by decide) (fun g hT => ?_)
    refine ev_vret dX12_tries_75 rfl ⟨_, _, rfl, ⟨rfl, ?_⟩, hT⟩
    have e9 : sp_try U p x4 x2 x3 q = (x2, x3, sp_tc U p x4 x2 x3, sp_tw U p x4 x2 x3) := by
      unfold sp_try
      by_cases hc : q.1 ≤ 0
      · rw [if_pos hc]
      · rw [if_neg hc]
        first
          | exact absurd (show q.1 ≤ 0 by rw [← hb.2.1]; exact c_40) hc
          | rw [if_pos (by rw [← (hb.2.2 (Int32.not_le.mp hc)).2.2, ← ew]; exact c_49)]
    rw [e9]
    refine ⟨sp_eqB_up (by decide) (sp_eqB_up (by decide) (sp_eqB_up (by decide) (sp_eqB_up (by decide) hb.1))), by simp [mo_up], fun _ => ⟨by simp [mo_up], ?_, ?_⟩⟩
    · rw [← ec]; simp [mo_up]
    · rw [← ew]; simp [mo_up]
  · refine ev_iload dX12_tries_43 rfl ?_
    refine ev_aload_n dX12_tries_45 rfl rfl ?_
    refine mo_geti hE hT dX12_tries_46 fX12_489 (by decide) ?_
    refine ev_icmp_gt (tgt := 53) dX12_tries_49 (by decide) (fun c_49 => ?_) (fun c_49 => ?_)
    · refine ev_aload_n dX12_tries_53 rfl rfl ?_
      refine ev_iload_n dX12_tries_54 rfl rfl ?_
      refine mo_put hE hT dX12_tries_55 pX12_486 (by decide) (fun g hT => ?_)
      refine ev_aload_n dX12_tries_58 rfl rfl ?_
      refine ev_iload_n dX12_tries_59 rfl rfl ?_
      refine mo_put hE hT dX12_tries_60 pX12_492 (by decide) (fun g hT => ?_)
      refine ev_aload_n dX12_tries_63 rfl rfl ?_
      refine ev_iload dX12_tries_64 rfl ?_
      refine mo_put hE hT dX12_tries_66 pX12_495 (by decide) (fun g hT => ?_)
      refine ev_aload_n dX12_tries_69 rfl rfl ?_
      refine ev_iload dX12_tries_70 rfl ?_
      refine mo_put hE hT dX12_tries_72 pX12_489 (by decide) (fun g hT => ?_)
      refine ev_vret dX12_tries_75 rfl ⟨_, _, rfl, ⟨rfl, ?_⟩, hT⟩
      have e9 : sp_try U p x4 x2 x3 q = (x2, x3, sp_tc U p x4 x2 x3, sp_tw U p x4 x2 x3) := by
        unfold sp_try
        by_cases hc : q.1 ≤ 0
        · rw [if_pos hc]
        · rw [if_neg hc]
          first
            | exact absurd (show q.1 ≤ 0 by rw [← hb.2.1]; exact c_40) hc
            | rw [if_pos (by rw [← (hb.2.2 (Int32.not_le.mp hc)).2.2, ← ew]; exact c_49)]
      rw [e9]
      refine ⟨sp_eqB_up (by decide) (sp_eqB_up (by decide) (sp_eqB_up (by decide) (sp_eqB_up (by decide) hb.1))), by simp [mo_up], fun _ => ⟨by simp [mo_up], ?_, ?_⟩⟩
      · rw [← ec]; simp [mo_up]
      · rw [← ew]; simp [mo_up]
    · have hc : ¬ q.1 ≤ 0 := by rw [← hb.2.1]; exact c_40
      refine ev_vret dX12_tries_52 rfl ⟨_, _, rfl, ⟨rfl, ?_⟩, hT⟩
      have hc2 : ¬ q.2.2.2 < sp_tw U p x4 x2 x3 := by
        rw [← (hb.2.2 (Int32.not_le.mp hc)).2.2, ← ew]
        exact c_49
      unfold sp_try
      rw [if_neg hc, if_neg hc2]
      exact hb
theorem sp_g2 (k : Nat) : nI (2 * k + 2) + Int32.ofInt 2 = nI (2 * (k + 1) + 2) := by
  rw [show Int32.ofInt 2 = nI 2 from rfl, nI_add]
  rfl
theorem sp_prg_cong {T U : mo_S} {F : mo_Fn} (h : sp_eqB T U) (p : Nat) (g : Int32) : sp_price (mo_up (sp_X12_means T (nI p)) 45 0 g) F = sp_prg U F p g := by
  unfold sp_prg
  have a := sp_eqF_up (S := sp_X12_means T (nI p)) (T := sp_X12_means T (nI p)) (k := 45) (i := 0) (v := g) (by decide) (sp_eqF_r _)
  have b := sp_eqF_up (S := sp_X12_means U (nI p)) (T := sp_X12_means U (nI p)) (k := 45) (i := 0) (v := g) (by decide) (sp_eqF_r _)
  have a2 := sp_eqF_t a (sp_eqF_t (sp_eqN_F (sp_eqN_means T (nI p))) (sp_eqB_F h))
  have b2 := sp_eqF_t b (sp_eqN_F (sp_eqN_means U (nI p)))
  have e : sp_eqF (mo_up (sp_X12_means T (nI p)) 45 0 g) (mo_up (sp_X12_means U (nI p)) 45 0 g) := ⟨a2.1.trans b2.1.symm, a2.2.1.trans b2.2.1.symm, a2.2.2.1.trans b2.2.2.1.symm, a2.2.2.2.1.trans b2.2.2.2.1.symm, a2.2.2.2.2.1.trans b2.2.2.2.2.1.symm, a2.2.2.2.2.2.1.trans b2.2.2.2.2.2.1.symm, a2.2.2.2.2.2.2.1.trans b2.2.2.2.2.2.2.1.symm, a2.2.2.2.2.2.2.2.trans b2.2.2.2.2.2.2.2.symm⟩
  refine sp_price_cong e fun k h1 h2 => ?_
  by_cases c : k = 45
  · subst c; rw [mo_up_at, mo_up_at, pk_us, pk_us]
  · rw [mo_up_ne c, mo_up_ne c]
    exact sp_means_cong (fun j hj => h j (by omega)) (nI p) k h1 h2
theorem sp_try_pos {S : mo_S} {p : Nat} {hv g v : Int32} {q : sp_Q4} (hg : 0 < g) : 0 < (sp_try S p hv g v q).1 := by
  unfold sp_try
  split
  · exact hg
  · rename_i c
    split
    · exact hg
    · exact Int32.not_le.mp c
theorem sp_trg_pos {S : mo_S} {F : mo_Fn} {p : Nat} {hv : Int32} : ∀ {n : Nat}, 1 ≤ n → n ≤ 64 → 0 < (sp_trg S F p hv n).1
  | 0, h, _ => absurd h (by decide)
  | n + 1, _, h => by
    have hg : 0 < nI (2 * n + 2) := nI_lt (a := 0) (b := 2 * n + 2) (by omega) (by omega)
    rw [sp_trg]
    split
    · rw [sp_trv]; exact sp_try_pos hg
    · exact sp_try_pos hg

theorem bt_in {G : ev_G} {W : mo_W} {d : Nat} {g0 : ev_H} {S : mo_S} {F : mo_Fn} {x2 : Int32} {p : Nat} (hE : ev_En G) (hd : 9 ≤ d) (hp : p < 12) (hu : mo_J (mo_up S 0 0 0) F) {k : Nat} {q : sp_Q4} {PO : ev_P} {told : Int32} (hg : ¬ 3 * (nI (2 * k + 2)) = 0) (ht : told < 0) (K : ∀ T g, sp_bq T (mo_up S 0 0 0) (sp_trv (mo_up S 0 0 0) p (sp_have (mo_up S 0 0 0) p) (nI (2 * k + 2)) q 60) → mo_T G W g0 g T → ev_V G d 0 0 mX12_best PO g 161 [some (.ref W.1), some (.int (nI p)), some (.int x2), some (.int (sp_have (mo_up S 0 0 0) p)), some (.int (nI (2 * k + 2))), some (.int told), some (.int (nI 61))] [])  : ∀ (n i : Nat), i ≤ 60 → 60 < i + n → ∀ (T : mo_S), sp_bq T (mo_up S 0 0 0) (sp_trv (mo_up S 0 0 0) p (sp_have (mo_up S 0 0 0) p) (nI (2 * k + 2)) q i) → ∀ g, mo_T G W g0 g T → ev_V G d 0 0 mX12_best PO g 133 [some (.ref W.1), some (.int (nI p)), some (.int x2), some (.int (sp_have (mo_up S 0 0 0) p)), some (.int (nI (2 * k + 2))), some (.int told), some (.int (nI (i + 1)))] [] := by
  intro n
  induction n with
  | zero => intro i h1 h2; exact absurd h2 (by omega)
  | succ n ih =>
    intro i h1 h2 T hI g hT
    refine ev_iload dX12_best_133 rfl ?_
    refine ev_bipush (v := 60) dX12_best_135 (by decide) ?_
    refine ev_icmp_gt (tgt := 161) dX12_best_137 (by decide) (fun c_137 => ?_) (fun c_137 => ?_)
    · first
        | exact absurd ht (Int32.not_lt.mpr c_142)
        | (have e : i = 60 := by
            rcases Nat.lt_or_ge i 60 with q9 | q9
            · exact absurd c_137 (Int32.not_lt.mpr (nI_le (a := i + 1) (b := 60) (by omega) (by decide)))
            · omega
           subst e
           exact K T g hI hT)
    · refine ev_iload dX12_best_140 rfl ?_
      refine ev_if_ge (tgt := 161) dX12_best_142 (by decide) (fun c_142 => ?_) (fun c_142 => ?_)
      · first
          | exact absurd ht (Int32.not_lt.mpr c_142)
          | (have e : i = 60 := by
              rcases Nat.lt_or_ge i 60 with q9 | q9
              · exact absurd c_137 (Int32.not_lt.mpr (nI_le (a := i + 1) (b := 60) (by omega) (by decide)))
              · omega
             subst e
             exact K T g hI hT)
      · refine ev_aload_n dX12_best_145 rfl rfl ?_
        refine ev_iload_n dX12_best_146 rfl rfl ?_
        refine ev_iload dX12_best_147 rfl ?_
        refine ev_iload dX12_best_149 rfl ?_
        refine ev_iload_n dX12_best_151 rfl rfl ?_
        refine mo_callr4 (d' := d - 1) hE hT dX12_best_152 rfl rfl kX12_tries lX12_498 iX12_tries vX12_tries (Nat.le_of_ble_eq_true rfl) (by omega) (c_X12_tries hE (by omega) (by omega) (sp_eqB_J hI.1 hu).W.1 (sp_eqB_J hI.1 hu).W.2 hg hI) (fun r T2 g h8 hT => ?_)
        obtain ⟨rfl, h8⟩ := h8
        refine ev_iinc (v := (nI (i + 1 + 1))) dX12_best_155 rfl (by exact nI_1 (i + 1)) rfl ?_
        refine ev_goto (tgt := 133) dX12_best_158 (by decide) ?_
        have hlt : i < 60 := by
          rcases Nat.lt_or_ge i 60 with q9 | q9
          · exact q9
          · exact absurd (show (60 : Int32) < nI (i + 1) from nI_lt (a := 60) (b := i + 1) (by omega) (by omega)) c_137
        exact ih (i + 1) (by omega) (by omega) T2 h8 g hT
theorem c_X12_best {G : ev_G} {W : mo_W} {d : Nat} {S : mo_S} {F : mo_Fn} {x1 x2 : Int32} (hE : ev_En G) (h : mo_J S F) (hd : 9 ≤ d) : mo_Cr G W d mX12_best [.int x1, .int x2] S (fun r S2 => (r = some (.int 0) ∧ ∃ k : Int32, ((k = 1 ∧ sp_in x1 0 (S.1 1 0 - 1) = false) ∨ (k = 2 ∧ sp_in x1 0 (S.1 1 0 - 1) = true ∧ sp_in x2 0 3 = false)) ∧ S2 = mo_up S 0 0 k) ∨ (sp_in x1 0 (S.1 1 0 - 1) = true ∧ sp_in x2 0 3 = true ∧ (∃ p, x1 = nI p ∧ p < sp_P S ∧ sp_eqB S2 (mo_up S 0 0 0) ∧ r = some (.int (sp_best (mo_up S 0 0 0) F p x2))))) := by
  refine mo_startr (lv0 := [some (.ref W.1), some (.int x1), some (.int x2), none, none, none, none]) (by decide +kernel) rfl (Nat.le_of_ble_eq_true rfl) rfl ?_
  intro g0 g hT
  refine ev_aload_n dX12_best_0 rfl rfl ?_
  refine ev_iload_n dX12_best_1 rfl rfl ?_
  refine mo_call1 (d' := d - 1) hE hT dX12_best_2 rfl rfl kX12_isPaper lX12_188 iX12_isPaper vX12_isPaper (Nat.le_of_ble_eq_true rfl) (by omega) (c_X12_isPaper hE (by omega)) (fun g hT => ?_)
  refine ev_if_eq (tgt := 30) dX12_best_5 (by decide) (fun c_5 => ?_) (fun c_5 => ?_)
  · refine ev_iconst (v := 0) dX12_best_30 (by decide) ?_
    refine ev_iret dX12_best_31 rfl rfl ⟨_, _, rfl, Or.inl ⟨rfl, ?_⟩, hT⟩
    clear hT
    first
      | (cases hq0 : sp_in x1 0 (S.1 1 0 - 1) <;> cases hq1 : sp_in x2 0 3 <;> first | (exfalso; simp_all [mo_b]; done) | (refine ⟨1, Or.inl ⟨rfl, rfl⟩, ?_⟩; simp_all [mo_b, sp_bad, mo_up_tw]; done))
      | (cases hq0 : sp_in x1 0 (S.1 1 0 - 1) <;> cases hq1 : sp_in x2 0 3 <;> first | (exfalso; simp_all [mo_b]; done) | (refine ⟨2, Or.inr (⟨rfl, rfl, rfl⟩), ?_⟩; simp_all [mo_b, sp_bad, mo_up_tw]; done))
  · refine ev_aload_n dX12_best_8 rfl rfl ?_
    refine ev_iload_n dX12_best_9 rfl rfl ?_
    refine ev_iconst (v := 0) dX12_best_10 (by decide) ?_
    refine ev_iconst (v := 3) dX12_best_11 (by decide) ?_
    refine ev_pS3 (d' := d - 1) dX12_best_12 rfl kX12_in lX12_176 sX12_in (Nat.le_of_ble_eq_true rfl) (by omega) (c_X12_in) ?_
    have K_23 : ∀ (g : ev_H) (hT : mo_T G W g0 g (mo_up S 0 0 (mo_b (!sp_in x1 0 (S.1 1 0 - 1))))), ∀ x9 : Int32, x9 = (mo_b (if (mo_b (sp_in x2 0 3)) = 0 then true else false)) → ev_V G d 0 0 mX12_best (fun o g' => ∃ r S2, o = .inl r ∧ ((r = some (.int 0) ∧ ∃ k : Int32, ((k = 1 ∧ sp_in x1 0 (S.1 1 0 - 1) = false) ∨ (k = 2 ∧ sp_in x1 0 (S.1 1 0 - 1) = true ∧ sp_in x2 0 3 = false)) ∧ S2 = mo_up S 0 0 k) ∨ (sp_in x1 0 (S.1 1 0 - 1) = true ∧ sp_in x2 0 3 = true ∧ (∃ p, x1 = nI p ∧ p < sp_P S ∧ sp_eqB S2 (mo_up S 0 0 0) ∧ r = some (.int (sp_best (mo_up S 0 0 0) F p x2))))) ∧ mo_T G W g0 g' S2) g 23 [some (.ref W.1), some (.int x1), some (.int x2), none, none, none, none] (.int x9 :: .ref W.1 :: []) := by
      intro g hT x9 h9
      subst h9
      refine ev_iconst (v := 2) dX12_best_23 (by decide) ?_
      refine mo_call2 (d' := d - 1) hE hT dX12_best_24 rfl rfl kX12_bad lX12_181 iX12_bad vX12_bad (Nat.le_of_ble_eq_true rfl) (by omega) (c_X12_bad hE) (fun g hT => ?_)
      refine ev_if_eq (tgt := 32) dX12_best_27 (by decide) (fun c_27 => ?_) (fun c_27 => ?_)
      · have q0 : sp_in x1 0 (S.1 1 0 - 1) = true := by clear hT; cases hq0 : sp_in x1 0 (S.1 1 0 - 1) <;> cases hq1 : sp_in x2 0 3 <;> first | rfl | (exfalso; simp_all [mo_b]; done)
        have q1 : sp_in x2 0 3 = true := by clear hT; cases hq0 : sp_in x1 0 (S.1 1 0 - 1) <;> cases hq1 : sp_in x2 0 3 <;> first | rfl | (exfalso; simp_all [mo_b]; done)
        rw [show (sp_bad (if (mo_b (sp_in x2 0 3)) = 0 then true else false) 2 (mo_up S 0 0 (mo_b (!sp_in x1 0 (S.1 1 0 - 1))))) = mo_up S 0 0 0 from by simp only [q0, q1]; first | rfl | simp_all [mo_b, sp_bad, mo_up_tw]] at hT
        obtain ⟨p, hp, ep⟩ := mo_vinE (N := 12) h.P.1 h.P.2 (by decide) q0
        refine ev_lvE (lv2 := [some (.ref W.1), some (.int (nI p)), some (.int x2), none, none, none, none]) (by rw [ep]) ?_
        have hP2 := h.P.2
        have hu : mo_J (mo_up S 0 0 0) F := h.u0
        have hP9 : sp_P (mo_up S 0 0 0) = sp_P S := sp_P_cong (mo_up_ne (by decide))
        obtain ⟨kd, hkd, ekd⟩ : ∃ kd : Nat, kd ≤ 2 ∧ (mo_up S 0 0 0).1 3 p = nI kd := by
          obtain ⟨a, b⟩ := hu.N (k := 3) p 2 (by decide)
          exact ⟨_, b, a⟩
        obtain ⟨B, hB1, hB2, hB⟩ := hu.pages hkd
        rw [← ekd] at hB
        have hNB : (sp_X12_much (mo_up S 0 0 0) (1 + (mo_up S 0 0 0).1 3 p)).toNatClampNeg / 2 = B / 2 := by rw [hB, nI_clamp (by omega)]
        refine ev_aload_n dX12_best_32 rfl rfl ?_
        refine mo_geta hE hT dX12_best_33 fX12_37 (by decide) ?_
        refine ev_iload_n dX12_best_36 rfl rfl ?_
        refine mo_ialdQ (q := p) (v := (S.1 12 p)) hE hT dX12_best_37 (by decide) rfl (show _ < 12 from (by omega)) (by simp [sp_bad_ne, mo_up]) ?_
        refine ev_iconst (v := 1) dX12_best_38 (by decide) ?_
        refine ev_icmp_eq (tgt := 46) dX12_best_39 (by decide) (fun c_39 => ?_) (fun c_39 => ?_)
        · refine ev_aload_n dX12_best_46 rfl rfl ?_
          refine ev_iconst (v := 0) dX12_best_47 (by decide) ?_
          refine mo_put hE hT dX12_best_48 pX12_486 (by decide) (fun g hT => ?_)
          refine ev_aload_n dX12_best_51 rfl rfl ?_
          refine mo_geta hE hT dX12_best_52 fX12_31 (by decide) ?_
          refine ev_iload_n dX12_best_55 rfl rfl ?_
          refine mo_ialdQ (q := p) (v := (S.1 10 p)) hE hT dX12_best_56 (by decide) rfl (show _ < 12 from (by omega)) (by simp [sp_bad_ne, mo_up]) ?_
          refine ev_aload_n dX12_best_57 rfl rfl ?_
          refine mo_geta hE hT dX12_best_58 fX12_34 (by decide) ?_
          refine ev_iload_n dX12_best_61 rfl rfl ?_
          refine mo_ialdQ (q := p) (v := (S.1 11 p)) hE hT dX12_best_62 (by decide) rfl (show _ < 12 from (by omega)) (by simp [sp_bad_ne, mo_up]) ?_
          have K_76 : ∀ (g : ev_H) (hT : mo_T G W g0 g (mo_up (mo_up S 0 0 0) 69 0 0)), ∀ x9 : Int32, x9 = (if (S.1 11 p) ≤ 0 then 0 else (S.1 11 p)) → ev_V G d 0 0 mX12_best (fun o g' => ∃ r S2, o = .inl r ∧ ((r = some (.int 0) ∧ ∃ k : Int32, ((k = 1 ∧ sp_in x1 0 (S.1 1 0 - 1) = false) ∨ (k = 2 ∧ sp_in x1 0 (S.1 1 0 - 1) = true ∧ sp_in x2 0 3 = false)) ∧ S2 = mo_up S 0 0 k) ∨ (sp_in x1 0 (S.1 1 0 - 1) = true ∧ sp_in x2 0 3 = true ∧ (∃ p, x1 = nI p ∧ p < sp_P S ∧ sp_eqB S2 (mo_up S 0 0 0) ∧ r = some (.int (sp_best (mo_up S 0 0 0) F p x2))))) ∧ mo_T G W g0 g' S2) g 76 [some (.ref W.1), some (.int (nI p)), some (.int x2), none, none, none, none] (.int x9 :: .int (S.1 10 p) :: []) := by
            intro g hT x9 h9
            subst h9
            refine ev_iadd dX12_best_76 ?_
            rw [show ((S.1 10 p) + (if (S.1 11 p) ≤ 0 then 0 else (S.1 11 p))) = (sp_have (mo_up S 0 0 0) p) from by unfold sp_have; rw [mo_up_ne (show (10 : Nat) ≠ 0 by decide), mo_up_ne (show (11 : Nat) ≠ 0 by decide)]]
            refine ev_istore_n dX12_best_77 rfl (Nat.le_of_ble_eq_true rfl) rfl ?_
            refine ev_iconst (v := (nI (2 * 0 + 2))) dX12_best_78 (by decide) ?_
            refine ev_istore dX12_best_79 (Nat.le_of_ble_eq_true rfl) rfl ?_
            have loop : ∀ (n k : Nat), k ≤ B / 2 → B / 2 < k + n → ∀ (T : mo_S), sp_bq T (mo_up S 0 0 0) (sp_trg (mo_up S 0 0 0) F p (sp_have (mo_up S 0 0 0) p) k) → ∀ g, mo_T G W g0 g T → ev_V G d 0 0 mX12_best (fun o g' => ∃ r S2, o = .inl r ∧ ((r = some (.int 0) ∧ ∃ k : Int32, ((k = 1 ∧ sp_in x1 0 (S.1 1 0 - 1) = false) ∨ (k = 2 ∧ sp_in x1 0 (S.1 1 0 - 1) = true ∧ sp_in x2 0 3 = false)) ∧ S2 = mo_up S 0 0 k) ∨ (sp_in x1 0 (S.1 1 0 - 1) = true ∧ sp_in x2 0 3 = true ∧ (∃ p, x1 = nI p ∧ p < sp_P S ∧ sp_eqB S2 (mo_up S 0 0 0) ∧ r = some (.int (sp_best (mo_up S 0 0 0) F p x2))))) ∧ mo_T G W g0 g' S2) g 81 [some (.ref W.1), some (.int (nI p)), some (.int x2), some (.int (sp_have (mo_up S 0 0 0) p)), some (.int (nI (2 * k + 2))), none, none] [] := by
              intro n
              induction n with
              | zero => intro k h1 h2; exact absurd h2 (by omega)
              | succ n ih =>
                intro k h1 h2 T hI g hT
                refine ev_iload dX12_best_81 rfl ?_
                refine ev_aload_n dX12_best_83 rfl rfl ?_
                refine ev_iconst (v := 1) dX12_best_84 (by decide) ?_
                refine ev_aload_n dX12_best_85 rfl rfl ?_
                refine mo_geta hE hT dX12_best_86 fX12_9 (by decide) ?_
                refine ev_iload_n dX12_best_89 rfl rfl ?_
                refine mo_ialdQ (q := p) (v := ((mo_up S 0 0 0).1 3 p)) hE hT dX12_best_90 (by decide) rfl (show _ < 12 from (by omega)) (by rw [hI.1 3 (by decide)]) ?_
                refine ev_iadd dX12_best_91 ?_
                have hq := sp_eqB_F hI.1
                refine mo_call1 (d' := d - 1) hE hT dX12_best_92 rfl rfl kX12_much lX12_412 iX12_much vX12_much (Nat.le_of_ble_eq_true rfl) (by omega) (c_X12_much hE (by omega) (sp_eqF_hO hq hu.O.1) (sp_eqF_hO2 hq hu.O.2) (sp_eqF_hC hq hu.C)) (fun g hT => ?_)
                rw [sp_eqF_much hq, hB]
                refine ev_icmp_gt (tgt := 167) dX12_best_95 (by decide) (fun c_95 => ?_) (fun c_95 => ?_)
                · have e : k = B / 2 := by
                    rcases Nat.lt_or_ge k (B / 2) with q9 | q9
                    · exact absurd c_95 (nI_nlt (by omega) (by omega))
                    · omega
                  have hbst : sp_bst (mo_up S 0 0 0) F p = (sp_trg (mo_up S 0 0 0) F p (sp_have (mo_up S 0 0 0) p) k) := by unfold sp_bst; rw [hNB, e]
                  have hpos : 0 < (sp_trg (mo_up S 0 0 0) F p (sp_have (mo_up S 0 0 0) p) k).1 := sp_trg_pos (by omega) (by omega)
                  obtain ⟨hb0, hb1, hb2⟩ := hI
                  obtain ⟨hb3, hb4, hb5⟩ := hb2 hpos
                  refine ev_iload_n dX12_best_167 rfl rfl ?_
                  have K_206 : ∀ (g : ev_H) (hT : mo_T G W g0 g T), ∀ x9 : Int32, x9 = (if x2 = 0 then (T.1 69 0) else (if x2 = 1 then (T.1 70 0) else (if x2 = 2 then (T.1 71 0) else (T.1 72 0)))) → ev_V G d 0 0 mX12_best (fun o g' => ∃ r S2, o = .inl r ∧ ((r = some (.int 0) ∧ ∃ k : Int32, ((k = 1 ∧ sp_in x1 0 (S.1 1 0 - 1) = false) ∨ (k = 2 ∧ sp_in x1 0 (S.1 1 0 - 1) = true ∧ sp_in x2 0 3 = false)) ∧ S2 = mo_up S 0 0 k) ∨ (sp_in x1 0 (S.1 1 0 - 1) = true ∧ sp_in x2 0 3 = true ∧ (∃ p, x1 = nI p ∧ p < sp_P S ∧ sp_eqB S2 (mo_up S 0 0 0) ∧ r = some (.int (sp_best (mo_up S 0 0 0) F p x2))))) ∧ mo_T G W g0 g' S2) g 206 [some (.ref W.1), some (.int (nI p)), some (.int x2), some (.int (sp_have (mo_up S 0 0 0) p)), some (.int (nI (2 * k + 2))), none, none] (.int x9 :: []) := by
                    intro g hT x9 h9
                    subst h9
                    refine ev_iret dX12_best_206 rfl rfl ⟨_, T, rfl, Or.inr ⟨q0, q1, p, ep, hp, hb0, ?_⟩, hT⟩
                    unfold sp_best
                    rw [mo_up_ne (show (12 : Nat) ≠ 0 by decide), if_pos c_39, hbst, hb1, hb3, hb4, hb5]
                  refine ev_if_ne (tgt := 178) dX12_best_168 (by decide) (fun c_168 => ?_) (fun c_168 => ?_)
                  · refine ev_iload_n dX12_best_178 rfl rfl ?_
                    refine ev_iconst (v := 1) dX12_best_179 (by decide) ?_
                    refine ev_icmp_ne (tgt := 190) dX12_best_180 (by decide) (fun c_180 => ?_) (fun c_180 => ?_)
                    · refine ev_iload_n dX12_best_190 rfl rfl ?_
                      refine ev_iconst (v := 2) dX12_best_191 (by decide) ?_
                      refine ev_icmp_ne (tgt := 202) dX12_best_192 (by decide) (fun c_192 => ?_) (fun c_192 => ?_)
                      · refine ev_aload_n dX12_best_202 rfl rfl ?_
                        refine mo_geti hE hT dX12_best_203 fX12_489 (by decide) ?_
                        exact K_206 g hT _ (by rw [if_neg c_168, if_neg c_180, if_neg c_192])
                      · refine ev_aload_n dX12_best_195 rfl rfl ?_
                        refine mo_geti hE hT dX12_best_196 fX12_495 (by decide) ?_
                        refine ev_goto (tgt := 206) dX12_best_199 (by decide) ?_
                        exact K_206 g hT _ (by rw [if_neg c_168, if_neg c_180, if_pos c_192])
                    · refine ev_aload_n dX12_best_183 rfl rfl ?_
                      refine mo_geti hE hT dX12_best_184 fX12_492 (by decide) ?_
                      refine ev_goto (tgt := 206) dX12_best_187 (by decide) ?_
                      exact K_206 g hT _ (by rw [if_neg c_168, if_pos c_180])
                  · refine ev_aload_n dX12_best_171 rfl rfl ?_
                    refine mo_geti hE hT dX12_best_172 fX12_486 (by decide) ?_
                    refine ev_goto (tgt := 206) dX12_best_175 (by decide) ?_
                    exact K_206 g hT _ (by rw [if_pos c_168])
                · have hg : ¬ 3 * nI (2 * k + 2) = 0 := by
                    rw [show (3 : Int32) = nI 3 from rfl, pk_mul]
                    exact nI_ne0 (by omega) (by omega)
                  refine ev_aload_n dX12_best_98 rfl rfl ?_
                  refine ev_iload_n dX12_best_99 rfl rfl ?_
                  refine mo_call1 (d' := d - 1) hE hT dX12_best_100 rfl rfl kX12_means lX12_406 iX12_means vX12_means (Nat.le_of_ble_eq_true rfl) (by omega) (c_X12_means hE (vp_in_nI (by omega) (by decide))) (fun g hT => ?_)
                  refine ev_aload_n dX12_best_103 rfl rfl ?_
                  refine ev_iload dX12_best_104 rfl ?_
                  refine mo_put hE hT dX12_best_106 pX12_380 (by decide) (fun g hT => ?_)
                  refine ev_aload_n dX12_best_109 rfl rfl ?_
                  have hN : sp_eqN (mo_up (sp_X12_means T (nI p)) 45 0 (nI (2 * k + 2))) T := sp_eqN_u (by decide) (sp_eqN_means T (nI p))
                  have hq3 := sp_eqF_t (sp_eqN_F hN) hq
                  refine mo_callr0 (d' := d - 1) hE hT dX12_best_110 rfl rfl kX12_priceNow lX12_415 iX12_priceNow vX12_priceNow (Nat.le_of_ble_eq_true rfl) (by omega) (c_X12_priceNow hE (by omega) (sp_eqF_hO hq3 hu.O.1) (sp_eqF_hO2 hq3 hu.O.2) (sp_eqF_hC hq3 hu.C) (hu.FF.cong hq3)) (fun r T2 g h8 hT => ?_)
                  obtain ⟨rfl, h8⟩ := h8
                  rw [show sp_price (mo_up (sp_X12_means T (nI p)) 45 0 (nI (2 * k + 2))) F = (sp_prg (mo_up S 0 0 0) F p (nI (2 * k + 2))) from sp_prg_cong hI.1 p _]
                  have hI2 : sp_bq T2 (mo_up S 0 0 0) (sp_trg (mo_up S 0 0 0) F p (sp_have (mo_up S 0 0 0) p) k) := sp_bq_N (sp_eqN_P h8 hN) hI
                  refine ev_istore dX12_best_113 (Nat.le_of_ble_eq_true rfl) rfl ?_
                  refine ev_iload dX12_best_115 rfl ?_
                  refine ev_if_lt (tgt := 130) dX12_best_117 (by decide) (fun c_117 => ?_) (fun c_117 => ?_)
                  · refine ev_iconst (v := nI (0 + 1)) dX12_best_130 (by decide) ?_
                    refine ev_istore dX12_best_131 (Nat.le_of_ble_eq_true rfl) rfl ?_
                    refine bt_in hE (by omega) (by omega) hu hg c_117 (fun T3 g h9 hT => ?_) 61 0 (by omega) (by omega) T2 hI2 g hT
                    refine ev_iinc (v := (nI (2 * (k + 1) + 2))) dX12_best_161 rfl (sp_g2 k) rfl ?_
                    refine ev_goto (tgt := 81) dX12_best_164 (by decide) ?_
                    refine ev_none 5 ?_
                    refine ev_none 6 ?_
                    have hlt : k < B / 2 := by
                      rcases Nat.lt_or_ge k (B / 2) with q9 | q9
                      · exact q9
                      · exact absurd (show nI B < nI (2 * k + 2) from nI_lt (by omega) (by omega)) c_95
                    exact ih (k + 1) (by omega) (by omega) T3 (by rw [sp_trg, if_pos c_117]; exact h9) g hT
                  · refine ev_aload_n dX12_best_120 rfl rfl ?_
                    refine ev_iload_n dX12_best_121 rfl rfl ?_
                    refine ev_iload dX12_best_122 rfl ?_
                    refine ev_iload dX12_best_124 rfl ?_
                    refine ev_iload_n dX12_best_126 rfl rfl ?_
                    refine mo_callr4 (d' := d - 1) hE hT dX12_best_127 rfl rfl kX12_tries lX12_498 iX12_tries vX12_tries (Nat.le_of_ble_eq_true rfl) (by omega) (c_X12_tries hE (by omega) (by omega) (sp_eqB_J hI2.1 hu).W.1 (sp_eqB_J hI2.1 hu).W.2 hg hI2) (fun r T3 g h8 hT => ?_)
                    obtain ⟨rfl, h8⟩ := h8
                    refine ev_iconst (v := 1) dX12_best_130 (by decide) ?_
                    refine ev_istore dX12_best_131 (Nat.le_of_ble_eq_true rfl) rfl ?_
                    refine ev_iload dX12_best_133 rfl ?_
                    refine ev_bipush (v := 60) dX12_best_135 (by decide) ?_
                    refine ev_icmp_gt (tgt := 161) dX12_best_137 (by decide) (fun c_137 => ?_) (fun c_137 => ?_)
                    · exact absurd c_137 (by decide)
                    · refine ev_iload dX12_best_140 rfl ?_
                      refine ev_if_ge (tgt := 161) dX12_best_142 (by decide) (fun c_142 => ?_) (fun c_142 => ?_)
                      · refine ev_iinc (v := (nI (2 * (k + 1) + 2))) dX12_best_161 rfl (sp_g2 k) rfl ?_
                        refine ev_goto (tgt := 81) dX12_best_164 (by decide) ?_
                        refine ev_none 5 ?_
                        refine ev_none 6 ?_
                        have hlt : k < B / 2 := by
                          rcases Nat.lt_or_ge k (B / 2) with q9 | q9
                          · exact q9
                          · exact absurd (show nI B < nI (2 * k + 2) from nI_lt (by omega) (by omega)) c_95
                        exact ih (k + 1) (by omega) (by omega) T3 (by rw [sp_trg, if_neg c_117]; exact h8) g hT
                      · exact absurd (Int32.not_lt.mp c_117) c_142
            exact loop (B / 2 + 1) 0 (by omega) (by omega) _ ⟨sp_eqB_up (by decide) (fun _ _ => rfl), by simp [mo_up, sp_trg], fun q9 => absurd (show (0 : Int32) < 0 from q9) (by decide)⟩ g hT
          refine ev_if_le (tgt := 75) dX12_best_63 (by decide) (fun c_63 => ?_) (fun c_63 => ?_)
          · refine ev_iconst (v := 0) dX12_best_75 (by decide) ?_
            exact K_76 g hT _ (by rw [if_pos c_63])
          · refine ev_aload_n dX12_best_66 rfl rfl ?_
            refine mo_geta hE hT dX12_best_67 fX12_34 (by decide) ?_
            refine ev_iload_n dX12_best_70 rfl rfl ?_
            refine mo_ialdQ (q := p) (v := (S.1 11 p)) hE hT dX12_best_71 (by decide) rfl (show _ < 12 from (by omega)) (by simp [sp_bad_ne, mo_up]) ?_
            refine ev_goto (tgt := 76) dX12_best_72 (by decide) ?_
            exact K_76 g hT _ (by rw [if_neg c_63])
        · refine ev_ldcw dX12_best_42 nX12_470 ?_
          exact ev_iret dX12_best_45 rfl rfl ⟨_, _, rfl, Or.inr ⟨q0, q1, p, ep, hp, fun _ _ => rfl, by unfold sp_best; rw [mo_up_ne (show (12 : Nat) ≠ 0 by decide), if_neg c_39]⟩, hT⟩
      · refine ev_iconst (v := 0) dX12_best_30 (by decide) ?_
        refine ev_iret dX12_best_31 rfl rfl ⟨_, _, rfl, Or.inl ⟨rfl, ?_⟩, hT⟩
        clear hT
        first
          | (cases hq0 : sp_in x1 0 (S.1 1 0 - 1) <;> cases hq1 : sp_in x2 0 3 <;> first | (exfalso; simp_all [mo_b]; done) | (refine ⟨1, Or.inl ⟨rfl, rfl⟩, ?_⟩; simp_all [mo_b, sp_bad, mo_up_tw]; done))
          | (cases hq0 : sp_in x1 0 (S.1 1 0 - 1) <;> cases hq1 : sp_in x2 0 3 <;> first | (exfalso; simp_all [mo_b]; done) | (refine ⟨2, Or.inr (⟨rfl, rfl, rfl⟩), ?_⟩; simp_all [mo_b, sp_bad, mo_up_tw]; done))
    refine ev_if_ne (tgt := 22) dX12_best_15 (by decide) (fun c_15 => ?_) (fun c_15 => ?_)
    · refine ev_iconst (v := 0) dX12_best_22 (by decide) ?_
      exact K_23 g hT _ (by rw [if_neg c_15]; rfl)
    · refine ev_iconst (v := 1) dX12_best_18 (by decide) ?_
      refine ev_goto (tgt := 23) dX12_best_19 (by decide) ?_
      exact K_23 g hT _ (by rw [if_pos c_15]; rfl)
end M16
