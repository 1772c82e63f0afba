section M15
def sp_row (S : mo_S) (p : Nat) (m what known : Int32) : Int32 := if sp_X12_isRow S (nI p) m = false then -2000000000 else if known ≤ m then -2000000000 else sp_anew S p m what known (S.1 55 (4 * (12 * m.toNatClampNeg + p) + what.toNatClampNeg)) (sp_Z S)
/-- the most borne of the first n sources' beginnings: who bears it, as bits, and where it begins -/
def sp_brn (S : mo_S) (p K : Nat) : Nat → Int32 × Int32
  | 0 => (-1, 0)
  | n + 1 => if (sp_brn S p K n).1 < 0 then (sp_lies S p (S.1 60 (8 * p + n)) K, S.1 60 (8 * p + n))
    else if sp_bits (sp_lies S p (S.1 60 (8 * p + n)) K) 8 < sp_bits (sp_brn S p K n).1 8 then sp_brn S p K n
    else if sp_bits (sp_lies S p (S.1 60 (8 * p + n)) K) 8 = sp_bits (sp_brn S p K n).1 8 then (if S.1 60 (8 * p + n) < (sp_brn S p K n).2 then (sp_lies S p (S.1 60 (8 * p + n)) K, S.1 60 (8 * p + n)) else sp_brn S p K n)
    else (sp_lies S p (S.1 60 (8 * p + n)) K, S.1 60 (8 * p + n))
def sp_brt (S : mo_S) (p : Nat) (best : Int32) : Nat → Int32
  | 0 => 100000
  | n + 1 => if (best >>> (nI n &&& 31)) &&& 1 = 1 then sp_least (sp_brt S p best n) (S.1 61 (8 * p + n)) else sp_brt S p best n
def sp_K (S : mo_S) (p : Nat) : Nat := (S.1 59 p).toNatClampNeg
def sp_borne (S : mo_S) (p : Nat) (x2 : Int32) : Int32 := if S.1 59 p = 0 then -1 else if x2 = 0 then (sp_brn S p (sp_K S p) (sp_K S p)).2 else if x2 = 1 then sp_brt S p (sp_brn S p (sp_K S p) (sp_K S p)).1 (sp_K S p) else if x2 = 2 then sp_bits (sp_brn S p (sp_K S p) (sp_K S p)).1 8 else (((1 : Int32) <<< ((S.1 59 p) &&& 31)) - 1) &&& ((sp_brn S p (sp_K S p) (sp_K S p)).1 ^^^ -1)
theorem sp_lies_cong {T S : mo_S} (h : T.1 60 = S.1 60) (h2 : T.1 61 = S.1 61) (p : Nat) (v : Int32) : ∀ n, sp_lies T p v n = sp_lies S p v n
  | 0 => rfl
  | n + 1 => by simp only [sp_lies]; rw [sp_lies_cong h h2 p v n, h, h2]
/-- reels of q are p's now; the first n -/
def sp_mgR (S : mo_S) (p q : Nat) : Nat → mo_S
  | 0 => S
  | n + 1 => if (sp_mgR S p q n).1 23 n = nI q then mo_up (sp_mgR S p q n) 23 n (nI p) else sp_mgR S p q n
theorem sp_mgR_ne {S : mo_S} {p q k : Nat} (h : k ≠ 23) : ∀ n, (sp_mgR S p q n).1 k = S.1 k
  | 0 => rfl
  | n + 1 => by
    simp only [sp_mgR]
    split
    · rw [mo_up_ne h]; exact sp_mgR_ne h n
    · exact sp_mgR_ne h n
/-- who is loyal to both, in the first n wards -/
def sp_mgW (S : mo_S) (p q : Nat) : Nat → mo_S
  | 0 => S
  | n + 1 => mo_up (mo_up (sp_mgW S p q n) 26 (12 * n + p) (sp_least ((sp_mgW S p q n).1 26 (12 * n + p) + (sp_mgW S p q n).1 26 (12 * n + q)) 100)) 26 (12 * n + q) 0
theorem sp_mgW_ne {S : mo_S} {p q k : Nat} (h : k ≠ 26) : ∀ n, (sp_mgW S p q n).1 k = S.1 k
  | 0 => rfl
  | n + 1 => by simp only [sp_mgW]; rw [mo_up_ne h, mo_up_ne h, sp_mgW_ne h n]

def sp_count (S : mo_S) (x1 : Int32) : Int32 :=
  (if x1 = 0 then (S.1 2 0) else (if x1 = 1 then (S.1 1 0) else (if x1 = 2 then (sp_many (mo_up S 0 0 0) 1 (sp_P S)) else (if x1 = 3 then (sp_many (mo_up S 0 0 0) 0 (sp_P S)) else (if x1 = 4 then (S.1 21 0) else (if x1 = 5 then (sp_pool (mo_up S 0 0 0) (sp_R S)) else (if x1 = 6 then (S.1 29 0) else (if x1 = 7 then (S.1 24 0) else (if x1 = 8 then (S.1 62 0) else (if x1 = 9 then (S.1 73 0) else (if x1 = 10 then (S.1 28 0) else (if x1 = 11 then (sp_stol S (sp_R S)) else (-1)))))))))))))
theorem c_X12_count {G : ev_G} {W : mo_W} {d : Nat} {S : mo_S} {F : mo_Fn} {x1 : Int32} (hE : ev_En G) (h : mo_J S F) (hd : 9 ≤ d) : mo_Cr G W d mX12_count [.int x1] S (fun r S2 => r = some (.int (sp_count S x1)) ∧ S2 = (mo_up S 0 0 0)) := by
  refine mo_startr (lv0 := [some (.ref W.1), some (.int x1), none, none]) (by decide +kernel) rfl (Nat.le_of_ble_eq_true rfl) rfl ?_
  intro g0 g hT
  refine ev_aload_n dX12_count_0 rfl rfl ?_
  refine ev_iconst (v := 0) dX12_count_1 (by decide) ?_
  refine mo_put hE hT dX12_count_2 pX12_173 (by decide) (fun g hT => ?_)
  refine ev_iconst (v := 0) dX12_count_5 (by decide) ?_
  refine ev_istore_n dX12_count_6 rfl (Nat.le_of_ble_eq_true rfl) rfl ?_
  refine ev_iload_n dX12_count_7 rfl rfl ?_
  by_cases c_8_0 : x1 = 0
  · refine ev_tableIn (tgt := 72) (off := 64) dX12_count_8 (by rw [c_8_0]; decide) (by rw [c_8_0]; decide) (by rw [c_8_0]; rfl) (by decide) ?_
    refine ev_aload_n dX12_count_72 rfl rfl ?_
    refine mo_getiE (v := (S.1 2 0)) hE hT dX12_count_73 fX12_364 (by decide) (by simp [sp_bad_ne, mo_up]) ?_
    have e9 : sp_count S x1 = (S.1 2 0) := by unfold sp_count; rw [if_pos c_8_0]
    exact ev_iret dX12_count_76 rfl rfl ⟨_, _, rfl, ⟨by rw [e9], rfl⟩, hT⟩
  · by_cases c_8_1 : x1 = 1
    · refine ev_tableIn (tgt := 77) (off := 69) dX12_count_8 (by rw [c_8_1]; decide) (by rw [c_8_1]; decide) (by rw [c_8_1]; rfl) (by decide) ?_
      refine ev_aload_n dX12_count_77 rfl rfl ?_
      refine mo_getiE (v := (S.1 1 0)) hE hT dX12_count_78 fX12_185 (by decide) (by simp [sp_bad_ne, mo_up]) ?_
      have e9 : sp_count S x1 = (S.1 1 0) := by unfold sp_count; rw [if_neg c_8_0, if_pos c_8_1]
      exact ev_iret dX12_count_81 rfl rfl ⟨_, _, rfl, ⟨by rw [e9], rfl⟩, hT⟩
    · by_cases c_8_2 : x1 = 2
      · refine ev_tableIn (tgt := 82) (off := 74) dX12_count_8 (by rw [c_8_2]; decide) (by rw [c_8_2]; decide) (by rw [c_8_2]; rfl) (by decide) ?_
        refine ev_aload_n dX12_count_82 rfl rfl ?_
        refine ev_iconst (v := 1) dX12_count_83 (by decide) ?_
        refine mo_call1 (d' := d - 1) hE hT dX12_count_84 rfl rfl kX12_paperMany lX12_508 iX12_paperMany vX12_paperMany (Nat.le_of_ble_eq_true rfl) (by omega) (c_X12_paperMany hE (by simpa [mo_up] using h.P.1) h.P.2) (fun g hT => ?_)
        have e9 : sp_count S x1 = (sp_many (mo_up S 0 0 0) 1 (sp_P S)) := by unfold sp_count; rw [if_neg c_8_0, if_neg c_8_1, if_pos c_8_2]
        exact ev_iret dX12_count_87 rfl rfl ⟨_, _, rfl, ⟨by rw [e9], rfl⟩, hT⟩
      · by_cases c_8_3 : x1 = 3
        · refine ev_tableIn (tgt := 88) (off := 80) dX12_count_8 (by rw [c_8_3]; decide) (by rw [c_8_3]; decide) (by rw [c_8_3]; rfl) (by decide) ?_
          refine ev_aload_n dX12_count_88 rfl rfl ?_
          refine ev_iconst (v := 0) dX12_count_89 (by decide) ?_
          refine mo_call1 (d' := d - 1) hE hT dX12_count_90 rfl rfl kX12_paperMany lX12_508 iX12_paperMany vX12_paperMany (Nat.le_of_ble_eq_true rfl) (by omega) (c_X12_paperMany hE (by simpa [mo_up] using h.P.1) h.P.2) (fun g hT => ?_)
          have e9 : sp_count S x1 = (sp_many (mo_up S 0 0 0) 0 (sp_P S)) := by unfold sp_count; rw [if_neg c_8_0, if_neg c_8_1, if_neg c_8_2, if_pos c_8_3]
          exact ev_iret dX12_count_93 rfl rfl ⟨_, _, rfl, ⟨by rw [e9], rfl⟩, hT⟩
        · by_cases c_8_4 : x1 = 4
          · refine ev_tableIn (tgt := 94) (off := 86) dX12_count_8 (by rw [c_8_4]; decide) (by rw [c_8_4]; decide) (by rw [c_8_4]; rfl) (by decide) ?_
            refine ev_aload_n dX12_count_94 rfl rfl ?_
            refine mo_getiE (v := (S.1 21 0)) hE hT dX12_count_95 fX12_196 (by decide) (by simp [sp_bad_ne, mo_up]) ?_
            have e9 : sp_count S x1 = (S.1 21 0) := by unfold sp_count; rw [if_neg c_8_0, if_neg c_8_1, if_neg c_8_2, if_neg c_8_3, if_pos c_8_4]
            exact ev_iret dX12_count_98 rfl rfl ⟨_, _, rfl, ⟨by rw [e9], rfl⟩, hT⟩
          · by_cases c_8_5 : x1 = 5
            · refine ev_tableIn (tgt := 99) (off := 91) dX12_count_8 (by rw [c_8_5]; decide) (by rw [c_8_5]; decide) (by rw [c_8_5]; rfl) (by decide) ?_
              refine ev_aload_n dX12_count_99 rfl rfl ?_
              refine mo_call0 (d' := d - 1) hE hT dX12_count_100 rfl rfl kX12_pool lX12_431 iX12_pool vX12_pool (Nat.le_of_ble_eq_true rfl) (by omega) (c_X12_pool hE (by simpa [mo_up] using h.R.1) h.R.2) (fun g hT => ?_)
              have e9 : sp_count S x1 = (sp_pool (mo_up S 0 0 0) (sp_R S)) := by unfold sp_count; rw [if_neg c_8_0, if_neg c_8_1, if_neg c_8_2, if_neg c_8_3, if_neg c_8_4, if_pos c_8_5]
              exact ev_iret dX12_count_103 rfl rfl ⟨_, _, rfl, ⟨by rw [e9], rfl⟩, hT⟩
            · by_cases c_8_6 : x1 = 6
              · refine ev_tableIn (tgt := 104) (off := 96) dX12_count_8 (by rw [c_8_6]; decide) (by rw [c_8_6]; decide) (by rw [c_8_6]; rfl) (by decide) ?_
                refine ev_aload_n dX12_count_104 rfl rfl ?_
                refine mo_getiE (v := (S.1 29 0)) hE hT dX12_count_105 fX12_289 (by decide) (by simp [sp_bad_ne, mo_up]) ?_
                have e9 : sp_count S x1 = (S.1 29 0) := by unfold sp_count; rw [if_neg c_8_0, if_neg c_8_1, if_neg c_8_2, if_neg c_8_3, if_neg c_8_4, if_neg c_8_5, if_pos c_8_6]
                exact ev_iret dX12_count_108 rfl rfl ⟨_, _, rfl, ⟨by rw [e9], rfl⟩, hT⟩
              · by_cases c_8_7 : x1 = 7
                · refine ev_tableIn (tgt := 109) (off := 101) dX12_count_8 (by rw [c_8_7]; decide) (by rw [c_8_7]; decide) (by rw [c_8_7]; rfl) (by decide) ?_
                  refine ev_aload_n dX12_count_109 rfl rfl ?_
                  refine mo_getiE (v := (S.1 24 0)) hE hT dX12_count_110 fX12_202 (by decide) (by simp [sp_bad_ne, mo_up]) ?_
                  have e9 : sp_count S x1 = (S.1 24 0) := by unfold sp_count; rw [if_neg c_8_0, if_neg c_8_1, if_neg c_8_2, if_neg c_8_3, if_neg c_8_4, if_neg c_8_5, if_neg c_8_6, if_pos c_8_7]
                  exact ev_iret dX12_count_113 rfl rfl ⟨_, _, rfl, ⟨by rw [e9], rfl⟩, hT⟩
                · by_cases c_8_8 : x1 = 8
                  · refine ev_tableIn (tgt := 114) (off := 106) dX12_count_8 (by rw [c_8_8]; decide) (by rw [c_8_8]; decide) (by rw [c_8_8]; rfl) (by decide) ?_
                    refine ev_aload_n dX12_count_114 rfl rfl ?_
                    refine mo_getiE (v := (S.1 62 0)) hE hT dX12_count_115 fX12_446 (by decide) (by simp [sp_bad_ne, mo_up]) ?_
                    have e9 : sp_count S x1 = (S.1 62 0) := by unfold sp_count; rw [if_neg c_8_0, if_neg c_8_1, if_neg c_8_2, if_neg c_8_3, if_neg c_8_4, if_neg c_8_5, if_neg c_8_6, if_neg c_8_7, if_pos c_8_8]
                    exact ev_iret dX12_count_118 rfl rfl ⟨_, _, rfl, ⟨by rw [e9], rfl⟩, hT⟩
                  · by_cases c_8_9 : x1 = 9
                    · refine ev_tableIn (tgt := 119) (off := 111) dX12_count_8 (by rw [c_8_9]; decide) (by rw [c_8_9]; decide) (by rw [c_8_9]; rfl) (by decide) ?_
                      refine ev_aload_n dX12_count_119 rfl rfl ?_
                      refine mo_getiE (v := (S.1 73 0)) hE hT dX12_count_120 fX12_505 (by decide) (by simp [sp_bad_ne, mo_up]) ?_
                      have e9 : sp_count S x1 = (S.1 73 0) := by unfold sp_count; rw [if_neg c_8_0, if_neg c_8_1, if_neg c_8_2, if_neg c_8_3, if_neg c_8_4, if_neg c_8_5, if_neg c_8_6, if_neg c_8_7, if_neg c_8_8, if_pos c_8_9]
                      exact ev_iret dX12_count_123 rfl rfl ⟨_, _, rfl, ⟨by rw [e9], rfl⟩, hT⟩
                    · by_cases c_8_10 : x1 = 10
                      · refine ev_tableIn (tgt := 124) (off := 116) dX12_count_8 (by rw [c_8_10]; decide) (by rw [c_8_10]; decide) (by rw [c_8_10]; rfl) (by decide) ?_
                        refine ev_aload_n dX12_count_124 rfl rfl ?_
                        refine mo_getiE (v := (S.1 28 0)) hE hT dX12_count_125 fX12_209 (by decide) (by simp [sp_bad_ne, mo_up]) ?_
                        have e9 : sp_count S x1 = (S.1 28 0) := by unfold sp_count; rw [if_neg c_8_0, if_neg c_8_1, if_neg c_8_2, if_neg c_8_3, if_neg c_8_4, if_neg c_8_5, if_neg c_8_6, if_neg c_8_7, if_neg c_8_8, if_neg c_8_9, if_pos c_8_10]
                        exact ev_iret dX12_count_128 rfl rfl ⟨_, _, rfl, ⟨by rw [e9], rfl⟩, hT⟩
                      · by_cases c_8_11 : x1 = 11
                        · refine ev_tableIn (tgt := 129) (off := 121) dX12_count_8 (by rw [c_8_11]; decide) (by rw [c_8_11]; decide) (by rw [c_8_11]; rfl) (by decide) ?_
                          refine ev_iconst (v := (nI 0)) dX12_count_129 (by decide) ?_
                          refine ev_istore_n dX12_count_130 rfl (Nat.le_of_ble_eq_true rfl) rfl ?_
                          have hR2 := h.R.2
                          have loop : ∀ (n i : Nat), i ≤ (sp_R S) → (sp_R S) < i + n → ∀ (z : Int32), z = sp_stol S i → ∀ g, mo_T G W g0 g (mo_up S 0 0 0) → ev_V G d 0 0 mX12_count (fun o g' => ∃ r S2, o = .inl r ∧ (r = some (.int (sp_count S x1)) ∧ S2 = (mo_up S 0 0 0)) ∧ mo_T G W g0 g' S2) g 131 [some (.ref W.1), some (.int x1), some (.int z), some (.int (nI i))] [] := by
                            intro n
                            induction n with
                            | zero => intro i h1 h2; exact absurd h2 (by omega)
                            | succ n ih =>
                              intro i h1 h2 z hx g hT
                              refine ev_iload_n dX12_count_131 rfl rfl ?_
                              refine ev_aload_n dX12_count_132 rfl rfl ?_
                              refine mo_geti hE hT dX12_count_133 fX12_196 (by decide) ?_
                              refine ev_icmp_ge (tgt := 164) dX12_count_136 (by decide) (fun c_136 => ?_) (fun c_136 => ?_)
                              · have e : i = sp_R S := by have q := mo_ige h.R.1 (by omega) (by omega) c_136; omega
                                subst e
                                have e9 : sp_count S x1 = sp_stol S (sp_R S) := by unfold sp_count; rw [if_neg c_8_0, if_neg c_8_1, if_neg c_8_2, if_neg c_8_3, if_neg c_8_4, if_neg c_8_5, if_neg c_8_6, if_neg c_8_7, if_neg c_8_8, if_neg c_8_9, if_neg c_8_10, if_pos c_8_11]
                                refine ev_iload_n dX12_count_164 rfl rfl ?_
                                exact ev_iret dX12_count_165 rfl rfl ⟨_, _, rfl, ⟨by rw [e9, hx], rfl⟩, hT⟩
                              · have hlt : i < sp_R S := mo_ilt h.R.1 (by omega) (by omega) c_136
                                refine ev_iload_n dX12_count_139 rfl rfl ?_
                                refine ev_aload_n dX12_count_140 rfl rfl ?_
                                refine mo_geta hE hT dX12_count_141 fX12_67 (by decide) ?_
                                refine ev_iload_n dX12_count_144 rfl rfl ?_
                                refine mo_iald (q := i) hE hT dX12_count_145 (by decide) rfl (show _ < 80 from (by omega)) ?_
                                refine ev_bipush (v := (-2)) dX12_count_146 (by decide) ?_
                                have K_156 : ∀ (g : ev_H) (hT : mo_T G W g0 g (mo_up S 0 0 0)), ∀ x9 : Int32, x9 = (mo_b (if ((mo_up S 0 0 0).1 23 i) = (-2) then true else false)) → ev_V G d 0 0 mX12_count (fun o g' => ∃ r S2, o = .inl r ∧ (r = some (.int (sp_count S x1)) ∧ S2 = (mo_up S 0 0 0)) ∧ mo_T G W g0 g' S2) g 156 [some (.ref W.1), some (.int x1), some (.int z), some (.int (nI i))] (.int x9 :: .int z :: []) := by
                                  intro g hT x9 h9
                                  subst h9
                                  refine ev_iadd dX12_count_156 ?_
                                  refine ev_istore_n dX12_count_157 rfl (Nat.le_of_ble_eq_true rfl) rfl ?_
                                  refine ev_iinc (v := (nI (i + 1))) dX12_count_158 rfl (by exact nI_1 i) rfl ?_
                                  refine ev_goto (tgt := 131) dX12_count_161 (by decide) ?_
                                  exact ih (i + 1) (by omega) (by omega) _ (by rw [hx, sp_stol, mo_up_ne (by decide)]; by_cases e : S.1 23 i = -2 <;> simp [e, mo_b]) g hT
                                refine ev_icmp_ne (tgt := 155) dX12_count_148 (by decide) (fun c_148 => ?_) (fun c_148 => ?_)
                                · refine ev_iconst (v := 0) dX12_count_155 (by decide) ?_
                                  exact K_156 g hT _ (by rw [if_neg c_148]; rfl)
                                · refine ev_iconst (v := 1) dX12_count_151 (by decide) ?_
                                  refine ev_goto (tgt := 156) dX12_count_152 (by decide) ?_
                                  exact K_156 g hT _ (by rw [if_pos c_148]; rfl)
                          exact loop ((sp_R S) + 1) 0 (by omega) (by omega) 0 rfl g hT
                        · refine ev_tableOut (tgt := 166) dX12_count_8 (by have h0 : (x1).toInt ≠ 0 := fun q => c_8_0 (Int32.toInt_inj.mp (by rw [q]; rfl)); have h1 : (x1).toInt ≠ 1 := fun q => c_8_1 (Int32.toInt_inj.mp (by rw [q]; rfl)); have h2 : (x1).toInt ≠ 2 := fun q => c_8_2 (Int32.toInt_inj.mp (by rw [q]; rfl)); have h3 : (x1).toInt ≠ 3 := fun q => c_8_3 (Int32.toInt_inj.mp (by rw [q]; rfl)); have h4 : (x1).toInt ≠ 4 := fun q => c_8_4 (Int32.toInt_inj.mp (by rw [q]; rfl)); have h5 : (x1).toInt ≠ 5 := fun q => c_8_5 (Int32.toInt_inj.mp (by rw [q]; rfl)); have h6 : (x1).toInt ≠ 6 := fun q => c_8_6 (Int32.toInt_inj.mp (by rw [q]; rfl)); have h7 : (x1).toInt ≠ 7 := fun q => c_8_7 (Int32.toInt_inj.mp (by rw [q]; rfl)); have h8 : (x1).toInt ≠ 8 := fun q => c_8_8 (Int32.toInt_inj.mp (by rw [q]; rfl)); have h9 : (x1).toInt ≠ 9 := fun q => c_8_9 (Int32.toInt_inj.mp (by rw [q]; rfl)); have h10 : (x1).toInt ≠ 10 := fun q => c_8_10 (Int32.toInt_inj.mp (by rw [q]; rfl)); have h11 : (x1).toInt ≠ 11 := fun q => c_8_11 (Int32.toInt_inj.mp (by rw [q]; rfl)); omega) (by decide) ?_
                          refine ev_iconst (v := (-1)) dX12_count_166 (by decide) ?_
                          have e9 : sp_count S x1 = (-1) := by unfold sp_count; rw [if_neg c_8_0, if_neg c_8_1, if_neg c_8_2, if_neg c_8_3, if_neg c_8_4, if_neg c_8_5, if_neg c_8_6, if_neg c_8_7, if_neg c_8_8, if_neg c_8_9, if_neg c_8_10, if_neg c_8_11]
                          exact ev_iret dX12_count_167 rfl rfl ⟨_, _, rfl, ⟨by rw [e9], rfl⟩, hT⟩
theorem c_X12_row {G : ev_G} {W : mo_W} {d : Nat} {S : mo_S} {F : mo_Fn} {x1 x2 x3 x4 : Int32} (hE : ev_En G) (h : mo_J S F) (hd : 9 ≤ d) : mo_Cr G W d mX12_row [.int x1, .int x2, .int x3, .int x4] S (fun r S2 => (r = some (.int 0) ∧ ∃ k : Int32, ((k = 1 ∧ sp_in x1 0 (S.1 1 0 - 1) = false) ∨ (k = 2 ∧ sp_in x1 0 (S.1 1 0 - 1) = true ∧ sp_in x3 0 3 = false)) ∧ S2 = mo_up S 0 0 k) ∨ (sp_in x1 0 (S.1 1 0 - 1) = true ∧ sp_in x3 0 3 = true ∧ (∃ p, x1 = nI p ∧ p < sp_P S ∧ S2 = (mo_up S 0 0 0) ∧ r = some (.int (sp_row (mo_up S 0 0 0) p x2 x3 x4))))) := by
  refine mo_startr (lv0 := [some (.ref W.1), some (.int x1), some (.int x2), some (.int x3), some (.int x4), none, none]) (by decide +kernel) rfl (Nat.le_of_ble_eq_true rfl) rfl ?_
  intro g0 g hT
  refine ev_aload_n dX12_row_0 rfl rfl ?_
  refine ev_iload_n dX12_row_1 rfl rfl ?_
  refine mo_call1 (d' := d - 1) hE hT dX12_row_2 rfl rfl kX12_isPaper lX12_188 iX12_isPaper vX12_isPaper (Nat.le_of_ble_eq_true rfl) (by omega) (c_X12_isPaper hE (by omega)) (fun g hT => ?_)
  refine ev_if_eq (tgt := 30) dX12_row_5 (by decide) (fun c_5 => ?_) (fun c_5 => ?_)
  · refine ev_iconst (v := 0) dX12_row_30 (by decide) ?_
    refine ev_iret dX12_row_31 rfl rfl ⟨_, _, rfl, Or.inl ⟨rfl, ?_⟩, hT⟩
    clear hT
    first
      | (cases hq0 : sp_in x1 0 (S.1 1 0 - 1) <;> cases hq1 : sp_in x3 0 3 <;> first | (exfalso; simp_all [mo_b]; done) | (refine ⟨1, Or.inl ⟨rfl, rfl⟩, ?_⟩; simp_all [mo_b, sp_bad, mo_up_tw]; done))
      | (cases hq0 : sp_in x1 0 (S.1 1 0 - 1) <;> cases hq1 : sp_in x3 0 3 <;> first | (exfalso; simp_all [mo_b]; done) | (refine ⟨2, Or.inr (⟨rfl, rfl, rfl⟩), ?_⟩; simp_all [mo_b, sp_bad, mo_up_tw]; done))
  · refine ev_aload_n dX12_row_8 rfl rfl ?_
    refine ev_iload_n dX12_row_9 rfl rfl ?_
    refine ev_iconst (v := 0) dX12_row_10 (by decide) ?_
    refine ev_iconst (v := 3) dX12_row_11 (by decide) ?_
    refine ev_pS3 (d' := d - 1) dX12_row_12 rfl kX12_in lX12_176 sX12_in (Nat.le_of_ble_eq_true rfl) (by omega) (c_X12_in) ?_
    have K_23 : ∀ (g : ev_H) (hT : mo_T G W g0 g (mo_up S 0 0 (mo_b (!sp_in x1 0 (S.1 1 0 - 1))))), ∀ x9 : Int32, x9 = (mo_b (if (mo_b (sp_in x3 0 3)) = 0 then true else false)) → ev_V G d 0 0 mX12_row (fun o g' => ∃ r S2, o = .inl r ∧ ((r = some (.int 0) ∧ ∃ k : Int32, ((k = 1 ∧ sp_in x1 0 (S.1 1 0 - 1) = false) ∨ (k = 2 ∧ sp_in x1 0 (S.1 1 0 - 1) = true ∧ sp_in x3 0 3 = false)) ∧ S2 = mo_up S 0 0 k) ∨ (sp_in x1 0 (S.1 1 0 - 1) = true ∧ sp_in x3 0 3 = true ∧ (∃ p, x1 = nI p ∧ p < sp_P S ∧ S2 = (mo_up S 0 0 0) ∧ r = some (.int (sp_row (mo_up S 0 0 0) p x2 x3 x4))))) ∧ mo_T G W g0 g' S2) g 23 [some (.ref W.1), some (.int x1), some (.int x2), some (.int x3), some (.int x4), none, none] (.int x9 :: .ref W.1 :: []) := by
      intro g hT x9 h9
      subst h9
      refine ev_iconst (v := 2) dX12_row_23 (by decide) ?_
      refine mo_call2 (d' := d - 1) hE hT dX12_row_24 rfl rfl kX12_bad lX12_181 iX12_bad vX12_bad (Nat.le_of_ble_eq_true rfl) (by omega) (c_X12_bad hE) (fun g hT => ?_)
      refine ev_if_eq (tgt := 32) dX12_row_27 (by decide) (fun c_27 => ?_) (fun c_27 => ?_)
      · have q0 : sp_in x1 0 (S.1 1 0 - 1) = true := by clear hT; cases hq0 : sp_in x1 0 (S.1 1 0 - 1) <;> cases hq1 : sp_in x3 0 3 <;> first | rfl | (exfalso; simp_all [mo_b]; done)
        have q1 : sp_in x3 0 3 = true := by clear hT; cases hq0 : sp_in x1 0 (S.1 1 0 - 1) <;> cases hq1 : sp_in x3 0 3 <;> first | rfl | (exfalso; simp_all [mo_b]; done)
        rw [show (sp_bad (if (mo_b (sp_in x3 0 3)) = 0 then true else false) 2 (mo_up S 0 0 (mo_b (!sp_in x1 0 (S.1 1 0 - 1))))) = mo_up S 0 0 0 from by simp only [q0, q1]; first | rfl | simp_all [mo_b, sp_bad, mo_up_tw]] at hT
        obtain ⟨p, hp, ep⟩ := mo_vinE (N := 12) h.P.1 h.P.2 (by decide) q0
        refine ev_lvE (lv2 := [some (.ref W.1), some (.int (nI p)), some (.int x2), some (.int x3), some (.int x4), none, none]) (by rw [ep]) ?_
        have hP2 := h.P.2
        refine ev_aload_n dX12_row_32 rfl rfl ?_
        refine ev_iload_n dX12_row_33 rfl rfl ?_
        refine ev_iload_n dX12_row_34 rfl rfl ?_
        refine mo_call2 (d' := d - 1) hE hT dX12_row_35 rfl rfl kX12_isRow lX12_502 iX12_isRow vX12_isRow (Nat.le_of_ble_eq_true rfl) (by omega) (c_X12_isRow hE (by omega) (m := sp_M S) (by simpa [mo_up] using h.M.1) h.M.2 (a := p) rfl (by omega)) (fun g hT => ?_)
        refine ev_if_eq (tgt := 47) dX12_row_38 (by decide) (fun c_38 => ?_) (fun c_38 => ?_)
        · refine ev_ldcw dX12_row_47 nX12_470 ?_
          refine ev_iret dX12_row_50 rfl rfl ⟨_, _, rfl, Or.inr ⟨q0, q1, p, ep, hp, rfl, ?_⟩, hT⟩
          unfold sp_row
          first
            | rw [if_pos (mo_b_0 c_38)]
            | rw [if_neg (by rw [mo_b_1 c_38]; decide), if_pos (Int32.not_lt.mp c_44)]
        · refine ev_iload dX12_row_41 rfl ?_
          refine ev_iload_n dX12_row_43 rfl rfl ?_
          refine ev_icmp_gt (tgt := 51) dX12_row_44 (by decide) (fun c_44 => ?_) (fun c_44 => ?_)
          · have hrow : sp_X12_isRow (mo_up S 0 0 0) (nI p) x2 = true := mo_b_1 c_38
            have hm0 : sp_in x2 0 (S.1 2 0 - 1) = true := by
              cases hq : sp_in x2 0 (S.1 2 0 - 1) with
              | true => rfl
              | false =>
                unfold sp_X12_isRow at hrow
                rw [show (mo_up S 0 0 0).1 2 0 = S.1 2 0 from by rw [mo_up_ne (by decide)], hq] at hrow
                simp [mo_b] at hrow
            obtain ⟨m, hm, em⟩ := mo_vinE (N := 600) h.M.1 h.M.2 (by decide) hm0
            have hM2 := h.M.2
            have hZ2 := h.Z.2
            have hv0 : 0 ≤ x3 ∧ x3 ≤ 3 := by simpa [sp_in] using q1
            obtain ⟨v, hv, ev⟩ := nI_of (x := x3) (Int32.not_lt.mpr hv0.1)
            have hv2 : v ≤ 3 := by
              have q := hv0.2
              rw [ev] at q
              exact (nI_leI hv (by decide)).mp q
            have eix : 4 * (12 * x2 + nI p) + x3 = nI (4 * (12 * m + p) + v) := by
              rw [em, ev, show (12 : Int32) * nI m + nI p = nI (12 * m + p) from mo_l2 12 m p]
              exact mo_l2 4 (12 * m + p) v
            have ecl : x2.toNatClampNeg = m ∧ x3.toNatClampNeg = v := ⟨by rw [em]; exact nI_clamp (by omega), by rw [ev]; exact nI_clamp (by omega)⟩
            refine ev_aload_n dX12_row_51 rfl rfl ?_
            refine mo_geta hE hT dX12_row_52 fX12_121 (by decide) ?_
            refine ev_iconst (v := 4) dX12_row_55 (by decide) ?_
            refine ev_bipush (v := 12) dX12_row_56 (by decide) ?_
            refine ev_iload_n dX12_row_58 rfl rfl ?_
            refine ev_imul dX12_row_59 ?_
            refine ev_iload_n dX12_row_60 rfl rfl ?_
            refine ev_iadd dX12_row_61 ?_
            refine ev_imul dX12_row_62 ?_
            refine ev_iload_n dX12_row_63 rfl rfl ?_
            refine ev_iadd dX12_row_64 ?_
            refine mo_ialdQ (q := (4 * (12 * m + p) + v)) (v := (S.1 55 (4 * (12 * m + p) + v))) hE hT dX12_row_65 (by decide) eix (show _ < 28800 from (by omega)) (by simp [sp_bad_ne, mo_up]) ?_
            refine ev_istore dX12_row_66 (Nat.le_of_ble_eq_true rfl) rfl ?_
            refine ev_iconst (v := (nI 0)) dX12_row_68 (by decide) ?_
            refine ev_istore dX12_row_69 (Nat.le_of_ble_eq_true rfl) rfl ?_
            have loop : ∀ (n i : Nat), i ≤ (sp_Z S) → (sp_Z S) < i + n → ∀ (z : Int32), z = sp_anew (mo_up S 0 0 0) p x2 x3 x4 (S.1 55 (4 * (12 * m + p) + v)) i → ∀ g, mo_T G W g0 g (mo_up S 0 0 0) → ev_V G d 0 0 mX12_row (fun o g' => ∃ r S2, o = .inl r ∧ ((r = some (.int 0) ∧ ∃ k : Int32, ((k = 1 ∧ sp_in x1 0 (S.1 1 0 - 1) = false) ∨ (k = 2 ∧ sp_in x1 0 (S.1 1 0 - 1) = true ∧ sp_in x3 0 3 = false)) ∧ S2 = mo_up S 0 0 k) ∨ (sp_in x1 0 (S.1 1 0 - 1) = true ∧ sp_in x3 0 3 = true ∧ (∃ p, x1 = nI p ∧ p < sp_P S ∧ S2 = (mo_up S 0 0 0) ∧ r = some (.int (sp_row (mo_up S 0 0 0) p x2 x3 x4))))) ∧ mo_T G W g0 g' S2) g 71 [some (.ref W.1), some (.int (nI p)), some (.int x2), some (.int x3), some (.int x4), some (.int z), some (.int (nI i))] [] := by
              intro n
              induction n with
              | zero => intro i h1 h2; exact absurd h2 (by omega)
              | succ n ih =>
                intro i h1 h2 z hx g hT
                refine ev_iload dX12_row_71 rfl ?_
                refine ev_aload_n dX12_row_73 rfl rfl ?_
                refine mo_geti hE hT dX12_row_74 fX12_505 (by decide) ?_
                refine ev_icmp_ge (tgt := 134) dX12_row_77 (by decide) (fun c_77 => ?_) (fun c_77 => ?_)
                · have e : z = sp_anew (mo_up S 0 0 0) p x2 x3 x4 (S.1 55 (4 * (12 * m + p) + v)) (sp_Z S) := by
                    first
                      | (have q := mo_ige h.Z.1 (by omega) (by omega) c_77; rw [hx, show i = sp_Z S by omega])
                      | (rw [hx, sp_anew_no c_82, sp_anew_no c_82])
                  refine ev_iload dX12_row_134 rfl ?_
                  refine ev_iret dX12_row_136 rfl rfl ⟨_, _, rfl, Or.inr ⟨q0, q1, p, ep, hp, rfl, ?_⟩, hT⟩
                  unfold sp_row
                  rw [if_neg (by rw [hrow]; decide), if_neg (Int32.not_le.mpr c_44), ecl.1, ecl.2, e]
                  rfl
                · refine ev_iload_n dX12_row_80 rfl rfl ?_
                  refine ev_iconst (v := 1) dX12_row_81 (by decide) ?_
                  refine ev_icmp_ne (tgt := 134) dX12_row_82 (by decide) (fun c_82 => ?_) (fun c_82 => ?_)
                  · have e : z = sp_anew (mo_up S 0 0 0) p x2 x3 x4 (S.1 55 (4 * (12 * m + p) + v)) (sp_Z S) := by
                      first
                        | (have q := mo_ige h.Z.1 (by omega) (by omega) c_77; rw [hx, show i = sp_Z S by omega])
                        | (rw [hx, sp_anew_no c_82, sp_anew_no c_82])
                    refine ev_iload dX12_row_134 rfl ?_
                    refine ev_iret dX12_row_136 rfl rfl ⟨_, _, rfl, Or.inr ⟨q0, q1, p, ep, hp, rfl, ?_⟩, hT⟩
                    unfold sp_row
                    rw [if_neg (by rw [hrow]; decide), if_neg (Int32.not_le.mpr c_44), ecl.1, ecl.2, e]
                    rfl
                  · have hlt : i < sp_Z S := mo_ilt h.Z.1 (by omega) (by omega) c_77
                    refine ev_aload_n dX12_row_85 rfl rfl ?_
                    refine mo_geta hE hT dX12_row_86 fX12_161 (by decide) ?_
                    refine ev_iload dX12_row_89 rfl ?_
                    refine mo_iald (q := i) hE hT dX12_row_91 (by decide) rfl (show _ < 60 from (by omega)) ?_
                    refine ev_iload_n dX12_row_92 rfl rfl ?_
                    refine ev_icmp_ne (tgt := 128) dX12_row_93 (by decide) (fun c_93 => ?_) (fun c_93 => ?_)
                    · refine ev_iinc (v := (nI (i + 1))) dX12_row_128 rfl (by exact nI_1 i) rfl ?_
                      refine ev_goto (tgt := 71) dX12_row_131 (by decide) ?_
                      have hlt : i < sp_Z S := mo_ilt h.Z.1 (by omega) (by omega) c_77
                      have e7 : ∀ y, y = sp_anew (mo_up S 0 0 0) p x2 x3 x4 (S.1 55 (4 * (12 * m + p) + v)) (i + 1) → ev_V G d 0 0 mX12_row _ g 71 [some (.ref W.1), some (.int (nI p)), some (.int x2), some (.int x3), some (.int x4), some (.int y), some (.int (nI (i + 1)))] [] := fun y hy => ih (i + 1) (by omega) (by omega) y hy g hT
                      refine e7 _ ?_
                      rw [sp_anew]
                      first
                        | (rw [if_pos ⟨c_82, c_93, c_104, Int32.not_lt.mp c_116⟩]; done)
                        | (rw [if_neg (fun q => c_93 q.2.1)]; exact hx)
                        | (rw [if_neg (fun q => c_104 q.2.2.1)]; exact hx)
                        | (rw [if_neg (fun q => absurd q.2.2.2 (Int32.not_le.mpr c_116))]; exact hx)
                    · refine ev_aload_n dX12_row_96 rfl rfl ?_
                      refine mo_geta hE hT dX12_row_97 fX12_164 (by decide) ?_
                      refine ev_iload dX12_row_100 rfl ?_
                      refine mo_iald (q := i) hE hT dX12_row_102 (by decide) rfl (show _ < 60 from (by omega)) ?_
                      refine ev_iload_n dX12_row_103 rfl rfl ?_
                      refine ev_icmp_ne (tgt := 128) dX12_row_104 (by decide) (fun c_104 => ?_) (fun c_104 => ?_)
                      · refine ev_iinc (v := (nI (i + 1))) dX12_row_128 rfl (by exact nI_1 i) rfl ?_
                        refine ev_goto (tgt := 71) dX12_row_131 (by decide) ?_
                        have hlt : i < sp_Z S := mo_ilt h.Z.1 (by omega) (by omega) c_77
                        have e7 : ∀ y, y = sp_anew (mo_up S 0 0 0) p x2 x3 x4 (S.1 55 (4 * (12 * m + p) + v)) (i + 1) → ev_V G d 0 0 mX12_row _ g 71 [some (.ref W.1), some (.int (nI p)), some (.int x2), some (.int x3), some (.int x4), some (.int y), some (.int (nI (i + 1)))] [] := fun y hy => ih (i + 1) (by omega) (by omega) y hy g hT
                        refine e7 _ ?_
                        rw [sp_anew]
                        first
                          | (rw [if_pos ⟨c_82, c_93, c_104, Int32.not_lt.mp c_116⟩]; done)
                          | (rw [if_neg (fun q => c_93 q.2.1)]; exact hx)
                          | (rw [if_neg (fun q => c_104 q.2.2.1)]; exact hx)
                          | (rw [if_neg (fun q => absurd q.2.2.2 (Int32.not_le.mpr c_116))]; exact hx)
                      · refine ev_aload_n dX12_row_107 rfl rfl ?_
                        refine mo_geta hE hT dX12_row_108 fX12_170 (by decide) ?_
                        refine ev_iload dX12_row_111 rfl ?_
                        refine mo_iald (q := i) hE hT dX12_row_113 (by decide) rfl (show _ < 60 from (by omega)) ?_
                        refine ev_iload dX12_row_114 rfl ?_
                        refine ev_icmp_gt (tgt := 128) dX12_row_116 (by decide) (fun c_116 => ?_) (fun c_116 => ?_)
                        · refine ev_iinc (v := (nI (i + 1))) dX12_row_128 rfl (by exact nI_1 i) rfl ?_
                          refine ev_goto (tgt := 71) dX12_row_131 (by decide) ?_
                          have hlt : i < sp_Z S := mo_ilt h.Z.1 (by omega) (by omega) c_77
                          have e7 : ∀ y, y = sp_anew (mo_up S 0 0 0) p x2 x3 x4 (S.1 55 (4 * (12 * m + p) + v)) (i + 1) → ev_V G d 0 0 mX12_row _ g 71 [some (.ref W.1), some (.int (nI p)), some (.int x2), some (.int x3), some (.int x4), some (.int y), some (.int (nI (i + 1)))] [] := fun y hy => ih (i + 1) (by omega) (by omega) y hy g hT
                          refine e7 _ ?_
                          rw [sp_anew]
                          first
                            | (rw [if_pos ⟨c_82, c_93, c_104, Int32.not_lt.mp c_116⟩]; done)
                            | (rw [if_neg (fun q => c_93 q.2.1)]; exact hx)
                            | (rw [if_neg (fun q => c_104 q.2.2.1)]; exact hx)
                            | (rw [if_neg (fun q => absurd q.2.2.2 (Int32.not_le.mpr c_116))]; exact hx)
                        · refine ev_aload_n dX12_row_119 rfl rfl ?_
                          refine mo_geta hE hT dX12_row_120 fX12_167 (by decide) ?_
                          refine ev_iload dX12_row_123 rfl ?_
                          refine mo_iald (q := i) hE hT dX12_row_125 (by decide) rfl (show _ < 60 from (by omega)) ?_
                          refine ev_istore dX12_row_126 (Nat.le_of_ble_eq_true rfl) rfl ?_
                          refine ev_iinc (v := (nI (i + 1))) dX12_row_128 rfl (by exact nI_1 i) rfl ?_
                          refine ev_goto (tgt := 71) dX12_row_131 (by decide) ?_
                          have hlt : i < sp_Z S := mo_ilt h.Z.1 (by omega) (by omega) c_77
                          have e7 : ∀ y, y = sp_anew (mo_up S 0 0 0) p x2 x3 x4 (S.1 55 (4 * (12 * m + p) + v)) (i + 1) → ev_V G d 0 0 mX12_row _ g 71 [some (.ref W.1), some (.int (nI p)), some (.int x2), some (.int x3), some (.int x4), some (.int y), some (.int (nI (i + 1)))] [] := fun y hy => ih (i + 1) (by omega) (by omega) y hy g hT
                          refine e7 _ ?_
                          rw [sp_anew]
                          first
                            | (rw [if_pos ⟨c_82, c_93, c_104, Int32.not_lt.mp c_116⟩]; done)
                            | (rw [if_neg (fun q => c_93 q.2.1)]; exact hx)
                            | (rw [if_neg (fun q => c_104 q.2.2.1)]; exact hx)
                            | (rw [if_neg (fun q => absurd q.2.2.2 (Int32.not_le.mpr c_116))]; exact hx)
            exact loop ((sp_Z S) + 1) 0 (by omega) (by omega) _ rfl g hT
          · refine ev_ldcw dX12_row_47 nX12_470 ?_
            refine ev_iret dX12_row_50 rfl rfl ⟨_, _, rfl, Or.inr ⟨q0, q1, p, ep, hp, rfl, ?_⟩, hT⟩
            unfold sp_row
            first
              | rw [if_pos (mo_b_0 c_38)]
              | rw [if_neg (by rw [mo_b_1 c_38]; decide), if_pos (Int32.not_lt.mp c_44)]
      · refine ev_iconst (v := 0) dX12_row_30 (by decide) ?_
        refine ev_iret dX12_row_31 rfl rfl ⟨_, _, rfl, Or.inl ⟨rfl, ?_⟩, hT⟩
        clear hT
        first
          | (cases hq0 : sp_in x1 0 (S.1 1 0 - 1) <;> cases hq1 : sp_in x3 0 3 <;> first | (exfalso; simp_all [mo_b]; done) | (refine ⟨1, Or.inl ⟨rfl, rfl⟩, ?_⟩; simp_all [mo_b, sp_bad, mo_up_tw]; done))
          | (cases hq0 : sp_in x1 0 (S.1 1 0 - 1) <;> cases hq1 : sp_in x3 0 3 <;> first | (exfalso; simp_all [mo_b]; done) | (refine ⟨2, Or.inr (⟨rfl, rfl, rfl⟩), ?_⟩; simp_all [mo_b, sp_bad, mo_up_tw]; done))
    refine ev_if_ne (tgt := 22) dX12_row_15 (by decide) (fun c_15 => ?_) (fun c_15 => ?_)
    · refine ev_iconst (v := 0) dX12_row_22 (by decide) ?_
      exact K_23 g hT _ (by rw [if_neg c_15]; rfl)
    · refine ev_iconst (v := 1) dX12_row_18 (by decide) ?_
      refine ev_goto (tgt := 23) dX12_row_19 (by decide) ?_
      exact K_23 g hT _ (by rw [if_pos c_15]; rfl)
theorem c_X12_alike {G : ev_G} {W : mo_W} {d : Nat} {S : mo_S} {F : mo_Fn} {x1 : Int32} (hE : ev_En G) (h : mo_J S F) (hd : 9 ≤ d) : mo_Cr G W d mX12_alike [.int x1] S (fun r S2 => (r = some (.int 0) ∧ ∃ k : Int32, ((k = 1 ∧ sp_X12_isAppeal (mo_up S 0 0 0) x1 = false)) ∧ S2 = mo_up S 0 0 k) ∨ (sp_X12_isAppeal (mo_up S 0 0 0) x1 = true ∧ (∃ a, x1 = nI a ∧ a < sp_A S ∧ S2 = (mo_up S 0 0 0) ∧ r = some (.int (sp_opt (sp_near (mo_up S 0 0 0) a a)))))) := by
  refine mo_startr (lv0 := [some (.ref W.1), some (.int x1), none, none]) (by decide +kernel) rfl (Nat.le_of_ble_eq_true rfl) rfl ?_
  intro g0 g hT
  refine ev_aload_n dX12_alike_0 rfl rfl ?_
  refine ev_iconst (v := 0) dX12_alike_1 (by decide) ?_
  refine mo_put hE hT dX12_alike_2 pX12_173 (by decide) (fun g hT => ?_)
  refine ev_aload_n dX12_alike_5 rfl rfl ?_
  refine ev_aload_n dX12_alike_6 rfl rfl ?_
  refine ev_iload_n dX12_alike_7 rfl rfl ?_
  refine mo_call1 (d' := d - 1) hE hT dX12_alike_8 rfl rfl kX12_isAppeal lX12_480 iX12_isAppeal vX12_isAppeal (Nat.le_of_ble_eq_true rfl) (by omega) (c_X12_isAppeal hE (by omega)) (fun g hT => ?_)
  have K_19 : ∀ (g : ev_H) (hT : mo_T G W g0 g (mo_up S 0 0 0)), ∀ x9 : Int32, x9 = (mo_b (if (mo_b (sp_X12_isAppeal (mo_up S 0 0 0) x1)) = 0 then true else false)) → ev_V G d 0 0 mX12_alike (fun o g' => ∃ r S2, o = .inl r ∧ ((r = some (.int 0) ∧ ∃ k : Int32, ((k = 1 ∧ sp_X12_isAppeal (mo_up S 0 0 0) x1 = false)) ∧ S2 = mo_up S 0 0 k) ∨ (sp_X12_isAppeal (mo_up S 0 0 0) x1 = true ∧ (∃ a, x1 = nI a ∧ a < sp_A S ∧ S2 = (mo_up S 0 0 0) ∧ r = some (.int (sp_opt (sp_near (mo_up S 0 0 0) a a)))))) ∧ mo_T G W g0 g' S2) g 19 [some (.ref W.1), some (.int x1), none, none] (.int x9 :: .ref W.1 :: []) := by
    intro g hT x9 h9
    subst h9
    refine ev_iconst (v := 1) dX12_alike_19 (by decide) ?_
    refine mo_call2 (d' := d - 1) hE hT dX12_alike_20 rfl rfl kX12_bad lX12_181 iX12_bad vX12_bad (Nat.le_of_ble_eq_true rfl) (by omega) (c_X12_bad hE) (fun g hT => ?_)
    refine ev_if_eq (tgt := 28) dX12_alike_23 (by decide) (fun c_23 => ?_) (fun c_23 => ?_)
    · have q0 : sp_X12_isAppeal (mo_up S 0 0 0) x1 = true := by clear hT; cases hq0 : sp_X12_isAppeal (mo_up S 0 0 0) x1 <;> first | rfl | (exfalso; simp_all [mo_b]; done)
      rw [show (sp_bad (if (mo_b (sp_X12_isAppeal (mo_up S 0 0 0) x1)) = 0 then true else false) 1 (mo_up S 0 0 0)) = mo_up S 0 0 0 from by simp only [q0]; first | rfl | simp_all [mo_b, sp_bad, mo_up_tw]] at hT
      have hA2 := h.A.2
      obtain ⟨a, ha, ea⟩ := mo_vinE (N := 20) h.A.1 h.A.2 (by decide) (by simpa [sp_X12_isAppeal, mo_up] using q0)
      refine ev_lvE (lv2 := [some (.ref W.1), some (.int (nI a)), none, none]) (by rw [ea]) ?_
      refine ev_iconst (v := (-1)) dX12_alike_28 (by decide) ?_
      refine ev_istore_n dX12_alike_29 rfl (Nat.le_of_ble_eq_true rfl) rfl ?_
      refine ev_iconst (v := (nI 0)) dX12_alike_30 (by decide) ?_
      refine ev_istore_n dX12_alike_31 rfl (Nat.le_of_ble_eq_true rfl) rfl ?_
      have loop : ∀ (n i : Nat), i ≤ a → a < i + n → ∀ (u : Unit), u = () → ∀ g, mo_T G W g0 g (mo_up S 0 0 0) → ev_V G d 0 0 mX12_alike (fun o g' => ∃ r S2, o = .inl r ∧ ((r = some (.int 0) ∧ ∃ k : Int32, ((k = 1 ∧ sp_X12_isAppeal (mo_up S 0 0 0) x1 = false)) ∧ S2 = mo_up S 0 0 k) ∨ (sp_X12_isAppeal (mo_up S 0 0 0) x1 = true ∧ (∃ a, x1 = nI a ∧ a < sp_A S ∧ S2 = (mo_up S 0 0 0) ∧ r = some (.int (sp_opt (sp_near (mo_up S 0 0 0) a a)))))) ∧ mo_T G W g0 g' S2) g 32 [some (.ref W.1), some (.int (nI a)), some (.int (sp_opt (sp_near (mo_up S 0 0 0) a i))), some (.int (nI i))] [] := by
        intro n
        induction n with
        | zero => intro i h1 h2; exact absurd h2 (by omega)
        | succ n ih =>
          intro i h1 h2 u hx g hT
          refine ev_iload_n dX12_alike_32 rfl rfl ?_
          refine ev_iload_n dX12_alike_33 rfl rfl ?_
          refine ev_icmp_ge (tgt := 73) dX12_alike_34 (by decide) (fun c_34 => ?_) (fun c_34 => ?_)
          · have e : i = a := by have q := mo_ige rfl (by omega) (by omega) c_34; omega
            subst e
            refine ev_iload_n dX12_alike_73 rfl rfl ?_
            exact ev_iret dX12_alike_74 rfl rfl ⟨_, _, rfl, Or.inr ⟨q0, i, ea, ha, rfl, rfl⟩, hT⟩
          · have hlt : i < a := mo_ilt rfl (by omega) (by omega) c_34
            refine ev_aload_n dX12_alike_37 rfl rfl ?_
            refine mo_geta hE hT dX12_alike_38 fX12_158 (by decide) ?_
            refine ev_iload_n dX12_alike_41 rfl rfl ?_
            refine mo_iald (q := i) hE hT dX12_alike_42 (by decide) rfl (show _ < 20 from (by omega)) ?_
            refine ev_if_lt (tgt := 67) dX12_alike_43 (by decide) (fun c_43 => ?_) (fun c_43 => ?_)
            · refine ev_iinc (v := (nI (i + 1))) dX12_alike_67 rfl (by exact nI_1 i) rfl ?_
              refine ev_goto (tgt := 32) dX12_alike_70 (by decide) ?_
              have hlt : i < a := mo_ilt rfl (by omega) (by omega) c_34
              have e7 : ∀ y, y = sp_opt (sp_near (mo_up S 0 0 0) a (i + 1)) → ev_V G d 0 0 mX12_alike _ g 32 [some (.ref W.1), some (.int (nI a)), some (.int y), some (.int (nI (i + 1)))] [] := fun y hy => by subst hy; exact ih (i + 1) (by omega) (by omega) () rfl g hT
              refine e7 _ ?_
              rw [sp_near]
              first
                | (rw [if_pos c_43]; done)
                | (rw [if_neg c_43, hb]; show _ = sp_opt (if _ then _ else _); rw [if_neg (Int32.not_le.mpr c_62)]; rfl)
                | (rw [if_neg c_43, hb]; show _ = sp_opt (if _ then _ else _); rw [if_pos (Int32.not_lt.mp c_62)]; rfl)
                | (rw [if_neg c_43, (sp_opt_neg hl9).mp c_47]; rfl)
            · have hl9 : ∀ b, (sp_near (mo_up S 0 0 0) a i) = some b → b < 2147483648 := fun b q => by have := sp_near_lt q; omega
              refine ev_iload_n dX12_alike_46 rfl rfl ?_
              refine ev_if_lt (tgt := 65) dX12_alike_47 (by decide) (fun c_47 => ?_) (fun c_47 => ?_)
              · refine ev_iload_n dX12_alike_65 rfl rfl ?_
                refine ev_istore_n dX12_alike_66 rfl (Nat.le_of_ble_eq_true rfl) rfl ?_
                refine ev_iinc (v := (nI (i + 1))) dX12_alike_67 rfl (by exact nI_1 i) rfl ?_
                refine ev_goto (tgt := 32) dX12_alike_70 (by decide) ?_
                have hlt : i < a := mo_ilt rfl (by omega) (by omega) c_34
                have e7 : ∀ y, y = sp_opt (sp_near (mo_up S 0 0 0) a (i + 1)) → ev_V G d 0 0 mX12_alike _ g 32 [some (.ref W.1), some (.int (nI a)), some (.int y), some (.int (nI (i + 1)))] [] := fun y hy => by subst hy; exact ih (i + 1) (by omega) (by omega) () rfl g hT
                refine e7 _ ?_
                rw [sp_near]
                first
                  | (rw [if_pos c_43]; done)
                  | (rw [if_neg c_43, hb]; show _ = sp_opt (if _ then _ else _); rw [if_neg (Int32.not_le.mpr c_62)]; rfl)
                  | (rw [if_neg c_43, hb]; show _ = sp_opt (if _ then _ else _); rw [if_pos (Int32.not_lt.mp c_62)]; rfl)
                  | (rw [if_neg c_43, (sp_opt_neg hl9).mp c_47]; rfl)
              · obtain ⟨b, hb⟩ : ∃ b, (sp_near (mo_up S 0 0 0) a i) = some b := by
                  cases hq : (sp_near (mo_up S 0 0 0) a i) with
                  | none => exact absurd ((sp_opt_neg hl9).mpr hq) c_47
                  | some b => exact ⟨b, rfl⟩
                have hb2 := sp_near_lt hb
                rw [hb, show sp_opt (some b) = nI b from rfl]
                refine ev_aload_n dX12_alike_50 rfl rfl ?_
                refine ev_iload_n dX12_alike_51 rfl rfl ?_
                refine ev_iload_n dX12_alike_52 rfl rfl ?_
                refine mo_call2 (d' := d - 1) hE hT dX12_alike_53 rfl rfl kX12_apartOf lX12_483 iX12_apartOf vX12_apartOf (Nat.le_of_ble_eq_true rfl) (by omega) (c_X12_apartOf hE (by omega) (vp_in_nI (by omega) (by decide)) (vp_in_nI (by omega) (by decide))) (fun g hT => ?_)
                refine ev_aload_n dX12_alike_56 rfl rfl ?_
                refine ev_iload_n dX12_alike_57 rfl rfl ?_
                refine ev_iload_n dX12_alike_58 rfl rfl ?_
                refine mo_call2 (d' := d - 1) hE hT dX12_alike_59 rfl rfl kX12_apartOf lX12_483 iX12_apartOf vX12_apartOf (Nat.le_of_ble_eq_true rfl) (by omega) (c_X12_apartOf hE (by omega) (vp_in_nI (by omega) (by decide)) (vp_in_nI (by omega) (by decide))) (fun g hT => ?_)
                refine ev_icmp_gt (tgt := 67) dX12_alike_62 (by decide) (fun c_62 => ?_) (fun c_62 => ?_)
                · refine ev_iinc (v := (nI (i + 1))) dX12_alike_67 rfl (by exact nI_1 i) rfl ?_
                  refine ev_goto (tgt := 32) dX12_alike_70 (by decide) ?_
                  have hlt : i < a := mo_ilt rfl (by omega) (by omega) c_34
                  have e7 : ∀ y, y = sp_opt (sp_near (mo_up S 0 0 0) a (i + 1)) → ev_V G d 0 0 mX12_alike _ g 32 [some (.ref W.1), some (.int (nI a)), some (.int y), some (.int (nI (i + 1)))] [] := fun y hy => by subst hy; exact ih (i + 1) (by omega) (by omega) () rfl g hT
                  refine e7 _ ?_
                  rw [sp_near]
                  first
                    | (rw [if_pos c_43]; done)
                    | (rw [if_neg c_43, hb]; show _ = sp_opt (if _ then _ else _); rw [if_neg (Int32.not_le.mpr c_62)]; rfl)
                    | (rw [if_neg c_43, hb]; show _ = sp_opt (if _ then _ else _); rw [if_pos (Int32.not_lt.mp c_62)]; rfl)
                    | (rw [if_neg c_43, (sp_opt_neg hl9).mp c_47]; rfl)
                · refine ev_iload_n dX12_alike_65 rfl rfl ?_
                  refine ev_istore_n dX12_alike_66 rfl (Nat.le_of_ble_eq_true rfl) rfl ?_
                  refine ev_iinc (v := (nI (i + 1))) dX12_alike_67 rfl (by exact nI_1 i) rfl ?_
                  refine ev_goto (tgt := 32) dX12_alike_70 (by decide) ?_
                  have hlt : i < a := mo_ilt rfl (by omega) (by omega) c_34
                  have e7 : ∀ y, y = sp_opt (sp_near (mo_up S 0 0 0) a (i + 1)) → ev_V G d 0 0 mX12_alike _ g 32 [some (.ref W.1), some (.int (nI a)), some (.int y), some (.int (nI (i + 1)))] [] := fun y hy => by subst hy; exact ih (i + 1) (by omega) (by omega) () rfl g hT
                  refine e7 _ ?_
                  rw [sp_near]
                  first
                    | (rw [if_pos c_43]; done)
                    | (rw [if_neg c_43, hb]; show _ = sp_opt (if _ then _ else _); rw [if_neg (Int32.not_le.mpr c_62)]; rfl)
                    | (rw [if_neg c_43, hb]; show _ = sp_opt (if _ then _ else _); rw [if_pos (Int32.not_lt.mp c_62)]; rfl)
                    | (rw [if_neg c_43, (sp_opt_neg hl9).mp c_47]; rfl)
      exact loop (a + 1) 0 (by omega) (by omega) () rfl g hT
    · refine ev_iconst (v := 0) dX12_alike_26 (by decide) ?_
      refine ev_iret dX12_alike_27 rfl rfl ⟨_, _, rfl, Or.inl ⟨rfl, ?_⟩, hT⟩
      clear hT
      first
        | (cases hq0 : sp_X12_isAppeal (mo_up S 0 0 0) x1 <;> first | (exfalso; simp_all [mo_b]; done) | (refine ⟨1, ⟨rfl, rfl⟩, ?_⟩; simp_all [mo_b, sp_bad, mo_up_tw]; done))
  refine ev_if_ne (tgt := 18) dX12_alike_11 (by decide) (fun c_11 => ?_) (fun c_11 => ?_)
  · refine ev_iconst (v := 0) dX12_alike_18 (by decide) ?_
    exact K_19 g hT _ (by rw [if_neg c_11]; rfl)
  · refine ev_iconst (v := 1) dX12_alike_14 (by decide) ?_
    refine ev_goto (tgt := 19) dX12_alike_15 (by decide) ?_
    exact K_19 g hT _ (by rw [if_pos c_11]; rfl)
theorem c_X12_borne {G : ev_G} {W : mo_W} {d : Nat} {S : mo_S} {F : mo_Fn} {x1 x2 : Int32} (hE : ev_En G) (h : mo_J S F) (hd : 9 ≤ d) : mo_Cr G W d mX12_borne [.int x1, .int x2] S (fun r S2 => (r = some (.int 0) ∧ ∃ k : Int32, ((k = 1 ∧ sp_in x1 0 (S.1 1 0 - 1) = false) ∨ (k = 2 ∧ sp_in x1 0 (S.1 1 0 - 1) = true ∧ sp_in x2 0 3 = false)) ∧ S2 = mo_up S 0 0 k) ∨ (sp_in x1 0 (S.1 1 0 - 1) = true ∧ sp_in x2 0 3 = true ∧ (∃ p, x1 = nI p ∧ p < sp_P S ∧ S2 = (mo_up S 0 0 0) ∧ r = some (.int (sp_borne (mo_up S 0 0 0) p x2))))) := by
  refine mo_startr (lv0 := [some (.ref W.1), some (.int x1), some (.int x2), none, none, none, none, none, none]) (by decide +kernel) rfl (Nat.le_of_ble_eq_true rfl) rfl ?_
  intro g0 g hT
  refine ev_aload_n dX12_borne_0 rfl rfl ?_
  refine ev_iload_n dX12_borne_1 rfl rfl ?_
  refine mo_call1 (d' := d - 1) hE hT dX12_borne_2 rfl rfl kX12_isPaper lX12_188 iX12_isPaper vX12_isPaper (Nat.le_of_ble_eq_true rfl) (by omega) (c_X12_isPaper hE (by omega)) (fun g hT => ?_)
  refine ev_if_eq (tgt := 30) dX12_borne_5 (by decide) (fun c_5 => ?_) (fun c_5 => ?_)
  · refine ev_iconst (v := 0) dX12_borne_30 (by decide) ?_
    refine ev_iret dX12_borne_31 rfl rfl ⟨_, _, rfl, Or.inl ⟨rfl, ?_⟩, hT⟩
    clear hT
    first
      | (cases hq0 : sp_in x1 0 (S.1 1 0 - 1) <;> cases hq1 : sp_in x2 0 3 <;> first | (exfalso; simp_all [mo_b]; done) | (refine ⟨1, Or.inl ⟨rfl, rfl⟩, ?_⟩; simp_all [mo_b, sp_bad, mo_up_tw]; done))
      | (cases hq0 : sp_in x1 0 (S.1 1 0 - 1) <;> cases hq1 : sp_in x2 0 3 <;> first | (exfalso; simp_all [mo_b]; done) | (refine ⟨2, Or.inr (⟨rfl, rfl, rfl⟩), ?_⟩; simp_all [mo_b, sp_bad, mo_up_tw]; done))
  · refine ev_aload_n dX12_borne_8 rfl rfl ?_
    refine ev_iload_n dX12_borne_9 rfl rfl ?_
    refine ev_iconst (v := 0) dX12_borne_10 (by decide) ?_
    refine ev_iconst (v := 3) dX12_borne_11 (by decide) ?_
    refine ev_pS3 (d' := d - 1) dX12_borne_12 rfl kX12_in lX12_176 sX12_in (Nat.le_of_ble_eq_true rfl) (by omega) (c_X12_in) ?_
    have K_23 : ∀ (g : ev_H) (hT : mo_T G W g0 g (mo_up S 0 0 (mo_b (!sp_in x1 0 (S.1 1 0 - 1))))), ∀ x9 : Int32, x9 = (mo_b (if (mo_b (sp_in x2 0 3)) = 0 then true else false)) → ev_V G d 0 0 mX12_borne (fun o g' => ∃ r S2, o = .inl r ∧ ((r = some (.int 0) ∧ ∃ k : Int32, ((k = 1 ∧ sp_in x1 0 (S.1 1 0 - 1) = false) ∨ (k = 2 ∧ sp_in x1 0 (S.1 1 0 - 1) = true ∧ sp_in x2 0 3 = false)) ∧ S2 = mo_up S 0 0 k) ∨ (sp_in x1 0 (S.1 1 0 - 1) = true ∧ sp_in x2 0 3 = true ∧ (∃ p, x1 = nI p ∧ p < sp_P S ∧ S2 = (mo_up S 0 0 0) ∧ r = some (.int (sp_borne (mo_up S 0 0 0) p x2))))) ∧ mo_T G W g0 g' S2) g 23 [some (.ref W.1), some (.int x1), some (.int x2), none, none, none, none, none, none] (.int x9 :: .ref W.1 :: []) := by
      intro g hT x9 h9
      subst h9
      refine ev_iconst (v := 2) dX12_borne_23 (by decide) ?_
      refine mo_call2 (d' := d - 1) hE hT dX12_borne_24 rfl rfl kX12_bad lX12_181 iX12_bad vX12_bad (Nat.le_of_ble_eq_true rfl) (by omega) (c_X12_bad hE) (fun g hT => ?_)
      refine ev_if_eq (tgt := 32) dX12_borne_27 (by decide) (fun c_27 => ?_) (fun c_27 => ?_)
      · have q0 : sp_in x1 0 (S.1 1 0 - 1) = true := by clear hT; cases hq0 : sp_in x1 0 (S.1 1 0 - 1) <;> cases hq1 : sp_in x2 0 3 <;> first | rfl | (exfalso; simp_all [mo_b]; done)
        have q1 : sp_in x2 0 3 = true := by clear hT; cases hq0 : sp_in x1 0 (S.1 1 0 - 1) <;> cases hq1 : sp_in x2 0 3 <;> first | rfl | (exfalso; simp_all [mo_b]; done)
        rw [show (sp_bad (if (mo_b (sp_in x2 0 3)) = 0 then true else false) 2 (mo_up S 0 0 (mo_b (!sp_in x1 0 (S.1 1 0 - 1))))) = mo_up S 0 0 0 from by simp only [q0, q1]; first | rfl | simp_all [mo_b, sp_bad, mo_up_tw]] at hT
        obtain ⟨p, hp, ep⟩ := mo_vinE (N := 12) h.P.1 h.P.2 (by decide) q0
        refine ev_lvE (lv2 := [some (.ref W.1), some (.int (nI p)), some (.int x2), none, none, none, none, none, none]) (by rw [ep]) ?_
        have hP2 := h.P.2
        have hKK := (h.u0 (v := 0)).N (k := 59) p 8 (by decide)
        have hK9 : (mo_up S 0 0 0).1 59 p = nI (sp_K (mo_up S 0 0 0) p) := hKK.1
        have hK2 : (sp_K (mo_up S 0 0 0) p) ≤ 8 := hKK.2
        refine ev_aload_n dX12_borne_32 rfl rfl ?_
        refine mo_geta hE hT dX12_borne_33 fX12_134 (by decide) ?_
        refine ev_iload_n dX12_borne_36 rfl rfl ?_
        refine mo_ialdQ (q := p) (v := (S.1 59 p)) hE hT dX12_borne_37 (by decide) rfl (show _ < 12 from (by omega)) (by simp [sp_bad_ne, mo_up]) ?_
        refine ev_if_ne (tgt := 43) dX12_borne_38 (by decide) (fun c_38 => ?_) (fun c_38 => ?_)
        · refine ev_iconst (v := (-1)) dX12_borne_43 (by decide) ?_
          refine ev_istore_n dX12_borne_44 rfl (Nat.le_of_ble_eq_true rfl) rfl ?_
          refine ev_iconst (v := 0) dX12_borne_45 (by decide) ?_
          refine ev_istore dX12_borne_46 (Nat.le_of_ble_eq_true rfl) rfl ?_
          refine ev_ldc dX12_borne_48 nX12_180 ?_
          refine ev_istore dX12_borne_50 (Nat.le_of_ble_eq_true rfl) rfl ?_
          refine ev_iconst (v := (nI 0)) dX12_borne_52 (by decide) ?_
          refine ev_istore dX12_borne_53 (Nat.le_of_ble_eq_true rfl) rfl ?_
          have loop : ∀ (n i : Nat), i ≤ (sp_K (mo_up S 0 0 0) p) → (sp_K (mo_up S 0 0 0) p) < i + n → ∀ (u : Unit), u = () → ∀ g, mo_T G W g0 g (mo_up S 0 0 0) → ev_V G d 0 0 mX12_borne (fun o g' => ∃ r S2, o = .inl r ∧ ((r = some (.int 0) ∧ ∃ k : Int32, ((k = 1 ∧ sp_in x1 0 (S.1 1 0 - 1) = false) ∨ (k = 2 ∧ sp_in x1 0 (S.1 1 0 - 1) = true ∧ sp_in x2 0 3 = false)) ∧ S2 = mo_up S 0 0 k) ∨ (sp_in x1 0 (S.1 1 0 - 1) = true ∧ sp_in x2 0 3 = true ∧ (∃ p, x1 = nI p ∧ p < sp_P S ∧ S2 = (mo_up S 0 0 0) ∧ r = some (.int (sp_borne (mo_up S 0 0 0) p x2))))) ∧ mo_T G W g0 g' S2) g 55 [some (.ref W.1), some (.int (nI p)), some (.int x2), some (.int (sp_brn (mo_up S 0 0 0) p (sp_K (mo_up S 0 0 0) p) i).1), some (.int (sp_brn (mo_up S 0 0 0) p (sp_K (mo_up S 0 0 0) p) i).2), some (.int 100000), some (.int (nI i)), none, none] [] := by
            intro n
            induction n with
            | zero => intro i h1 h2; exact absurd h2 (by omega)
            | succ n ih =>
              intro i h1 h2 u hx g hT
              refine ev_iload dX12_borne_55 rfl ?_
              refine ev_aload_n dX12_borne_57 rfl rfl ?_
              refine mo_geta hE hT dX12_borne_58 fX12_134 (by decide) ?_
              refine ev_iload_n dX12_borne_61 rfl rfl ?_
              refine mo_iald (q := p) hE hT dX12_borne_62 (by decide) rfl (show _ < 12 from (by omega)) ?_
              refine ev_icmp_ge (tgt := 140) dX12_borne_63 (by decide) (fun c_63 => ?_) (fun c_63 => ?_)
              · have e : i = (sp_K (mo_up S 0 0 0) p) := by have q := mo_ige hK9 (by omega) (by omega) c_63; omega
                rw [e]
                refine ev_iconst (v := 0) dX12_borne_140 (by decide) ?_
                refine ev_istore dX12_borne_141 (Nat.le_of_ble_eq_true rfl) rfl ?_
                have loop2 : ∀ (n2 j : Nat), j ≤ (sp_K (mo_up S 0 0 0) p) → (sp_K (mo_up S 0 0 0) p) < j + n2 → ∀ (u : Unit), u = () → ∀ g, mo_T G W g0 g (mo_up S 0 0 0) → ev_V G d 0 0 mX12_borne (fun o g' => ∃ r S2, o = .inl r ∧ ((r = some (.int 0) ∧ ∃ k : Int32, ((k = 1 ∧ sp_in x1 0 (S.1 1 0 - 1) = false) ∨ (k = 2 ∧ sp_in x1 0 (S.1 1 0 - 1) = true ∧ sp_in x2 0 3 = false)) ∧ S2 = mo_up S 0 0 k) ∨ (sp_in x1 0 (S.1 1 0 - 1) = true ∧ sp_in x2 0 3 = true ∧ (∃ p, x1 = nI p ∧ p < sp_P S ∧ S2 = (mo_up S 0 0 0) ∧ r = some (.int (sp_borne (mo_up S 0 0 0) p x2))))) ∧ mo_T G W g0 g' S2) g 143 [some (.ref W.1), some (.int (nI p)), some (.int x2), some (.int (sp_brn (mo_up S 0 0 0) p (sp_K (mo_up S 0 0 0) p) (sp_K (mo_up S 0 0 0) p)).1), some (.int (sp_brn (mo_up S 0 0 0) p (sp_K (mo_up S 0 0 0) p) (sp_K (mo_up S 0 0 0) p)).2), some (.int (sp_brt (mo_up S 0 0 0) p (sp_brn (mo_up S 0 0 0) p (sp_K (mo_up S 0 0 0) p) (sp_K (mo_up S 0 0 0) p)).1 j)), some (.int (nI j)), none, none] [] := by
                  intro n2
                  induction n2 with
                  | zero => intro j h12 h22; exact absurd h22 (by omega)
                  | succ n2 ih2 =>
                    intro j h12 h22 u hx2 g hT
                    refine ev_iload dX12_borne_143 rfl ?_
                    refine ev_aload_n dX12_borne_145 rfl rfl ?_
                    refine mo_geta hE hT dX12_borne_146 fX12_134 (by decide) ?_
                    refine ev_iload_n dX12_borne_149 rfl rfl ?_
                    refine mo_iald (q := p) hE hT dX12_borne_150 (by decide) rfl (show _ < 12 from (by omega)) ?_
                    refine ev_icmp_ge (tgt := 189) dX12_borne_151 (by decide) (fun c_151 => ?_) (fun c_151 => ?_)
                    · have e : j = (sp_K (mo_up S 0 0 0) p) := by have q := mo_ige hK9 (by omega) (by omega) c_151; omega
                      rw [e]
                      refine ev_iload_n dX12_borne_189 rfl rfl ?_
                      refine ev_if_ne (tgt := 198) dX12_borne_190 (by decide) (fun c_190 => ?_) (fun c_190 => ?_)
                      · refine ev_iload_n dX12_borne_198 rfl rfl ?_
                        refine ev_iconst (v := 1) dX12_borne_199 (by decide) ?_
                        refine ev_icmp_ne (tgt := 208) dX12_borne_200 (by decide) (fun c_200 => ?_) (fun c_200 => ?_)
                        · refine ev_iload_n dX12_borne_208 rfl rfl ?_
                          refine ev_iconst (v := 2) dX12_borne_209 (by decide) ?_
                          refine ev_icmp_ne (tgt := 220) dX12_borne_210 (by decide) (fun c_210 => ?_) (fun c_210 => ?_)
                          · refine ev_iconst (v := 1) dX12_borne_220 (by decide) ?_
                            refine ev_aload_n dX12_borne_221 rfl rfl ?_
                            refine mo_geta hE hT dX12_borne_222 fX12_134 (by decide) ?_
                            refine ev_iload_n dX12_borne_225 rfl rfl ?_
                            refine mo_ialdQ (q := p) (v := (S.1 59 p)) hE hT dX12_borne_226 (by decide) rfl (show _ < 12 from (by omega)) (by simp [sp_bad_ne, mo_up]) ?_
                            refine ev_ishl dX12_borne_227 ?_
                            refine ev_iconst (v := 1) dX12_borne_228 (by decide) ?_
                            refine ev_isub dX12_borne_229 ?_
                            refine ev_iload_n dX12_borne_230 rfl rfl ?_
                            refine ev_iconst (v := (-1)) dX12_borne_231 (by decide) ?_
                            refine ev_ixor dX12_borne_232 ?_
                            refine ev_iand dX12_borne_233 ?_
                            exact ev_iret dX12_borne_234 rfl rfl ⟨_, _, rfl, Or.inr ⟨q0, q1, p, ep, hp, rfl, by unfold sp_borne; rw [mo_up_ne (show (59 : Nat) ≠ 0 by decide), if_neg c_38, if_neg c_190, if_neg c_200, if_neg c_210]⟩, hT⟩
                          · refine ev_iload_n dX12_borne_213 rfl rfl ?_
                            refine ev_pS1 (d' := d - 1) dX12_borne_214 rfl kX12_many lX12_474 sX12_many (Nat.le_of_ble_eq_true rfl) (by omega) (c_X12_many) ?_
                            refine ev_goto (tgt := 234) dX12_borne_217 (by decide) ?_
                            exact ev_iret dX12_borne_234 rfl rfl ⟨_, _, rfl, Or.inr ⟨q0, q1, p, ep, hp, rfl, by unfold sp_borne; rw [mo_up_ne (show (59 : Nat) ≠ 0 by decide), if_neg c_38, if_neg c_190, if_neg c_200, if_pos c_210]⟩, hT⟩
                        · refine ev_iload dX12_borne_203 rfl ?_
                          refine ev_goto (tgt := 234) dX12_borne_205 (by decide) ?_
                          exact ev_iret dX12_borne_234 rfl rfl ⟨_, _, rfl, Or.inr ⟨q0, q1, p, ep, hp, rfl, by unfold sp_borne; rw [mo_up_ne (show (59 : Nat) ≠ 0 by decide), if_neg c_38, if_neg c_190, if_pos c_200]⟩, hT⟩
                      · refine ev_iload dX12_borne_193 rfl ?_
                        refine ev_goto (tgt := 234) dX12_borne_195 (by decide) ?_
                        exact ev_iret dX12_borne_234 rfl rfl ⟨_, _, rfl, Or.inr ⟨q0, q1, p, ep, hp, rfl, by unfold sp_borne; rw [mo_up_ne (show (59 : Nat) ≠ 0 by decide), if_neg c_38, if_pos c_190]⟩, hT⟩
                    · have hlt : j < (sp_K (mo_up S 0 0 0) p) := mo_ilt hK9 (by omega) (by omega) c_151
                      have e8 : 8 * nI p + nI j = nI (8 * p + j) := by rw [show (8 : Int32) = nI 8 from rfl, pk_mul, nI_add]
                      refine ev_iload_n dX12_borne_154 rfl rfl ?_
                      refine ev_iload dX12_borne_155 rfl ?_
                      refine ev_ishr dX12_borne_157 ?_
                      refine ev_iconst (v := 1) dX12_borne_158 (by decide) ?_
                      refine ev_iand dX12_borne_159 ?_
                      refine ev_iconst (v := 1) dX12_borne_160 (by decide) ?_
                      refine ev_icmp_ne (tgt := 183) dX12_borne_161 (by decide) (fun c_161 => ?_) (fun c_161 => ?_)
                      · refine ev_iinc (v := (nI (j + 1))) dX12_borne_183 rfl (by exact nI_1 j) rfl ?_
                        refine ev_goto (tgt := 143) dX12_borne_186 (by decide) ?_
                        have e7 : ∀ y, y = (sp_brt (mo_up S 0 0 0) p (sp_brn (mo_up S 0 0 0) p (sp_K (mo_up S 0 0 0) p) (sp_K (mo_up S 0 0 0) p)).1 (j + 1)) → ev_V G d 0 0 mX12_borne _ g 143 [some (.ref W.1), some (.int (nI p)), some (.int x2), some (.int (sp_brn (mo_up S 0 0 0) p (sp_K (mo_up S 0 0 0) p) (sp_K (mo_up S 0 0 0) p)).1), some (.int (sp_brn (mo_up S 0 0 0) p (sp_K (mo_up S 0 0 0) p) (sp_K (mo_up S 0 0 0) p)).2), some (.int y), some (.int (nI (j + 1))), none, none] [] := fun y hy => by subst hy; exact ih2 (j + 1) (by omega) (by omega) () rfl g hT
                        refine e7 _ ?_
                        rw [sp_brt]
                        first
                          | (rw [if_pos c_161]; done)
                          | (rw [if_neg c_161]; done)
                          | (rw [if_pos c_161]; rfl)
                      · refine ev_iload dX12_borne_164 rfl ?_
                        refine ev_aload_n dX12_borne_166 rfl rfl ?_
                        refine mo_geta hE hT dX12_borne_167 fX12_140 (by decide) ?_
                        refine ev_bipush (v := 8) dX12_borne_170 (by decide) ?_
                        refine ev_iload_n dX12_borne_172 rfl rfl ?_
                        refine ev_imul dX12_borne_173 ?_
                        refine ev_iload dX12_borne_174 rfl ?_
                        refine ev_iadd dX12_borne_176 ?_
                        refine mo_iald (q := (8 * p + j)) hE hT dX12_borne_177 (by decide) e8 (show _ < 96 from (by omega)) ?_
                        refine ev_pS2 (d' := d - 1) dX12_borne_178 rfl kX12_least lX12_421 sX12_least (Nat.le_of_ble_eq_true rfl) (by omega) (c_X12_least) ?_
                        refine ev_istore dX12_borne_181 (Nat.le_of_ble_eq_true rfl) rfl ?_
                        refine ev_iinc (v := (nI (j + 1))) dX12_borne_183 rfl (by exact nI_1 j) rfl ?_
                        refine ev_goto (tgt := 143) dX12_borne_186 (by decide) ?_
                        have e7 : ∀ y, y = (sp_brt (mo_up S 0 0 0) p (sp_brn (mo_up S 0 0 0) p (sp_K (mo_up S 0 0 0) p) (sp_K (mo_up S 0 0 0) p)).1 (j + 1)) → ev_V G d 0 0 mX12_borne _ g 143 [some (.ref W.1), some (.int (nI p)), some (.int x2), some (.int (sp_brn (mo_up S 0 0 0) p (sp_K (mo_up S 0 0 0) p) (sp_K (mo_up S 0 0 0) p)).1), some (.int (sp_brn (mo_up S 0 0 0) p (sp_K (mo_up S 0 0 0) p) (sp_K (mo_up S 0 0 0) p)).2), some (.int y), some (.int (nI (j + 1))), none, none] [] := fun y hy => by subst hy; exact ih2 (j + 1) (by omega) (by omega) () rfl g hT
                        refine e7 _ ?_
                        rw [sp_brt]
                        first
                          | (rw [if_pos c_161]; done)
                          | (rw [if_neg c_161]; done)
                          | (rw [if_pos c_161]; rfl)
                exact loop2 ((sp_K (mo_up S 0 0 0) p) + 1) 0 (by omega) (by omega) () rfl g hT
              · have hlt : i < (sp_K (mo_up S 0 0 0) p) := mo_ilt hK9 (by omega) (by omega) c_63
                have e8 : 8 * nI p + nI i = nI (8 * p + i) := by rw [show (8 : Int32) = nI 8 from rfl, pk_mul, nI_add]
                refine ev_aload_n dX12_borne_66 rfl rfl ?_
                refine mo_geta hE hT dX12_borne_67 fX12_137 (by decide) ?_
                refine ev_bipush (v := 8) dX12_borne_70 (by decide) ?_
                refine ev_iload_n dX12_borne_72 rfl rfl ?_
                refine ev_imul dX12_borne_73 ?_
                refine ev_iload dX12_borne_74 rfl ?_
                refine ev_iadd dX12_borne_76 ?_
                refine mo_iald (q := (8 * p + i)) hE hT dX12_borne_77 (by decide) e8 (show _ < 96 from (by omega)) ?_
                refine ev_istore dX12_borne_78 (Nat.le_of_ble_eq_true rfl) rfl ?_
                refine ev_aload_n dX12_borne_80 rfl rfl ?_
                refine ev_iload_n dX12_borne_81 rfl rfl ?_
                refine ev_iload dX12_borne_82 rfl ?_
                refine mo_call2 (d' := d - 1) hE hT dX12_borne_84 rfl rfl kX12_lies lX12_471 iX12_lies vX12_lies (Nat.le_of_ble_eq_true rfl) (by omega) (c_X12_lies hE (by omega) (p := p) (K := sp_K (mo_up S 0 0 0) p) rfl (by omega) hK9 hK2) (fun g hT => ?_)
                refine ev_istore dX12_borne_87 (Nat.le_of_ble_eq_true rfl) rfl ?_
                refine ev_iload_n dX12_borne_89 rfl rfl ?_
                refine ev_if_lt (tgt := 127) dX12_borne_90 (by decide) (fun c_90 => ?_) (fun c_90 => ?_)
                · refine ev_iload dX12_borne_127 rfl ?_
                  refine ev_istore_n dX12_borne_129 rfl (Nat.le_of_ble_eq_true rfl) rfl ?_
                  refine ev_iload dX12_borne_130 rfl ?_
                  refine ev_istore dX12_borne_132 (Nat.le_of_ble_eq_true rfl) rfl ?_
                  refine ev_iinc (v := (nI (i + 1))) dX12_borne_134 rfl (by exact nI_1 i) rfl ?_
                  refine ev_goto (tgt := 55) dX12_borne_137 (by decide) ?_
                  refine ev_none 7 ?_
                  refine ev_none 8 ?_
                  have e7 : ∀ y1 y2, (y1, y2) = (sp_brn (mo_up S 0 0 0) p (sp_K (mo_up S 0 0 0) p) (i + 1)) → ev_V G d 0 0 mX12_borne _ g 55 [some (.ref W.1), some (.int (nI p)), some (.int x2), some (.int y1), some (.int y2), some (.int 100000), some (.int (nI (i + 1))), none, none] [] := fun y1 y2 hy => by
                    have e1 : y1 = (sp_brn (mo_up S 0 0 0) p (sp_K (mo_up S 0 0 0) p) (i + 1)).1 := by rw [← hy]
                    have e2 : y2 = (sp_brn (mo_up S 0 0 0) p (sp_K (mo_up S 0 0 0) p) (i + 1)).2 := by rw [← hy]
                    rw [e1, e2]
                    exact ih (i + 1) (by omega) (by omega) () rfl g hT
                  refine e7 _ _ ?_
                  rw [sp_brn]
                  first
                    | (rw [if_pos c_90]; done)
                    | (rw [if_neg c_90, if_pos c_102]; done)
                    | (rw [if_neg c_90, if_neg c_102, if_pos c_114, if_pos c_121]; done)
                    | (rw [if_neg c_90, if_neg c_102, if_pos c_114, if_neg c_121]; done)
                    | (rw [if_neg c_90, if_neg c_102, if_neg c_114]; done)
                    | (rw [if_pos c_90]; rfl)
                    | (rw [if_neg c_90, if_pos c_102]; rfl)
                    | (rw [if_neg c_90, if_neg c_102, if_pos c_114, if_pos c_121]; rfl)
                    | (rw [if_neg c_90, if_neg c_102, if_pos c_114, if_neg c_121]; rfl)
                    | (rw [if_neg c_90, if_neg c_102, if_neg c_114]; rfl)
                · refine ev_iload dX12_borne_93 rfl ?_
                  refine ev_pS1 (d' := d - 1) dX12_borne_95 rfl kX12_many lX12_474 sX12_many (Nat.le_of_ble_eq_true rfl) (by omega) (c_X12_many) ?_
                  refine ev_iload_n dX12_borne_98 rfl rfl ?_
                  refine ev_pS1 (d' := d - 1) dX12_borne_99 rfl kX12_many lX12_474 sX12_many (Nat.le_of_ble_eq_true rfl) (by omega) (c_X12_many) ?_
                  refine ev_icmp_lt (tgt := 134) dX12_borne_102 (by decide) (fun c_102 => ?_) (fun c_102 => ?_)
                  · refine ev_iinc (v := (nI (i + 1))) dX12_borne_134 rfl (by exact nI_1 i) rfl ?_
                    refine ev_goto (tgt := 55) dX12_borne_137 (by decide) ?_
                    refine ev_none 7 ?_
                    refine ev_none 8 ?_
                    have e7 : ∀ y1 y2, (y1, y2) = (sp_brn (mo_up S 0 0 0) p (sp_K (mo_up S 0 0 0) p) (i + 1)) → ev_V G d 0 0 mX12_borne _ g 55 [some (.ref W.1), some (.int (nI p)), some (.int x2), some (.int y1), some (.int y2), some (.int 100000), some (.int (nI (i + 1))), none, none] [] := fun y1 y2 hy => by
                      have e1 : y1 = (sp_brn (mo_up S 0 0 0) p (sp_K (mo_up S 0 0 0) p) (i + 1)).1 := by rw [← hy]
                      have e2 : y2 = (sp_brn (mo_up S 0 0 0) p (sp_K (mo_up S 0 0 0) p) (i + 1)).2 := by rw [← hy]
                      rw [e1, e2]
                      exact ih (i + 1) (by omega) (by omega) () rfl g hT
                    refine e7 _ _ ?_
                    rw [sp_brn]
                    first
                      | (rw [if_pos c_90]; done)
                      | (rw [if_neg c_90, if_pos c_102]; done)
                      | (rw [if_neg c_90, if_neg c_102, if_pos c_114, if_pos c_121]; done)
                      | (rw [if_neg c_90, if_neg c_102, if_pos c_114, if_neg c_121]; done)
                      | (rw [if_neg c_90, if_neg c_102, if_neg c_114]; done)
                      | (rw [if_pos c_90]; rfl)
                      | (rw [if_neg c_90, if_pos c_102]; rfl)
                      | (rw [if_neg c_90, if_neg c_102, if_pos c_114, if_pos c_121]; rfl)
                      | (rw [if_neg c_90, if_neg c_102, if_pos c_114, if_neg c_121]; rfl)
                      | (rw [if_neg c_90, if_neg c_102, if_neg c_114]; rfl)
                  · refine ev_iload dX12_borne_105 rfl ?_
                    refine ev_pS1 (d' := d - 1) dX12_borne_107 rfl kX12_many lX12_474 sX12_many (Nat.le_of_ble_eq_true rfl) (by omega) (c_X12_many) ?_
                    refine ev_iload_n dX12_borne_110 rfl rfl ?_
                    refine ev_pS1 (d' := d - 1) dX12_borne_111 rfl kX12_many lX12_474 sX12_many (Nat.le_of_ble_eq_true rfl) (by omega) (c_X12_many) ?_
                    refine ev_icmp_ne (tgt := 127) dX12_borne_114 (by decide) (fun c_114 => ?_) (fun c_114 => ?_)
                    · refine ev_iload dX12_borne_127 rfl ?_
                      refine ev_istore_n dX12_borne_129 rfl (Nat.le_of_ble_eq_true rfl) rfl ?_
                      refine ev_iload dX12_borne_130 rfl ?_
                      refine ev_istore dX12_borne_132 (Nat.le_of_ble_eq_true rfl) rfl ?_
                      refine ev_iinc (v := (nI (i + 1))) dX12_borne_134 rfl (by exact nI_1 i) rfl ?_
                      refine ev_goto (tgt := 55) dX12_borne_137 (by decide) ?_
                      refine ev_none 7 ?_
                      refine ev_none 8 ?_
                      have e7 : ∀ y1 y2, (y1, y2) = (sp_brn (mo_up S 0 0 0) p (sp_K (mo_up S 0 0 0) p) (i + 1)) → ev_V G d 0 0 mX12_borne _ g 55 [some (.ref W.1), some (.int (nI p)), some (.int x2), some (.int y1), some (.int y2), some (.int 100000), some (.int (nI (i + 1))), none, none] [] := fun y1 y2 hy => by
                        have e1 : y1 = (sp_brn (mo_up S 0 0 0) p (sp_K (mo_up S 0 0 0) p) (i + 1)).1 := by rw [← hy]
                        have e2 : y2 = (sp_brn (mo_up S 0 0 0) p (sp_K (mo_up S 0 0 0) p) (i + 1)).2 := by rw [← hy]
                        rw [e1, e2]
                        exact ih (i + 1) (by omega) (by omega) () rfl g hT
                      refine e7 _ _ ?_
                      rw [sp_brn]
                      first
                        | (rw [if_pos c_90]; done)
                        | (rw [if_neg c_90, if_pos c_102]; done)
                        | (rw [if_neg c_90, if_neg c_102, if_pos c_114, if_pos c_121]; done)
                        | (rw [if_neg c_90, if_neg c_102, if_pos c_114, if_neg c_121]; done)
                        | (rw [if_neg c_90, if_neg c_102, if_neg c_114]; done)
                        | (rw [if_pos c_90]; rfl)
                        | (rw [if_neg c_90, if_pos c_102]; rfl)
                        | (rw [if_neg c_90, if_neg c_102, if_pos c_114, if_pos c_121]; rfl)
                        | (rw [if_neg c_90, if_neg c_102, if_pos c_114, if_neg c_121]; rfl)
                        | (rw [if_neg c_90, if_neg c_102, if_neg c_114]; rfl)
                    · refine ev_iload dX12_borne_117 rfl ?_
                      refine ev_iload dX12_borne_119 rfl ?_
                      refine ev_icmp_lt (tgt := 127) dX12_borne_121 (by decide) (fun c_121 => ?_) (fun c_121 => ?_)
                      · refine ev_iload dX12_borne_127 rfl ?_
                        refine ev_istore_n dX12_borne_129 rfl (Nat.le_of_ble_eq_true rfl) rfl ?_
                        refine ev_iload dX12_borne_130 rfl ?_
                        refine ev_istore dX12_borne_132 (Nat.le_of_ble_eq_true rfl) rfl ?_
                        refine ev_iinc (v := (nI (i + 1))) dX12_borne_134 rfl (by exact nI_1 i) rfl ?_
                        refine ev_goto (tgt := 55) dX12_borne_137 (by decide) ?_
                        refine ev_none 7 ?_
                        refine ev_none 8 ?_
                        have e7 : ∀ y1 y2, (y1, y2) = (sp_brn (mo_up S 0 0 0) p (sp_K (mo_up S 0 0 0) p) (i + 1)) → ev_V G d 0 0 mX12_borne _ g 55 [some (.ref W.1), some (.int (nI p)), some (.int x2), some (.int y1), some (.int y2), some (.int 100000), some (.int (nI (i + 1))), none, none] [] := fun y1 y2 hy => by
                          have e1 : y1 = (sp_brn (mo_up S 0 0 0) p (sp_K (mo_up S 0 0 0) p) (i + 1)).1 := by rw [← hy]
                          have e2 : y2 = (sp_brn (mo_up S 0 0 0) p (sp_K (mo_up S 0 0 0) p) (i + 1)).2 := by rw [← hy]
                          rw [e1, e2]
                          exact ih (i + 1) (by omega) (by omega) () rfl g hT
                        refine e7 _ _ ?_
                        rw [sp_brn]
                        first
                          | (rw [if_pos c_90]; done)
                          | (rw [if_neg c_90, if_pos c_102]; done)
                          | (rw [if_neg c_90, if_neg c_102, if_pos c_114, if_pos c_121]; done)
                          | (rw [if_neg c_90, if_neg c_102, if_pos c_114, if_neg c_121]; done)
                          | (rw [if_neg c_90, if_neg c_102, if_neg c_114]; done)
                          | (rw [if_pos c_90]; rfl)
                          | (rw [if_neg c_90, if_pos c_102]; rfl)
                          | (rw [if_neg c_90, if_neg c_102, if_pos c_114, if_pos c_121]; rfl)
                          | (rw [if_neg c_90, if_neg c_102, if_pos c_114, if_neg c_121]; rfl)
                          | (rw [if_neg c_90, if_neg c_102, if_neg c_114]; rfl)
                      · refine ev_goto (tgt := 134) dX12_borne_124 (by decide) ?_
                        refine ev_iinc (v := (nI (i + 1))) dX12_borne_134 rfl (by exact nI_1 i) rfl ?_
                        refine ev_goto (tgt := 55) dX12_borne_137 (by decide) ?_
                        refine ev_none 7 ?_
                        refine ev_none 8 ?_
                        have e7 : ∀ y1 y2, (y1, y2) = (sp_brn (mo_up S 0 0 0) p (sp_K (mo_up S 0 0 0) p) (i + 1)) → ev_V G d 0 0 mX12_borne _ g 55 [some (.ref W.1), some (.int (nI p)), some (.int x2), some (.int y1), some (.int y2), some (.int 100000), some (.int (nI (i + 1))), none, none] [] := fun y1 y2 hy => by
                          have e1 : y1 = (sp_brn (mo_up S 0 0 0) p (sp_K (mo_up S 0 0 0) p) (i + 1)).1 := by rw [← hy]
                          have e2 : y2 = (sp_brn (mo_up S 0 0 0) p (sp_K (mo_up S 0 0 0) p) (i + 1)).2 := by rw [← hy]
                          rw [e1, e2]
                          exact ih (i + 1) (by omega) (by omega) () rfl g hT
                        refine e7 _ _ ?_
                        rw [sp_brn]
                        first
                          | (rw [if_pos c_90]; done)
                          | (rw [if_neg c_90, if_pos c_102]; done)
                          | (rw [if_neg c_90, if_neg c_102, if_pos c_114, if_pos c_121]; done)
                          | (rw [if_neg c_90, if_neg c_102, if_pos c_114, if_neg c_121]; done)
                          | (rw [if_neg c_90, if_neg c_102, if_neg c_114]; done)
                          | (rw [if_pos c_90]; rfl)
                          | (rw [if_neg c_90, if_pos c_102]; rfl)
                          | (rw [if_neg c_90, if_neg c_102, if_pos c_114, if_pos c_121]; rfl)
                          | (rw [if_neg c_90, if_neg c_102, if_pos c_114, if_neg c_121]; rfl)
                          | (rw [if_neg c_90, if_neg c_102, if_neg c_114]; rfl)
          exact loop ((sp_K (mo_up S 0 0 0) p) + 1) 0 (by omega) (by omega) () rfl g hT
        · refine ev_iconst (v := -1) dX12_borne_41 (by decide) ?_
          exact ev_iret dX12_borne_42 rfl rfl ⟨_, _, rfl, Or.inr ⟨q0, q1, p, ep, hp, rfl, by unfold sp_borne; rw [mo_up_ne (show (59 : Nat) ≠ 0 by decide), if_pos c_38]⟩, hT⟩
      · refine ev_iconst (v := 0) dX12_borne_30 (by decide) ?_
        refine ev_iret dX12_borne_31 rfl rfl ⟨_, _, rfl, Or.inl ⟨rfl, ?_⟩, hT⟩
        clear hT
        first
          | (cases hq0 : sp_in x1 0 (S.1 1 0 - 1) <;> cases hq1 : sp_in x2 0 3 <;> first | (exfalso; simp_all [mo_b]; done) | (refine ⟨1, Or.inl ⟨rfl, rfl⟩, ?_⟩; simp_all [mo_b, sp_bad, mo_up_tw]; done))
          | (cases hq0 : sp_in x1 0 (S.1 1 0 - 1) <;> cases hq1 : sp_in x2 0 3 <;> first | (exfalso; simp_all [mo_b]; done) | (refine ⟨2, Or.inr (⟨rfl, rfl, rfl⟩), ?_⟩; simp_all [mo_b, sp_bad, mo_up_tw]; done))
    refine ev_if_ne (tgt := 22) dX12_borne_15 (by decide) (fun c_15 => ?_) (fun c_15 => ?_)
    · refine ev_iconst (v := 0) dX12_borne_22 (by decide) ?_
      exact K_23 g hT _ (by rw [if_neg c_15]; rfl)
    · refine ev_iconst (v := 1) dX12_borne_18 (by decide) ?_
      refine ev_goto (tgt := 23) dX12_borne_19 (by decide) ?_
      exact K_23 g hT _ (by rw [if_pos c_15]; rfl)
end M15
