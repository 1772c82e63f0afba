section M11
theorem mo_up_ne {S : mo_S} {k j i : Nat} {v : Int32} (h : j ≠ k) : (mo_up S k i v).1 j = S.1 j := funext fun b => by simp [mo_up, h]
theorem sp_eqM_up {T S : mo_S} {k i : Nat} {v : Int32} (h : sp_eqM T S) : sp_eqM (mo_up T k i v) (mo_up S k i v) := by
  intro j hj
  by_cases e : j = k
  · subst e; rw [mo_up_at, mo_up_at, h j hj]
  · rw [mo_up_ne e, mo_up_ne e, h j hj]
theorem sp_eqF_t {T U S : mo_S} (h : sp_eqF T U) (h2 : sp_eqF U S) : sp_eqF T S := ⟨h.1.trans h2.1, h.2.1.trans h2.2.1, h.2.2.1.trans h2.2.2.1, h.2.2.2.1.trans h2.2.2.2.1, h.2.2.2.2.1.trans h2.2.2.2.2.1, h.2.2.2.2.2.1.trans h2.2.2.2.2.2.1, h.2.2.2.2.2.2.1.trans h2.2.2.2.2.2.2.1, h.2.2.2.2.2.2.2.trans h2.2.2.2.2.2.2.2⟩
theorem sp_eqF_up {T S : mo_S} {k i : Nat} {v : Int32} (hk : k ≠ 2 ∧ k ≠ 29 ∧ ¬ (36 ≤ k ∧ k ≤ 41)) (h : sp_eqF T S) : sp_eqF (mo_up T k i v) S := by
  obtain ⟨h2, h29, h36, h37, h38, h39, h40, h41⟩ := h
  exact ⟨by rw [mo_up_ne (by omega)]; exact h2, by rw [mo_up_ne (by omega)]; exact h29, by rw [mo_up_ne (by omega)]; exact h36, by rw [mo_up_ne (by omega)]; exact h37, by rw [mo_up_ne (by omega)]; exact h38, by rw [mo_up_ne (by omega)]; exact h39, by rw [mo_up_ne (by omega)]; exact h40, by rw [mo_up_ne (by omega)]; exact h41⟩
theorem sp_eqF_r (S : mo_S) : sp_eqF S S := ⟨rfl, rfl, rfl, rfl, rfl, rfl, rfl, rfl⟩
/-- the price that is told for paper p -/
def sp_priceP (S : mo_S) (F : mo_Fn) (p : Nat) : Int32 := sp_price (sp_X12_means S (nI p)) F

def sp_X12_printable (x1 x2 x3 : Int32) : Int32 :=
  (if (((10 * x3) + 9) / (3 * x2)) ≤ x1 then (((10 * x3) + 9) / (3 * x2)) else x1)
theorem c_X12_printable {G : ev_G} {d : Nat} {g : ev_H} {x1 x2 x3 : Int32} (hg : ¬ 3 * x2 = 0) : ev_Cp G d mX12_printable [.int x1, .int x2, .int x3] g (some (.int (sp_X12_printable x1 x2 x3))) := by
  refine ev_start (lv0 := [some (.int x1), some (.int x2), some (.int x3), none, none]) (by decide +kernel) rfl (Nat.le_of_ble_eq_true rfl) rfl ?_
  refine ev_iload_n dX12_printable_0 rfl rfl ?_
  refine ev_istore_n dX12_printable_1 rfl (Nat.le_of_ble_eq_true rfl) rfl ?_
  refine ev_bipush (v := 10) dX12_printable_2 (by decide) ?_
  refine ev_iload_n dX12_printable_4 rfl rfl ?_
  refine ev_imul dX12_printable_5 ?_
  refine ev_bipush (v := 9) dX12_printable_6 (by decide) ?_
  refine ev_iadd dX12_printable_8 ?_
  refine ev_iconst (v := 3) dX12_printable_9 (by decide) ?_
  refine ev_iload_n dX12_printable_10 rfl rfl ?_
  refine ev_imul dX12_printable_11 ?_
  refine ev_idiv dX12_printable_12 hg ?_
  refine ev_istore dX12_printable_13 (Nat.le_of_ble_eq_true rfl) rfl ?_
  refine ev_iload_n dX12_printable_15 rfl rfl ?_
  refine ev_iload dX12_printable_16 rfl ?_
  have K_27 : ∀ x9 : Int32, x9 = (if (((10 * x3) + 9) / (3 * x2)) ≤ x1 then (((10 * x3) + 9) / (3 * x2)) else x1) → ev_V G d 0 0 mX12_printable (fun o g' => o = .inl (some (.int (sp_X12_printable x1 x2 x3))) ∧ g' = g) g 27 [some (.int x1), some (.int x2), some (.int x3), some (.int x1), some (.int (((10 * x3) + 9) / (3 * x2)))] (.int x9 :: []) := by
    intro x9 h9
    subst h9
    have e9 : sp_X12_printable x1 x2 x3 = (if (((10 * x3) + 9) / (3 * x2)) ≤ x1 then (((10 * x3) + 9) / (3 * x2)) else x1) := by unfold sp_X12_printable; rfl
    exact ev_iret dX12_printable_27 rfl rfl ⟨by rw [e9], rfl⟩
  refine ev_icmp_ge (tgt := 25) dX12_printable_18 (by decide) (fun c_18 => ?_) (fun c_18 => ?_)
  · refine ev_iload dX12_printable_25 rfl ?_
    exact K_27 _ (by rw [if_pos c_18])
  · refine ev_iload_n dX12_printable_21 rfl rfl ?_
    refine ev_goto (tgt := 27) dX12_printable_22 (by decide) ?_
    exact K_27 _ (by rw [if_neg c_18])
def sp_brk (T : mo_S) (p : Nat) (B PR : Int32) : mo_S :=
  (if PR < 0 then (if (T.1 6 p) ≤ B then T else (mo_up (mo_up (mo_up (mo_up (mo_up (mo_up T 9 p ((T.1 9 p) - ((sp_X12_much T 5) * ((T.1 6 p) - B)))) 16 p ((T.1 16 p) + 1)) 17 p (T.1 2 0)) 18 p 1) 19 p ((sp_opt (sp_teller T (1 + (T.1 3 p)))) / 12)) 20 p ((sp_opt (sp_teller T (1 + (T.1 3 p)))) - (sp_opt (sp_teller T (1 + (T.1 3 p)))) / 12 * 12))) else (if PR = (T.1 7 p) then (if (T.1 6 p) ≤ B then T else (mo_up (mo_up (mo_up (mo_up (mo_up (mo_up T 9 p ((T.1 9 p) - ((sp_X12_much T 5) * ((T.1 6 p) - B)))) 16 p ((T.1 16 p) + 1)) 17 p (T.1 2 0)) 18 p 1) 19 p ((sp_opt (sp_teller T (1 + (T.1 3 p)))) / 12)) 20 p ((sp_opt (sp_teller T (1 + (T.1 3 p)))) - (sp_opt (sp_teller T (1 + (T.1 3 p)))) / 12 * 12))) else (if (T.1 6 p) ≤ B then (mo_up (mo_up (mo_up (mo_up (mo_up (mo_up T 9 p ((T.1 9 p) - (sp_X12_much T 5))) 16 p ((T.1 16 p) + 1)) 17 p (T.1 2 0)) 18 p 2) 19 p ((sp_opt (sp_teller T 4)) / 12)) 20 p ((sp_opt (sp_teller T 4)) - (sp_opt (sp_teller T 4)) / 12 * 12)) else (mo_up (mo_up (mo_up (mo_up (mo_up (mo_up (mo_up T 9 p ((T.1 9 p) - (sp_X12_much T 5))) 9 p (((T.1 9 p) - (sp_X12_much T 5)) - ((sp_X12_much (mo_up T 9 p ((T.1 9 p) - (sp_X12_much T 5))) 5) * ((T.1 6 p) - B)))) 16 p ((T.1 16 p) + 2)) 17 p (T.1 2 0)) 18 p 3) 19 p ((sp_opt (sp_teller (mo_up T 9 p ((T.1 9 p) - (sp_X12_much T 5))) (1 + (T.1 3 p)))) / 12)) 20 p ((sp_opt (sp_teller (mo_up T 9 p ((T.1 9 p) - (sp_X12_much T 5))) (1 + (T.1 3 p)))) - (sp_opt (sp_teller (mo_up T 9 p ((T.1 9 p) - (sp_X12_much T 5))) (1 + (T.1 3 p)))) / 12 * 12)))))
theorem br_29 {G : ev_G} {W : mo_W} {d : Nat} {g0 : ev_H} {T : mo_S} {p : Nat} {B PR : Int32} {PO : ev_P} (hE : ev_En G) (hd : 4 ≤ d) (hp : p < 12) (hO : T.1 29 0 = nI (sp_O T)) (hO2 : sp_O T ≤ 10) (hC : ∀ b, b < sp_O T → ∃ C, C ≤ 12 ∧ T.1 37 b = nI C)  (K : ∀ g, mo_T G W g0 g (sp_brk T p B PR) → PO (.inl none) g) : ∀ g, mo_T G W g0 g T → ev_V G d 0 0 mX12_breaks PO g 29 [some (.ref W.1), some (.int (nI p)), some (.int B), some (.int 0), some (.int (-1)), some (.int PR)] [] := by
  intro g hT
  refine ev_iload dX12_breaks_29 rfl ?_
  refine ev_if_lt (tgt := 68) dX12_breaks_31 (by decide) (fun c_31 => ?_) (fun c_31 => ?_)
  · refine ev_aload_n dX12_breaks_68 rfl rfl ?_
    refine mo_geta hE hT dX12_breaks_69 fX12_19 (by decide) ?_
    refine ev_iload_n dX12_breaks_72 rfl rfl ?_
    refine mo_iald (q := p) hE hT dX12_breaks_73 (by decide) rfl (show _ < 12 from (by omega)) ?_
    refine ev_iload_n dX12_breaks_74 rfl rfl ?_
    refine ev_icmp_le (tgt := 118) dX12_breaks_75 (by decide) (fun c_75 => ?_) (fun c_75 => ?_)
    · refine ev_iload_n dX12_breaks_118 rfl rfl ?_
      refine ev_if_ne (tgt := 123) dX12_breaks_119 (by decide) (fun c_119 => ?_) (fun c_119 => ?_)
      · exact absurd (by decide) c_119
      · have e9 : sp_brk T p B PR = T := by unfold sp_brk; rw [if_pos c_31, if_pos c_75]
        exact ev_vret dX12_breaks_122 rfl (K g (by rw [e9]; exact hT))
    · refine ev_iinc (v := 1) dX12_breaks_78 rfl (by decide) rfl ?_
      refine ev_aload_n dX12_breaks_81 rfl rfl ?_
      refine ev_iconst (v := 1) dX12_breaks_82 (by decide) ?_
      refine ev_aload_n dX12_breaks_83 rfl rfl ?_
      refine mo_geta hE hT dX12_breaks_84 fX12_9 (by decide) ?_
      refine ev_iload_n dX12_breaks_87 rfl rfl ?_
      refine mo_iald (q := p) hE hT dX12_breaks_88 (by decide) rfl (show _ < 12 from (by omega)) ?_
      refine ev_iadd dX12_breaks_89 ?_
      refine mo_call1 (d' := d - 1) hE hT dX12_breaks_90 rfl rfl kX12_teller lX12_366 iX12_teller vX12_teller (Nat.le_of_ble_eq_true rfl) (by omega) (c_X12_teller hE (by omega) (by simpa [sp_bad_ne, mo_up, sp_O] using hO) (by simpa [sp_bad_ne, mo_up, sp_O] using hO2) (by simpa [sp_bad_ne, mo_up, sp_O] using hC)) (fun g hT => ?_)
      refine ev_istore dX12_breaks_93 (Nat.le_of_ble_eq_true rfl) rfl ?_
      refine ev_aload_n dX12_breaks_95 rfl rfl ?_
      refine mo_geta hE hT dX12_breaks_96 fX12_28 (by decide) ?_
      refine ev_iload_n dX12_breaks_99 rfl rfl ?_
      refine ev_dup2 dX12_breaks_100 rfl rfl ?_
      refine mo_iald (q := p) hE hT dX12_breaks_101 (by decide) rfl (show _ < 12 from (by omega)) ?_
      refine ev_aload_n dX12_breaks_102 rfl rfl ?_
      refine ev_iconst (v := 5) dX12_breaks_103 (by decide) ?_
      refine mo_call1 (d' := d - 1) hE hT dX12_breaks_104 rfl rfl kX12_much lX12_412 iX12_much vX12_much (Nat.le_of_ble_eq_true rfl) (by omega) (c_X12_much hE (by omega) (by simpa [sp_bad_ne, mo_up, sp_O] using hO) (by simpa [sp_bad_ne, mo_up, sp_O] using hO2) (by simpa [sp_bad_ne, mo_up, sp_O] using hC)) (fun g hT => ?_)
      refine ev_aload_n dX12_breaks_107 rfl rfl ?_
      refine mo_geta hE hT dX12_breaks_108 fX12_19 (by decide) ?_
      refine ev_iload_n dX12_breaks_111 rfl rfl ?_
      refine mo_iald (q := p) hE hT dX12_breaks_112 (by decide) rfl (show _ < 12 from (by omega)) ?_
      refine ev_iload_n dX12_breaks_113 rfl rfl ?_
      refine ev_isub dX12_breaks_114 ?_
      refine ev_imul dX12_breaks_115 ?_
      refine ev_isub dX12_breaks_116 ?_
      refine mo_iast (q := p) hE hT dX12_breaks_117 (by decide) rfl (show _ < 12 from (by omega)) (fun g hT => ?_)
      refine ev_iload_n dX12_breaks_118 rfl rfl ?_
      refine ev_if_ne (tgt := 123) dX12_breaks_119 (by decide) (fun c_119 => ?_) (fun c_119 => ?_)
      · refine ev_aload_n dX12_breaks_123 rfl rfl ?_
        refine mo_geta hE hT dX12_breaks_124 fX12_49 (by decide) ?_
        refine ev_iload_n dX12_breaks_127 rfl rfl ?_
        refine ev_dup2 dX12_breaks_128 rfl rfl ?_
        refine mo_ialdQ (q := p) (v := (T.1 16 p)) hE hT dX12_breaks_129 (by decide) rfl (show _ < 12 from (by omega)) (by simp [sp_bad_ne, mo_up]) ?_
        refine ev_iload_n dX12_breaks_130 rfl rfl ?_
        refine ev_iconst (v := 3) dX12_breaks_131 (by decide) ?_
        refine ev_icmp_ne (tgt := 139) dX12_breaks_132 (by decide) (fun c_132 => ?_) (fun c_132 => ?_)
        · refine ev_iconst (v := 1) dX12_breaks_139 (by decide) ?_
          refine ev_iadd dX12_breaks_140 ?_
          refine mo_iast (q := p) hE hT dX12_breaks_141 (by decide) rfl (show _ < 12 from (by omega)) (fun g hT => ?_)
          refine ev_aload_n dX12_breaks_142 rfl rfl ?_
          refine mo_geta hE hT dX12_breaks_143 fX12_52 (by decide) ?_
          refine ev_iload_n dX12_breaks_146 rfl rfl ?_
          refine ev_aload_n dX12_breaks_147 rfl rfl ?_
          refine mo_getiE (v := (T.1 2 0)) hE hT dX12_breaks_148 fX12_364 (by decide) (by simp [sp_bad_ne, mo_up]) ?_
          refine mo_iast (q := p) hE hT dX12_breaks_151 (by decide) rfl (show _ < 12 from (by omega)) (fun g hT => ?_)
          refine ev_aload_n dX12_breaks_152 rfl rfl ?_
          refine mo_geta hE hT dX12_breaks_153 fX12_55 (by decide) ?_
          refine ev_iload_n dX12_breaks_156 rfl rfl ?_
          refine ev_iload_n dX12_breaks_157 rfl rfl ?_
          refine mo_iast (q := p) hE hT dX12_breaks_158 (by decide) rfl (show _ < 12 from (by omega)) (fun g hT => ?_)
          refine ev_aload_n dX12_breaks_159 rfl rfl ?_
          refine mo_geta hE hT dX12_breaks_160 fX12_58 (by decide) ?_
          refine ev_iload_n dX12_breaks_163 rfl rfl ?_
          refine ev_iload dX12_breaks_164 rfl ?_
          refine ev_bipush (v := 12) dX12_breaks_166 (by decide) ?_
          refine ev_idiv dX12_breaks_168 (by decide) ?_
          refine mo_iast (q := p) hE hT dX12_breaks_169 (by decide) rfl (show _ < 12 from (by omega)) (fun g hT => ?_)
          refine ev_aload_n dX12_breaks_170 rfl rfl ?_
          refine mo_geta hE hT dX12_breaks_171 fX12_61 (by decide) ?_
          refine ev_iload_n dX12_breaks_174 rfl rfl ?_
          refine ev_iload dX12_breaks_175 rfl ?_
          refine ev_bipush (v := 12) dX12_breaks_177 (by decide) ?_
          refine ev_irem dX12_breaks_179 (by decide) ?_
          refine mo_iast (q := p) hE hT dX12_breaks_180 (by decide) rfl (show _ < 12 from (by omega)) (fun g hT => ?_)
          have e9 : sp_brk T p B PR = (mo_up (mo_up (mo_up (mo_up (mo_up (mo_up T 9 p ((T.1 9 p) - ((sp_X12_much T 5) * ((T.1 6 p) - B)))) 16 p ((T.1 16 p) + 1)) 17 p (T.1 2 0)) 18 p 1) 19 p ((sp_opt (sp_teller T (1 + (T.1 3 p)))) / 12)) 20 p ((sp_opt (sp_teller T (1 + (T.1 3 p)))) - (sp_opt (sp_teller T (1 + (T.1 3 p)))) / 12 * 12)) := by unfold sp_brk; rw [if_pos c_31, if_neg c_75]
          exact ev_vret dX12_breaks_181 rfl (K g (by rw [e9]; exact hT))
        · exact absurd c_132 (by decide)
      · exact absurd c_119 (by decide)
  · refine ev_iload dX12_breaks_34 rfl ?_
    refine ev_aload_n dX12_breaks_36 rfl rfl ?_
    refine mo_geta hE hT dX12_breaks_37 fX12_22 (by decide) ?_
    refine ev_iload_n dX12_breaks_40 rfl rfl ?_
    refine mo_iald (q := p) hE hT dX12_breaks_41 (by decide) rfl (show _ < 12 from (by omega)) ?_
    refine ev_icmp_eq (tgt := 68) dX12_breaks_42 (by decide) (fun c_42 => ?_) (fun c_42 => ?_)
    · refine ev_aload_n dX12_breaks_68 rfl rfl ?_
      refine mo_geta hE hT dX12_breaks_69 fX12_19 (by decide) ?_
      refine ev_iload_n dX12_breaks_72 rfl rfl ?_
      refine mo_iald (q := p) hE hT dX12_breaks_73 (by decide) rfl (show _ < 12 from (by omega)) ?_
      refine ev_iload_n dX12_breaks_74 rfl rfl ?_
      refine ev_icmp_le (tgt := 118) dX12_breaks_75 (by decide) (fun c_75 => ?_) (fun c_75 => ?_)
      · refine ev_iload_n dX12_breaks_118 rfl rfl ?_
        refine ev_if_ne (tgt := 123) dX12_breaks_119 (by decide) (fun c_119 => ?_) (fun c_119 => ?_)
        · exact absurd (by decide) c_119
        · have e9 : sp_brk T p B PR = T := by unfold sp_brk; rw [if_neg c_31, if_pos c_42, if_pos c_75]
          exact ev_vret dX12_breaks_122 rfl (K g (by rw [e9]; exact hT))
      · refine ev_iinc (v := 1) dX12_breaks_78 rfl (by decide) rfl ?_
        refine ev_aload_n dX12_breaks_81 rfl rfl ?_
        refine ev_iconst (v := 1) dX12_breaks_82 (by decide) ?_
        refine ev_aload_n dX12_breaks_83 rfl rfl ?_
        refine mo_geta hE hT dX12_breaks_84 fX12_9 (by decide) ?_
        refine ev_iload_n dX12_breaks_87 rfl rfl ?_
        refine mo_iald (q := p) hE hT dX12_breaks_88 (by decide) rfl (show _ < 12 from (by omega)) ?_
        refine ev_iadd dX12_breaks_89 ?_
        refine mo_call1 (d' := d - 1) hE hT dX12_breaks_90 rfl rfl kX12_teller lX12_366 iX12_teller vX12_teller (Nat.le_of_ble_eq_true rfl) (by omega) (c_X12_teller hE (by omega) (by simpa [sp_bad_ne, mo_up, sp_O] using hO) (by simpa [sp_bad_ne, mo_up, sp_O] using hO2) (by simpa [sp_bad_ne, mo_up, sp_O] using hC)) (fun g hT => ?_)
        refine ev_istore dX12_breaks_93 (Nat.le_of_ble_eq_true rfl) rfl ?_
        refine ev_aload_n dX12_breaks_95 rfl rfl ?_
        refine mo_geta hE hT dX12_breaks_96 fX12_28 (by decide) ?_
        refine ev_iload_n dX12_breaks_99 rfl rfl ?_
        refine ev_dup2 dX12_breaks_100 rfl rfl ?_
        refine mo_iald (q := p) hE hT dX12_breaks_101 (by decide) rfl (show _ < 12 from (by omega)) ?_
        refine ev_aload_n dX12_breaks_102 rfl rfl ?_
        refine ev_iconst (v := 5) dX12_breaks_103 (by decide) ?_
        refine mo_call1 (d' := d - 1) hE hT dX12_breaks_104 rfl rfl kX12_much lX12_412 iX12_much vX12_much (Nat.le_of_ble_eq_true rfl) (by omega) (c_X12_much hE (by omega) (by simpa [sp_bad_ne, mo_up, sp_O] using hO) (by simpa [sp_bad_ne, mo_up, sp_O] using hO2) (by simpa [sp_bad_ne, mo_up, sp_O] using hC)) (fun g hT => ?_)
        refine ev_aload_n dX12_breaks_107 rfl rfl ?_
        refine mo_geta hE hT dX12_breaks_108 fX12_19 (by decide) ?_
        refine ev_iload_n dX12_breaks_111 rfl rfl ?_
        refine mo_iald (q := p) hE hT dX12_breaks_112 (by decide) rfl (show _ < 12 from (by omega)) ?_
        refine ev_iload_n dX12_breaks_113 rfl rfl ?_
        refine ev_isub dX12_breaks_114 ?_
        refine ev_imul dX12_breaks_115 ?_
        refine ev_isub dX12_breaks_116 ?_
        refine mo_iast (q := p) hE hT dX12_breaks_117 (by decide) rfl (show _ < 12 from (by omega)) (fun g hT => ?_)
        refine ev_iload_n dX12_breaks_118 rfl rfl ?_
        refine ev_if_ne (tgt := 123) dX12_breaks_119 (by decide) (fun c_119 => ?_) (fun c_119 => ?_)
        · refine ev_aload_n dX12_breaks_123 rfl rfl ?_
          refine mo_geta hE hT dX12_breaks_124 fX12_49 (by decide) ?_
          refine ev_iload_n dX12_breaks_127 rfl rfl ?_
          refine ev_dup2 dX12_breaks_128 rfl rfl ?_
          refine mo_ialdQ (q := p) (v := (T.1 16 p)) hE hT dX12_breaks_129 (by decide) rfl (show _ < 12 from (by omega)) (by simp [sp_bad_ne, mo_up]) ?_
          refine ev_iload_n dX12_breaks_130 rfl rfl ?_
          refine ev_iconst (v := 3) dX12_breaks_131 (by decide) ?_
          refine ev_icmp_ne (tgt := 139) dX12_breaks_132 (by decide) (fun c_132 => ?_) (fun c_132 => ?_)
          · refine ev_iconst (v := 1) dX12_breaks_139 (by decide) ?_
            refine ev_iadd dX12_breaks_140 ?_
            refine mo_iast (q := p) hE hT dX12_breaks_141 (by decide) rfl (show _ < 12 from (by omega)) (fun g hT => ?_)
            refine ev_aload_n dX12_breaks_142 rfl rfl ?_
            refine mo_geta hE hT dX12_breaks_143 fX12_52 (by decide) ?_
            refine ev_iload_n dX12_breaks_146 rfl rfl ?_
            refine ev_aload_n dX12_breaks_147 rfl rfl ?_
            refine mo_getiE (v := (T.1 2 0)) hE hT dX12_breaks_148 fX12_364 (by decide) (by simp [sp_bad_ne, mo_up]) ?_
            refine mo_iast (q := p) hE hT dX12_breaks_151 (by decide) rfl (show _ < 12 from (by omega)) (fun g hT => ?_)
            refine ev_aload_n dX12_breaks_152 rfl rfl ?_
            refine mo_geta hE hT dX12_breaks_153 fX12_55 (by decide) ?_
            refine ev_iload_n dX12_breaks_156 rfl rfl ?_
            refine ev_iload_n dX12_breaks_157 rfl rfl ?_
            refine mo_iast (q := p) hE hT dX12_breaks_158 (by decide) rfl (show _ < 12 from (by omega)) (fun g hT => ?_)
            refine ev_aload_n dX12_breaks_159 rfl rfl ?_
            refine mo_geta hE hT dX12_breaks_160 fX12_58 (by decide) ?_
            refine ev_iload_n dX12_breaks_163 rfl rfl ?_
            refine ev_iload dX12_breaks_164 rfl ?_
            refine ev_bipush (v := 12) dX12_breaks_166 (by decide) ?_
            refine ev_idiv dX12_breaks_168 (by decide) ?_
            refine mo_iast (q := p) hE hT dX12_breaks_169 (by decide) rfl (show _ < 12 from (by omega)) (fun g hT => ?_)
            refine ev_aload_n dX12_breaks_170 rfl rfl ?_
            refine mo_geta hE hT dX12_breaks_171 fX12_61 (by decide) ?_
            refine ev_iload_n dX12_breaks_174 rfl rfl ?_
            refine ev_iload dX12_breaks_175 rfl ?_
            refine ev_bipush (v := 12) dX12_breaks_177 (by decide) ?_
            refine ev_irem dX12_breaks_179 (by decide) ?_
            refine mo_iast (q := p) hE hT dX12_breaks_180 (by decide) rfl (show _ < 12 from (by omega)) (fun g hT => ?_)
            have e9 : sp_brk T p B PR = (mo_up (mo_up (mo_up (mo_up (mo_up (mo_up T 9 p ((T.1 9 p) - ((sp_X12_much T 5) * ((T.1 6 p) - B)))) 16 p ((T.1 16 p) + 1)) 17 p (T.1 2 0)) 18 p 1) 19 p ((sp_opt (sp_teller T (1 + (T.1 3 p)))) / 12)) 20 p ((sp_opt (sp_teller T (1 + (T.1 3 p)))) - (sp_opt (sp_teller T (1 + (T.1 3 p)))) / 12 * 12)) := by unfold sp_brk; rw [if_neg c_31, if_pos c_42, if_neg c_75]
            exact ev_vret dX12_breaks_181 rfl (K g (by rw [e9]; exact hT))
          · exact absurd c_132 (by decide)
        · exact absurd c_119 (by decide)
    · refine ev_iconst (v := 2) dX12_breaks_45 (by decide) ?_
      refine ev_istore_n dX12_breaks_46 rfl (Nat.le_of_ble_eq_true rfl) rfl ?_
      refine ev_aload_n dX12_breaks_47 rfl rfl ?_
      refine ev_iconst (v := 4) dX12_breaks_48 (by decide) ?_
      refine mo_call1 (d' := d - 1) hE hT dX12_breaks_49 rfl rfl kX12_teller lX12_366 iX12_teller vX12_teller (Nat.le_of_ble_eq_true rfl) (by omega) (c_X12_teller hE (by omega) (by simpa [sp_bad_ne, mo_up, sp_O] using hO) (by simpa [sp_bad_ne, mo_up, sp_O] using hO2) (by simpa [sp_bad_ne, mo_up, sp_O] using hC)) (fun g hT => ?_)
      refine ev_istore dX12_breaks_52 (Nat.le_of_ble_eq_true rfl) rfl ?_
      refine ev_aload_n dX12_breaks_54 rfl rfl ?_
      refine mo_geta hE hT dX12_breaks_55 fX12_28 (by decide) ?_
      refine ev_iload_n dX12_breaks_58 rfl rfl ?_
      refine ev_dup2 dX12_breaks_59 rfl rfl ?_
      refine mo_iald (q := p) hE hT dX12_breaks_60 (by decide) rfl (show _ < 12 from (by omega)) ?_
      refine ev_aload_n dX12_breaks_61 rfl rfl ?_
      refine ev_iconst (v := 5) dX12_breaks_62 (by decide) ?_
      refine mo_call1 (d' := d - 1) hE hT dX12_breaks_63 rfl rfl kX12_much lX12_412 iX12_much vX12_much (Nat.le_of_ble_eq_true rfl) (by omega) (c_X12_much hE (by omega) (by simpa [sp_bad_ne, mo_up, sp_O] using hO) (by simpa [sp_bad_ne, mo_up, sp_O] using hO2) (by simpa [sp_bad_ne, mo_up, sp_O] using hC)) (fun g hT => ?_)
      refine ev_isub dX12_breaks_66 ?_
      refine mo_iast (q := p) hE hT dX12_breaks_67 (by decide) rfl (show _ < 12 from (by omega)) (fun g hT => ?_)
      refine ev_aload_n dX12_breaks_68 rfl rfl ?_
      refine mo_geta hE hT dX12_breaks_69 fX12_19 (by decide) ?_
      refine ev_iload_n dX12_breaks_72 rfl rfl ?_
      refine mo_ialdQ (q := p) (v := (T.1 6 p)) hE hT dX12_breaks_73 (by decide) rfl (show _ < 12 from (by omega)) (by simp [sp_bad_ne, mo_up]) ?_
      refine ev_iload_n dX12_breaks_74 rfl rfl ?_
      refine ev_icmp_le (tgt := 118) dX12_breaks_75 (by decide) (fun c_75 => ?_) (fun c_75 => ?_)
      · refine ev_iload_n dX12_breaks_118 rfl rfl ?_
        refine ev_if_ne (tgt := 123) dX12_breaks_119 (by decide) (fun c_119 => ?_) (fun c_119 => ?_)
        · refine ev_aload_n dX12_breaks_123 rfl rfl ?_
          refine mo_geta hE hT dX12_breaks_124 fX12_49 (by decide) ?_
          refine ev_iload_n dX12_breaks_127 rfl rfl ?_
          refine ev_dup2 dX12_breaks_128 rfl rfl ?_
          refine mo_ialdQ (q := p) (v := (T.1 16 p)) hE hT dX12_breaks_129 (by decide) rfl (show _ < 12 from (by omega)) (by simp [sp_bad_ne, mo_up]) ?_
          refine ev_iload_n dX12_breaks_130 rfl rfl ?_
          refine ev_iconst (v := 3) dX12_breaks_131 (by decide) ?_
          refine ev_icmp_ne (tgt := 139) dX12_breaks_132 (by decide) (fun c_132 => ?_) (fun c_132 => ?_)
          · refine ev_iconst (v := 1) dX12_breaks_139 (by decide) ?_
            refine ev_iadd dX12_breaks_140 ?_
            refine mo_iast (q := p) hE hT dX12_breaks_141 (by decide) rfl (show _ < 12 from (by omega)) (fun g hT => ?_)
            refine ev_aload_n dX12_breaks_142 rfl rfl ?_
            refine mo_geta hE hT dX12_breaks_143 fX12_52 (by decide) ?_
            refine ev_iload_n dX12_breaks_146 rfl rfl ?_
            refine ev_aload_n dX12_breaks_147 rfl rfl ?_
            refine mo_getiE (v := (T.1 2 0)) hE hT dX12_breaks_148 fX12_364 (by decide) (by simp [sp_bad_ne, mo_up]) ?_
            refine mo_iast (q := p) hE hT dX12_breaks_151 (by decide) rfl (show _ < 12 from (by omega)) (fun g hT => ?_)
            refine ev_aload_n dX12_breaks_152 rfl rfl ?_
            refine mo_geta hE hT dX12_breaks_153 fX12_55 (by decide) ?_
            refine ev_iload_n dX12_breaks_156 rfl rfl ?_
            refine ev_iload_n dX12_breaks_157 rfl rfl ?_
            refine mo_iast (q := p) hE hT dX12_breaks_158 (by decide) rfl (show _ < 12 from (by omega)) (fun g hT => ?_)
            refine ev_aload_n dX12_breaks_159 rfl rfl ?_
            refine mo_geta hE hT dX12_breaks_160 fX12_58 (by decide) ?_
            refine ev_iload_n dX12_breaks_163 rfl rfl ?_
            refine ev_iload dX12_breaks_164 rfl ?_
            refine ev_bipush (v := 12) dX12_breaks_166 (by decide) ?_
            refine ev_idiv dX12_breaks_168 (by decide) ?_
            refine mo_iast (q := p) hE hT dX12_breaks_169 (by decide) rfl (show _ < 12 from (by omega)) (fun g hT => ?_)
            refine ev_aload_n dX12_breaks_170 rfl rfl ?_
            refine mo_geta hE hT dX12_breaks_171 fX12_61 (by decide) ?_
            refine ev_iload_n dX12_breaks_174 rfl rfl ?_
            refine ev_iload dX12_breaks_175 rfl ?_
            refine ev_bipush (v := 12) dX12_breaks_177 (by decide) ?_
            refine ev_irem dX12_breaks_179 (by decide) ?_
            refine mo_iast (q := p) hE hT dX12_breaks_180 (by decide) rfl (show _ < 12 from (by omega)) (fun g hT => ?_)
            have e9 : sp_brk T p B PR = (mo_up (mo_up (mo_up (mo_up (mo_up (mo_up T 9 p ((T.1 9 p) - (sp_X12_much T 5))) 16 p ((T.1 16 p) + 1)) 17 p (T.1 2 0)) 18 p 2) 19 p ((sp_opt (sp_teller T 4)) / 12)) 20 p ((sp_opt (sp_teller T 4)) - (sp_opt (sp_teller T 4)) / 12 * 12)) := by unfold sp_brk; rw [if_neg c_31, if_neg c_42, if_pos c_75]
            exact ev_vret dX12_breaks_181 rfl (K g (by rw [e9]; exact hT))
          · exact absurd c_132 (by decide)
        · exact absurd c_119 (by decide)
      · refine ev_iinc (v := 3) dX12_breaks_78 rfl (by decide) rfl ?_
        refine ev_aload_n dX12_breaks_81 rfl rfl ?_
        refine ev_iconst (v := 1) dX12_breaks_82 (by decide) ?_
        refine ev_aload_n dX12_breaks_83 rfl rfl ?_
        refine mo_geta hE hT dX12_breaks_84 fX12_9 (by decide) ?_
        refine ev_iload_n dX12_breaks_87 rfl rfl ?_
        refine mo_ialdQ (q := p) (v := (T.1 3 p)) hE hT dX12_breaks_88 (by decide) rfl (show _ < 12 from (by omega)) (by simp [sp_bad_ne, mo_up]) ?_
        refine ev_iadd dX12_breaks_89 ?_
        refine mo_call1 (d' := d - 1) hE hT dX12_breaks_90 rfl rfl kX12_teller lX12_366 iX12_teller vX12_teller (Nat.le_of_ble_eq_true rfl) (by omega) (c_X12_teller hE (by omega) (by simpa [sp_bad_ne, mo_up, sp_O] using hO) (by simpa [sp_bad_ne, mo_up, sp_O] using hO2) (by simpa [sp_bad_ne, mo_up, sp_O] using hC)) (fun g hT => ?_)
        refine ev_istore dX12_breaks_93 (Nat.le_of_ble_eq_true rfl) rfl ?_
        refine ev_aload_n dX12_breaks_95 rfl rfl ?_
        refine mo_geta hE hT dX12_breaks_96 fX12_28 (by decide) ?_
        refine ev_iload_n dX12_breaks_99 rfl rfl ?_
        refine ev_dup2 dX12_breaks_100 rfl rfl ?_
        refine mo_ialdQ (q := p) (v := ((T.1 9 p) - (sp_X12_much T 5))) hE hT dX12_breaks_101 (by decide) rfl (show _ < 12 from (by omega)) (by simp [sp_bad_ne, mo_up]) ?_
        refine ev_aload_n dX12_breaks_102 rfl rfl ?_
        refine ev_iconst (v := 5) dX12_breaks_103 (by decide) ?_
        refine mo_call1 (d' := d - 1) hE hT dX12_breaks_104 rfl rfl kX12_much lX12_412 iX12_much vX12_much (Nat.le_of_ble_eq_true rfl) (by omega) (c_X12_much hE (by omega) (by simpa [sp_bad_ne, mo_up, sp_O] using hO) (by simpa [sp_bad_ne, mo_up, sp_O] using hO2) (by simpa [sp_bad_ne, mo_up, sp_O] using hC)) (fun g hT => ?_)
        refine ev_aload_n dX12_breaks_107 rfl rfl ?_
        refine mo_geta hE hT dX12_breaks_108 fX12_19 (by decide) ?_
        refine ev_iload_n dX12_breaks_111 rfl rfl ?_
        refine mo_ialdQ (q := p) (v := (T.1 6 p)) hE hT dX12_breaks_112 (by decide) rfl (show _ < 12 from (by omega)) (by simp [sp_bad_ne, mo_up]) ?_
        refine ev_iload_n dX12_breaks_113 rfl rfl ?_
        refine ev_isub dX12_breaks_114 ?_
        refine ev_imul dX12_breaks_115 ?_
        refine ev_isub dX12_breaks_116 ?_
        refine mo_iast (q := p) hE hT dX12_breaks_117 (by decide) rfl (show _ < 12 from (by omega)) (fun g hT => ?_)
        refine ev_iload_n dX12_breaks_118 rfl rfl ?_
        refine ev_if_ne (tgt := 123) dX12_breaks_119 (by decide) (fun c_119 => ?_) (fun c_119 => ?_)
        · refine ev_aload_n dX12_breaks_123 rfl rfl ?_
          refine mo_geta hE hT dX12_breaks_124 fX12_49 (by decide) ?_
          refine ev_iload_n dX12_breaks_127 rfl rfl ?_
          refine ev_dup2 dX12_breaks_128 rfl rfl ?_
          refine mo_ialdQ (q := p) (v := (T.1 16 p)) hE hT dX12_breaks_129 (by decide) rfl (show _ < 12 from (by omega)) (by simp [sp_bad_ne, mo_up]) ?_
          refine ev_iload_n dX12_breaks_130 rfl rfl ?_
          refine ev_iconst (v := 3) dX12_breaks_131 (by decide) ?_
          refine ev_icmp_ne (tgt := 139) dX12_breaks_132 (by decide) (fun c_132 => ?_) (fun c_132 => ?_)
          · exact absurd (by decide) c_132
          · refine ev_iconst (v := 2) dX12_breaks_135 (by decide) ?_
            refine ev_goto (tgt := 140) dX12_breaks_136 (by decide) ?_
            refine ev_iadd dX12_breaks_140 ?_
            refine mo_iast (q := p) hE hT dX12_breaks_141 (by decide) rfl (show _ < 12 from (by omega)) (fun g hT => ?_)
            refine ev_aload_n dX12_breaks_142 rfl rfl ?_
            refine mo_geta hE hT dX12_breaks_143 fX12_52 (by decide) ?_
            refine ev_iload_n dX12_breaks_146 rfl rfl ?_
            refine ev_aload_n dX12_breaks_147 rfl rfl ?_
            refine mo_getiE (v := (T.1 2 0)) hE hT dX12_breaks_148 fX12_364 (by decide) (by simp [sp_bad_ne, mo_up]) ?_
            refine mo_iast (q := p) hE hT dX12_breaks_151 (by decide) rfl (show _ < 12 from (by omega)) (fun g hT => ?_)
            refine ev_aload_n dX12_breaks_152 rfl rfl ?_
            refine mo_geta hE hT dX12_breaks_153 fX12_55 (by decide) ?_
            refine ev_iload_n dX12_breaks_156 rfl rfl ?_
            refine ev_iload_n dX12_breaks_157 rfl rfl ?_
            refine mo_iast (q := p) hE hT dX12_breaks_158 (by decide) rfl (show _ < 12 from (by omega)) (fun g hT => ?_)
            refine ev_aload_n dX12_breaks_159 rfl rfl ?_
            refine mo_geta hE hT dX12_breaks_160 fX12_58 (by decide) ?_
            refine ev_iload_n dX12_breaks_163 rfl rfl ?_
            refine ev_iload dX12_breaks_164 rfl ?_
            refine ev_bipush (v := 12) dX12_breaks_166 (by decide) ?_
            refine ev_idiv dX12_breaks_168 (by decide) ?_
            refine mo_iast (q := p) hE hT dX12_breaks_169 (by decide) rfl (show _ < 12 from (by omega)) (fun g hT => ?_)
            refine ev_aload_n dX12_breaks_170 rfl rfl ?_
            refine mo_geta hE hT dX12_breaks_171 fX12_61 (by decide) ?_
            refine ev_iload_n dX12_breaks_174 rfl rfl ?_
            refine ev_iload dX12_breaks_175 rfl ?_
            refine ev_bipush (v := 12) dX12_breaks_177 (by decide) ?_
            refine ev_irem dX12_breaks_179 (by decide) ?_
            refine mo_iast (q := p) hE hT dX12_breaks_180 (by decide) rfl (show _ < 12 from (by omega)) (fun g hT => ?_)
            have e9 : sp_brk T p B PR = (mo_up (mo_up (mo_up (mo_up (mo_up (mo_up (mo_up T 9 p ((T.1 9 p) - (sp_X12_much T 5))) 9 p (((T.1 9 p) - (sp_X12_much T 5)) - ((sp_X12_much (mo_up T 9 p ((T.1 9 p) - (sp_X12_much T 5))) 5) * ((T.1 6 p) - B)))) 16 p ((T.1 16 p) + 2)) 17 p (T.1 2 0)) 18 p 3) 19 p ((sp_opt (sp_teller (mo_up T 9 p ((T.1 9 p) - (sp_X12_much T 5))) (1 + (T.1 3 p)))) / 12)) 20 p ((sp_opt (sp_teller (mo_up T 9 p ((T.1 9 p) - (sp_X12_much T 5))) (1 + (T.1 3 p)))) - (sp_opt (sp_teller (mo_up T 9 p ((T.1 9 p) - (sp_X12_much T 5))) (1 + (T.1 3 p)))) / 12 * 12)) := by unfold sp_brk; rw [if_neg c_31, if_neg c_42, if_neg c_75]
            exact ev_vret dX12_breaks_181 rfl (K g (by rw [e9]; exact hT))
        · exact absurd c_119 (by decide)
theorem sp_much_up {S : mo_S} {k i : Nat} {v : Int32} (w : Int32) (hk : k ≠ 2 ∧ k ≠ 29 ∧ ¬ (36 ≤ k ∧ k ≤ 41)) : sp_X12_much (mo_up S k i v) w = sp_X12_much S w := sp_eqF_much (sp_eqF_up hk (sp_eqF_r S)) w
theorem sp_teller_up {S : mo_S} {k i : Nat} {v : Int32} (w : Int32) (hk : k ≠ 2 ∧ k ≠ 29 ∧ ¬ (36 ≤ k ∧ k ≤ 41)) : sp_teller (mo_up S k i v) w = sp_teller S w := sp_eqF_teller (sp_eqF_up hk (sp_eqF_r S)) w
theorem sp_brk_cong {T S : mo_S} (h : sp_eqM T S) (p : Nat) (B PR : Int32) : sp_eqM (sp_brk T p B PR) (sp_brk S p B PR) := by
  unfold sp_brk
  simp only [sp_much_up _ (show (9 : Nat) ≠ 2 ∧ 9 ≠ 29 ∧ ¬ (36 ≤ 9 ∧ 9 ≤ 41) by decide), sp_teller_up _ (show (9 : Nat) ≠ 2 ∧ 9 ≠ 29 ∧ ¬ (36 ≤ 9 ∧ 9 ≤ 41) by decide), mo_up_ne (show (2 : Nat) ≠ 9 by decide), mo_up_ne (show (3 : Nat) ≠ 9 by decide), mo_up_ne (show (6 : Nat) ≠ 9 by decide), mo_up_ne (show (16 : Nat) ≠ 9 by decide), mo_up_ne (show (2 : Nat) ≠ 16 by decide), sp_eqF_much (sp_eqM_F h), sp_eqF_teller (sp_eqM_F h), h 2 (by decide), h 3 (by decide), h 6 (by decide), h 7 (by decide), h 9 (by decide), h 16 (by decide)]
  repeat' (first | exact h | apply sp_eqM_up | split)
theorem sp_brk_F (S : mo_S) (p : Nat) (B PR : Int32) : sp_eqF (sp_brk S p B PR) S := by
  unfold sp_brk
  repeat' (first | exact sp_eqF_r S | refine sp_eqF_up (by decide) ?_ | split)
def sp_breaks (S : mo_S) (F : mo_Fn) (p : Nat) : mo_S := sp_brk S p (sp_X12_much S (1 + S.1 3 p)) (sp_priceP S F p)
theorem sp_breaks_F (S : mo_S) (F : mo_Fn) (p : Nat) : sp_eqF (sp_breaks S F p) S := sp_brk_F S p _ _
theorem sp_demand_cong {T S : mo_S} (h : T.1 25 = S.1 25) (h2 : T.1 26 = S.1 26) (p : Nat) (v : Int32) : ∀ n, sp_demand T p v n = sp_demand S p v n
  | 0 => rfl
  | n + 1 => by simp only [sp_demand]; rw [sp_demand_cong h h2 p v n, h, h2]
theorem sp_demand_up {S : mo_S} {k i : Nat} {x : Int32} (hk : k ≠ 25 ∧ k ≠ 26) (p : Nat) (v : Int32) (n : Nat) : sp_demand (mo_up S k i x) p v n = sp_demand S p v n := sp_demand_cong (mo_up_ne (Ne.symm hk.1)) (mo_up_ne (Ne.symm hk.2)) p v n

theorem c_X12_breaks {G : ev_G} {W : mo_W} {d : Nat} {S : mo_S} {F : mo_Fn} {p : Nat} (hE : ev_En G) (hd : 5 ≤ d) (hp : p < 12) (hO : S.1 29 0 = nI (sp_O S)) (hO2 : sp_O S ≤ 10) (hC : ∀ b, b < sp_O S → ∃ C, C ≤ 12 ∧ S.1 37 b = nI C) (hF : mo_FF S F) : mo_Cr G W d mX12_breaks [.int (nI p)] S (fun r S2 => r = none ∧ sp_eqM S2 (sp_breaks S F p)) := by
  refine mo_startr (lv0 := [some (.ref W.1), some (.int (nI p)), none, none, none, none]) (by decide +kernel) rfl (Nat.le_of_ble_eq_true rfl) rfl ?_
  intro g0 g hT
  refine ev_aload_n dX12_breaks_0 rfl rfl ?_
  refine ev_iconst (v := 1) dX12_breaks_1 (by decide) ?_
  refine ev_aload_n dX12_breaks_2 rfl rfl ?_
  refine mo_geta hE hT dX12_breaks_3 fX12_9 (by decide) ?_
  refine ev_iload_n dX12_breaks_6 rfl rfl ?_
  refine mo_iald (q := p) hE hT dX12_breaks_7 (by decide) rfl (show _ < 12 from (by omega)) ?_
  refine ev_iadd dX12_breaks_8 ?_
  refine mo_call1 (d' := d - 1) hE hT dX12_breaks_9 rfl rfl kX12_much lX12_412 iX12_much vX12_much (Nat.le_of_ble_eq_true rfl) (by omega) (c_X12_much hE (by omega) (by simpa [sp_bad_ne, mo_up, sp_O] using hO) (by simpa [sp_bad_ne, mo_up, sp_O] using hO2) (by simpa [sp_bad_ne, mo_up, sp_O] using hC)) (fun g hT => ?_)
  refine ev_istore_n dX12_breaks_12 rfl (Nat.le_of_ble_eq_true rfl) rfl ?_
  refine ev_iconst (v := 0) dX12_breaks_13 (by decide) ?_
  refine ev_istore_n dX12_breaks_14 rfl (Nat.le_of_ble_eq_true rfl) rfl ?_
  refine ev_iconst (v := (-1)) dX12_breaks_15 (by decide) ?_
  refine ev_istore dX12_breaks_16 (Nat.le_of_ble_eq_true rfl) rfl ?_
  refine ev_aload_n dX12_breaks_18 rfl rfl ?_
  refine ev_iload_n dX12_breaks_19 rfl rfl ?_
  refine mo_call1 (d' := d - 1) hE hT dX12_breaks_20 rfl rfl kX12_means lX12_406 iX12_means vX12_means (Nat.le_of_ble_eq_true rfl) (by omega) (c_X12_means hE (vp_in_nI (by omega) (by decide))) (fun g hT => ?_)
  refine ev_aload_n dX12_breaks_23 rfl rfl ?_
  have hq := sp_eqN_F (sp_eqN_means S (nI p))
  refine mo_callr0 (d' := d - 1) hE hT dX12_breaks_24 rfl rfl kX12_priceNow lX12_415 iX12_priceNow vX12_priceNow (Nat.le_of_ble_eq_true rfl) (by omega) (c_X12_priceNow hE (by omega) (sp_eqF_hO hq hO) (sp_eqF_hO2 hq hO2) (sp_eqF_hC hq hC) (hF.cong hq)) (fun r T g h8 hT => ?_)
  obtain ⟨rfl, h8⟩ := h8
  have hM : sp_eqM T S := sp_eqM_N (sp_eqN_P h8 (sp_eqN_means S (nI p))) (sp_eqM_r S)
  refine ev_istore dX12_breaks_27 (Nat.le_of_ble_eq_true rfl) rfl ?_
  have hq := sp_eqM_F hM
  exact br_29 hE (by omega) hp (sp_eqF_hO hq hO) (sp_eqF_hO2 hq hO2) (sp_eqF_hC hq hC) (fun g hT => ⟨_, _, rfl, ⟨rfl, sp_brk_cong hM p _ _⟩, hT⟩) g hT
def sp_pr2 (T : mo_S) (p : Nat) (V : Int32) : mo_S :=
  (mo_up (mo_up T 13 p V) 10 p ((T.1 10 p) + (((V / 20) * (sp_X12_much (mo_up T 13 p V) 8)) / 100)))
theorem pr_83 {G : ev_G} {W : mo_W} {d : Nat} {g0 : ev_H} {T : mo_S} {p : Nat} {V c : Int32} {PO : ev_P} (hE : ev_En G) (hd : 4 ≤ d) (hp : p < 12) (hO : T.1 29 0 = nI (sp_O T)) (hO2 : sp_O T ≤ 10) (hC : ∀ b, b < sp_O T → ∃ C, C ≤ 12 ∧ T.1 37 b = nI C)  (K : ∀ g, mo_T G W g0 g (sp_pr2 T p V) → PO (.inl none) g) : ∀ g, mo_T G W g0 g T → ev_V G d 0 0 mX12_prints PO g 83 [some (.ref W.1), some (.int (nI p)), some (.int c), some (.int V)] [] := by
  intro g hT
  refine ev_aload_n dX12_prints_83 rfl rfl ?_
  refine mo_geta hE hT dX12_prints_84 fX12_40 (by decide) ?_
  refine ev_iload_n dX12_prints_87 rfl rfl ?_
  refine ev_iload_n dX12_prints_88 rfl rfl ?_
  refine mo_iast (q := p) hE hT dX12_prints_89 (by decide) rfl (show _ < 12 from (by omega)) (fun g hT => ?_)
  refine ev_aload_n dX12_prints_90 rfl rfl ?_
  refine mo_geta hE hT dX12_prints_91 fX12_31 (by decide) ?_
  refine ev_iload_n dX12_prints_94 rfl rfl ?_
  refine ev_dup2 dX12_prints_95 rfl rfl ?_
  refine mo_ialdQ (q := p) (v := (T.1 10 p)) hE hT dX12_prints_96 (by decide) rfl (show _ < 12 from (by omega)) (by simp [sp_bad_ne, mo_up]) ?_
  refine ev_iload_n dX12_prints_97 rfl rfl ?_
  refine ev_bipush (v := 20) dX12_prints_98 (by decide) ?_
  refine ev_idiv dX12_prints_100 (by decide) ?_
  refine ev_aload_n dX12_prints_101 rfl rfl ?_
  refine ev_bipush (v := 8) dX12_prints_102 (by decide) ?_
  refine mo_call1 (d' := d - 1) hE hT dX12_prints_104 rfl rfl kX12_much lX12_412 iX12_much vX12_much (Nat.le_of_ble_eq_true rfl) (by omega) (c_X12_much hE (by omega) (by simpa [sp_bad_ne, mo_up, sp_O] using hO) (by simpa [sp_bad_ne, mo_up, sp_O] using hO2) (by simpa [sp_bad_ne, mo_up, sp_O] using hC)) (fun g hT => ?_)
  refine ev_imul dX12_prints_107 ?_
  refine ev_bipush (v := 100) dX12_prints_108 (by decide) ?_
  refine ev_idiv dX12_prints_110 (by decide) ?_
  refine ev_iadd dX12_prints_111 ?_
  refine mo_iast (q := p) hE hT dX12_prints_112 (by decide) rfl (show _ < 12 from (by omega)) (fun g hT => ?_)
  have e9 : sp_pr2 T p V = (mo_up (mo_up T 13 p V) 10 p ((T.1 10 p) + (((V / 20) * (sp_X12_much (mo_up T 13 p V) 8)) / 100))) := by unfold sp_pr2; rfl
  exact ev_vret dX12_prints_113 rfl (K g (by rw [e9]; exact hT))
theorem sp_pr2_cong {T S : mo_S} (h : sp_eqM T S) (p : Nat) (V : Int32) : sp_eqM (sp_pr2 T p V) (sp_pr2 S p V) := by
  unfold sp_pr2
  simp only [sp_much_up _ (show (13 : Nat) ≠ 2 ∧ 13 ≠ 29 ∧ ¬ (36 ≤ 13 ∧ 13 ≤ 41) by decide), mo_up_ne (show (10 : Nat) ≠ 13 by decide), sp_eqF_much (sp_eqM_F h), h 10 (by decide)]
  repeat' (first | exact h | apply sp_eqM_up | split)
/-- how much p prints, what it takes -/
def sp_prc (S : mo_S) (p : Nat) : Int32 := sp_X12_printable (S.1 5 p) (S.1 6 p) (S.1 10 p)
def sp_prv (S : mo_S) (p : Nat) : Int32 := sp_X12_kilograms (sp_prc S p) (S.1 6 p)
def sp_pr1 (S : mo_S) (p : Nat) : mo_S := mo_up (mo_up S 10 p (S.1 10 p - sp_prv S p)) 9 p (S.1 9 p + sp_least (sp_prc S p) (sp_demand S p (S.1 7 p) (sp_W S)) * S.1 7 p)
def sp_prints (S : mo_S) (F : mo_Fn) (p : Nat) : mo_S := sp_pr2 (if sp_prc S p ≤ 0 then sp_pr1 S p else sp_breaks (sp_pr1 S p) F p) p (sp_prv S p)
theorem sp_pr1_F (S : mo_S) (p : Nat) : sp_eqF (sp_pr1 S p) S := sp_eqF_up (by decide) (sp_eqF_up (by decide) (sp_eqF_r S))

theorem c_X12_prints {G : ev_G} {W : mo_W} {d : Nat} {S : mo_S} {F : mo_Fn} {p : Nat} (hE : ev_En G) (hd : 6 ≤ d) (hp : p < 12) (hg : ¬ 3 * S.1 6 p = 0) (hQ : S.1 24 0 = nI (sp_W S)) (hQ2 : sp_W S ≤ 5) (hO : S.1 29 0 = nI (sp_O S)) (hO2 : sp_O S ≤ 10) (hC : ∀ b, b < sp_O S → ∃ C, C ≤ 12 ∧ S.1 37 b = nI C) (hF : mo_FF S F) : mo_Cr G W d mX12_prints [.int (nI p)] S (fun r S2 => r = none ∧ sp_eqM S2 (sp_prints S F p)) := by
  refine mo_startr (lv0 := [some (.ref W.1), some (.int (nI p)), none, none]) (by decide +kernel) rfl (Nat.le_of_ble_eq_true rfl) rfl ?_
  intro g0 g hT
  refine ev_aload_n dX12_prints_0 rfl rfl ?_
  refine mo_geta hE hT dX12_prints_1 fX12_16 (by decide) ?_
  refine ev_iload_n dX12_prints_4 rfl rfl ?_
  refine mo_iald (q := p) hE hT dX12_prints_5 (by decide) rfl (show _ < 12 from (by omega)) ?_
  refine ev_aload_n dX12_prints_6 rfl rfl ?_
  refine mo_geta hE hT dX12_prints_7 fX12_19 (by decide) ?_
  refine ev_iload_n dX12_prints_10 rfl rfl ?_
  refine mo_iald (q := p) hE hT dX12_prints_11 (by decide) rfl (show _ < 12 from (by omega)) ?_
  refine ev_aload_n dX12_prints_12 rfl rfl ?_
  refine mo_geta hE hT dX12_prints_13 fX12_31 (by decide) ?_
  refine ev_iload_n dX12_prints_16 rfl rfl ?_
  refine mo_iald (q := p) hE hT dX12_prints_17 (by decide) rfl (show _ < 12 from (by omega)) ?_
  refine ev_pS3 (d' := d - 1) dX12_prints_18 rfl kX12_printable lX12_437 sX12_printable (Nat.le_of_ble_eq_true rfl) (by omega) (c_X12_printable hg) ?_
  refine ev_istore_n dX12_prints_21 rfl (Nat.le_of_ble_eq_true rfl) rfl ?_
  refine ev_iload_n dX12_prints_22 rfl rfl ?_
  refine ev_aload_n dX12_prints_23 rfl rfl ?_
  refine mo_geta hE hT dX12_prints_24 fX12_19 (by decide) ?_
  refine ev_iload_n dX12_prints_27 rfl rfl ?_
  refine mo_iald (q := p) hE hT dX12_prints_28 (by decide) rfl (show _ < 12 from (by omega)) ?_
  refine ev_pS2 (d' := d - 1) dX12_prints_29 rfl kX12_kilograms lX12_440 sX12_kilograms (Nat.le_of_ble_eq_true rfl) (by omega) (c_X12_kilograms) ?_
  refine ev_istore_n dX12_prints_32 rfl (Nat.le_of_ble_eq_true rfl) rfl ?_
  refine ev_aload_n dX12_prints_33 rfl rfl ?_
  refine mo_geta hE hT dX12_prints_34 fX12_31 (by decide) ?_
  refine ev_iload_n dX12_prints_37 rfl rfl ?_
  refine ev_dup2 dX12_prints_38 rfl rfl ?_
  refine mo_iald (q := p) hE hT dX12_prints_39 (by decide) rfl (show _ < 12 from (by omega)) ?_
  refine ev_iload_n dX12_prints_40 rfl rfl ?_
  refine ev_isub dX12_prints_41 ?_
  refine mo_iast (q := p) hE hT dX12_prints_42 (by decide) rfl (show _ < 12 from (by omega)) (fun g hT => ?_)
  refine ev_aload_n dX12_prints_43 rfl rfl ?_
  refine mo_geta hE hT dX12_prints_44 fX12_28 (by decide) ?_
  refine ev_iload_n dX12_prints_47 rfl rfl ?_
  refine ev_dup2 dX12_prints_48 rfl rfl ?_
  refine mo_ialdQ (q := p) (v := (S.1 9 p)) hE hT dX12_prints_49 (by decide) rfl (show _ < 12 from (by omega)) (by simp [sp_bad_ne, mo_up]) ?_
  refine ev_iload_n dX12_prints_50 rfl rfl ?_
  refine ev_aload_n dX12_prints_51 rfl rfl ?_
  refine ev_iload_n dX12_prints_52 rfl rfl ?_
  refine ev_aload_n dX12_prints_53 rfl rfl ?_
  refine mo_geta hE hT dX12_prints_54 fX12_22 (by decide) ?_
  refine ev_iload_n dX12_prints_57 rfl rfl ?_
  refine mo_ialdQ (q := p) (v := (S.1 7 p)) hE hT dX12_prints_58 (by decide) rfl (show _ < 12 from (by omega)) (by simp [sp_bad_ne, mo_up]) ?_
  refine mo_call2 (d' := d - 1) hE hT dX12_prints_59 rfl rfl kX12_demandOf lX12_205 iX12_demandOf vX12_demandOf (Nat.le_of_ble_eq_true rfl) (by omega) (c_X12_demandOf hE (p := p) (Q := sp_W S) (by simpa [sp_bad_ne, mo_up] using hQ) hQ2 rfl (by omega)) (fun g hT => ?_)
  refine ev_pS2 (d' := d - 1) dX12_prints_62 rfl kX12_least lX12_421 sX12_least (Nat.le_of_ble_eq_true rfl) (by omega) (c_X12_least) ?_
  refine ev_aload_n dX12_prints_65 rfl rfl ?_
  refine mo_geta hE hT dX12_prints_66 fX12_22 (by decide) ?_
  refine ev_iload_n dX12_prints_69 rfl rfl ?_
  refine mo_ialdQ (q := p) (v := (S.1 7 p)) hE hT dX12_prints_70 (by decide) rfl (show _ < 12 from (by omega)) (by simp [sp_bad_ne, mo_up]) ?_
  refine ev_imul dX12_prints_71 ?_
  refine ev_iadd dX12_prints_72 ?_
  refine mo_iast (q := p) hE hT dX12_prints_73 (by decide) rfl (show _ < 12 from (by omega)) (fun g hT => ?_)
  have hU : (mo_up (mo_up S 10 p ((S.1 10 p) - (sp_X12_kilograms (sp_X12_printable (S.1 5 p) (S.1 6 p) (S.1 10 p)) (S.1 6 p)))) 9 p ((S.1 9 p) + ((sp_least (sp_X12_printable (S.1 5 p) (S.1 6 p) (S.1 10 p)) (sp_demand (mo_up S 10 p ((S.1 10 p) - (sp_X12_kilograms (sp_X12_printable (S.1 5 p) (S.1 6 p) (S.1 10 p)) (S.1 6 p)))) p (S.1 7 p) (sp_W S))) * (S.1 7 p)))) = sp_pr1 S p := by rw [sp_demand_up (by decide)]; rfl
  rw [hU] at hT
  have hqU : sp_eqF (sp_pr1 S p) S := sp_pr1_F S p
  refine ev_iload_n dX12_prints_74 rfl rfl ?_
  refine ev_if_le (tgt := 83) dX12_prints_75 (by decide) (fun c_75 => ?_) (fun c_75 => ?_)
  · exact pr_83 hE (by omega) hp (sp_eqF_hO hqU hO) (sp_eqF_hO2 hqU hO2) (sp_eqF_hC hqU hC) (fun g hT => ⟨_, _, rfl, ⟨rfl, by unfold sp_prints; rw [if_pos (show sp_prc S p ≤ 0 from c_75)]; exact sp_eqM_r _⟩, hT⟩) g hT
  · refine ev_aload_n dX12_prints_78 rfl rfl ?_
    refine ev_iload_n dX12_prints_79 rfl rfl ?_
    refine mo_callr1 (d' := d - 1) hE hT dX12_prints_80 rfl rfl kX12_breaks lX12_443 iX12_breaks vX12_breaks (Nat.le_of_ble_eq_true rfl) (by omega) (c_X12_breaks hE (by omega) hp (sp_eqF_hO hqU hO) (sp_eqF_hO2 hqU hO2) (sp_eqF_hC hqU hC) (hF.cong hqU)) (fun r T g h8 hT => ?_)
    obtain ⟨rfl, h8⟩ := h8
    have hq := sp_eqM_F h8
    have hq2 : sp_eqF (sp_breaks (sp_pr1 S p) F p) S := sp_eqF_t (sp_breaks_F _ F p) hqU
    have hq3 : sp_eqF T S := sp_eqF_t hq hq2
    exact pr_83 hE (by omega) hp (sp_eqF_hO hq3 hO) (sp_eqF_hO2 hq3 hO2) (sp_eqF_hC hq3 hC) (fun g hT => ⟨_, _, rfl, ⟨rfl, by unfold sp_prints; rw [if_neg (show ¬ sp_prc S p ≤ 0 from c_75)]; exact sp_pr2_cong h8 p _⟩, hT⟩) g hT
end M11
