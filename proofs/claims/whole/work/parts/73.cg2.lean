section CG2
theorem mo_up_comm {S : mo_S} {k k2 i i2 : Nat} {v v2 : Int32} (h : k ≠ k2) : mo_up (mo_up S k i v) k2 i2 v2 = mo_up (mo_up S k2 i2 v2) k i v := by
  refine Prod.ext (funext fun a => funext fun b => ?_) rfl
  simp only [mo_up]
  by_cases h1 : a = k2 ∧ b = i2
  · rw [if_pos h1, if_neg (fun q => h (q.1.symm.trans h1.1)), if_pos h1]
  · rw [if_neg h1]
    by_cases h2 : a = k ∧ b = i
    · rw [if_pos h2, if_pos h2]
    · rw [if_neg h2, if_neg h2, if_neg h1]
def cx_X11_giveReels (C : mo_S)  : mo_S :=
  (sp_hand C (sp_P C) (sp_R C))
theorem c_X11_giveReels {G : ev_G} {W : cw_W} {d : Nat} {C : mo_S}  (hE : ev_En G) (hd : 5 ≤ d) : cw_C G W d mX11_giveReels [.ref (W 0 0)] C none (cx_X11_giveReels C) := by
  refine cw_start (lv0 := [some (.ref (W 0 0)), none, none, none, none]) (by decide +kernel) rfl (Nat.le_of_ble_eq_true rfl) rfl ?_
  intro K g0 g hT
  have hBP := hT.B.1
  have hBR := hT.B.2.1
  refine ev_iconst (v := 0) dX11_giveReels_0 (by decide) ?_
  refine ev_istore_n (lv' := [some (.ref (W 0 0)), some (.int 0), none, none, none]) dX11_giveReels_1 rfl (Nat.le_of_ble_eq_true rfl) rfl ?_
  have loop : ∀ (n i : Nat), i ≤ (sp_R C) → (sp_R C) < i + n → ∀ g, cw_T G K g0 W g (sp_hand C (sp_P C) i) → ev_V G d 0 0 mX11_giveReels (fun o g' => o = .inl none ∧ cw_T G K g0 W g' (cx_X11_giveReels C)) g 2 [some (.ref (W 0 0)), some (.int (nI i)), none, none, none] [] := by
    intro n
    induction n with
    | zero => intro i h1 h2; exact absurd h2 (by omega)
    | succ n ih =>
      intro i h1 h2   g hT
      have hR9 : (sp_hand C (sp_P C) i).1 21 0 = nI (sp_R C) := by rw [sp_hand_ne (by decide)]; exact hBR.1
      have hP8 : sp_P (sp_hand C (sp_P C) i) = sp_P C := sp_P_cg (sp_hand_ne (by decide) i)
      refine ev_iload_n dX11_giveReels_2 rfl rfl ?_
      refine ev_aload_n dX11_giveReels_3 rfl rfl ?_
      refine cw_getf hE hT dX11_giveReels_4 fX11_16 (k := 0) (i := 0) rfl ob0 rfl ?_
      refine cw_size (l := 1) (v := ((sp_hand C (sp_P C) i).1 21 0)) hE hT dX11_giveReels_7 lX11_89 (by decide) (Nat.le_of_ble_eq_true rfl) (by omega) rfl ?_
      refine ev_icmp_ge (tgt := 106) dX11_giveReels_10 (by decide) (fun c_10 => ?_) (fun c_10 => ?_)
      · have e : i = sp_R C := by have := mo_ige hR9 (by omega) (by omega) c_10; omega
        subst e
        have e9 : cx_X11_giveReels C = (sp_hand C (sp_P C) (sp_R C)) := by unfold cx_X11_giveReels; rfl
        exact ev_vret dX11_giveReels_106 rfl ⟨rfl, by rw [e9]; exact hT⟩
      · have hi9 : i < sp_R C := mo_ilt hR9 (by omega) (by omega) c_10
        have hi8 : i < sp_R (sp_hand C (sp_P C) i) := by rw [sp_R_cg (sp_hand_ne (by decide) i)]; exact hi9
        refine ev_aload_n dX11_giveReels_13 rfl rfl ?_
        refine cw_getf hE hT dX11_giveReels_14 fX11_16 (k := 0) (i := 0) rfl ob0 rfl ?_
        refine ev_iload_n dX11_giveReels_17 rfl rfl ?_
        refine cw_get (l := 1) (q := i) hE hT dX11_giveReels_18 lX11_138 (by decide) rfl hi8 (Nat.le_of_ble_eq_true rfl) (by omega) ?_
        refine ev_cast hE dX11_giveReels_21 lkX11_128 ((hT.at (k := 27) (i := i) hi8).1 _ _ ob27) rfl ?_
        refine ev_astore_n (lv' := [some (.ref (W 0 0)), some (.int (nI i)), some (.ref (W 27 i)), none, none]) dX11_giveReels_24 rfl (Nat.le_of_ble_eq_true rfl) rfl ?_
        refine ev_aload_n dX11_giveReels_25 rfl rfl ?_
        refine cw_getf hE hT dX11_giveReels_26 fX11_135 (k := 27) (i := i) hi8 ob27 rfl ?_
        refine ev_iconst (v := (-1)) dX11_giveReels_29 (by decide) ?_
        refine ev_icmp_ne (tgt := 100) dX11_giveReels_30 (by decide) (fun c_30 => ?_) (fun c_30 => ?_)
        · refine ev_iinc (v := (nI (i + 1))) dX11_giveReels_100 rfl (nI_1 i) rfl ?_
          refine ev_goto (tgt := 2) dX11_giveReels_103 (by decide) ?_
          refine ev_none 2 ?_
          refine ev_none 3 ?_
          refine ev_none 4 ?_
          exact ih (i + 1) (by omega) (by omega) g (by rw [sp_hand, if_neg c_30]; exact hT)
        · refine ev_aload_n dX11_giveReels_33 rfl rfl ?_
          refine cw_call0 (d' := d - 1) hE hT dX11_giveReels_34 rfl kX11_mostOwed lX11_435 iX11_mostOwed vX11_mostOwed (k := 0) (i := 0) rfl ob0 rfl (Nat.le_of_ble_eq_true rfl) (by omega) (c_X11_mostOwed hE (by omega)) (fun g hT => ?_)
          rw [show cx_X11_mostOwed (sp_hand C (sp_P C) i) = sp_opt (sp_owed (sp_hand C (sp_P C) i) (sp_P C)) by show sp_opt (sp_owed (sp_hand C (sp_P C) i) (sp_P (sp_hand C (sp_P C) i))) = _; rw [hP8]]
          cases ho : sp_owed (sp_hand C (sp_P C) i) (sp_P C) with
          | none =>
              refine ev_istore_n (lv' := [some (.ref (W 0 0)), some (.int (nI i)), some (.ref (W 27 i)), some (.int (-1)), none]) dX11_giveReels_37 rfl (Nat.le_of_ble_eq_true rfl) rfl ?_
              refine ev_iload_n dX11_giveReels_38 rfl rfl ?_
              refine ev_if_lt (tgt := 53) dX11_giveReels_39 (by decide) (fun c_39 => ?_) (fun c_39 => ?_)
              · have es : sp_hand C (sp_P C) (sp_R C) = (sp_hand C (sp_P C) i) := by rw [← sp_hand_stop ho (sp_R C - i), show i + (sp_R C - i) = sp_R C by omega]
                exact ev_vret dX11_giveReels_53 rfl ⟨rfl, by show cw_T G K g0 W g (sp_hand C (sp_P C) (sp_R C)); rw [es]; exact hT⟩
              · exact absurd (by decide) c_39
          | some b9 =>
              have hb9 : b9 < sp_P C := sp_owed_lt ho
              have hb8 : b9 < sp_P (sp_hand C (sp_P C) i) := by rw [hP8]; exact hb9
              refine ev_istore_n (lv' := [some (.ref (W 0 0)), some (.int (nI i)), some (.ref (W 27 i)), some (.int (nI b9)), none]) dX11_giveReels_37 rfl (Nat.le_of_ble_eq_true rfl) rfl ?_
              refine ev_iload_n dX11_giveReels_38 rfl rfl ?_
              refine ev_if_lt (tgt := 53) dX11_giveReels_39 (by decide) (fun c_39 => ?_) (fun c_39 => ?_)
              · exact absurd c_39 (nI_pos (by omega))
              · refine ev_iload_n dX11_giveReels_42 rfl rfl ?_
                refine ev_aload_n dX11_giveReels_43 rfl rfl ?_
                refine cw_getf hE hT dX11_giveReels_44 fX11_10 (k := 0) (i := 0) rfl ob0 rfl ?_
                refine cw_size (l := 0) (v := ((sp_hand C (sp_P C) i).1 1 0)) hE hT dX11_giveReels_47 lX11_89 (by decide) (Nat.le_of_ble_eq_true rfl) (by omega) rfl ?_
                refine ev_icmp_lt (tgt := 54) dX11_giveReels_50 (by decide) (fun c_50 => ?_) (fun c_50 => ?_)
                · refine ev_aload_n dX11_giveReels_54 rfl rfl ?_
                  refine cw_getf hE hT dX11_giveReels_55 fX11_10 (k := 0) (i := 0) rfl ob0 rfl ?_
                  refine ev_iload_n dX11_giveReels_58 rfl rfl ?_
                  refine cw_get (l := 0) (q := b9) hE hT dX11_giveReels_59 lX11_138 (by decide) rfl hb8 (Nat.le_of_ble_eq_true rfl) (by omega) ?_
                  refine ev_cast hE dX11_giveReels_62 lkX11_100 ((hT.at (k := 20) (i := b9) hb8).1 _ _ ob20) rfl ?_
                  refine ev_astore (lv' := [some (.ref (W 0 0)), some (.int (nI i)), some (.ref (W 27 i)), some (.int (nI b9)), some (.ref (W 20 b9))]) dX11_giveReels_65 (Nat.le_of_ble_eq_true rfl) rfl ?_
                  refine ev_aload dX11_giveReels_67 rfl ?_
                  refine ev_dup dX11_giveReels_69 rfl ?_
                  refine cw_getf hE hT dX11_giveReels_70 fX11_142 (k := 20) (i := b9) hb8 ob20 rfl ?_
                  refine ev_aload_n dX11_giveReels_73 rfl rfl ?_
                  refine cw_getf hE hT dX11_giveReels_74 fX11_145 (k := 27) (i := i) hi8 ob27 rfl ?_
                  refine ev_iadd dX11_giveReels_77 ?_
                  refine cw_putf (k := 20) (i := b9) (f := 10) (x := b9) hE hT dX11_giveReels_78 pX11_142 hb8 ob20 (Nat.le_of_ble_eq_true rfl) rfl rfl rfl (by decide) (by decide) pu20_7 (fun g hT => ?_)
                  refine ev_aload dX11_giveReels_81 rfl ?_
                  refine ev_dup dX11_giveReels_83 rfl ?_
                  refine cw_geti (v2 := ((sp_hand C (sp_P C) i).1 11 b9)) hE hT dX11_giveReels_84 fX11_429 (k := 20) (i := b9) hb8 ob20 rfl (by simp [mo_up]) ?_
                  refine ev_aload_n dX11_giveReels_87 rfl rfl ?_
                  refine cw_geti (v2 := ((sp_hand C (sp_P C) i).1 22 i)) hE hT dX11_giveReels_88 fX11_145 (k := 27) (i := i) hi8 ob27 rfl (by simp [mo_up]) ?_
                  refine ev_isub dX11_giveReels_91 ?_
                  refine cw_putf (k := 20) (i := b9) (f := 11) (x := b9) hE hT dX11_giveReels_92 pX11_429 hb8 ob20 (Nat.le_of_ble_eq_true rfl) rfl rfl rfl (by decide) (by decide) pu20_8 (fun g hT => ?_)
                  refine ev_aload_n dX11_giveReels_95 rfl rfl ?_
                  refine ev_iload_n dX11_giveReels_96 rfl rfl ?_
                  refine cw_putf (k := 27) (i := i) (f := 23) (x := i) hE hT dX11_giveReels_97 pX11_135 hi8 ob27 (Nat.le_of_ble_eq_true rfl) rfl rfl rfl (by decide) (by decide) pu27_1 (fun g hT => ?_)
                  refine ev_iinc (v := (nI (i + 1))) dX11_giveReels_100 rfl (nI_1 i) rfl ?_
                  refine ev_goto (tgt := 2) dX11_giveReels_103 (by decide) ?_
                  refine ev_none 2 ?_
                  refine ev_none 3 ?_
                  refine ev_none 4 ?_
                  rw [mo_up_comm (show (11 : Nat) ≠ 23 by decide), mo_up_comm (show (10 : Nat) ≠ 23 by decide)] at hT
                  exact ih (i + 1) (by omega) (by omega) g (by rw [sp_hand, if_pos c_30, ho]; exact hT)
                · exact absurd (by rw [sp_hand_ne (by decide), hBP.1]; exact nI_lt hb9 (by omega)) c_50
  exact loop ((sp_R C) + 1) 0 (by omega) (by omega)  g hT
end CG2
