section CF
theorem cl_a1 {T : mo_S} {p : Nat} (c : ¬ mo_b (cx_X5_isAdmitted T p) = 0) : T.1 12 p = 1 := of_decide_eq_true (cl_I1 (C := T) rfl c)
theorem cl_a0 {T : mo_S} {p : Nat} (c : mo_b (cx_X5_isAdmitted T p) = 0) : ¬ T.1 12 p = 1 := fun q => cl_I0 (C := T) rfl c (decide_eq_true q)
def cx_X11_takeGrants (C : mo_S)  : mo_S :=
  (sp_gr C (sp_A C))
theorem c_X11_takeGrants {G : ev_G} {W : cw_W} {d : Nat} {C : mo_S}  (hE : ev_En G) (hd : 3 ≤ d) (hA : ∀ a, a < sp_A C → (C.1 63 a).toNatClampNeg < sp_P C) : cw_C G W d mX11_takeGrants [.ref (W 0 0)] C none (cx_X11_takeGrants C) := by
  refine cw_start (lv0 := [some (.ref (W 0 0)), none, none]) (by decide +kernel) rfl (Nat.le_of_ble_eq_true rfl) rfl ?_
  intro K g0 g hT
  have hBP := hT.B.1
  have hBR := hT.B.2.1
  have hBA := hT.B.2.2.2.1
  refine ev_iconst (v := 0) dX11_takeGrants_0 (by decide) ?_
  refine ev_istore_n (lv' := [some (.ref (W 0 0)), some (.int 0), none]) dX11_takeGrants_1 rfl (Nat.le_of_ble_eq_true rfl) rfl ?_
  have loop : ∀ (n i : Nat), i ≤ (sp_A C) → (sp_A C) < i + n → ∀ g, cw_T G K g0 W g (sp_gr C i) → ev_V G d 0 0 mX11_takeGrants (fun o g' => o = .inl none ∧ cw_T G K g0 W g' (cx_X11_takeGrants C)) g 2 [some (.ref (W 0 0)), some (.int (nI i)), none] [] := by
    intro n
    induction n with
    | zero => intro i h1 h2; exact absurd h2 (by omega)
    | succ n ih =>
      intro i h1 h2   g hT
      have hA9 : (sp_gr C i).1 62 0 = nI (sp_A C) := by rw [sp_gr_ne (by decide)]; exact hBA.1
      refine ev_iload_n dX11_takeGrants_2 rfl rfl ?_
      refine ev_aload_n dX11_takeGrants_3 rfl rfl ?_
      refine cw_getf hE hT dX11_takeGrants_4 fX11_22 (k := 0) (i := 0) rfl ob0 rfl ?_
      refine cw_size (l := 3) (v := ((sp_gr C i).1 62 0)) hE hT dX11_takeGrants_7 lX11_89 (by decide) (Nat.le_of_ble_eq_true rfl) (by omega) rfl ?_
      refine ev_icmp_ge (tgt := 63) dX11_takeGrants_10 (by decide) (fun c_10 => ?_) (fun c_10 => ?_)
      · have e : i = sp_A C := by have := mo_ige hA9 (by omega) (by omega) c_10; omega
        subst e
        have e9 : cx_X11_takeGrants C = (sp_gr C (sp_A C)) := by unfold cx_X11_takeGrants; rfl
        exact ev_vret dX11_takeGrants_63 rfl ⟨rfl, by rw [e9]; exact hT⟩
      · have hi9 : i < sp_A C := mo_ilt hA9 (by omega) (by omega) c_10
        have hi8 : i < sp_A (sp_gr C i) := by rw [sp_A_cg (sp_gr_ne (by decide) i)]; exact hi9
        have hpa : ((sp_gr C i).1 63 i).toNatClampNeg < sp_P (sp_gr C i) := by rw [sp_P_cg (sp_gr_ne (by decide) i), sp_gr_ne (by decide)]; exact hA i hi9
        refine ev_aload_n dX11_takeGrants_13 rfl rfl ?_
        refine cw_getf hE hT dX11_takeGrants_14 fX11_22 (k := 0) (i := 0) rfl ob0 rfl ?_
        refine ev_iload_n dX11_takeGrants_17 rfl rfl ?_
        refine cw_get (l := 3) (q := i) hE hT dX11_takeGrants_18 lX11_138 (by decide) rfl hi8 (Nat.le_of_ble_eq_true rfl) (by omega) ?_
        refine ev_cast hE dX11_takeGrants_21 lkX11_286 ((hT.at (k := 33) (i := i) hi8).1 _ _ ob33) rfl ?_
        refine ev_astore_n (lv' := [some (.ref (W 0 0)), some (.int (nI i)), some (.ref (W 33 i))]) dX11_takeGrants_24 rfl (Nat.le_of_ble_eq_true rfl) rfl ?_
        refine ev_aload_n dX11_takeGrants_25 rfl rfl ?_
        refine cw_getf hE hT dX11_takeGrants_26 fX11_302 (k := 33) (i := i) hi8 ob33 rfl ?_
        refine ev_aload_n dX11_takeGrants_29 rfl rfl ?_
        refine cw_getf hE hT dX11_takeGrants_30 fX11_33 (k := 0) (i := 0) rfl ob0 rfl ?_
        refine ev_icmp_ne (tgt := 57) dX11_takeGrants_33 (by decide) (fun c_33 => ?_) (fun c_33 => ?_)
        · refine ev_iinc (v := (nI (i + 1))) dX11_takeGrants_57 rfl (nI_1 i) rfl ?_
          refine ev_goto (tgt := 2) dX11_takeGrants_60 (by decide) ?_
          refine ev_none 2 ?_
          exact ih (i + 1) (by omega) (by omega) g (by rw [sp_gr, if_neg c_33]; exact hT)
        · refine ev_aload_n dX11_takeGrants_36 rfl rfl ?_
          refine cw_getf hE hT dX11_takeGrants_37 fX11_422 (k := 33) (i := i) hi8 ob33 rfl ?_
          refine cw_call0 (d' := d - 1) hE hT dX11_takeGrants_40 rfl kX5_isAdmitted lX11_224 iX5_isAdmitted vX5_isAdmitted (k := 20) (i := ((sp_gr C i).1 63 i).toNatClampNeg) hpa ob20 rfl (Nat.le_of_ble_eq_true rfl) (by omega) (c_X5_isAdmitted hE hpa) (fun g hT => ?_)
          refine ev_if_eq (tgt := 57) dX11_takeGrants_43 (by decide) (fun c_43 => ?_) (fun c_43 => ?_)
          · refine ev_iinc (v := (nI (i + 1))) dX11_takeGrants_57 rfl (nI_1 i) rfl ?_
            refine ev_goto (tgt := 2) dX11_takeGrants_60 (by decide) ?_
            refine ev_none 2 ?_
            exact ih (i + 1) (by omega) (by omega) g (by rw [sp_gr, if_pos c_33, if_neg (cl_a0 c_43)]; exact hT)
          · refine ev_aload_n dX11_takeGrants_46 rfl rfl ?_
            refine cw_getf hE hT dX11_takeGrants_47 fX11_422 (k := 33) (i := i) hi8 ob33 rfl ?_
            refine ev_aload_n dX11_takeGrants_50 rfl rfl ?_
            refine cw_getf hE hT dX11_takeGrants_51 fX11_426 (k := 33) (i := i) hi8 ob33 rfl ?_
            refine cw_putf (k := 20) (i := ((sp_gr C i).1 63 i).toNatClampNeg) (f := 4) (x := ((sp_gr C i).1 63 i).toNatClampNeg) hE hT dX11_takeGrants_54 pX11_261 hpa ob20 (Nat.le_of_ble_eq_true rfl) rfl rfl rfl (by decide) (by decide) pu20_1 (fun g hT => ?_)
            refine ev_iinc (v := (nI (i + 1))) dX11_takeGrants_57 rfl (nI_1 i) rfl ?_
            refine ev_goto (tgt := 2) dX11_takeGrants_60 (by decide) ?_
            refine ev_none 2 ?_
            exact ih (i + 1) (by omega) (by omega) g (by rw [sp_gr, if_pos c_33, if_pos (cl_a1 c_43)]; exact hT)
  exact loop ((sp_A C) + 1) 0 (by omega) (by omega)  g hT
theorem cx_takeGrants_eq (C : mo_S) : cx_X11_takeGrants C = sp_gr C (sp_A C) := rfl
def cx_X11_admit (C : mo_S) (x1 : Int32) : mo_S :=
  (sp_adm C x1 (sp_P C)).2
theorem c_X11_admit {G : ev_G} {W : cw_W} {d : Nat} {C : mo_S} {x1 : Int32} (hE : ev_En G) (hd : 3 ≤ d) : cw_C G W d mX11_admit [.ref (W 0 0), .int x1] C none (cx_X11_admit C x1) := by
  refine cw_start (lv0 := [some (.ref (W 0 0)), some (.int x1), none, none, none]) (by decide +kernel) rfl (Nat.le_of_ble_eq_true rfl) rfl ?_
  intro K g0 g hT
  have hBP := hT.B.1
  have hBR := hT.B.2.1
  have hBA := hT.B.2.2.2.1
  refine ev_iload_n dX11_admit_0 rfl rfl ?_
  refine ev_istore_n dX11_admit_1 rfl (Nat.le_of_ble_eq_true rfl) rfl ?_
  refine ev_iconst (v := 0) dX11_admit_2 (by decide) ?_
  refine ev_istore_n dX11_admit_3 rfl (Nat.le_of_ble_eq_true rfl) rfl ?_
  have loop : ∀ (n i : Nat), i ≤ (sp_P C) → (sp_P C) < i + n → ∀ (x : Int32), x = (sp_adm C x1 i).1 → ∀ g, cw_T G K g0 W g (sp_adm C x1 i).2 → ev_V G d 0 0 mX11_admit (fun o g' => o = .inl none ∧ cw_T G K g0 W g' (cx_X11_admit C x1)) g 4 [some (.ref (W 0 0)), some (.int x1), some (.int x), some (.int (nI i)), none] [] := by
    intro n
    induction n with
    | zero => intro i h1 h2; exact absurd h2 (by omega)
    | succ n ih =>
      intro i h1 h2 x hx g hT
      have hP9 : (sp_adm C x1 i).2.1 1 0 = nI (sp_P C) := by rw [sp_adm_ne (by decide)]; exact hBP.1
      refine ev_iload_n dX11_admit_4 rfl rfl ?_
      refine ev_aload_n dX11_admit_5 rfl rfl ?_
      refine cw_getf hE hT dX11_admit_6 fX11_10 (k := 0) (i := 0) rfl ob0 rfl ?_
      refine cw_size (l := 0) (v := ((sp_adm C x1 i).2.1 1 0)) hE hT dX11_admit_9 lX11_89 (by decide) (Nat.le_of_ble_eq_true rfl) (by omega) rfl ?_
      refine ev_icmp_ge (tgt := 55) dX11_admit_12 (by decide) (fun c_12 => ?_) (fun c_12 => ?_)
      · have e : i = sp_P C ∨ (sp_adm C x1 i).1 ≤ 0 := by
          first
            | (left; have := mo_ige hP9 (by omega) (by omega) c_12; omega)
            | (right; rw [← hx]; exact c_16)
        have ee : (sp_adm C x1 i).2 = (sp_adm C x1 (sp_P C)).2 := by
          rcases e with e | e
          · rw [e]
          · rw [← sp_adm_stop e (sp_P C - i), show i + (sp_P C - i) = sp_P C by omega]
        rw [ee] at hT
        have e9 : cx_X11_admit C x1 = (sp_adm C x1 (sp_P C)).2 := by unfold cx_X11_admit; rfl
        exact ev_vret dX11_admit_55 rfl ⟨rfl, by rw [e9]; exact hT⟩
      · refine ev_iload_n dX11_admit_15 rfl rfl ?_
        refine ev_if_le (tgt := 55) dX11_admit_16 (by decide) (fun c_16 => ?_) (fun c_16 => ?_)
        · have e : i = sp_P C ∨ (sp_adm C x1 i).1 ≤ 0 := by
            first
              | (left; have := mo_ige hP9 (by omega) (by omega) c_12; omega)
              | (right; rw [← hx]; exact c_16)
          have ee : (sp_adm C x1 i).2 = (sp_adm C x1 (sp_P C)).2 := by
            rcases e with e | e
            · rw [e]
            · rw [← sp_adm_stop e (sp_P C - i), show i + (sp_P C - i) = sp_P C by omega]
          rw [ee] at hT
          have e9 : cx_X11_admit C x1 = (sp_adm C x1 (sp_P C)).2 := by unfold cx_X11_admit; rfl
          exact ev_vret dX11_admit_55 rfl ⟨rfl, by rw [e9]; exact hT⟩
        · have hi9 : i < sp_P C := mo_ilt hP9 (by omega) (by omega) c_12
          have hi8 : i < sp_P (sp_adm C x1 i).2 := by rw [sp_P_cg (sp_adm_ne (by decide) i)]; exact hi9
          refine ev_aload_n dX11_admit_19 rfl rfl ?_
          refine cw_getf hE hT dX11_admit_20 fX11_10 (k := 0) (i := 0) rfl ob0 rfl ?_
          refine ev_iload_n dX11_admit_23 rfl rfl ?_
          refine cw_get (l := 0) (q := i) hE hT dX11_admit_24 lX11_138 (by decide) rfl hi8 (Nat.le_of_ble_eq_true rfl) (by omega) ?_
          refine ev_cast hE dX11_admit_27 lkX11_100 ((hT.at (k := 20) (i := i) hi8).1 _ _ ob20) rfl ?_
          refine ev_astore dX11_admit_30 (Nat.le_of_ble_eq_true rfl) rfl ?_
          refine ev_aload dX11_admit_32 rfl ?_
          refine cw_getf hE hT dX11_admit_34 fX11_117 (k := 20) (i := i) hi8 ob20 rfl ?_
          refine ev_if_ne (tgt := 49) dX11_admit_37 (by decide) (fun c_37 => ?_) (fun c_37 => ?_)
          · refine ev_iinc (v := (nI (i + 1))) dX11_admit_49 rfl (nI_1 i) rfl ?_
            refine ev_goto (tgt := 4) dX11_admit_52 (by decide) ?_
            refine ev_none 4 ?_
            have e9 : sp_adm C x1 (i + 1) = sp_adm C x1 i := by rw [sp_adm, if_neg (by rw [← hx]; exact c_16), if_neg c_37]
            exact ih (i + 1) (by omega) (by omega) x (by rw [e9]; exact hx) g (by rw [e9]; exact hT)
          · refine ev_aload dX11_admit_40 rfl ?_
            refine ev_iconst (v := 1) dX11_admit_42 (by decide) ?_
            refine cw_putf (k := 20) (i := i) (f := 12) (x := i) hE hT dX11_admit_43 pX11_117 hi8 ob20 (Nat.le_of_ble_eq_true rfl) rfl rfl rfl (by decide) (by decide) pu20_9 (fun g hT => ?_)
            refine ev_iinc (v := (x + Int32.ofInt (-1))) dX11_admit_46 rfl rfl rfl ?_
            refine ev_iinc (v := (nI (i + 1))) dX11_admit_49 rfl (nI_1 i) rfl ?_
            refine ev_goto (tgt := 4) dX11_admit_52 (by decide) ?_
            refine ev_none 4 ?_
            have e9 : sp_adm C x1 (i + 1) = ((sp_adm C x1 i).1 + Int32.ofInt (-1), mo_up (sp_adm C x1 i).2 12 i 1) := by rw [sp_adm, if_neg (by rw [← hx]; exact c_16), if_pos c_37]
            exact ih (i + 1) (by omega) (by omega) (x + Int32.ofInt (-1)) (by rw [e9, hx]) g (by rw [e9]; exact hT)
  exact loop ((sp_P C) + 1) 0 (by omega) (by omega) _ rfl g hT
/-- shares are had; no bid stands -/
def cx_cs (C : mo_S) (way : Int32) : Nat → mo_S
  | 0 => C
  | n + 1 => if (cx_cs C way n).1 12 n = 1 then (if way = 3 then mo_up (mo_up (mo_up (mo_up (cx_cs C way n) 11 n ((cx_cs C way n).1 11 n + (cx_cs C way n).1 124 n)) 9 n ((cx_cs C way n).1 9 n - (cx_cs C way n).1 124 n * (cx_cs C way n).1 15 n)) 14 n 0) 15 n 0
    else mo_up (mo_up (mo_up (cx_cs C way n) 11 n ((cx_cs C way n).1 11 n + (cx_cs C way n).1 124 n)) 14 n 0) 15 n 0) else mo_up (mo_up (cx_cs C way n) 14 n 0) 15 n 0
theorem cx_cs_ne {C : mo_S} {way : Int32} {k : Nat} (h : k ≠ 11 ∧ k ≠ 9 ∧ k ≠ 14 ∧ k ≠ 15) : ∀ n, (cx_cs C way n).1 k = C.1 k
  | 0 => rfl
  | n + 1 => by
    rw [cx_cs]
    split
    · split
      · rw [mo_up_ne h.2.2.2, mo_up_ne h.2.2.1, mo_up_ne h.2.1, mo_up_ne h.1, cx_cs_ne h n]
      · rw [mo_up_ne h.2.2.2, mo_up_ne h.2.2.1, mo_up_ne h.1, cx_cs_ne h n]
    · rw [mo_up_ne h.2.2.2, mo_up_ne h.2.2.1, cx_cs_ne h n]
def cx_X11_creditShares (C : mo_S) (x1 : Int32) : mo_S :=
  (cx_cs C x1 (sp_P C))
theorem c_X11_creditShares {G : ev_G} {W : cw_W} {d : Nat} {C : mo_S} {x1 : Int32} (hE : ev_En G) (hd : 3 ≤ d) : cw_C G W d mX11_creditShares [.ref (W 0 0), .int x1] C none (cx_X11_creditShares C x1) := by
  refine cw_start (lv0 := [some (.ref (W 0 0)), some (.int x1), none, none, none]) (by decide +kernel) rfl (Nat.le_of_ble_eq_true rfl) rfl ?_
  intro K g0 g hT
  have hBP := hT.B.1
  have hBR := hT.B.2.1
  have hBA := hT.B.2.2.2.1
  refine ev_iconst (v := 0) dX11_creditShares_0 (by decide) ?_
  refine ev_istore_n (lv' := [some (.ref (W 0 0)), some (.int x1), some (.int 0), none, none]) dX11_creditShares_1 rfl (Nat.le_of_ble_eq_true rfl) rfl ?_
  have loop : ∀ (n i : Nat), i ≤ (sp_P C) → (sp_P C) < i + n → ∀ g, cw_T G K g0 W g (cx_cs C x1 i) → ev_V G d 0 0 mX11_creditShares (fun o g' => o = .inl none ∧ cw_T G K g0 W g' (cx_X11_creditShares C x1)) g 2 [some (.ref (W 0 0)), some (.int x1), some (.int (nI i)), none, none] [] := by
    intro n
    induction n with
    | zero => intro i h1 h2; exact absurd h2 (by omega)
    | succ n ih =>
      intro i h1 h2   g hT
      have hP9 : (cx_cs C x1 i).1 1 0 = nI (sp_P C) := by rw [cx_cs_ne (by decide)]; exact hBP.1
      refine ev_iload_n dX11_creditShares_2 rfl rfl ?_
      refine ev_aload_n dX11_creditShares_3 rfl rfl ?_
      refine cw_getf hE hT dX11_creditShares_4 fX11_10 (k := 0) (i := 0) rfl ob0 rfl ?_
      refine cw_size (l := 0) (v := ((cx_cs C x1 i).1 1 0)) hE hT dX11_creditShares_7 lX11_89 (by decide) (Nat.le_of_ble_eq_true rfl) (by omega) rfl ?_
      refine ev_icmp_ge (tgt := 90) dX11_creditShares_10 (by decide) (fun c_10 => ?_) (fun c_10 => ?_)
      · have e : i = sp_P C := by have := mo_ige hP9 (by omega) (by omega) c_10; omega
        subst e
        have e9 : cx_X11_creditShares C x1 = (cx_cs C x1 (sp_P C)) := by unfold cx_X11_creditShares; rfl
        exact ev_vret dX11_creditShares_90 rfl ⟨rfl, by rw [e9]; exact hT⟩
      · have hi9 : i < sp_P C := mo_ilt hP9 (by omega) (by omega) c_10
        have hi8 : i < sp_P (cx_cs C x1 i) := by rw [sp_P_cg (cx_cs_ne (by decide) i)]; exact hi9
        have hi12 : i < 12 := by omega
        refine ev_aload_n dX11_creditShares_13 rfl rfl ?_
        refine cw_getf hE hT dX11_creditShares_14 fX11_10 (k := 0) (i := 0) rfl ob0 rfl ?_
        refine ev_iload_n dX11_creditShares_17 rfl rfl ?_
        refine cw_get (l := 0) (q := i) hE hT dX11_creditShares_18 lX11_138 (by decide) rfl hi8 (Nat.le_of_ble_eq_true rfl) (by omega) ?_
        refine ev_cast hE dX11_creditShares_21 lkX11_100 ((hT.at (k := 20) (i := i) hi8).1 _ _ ob20) rfl ?_
        refine ev_astore_n (lv' := [some (.ref (W 0 0)), some (.int x1), some (.int (nI i)), some (.ref (W 20 i)), none]) dX11_creditShares_24 rfl (Nat.le_of_ble_eq_true rfl) rfl ?_
        refine ev_aload_n dX11_creditShares_25 rfl rfl ?_
        refine cw_call0 (d' := d - 1) hE hT dX11_creditShares_26 rfl kX5_isAdmitted lX11_224 iX5_isAdmitted vX5_isAdmitted (k := 20) (i := i) hi8 ob20 rfl (Nat.le_of_ble_eq_true rfl) (by omega) (c_X5_isAdmitted hE hi8) (fun g hT => ?_)
        refine ev_if_eq (tgt := 74) dX11_creditShares_29 (by decide) (fun c_29 => ?_) (fun c_29 => ?_)
        · refine ev_aload_n dX11_creditShares_74 rfl rfl ?_
          refine ev_iconst (v := 0) dX11_creditShares_75 (by decide) ?_
          refine cw_putf (k := 20) (i := i) (f := 14) (x := i) hE hT dX11_creditShares_76 pX11_228 hi8 ob20 (Nat.le_of_ble_eq_true rfl) rfl rfl rfl (by decide) (by decide) pu20_11 (fun g hT => ?_)
          refine ev_aload_n dX11_creditShares_79 rfl rfl ?_
          refine ev_iconst (v := 0) dX11_creditShares_80 (by decide) ?_
          refine cw_putf (k := 20) (i := i) (f := 15) (x := i) hE hT dX11_creditShares_81 pX11_231 hi8 ob20 (Nat.le_of_ble_eq_true rfl) rfl rfl rfl (by decide) (by decide) pu20_12 (fun g hT => ?_)
          refine ev_iinc (v := (nI (i + 1))) dX11_creditShares_84 rfl (nI_1 i) rfl ?_
          refine ev_goto (tgt := 2) dX11_creditShares_87 (by decide) ?_
          refine ev_none 3 ?_
          refine ev_none 4 ?_
          exact ih (i + 1) (by omega) (by omega) g (by rw [cx_cs, if_neg (cl_a0 c_29)]; exact hT)
        · refine ev_aload_n dX11_creditShares_32 rfl rfl ?_
          refine cw_getf hE hT dX11_creditShares_33 fX11_62 (k := 0) (i := 0) rfl ob0 rfl ?_
          refine ev_iload_n dX11_creditShares_36 rfl rfl ?_
          refine cw_call1 (d' := d - 1) hE hT dX11_creditShares_37 rfl kX6_shareOf lX11_238 iX6_shareOf vX6_shareOf (k := 9) (i := 0) rfl ob9 rfl (Nat.le_of_ble_eq_true rfl) (by omega) (c_X6_shareOf hE hi12) (fun g hT => ?_)
          refine ev_istore (lv' := [some (.ref (W 0 0)), some (.int x1), some (.int (nI i)), some (.ref (W 20 i)), some (.int ((cx_cs C x1 i).1 124 i))]) dX11_creditShares_40 (Nat.le_of_ble_eq_true rfl) rfl ?_
          refine ev_aload_n dX11_creditShares_42 rfl rfl ?_
          refine ev_dup dX11_creditShares_43 rfl ?_
          refine cw_getf hE hT dX11_creditShares_44 fX11_429 (k := 20) (i := i) hi8 ob20 rfl ?_
          refine ev_iload dX11_creditShares_47 rfl ?_
          refine ev_iadd dX11_creditShares_49 ?_
          refine cw_putf (k := 20) (i := i) (f := 11) (x := i) hE hT dX11_creditShares_50 pX11_429 hi8 ob20 (Nat.le_of_ble_eq_true rfl) rfl rfl rfl (by decide) (by decide) pu20_8 (fun g hT => ?_)
          refine ev_iload_n dX11_creditShares_53 rfl rfl ?_
          refine ev_iconst (v := 3) dX11_creditShares_54 (by decide) ?_
          refine ev_icmp_ne (tgt := 74) dX11_creditShares_55 (by decide) (fun c_55 => ?_) (fun c_55 => ?_)
          · refine ev_aload_n dX11_creditShares_74 rfl rfl ?_
            refine ev_iconst (v := 0) dX11_creditShares_75 (by decide) ?_
            refine cw_putf (k := 20) (i := i) (f := 14) (x := i) hE hT dX11_creditShares_76 pX11_228 hi8 ob20 (Nat.le_of_ble_eq_true rfl) rfl rfl rfl (by decide) (by decide) pu20_11 (fun g hT => ?_)
            refine ev_aload_n dX11_creditShares_79 rfl rfl ?_
            refine ev_iconst (v := 0) dX11_creditShares_80 (by decide) ?_
            refine cw_putf (k := 20) (i := i) (f := 15) (x := i) hE hT dX11_creditShares_81 pX11_231 hi8 ob20 (Nat.le_of_ble_eq_true rfl) rfl rfl rfl (by decide) (by decide) pu20_12 (fun g hT => ?_)
            refine ev_iinc (v := (nI (i + 1))) dX11_creditShares_84 rfl (nI_1 i) rfl ?_
            refine ev_goto (tgt := 2) dX11_creditShares_87 (by decide) ?_
            refine ev_none 3 ?_
            refine ev_none 4 ?_
            exact ih (i + 1) (by omega) (by omega) g (by rw [cx_cs, if_pos (cl_a1 c_29), if_neg c_55]; exact hT)
          · refine ev_aload_n dX11_creditShares_58 rfl rfl ?_
            refine ev_dup dX11_creditShares_59 rfl ?_
            refine cw_geti (v2 := ((cx_cs C x1 i).1 9 i)) hE hT dX11_creditShares_60 fX11_432 (k := 20) (i := i) hi8 ob20 rfl (by simp [mo_up]) ?_
            refine ev_iload dX11_creditShares_63 rfl ?_
            refine ev_aload_n dX11_creditShares_65 rfl rfl ?_
            refine cw_geti (v2 := ((cx_cs C x1 i).1 15 i)) hE hT dX11_creditShares_66 fX11_231 (k := 20) (i := i) hi8 ob20 rfl (by simp [mo_up]) ?_
            refine ev_imul dX11_creditShares_69 ?_
            refine ev_isub dX11_creditShares_70 ?_
            refine cw_putf (k := 20) (i := i) (f := 9) (x := i) hE hT dX11_creditShares_71 pX11_432 hi8 ob20 (Nat.le_of_ble_eq_true rfl) rfl rfl rfl (by decide) (by decide) pu20_6 (fun g hT => ?_)
            refine ev_aload_n dX11_creditShares_74 rfl rfl ?_
            refine ev_iconst (v := 0) dX11_creditShares_75 (by decide) ?_
            refine cw_putf (k := 20) (i := i) (f := 14) (x := i) hE hT dX11_creditShares_76 pX11_228 hi8 ob20 (Nat.le_of_ble_eq_true rfl) rfl rfl rfl (by decide) (by decide) pu20_11 (fun g hT => ?_)
            refine ev_aload_n dX11_creditShares_79 rfl rfl ?_
            refine ev_iconst (v := 0) dX11_creditShares_80 (by decide) ?_
            refine cw_putf (k := 20) (i := i) (f := 15) (x := i) hE hT dX11_creditShares_81 pX11_231 hi8 ob20 (Nat.le_of_ble_eq_true rfl) rfl rfl rfl (by decide) (by decide) pu20_12 (fun g hT => ?_)
            refine ev_iinc (v := (nI (i + 1))) dX11_creditShares_84 rfl (nI_1 i) rfl ?_
            refine ev_goto (tgt := 2) dX11_creditShares_87 (by decide) ?_
            refine ev_none 3 ?_
            refine ev_none 4 ?_
            exact ih (i + 1) (by omega) (by omega) g (by rw [cx_cs, if_pos (cl_a1 c_29), if_pos c_55]; exact hT)
  exact loop ((sp_P C) + 1) 0 (by omega) (by omega)  g hT
/-- what is told of the most owed one so far -/
def cx_ow (C : mo_S) (i : Nat) (x z : Int32) : Prop := x = sp_opt (sp_owed C i) ∧ z = (match sp_owed C i with | none => 0 | some b => C.1 11 b) ∧ ∀ b, sp_owed C i = some b → 0 < C.1 11 b
theorem cx_ow_a {C : mo_S} {i : Nat} {x z : Int32} (h : cx_ow C i x z) (c : ¬ C.1 12 i = 1) : cx_ow C (i + 1) x z := by
  have e : sp_owed C (i + 1) = sp_owed C i := by rw [sp_owed, if_neg c]
  unfold cx_ow
  rw [e]
  exact h
theorem cx_ow_b {C : mo_S} {i : Nat} {x z : Int32} (h : cx_ow C i x z) (c : C.1 12 i = 1) (c2 : C.1 11 i ≤ z) : cx_ow C (i + 1) x z := by
  have e : sp_owed C (i + 1) = sp_owed C i := by
    rw [sp_owed, if_pos c]
    obtain ⟨h1, h2, h3⟩ := h
    cases ho : sp_owed C i with
    | none =>
      rw [ho] at h2
      have h2 : z = 0 := h2
      rw [if_pos (by rw [← h2]; exact c2)]
    | some b =>
      rw [ho] at h2
      dsimp only at h2 ⊢
      split
      · rfl
      · rw [if_pos (by rw [← h2]; exact c2)]
  unfold cx_ow
  rw [e]
  exact h
theorem cx_ow_c {C : mo_S} {i : Nat} {x z : Int32} (h : cx_ow C i x z) (c : C.1 12 i = 1) (c2 : ¬ C.1 11 i ≤ z) : cx_ow C (i + 1) (nI i) (C.1 11 i) := by
  obtain ⟨h1, h2, h3⟩ := h
  have hz : 0 ≤ z := by
    cases ho : sp_owed C i with
    | none => rw [ho] at h2; have h2 : z = 0 := h2; rw [h2]; decide
    | some b => rw [ho] at h2; dsimp only at h2; rw [h2]; exact Int32.le_of_lt (h3 b ho)
  have hp : 0 < C.1 11 i := Int32.lt_of_le_of_lt hz (Int32.not_le.mp c2)
  have e : sp_owed C (i + 1) = some i := by
    rw [sp_owed, if_pos c, if_neg (Int32.not_le.mpr hp)]
    cases ho : sp_owed C i with
    | none => rfl
    | some b =>
      rw [ho] at h2
      dsimp only at h2 ⊢
      rw [if_neg (by rw [← h2]; exact c2)]
  unfold cx_ow
  rw [e]
  exact ⟨rfl, rfl, fun b hb => by cases hb; exact hp⟩
def cx_X11_mostOwed (C : mo_S)  : Int32 :=
  (sp_opt (sp_owed C (sp_P C)))
theorem c_X11_mostOwed {G : ev_G} {W : cw_W} {d : Nat} {C : mo_S}  (hE : ev_En G) (hd : 3 ≤ d) : cw_C G W d mX11_mostOwed [.ref (W 0 0)] C (some (.int (cx_X11_mostOwed C))) C := by
  refine cw_start (lv0 := [some (.ref (W 0 0)), none, none, none, none]) (by decide +kernel) rfl (Nat.le_of_ble_eq_true rfl) rfl ?_
  intro K g0 g hT
  have hBP := hT.B.1
  have hBR := hT.B.2.1
  have hBA := hT.B.2.2.2.1
  refine ev_iconst (v := (-1)) dX11_mostOwed_0 (by decide) ?_
  refine ev_istore_n dX11_mostOwed_1 rfl (Nat.le_of_ble_eq_true rfl) rfl ?_
  refine ev_iconst (v := 0) dX11_mostOwed_2 (by decide) ?_
  refine ev_istore_n dX11_mostOwed_3 rfl (Nat.le_of_ble_eq_true rfl) rfl ?_
  refine ev_iconst (v := 0) dX11_mostOwed_4 (by decide) ?_
  refine ev_istore_n dX11_mostOwed_5 rfl (Nat.le_of_ble_eq_true rfl) rfl ?_
  have loop : ∀ (n i : Nat), i ≤ (sp_P C) → (sp_P C) < i + n → ∀ (x : Int32) (z : Int32), cx_ow C i x z → ∀ g, cw_T G K g0 W g C → ev_V G d 0 0 mX11_mostOwed (fun o g' => o = .inl (some (.int (cx_X11_mostOwed C))) ∧ cw_T G K g0 W g' C) g 6 [some (.ref (W 0 0)), some (.int x), some (.int z), some (.int (nI i)), none] [] := by
    intro n
    induction n with
    | zero => intro i h1 h2; exact absurd h2 (by omega)
    | succ n ih =>
      intro i h1 h2 x z hx g hT
      refine ev_iload_n dX11_mostOwed_6 rfl rfl ?_
      refine ev_aload_n dX11_mostOwed_7 rfl rfl ?_
      refine cw_getf hE hT dX11_mostOwed_8 fX11_10 (k := 0) (i := 0) rfl ob0 rfl ?_
      refine cw_size (l := 0) (v := (C.1 1 0)) hE hT dX11_mostOwed_11 lX11_89 (by decide) (Nat.le_of_ble_eq_true rfl) (by omega) rfl ?_
      refine ev_icmp_ge (tgt := 61) dX11_mostOwed_14 (by decide) (fun c_14 => ?_) (fun c_14 => ?_)
      · have e : i = sp_P C := by have := mo_ige hBP.1 (by omega) (by omega) c_14; omega
        subst e
        have hx1 := hx.1
        subst hx1
        refine ev_iload_n dX11_mostOwed_61 rfl rfl ?_
        have e9 : cx_X11_mostOwed C = (sp_opt (sp_owed C (sp_P C))) := by unfold cx_X11_mostOwed; rfl
        exact ev_iret dX11_mostOwed_62 rfl rfl ⟨by rw [e9], hT⟩
      · have hi8 : i < sp_P C := mo_ilt hBP.1 (by omega) (by omega) c_14
        refine ev_aload_n dX11_mostOwed_17 rfl rfl ?_
        refine cw_getf hE hT dX11_mostOwed_18 fX11_10 (k := 0) (i := 0) rfl ob0 rfl ?_
        refine ev_iload_n dX11_mostOwed_21 rfl rfl ?_
        refine cw_get (l := 0) (q := i) hE hT dX11_mostOwed_22 lX11_138 (by decide) rfl hi8 (Nat.le_of_ble_eq_true rfl) (by omega) ?_
        refine ev_cast hE dX11_mostOwed_25 lkX11_100 ((hT.at (k := 20) (i := i) hi8).1 _ _ ob20) rfl ?_
        refine ev_astore dX11_mostOwed_28 (Nat.le_of_ble_eq_true rfl) rfl ?_
        refine ev_aload dX11_mostOwed_30 rfl ?_
        refine cw_call0 (d' := d - 1) hE hT dX11_mostOwed_32 rfl kX5_isAdmitted lX11_224 iX5_isAdmitted vX5_isAdmitted (k := 20) (i := i) hi8 ob20 rfl (Nat.le_of_ble_eq_true rfl) (by omega) (c_X5_isAdmitted hE hi8) (fun g hT => ?_)
        refine ev_if_eq (tgt := 55) dX11_mostOwed_35 (by decide) (fun c_35 => ?_) (fun c_35 => ?_)
        · refine ev_iinc (v := (nI (i + 1))) dX11_mostOwed_55 rfl (nI_1 i) rfl ?_
          refine ev_goto (tgt := 6) dX11_mostOwed_58 (by decide) ?_
          refine ev_none 4 ?_
          exact ih (i + 1) (by omega) (by omega) x z (cx_ow_a hx (cl_a0 c_35)) g hT
        · refine ev_aload dX11_mostOwed_38 rfl ?_
          refine cw_getf hE hT dX11_mostOwed_40 fX11_429 (k := 20) (i := i) hi8 ob20 rfl ?_
          refine ev_iload_n dX11_mostOwed_43 rfl rfl ?_
          refine ev_icmp_le (tgt := 55) dX11_mostOwed_44 (by decide) (fun c_44 => ?_) (fun c_44 => ?_)
          · refine ev_iinc (v := (nI (i + 1))) dX11_mostOwed_55 rfl (nI_1 i) rfl ?_
            refine ev_goto (tgt := 6) dX11_mostOwed_58 (by decide) ?_
            refine ev_none 4 ?_
            exact ih (i + 1) (by omega) (by omega) x z (cx_ow_b hx (cl_a1 c_35) c_44) g hT
          · refine ev_iload_n dX11_mostOwed_47 rfl rfl ?_
            refine ev_istore_n dX11_mostOwed_48 rfl (Nat.le_of_ble_eq_true rfl) rfl ?_
            refine ev_aload dX11_mostOwed_49 rfl ?_
            refine cw_getf hE hT dX11_mostOwed_51 fX11_429 (k := 20) (i := i) hi8 ob20 rfl ?_
            refine ev_istore_n dX11_mostOwed_54 rfl (Nat.le_of_ble_eq_true rfl) rfl ?_
            refine ev_iinc (v := (nI (i + 1))) dX11_mostOwed_55 rfl (nI_1 i) rfl ?_
            refine ev_goto (tgt := 6) dX11_mostOwed_58 (by decide) ?_
            refine ev_none 4 ?_
            exact ih (i + 1) (by omega) (by omega) (nI i) (C.1 11 i) (cx_ow_c hx (cl_a1 c_35) c_44) g hT
  exact loop ((sp_P C) + 1) 0 (by omega) (by omega) (-1) 0 ⟨rfl, rfl, fun b h => (by cases h)⟩ g hT
end CF
