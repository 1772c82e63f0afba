section CM2
theorem c_X11_pool {G : ev_G} {W : cw_W} {d : Nat} {C : mo_S}  (hE : ev_En G) (hd : 3 ≤ d) : cw_C G W d mX11_pool [.ref (W 0 0)] C (some (.int (sp_pool C (sp_R C)))) C := by
  refine cw_start (lv0 := [some (.ref (W 0 0)), none, none, none]) (by decide +kernel) rfl (Nat.le_of_ble_eq_true rfl) rfl ?_
  intro K g0 g hT
  obtain ⟨hBP, hBR, hBO, hBA, hBM, hBc, hBl⟩ := id hT.B
  refine ev_iconst (v := 0) dX11_pool_0 (by decide) ?_
  refine ev_istore_n dX11_pool_1 rfl (Nat.le_of_ble_eq_true rfl) rfl ?_
  refine ev_iconst (v := 0) dX11_pool_2 (by decide) ?_
  refine ev_istore_n dX11_pool_3 rfl (Nat.le_of_ble_eq_true rfl) rfl ?_
  have loop : ∀ (n i : Nat), i ≤ (sp_R C) → (sp_R C) < i + n → ∀ (x : Int32), x = sp_pool C i → ∀ g, cw_T G K g0 W g C → ev_V G d 0 0 mX11_pool (fun o g' => o = .inl (some (.int (sp_pool C (sp_R C)))) ∧ cw_T G K g0 W g' C) g 4 [some (.ref (W 0 0)), some (.int x), some (.int (nI i)), none] [] := by
    intro n
    induction n with
    | zero => intro i h1 h2; exact absurd h2 (by omega)
    | succ n ih =>
      intro i h1 h2 x hx g hT
      refine ev_iload_n dX11_pool_4 rfl rfl ?_
      refine ev_aload_n dX11_pool_5 rfl rfl ?_
      refine cw_getf hE hT dX11_pool_6 fX11_16 (k := 0) (i := 0) rfl ob0 rfl ?_
      refine cw_size (l := 1) (v := (C.1 21 0)) hE hT dX11_pool_9 lX11_89 (by decide) (Nat.le_of_ble_eq_true rfl) (by omega) rfl ?_
      refine ev_icmp_ge (tgt := 48) dX11_pool_12 (by decide) (fun c_12 => ?_) (fun c_12 => ?_)
      · have e : i = sp_R C := by have := mo_ige hBR.1 (by omega) (by omega) c_12; omega
        subst hx
        rw [e]
        refine ev_iload_n dX11_pool_48 rfl rfl ?_
        exact ev_iret dX11_pool_49 rfl rfl ⟨rfl, hT⟩
      · have hi9 : i < sp_R C := mo_ilt hBR.1 (by omega) (by omega) c_12
        refine ev_aload_n dX11_pool_15 rfl rfl ?_
        refine cw_getf hE hT dX11_pool_16 fX11_16 (k := 0) (i := 0) rfl ob0 rfl ?_
        refine ev_iload_n dX11_pool_19 rfl rfl ?_
        refine cw_get (l := 1) (q := i) hE hT dX11_pool_20 lX11_138 (by decide) rfl hi9 (Nat.le_of_ble_eq_true rfl) (by omega) ?_
        refine ev_cast hE dX11_pool_23 lkX11_128 ((hT.at (k := 27) (i := i) hi9).1 _ _ ob27) rfl ?_
        refine ev_astore_n dX11_pool_26 rfl (Nat.le_of_ble_eq_true rfl) rfl ?_
        refine ev_aload_n dX11_pool_27 rfl rfl ?_
        refine cw_getf hE hT dX11_pool_28 fX11_135 (k := 27) (i := i) hi9 ob27 rfl ?_
        refine ev_iconst (v := (-1)) dX11_pool_31 (by decide) ?_
        refine ev_icmp_ne (tgt := 42) dX11_pool_32 (by decide) (fun c_32 => ?_) (fun c_32 => ?_)
        · refine ev_iinc (v := (nI (i + 1))) dX11_pool_42 rfl (nI_1 i) rfl ?_
          refine ev_goto (tgt := 4) dX11_pool_45 (by decide) ?_
          refine ev_none 3 ?_
          first
            | exact ih (i + 1) (by omega) (by omega) _ (by subst hx; simp only [sp_pool]; rw [if_pos c_32]) g hT
            | exact ih (i + 1) (by omega) (by omega) _ (by subst hx; simp only [sp_pool]; rw [if_neg c_32]; exact (Int32.add_zero _).symm) g hT
        · refine ev_iload_n dX11_pool_35 rfl rfl ?_
          refine ev_aload_n dX11_pool_36 rfl rfl ?_
          refine cw_getf hE hT dX11_pool_37 fX11_145 (k := 27) (i := i) hi9 ob27 rfl ?_
          refine ev_iadd dX11_pool_40 ?_
          refine ev_istore_n dX11_pool_41 rfl (Nat.le_of_ble_eq_true rfl) rfl ?_
          refine ev_iinc (v := (nI (i + 1))) dX11_pool_42 rfl (nI_1 i) rfl ?_
          refine ev_goto (tgt := 4) dX11_pool_45 (by decide) ?_
          refine ev_none 3 ?_
          first
            | exact ih (i + 1) (by omega) (by omega) _ (by subst hx; simp only [sp_pool]; rw [if_pos c_32]) g hT
            | exact ih (i + 1) (by omega) (by omega) _ (by subst hx; simp only [sp_pool]; rw [if_neg c_32]; exact (Int32.add_zero _).symm) g hT
  exact loop ((sp_R C) + 1) 0 (by omega) (by omega) 0 rfl g hT
theorem c_X11_reelsStolen {G : ev_G} {W : cw_W} {d : Nat} {C : mo_S}  (hE : ev_En G) (hd : 3 ≤ d) : cw_C G W d mX11_reelsStolen [.ref (W 0 0)] C (some (.int (sp_stol C (sp_R C)))) C := by
  refine cw_start (lv0 := [some (.ref (W 0 0)), none, none]) (by decide +kernel) rfl (Nat.le_of_ble_eq_true rfl) rfl ?_
  intro K g0 g hT
  obtain ⟨hBP, hBR, hBO, hBA, hBM, hBc, hBl⟩ := id hT.B
  refine ev_iconst (v := 0) dX11_reelsStolen_0 (by decide) ?_
  refine ev_istore_n dX11_reelsStolen_1 rfl (Nat.le_of_ble_eq_true rfl) rfl ?_
  refine ev_iconst (v := 0) dX11_reelsStolen_2 (by decide) ?_
  refine ev_istore_n dX11_reelsStolen_3 rfl (Nat.le_of_ble_eq_true rfl) rfl ?_
  have loop : ∀ (n i : Nat), i ≤ (sp_R C) → (sp_R C) < i + n → ∀ (x : Int32), x = sp_stol C i → ∀ g, cw_T G K g0 W g C → ev_V G d 0 0 mX11_reelsStolen (fun o g' => o = .inl (some (.int (sp_stol C (sp_R C)))) ∧ cw_T G K g0 W g' C) g 4 [some (.ref (W 0 0)), some (.int x), some (.int (nI i))] [] := by
    intro n
    induction n with
    | zero => intro i h1 h2; exact absurd h2 (by omega)
    | succ n ih =>
      intro i h1 h2 x hx g hT
      refine ev_iload_n dX11_reelsStolen_4 rfl rfl ?_
      refine ev_aload_n dX11_reelsStolen_5 rfl rfl ?_
      refine cw_getf hE hT dX11_reelsStolen_6 fX11_16 (k := 0) (i := 0) rfl ob0 rfl ?_
      refine cw_size (l := 1) (v := (C.1 21 0)) hE hT dX11_reelsStolen_9 lX11_89 (by decide) (Nat.le_of_ble_eq_true rfl) (by omega) rfl ?_
      refine ev_icmp_ge (tgt := 43) dX11_reelsStolen_12 (by decide) (fun c_12 => ?_) (fun c_12 => ?_)
      · have e : i = sp_R C := by have := mo_ige hBR.1 (by omega) (by omega) c_12; omega
        subst hx
        rw [e]
        refine ev_iload_n dX11_reelsStolen_43 rfl rfl ?_
        exact ev_iret dX11_reelsStolen_44 rfl rfl ⟨rfl, hT⟩
      · have hi9 : i < sp_R C := mo_ilt hBR.1 (by omega) (by omega) c_12
        refine ev_aload_n dX11_reelsStolen_15 rfl rfl ?_
        refine cw_getf hE hT dX11_reelsStolen_16 fX11_16 (k := 0) (i := 0) rfl ob0 rfl ?_
        refine ev_iload_n dX11_reelsStolen_19 rfl rfl ?_
        refine cw_get (l := 1) (q := i) hE hT dX11_reelsStolen_20 lX11_138 (by decide) rfl hi9 (Nat.le_of_ble_eq_true rfl) (by omega) ?_
        refine ev_cast hE dX11_reelsStolen_23 lkX11_128 ((hT.at (k := 27) (i := i) hi9).1 _ _ ob27) rfl ?_
        refine cw_getf hE hT dX11_reelsStolen_26 fX11_135 (k := 27) (i := i) hi9 ob27 rfl ?_
        refine ev_bipush (v := (-2)) dX11_reelsStolen_29 (by decide) ?_
        refine ev_icmp_ne (tgt := 37) dX11_reelsStolen_31 (by decide) (fun c_31 => ?_) (fun c_31 => ?_)
        · refine ev_iinc (v := (nI (i + 1))) dX11_reelsStolen_37 rfl (nI_1 i) rfl ?_
          refine ev_goto (tgt := 4) dX11_reelsStolen_40 (by decide) ?_
          first
            | exact ih (i + 1) (by omega) (by omega) _ (by subst hx; simp only [sp_stol]; rw [if_pos c_31]; rfl) g hT
            | exact ih (i + 1) (by omega) (by omega) _ (by subst hx; simp only [sp_stol]; rw [if_neg c_31]; exact (Int32.add_zero _).symm) g hT
        · refine ev_iinc (v := (x + Int32.ofInt 1)) dX11_reelsStolen_34 rfl rfl rfl ?_
          refine ev_iinc (v := (nI (i + 1))) dX11_reelsStolen_37 rfl (nI_1 i) rfl ?_
          refine ev_goto (tgt := 4) dX11_reelsStolen_40 (by decide) ?_
          first
            | exact ih (i + 1) (by omega) (by omega) _ (by subst hx; simp only [sp_stol]; rw [if_pos c_31]; rfl) g hT
            | exact ih (i + 1) (by omega) (by omega) _ (by subst hx; simp only [sp_stol]; rw [if_neg c_31]; exact (Int32.add_zero _).symm) g hT
  exact loop ((sp_R C) + 1) 0 (by omega) (by omega) 0 rfl g hT
theorem c_X11_papersThatAre {G : ev_G} {W : cw_W} {d : Nat} {C : mo_S} {x1 : Int32} (hE : ev_En G) (hd : 3 ≤ d) : cw_C G W d mX11_papersThatAre [.ref (W 0 0), .int x1] C (some (.int (sp_many C x1 (sp_P C)))) C := by
  refine cw_start (lv0 := [some (.ref (W 0 0)), some (.int x1), none, none]) (by decide +kernel) rfl (Nat.le_of_ble_eq_true rfl) rfl ?_
  intro K g0 g hT
  obtain ⟨hBP, hBR, hBO, hBA, hBM, hBc, hBl⟩ := id hT.B
  refine ev_iconst (v := 0) dX11_papersThatAre_0 (by decide) ?_
  refine ev_istore_n dX11_papersThatAre_1 rfl (Nat.le_of_ble_eq_true rfl) rfl ?_
  refine ev_iconst (v := 0) dX11_papersThatAre_2 (by decide) ?_
  refine ev_istore_n dX11_papersThatAre_3 rfl (Nat.le_of_ble_eq_true rfl) rfl ?_
  have loop : ∀ (n i : Nat), i ≤ (sp_P C) → (sp_P C) < i + n → ∀ (x : Int32), x = sp_many C x1 i → ∀ g, cw_T G K g0 W g C → ev_V G d 0 0 mX11_papersThatAre (fun o g' => o = .inl (some (.int (sp_many C x1 (sp_P C)))) ∧ cw_T G K g0 W g' C) g 4 [some (.ref (W 0 0)), some (.int x1), some (.int x), some (.int (nI i))] [] := by
    intro n
    induction n with
    | zero => intro i h1 h2; exact absurd h2 (by omega)
    | succ n ih =>
      intro i h1 h2 x hx g hT
      refine ev_iload_n dX11_papersThatAre_4 rfl rfl ?_
      refine ev_aload_n dX11_papersThatAre_5 rfl rfl ?_
      refine cw_getf hE hT dX11_papersThatAre_6 fX11_10 (k := 0) (i := 0) rfl ob0 rfl ?_
      refine cw_size (l := 0) (v := (C.1 1 0)) hE hT dX11_papersThatAre_9 lX11_89 (by decide) (Nat.le_of_ble_eq_true rfl) (by omega) rfl ?_
      refine ev_icmp_ge (tgt := 42) dX11_papersThatAre_12 (by decide) (fun c_12 => ?_) (fun c_12 => ?_)
      · have e : i = sp_P C := by have := mo_ige hBP.1 (by omega) (by omega) c_12; omega
        subst hx
        rw [e]
        refine ev_iload_n dX11_papersThatAre_42 rfl rfl ?_
        exact ev_iret dX11_papersThatAre_43 rfl rfl ⟨rfl, hT⟩
      · have hi9 : i < sp_P C := mo_ilt hBP.1 (by omega) (by omega) c_12
        refine ev_aload_n dX11_papersThatAre_15 rfl rfl ?_
        refine cw_getf hE hT dX11_papersThatAre_16 fX11_10 (k := 0) (i := 0) rfl ob0 rfl ?_
        refine ev_iload_n dX11_papersThatAre_19 rfl rfl ?_
        refine cw_get (l := 0) (q := i) hE hT dX11_papersThatAre_20 lX11_138 (by decide) rfl hi9 (Nat.le_of_ble_eq_true rfl) (by omega) ?_
        refine ev_cast hE dX11_papersThatAre_23 lkX11_100 ((hT.at (k := 20) (i := i) hi9).1 _ _ ob20) rfl ?_
        refine cw_getf hE hT dX11_papersThatAre_26 fX11_117 (k := 20) (i := i) hi9 ob20 rfl ?_
        refine ev_iload_n dX11_papersThatAre_29 rfl rfl ?_
        refine ev_icmp_ne (tgt := 36) dX11_papersThatAre_30 (by decide) (fun c_30 => ?_) (fun c_30 => ?_)
        · refine ev_iinc (v := (nI (i + 1))) dX11_papersThatAre_36 rfl (nI_1 i) rfl ?_
          refine ev_goto (tgt := 4) dX11_papersThatAre_39 (by decide) ?_
          first
            | exact ih (i + 1) (by omega) (by omega) _ (by subst hx; simp only [sp_many]; rw [if_pos c_30]; rfl) g hT
            | exact ih (i + 1) (by omega) (by omega) _ (by subst hx; simp only [sp_many]; rw [if_neg c_30]; exact (Int32.add_zero _).symm) g hT
        · refine ev_iinc (v := (x + Int32.ofInt 1)) dX11_papersThatAre_33 rfl rfl rfl ?_
          refine ev_iinc (v := (nI (i + 1))) dX11_papersThatAre_36 rfl (nI_1 i) rfl ?_
          refine ev_goto (tgt := 4) dX11_papersThatAre_39 (by decide) ?_
          first
            | exact ih (i + 1) (by omega) (by omega) _ (by subst hx; simp only [sp_many]; rw [if_pos c_30]; rfl) g hT
            | exact ih (i + 1) (by omega) (by omega) _ (by subst hx; simp only [sp_many]; rw [if_neg c_30]; exact (Int32.add_zero _).symm) g hT
  exact loop ((sp_P C) + 1) 0 (by omega) (by omega) 0 rfl g hT
theorem c_X11_demandOf {G : ev_G} {W : cw_W} {d : Nat} {C : mo_S} {p : Nat} {x1 : Int32} (hE : ev_En G) (hp : p < sp_P C) (hW : C.1 24 0 = nI (sp_W C)) (hW2 : sp_W C ≤ 5) : cw_C G W d mX11_demandOf [.ref (W 0 0), .ref (W 20 p), .int x1] C (some (.int (sp_demand C p x1 (sp_W C)))) C := by
  refine cw_start (lv0 := [some (.ref (W 0 0)), some (.ref (W 20 p)), some (.int x1), none, none]) (by decide +kernel) rfl (Nat.le_of_ble_eq_true rfl) rfl ?_
  intro K g0 g hT
  refine ev_iconst (v := 0) dX11_demandOf_0 (by decide) ?_
  refine ev_istore_n dX11_demandOf_1 rfl (Nat.le_of_ble_eq_true rfl) rfl ?_
  refine ev_iconst (v := 0) dX11_demandOf_2 (by decide) ?_
  refine ev_istore dX11_demandOf_3 (Nat.le_of_ble_eq_true rfl) rfl ?_
  have loop : ∀ (n i : Nat), i ≤ (sp_W C) → (sp_W C) < i + n → ∀ (x : Int32), x = sp_demand C p x1 i → ∀ g, cw_T G K g0 W g C → ev_V G d 0 0 mX11_demandOf (fun o g' => o = .inl (some (.int (sp_demand C p x1 (sp_W C)))) ∧ cw_T G K g0 W g' C) g 5 [some (.ref (W 0 0)), some (.ref (W 20 p)), some (.int x1), some (.int x), some (.int (nI i))] [] := by
    intro n
    induction n with
    | zero => intro i h1 h2; exact absurd h2 (by omega)
    | succ n ih =>
      intro i h1 h2 x hx g hT
      refine ev_iload dX11_demandOf_5 rfl ?_
      refine ev_aload_n dX11_demandOf_7 rfl rfl ?_
      refine cw_getf hE hT dX11_demandOf_8 fX11_29 (k := 0) (i := 0) rfl ob0 rfl ?_
      refine ev_icmp_ge (tgt := 67) dX11_demandOf_11 (by decide) (fun c_11 => ?_) (fun c_11 => ?_)
      · have e : i = sp_W C := by
          first
            | (have := mo_ige hW (by omega) (by omega) c_11; omega)
            | (have := mo_ige (R := 5) rfl (by omega) (by omega) c_21; omega)
            | (have := mo_ige (R := 5) rfl (by omega) (by omega) c_31; omega)
        subst hx
        rw [e]
        refine ev_iload_n dX11_demandOf_67 rfl rfl ?_
        exact ev_iret dX11_demandOf_68 rfl rfl ⟨rfl, hT⟩
      · refine ev_iload dX11_demandOf_14 rfl ?_
        refine ev_aload_n dX11_demandOf_16 rfl rfl ?_
        refine cw_getf hE hT dX11_demandOf_17 fX11_25 (k := 0) (i := 0) rfl ob0 rfl ?_
        refine cw_alen (n := 5) hE hT dX11_demandOf_20 (k := 3) (i := 0) rfl ar3 ?_
        refine ev_icmp_ge (tgt := 67) dX11_demandOf_21 (by decide) (fun c_21 => ?_) (fun c_21 => ?_)
        · have e : i = sp_W C := by
            first
              | (have := mo_ige hW (by omega) (by omega) c_11; omega)
              | (have := mo_ige (R := 5) rfl (by omega) (by omega) c_21; omega)
              | (have := mo_ige (R := 5) rfl (by omega) (by omega) c_31; omega)
          subst hx
          rw [e]
          refine ev_iload_n dX11_demandOf_67 rfl rfl ?_
          exact ev_iret dX11_demandOf_68 rfl rfl ⟨rfl, hT⟩
        · refine ev_iload dX11_demandOf_24 rfl ?_
          refine ev_aload_n dX11_demandOf_26 rfl rfl ?_
          refine cw_getf hE hT dX11_demandOf_27 fX11_153 (k := 20) (i := p) hp ob20 rfl ?_
          refine cw_alen (n := 5) hE hT dX11_demandOf_30 (k := 21) (i := p) hp ar21 ?_
          refine ev_icmp_ge (tgt := 67) dX11_demandOf_31 (by decide) (fun c_31 => ?_) (fun c_31 => ?_)
          · have e : i = sp_W C := by
              first
                | (have := mo_ige hW (by omega) (by omega) c_11; omega)
                | (have := mo_ige (R := 5) rfl (by omega) (by omega) c_21; omega)
                | (have := mo_ige (R := 5) rfl (by omega) (by omega) c_31; omega)
            subst hx
            rw [e]
            refine ev_iload_n dX11_demandOf_67 rfl rfl ?_
            exact ev_iret dX11_demandOf_68 rfl rfl ⟨rfl, hT⟩
          · have hi9 : i < sp_W C := mo_ilt hW (by omega) (by omega) c_11
            have hp12 : p < 12 := by have := hT.B.1.2; omega
            refine ev_iload_n dX11_demandOf_34 rfl rfl ?_
            refine ev_aload_n dX11_demandOf_35 rfl rfl ?_
            refine cw_getf hE hT dX11_demandOf_36 fX11_25 (k := 0) (i := 0) rfl ob0 rfl ?_
            refine ev_iload dX11_demandOf_39 rfl ?_
            refine cw_ial (q := i) (v := (C.1 25 i)) hE hT dX11_demandOf_41 (k := 3) (i := 0) rfl ar3 rfl (show i < 5 by omega) (by decide) rfl ?_
            refine ev_aload_n dX11_demandOf_42 rfl rfl ?_
            refine cw_getf hE hT dX11_demandOf_43 fX11_153 (k := 20) (i := p) hp ob20 rfl ?_
            refine ev_iload dX11_demandOf_46 rfl ?_
            refine cw_ial (q := i) (v := (C.1 26 (12 * i + p))) hE hT dX11_demandOf_48 (k := 21) (i := p) hp ar21 rfl (show i < 5 by omega) (by decide) rfl ?_
            refine ev_imul dX11_demandOf_49 ?_
            refine ev_bipush (v := 100) dX11_demandOf_50 (by decide) ?_
            refine ev_iload_n dX11_demandOf_52 rfl rfl ?_
            refine ev_isub dX11_demandOf_53 ?_
            refine ev_imul dX11_demandOf_54 ?_
            refine ev_sipush (v := 10000) dX11_demandOf_55 (by decide) ?_
            refine ev_idiv dX11_demandOf_58 (by decide) ?_
            refine ev_iadd dX11_demandOf_59 ?_
            refine ev_istore_n dX11_demandOf_60 rfl (Nat.le_of_ble_eq_true rfl) rfl ?_
            refine ev_iinc (v := (nI (i + 1))) dX11_demandOf_61 rfl (nI_1 i) rfl ?_
            refine ev_goto (tgt := 5) dX11_demandOf_64 (by decide) ?_
            exact ih (i + 1) (by omega) (by omega) _ (by subst hx; rfl) g hT
  exact loop ((sp_W C) + 1) 0 (by omega) (by omega) 0 rfl g hT
end CM2
