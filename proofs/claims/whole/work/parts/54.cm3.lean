section CM3
theorem cj_le {x : Int32} {P p : Nat} (h : x = nI P) (hp : p < P) (hP : P < 2147483648) : ¬ x ≤ nI p := fun c => by rw [h] at c; exact nI_ge hp hP c
theorem nf_skip {C : mo_S} {m : Int32} {i : Nat} (c : m < C.1 36 i) : sp_force C m (i + 1) = sp_force C m i := if_pos c
theorem nf_take {C : mo_S} {m x y : Int32} {i : Nat} (c : ¬ m < C.1 36 i) (hi : i < 1000) (hx : x = sp_opt (sp_force C m i) ∧ ∀ b, sp_force C m i = some b → y = C.1 36 b) (h : x = -1 ∨ ¬ C.1 36 i < y) : sp_force C m (i + 1) = some i := by
  rw [sp_force, if_neg c]
  cases hf : sp_force C m i with
  | none => rfl
  | some b =>
    have hb := sp_force_lt hf
    rcases h with h | h
    · rw [hx.1, hf] at h
      exact absurd h (cj_ne (by omega) (by decide))
    · show (if C.1 36 i < C.1 36 b then some b else some i) = some i
      rw [if_neg (by rw [← hx.2 b hf]; exact h)]
theorem nf_keep {C : mo_S} {m x y : Int32} {i : Nat} (c : ¬ m < C.1 36 i) (hx : x = sp_opt (sp_force C m i) ∧ ∀ b, sp_force C m i = some b → y = C.1 36 b) (h1 : ¬ x = -1) (h2 : C.1 36 i < y) : sp_force C m (i + 1) = sp_force C m i := by
  rw [sp_force, if_neg c]
  cases hf : sp_force C m i with
  | none => rw [hf] at hx; exact absurd hx.1 h1
  | some b =>
    show (if C.1 36 i < C.1 36 b then some b else some i) = some b
    rw [if_pos (by rw [← hx.2 b hf]; exact h2)]
theorem c_X11_numberInForce {G : ev_G} {W : cw_W} {d : Nat} {C : mo_S} {x1 : Int32} (hE : ev_En G) (hd : 3 ≤ d) : cw_C G W d mX11_numberInForce [.ref (W 0 0), .int x1] C (some (.int (sp_opt (sp_force C x1 (sp_O C))))) C := by
  refine cw_start (lv0 := [some (.ref (W 0 0)), some (.int x1), none, none, none, none]) (by decide +kernel) rfl (Nat.le_of_ble_eq_true rfl) rfl ?_
  intro K g0 g hT
  obtain ⟨hBP, hBR, hBO, hBA, hBM, hBc, hBl⟩ := id hT.B
  refine ev_iconst (v := (-1)) dX11_numberInForce_0 (by decide) ?_
  refine ev_istore_n dX11_numberInForce_1 rfl (Nat.le_of_ble_eq_true rfl) rfl ?_
  refine ev_iconst (v := 0) dX11_numberInForce_2 (by decide) ?_
  refine ev_istore_n dX11_numberInForce_3 rfl (Nat.le_of_ble_eq_true rfl) rfl ?_
  refine ev_iconst (v := 0) dX11_numberInForce_4 (by decide) ?_
  refine ev_istore dX11_numberInForce_5 (Nat.le_of_ble_eq_true rfl) rfl ?_
  have loop : ∀ (n i : Nat), i ≤ (sp_O C) → (sp_O C) < i + n → ∀ (x : Int32) (y : Int32), (x = sp_opt (sp_force C x1 i) ∧ ∀ b, sp_force C x1 i = some b → y = C.1 36 b) → ∀ g, cw_T G K g0 W g C → ev_V G d 0 0 mX11_numberInForce (fun o g' => o = .inl (some (.int (sp_opt (sp_force C x1 (sp_O C))))) ∧ cw_T G K g0 W g' C) g 7 [some (.ref (W 0 0)), some (.int x1), some (.int x), some (.int y), some (.int (nI i)), none] [] := by
    intro n
    induction n with
    | zero => intro i h1 h2; exact absurd h2 (by omega)
    | succ n ih =>
      intro i h1 h2 x y hx g hT
      refine ev_iload dX11_numberInForce_7 rfl ?_
      refine ev_aload_n dX11_numberInForce_9 rfl rfl ?_
      refine cw_getf hE hT dX11_numberInForce_10 fX11_19 (k := 0) (i := 0) rfl ob0 rfl ?_
      refine cw_size (l := 2) (v := (C.1 29 0)) hE hT dX11_numberInForce_13 lX11_89 (by decide) (Nat.le_of_ble_eq_true rfl) (by omega) rfl ?_
      refine ev_icmp_ge (tgt := 65) dX11_numberInForce_16 (by decide) (fun c_16 => ?_) (fun c_16 => ?_)
      · have e : i = sp_O C := by have := mo_ige hBO.1 (by omega) (by omega) c_16; omega
        refine ev_iload_n dX11_numberInForce_65 rfl rfl ?_
        rw [hx.1, e]
        exact ev_iret dX11_numberInForce_66 rfl rfl ⟨rfl, hT⟩
      · have hi9 : i < sp_O C := mo_ilt hBO.1 (by omega) (by omega) c_16
        have hol9 : cw_ol C i := Or.inl hi9
        refine ev_aload_n dX11_numberInForce_19 rfl rfl ?_
        refine cw_getf hE hT dX11_numberInForce_20 fX11_19 (k := 0) (i := 0) rfl ob0 rfl ?_
        refine ev_iload dX11_numberInForce_23 rfl ?_
        refine cw_get (l := 2) (q := i) hE hT dX11_numberInForce_25 lX11_138 (by decide) rfl hi9 (Nat.le_of_ble_eq_true rfl) (by omega) ?_
        refine ev_cast hE dX11_numberInForce_28 lkX11_36 ((hT.at (k := 28) (i := i) hol9).1 _ _ ob28) rfl ?_
        refine cw_getf hE hT dX11_numberInForce_31 fX11_361 (k := 28) (i := i) hol9 ob28 rfl ?_
        refine ev_istore dX11_numberInForce_34 (Nat.le_of_ble_eq_true rfl) rfl ?_
        refine ev_iload dX11_numberInForce_36 rfl ?_
        refine ev_iload_n dX11_numberInForce_38 rfl rfl ?_
        refine ev_icmp_gt (tgt := 59) dX11_numberInForce_39 (by decide) (fun c_39 => ?_) (fun c_39 => ?_)
        · refine ev_iinc (v := (nI (i + 1))) dX11_numberInForce_59 rfl (nI_1 i) rfl ?_
          refine ev_goto (tgt := 7) dX11_numberInForce_62 (by decide) ?_
          refine ev_none 5 ?_
          first
            | exact ih (i + 1) (by omega) (by omega) _ _ (by rw [nf_skip c_39]; exact hx) g hT
            | exact ih (i + 1) (by omega) (by omega) _ _ (by rw [nf_take c_39 (by omega) hx (Or.inl c_44)]; exact ⟨rfl, fun b h => by cases h; rfl⟩) g hT
            | exact ih (i + 1) (by omega) (by omega) _ _ (by rw [nf_take c_39 (by omega) hx (Or.inr c_50)]; exact ⟨rfl, fun b h => by cases h; rfl⟩) g hT
            | exact ih (i + 1) (by omega) (by omega) _ _ (by rw [nf_keep c_39 hx c_44 c_50]; exact hx) g hT
        · refine ev_iload_n dX11_numberInForce_42 rfl rfl ?_
          refine ev_iconst (v := (-1)) dX11_numberInForce_43 (by decide) ?_
          refine ev_icmp_eq (tgt := 53) dX11_numberInForce_44 (by decide) (fun c_44 => ?_) (fun c_44 => ?_)
          · refine ev_iload dX11_numberInForce_53 rfl ?_
            refine ev_istore_n dX11_numberInForce_55 rfl (Nat.le_of_ble_eq_true rfl) rfl ?_
            refine ev_iload dX11_numberInForce_56 rfl ?_
            refine ev_istore_n dX11_numberInForce_58 rfl (Nat.le_of_ble_eq_true rfl) rfl ?_
            refine ev_iinc (v := (nI (i + 1))) dX11_numberInForce_59 rfl (nI_1 i) rfl ?_
            refine ev_goto (tgt := 7) dX11_numberInForce_62 (by decide) ?_
            refine ev_none 5 ?_
            first
              | exact ih (i + 1) (by omega) (by omega) _ _ (by rw [nf_skip c_39]; exact hx) g hT
              | exact ih (i + 1) (by omega) (by omega) _ _ (by rw [nf_take c_39 (by omega) hx (Or.inl c_44)]; exact ⟨rfl, fun b h => by cases h; rfl⟩) g hT
              | exact ih (i + 1) (by omega) (by omega) _ _ (by rw [nf_take c_39 (by omega) hx (Or.inr c_50)]; exact ⟨rfl, fun b h => by cases h; rfl⟩) g hT
              | exact ih (i + 1) (by omega) (by omega) _ _ (by rw [nf_keep c_39 hx c_44 c_50]; exact hx) g hT
          · refine ev_iload dX11_numberInForce_47 rfl ?_
            refine ev_iload_n dX11_numberInForce_49 rfl rfl ?_
            refine ev_icmp_lt (tgt := 59) dX11_numberInForce_50 (by decide) (fun c_50 => ?_) (fun c_50 => ?_)
            · refine ev_iinc (v := (nI (i + 1))) dX11_numberInForce_59 rfl (nI_1 i) rfl ?_
              refine ev_goto (tgt := 7) dX11_numberInForce_62 (by decide) ?_
              refine ev_none 5 ?_
              first
                | exact ih (i + 1) (by omega) (by omega) _ _ (by rw [nf_skip c_39]; exact hx) g hT
                | exact ih (i + 1) (by omega) (by omega) _ _ (by rw [nf_take c_39 (by omega) hx (Or.inl c_44)]; exact ⟨rfl, fun b h => by cases h; rfl⟩) g hT
                | exact ih (i + 1) (by omega) (by omega) _ _ (by rw [nf_take c_39 (by omega) hx (Or.inr c_50)]; exact ⟨rfl, fun b h => by cases h; rfl⟩) g hT
                | exact ih (i + 1) (by omega) (by omega) _ _ (by rw [nf_keep c_39 hx c_44 c_50]; exact hx) g hT
            · refine ev_iload dX11_numberInForce_53 rfl ?_
              refine ev_istore_n dX11_numberInForce_55 rfl (Nat.le_of_ble_eq_true rfl) rfl ?_
              refine ev_iload dX11_numberInForce_56 rfl ?_
              refine ev_istore_n dX11_numberInForce_58 rfl (Nat.le_of_ble_eq_true rfl) rfl ?_
              refine ev_iinc (v := (nI (i + 1))) dX11_numberInForce_59 rfl (nI_1 i) rfl ?_
              refine ev_goto (tgt := 7) dX11_numberInForce_62 (by decide) ?_
              refine ev_none 5 ?_
              first
                | exact ih (i + 1) (by omega) (by omega) _ _ (by rw [nf_skip c_39]; exact hx) g hT
                | exact ih (i + 1) (by omega) (by omega) _ _ (by rw [nf_take c_39 (by omega) hx (Or.inl c_44)]; exact ⟨rfl, fun b h => by cases h; rfl⟩) g hT
                | exact ih (i + 1) (by omega) (by omega) _ _ (by rw [nf_take c_39 (by omega) hx (Or.inr c_50)]; exact ⟨rfl, fun b h => by cases h; rfl⟩) g hT
                | exact ih (i + 1) (by omega) (by omega) _ _ (by rw [nf_keep c_39 hx c_44 c_50]; exact hx) g hT
  exact loop ((sp_O C) + 1) 0 (by omega) (by omega) (-1) 0 ⟨rfl, fun b h => by cases h⟩ g hT
/-- the order in force now: its place; 10: none is told -/
def cx_now (C : mo_S) : Nat := match sp_now C with
  | none => 10
  | some b => b
theorem cx_now_ol (C : mo_S) : cw_ol C (cx_now C) := by
  unfold cx_now
  cases h : sp_now C with
  | none => exact Or.inr (Or.inl rfl)
  | some b => exact Or.inl (sp_now_lt h)
theorem c_X11_orderNow {G : ev_G} {W : cw_W} {d : Nat} {C : mo_S} (hE : ev_En G) (hd : 5 ≤ d) : cw_C G W d mX11_orderNow [.ref (W 0 0)] C (some (.ref (W 28 (cx_now C)))) C := by
  refine cw_start (lv0 := [some (.ref (W 0 0)), none]) (by decide +kernel) rfl (Nat.le_of_ble_eq_true rfl) rfl ?_
  intro K g0 g hT
  obtain ⟨hBP, hBR, hBO, hBA, hBM, hBc, hBl⟩ := id hT.B
  refine ev_aload_n dX11_orderNow_0 rfl rfl ?_
  refine ev_aload_n dX11_orderNow_1 rfl rfl ?_
  refine cw_getf hE hT dX11_orderNow_2 fX11_33 (k := 0) (i := 0) rfl ob0 rfl ?_
  refine cw_call1 (d' := d - 1) hE hT dX11_orderNow_5 rfl kX11_numberInForce lX11_182 iX11_numberInForce vX11_numberInForce (k := 0) (i := 0) rfl ob0 rfl (Nat.le_of_ble_eq_true rfl) (by omega) (c_X11_numberInForce hE (by omega)) (fun g hT => ?_)
  refine ev_istore_n dX11_orderNow_8 rfl (Nat.le_of_ble_eq_true rfl) rfl ?_
  refine ev_iload_n dX11_orderNow_9 rfl rfl ?_
  unfold cx_now
  cases hn : sp_now C with
  | none =>
    have hn2 : sp_force C (C.1 2 0) (sp_O C) = none := hn
    rw [hn2]
    refine ev_if_lt (tgt := 38) dX11_orderNow_10 (by decide) (fun c_10 => ?_) (fun c_10 => absurd (by decide) c_10)
    refine ev_aload_n dX11_orderNow_38 rfl rfl ?_
    refine cw_getf hE hT dX11_orderNow_39 fX11_41 (k := 0) (i := 0) rfl ob0 rfl ?_
    exact ev_aret dX11_orderNow_42 rfl (Or.inl ⟨_, rfl⟩) (Or.inr ⟨_, rfl⟩) ⟨rfl, hT⟩
  | some b =>
    have hn2 : sp_force C (C.1 2 0) (sp_O C) = some b := hn
    have hb : b < sp_O C := sp_now_lt hn
    rw [hn2]
    refine ev_if_lt (tgt := 38) dX11_orderNow_10 (by decide) (fun c_10 => absurd c_10 (nI_pos (by omega))) (fun c_10 => ?_)
    refine ev_iload_n dX11_orderNow_13 rfl rfl ?_
    refine ev_aload_n dX11_orderNow_14 rfl rfl ?_
    refine cw_getf hE hT dX11_orderNow_15 fX11_19 (k := 0) (i := 0) rfl ob0 rfl ?_
    refine cw_size (l := 2) (v := C.1 29 0) hE hT dX11_orderNow_18 lX11_89 (by decide) (Nat.le_of_ble_eq_true rfl) (by omega) rfl ?_
    refine ev_icmp_ge (tgt := 38) dX11_orderNow_21 (by decide) (fun c_21 => absurd c_21 (cj_le hBO.1 hb (by omega))) (fun c_21 => ?_)
    refine ev_aload_n dX11_orderNow_24 rfl rfl ?_
    refine cw_getf hE hT dX11_orderNow_25 fX11_19 (k := 0) (i := 0) rfl ob0 rfl ?_
    refine ev_iload_n dX11_orderNow_28 rfl rfl ?_
    refine cw_get (l := 2) (q := b) hE hT dX11_orderNow_29 lX11_138 (by decide) rfl hb (Nat.le_of_ble_eq_true rfl) (by omega) ?_
    refine ev_cast hE dX11_orderNow_32 lkX11_36 ((hT.at (k := 28) (i := b) (Or.inl hb)).1 _ _ ob28) rfl ?_
    refine ev_goto (tgt := 42) dX11_orderNow_35 (by decide) ?_
    exact ev_aret dX11_orderNow_42 rfl (Or.inl ⟨_, rfl⟩) (Or.inr ⟨_, rfl⟩) ⟨rfl, hT⟩
def cx_X11_isAdmittedAt (C : mo_S) (p : Nat) : Bool :=
  (if (mo_b (cx_X5_isAdmitted C p)) = 0 then false else true)
theorem c_X11_isAdmittedAt {G : ev_G} {W : cw_W} {d : Nat} {C : mo_S} {p : Nat} (hE : ev_En G) (hd : 3 ≤ d) (hp : p < sp_P C) : cw_C G W d mX11_isAdmittedAt [.ref (W 0 0), .int (nI p)] C (some (.int (mo_b (cx_X11_isAdmittedAt C p)))) C := by
  refine cw_start (lv0 := [some (.ref (W 0 0)), some (.int (nI p))]) (by decide +kernel) rfl (Nat.le_of_ble_eq_true rfl) rfl ?_
  intro K g0 g hT
  obtain ⟨hBP, hBR, hBO, hBA, hBM, hBc, hBl⟩ := id hT.B
  refine ev_iload_n dX11_isAdmittedAt_0 rfl rfl ?_
  refine ev_if_lt (tgt := 36) dX11_isAdmittedAt_1 (by decide) (fun c_1 => ?_) (fun c_1 => ?_)
  · exact absurd c_1 (nI_pos (by omega))
  · refine ev_iload_n dX11_isAdmittedAt_4 rfl rfl ?_
    refine ev_aload_n dX11_isAdmittedAt_5 rfl rfl ?_
    refine cw_getf hE hT dX11_isAdmittedAt_6 fX11_10 (k := 0) (i := 0) rfl ob0 rfl ?_
    refine cw_size (l := 0) (v := (C.1 1 0)) hE hT dX11_isAdmittedAt_9 lX11_89 (by decide) (Nat.le_of_ble_eq_true rfl) (by omega) rfl ?_
    refine ev_icmp_ge (tgt := 36) dX11_isAdmittedAt_12 (by decide) (fun c_12 => ?_) (fun c_12 => ?_)
    · exact absurd c_12 (cj_le hBP.1 hp (by omega))
    · refine ev_aload_n dX11_isAdmittedAt_15 rfl rfl ?_
      refine cw_getf hE hT dX11_isAdmittedAt_16 fX11_10 (k := 0) (i := 0) rfl ob0 rfl ?_
      refine ev_iload_n dX11_isAdmittedAt_19 rfl rfl ?_
      refine cw_get (l := 0) (q := p) hE hT dX11_isAdmittedAt_20 lX11_138 (by decide) rfl hp (Nat.le_of_ble_eq_true rfl) (by omega) ?_
      refine ev_cast hE dX11_isAdmittedAt_23 lkX11_100 ((hT.at (k := 20) (i := p) hp).1 _ _ ob20) rfl ?_
      refine cw_call0 (d' := d - 1) hE hT dX11_isAdmittedAt_26 rfl kX5_isAdmitted lX11_224 iX5_isAdmitted vX5_isAdmitted (k := 20) (i := p) hp ob20 rfl (Nat.le_of_ble_eq_true rfl) (by omega) (c_X5_isAdmitted hE hp) (fun g hT => ?_)
      have K_37 : ∀ (g : ev_H) (hT : cw_T G K g0 W g C), ∀ x9 : Int32, x9 = (mo_b (if (mo_b (cx_X5_isAdmitted C p)) = 0 then false else true)) → ev_V G d 0 0 mX11_isAdmittedAt (fun o g' => o = .inl (some (.int (mo_b (cx_X11_isAdmittedAt C p)))) ∧ cw_T G K g0 W g' C) g 37 [some (.ref (W 0 0)), some (.int (nI p))] (.int x9 :: []) := by
        intro g hT x9 h9
        subst h9
        have e9 : cx_X11_isAdmittedAt C p = (if (mo_b (cx_X5_isAdmitted C p)) = 0 then false else true) := by unfold cx_X11_isAdmittedAt; rfl
        exact ev_iret dX11_isAdmittedAt_37 rfl (by first | exact mo_b_nar _ | rfl) ⟨by rw [e9], hT⟩
      refine ev_if_eq (tgt := 36) dX11_isAdmittedAt_29 (by decide) (fun c_29 => ?_) (fun c_29 => ?_)
      · refine ev_iconst (v := 0) dX11_isAdmittedAt_36 (by decide) ?_
        exact K_37 g hT _ (by rw [if_pos c_29]; rfl)
      · refine ev_iconst (v := 1) dX11_isAdmittedAt_32 (by decide) ?_
        refine ev_goto (tgt := 37) dX11_isAdmittedAt_33 (by decide) ?_
        exact K_37 g hT _ (by rw [if_neg c_29]; rfl)
def cx_X11_areTwoAdmitted (C : mo_S) (p : Nat) (q : Nat) : Bool :=
  (if (nI p) = (nI q) then false else (if (mo_b (cx_X11_isAdmittedAt C p)) = 0 then false else (if (mo_b (cx_X11_isAdmittedAt C q)) = 0 then false else true)))
theorem c_X11_areTwoAdmitted {G : ev_G} {W : cw_W} {d : Nat} {C : mo_S} {p : Nat} {q : Nat} (hE : ev_En G) (hd : 4 ≤ d) (hp : p < sp_P C) (hq : q < sp_P C) : cw_C G W d mX11_areTwoAdmitted [.ref (W 0 0), .int (nI p), .int (nI q)] C (some (.int (mo_b (cx_X11_areTwoAdmitted C p q)))) C := by
  refine cw_start (lv0 := [some (.ref (W 0 0)), some (.int (nI p)), some (.int (nI q))]) (by decide +kernel) rfl (Nat.le_of_ble_eq_true rfl) rfl ?_
  intro K g0 g hT
  refine ev_iload_n dX11_areTwoAdmitted_0 rfl rfl ?_
  refine ev_iload_n dX11_areTwoAdmitted_1 rfl rfl ?_
  have K_26 : ∀ (g : ev_H) (hT : cw_T G K g0 W g C), ∀ x9 : Int32, x9 = (mo_b (if (nI p) = (nI q) then false else (if (mo_b (cx_X11_isAdmittedAt C p)) = 0 then false else (if (mo_b (cx_X11_isAdmittedAt C q)) = 0 then false else true)))) → ev_V G d 0 0 mX11_areTwoAdmitted (fun o g' => o = .inl (some (.int (mo_b (cx_X11_areTwoAdmitted C p q)))) ∧ cw_T G K g0 W g' C) g 26 [some (.ref (W 0 0)), some (.int (nI p)), some (.int (nI q))] (.int x9 :: []) := by
    intro g hT x9 h9
    subst h9
    have e9 : cx_X11_areTwoAdmitted C p q = (if (nI p) = (nI q) then false else (if (mo_b (cx_X11_isAdmittedAt C p)) = 0 then false else (if (mo_b (cx_X11_isAdmittedAt C q)) = 0 then false else true))) := by unfold cx_X11_areTwoAdmitted; rfl
    exact ev_iret dX11_areTwoAdmitted_26 rfl (by first | exact mo_b_nar _ | rfl) ⟨by rw [e9], hT⟩
  refine ev_icmp_eq (tgt := 25) dX11_areTwoAdmitted_2 (by decide) (fun c_2 => ?_) (fun c_2 => ?_)
  · refine ev_iconst (v := 0) dX11_areTwoAdmitted_25 (by decide) ?_
    exact K_26 g hT _ (by rw [if_pos c_2]; rfl)
  · refine ev_aload_n dX11_areTwoAdmitted_5 rfl rfl ?_
    refine ev_iload_n dX11_areTwoAdmitted_6 rfl rfl ?_
    refine cw_call1 (d' := d - 1) hE hT dX11_areTwoAdmitted_7 rfl kX11_isAdmittedAt lX11_357 iX11_isAdmittedAt vX11_isAdmittedAt (k := 0) (i := 0) rfl ob0 rfl (Nat.le_of_ble_eq_true rfl) (by omega) (c_X11_isAdmittedAt hE (by omega) hp) (fun g hT => ?_)
    refine ev_if_eq (tgt := 25) dX11_areTwoAdmitted_10 (by decide) (fun c_10 => ?_) (fun c_10 => ?_)
    · refine ev_iconst (v := 0) dX11_areTwoAdmitted_25 (by decide) ?_
      exact K_26 g hT _ (by rw [if_neg c_2, if_pos c_10]; rfl)
    · refine ev_aload_n dX11_areTwoAdmitted_13 rfl rfl ?_
      refine ev_iload_n dX11_areTwoAdmitted_14 rfl rfl ?_
      refine cw_call1 (d' := d - 1) hE hT dX11_areTwoAdmitted_15 rfl kX11_isAdmittedAt lX11_357 iX11_isAdmittedAt vX11_isAdmittedAt (k := 0) (i := 0) rfl ob0 rfl (Nat.le_of_ble_eq_true rfl) (by omega) (c_X11_isAdmittedAt hE (by omega) hq) (fun g hT => ?_)
      refine ev_if_eq (tgt := 25) dX11_areTwoAdmitted_18 (by decide) (fun c_18 => ?_) (fun c_18 => ?_)
      · refine ev_iconst (v := 0) dX11_areTwoAdmitted_25 (by decide) ?_
        exact K_26 g hT _ (by rw [if_neg c_2, if_neg c_10, if_pos c_18]; rfl)
      · refine ev_iconst (v := 1) dX11_areTwoAdmitted_21 (by decide) ?_
        refine ev_goto (tgt := 26) dX11_areTwoAdmitted_22 (by decide) ?_
        exact K_26 g hT _ (by rw [if_neg c_2, if_neg c_10, if_neg c_18]; rfl)
theorem c_X11_mostCopies {G : ev_G} {d : Nat} {g : ev_H} {k n : Nat} (hk : k ≤ 100000000) (hn : 1 ≤ n) (hn2 : n ≤ 1000) : ev_Cp G d mX11_mostCopies [.int (nI k), .int (nI n)] g (some (.int (nI ((10 * k + 9) / (3 * n))))) := by
  refine ev_start (lv0 := [some (.int (nI k)), some (.int (nI n))]) (by decide +kernel) rfl (Nat.le_of_ble_eq_true rfl) rfl ?_
  refine ev_iload_n dX11_mostCopies_0 rfl rfl ?_
  refine ev_if_lt (tgt := 8) dX11_mostCopies_1 (by decide) (fun c_1 => absurd c_1 (nI_pos (by omega))) (fun c_1 => ?_)
  refine ev_iload_n dX11_mostCopies_4 rfl rfl ?_
  refine ev_if_gt (tgt := 10) dX11_mostCopies_5 (by decide) (fun c_5 => ?_) (fun c_5 => absurd (nI_lt (a := 0) (by omega) (by omega)) c_5)
  refine ev_iload_n dX11_mostCopies_10 rfl rfl ?_
  refine ev_i2l dX11_mostCopies_11 ?_
  refine ev_ldc2 dX11_mostCopies_12 nX11_345 ?_
  refine ev_lmul dX11_mostCopies_15 ?_
  refine ev_ldc2 dX11_mostCopies_16 nX11_347 ?_
  refine ev_ladd dX11_mostCopies_19 ?_
  refine ev_iload_n dX11_mostCopies_20 rfl rfl ?_
  refine ev_i2l dX11_mostCopies_21 ?_
  refine ev_ldc2 dX11_mostCopies_22 nX11_349 ?_
  refine ev_lmul dX11_mostCopies_25 ?_
  have e1 : (nI k).toInt64 * 10 + 9 = lN (10 * k + 9) := by
    rw [nI_l (by omega)]
    show lN k * lN 10 + lN 9 = _
    rw [lN_mul, lN_add, Nat.mul_comm]
  have e2 : (nI n).toInt64 * 3 = lN (3 * n) := by
    rw [nI_l (by omega)]
    show lN n * lN 3 = _
    rw [lN_mul, Nat.mul_comm]
  rw [e1, e2]
  refine ev_ldiv dX11_mostCopies_26 (fun q => ?_) ?_
  · have := (lN_eq (b := 0) (by omega) (by decide)).mp q
    omega
  refine ev_l2i dX11_mostCopies_27 ?_
  rw [pk_lDiv (by omega) (by omega) (by omega), lN_i]
  exact ev_iret dX11_mostCopies_28 rfl rfl ⟨rfl, rfl⟩
/-! VALUES OF FORMULAS -/
def cx_v (C : mo_S) (p : Nat) (pages month : Int32) : Int32 → Int32 := fun n => cx_X10_named C (-1 - n) p pages month
def cx_eqV (T C : mo_S) : Prop := (∀ f, f ≠ 123 → T.1 f = C.1 f) ∧ T.2 = C.2
theorem cx_eqV.r (C : mo_S) : cx_eqV C C := ⟨fun _ _ => rfl, rfl⟩
theorem cx_eqV.up {T C : mo_S} {i : Nat} {v : Int32} (h : cx_eqV T C) : cx_eqV (mo_up T 123 i v) C := ⟨fun f hf => by rw [mo_up_ne hf]; exact h.1 f hf, h.2⟩
theorem cx_eqV.ar {T C : mo_S} {k b : Nat} (h : cx_eqV T C) (hk : k = 29 ∨ k = 30) : cw_ar T k b = cw_ar C k b := by
  rcases hk with rfl | rfl
  · rw [ar29, ar29, h.1 111 (by decide), h.1 112 (by decide)]
  · rw [ar30, ar30, h.1 113 (by decide), h.1 114 (by decide)]
theorem cx_eqV.lv {T C : mo_S} (h : cx_eqV T C) {k b : Nat} : cw_lv T k b ↔ cw_lv C k b := cw_lv_cg (fun f hf => h.1 f (fun e => by subst e; revert hf; decide)) k b
theorem cx_eqV.named {T C : mo_S} (h : cx_eqV T C) (x : Int32) (p : Nat) (a b : Int32) : cx_X10_named T x p a b = cx_X10_named C x p a b := by
  unfold cx_X10_named
  rw [h.1 3 (by decide), h.1 4 (by decide), h.1 5 (by decide), h.1 7 (by decide), h.1 10 (by decide), h.1 13 (by decide)]
theorem cj_ten {c : Int32} (h1 : c < -8) (h2 : ¬ c < -14) : c = -9 ∨ c = -10 ∨ c = -11 ∨ c = -12 ∨ c = -13 ∨ c = -14 := by
  have a1 := Int32.lt_iff_toInt_lt.mp h1
  have a2 : ¬ c.toInt < (-14 : Int32).toInt := fun q => h2 (Int32.lt_iff_toInt_lt.mpr q)
  have b1 : (-8 : Int32).toInt = -8 := by decide
  have b2 : (-14 : Int32).toInt = -14 := by decide
  rw [b1] at a1
  rw [b2] at a2
  have q : ∀ z : Int32, c.toInt = z.toInt → c = z := fun z hz => Int32.toInt_inj.mp hz
  have e : c.toInt = -9 ∨ c.toInt = -10 ∨ c.toInt = -11 ∨ c.toInt = -12 ∨ c.toInt = -13 ∨ c.toInt = -14 := by omega
  rcases e with e | e | e | e | e | e
  · exact Or.inl (q _ e)
  · exact Or.inr (Or.inl (q _ e))
  · exact Or.inr (Or.inr (Or.inl (q _ e)))
  · exact Or.inr (Or.inr (Or.inr (Or.inl (q _ e))))
  · exact Or.inr (Or.inr (Or.inr (Or.inr (Or.inl (q _ e)))))
  · exact Or.inr (Or.inr (Or.inr (Or.inr (Or.inr (q _ e)))))
theorem cj_mm (a b : Int32) : (if b ≤ a then b else a) = cj_min a b := by
  unfold cj_min
  by_cases q : b < a
  · rw [if_pos q, if_pos (Int32.le_of_lt q)]
  · rw [if_neg q]
    by_cases q2 : b ≤ a
    · rw [if_pos q2]
      exact Int32.le_antisymm q2 (Int32.not_lt.mp q)
    · rw [if_neg q2]
theorem cj_MM (a b : Int32) : (if a ≤ b then b else a) = cj_max a b := by
  unfold cj_max
  by_cases q : a < b
  · rw [if_pos q, if_pos (Int32.le_of_lt q)]
  · rw [if_neg q]
    by_cases q2 : a ≤ b
    · rw [if_pos q2]
      exact Int32.le_antisymm (Int32.not_lt.mp q) q2
    · rw [if_neg q2]
theorem cj_joined {c : Int32} (h1 : c < -8) (h2 : ¬ c < -14) (a b : Int32) : cx_X10_joined c a b = sp_X12_worked (-7 - c) a b := by
  rcases cj_ten h1 h2 with rfl | rfl | rfl | rfl | rfl | rfl
  · rfl
  · rfl
  · rfl
  · rfl
  · exact (cj_mm a b).symm
  · exact (cj_MM a b).symm
theorem cj_sub6 {c k : Int32} (h : -6 - c = k) : c = -6 - k := by
  subst h
  have e : ∀ x y : Int32, y = x - (x - y) := fun x y => by
    rw [Int32.sub_eq_add_neg x (x - y), Int32.neg_sub, Int32.add_comm, Int32.sub_add_cancel]
  exact e _ _
theorem cj_compared {c : Int32} (h : c < -14) (a b : Int32) : sp_X12_worked (-6 - c) a b = mo_b (cx_X10_compared c a b) := by
  have n : ∀ k : Int32, ¬ (-6 - k < -14) → ¬ -6 - c = k := fun k hk q => hk (by rw [← cj_sub6 q]; exact h)
  unfold sp_X12_worked
  rw [if_neg (n 2 (by decide)), if_neg (n 3 (by decide)), if_neg (n 4 (by decide)), if_neg (n 5 (by decide)), if_neg (n 6 (by decide)), if_neg (n 7 (by decide)), if_neg (n 8 (by decide))]
  by_cases q1 : c = -15
  · subst q1
    rw [if_pos (show (-6 : Int32) - -15 = 9 by decide)]
    unfold cx_X10_compared
    rw [if_neg (show ¬ (-15 : Int32) = -16 by decide), if_pos (show (-15 : Int32) = -15 from rfl)]
  · by_cases q2 : c = -16
    · subst q2
      rw [if_neg (show ¬ (-6 : Int32) - -16 = 9 by decide), if_pos (show (-6 : Int32) - -16 = 10 by decide)]
      unfold cx_X10_compared
      rw [if_pos (show (-16 : Int32) = -16 from rfl)]
    · rw [if_neg (fun q => q1 ((cj_sub6 (k := 9) q).trans (by decide))), if_neg (fun q => q2 ((cj_sub6 (k := 10) q).trans (by decide)))]
      unfold cx_X10_compared
      rw [if_neg q2, if_neg q1]
theorem cj_m3 (n : Nat) : nI (n + 3) + Int32.ofInt (-3) = nI n := by
  rw [show Int32.ofInt (-3) = -(nI 3) by decide, ← Int32.sub_eq_add_neg, pk_sub (by omega), Nat.add_sub_cancel]
end CM3
