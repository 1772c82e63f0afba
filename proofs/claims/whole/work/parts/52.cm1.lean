section CM1
section RS
variable {G : ev_G} {d bc bs : Nat} {M : ev_M} {Post : ev_P} {g : ev_H} {pc : Nat} {lv : List (Option Value)} {st : List Value}
variable {K : Nat → Prop} {g0 : ev_H} {W : cw_W} {C : mo_S}
theorem cw_size {index l : Nat} {v : Int32} (hE : ev_En G) (hT : cw_T G K g0 W g C) (hd : decode M.2.1 pc = .ok (.invokevirtual index, 3)) (hl1 : Cond.methodLink M.1.cls index yJx4a65c_size_8abf5 ∈ ev_T) (hl : l < 4) (hr : (st.map fun v => v.category).sum ≤ 8) (hdd : 1 ≤ d) (he : C.1 (cw_sz l) 0 = v) (kk : ev_V G d bc bs M Post g (pc + 3) lv (.int v :: st)) : ev_V G d bc bs M Post g pc lv (.ref (W 1 l) :: st) := by
  refine ev_callV (d' := d - 1) (b := bc) (k0 := bs) (As := []) hE hd rfl kJx4a65c_size_8abf5 rfl hl1 iJx4a65c_size_8abf5 vJx4a65c_size_8abf5 ((hT.at (k := 1) hl).1 _ _ ob1) rfl hr (by omega) (c_lsize hE hT hl) (Nat.le_refl _) (Nat.le_refl _) (fun v g' h => ?_) (fun E g' h => by cases h.1)
  obtain ⟨h1, rfl⟩ := h
  cases h1
  subst he
  exact kk
theorem cw_get {index l q : Nat} {x : Int32} (hE : ev_En G) (hT : cw_T G K g0 W g C) (hd : decode M.2.1 pc = .ok (.invokevirtual index, 3)) (hl1 : Cond.methodLink M.1.cls index yJx4a65c_get_915e3 ∈ ev_T) (hl : l < 4) (hx : x = nI q) (hq : q < cw_n C l) (hr : (st.map fun v => v.category).sum ≤ 8) (hdd : 3 ≤ d) (kk : ev_V G d bc bs M Post g (pc + 3) lv (.ref (W (cw_ek l) q) :: st)) : ev_V G d bc bs M Post g pc lv (.int x :: .ref (W 1 l) :: st) := by
  subst hx
  refine ev_callV (d' := d - 1) (b := bc) (k0 := bs) (As := [.int (nI q)]) hE hd rfl kJx4a65c_get_915e3 rfl hl1 iJx4a65c_get_915e3 vJx4a65c_get_915e3 ((hT.at (k := 1) hl).1 _ _ ob1) rfl hr (by omega) (c_lget hE hT (by omega) hl hq) (Nat.le_refl _) (Nat.le_refl _) (fun v g' h => ?_) (fun E g' h => by cases h.1)
  obtain ⟨h1, rfl⟩ := h
  cases h1
  exact kk
theorem cw_nS2 {index d' D0 : Nat} {M' : ev_M} {r : Option Value} {a1 a2 : Value} {rest : List Value} (h4 : ev_En4 G D0) (hd : decode M.2.1 pc = .ok (.invokestatic index, 3)) (hh : M'.2.2.2.2 = []) (hK : ev_K M' 2) (hl1 : (M.1.cls, index, M'.1) ∈ ev_nn) (hl2 : Cond.static M'.1 ∈ ev_T) (hr : (rest.map fun v => v.category).sum ≤ 8) (hdd : d' + 1 ≤ d) (hM : ev_Cp G d' M' [a1, a2] g r) (k : ev_V G d bc bs M Post g (pc + 3) lv (r.toList ++ rest)) : ev_V G d bc bs M Post g pc lv (a2 :: a1 :: rest) :=
  ev_callSN (As := [a1, a2]) h4 hd hh hK rfl hl1 hl2 hr hdd hM (b := bc) (k0 := bs) (Nat.le_refl _) (Nat.le_refl _) (fun v g' h => by obtain ⟨h1, rfl⟩ := h; cases h1; exact k) (fun E g' h => by cases h.1)
theorem cw_nS3 {index d' D0 : Nat} {M' : ev_M} {r : Option Value} {a1 a2 a3 : Value} {rest : List Value} (h4 : ev_En4 G D0) (hd : decode M.2.1 pc = .ok (.invokestatic index, 3)) (hh : M'.2.2.2.2 = []) (hK : ev_K M' 3) (hl1 : (M.1.cls, index, M'.1) ∈ ev_nn) (hl2 : Cond.static M'.1 ∈ ev_T) (hr : (rest.map fun v => v.category).sum ≤ 8) (hdd : d' + 1 ≤ d) (hM : ev_Cp G d' M' [a1, a2, a3] g r) (k : ev_V G d bc bs M Post g (pc + 3) lv (r.toList ++ rest)) : ev_V G d bc bs M Post g pc lv (a3 :: a2 :: a1 :: rest) :=
  ev_callSN (As := [a1, a2, a3]) h4 hd hh hK rfl hl1 hl2 hr hdd hM (b := bc) (k0 := bs) (Nat.le_refl _) (Nat.le_refl _) (fun v g' h => by obtain ⟨h1, rfl⟩ := h; cases h1; exact k) (fun E g' h => by cases h.1)
end RS
theorem mo_b_fit (b : Bool) : fits .boolean (.int (mo_b b)) = true := by cases b <;> rfl
theorem cj_ne {n : Nat} {x : Int32} (hn : n < 2147483648) (hx : x < 0) : ¬ nI n = x := fun e => nI_pos (n := n) (by omega) (by rw [e]; exact hx)
def cx_X11_within (x1 : Int32) (x2 : Int32) (x3 : Int32) : Bool :=
  (if x1 < x2 then false else (if x3 < x1 then false else true))
theorem c_X11_within {G : ev_G} {d : Nat} {g : ev_H} {x1 : Int32} {x2 : Int32} {x3 : Int32} : ev_Cp G d mX11_within [.int x1, .int x2, .int x3] g (some (.int (mo_b (cx_X11_within x1 x2 x3)))) := by
  refine ev_start (lv0 := [some (.int x1), some (.int x2), some (.int x3)]) (by decide +kernel) rfl (Nat.le_of_ble_eq_true rfl) rfl ?_
  refine ev_iload_n dX11_within_0 rfl rfl ?_
  refine ev_iload_n dX11_within_1 rfl rfl ?_
  have K_15 : ∀ x9 : Int32, x9 = (mo_b (if x1 < x2 then false else (if x3 < x1 then false else true))) → ev_V G d 0 0 mX11_within (fun o g' => o = .inl (some (.int (mo_b (cx_X11_within x1 x2 x3)))) ∧ g' = g) g 15 [some (.int x1), some (.int x2), some (.int x3)] (.int x9 :: []) := by
    intro x9 h9
    subst h9
    have e9 : cx_X11_within x1 x2 x3 = (if x1 < x2 then false else (if x3 < x1 then false else true)) := by unfold cx_X11_within; rfl
    exact ev_iret dX11_within_15 rfl (by first | exact mo_b_nar _ | rfl) ⟨by rw [e9], rfl⟩
  refine ev_icmp_lt (tgt := 14) dX11_within_2 (by decide) (fun c_2 => ?_) (fun c_2 => ?_)
  · refine ev_iconst (v := 0) dX11_within_14 (by decide) ?_
    exact K_15 _ (by rw [if_pos c_2]; rfl)
  · refine ev_iload_n dX11_within_5 rfl rfl ?_
    refine ev_iload_n dX11_within_6 rfl rfl ?_
    refine ev_icmp_gt (tgt := 14) dX11_within_7 (by decide) (fun c_7 => ?_) (fun c_7 => ?_)
    · refine ev_iconst (v := 0) dX11_within_14 (by decide) ?_
      exact K_15 _ (by rw [if_neg c_2, if_pos c_7]; rfl)
    · refine ev_iconst (v := 1) dX11_within_10 (by decide) ?_
      refine ev_goto (tgt := 15) dX11_within_11 (by decide) ?_
      exact K_15 _ (by rw [if_neg c_2, if_neg c_7]; rfl)
def cx_X11_bounded (x1 : Int32) (x2 : Int32) (x3 : Int32) : Int32 :=
  (cj_max x2 (cj_min x1 x3))
theorem c_X11_bounded {G : ev_G} {d : Nat} {g : ev_H} {x1 : Int32} {x2 : Int32} {x3 : Int32} (hd : 1 ≤ d) : ev_Cp G d mX11_bounded [.int x1, .int x2, .int x3] g (some (.int (cx_X11_bounded x1 x2 x3))) := by
  refine ev_start (lv0 := [some (.int x1), some (.int x2), some (.int x3)]) (by decide +kernel) rfl (Nat.le_of_ble_eq_true rfl) rfl ?_
  refine ev_iload_n dX11_bounded_0 rfl rfl ?_
  refine ev_iload_n dX11_bounded_1 rfl rfl ?_
  refine ev_iload_n dX11_bounded_2 rfl rfl ?_
  refine ev_mmin dX11_bounded_3 lX11_337 (Nat.le_of_ble_eq_true rfl) (by omega) ?_
  refine ev_mmax dX11_bounded_6 lX11_148 (Nat.le_of_ble_eq_true rfl) (by omega) ?_
  have e9 : cx_X11_bounded x1 x2 x3 = (cj_max x2 (cj_min x1 x3)) := by unfold cx_X11_bounded; rfl
  exact ev_iret dX11_bounded_9 rfl rfl ⟨by rw [e9], rfl⟩
def cx_X11_settable (x1 : Int32) (x2 : Int32) : Bool :=
  (if x1 = 0 then (cx_X11_within x2 0 1000) else (if x1 = 1 then (cx_X11_within x2 2 64) else (if x1 = 2 then (cx_X11_within x2 1 100) else (if x1 = 3 then (cx_X11_within x2 0 1000) else false))))
theorem c_X11_settable {G : ev_G} {d : Nat} {g : ev_H} {x1 : Int32} {x2 : Int32} (hd : 1 ≤ d) : ev_Cp G d mX11_settable [.int x1, .int x2] g (some (.int (mo_b (cx_X11_settable x1 x2)))) := by
  refine ev_start (lv0 := [some (.int x1), some (.int x2)]) (by decide +kernel) rfl (Nat.le_of_ble_eq_true rfl) rfl ?_
  refine ev_iload_n dX11_settable_0 rfl rfl ?_
  by_cases c_1_0 : x1 = 0
  · refine ev_tableIn (tgt := 32) (off := 31) dX11_settable_1 (by rw [c_1_0]; decide) (by rw [c_1_0]; decide) (by rw [c_1_0]; rfl) (by decide) ?_
    refine ev_iload_n dX11_settable_32 rfl rfl ?_
    refine ev_iconst (v := 0) dX11_settable_33 (by decide) ?_
    refine ev_sipush (v := 1000) dX11_settable_34 (by decide) ?_
    refine ev_pS3 (d' := d - 1) dX11_settable_37 rfl kX11_within lX11_80 sX11_within (Nat.le_of_ble_eq_true rfl) (by omega) (c_X11_within) ?_
    have e9 : cx_X11_settable x1 x2 = (cx_X11_within x2 0 1000) := by unfold cx_X11_settable; rw [if_pos c_1_0]
    exact ev_iret dX11_settable_40 rfl (by first | exact mo_b_nar _ | rfl) ⟨by rw [e9], rfl⟩
  · by_cases c_1_1 : x1 = 1
    · refine ev_tableIn (tgt := 41) (off := 40) dX11_settable_1 (by rw [c_1_1]; decide) (by rw [c_1_1]; decide) (by rw [c_1_1]; rfl) (by decide) ?_
      refine ev_iload_n dX11_settable_41 rfl rfl ?_
      refine ev_iconst (v := 2) dX11_settable_42 (by decide) ?_
      refine ev_bipush (v := 64) dX11_settable_43 (by decide) ?_
      refine ev_pS3 (d' := d - 1) dX11_settable_45 rfl kX11_within lX11_80 sX11_within (Nat.le_of_ble_eq_true rfl) (by omega) (c_X11_within) ?_
      have e9 : cx_X11_settable x1 x2 = (cx_X11_within x2 2 64) := by unfold cx_X11_settable; rw [if_neg c_1_0, if_pos c_1_1]
      exact ev_iret dX11_settable_48 rfl (by first | exact mo_b_nar _ | rfl) ⟨by rw [e9], rfl⟩
    · by_cases c_1_2 : x1 = 2
      · refine ev_tableIn (tgt := 49) (off := 48) dX11_settable_1 (by rw [c_1_2]; decide) (by rw [c_1_2]; decide) (by rw [c_1_2]; rfl) (by decide) ?_
        refine ev_iload_n dX11_settable_49 rfl rfl ?_
        refine ev_iconst (v := 1) dX11_settable_50 (by decide) ?_
        refine ev_bipush (v := 100) dX11_settable_51 (by decide) ?_
        refine ev_pS3 (d' := d - 1) dX11_settable_53 rfl kX11_within lX11_80 sX11_within (Nat.le_of_ble_eq_true rfl) (by omega) (c_X11_within) ?_
        have e9 : cx_X11_settable x1 x2 = (cx_X11_within x2 1 100) := by unfold cx_X11_settable; rw [if_neg c_1_0, if_neg c_1_1, if_pos c_1_2]
        exact ev_iret dX11_settable_56 rfl (by first | exact mo_b_nar _ | rfl) ⟨by rw [e9], rfl⟩
      · by_cases c_1_3 : x1 = 3
        · refine ev_tableIn (tgt := 57) (off := 56) dX11_settable_1 (by rw [c_1_3]; decide) (by rw [c_1_3]; decide) (by rw [c_1_3]; rfl) (by decide) ?_
          refine ev_iload_n dX11_settable_57 rfl rfl ?_
          refine ev_iconst (v := 0) dX11_settable_58 (by decide) ?_
          refine ev_sipush (v := 1000) dX11_settable_59 (by decide) ?_
          refine ev_pS3 (d' := d - 1) dX11_settable_62 rfl kX11_within lX11_80 sX11_within (Nat.le_of_ble_eq_true rfl) (by omega) (c_X11_within) ?_
          have e9 : cx_X11_settable x1 x2 = (cx_X11_within x2 0 1000) := by unfold cx_X11_settable; rw [if_neg c_1_0, if_neg c_1_1, if_neg c_1_2, if_pos c_1_3]
          exact ev_iret dX11_settable_65 rfl (by first | exact mo_b_nar _ | rfl) ⟨by rw [e9], rfl⟩
        · refine ev_tableOut (tgt := 66) dX11_settable_1 (by have h0 : (x1 : Int32).toInt ≠ 0 := fun q => c_1_0 (Int32.toInt_inj.mp (by rw [q]; rfl)); have h1 : (x1 : Int32).toInt ≠ 1 := fun q => c_1_1 (Int32.toInt_inj.mp (by rw [q]; rfl)); have h2 : (x1 : Int32).toInt ≠ 2 := fun q => c_1_2 (Int32.toInt_inj.mp (by rw [q]; rfl)); have h3 : (x1 : Int32).toInt ≠ 3 := fun q => c_1_3 (Int32.toInt_inj.mp (by rw [q]; rfl)); omega) (by decide) ?_
          refine ev_iconst (v := 0) dX11_settable_66 (by decide) ?_
          have e9 : cx_X11_settable x1 x2 = false := by unfold cx_X11_settable; rw [if_neg c_1_0, if_neg c_1_1, if_neg c_1_2, if_neg c_1_3]
          exact ev_iret dX11_settable_67 rfl rfl ⟨by rw [e9]; rfl, rfl⟩
def cx_X11_kilogramsFor (x1 : Int32) (x2 : Int32) : Int32 :=
  (((x1 * x2) * 3) / 10)
theorem c_X11_kilogramsFor {G : ev_G} {d : Nat} {g : ev_H} {x1 : Int32} {x2 : Int32} : ev_Cp G d mX11_kilogramsFor [.int x1, .int x2] g (some (.int (cx_X11_kilogramsFor x1 x2))) := by
  refine ev_start (lv0 := [some (.int x1), some (.int x2)]) (by decide +kernel) rfl (Nat.le_of_ble_eq_true rfl) rfl ?_
  refine ev_iload_n dX11_kilogramsFor_0 rfl rfl ?_
  refine ev_iload_n dX11_kilogramsFor_1 rfl rfl ?_
  refine ev_imul dX11_kilogramsFor_2 ?_
  refine ev_iconst (v := 3) dX11_kilogramsFor_3 (by decide) ?_
  refine ev_imul dX11_kilogramsFor_4 ?_
  refine ev_bipush (v := 10) dX11_kilogramsFor_5 (by decide) ?_
  refine ev_idiv dX11_kilogramsFor_7 (by decide) ?_
  have e9 : cx_X11_kilogramsFor x1 x2 = (((x1 * x2) * 3) / 10) := by unfold cx_X11_kilogramsFor; rfl
  exact ev_iret dX11_kilogramsFor_8 rfl rfl ⟨by rw [e9], rfl⟩
def cx_X10_joined (x1 : Int32) (x2 : Int32) (x3 : Int32) : Int32 :=
  (if x1 = (-13) then (cj_min x2 x3) else (if x1 = (-12) then (if x3 = 0 then 0 else (x2 / x3)) else (if x1 = (-11) then (x2 * x3) else (if x1 = (-10) then (x2 - x3) else (if x1 = (-9) then (x2 + x3) else (cj_max x2 x3))))))
theorem c_X10_joined {G : ev_G} {d : Nat} {g : ev_H} {x1 : Int32} {x2 : Int32} {x3 : Int32} (hd : 1 ≤ d) : ev_Cp G d mX10_joined [.int x1, .int x2, .int x3] g (some (.int (cx_X10_joined x1 x2 x3))) := by
  refine ev_start (lv0 := [some (.int x1), some (.int x2), some (.int x3)]) (by decide +kernel) rfl (Nat.le_of_ble_eq_true rfl) rfl ?_
  refine ev_iload_n dX10_joined_0 rfl rfl ?_
  by_cases c_1_m13 : x1 = (-13)
  · refine ev_tableIn (tgt := 60) (off := 59) dX10_joined_1 (by rw [c_1_m13]; decide) (by rw [c_1_m13]; decide) (by rw [c_1_m13]; rfl) (by decide) ?_
    refine ev_iload_n dX10_joined_60 rfl rfl ?_
    refine ev_iload_n dX10_joined_61 rfl rfl ?_
    refine ev_mmin dX10_joined_62 lX10_48 (Nat.le_of_ble_eq_true rfl) (by omega) ?_
    have e9 : cx_X10_joined x1 x2 x3 = (cj_min x2 x3) := by unfold cx_X10_joined; rw [if_pos c_1_m13]
    exact ev_iret dX10_joined_65 rfl rfl ⟨by rw [e9], rfl⟩
  · by_cases c_1_m12 : x1 = (-12)
    · refine ev_tableIn (tgt := 48) (off := 47) dX10_joined_1 (by rw [c_1_m12]; decide) (by rw [c_1_m12]; decide) (by rw [c_1_m12]; rfl) (by decide) ?_
      refine ev_iload_n dX10_joined_48 rfl rfl ?_
      have K_59 : ∀ x9 : Int32, x9 = (if x3 = 0 then 0 else (x2 / x3)) → ev_V G d 0 0 mX10_joined (fun o g' => o = .inl (some (.int (cx_X10_joined x1 x2 x3))) ∧ g' = g) g 59 [some (.int x1), some (.int x2), some (.int x3)] (.int x9 :: []) := by
        intro x9 h9
        subst h9
        have e9 : cx_X10_joined x1 x2 x3 = (if x3 = 0 then 0 else (x2 / x3)) := by unfold cx_X10_joined; rw [if_neg c_1_m13, if_pos c_1_m12]
        exact ev_iret dX10_joined_59 rfl rfl ⟨by rw [e9], rfl⟩
      refine ev_if_ne (tgt := 56) dX10_joined_49 (by decide) (fun c_49 => ?_) (fun c_49 => ?_)
      · refine ev_iload_n dX10_joined_56 rfl rfl ?_
        refine ev_iload_n dX10_joined_57 rfl rfl ?_
        refine ev_idiv dX10_joined_58 c_49 ?_
        exact K_59 _ (by rw [if_neg c_49])
      · refine ev_iconst (v := 0) dX10_joined_52 (by decide) ?_
        refine ev_goto (tgt := 59) dX10_joined_53 (by decide) ?_
        exact K_59 _ (by rw [if_pos c_49])
    · by_cases c_1_m11 : x1 = (-11)
      · refine ev_tableIn (tgt := 44) (off := 43) dX10_joined_1 (by rw [c_1_m11]; decide) (by rw [c_1_m11]; decide) (by rw [c_1_m11]; rfl) (by decide) ?_
        refine ev_iload_n dX10_joined_44 rfl rfl ?_
        refine ev_iload_n dX10_joined_45 rfl rfl ?_
        refine ev_imul dX10_joined_46 ?_
        have e9 : cx_X10_joined x1 x2 x3 = (x2 * x3) := by unfold cx_X10_joined; rw [if_neg c_1_m13, if_neg c_1_m12, if_pos c_1_m11]
        exact ev_iret dX10_joined_47 rfl rfl ⟨by rw [e9], rfl⟩
      · by_cases c_1_m10 : x1 = (-10)
        · refine ev_tableIn (tgt := 40) (off := 39) dX10_joined_1 (by rw [c_1_m10]; decide) (by rw [c_1_m10]; decide) (by rw [c_1_m10]; rfl) (by decide) ?_
          refine ev_iload_n dX10_joined_40 rfl rfl ?_
          refine ev_iload_n dX10_joined_41 rfl rfl ?_
          refine ev_isub dX10_joined_42 ?_
          have e9 : cx_X10_joined x1 x2 x3 = (x2 - x3) := by unfold cx_X10_joined; rw [if_neg c_1_m13, if_neg c_1_m12, if_neg c_1_m11, if_pos c_1_m10]
          exact ev_iret dX10_joined_43 rfl rfl ⟨by rw [e9], rfl⟩
        · by_cases c_1_m9 : x1 = (-9)
          · refine ev_tableIn (tgt := 36) (off := 35) dX10_joined_1 (by rw [c_1_m9]; decide) (by rw [c_1_m9]; decide) (by rw [c_1_m9]; rfl) (by decide) ?_
            refine ev_iload_n dX10_joined_36 rfl rfl ?_
            refine ev_iload_n dX10_joined_37 rfl rfl ?_
            refine ev_iadd dX10_joined_38 ?_
            have e9 : cx_X10_joined x1 x2 x3 = (x2 + x3) := by unfold cx_X10_joined; rw [if_neg c_1_m13, if_neg c_1_m12, if_neg c_1_m11, if_neg c_1_m10, if_pos c_1_m9]
            exact ev_iret dX10_joined_39 rfl rfl ⟨by rw [e9], rfl⟩
          · refine ev_tableOut (tgt := 66) dX10_joined_1 (by have hm13 : (x1 : Int32).toInt ≠ -13 := fun q => c_1_m13 (Int32.toInt_inj.mp (by rw [q]; rfl)); have hm12 : (x1 : Int32).toInt ≠ -12 := fun q => c_1_m12 (Int32.toInt_inj.mp (by rw [q]; rfl)); have hm11 : (x1 : Int32).toInt ≠ -11 := fun q => c_1_m11 (Int32.toInt_inj.mp (by rw [q]; rfl)); have hm10 : (x1 : Int32).toInt ≠ -10 := fun q => c_1_m10 (Int32.toInt_inj.mp (by rw [q]; rfl)); have hm9 : (x1 : Int32).toInt ≠ -9 := fun q => c_1_m9 (Int32.toInt_inj.mp (by rw [q]; rfl)); omega) (by decide) ?_
            refine ev_iload_n dX10_joined_66 rfl rfl ?_
            refine ev_iload_n dX10_joined_67 rfl rfl ?_
            refine ev_mmax dX10_joined_68 lX10_54 (Nat.le_of_ble_eq_true rfl) (by omega) ?_
            have e9 : cx_X10_joined x1 x2 x3 = (cj_max x2 x3) := by unfold cx_X10_joined; rw [if_neg c_1_m13, if_neg c_1_m12, if_neg c_1_m11, if_neg c_1_m10, if_neg c_1_m9]
            exact ev_iret dX10_joined_71 rfl rfl ⟨by rw [e9], rfl⟩
def cx_X10_compared (x1 : Int32) (x2 : Int32) (x3 : Int32) : Bool :=
  (if x1 = (-16) then (if x2 ≤ x3 then false else true) else (if x1 = (-15) then (if x3 ≤ x2 then false else true) else (if x2 = x3 then true else false)))
theorem c_X10_compared {G : ev_G} {d : Nat} {g : ev_H} {x1 : Int32} {x2 : Int32} {x3 : Int32} : ev_Cp G d mX10_compared [.int x1, .int x2, .int x3] g (some (.int (mo_b (cx_X10_compared x1 x2 x3)))) := by
  refine ev_start (lv0 := [some (.int x1), some (.int x2), some (.int x3)]) (by decide +kernel) rfl (Nat.le_of_ble_eq_true rfl) rfl ?_
  refine ev_iload_n dX10_compared_0 rfl rfl ?_
  by_cases c_1_0 : x1 = (-16)
  · refine ev_lookup (tgt := 39) (off := 38) dX10_compared_1 (by decide) (by rw [c_1_0]; decide) (by decide) ?_
    refine ev_iload_n dX10_compared_39 rfl rfl ?_
    refine ev_iload_n dX10_compared_40 rfl rfl ?_
    have K_49 : ∀ x9 : Int32, x9 = (mo_b (if x2 ≤ x3 then false else true)) → ev_V G d 0 0 mX10_compared (fun o g' => o = .inl (some (.int (mo_b (cx_X10_compared x1 x2 x3)))) ∧ g' = g) g 49 [some (.int x1), some (.int x2), some (.int x3)] (.int x9 :: []) := by
      intro x9 h9
      subst h9
      have e9 : cx_X10_compared x1 x2 x3 = (if x2 ≤ x3 then false else true) := by unfold cx_X10_compared; rw [if_pos c_1_0]
      exact ev_iret dX10_compared_49 rfl (by first | exact mo_b_nar _ | rfl) ⟨by rw [e9], rfl⟩
    refine ev_icmp_le (tgt := 48) dX10_compared_41 (by decide) (fun c_41 => ?_) (fun c_41 => ?_)
    · refine ev_iconst (v := 0) dX10_compared_48 (by decide) ?_
      exact K_49 _ (by rw [if_pos c_41]; rfl)
    · refine ev_iconst (v := 1) dX10_compared_44 (by decide) ?_
      refine ev_goto (tgt := 49) dX10_compared_45 (by decide) ?_
      exact K_49 _ (by rw [if_neg c_41]; rfl)
  · by_cases c_1_1 : x1 = (-15)
    · refine ev_lookup (tgt := 28) (off := 27) dX10_compared_1 (by decide) (by rw [c_1_1]; decide) (by decide) ?_
      refine ev_iload_n dX10_compared_28 rfl rfl ?_
      refine ev_iload_n dX10_compared_29 rfl rfl ?_
      have K_38 : ∀ x9 : Int32, x9 = (mo_b (if x3 ≤ x2 then false else true)) → ev_V G d 0 0 mX10_compared (fun o g' => o = .inl (some (.int (mo_b (cx_X10_compared x1 x2 x3)))) ∧ g' = g) g 38 [some (.int x1), some (.int x2), some (.int x3)] (.int x9 :: []) := by
        intro x9 h9
        subst h9
        have e9 : cx_X10_compared x1 x2 x3 = (if x3 ≤ x2 then false else true) := by unfold cx_X10_compared; rw [if_neg c_1_0, if_pos c_1_1]
        exact ev_iret dX10_compared_38 rfl (by first | exact mo_b_nar _ | rfl) ⟨by rw [e9], rfl⟩
      refine ev_icmp_ge (tgt := 37) dX10_compared_30 (by decide) (fun c_30 => ?_) (fun c_30 => ?_)
      · refine ev_iconst (v := 0) dX10_compared_37 (by decide) ?_
        exact K_38 _ (by rw [if_pos c_30]; rfl)
      · refine ev_iconst (v := 1) dX10_compared_33 (by decide) ?_
        refine ev_goto (tgt := 38) dX10_compared_34 (by decide) ?_
        exact K_38 _ (by rw [if_neg c_30]; rfl)
    · refine ev_lookup (tgt := 50) (off := 49) dX10_compared_1 (by decide) (by have h0 : ¬ (x1 : Int32).toInt = (-16) := fun q => c_1_0 (Int32.toInt_inj.mp (by rw [q]; rfl)); have h1 : ¬ (x1 : Int32).toInt = (-15) := fun q => c_1_1 (Int32.toInt_inj.mp (by rw [q]; rfl)); have g0 : ¬ (-16) = (x1 : Int32).toInt := fun q => h0 q.symm; have g1 : ¬ (-15) = (x1 : Int32).toInt := fun q => h1 q.symm; simp [Op.lookupswitch.offset, h0, g0, h1, g1]) (by decide) ?_
      refine ev_iload_n dX10_compared_50 rfl rfl ?_
      refine ev_iload_n dX10_compared_51 rfl rfl ?_
      have K_60 : ∀ x9 : Int32, x9 = (mo_b (if x2 = x3 then true else false)) → ev_V G d 0 0 mX10_compared (fun o g' => o = .inl (some (.int (mo_b (cx_X10_compared x1 x2 x3)))) ∧ g' = g) g 60 [some (.int x1), some (.int x2), some (.int x3)] (.int x9 :: []) := by
        intro x9 h9
        subst h9
        have e9 : cx_X10_compared x1 x2 x3 = (if x2 = x3 then true else false) := by unfold cx_X10_compared; rw [if_neg c_1_0, if_neg c_1_1]
        exact ev_iret dX10_compared_60 rfl (by first | exact mo_b_nar _ | rfl) ⟨by rw [e9], rfl⟩
      refine ev_icmp_ne (tgt := 59) dX10_compared_52 (by decide) (fun c_52 => ?_) (fun c_52 => ?_)
      · refine ev_iconst (v := 0) dX10_compared_59 (by decide) ?_
        exact K_60 _ (by rw [if_neg c_52]; rfl)
      · refine ev_iconst (v := 1) dX10_compared_55 (by decide) ?_
        refine ev_goto (tgt := 60) dX10_compared_56 (by decide) ?_
        exact K_60 _ (by rw [if_pos c_52]; rfl)
def cx_X7_isLetter (x1 : Int32) : Bool :=
  (if x1 < 97 then false else (if 122 < x1 then false else true))
theorem c_X7_isLetter {G : ev_G} {d : Nat} {g : ev_H} {x1 : Int32} : ev_Cp G d mX7_isLetter [.int x1] g (some (.int (mo_b (cx_X7_isLetter x1)))) := by
  refine ev_start (lv0 := [some (.int x1)]) (by decide +kernel) rfl (Nat.le_of_ble_eq_true rfl) rfl ?_
  refine ev_iload_n dX7_isLetter_0 rfl rfl ?_
  refine ev_bipush (v := 97) dX7_isLetter_1 (by decide) ?_
  have K_17 : ∀ x9 : Int32, x9 = (mo_b (if x1 < 97 then false else (if 122 < x1 then false else true))) → ev_V G d 0 0 mX7_isLetter (fun o g' => o = .inl (some (.int (mo_b (cx_X7_isLetter x1)))) ∧ g' = g) g 17 [some (.int x1)] (.int x9 :: []) := by
    intro x9 h9
    subst h9
    have e9 : cx_X7_isLetter x1 = (if x1 < 97 then false else (if 122 < x1 then false else true)) := by unfold cx_X7_isLetter; rfl
    exact ev_iret dX7_isLetter_17 rfl (by first | exact mo_b_nar _ | rfl) ⟨by rw [e9], rfl⟩
  refine ev_icmp_lt (tgt := 16) dX7_isLetter_3 (by decide) (fun c_3 => ?_) (fun c_3 => ?_)
  · refine ev_iconst (v := 0) dX7_isLetter_16 (by decide) ?_
    exact K_17 _ (by rw [if_pos c_3]; rfl)
  · refine ev_iload_n dX7_isLetter_6 rfl rfl ?_
    refine ev_bipush (v := 122) dX7_isLetter_7 (by decide) ?_
    refine ev_icmp_gt (tgt := 16) dX7_isLetter_9 (by decide) (fun c_9 => ?_) (fun c_9 => ?_)
    · refine ev_iconst (v := 0) dX7_isLetter_16 (by decide) ?_
      exact K_17 _ (by rw [if_neg c_3, if_pos c_9]; rfl)
    · refine ev_iconst (v := 1) dX7_isLetter_12 (by decide) ?_
      refine ev_goto (tgt := 17) dX7_isLetter_13 (by decide) ?_
      exact K_17 _ (by rw [if_neg c_3, if_neg c_9]; rfl)
def cx_X7_isDigit (x1 : Int32) : Bool :=
  (if x1 < 48 then false else (if 57 < x1 then false else true))
theorem c_X7_isDigit {G : ev_G} {d : Nat} {g : ev_H} {x1 : Int32} : ev_Cp G d mX7_isDigit [.int x1] g (some (.int (mo_b (cx_X7_isDigit x1)))) := by
  refine ev_start (lv0 := [some (.int x1)]) (by decide +kernel) rfl (Nat.le_of_ble_eq_true rfl) rfl ?_
  refine ev_iload_n dX7_isDigit_0 rfl rfl ?_
  refine ev_bipush (v := 48) dX7_isDigit_1 (by decide) ?_
  have K_17 : ∀ x9 : Int32, x9 = (mo_b (if x1 < 48 then false else (if 57 < x1 then false else true))) → ev_V G d 0 0 mX7_isDigit (fun o g' => o = .inl (some (.int (mo_b (cx_X7_isDigit x1)))) ∧ g' = g) g 17 [some (.int x1)] (.int x9 :: []) := by
    intro x9 h9
    subst h9
    have e9 : cx_X7_isDigit x1 = (if x1 < 48 then false else (if 57 < x1 then false else true)) := by unfold cx_X7_isDigit; rfl
    exact ev_iret dX7_isDigit_17 rfl (by first | exact mo_b_nar _ | rfl) ⟨by rw [e9], rfl⟩
  refine ev_icmp_lt (tgt := 16) dX7_isDigit_3 (by decide) (fun c_3 => ?_) (fun c_3 => ?_)
  · refine ev_iconst (v := 0) dX7_isDigit_16 (by decide) ?_
    exact K_17 _ (by rw [if_pos c_3]; rfl)
  · refine ev_iload_n dX7_isDigit_6 rfl rfl ?_
    refine ev_bipush (v := 57) dX7_isDigit_7 (by decide) ?_
    refine ev_icmp_gt (tgt := 16) dX7_isDigit_9 (by decide) (fun c_9 => ?_) (fun c_9 => ?_)
    · refine ev_iconst (v := 0) dX7_isDigit_16 (by decide) ?_
      exact K_17 _ (by rw [if_neg c_3, if_pos c_9]; rfl)
    · refine ev_iconst (v := 1) dX7_isDigit_12 (by decide) ?_
      refine ev_goto (tgt := 17) dX7_isDigit_13 (by decide) ?_
      exact K_17 _ (by rw [if_neg c_3, if_neg c_9]; rfl)
def cx_X5_isAdmitted (C : mo_S) (p : Nat) : Bool :=
  (if (C.1 12 p) = 1 then true else false)
theorem c_X5_isAdmitted {G : ev_G} {W : cw_W} {d : Nat} {C : mo_S} {p : Nat} (hE : ev_En G) (hp : p < sp_P C) : cw_C G W d mX5_isAdmitted [.ref (W 20 p)] C (some (.int (mo_b (cx_X5_isAdmitted C p)))) C := by
  refine cw_start (lv0 := [some (.ref (W 20 p))]) (by decide +kernel) rfl (Nat.le_of_ble_eq_true rfl) rfl ?_
  intro K g0 g hT
  refine ev_aload_n dX5_isAdmitted_0 rfl rfl ?_
  refine cw_getf hE hT dX5_isAdmitted_1 fX5_24 (k := 20) (i := p) hp ob20 rfl ?_
  refine ev_iconst (v := 1) dX5_isAdmitted_4 (by decide) ?_
  have K_13 : ∀ (g : ev_H) (hT : cw_T G K g0 W g C), ∀ x9 : Int32, x9 = (mo_b (if (C.1 12 p) = 1 then true else false)) → ev_V G d 0 0 mX5_isAdmitted (fun o g' => o = .inl (some (.int (mo_b (cx_X5_isAdmitted C p)))) ∧ cw_T G K g0 W g' C) g 13 [some (.ref (W 20 p))] (.int x9 :: []) := by
    intro g hT x9 h9
    subst h9
    have e9 : cx_X5_isAdmitted C p = (if (C.1 12 p) = 1 then true else false) := by unfold cx_X5_isAdmitted; rfl
    exact ev_iret dX5_isAdmitted_13 rfl (by first | exact mo_b_nar _ | rfl) ⟨by rw [e9], hT⟩
  refine ev_icmp_ne (tgt := 12) dX5_isAdmitted_5 (by decide) (fun c_5 => ?_) (fun c_5 => ?_)
  · refine ev_iconst (v := 0) dX5_isAdmitted_12 (by decide) ?_
    exact K_13 g hT _ (by rw [if_neg c_5]; rfl)
  · refine ev_iconst (v := 1) dX5_isAdmitted_8 (by decide) ?_
    refine ev_goto (tgt := 13) dX5_isAdmitted_9 (by decide) ?_
    exact K_13 g hT _ (by rw [if_pos c_5]; rfl)
def cx_X5_field (C : mo_S) (p : Nat) (x1 : Int32) : Int32 :=
  (if x1 = 0 then (C.1 3 p) else (if x1 = 1 then (C.1 4 p) else (if x1 = 2 then (C.1 5 p) else (if x1 = 3 then (C.1 6 p) else (if x1 = 4 then (C.1 7 p) else (if x1 = 5 then (C.1 8 p) else (if x1 = 6 then (C.1 9 p) else (if x1 = 7 then (C.1 10 p) else (if x1 = 8 then (C.1 11 p) else (if x1 = 9 then (C.1 12 p) else (C.1 13 p)))))))))))
theorem c_X5_field {G : ev_G} {W : cw_W} {d : Nat} {C : mo_S} {p : Nat} {x1 : Int32} (hE : ev_En G) (hp : p < sp_P C) : cw_C G W d mX5_field [.ref (W 20 p), .int x1] C (some (.int (cx_X5_field C p x1))) C := by
  refine cw_start (lv0 := [some (.ref (W 20 p)), some (.int x1)]) (by decide +kernel) rfl (Nat.le_of_ble_eq_true rfl) rfl ?_
  intro K g0 g hT
  refine ev_iload_n dX5_field_0 rfl rfl ?_
  by_cases c_1_0 : x1 = 0
  · refine ev_tableIn (tgt := 56) (off := 55) dX5_field_1 (by rw [c_1_0]; decide) (by rw [c_1_0]; decide) (by rw [c_1_0]; rfl) (by decide) ?_
    refine ev_aload_n dX5_field_56 rfl rfl ?_
    refine cw_getf hE hT dX5_field_57 fX5_57 (k := 20) (i := p) hp ob20 rfl ?_
    have e9 : cx_X5_field C p x1 = (C.1 3 p) := by unfold cx_X5_field; rw [if_pos c_1_0]
    exact ev_iret dX5_field_60 rfl rfl ⟨by rw [e9], hT⟩
  · by_cases c_1_1 : x1 = 1
    · refine ev_tableIn (tgt := 61) (off := 60) dX5_field_1 (by rw [c_1_1]; decide) (by rw [c_1_1]; decide) (by rw [c_1_1]; rfl) (by decide) ?_
      refine ev_aload_n dX5_field_61 rfl rfl ?_
      refine cw_getf hE hT dX5_field_62 fX5_60 (k := 20) (i := p) hp ob20 rfl ?_
      have e9 : cx_X5_field C p x1 = (C.1 4 p) := by unfold cx_X5_field; rw [if_neg c_1_0, if_pos c_1_1]
      exact ev_iret dX5_field_65 rfl rfl ⟨by rw [e9], hT⟩
    · by_cases c_1_2 : x1 = 2
      · refine ev_tableIn (tgt := 66) (off := 65) dX5_field_1 (by rw [c_1_2]; decide) (by rw [c_1_2]; decide) (by rw [c_1_2]; rfl) (by decide) ?_
        refine ev_aload_n dX5_field_66 rfl rfl ?_
        refine cw_getf hE hT dX5_field_67 fX5_63 (k := 20) (i := p) hp ob20 rfl ?_
        have e9 : cx_X5_field C p x1 = (C.1 5 p) := by unfold cx_X5_field; rw [if_neg c_1_0, if_neg c_1_1, if_pos c_1_2]
        exact ev_iret dX5_field_70 rfl rfl ⟨by rw [e9], hT⟩
      · by_cases c_1_3 : x1 = 3
        · refine ev_tableIn (tgt := 71) (off := 70) dX5_field_1 (by rw [c_1_3]; decide) (by rw [c_1_3]; decide) (by rw [c_1_3]; rfl) (by decide) ?_
          refine ev_aload_n dX5_field_71 rfl rfl ?_
          refine cw_getf hE hT dX5_field_72 fX5_66 (k := 20) (i := p) hp ob20 rfl ?_
          have e9 : cx_X5_field C p x1 = (C.1 6 p) := by unfold cx_X5_field; rw [if_neg c_1_0, if_neg c_1_1, if_neg c_1_2, if_pos c_1_3]
          exact ev_iret dX5_field_75 rfl rfl ⟨by rw [e9], hT⟩
        · by_cases c_1_4 : x1 = 4
          · refine ev_tableIn (tgt := 76) (off := 75) dX5_field_1 (by rw [c_1_4]; decide) (by rw [c_1_4]; decide) (by rw [c_1_4]; rfl) (by decide) ?_
            refine ev_aload_n dX5_field_76 rfl rfl ?_
            refine cw_getf hE hT dX5_field_77 fX5_69 (k := 20) (i := p) hp ob20 rfl ?_
            have e9 : cx_X5_field C p x1 = (C.1 7 p) := by unfold cx_X5_field; rw [if_neg c_1_0, if_neg c_1_1, if_neg c_1_2, if_neg c_1_3, if_pos c_1_4]
            exact ev_iret dX5_field_80 rfl rfl ⟨by rw [e9], hT⟩
          · by_cases c_1_5 : x1 = 5
            · refine ev_tableIn (tgt := 81) (off := 80) dX5_field_1 (by rw [c_1_5]; decide) (by rw [c_1_5]; decide) (by rw [c_1_5]; rfl) (by decide) ?_
              refine ev_aload_n dX5_field_81 rfl rfl ?_
              refine cw_getf hE hT dX5_field_82 fX5_9 (k := 20) (i := p) hp ob20 rfl ?_
              have e9 : cx_X5_field C p x1 = (C.1 8 p) := by unfold cx_X5_field; rw [if_neg c_1_0, if_neg c_1_1, if_neg c_1_2, if_neg c_1_3, if_neg c_1_4, if_pos c_1_5]
              exact ev_iret dX5_field_85 rfl rfl ⟨by rw [e9], hT⟩
            · by_cases c_1_6 : x1 = 6
              · refine ev_tableIn (tgt := 86) (off := 85) dX5_field_1 (by rw [c_1_6]; decide) (by rw [c_1_6]; decide) (by rw [c_1_6]; rfl) (by decide) ?_
                refine ev_aload_n dX5_field_86 rfl rfl ?_
                refine cw_getf hE hT dX5_field_87 fX5_15 (k := 20) (i := p) hp ob20 rfl ?_
                have e9 : cx_X5_field C p x1 = (C.1 9 p) := by unfold cx_X5_field; rw [if_neg c_1_0, if_neg c_1_1, if_neg c_1_2, if_neg c_1_3, if_neg c_1_4, if_neg c_1_5, if_pos c_1_6]
                exact ev_iret dX5_field_90 rfl rfl ⟨by rw [e9], hT⟩
              · by_cases c_1_7 : x1 = 7
                · refine ev_tableIn (tgt := 91) (off := 90) dX5_field_1 (by rw [c_1_7]; decide) (by rw [c_1_7]; decide) (by rw [c_1_7]; rfl) (by decide) ?_
                  refine ev_aload_n dX5_field_91 rfl rfl ?_
                  refine cw_getf hE hT dX5_field_92 fX5_18 (k := 20) (i := p) hp ob20 rfl ?_
                  have e9 : cx_X5_field C p x1 = (C.1 10 p) := by unfold cx_X5_field; rw [if_neg c_1_0, if_neg c_1_1, if_neg c_1_2, if_neg c_1_3, if_neg c_1_4, if_neg c_1_5, if_neg c_1_6, if_pos c_1_7]
                  exact ev_iret dX5_field_95 rfl rfl ⟨by rw [e9], hT⟩
                · by_cases c_1_8 : x1 = 8
                  · refine ev_tableIn (tgt := 96) (off := 95) dX5_field_1 (by rw [c_1_8]; decide) (by rw [c_1_8]; decide) (by rw [c_1_8]; rfl) (by decide) ?_
                    refine ev_aload_n dX5_field_96 rfl rfl ?_
                    refine cw_getf hE hT dX5_field_97 fX5_21 (k := 20) (i := p) hp ob20 rfl ?_
                    have e9 : cx_X5_field C p x1 = (C.1 11 p) := by unfold cx_X5_field; rw [if_neg c_1_0, if_neg c_1_1, if_neg c_1_2, if_neg c_1_3, if_neg c_1_4, if_neg c_1_5, if_neg c_1_6, if_neg c_1_7, if_pos c_1_8]
                    exact ev_iret dX5_field_100 rfl rfl ⟨by rw [e9], hT⟩
                  · by_cases c_1_9 : x1 = 9
                    · refine ev_tableIn (tgt := 101) (off := 100) dX5_field_1 (by rw [c_1_9]; decide) (by rw [c_1_9]; decide) (by rw [c_1_9]; rfl) (by decide) ?_
                      refine ev_aload_n dX5_field_101 rfl rfl ?_
                      refine cw_getf hE hT dX5_field_102 fX5_24 (k := 20) (i := p) hp ob20 rfl ?_
                      have e9 : cx_X5_field C p x1 = (C.1 12 p) := by unfold cx_X5_field; rw [if_neg c_1_0, if_neg c_1_1, if_neg c_1_2, if_neg c_1_3, if_neg c_1_4, if_neg c_1_5, if_neg c_1_6, if_neg c_1_7, if_neg c_1_8, if_pos c_1_9]
                      exact ev_iret dX5_field_105 rfl rfl ⟨by rw [e9], hT⟩
                    · refine ev_tableOut (tgt := 106) dX5_field_1 (by have h0 : (x1 : Int32).toInt ≠ 0 := fun q => c_1_0 (Int32.toInt_inj.mp (by rw [q]; rfl)); have h1 : (x1 : Int32).toInt ≠ 1 := fun q => c_1_1 (Int32.toInt_inj.mp (by rw [q]; rfl)); have h2 : (x1 : Int32).toInt ≠ 2 := fun q => c_1_2 (Int32.toInt_inj.mp (by rw [q]; rfl)); have h3 : (x1 : Int32).toInt ≠ 3 := fun q => c_1_3 (Int32.toInt_inj.mp (by rw [q]; rfl)); have h4 : (x1 : Int32).toInt ≠ 4 := fun q => c_1_4 (Int32.toInt_inj.mp (by rw [q]; rfl)); have h5 : (x1 : Int32).toInt ≠ 5 := fun q => c_1_5 (Int32.toInt_inj.mp (by rw [q]; rfl)); have h6 : (x1 : Int32).toInt ≠ 6 := fun q => c_1_6 (Int32.toInt_inj.mp (by rw [q]; rfl)); have h7 : (x1 : Int32).toInt ≠ 7 := fun q => c_1_7 (Int32.toInt_inj.mp (by rw [q]; rfl)); have h8 : (x1 : Int32).toInt ≠ 8 := fun q => c_1_8 (Int32.toInt_inj.mp (by rw [q]; rfl)); have h9 : (x1 : Int32).toInt ≠ 9 := fun q => c_1_9 (Int32.toInt_inj.mp (by rw [q]; rfl)); omega) (by decide) ?_
                      refine ev_aload_n dX5_field_106 rfl rfl ?_
                      refine cw_getf hE hT dX5_field_107 fX5_27 (k := 20) (i := p) hp ob20 rfl ?_
                      have e9 : cx_X5_field C p x1 = (C.1 13 p) := by unfold cx_X5_field; rw [if_neg c_1_0, if_neg c_1_1, if_neg c_1_2, if_neg c_1_3, if_neg c_1_4, if_neg c_1_5, if_neg c_1_6, if_neg c_1_7, if_neg c_1_8, if_neg c_1_9]
                      exact ev_iret dX5_field_110 rfl rfl ⟨by rw [e9], hT⟩
def cx_X5_change (C : mo_S) (p : Nat) (x1 : Int32) (x2 : Int32) : Int32 × mo_S :=
  (if x1 = 0 then ((C.1 5 p), (mo_up C 5 p x2)) else (if x1 = 1 then ((C.1 6 p), (mo_up C 6 p x2)) else (if x1 = 2 then ((C.1 7 p), (mo_up C 7 p x2)) else ((C.1 8 p), (mo_up C 8 p x2)))))
theorem c_X5_change {G : ev_G} {W : cw_W} {d : Nat} {C : mo_S} {p : Nat} {x1 : Int32} {x2 : Int32} (hE : ev_En G) (hp : p < sp_P C) : cw_C G W d mX5_change [.ref (W 20 p), .int x1, .int x2] C (some (.int (cx_X5_change C p x1 x2).1)) (cx_X5_change C p x1 x2).2 := by
  refine cw_start (lv0 := [some (.ref (W 20 p)), some (.int x1), some (.int x2), none]) (by decide +kernel) rfl (Nat.le_of_ble_eq_true rfl) rfl ?_
  intro K g0 g hT
  refine ev_iload_n dX5_change_0 rfl rfl ?_
  by_cases c_1_0 : x1 = 0
  · refine ev_tableIn (tgt := 28) (off := 27) dX5_change_1 (by rw [c_1_0]; decide) (by rw [c_1_0]; decide) (by rw [c_1_0]; rfl) (by decide) ?_
    refine ev_aload_n dX5_change_28 rfl rfl ?_
    refine cw_getf hE hT dX5_change_29 fX5_63 (k := 20) (i := p) hp ob20 rfl ?_
    refine ev_istore_n dX5_change_32 rfl (Nat.le_of_ble_eq_true rfl) rfl ?_
    refine ev_aload_n dX5_change_33 rfl rfl ?_
    refine ev_iload_n dX5_change_34 rfl rfl ?_
    refine cw_putf (k := 20) (i := p) (f := 5) (x := p) hE hT dX5_change_35 pX5_63 hp ob20 (Nat.le_of_ble_eq_true rfl) rfl rfl rfl (by decide) (by decide) pu20_2 (fun g hT => ?_)
    refine ev_goto (tgt := 77) dX5_change_38 (by decide) ?_
    refine ev_iload_n dX5_change_77 rfl rfl ?_
    have e9 : cx_X5_change C p x1 x2 = ((C.1 5 p), (mo_up C 5 p x2)) := by unfold cx_X5_change; rw [if_pos c_1_0]
    exact ev_iret dX5_change_78 rfl rfl ⟨by rw [e9], by rw [e9]; exact hT⟩
  · by_cases c_1_1 : x1 = 1
    · refine ev_tableIn (tgt := 41) (off := 40) dX5_change_1 (by rw [c_1_1]; decide) (by rw [c_1_1]; decide) (by rw [c_1_1]; rfl) (by decide) ?_
      refine ev_aload_n dX5_change_41 rfl rfl ?_
      refine cw_getf hE hT dX5_change_42 fX5_66 (k := 20) (i := p) hp ob20 rfl ?_
      refine ev_istore_n dX5_change_45 rfl (Nat.le_of_ble_eq_true rfl) rfl ?_
      refine ev_aload_n dX5_change_46 rfl rfl ?_
      refine ev_iload_n dX5_change_47 rfl rfl ?_
      refine cw_putf (k := 20) (i := p) (f := 6) (x := p) hE hT dX5_change_48 pX5_66 hp ob20 (Nat.le_of_ble_eq_true rfl) rfl rfl rfl (by decide) (by decide) pu20_3 (fun g hT => ?_)
      refine ev_goto (tgt := 77) dX5_change_51 (by decide) ?_
      refine ev_iload_n dX5_change_77 rfl rfl ?_
      have e9 : cx_X5_change C p x1 x2 = ((C.1 6 p), (mo_up C 6 p x2)) := by unfold cx_X5_change; rw [if_neg c_1_0, if_pos c_1_1]
      exact ev_iret dX5_change_78 rfl rfl ⟨by rw [e9], by rw [e9]; exact hT⟩
    · by_cases c_1_2 : x1 = 2
      · refine ev_tableIn (tgt := 54) (off := 53) dX5_change_1 (by rw [c_1_2]; decide) (by rw [c_1_2]; decide) (by rw [c_1_2]; rfl) (by decide) ?_
        refine ev_aload_n dX5_change_54 rfl rfl ?_
        refine cw_getf hE hT dX5_change_55 fX5_69 (k := 20) (i := p) hp ob20 rfl ?_
        refine ev_istore_n dX5_change_58 rfl (Nat.le_of_ble_eq_true rfl) rfl ?_
        refine ev_aload_n dX5_change_59 rfl rfl ?_
        refine ev_iload_n dX5_change_60 rfl rfl ?_
        refine cw_putf (k := 20) (i := p) (f := 7) (x := p) hE hT dX5_change_61 pX5_69 hp ob20 (Nat.le_of_ble_eq_true rfl) rfl rfl rfl (by decide) (by decide) pu20_4 (fun g hT => ?_)
        refine ev_goto (tgt := 77) dX5_change_64 (by decide) ?_
        refine ev_iload_n dX5_change_77 rfl rfl ?_
        have e9 : cx_X5_change C p x1 x2 = ((C.1 7 p), (mo_up C 7 p x2)) := by unfold cx_X5_change; rw [if_neg c_1_0, if_neg c_1_1, if_pos c_1_2]
        exact ev_iret dX5_change_78 rfl rfl ⟨by rw [e9], by rw [e9]; exact hT⟩
      · refine ev_tableOut (tgt := 67) dX5_change_1 (by have h0 : (x1 : Int32).toInt ≠ 0 := fun q => c_1_0 (Int32.toInt_inj.mp (by rw [q]; rfl)); have h1 : (x1 : Int32).toInt ≠ 1 := fun q => c_1_1 (Int32.toInt_inj.mp (by rw [q]; rfl)); have h2 : (x1 : Int32).toInt ≠ 2 := fun q => c_1_2 (Int32.toInt_inj.mp (by rw [q]; rfl)); omega) (by decide) ?_
        refine ev_aload_n dX5_change_67 rfl rfl ?_
        refine cw_getf hE hT dX5_change_68 fX5_9 (k := 20) (i := p) hp ob20 rfl ?_
        refine ev_istore_n dX5_change_71 rfl (Nat.le_of_ble_eq_true rfl) rfl ?_
        refine ev_aload_n dX5_change_72 rfl rfl ?_
        refine ev_iload_n dX5_change_73 rfl rfl ?_
        refine cw_putf (k := 20) (i := p) (f := 8) (x := p) hE hT dX5_change_74 pX5_9 hp ob20 (Nat.le_of_ble_eq_true rfl) rfl rfl rfl (by decide) (by decide) pu20_5 (fun g hT => ?_)
        refine ev_iload_n dX5_change_77 rfl rfl ?_
        have e9 : cx_X5_change C p x1 x2 = ((C.1 8 p), (mo_up C 8 p x2)) := by unfold cx_X5_change; rw [if_neg c_1_0, if_neg c_1_1, if_neg c_1_2]
        exact ev_iret dX5_change_78 rfl rfl ⟨by rw [e9], by rw [e9]; exact hT⟩
def cx_X5_addSize (C : mo_S) (p : Nat) (q : Nat) : mo_S :=
  (mo_up (mo_up (mo_up C 4 p (cj_min ((C.1 4 p) + (C.1 4 q)) 100000)) 5 p (cj_min ((C.1 5 p) + (C.1 5 q)) 1000)) 10 p ((C.1 10 p) + (C.1 10 q)))
theorem c_X5_addSize {G : ev_G} {W : cw_W} {d : Nat} {C : mo_S} {p : Nat} {q : Nat} (hE : ev_En G) (hd : 1 ≤ d) (hp : p < sp_P C) (hq : q < sp_P C) : cw_C G W d mX5_addSize [.ref (W 20 p), .ref (W 20 q)] C none (cx_X5_addSize C p q) := by
  refine cw_start (lv0 := [some (.ref (W 20 p)), some (.ref (W 20 q))]) (by decide +kernel) rfl (Nat.le_of_ble_eq_true rfl) rfl ?_
  intro K g0 g hT
  refine ev_aload_n dX5_addSize_0 rfl rfl ?_
  refine ev_aload_n dX5_addSize_1 rfl rfl ?_
  refine cw_getf hE hT dX5_addSize_2 fX5_60 (k := 20) (i := p) hp ob20 rfl ?_
  refine ev_aload_n dX5_addSize_5 rfl rfl ?_
  refine cw_getf hE hT dX5_addSize_6 fX5_60 (k := 20) (i := q) hq ob20 rfl ?_
  refine ev_iadd dX5_addSize_9 ?_
  refine ev_ldc dX5_addSize_10 nX5_78 ?_
  refine ev_mmin dX5_addSize_12 lX5_79 (Nat.le_of_ble_eq_true rfl) (by omega) ?_
  refine cw_putf (k := 20) (i := p) (f := 4) (x := p) hE hT dX5_addSize_15 pX5_60 hp ob20 (Nat.le_of_ble_eq_true rfl) rfl rfl rfl (by decide) (by decide) pu20_1 (fun g hT => ?_)
  refine ev_aload_n dX5_addSize_18 rfl rfl ?_
  refine ev_aload_n dX5_addSize_19 rfl rfl ?_
  refine cw_geti (v2 := (C.1 5 p)) hE hT dX5_addSize_20 fX5_63 (k := 20) (i := p) hp ob20 rfl (by simp [mo_up]) ?_
  refine ev_aload_n dX5_addSize_23 rfl rfl ?_
  refine cw_geti (v2 := (C.1 5 q)) hE hT dX5_addSize_24 fX5_63 (k := 20) (i := q) hq ob20 rfl (by simp [mo_up]) ?_
  refine ev_iadd dX5_addSize_27 ?_
  refine ev_sipush (v := 1000) dX5_addSize_28 (by decide) ?_
  refine ev_mmin dX5_addSize_31 lX5_79 (Nat.le_of_ble_eq_true rfl) (by omega) ?_
  refine cw_putf (k := 20) (i := p) (f := 5) (x := p) hE hT dX5_addSize_34 pX5_63 hp ob20 (Nat.le_of_ble_eq_true rfl) rfl rfl rfl (by decide) (by decide) pu20_2 (fun g hT => ?_)
  refine ev_aload_n dX5_addSize_37 rfl rfl ?_
  refine ev_dup dX5_addSize_38 rfl ?_
  refine cw_geti (v2 := (C.1 10 p)) hE hT dX5_addSize_39 fX5_18 (k := 20) (i := p) hp ob20 rfl (by simp [mo_up]) ?_
  refine ev_aload_n dX5_addSize_42 rfl rfl ?_
  refine cw_geti (v2 := (C.1 10 q)) hE hT dX5_addSize_43 fX5_18 (k := 20) (i := q) hq ob20 rfl (by simp [mo_up]) ?_
  refine ev_iadd dX5_addSize_46 ?_
  refine cw_putf (k := 20) (i := p) (f := 10) (x := p) hE hT dX5_addSize_47 pX5_18 hp ob20 (Nat.le_of_ble_eq_true rfl) rfl rfl rfl (by decide) (by decide) pu20_7 (fun g hT => ?_)
  have e9 : cx_X5_addSize C p q = (mo_up (mo_up (mo_up C 4 p (cj_min ((C.1 4 p) + (C.1 4 q)) 100000)) 5 p (cj_min ((C.1 5 p) + (C.1 5 q)) 1000)) 10 p ((C.1 10 p) + (C.1 10 q))) := by unfold cx_X5_addSize; rfl
  exact ev_vret dX5_addSize_50 rfl ⟨rfl, by rw [e9]; exact hT⟩
def cx_X5_takeFrom (C : mo_S) (p : Nat) (q : Nat) (x1 : Int32) : mo_S :=
  (mo_up C 58 (12 * p + q) ((C.1 58 (12 * p + q)) + x1))
theorem c_X5_takeFrom {G : ev_G} {W : cw_W} {d : Nat} {C : mo_S} {p : Nat} {q : Nat} {x1 : Int32} (hE : ev_En G) (hp : p < sp_P C) (hq : q < 12) : cw_C G W d mX5_takeFrom [.ref (W 20 p), .int (nI q), .int x1] C none (cx_X5_takeFrom C p q x1) := by
  refine cw_start (lv0 := [some (.ref (W 20 p)), some (.int (nI q)), some (.int x1)]) (by decide +kernel) rfl (Nat.le_of_ble_eq_true rfl) rfl ?_
  intro K g0 g hT
  refine ev_iload_n dX5_takeFrom_0 rfl rfl ?_
  refine ev_if_lt (tgt := 23) dX5_takeFrom_1 (by decide) (fun c_1 => ?_) (fun c_1 => ?_)
  · exact absurd c_1 (nI_pos (by omega))
  · refine ev_iload_n dX5_takeFrom_4 rfl rfl ?_
    refine ev_aload_n dX5_takeFrom_5 rfl rfl ?_
    refine cw_getf hE hT dX5_takeFrom_6 fX5_40 (k := 20) (i := p) hp ob20 rfl ?_
    refine cw_alen (n := 12) hE hT dX5_takeFrom_9 (k := 22) (i := p) hp ar22 ?_
    refine ev_icmp_ge (tgt := 23) dX5_takeFrom_10 (by decide) (fun c_10 => ?_) (fun c_10 => ?_)
    · exact absurd c_10 (nI_ge (b := 12) (by omega) (by decide))
    · refine ev_aload_n dX5_takeFrom_13 rfl rfl ?_
      refine cw_getf hE hT dX5_takeFrom_14 fX5_40 (k := 20) (i := p) hp ob20 rfl ?_
      refine ev_iload_n dX5_takeFrom_17 rfl rfl ?_
      refine ev_dup2 dX5_takeFrom_18 rfl rfl ?_
      refine cw_ial (q := q) (v := (C.1 58 (12 * p + q))) hE hT dX5_takeFrom_19 (k := 22) (i := p) hp ar22 rfl (by omega) (by decide) rfl ?_
      refine ev_iload_n dX5_takeFrom_20 rfl rfl ?_
      refine ev_iadd dX5_takeFrom_21 ?_
      refine cw_ias (q := q) (f := 58) (ix := (12 * p + q)) hE hT dX5_takeFrom_22 (k := 22) (i := p) hp ar22 rfl (by omega) (by decide) (by show (22, (12 * p + q) / 12) = (22, p); rw [Nat.mul_add_div (by decide), Nat.div_eq_of_lt (by omega)]; rfl) (by decide) (by decide) (pa22 (i := p)) (fun g hT => ?_)
      have e9 : cx_X5_takeFrom C p q x1 = (mo_up C 58 (12 * p + q) ((C.1 58 (12 * p + q)) + x1)) := by unfold cx_X5_takeFrom; rfl
      exact ev_vret dX5_takeFrom_23 rfl ⟨rfl, by rw [e9]; exact hT⟩
def cx_X5_tookFrom (C : mo_S) (p : Nat) (q : Nat) : Int32 :=
  (C.1 58 (12 * p + q))
theorem c_X5_tookFrom {G : ev_G} {W : cw_W} {d : Nat} {C : mo_S} {p : Nat} {q : Nat} (hE : ev_En G) (hp : p < sp_P C) (hq : q < 12) : cw_C G W d mX5_tookFrom [.ref (W 20 p), .int (nI q)] C (some (.int (cx_X5_tookFrom C p q))) C := by
  refine cw_start (lv0 := [some (.ref (W 20 p)), some (.int (nI q))]) (by decide +kernel) rfl (Nat.le_of_ble_eq_true rfl) rfl ?_
  intro K g0 g hT
  refine ev_iload_n dX5_tookFrom_0 rfl rfl ?_
  have K_23 : ∀ (g : ev_H) (hT : cw_T G K g0 W g C), ∀ x9 : Int32, x9 = (C.1 58 (12 * p + q)) → ev_V G d 0 0 mX5_tookFrom (fun o g' => o = .inl (some (.int (cx_X5_tookFrom C p q))) ∧ cw_T G K g0 W g' C) g 23 [some (.ref (W 20 p)), some (.int (nI q))] (.int x9 :: []) := by
    intro g hT x9 h9
    subst h9
    have e9 : cx_X5_tookFrom C p q = (C.1 58 (12 * p + q)) := by unfold cx_X5_tookFrom; rfl
    exact ev_iret dX5_tookFrom_23 rfl rfl ⟨by rw [e9], hT⟩
  refine ev_if_lt (tgt := 22) dX5_tookFrom_1 (by decide) (fun c_1 => ?_) (fun c_1 => ?_)
  · exact absurd c_1 (nI_pos (by omega))
  · refine ev_iload_n dX5_tookFrom_4 rfl rfl ?_
    refine ev_aload_n dX5_tookFrom_5 rfl rfl ?_
    refine cw_getf hE hT dX5_tookFrom_6 fX5_40 (k := 20) (i := p) hp ob20 rfl ?_
    refine cw_alen (n := 12) hE hT dX5_tookFrom_9 (k := 22) (i := p) hp ar22 ?_
    refine ev_icmp_ge (tgt := 22) dX5_tookFrom_10 (by decide) (fun c_10 => ?_) (fun c_10 => ?_)
    · exact absurd c_10 (nI_ge (b := 12) (by omega) (by decide))
    · refine ev_aload_n dX5_tookFrom_13 rfl rfl ?_
      refine cw_getf hE hT dX5_tookFrom_14 fX5_40 (k := 20) (i := p) hp ob20 rfl ?_
      refine ev_iload_n dX5_tookFrom_17 rfl rfl ?_
      refine cw_ial (q := q) (v := (C.1 58 (12 * p + q))) hE hT dX5_tookFrom_18 (k := 22) (i := p) hp ar22 rfl (by omega) (by decide) rfl ?_
      refine ev_goto (tgt := 23) dX5_tookFrom_19 (by decide) ?_
      exact K_23 g hT _ rfl
def cx_X1_field (C : mo_S) (p : Nat) (x1 : Int32) : Int32 :=
  (if x1 = 0 then (C.1 16 p) else (if x1 = 1 then (C.1 17 p) else (if x1 = 2 then (C.1 18 p) else (if x1 = 3 then (C.1 19 p) else (C.1 20 p)))))
theorem c_X1_field {G : ev_G} {W : cw_W} {d : Nat} {C : mo_S} {p : Nat} {x1 : Int32} (hE : ev_En G) (hp : p < sp_P C) : cw_C G W d mX1_field [.ref (W 23 p), .int x1] C (some (.int (cx_X1_field C p x1))) C := by
  refine cw_start (lv0 := [some (.ref (W 23 p)), some (.int x1)]) (by decide +kernel) rfl (Nat.le_of_ble_eq_true rfl) rfl ?_
  intro K g0 g hT
  refine ev_iload_n dX1_field_0 rfl rfl ?_
  by_cases c_1_0 : x1 = 0
  · refine ev_tableIn (tgt := 32) (off := 31) dX1_field_1 (by rw [c_1_0]; decide) (by rw [c_1_0]; decide) (by rw [c_1_0]; rfl) (by decide) ?_
    refine ev_aload_n dX1_field_32 rfl rfl ?_
    refine cw_getf hE hT dX1_field_33 fX1_9 (k := 23) (i := p) hp ob23 rfl ?_
    have e9 : cx_X1_field C p x1 = (C.1 16 p) := by unfold cx_X1_field; rw [if_pos c_1_0]
    exact ev_iret dX1_field_36 rfl rfl ⟨by rw [e9], hT⟩
  · by_cases c_1_1 : x1 = 1
    · refine ev_tableIn (tgt := 37) (off := 36) dX1_field_1 (by rw [c_1_1]; decide) (by rw [c_1_1]; decide) (by rw [c_1_1]; rfl) (by decide) ?_
      refine ev_aload_n dX1_field_37 rfl rfl ?_
      refine cw_getf hE hT dX1_field_38 fX1_15 (k := 23) (i := p) hp ob23 rfl ?_
      have e9 : cx_X1_field C p x1 = (C.1 17 p) := by unfold cx_X1_field; rw [if_neg c_1_0, if_pos c_1_1]
      exact ev_iret dX1_field_41 rfl rfl ⟨by rw [e9], hT⟩
    · by_cases c_1_2 : x1 = 2
      · refine ev_tableIn (tgt := 42) (off := 41) dX1_field_1 (by rw [c_1_2]; decide) (by rw [c_1_2]; decide) (by rw [c_1_2]; rfl) (by decide) ?_
        refine ev_aload_n dX1_field_42 rfl rfl ?_
        refine cw_getf hE hT dX1_field_43 fX1_18 (k := 23) (i := p) hp ob23 rfl ?_
        have e9 : cx_X1_field C p x1 = (C.1 18 p) := by unfold cx_X1_field; rw [if_neg c_1_0, if_neg c_1_1, if_pos c_1_2]
        exact ev_iret dX1_field_46 rfl rfl ⟨by rw [e9], hT⟩
      · by_cases c_1_3 : x1 = 3
        · refine ev_tableIn (tgt := 47) (off := 46) dX1_field_1 (by rw [c_1_3]; decide) (by rw [c_1_3]; decide) (by rw [c_1_3]; rfl) (by decide) ?_
          refine ev_aload_n dX1_field_47 rfl rfl ?_
          refine cw_getf hE hT dX1_field_48 fX1_21 (k := 23) (i := p) hp ob23 rfl ?_
          have e9 : cx_X1_field C p x1 = (C.1 19 p) := by unfold cx_X1_field; rw [if_neg c_1_0, if_neg c_1_1, if_neg c_1_2, if_pos c_1_3]
          exact ev_iret dX1_field_51 rfl rfl ⟨by rw [e9], hT⟩
        · refine ev_tableOut (tgt := 52) dX1_field_1 (by have h0 : (x1 : Int32).toInt ≠ 0 := fun q => c_1_0 (Int32.toInt_inj.mp (by rw [q]; rfl)); have h1 : (x1 : Int32).toInt ≠ 1 := fun q => c_1_1 (Int32.toInt_inj.mp (by rw [q]; rfl)); have h2 : (x1 : Int32).toInt ≠ 2 := fun q => c_1_2 (Int32.toInt_inj.mp (by rw [q]; rfl)); have h3 : (x1 : Int32).toInt ≠ 3 := fun q => c_1_3 (Int32.toInt_inj.mp (by rw [q]; rfl)); omega) (by decide) ?_
          refine ev_aload_n dX1_field_52 rfl rfl ?_
          refine cw_getf hE hT dX1_field_53 fX1_24 (k := 23) (i := p) hp ob23 rfl ?_
          have e9 : cx_X1_field C p x1 = (C.1 20 p) := by unfold cx_X1_field; rw [if_neg c_1_0, if_neg c_1_1, if_neg c_1_2, if_neg c_1_3]
          exact ev_iret dX1_field_56 rfl rfl ⟨by rw [e9], hT⟩
def cx_X1_add (C : mo_S) (p : Nat) (x1 : Int32) (x2 : Int32) (x3 : Int32) (x4 : Int32) : mo_S :=
  (mo_up (mo_up (mo_up (mo_up (mo_up C 16 p ((C.1 16 p) + (sp_J6_bitCount_0f7a4 x2))) 17 p x1) 18 p x2) 19 p x3) 20 p x4)
theorem c_X1_add {G : ev_G} {W : cw_W} {d : Nat} {C : mo_S} {p : Nat} {x1 : Int32} {x2 : Int32} {x3 : Int32} {x4 : Int32} (hE : ev_En G) (hd : 1 ≤ d) (hp : p < sp_P C) : cw_C G W d mX1_add [.ref (W 23 p), .int x1, .int x2, .int x3, .int x4] C none (cx_X1_add C p x1 x2 x3 x4) := by
  refine cw_start (lv0 := [some (.ref (W 23 p)), some (.int x1), some (.int x2), some (.int x3), some (.int x4)]) (by decide +kernel) rfl (Nat.le_of_ble_eq_true rfl) rfl ?_
  intro K g0 g hT
  refine ev_aload_n dX1_add_0 rfl rfl ?_
  refine ev_dup dX1_add_1 rfl ?_
  refine cw_getf hE hT dX1_add_2 fX1_9 (k := 23) (i := p) hp ob23 rfl ?_
  refine ev_iload_n dX1_add_5 rfl rfl ?_
  refine ev_pS1 (d' := d - 1) dX1_add_6 rfl kJ6_bitCount_0f7a4 lX1_27 sJ6_bitCount_0f7a4 (Nat.le_of_ble_eq_true rfl) (by omega) (c_J6_bitCount_0f7a4) ?_
  refine ev_iadd dX1_add_9 ?_
  refine cw_putf (k := 23) (i := p) (f := 16) (x := p) hE hT dX1_add_10 pX1_9 hp ob23 (Nat.le_of_ble_eq_true rfl) rfl rfl rfl (by decide) (by decide) pu23_0 (fun g hT => ?_)
  refine ev_aload_n dX1_add_13 rfl rfl ?_
  refine ev_iload_n dX1_add_14 rfl rfl ?_
  refine cw_putf (k := 23) (i := p) (f := 17) (x := p) hE hT dX1_add_15 pX1_15 hp ob23 (Nat.le_of_ble_eq_true rfl) rfl rfl rfl (by decide) (by decide) pu23_1 (fun g hT => ?_)
  refine ev_aload_n dX1_add_18 rfl rfl ?_
  refine ev_iload_n dX1_add_19 rfl rfl ?_
  refine cw_putf (k := 23) (i := p) (f := 18) (x := p) hE hT dX1_add_20 pX1_18 hp ob23 (Nat.le_of_ble_eq_true rfl) rfl rfl rfl (by decide) (by decide) pu23_2 (fun g hT => ?_)
  refine ev_aload_n dX1_add_23 rfl rfl ?_
  refine ev_iload_n dX1_add_24 rfl rfl ?_
  refine cw_putf (k := 23) (i := p) (f := 19) (x := p) hE hT dX1_add_25 pX1_21 hp ob23 (Nat.le_of_ble_eq_true rfl) rfl rfl rfl (by decide) (by decide) pu23_3 (fun g hT => ?_)
  refine ev_aload_n dX1_add_28 rfl rfl ?_
  refine ev_iload dX1_add_29 rfl ?_
  refine cw_putf (k := 23) (i := p) (f := 20) (x := p) hE hT dX1_add_31 pX1_24 hp ob23 (Nat.le_of_ble_eq_true rfl) rfl rfl rfl (by decide) (by decide) pu23_4 (fun g hT => ?_)
  have e9 : cx_X1_add C p x1 x2 x3 x4 = (mo_up (mo_up (mo_up (mo_up (mo_up C 16 p ((C.1 16 p) + (sp_J6_bitCount_0f7a4 x2))) 17 p x1) 18 p x2) 19 p x3) 20 p x4) := by unfold cx_X1_add; rfl
  exact ev_vret dX1_add_34 rfl ⟨rfl, by rw [e9]; exact hT⟩
def cx_X0_isGranted (C : mo_S) (a : Nat) : Bool :=
  (if (C.1 68 a) = (-1) then false else true)
theorem c_X0_isGranted {G : ev_G} {W : cw_W} {d : Nat} {C : mo_S} {a : Nat} (hE : ev_En G) (ha : a < sp_A C) : cw_C G W d mX0_isGranted [.ref (W 33 a)] C (some (.int (mo_b (cx_X0_isGranted C a)))) C := by
  refine cw_start (lv0 := [some (.ref (W 33 a))]) (by decide +kernel) rfl (Nat.le_of_ble_eq_true rfl) rfl ?_
  intro K g0 g hT
  refine ev_aload_n dX0_isGranted_0 rfl rfl ?_
  refine cw_getf hE hT dX0_isGranted_1 fX0_9 (k := 33) (i := a) ha ob33 rfl ?_
  refine ev_iconst (v := (-1)) dX0_isGranted_4 (by decide) ?_
  have K_13 : ∀ (g : ev_H) (hT : cw_T G K g0 W g C), ∀ x9 : Int32, x9 = (mo_b (if (C.1 68 a) = (-1) then false else true)) → ev_V G d 0 0 mX0_isGranted (fun o g' => o = .inl (some (.int (mo_b (cx_X0_isGranted C a)))) ∧ cw_T G K g0 W g' C) g 13 [some (.ref (W 33 a))] (.int x9 :: []) := by
    intro g hT x9 h9
    subst h9
    have e9 : cx_X0_isGranted C a = (if (C.1 68 a) = (-1) then false else true) := by unfold cx_X0_isGranted; rfl
    exact ev_iret dX0_isGranted_13 rfl (by first | exact mo_b_nar _ | rfl) ⟨by rw [e9], hT⟩
  refine ev_icmp_eq (tgt := 12) dX0_isGranted_5 (by decide) (fun c_5 => ?_) (fun c_5 => ?_)
  · refine ev_iconst (v := 0) dX0_isGranted_12 (by decide) ?_
    exact K_13 g hT _ (by rw [if_pos c_5]; rfl)
  · refine ev_iconst (v := 1) dX0_isGranted_8 (by decide) ?_
    refine ev_goto (tgt := 13) dX0_isGranted_9 (by decide) ?_
    exact K_13 g hT _ (by rw [if_neg c_5]; rfl)
def cx_X0_farFrom (C : mo_S) (a : Nat) (b : Nat) : Int32 :=
  (((cj_abs ((C.1 65 a) - (C.1 65 b))) + ((cj_abs ((C.1 66 a) - (C.1 66 b))) * 100)) + (if (C.1 3 (C.1 63 a).toNatClampNeg) = (C.1 3 (C.1 63 b).toNatClampNeg) then 0 else 10000))
theorem c_X0_farFrom {G : ev_G} {W : cw_W} {d : Nat} {C : mo_S} {a : Nat} {b : Nat} (hE : ev_En G) (hd : 1 ≤ d) (ha : a < sp_A C) (hb : b < sp_A C) (hpa : (C.1 63 a).toNatClampNeg < sp_P C) (hpb : (C.1 63 b).toNatClampNeg < sp_P C) : cw_C G W d mX0_farFrom [.ref (W 33 a), .ref (W 33 b)] C (some (.int (cx_X0_farFrom C a b))) C := by
  refine cw_start (lv0 := [some (.ref (W 33 a)), some (.ref (W 33 b)), none]) (by decide +kernel) rfl (Nat.le_of_ble_eq_true rfl) rfl ?_
  intro K g0 g hT
  refine ev_aload_n dX0_farFrom_0 rfl rfl ?_
  refine cw_getf hE hT dX0_farFrom_1 fX0_15 (k := 33) (i := a) ha ob33 rfl ?_
  refine cw_getf hE hT dX0_farFrom_4 fX0_32 (k := 20) (i := (C.1 63 a).toNatClampNeg) hpa ob20 rfl ?_
  refine ev_aload_n dX0_farFrom_7 rfl rfl ?_
  refine cw_getf hE hT dX0_farFrom_8 fX0_15 (k := 33) (i := b) hb ob33 rfl ?_
  refine cw_getf hE hT dX0_farFrom_11 fX0_32 (k := 20) (i := (C.1 63 b).toNatClampNeg) hpb ob20 rfl ?_
  have K_24 : ∀ (g : ev_H) (hT : cw_T G K g0 W g C), ∀ x9 : Int32, x9 = (if (C.1 3 (C.1 63 a).toNatClampNeg) = (C.1 3 (C.1 63 b).toNatClampNeg) then 0 else 10000) → ev_V G d 0 0 mX0_farFrom (fun o g' => o = .inl (some (.int (cx_X0_farFrom C a b))) ∧ cw_T G K g0 W g' C) g 24 [some (.ref (W 33 a)), some (.ref (W 33 b)), none] (.int x9 :: []) := by
    intro g hT x9 h9
    subst h9
    refine ev_istore_n dX0_farFrom_24 rfl (Nat.le_of_ble_eq_true rfl) rfl ?_
    refine ev_aload_n dX0_farFrom_25 rfl rfl ?_
    refine cw_getf hE hT dX0_farFrom_26 fX0_27 (k := 33) (i := a) ha ob33 rfl ?_
    refine ev_aload_n dX0_farFrom_29 rfl rfl ?_
    refine cw_getf hE hT dX0_farFrom_30 fX0_27 (k := 33) (i := b) hb ob33 rfl ?_
    refine ev_isub dX0_farFrom_33 ?_
    refine ev_mabs dX0_farFrom_34 lX0_35 (Nat.le_of_ble_eq_true rfl) (by omega) ?_
    refine ev_aload_n dX0_farFrom_37 rfl rfl ?_
    refine cw_getf hE hT dX0_farFrom_38 fX0_31 (k := 33) (i := a) ha ob33 rfl ?_
    refine ev_aload_n dX0_farFrom_41 rfl rfl ?_
    refine cw_getf hE hT dX0_farFrom_42 fX0_31 (k := 33) (i := b) hb ob33 rfl ?_
    refine ev_isub dX0_farFrom_45 ?_
    refine ev_mabs dX0_farFrom_46 lX0_35 (Nat.le_of_ble_eq_true rfl) (by omega) ?_
    refine ev_bipush (v := 100) dX0_farFrom_49 (by decide) ?_
    refine ev_imul dX0_farFrom_51 ?_
    refine ev_iadd dX0_farFrom_52 ?_
    refine ev_iload_n dX0_farFrom_53 rfl rfl ?_
    refine ev_iadd dX0_farFrom_54 ?_
    have e9 : cx_X0_farFrom C a b = (((cj_abs ((C.1 65 a) - (C.1 65 b))) + ((cj_abs ((C.1 66 a) - (C.1 66 b))) * 100)) + (if (C.1 3 (C.1 63 a).toNatClampNeg) = (C.1 3 (C.1 63 b).toNatClampNeg) then 0 else 10000)) := by unfold cx_X0_farFrom; rfl
    exact ev_iret dX0_farFrom_55 rfl rfl ⟨by rw [e9], hT⟩
  refine ev_icmp_ne (tgt := 21) dX0_farFrom_14 (by decide) (fun c_14 => ?_) (fun c_14 => ?_)
  · refine ev_sipush (v := 10000) dX0_farFrom_21 (by decide) ?_
    exact K_24 g hT _ (by rw [if_neg c_14])
  · refine ev_iconst (v := 0) dX0_farFrom_17 (by decide) ?_
    refine ev_goto (tgt := 24) dX0_farFrom_18 (by decide) ?_
    exact K_24 g hT _ (by rw [if_pos c_14])
def cx_X4_pagesFor (C : mo_S) (b : Nat) (q : Nat) : Int32 :=
  (C.1 101 (3 * b + q))
theorem c_X4_pagesFor {G : ev_G} {W : cw_W} {d : Nat} {C : mo_S} {b : Nat} {q : Nat} (hE : ev_En G) (hb : cw_ol C b) (hq : q < 3) : cw_C G W d mX4_pagesFor [.ref (W 28 b), .int (nI q)] C (some (.int (cx_X4_pagesFor C b q))) C := by
  refine cw_start (lv0 := [some (.ref (W 28 b)), some (.int (nI q))]) (by decide +kernel) rfl (Nat.le_of_ble_eq_true rfl) rfl ?_
  intro K g0 g hT
  refine ev_iload_n dX4_pagesFor_0 rfl rfl ?_
  have K_24 : ∀ (g : ev_H) (hT : cw_T G K g0 W g C), ∀ x9 : Int32, x9 = (C.1 101 (3 * b + q)) → ev_V G d 0 0 mX4_pagesFor (fun o g' => o = .inl (some (.int (cx_X4_pagesFor C b q))) ∧ cw_T G K g0 W g' C) g 24 [some (.ref (W 28 b)), some (.int (nI q))] (.int x9 :: []) := by
    intro g hT x9 h9
    subst h9
    have e9 : cx_X4_pagesFor C b q = (C.1 101 (3 * b + q)) := by unfold cx_X4_pagesFor; rfl
    exact ev_iret dX4_pagesFor_24 rfl rfl ⟨by rw [e9], hT⟩
  refine ev_if_lt (tgt := 22) dX4_pagesFor_1 (by decide) (fun c_1 => ?_) (fun c_1 => ?_)
  · exact absurd c_1 (nI_pos (by omega))
  · refine ev_iload_n dX4_pagesFor_4 rfl rfl ?_
    refine ev_aload_n dX4_pagesFor_5 rfl rfl ?_
    refine cw_getf hE hT dX4_pagesFor_6 fX4_22 (k := 28) (i := b) hb ob28 rfl ?_
    refine cw_alen (n := 3) hE hT dX4_pagesFor_9 (k := 31) (i := b) hb ar31 ?_
    refine ev_icmp_ge (tgt := 22) dX4_pagesFor_10 (by decide) (fun c_10 => ?_) (fun c_10 => ?_)
    · exact absurd c_10 (nI_ge (b := 3) (by omega) (by decide))
    · refine ev_aload_n dX4_pagesFor_13 rfl rfl ?_
      refine cw_getf hE hT dX4_pagesFor_14 fX4_22 (k := 28) (i := b) hb ob28 rfl ?_
      refine ev_iload_n dX4_pagesFor_17 rfl rfl ?_
      refine cw_ial (q := q) (v := (C.1 101 (3 * b + q))) hE hT dX4_pagesFor_18 (k := 31) (i := b) hb ar31 rfl hq (by decide) rfl ?_
      refine ev_goto (tgt := 24) dX4_pagesFor_19 (by decide) ?_
      exact K_24 g hT _ rfl
def cx_X4_pagesClauseFor (C : mo_S) (b : Nat) (q : Nat) : Int32 :=
  (C.1 102 (3 * b + q))
theorem c_X4_pagesClauseFor {G : ev_G} {W : cw_W} {d : Nat} {C : mo_S} {b : Nat} {q : Nat} (hE : ev_En G) (hb : cw_ol C b) (hq : q < 3) : cw_C G W d mX4_pagesClauseFor [.ref (W 28 b), .int (nI q)] C (some (.int (cx_X4_pagesClauseFor C b q))) C := by
  refine cw_start (lv0 := [some (.ref (W 28 b)), some (.int (nI q))]) (by decide +kernel) rfl (Nat.le_of_ble_eq_true rfl) rfl ?_
  intro K g0 g hT
  refine ev_iload_n dX4_pagesClauseFor_0 rfl rfl ?_
  have K_23 : ∀ (g : ev_H) (hT : cw_T G K g0 W g C), ∀ x9 : Int32, x9 = (C.1 102 (3 * b + q)) → ev_V G d 0 0 mX4_pagesClauseFor (fun o g' => o = .inl (some (.int (cx_X4_pagesClauseFor C b q))) ∧ cw_T G K g0 W g' C) g 23 [some (.ref (W 28 b)), some (.int (nI q))] (.int x9 :: []) := by
    intro g hT x9 h9
    subst h9
    have e9 : cx_X4_pagesClauseFor C b q = (C.1 102 (3 * b + q)) := by unfold cx_X4_pagesClauseFor; rfl
    exact ev_iret dX4_pagesClauseFor_23 rfl rfl ⟨by rw [e9], hT⟩
  refine ev_if_lt (tgt := 22) dX4_pagesClauseFor_1 (by decide) (fun c_1 => ?_) (fun c_1 => ?_)
  · exact absurd c_1 (nI_pos (by omega))
  · refine ev_iload_n dX4_pagesClauseFor_4 rfl rfl ?_
    refine ev_aload_n dX4_pagesClauseFor_5 rfl rfl ?_
    refine cw_getf hE hT dX4_pagesClauseFor_6 fX4_25 (k := 28) (i := b) hb ob28 rfl ?_
    refine cw_alen (n := 3) hE hT dX4_pagesClauseFor_9 (k := 32) (i := b) hb ar32 ?_
    refine ev_icmp_ge (tgt := 22) dX4_pagesClauseFor_10 (by decide) (fun c_10 => ?_) (fun c_10 => ?_)
    · exact absurd c_10 (nI_ge (b := 3) (by omega) (by decide))
    · refine ev_aload_n dX4_pagesClauseFor_13 rfl rfl ?_
      refine cw_getf hE hT dX4_pagesClauseFor_14 fX4_25 (k := 28) (i := b) hb ob28 rfl ?_
      refine ev_iload_n dX4_pagesClauseFor_17 rfl rfl ?_
      refine cw_ial (q := q) (v := (C.1 102 (3 * b + q))) hE hT dX4_pagesClauseFor_18 (k := 32) (i := b) hb ar32 rfl hq (by decide) rfl ?_
      refine ev_goto (tgt := 23) dX4_pagesClauseFor_19 (by decide) ?_
      exact K_23 g hT _ rfl
def cx_X4_tellPages (C : mo_S) (b : Nat) (q : Nat) (x1 : Int32) (x2 : Int32) : mo_S :=
  (mo_up (mo_up C 101 (3 * b + q) x1) 102 (3 * b + q) x2)
theorem c_X4_tellPages {G : ev_G} {W : cw_W} {d : Nat} {C : mo_S} {b : Nat} {q : Nat} {x1 : Int32} {x2 : Int32} (hE : ev_En G) (hb : cw_ol C b) (hq : q < 3) : cw_C G W d mX4_tellPages [.ref (W 28 b), .int (nI q), .int x1, .int x2] C none (cx_X4_tellPages C b q x1 x2) := by
  refine cw_start (lv0 := [some (.ref (W 28 b)), some (.int (nI q)), some (.int x1), some (.int x2)]) (by decide +kernel) rfl (Nat.le_of_ble_eq_true rfl) rfl ?_
  intro K g0 g hT
  refine ev_iload_n dX4_tellPages_0 rfl rfl ?_
  refine ev_if_lt (tgt := 36) dX4_tellPages_1 (by decide) (fun c_1 => ?_) (fun c_1 => ?_)
  · exact absurd c_1 (nI_pos (by omega))
  · refine ev_iload_n dX4_tellPages_4 rfl rfl ?_
    refine ev_aload_n dX4_tellPages_5 rfl rfl ?_
    refine cw_getf hE hT dX4_tellPages_6 fX4_22 (k := 28) (i := b) hb ob28 rfl ?_
    refine cw_alen (n := 3) hE hT dX4_tellPages_9 (k := 31) (i := b) hb ar31 ?_
    refine ev_icmp_ge (tgt := 36) dX4_tellPages_10 (by decide) (fun c_10 => ?_) (fun c_10 => ?_)
    · exact absurd c_10 (nI_ge (b := 3) (by omega) (by decide))
    · refine ev_iload_n dX4_tellPages_13 rfl rfl ?_
      refine ev_aload_n dX4_tellPages_14 rfl rfl ?_
      refine cw_getf hE hT dX4_tellPages_15 fX4_25 (k := 28) (i := b) hb ob28 rfl ?_
      refine cw_alen (n := 3) hE hT dX4_tellPages_18 (k := 32) (i := b) hb ar32 ?_
      refine ev_icmp_ge (tgt := 36) dX4_tellPages_19 (by decide) (fun c_19 => ?_) (fun c_19 => ?_)
      · exact absurd c_19 (nI_ge (b := 3) (by omega) (by decide))
      · refine ev_aload_n dX4_tellPages_22 rfl rfl ?_
        refine cw_getf hE hT dX4_tellPages_23 fX4_22 (k := 28) (i := b) hb ob28 rfl ?_
        refine ev_iload_n dX4_tellPages_26 rfl rfl ?_
        refine ev_iload_n dX4_tellPages_27 rfl rfl ?_
        refine cw_ias (q := q) (f := 101) (ix := (3 * b + q)) hE hT dX4_tellPages_28 (k := 31) (i := b) hb ar31 rfl hq (by decide) (by show (31, (3 * b + q) / 3) = (31, b); rw [Nat.mul_add_div (by decide), Nat.div_eq_of_lt (by omega)]; rfl) (by decide) (by decide) (pa31 (i := b)) (fun g hT => ?_)
        refine ev_aload_n dX4_tellPages_29 rfl rfl ?_
        refine cw_getf hE hT dX4_tellPages_30 fX4_25 (k := 28) (i := b) hb ob28 rfl ?_
        refine ev_iload_n dX4_tellPages_33 rfl rfl ?_
        refine ev_iload_n dX4_tellPages_34 rfl rfl ?_
        refine cw_ias (q := q) (f := 102) (ix := (3 * b + q)) hE hT dX4_tellPages_35 (k := 32) (i := b) hb ar32 rfl hq (by decide) (by show (32, (3 * b + q) / 3) = (32, b); rw [Nat.mul_add_div (by decide), Nat.div_eq_of_lt (by omega)]; rfl) (by decide) (by decide) (pa32 (i := b)) (fun g hT => ?_)
        have e9 : cx_X4_tellPages C b q x1 x2 = (mo_up (mo_up C 101 (3 * b + q) x1) 102 (3 * b + q) x2) := by unfold cx_X4_tellPages; rfl
        exact ev_vret dX4_tellPages_36 rfl ⟨rfl, by rw [e9]; exact hT⟩
def cx_X6_shareOf (C : mo_S) (q : Nat) : Int32 :=
  (C.1 124 q)
theorem c_X6_shareOf {G : ev_G} {W : cw_W} {d : Nat} {C : mo_S} {q : Nat} (hE : ev_En G) (hq : q < 12) : cw_C G W d mX6_shareOf [.ref (W 9 0), .int (nI q)] C (some (.int (cx_X6_shareOf C q))) C := by
  refine cw_start (lv0 := [some (.ref (W 9 0)), some (.int (nI q))]) (by decide +kernel) rfl (Nat.le_of_ble_eq_true rfl) rfl ?_
  intro K g0 g hT
  refine ev_iload_n dX6_shareOf_0 rfl rfl ?_
  have K_23 : ∀ (g : ev_H) (hT : cw_T G K g0 W g C), ∀ x9 : Int32, x9 = (C.1 124 q) → ev_V G d 0 0 mX6_shareOf (fun o g' => o = .inl (some (.int (cx_X6_shareOf C q))) ∧ cw_T G K g0 W g' C) g 23 [some (.ref (W 9 0)), some (.int (nI q))] (.int x9 :: []) := by
    intro g hT x9 h9
    subst h9
    have e9 : cx_X6_shareOf C q = (C.1 124 q) := by unfold cx_X6_shareOf; rfl
    exact ev_iret dX6_shareOf_23 rfl rfl ⟨by rw [e9], hT⟩
  refine ev_if_lt (tgt := 22) dX6_shareOf_1 (by decide) (fun c_1 => ?_) (fun c_1 => ?_)
  · exact absurd c_1 (nI_pos (by omega))
  · refine ev_iload_n dX6_shareOf_4 rfl rfl ?_
    refine ev_aload_n dX6_shareOf_5 rfl rfl ?_
    refine cw_getf hE hT dX6_shareOf_6 fX6_9 (k := 9) (i := 0) rfl ob9 rfl ?_
    refine cw_alen (n := 12) hE hT dX6_shareOf_9 (k := 10) (i := 0) rfl ar10 ?_
    refine ev_icmp_ge (tgt := 22) dX6_shareOf_10 (by decide) (fun c_10 => ?_) (fun c_10 => ?_)
    · exact absurd c_10 (nI_ge (b := 12) (by omega) (by decide))
    · refine ev_aload_n dX6_shareOf_13 rfl rfl ?_
      refine cw_getf hE hT dX6_shareOf_14 fX6_9 (k := 9) (i := 0) rfl ob9 rfl ?_
      refine ev_iload_n dX6_shareOf_17 rfl rfl ?_
      refine cw_ial (q := q) (v := (C.1 124 q)) hE hT dX6_shareOf_18 (k := 10) (i := 0) rfl ar10 rfl hq (by decide) rfl ?_
      refine ev_goto (tgt := 23) dX6_shareOf_19 (by decide) ?_
      exact K_23 g hT _ rfl
def cx_X6_weigh (C : mo_S) (q : Nat) (x1 : Int32) : mo_S :=
  (mo_up C 125 q x1)
theorem c_X6_weigh {G : ev_G} {W : cw_W} {d : Nat} {C : mo_S} {q : Nat} {x1 : Int32} (hE : ev_En G) (hq : q < 12) : cw_C G W d mX6_weigh [.ref (W 9 0), .int (nI q), .int x1] C none (cx_X6_weigh C q x1) := by
  refine cw_start (lv0 := [some (.ref (W 9 0)), some (.int (nI q)), some (.int x1)]) (by decide +kernel) rfl (Nat.le_of_ble_eq_true rfl) rfl ?_
  intro K g0 g hT
  refine ev_iload_n dX6_weigh_0 rfl rfl ?_
  refine ev_if_lt (tgt := 20) dX6_weigh_1 (by decide) (fun c_1 => ?_) (fun c_1 => ?_)
  · exact absurd c_1 (nI_pos (by omega))
  · refine ev_iload_n dX6_weigh_4 rfl rfl ?_
    refine ev_aload_n dX6_weigh_5 rfl rfl ?_
    refine cw_getf hE hT dX6_weigh_6 fX6_15 (k := 9) (i := 0) rfl ob9 rfl ?_
    refine cw_alen (n := 12) hE hT dX6_weigh_9 (k := 11) (i := 0) rfl ar11 ?_
    refine ev_icmp_ge (tgt := 20) dX6_weigh_10 (by decide) (fun c_10 => ?_) (fun c_10 => ?_)
    · exact absurd c_10 (nI_ge (b := 12) (by omega) (by decide))
    · refine ev_aload_n dX6_weigh_13 rfl rfl ?_
      refine cw_getf hE hT dX6_weigh_14 fX6_15 (k := 9) (i := 0) rfl ob9 rfl ?_
      refine ev_iload_n dX6_weigh_17 rfl rfl ?_
      refine ev_iload_n dX6_weigh_18 rfl rfl ?_
      refine cw_ias (q := q) (f := 125) (ix := q) hE hT dX6_weigh_19 (k := 11) (i := 0) rfl ar11 rfl hq (by decide) rfl (by decide) (by decide) (pa11 (i := 0)) (fun g hT => ?_)
      have e9 : cx_X6_weigh C q x1 = (mo_up C 125 q x1) := by unfold cx_X6_weigh; rfl
      exact ev_vret dX6_weigh_20 rfl ⟨rfl, by rw [e9]; exact hT⟩
def cx_X3_clear (C : mo_S)  : mo_S :=
  (mo_up C 127 0 0)
theorem c_X3_clear {G : ev_G} {W : cw_W} {d : Nat} {C : mo_S}  (hE : ev_En G) : cw_C G W d mX3_clear [.ref (W 19 0)] C none (cx_X3_clear C) := by
  refine cw_start (lv0 := [some (.ref (W 19 0))]) (by decide +kernel) rfl (Nat.le_of_ble_eq_true rfl) rfl ?_
  intro K g0 g hT
  refine ev_aload_n dX3_clear_0 rfl rfl ?_
  refine ev_iconst (v := 0) dX3_clear_1 (by decide) ?_
  refine cw_putf (k := 19) (i := 0) (f := 127) (x := 0) hE hT dX3_clear_2 pX3_7 rfl ob19 (Nat.le_of_ble_eq_true rfl) rfl rfl rfl (by decide) (by decide) pu19_0 (fun g hT => ?_)
  have e9 : cx_X3_clear C = (mo_up C 127 0 0) := by unfold cx_X3_clear; rfl
  exact ev_vret dX3_clear_5 rfl ⟨rfl, by rw [e9]; exact hT⟩
def cx_X3_isBetter (C : mo_S) (x1 : Int32) (x2 : Int32) (x3 : Int32) : Bool :=
  (if x3 = (C.1 130 0) then (if x1 < (C.1 127 0) then true else (if x1 = (C.1 127 0) then (if (C.1 128 0) ≤ x2 then false else true) else false)) else (if x3 ≤ (C.1 130 0) then false else true))
theorem c_X3_isBetter {G : ev_G} {W : cw_W} {d : Nat} {C : mo_S} {x1 : Int32} {x2 : Int32} {x3 : Int32} (hE : ev_En G) : cw_C G W d mX3_isBetter [.ref (W 19 0), .int x1, .int x2, .int x3] C (some (.int (mo_b (cx_X3_isBetter C x1 x2 x3)))) C := by
  refine cw_start (lv0 := [some (.ref (W 19 0)), some (.int x1), some (.int x2), some (.int x3)]) (by decide +kernel) rfl (Nat.le_of_ble_eq_true rfl) rfl ?_
  intro K g0 g hT
  refine ev_iload_n dX3_isBetter_0 rfl rfl ?_
  refine ev_aload_n dX3_isBetter_1 rfl rfl ?_
  refine cw_getf hE hT dX3_isBetter_2 fX3_19 (k := 19) (i := 0) rfl ob19 rfl ?_
  refine ev_icmp_eq (tgt := 22) dX3_isBetter_5 (by decide) (fun c_5 => ?_) (fun c_5 => ?_)
  · refine ev_iload_n dX3_isBetter_22 rfl rfl ?_
    refine ev_aload_n dX3_isBetter_23 rfl rfl ?_
    refine cw_getf hE hT dX3_isBetter_24 fX3_7 (k := 19) (i := 0) rfl ob19 rfl ?_
    have K_51 : ∀ (g : ev_H) (hT : cw_T G K g0 W g C), ∀ x9 : Int32, x9 = (mo_b (if x1 < (C.1 127 0) then true else (if x1 = (C.1 127 0) then (if (C.1 128 0) ≤ x2 then false else true) else false))) → ev_V G d 0 0 mX3_isBetter (fun o g' => o = .inl (some (.int (mo_b (cx_X3_isBetter C x1 x2 x3)))) ∧ cw_T G K g0 W g' C) g 51 [some (.ref (W 19 0)), some (.int x1), some (.int x2), some (.int x3)] (.int x9 :: []) := by
      intro g hT x9 h9
      subst h9
      have e9 : cx_X3_isBetter C x1 x2 x3 = (if x1 < (C.1 127 0) then true else (if x1 = (C.1 127 0) then (if (C.1 128 0) ≤ x2 then false else true) else false)) := by unfold cx_X3_isBetter; rw [if_pos c_5]
      exact ev_iret dX3_isBetter_51 rfl (by first | exact mo_b_nar _ | rfl) ⟨by rw [e9], hT⟩
    refine ev_icmp_lt (tgt := 46) dX3_isBetter_27 (by decide) (fun c_27 => ?_) (fun c_27 => ?_)
    · refine ev_iconst (v := 1) dX3_isBetter_46 (by decide) ?_
      refine ev_goto (tgt := 51) dX3_isBetter_47 (by decide) ?_
      exact K_51 g hT _ (by rw [if_pos c_27]; rfl)
    · refine ev_iload_n dX3_isBetter_30 rfl rfl ?_
      refine ev_aload_n dX3_isBetter_31 rfl rfl ?_
      refine cw_getf hE hT dX3_isBetter_32 fX3_7 (k := 19) (i := 0) rfl ob19 rfl ?_
      refine ev_icmp_ne (tgt := 50) dX3_isBetter_35 (by decide) (fun c_35 => ?_) (fun c_35 => ?_)
      · refine ev_iconst (v := 0) dX3_isBetter_50 (by decide) ?_
        exact K_51 g hT _ (by rw [if_neg c_27, if_neg c_35]; rfl)
      · refine ev_iload_n dX3_isBetter_38 rfl rfl ?_
        refine ev_aload_n dX3_isBetter_39 rfl rfl ?_
        refine cw_getf hE hT dX3_isBetter_40 fX3_13 (k := 19) (i := 0) rfl ob19 rfl ?_
        refine ev_icmp_ge (tgt := 50) dX3_isBetter_43 (by decide) (fun c_43 => ?_) (fun c_43 => ?_)
        · refine ev_iconst (v := 0) dX3_isBetter_50 (by decide) ?_
          exact K_51 g hT _ (by rw [if_neg c_27, if_pos c_35, if_pos c_43]; rfl)
        · refine ev_iconst (v := 1) dX3_isBetter_46 (by decide) ?_
          refine ev_goto (tgt := 51) dX3_isBetter_47 (by decide) ?_
          exact K_51 g hT _ (by rw [if_neg c_27, if_pos c_35, if_neg c_43]; rfl)
  · refine ev_iload_n dX3_isBetter_8 rfl rfl ?_
    refine ev_aload_n dX3_isBetter_9 rfl rfl ?_
    refine cw_getf hE hT dX3_isBetter_10 fX3_19 (k := 19) (i := 0) rfl ob19 rfl ?_
    have K_21 : ∀ (g : ev_H) (hT : cw_T G K g0 W g C), ∀ x9 : Int32, x9 = (mo_b (if x3 ≤ (C.1 130 0) then false else true)) → ev_V G d 0 0 mX3_isBetter (fun o g' => o = .inl (some (.int (mo_b (cx_X3_isBetter C x1 x2 x3)))) ∧ cw_T G K g0 W g' C) g 21 [some (.ref (W 19 0)), some (.int x1), some (.int x2), some (.int x3)] (.int x9 :: []) := by
      intro g hT x9 h9
      subst h9
      have e9 : cx_X3_isBetter C x1 x2 x3 = (if x3 ≤ (C.1 130 0) then false else true) := by unfold cx_X3_isBetter; rw [if_neg c_5]
      exact ev_iret dX3_isBetter_21 rfl (by first | exact mo_b_nar _ | rfl) ⟨by rw [e9], hT⟩
    refine ev_icmp_le (tgt := 20) dX3_isBetter_13 (by decide) (fun c_13 => ?_) (fun c_13 => ?_)
    · refine ev_iconst (v := 0) dX3_isBetter_20 (by decide) ?_
      exact K_21 g hT _ (by rw [if_pos c_13]; rfl)
    · refine ev_iconst (v := 1) dX3_isBetter_16 (by decide) ?_
      refine ev_goto (tgt := 21) dX3_isBetter_17 (by decide) ?_
      exact K_21 g hT _ (by rw [if_neg c_13]; rfl)
def cx_X3_consider (C : mo_S) (x1 : Int32) (x2 : Int32) (x3 : Int32) : mo_S :=
  (if (C.1 127 0) = 0 then (mo_up (mo_up (mo_up (mo_up C 127 0 x1) 128 0 x2) 129 0 x3) 130 0 (((x3 * x2) + ((x3 * x1) / 4)) - (2 * (cx_X11_kilogramsFor x3 x1)))) else (if (mo_b (cx_X3_isBetter C x1 x2 (((x3 * x2) + ((x3 * x1) / 4)) - (2 * (cx_X11_kilogramsFor x3 x1))))) = 0 then C else (mo_up (mo_up (mo_up (mo_up C 127 0 x1) 128 0 x2) 129 0 x3) 130 0 (((x3 * x2) + ((x3 * x1) / 4)) - (2 * (cx_X11_kilogramsFor x3 x1))))))
theorem c_X3_consider {G : ev_G} {W : cw_W} {d : Nat} {C : mo_S} {x1 : Int32} {x2 : Int32} {x3 : Int32} (hE : ev_En G) {D0 : Nat} (h4 : ev_En4 G D0) (hd : 1 ≤ d) : cw_C G W d mX3_consider [.ref (W 19 0), .int x1, .int x2, .int x3] C none (cx_X3_consider C x1 x2 x3) := by
  refine cw_start (lv0 := [some (.ref (W 19 0)), some (.int x1), some (.int x2), some (.int x3), none]) (by decide +kernel) rfl (Nat.le_of_ble_eq_true rfl) rfl ?_
  intro K g0 g hT
  refine ev_iload_n dX3_consider_0 rfl rfl ?_
  refine ev_iload_n dX3_consider_1 rfl rfl ?_
  refine ev_imul dX3_consider_2 ?_
  refine ev_iload_n dX3_consider_3 rfl rfl ?_
  refine ev_iload_n dX3_consider_4 rfl rfl ?_
  refine ev_imul dX3_consider_5 ?_
  refine ev_iconst (v := 4) dX3_consider_6 (by decide) ?_
  refine ev_idiv dX3_consider_7 (by decide) ?_
  refine ev_iadd dX3_consider_8 ?_
  refine ev_iconst (v := 2) dX3_consider_9 (by decide) ?_
  refine ev_iload_n dX3_consider_10 rfl rfl ?_
  refine ev_iload_n dX3_consider_11 rfl rfl ?_
  refine cw_nS2 (d' := d - 1) h4 dX3_consider_12 rfl kX11_kilogramsFor (by decide +kernel) sX11_kilogramsFor (Nat.le_of_ble_eq_true rfl) (by omega) (c_X11_kilogramsFor) ?_
  refine ev_imul dX3_consider_15 ?_
  refine ev_isub dX3_consider_16 ?_
  refine ev_istore dX3_consider_17 (Nat.le_of_ble_eq_true rfl) rfl ?_
  refine ev_aload_n dX3_consider_19 rfl rfl ?_
  refine cw_getf hE hT dX3_consider_20 fX3_7 (k := 19) (i := 0) rfl ob19 rfl ?_
  refine ev_if_eq (tgt := 37) dX3_consider_23 (by decide) (fun c_23 => ?_) (fun c_23 => ?_)
  · refine ev_aload_n dX3_consider_37 rfl rfl ?_
    refine ev_iload_n dX3_consider_38 rfl rfl ?_
    refine cw_putf (k := 19) (i := 0) (f := 127) (x := 0) hE hT dX3_consider_39 pX3_7 rfl ob19 (Nat.le_of_ble_eq_true rfl) rfl rfl rfl (by decide) (by decide) pu19_0 (fun g hT => ?_)
    refine ev_aload_n dX3_consider_42 rfl rfl ?_
    refine ev_iload_n dX3_consider_43 rfl rfl ?_
    refine cw_putf (k := 19) (i := 0) (f := 128) (x := 0) hE hT dX3_consider_44 pX3_13 rfl ob19 (Nat.le_of_ble_eq_true rfl) rfl rfl rfl (by decide) (by decide) pu19_1 (fun g hT => ?_)
    refine ev_aload_n dX3_consider_47 rfl rfl ?_
    refine ev_iload_n dX3_consider_48 rfl rfl ?_
    refine cw_putf (k := 19) (i := 0) (f := 129) (x := 0) hE hT dX3_consider_49 pX3_16 rfl ob19 (Nat.le_of_ble_eq_true rfl) rfl rfl rfl (by decide) (by decide) pu19_2 (fun g hT => ?_)
    refine ev_aload_n dX3_consider_52 rfl rfl ?_
    refine ev_iload dX3_consider_53 rfl ?_
    refine cw_putf (k := 19) (i := 0) (f := 130) (x := 0) hE hT dX3_consider_55 pX3_19 rfl ob19 (Nat.le_of_ble_eq_true rfl) rfl rfl rfl (by decide) (by decide) pu19_3 (fun g hT => ?_)
    have e9 : cx_X3_consider C x1 x2 x3 = (mo_up (mo_up (mo_up (mo_up C 127 0 x1) 128 0 x2) 129 0 x3) 130 0 (((x3 * x2) + ((x3 * x1) / 4)) - (2 * (cx_X11_kilogramsFor x3 x1)))) := by unfold cx_X3_consider; rw [if_pos c_23]
    exact ev_vret dX3_consider_58 rfl ⟨rfl, by rw [e9]; exact hT⟩
  · refine ev_aload_n dX3_consider_26 rfl rfl ?_
    refine ev_iload_n dX3_consider_27 rfl rfl ?_
    refine ev_iload_n dX3_consider_28 rfl rfl ?_
    refine ev_iload dX3_consider_29 rfl ?_
    refine cw_call3 (d' := d - 1) hE hT dX3_consider_31 rfl kX3_isBetter lX3_28 iX3_isBetter vX3_isBetter (k := 19) (i := 0) rfl ob19 rfl (Nat.le_of_ble_eq_true rfl) (by omega) (c_X3_isBetter hE) (fun g hT => ?_)
    refine ev_if_eq (tgt := 58) dX3_consider_34 (by decide) (fun c_34 => ?_) (fun c_34 => ?_)
    · have e9 : cx_X3_consider C x1 x2 x3 = C := by unfold cx_X3_consider; rw [if_neg c_23, if_pos c_34]
      exact ev_vret dX3_consider_58 rfl ⟨rfl, by rw [e9]; exact hT⟩
    · refine ev_aload_n dX3_consider_37 rfl rfl ?_
      refine ev_iload_n dX3_consider_38 rfl rfl ?_
      refine cw_putf (k := 19) (i := 0) (f := 127) (x := 0) hE hT dX3_consider_39 pX3_7 rfl ob19 (Nat.le_of_ble_eq_true rfl) rfl rfl rfl (by decide) (by decide) pu19_0 (fun g hT => ?_)
      refine ev_aload_n dX3_consider_42 rfl rfl ?_
      refine ev_iload_n dX3_consider_43 rfl rfl ?_
      refine cw_putf (k := 19) (i := 0) (f := 128) (x := 0) hE hT dX3_consider_44 pX3_13 rfl ob19 (Nat.le_of_ble_eq_true rfl) rfl rfl rfl (by decide) (by decide) pu19_1 (fun g hT => ?_)
      refine ev_aload_n dX3_consider_47 rfl rfl ?_
      refine ev_iload_n dX3_consider_48 rfl rfl ?_
      refine cw_putf (k := 19) (i := 0) (f := 129) (x := 0) hE hT dX3_consider_49 pX3_16 rfl ob19 (Nat.le_of_ble_eq_true rfl) rfl rfl rfl (by decide) (by decide) pu19_2 (fun g hT => ?_)
      refine ev_aload_n dX3_consider_52 rfl rfl ?_
      refine ev_iload dX3_consider_53 rfl ?_
      refine cw_putf (k := 19) (i := 0) (f := 130) (x := 0) hE hT dX3_consider_55 pX3_19 rfl ob19 (Nat.le_of_ble_eq_true rfl) rfl rfl rfl (by decide) (by decide) pu19_3 (fun g hT => ?_)
      have e9 : cx_X3_consider C x1 x2 x3 = (mo_up (mo_up (mo_up (mo_up C 127 0 x1) 128 0 x2) 129 0 x3) 130 0 (((x3 * x2) + ((x3 * x1) / 4)) - (2 * (cx_X11_kilogramsFor x3 x1)))) := by unfold cx_X3_consider; rw [if_neg c_23, if_neg c_34]
      exact ev_vret dX3_consider_58 rfl ⟨rfl, by rw [e9]; exact hT⟩
def cx_X3_field (C : mo_S) (x1 : Int32) : Int32 :=
  (if x1 = 0 then (C.1 127 0) else (if x1 = 1 then (C.1 128 0) else (if x1 = 2 then (C.1 129 0) else (C.1 130 0))))
theorem c_X3_field {G : ev_G} {W : cw_W} {d : Nat} {C : mo_S} {x1 : Int32} (hE : ev_En G) : cw_C G W d mX3_field [.ref (W 19 0), .int x1] C (some (.int (cx_X3_field C x1))) C := by
  refine cw_start (lv0 := [some (.ref (W 19 0)), some (.int x1)]) (by decide +kernel) rfl (Nat.le_of_ble_eq_true rfl) rfl ?_
  intro K g0 g hT
  refine ev_iload_n dX3_field_0 rfl rfl ?_
  by_cases c_1_0 : x1 = 0
  · refine ev_tableIn (tgt := 28) (off := 27) dX3_field_1 (by rw [c_1_0]; decide) (by rw [c_1_0]; decide) (by rw [c_1_0]; rfl) (by decide) ?_
    refine ev_aload_n dX3_field_28 rfl rfl ?_
    refine cw_getf hE hT dX3_field_29 fX3_7 (k := 19) (i := 0) rfl ob19 rfl ?_
    have e9 : cx_X3_field C x1 = (C.1 127 0) := by unfold cx_X3_field; rw [if_pos c_1_0]
    exact ev_iret dX3_field_32 rfl rfl ⟨by rw [e9], hT⟩
  · by_cases c_1_1 : x1 = 1
    · refine ev_tableIn (tgt := 33) (off := 32) dX3_field_1 (by rw [c_1_1]; decide) (by rw [c_1_1]; decide) (by rw [c_1_1]; rfl) (by decide) ?_
      refine ev_aload_n dX3_field_33 rfl rfl ?_
      refine cw_getf hE hT dX3_field_34 fX3_13 (k := 19) (i := 0) rfl ob19 rfl ?_
      have e9 : cx_X3_field C x1 = (C.1 128 0) := by unfold cx_X3_field; rw [if_neg c_1_0, if_pos c_1_1]
      exact ev_iret dX3_field_37 rfl rfl ⟨by rw [e9], hT⟩
    · by_cases c_1_2 : x1 = 2
      · refine ev_tableIn (tgt := 38) (off := 37) dX3_field_1 (by rw [c_1_2]; decide) (by rw [c_1_2]; decide) (by rw [c_1_2]; rfl) (by decide) ?_
        refine ev_aload_n dX3_field_38 rfl rfl ?_
        refine cw_getf hE hT dX3_field_39 fX3_16 (k := 19) (i := 0) rfl ob19 rfl ?_
        have e9 : cx_X3_field C x1 = (C.1 129 0) := by unfold cx_X3_field; rw [if_neg c_1_0, if_neg c_1_1, if_pos c_1_2]
        exact ev_iret dX3_field_42 rfl rfl ⟨by rw [e9], hT⟩
      · refine ev_tableOut (tgt := 43) dX3_field_1 (by have h0 : (x1 : Int32).toInt ≠ 0 := fun q => c_1_0 (Int32.toInt_inj.mp (by rw [q]; rfl)); have h1 : (x1 : Int32).toInt ≠ 1 := fun q => c_1_1 (Int32.toInt_inj.mp (by rw [q]; rfl)); have h2 : (x1 : Int32).toInt ≠ 2 := fun q => c_1_2 (Int32.toInt_inj.mp (by rw [q]; rfl)); omega) (by decide) ?_
        refine ev_aload_n dX3_field_43 rfl rfl ?_
        refine cw_getf hE hT dX3_field_44 fX3_19 (k := 19) (i := 0) rfl ob19 rfl ?_
        have e9 : cx_X3_field C x1 = (C.1 130 0) := by unfold cx_X3_field; rw [if_neg c_1_0, if_neg c_1_1, if_neg c_1_2]
        exact ev_iret dX3_field_47 rfl rfl ⟨by rw [e9], hT⟩
def cx_X10_named (C : mo_S) (x1 : Int32) (p : Nat) (x2 : Int32) (x3 : Int32) : Int32 :=
  (if x1 = (-7) then (C.1 10 p) else (if x1 = (-6) then x3 else (if x1 = (-5) then (C.1 3 p) else (if x1 = (-4) then (C.1 7 p) else (if x1 = (-3) then x2 else (if x1 = (-2) then (C.1 5 p) else (if x1 = (-1) then (C.1 4 p) else (C.1 13 p))))))))
theorem c_X10_named {G : ev_G} {W : cw_W} {d : Nat} {C : mo_S} {x1 : Int32} {p : Nat} {x2 : Int32} {x3 : Int32} (hE : ev_En G) (hp : p < sp_P C) : cw_C G W d mX10_named [.int x1, .ref (W 20 p), .int x2, .int x3] C (some (.int (cx_X10_named C x1 p x2 x3))) C := by
  refine cw_start (lv0 := [some (.int x1), some (.ref (W 20 p)), some (.int x2), some (.int x3)]) (by decide +kernel) rfl (Nat.le_of_ble_eq_true rfl) rfl ?_
  intro K g0 g hT
  refine ev_iload_n dX10_named_0 rfl rfl ?_
  by_cases c_1_m7 : x1 = (-7)
  · refine ev_tableIn (tgt := 68) (off := 67) dX10_named_1 (by rw [c_1_m7]; decide) (by rw [c_1_m7]; decide) (by rw [c_1_m7]; rfl) (by decide) ?_
    refine ev_aload_n dX10_named_68 rfl rfl ?_
    refine cw_getf hE hT dX10_named_69 fX10_42 (k := 20) (i := p) hp ob20 rfl ?_
    have e9 : cx_X10_named C x1 p x2 x3 = (C.1 10 p) := by unfold cx_X10_named; rw [if_pos c_1_m7]
    exact ev_iret dX10_named_72 rfl rfl ⟨by rw [e9], hT⟩
  · by_cases c_1_m6 : x1 = (-6)
    · refine ev_tableIn (tgt := 66) (off := 65) dX10_named_1 (by rw [c_1_m6]; decide) (by rw [c_1_m6]; decide) (by rw [c_1_m6]; rfl) (by decide) ?_
      refine ev_iload_n dX10_named_66 rfl rfl ?_
      have e9 : cx_X10_named C x1 p x2 x3 = x3 := by unfold cx_X10_named; rw [if_neg c_1_m7, if_pos c_1_m6]
      exact ev_iret dX10_named_67 rfl rfl ⟨by rw [e9], hT⟩
    · by_cases c_1_m5 : x1 = (-5)
      · refine ev_tableIn (tgt := 61) (off := 60) dX10_named_1 (by rw [c_1_m5]; decide) (by rw [c_1_m5]; decide) (by rw [c_1_m5]; rfl) (by decide) ?_
        refine ev_aload_n dX10_named_61 rfl rfl ?_
        refine cw_getf hE hT dX10_named_62 fX10_39 (k := 20) (i := p) hp ob20 rfl ?_
        have e9 : cx_X10_named C x1 p x2 x3 = (C.1 3 p) := by unfold cx_X10_named; rw [if_neg c_1_m7, if_neg c_1_m6, if_pos c_1_m5]
        exact ev_iret dX10_named_65 rfl rfl ⟨by rw [e9], hT⟩
      · by_cases c_1_m4 : x1 = (-4)
        · refine ev_tableIn (tgt := 56) (off := 55) dX10_named_1 (by rw [c_1_m4]; decide) (by rw [c_1_m4]; decide) (by rw [c_1_m4]; rfl) (by decide) ?_
          refine ev_aload_n dX10_named_56 rfl rfl ?_
          refine cw_getf hE hT dX10_named_57 fX10_36 (k := 20) (i := p) hp ob20 rfl ?_
          have e9 : cx_X10_named C x1 p x2 x3 = (C.1 7 p) := by unfold cx_X10_named; rw [if_neg c_1_m7, if_neg c_1_m6, if_neg c_1_m5, if_pos c_1_m4]
          exact ev_iret dX10_named_60 rfl rfl ⟨by rw [e9], hT⟩
        · by_cases c_1_m3 : x1 = (-3)
          · refine ev_tableIn (tgt := 54) (off := 53) dX10_named_1 (by rw [c_1_m3]; decide) (by rw [c_1_m3]; decide) (by rw [c_1_m3]; rfl) (by decide) ?_
            refine ev_iload_n dX10_named_54 rfl rfl ?_
            have e9 : cx_X10_named C x1 p x2 x3 = x2 := by unfold cx_X10_named; rw [if_neg c_1_m7, if_neg c_1_m6, if_neg c_1_m5, if_neg c_1_m4, if_pos c_1_m3]
            exact ev_iret dX10_named_55 rfl rfl ⟨by rw [e9], hT⟩
          · by_cases c_1_m2 : x1 = (-2)
            · refine ev_tableIn (tgt := 49) (off := 48) dX10_named_1 (by rw [c_1_m2]; decide) (by rw [c_1_m2]; decide) (by rw [c_1_m2]; rfl) (by decide) ?_
              refine ev_aload_n dX10_named_49 rfl rfl ?_
              refine cw_getf hE hT dX10_named_50 fX10_33 (k := 20) (i := p) hp ob20 rfl ?_
              have e9 : cx_X10_named C x1 p x2 x3 = (C.1 5 p) := by unfold cx_X10_named; rw [if_neg c_1_m7, if_neg c_1_m6, if_neg c_1_m5, if_neg c_1_m4, if_neg c_1_m3, if_pos c_1_m2]
              exact ev_iret dX10_named_53 rfl rfl ⟨by rw [e9], hT⟩
            · by_cases c_1_m1 : x1 = (-1)
              · refine ev_tableIn (tgt := 44) (off := 43) dX10_named_1 (by rw [c_1_m1]; decide) (by rw [c_1_m1]; decide) (by rw [c_1_m1]; rfl) (by decide) ?_
                refine ev_aload_n dX10_named_44 rfl rfl ?_
                refine cw_getf hE hT dX10_named_45 fX10_27 (k := 20) (i := p) hp ob20 rfl ?_
                have e9 : cx_X10_named C x1 p x2 x3 = (C.1 4 p) := by unfold cx_X10_named; rw [if_neg c_1_m7, if_neg c_1_m6, if_neg c_1_m5, if_neg c_1_m4, if_neg c_1_m3, if_neg c_1_m2, if_pos c_1_m1]
                exact ev_iret dX10_named_48 rfl rfl ⟨by rw [e9], hT⟩
              · refine ev_tableOut (tgt := 73) dX10_named_1 (by have hm7 : (x1 : Int32).toInt ≠ -7 := fun q => c_1_m7 (Int32.toInt_inj.mp (by rw [q]; rfl)); have hm6 : (x1 : Int32).toInt ≠ -6 := fun q => c_1_m6 (Int32.toInt_inj.mp (by rw [q]; rfl)); have hm5 : (x1 : Int32).toInt ≠ -5 := fun q => c_1_m5 (Int32.toInt_inj.mp (by rw [q]; rfl)); have hm4 : (x1 : Int32).toInt ≠ -4 := fun q => c_1_m4 (Int32.toInt_inj.mp (by rw [q]; rfl)); have hm3 : (x1 : Int32).toInt ≠ -3 := fun q => c_1_m3 (Int32.toInt_inj.mp (by rw [q]; rfl)); have hm2 : (x1 : Int32).toInt ≠ -2 := fun q => c_1_m2 (Int32.toInt_inj.mp (by rw [q]; rfl)); have hm1 : (x1 : Int32).toInt ≠ -1 := fun q => c_1_m1 (Int32.toInt_inj.mp (by rw [q]; rfl)); omega) (by decide) ?_
                refine ev_aload_n dX10_named_73 rfl rfl ?_
                refine cw_getf hE hT dX10_named_74 fX10_45 (k := 20) (i := p) hp ob20 rfl ?_
                have e9 : cx_X10_named C x1 p x2 x3 = (C.1 13 p) := by unfold cx_X10_named; rw [if_neg c_1_m7, if_neg c_1_m6, if_neg c_1_m5, if_neg c_1_m4, if_neg c_1_m3, if_neg c_1_m2, if_neg c_1_m1]
                exact ev_iret dX10_named_77 rfl rfl ⟨by rw [e9], hT⟩
end CM1
