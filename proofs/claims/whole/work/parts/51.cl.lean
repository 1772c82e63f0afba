section CL
variable {G : ev_G} {d : Nat} {g : ev_H} {K : Nat → Prop} {g0 : ev_H} {W : cw_W} {C : mo_S}
theorem c_lsize {l : Nat} (hE : ev_En G) (hT : cw_T G K g0 W g C) (hl : l < 4) : ev_Cp G d mJx4a65c_size_8abf5 [.ref (W 1 l)] g (some (.int (C.1 (cw_sz l) 0))) := by
  refine ev_start (lv0 := [some (.ref (W 1 l))]) (by decide +kernel) rfl (Nat.le_of_ble_eq_true rfl) rfl ?_
  refine ev_aload_n dJx4a65c_size_8abf5_0 rfl rfl ?_
  refine cw_getf hE hT dJx4a65c_size_8abf5_1 fJx4a65c_48 (k := 1) hl ob1 rfl ?_
  exact ev_iret dJx4a65c_size_8abf5_4 rfl rfl ⟨rfl, rfl⟩
theorem cw_sz_n {l : Nat} (hT : cw_T G K g0 W g C) (hl : l < 4) : C.1 (cw_sz l) 0 = nI (cw_n C l) ∧ cw_n C l ≤ 80 := by
  obtain ⟨a1, a2, a3, a4, -⟩ := hT.B
  obtain rfl | rfl | rfl | rfl : l = 0 ∨ l = 1 ∨ l = 2 ∨ l = 3 := by omega
  · exact ⟨a1.1, Nat.le_trans a1.2 (by decide)⟩
  · exact a2
  · exact ⟨a3.1, Nat.le_trans a3.2 (by decide)⟩
  · exact ⟨a4.1, Nat.le_trans a4.2 (by decide)⟩
theorem cw_cap {l : Nat} (hT : cw_T G K g0 W g C) (hl : l < 4) : ∃ cap : Nat, C.1 132 l = nI cap ∧ cap ≤ 200 ∧ cw_n C l ≤ cap ∧ (cap = 0 ∨ 10 ≤ cap) := hT.B.2.2.2.2.2.1 l hl
theorem c_lget {l q : Nat} (hE : ev_En G) (hT : cw_T G K g0 W g C) (hd : 2 ≤ d) (hl : l < 4) (hq : q < cw_n C l) : ev_Cp G d mJx4a65c_get_915e3 [.ref (W 1 l), .int (nI q)] g (some (.ref (W (cw_ek l) q))) := by
  obtain ⟨e1, e2⟩ := cw_sz_n hT hl
  obtain ⟨cap, f1, f2, f3, f4⟩ := cw_cap hT hl
  have hc : ¬ C.1 132 l = 0 := by rw [f1]; exact nI_ne0 (by omega) (by omega)
  have H : ev_Cp G (d - 1) mJx4a65c_elementData_915e3 [.ref (W 1 l), .int (nI q)] g (some (.ref (W (cw_ek l) q))) := by
    obtain ⟨f, a1, a2⟩ := (hT.at (k := 2) (i := l) ⟨hl, hc⟩).2.2.1 rfl
    rw [f1, nI_clamp (by omega)] at a1
    refine ev_start (lv0 := [some (.ref (W 1 l)), some (.int (nI q))]) (by decide +kernel) rfl (Nat.le_of_ble_eq_true rfl) rfl ?_
    refine ev_aload_n dJx4a65c_elementData_915e3_0 rfl rfl ?_
    refine cw_getf (v := .ref (W 2 l)) hE hT dJx4a65c_elementData_915e3_1 fJx4a65c_9 (k := 1) hl ob1 (by rw [if_neg hc]; rfl) ?_
    refine ev_iload_n dJx4a65c_elementData_915e3_4 rfl rfl ?_
    refine ev_aald hE dJx4a65c_elementData_915e3_5 a1 (vp_in_nI (by omega) (by omega)) ?_
    rw [nI_clamp (by omega), a2 q, if_pos hq]
    exact ev_aret dJx4a65c_elementData_915e3_6 rfl (Or.inl ⟨_, rfl⟩) (Or.inr ⟨_, rfl⟩) ⟨rfl, rfl⟩
  refine ev_start (lv0 := [some (.ref (W 1 l)), some (.int (nI q))]) (by decide +kernel) rfl (Nat.le_of_ble_eq_true rfl) rfl ?_
  refine ev_iload_n dJx4a65c_get_915e3_0 rfl rfl ?_
  refine ev_aload_n dJx4a65c_get_915e3_1 rfl rfl ?_
  refine cw_getf (v := .int (nI (cw_n C l))) hE hT dJx4a65c_get_915e3_2 fJx4a65c_48 (k := 1) hl ob1 (by rw [e1]; rfl) ?_
  refine ev_pS2 (d' := d - 1) dJx4a65c_get_915e3_5 rfl kJ15_checkIndex_7cf53 lJx4a65c_118 sJ15_checkIndex_7cf53 (Nat.le_of_ble_eq_true rfl) (by omega) (c_checkIndexO (by omega) hq (by omega)) ?_
  refine ev_pop dJx4a65c_get_915e3_8 rfl ?_
  refine ev_aload_n dJx4a65c_get_915e3_9 rfl rfl ?_
  refine ev_iload_n dJx4a65c_get_915e3_10 rfl rfl ?_
  refine ev_callV (d' := d - 1) (b := 0) (k0 := 0) (As := [.int (nI q)]) hE dJx4a65c_get_915e3_11 rfl kJx4a65c_elementData_915e3 rfl lJx4a65c_123 iJx4a65c_elementData_915e3 vJx4a65c_elementData_915e3 ((hT.at (k := 1) hl).1 _ _ ob1) rfl (Nat.le_of_ble_eq_true rfl) (by omega) H (Nat.le_refl _) (Nat.le_refl _) (fun v g' h => ?_) (fun E g' h => by cases h.1)
  obtain ⟨h1, rfl⟩ := h
  cases h1
  exact ev_aret dJx4a65c_get_915e3_14 rfl (Or.inl ⟨_, rfl⟩) (Or.inr ⟨_, rfl⟩) ⟨rfl, rfl⟩
/-- a list with room, or the empty one; what comes in -/
def cl_pre (G : ev_G) (D0 : Nat) (g : ev_H) (a : Nat) (m : Int32) (ed n cap ci : Nat) (f : Nat → Option Nat) : Prop :=
  g a = some (.inr (0, [.int m, .ref ed, .int (nI n)])) ∧ ((cap = 0 ∧ ed = D0 ∧ n = 0 ∧ ∀ j, f j = none) ∨ (10 ≤ cap ∧ g ed = some (.inl (G.2.2.2 4, cap, .inr (.inr (.inr (.inr f))))))) ∧ n ≤ cap ∧ n ≤ 80 ∧ cap ≤ 200 ∧ (∀ i y, f i = some y → ∃ fs, g y = some (.inr (ci, fs))) ∧ ∀ j, n ≤ j → f j = none
def cl_cap (n cap : Nat) : Nat := if n = cap then (if cap = 0 then 10 else cap + cap / 2) else cap
theorem cl_grow {D0 a ed cap ci : Nat} {m : Int32} {f : Nat → Option Nat} {Cn : String} (hE : ev_En G) (h4 : ev_En4 G D0) (hd : 4 ≤ d) (hg : cl_pre G D0 g a m ed cap cap ci f) (hci : (vwCl[ci]?).map (fun q => q.1) = some Cn) (hca : Cond.castable Cn "java/lang/Object" ∈ ev_nw) :
    ev_C G d 1 200 mJx4a65c_grow_92f84 [.ref a, .int (nI (cap + 1))] g (fun o g' => ∃ (q : Nat) (f' : Nat → Option Nat), o = .inl (some (.ref q)) ∧ g q = none ∧ g' = ev_up (ev_up g q (.inl (G.2.2.2 4, cl_cap cap cap, .inr (.inr (.inr (.inr f')))))) a (.inr (0, [.int m, .ref q, .int (nI cap)])) ∧ ∀ j, f' j = f j) := by
  obtain ⟨p1, p2, p3, p4, p5, p6, p7⟩ := hg
  refine ev_start (lv0 := [some (.ref a), some (.int (nI (cap + 1))), none, none]) (by decide +kernel) rfl (Nat.le_of_ble_eq_true rfl) rfl ?_
  refine ev_aload_n dJx4a65c_grow_92f84_0 rfl rfl ?_
  refine ev_getf hE dJx4a65c_grow_92f84_1 fJx4a65c_9 p1 rfl ?_
  rcases p2 with ⟨z1, z2, z3, z4⟩ | ⟨z1, z2⟩
  · subst z1 z2
    obtain ⟨t1, t2⟩ := h4.2.2.1
    refine ev_tlen dJx4a65c_grow_92f84_4 t2 ?_
    refine ev_istore_n dJx4a65c_grow_92f84_5 rfl (Nat.le_of_ble_eq_true rfl) rfl ?_
    refine ev_iload_n dJx4a65c_grow_92f84_6 rfl rfl ?_
    refine ev_if_gt (tgt := 20) dJx4a65c_grow_92f84_7 (by decide) (fun c_7 => absurd c_7 (by decide)) (fun c_7 => ?_)
    refine ev_aload_n dJx4a65c_grow_92f84_10 rfl rfl ?_
    refine ev_getf hE dJx4a65c_grow_92f84_11 fJx4a65c_9 p1 rfl ?_
    refine ev_gets dJx4a65c_grow_92f84_14 (ev_in1 53 rfl rfl) t1 ?_
    refine ev_acmp_eq (rx := some ed) (ry := some ed) (tgt := 45) dJx4a65c_grow_92f84_17 (by decide) (fun c_17 => ?_) (fun c_17 => absurd rfl c_17)
    refine ev_aload_n dJx4a65c_grow_92f84_45 rfl rfl ?_
    refine ev_bipush (v := nI 10) dJx4a65c_grow_92f84_46 (by decide) ?_
    refine ev_iload_n dJx4a65c_grow_92f84_48 rfl rfl ?_
    refine ev_mmax dJx4a65c_grow_92f84_49 lJx4a65c_79 (Nat.le_of_ble_eq_true rfl) (by omega) ?_
    rw [show cj_max (nI 10) (nI (0 + 1)) = nI 10 by decide]
    refine ev_newq (b := 0) (n := 190) (N := 10) hE h4 dJx4a65c_grow_92f84_52 lkJx4a65c_7 (by decide) (by decide) (by decide) (by omega) (by omega) (fun q hq => ?_)
    have hqa : a ≠ q := fun z => by rw [← z, p1] at hq; cases hq
    refine ev_dupx1 dJx4a65c_grow_92f84_55 rfl rfl ?_
    refine ev_put hE dJx4a65c_grow_92f84_56 pJx4a65c_9 (by rw [ev_up_n _ _ hqa]; exact p1) (Nat.le_of_ble_eq_true rfl) rfl rfl ?_
    exact ev_aret dJx4a65c_grow_92f84_59 rfl (Or.inr ⟨_, rfl⟩) (Or.inr ⟨_, rfl⟩) ⟨q, _, rfl, hq, rfl, fun j => (z4 j).symm⟩
  · refine ev_alen (t0 := 4) hE dJx4a65c_grow_92f84_4 rfl z2 ?_
    refine ev_istore_n dJx4a65c_grow_92f84_5 rfl (Nat.le_of_ble_eq_true rfl) rfl ?_
    refine ev_iload_n dJx4a65c_grow_92f84_6 rfl rfl ?_
    refine ev_if_gt (tgt := 20) dJx4a65c_grow_92f84_7 (by decide) (fun c_7 => ?_) (fun c_7 => absurd (nI_lt (a := 0) (by omega) (by omega)) c_7)
    refine ev_iload_n dJx4a65c_grow_92f84_20 rfl rfl ?_
    refine ev_iload_n dJx4a65c_grow_92f84_21 rfl rfl ?_
    refine ev_iload_n dJx4a65c_grow_92f84_22 rfl rfl ?_
    refine ev_isub dJx4a65c_grow_92f84_23 ?_
    rw [pk_sub (by omega), show cap + 1 - cap = 1 by omega]
    refine ev_iload_n dJx4a65c_grow_92f84_24 rfl rfl ?_
    refine ev_iconst (v := 1) dJx4a65c_grow_92f84_25 (by decide) ?_
    refine ev_ishr dJx4a65c_grow_92f84_26 ?_
    rw [pk_shrN (n := cap) (by omega) ((1 : Int32) &&& 31) 1 (by decide), Nat.pow_one]
    refine ev_pS3 (d' := d - 1) dJx4a65c_grow_92f84_27 rfl kJ8_newLength_cabcc lJx4a65c_73 sJ8_newLength_cabcc (Nat.le_of_ble_eq_true rfl) (by omega) (c_newLength (by omega) (by omega) (by omega)) ?_
    rw [show cap + max 1 (cap / 2) = cl_cap cap cap by unfold cl_cap; rw [if_pos rfl, if_neg (by omega), Nat.max_eq_right (by omega)]]
    have hcc : cl_cap cap cap = cap + cap / 2 := by unfold cl_cap; rw [if_pos rfl, if_neg (by omega)]
    refine ev_istore_n dJx4a65c_grow_92f84_30 rfl (Nat.le_of_ble_eq_true rfl) rfl ?_
    refine ev_aload_n dJx4a65c_grow_92f84_31 rfl rfl ?_
    refine ev_aload_n dJx4a65c_grow_92f84_32 rfl rfl ?_
    refine ev_getf hE dJx4a65c_grow_92f84_33 fJx4a65c_9 p1 rfl ?_
    refine ev_iload_n dJx4a65c_grow_92f84_36 rfl rfl ?_
    refine ev_callS (ci := 0) (r := 0) (fs := []) (d' := d - 1) (b := 0) (k0 := 200 - cl_cap cap cap) (As := [.ref ed, .int (nI (cl_cap cap cap))]) dJx4a65c_grow_92f84_37 rfl kJ7_copyOf_1904c rfl lJx4a65c_66 sJ7_copyOf_1904c (Nat.le_of_ble_eq_true rfl) (by omega) (c_copyOfO hE h4 (by omega) z2 hci hca p6 p7 (by omega) (by omega)) (Nat.le_of_eq (by omega)) (by omega) (fun v g' h => ?_) (fun E g' h => by obtain ⟨q, f', h1, -⟩ := h; cases h1)
    obtain ⟨q, f', h1, hq, h3, h5⟩ := h
    cases h1
    subst h3
    have hqa : a ≠ q := fun z => by rw [← z, p1] at hq; cases hq
    refine ev_dupx1 dJx4a65c_grow_92f84_40 rfl rfl ?_
    refine ev_put hE dJx4a65c_grow_92f84_41 pJx4a65c_9 (by rw [ev_up_n _ _ hqa]; exact p1) (Nat.le_of_ble_eq_true rfl) rfl rfl ?_
    exact ev_aret dJx4a65c_grow_92f84_44 rfl (Or.inr ⟨_, rfl⟩) (Or.inr ⟨_, rfl⟩) ⟨q, f', rfl, hq, rfl, h5⟩
theorem cl_grow0 {D0 a ed cap ci : Nat} {m : Int32} {f : Nat → Option Nat} {Cn : String} (hE : ev_En G) (h4 : ev_En4 G D0) (hd : 5 ≤ d) (hg : cl_pre G D0 g a m ed cap cap ci f) (hci : (vwCl[ci]?).map (fun q => q.1) = some Cn) (hca : Cond.castable Cn "java/lang/Object" ∈ ev_nw) :
    ev_C G d 1 200 mJx4a65c_grow_d5877 [.ref a] g (fun o g' => ∃ (q : Nat) (f' : Nat → Option Nat), o = .inl (some (.ref q)) ∧ g q = none ∧ g' = ev_up (ev_up g q (.inl (G.2.2.2 4, cl_cap cap cap, .inr (.inr (.inr (.inr f')))))) a (.inr (0, [.int m, .ref q, .int (nI cap)])) ∧ ∀ j, f' j = f j) := by
  refine ev_start (lv0 := [some (.ref a)]) (by decide +kernel) rfl (Nat.le_of_ble_eq_true rfl) rfl ?_
  refine ev_aload_n dJx4a65c_grow_d5877_0 rfl rfl ?_
  refine ev_aload_n dJx4a65c_grow_d5877_1 rfl rfl ?_
  refine ev_getf hE dJx4a65c_grow_d5877_2 fJx4a65c_48 hg.1 rfl ?_
  refine ev_iconst (v := 1) dJx4a65c_grow_d5877_5 (by decide) ?_
  refine ev_iadd dJx4a65c_grow_d5877_6 ?_
  rw [nI_1]
  refine ev_callV (d' := d - 1) (b := 0) (k0 := 0) (As := [.int (nI (cap + 1))]) hE dJx4a65c_grow_d5877_7 rfl kJx4a65c_grow_92f84 rfl lJx4a65c_69 iJx4a65c_grow_92f84 vJx4a65c_grow_92f84 hg.1 rfl (Nat.le_of_ble_eq_true rfl) (by omega) (cl_grow hE h4 (by omega) hg hci hca) (Nat.le_refl _) (Nat.le_refl _) (fun v g' h => ?_) (fun E g' h => by obtain ⟨q, f', h1, -⟩ := h; cases h1)
  obtain ⟨q, f', h1, hq, h3, h5⟩ := h
  cases h1
  exact ev_aret dJx4a65c_grow_d5877_10 rfl (Or.inr ⟨_, rfl⟩) (Or.inr ⟨_, rfl⟩) ⟨q, f', rfl, hq, h3, h5⟩
/-- .. behind: y at n -/
def cl_post (G : ev_G) (g : ev_H) (a : Nat) (m : Int32) (ed n cap y : Nat) (f : Nat → Option Nat) (g' : ev_H) : Prop := ∃ (q : Nat) (f' : Nat → Option Nat),
  (q = ed ∧ ¬ n = cap ∨ g q = none) ∧ a ≠ q ∧ g' a = some (.inr (0, [.int m, .ref q, .int (nI (n + 1))])) ∧ g' q = some (.inl (G.2.2.2 4, cl_cap n cap, .inr (.inr (.inr (.inr f'))))) ∧ (∀ j, f' j = if j = n then some y else f j) ∧ ∀ b, b ≠ a → b ≠ q → g' b = g b
theorem cl_add3 {D0 a ed n cap ci y : Nat} {m : Int32} {fy : List Value} {f : Nat → Option Nat} {Cn : String} (hE : ev_En G) (h4 : ev_En4 G D0) (hd : 6 ≤ d) (hg : cl_pre G D0 g a m ed n cap ci f) (hy : g y = some (.inr (ci, fy))) (hay : a ≠ y) (hae : a ≠ ed) (hci : (vwCl[ci]?).map (fun q => q.1) = some Cn) (hca : Cond.castable Cn "java/lang/Object" ∈ ev_nw) :
    ev_C G d 1 200 mJx4a65c_add_72be8 [.ref a, .ref y, .ref ed, .int (nI n)] g (fun o g' => o = .inl none ∧ cl_post G g a m ed n cap y f g') := by
  obtain ⟨p1, p2, p3, p4, p5, p6, p7⟩ := id hg
  have hlen : ∀ {bc bs : Nat} {Post : ev_P} {lv : List (Option Value)} {st : List Value}, ev_V G d bc bs mJx4a65c_add_72be8 Post g 3 lv (.int (nI cap) :: st) → ev_V G d bc bs mJx4a65c_add_72be8 Post g 2 lv (.ref ed :: st) := by
    intro bc bs Post lv st kk
    rcases p2 with ⟨z1, z2, z3, z4⟩ | ⟨z1, z2⟩
    · subst z1 z2
      exact ev_tlen dJx4a65c_add_72be8_2 h4.2.2.1.2 kk
    · exact ev_alen (t0 := 4) hE dJx4a65c_add_72be8_2 rfl z2 kk
  refine ev_start (lv0 := [some (.ref a), some (.ref y), some (.ref ed), some (.int (nI n))]) (by decide +kernel) rfl (Nat.le_of_ble_eq_true rfl) rfl ?_
  refine ev_iload_n dJx4a65c_add_72be8_0 rfl rfl ?_
  refine ev_aload_n dJx4a65c_add_72be8_1 rfl rfl ?_
  refine hlen ?_
  refine ev_icmp_ne (tgt := 11) dJx4a65c_add_72be8_3 (by decide) (fun c_3 => ?_) (fun c_3 => ?_)
  · have hnc : ¬ n = cap := fun z => c_3 (by rw [z])
    rcases p2 with ⟨z1, z2, z3, z4⟩ | ⟨z1, z2⟩
    · exact absurd (z3.trans z1.symm) hnc
    · refine ev_aload_n dJx4a65c_add_72be8_11 rfl rfl ?_
      refine ev_iload_n dJx4a65c_add_72be8_12 rfl rfl ?_
      refine ev_aload_n dJx4a65c_add_72be8_13 rfl rfl ?_
      refine ev_astq hE h4 dJx4a65c_add_72be8_14 z2 hy hci hca (vp_in_nI (by omega) (by omega)) ?_
      refine ev_aload_n dJx4a65c_add_72be8_15 rfl rfl ?_
      refine ev_iload_n dJx4a65c_add_72be8_16 rfl rfl ?_
      refine ev_iconst (v := 1) dJx4a65c_add_72be8_17 (by decide) ?_
      refine ev_iadd dJx4a65c_add_72be8_18 ?_
      rw [nI_1]
      refine ev_put hE dJx4a65c_add_72be8_19 pJx4a65c_48 (by rw [ev_up_n _ _ hae]; exact p1) (Nat.le_of_ble_eq_true rfl) rfl rfl ?_
      refine ev_vret dJx4a65c_add_72be8_22 rfl ⟨rfl, ed, va_up f (nI n).toNatClampNeg (some y), Or.inl ⟨rfl, hnc⟩, hae, ev_up_s _ _ _, ?_, fun j => ?_, fun b b1 b2 => by rw [ev_up_n _ _ b1, ev_up_n _ _ b2]⟩
      · rw [ev_up_n _ _ (Ne.symm hae), ev_up_s]
        unfold cl_cap
        rw [if_neg hnc]
      · rw [nI_clamp (by omega)]
        rfl
  · have hnc : n = cap := (nI_eq (by omega) (by omega)).mp c_3
    subst hnc
    refine ev_aload_n dJx4a65c_add_72be8_6 rfl rfl ?_
    refine ev_callV (d' := d - 1) (b := 0) (k0 := 0) (As := []) hE dJx4a65c_add_72be8_7 rfl kJx4a65c_grow_d5877 rfl lJx4a65c_129 iJx4a65c_grow_d5877 vJx4a65c_grow_d5877 p1 rfl (Nat.le_of_ble_eq_true rfl) (by omega) (cl_grow0 hE h4 (by omega) hg hci hca) (Nat.le_refl _) (Nat.le_refl _) (fun v g' h => ?_) (fun E g' h => by obtain ⟨q, f', h1, -⟩ := h; cases h1)
    obtain ⟨q, f', h1, hq, h3, h5⟩ := h
    cases h1
    subst h3
    have hqa : a ≠ q := fun z => by rw [← z, p1] at hq; cases hq
    have hqy : y ≠ q := fun z => by rw [← z, hy] at hq; cases hq
    have hcap : n < cl_cap n n ∧ cl_cap n n ≤ 200 := by
      unfold cl_cap
      rw [if_pos rfl]
      split
      · omega
      · rcases p2 with ⟨z1, -⟩ | ⟨z1, -⟩ <;> omega
    refine ev_astore_n dJx4a65c_add_72be8_10 rfl (Nat.le_of_ble_eq_true rfl) rfl ?_
    refine ev_aload_n dJx4a65c_add_72be8_11 rfl rfl ?_
    refine ev_iload_n dJx4a65c_add_72be8_12 rfl rfl ?_
    refine ev_aload_n dJx4a65c_add_72be8_13 rfl rfl ?_
    refine ev_astq hE h4 dJx4a65c_add_72be8_14 (by rw [ev_up_n _ _ (Ne.symm hqa), ev_up_s]) (by rw [ev_up_n _ _ (Ne.symm hay), ev_up_n _ _ hqy]; exact hy) hci hca (vp_in_nI hcap.1 (by omega)) ?_
    refine ev_aload_n dJx4a65c_add_72be8_15 rfl rfl ?_
    refine ev_iload_n dJx4a65c_add_72be8_16 rfl rfl ?_
    refine ev_iconst (v := 1) dJx4a65c_add_72be8_17 (by decide) ?_
    refine ev_iadd dJx4a65c_add_72be8_18 ?_
    rw [nI_1]
    refine ev_put hE dJx4a65c_add_72be8_19 pJx4a65c_48 (by rw [ev_up_n _ _ hqa, ev_up_s]) (Nat.le_of_ble_eq_true rfl) rfl rfl ?_
    refine ev_vret dJx4a65c_add_72be8_22 rfl ⟨rfl, q, va_up f' (nI n).toNatClampNeg (some y), Or.inr hq, hqa, ev_up_s _ _ _, ?_, fun j => ?_, fun b b1 b2 => by rw [ev_up_n _ _ b1, ev_up_n _ _ b2, ev_up_n _ _ b1, ev_up_n _ _ b2]⟩
    · rw [ev_up_n _ _ (Ne.symm hqa), ev_up_s]
    · rw [nI_clamp (by omega)]
      show (if j = n then some y else f' j) = _
      rw [h5 j]
/-- one more in a list -/
theorem cl_add {D0 a ed n cap ci y : Nat} {m : Int32} {fy : List Value} {f : Nat → Option Nat} {Cn : String} (hE : ev_En G) (h4 : ev_En4 G D0) (hd : 7 ≤ d) (hg : cl_pre G D0 g a m ed n cap ci f) (hy : g y = some (.inr (ci, fy))) (hay : a ≠ y) (hae : a ≠ ed) (hci : (vwCl[ci]?).map (fun q => q.1) = some Cn) (hca : Cond.castable Cn "java/lang/Object" ∈ ev_nw) (hci0 : ci ≠ 0) :
    ev_C G d 1 200 mJx4a65c_add_9ea2d [.ref a, .ref y] g (fun o g' => o = .inl (some (.int 1)) ∧ cl_post G g a (m + 1) ed n cap y f g') := by
  obtain ⟨p1, p2, p3, p4, p5, p6, p7⟩ := id hg
  refine ev_start (lv0 := [some (.ref a), some (.ref y)]) (by decide +kernel) rfl (Nat.le_of_ble_eq_true rfl) rfl ?_
  refine ev_aload_n dJx4a65c_add_9ea2d_0 rfl rfl ?_
  refine ev_dup dJx4a65c_add_9ea2d_1 rfl ?_
  refine ev_getf hE dJx4a65c_add_9ea2d_2 fJx4a65c_63 p1 rfl ?_
  refine ev_iconst (v := 1) dJx4a65c_add_9ea2d_5 (by decide) ?_
  refine ev_iadd dJx4a65c_add_9ea2d_6 ?_
  refine ev_put hE dJx4a65c_add_9ea2d_7 pJx4a65c_63 p1 (Nat.le_of_ble_eq_true rfl) rfl rfl ?_
  refine ev_aload_n dJx4a65c_add_9ea2d_10 rfl rfl ?_
  refine ev_aload_n dJx4a65c_add_9ea2d_11 rfl rfl ?_
  refine ev_aload_n dJx4a65c_add_9ea2d_12 rfl rfl ?_
  refine ev_getf hE dJx4a65c_add_9ea2d_13 fJx4a65c_9 (ev_up_s _ _ _) rfl ?_
  refine ev_aload_n dJx4a65c_add_9ea2d_16 rfl rfl ?_
  refine ev_getf hE dJx4a65c_add_9ea2d_17 fJx4a65c_48 (ev_up_s _ _ _) rfl ?_
  have hp : cl_pre G D0 (ev_up g a (.inr (0, [.int (m + 1), .ref ed, .int (nI n)]))) a (m + 1) ed n cap ci f := by
    refine ⟨ev_up_s _ _ _, ?_, p3, p4, p5, fun i z hz => ?_, p7⟩
    · rcases p2 with z | ⟨z1, z2⟩
      · exact Or.inl z
      · exact Or.inr ⟨z1, by rw [ev_up_n _ _ (Ne.symm hae)]; exact z2⟩
    · obtain ⟨fs, h9⟩ := p6 i z hz
      refine ⟨fs, ?_⟩
      rw [ev_up_n _ _ (fun q => ?_)]
      · exact h9
      · rw [q, p1] at h9
        cases h9
        exact hci0 rfl
  refine ev_callV (d' := d - 1) (b := 0) (k0 := 0) (As := [.ref y, .ref ed, .int (nI n)]) hE dJx4a65c_add_9ea2d_20 rfl kJx4a65c_add_72be8 rfl lJx4a65c_131 iJx4a65c_add_72be8 vJx4a65c_add_72be8 (ev_up_s _ _ _) rfl (Nat.le_of_ble_eq_true rfl) (by omega) (cl_add3 hE h4 (by omega) hp (by rw [ev_up_n _ _ (Ne.symm hay)]; exact hy) hay hae hci hca) (Nat.le_refl _) (Nat.le_refl _) (fun v g' h => ?_) (fun E g' h => by cases h.1)
  obtain ⟨h1, h2⟩ := h
  cases h1
  refine ev_iconst (v := 1) dJx4a65c_add_9ea2d_23 (by decide) ?_
  refine ev_iret dJx4a65c_add_9ea2d_24 rfl rfl ⟨rfl, ?_⟩
  obtain ⟨q, f', a1, a2, a3, a4, a5, a6⟩ := h2
  refine ⟨q, f', a1.imp id (fun z => ?_), a2, a3, a4, a5, fun b b1 b2 => by rw [a6 b b1 b2, ev_up_n _ _ b1]⟩
  rw [ev_up_n _ _ (Ne.symm a2)] at z
  exact z
/-- a new list -/
theorem cl_init {D0 a : Nat} (hE : ev_En G) (h4 : ev_En4 G D0) (hd : 3 ≤ d) (hg : g a = some (.inr (0, [.int 0, .null, .int 0]))) : ev_C G d 0 0 mJx4a65c_init_da8c8 [.ref a] g (fun o g' => o = .inl none ∧ g' = ev_up g a (.inr (0, [.int 0, .ref D0, .int 0]))) := by
  have H2 : ev_C G (d - 2) 0 0 mJxa1e45_init_da8c8 [.ref a] g (fun o g' => o = .inl none ∧ g' = g) := by
    refine ev_start (lv0 := [some (.ref a)]) (by decide +kernel) rfl (Nat.le_of_ble_eq_true rfl) rfl ?_
    refine ev_aload_n dJxa1e45_init_da8c8_0 rfl rfl ?_
    refine ev_objI dJxa1e45_init_da8c8_1 loJxa1e45 (Nat.le_of_ble_eq_true rfl) (by omega) ?_
    exact ev_vret dJxa1e45_init_da8c8_4 rfl ⟨rfl, rfl⟩
  have H1 : ev_C G (d - 1) 0 0 mJxc12de_init_da8c8 [.ref a] g (fun o g' => o = .inl none ∧ g' = ev_up g a (.inr (0, [.int 0, .null, .int 0]))) := by
    refine ev_start (lv0 := [some (.ref a)]) (by decide +kernel) rfl (Nat.le_of_ble_eq_true rfl) rfl ?_
    refine ev_aload_n dJxc12de_init_da8c8_0 rfl rfl ?_
    refine ev_callI (d' := d - 2) (b := 0) (k0 := 0) (As := []) dJxc12de_init_da8c8_1 rfl rfl kJxa1e45_init_da8c8 rfl rfl lJxc12de_1 iJxa1e45_init_da8c8 (Nat.le_of_ble_eq_true rfl) (by omega) H2 (Nat.le_refl _) (Nat.le_refl _) (fun v g' h => ?_) (fun E g' h => by cases h.1)
    obtain ⟨h1, rfl⟩ := h
    cases h1
    refine ev_aload_n dJxc12de_init_da8c8_4 rfl rfl ?_
    refine ev_iconst (v := 0) dJxc12de_init_da8c8_5 (by decide) ?_
    refine ev_put hE dJxc12de_init_da8c8_6 pJxc12de_7 hg (Nat.le_of_ble_eq_true rfl) rfl rfl ?_
    exact ev_vret dJxc12de_init_da8c8_9 rfl ⟨rfl, rfl⟩
  refine ev_start (lv0 := [some (.ref a)]) (by decide +kernel) rfl (Nat.le_of_ble_eq_true rfl) rfl ?_
  refine ev_aload_n dJx4a65c_init_da8c8_0 rfl rfl ?_
  refine ev_callI (d' := d - 1) (b := 0) (k0 := 0) (As := []) dJx4a65c_init_da8c8_1 rfl rfl kJxc12de_init_da8c8 rfl rfl lJx4a65c_1 iJxc12de_init_da8c8 (Nat.le_of_ble_eq_true rfl) (by omega) H1 (Nat.le_refl _) (Nat.le_refl _) (fun v g' h => ?_) (fun E g' h => by cases h.1)
  obtain ⟨h1, rfl⟩ := h
  cases h1
  refine ev_aload_n dJx4a65c_init_da8c8_4 rfl rfl ?_
  refine ev_gets dJx4a65c_init_da8c8_5 (ev_in1 53 rfl rfl) h4.2.2.1.1 ?_
  refine ev_put hE dJx4a65c_init_da8c8_8 pJx4a65c_9 (ev_up_s _ _ _) (Nat.le_of_ble_eq_true rfl) rfl rfl ?_
  exact ev_vret dJx4a65c_init_da8c8_11 rfl ⟨rfl, ev_up2 _ _ _ _⟩
end CL
