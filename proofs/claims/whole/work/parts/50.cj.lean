section CJ
def sp_J6_bitCount_0f7a4 (x1 : Int32) : Int32 :=
  ((((((((x1 - (((x1 : Int32).toUInt32 >>> ((1 : Int32).toUInt32 &&& Int32.toUInt32 31)).toInt32 &&& 1431655765)) &&& 858993459) + ((((x1 - (((x1 : Int32).toUInt32 >>> ((1 : Int32).toUInt32 &&& Int32.toUInt32 31)).toInt32 &&& 1431655765)) : Int32).toUInt32 >>> ((2 : Int32).toUInt32 &&& Int32.toUInt32 31)).toInt32 &&& 858993459)) + (((((x1 - (((x1 : Int32).toUInt32 >>> ((1 : Int32).toUInt32 &&& Int32.toUInt32 31)).toInt32 &&& 1431655765)) &&& 858993459) + ((((x1 - (((x1 : Int32).toUInt32 >>> ((1 : Int32).toUInt32 &&& Int32.toUInt32 31)).toInt32 &&& 1431655765)) : Int32).toUInt32 >>> ((2 : Int32).toUInt32 &&& Int32.toUInt32 31)).toInt32 &&& 858993459)) : Int32).toUInt32 >>> ((4 : Int32).toUInt32 &&& Int32.toUInt32 31)).toInt32) &&& 252645135) + (((((((x1 - (((x1 : Int32).toUInt32 >>> ((1 : Int32).toUInt32 &&& Int32.toUInt32 31)).toInt32 &&& 1431655765)) &&& 858993459) + ((((x1 - (((x1 : Int32).toUInt32 >>> ((1 : Int32).toUInt32 &&& Int32.toUInt32 31)).toInt32 &&& 1431655765)) : Int32).toUInt32 >>> ((2 : Int32).toUInt32 &&& Int32.toUInt32 31)).toInt32 &&& 858993459)) + (((((x1 - (((x1 : Int32).toUInt32 >>> ((1 : Int32).toUInt32 &&& Int32.toUInt32 31)).toInt32 &&& 1431655765)) &&& 858993459) + ((((x1 - (((x1 : Int32).toUInt32 >>> ((1 : Int32).toUInt32 &&& Int32.toUInt32 31)).toInt32 &&& 1431655765)) : Int32).toUInt32 >>> ((2 : Int32).toUInt32 &&& Int32.toUInt32 31)).toInt32 &&& 858993459)) : Int32).toUInt32 >>> ((4 : Int32).toUInt32 &&& Int32.toUInt32 31)).toInt32) &&& 252645135) : Int32).toUInt32 >>> ((8 : Int32).toUInt32 &&& Int32.toUInt32 31)).toInt32) + ((((((((x1 - (((x1 : Int32).toUInt32 >>> ((1 : Int32).toUInt32 &&& Int32.toUInt32 31)).toInt32 &&& 1431655765)) &&& 858993459) + ((((x1 - (((x1 : Int32).toUInt32 >>> ((1 : Int32).toUInt32 &&& Int32.toUInt32 31)).toInt32 &&& 1431655765)) : Int32).toUInt32 >>> ((2 : Int32).toUInt32 &&& Int32.toUInt32 31)).toInt32 &&& 858993459)) + (((((x1 - (((x1 : Int32).toUInt32 >>> ((1 : Int32).toUInt32 &&& Int32.toUInt32 31)).toInt32 &&& 1431655765)) &&& 858993459) + ((((x1 - (((x1 : Int32).toUInt32 >>> ((1 : Int32).toUInt32 &&& Int32.toUInt32 31)).toInt32 &&& 1431655765)) : Int32).toUInt32 >>> ((2 : Int32).toUInt32 &&& Int32.toUInt32 31)).toInt32 &&& 858993459)) : Int32).toUInt32 >>> ((4 : Int32).toUInt32 &&& Int32.toUInt32 31)).toInt32) &&& 252645135) + (((((((x1 - (((x1 : Int32).toUInt32 >>> ((1 : Int32).toUInt32 &&& Int32.toUInt32 31)).toInt32 &&& 1431655765)) &&& 858993459) + ((((x1 - (((x1 : Int32).toUInt32 >>> ((1 : Int32).toUInt32 &&& Int32.toUInt32 31)).toInt32 &&& 1431655765)) : Int32).toUInt32 >>> ((2 : Int32).toUInt32 &&& Int32.toUInt32 31)).toInt32 &&& 858993459)) + (((((x1 - (((x1 : Int32).toUInt32 >>> ((1 : Int32).toUInt32 &&& Int32.toUInt32 31)).toInt32 &&& 1431655765)) &&& 858993459) + ((((x1 - (((x1 : Int32).toUInt32 >>> ((1 : Int32).toUInt32 &&& Int32.toUInt32 31)).toInt32 &&& 1431655765)) : Int32).toUInt32 >>> ((2 : Int32).toUInt32 &&& Int32.toUInt32 31)).toInt32 &&& 858993459)) : Int32).toUInt32 >>> ((4 : Int32).toUInt32 &&& Int32.toUInt32 31)).toInt32) &&& 252645135) : Int32).toUInt32 >>> ((8 : Int32).toUInt32 &&& Int32.toUInt32 31)).toInt32) : Int32).toUInt32 >>> ((16 : Int32).toUInt32 &&& Int32.toUInt32 31)).toInt32) &&& 63)
theorem c_J6_bitCount_0f7a4 {G : ev_G} {d : Nat} {g : ev_H} {x1 : Int32} : ev_Cp G d mJ6_bitCount_0f7a4 [.int x1] g (some (.int (sp_J6_bitCount_0f7a4 x1))) := by
  refine ev_start (lv0 := [some (.int x1)]) (by decide +kernel) rfl (Nat.le_of_ble_eq_true rfl) rfl ?_
  refine ev_iload_n dJ6_bitCount_0f7a4_0 rfl rfl ?_
  refine ev_iload_n dJ6_bitCount_0f7a4_1 rfl rfl ?_
  refine ev_iconst (v := 1) dJ6_bitCount_0f7a4_2 (by decide) ?_
  refine ev_iushr dJ6_bitCount_0f7a4_3 ?_
  refine ev_ldcw dJ6_bitCount_0f7a4_4 nJ6_265 ?_
  refine ev_iand dJ6_bitCount_0f7a4_7 ?_
  refine ev_isub dJ6_bitCount_0f7a4_8 ?_
  refine ev_istore_n dJ6_bitCount_0f7a4_9 rfl (Nat.le_of_ble_eq_true rfl) rfl ?_
  refine ev_iload_n dJ6_bitCount_0f7a4_10 rfl rfl ?_
  refine ev_ldcw dJ6_bitCount_0f7a4_11 nJ6_266 ?_
  refine ev_iand dJ6_bitCount_0f7a4_14 ?_
  refine ev_iload_n dJ6_bitCount_0f7a4_15 rfl rfl ?_
  refine ev_iconst (v := 2) dJ6_bitCount_0f7a4_16 (by decide) ?_
  refine ev_iushr dJ6_bitCount_0f7a4_17 ?_
  refine ev_ldcw dJ6_bitCount_0f7a4_18 nJ6_266 ?_
  refine ev_iand dJ6_bitCount_0f7a4_21 ?_
  refine ev_iadd dJ6_bitCount_0f7a4_22 ?_
  refine ev_istore_n dJ6_bitCount_0f7a4_23 rfl (Nat.le_of_ble_eq_true rfl) rfl ?_
  refine ev_iload_n dJ6_bitCount_0f7a4_24 rfl rfl ?_
  refine ev_iload_n dJ6_bitCount_0f7a4_25 rfl rfl ?_
  refine ev_iconst (v := 4) dJ6_bitCount_0f7a4_26 (by decide) ?_
  refine ev_iushr dJ6_bitCount_0f7a4_27 ?_
  refine ev_iadd dJ6_bitCount_0f7a4_28 ?_
  refine ev_ldcw dJ6_bitCount_0f7a4_29 nJ6_267 ?_
  refine ev_iand dJ6_bitCount_0f7a4_32 ?_
  refine ev_istore_n dJ6_bitCount_0f7a4_33 rfl (Nat.le_of_ble_eq_true rfl) rfl ?_
  refine ev_iload_n dJ6_bitCount_0f7a4_34 rfl rfl ?_
  refine ev_iload_n dJ6_bitCount_0f7a4_35 rfl rfl ?_
  refine ev_bipush (v := 8) dJ6_bitCount_0f7a4_36 (by decide) ?_
  refine ev_iushr dJ6_bitCount_0f7a4_38 ?_
  refine ev_iadd dJ6_bitCount_0f7a4_39 ?_
  refine ev_istore_n dJ6_bitCount_0f7a4_40 rfl (Nat.le_of_ble_eq_true rfl) rfl ?_
  refine ev_iload_n dJ6_bitCount_0f7a4_41 rfl rfl ?_
  refine ev_iload_n dJ6_bitCount_0f7a4_42 rfl rfl ?_
  refine ev_bipush (v := 16) dJ6_bitCount_0f7a4_43 (by decide) ?_
  refine ev_iushr dJ6_bitCount_0f7a4_45 ?_
  refine ev_iadd dJ6_bitCount_0f7a4_46 ?_
  refine ev_istore_n dJ6_bitCount_0f7a4_47 rfl (Nat.le_of_ble_eq_true rfl) rfl ?_
  refine ev_iload_n dJ6_bitCount_0f7a4_48 rfl rfl ?_
  refine ev_bipush (v := 63) dJ6_bitCount_0f7a4_49 (by decide) ?_
  refine ev_iand dJ6_bitCount_0f7a4_51 ?_
  have e9 : sp_J6_bitCount_0f7a4 x1 = ((((((((x1 - (((x1 : Int32).toUInt32 >>> ((1 : Int32).toUInt32 &&& Int32.toUInt32 31)).toInt32 &&& 1431655765)) &&& 858993459) + ((((x1 - (((x1 : Int32).toUInt32 >>> ((1 : Int32).toUInt32 &&& Int32.toUInt32 31)).toInt32 &&& 1431655765)) : Int32).toUInt32 >>> ((2 : Int32).toUInt32 &&& Int32.toUInt32 31)).toInt32 &&& 858993459)) + (((((x1 - (((x1 : Int32).toUInt32 >>> ((1 : Int32).toUInt32 &&& Int32.toUInt32 31)).toInt32 &&& 1431655765)) &&& 858993459) + ((((x1 - (((x1 : Int32).toUInt32 >>> ((1 : Int32).toUInt32 &&& Int32.toUInt32 31)).toInt32 &&& 1431655765)) : Int32).toUInt32 >>> ((2 : Int32).toUInt32 &&& Int32.toUInt32 31)).toInt32 &&& 858993459)) : Int32).toUInt32 >>> ((4 : Int32).toUInt32 &&& Int32.toUInt32 31)).toInt32) &&& 252645135) + (((((((x1 - (((x1 : Int32).toUInt32 >>> ((1 : Int32).toUInt32 &&& Int32.toUInt32 31)).toInt32 &&& 1431655765)) &&& 858993459) + ((((x1 - (((x1 : Int32).toUInt32 >>> ((1 : Int32).toUInt32 &&& Int32.toUInt32 31)).toInt32 &&& 1431655765)) : Int32).toUInt32 >>> ((2 : Int32).toUInt32 &&& Int32.toUInt32 31)).toInt32 &&& 858993459)) + (((((x1 - (((x1 : Int32).toUInt32 >>> ((1 : Int32).toUInt32 &&& Int32.toUInt32 31)).toInt32 &&& 1431655765)) &&& 858993459) + ((((x1 - (((x1 : Int32).toUInt32 >>> ((1 : Int32).toUInt32 &&& Int32.toUInt32 31)).toInt32 &&& 1431655765)) : Int32).toUInt32 >>> ((2 : Int32).toUInt32 &&& Int32.toUInt32 31)).toInt32 &&& 858993459)) : Int32).toUInt32 >>> ((4 : Int32).toUInt32 &&& Int32.toUInt32 31)).toInt32) &&& 252645135) : Int32).toUInt32 >>> ((8 : Int32).toUInt32 &&& Int32.toUInt32 31)).toInt32) + ((((((((x1 - (((x1 : Int32).toUInt32 >>> ((1 : Int32).toUInt32 &&& Int32.toUInt32 31)).toInt32 &&& 1431655765)) &&& 858993459) + ((((x1 - (((x1 : Int32).toUInt32 >>> ((1 : Int32).toUInt32 &&& Int32.toUInt32 31)).toInt32 &&& 1431655765)) : Int32).toUInt32 >>> ((2 : Int32).toUInt32 &&& Int32.toUInt32 31)).toInt32 &&& 858993459)) + (((((x1 - (((x1 : Int32).toUInt32 >>> ((1 : Int32).toUInt32 &&& Int32.toUInt32 31)).toInt32 &&& 1431655765)) &&& 858993459) + ((((x1 - (((x1 : Int32).toUInt32 >>> ((1 : Int32).toUInt32 &&& Int32.toUInt32 31)).toInt32 &&& 1431655765)) : Int32).toUInt32 >>> ((2 : Int32).toUInt32 &&& Int32.toUInt32 31)).toInt32 &&& 858993459)) : Int32).toUInt32 >>> ((4 : Int32).toUInt32 &&& Int32.toUInt32 31)).toInt32) &&& 252645135) + (((((((x1 - (((x1 : Int32).toUInt32 >>> ((1 : Int32).toUInt32 &&& Int32.toUInt32 31)).toInt32 &&& 1431655765)) &&& 858993459) + ((((x1 - (((x1 : Int32).toUInt32 >>> ((1 : Int32).toUInt32 &&& Int32.toUInt32 31)).toInt32 &&& 1431655765)) : Int32).toUInt32 >>> ((2 : Int32).toUInt32 &&& Int32.toUInt32 31)).toInt32 &&& 858993459)) + (((((x1 - (((x1 : Int32).toUInt32 >>> ((1 : Int32).toUInt32 &&& Int32.toUInt32 31)).toInt32 &&& 1431655765)) &&& 858993459) + ((((x1 - (((x1 : Int32).toUInt32 >>> ((1 : Int32).toUInt32 &&& Int32.toUInt32 31)).toInt32 &&& 1431655765)) : Int32).toUInt32 >>> ((2 : Int32).toUInt32 &&& Int32.toUInt32 31)).toInt32 &&& 858993459)) : Int32).toUInt32 >>> ((4 : Int32).toUInt32 &&& Int32.toUInt32 31)).toInt32) &&& 252645135) : Int32).toUInt32 >>> ((8 : Int32).toUInt32 &&& Int32.toUInt32 31)).toInt32) : Int32).toUInt32 >>> ((16 : Int32).toUInt32 &&& Int32.toUInt32 31)).toInt32) &&& 63) := by unfold sp_J6_bitCount_0f7a4; rfl
  exact ev_iret dJ6_bitCount_0f7a4_52 rfl rfl ⟨by rw [e9], rfl⟩
section MM
variable {G : ev_G} {d bc bs : Nat} {M : ev_M} {Post : ev_P} {g : ev_H} {pc : Nat} {lv : List (Option Value)} {st : List Value}
def cj_max (x y : Int32) : Int32 := if x < y then y else x
def cj_min (x y : Int32) : Int32 := if y < x then y else x
def cj_abs (x : Int32) : Int32 := if 0 ≤ x then x else 0 - x
theorem ev_mmax {index : Nat} {x y : Int32} (hd : decode M.2.1 pc = .ok (.invokestatic index, 3)) (hl1 : Cond.methodLink M.1.cls index yJ9_max_7cf53 ∈ ev_T) (hr : (st.map fun v => v.category).sum ≤ 8) (hdd : 1 ≤ d) (k : ev_V G d bc bs M Post g (pc + 3) lv (.int (cj_max x y) :: st)) : ev_V G d bc bs M Post g pc lv (.int y :: .int x :: st) := by
  intro p e s m args below meth c H locs cells slots mc ms ls hC hR hS hc hs hl
  have hW := hC.2.2.2.2.2.2.1
  have w1 : Cond.static Lib.Math.max.name ∈ ev_T := ev_in3 102 rfl rfl
  have w2 : Cond.initialized "java/lang/Math" ∈ ev_T := ev_in1 21 rfl rfl
  have w3 : Cond.code Lib.Math.max.name Lib.Math.max.code 2 (some .int) ∈ ev_T := ev_in3 103 rfl rfl
  have w4 : Cond.methodLink M.1.cls index Lib.Math.max.name ∈ ev_T := hl1
  exact va_mmax hC.1 hC.2.1 (hC.2.2.1.trans hl.1.symm) hC.2.2.2.2.2.1 (hW _ w4) (hW _ w1) (hW _ w2) (hW _ w3) (show 1 ≤ d from hdd) (by show _ + 13 ≤ 64 * d; omega) (show cells ≤ mc by omega) (show slots ≤ ms by omega) hd (k p e s m args below meth c H locs cells slots mc ms ls hC hR hS hc hs hl)
theorem ev_mmin {index : Nat} {x y : Int32} (hd : decode M.2.1 pc = .ok (.invokestatic index, 3)) (hl1 : Cond.methodLink M.1.cls index yJ9_min_7cf53 ∈ ev_T) (hr : (st.map fun v => v.category).sum ≤ 8) (hdd : 1 ≤ d) (k : ev_V G d bc bs M Post g (pc + 3) lv (.int (cj_min x y) :: st)) : ev_V G d bc bs M Post g pc lv (.int y :: .int x :: st) := by
  intro p e s m args below meth c H locs cells slots mc ms ls hC hR hS hc hs hl
  have hW := hC.2.2.2.2.2.2.1
  have w1 : Cond.static Lib.Math.min.name ∈ ev_T := ev_in3 139 rfl rfl
  have w2 : Cond.initialized "java/lang/Math" ∈ ev_T := ev_in1 21 rfl rfl
  have w3 : Cond.code Lib.Math.min.name Lib.Math.min.code 2 (some .int) ∈ ev_T := ev_in3 140 rfl rfl
  have w4 : Cond.methodLink M.1.cls index Lib.Math.min.name ∈ ev_T := hl1
  exact va_mmin hC.1 hC.2.1 (hC.2.2.1.trans hl.1.symm) hC.2.2.2.2.2.1 (hW _ w4) (hW _ w1) (hW _ w2) (hW _ w3) (show 1 ≤ d from hdd) (by show _ + 13 ≤ 64 * d; omega) (show cells ≤ mc by omega) (show slots ≤ ms by omega) hd (k p e s m args below meth c H locs cells slots mc ms ls hC hR hS hc hs hl)
theorem ev_mabs {index : Nat} {x : Int32} (hd : decode M.2.1 pc = .ok (.invokestatic index, 3)) (hl1 : Cond.methodLink M.1.cls index yJ9_abs_0f7a4 ∈ ev_T) (hr : (st.map fun v => v.category).sum ≤ 8) (hdd : 1 ≤ d) (k : ev_V G d bc bs M Post g (pc + 3) lv (.int (cj_abs x) :: st)) : ev_V G d bc bs M Post g pc lv (.int x :: st) := by
  intro p e s m args below meth c H locs cells slots mc ms ls hC hR hS hc hs hl
  have hW := hC.2.2.2.2.2.2.1
  have w1 : Cond.static Lib.Math.abs.name ∈ ev_T := ev_in6 89 rfl rfl
  have w2 : Cond.initialized "java/lang/Math" ∈ ev_T := ev_in1 21 rfl rfl
  have w3 : Cond.code Lib.Math.abs.name Lib.Math.abs.code 1 (some .int) ∈ ev_T := ev_in6 90 rfl rfl
  have w4 : Cond.methodLink M.1.cls index Lib.Math.abs.name ∈ ev_T := hl1
  exact va_mabs hC.1 hC.2.1 (hC.2.2.1.trans hl.1.symm) hC.2.2.2.2.2.1 (hW _ w4) (hW _ w1) (hW _ w2) (hW _ w3) (show 1 ≤ d from hdd) (by show _ + 13 ≤ 64 * d; omega) (show cells ≤ mc by omega) (show slots ≤ ms by omega) hd (k p e s m args below meth c H locs cells slots mc ms ls hC hR hS hc hs hl)
end MM
variable {G : ev_G} {d : Nat} {g : ev_H}
theorem c_newLength {a b c : Nat} (hd : 1 ≤ d) (h : a + b + c < 1000000) (h2 : 0 < a + b + c) : ev_Cp G d mJ8_newLength_cabcc [.int (nI a), .int (nI b), .int (nI c)] g (some (.int (nI (a + max b c)))) := by
  have e : nI a + cj_max (nI b) (nI c) = nI (a + max b c) := by
    unfold cj_max
    by_cases q : nI b < nI c
    · have q2 := (nI_ltI (by omega) (by omega)).mp q
      rw [if_pos q, nI_add, Nat.max_eq_right (by omega)]
    · have q2 : ¬ b < c := fun z => q (nI_lt z (by omega))
      rw [if_neg q, nI_add, Nat.max_eq_left (by omega)]
  have hm : a + max b c < 1000000 ∧ 0 < a + max b c := by
    rcases Nat.le_total b c with q | q
    · rw [Nat.max_eq_right q]; omega
    · rw [Nat.max_eq_left q]; omega
  refine ev_start (lv0 := [some (.int (nI a)), some (.int (nI b)), some (.int (nI c)), none]) (by decide +kernel) rfl (Nat.le_of_ble_eq_true rfl) rfl ?_
  refine ev_iload_n dJ8_newLength_cabcc_0 rfl rfl ?_
  refine ev_iload_n dJ8_newLength_cabcc_1 rfl rfl ?_
  refine ev_iload_n dJ8_newLength_cabcc_2 rfl rfl ?_
  refine ev_mmax dJ8_newLength_cabcc_3 lJ8_194 (Nat.le_of_ble_eq_true rfl) (by omega) ?_
  refine ev_iadd dJ8_newLength_cabcc_6 ?_
  rw [e]
  refine ev_istore_n dJ8_newLength_cabcc_7 rfl (Nat.le_of_ble_eq_true rfl) rfl ?_
  refine ev_iconst (v := nI 0) dJ8_newLength_cabcc_8 (by decide) ?_
  refine ev_iload_n dJ8_newLength_cabcc_9 rfl rfl ?_
  refine ev_icmp_ge (tgt := 21) dJ8_newLength_cabcc_10 (by decide) (fun c_10 => ?_) (fun c_10 => ?_)
  · exact absurd ((nI_leI (by omega) (by omega)).mp c_10) (by omega)
  · refine ev_iload_n dJ8_newLength_cabcc_13 rfl rfl ?_
    refine ev_ldc dJ8_newLength_cabcc_14 nJ8_200 ?_
    refine ev_icmp_gt (tgt := 21) dJ8_newLength_cabcc_16 (by decide) (fun c_16 => ?_) (fun c_16 => ?_)
    · exact absurd ((nI_ltI (a := 2147483639) (by omega) (by omega)).mp c_16) (by omega)
    · refine ev_iload_n dJ8_newLength_cabcc_19 rfl rfl ?_
      exact ev_iret dJ8_newLength_cabcc_20 rfl rfl ⟨rfl, rfl⟩
theorem c_checkIndexO {i n : Nat} (hd : 1 ≤ d) (hi : i < n) (hn : n < 2147483648) : ev_Cp G d mJ15_checkIndex_7cf53 [.int (nI i), .int (nI n)] g (some (.int (nI i))) := by
  refine ev_start (lv0 := [some (.int (nI i)), some (.int (nI n))]) (by decide +kernel) rfl (Nat.le_of_ble_eq_true rfl) rfl ?_
  refine ev_iload_n dJ15_checkIndex_7cf53_0 rfl rfl ?_
  refine ev_iload_n dJ15_checkIndex_7cf53_1 rfl rfl ?_
  refine ev_null dJ15_checkIndex_7cf53_2 ?_
  refine ev_pS3 (d' := d - 1) dJ15_checkIndex_7cf53_3 rfl kJ3_checkIndex_8e157 lJ15_105 sJ3_checkIndex_8e157 (Nat.le_of_ble_eq_true rfl) (by omega) (c_checkIndexP (Or.inl rfl) hi hn) ?_
  exact ev_iret dJ15_checkIndex_7cf53_6 rfl rfl ⟨rfl, rfl⟩
theorem ev_up2 (g : ev_H) (a : Nat) (e1 e2 : va_E) : ev_up (ev_up g a e1) a e2 = ev_up g a e2 := by
  funext b
  unfold ev_up
  split <;> rfl
theorem c_fill {a n : Nat} {f : Nat → Int32} {v : Int32} (hE : ev_En G) (hg : g a = some (.inl (G.2.2.2 0, n, .inl f))) (hn : n < 1000000) : ev_C G d 0 0 mJ7_fill_53178 [.ref a, .int v] g (fun o g' => o = .inl none ∧ ∃ f' : Nat → Int32, g' = ev_up g a (.inl (G.2.2.2 0, n, .inl f')) ∧ ∀ j, j < n → f' j = v) := by
  refine ev_start (lv0 := [some (.ref a), some (.int v), none, none]) (by decide +kernel) rfl (Nat.le_of_ble_eq_true rfl) rfl ?_
  refine ev_iconst (v := nI 0) dJ7_fill_53178_0 (by decide) ?_
  refine ev_istore_n dJ7_fill_53178_1 rfl (Nat.le_of_ble_eq_true rfl) rfl ?_
  refine ev_aload_n dJ7_fill_53178_2 rfl rfl ?_
  refine ev_alen (t0 := 0) hE dJ7_fill_53178_3 rfl hg ?_
  refine ev_istore_n dJ7_fill_53178_4 rfl (Nat.le_of_ble_eq_true rfl) rfl ?_
  have H : ∀ (k i : Nat), i ≤ n → n < i + k → ∀ f' : Nat → Int32, (∀ j, j < i → f' j = v) → ∀ g1, g1 a = some (.inl (G.2.2.2 0, n, .inl f')) → ev_up g1 a (.inl (G.2.2.2 0, n, .inl f')) = ev_up g a (.inl (G.2.2.2 0, n, .inl f')) → (g1 = ev_up g a (.inl (G.2.2.2 0, n, .inl f'))) → ev_V G d 0 0 mJ7_fill_53178 (fun o g' => o = .inl none ∧ ∃ f' : Nat → Int32, g' = ev_up g a (.inl (G.2.2.2 0, n, .inl f')) ∧ ∀ j, j < n → f' j = v) g1 5 [some (.ref a), some (.int v), some (.int (nI i)), some (.int (nI n))] [] := by
    intro k
    induction k with
    | zero => intro i h1 h2; exact absurd h2 (by omega)
    | succ k ih =>
      intro i h1 h2 f' hf g1 hg1 _ he
      refine ev_iload_n dJ7_fill_53178_5 rfl rfl ?_
      refine ev_iload_n dJ7_fill_53178_6 rfl rfl ?_
      refine ev_icmp_ge (tgt := 20) dJ7_fill_53178_7 (by decide) (fun c_7 => ?_) (fun c_7 => ?_)
      · have q := (nI_leI (by omega) (by omega)).mp c_7
        exact ev_vret dJ7_fill_53178_20 rfl ⟨rfl, f', he, fun j hj => hf j (by omega)⟩
      · have q : i < n := Nat.lt_of_not_le fun z => c_7 (nI_le z (by omega))
        refine ev_aload_n dJ7_fill_53178_10 rfl rfl ?_
        refine ev_iload_n dJ7_fill_53178_11 rfl rfl ?_
        refine ev_iload_n dJ7_fill_53178_12 rfl rfl ?_
        refine ev_iast hE dJ7_fill_53178_13 hg1 (vp_in_nI q (by omega)) ?_
        rw [nI_clamp (by omega)]
        refine ev_iinc (v := nI (i + 1)) dJ7_fill_53178_14 rfl (nI_1 i) rfl ?_
        refine ev_goto (tgt := 5) dJ7_fill_53178_17 (by decide) ?_
        refine ih (i + 1) (by omega) (by omega) (upd f' i v) (fun j hj => ?_) _ (ev_up_s _ _ _) ?_ ?_
        · unfold upd
          split
          · rfl
          · exact hf j (by omega)
        · rw [ev_up2, he, ev_up2]
        · rw [he, ev_up2]
  have e0 : g = ev_up g a (.inl (G.2.2.2 0, n, .inl f)) := by
    funext b
    unfold ev_up
    split
    · rename_i q; rw [q]; exact hg
    · rfl
  exact H (n + 1) 0 (by omega) (by omega) f (fun j hj => absurd hj (by omega)) g hg rfl e0
theorem c_copyOfI {D0 a n L : Nat} {f : Nat → Int32} (hE : ev_En G) (h4 : ev_En4 G D0) (hd : 1 ≤ d) (hg : g a = some (.inl (G.2.2.2 0, n, .inl f))) (hL : L ≤ n) (hn : n ≤ 1000) : ev_C G d 1 L mJ7_copyOf_59c91 [.ref a, .int (nI L)] g (fun o g' => ∃ (q : Nat) (f' : Nat → Int32), o = .inl (some (.ref q)) ∧ g q = none ∧ g' = ev_up g q (.inl (G.2.2.2 0, L, .inl f')) ∧ ∀ j, j < L → f' j = f j) := by
  refine ev_start (lv0 := [some (.ref a), some (.int (nI L)), none]) (by decide +kernel) rfl (Nat.le_of_ble_eq_true rfl) rfl ?_
  refine ev_iload_n dJ7_copyOf_59c91_0 rfl rfl ?_
  refine ev_aload_n dJ7_copyOf_59c91_1 rfl rfl ?_
  refine ev_alen (t0 := 0) hE dJ7_copyOf_59c91_2 rfl hg ?_
  refine ev_icmp_ne (tgt := 14) dJ7_copyOf_59c91_3 (by decide) (fun c_3 => ?_) (fun c_3 => ?_)
  · refine ev_iload_n dJ7_copyOf_59c91_14 rfl rfl ?_
    refine ev_newa_int (b := 0) (n := 0) (N := L) hE dJ7_copyOf_59c91_15 a_int (nI_pos (by omega)) (nI_clamp (by omega)) (by show L * 4 ≤ _; omega) (by omega) (by omega) (fun q hq => ?_)
    have hqa : a ≠ q := fun z => by rw [← z, hg] at hq; cases hq
    refine ev_astore_n dJ7_copyOf_59c91_17 rfl (Nat.le_of_ble_eq_true rfl) rfl ?_
    refine ev_aload_n dJ7_copyOf_59c91_18 rfl rfl ?_
    refine ev_iconst (v := nI 0) dJ7_copyOf_59c91_19 (by decide) ?_
    refine ev_aload_n dJ7_copyOf_59c91_20 rfl rfl ?_
    refine ev_iconst (v := nI 0) dJ7_copyOf_59c91_21 (by decide) ?_
    refine ev_aload_n dJ7_copyOf_59c91_22 rfl rfl ?_
    refine ev_alen (t0 := 0) hE dJ7_copyOf_59c91_23 rfl (by rw [ev_up_n _ _ hqa]; exact hg) ?_
    refine ev_iload_n dJ7_copyOf_59c91_24 rfl rfl ?_
    refine ev_mmin dJ7_copyOf_59c91_25 lJ7_304 (Nat.le_of_ble_eq_true rfl) (by omega) ?_
    have e : cj_min (nI n) (nI L) = nI L := by
      unfold cj_min
      by_cases q : nI L < nI n
      · rw [if_pos q]
      · have q2 : ¬ L < n := fun z => q (nI_lt z (by omega))
        rw [if_neg q, show n = L by omega]
    rw [e]
    refine ev_copyi hE rfl dJ7_copyOf_59c91_28 (by rw [ev_up_n _ _ hqa]; exact hg) (ev_up_s _ _ _) (nI_pos (by omega)) (nI_pos (by omega)) (nI_pos (by omega)) (by rw [nI_clamp (by omega), nI_clamp (by omega)]; omega) (by rw [nI_clamp (by omega), nI_clamp (by omega)]; omega) (Nat.le_of_ble_eq_true rfl) hd ?_
    refine ev_aload_n dJ7_copyOf_59c91_31 rfl rfl ?_
    refine ev_aret dJ7_copyOf_59c91_32 rfl (Or.inr ⟨_, rfl⟩) (Or.inr ⟨_, rfl⟩) ⟨q, _, rfl, hq, ev_up2 _ _ _ _, fun j hj => ?_⟩
    rw [nI_clamp (by omega), nI_clamp (by omega), pk_cpy_in (Nat.zero_le _) (by omega), Nat.zero_add, Nat.sub_zero]
  · have hLn : L = n := (nI_eq (by omega) (by omega)).mp c_3
    subst hLn
    refine ev_aload_n dJ7_copyOf_59c91_6 rfl rfl ?_
    refine ev_clone (b := 0) (k0 := 0) hE h4 rfl dJ7_copyOf_59c91_7 hg (Nat.le_of_ble_eq_true rfl) hd (by omega) (by omega) (fun q hq => ?_)
    refine ev_castI hE dJ7_copyOf_59c91_10 lkJ7_317 (ev_up_s _ _ _) ?_
    exact ev_aret dJ7_copyOf_59c91_13 rfl (Or.inr ⟨_, rfl⟩) (Or.inr ⟨_, rfl⟩) ⟨q, _, rfl, hq, rfl, fun j hj => rfl⟩
/-- a longer array of references, the same in front -/
theorem c_copyOfC {D0 a n L ci mi : Nat} {f : Nat → Option Nat} {Cn : String} (hE : ev_En G) (h4 : ev_En4 G D0) (hd : 1 ≤ d) (hM : va_Mi "[Ljava/lang/Object;" mi G.2.1) (hg : g a = some (.inl (G.2.2.2 4, n, .inr (.inr (.inr (.inr f)))))) (hci : (vwCl[ci]?).map (fun q => q.1) = some Cn) (hca : Cond.castable Cn "java/lang/Object" ∈ ev_nw) (hel : ∀ i y, f i = some y → ∃ fs, g y = some (.inr (ci, fs))) (hf : ∀ j, n ≤ j → f j = none) (hL : n ≤ L) (hL2 : L ≤ 1000) : ev_C G d 1 L mJ7_copyOf_6403c [.ref a, .int (nI L), .ref mi] g (fun o g' => ∃ (q : Nat) (f' : Nat → Option Nat), o = .inl (some (.ref q)) ∧ g q = none ∧ g' = ev_up g q (.inl (G.2.2.2 4, L, .inr (.inr (.inr (.inr f'))))) ∧ ∀ j, f' j = f j) := by
  refine ev_start (lv0 := [some (.ref a), some (.int (nI L)), some (.ref mi), none]) (by decide +kernel) rfl (Nat.le_of_ble_eq_true rfl) rfl ?_
  refine ev_aload_n dJ7_copyOf_6403c_0 rfl rfl ?_
  refine ev_ldcM hM dJ7_copyOf_6403c_1 lkJ7_110 ?_
  refine ev_acmp_ne (rx := some mi) (ry := some mi) (tgt := 13) dJ7_copyOf_6403c_3 (by decide) (fun c_3 => absurd rfl c_3) (fun c_3 => ?_)
  refine ev_iload_n dJ7_copyOf_6403c_6 rfl rfl ?_
  refine ev_newq (b := 0) (n := 0) (N := L) hE h4 dJ7_copyOf_6403c_7 lkJ7_2 (nI_pos (by omega)) (nI_clamp (by omega)) (by omega) (by omega) (by omega) (fun q hq => ?_)
  have hqa : a ≠ q := fun z => by rw [← z, hg] at hq; cases hq
  refine ev_goto (tgt := 24) dJ7_copyOf_6403c_10 (by decide) ?_
  refine ev_astore_n dJ7_copyOf_6403c_24 rfl (Nat.le_of_ble_eq_true rfl) rfl ?_
  refine ev_aload_n dJ7_copyOf_6403c_25 rfl rfl ?_
  refine ev_iconst (v := nI 0) dJ7_copyOf_6403c_26 (by decide) ?_
  refine ev_aload_n dJ7_copyOf_6403c_27 rfl rfl ?_
  refine ev_iconst (v := nI 0) dJ7_copyOf_6403c_28 (by decide) ?_
  refine ev_aload_n dJ7_copyOf_6403c_29 rfl rfl ?_
  refine ev_alen (t0 := 4) hE dJ7_copyOf_6403c_30 rfl (by rw [ev_up_n _ _ hqa]; exact hg) ?_
  refine ev_iload_n dJ7_copyOf_6403c_31 rfl rfl ?_
  refine ev_mmin dJ7_copyOf_6403c_32 lJ7_304 (Nat.le_of_ble_eq_true rfl) (by omega) ?_
  have e : cj_min (nI n) (nI L) = nI n := by
    unfold cj_min
    rw [if_neg (nI_nlt hL (by omega))]
  rw [e]
  refine ev_copyq hE h4 rfl dJ7_copyOf_6403c_35 (by rw [ev_up_n _ _ hqa]; exact hg) (ev_up_s _ _ _) hci hca (fun i y hy => ?_) (nI_pos (by omega)) (nI_pos (by omega)) (nI_pos (by omega)) (by rw [nI_clamp (by omega), nI_clamp (by omega)]; omega) (by rw [nI_clamp (by omega), nI_clamp (by omega)]; omega) (Nat.le_of_ble_eq_true rfl) hd ?_
  · obtain ⟨fs, h9⟩ := hel i y hy
    exact ⟨fs, by rw [ev_up_n _ _ (fun z => by rw [z, hq] at h9; cases h9)]; exact h9⟩
  refine ev_aload_n dJ7_copyOf_6403c_38 rfl rfl ?_
  refine ev_aret dJ7_copyOf_6403c_39 rfl (Or.inr ⟨_, rfl⟩) (Or.inr ⟨_, rfl⟩) ⟨q, _, rfl, hq, ev_up2 _ _ _ _, fun j => ?_⟩
  rw [nI_clamp (by omega), nI_clamp (by omega)]
  by_cases hj : j < n
  · rw [pk_cpy_in (Nat.zero_le _) (by omega), Nat.zero_add, Nat.sub_zero]
  · rw [pk_cpy_out (by omega), hf j (by omega)]
theorem c_copyOfO {D0 a n L ci : Nat} {f : Nat → Option Nat} {Cn : String} (hE : ev_En G) (h4 : ev_En4 G D0) (hd : 2 ≤ d) (hg : g a = some (.inl (G.2.2.2 4, n, .inr (.inr (.inr (.inr f)))))) (hci : (vwCl[ci]?).map (fun q => q.1) = some Cn) (hca : Cond.castable Cn "java/lang/Object" ∈ ev_nw) (hel : ∀ i y, f i = some y → ∃ fs, g y = some (.inr (ci, fs))) (hf : ∀ j, n ≤ j → f j = none) (hL : n ≤ L) (hL2 : L ≤ 1000) : ev_C G d 1 L mJ7_copyOf_1904c [.ref a, .int (nI L)] g (fun o g' => ∃ (q : Nat) (f' : Nat → Option Nat), o = .inl (some (.ref q)) ∧ g q = none ∧ g' = ev_up g q (.inl (G.2.2.2 4, L, .inr (.inr (.inr (.inr f'))))) ∧ ∀ j, f' j = f j) := by
  obtain ⟨mi, hM⟩ := h4.2.2.2.2.2.2.2.1
  refine ev_start (lv0 := [some (.ref a), some (.int (nI L))]) (by decide +kernel) rfl (Nat.le_of_ble_eq_true rfl) rfl ?_
  refine ev_aload_n dJ7_copyOf_1904c_0 rfl rfl ?_
  refine ev_iload_n dJ7_copyOf_1904c_1 rfl rfl ?_
  refine ev_aload_n dJ7_copyOf_1904c_2 rfl rfl ?_
  refine ev_getC hE h4 rfl hM dJ7_copyOf_1904c_3 hg (Nat.le_of_ble_eq_true rfl) (by omega) ?_
  refine ev_callS (ci := 0) (r := 0) (fs := []) (d' := d - 1) (b := 0) (k0 := 0) (As := [.ref a, .int (nI L), .ref mi]) dJ7_copyOf_1904c_6 rfl kJ7_copyOf_6403c rfl lJ7_300 sJ7_copyOf_6403c (Nat.le_of_ble_eq_true rfl) (by omega) (c_copyOfC hE h4 (by omega) hM hg hci hca hel hf hL hL2) (Nat.le_of_eq (by omega)) (Nat.le_of_eq (by omega)) (fun v g' h => ?_) (fun E g' h => by obtain ⟨q, f', h1, -⟩ := h; cases h1)
  obtain ⟨q, f', h1, h2, h3, h5⟩ := h
  cases h1
  exact ev_aret dJ7_copyOf_1904c_9 rfl (Or.inr ⟨_, rfl⟩) (Or.inr ⟨_, rfl⟩) ⟨q, f', rfl, h2, h3, h5⟩
end CJ
