section EF
/-- the field at this index, for reading alone -/
def ev_Fr (own : String) (idx ci k : Nat) : Prop := ∃ (C : String) (T : u_T) (N : Nat) (ref : String), vwCl[ci]? = some (C, T, N) ∧ k < N ∧ Cond.fieldLink own idx ref (T k).2.1 (T k).2.2.1 ∈ ev_T ∧ (ref = (T k).1 ∨ Cond.sameField ref (T k).1 (T k).2.1 (T k).2.2.1 ∈ ev_T) ∧ (∀ w ∈ u_ws C T N, w ∈ lw_tbl) ∧ (∀ w ∈ u_ws C T N, goodWord w = true)
theorem ev_getf {G : ev_G} {d bc bs : Nat} {M : ev_M} {Post : ev_P} {g : ev_H} {pc : Nat} {lv : List (Option Value)} {st : List Value} {index ci j : Nat} {a : Nat} {fs : List Value} {v : Value} (hE : ev_En G) (hd : decode M.2.1 pc = .ok (.getfield index, 3)) (hF : ev_Fr M.1.cls index ci j) (hg : g a = some (.inr (ci, fs))) (hv : fs[j]? = some v) (k : ev_V G d bc bs M Post g (pc + 3) lv (v :: st)) : ev_V G d bc bs M Post g pc lv (.ref a :: st) := by
  intro p e s m args below meth c H locs cells slots mc ms ls hC hR hS hc hs hl
  obtain ⟨C, T, N, ref, f1, f2, f3, f4, f5, f6⟩ := hF
  obtain ⟨L, f, q, h1, h2, h3, h4, h5, h6⟩ := hR.get hg
  exact va_get (Ts := ev_T) hC.1 hC.2.1 hC.2.2.2.2.2.2.1 (fun w hw => List.mem_filter.mpr ⟨f5 w hw, f6 w hw⟩) hC.2.2.2.2.2.1 (va_K.moved hC.2.2.2.2.2.2.2.1.1 hE.1) h2 q h4 f1 j f2 (hC.2.2.2.2.2.2.1 _ f3) (ev_same f4 hC.2.2.2.2.2.2.1) hv hd (k p e s m args below meth c H locs cells slots mc ms ls hC hR hS hc hs hl)

theorem ggX0 : ∀ w ∈ u_ws RX0 TX0 5, goodWord w = true := by decide +kernel
theorem ggX1 : ∀ w ∈ u_ws RX1 TX1 5, goodWord w = true := by decide +kernel
theorem ggX2 : ∀ w ∈ u_ws RX2 TX2 6, goodWord w = true := by decide +kernel
theorem ggX3 : ∀ w ∈ u_ws RX3 TX3 4, goodWord w = true := by decide +kernel
theorem ggX4 : ∀ w ∈ u_ws RX4 TX4 13, goodWord w = true := by decide +kernel
theorem ggX5 : ∀ w ∈ u_ws RX5 TX5 17, goodWord w = true := by decide +kernel
theorem ggX6 : ∀ w ∈ u_ws RX6 TX6 3, goodWord w = true := by decide +kernel
theorem ggX7 : ∀ w ∈ u_ws RX7 TX7 10, goodWord w = true := by decide +kernel
theorem ggX8 : ∀ w ∈ u_ws RX8 TX8 2, goodWord w = true := by decide +kernel
theorem ggX9 : ∀ w ∈ u_ws RX9 TX9 3, goodWord w = true := by decide +kernel
theorem ggX10 : ∀ w ∈ u_ws RX10 TX10 1, goodWord w = true := by decide +kernel
theorem ggX11 : ∀ w ∈ u_ws RX11 TX11 13, goodWord w = true := by decide +kernel
theorem ggX12 : ∀ w ∈ u_ws RX12 TX12 78, goodWord w = true := by decide +kernel
theorem ggJx4a65c : ∀ w ∈ u_ws RJx4a65c TJx4a65c 3, goodWord w = true := by decide +kernel
theorem ev_inp {q : MethodName × Nat} (i : Nat) (h : lw_privs[i]? = some q) (hg : goodWord (Cond.selects q.1.cls q.1 q.1) = true) : Cond.selects q.1.cls q.1 q.1 ∈ ev_T := List.mem_filter.mpr ⟨List.mem_append_left _ (List.mem_map.mpr ⟨q, List.mem_of_getElem? h, rfl⟩), hg⟩
theorem ev_in1 {w : Cond} (i : Nat) (h0 : tables_1_1[i]? = some w) (hg : goodWord w = true) : w ∈ ev_T := by
  have h : w ∈ tables_1_1 := List.mem_of_getElem? h0
  exact List.mem_filter.mpr ⟨List.mem_append_right _ (List.mem_append_left _ h), hg⟩
theorem ev_in2 {w : Cond} (i : Nat) (h0 : tables_1_2[i]? = some w) (hg : goodWord w = true) : w ∈ ev_T := by
  have h : w ∈ tables_1_2 := List.mem_of_getElem? h0
  exact List.mem_filter.mpr ⟨List.mem_append_right _ (List.mem_append_right _ (List.mem_append_left _ h)), hg⟩
theorem ev_in3 {w : Cond} (i : Nat) (h0 : tables_1_3[i]? = some w) (hg : goodWord w = true) : w ∈ ev_T := by
  have h : w ∈ tables_1_3 := List.mem_of_getElem? h0
  exact List.mem_filter.mpr ⟨List.mem_append_right _ (List.mem_append_right _ (List.mem_append_right _ (List.mem_append_left _ h))), hg⟩
theorem ev_in4 {w : Cond} (i : Nat) (h0 : tables_1_4[i]? = some w) (hg : goodWord w = true) : w ∈ ev_T := by
  have h : w ∈ tables_1_4 := List.mem_of_getElem? h0
  exact List.mem_filter.mpr ⟨List.mem_append_right _ (List.mem_append_right _ (List.mem_append_right _ (List.mem_append_right _ (List.mem_append_left _ h)))), hg⟩
theorem ev_in5 {w : Cond} (i : Nat) (h0 : tables_1_5[i]? = some w) (hg : goodWord w = true) : w ∈ ev_T := by
  have h : w ∈ tables_1_5 := List.mem_of_getElem? h0
  exact List.mem_filter.mpr ⟨List.mem_append_right _ (List.mem_append_right _ (List.mem_append_right _ (List.mem_append_right _ (List.mem_append_right _ (List.mem_append_left _ h))))), hg⟩
theorem ev_in6 {w : Cond} (i : Nat) (h0 : tables_1_6[i]? = some w) (hg : goodWord w = true) : w ∈ ev_T := by
  have h : w ∈ tables_1_6 := List.mem_of_getElem? h0
  exact List.mem_filter.mpr ⟨List.mem_append_right _ (List.mem_append_right _ (List.mem_append_right _ (List.mem_append_right _ (List.mem_append_right _ (List.mem_append_right _ (List.mem_append_left _ h)))))), hg⟩
theorem ev_in7 {w : Cond} (i : Nat) (h0 : tables_1_7[i]? = some w) (hg : goodWord w = true) : w ∈ ev_T := by
  have h : w ∈ tables_1_7 := List.mem_of_getElem? h0
  exact List.mem_filter.mpr ⟨List.mem_append_right _ (List.mem_append_right _ (List.mem_append_right _ (List.mem_append_right _ (List.mem_append_right _ (List.mem_append_right _ (List.mem_append_right _ (List.mem_append_left _ h))))))), hg⟩
theorem ev_in8 {w : Cond} (i : Nat) (h0 : tables_1_8[i]? = some w) (hg : goodWord w = true) : w ∈ ev_T := by
  have h : w ∈ tables_1_8 := List.mem_of_getElem? h0
  exact List.mem_filter.mpr ⟨List.mem_append_right _ (List.mem_append_right _ (List.mem_append_right _ (List.mem_append_right _ (List.mem_append_right _ (List.mem_append_right _ (List.mem_append_right _ (List.mem_append_right _ (List.mem_append_left _ h)))))))), hg⟩
theorem ev_in9 {w : Cond} (i : Nat) (h0 : tables_1_9[i]? = some w) (hg : goodWord w = true) : w ∈ ev_T := by
  have h : w ∈ tables_1_9 := List.mem_of_getElem? h0
  exact List.mem_filter.mpr ⟨List.mem_append_right _ (List.mem_append_right _ (List.mem_append_right _ (List.mem_append_right _ (List.mem_append_right _ (List.mem_append_right _ (List.mem_append_right _ (List.mem_append_right _ (List.mem_append_right _ (h))))))))), hg⟩
def mJ0_charAt_5068e : ev_M := (yJ0_charAt_5068e, cJ0_charAt_5068e, 2, (some FieldType.char), [])
theorem kJ0_charAt_5068e : ev_K mJ0_charAt_5068e 1 := ⟨ev_in4 80 rfl rfl, ev_in1 28 rfl rfl, by decide +kernel, by decide +kernel, by decide +kernel, by decide⟩
theorem iJ0_charAt_5068e : Cond.instanceMethod yJ0_charAt_5068e ∈ ev_T := ev_in4 78 rfl rfl
theorem vJ0_charAt_5068e : Cond.selects yJ0_charAt_5068e.cls yJ0_charAt_5068e yJ0_charAt_5068e ∈ ev_T := ev_in4 79 rfl rfl
def mJ0_checkIndex_df160 : ev_M := (yJ0_checkIndex_df160, cJ0_checkIndex_df160, 2, none, [])
theorem kJ0_checkIndex_df160 : ev_K mJ0_checkIndex_df160 2 := ⟨ev_in4 90 rfl rfl, ev_in1 28 rfl rfl, by decide +kernel, by decide +kernel, by decide +kernel, by decide⟩
theorem sJ0_checkIndex_df160 : Cond.static yJ0_checkIndex_df160 ∈ ev_T := ev_in4 89 rfl rfl
def mJ0_coder_7d493 : ev_M := (yJ0_coder_7d493, cJ0_coder_7d493, 1, (some FieldType.byte), [])
theorem kJ0_coder_7d493 : ev_K mJ0_coder_7d493 0 := ⟨ev_in4 74 rfl rfl, ev_in1 28 rfl rfl, by decide +kernel, by decide +kernel, by decide +kernel, by decide⟩
theorem iJ0_coder_7d493 : Cond.instanceMethod yJ0_coder_7d493 ∈ ev_T := ev_in4 72 rfl rfl
theorem vJ0_coder_7d493 : Cond.selects yJ0_coder_7d493.cls yJ0_coder_7d493 yJ0_coder_7d493 ∈ ev_T := ev_in4 73 rfl rfl
def mJ0_isLatin1_aae02 : ev_M := (yJ0_isLatin1_aae02, cJ0_isLatin1_aae02, 1, (some FieldType.boolean), [])
theorem kJ0_isLatin1_aae02 : ev_K mJ0_isLatin1_aae02 0 := ⟨ev_in4 84 rfl rfl, ev_in1 28 rfl rfl, by decide +kernel, by decide +kernel, by decide +kernel, by decide⟩
theorem iJ0_isLatin1_aae02 : Cond.instanceMethod yJ0_isLatin1_aae02 ∈ ev_T := ev_in4 82 rfl rfl
theorem vJ0_isLatin1_aae02 : Cond.selects yJ0_isLatin1_aae02.cls yJ0_isLatin1_aae02 yJ0_isLatin1_aae02 ∈ ev_T := ev_in4 83 rfl rfl
def mJ0_length_8abf5 : ev_M := (yJ0_length_8abf5, cJ0_length_8abf5, 1, (some FieldType.int), [])
theorem kJ0_length_8abf5 : ev_K mJ0_length_8abf5 0 := ⟨ev_in4 70 rfl rfl, ev_in1 28 rfl rfl, by decide +kernel, by decide +kernel, by decide +kernel, by decide⟩
theorem iJ0_length_8abf5 : Cond.instanceMethod yJ0_length_8abf5 ∈ ev_T := ev_in4 68 rfl rfl
theorem vJ0_length_8abf5 : Cond.selects yJ0_length_8abf5.cls yJ0_length_8abf5 yJ0_length_8abf5 ∈ ev_T := ev_in4 69 rfl rfl
def mJ15_checkIndex_7cf53 : ev_M := (yJ15_checkIndex_7cf53, cJ15_checkIndex_7cf53, 2, (some FieldType.int), [])
theorem kJ15_checkIndex_7cf53 : ev_K mJ15_checkIndex_7cf53 2 := ⟨ev_in2 79 rfl rfl, ev_in1 25 rfl rfl, by decide +kernel, by decide +kernel, by decide +kernel, by decide⟩
theorem sJ15_checkIndex_7cf53 : Cond.static yJ15_checkIndex_7cf53 ∈ ev_T := ev_in2 78 rfl rfl
def mJ1_charAt_3b067 : ev_M := (yJ1_charAt_3b067, cJ1_charAt_3b067, 2, (some FieldType.char), [])
theorem kJ1_charAt_3b067 : ev_K mJ1_charAt_3b067 2 := ⟨ev_in4 87 rfl rfl, ev_in1 29 rfl rfl, by decide +kernel, by decide +kernel, by decide +kernel, by decide⟩
theorem sJ1_charAt_3b067 : Cond.static yJ1_charAt_3b067 ∈ ev_T := ev_in4 86 rfl rfl
def mJ2_charAt_3b067 : ev_M := (yJ2_charAt_3b067, cJ2_charAt_3b067, 2, (some FieldType.char), [])
theorem kJ2_charAt_3b067 : ev_K mJ2_charAt_3b067 2 := ⟨ev_in4 96 rfl rfl, ev_in1 30 rfl rfl, by decide +kernel, by decide +kernel, by decide +kernel, by decide⟩
theorem sJ2_charAt_3b067 : Cond.static yJ2_charAt_3b067 ∈ ev_T := ev_in4 95 rfl rfl
def mJ2_checkIndex_2214a : ev_M := (yJ2_checkIndex_2214a, cJ2_checkIndex_2214a, 2, none, [])
theorem kJ2_checkIndex_2214a : ev_K mJ2_checkIndex_2214a 2 := ⟨ev_in4 99 rfl rfl, ev_in1 30 rfl rfl, by decide +kernel, by decide +kernel, by decide +kernel, by decide⟩
theorem sJ2_checkIndex_2214a : Cond.static yJ2_checkIndex_2214a ∈ ev_T := ev_in4 98 rfl rfl
def mJ2_getChar_3b067 : ev_M := (yJ2_getChar_3b067, cJ2_getChar_3b067, 2, (some FieldType.char), [])
theorem kJ2_getChar_3b067 : ev_K mJ2_getChar_3b067 2 := ⟨ev_in4 106 rfl rfl, ev_in1 30 rfl rfl, by decide +kernel, by decide +kernel, by decide +kernel, by decide⟩
theorem sJ2_getChar_3b067 : Cond.static yJ2_getChar_3b067 ∈ ev_T := ev_in4 105 rfl rfl
def mJ2_length_9d52b : ev_M := (yJ2_length_9d52b, cJ2_length_9d52b, 1, (some FieldType.int), [])
theorem kJ2_length_9d52b : ev_K mJ2_length_9d52b 1 := ⟨ev_in4 102 rfl rfl, ev_in1 30 rfl rfl, by decide +kernel, by decide +kernel, by decide +kernel, by decide⟩
theorem sJ2_length_9d52b : Cond.static yJ2_length_9d52b ∈ ev_T := ev_in4 101 rfl rfl
def mJ3_checkIndex_8e157 : ev_M := (yJ3_checkIndex_8e157, cJ3_checkIndex_8e157, 3, (some FieldType.int), [])
theorem kJ3_checkIndex_8e157 : ev_K mJ3_checkIndex_8e157 3 := ⟨ev_in2 82 rfl rfl, ev_in1 26 rfl rfl, by decide +kernel, by decide +kernel, by decide +kernel, by decide⟩
theorem sJ3_checkIndex_8e157 : Cond.static yJ3_checkIndex_8e157 ∈ ev_T := ev_in2 81 rfl rfl
def mJ6_bitCount_0f7a4 : ev_M := (yJ6_bitCount_0f7a4, cJ6_bitCount_0f7a4, 1, (some FieldType.int), [])
theorem kJ6_bitCount_0f7a4 : ev_K mJ6_bitCount_0f7a4 1 := ⟨ev_in5 145 rfl rfl, ev_in1 31 rfl rfl, by decide +kernel, by decide +kernel, by decide +kernel, by decide⟩
theorem sJ6_bitCount_0f7a4 : Cond.static yJ6_bitCount_0f7a4 ∈ ev_T := ev_in5 144 rfl rfl
def mJ7_copyOf_1904c : ev_M := (yJ7_copyOf_1904c, cJ7_copyOf_1904c, 2, (some (FieldType.array (FieldType.object "java/lang/Object"))), [])
theorem kJ7_copyOf_1904c : ev_K mJ7_copyOf_1904c 2 := ⟨ev_in3 110 rfl rfl, ev_in1 22 rfl rfl, by decide +kernel, by decide +kernel, by decide +kernel, by decide⟩
theorem sJ7_copyOf_1904c : Cond.static yJ7_copyOf_1904c ∈ ev_T := ev_in3 109 rfl rfl
def mJ7_copyOf_59c91 : ev_M := (yJ7_copyOf_59c91, cJ7_copyOf_59c91, 3, (some (FieldType.array FieldType.int)), [])
theorem kJ7_copyOf_59c91 : ev_K mJ7_copyOf_59c91 2 := ⟨ev_in4 177 rfl rfl, ev_in1 22 rfl rfl, by decide +kernel, by decide +kernel, by decide +kernel, by decide⟩
theorem sJ7_copyOf_59c91 : Cond.static yJ7_copyOf_59c91 ∈ ev_T := ev_in4 176 rfl rfl
def mJ7_copyOf_6403c : ev_M := (yJ7_copyOf_6403c, cJ7_copyOf_6403c, 4, (some (FieldType.array (FieldType.object "java/lang/Object"))), [])
theorem kJ7_copyOf_6403c : ev_K mJ7_copyOf_6403c 3 := ⟨ev_in3 134 rfl rfl, ev_in1 22 rfl rfl, by decide +kernel, by decide +kernel, by decide +kernel, by decide⟩
theorem sJ7_copyOf_6403c : Cond.static yJ7_copyOf_6403c ∈ ev_T := ev_in3 133 rfl rfl
def mJ7_fill_53178 : ev_M := (yJ7_fill_53178, cJ7_fill_53178, 4, none, [])
theorem kJ7_fill_53178 : ev_K mJ7_fill_53178 2 := ⟨ev_in5 42 rfl rfl, ev_in1 22 rfl rfl, by decide +kernel, by decide +kernel, by decide +kernel, by decide⟩
theorem sJ7_fill_53178 : Cond.static yJ7_fill_53178 ∈ ev_T := ev_in5 41 rfl rfl
def mJ8_hugeLength_7cf53 : ev_M := (yJ8_hugeLength_7cf53, cJ8_hugeLength_7cf53, 3, (some FieldType.int), [])
theorem kJ8_hugeLength_7cf53 : ev_K mJ8_hugeLength_7cf53 2 := ⟨ev_in3 107 rfl rfl, ev_in1 20 rfl rfl, by decide +kernel, by decide +kernel, by decide +kernel, by decide⟩
theorem sJ8_hugeLength_7cf53 : Cond.static yJ8_hugeLength_7cf53 ∈ ev_T := ev_in3 106 rfl rfl
def mJ8_newLength_cabcc : ev_M := (yJ8_newLength_cabcc, cJ8_newLength_cabcc, 4, (some FieldType.int), [])
theorem kJ8_newLength_cabcc : ev_K mJ8_newLength_cabcc 3 := ⟨ev_in3 100 rfl rfl, ev_in1 20 rfl rfl, by decide +kernel, by decide +kernel, by decide +kernel, by decide⟩
theorem sJ8_newLength_cabcc : Cond.static yJ8_newLength_cabcc ∈ ev_T := ev_in3 99 rfl rfl
def mJ9_abs_0f7a4 : ev_M := (yJ9_abs_0f7a4, cJ9_abs_0f7a4, 1, (some FieldType.int), [])
theorem kJ9_abs_0f7a4 : ev_K mJ9_abs_0f7a4 1 := ⟨ev_in6 90 rfl rfl, ev_in1 21 rfl rfl, by decide +kernel, by decide +kernel, by decide +kernel, by decide⟩
theorem sJ9_abs_0f7a4 : Cond.static yJ9_abs_0f7a4 ∈ ev_T := ev_in6 89 rfl rfl
def mJ9_max_7cf53 : ev_M := (yJ9_max_7cf53, cJ9_max_7cf53, 2, (some FieldType.int), [])
theorem kJ9_max_7cf53 : ev_K mJ9_max_7cf53 2 := ⟨ev_in3 103 rfl rfl, ev_in1 21 rfl rfl, by decide +kernel, by decide +kernel, by decide +kernel, by decide⟩
theorem sJ9_max_7cf53 : Cond.static yJ9_max_7cf53 ∈ ev_T := ev_in3 102 rfl rfl
def mJ9_min_7cf53 : ev_M := (yJ9_min_7cf53, cJ9_min_7cf53, 2, (some FieldType.int), [])
theorem kJ9_min_7cf53 : ev_K mJ9_min_7cf53 2 := ⟨ev_in3 140 rfl rfl, ev_in1 21 rfl rfl, by decide +kernel, by decide +kernel, by decide +kernel, by decide⟩
theorem sJ9_min_7cf53 : Cond.static yJ9_min_7cf53 ∈ ev_T := ev_in3 139 rfl rfl
def mJx4a65c_add_72be8 : ev_M := (yJx4a65c_add_72be8, cJx4a65c_add_72be8, 4, none, [])
theorem kJx4a65c_add_72be8 : ev_K mJx4a65c_add_72be8 3 := ⟨ev_in3 89 rfl rfl, ev_in1 4 rfl rfl, by decide +kernel, by decide +kernel, by decide +kernel, by decide⟩
theorem iJx4a65c_add_72be8 : Cond.instanceMethod yJx4a65c_add_72be8 ∈ ev_T := ev_in3 88 rfl rfl
theorem vJx4a65c_add_72be8 : Cond.selects yJx4a65c_add_72be8.cls yJx4a65c_add_72be8 yJx4a65c_add_72be8 ∈ ev_T := ev_inp (q := (yJx4a65c_add_72be8, 3)) 4 (by decide +kernel) (by decide +kernel)
def mJx4a65c_add_9ea2d : ev_M := (yJx4a65c_add_9ea2d, cJx4a65c_add_9ea2d, 2, (some FieldType.boolean), [])
theorem kJx4a65c_add_9ea2d : ev_K mJx4a65c_add_9ea2d 1 := ⟨ev_in3 85 rfl rfl, ev_in1 4 rfl rfl, by decide +kernel, by decide +kernel, by decide +kernel, by decide⟩
theorem iJx4a65c_add_9ea2d : Cond.instanceMethod yJx4a65c_add_9ea2d ∈ ev_T := ev_in3 83 rfl rfl
theorem vJx4a65c_add_9ea2d : Cond.selects yJx4a65c_add_9ea2d.cls yJx4a65c_add_9ea2d yJx4a65c_add_9ea2d ∈ ev_T := ev_in3 84 rfl rfl
def mJx4a65c_elementData_915e3 : ev_M := (yJx4a65c_elementData_915e3, cJx4a65c_elementData_915e3, 2, (some (FieldType.object "java/lang/Object")), [])
theorem kJx4a65c_elementData_915e3 : ev_K mJx4a65c_elementData_915e3 1 := ⟨ev_in2 86 rfl rfl, ev_in1 4 rfl rfl, by decide +kernel, by decide +kernel, by decide +kernel, by decide⟩
theorem iJx4a65c_elementData_915e3 : Cond.instanceMethod yJx4a65c_elementData_915e3 ∈ ev_T := ev_in2 84 rfl rfl
theorem vJx4a65c_elementData_915e3 : Cond.selects yJx4a65c_elementData_915e3.cls yJx4a65c_elementData_915e3 yJx4a65c_elementData_915e3 ∈ ev_T := ev_in2 85 rfl rfl
def mJx4a65c_get_915e3 : ev_M := (yJx4a65c_get_915e3, cJx4a65c_get_915e3, 2, (some (FieldType.object "java/lang/Object")), [])
theorem kJx4a65c_get_915e3 : ev_K mJx4a65c_get_915e3 1 := ⟨ev_in2 76 rfl rfl, ev_in1 4 rfl rfl, by decide +kernel, by decide +kernel, by decide +kernel, by decide⟩
theorem iJx4a65c_get_915e3 : Cond.instanceMethod yJx4a65c_get_915e3 ∈ ev_T := ev_in2 74 rfl rfl
theorem vJx4a65c_get_915e3 : Cond.selects yJx4a65c_get_915e3.cls yJx4a65c_get_915e3 yJx4a65c_get_915e3 ∈ ev_T := ev_in2 75 rfl rfl
def mJx4a65c_grow_92f84 : ev_M := (yJx4a65c_grow_92f84, cJx4a65c_grow_92f84, 4, (some (FieldType.array (FieldType.object "java/lang/Object"))), [])
theorem kJx4a65c_grow_92f84 : ev_K mJx4a65c_grow_92f84 1 := ⟨ev_in3 97 rfl rfl, ev_in1 4 rfl rfl, by decide +kernel, by decide +kernel, by decide +kernel, by decide⟩
theorem iJx4a65c_grow_92f84 : Cond.instanceMethod yJx4a65c_grow_92f84 ∈ ev_T := ev_in3 96 rfl rfl
theorem vJx4a65c_grow_92f84 : Cond.selects yJx4a65c_grow_92f84.cls yJx4a65c_grow_92f84 yJx4a65c_grow_92f84 ∈ ev_T := ev_inp (q := (yJx4a65c_grow_92f84, 3)) 6 (by decide +kernel) (by decide +kernel)
def mJx4a65c_grow_d5877 : ev_M := (yJx4a65c_grow_d5877, cJx4a65c_grow_d5877, 1, (some (FieldType.array (FieldType.object "java/lang/Object"))), [])
theorem kJx4a65c_grow_d5877 : ev_K mJx4a65c_grow_d5877 0 := ⟨ev_in3 93 rfl rfl, ev_in1 4 rfl rfl, by decide +kernel, by decide +kernel, by decide +kernel, by decide⟩
theorem iJx4a65c_grow_d5877 : Cond.instanceMethod yJx4a65c_grow_d5877 ∈ ev_T := ev_in3 92 rfl rfl
theorem vJx4a65c_grow_d5877 : Cond.selects yJx4a65c_grow_d5877.cls yJx4a65c_grow_d5877 yJx4a65c_grow_d5877 ∈ ev_T := ev_inp (q := (yJx4a65c_grow_d5877, 3)) 5 (by decide +kernel) (by decide +kernel)
def mJx4a65c_init_da8c8 : ev_M := (yJx4a65c_init_da8c8, cJx4a65c_init_da8c8, 1, none, [])
theorem kJx4a65c_init_da8c8 : ev_K mJx4a65c_init_da8c8 0 := ⟨ev_in1 45 rfl rfl, ev_in1 4 rfl rfl, by decide +kernel, by decide +kernel, by decide +kernel, by decide⟩
theorem iJx4a65c_init_da8c8 : Cond.instanceMethod yJx4a65c_init_da8c8 ∈ ev_T := ev_in1 44 rfl rfl
def mJx4a65c_size_8abf5 : ev_M := (yJx4a65c_size_8abf5, cJx4a65c_size_8abf5, 1, (some FieldType.int), [])
theorem kJx4a65c_size_8abf5 : ev_K mJx4a65c_size_8abf5 0 := ⟨ev_in2 68 rfl rfl, ev_in1 4 rfl rfl, by decide +kernel, by decide +kernel, by decide +kernel, by decide⟩
theorem iJx4a65c_size_8abf5 : Cond.instanceMethod yJx4a65c_size_8abf5 ∈ ev_T := ev_in2 66 rfl rfl
theorem vJx4a65c_size_8abf5 : Cond.selects yJx4a65c_size_8abf5.cls yJx4a65c_size_8abf5 yJx4a65c_size_8abf5 ∈ ev_T := ev_in2 67 rfl rfl
def mJxa1e45_init_da8c8 : ev_M := (yJxa1e45_init_da8c8, cJxa1e45_init_da8c8, 1, none, [])
theorem kJxa1e45_init_da8c8 : ev_K mJxa1e45_init_da8c8 0 := ⟨ev_in1 51 rfl rfl, ev_in1 2 rfl rfl, by decide +kernel, by decide +kernel, by decide +kernel, by decide⟩
theorem iJxa1e45_init_da8c8 : Cond.instanceMethod yJxa1e45_init_da8c8 ∈ ev_T := ev_in1 50 rfl rfl
def mJxc12de_init_da8c8 : ev_M := (yJxc12de_init_da8c8, cJxc12de_init_da8c8, 1, none, [])
theorem kJxc12de_init_da8c8 : ev_K mJxc12de_init_da8c8 0 := ⟨ev_in1 48 rfl rfl, ev_in1 3 rfl rfl, by decide +kernel, by decide +kernel, by decide +kernel, by decide⟩
theorem iJxc12de_init_da8c8 : Cond.instanceMethod yJxc12de_init_da8c8 ∈ ev_T := ev_in1 47 rfl rfl
def mL_alike : ev_M := (yL_alike, cL_alike, 4, (some FieldType.int), [((0 : Nat), (9 : Nat), (12 : Nat), (21 : Nat))])
theorem kL_alike : ev_K mL_alike 3 := ⟨ev_in6 74 rfl rfl, ev_in1 0 rfl rfl, by decide +kernel, by decide +kernel, by decide +kernel, by decide⟩
theorem sL_alike : Cond.static yL_alike ∈ ev_T := ev_in6 73 rfl rfl
def mL_apart : ev_M := (yL_apart, cL_apart, 5, (some FieldType.int), [((0 : Nat), (10 : Nat), (13 : Nat), (21 : Nat))])
theorem kL_apart : ev_K mL_apart 4 := ⟨ev_in6 97 rfl rfl, ev_in1 0 rfl rfl, by decide +kernel, by decide +kernel, by decide +kernel, by decide⟩
theorem sL_apart : Cond.static yL_apart ∈ ev_T := ev_in6 96 rfl rfl
def mL_appeal : ev_M := (yL_appeal, cL_appeal, 5, (some FieldType.int), [((0 : Nat), (10 : Nat), (13 : Nat), (21 : Nat)), ((0 : Nat), (10 : Nat), (17 : Nat), (13 : Nat))])
theorem kL_appeal : ev_K mL_appeal 4 := ⟨ev_in6 43 rfl rfl, ev_in1 0 rfl rfl, by decide +kernel, by decide +kernel, by decide +kernel, by decide⟩
theorem sL_appeal : Cond.static yL_appeal ∈ ev_T := ev_in6 42 rfl rfl
def mL_best : ev_M := (yL_best, cL_best, 5, (some FieldType.int), [((0 : Nat), (10 : Nat), (13 : Nat), (21 : Nat)), ((0 : Nat), (10 : Nat), (17 : Nat), (13 : Nat))])
theorem kL_best : ev_K mL_best 4 := ⟨ev_in6 111 rfl rfl, ev_in1 0 rfl rfl, by decide +kernel, by decide +kernel, by decide +kernel, by decide⟩
theorem sL_best : Cond.static yL_best ∈ ev_T := ev_in6 110 rfl rfl
def mL_bid : ev_M := (yL_bid, cL_bid, 6, (some FieldType.int), [((0 : Nat), (12 : Nat), (15 : Nat), (21 : Nat)), ((0 : Nat), (12 : Nat), (19 : Nat), (13 : Nat))])
theorem kL_bid : ev_K mL_bid 5 := ⟨ev_in5 16 rfl rfl, ev_in1 0 rfl rfl, by decide +kernel, by decide +kernel, by decide +kernel, by decide⟩
theorem sL_bid : Cond.static yL_bid ∈ ev_T := ev_in5 15 rfl rfl
def mL_borne : ev_M := (yL_borne, cL_borne, 5, (some FieldType.int), [((0 : Nat), (10 : Nat), (13 : Nat), (21 : Nat)), ((0 : Nat), (10 : Nat), (17 : Nat), (13 : Nat))])
theorem kL_borne : ev_K mL_borne 4 := ⟨ev_in6 10 rfl rfl, ev_in1 0 rfl rfl, by decide +kernel, by decide +kernel, by decide +kernel, by decide⟩
theorem sL_borne : Cond.static yL_borne ∈ ev_T := ev_in6 9 rfl rfl
def mL_breach : ev_M := (yL_breach, cL_breach, 5, (some FieldType.int), [((0 : Nat), (10 : Nat), (13 : Nat), (21 : Nat)), ((0 : Nat), (10 : Nat), (17 : Nat), (13 : Nat))])
theorem kL_breach : ev_K mL_breach 4 := ⟨ev_in5 228 rfl rfl, ev_in1 0 rfl rfl, by decide +kernel, by decide +kernel, by decide +kernel, by decide⟩
theorem sL_breach : Cond.static yL_breach ∈ ev_T := ev_in5 227 rfl rfl
def mL_correct : ev_M := (yL_correct, cL_correct, 6, (some FieldType.int), [((0 : Nat), (12 : Nat), (15 : Nat), (21 : Nat)), ((0 : Nat), (12 : Nat), (19 : Nat), (13 : Nat))])
theorem kL_correct : ev_K mL_correct 5 := ⟨ev_in6 139 rfl rfl, ev_in1 0 rfl rfl, by decide +kernel, by decide +kernel, by decide +kernel, by decide⟩
theorem sL_correct : Cond.static yL_correct ∈ ev_T := ev_in6 138 rfl rfl
def mL_demand : ev_M := (yL_demand, cL_demand, 5, (some FieldType.int), [((0 : Nat), (10 : Nat), (13 : Nat), (21 : Nat)), ((0 : Nat), (10 : Nat), (17 : Nat), (13 : Nat))])
theorem kL_demand : ev_K mL_demand 4 := ⟨ev_in4 17 rfl rfl, ev_in1 0 rfl rfl, by decide +kernel, by decide +kernel, by decide +kernel, by decide⟩
theorem sL_demand : Cond.static yL_demand ∈ ev_T := ev_in4 16 rfl rfl
def mL_find : ev_M := (yL_find, cL_find, 4, (some FieldType.int), [((0 : Nat), (9 : Nat), (12 : Nat), (21 : Nat))])
theorem kL_find : ev_K mL_find 3 := ⟨ev_in3 235 rfl rfl, ev_in1 0 rfl rfl, by decide +kernel, by decide +kernel, by decide +kernel, by decide⟩
theorem sL_find : Cond.static yL_find ∈ ev_T := ev_in3 234 rfl rfl
def mL_force : ev_M := (yL_force, cL_force, 4, (some FieldType.int), [((0 : Nat), (9 : Nat), (12 : Nat), (13 : Nat))])
theorem kL_force : ev_K mL_force 3 := ⟨ev_in4 202 rfl rfl, ev_in1 0 rfl rfl, by decide +kernel, by decide +kernel, by decide +kernel, by decide⟩
theorem sL_force : Cond.static yL_force ∈ ev_T := ev_in4 201 rfl rfl
def mL_gain : ev_M := (yL_gain, cL_gain, 5, (some FieldType.int), [((0 : Nat), (10 : Nat), (13 : Nat), (21 : Nat))])
theorem kL_gain : ev_K mL_gain 4 := ⟨ev_in5 219 rfl rfl, ev_in1 0 rfl rfl, by decide +kernel, by decide +kernel, by decide +kernel, by decide⟩
theorem sL_gain : Cond.static yL_gain ∈ ev_T := ev_in5 218 rfl rfl
def mL_grant : ev_M := (yL_grant, cL_grant, 5, (some FieldType.int), [((0 : Nat), (10 : Nat), (13 : Nat), (21 : Nat)), ((0 : Nat), (10 : Nat), (17 : Nat), (13 : Nat))])
theorem kL_grant : ev_K mL_grant 4 := ⟨ev_in6 104 rfl rfl, ev_in1 0 rfl rfl, by decide +kernel, by decide +kernel, by decide +kernel, by decide⟩
theorem sL_grant : Cond.static yL_grant ∈ ev_T := ev_in6 103 rfl rfl
def mL_loyal : ev_M := (yL_loyal, cL_loyal, 6, (some FieldType.int), [((0 : Nat), (12 : Nat), (15 : Nat), (21 : Nat)), ((0 : Nat), (12 : Nat), (19 : Nat), (13 : Nat))])
theorem kL_loyal : ev_K mL_loyal 5 := ⟨ev_in4 9 rfl rfl, ev_in1 0 rfl rfl, by decide +kernel, by decide +kernel, by decide +kernel, by decide⟩
theorem sL_loyal : Cond.static yL_loyal ∈ ev_T := ev_in4 8 rfl rfl
def mL_merge : ev_M := (yL_merge, cL_merge, 5, (some FieldType.int), [((0 : Nat), (10 : Nat), (13 : Nat), (21 : Nat))])
theorem kL_merge : ev_K mL_merge 4 := ⟨ev_in5 198 rfl rfl, ev_in1 0 rfl rfl, by decide +kernel, by decide +kernel, by decide +kernel, by decide⟩
theorem sL_merge : Cond.static yL_merge ∈ ev_T := ev_in5 197 rfl rfl
def mL_months : ev_M := (yL_months, cL_months, 4, (some FieldType.int), [((0 : Nat), (9 : Nat), (12 : Nat), (13 : Nat)), ((0 : Nat), (9 : Nat), (15 : Nat), (15 : Nat))])
theorem kL_months : ev_K mL_months 3 := ⟨ev_in5 81 rfl rfl, ev_in1 0 rfl rfl, by decide +kernel, by decide +kernel, by decide +kernel, by decide⟩
theorem sL_months : Cond.static yL_months ∈ ev_T := ev_in5 80 rfl rfl
def mL_netted : ev_M := (yL_netted, cL_netted, 5, (some FieldType.int), [((0 : Nat), (10 : Nat), (13 : Nat), (21 : Nat))])
theorem kL_netted : ev_K mL_netted 4 := ⟨ev_in5 187 rfl rfl, ev_in1 0 rfl rfl, by decide +kernel, by decide +kernel, by decide +kernel, by decide⟩
theorem sL_netted : Cond.static yL_netted ∈ ev_T := ev_in5 186 rfl rfl
def mL_order : ev_M := (yL_order, cL_order, 5, (some FieldType.int), [((0 : Nat), (10 : Nat), (13 : Nat), (13 : Nat))])
theorem kL_order : ev_K mL_order 4 := ⟨ev_in4 28 rfl rfl, ev_in1 0 rfl rfl, by decide +kernel, by decide +kernel, by decide +kernel, by decide⟩
theorem sL_order : Cond.static yL_order ∈ ev_T := ev_in4 27 rfl rfl
def mL_paper : ev_M := (yL_paper, cL_paper, 8, (some FieldType.int), [((0 : Nat), (16 : Nat), (19 : Nat), (13 : Nat)), ((0 : Nat), (16 : Nat), (23 : Nat), (15 : Nat))])
theorem kL_paper : ev_K mL_paper 7 := ⟨ev_in2 99 rfl rfl, ev_in1 0 rfl rfl, by decide +kernel, by decide +kernel, by decide +kernel, by decide⟩
theorem sL_paper : Cond.static yL_paper ∈ ev_T := ev_in2 98 rfl rfl
def mL_parted : ev_M := (yL_parted, cL_parted, 5, (some FieldType.int), [((0 : Nat), (10 : Nat), (13 : Nat), (21 : Nat)), ((0 : Nat), (10 : Nat), (17 : Nat), (13 : Nat))])
theorem kL_parted : ev_K mL_parted 4 := ⟨ev_in5 27 rfl rfl, ev_in1 0 rfl rfl, by decide +kernel, by decide +kernel, by decide +kernel, by decide⟩
theorem sL_parted : Cond.static yL_parted ∈ ev_T := ev_in5 26 rfl rfl
def mL_reel : ev_M := (yL_reel, cL_reel, 5, (some FieldType.int), [((0 : Nat), (10 : Nat), (13 : Nat), (13 : Nat))])
theorem kL_reel : ev_K mL_reel 4 := ⟨ev_in3 194 rfl rfl, ev_in1 0 rfl rfl, by decide +kernel, by decide +kernel, by decide +kernel, by decide⟩
theorem sL_reel : Cond.static yL_reel ∈ ev_T := ev_in3 193 rfl rfl
def mL_row : ev_M := (yL_row, cL_row, 7, (some FieldType.int), [((0 : Nat), (14 : Nat), (17 : Nat), (21 : Nat)), ((0 : Nat), (14 : Nat), (21 : Nat), (13 : Nat))])
theorem kL_row : ev_K mL_row 6 := ⟨ev_in6 158 rfl rfl, ev_in1 0 rfl rfl, by decide +kernel, by decide +kernel, by decide +kernel, by decide⟩
theorem sL_row : Cond.static yL_row ∈ ev_T := ev_in6 157 rfl rfl
def mL_set : ev_M := (yL_set, cL_set, 6, (some FieldType.int), [((0 : Nat), (12 : Nat), (15 : Nat), (21 : Nat)), ((0 : Nat), (12 : Nat), (19 : Nat), (13 : Nat))])
theorem kL_set : ev_K mL_set 5 := ⟨ev_in3 148 rfl rfl, ev_in1 0 rfl rfl, by decide +kernel, by decide +kernel, by decide +kernel, by decide⟩
theorem sL_set : Cond.static yL_set ∈ ev_T := ev_in3 147 rfl rfl
def mL_source : ev_M := (yL_source, cL_source, 6, (some FieldType.int), [((0 : Nat), (12 : Nat), (15 : Nat), (21 : Nat)), ((0 : Nat), (12 : Nat), (19 : Nat), (13 : Nat))])
theorem kL_source : ev_K mL_source 5 := ⟨ev_in5 239 rfl rfl, ev_in1 0 rfl rfl, by decide +kernel, by decide +kernel, by decide +kernel, by decide⟩
theorem sL_source : Cond.static yL_source ∈ ev_T := ev_in5 238 rfl rfl
def mL_steal : ev_M := (yL_steal, cL_steal, 4, (some FieldType.int), [((0 : Nat), (9 : Nat), (12 : Nat), (21 : Nat))])
theorem kL_steal : ev_K mL_steal 3 := ⟨ev_in3 227 rfl rfl, ev_in1 0 rfl rfl, by decide +kernel, by decide +kernel, by decide +kernel, by decide⟩
theorem sL_steal : Cond.static yL_steal ∈ ev_T := ev_in3 226 rfl rfl
def mL_swap : ev_M := (yL_swap, cL_swap, 6, (some FieldType.int), [((0 : Nat), (12 : Nat), (15 : Nat), (21 : Nat)), ((0 : Nat), (12 : Nat), (19 : Nat), (13 : Nat))])
theorem kL_swap : ev_K mL_swap 5 := ⟨ev_in5 168 rfl rfl, ev_in1 0 rfl rfl, by decide +kernel, by decide +kernel, by decide +kernel, by decide⟩
theorem sL_swap : Cond.static yL_swap ∈ ev_T := ev_in5 167 rfl rfl
def mL_tells : ev_M := (yL_tells, cL_tells, 5, (some FieldType.int), [((0 : Nat), (10 : Nat), (13 : Nat), (21 : Nat)), ((0 : Nat), (10 : Nat), (17 : Nat), (13 : Nat))])
theorem kL_tells : ev_K mL_tells 4 := ⟨ev_in4 213 rfl rfl, ev_in1 0 rfl rfl, by decide +kernel, by decide +kernel, by decide +kernel, by decide⟩
theorem sL_tells : Cond.static yL_tells ∈ ev_T := ev_in4 212 rfl rfl
def mL_told : ev_M := (yL_told, cL_told, 5, (some FieldType.int), [((0 : Nat), (10 : Nat), (13 : Nat), (21 : Nat)), ((0 : Nat), (10 : Nat), (17 : Nat), (13 : Nat))])
theorem kL_told : ev_K mL_told 4 := ⟨ev_in3 183 rfl rfl, ev_in1 0 rfl rfl, by decide +kernel, by decide +kernel, by decide +kernel, by decide⟩
theorem sL_told : Cond.static yL_told ∈ ev_T := ev_in3 182 rfl rfl
def mL_ward : ev_M := (yL_ward, cL_ward, 4, (some FieldType.int), [((0 : Nat), (9 : Nat), (12 : Nat), (13 : Nat))])
theorem kL_ward : ev_K mL_ward 3 := ⟨ev_in4 2 rfl rfl, ev_in1 0 rfl rfl, by decide +kernel, by decide +kernel, by decide +kernel, by decide⟩
theorem sL_ward : Cond.static yL_ward ∈ ev_T := ev_in4 1 rfl rfl
def mL_where : ev_M := (yL_where, cL_where, 4, (some FieldType.int), [((0 : Nat), (9 : Nat), (12 : Nat), (21 : Nat))])
theorem kL_where : ev_K mL_where 3 := ⟨ev_in3 215 rfl rfl, ev_in1 0 rfl rfl, by decide +kernel, by decide +kernel, by decide +kernel, by decide⟩
theorem sL_where : Cond.static yL_where ∈ ev_T := ev_in3 214 rfl rfl
def mX0_farFrom : ev_M := (yX0_farFrom, cX0_farFrom, 3, (some FieldType.int), [])
theorem kX0_farFrom : ev_K mX0_farFrom 1 := ⟨ev_in6 87 rfl rfl, ev_in1 32 rfl rfl, by decide +kernel, by decide +kernel, by decide +kernel, by decide⟩
theorem iX0_farFrom : Cond.instanceMethod yX0_farFrom ∈ ev_T := ev_in6 85 rfl rfl
theorem vX0_farFrom : Cond.selects yX0_farFrom.cls yX0_farFrom yX0_farFrom ∈ ev_T := ev_in6 86 rfl rfl
def mX0_init : ev_M := (yX0_init, cX0_init, 3, none, [])
theorem kX0_init : ev_K mX0_init 2 := ⟨ev_in6 51 rfl rfl, ev_in1 32 rfl rfl, by decide +kernel, by decide +kernel, by decide +kernel, by decide⟩
theorem iX0_init : Cond.instanceMethod yX0_init ∈ ev_T := ev_in6 50 rfl rfl
def mX0_isGranted : ev_M := (yX0_isGranted, cX0_isGranted, 1, (some FieldType.boolean), [])
theorem kX0_isGranted : ev_K mX0_isGranted 0 := ⟨ev_in6 94 rfl rfl, ev_in1 32 rfl rfl, by decide +kernel, by decide +kernel, by decide +kernel, by decide⟩
theorem iX0_isGranted : Cond.instanceMethod yX0_isGranted ∈ ev_T := ev_in6 92 rfl rfl
theorem vX0_isGranted : Cond.selects yX0_isGranted.cls yX0_isGranted yX0_isGranted ∈ ev_T := ev_in6 93 rfl rfl
def mX10_compared : ev_M := (yX10_compared, cX10_compared, 3, (some FieldType.boolean), [])
theorem kX10_compared : ev_K mX10_compared 3 := ⟨ev_in5 0 rfl rfl, ev_in1 7 rfl rfl, by decide +kernel, by decide +kernel, by decide +kernel, by decide⟩
theorem sX10_compared : Cond.static yX10_compared ∈ ev_T := ev_in4 239 rfl rfl
def mX10_init : ev_M := (yX10_init, cX10_init, 1, none, [])
theorem kX10_init : ev_K mX10_init 0 := ⟨ev_in1 179 rfl rfl, ev_in1 7 rfl rfl, by decide +kernel, by decide +kernel, by decide +kernel, by decide⟩
theorem iX10_init : Cond.instanceMethod yX10_init ∈ ev_T := ev_in1 178 rfl rfl
def mX10_joined : ev_M := (yX10_joined, cX10_joined, 3, (some FieldType.int), [])
theorem kX10_joined : ev_K mX10_joined 3 := ⟨ev_in4 235 rfl rfl, ev_in1 7 rfl rfl, by decide +kernel, by decide +kernel, by decide +kernel, by decide⟩
theorem sX10_joined : Cond.static yX10_joined ∈ ev_T := ev_in4 234 rfl rfl
def mX10_named : ev_M := (yX10_named, cX10_named, 4, (some FieldType.int), [])
theorem kX10_named : ev_K mX10_named 4 := ⟨ev_in4 232 rfl rfl, ev_in1 7 rfl rfl, by decide +kernel, by decide +kernel, by decide +kernel, by decide⟩
theorem sX10_named : Cond.static yX10_named ∈ ev_T := ev_in4 231 rfl rfl
def mX10_of : ev_M := (yX10_of, cX10_of, 9, (some FieldType.int), [])
theorem kX10_of : ev_K mX10_of 4 := ⟨ev_in4 229 rfl rfl, ev_in1 7 rfl rfl, by decide +kernel, by decide +kernel, by decide +kernel, by decide⟩
theorem iX10_of : Cond.instanceMethod yX10_of ∈ ev_T := ev_in4 227 rfl rfl
theorem vX10_of : Cond.selects yX10_of.cls yX10_of yX10_of ∈ ev_T := ev_in4 228 rfl rfl
def mX11_admit : ev_M := (yX11_admit, cX11_admit, 5, none, [])
theorem kX11_admit : ev_K mX11_admit 1 := ⟨ev_in5 99 rfl rfl, ev_in1 1 rfl rfl, by decide +kernel, by decide +kernel, by decide +kernel, by decide⟩
theorem iX11_admit : Cond.instanceMethod yX11_admit ∈ ev_T := ev_in5 98 rfl rfl
theorem vX11_admit : Cond.selects yX11_admit.cls yX11_admit yX11_admit ∈ ev_T := ev_inp (q := (yX11_admit, 13)) 41 (by decide +kernel) (by decide +kernel)
def mX11_alike : ev_M := (yX11_alike, cX11_alike, 8, (some FieldType.int), [])
theorem kX11_alike : ev_K mX11_alike 1 := ⟨ev_in6 78 rfl rfl, ev_in1 1 rfl rfl, by decide +kernel, by decide +kernel, by decide +kernel, by decide⟩
theorem iX11_alike : Cond.instanceMethod yX11_alike ∈ ev_T := ev_in6 76 rfl rfl
theorem vX11_alike : Cond.selects yX11_alike.cls yX11_alike yX11_alike ∈ ev_T := ev_in6 77 rfl rfl
def mX11_apart : ev_M := (yX11_apart, cX11_apart, 5, (some FieldType.int), [])
theorem kX11_apart : ev_K mX11_apart 2 := ⟨ev_in6 101 rfl rfl, ev_in1 1 rfl rfl, by decide +kernel, by decide +kernel, by decide +kernel, by decide⟩
theorem iX11_apart : Cond.instanceMethod yX11_apart ∈ ev_T := ev_in6 99 rfl rfl
theorem vX11_apart : Cond.selects yX11_apart.cls yX11_apart yX11_apart ∈ ev_T := ev_in6 100 rfl rfl
def mX11_appeal : ev_M := (yX11_appeal, cX11_appeal, 4, (some FieldType.int), [])
theorem kX11_appeal : ev_K mX11_appeal 2 := ⟨ev_in6 47 rfl rfl, ev_in1 1 rfl rfl, by decide +kernel, by decide +kernel, by decide +kernel, by decide⟩
theorem iX11_appeal : Cond.instanceMethod yX11_appeal ∈ ev_T := ev_in6 45 rfl rfl
theorem vX11_appeal : Cond.selects yX11_appeal.cls yX11_appeal yX11_appeal ∈ ev_T := ev_in6 46 rfl rfl
def mX11_appealAt : ev_M := (yX11_appealAt, cX11_appealAt, 2, (some (FieldType.object "PaperBoard$Appeal")), [])
theorem kX11_appealAt : ev_K mX11_appealAt 1 := ⟨ev_in6 82 rfl rfl, ev_in1 1 rfl rfl, by decide +kernel, by decide +kernel, by decide +kernel, by decide⟩
theorem iX11_appealAt : Cond.instanceMethod yX11_appealAt ∈ ev_T := ev_in6 81 rfl rfl
theorem vX11_appealAt : Cond.selects yX11_appealAt.cls yX11_appealAt yX11_appealAt ∈ ev_T := ev_inp (q := (yX11_appealAt, 13)) 57 (by decide +kernel) (by decide +kernel)
def mX11_areTwoAdmitted : ev_M := (yX11_areTwoAdmitted, cX11_areTwoAdmitted, 3, (some FieldType.boolean), [])
theorem kX11_areTwoAdmitted : ev_K mX11_areTwoAdmitted 2 := ⟨ev_in5 176 rfl rfl, ev_in1 1 rfl rfl, by decide +kernel, by decide +kernel, by decide +kernel, by decide⟩
theorem iX11_areTwoAdmitted : Cond.instanceMethod yX11_areTwoAdmitted ∈ ev_T := ev_in5 175 rfl rfl
theorem vX11_areTwoAdmitted : Cond.selects yX11_areTwoAdmitted.cls yX11_areTwoAdmitted yX11_areTwoAdmitted ∈ ev_T := ev_inp (q := (yX11_areTwoAdmitted, 13)) 49 (by decide +kernel) (by decide +kernel)
def mX11_best : ev_M := (yX11_best, cX11_best, 4, (some FieldType.int), [])
theorem kX11_best : ev_K mX11_best 2 := ⟨ev_in6 115 rfl rfl, ev_in1 1 rfl rfl, by decide +kernel, by decide +kernel, by decide +kernel, by decide⟩
theorem iX11_best : Cond.instanceMethod yX11_best ∈ ev_T := ev_in6 113 rfl rfl
theorem vX11_best : Cond.selects yX11_best.cls yX11_best yX11_best ∈ ev_T := ev_in6 114 rfl rfl
def mX11_bid : ev_M := (yX11_bid, cX11_bid, 5, (some FieldType.int), [])
theorem kX11_bid : ev_K mX11_bid 3 := ⟨ev_in5 20 rfl rfl, ev_in1 1 rfl rfl, by decide +kernel, by decide +kernel, by decide +kernel, by decide⟩
theorem iX11_bid : Cond.instanceMethod yX11_bid ∈ ev_T := ev_in5 18 rfl rfl
theorem vX11_bid : Cond.selects yX11_bid.cls yX11_bid yX11_bid ∈ ev_T := ev_in5 19 rfl rfl
def mX11_borne : ev_M := (yX11_borne, cX11_borne, 4, (some FieldType.int), [])
theorem kX11_borne : ev_K mX11_borne 2 := ⟨ev_in6 14 rfl rfl, ev_in1 1 rfl rfl, by decide +kernel, by decide +kernel, by decide +kernel, by decide⟩
theorem iX11_borne : Cond.instanceMethod yX11_borne ∈ ev_T := ev_in6 12 rfl rfl
theorem vX11_borne : Cond.selects yX11_borne.cls yX11_borne yX11_borne ∈ ev_T := ev_in6 13 rfl rfl
def mX11_bounded : ev_M := (yX11_bounded, cX11_bounded, 3, (some FieldType.int), [])
theorem kX11_bounded : ev_K mX11_bounded 3 := ⟨ev_in5 4 rfl rfl, ev_in1 1 rfl rfl, by decide +kernel, by decide +kernel, by decide +kernel, by decide⟩
theorem sX11_bounded : Cond.static yX11_bounded ∈ ev_T := ev_in5 3 rfl rfl
def mX11_breach : ev_M := (yX11_breach, cX11_breach, 4, (some FieldType.int), [])
theorem kX11_breach : ev_K mX11_breach 2 := ⟨ev_in5 232 rfl rfl, ev_in1 1 rfl rfl, by decide +kernel, by decide +kernel, by decide +kernel, by decide⟩
theorem iX11_breach : Cond.instanceMethod yX11_breach ∈ ev_T := ev_in5 230 rfl rfl
theorem vX11_breach : Cond.selects yX11_breach.cls yX11_breach yX11_breach ∈ ev_T := ev_in5 231 rfl rfl
def mX11_correct : ev_M := (yX11_correct, cX11_correct, 4, (some FieldType.int), [])
theorem kX11_correct : ev_K mX11_correct 3 := ⟨ev_in6 143 rfl rfl, ev_in1 1 rfl rfl, by decide +kernel, by decide +kernel, by decide +kernel, by decide⟩
theorem iX11_correct : Cond.instanceMethod yX11_correct ∈ ev_T := ev_in6 141 rfl rfl
theorem vX11_correct : Cond.selects yX11_correct.cls yX11_correct yX11_correct ∈ ev_T := ev_in6 142 rfl rfl
def mX11_count : ev_M := (yX11_count, cX11_count, 2, (some FieldType.int), [])
theorem kX11_count : ev_K mX11_count 1 := ⟨ev_in2 64 rfl rfl, ev_in1 1 rfl rfl, by decide +kernel, by decide +kernel, by decide +kernel, by decide⟩
theorem iX11_count : Cond.instanceMethod yX11_count ∈ ev_T := ev_in2 62 rfl rfl
theorem vX11_count : Cond.selects yX11_count.cls yX11_count yX11_count ∈ ev_T := ev_in2 63 rfl rfl
def mX11_creditShares : ev_M := (yX11_creditShares, cX11_creditShares, 5, none, [])
theorem kX11_creditShares : ev_K mX11_creditShares 1 := ⟨ev_in5 103 rfl rfl, ev_in1 1 rfl rfl, by decide +kernel, by decide +kernel, by decide +kernel, by decide⟩
theorem iX11_creditShares : Cond.instanceMethod yX11_creditShares ∈ ev_T := ev_in5 102 rfl rfl
theorem vX11_creditShares : Cond.selects yX11_creditShares.cls yX11_creditShares yX11_creditShares ∈ ev_T := ev_inp (q := (yX11_creditShares, 13)) 42 (by decide +kernel) (by decide +kernel)
def mX11_demand : ev_M := (yX11_demand, cX11_demand, 4, (some FieldType.int), [])
theorem kX11_demand : ev_K mX11_demand 2 := ⟨ev_in4 21 rfl rfl, ev_in1 1 rfl rfl, by decide +kernel, by decide +kernel, by decide +kernel, by decide⟩
theorem iX11_demand : Cond.instanceMethod yX11_demand ∈ ev_T := ev_in4 19 rfl rfl
theorem vX11_demand : Cond.selects yX11_demand.cls yX11_demand yX11_demand ∈ ev_T := ev_in4 20 rfl rfl
def mX11_demandOf : ev_M := (yX11_demandOf, cX11_demandOf, 5, (some FieldType.int), [])
theorem kX11_demandOf : ev_K mX11_demandOf 2 := ⟨ev_in4 25 rfl rfl, ev_in1 1 rfl rfl, by decide +kernel, by decide +kernel, by decide +kernel, by decide⟩
theorem iX11_demandOf : Cond.instanceMethod yX11_demandOf ∈ ev_T := ev_in4 24 rfl rfl
theorem vX11_demandOf : Cond.selects yX11_demandOf.cls yX11_demandOf yX11_demandOf ∈ ev_T := ev_inp (q := (yX11_demandOf, 13)) 9 (by decide +kernel) (by decide +kernel)
def mX11_fault : ev_M := (yX11_fault, cX11_fault, 1, (some FieldType.int), [])
theorem kX11_fault : ev_K mX11_fault 0 := ⟨ev_in2 60 rfl rfl, ev_in1 1 rfl rfl, by decide +kernel, by decide +kernel, by decide +kernel, by decide⟩
theorem iX11_fault : Cond.instanceMethod yX11_fault ∈ ev_T := ev_in2 58 rfl rfl
theorem vX11_fault : Cond.selects yX11_fault.cls yX11_fault yX11_fault ∈ ev_T := ev_in2 59 rfl rfl
def mX11_feed : ev_M := (yX11_feed, cX11_feed, 6, (some FieldType.int), [])
theorem kX11_feed : ev_K mX11_feed 5 := ⟨ev_in2 52 rfl rfl, ev_in1 1 rfl rfl, by decide +kernel, by decide +kernel, by decide +kernel, by decide⟩
theorem iX11_feed : Cond.instanceMethod yX11_feed ∈ ev_T := ev_in2 50 rfl rfl
theorem vX11_feed : Cond.selects yX11_feed.cls yX11_feed yX11_feed ∈ ev_T := ev_in2 51 rfl rfl
def mX11_find : ev_M := (yX11_find, cX11_find, 3, (some FieldType.int), [])
theorem kX11_find : ev_K mX11_find 1 := ⟨ev_in3 239 rfl rfl, ev_in1 1 rfl rfl, by decide +kernel, by decide +kernel, by decide +kernel, by decide⟩
theorem iX11_find : Cond.instanceMethod yX11_find ∈ ev_T := ev_in3 237 rfl rfl
theorem vX11_find : Cond.selects yX11_find.cls yX11_find yX11_find ∈ ev_T := ev_in3 238 rfl rfl
def mX11_findBest : ev_M := (yX11_findBest, cX11_findBest, 8, none, [])
theorem kX11_findBest : ev_K mX11_findBest 2 := ⟨ev_in6 119 rfl rfl, ev_in1 1 rfl rfl, by decide +kernel, by decide +kernel, by decide +kernel, by decide⟩
theorem iX11_findBest : Cond.instanceMethod yX11_findBest ∈ ev_T := ev_in6 118 rfl rfl
theorem vX11_findBest : Cond.selects yX11_findBest.cls yX11_findBest yX11_findBest ∈ ev_T := ev_inp (q := (yX11_findBest, 13)) 58 (by decide +kernel) (by decide +kernel)
def mX11_force : ev_M := (yX11_force, cX11_force, 2, (some FieldType.int), [])
theorem kX11_force : ev_K mX11_force 1 := ⟨ev_in4 206 rfl rfl, ev_in1 1 rfl rfl, by decide +kernel, by decide +kernel, by decide +kernel, by decide⟩
theorem iX11_force : Cond.instanceMethod yX11_force ∈ ev_T := ev_in4 204 rfl rfl
theorem vX11_force : Cond.selects yX11_force.cls yX11_force yX11_force ∈ ev_T := ev_in4 205 rfl rfl
def mX11_gain : ev_M := (yX11_gain, cX11_gain, 10, (some FieldType.int), [])
theorem kX11_gain : ev_K mX11_gain 2 := ⟨ev_in5 223 rfl rfl, ev_in1 1 rfl rfl, by decide +kernel, by decide +kernel, by decide +kernel, by decide⟩
theorem iX11_gain : Cond.instanceMethod yX11_gain ∈ ev_T := ev_in5 221 rfl rfl
theorem vX11_gain : Cond.selects yX11_gain.cls yX11_gain yX11_gain ∈ ev_T := ev_in5 222 rfl rfl
def mX11_giveReels : ev_M := (yX11_giveReels, cX11_giveReels, 5, none, [])
theorem kX11_giveReels : ev_K mX11_giveReels 0 := ⟨ev_in5 107 rfl rfl, ev_in1 1 rfl rfl, by decide +kernel, by decide +kernel, by decide +kernel, by decide⟩
theorem iX11_giveReels : Cond.instanceMethod yX11_giveReels ∈ ev_T := ev_in5 106 rfl rfl
theorem vX11_giveReels : Cond.selects yX11_giveReels.cls yX11_giveReels yX11_giveReels ∈ ev_T := ev_inp (q := (yX11_giveReels, 13)) 43 (by decide +kernel) (by decide +kernel)
def mX11_goBy : ev_M := (yX11_goBy, cX11_goBy, 4, none, [])
theorem kX11_goBy : ev_K mX11_goBy 0 := ⟨ev_in5 90 rfl rfl, ev_in1 1 rfl rfl, by decide +kernel, by decide +kernel, by decide +kernel, by decide⟩
theorem iX11_goBy : Cond.instanceMethod yX11_goBy ∈ ev_T := ev_in5 89 rfl rfl
theorem vX11_goBy : Cond.selects yX11_goBy.cls yX11_goBy yX11_goBy ∈ ev_T := ev_inp (q := (yX11_goBy, 13)) 39 (by decide +kernel) (by decide +kernel)
def mX11_grant : ev_M := (yX11_grant, cX11_grant, 4, (some FieldType.int), [])
theorem kX11_grant : ev_K mX11_grant 2 := ⟨ev_in6 108 rfl rfl, ev_in1 1 rfl rfl, by decide +kernel, by decide +kernel, by decide +kernel, by decide⟩
theorem iX11_grant : Cond.instanceMethod yX11_grant ∈ ev_T := ev_in6 106 rfl rfl
theorem vX11_grant : Cond.selects yX11_grant.cls yX11_grant yX11_grant ∈ ev_T := ev_in6 107 rfl rfl
def mX11_init : ev_M := (yX11_init, cX11_init, 1, none, [])
theorem kX11_init : ev_K mX11_init 0 := ⟨ev_in1 37 rfl rfl, ev_in1 1 rfl rfl, by decide +kernel, by decide +kernel, by decide +kernel, by decide⟩
theorem iX11_init : Cond.instanceMethod yX11_init ∈ ev_T := ev_in1 36 rfl rfl
def mX11_isAdmittedAt : ev_M := (yX11_isAdmittedAt, cX11_isAdmittedAt, 2, (some FieldType.boolean), [])
theorem kX11_isAdmittedAt : ev_K mX11_isAdmittedAt 1 := ⟨ev_in5 180 rfl rfl, ev_in1 1 rfl rfl, by decide +kernel, by decide +kernel, by decide +kernel, by decide⟩
theorem iX11_isAdmittedAt : Cond.instanceMethod yX11_isAdmittedAt ∈ ev_T := ev_in5 179 rfl rfl
theorem vX11_isAdmittedAt : Cond.selects yX11_isAdmittedAt.cls yX11_isAdmittedAt yX11_isAdmittedAt ∈ ev_T := ev_inp (q := (yX11_isAdmittedAt, 13)) 50 (by decide +kernel) (by decide +kernel)
def mX11_kilogramsFor : ev_M := (yX11_kilogramsFor, cX11_kilogramsFor, 2, (some FieldType.int), [])
theorem kX11_kilogramsFor : ev_K mX11_kilogramsFor 2 := ⟨ev_in5 130 rfl rfl, ev_in1 1 rfl rfl, by decide +kernel, by decide +kernel, by decide +kernel, by decide⟩
theorem sX11_kilogramsFor : Cond.static yX11_kilogramsFor ∈ ev_T := ev_in5 129 rfl rfl
def mX11_loyal : ev_M := (yX11_loyal, cX11_loyal, 6, (some FieldType.int), [])
theorem kX11_loyal : ev_K mX11_loyal 3 := ⟨ev_in4 13 rfl rfl, ev_in1 1 rfl rfl, by decide +kernel, by decide +kernel, by decide +kernel, by decide⟩
theorem iX11_loyal : Cond.instanceMethod yX11_loyal ∈ ev_T := ev_in4 11 rfl rfl
theorem vX11_loyal : Cond.selects yX11_loyal.cls yX11_loyal yX11_loyal ∈ ev_T := ev_in4 12 rfl rfl
def mX11_merge : ev_M := (yX11_merge, cX11_merge, 7, (some FieldType.int), [])
theorem kX11_merge : ev_K mX11_merge 2 := ⟨ev_in5 202 rfl rfl, ev_in1 1 rfl rfl, by decide +kernel, by decide +kernel, by decide +kernel, by decide⟩
theorem iX11_merge : Cond.instanceMethod yX11_merge ∈ ev_T := ev_in5 200 rfl rfl
theorem vX11_merge : Cond.selects yX11_merge.cls yX11_merge yX11_merge ∈ ev_T := ev_in5 201 rfl rfl
def mX11_months : ev_M := (yX11_months, cX11_months, 3, (some FieldType.int), [])
theorem kX11_months : ev_K mX11_months 1 := ⟨ev_in5 85 rfl rfl, ev_in1 1 rfl rfl, by decide +kernel, by decide +kernel, by decide +kernel, by decide⟩
theorem iX11_months : Cond.instanceMethod yX11_months ∈ ev_T := ev_in5 83 rfl rfl
theorem vX11_months : Cond.selects yX11_months.cls yX11_months yX11_months ∈ ev_T := ev_in5 84 rfl rfl
def mX11_mostCopies : ev_M := (yX11_mostCopies, cX11_mostCopies, 2, (some FieldType.int), [])
theorem kX11_mostCopies : ev_K mX11_mostCopies 2 := ⟨ev_in5 124 rfl rfl, ev_in1 1 rfl rfl, by decide +kernel, by decide +kernel, by decide +kernel, by decide⟩
theorem sX11_mostCopies : Cond.static yX11_mostCopies ∈ ev_T := ev_in5 123 rfl rfl
def mX11_mostOwed : ev_M := (yX11_mostOwed, cX11_mostOwed, 5, (some FieldType.int), [])
theorem kX11_mostOwed : ev_K mX11_mostOwed 0 := ⟨ev_in5 111 rfl rfl, ev_in1 1 rfl rfl, by decide +kernel, by decide +kernel, by decide +kernel, by decide⟩
theorem iX11_mostOwed : Cond.instanceMethod yX11_mostOwed ∈ ev_T := ev_in5 110 rfl rfl
theorem vX11_mostOwed : Cond.selects yX11_mostOwed.cls yX11_mostOwed yX11_mostOwed ∈ ev_T := ev_inp (q := (yX11_mostOwed, 13)) 44 (by decide +kernel) (by decide +kernel)
def mX11_need : ev_M := (yX11_need, cX11_need, 1, none, [])
theorem kX11_need : ev_K mX11_need 1 := ⟨ev_in2 112 rfl rfl, ev_in1 1 rfl rfl, by decide +kernel, by decide +kernel, by decide +kernel, by decide⟩
theorem sX11_need : Cond.static yX11_need ∈ ev_T := ev_in2 111 rfl rfl
def mX11_netted : ev_M := (yX11_netted, cX11_netted, 5, (some FieldType.int), [])
theorem kX11_netted : ev_K mX11_netted 2 := ⟨ev_in5 191 rfl rfl, ev_in1 1 rfl rfl, by decide +kernel, by decide +kernel, by decide +kernel, by decide⟩
theorem iX11_netted : Cond.instanceMethod yX11_netted ∈ ev_T := ev_in5 189 rfl rfl
theorem vX11_netted : Cond.selects yX11_netted.cls yX11_netted yX11_netted ∈ ev_T := ev_in5 190 rfl rfl
def mX11_numberInForce : ev_M := (yX11_numberInForce, cX11_numberInForce, 6, (some FieldType.int), [])
theorem kX11_numberInForce : ev_K mX11_numberInForce 1 := ⟨ev_in4 210 rfl rfl, ev_in1 1 rfl rfl, by decide +kernel, by decide +kernel, by decide +kernel, by decide⟩
theorem iX11_numberInForce : Cond.instanceMethod yX11_numberInForce ∈ ev_T := ev_in4 209 rfl rfl
theorem vX11_numberInForce : Cond.selects yX11_numberInForce.cls yX11_numberInForce yX11_numberInForce ∈ ev_T := ev_inp (q := (yX11_numberInForce, 13)) 31 (by decide +kernel) (by decide +kernel)
def mX11_order : ev_M := (yX11_order, cX11_order, 4, (some FieldType.int), [])
theorem kX11_order : ev_K mX11_order 2 := ⟨ev_in4 32 rfl rfl, ev_in1 1 rfl rfl, by decide +kernel, by decide +kernel, by decide +kernel, by decide⟩
theorem iX11_order : Cond.instanceMethod yX11_order ∈ ev_T := ev_in4 30 rfl rfl
theorem vX11_order : Cond.selects yX11_order.cls yX11_order yX11_order ∈ ev_T := ev_in4 31 rfl rfl
def mX11_orderNow : ev_M := (yX11_orderNow, cX11_orderNow, 2, (some (FieldType.object "PaperBoard$Order")), [])
theorem kX11_orderNow : ev_K mX11_orderNow 0 := ⟨ev_in4 221 rfl rfl, ev_in1 1 rfl rfl, by decide +kernel, by decide +kernel, by decide +kernel, by decide⟩
theorem iX11_orderNow : Cond.instanceMethod yX11_orderNow ∈ ev_T := ev_in4 220 rfl rfl
theorem vX11_orderNow : Cond.selects yX11_orderNow.cls yX11_orderNow yX11_orderNow ∈ ev_T := ev_inp (q := (yX11_orderNow, 13)) 32 (by decide +kernel) (by decide +kernel)
def mX11_paper : ev_M := (yX11_paper, cX11_paper, 6, (some FieldType.int), [])
theorem kX11_paper : ev_K mX11_paper 5 := ⟨ev_in2 105 rfl rfl, ev_in1 1 rfl rfl, by decide +kernel, by decide +kernel, by decide +kernel, by decide⟩
theorem iX11_paper : Cond.instanceMethod yX11_paper ∈ ev_T := ev_in2 103 rfl rfl
theorem vX11_paper : Cond.selects yX11_paper.cls yX11_paper yX11_paper ∈ ev_T := ev_in2 104 rfl rfl
def mX11_paperAt : ev_M := (yX11_paperAt, cX11_paperAt, 2, (some (FieldType.object "PaperBoard$Paper")), [])
theorem kX11_paperAt : ev_K mX11_paperAt 1 := ⟨ev_in3 157 rfl rfl, ev_in1 1 rfl rfl, by decide +kernel, by decide +kernel, by decide +kernel, by decide⟩
theorem iX11_paperAt : Cond.instanceMethod yX11_paperAt ∈ ev_T := ev_in3 156 rfl rfl
theorem vX11_paperAt : Cond.selects yX11_paperAt.cls yX11_paperAt yX11_paperAt ∈ ev_T := ev_inp (q := (yX11_paperAt, 13)) 7 (by decide +kernel) (by decide +kernel)
def mX11_papersThatAre : ev_M := (yX11_papersThatAre, cX11_papersThatAre, 4, (some FieldType.int), [])
theorem kX11_papersThatAre : ev_K mX11_papersThatAre 1 := ⟨ev_in2 72 rfl rfl, ev_in1 1 rfl rfl, by decide +kernel, by decide +kernel, by decide +kernel, by decide⟩
theorem iX11_papersThatAre : Cond.instanceMethod yX11_papersThatAre ∈ ev_T := ev_in2 71 rfl rfl
theorem vX11_papersThatAre : Cond.selects yX11_papersThatAre.cls yX11_papersThatAre yX11_papersThatAre ∈ ev_T := ev_inp (q := (yX11_papersThatAre, 13)) 0 (by decide +kernel) (by decide +kernel)
def mX11_partPool : ev_M := (yX11_partPool, cX11_partPool, 5, none, [])
theorem kX11_partPool : ev_K mX11_partPool 2 := ⟨ev_in5 35 rfl rfl, ev_in1 1 rfl rfl, by decide +kernel, by decide +kernel, by decide +kernel, by decide⟩
theorem iX11_partPool : Cond.instanceMethod yX11_partPool ∈ ev_T := ev_in5 34 rfl rfl
theorem vX11_partPool : Cond.selects yX11_partPool.cls yX11_partPool yX11_partPool ∈ ev_T := ev_inp (q := (yX11_partPool, 13)) 35 (by decide +kernel) (by decide +kernel)
def mX11_partValue : ev_M := (yX11_partValue, cX11_partValue, 3, (some FieldType.int), [])
theorem kX11_partValue : ev_K mX11_partValue 2 := ⟨ev_in4 225 rfl rfl, ev_in1 1 rfl rfl, by decide +kernel, by decide +kernel, by decide +kernel, by decide⟩
theorem iX11_partValue : Cond.instanceMethod yX11_partValue ∈ ev_T := ev_in4 224 rfl rfl
theorem vX11_partValue : Cond.selects yX11_partValue.cls yX11_partValue yX11_partValue ∈ ev_T := ev_inp (q := (yX11_partValue, 13)) 33 (by decide +kernel) (by decide +kernel)
def mX11_parted : ev_M := (yX11_parted, cX11_parted, 5, (some FieldType.int), [])
theorem kX11_parted : ev_K mX11_parted 2 := ⟨ev_in5 31 rfl rfl, ev_in1 1 rfl rfl, by decide +kernel, by decide +kernel, by decide +kernel, by decide⟩
theorem iX11_parted : Cond.instanceMethod yX11_parted ∈ ev_T := ev_in5 29 rfl rfl
theorem vX11_parted : Cond.selects yX11_parted.cls yX11_parted yX11_parted ∈ ev_T := ev_in5 30 rfl rfl
def mX11_payBreaches : ev_M := (yX11_payBreaches, cX11_payBreaches, 7, none, [])
theorem kX11_payBreaches : ev_K mX11_payBreaches 2 := ⟨ev_in5 134 rfl rfl, ev_in1 1 rfl rfl, by decide +kernel, by decide +kernel, by decide +kernel, by decide⟩
theorem iX11_payBreaches : Cond.instanceMethod yX11_payBreaches ∈ ev_T := ev_in5 133 rfl rfl
theorem vX11_payBreaches : Cond.selects yX11_payBreaches.cls yX11_payBreaches yX11_payBreaches ∈ ev_T := ev_inp (q := (yX11_payBreaches, 13)) 46 (by decide +kernel) (by decide +kernel)
def mX11_pool : ev_M := (yX11_pool, cX11_pool, 4, (some FieldType.int), [])
theorem kX11_pool : ev_K mX11_pool 0 := ⟨ev_in2 91 rfl rfl, ev_in1 1 rfl rfl, by decide +kernel, by decide +kernel, by decide +kernel, by decide⟩
theorem iX11_pool : Cond.instanceMethod yX11_pool ∈ ev_T := ev_in2 90 rfl rfl
theorem vX11_pool : Cond.selects yX11_pool.cls yX11_pool yX11_pool ∈ ev_T := ev_inp (q := (yX11_pool, 13)) 1 (by decide +kernel) (by decide +kernel)
def mX11_priceValue : ev_M := (yX11_priceValue, cX11_priceValue, 4, (some FieldType.int), [])
theorem kX11_priceValue : ev_K mX11_priceValue 3 := ⟨ev_in5 13 rfl rfl, ev_in1 1 rfl rfl, by decide +kernel, by decide +kernel, by decide +kernel, by decide⟩
theorem iX11_priceValue : Cond.instanceMethod yX11_priceValue ∈ ev_T := ev_in5 12 rfl rfl
theorem vX11_priceValue : Cond.selects yX11_priceValue.cls yX11_priceValue yX11_priceValue ∈ ev_T := ev_inp (q := (yX11_priceValue, 13)) 34 (by decide +kernel) (by decide +kernel)
def mX11_reel : ev_M := (yX11_reel, cX11_reel, 3, (some FieldType.int), [])
theorem kX11_reel : ev_K mX11_reel 2 := ⟨ev_in3 198 rfl rfl, ev_in1 1 rfl rfl, by decide +kernel, by decide +kernel, by decide +kernel, by decide⟩
theorem iX11_reel : Cond.instanceMethod yX11_reel ∈ ev_T := ev_in3 196 rfl rfl
theorem vX11_reel : Cond.selects yX11_reel.cls yX11_reel yX11_reel ∈ ev_T := ev_in3 197 rfl rfl
def mX11_reelAt : ev_M := (yX11_reelAt, cX11_reelAt, 2, (some (FieldType.object "PaperBoard$Reel")), [])
theorem kX11_reelAt : ev_K mX11_reelAt 1 := ⟨ev_in3 223 rfl rfl, ev_in1 1 rfl rfl, by decide +kernel, by decide +kernel, by decide +kernel, by decide⟩
theorem iX11_reelAt : Cond.instanceMethod yX11_reelAt ∈ ev_T := ev_in3 222 rfl rfl
theorem vX11_reelAt : Cond.selects yX11_reelAt.cls yX11_reelAt yX11_reelAt ∈ ev_T := ev_inp (q := (yX11_reelAt, 13)) 8 (by decide +kernel) (by decide +kernel)
def mX11_reelsStolen : ev_M := (yX11_reelsStolen, cX11_reelsStolen, 3, (some FieldType.int), [])
theorem kX11_reelsStolen : ev_K mX11_reelsStolen 0 := ⟨ev_in2 96 rfl rfl, ev_in1 1 rfl rfl, by decide +kernel, by decide +kernel, by decide +kernel, by decide⟩
theorem iX11_reelsStolen : Cond.instanceMethod yX11_reelsStolen ∈ ev_T := ev_in2 95 rfl rfl
theorem vX11_reelsStolen : Cond.selects yX11_reelsStolen.cls yX11_reelsStolen yX11_reelsStolen ∈ ev_T := ev_inp (q := (yX11_reelsStolen, 13)) 2 (by decide +kernel) (by decide +kernel)
def mX11_row : ev_M := (yX11_row, cX11_row, 5, (some FieldType.int), [])
theorem kX11_row : ev_K mX11_row 4 := ⟨ev_in6 162 rfl rfl, ev_in1 1 rfl rfl, by decide +kernel, by decide +kernel, by decide +kernel, by decide⟩
theorem iX11_row : Cond.instanceMethod yX11_row ∈ ev_T := ev_in6 160 rfl rfl
theorem vX11_row : Cond.selects yX11_row.cls yX11_row yX11_row ∈ ev_T := ev_in6 161 rfl rfl
def mX11_runMonth : ev_M := (yX11_runMonth, cX11_runMonth, 5, none, [])
theorem kX11_runMonth : ev_K mX11_runMonth 2 := ⟨ev_in5 121 rfl rfl, ev_in1 1 rfl rfl, by decide +kernel, by decide +kernel, by decide +kernel, by decide⟩
theorem iX11_runMonth : Cond.instanceMethod yX11_runMonth ∈ ev_T := ev_in5 120 rfl rfl
theorem vX11_runMonth : Cond.selects yX11_runMonth.cls yX11_runMonth yX11_runMonth ∈ ev_T := ev_inp (q := (yX11_runMonth, 13)) 45 (by decide +kernel) (by decide +kernel)
def mX11_set : ev_M := (yX11_set, cX11_set, 5, (some FieldType.int), [])
theorem kX11_set : ev_K mX11_set 3 := ⟨ev_in3 153 rfl rfl, ev_in1 1 rfl rfl, by decide +kernel, by decide +kernel, by decide +kernel, by decide⟩
theorem iX11_set : Cond.instanceMethod yX11_set ∈ ev_T := ev_in3 151 rfl rfl
theorem vX11_set : Cond.selects yX11_set.cls yX11_set yX11_set ∈ ev_T := ev_in3 152 rfl rfl
def mX11_settable : ev_M := (yX11_settable, cX11_settable, 2, (some FieldType.boolean), [])
theorem kX11_settable : ev_K mX11_settable 2 := ⟨ev_in3 176 rfl rfl, ev_in1 1 rfl rfl, by decide +kernel, by decide +kernel, by decide +kernel, by decide⟩
theorem sX11_settable : Cond.static yX11_settable ∈ ev_T := ev_in3 175 rfl rfl
def mX11_source : ev_M := (yX11_source, cX11_source, 5, (some FieldType.int), [])
theorem kX11_source : ev_K mX11_source 3 := ⟨ev_in6 3 rfl rfl, ev_in1 1 rfl rfl, by decide +kernel, by decide +kernel, by decide +kernel, by decide⟩
theorem iX11_source : Cond.instanceMethod yX11_source ∈ ev_T := ev_in6 1 rfl rfl
theorem vX11_source : Cond.selects yX11_source.cls yX11_source yX11_source ∈ ev_T := ev_in6 2 rfl rfl
def mX11_steal : ev_M := (yX11_steal, cX11_steal, 5, (some FieldType.int), [])
theorem kX11_steal : ev_K mX11_steal 1 := ⟨ev_in3 231 rfl rfl, ev_in1 1 rfl rfl, by decide +kernel, by decide +kernel, by decide +kernel, by decide⟩
theorem iX11_steal : Cond.instanceMethod yX11_steal ∈ ev_T := ev_in3 229 rfl rfl
theorem vX11_steal : Cond.selects yX11_steal.cls yX11_steal yX11_steal ∈ ev_T := ev_in3 230 rfl rfl
def mX11_swap : ev_M := (yX11_swap, cX11_swap, 8, (some FieldType.int), [])
theorem kX11_swap : ev_K mX11_swap 3 := ⟨ev_in5 172 rfl rfl, ev_in1 1 rfl rfl, by decide +kernel, by decide +kernel, by decide +kernel, by decide⟩
theorem iX11_swap : Cond.instanceMethod yX11_swap ∈ ev_T := ev_in5 170 rfl rfl
theorem vX11_swap : Cond.selects yX11_swap.cls yX11_swap yX11_swap ∈ ev_T := ev_in5 171 rfl rfl
def mX11_takeGrants : ev_M := (yX11_takeGrants, cX11_takeGrants, 3, none, [])
theorem kX11_takeGrants : ev_K mX11_takeGrants 0 := ⟨ev_in5 94 rfl rfl, ev_in1 1 rfl rfl, by decide +kernel, by decide +kernel, by decide +kernel, by decide⟩
theorem iX11_takeGrants : Cond.instanceMethod yX11_takeGrants ∈ ev_T := ev_in5 93 rfl rfl
theorem vX11_takeGrants : Cond.selects yX11_takeGrants.cls yX11_takeGrants yX11_takeGrants ∈ ev_T := ev_inp (q := (yX11_takeGrants, 13)) 40 (by decide +kernel) (by decide +kernel)
def mX11_tells : ev_M := (yX11_tells, cX11_tells, 5, (some FieldType.int), [])
theorem kX11_tells : ev_K mX11_tells 2 := ⟨ev_in4 217 rfl rfl, ev_in1 1 rfl rfl, by decide +kernel, by decide +kernel, by decide +kernel, by decide⟩
theorem iX11_tells : Cond.instanceMethod yX11_tells ∈ ev_T := ev_in4 215 rfl rfl
theorem vX11_tells : Cond.selects yX11_tells.cls yX11_tells yX11_tells ∈ ev_T := ev_in4 216 rfl rfl
def mX11_told : ev_M := (yX11_told, cX11_told, 4, (some FieldType.int), [])
theorem kX11_told : ev_K mX11_told 2 := ⟨ev_in3 187 rfl rfl, ev_in1 1 rfl rfl, by decide +kernel, by decide +kernel, by decide +kernel, by decide⟩
theorem iX11_told : Cond.instanceMethod yX11_told ∈ ev_T := ev_in3 185 rfl rfl
theorem vX11_told : Cond.selects yX11_told.cls yX11_told yX11_told ∈ ev_T := ev_in3 186 rfl rfl
def mX11_ward : ev_M := (yX11_ward, cX11_ward, 2, (some FieldType.int), [])
theorem kX11_ward : ev_K mX11_ward 1 := ⟨ev_in4 6 rfl rfl, ev_in1 1 rfl rfl, by decide +kernel, by decide +kernel, by decide +kernel, by decide⟩
theorem iX11_ward : Cond.instanceMethod yX11_ward ∈ ev_T := ev_in4 4 rfl rfl
theorem vX11_ward : Cond.selects yX11_ward.cls yX11_ward yX11_ward ∈ ev_T := ev_in4 5 rfl rfl
def mX11_weightOf : ev_M := (yX11_weightOf, cX11_weightOf, 4, (some FieldType.int), [])
theorem kX11_weightOf : ev_K mX11_weightOf 3 := ⟨ev_in5 57 rfl rfl, ev_in1 1 rfl rfl, by decide +kernel, by decide +kernel, by decide +kernel, by decide⟩
theorem iX11_weightOf : Cond.instanceMethod yX11_weightOf ∈ ev_T := ev_in5 56 rfl rfl
theorem vX11_weightOf : Cond.selects yX11_weightOf.cls yX11_weightOf yX11_weightOf ∈ ev_T := ev_inp (q := (yX11_weightOf, 13)) 36 (by decide +kernel) (by decide +kernel)
def mX11_where : ev_M := (yX11_where, cX11_where, 2, (some FieldType.int), [])
theorem kX11_where : ev_K mX11_where 1 := ⟨ev_in3 219 rfl rfl, ev_in1 1 rfl rfl, by decide +kernel, by decide +kernel, by decide +kernel, by decide⟩
theorem iX11_where : Cond.instanceMethod yX11_where ∈ ev_T := ev_in3 217 rfl rfl
theorem vX11_where : Cond.selects yX11_where.cls yX11_where yX11_where ∈ ev_T := ev_in3 218 rfl rfl
def mX11_within : ev_M := (yX11_within, cX11_within, 3, (some FieldType.boolean), [])
theorem kX11_within : ev_K mX11_within 3 := ⟨ev_in2 108 rfl rfl, ev_in1 1 rfl rfl, by decide +kernel, by decide +kernel, by decide +kernel, by decide⟩
theorem sX11_within : Cond.static yX11_within ∈ ev_T := ev_in2 107 rfl rfl
def mX12_admits : ev_M := (yX12_admits, cX12_admits, 3, none, [])
theorem kX12_admits : ev_K mX12_admits 0 := ⟨ev_in8 219 rfl rfl, ev_in1 11 rfl rfl, by decide +kernel, by decide +kernel, by decide +kernel, by decide⟩
theorem iX12_admits : Cond.instanceMethod yX12_admits ∈ ev_T := ev_in8 218 rfl rfl
theorem vX12_admits : Cond.selects yX12_admits.cls yX12_admits yX12_admits ∈ ev_T := ev_inp (q := (yX12_admits, 78)) 96 (by decide +kernel) (by decide +kernel)
def mX12_alike : ev_M := (yX12_alike, cX12_alike, 4, (some FieldType.int), [])
theorem kX12_alike : ev_K mX12_alike 1 := ⟨ev_in9 53 rfl rfl, ev_in1 11 rfl rfl, by decide +kernel, by decide +kernel, by decide +kernel, by decide⟩
theorem iX12_alike : Cond.instanceMethod yX12_alike ∈ ev_T := ev_in9 51 rfl rfl
theorem vX12_alike : Cond.selects yX12_alike.cls yX12_alike yX12_alike ∈ ev_T := ev_in9 52 rfl rfl
def mX12_apart : ev_M := (yX12_apart, cX12_apart, 3, (some FieldType.int), [])
theorem kX12_apart : ev_K mX12_apart 2 := ⟨ev_in9 68 rfl rfl, ev_in1 11 rfl rfl, by decide +kernel, by decide +kernel, by decide +kernel, by decide⟩
theorem iX12_apart : Cond.instanceMethod yX12_apart ∈ ev_T := ev_in9 66 rfl rfl
theorem vX12_apart : Cond.selects yX12_apart.cls yX12_apart yX12_apart ∈ ev_T := ev_in9 67 rfl rfl
def mX12_apartOf : ev_M := (yX12_apartOf, cX12_apartOf, 3, (some FieldType.int), [])
theorem kX12_apartOf : ev_K mX12_apartOf 2 := ⟨ev_in9 61 rfl rfl, ev_in1 11 rfl rfl, by decide +kernel, by decide +kernel, by decide +kernel, by decide⟩
theorem iX12_apartOf : Cond.instanceMethod yX12_apartOf ∈ ev_T := ev_in9 60 rfl rfl
theorem vX12_apartOf : Cond.selects yX12_apartOf.cls yX12_apartOf yX12_apartOf ∈ ev_T := ev_inp (q := (yX12_apartOf, 78)) 105 (by decide +kernel) (by decide +kernel)
def mX12_appeal : ev_M := (yX12_appeal, cX12_appeal, 3, (some FieldType.int), [])
theorem kX12_appeal : ev_K mX12_appeal 2 := ⟨ev_in9 49 rfl rfl, ev_in1 11 rfl rfl, by decide +kernel, by decide +kernel, by decide +kernel, by decide⟩
theorem iX12_appeal : Cond.instanceMethod yX12_appeal ∈ ev_T := ev_in9 47 rfl rfl
theorem vX12_appeal : Cond.selects yX12_appeal.cls yX12_appeal yX12_appeal ∈ ev_T := ev_in9 48 rfl rfl
def mX12_areTwo : ev_M := (yX12_areTwo, cX12_areTwo, 3, (some FieldType.boolean), [])
theorem kX12_areTwo : ev_K mX12_areTwo 2 := ⟨ev_in9 13 rfl rfl, ev_in1 11 rfl rfl, by decide +kernel, by decide +kernel, by decide +kernel, by decide⟩
theorem iX12_areTwo : Cond.instanceMethod yX12_areTwo ∈ ev_T := ev_in9 12 rfl rfl
theorem vX12_areTwo : Cond.selects yX12_areTwo.cls yX12_areTwo yX12_areTwo ∈ ev_T := ev_inp (q := (yX12_areTwo, 78)) 102 (by decide +kernel) (by decide +kernel)
def mX12_bad : ev_M := (yX12_bad, cX12_bad, 3, (some FieldType.boolean), [])
theorem kX12_bad : ev_K mX12_bad 2 := ⟨ev_in7 186 rfl rfl, ev_in1 11 rfl rfl, by decide +kernel, by decide +kernel, by decide +kernel, by decide⟩
theorem iX12_bad : Cond.instanceMethod yX12_bad ∈ ev_T := ev_in7 185 rfl rfl
theorem vX12_bad : Cond.selects yX12_bad.cls yX12_bad yX12_bad ∈ ev_T := ev_inp (q := (yX12_bad, 78)) 60 (by decide +kernel) (by decide +kernel)
def mX12_best : ev_M := (yX12_best, cX12_best, 7, (some FieldType.int), [])
theorem kX12_best : ev_K mX12_best 2 := ⟨ev_in9 76 rfl rfl, ev_in1 11 rfl rfl, by decide +kernel, by decide +kernel, by decide +kernel, by decide⟩
theorem iX12_best : Cond.instanceMethod yX12_best ∈ ev_T := ev_in9 74 rfl rfl
theorem vX12_best : Cond.selects yX12_best.cls yX12_best yX12_best ∈ ev_T := ev_in9 75 rfl rfl
def mX12_bid : ev_M := (yX12_bid, cX12_bid, 4, (some FieldType.int), [])
theorem kX12_bid : ev_K mX12_bid 3 := ⟨ev_in8 179 rfl rfl, ev_in1 11 rfl rfl, by decide +kernel, by decide +kernel, by decide +kernel, by decide⟩
theorem iX12_bid : Cond.instanceMethod yX12_bid ∈ ev_T := ev_in8 177 rfl rfl
theorem vX12_bid : Cond.selects yX12_bid.cls yX12_bid yX12_bid ∈ ev_T := ev_in8 178 rfl rfl
def mX12_blanks : ev_M := (yX12_blanks, cX12_blanks, 1, none, [])
theorem kX12_blanks : ev_K mX12_blanks 0 := ⟨ev_in8 9 rfl rfl, ev_in1 11 rfl rfl, by decide +kernel, by decide +kernel, by decide +kernel, by decide⟩
theorem iX12_blanks : Cond.instanceMethod yX12_blanks ∈ ev_T := ev_in8 8 rfl rfl
theorem vX12_blanks : Cond.selects yX12_blanks.cls yX12_blanks yX12_blanks ∈ ev_T := ev_inp (q := (yX12_blanks, 78)) 64 (by decide +kernel) (by decide +kernel)
def mX12_borne : ev_M := (yX12_borne, cX12_borne, 9, (some FieldType.int), [])
theorem kX12_borne : ev_K mX12_borne 2 := ⟨ev_in9 38 rfl rfl, ev_in1 11 rfl rfl, by decide +kernel, by decide +kernel, by decide +kernel, by decide⟩
theorem iX12_borne : Cond.instanceMethod yX12_borne ∈ ev_T := ev_in9 36 rfl rfl
theorem vX12_borne : Cond.selects yX12_borne.cls yX12_borne yX12_borne ∈ ev_T := ev_in9 37 rfl rfl
def mX12_bounded : ev_M := (yX12_bounded, cX12_bounded, 3, (some FieldType.int), [])
theorem kX12_bounded : ev_K mX12_bounded 3 := ⟨ev_in8 164 rfl rfl, ev_in1 11 rfl rfl, by decide +kernel, by decide +kernel, by decide +kernel, by decide⟩
theorem sX12_bounded : Cond.static yX12_bounded ∈ ev_T := ev_in8 163 rfl rfl
def mX12_breach : ev_M := (yX12_breach, cX12_breach, 3, (some FieldType.int), [])
theorem kX12_breach : ev_K mX12_breach 2 := ⟨ev_in9 30 rfl rfl, ev_in1 11 rfl rfl, by decide +kernel, by decide +kernel, by decide +kernel, by decide⟩
theorem iX12_breach : Cond.instanceMethod yX12_breach ∈ ev_T := ev_in9 28 rfl rfl
theorem vX12_breach : Cond.selects yX12_breach.cls yX12_breach yX12_breach ∈ ev_T := ev_in9 29 rfl rfl
def mX12_breaks : ev_M := (yX12_breaks, cX12_breaks, 6, none, [])
theorem kX12_breaks : ev_K mX12_breaks 1 := ⟨ev_in9 1 rfl rfl, ev_in1 11 rfl rfl, by decide +kernel, by decide +kernel, by decide +kernel, by decide⟩
theorem iX12_breaks : Cond.instanceMethod yX12_breaks ∈ ev_T := ev_in9 0 rfl rfl
theorem vX12_breaks : Cond.selects yX12_breaks.cls yX12_breaks yX12_breaks ∈ ev_T := ev_inp (q := (yX12_breaks, 78)) 100 (by decide +kernel) (by decide +kernel)
def mX12_byBids : ev_M := (yX12_byBids, cX12_byBids, 5, none, [])
theorem kX12_byBids : ev_K mX12_byBids 1 := ⟨ev_in8 195 rfl rfl, ev_in1 11 rfl rfl, by decide +kernel, by decide +kernel, by decide +kernel, by decide⟩
theorem iX12_byBids : Cond.instanceMethod yX12_byBids ∈ ev_T := ev_in8 194 rfl rfl
theorem vX12_byBids : Cond.selects yX12_byBids.cls yX12_byBids yX12_byBids ∈ ev_T := ev_inp (q := (yX12_byBids, 78)) 92 (by decide +kernel) (by decide +kernel)
def mX12_byteAt : ev_M := (yX12_byteAt, cX12_byteAt, 2, (some FieldType.int), [])
theorem kX12_byteAt : ev_K mX12_byteAt 1 := ⟨ev_in8 13 rfl rfl, ev_in1 11 rfl rfl, by decide +kernel, by decide +kernel, by decide +kernel, by decide⟩
theorem iX12_byteAt : Cond.instanceMethod yX12_byteAt ∈ ev_T := ev_in8 12 rfl rfl
theorem vX12_byteAt : Cond.selects yX12_byteAt.cls yX12_byteAt yX12_byteAt ∈ ev_T := ev_inp (q := (yX12_byteAt, 78)) 65 (by decide +kernel) (by decide +kernel)
def mX12_chosen : ev_M := (yX12_chosen, cX12_chosen, 2, none, [])
theorem kX12_chosen : ev_K mX12_chosen 0 := ⟨ev_in8 89 rfl rfl, ev_in1 11 rfl rfl, by decide +kernel, by decide +kernel, by decide +kernel, by decide⟩
theorem iX12_chosen : Cond.instanceMethod yX12_chosen ∈ ev_T := ev_in8 88 rfl rfl
theorem vX12_chosen : Cond.selects yX12_chosen.cls yX12_chosen yX12_chosen ∈ ev_T := ev_inp (q := (yX12_chosen, 78)) 77 (by decide +kernel) (by decide +kernel)
def mX12_clause : ev_M := (yX12_clause, cX12_clause, 4, none, [])
theorem kX12_clause : ev_K mX12_clause 1 := ⟨ev_in8 44 rfl rfl, ev_in1 11 rfl rfl, by decide +kernel, by decide +kernel, by decide +kernel, by decide⟩
theorem iX12_clause : Cond.instanceMethod yX12_clause ∈ ev_T := ev_in8 43 rfl rfl
theorem vX12_clause : Cond.selects yX12_clause.cls yX12_clause yX12_clause ∈ ev_T := ev_inp (q := (yX12_clause, 78)) 69 (by decide +kernel) (by decide +kernel)
def mX12_clauseHere : ev_M := (yX12_clauseHere, cX12_clauseHere, 2, (some FieldType.int), [])
theorem kX12_clauseHere : ev_K mX12_clauseHere 0 := ⟨ev_in8 17 rfl rfl, ev_in1 11 rfl rfl, by decide +kernel, by decide +kernel, by decide +kernel, by decide⟩
theorem iX12_clauseHere : Cond.instanceMethod yX12_clauseHere ∈ ev_T := ev_in8 16 rfl rfl
theorem vX12_clauseHere : Cond.selects yX12_clauseHere.cls yX12_clauseHere yX12_clauseHere ∈ ev_T := ev_inp (q := (yX12_clauseHere, 78)) 66 (by decide +kernel) (by decide +kernel)
def mX12_clauseName : ev_M := (yX12_clauseName, cX12_clauseName, 1, (some (FieldType.object "java/lang/String")), [])
theorem kX12_clauseName : ev_K mX12_clauseName 1 := ⟨ev_in8 20 rfl rfl, ev_in1 11 rfl rfl, by decide +kernel, by decide +kernel, by decide +kernel, by decide⟩
theorem sX12_clauseName : Cond.static yX12_clauseName ∈ ev_T := ev_in8 19 rfl rfl
def mX12_closes : ev_M := (yX12_closes, cX12_closes, 1, none, [])
theorem kX12_closes : ev_K mX12_closes 0 := ⟨ev_in8 101 rfl rfl, ev_in1 11 rfl rfl, by decide +kernel, by decide +kernel, by decide +kernel, by decide⟩
theorem iX12_closes : Cond.instanceMethod yX12_closes ∈ ev_T := ev_in8 100 rfl rfl
theorem vX12_closes : Cond.selects yX12_closes.cls yX12_closes yX12_closes ∈ ev_T := ev_inp (q := (yX12_closes, 78)) 80 (by decide +kernel) (by decide +kernel)
def mX12_correct : ev_M := (yX12_correct, cX12_correct, 4, (some FieldType.int), [])
theorem kX12_correct : ev_K mX12_correct 3 := ⟨ev_in9 84 rfl rfl, ev_in1 11 rfl rfl, by decide +kernel, by decide +kernel, by decide +kernel, by decide⟩
theorem iX12_correct : Cond.instanceMethod yX12_correct ∈ ev_T := ev_in9 82 rfl rfl
theorem vX12_correct : Cond.selects yX12_correct.cls yX12_correct yX12_correct ∈ ev_T := ev_in9 83 rfl rfl
def mX12_count : ev_M := (yX12_count, cX12_count, 4, (some FieldType.int), [])
theorem kX12_count : ev_K mX12_count 1 := ⟨ev_in9 96 rfl rfl, ev_in1 11 rfl rfl, by decide +kernel, by decide +kernel, by decide +kernel, by decide⟩
theorem iX12_count : Cond.instanceMethod yX12_count ∈ ev_T := ev_in9 94 rfl rfl
theorem vX12_count : Cond.selects yX12_count.cls yX12_count yX12_count ∈ ev_T := ev_in9 95 rfl rfl
def mX12_demand : ev_M := (yX12_demand, cX12_demand, 3, (some FieldType.int), [])
theorem kX12_demand : ev_K mX12_demand 2 := ⟨ev_in7 233 rfl rfl, ev_in1 11 rfl rfl, by decide +kernel, by decide +kernel, by decide +kernel, by decide⟩
theorem iX12_demand : Cond.instanceMethod yX12_demand ∈ ev_T := ev_in7 231 rfl rfl
theorem vX12_demand : Cond.selects yX12_demand.cls yX12_demand yX12_demand ∈ ev_T := ev_in7 232 rfl rfl
def mX12_demandOf : ev_M := (yX12_demandOf, cX12_demandOf, 5, (some FieldType.int), [])
theorem kX12_demandOf : ev_K mX12_demandOf 2 := ⟨ev_in7 237 rfl rfl, ev_in1 11 rfl rfl, by decide +kernel, by decide +kernel, by decide +kernel, by decide⟩
theorem iX12_demandOf : Cond.instanceMethod yX12_demandOf ∈ ev_T := ev_in7 236 rfl rfl
theorem vX12_demandOf : Cond.selects yX12_demandOf.cls yX12_demandOf yX12_demandOf ∈ ev_T := ev_inp (q := (yX12_demandOf, 78)) 63 (by decide +kernel) (by decide +kernel)
def mX12_divides : ev_M := (yX12_divides, cX12_divides, 3, none, [])
theorem kX12_divides : ev_K mX12_divides 0 := ⟨ev_in8 223 rfl rfl, ev_in1 11 rfl rfl, by decide +kernel, by decide +kernel, by decide +kernel, by decide⟩
theorem iX12_divides : Cond.instanceMethod yX12_divides ∈ ev_T := ev_in8 222 rfl rfl
theorem vX12_divides : Cond.selects yX12_divides.cls yX12_divides yX12_divides ∈ ev_T := ev_inp (q := (yX12_divides, 78)) 97 (by decide +kernel) (by decide +kernel)
def mX12_eat : ev_M := (yX12_eat, cX12_eat, 3, (some FieldType.boolean), [])
theorem kX12_eat : ev_K mX12_eat 1 := ⟨ev_in8 84 rfl rfl, ev_in1 11 rfl rfl, by decide +kernel, by decide +kernel, by decide +kernel, by decide⟩
theorem iX12_eat : Cond.instanceMethod yX12_eat ∈ ev_T := ev_in8 83 rfl rfl
theorem vX12_eat : Cond.selects yX12_eat.cls yX12_eat yX12_eat ∈ ev_T := ev_inp (q := (yX12_eat, 78)) 76 (by decide +kernel) (by decide +kernel)
def mX12_emits : ev_M := (yX12_emits, cX12_emits, 3, none, [])
theorem kX12_emits : ev_K mX12_emits 2 := ⟨ev_in8 71 rfl rfl, ev_in1 11 rfl rfl, by decide +kernel, by decide +kernel, by decide +kernel, by decide⟩
theorem iX12_emits : Cond.instanceMethod yX12_emits ∈ ev_T := ev_in8 70 rfl rfl
theorem vX12_emits : Cond.selects yX12_emits.cls yX12_emits yX12_emits ∈ ev_T := ev_inp (q := (yX12_emits, 78)) 75 (by decide +kernel) (by decide +kernel)
def mX12_far : ev_M := (yX12_far, cX12_far, 2, (some FieldType.int), [])
theorem kX12_far : ev_K mX12_far 2 := ⟨ev_in9 64 rfl rfl, ev_in1 11 rfl rfl, by decide +kernel, by decide +kernel, by decide +kernel, by decide⟩
theorem sX12_far : Cond.static yX12_far ∈ ev_T := ev_in9 63 rfl rfl
def mX12_fault : ev_M := (yX12_fault, cX12_fault, 1, (some FieldType.int), [])
theorem kX12_fault : ev_K mX12_fault 0 := ⟨ev_in8 125 rfl rfl, ev_in1 11 rfl rfl, by decide +kernel, by decide +kernel, by decide +kernel, by decide⟩
theorem iX12_fault : Cond.instanceMethod yX12_fault ∈ ev_T := ev_in8 123 rfl rfl
theorem vX12_fault : Cond.selects yX12_fault.cls yX12_fault yX12_fault ∈ ev_T := ev_in8 124 rfl rfl
def mX12_feed : ev_M := (yX12_feed, cX12_feed, 9, (some FieldType.int), [])
theorem kX12_feed : ev_K mX12_feed 5 := ⟨ev_in8 1 rfl rfl, ev_in1 11 rfl rfl, by decide +kernel, by decide +kernel, by decide +kernel, by decide⟩
theorem iX12_feed : Cond.instanceMethod yX12_feed ∈ ev_T := ev_in7 239 rfl rfl
theorem vX12_feed : Cond.selects yX12_feed.cls yX12_feed yX12_feed ∈ ev_T := ev_in8 0 rfl rfl
def mX12_figures : ev_M := (yX12_figures, cX12_figures, 5, (some FieldType.int), [])
theorem kX12_figures : ev_K mX12_figures 2 := ⟨ev_in8 67 rfl rfl, ev_in1 11 rfl rfl, by decide +kernel, by decide +kernel, by decide +kernel, by decide⟩
theorem iX12_figures : Cond.instanceMethod yX12_figures ∈ ev_T := ev_in8 66 rfl rfl
theorem vX12_figures : Cond.selects yX12_figures.cls yX12_figures yX12_figures ∈ ev_T := ev_inp (q := (yX12_figures, 78)) 74 (by decide +kernel) (by decide +kernel)
def mX12_find : ev_M := (yX12_find, cX12_find, 2, (some FieldType.int), [])
theorem kX12_find : ev_K mX12_find 1 := ⟨ev_in7 221 rfl rfl, ev_in1 11 rfl rfl, by decide +kernel, by decide +kernel, by decide +kernel, by decide⟩
theorem iX12_find : Cond.instanceMethod yX12_find ∈ ev_T := ev_in7 219 rfl rfl
theorem vX12_find : Cond.selects yX12_find.cls yX12_find yX12_find ∈ ev_T := ev_in7 220 rfl rfl
def mX12_force : ev_M := (yX12_force, cX12_force, 2, (some FieldType.int), [])
theorem kX12_force : ev_K mX12_force 1 := ⟨ev_in8 129 rfl rfl, ev_in1 11 rfl rfl, by decide +kernel, by decide +kernel, by decide +kernel, by decide⟩
theorem iX12_force : Cond.instanceMethod yX12_force ∈ ev_T := ev_in8 127 rfl rfl
theorem vX12_force : Cond.selects yX12_force.cls yX12_force yX12_force ∈ ev_T := ev_in8 128 rfl rfl
def mX12_forceIn : ev_M := (yX12_forceIn, cX12_forceIn, 4, (some FieldType.int), [])
theorem kX12_forceIn : ev_K mX12_forceIn 1 := ⟨ev_in8 133 rfl rfl, ev_in1 11 rfl rfl, by decide +kernel, by decide +kernel, by decide +kernel, by decide⟩
theorem iX12_forceIn : Cond.instanceMethod yX12_forceIn ∈ ev_T := ev_in8 132 rfl rfl
theorem vX12_forceIn : Cond.selects yX12_forceIn.cls yX12_forceIn yX12_forceIn ∈ ev_T := ev_inp (q := (yX12_forceIn, 78)) 82 (by decide +kernel) (by decide +kernel)
def mX12_formula : ev_M := (yX12_formula, cX12_formula, 3, none, [])
theorem kX12_formula : ev_K mX12_formula 2 := ⟨ev_in8 48 rfl rfl, ev_in1 11 rfl rfl, by decide +kernel, by decide +kernel, by decide +kernel, by decide⟩
theorem iX12_formula : Cond.instanceMethod yX12_formula ∈ ev_T := ev_in8 47 rfl rfl
theorem vX12_formula : Cond.selects yX12_formula.cls yX12_formula yX12_formula ∈ ev_T := ev_inp (q := (yX12_formula, 78)) 70 (by decide +kernel) (by decide +kernel)
def mX12_gain : ev_M := (yX12_gain, cX12_gain, 5, (some FieldType.int), [])
theorem kX12_gain : ev_K mX12_gain 2 := ⟨ev_in9 25 rfl rfl, ev_in1 11 rfl rfl, by decide +kernel, by decide +kernel, by decide +kernel, by decide⟩
theorem iX12_gain : Cond.instanceMethod yX12_gain ∈ ev_T := ev_in9 23 rfl rfl
theorem vX12_gain : Cond.selects yX12_gain.cls yX12_gain yX12_gain ∈ ev_T := ev_in9 24 rfl rfl
def mX12_goes : ev_M := (yX12_goes, cX12_goes, 3, none, [])
theorem kX12_goes : ev_K mX12_goes 0 := ⟨ev_in8 215 rfl rfl, ev_in1 11 rfl rfl, by decide +kernel, by decide +kernel, by decide +kernel, by decide⟩
theorem iX12_goes : Cond.instanceMethod yX12_goes ∈ ev_T := ev_in8 214 rfl rfl
theorem vX12_goes : Cond.selects yX12_goes.cls yX12_goes yX12_goes ∈ ev_T := ev_inp (q := (yX12_goes, 78)) 95 (by decide +kernel) (by decide +kernel)
def mX12_grant : ev_M := (yX12_grant, cX12_grant, 3, (some FieldType.int), [])
theorem kX12_grant : ev_K mX12_grant 2 := ⟨ev_in9 72 rfl rfl, ev_in1 11 rfl rfl, by decide +kernel, by decide +kernel, by decide +kernel, by decide⟩
theorem iX12_grant : Cond.instanceMethod yX12_grant ∈ ev_T := ev_in9 70 rfl rfl
theorem vX12_grant : Cond.selects yX12_grant.cls yX12_grant yX12_grant ∈ ev_T := ev_in9 71 rfl rfl
def mX12_hands : ev_M := (yX12_hands, cX12_hands, 4, none, [])
theorem kX12_hands : ev_K mX12_hands 0 := ⟨ev_in8 227 rfl rfl, ev_in1 11 rfl rfl, by decide +kernel, by decide +kernel, by decide +kernel, by decide⟩
theorem iX12_hands : Cond.instanceMethod yX12_hands ∈ ev_T := ev_in8 226 rfl rfl
theorem vX12_hands : Cond.selects yX12_hands.cls yX12_hands yX12_hands ∈ ev_T := ev_inp (q := (yX12_hands, 78)) 98 (by decide +kernel) (by decide +kernel)
def mX12_in : ev_M := (yX12_in, cX12_in, 3, (some FieldType.boolean), [])
theorem kX12_in : ev_K mX12_in 3 := ⟨ev_in7 181 rfl rfl, ev_in1 11 rfl rfl, by decide +kernel, by decide +kernel, by decide +kernel, by decide⟩
theorem sX12_in : Cond.static yX12_in ∈ ev_T := ev_in7 180 rfl rfl
def mX12_init : ev_M := (yX12_init, cX12_init, 1, none, [])
theorem kX12_init : ev_K mX12_init 0 := ⟨ev_in6 173 rfl rfl, ev_in1 11 rfl rfl, by decide +kernel, by decide +kernel, by decide +kernel, by decide⟩
theorem iX12_init : Cond.instanceMethod yX12_init ∈ ev_T := ev_in6 172 rfl rfl
def mX12_isAppeal : ev_M := (yX12_isAppeal, cX12_isAppeal, 2, (some FieldType.boolean), [])
theorem kX12_isAppeal : ev_K mX12_isAppeal 1 := ⟨ev_in9 57 rfl rfl, ev_in1 11 rfl rfl, by decide +kernel, by decide +kernel, by decide +kernel, by decide⟩
theorem iX12_isAppeal : Cond.instanceMethod yX12_isAppeal ∈ ev_T := ev_in9 56 rfl rfl
theorem vX12_isAppeal : Cond.selects yX12_isAppeal.cls yX12_isAppeal yX12_isAppeal ∈ ev_T := ev_inp (q := (yX12_isAppeal, 78)) 104 (by decide +kernel) (by decide +kernel)
def mX12_isDigit : ev_M := (yX12_isDigit, cX12_isDigit, 1, (some FieldType.boolean), [])
theorem kX12_isDigit : ev_K mX12_isDigit 1 := ⟨ev_in8 63 rfl rfl, ev_in1 11 rfl rfl, by decide +kernel, by decide +kernel, by decide +kernel, by decide⟩
theorem sX12_isDigit : Cond.static yX12_isDigit ∈ ev_T := ev_in8 62 rfl rfl
def mX12_isIn : ev_M := (yX12_isIn, cX12_isIn, 2, (some FieldType.boolean), [])
theorem kX12_isIn : ev_K mX12_isIn 1 := ⟨ev_in8 199 rfl rfl, ev_in1 11 rfl rfl, by decide +kernel, by decide +kernel, by decide +kernel, by decide⟩
theorem iX12_isIn : Cond.instanceMethod yX12_isIn ∈ ev_T := ev_in8 198 rfl rfl
theorem vX12_isIn : Cond.selects yX12_isIn.cls yX12_isIn yX12_isIn ∈ ev_T := ev_inp (q := (yX12_isIn, 78)) 93 (by decide +kernel) (by decide +kernel)
def mX12_isPaper : ev_M := (yX12_isPaper, cX12_isPaper, 2, (some FieldType.boolean), [])
theorem kX12_isPaper : ev_K mX12_isPaper 1 := ⟨ev_in7 194 rfl rfl, ev_in1 11 rfl rfl, by decide +kernel, by decide +kernel, by decide +kernel, by decide⟩
theorem iX12_isPaper : Cond.instanceMethod yX12_isPaper ∈ ev_T := ev_in7 193 rfl rfl
theorem vX12_isPaper : Cond.selects yX12_isPaper.cls yX12_isPaper yX12_isPaper ∈ ev_T := ev_inp (q := (yX12_isPaper, 78)) 61 (by decide +kernel) (by decide +kernel)
def mX12_isReel : ev_M := (yX12_isReel, cX12_isReel, 2, (some FieldType.boolean), [])
theorem kX12_isReel : ev_K mX12_isReel 1 := ⟨ev_in7 213 rfl rfl, ev_in1 11 rfl rfl, by decide +kernel, by decide +kernel, by decide +kernel, by decide⟩
theorem iX12_isReel : Cond.instanceMethod yX12_isReel ∈ ev_T := ev_in7 212 rfl rfl
theorem vX12_isReel : Cond.selects yX12_isReel.cls yX12_isReel yX12_isReel ∈ ev_T := ev_inp (q := (yX12_isReel, 78)) 62 (by decide +kernel) (by decide +kernel)
def mX12_isRow : ev_M := (yX12_isRow, cX12_isRow, 3, (some FieldType.boolean), [])
theorem kX12_isRow : ev_K mX12_isRow 2 := ⟨ev_in9 88 rfl rfl, ev_in1 11 rfl rfl, by decide +kernel, by decide +kernel, by decide +kernel, by decide⟩
theorem iX12_isRow : Cond.instanceMethod yX12_isRow ∈ ev_T := ev_in9 87 rfl rfl
theorem vX12_isRow : Cond.selects yX12_isRow.cls yX12_isRow yX12_isRow ∈ ev_T := ev_inp (q := (yX12_isRow, 78)) 107 (by decide +kernel) (by decide +kernel)
def mX12_isSet : ev_M := (yX12_isSet, cX12_isSet, 2, (some FieldType.boolean), [])
theorem kX12_isSet : ev_K mX12_isSet 2 := ⟨ev_in7 197 rfl rfl, ev_in1 11 rfl rfl, by decide +kernel, by decide +kernel, by decide +kernel, by decide⟩
theorem sX12_isSet : Cond.static yX12_isSet ∈ ev_T := ev_in7 196 rfl rfl
def mX12_isTwo : ev_M := (yX12_isTwo, cX12_isTwo, 3, (some FieldType.boolean), [])
theorem kX12_isTwo : ev_K mX12_isTwo 2 := ⟨ev_in9 9 rfl rfl, ev_in1 11 rfl rfl, by decide +kernel, by decide +kernel, by decide +kernel, by decide⟩
theorem iX12_isTwo : Cond.instanceMethod yX12_isTwo ∈ ev_T := ev_in9 8 rfl rfl
theorem vX12_isTwo : Cond.selects yX12_isTwo.cls yX12_isTwo yX12_isTwo ∈ ev_T := ev_inp (q := (yX12_isTwo, 78)) 101 (by decide +kernel) (by decide +kernel)
def mX12_isWord : ev_M := (yX12_isWord, cX12_isWord, 3, (some FieldType.boolean), [])
theorem kX12_isWord : ev_K mX12_isWord 1 := ⟨ev_in8 34 rfl rfl, ev_in1 11 rfl rfl, by decide +kernel, by decide +kernel, by decide +kernel, by decide⟩
theorem iX12_isWord : Cond.instanceMethod yX12_isWord ∈ ev_T := ev_in8 33 rfl rfl
theorem vX12_isWord : Cond.selects yX12_isWord.cls yX12_isWord yX12_isWord ∈ ev_T := ev_inp (q := (yX12_isWord, 78)) 67 (by decide +kernel) (by decide +kernel)
def mX12_kilograms : ev_M := (yX12_kilograms, cX12_kilograms, 2, (some FieldType.int), [])
theorem kX12_kilograms : ev_K mX12_kilograms 2 := ⟨ev_in8 237 rfl rfl, ev_in1 11 rfl rfl, by decide +kernel, by decide +kernel, by decide +kernel, by decide⟩
theorem sX12_kilograms : Cond.static yX12_kilograms ∈ ev_T := ev_in8 236 rfl rfl
def mX12_kindName : ev_M := (yX12_kindName, cX12_kindName, 1, (some (FieldType.object "java/lang/String")), [])
theorem kX12_kindName : ev_K mX12_kindName 1 := ⟨ev_in8 110 rfl rfl, ev_in1 11 rfl rfl, by decide +kernel, by decide +kernel, by decide +kernel, by decide⟩
theorem sX12_kindName : Cond.static yX12_kindName ∈ ev_T := ev_in8 109 rfl rfl
def mX12_least : ev_M := (yX12_least, cX12_least, 2, (some FieldType.int), [])
theorem kX12_least : ev_K mX12_least 2 := ⟨ev_in8 202 rfl rfl, ev_in1 11 rfl rfl, by decide +kernel, by decide +kernel, by decide +kernel, by decide⟩
theorem sX12_least : Cond.static yX12_least ∈ ev_T := ev_in8 201 rfl rfl
def mX12_lies : ev_M := (yX12_lies, cX12_lies, 5, (some FieldType.int), [])
theorem kX12_lies : ev_K mX12_lies 2 := ⟨ev_in9 42 rfl rfl, ev_in1 11 rfl rfl, by decide +kernel, by decide +kernel, by decide +kernel, by decide⟩
theorem iX12_lies : Cond.instanceMethod yX12_lies ∈ ev_T := ev_in9 41 rfl rfl
theorem vX12_lies : Cond.selects yX12_lies.cls yX12_lies yX12_lies ∈ ev_T := ev_inp (q := (yX12_lies, 78)) 103 (by decide +kernel) (by decide +kernel)
def mX12_loyal : ev_M := (yX12_loyal, cX12_loyal, 5, (some FieldType.int), [])
theorem kX12_loyal : ev_K mX12_loyal 3 := ⟨ev_in7 229 rfl rfl, ev_in1 11 rfl rfl, by decide +kernel, by decide +kernel, by decide +kernel, by decide⟩
theorem iX12_loyal : Cond.instanceMethod yX12_loyal ∈ ev_T := ev_in7 227 rfl rfl
theorem vX12_loyal : Cond.selects yX12_loyal.cls yX12_loyal yX12_loyal ∈ ev_T := ev_in7 228 rfl rfl
def mX12_many : ev_M := (yX12_many, cX12_many, 3, (some FieldType.int), [])
theorem kX12_many : ev_K mX12_many 1 := ⟨ev_in9 45 rfl rfl, ev_in1 11 rfl rfl, by decide +kernel, by decide +kernel, by decide +kernel, by decide⟩
theorem sX12_many : Cond.static yX12_many ∈ ev_T := ev_in9 44 rfl rfl
def mX12_means : ev_M := (yX12_means, cX12_means, 2, none, [])
theorem kX12_means : ev_K mX12_means 1 := ⟨ev_in8 141 rfl rfl, ev_in1 11 rfl rfl, by decide +kernel, by decide +kernel, by decide +kernel, by decide⟩
theorem iX12_means : Cond.instanceMethod yX12_means ∈ ev_T := ev_in8 140 rfl rfl
theorem vX12_means : Cond.selects yX12_means.cls yX12_means yX12_means ∈ ev_T := ev_inp (q := (yX12_means, 78)) 83 (by decide +kernel) (by decide +kernel)
def mX12_merge : ev_M := (yX12_merge, cX12_merge, 4, (some FieldType.int), [])
theorem kX12_merge : ev_K mX12_merge 2 := ⟨ev_in9 21 rfl rfl, ev_in1 11 rfl rfl, by decide +kernel, by decide +kernel, by decide +kernel, by decide⟩
theorem iX12_merge : Cond.instanceMethod yX12_merge ∈ ev_T := ev_in9 19 rfl rfl
theorem vX12_merge : Cond.selects yX12_merge.cls yX12_merge yX12_merge ∈ ev_T := ev_in9 20 rfl rfl
def mX12_months : ev_M := (yX12_months, cX12_months, 3, (some FieldType.int), [])
theorem kX12_months : ev_K mX12_months 1 := ⟨ev_in8 211 rfl rfl, ev_in1 11 rfl rfl, by decide +kernel, by decide +kernel, by decide +kernel, by decide⟩
theorem iX12_months : Cond.instanceMethod yX12_months ∈ ev_T := ev_in8 209 rfl rfl
theorem vX12_months : Cond.selects yX12_months.cls yX12_months yX12_months ∈ ev_T := ev_in8 210 rfl rfl
def mX12_much : ev_M := (yX12_much, cX12_much, 3, (some FieldType.int), [])
theorem kX12_much : ev_K mX12_much 1 := ⟨ev_in8 168 rfl rfl, ev_in1 11 rfl rfl, by decide +kernel, by decide +kernel, by decide +kernel, by decide⟩
theorem iX12_much : Cond.instanceMethod yX12_much ∈ ev_T := ev_in8 167 rfl rfl
theorem vX12_much : Cond.selects yX12_much.cls yX12_much yX12_much ∈ ev_T := ev_inp (q := (yX12_much, 78)) 88 (by decide +kernel) (by decide +kernel)
def mX12_nameOf : ev_M := (yX12_nameOf, cX12_nameOf, 1, (some (FieldType.object "java/lang/String")), [])
theorem kX12_nameOf : ev_K mX12_nameOf 1 := ⟨ev_in8 74 rfl rfl, ev_in1 11 rfl rfl, by decide +kernel, by decide +kernel, by decide +kernel, by decide⟩
theorem sX12_nameOf : Cond.static yX12_nameOf ∈ ev_T := ev_in8 73 rfl rfl
def mX12_named : ev_M := (yX12_named, cX12_named, 2, (some FieldType.int), [])
theorem kX12_named : ev_K mX12_named 1 := ⟨ev_in8 157 rfl rfl, ev_in1 11 rfl rfl, by decide +kernel, by decide +kernel, by decide +kernel, by decide⟩
theorem iX12_named : Cond.instanceMethod yX12_named ∈ ev_T := ev_in8 156 rfl rfl
theorem vX12_named : Cond.selects yX12_named.cls yX12_named yX12_named ∈ ev_T := ev_inp (q := (yX12_named, 78)) 87 (by decide +kernel) (by decide +kernel)
def mX12_netted : ev_M := (yX12_netted, cX12_netted, 3, (some FieldType.int), [])
theorem kX12_netted : ev_K mX12_netted 2 := ⟨ev_in9 17 rfl rfl, ev_in1 11 rfl rfl, by decide +kernel, by decide +kernel, by decide +kernel, by decide⟩
theorem iX12_netted : Cond.instanceMethod yX12_netted ∈ ev_T := ev_in9 15 rfl rfl
theorem vX12_netted : Cond.selects yX12_netted.cls yX12_netted yX12_netted ∈ ev_T := ev_in9 16 rfl rfl
def mX12_oneOf : ev_M := (yX12_oneOf, cX12_oneOf, 4, (some FieldType.int), [])
theorem kX12_oneOf : ev_K mX12_oneOf 2 := ⟨ev_in8 107 rfl rfl, ev_in1 11 rfl rfl, by decide +kernel, by decide +kernel, by decide +kernel, by decide⟩
theorem iX12_oneOf : Cond.instanceMethod yX12_oneOf ∈ ev_T := ev_in8 106 rfl rfl
theorem vX12_oneOf : Cond.selects yX12_oneOf.cls yX12_oneOf yX12_oneOf ∈ ev_T := ev_inp (q := (yX12_oneOf, 78)) 81 (by decide +kernel) (by decide +kernel)
def mX12_opens : ev_M := (yX12_opens, cX12_opens, 1, none, [])
theorem kX12_opens : ev_K mX12_opens 0 := ⟨ev_in8 93 rfl rfl, ev_in1 11 rfl rfl, by decide +kernel, by decide +kernel, by decide +kernel, by decide⟩
theorem iX12_opens : Cond.instanceMethod yX12_opens ∈ ev_T := ev_in8 92 rfl rfl
theorem vX12_opens : Cond.selects yX12_opens.cls yX12_opens yX12_opens ∈ ev_T := ev_inp (q := (yX12_opens, 78)) 78 (by decide +kernel) (by decide +kernel)
def mX12_order : ev_M := (yX12_order, cX12_order, 4, (some FieldType.int), [])
theorem kX12_order : ev_K mX12_order 2 := ⟨ev_in8 5 rfl rfl, ev_in1 11 rfl rfl, by decide +kernel, by decide +kernel, by decide +kernel, by decide⟩
theorem iX12_order : Cond.instanceMethod yX12_order ∈ ev_T := ev_in8 3 rfl rfl
theorem vX12_order : Cond.selects yX12_order.cls yX12_order yX12_order ∈ ev_T := ev_in8 4 rfl rfl
def mX12_paper : ev_M := (yX12_paper, cX12_paper, 7, (some FieldType.int), [])
theorem kX12_paper : ev_K mX12_paper 5 := ⟨ev_in7 178 rfl rfl, ev_in1 11 rfl rfl, by decide +kernel, by decide +kernel, by decide +kernel, by decide⟩
theorem iX12_paper : Cond.instanceMethod yX12_paper ∈ ev_T := ev_in7 176 rfl rfl
theorem vX12_paper : Cond.selects yX12_paper.cls yX12_paper yX12_paper ∈ ev_T := ev_in7 177 rfl rfl
def mX12_paperMany : ev_M := (yX12_paperMany, cX12_paperMany, 4, (some FieldType.int), [])
theorem kX12_paperMany : ev_K mX12_paperMany 1 := ⟨ev_in9 100 rfl rfl, ev_in1 11 rfl rfl, by decide +kernel, by decide +kernel, by decide +kernel, by decide⟩
theorem iX12_paperMany : Cond.instanceMethod yX12_paperMany ∈ ev_T := ev_in9 99 rfl rfl
theorem vX12_paperMany : Cond.selects yX12_paperMany.cls yX12_paperMany yX12_paperMany ∈ ev_T := ev_inp (q := (yX12_paperMany, 78)) 108 (by decide +kernel) (by decide +kernel)
def mX12_partNow : ev_M := (yX12_partNow, cX12_partNow, 2, (some FieldType.int), [])
theorem kX12_partNow : ev_K mX12_partNow 0 := ⟨ev_in8 145 rfl rfl, ev_in1 11 rfl rfl, by decide +kernel, by decide +kernel, by decide +kernel, by decide⟩
theorem iX12_partNow : Cond.instanceMethod yX12_partNow ∈ ev_T := ev_in8 144 rfl rfl
theorem vX12_partNow : Cond.selects yX12_partNow.cls yX12_partNow yX12_partNow ∈ ev_T := ev_inp (q := (yX12_partNow, 78)) 84 (by decide +kernel) (by decide +kernel)
def mX12_parted : ev_M := (yX12_parted, cX12_parted, 3, (some FieldType.int), [])
theorem kX12_parted : ev_K mX12_parted 2 := ⟨ev_in8 183 rfl rfl, ev_in1 11 rfl rfl, by decide +kernel, by decide +kernel, by decide +kernel, by decide⟩
theorem iX12_parted : Cond.instanceMethod yX12_parted ∈ ev_T := ev_in8 181 rfl rfl
theorem vX12_parted : Cond.selects yX12_parted.cls yX12_parted yX12_parted ∈ ev_T := ev_in8 182 rfl rfl
def mX12_parts : ev_M := (yX12_parts, cX12_parts, 11, none, [])
theorem kX12_parts : ev_K mX12_parts 2 := ⟨ev_in8 191 rfl rfl, ev_in1 11 rfl rfl, by decide +kernel, by decide +kernel, by decide +kernel, by decide⟩
theorem iX12_parts : Cond.instanceMethod yX12_parts ∈ ev_T := ev_in8 190 rfl rfl
theorem vX12_parts : Cond.selects yX12_parts.cls yX12_parts yX12_parts ∈ ev_T := ev_inp (q := (yX12_parts, 78)) 91 (by decide +kernel) (by decide +kernel)
def mX12_pool : ev_M := (yX12_pool, cX12_pool, 3, (some FieldType.int), [])
theorem kX12_pool : ev_K mX12_pool 0 := ⟨ev_in8 187 rfl rfl, ev_in1 11 rfl rfl, by decide +kernel, by decide +kernel, by decide +kernel, by decide⟩
theorem iX12_pool : Cond.instanceMethod yX12_pool ∈ ev_T := ev_in8 186 rfl rfl
theorem vX12_pool : Cond.selects yX12_pool.cls yX12_pool yX12_pool ∈ ev_T := ev_inp (q := (yX12_pool, 78)) 90 (by decide +kernel) (by decide +kernel)
def mX12_priceNow : ev_M := (yX12_priceNow, cX12_priceNow, 2, (some FieldType.int), [])
theorem kX12_priceNow : ev_K mX12_priceNow 0 := ⟨ev_in8 175 rfl rfl, ev_in1 11 rfl rfl, by decide +kernel, by decide +kernel, by decide +kernel, by decide⟩
theorem iX12_priceNow : Cond.instanceMethod yX12_priceNow ∈ ev_T := ev_in8 174 rfl rfl
theorem vX12_priceNow : Cond.selects yX12_priceNow.cls yX12_priceNow yX12_priceNow ∈ ev_T := ev_inp (q := (yX12_priceNow, 78)) 89 (by decide +kernel) (by decide +kernel)
def mX12_printable : ev_M := (yX12_printable, cX12_printable, 5, (some FieldType.int), [])
theorem kX12_printable : ev_K mX12_printable 3 := ⟨ev_in8 234 rfl rfl, ev_in1 11 rfl rfl, by decide +kernel, by decide +kernel, by decide +kernel, by decide⟩
theorem sX12_printable : Cond.static yX12_printable ∈ ev_T := ev_in8 233 rfl rfl
def mX12_prints : ev_M := (yX12_prints, cX12_prints, 4, none, [])
theorem kX12_prints : ev_K mX12_prints 1 := ⟨ev_in8 231 rfl rfl, ev_in1 11 rfl rfl, by decide +kernel, by decide +kernel, by decide +kernel, by decide⟩
theorem iX12_prints : Cond.instanceMethod yX12_prints ∈ ev_T := ev_in8 230 rfl rfl
theorem vX12_prints : Cond.selects yX12_prints.cls yX12_prints yX12_prints ∈ ev_T := ev_inp (q := (yX12_prints, 78)) 99 (by decide +kernel) (by decide +kernel)
def mX12_product : ev_M := (yX12_product, cX12_product, 2, none, [])
theorem kX12_product : ev_K mX12_product 0 := ⟨ev_in8 56 rfl rfl, ev_in1 11 rfl rfl, by decide +kernel, by decide +kernel, by decide +kernel, by decide⟩
theorem iX12_product : Cond.instanceMethod yX12_product ∈ ev_T := ev_in8 55 rfl rfl
theorem vX12_product : Cond.selects yX12_product.cls yX12_product yX12_product ∈ ev_T := ev_inp (q := (yX12_product, 78)) 72 (by decide +kernel) (by decide +kernel)
def mX12_reel : ev_M := (yX12_reel, cX12_reel, 3, (some FieldType.int), [])
theorem kX12_reel : ev_K mX12_reel 2 := ⟨ev_in7 205 rfl rfl, ev_in1 11 rfl rfl, by decide +kernel, by decide +kernel, by decide +kernel, by decide⟩
theorem iX12_reel : Cond.instanceMethod yX12_reel ∈ ev_T := ev_in7 203 rfl rfl
theorem vX12_reel : Cond.selects yX12_reel.cls yX12_reel yX12_reel ∈ ev_T := ev_in7 204 rfl rfl
def mX12_row : ev_M := (yX12_row, cX12_row, 7, (some FieldType.int), [])
theorem kX12_row : ev_K mX12_row 4 := ⟨ev_in9 92 rfl rfl, ev_in1 11 rfl rfl, by decide +kernel, by decide +kernel, by decide +kernel, by decide⟩
theorem iX12_row : Cond.instanceMethod yX12_row ∈ ev_T := ev_in9 90 rfl rfl
theorem vX12_row : Cond.selects yX12_row.cls yX12_row yX12_row ∈ ev_T := ev_in9 91 rfl rfl
def mX12_set : ev_M := (yX12_set, cX12_set, 5, (some FieldType.int), [])
theorem kX12_set : ev_K mX12_set 3 := ⟨ev_in7 190 rfl rfl, ev_in1 11 rfl rfl, by decide +kernel, by decide +kernel, by decide +kernel, by decide⟩
theorem iX12_set : Cond.instanceMethod yX12_set ∈ ev_T := ev_in7 188 rfl rfl
theorem vX12_set : Cond.selects yX12_set.cls yX12_set yX12_set ∈ ev_T := ev_in7 189 rfl rfl
def mX12_sign : ev_M := (yX12_sign, cX12_sign, 2, none, [])
theorem kX12_sign : ev_K mX12_sign 1 := ⟨ev_in8 97 rfl rfl, ev_in1 11 rfl rfl, by decide +kernel, by decide +kernel, by decide +kernel, by decide⟩
theorem iX12_sign : Cond.instanceMethod yX12_sign ∈ ev_T := ev_in8 96 rfl rfl
theorem vX12_sign : Cond.selects yX12_sign.cls yX12_sign yX12_sign ∈ ev_T := ev_inp (q := (yX12_sign, 78)) 79 (by decide +kernel) (by decide +kernel)
def mX12_source : ev_M := (yX12_source, cX12_source, 4, (some FieldType.int), [])
theorem kX12_source : ev_K mX12_source 3 := ⟨ev_in9 34 rfl rfl, ev_in1 11 rfl rfl, by decide +kernel, by decide +kernel, by decide +kernel, by decide⟩
theorem iX12_source : Cond.instanceMethod yX12_source ∈ ev_T := ev_in9 32 rfl rfl
theorem vX12_source : Cond.selects yX12_source.cls yX12_source yX12_source ∈ ev_T := ev_in9 33 rfl rfl
def mX12_steal : ev_M := (yX12_steal, cX12_steal, 3, (some FieldType.int), [])
theorem kX12_steal : ev_K mX12_steal 1 := ⟨ev_in7 217 rfl rfl, ev_in1 11 rfl rfl, by decide +kernel, by decide +kernel, by decide +kernel, by decide⟩
theorem iX12_steal : Cond.instanceMethod yX12_steal ∈ ev_T := ev_in7 215 rfl rfl
theorem vX12_steal : Cond.selects yX12_steal.cls yX12_steal yX12_steal ∈ ev_T := ev_in7 216 rfl rfl
def mX12_sum : ev_M := (yX12_sum, cX12_sum, 2, none, [])
theorem kX12_sum : ev_K mX12_sum 0 := ⟨ev_in8 52 rfl rfl, ev_in1 11 rfl rfl, by decide +kernel, by decide +kernel, by decide +kernel, by decide⟩
theorem iX12_sum : Cond.instanceMethod yX12_sum ∈ ev_T := ev_in8 51 rfl rfl
theorem vX12_sum : Cond.selects yX12_sum.cls yX12_sum yX12_sum ∈ ev_T := ev_inp (q := (yX12_sum, 78)) 71 (by decide +kernel) (by decide +kernel)
def mX12_swap : ev_M := (yX12_swap, cX12_swap, 5, (some FieldType.int), [])
theorem kX12_swap : ev_K mX12_swap 3 := ⟨ev_in9 5 rfl rfl, ev_in1 11 rfl rfl, by decide +kernel, by decide +kernel, by decide +kernel, by decide⟩
theorem iX12_swap : Cond.instanceMethod yX12_swap ∈ ev_T := ev_in9 3 rfl rfl
theorem vX12_swap : Cond.selects yX12_swap.cls yX12_swap yX12_swap ∈ ev_T := ev_in9 4 rfl rfl
def mX12_teller : ev_M := (yX12_teller, cX12_teller, 5, (some FieldType.int), [])
theorem kX12_teller : ev_K mX12_teller 1 := ⟨ev_in8 149 rfl rfl, ev_in1 11 rfl rfl, by decide +kernel, by decide +kernel, by decide +kernel, by decide⟩
theorem iX12_teller : Cond.instanceMethod yX12_teller ∈ ev_T := ev_in8 148 rfl rfl
theorem vX12_teller : Cond.selects yX12_teller.cls yX12_teller yX12_teller ∈ ev_T := ev_inp (q := (yX12_teller, 78)) 85 (by decide +kernel) (by decide +kernel)
def mX12_tells : ev_M := (yX12_tells, cX12_tells, 3, (some FieldType.int), [])
theorem kX12_tells : ev_K mX12_tells 2 := ⟨ev_in8 137 rfl rfl, ev_in1 11 rfl rfl, by decide +kernel, by decide +kernel, by decide +kernel, by decide⟩
theorem iX12_tells : Cond.instanceMethod yX12_tells ∈ ev_T := ev_in8 135 rfl rfl
theorem vX12_tells : Cond.selects yX12_tells.cls yX12_tells yX12_tells ∈ ev_T := ev_in8 136 rfl rfl
def mX12_thrown : ev_M := (yX12_thrown, cX12_thrown, 1, (some FieldType.int), [])
theorem kX12_thrown : ev_K mX12_thrown 0 := ⟨ev_in7 174 rfl rfl, ev_in1 11 rfl rfl, by decide +kernel, by decide +kernel, by decide +kernel, by decide⟩
theorem iX12_thrown : Cond.instanceMethod yX12_thrown ∈ ev_T := ev_in7 172 rfl rfl
theorem vX12_thrown : Cond.selects yX12_thrown.cls yX12_thrown yX12_thrown ∈ ev_T := ev_in7 173 rfl rfl
def mX12_told : ev_M := (yX12_told, cX12_told, 3, (some FieldType.int), [])
theorem kX12_told : ev_K mX12_told 2 := ⟨ev_in7 201 rfl rfl, ev_in1 11 rfl rfl, by decide +kernel, by decide +kernel, by decide +kernel, by decide⟩
theorem iX12_told : Cond.instanceMethod yX12_told ∈ ev_T := ev_in7 199 rfl rfl
theorem vX12_told : Cond.selects yX12_told.cls yX12_told yX12_told ∈ ev_T := ev_in7 200 rfl rfl
def mX12_tries : ev_M := (yX12_tries, cX12_tries, 7, none, [])
theorem kX12_tries : ev_K mX12_tries 4 := ⟨ev_in9 80 rfl rfl, ev_in1 11 rfl rfl, by decide +kernel, by decide +kernel, by decide +kernel, by decide⟩
theorem iX12_tries : Cond.instanceMethod yX12_tries ∈ ev_T := ev_in9 79 rfl rfl
theorem vX12_tries : Cond.selects yX12_tries.cls yX12_tries yX12_tries ∈ ev_T := ev_inp (q := (yX12_tries, 78)) 106 (by decide +kernel) (by decide +kernel)
def mX12_unit : ev_M := (yX12_unit, cX12_unit, 3, none, [])
theorem kX12_unit : ev_K mX12_unit 0 := ⟨ev_in8 60 rfl rfl, ev_in1 11 rfl rfl, by decide +kernel, by decide +kernel, by decide +kernel, by decide⟩
theorem iX12_unit : Cond.instanceMethod yX12_unit ∈ ev_T := ev_in8 59 rfl rfl
theorem vX12_unit : Cond.selects yX12_unit.cls yX12_unit yX12_unit ∈ ev_T := ev_inp (q := (yX12_unit, 78)) 73 (by decide +kernel) (by decide +kernel)
def mX12_value : ev_M := (yX12_value, cX12_value, 5, (some FieldType.int), [])
theorem kX12_value : ev_K mX12_value 1 := ⟨ev_in8 153 rfl rfl, ev_in1 11 rfl rfl, by decide +kernel, by decide +kernel, by decide +kernel, by decide⟩
theorem iX12_value : Cond.instanceMethod yX12_value ∈ ev_T := ev_in8 152 rfl rfl
theorem vX12_value : Cond.selects yX12_value.cls yX12_value yX12_value ∈ ev_T := ev_inp (q := (yX12_value, 78)) 86 (by decide +kernel) (by decide +kernel)
def mX12_ward : ev_M := (yX12_ward, cX12_ward, 2, (some FieldType.int), [])
theorem kX12_ward : ev_K mX12_ward 1 := ⟨ev_in7 225 rfl rfl, ev_in1 11 rfl rfl, by decide +kernel, by decide +kernel, by decide +kernel, by decide⟩
theorem iX12_ward : Cond.instanceMethod yX12_ward ∈ ev_T := ev_in7 223 rfl rfl
theorem vX12_ward : Cond.selects yX12_ward.cls yX12_ward yX12_ward ∈ ev_T := ev_in7 224 rfl rfl
def mX12_wayName : ev_M := (yX12_wayName, cX12_wayName, 1, (some (FieldType.object "java/lang/String")), [])
theorem kX12_wayName : ev_K mX12_wayName 1 := ⟨ev_in8 116 rfl rfl, ev_in1 11 rfl rfl, by decide +kernel, by decide +kernel, by decide +kernel, by decide⟩
theorem sX12_wayName : Cond.static yX12_wayName ∈ ev_T := ev_in8 115 rfl rfl
def mX12_weightOf : ev_M := (yX12_weightOf, cX12_weightOf, 3, (some FieldType.int), [])
theorem kX12_weightOf : ev_K mX12_weightOf 2 := ⟨ev_in8 206 rfl rfl, ev_in1 11 rfl rfl, by decide +kernel, by decide +kernel, by decide +kernel, by decide⟩
theorem iX12_weightOf : Cond.instanceMethod yX12_weightOf ∈ ev_T := ev_in8 205 rfl rfl
theorem vX12_weightOf : Cond.selects yX12_weightOf.cls yX12_weightOf yX12_weightOf ∈ ev_T := ev_inp (q := (yX12_weightOf, 78)) 94 (by decide +kernel) (by decide +kernel)
def mX12_where : ev_M := (yX12_where, cX12_where, 2, (some FieldType.int), [])
theorem kX12_where : ev_K mX12_where 1 := ⟨ev_in7 209 rfl rfl, ev_in1 11 rfl rfl, by decide +kernel, by decide +kernel, by decide +kernel, by decide⟩
theorem iX12_where : Cond.instanceMethod yX12_where ∈ ev_T := ev_in7 207 rfl rfl
theorem vX12_where : Cond.selects yX12_where.cls yX12_where yX12_where ∈ ev_T := ev_in7 208 rfl rfl
def mX12_without : ev_M := (yX12_without, cX12_without, 1, (some FieldType.int), [])
theorem kX12_without : ev_K mX12_without 1 := ⟨ev_in8 171 rfl rfl, ev_in1 11 rfl rfl, by decide +kernel, by decide +kernel, by decide +kernel, by decide⟩
theorem sX12_without : Cond.static yX12_without ∈ ev_T := ev_in8 170 rfl rfl
def mX12_worked : ev_M := (yX12_worked, cX12_worked, 3, (some FieldType.int), [])
theorem kX12_worked : ev_K mX12_worked 3 := ⟨ev_in8 160 rfl rfl, ev_in1 11 rfl rfl, by decide +kernel, by decide +kernel, by decide +kernel, by decide⟩
theorem sX12_worked : Cond.static yX12_worked ∈ ev_T := ev_in8 159 rfl rfl
def mX12_wrong : ev_M := (yX12_wrong, cX12_wrong, 3, none, [])
theorem kX12_wrong : ev_K mX12_wrong 2 := ⟨ev_in8 40 rfl rfl, ev_in1 11 rfl rfl, by decide +kernel, by decide +kernel, by decide +kernel, by decide⟩
theorem iX12_wrong : Cond.instanceMethod yX12_wrong ∈ ev_T := ev_in8 39 rfl rfl
theorem vX12_wrong : Cond.selects yX12_wrong.cls yX12_wrong yX12_wrong ∈ ev_T := ev_inp (q := (yX12_wrong, 78)) 68 (by decide +kernel) (by decide +kernel)
def mX1_add : ev_M := (yX1_add, cX1_add, 5, none, [])
theorem kX1_add : ev_K mX1_add 4 := ⟨ev_in5 142 rfl rfl, ev_in1 18 rfl rfl, by decide +kernel, by decide +kernel, by decide +kernel, by decide⟩
theorem iX1_add : Cond.instanceMethod yX1_add ∈ ev_T := ev_in5 140 rfl rfl
theorem vX1_add : Cond.selects yX1_add.cls yX1_add yX1_add ∈ ev_T := ev_in5 141 rfl rfl
def mX1_field : ev_M := (yX1_field, cX1_field, 2, (some FieldType.int), [])
theorem kX1_field : ev_K mX1_field 1 := ⟨ev_in5 236 rfl rfl, ev_in1 18 rfl rfl, by decide +kernel, by decide +kernel, by decide +kernel, by decide⟩
theorem iX1_field : Cond.instanceMethod yX1_field ∈ ev_T := ev_in5 234 rfl rfl
theorem vX1_field : Cond.selects yX1_field.cls yX1_field yX1_field ∈ ev_T := ev_in5 235 rfl rfl
def mX1_init : ev_M := (yX1_init, cX1_init, 1, none, [])
theorem kX1_init : ev_K mX1_init 0 := ⟨ev_in2 206 rfl rfl, ev_in1 18 rfl rfl, by decide +kernel, by decide +kernel, by decide +kernel, by decide⟩
theorem iX1_init : Cond.instanceMethod yX1_init ∈ ev_T := ev_in2 205 rfl rfl
def mX2_cell : ev_M := (yX2_cell, cX2_cell, 6, (some FieldType.int), [])
theorem kX2_cell : ev_K mX2_cell 3 := ⟨ev_in6 155 rfl rfl, ev_in1 9 rfl rfl, by decide +kernel, by decide +kernel, by decide +kernel, by decide⟩
theorem iX2_cell : Cond.instanceMethod yX2_cell ∈ ev_T := ev_in6 153 rfl rfl
theorem vX2_cell : Cond.selects yX2_cell.cls yX2_cell yX2_cell ∈ ev_T := ev_in6 154 rfl rfl
def mX2_has : ev_M := (yX2_has, cX2_has, 3, (some FieldType.boolean), [])
theorem kX2_has : ev_K mX2_has 2 := ⟨ev_in6 151 rfl rfl, ev_in1 9 rfl rfl, by decide +kernel, by decide +kernel, by decide +kernel, by decide⟩
theorem iX2_has : Cond.instanceMethod yX2_has ∈ ev_T := ev_in6 149 rfl rfl
theorem vX2_has : Cond.selects yX2_has.cls yX2_has yX2_has ∈ ev_T := ev_in6 150 rfl rfl
def mX2_init : ev_M := (yX2_init, cX2_init, 1, none, [])
theorem kX2_init : ev_K mX2_init 0 := ⟨ev_in1 206 rfl rfl, ev_in1 9 rfl rfl, by decide +kernel, by decide +kernel, by decide +kernel, by decide⟩
theorem iX2_init : Cond.instanceMethod yX2_init ∈ ev_T := ev_in1 205 rfl rfl
def mX2_open : ev_M := (yX2_open, cX2_open, 3, none, [])
theorem kX2_open : ev_K mX2_open 1 := ⟨ev_in5 115 rfl rfl, ev_in1 9 rfl rfl, by decide +kernel, by decide +kernel, by decide +kernel, by decide⟩
theorem iX2_open : Cond.instanceMethod yX2_open ∈ ev_T := ev_in5 113 rfl rfl
theorem vX2_open : Cond.selects yX2_open.cls yX2_open yX2_open ∈ ev_T := ev_in5 114 rfl rfl
def mX2_put : ev_M := (yX2_put, cX2_put, 7, none, [])
theorem kX2_put : ev_K mX2_put 4 := ⟨ev_in5 156 rfl rfl, ev_in1 9 rfl rfl, by decide +kernel, by decide +kernel, by decide +kernel, by decide⟩
theorem iX2_put : Cond.instanceMethod yX2_put ∈ ev_T := ev_in5 155 rfl rfl
theorem vX2_put : Cond.selects yX2_put.cls yX2_put yX2_put ∈ ev_T := ev_inp (q := (yX2_put, 6)) 47 (by decide +kernel) (by decide +kernel)
def mX2_rowsOf : ev_M := (yX2_rowsOf, cX2_rowsOf, 2, (some (FieldType.array FieldType.int)), [])
theorem kX2_rowsOf : ev_K mX2_rowsOf 1 := ⟨ev_in5 160 rfl rfl, ev_in1 9 rfl rfl, by decide +kernel, by decide +kernel, by decide +kernel, by decide⟩
theorem iX2_rowsOf : Cond.instanceMethod yX2_rowsOf ∈ ev_T := ev_in5 159 rfl rfl
theorem vX2_rowsOf : Cond.selects yX2_rowsOf.cls yX2_rowsOf yX2_rowsOf ∈ ev_T := ev_inp (q := (yX2_rowsOf, 6)) 48 (by decide +kernel) (by decide +kernel)
def mX2_tellAnew : ev_M := (yX2_tellAnew, cX2_tellAnew, 5, (some FieldType.int), [])
theorem kX2_tellAnew : ev_K mX2_tellAnew 4 := ⟨ev_in6 147 rfl rfl, ev_in1 9 rfl rfl, by decide +kernel, by decide +kernel, by decide +kernel, by decide⟩
theorem iX2_tellAnew : Cond.instanceMethod yX2_tellAnew ∈ ev_T := ev_in6 145 rfl rfl
theorem vX2_tellAnew : Cond.selects yX2_tellAnew.cls yX2_tellAnew yX2_tellAnew ∈ ev_T := ev_in6 146 rfl rfl
def mX2_usedAsKnown : ev_M := (yX2_usedAsKnown, cX2_usedAsKnown, 6, (some FieldType.int), [])
theorem kX2_usedAsKnown : ev_K mX2_usedAsKnown 3 := ⟨ev_in6 167 rfl rfl, ev_in1 9 rfl rfl, by decide +kernel, by decide +kernel, by decide +kernel, by decide⟩
theorem iX2_usedAsKnown : Cond.instanceMethod yX2_usedAsKnown ∈ ev_T := ev_in6 165 rfl rfl
theorem vX2_usedAsKnown : Cond.selects yX2_usedAsKnown.cls yX2_usedAsKnown yX2_usedAsKnown ∈ ev_T := ev_in6 166 rfl rfl
def mX2_write : ev_M := (yX2_write, cX2_write, 5, none, [])
theorem kX2_write : ev_K mX2_write 4 := ⟨ev_in5 152 rfl rfl, ev_in1 9 rfl rfl, by decide +kernel, by decide +kernel, by decide +kernel, by decide⟩
theorem iX2_write : Cond.instanceMethod yX2_write ∈ ev_T := ev_in5 150 rfl rfl
theorem vX2_write : Cond.selects yX2_write.cls yX2_write yX2_write ∈ ev_T := ev_in5 151 rfl rfl
def mX3_clear : ev_M := (yX3_clear, cX3_clear, 1, none, [])
theorem kX3_clear : ev_K mX3_clear 0 := ⟨ev_in6 123 rfl rfl, ev_in1 10 rfl rfl, by decide +kernel, by decide +kernel, by decide +kernel, by decide⟩
theorem iX3_clear : Cond.instanceMethod yX3_clear ∈ ev_T := ev_in6 121 rfl rfl
theorem vX3_clear : Cond.selects yX3_clear.cls yX3_clear yX3_clear ∈ ev_T := ev_in6 122 rfl rfl
def mX3_consider : ev_M := (yX3_consider, cX3_consider, 5, none, [])
theorem kX3_consider : ev_K mX3_consider 3 := ⟨ev_in6 127 rfl rfl, ev_in1 10 rfl rfl, by decide +kernel, by decide +kernel, by decide +kernel, by decide⟩
theorem iX3_consider : Cond.instanceMethod yX3_consider ∈ ev_T := ev_in6 125 rfl rfl
theorem vX3_consider : Cond.selects yX3_consider.cls yX3_consider yX3_consider ∈ ev_T := ev_in6 126 rfl rfl
def mX3_field : ev_M := (yX3_field, cX3_field, 2, (some FieldType.int), [])
theorem kX3_field : ev_K mX3_field 1 := ⟨ev_in6 136 rfl rfl, ev_in1 10 rfl rfl, by decide +kernel, by decide +kernel, by decide +kernel, by decide⟩
theorem iX3_field : Cond.instanceMethod yX3_field ∈ ev_T := ev_in6 134 rfl rfl
theorem vX3_field : Cond.selects yX3_field.cls yX3_field yX3_field ∈ ev_T := ev_in6 135 rfl rfl
def mX3_init : ev_M := (yX3_init, cX3_init, 1, none, [])
theorem kX3_init : ev_K mX3_init 0 := ⟨ev_in1 234 rfl rfl, ev_in1 10 rfl rfl, by decide +kernel, by decide +kernel, by decide +kernel, by decide⟩
theorem iX3_init : Cond.instanceMethod yX3_init ∈ ev_T := ev_in1 233 rfl rfl
def mX3_isBetter : ev_M := (yX3_isBetter, cX3_isBetter, 4, (some FieldType.boolean), [])
theorem kX3_isBetter : ev_K mX3_isBetter 3 := ⟨ev_in6 132 rfl rfl, ev_in1 10 rfl rfl, by decide +kernel, by decide +kernel, by decide +kernel, by decide⟩
theorem iX3_isBetter : Cond.instanceMethod yX3_isBetter ∈ ev_T := ev_in6 131 rfl rfl
theorem vX3_isBetter : Cond.selects yX3_isBetter.cls yX3_isBetter yX3_isBetter ∈ ev_T := ev_inp (q := (yX3_isBetter, 4)) 59 (by decide +kernel) (by decide +kernel)
def mX4_init : ev_M := (yX4_init, cX4_init, 2, none, [])
theorem kX4_init : ev_K mX4_init 1 := ⟨ev_in1 71 rfl rfl, ev_in1 5 rfl rfl, by decide +kernel, by decide +kernel, by decide +kernel, by decide⟩
theorem iX4_init : Cond.instanceMethod yX4_init ∈ ev_T := ev_in1 70 rfl rfl
def mX4_pagesClauseFor : ev_M := (yX4_pagesClauseFor, cX4_pagesClauseFor, 2, (some FieldType.int), [])
theorem kX4_pagesClauseFor : ev_K mX4_pagesClauseFor 1 := ⟨ev_in5 138 rfl rfl, ev_in1 5 rfl rfl, by decide +kernel, by decide +kernel, by decide +kernel, by decide⟩
theorem iX4_pagesClauseFor : Cond.instanceMethod yX4_pagesClauseFor ∈ ev_T := ev_in5 136 rfl rfl
theorem vX4_pagesClauseFor : Cond.selects yX4_pagesClauseFor.cls yX4_pagesClauseFor yX4_pagesClauseFor ∈ ev_T := ev_in5 137 rfl rfl
def mX4_pagesFor : ev_M := (yX4_pagesFor, cX4_pagesFor, 2, (some FieldType.int), [])
theorem kX4_pagesFor : ev_K mX4_pagesFor 1 := ⟨ev_in5 9 rfl rfl, ev_in1 5 rfl rfl, by decide +kernel, by decide +kernel, by decide +kernel, by decide⟩
theorem iX4_pagesFor : Cond.instanceMethod yX4_pagesFor ∈ ev_T := ev_in5 7 rfl rfl
theorem vX4_pagesFor : Cond.selects yX4_pagesFor.cls yX4_pagesFor yX4_pagesFor ∈ ev_T := ev_in5 8 rfl rfl
def mX4_tellPages : ev_M := (yX4_tellPages, cX4_tellPages, 4, none, [])
theorem kX4_tellPages : ev_K mX4_tellPages 3 := ⟨ev_in4 197 rfl rfl, ev_in1 5 rfl rfl, by decide +kernel, by decide +kernel, by decide +kernel, by decide⟩
theorem iX4_tellPages : Cond.instanceMethod yX4_tellPages ∈ ev_T := ev_in4 195 rfl rfl
theorem vX4_tellPages : Cond.selects yX4_tellPages.cls yX4_tellPages yX4_tellPages ∈ ev_T := ev_in4 196 rfl rfl
def mX5_addSize : ev_M := (yX5_addSize, cX5_addSize, 2, none, [])
theorem kX5_addSize : ev_K mX5_addSize 1 := ⟨ev_in5 210 rfl rfl, ev_in1 17 rfl rfl, by decide +kernel, by decide +kernel, by decide +kernel, by decide⟩
theorem iX5_addSize : Cond.instanceMethod yX5_addSize ∈ ev_T := ev_in5 208 rfl rfl
theorem vX5_addSize : Cond.selects yX5_addSize.cls yX5_addSize yX5_addSize ∈ ev_T := ev_in5 209 rfl rfl
def mX5_change : ev_M := (yX5_change, cX5_change, 4, (some FieldType.int), [])
theorem kX5_change : ev_K mX5_change 2 := ⟨ev_in3 180 rfl rfl, ev_in1 17 rfl rfl, by decide +kernel, by decide +kernel, by decide +kernel, by decide⟩
theorem iX5_change : Cond.instanceMethod yX5_change ∈ ev_T := ev_in3 178 rfl rfl
theorem vX5_change : Cond.selects yX5_change.cls yX5_change yX5_change ∈ ev_T := ev_in3 179 rfl rfl
def mX5_field : ev_M := (yX5_field, cX5_field, 2, (some FieldType.int), [])
theorem kX5_field : ev_K mX5_field 1 := ⟨ev_in3 191 rfl rfl, ev_in1 17 rfl rfl, by decide +kernel, by decide +kernel, by decide +kernel, by decide⟩
theorem iX5_field : Cond.instanceMethod yX5_field ∈ ev_T := ev_in3 189 rfl rfl
theorem vX5_field : Cond.selects yX5_field.cls yX5_field yX5_field ∈ ev_T := ev_in3 190 rfl rfl
def mX5_forgetSwaps : ev_M := (yX5_forgetSwaps, cX5_forgetSwaps, 1, none, [])
theorem kX5_forgetSwaps : ev_K mX5_forgetSwaps 0 := ⟨ev_in5 164 rfl rfl, ev_in1 17 rfl rfl, by decide +kernel, by decide +kernel, by decide +kernel, by decide⟩
theorem iX5_forgetSwaps : Cond.instanceMethod yX5_forgetSwaps ∈ ev_T := ev_in5 162 rfl rfl
theorem vX5_forgetSwaps : Cond.selects yX5_forgetSwaps.cls yX5_forgetSwaps yX5_forgetSwaps ∈ ev_T := ev_in5 163 rfl rfl
def mX5_init : ev_M := (yX5_init, cX5_init, 6, none, [])
theorem kX5_init : ev_K mX5_init 5 := ⟨ev_in2 200 rfl rfl, ev_in1 17 rfl rfl, by decide +kernel, by decide +kernel, by decide +kernel, by decide⟩
theorem iX5_init : Cond.instanceMethod yX5_init ∈ ev_T := ev_in2 199 rfl rfl
def mX5_isAdmitted : ev_M := (yX5_isAdmitted, cX5_isAdmitted, 1, (some FieldType.boolean), [])
theorem kX5_isAdmitted : ev_K mX5_isAdmitted 0 := ⟨ev_in5 24 rfl rfl, ev_in1 17 rfl rfl, by decide +kernel, by decide +kernel, by decide +kernel, by decide⟩
theorem iX5_isAdmitted : Cond.instanceMethod yX5_isAdmitted ∈ ev_T := ev_in5 22 rfl rfl
theorem vX5_isAdmitted : Cond.selects yX5_isAdmitted.cls yX5_isAdmitted yX5_isAdmitted ∈ ev_T := ev_in5 23 rfl rfl
def mX5_leave : ev_M := (yX5_leave, cX5_leave, 1, none, [])
theorem kX5_leave : ev_K mX5_leave 0 := ⟨ev_in5 216 rfl rfl, ev_in1 17 rfl rfl, by decide +kernel, by decide +kernel, by decide +kernel, by decide⟩
theorem iX5_leave : Cond.instanceMethod yX5_leave ∈ ev_T := ev_in5 215 rfl rfl
theorem vX5_leave : Cond.selects yX5_leave.cls yX5_leave yX5_leave ∈ ev_T := ev_inp (q := (yX5_leave, 17)) 51 (by decide +kernel) (by decide +kernel)
def mX5_takeFrom : ev_M := (yX5_takeFrom, cX5_takeFrom, 3, none, [])
theorem kX5_takeFrom : ev_K mX5_takeFrom 2 := ⟨ev_in5 184 rfl rfl, ev_in1 17 rfl rfl, by decide +kernel, by decide +kernel, by decide +kernel, by decide⟩
theorem iX5_takeFrom : Cond.instanceMethod yX5_takeFrom ∈ ev_T := ev_in5 182 rfl rfl
theorem vX5_takeFrom : Cond.selects yX5_takeFrom.cls yX5_takeFrom yX5_takeFrom ∈ ev_T := ev_in5 183 rfl rfl
def mX5_takeOver : ev_M := (yX5_takeOver, cX5_takeOver, 3, none, [])
theorem kX5_takeOver : ev_K mX5_takeOver 1 := ⟨ev_in5 206 rfl rfl, ev_in1 17 rfl rfl, by decide +kernel, by decide +kernel, by decide +kernel, by decide⟩
theorem iX5_takeOver : Cond.instanceMethod yX5_takeOver ∈ ev_T := ev_in5 204 rfl rfl
theorem vX5_takeOver : Cond.selects yX5_takeOver.cls yX5_takeOver yX5_takeOver ∈ ev_T := ev_in5 205 rfl rfl
def mX5_tookFrom : ev_M := (yX5_tookFrom, cX5_tookFrom, 2, (some FieldType.int), [])
theorem kX5_tookFrom : ev_K mX5_tookFrom 1 := ⟨ev_in5 195 rfl rfl, ev_in1 17 rfl rfl, by decide +kernel, by decide +kernel, by decide +kernel, by decide⟩
theorem iX5_tookFrom : Cond.instanceMethod yX5_tookFrom ∈ ev_T := ev_in5 193 rfl rfl
theorem vX5_tookFrom : Cond.selects yX5_tookFrom.cls yX5_tookFrom yX5_tookFrom ∈ ev_T := ev_in5 194 rfl rfl
def mX6_byBids : ev_M := (yX6_byBids, cX6_byBids, 6, none, [])
theorem kX6_byBids : ev_K mX6_byBids 2 := ⟨ev_in5 39 rfl rfl, ev_in1 8 rfl rfl, by decide +kernel, by decide +kernel, by decide +kernel, by decide⟩
theorem iX6_byBids : Cond.instanceMethod yX6_byBids ∈ ev_T := ev_in5 37 rfl rfl
theorem vX6_byBids : Cond.selects yX6_byBids.cls yX6_byBids yX6_byBids ∈ ev_T := ev_in5 38 rfl rfl
def mX6_byWeights : ev_M := (yX6_byWeights, cX6_byWeights, 13, none, [])
theorem kX6_byWeights : ev_K mX6_byWeights 4 := ⟨ev_in5 65 rfl rfl, ev_in1 8 rfl rfl, by decide +kernel, by decide +kernel, by decide +kernel, by decide⟩
theorem iX6_byWeights : Cond.instanceMethod yX6_byWeights ∈ ev_T := ev_in5 63 rfl rfl
theorem vX6_byWeights : Cond.selects yX6_byWeights.cls yX6_byWeights yX6_byWeights ∈ ev_T := ev_in5 64 rfl rfl
def mX6_giveLeast : ev_M := (yX6_giveLeast, cX6_giveLeast, 6, (some FieldType.int), [])
theorem kX6_giveLeast : ev_K mX6_giveLeast 3 := ⟨ev_in5 69 rfl rfl, ev_in1 8 rfl rfl, by decide +kernel, by decide +kernel, by decide +kernel, by decide⟩
theorem iX6_giveLeast : Cond.instanceMethod yX6_giveLeast ∈ ev_T := ev_in5 68 rfl rfl
theorem vX6_giveLeast : Cond.selects yX6_giveLeast.cls yX6_giveLeast yX6_giveLeast ∈ ev_T := ev_inp (q := (yX6_giveLeast, 3)) 37 (by decide +kernel) (by decide +kernel)
def mX6_giveOver : ev_M := (yX6_giveOver, cX6_giveOver, 8, none, [])
theorem kX6_giveOver : ev_K mX6_giveOver 2 := ⟨ev_in5 74 rfl rfl, ev_in1 8 rfl rfl, by decide +kernel, by decide +kernel, by decide +kernel, by decide⟩
theorem iX6_giveOver : Cond.instanceMethod yX6_giveOver ∈ ev_T := ev_in5 73 rfl rfl
theorem vX6_giveOver : Cond.selects yX6_giveOver.cls yX6_giveOver yX6_giveOver ∈ ev_T := ev_inp (q := (yX6_giveOver, 3)) 38 (by decide +kernel) (by decide +kernel)
def mX6_init : ev_M := (yX6_init, cX6_init, 1, none, [])
theorem kX6_init : ev_K mX6_init 0 := ⟨ev_in1 189 rfl rfl, ev_in1 8 rfl rfl, by decide +kernel, by decide +kernel, by decide +kernel, by decide⟩
theorem iX6_init : Cond.instanceMethod yX6_init ∈ ev_T := ev_in1 188 rfl rfl
def mX6_isBehind : ev_M := (yX6_isBehind, cX6_isBehind, 5, (some FieldType.boolean), [])
theorem kX6_isBehind : ev_K mX6_isBehind 3 := ⟨ev_in5 52 rfl rfl, ev_in1 8 rfl rfl, by decide +kernel, by decide +kernel, by decide +kernel, by decide⟩
theorem sX6_isBehind : Cond.static yX6_isBehind ∈ ev_T := ev_in5 51 rfl rfl
def mX6_nextBidder : ev_M := (yX6_nextBidder, cX6_nextBidder, 7, (some FieldType.int), [])
theorem kX6_nextBidder : ev_K mX6_nextBidder 2 := ⟨ev_in5 45 rfl rfl, ev_in1 8 rfl rfl, by decide +kernel, by decide +kernel, by decide +kernel, by decide⟩
theorem sX6_nextBidder : Cond.static yX6_nextBidder ∈ ev_T := ev_in5 44 rfl rfl
def mX6_shareOf : ev_M := (yX6_shareOf, cX6_shareOf, 2, (some FieldType.int), [])
theorem kX6_shareOf : ev_K mX6_shareOf 1 := ⟨ev_in5 78 rfl rfl, ev_in1 8 rfl rfl, by decide +kernel, by decide +kernel, by decide +kernel, by decide⟩
theorem iX6_shareOf : Cond.instanceMethod yX6_shareOf ∈ ev_T := ev_in5 76 rfl rfl
theorem vX6_shareOf : Cond.selects yX6_shareOf.cls yX6_shareOf yX6_shareOf ∈ ev_T := ev_in5 77 rfl rfl
def mX6_weigh : ev_M := (yX6_weigh, cX6_weigh, 3, none, [])
theorem kX6_weigh : ev_K mX6_weigh 2 := ⟨ev_in5 61 rfl rfl, ev_in1 8 rfl rfl, by decide +kernel, by decide +kernel, by decide +kernel, by decide⟩
theorem iX6_weigh : Cond.instanceMethod yX6_weigh ∈ ev_T := ev_in5 59 rfl rfl
theorem vX6_weigh : Cond.selects yX6_weigh.cls yX6_weigh yX6_weigh ∈ ev_T := ev_in5 60 rfl rfl
def mX7_byteAt : ev_M := (yX7_byteAt, cX7_byteAt, 2, (some FieldType.int), [])
theorem kX7_byteAt : ev_K mX7_byteAt 1 := ⟨ev_in4 50 rfl rfl, ev_in1 6 rfl rfl, by decide +kernel, by decide +kernel, by decide +kernel, by decide⟩
theorem iX7_byteAt : Cond.instanceMethod yX7_byteAt ∈ ev_T := ev_in4 49 rfl rfl
theorem vX7_byteAt : Cond.selects yX7_byteAt.cls yX7_byteAt yX7_byteAt ∈ ev_T := ev_inp (q := (yX7_byteAt, 10)) 11 (by decide +kernel) (by decide +kernel)
def mX7_emit : ev_M := (yX7_emit, cX7_emit, 2, none, [])
theorem kX7_emit : ev_K mX7_emit 1 := ⟨ev_in4 141 rfl rfl, ev_in1 6 rfl rfl, by decide +kernel, by decide +kernel, by decide +kernel, by decide⟩
theorem iX7_emit : Cond.instanceMethod yX7_emit ∈ ev_T := ev_in4 140 rfl rfl
theorem vX7_emit : Cond.selects yX7_emit.cls yX7_emit yX7_emit ∈ ev_T := ev_inp (q := (yX7_emit, 10)) 20 (by decide +kernel) (by decide +kernel)
def mX7_empty : ev_M := (yX7_empty, cX7_empty, 1, none, [])
theorem kX7_empty : ev_K mX7_empty 0 := ⟨ev_in4 36 rfl rfl, ev_in1 6 rfl rfl, by decide +kernel, by decide +kernel, by decide +kernel, by decide⟩
theorem iX7_empty : Cond.instanceMethod yX7_empty ∈ ev_T := ev_in4 34 rfl rfl
theorem vX7_empty : Cond.selects yX7_empty.cls yX7_empty yX7_empty ∈ ev_T := ev_in4 35 rfl rfl
def mX7_fail : ev_M := (yX7_fail, cX7_fail, 2, none, [])
theorem kX7_fail : ev_K mX7_fail 1 := ⟨ev_in4 120 rfl rfl, ev_in1 6 rfl rfl, by decide +kernel, by decide +kernel, by decide +kernel, by decide⟩
theorem iX7_fail : Cond.instanceMethod yX7_fail ∈ ev_T := ev_in4 119 rfl rfl
theorem vX7_fail : Cond.selects yX7_fail.cls yX7_fail yX7_fail ∈ ev_T := ev_inp (q := (yX7_fail, 10)) 15 (by decide +kernel) (by decide +kernel)
def mX7_formula : ev_M := (yX7_formula, cX7_formula, 2, (some (FieldType.array FieldType.int)), [])
theorem kX7_formula : ev_K mX7_formula 0 := ⟨ev_in4 174 rfl rfl, ev_in1 6 rfl rfl, by decide +kernel, by decide +kernel, by decide +kernel, by decide⟩
theorem iX7_formula : Cond.instanceMethod yX7_formula ∈ ev_T := ev_in4 173 rfl rfl
theorem vX7_formula : Cond.selects yX7_formula.cls yX7_formula yX7_formula ∈ ev_T := ev_inp (q := (yX7_formula, 10)) 28 (by decide +kernel) (by decide +kernel)
def mX7_init : ev_M := (yX7_init, cX7_init, 1, none, [])
theorem kX7_init : ev_K mX7_init 0 := ⟨ev_in1 139 rfl rfl, ev_in1 6 rfl rfl, by decide +kernel, by decide +kernel, by decide +kernel, by decide⟩
theorem iX7_init : Cond.instanceMethod yX7_init ∈ ev_T := ev_in1 138 rfl rfl
def mX7_isDigit : ev_M := (yX7_isDigit, cX7_isDigit, 1, (some FieldType.boolean), [])
theorem kX7_isDigit : ev_K mX7_isDigit 1 := ⟨ev_in4 57 rfl rfl, ev_in1 6 rfl rfl, by decide +kernel, by decide +kernel, by decide +kernel, by decide⟩
theorem sX7_isDigit : Cond.static yX7_isDigit ∈ ev_T := ev_in4 56 rfl rfl
def mX7_isLetter : ev_M := (yX7_isLetter, cX7_isLetter, 1, (some FieldType.boolean), [])
theorem kX7_isLetter : ev_K mX7_isLetter 1 := ⟨ev_in4 54 rfl rfl, ev_in1 6 rfl rfl, by decide +kernel, by decide +kernel, by decide +kernel, by decide⟩
theorem sX7_isLetter : Cond.static yX7_isLetter ∈ ev_T := ev_in4 53 rfl rfl
def mX7_isWord : ev_M := (yX7_isWord, cX7_isWord, 5, (some FieldType.boolean), [])
theorem kX7_isWord : ev_K mX7_isWord 3 := ⟨ev_in4 116 rfl rfl, ev_in1 6 rfl rfl, by decide +kernel, by decide +kernel, by decide +kernel, by decide⟩
theorem iX7_isWord : Cond.instanceMethod yX7_isWord ∈ ev_T := ev_in4 115 rfl rfl
theorem vX7_isWord : Cond.selects yX7_isWord.cls yX7_isWord yX7_isWord ∈ ev_T := ev_inp (q := (yX7_isWord, 10)) 14 (by decide +kernel) (by decide +kernel)
def mX7_next : ev_M := (yX7_next, cX7_next, 1, none, [])
theorem kX7_next : ev_K mX7_next 0 := ⟨ev_in4 46 rfl rfl, ev_in1 6 rfl rfl, by decide +kernel, by decide +kernel, by decide +kernel, by decide⟩
theorem iX7_next : Cond.instanceMethod yX7_next ∈ ev_T := ev_in4 45 rfl rfl
theorem vX7_next : Cond.selects yX7_next.cls yX7_next yX7_next ∈ ev_T := ev_inp (q := (yX7_next, 10)) 10 (by decide +kernel) (by decide +kernel)
def mX7_openBracket : ev_M := (yX7_openBracket, cX7_openBracket, 2, (some FieldType.boolean), [])
theorem kX7_openBracket : ev_K mX7_openBracket 1 := ⟨ev_in4 149 rfl rfl, ev_in1 6 rfl rfl, by decide +kernel, by decide +kernel, by decide +kernel, by decide⟩
theorem iX7_openBracket : Cond.instanceMethod yX7_openBracket ∈ ev_T := ev_in4 148 rfl rfl
theorem vX7_openBracket : Cond.selects yX7_openBracket.cls yX7_openBracket yX7_openBracket ∈ ev_T := ev_inp (q := (yX7_openBracket, 10)) 22 (by decide +kernel) (by decide +kernel)
def mX7_read : ev_M := (yX7_read, cX7_read, 5, (some (FieldType.object "PaperBoard$Order")), [])
theorem kX7_read : ev_K mX7_read 2 := ⟨ev_in4 40 rfl rfl, ev_in1 6 rfl rfl, by decide +kernel, by decide +kernel, by decide +kernel, by decide⟩
theorem iX7_read : Cond.instanceMethod yX7_read ∈ ev_T := ev_in4 38 rfl rfl
theorem vX7_read : Cond.selects yX7_read.cls yX7_read yX7_read ∈ ev_T := ev_in4 39 rfl rfl
def mX7_readClause : ev_M := (yX7_readClause, cX7_readClause, 4, none, [])
theorem kX7_readClause : ev_K mX7_readClause 2 := ⟨ev_in4 61 rfl rfl, ev_in1 6 rfl rfl, by decide +kernel, by decide +kernel, by decide +kernel, by decide⟩
theorem iX7_readClause : Cond.instanceMethod yX7_readClause ∈ ev_T := ev_in4 60 rfl rfl
theorem vX7_readClause : Cond.selects yX7_readClause.cls yX7_readClause yX7_readClause ∈ ev_T := ev_inp (q := (yX7_readClause, 10)) 12 (by decide +kernel) (by decide +kernel)
def mX7_readIf : ev_M := (yX7_readIf, cX7_readIf, 3, none, [])
theorem kX7_readIf : ev_K mX7_readIf 1 := ⟨ev_in4 166 rfl rfl, ev_in1 6 rfl rfl, by decide +kernel, by decide +kernel, by decide +kernel, by decide⟩
theorem iX7_readIf : Cond.instanceMethod yX7_readIf ∈ ev_T := ev_in4 165 rfl rfl
theorem vX7_readIf : Cond.selects yX7_readIf.cls yX7_readIf yX7_readIf ∈ ev_T := ev_inp (q := (yX7_readIf, 10)) 26 (by decide +kernel) (by decide +kernel)
def mX7_readInBrackets : ev_M := (yX7_readInBrackets, cX7_readInBrackets, 2, none, [])
theorem kX7_readInBrackets : ev_K mX7_readInBrackets 1 := ⟨ev_in4 145 rfl rfl, ev_in1 6 rfl rfl, by decide +kernel, by decide +kernel, by decide +kernel, by decide⟩
theorem iX7_readInBrackets : Cond.instanceMethod yX7_readInBrackets ∈ ev_T := ev_in4 144 rfl rfl
theorem vX7_readInBrackets : Cond.selects yX7_readInBrackets.cls yX7_readInBrackets yX7_readInBrackets ∈ ev_T := ev_inp (q := (yX7_readInBrackets, 10)) 21 (by decide +kernel) (by decide +kernel)
def mX7_readNamed : ev_M := (yX7_readNamed, cX7_readNamed, 3, none, [])
theorem kX7_readNamed : ev_K mX7_readNamed 1 := ⟨ev_in4 157 rfl rfl, ev_in1 6 rfl rfl, by decide +kernel, by decide +kernel, by decide +kernel, by decide⟩
theorem iX7_readNamed : Cond.instanceMethod yX7_readNamed ∈ ev_T := ev_in4 156 rfl rfl
theorem vX7_readNamed : Cond.selects yX7_readNamed.cls yX7_readNamed yX7_readNamed ∈ ev_T := ev_inp (q := (yX7_readNamed, 10)) 24 (by decide +kernel) (by decide +kernel)
def mX7_readPages : ev_M := (yX7_readPages, cX7_readPages, 5, none, [])
theorem kX7_readPages : ev_K mX7_readPages 2 := ⟨ev_in4 188 rfl rfl, ev_in1 6 rfl rfl, by decide +kernel, by decide +kernel, by decide +kernel, by decide⟩
theorem iX7_readPages : Cond.instanceMethod yX7_readPages ∈ ev_T := ev_in4 187 rfl rfl
theorem vX7_readPages : Cond.selects yX7_readPages.cls yX7_readPages yX7_readPages ∈ ev_T := ev_inp (q := (yX7_readPages, 10)) 29 (by decide +kernel) (by decide +kernel)
def mX7_readProduct : ev_M := (yX7_readProduct, cX7_readProduct, 4, none, [])
theorem kX7_readProduct : ev_K mX7_readProduct 1 := ⟨ev_in4 128 rfl rfl, ev_in1 6 rfl rfl, by decide +kernel, by decide +kernel, by decide +kernel, by decide⟩
theorem iX7_readProduct : Cond.instanceMethod yX7_readProduct ∈ ev_T := ev_in4 127 rfl rfl
theorem vX7_readProduct : Cond.selects yX7_readProduct.cls yX7_readProduct yX7_readProduct ∈ ev_T := ev_inp (q := (yX7_readProduct, 10)) 17 (by decide +kernel) (by decide +kernel)
def mX7_readSum : ev_M := (yX7_readSum, cX7_readSum, 4, none, [])
theorem kX7_readSum : ev_K mX7_readSum 1 := ⟨ev_in4 124 rfl rfl, ev_in1 6 rfl rfl, by decide +kernel, by decide +kernel, by decide +kernel, by decide⟩
theorem iX7_readSum : Cond.instanceMethod yX7_readSum ∈ ev_T := ev_in4 123 rfl rfl
theorem vX7_readSum : Cond.selects yX7_readSum.cls yX7_readSum yX7_readSum ∈ ev_T := ev_inp (q := (yX7_readSum, 10)) 16 (by decide +kernel) (by decide +kernel)
def mX7_readTwo : ev_M := (yX7_readTwo, cX7_readTwo, 2, none, [])
theorem kX7_readTwo : ev_K mX7_readTwo 1 := ⟨ev_in4 162 rfl rfl, ev_in1 6 rfl rfl, by decide +kernel, by decide +kernel, by decide +kernel, by decide⟩
theorem iX7_readTwo : Cond.instanceMethod yX7_readTwo ∈ ev_T := ev_in4 161 rfl rfl
theorem vX7_readTwo : Cond.selects yX7_readTwo.cls yX7_readTwo yX7_readTwo ∈ ev_T := ev_inp (q := (yX7_readTwo, 10)) 25 (by decide +kernel) (by decide +kernel)
def mX7_readUnit : ev_M := (yX7_readUnit, cX7_readUnit, 2, none, [])
theorem kX7_readUnit : ev_K mX7_readUnit 1 := ⟨ev_in4 132 rfl rfl, ev_in1 6 rfl rfl, by decide +kernel, by decide +kernel, by decide +kernel, by decide⟩
theorem iX7_readUnit : Cond.instanceMethod yX7_readUnit ∈ ev_T := ev_in4 131 rfl rfl
theorem vX7_readUnit : Cond.selects yX7_readUnit.cls yX7_readUnit yX7_readUnit ∈ ev_T := ev_inp (q := (yX7_readUnit, 10)) 18 (by decide +kernel) (by decide +kernel)
def mX7_take : ev_M := (yX7_take, cX7_take, 2, none, [])
theorem kX7_take : ev_K mX7_take 1 := ⟨ev_in4 153 rfl rfl, ev_in1 6 rfl rfl, by decide +kernel, by decide +kernel, by decide +kernel, by decide⟩
theorem iX7_take : Cond.instanceMethod yX7_take ∈ ev_T := ev_in4 152 rfl rfl
theorem vX7_take : Cond.selects yX7_take.cls yX7_take yX7_take ∈ ev_T := ev_inp (q := (yX7_take, 10)) 23 (by decide +kernel) (by decide +kernel)
def mX7_takeNumber : ev_M := (yX7_takeNumber, cX7_takeNumber, 5, (some FieldType.int), [])
theorem kX7_takeNumber : ev_K mX7_takeNumber 2 := ⟨ev_in4 136 rfl rfl, ev_in1 6 rfl rfl, by decide +kernel, by decide +kernel, by decide +kernel, by decide⟩
theorem iX7_takeNumber : Cond.instanceMethod yX7_takeNumber ∈ ev_T := ev_in4 135 rfl rfl
theorem vX7_takeNumber : Cond.selects yX7_takeNumber.cls yX7_takeNumber yX7_takeNumber ∈ ev_T := ev_inp (q := (yX7_takeNumber, 10)) 19 (by decide +kernel) (by decide +kernel)
def mX7_takeRelation : ev_M := (yX7_takeRelation, cX7_takeRelation, 2, (some FieldType.int), [])
theorem kX7_takeRelation : ev_K mX7_takeRelation 0 := ⟨ev_in4 170 rfl rfl, ev_in1 6 rfl rfl, by decide +kernel, by decide +kernel, by decide +kernel, by decide⟩
theorem iX7_takeRelation : Cond.instanceMethod yX7_takeRelation ∈ ev_T := ev_in4 169 rfl rfl
theorem vX7_takeRelation : Cond.selects yX7_takeRelation.cls yX7_takeRelation yX7_takeRelation ∈ ev_T := ev_inp (q := (yX7_takeRelation, 10)) 27 (by decide +kernel) (by decide +kernel)
def mX7_takeWord : ev_M := (yX7_takeWord, cX7_takeWord, 3, (some FieldType.int), [])
theorem kX7_takeWord : ev_K mX7_takeWord 1 := ⟨ev_in4 193 rfl rfl, ev_in1 6 rfl rfl, by decide +kernel, by decide +kernel, by decide +kernel, by decide⟩
theorem iX7_takeWord : Cond.instanceMethod yX7_takeWord ∈ ev_T := ev_in4 192 rfl rfl
theorem vX7_takeWord : Cond.selects yX7_takeWord.cls yX7_takeWord yX7_takeWord ∈ ev_T := ev_inp (q := (yX7_takeWord, 10)) 30 (by decide +kernel) (by decide +kernel)
def mX7_tapeNumber : ev_M := (yX7_tapeNumber, cX7_tapeNumber, 3, none, [])
theorem kX7_tapeNumber : ev_K mX7_tapeNumber 1 := ⟨ev_in2 56 rfl rfl, ev_in1 6 rfl rfl, by decide +kernel, by decide +kernel, by decide +kernel, by decide⟩
theorem iX7_tapeNumber : Cond.instanceMethod yX7_tapeNumber ∈ ev_T := ev_in2 54 rfl rfl
theorem vX7_tapeNumber : Cond.selects yX7_tapeNumber.cls yX7_tapeNumber yX7_tapeNumber ∈ ev_T := ev_in2 55 rfl rfl
def mX7_wordAmong : ev_M := (yX7_wordAmong, cX7_wordAmong, 5, (some FieldType.int), [])
theorem kX7_wordAmong : ev_K mX7_wordAmong 1 := ⟨ev_in4 66 rfl rfl, ev_in1 6 rfl rfl, by decide +kernel, by decide +kernel, by decide +kernel, by decide⟩
theorem iX7_wordAmong : Cond.instanceMethod yX7_wordAmong ∈ ev_T := ev_in4 65 rfl rfl
theorem vX7_wordAmong : Cond.selects yX7_wordAmong.cls yX7_wordAmong yX7_wordAmong ∈ ev_T := ev_inp (q := (yX7_wordAmong, 10)) 13 (by decide +kernel) (by decide +kernel)
def mX8_init : ev_M := (yX8_init, cX8_init, 2, none, [])
theorem kX8_init : ev_K mX8_init 1 := ⟨ev_in3 202 rfl rfl, ev_in1 27 rfl rfl, by decide +kernel, by decide +kernel, by decide +kernel, by decide⟩
theorem iX8_init : Cond.instanceMethod yX8_init ∈ ev_T := ev_in3 201 rfl rfl
def mX9_add : ev_M := (yX9_add, cX9_add, 3, (some FieldType.int), [])
theorem kX9_add : ev_K mX9_add 2 := ⟨ev_in6 7 rfl rfl, ev_in1 19 rfl rfl, by decide +kernel, by decide +kernel, by decide +kernel, by decide⟩
theorem iX9_add : Cond.instanceMethod yX9_add ∈ ev_T := ev_in6 5 rfl rfl
theorem vX9_add : Cond.selects yX9_add.cls yX9_add yX9_add ∈ ev_T := ev_in6 6 rfl rfl
def mX9_bearers : ev_M := (yX9_bearers, cX9_bearers, 4, (some FieldType.int), [])
theorem kX9_bearers : ev_K mX9_bearers 1 := ⟨ev_in6 26 rfl rfl, ev_in1 19 rfl rfl, by decide +kernel, by decide +kernel, by decide +kernel, by decide⟩
theorem iX9_bearers : Cond.instanceMethod yX9_bearers ∈ ev_T := ev_in6 25 rfl rfl
theorem vX9_bearers : Cond.selects yX9_bearers.cls yX9_bearers yX9_bearers ∈ ev_T := ev_inp (q := (yX9_bearers, 3)) 53 (by decide +kernel) (by decide +kernel)
def mX9_bears : ev_M := (yX9_bears, cX9_bears, 3, (some FieldType.boolean), [])
theorem kX9_bears : ev_K mX9_bears 2 := ⟨ev_in6 30 rfl rfl, ev_in1 19 rfl rfl, by decide +kernel, by decide +kernel, by decide +kernel, by decide⟩
theorem iX9_bears : Cond.instanceMethod yX9_bears ∈ ev_T := ev_in6 29 rfl rfl
theorem vX9_bears : Cond.selects yX9_bears.cls yX9_bears yX9_bears ∈ ev_T := ev_inp (q := (yX9_bears, 3)) 54 (by decide +kernel) (by decide +kernel)
def mX9_field : ev_M := (yX9_field, cX9_field, 3, (some FieldType.int), [])
theorem kX9_field : ev_K mX9_field 1 := ⟨ev_in6 18 rfl rfl, ev_in1 19 rfl rfl, by decide +kernel, by decide +kernel, by decide +kernel, by decide⟩
theorem iX9_field : Cond.instanceMethod yX9_field ∈ ev_T := ev_in6 16 rfl rfl
theorem vX9_field : Cond.selects yX9_field.cls yX9_field yX9_field ∈ ev_T := ev_in6 17 rfl rfl
def mX9_init : ev_M := (yX9_init, cX9_init, 1, none, [])
theorem kX9_init : ev_K mX9_init 0 := ⟨ev_in2 228 rfl rfl, ev_in1 19 rfl rfl, by decide +kernel, by decide +kernel, by decide +kernel, by decide⟩
theorem iX9_init : Cond.instanceMethod yX9_init ∈ ev_T := ev_in2 227 rfl rfl
def mX9_lastAlike : ev_M := (yX9_lastAlike, cX9_lastAlike, 4, (some FieldType.int), [])
theorem kX9_lastAlike : ev_K mX9_lastAlike 1 := ⟨ev_in6 34 rfl rfl, ev_in1 19 rfl rfl, by decide +kernel, by decide +kernel, by decide +kernel, by decide⟩
theorem iX9_lastAlike : Cond.instanceMethod yX9_lastAlike ∈ ev_T := ev_in6 33 rfl rfl
theorem vX9_lastAlike : Cond.selects yX9_lastAlike.cls yX9_lastAlike yX9_lastAlike ∈ ev_T := ev_inp (q := (yX9_lastAlike, 3)) 55 (by decide +kernel) (by decide +kernel)
def mX9_mostBorne : ev_M := (yX9_mostBorne, cX9_mostBorne, 5, (some FieldType.int), [])
theorem kX9_mostBorne : ev_K mX9_mostBorne 0 := ⟨ev_in6 22 rfl rfl, ev_in1 19 rfl rfl, by decide +kernel, by decide +kernel, by decide +kernel, by decide⟩
theorem iX9_mostBorne : Cond.instanceMethod yX9_mostBorne ∈ ev_T := ev_in6 21 rfl rfl
theorem vX9_mostBorne : Cond.selects yX9_mostBorne.cls yX9_mostBorne yX9_mostBorne ∈ ev_T := ev_inp (q := (yX9_mostBorne, 3)) 52 (by decide +kernel) (by decide +kernel)
def mX9_rejected : ev_M := (yX9_rejected, cX9_rejected, 4, (some FieldType.int), [])
theorem kX9_rejected : ev_K mX9_rejected 1 := ⟨ev_in6 40 rfl rfl, ev_in1 19 rfl rfl, by decide +kernel, by decide +kernel, by decide +kernel, by decide⟩
theorem iX9_rejected : Cond.instanceMethod yX9_rejected ∈ ev_T := ev_in6 39 rfl rfl
theorem vX9_rejected : Cond.selects yX9_rejected.cls yX9_rejected yX9_rejected ∈ ev_T := ev_inp (q := (yX9_rejected, 3)) 56 (by decide +kernel) (by decide +kernel)
theorem wX5_43 : ev_N RX5 43 2 [.int 0, .int 0, .int 0, .int 0, .int 0] := ⟨RX1, TX1, 5, tyX1, rfl, rfl, ev_in2 202 rfl rfl, ev_in2 203 rfl rfl, ev_in1 18 rfl rfl, innX1, by decide +kernel, tyX1_ok, by decide +kernel⟩
theorem wX5_50 : ev_N RX5 50 10 [.null, .null, .int 0] := ⟨RX9, TX9, 3, tyX9, rfl, rfl, ev_in2 224 rfl rfl, ev_in2 225 rfl rfl, ev_in1 19 rfl rfl, innX9, by decide +kernel, tyX9_ok, by decide +kernel⟩
theorem wX6_42 : ev_N RX6 42 6 [.int 0, .int 0, .int 0, .int 0, .int 0, .int 0, .int 0, .int 0, .int 0, .int 0, .int 0, .int 0, .int 0, .null, .null, .null, .null] := ⟨RX5, TX5, 17, tyX5, rfl, rfl, ev_in5 48 rfl rfl, ev_in2 197 rfl rfl, ev_in1 17 rfl rfl, innX5, by decide +kernel, tyX5_ok, by decide +kernel⟩
theorem wX7_43 : ev_N RX7 43 5 [.int 0, .null, .null, .int 0, .null, .null, .int 0, .int 0, .int 0, .int 0, .int 0, .int 0, .int 0] := ⟨RX4, TX4, 13, tyX4, rfl, rfl, ev_in4 41 rfl rfl, ev_in1 68 rfl rfl, ev_in1 5 rfl rfl, innX4, by decide +kernel, tyX4_ok, by decide +kernel⟩
theorem wX11_100 : ev_N RX11 100 6 [.int 0, .int 0, .int 0, .int 0, .int 0, .int 0, .int 0, .int 0, .int 0, .int 0, .int 0, .int 0, .int 0, .null, .null, .null, .null] := ⟨RX5, TX5, 17, tyX5, rfl, rfl, ev_in2 87 rfl rfl, ev_in2 197 rfl rfl, ev_in1 17 rfl rfl, innX5, by decide +kernel, tyX5_ok, by decide +kernel⟩
theorem wX11_128 : ev_N RX11 128 9 [.int 0, .int 0] := ⟨RX8, TX8, 2, tyX8, rfl, rfl, ev_in2 92 rfl rfl, ev_in3 199 rfl rfl, ev_in1 27 rfl rfl, innX8, by decide +kernel, tyX8_ok, by decide +kernel⟩
theorem wX11_286 : ev_N RX11 286 1 [.null, .int 0, .int 0, .int 0, .int 0] := ⟨RX0, TX0, 5, tyX0, rfl, rfl, ev_in5 95 rfl rfl, ev_in6 48 rfl rfl, ev_in1 32 rfl rfl, innX0, by decide +kernel, tyX0_ok, by decide +kernel⟩
theorem wX11_36 : ev_N RX11 36 5 [.int 0, .null, .null, .int 0, .null, .null, .int 0, .int 0, .int 0, .int 0, .int 0, .int 0, .int 0] := ⟨RX4, TX4, 13, tyX4, rfl, rfl, ev_in1 67 rfl rfl, ev_in1 68 rfl rfl, ev_in1 5 rfl rfl, innX4, by decide +kernel, tyX4_ok, by decide +kernel⟩
theorem wX11_45 : ev_N RX11 45 8 [.null, .int 0, .int 0, .int 0, .int 0, .int 0, .int 0, .int 0, .null, .int 0] := ⟨RX7, TX7, 10, tyX7, rfl, rfl, ev_in1 135 rfl rfl, ev_in1 136 rfl rfl, ev_in1 6 rfl rfl, innX7, by decide +kernel, tyX7_ok, by decide +kernel⟩
theorem wX11_52 : ev_N RX11 52 11 [.null] := ⟨RX10, TX10, 1, tyX10, rfl, rfl, ev_in1 175 rfl rfl, ev_in1 176 rfl rfl, ev_in1 7 rfl rfl, innX10, by decide +kernel, tyX10_ok, by decide +kernel⟩
theorem wX11_59 : ev_N RX11 59 7 [.null, .null, .null] := ⟨RX6, TX6, 3, tyX6, rfl, rfl, ev_in1 185 rfl rfl, ev_in1 186 rfl rfl, ev_in1 8 rfl rfl, innX6, by decide +kernel, tyX6_ok, by decide +kernel⟩
theorem wX11_66 : ev_N RX11 66 3 [.null, .null, .null, .null, .null, .int 0] := ⟨RX2, TX2, 6, tyX2, rfl, rfl, ev_in1 202 rfl rfl, ev_in1 203 rfl rfl, ev_in1 9 rfl rfl, innX2, by decide +kernel, tyX2_ok, by decide +kernel⟩
theorem wX11_7 : ev_N RX11 7 0 [.int 0, .null, .int 0] := ⟨RJx4a65c, TJx4a65c, 3, tyJx4a65c, rfl, rfl, ev_in1 41 rfl rfl, ev_in1 42 rfl rfl, ev_in1 4 rfl rfl, innJx4a65c, by decide +kernel, tyJx4a65c_ok, by decide +kernel⟩
theorem wX11_73 : ev_N RX11 73 4 [.int 0, .int 0, .int 0, .int 0] := ⟨RX3, TX3, 4, tyX3, rfl, rfl, ev_in1 230 rfl rfl, ev_in1 231 rfl rfl, ev_in1 10 rfl rfl, innX3, by decide +kernel, tyX3_ok, by decide +kernel⟩
theorem wL_111 : ev_N RL 111 13 [.int 0, .int 0, .int 0, .null, .null, .null, .null, .null, .null, .null, .null, .null, .null, .null, .null, .null, .null, .null, .null, .null, .null, .int 0, .null, .null, .int 0, .null, .null, .null, .int 0, .int 0, .int 0, .int 0, .int 0, .int 0, .int 0, .int 0, .null, .null, .null, .null, .null, .null, .int 0, .int 0, .int 0, .int 0, .int 0, .int 0, .int 0, .null, .null, .null, .null, .int 0, .int 0, .null, .null, .null, .null, .null, .null, .null, .int 0, .null, .null, .null, .null, .null, .null, .int 0, .int 0, .int 0, .int 0, .int 0, .null, .null, .null, .null] := ⟨RX12, TX12, 78, tyX12, rfl, rfl, ev_in6 169 rfl rfl, ev_in6 170 rfl rfl, ev_in1 11 rfl rfl, innX12, by decide +kernel, tyX12_ok, by decide +kernel⟩
theorem wL_8 : ev_N RL 8 12 [.null, .null, .null, .null, .null, .int 0, .int 0, .null, .null, .null, .null, .null, .null] := ⟨RX11, TX11, 13, tyX11, rfl, rfl, ev_in1 33 rfl rfl, ev_in1 34 rfl rfl, ev_in1 1 rfl rfl, innX11, by decide +kernel, tyX11_ok, by decide +kernel⟩
theorem nX2_33 : Cond.constant RX2 33 (-2000000000) ∈ ev_T := ev_in5 116 rfl rfl
theorem nX5_78 : Cond.constant RX5 78 (100000) ∈ ev_T := ev_in5 211 rfl rfl
theorem nX9_40 : Cond.constant RX9 40 (100000) ∈ ev_T := ev_in6 35 rfl rfl
theorem nX11_260 : Cond.constant RX11 260 (-2000000000) ∈ ev_T := ev_in5 224 rfl rfl
theorem nX11_310 : Cond.constant RX11 310 (1000000) ∈ ev_T := ev_in5 1 rfl rfl
theorem nX11_84 : Cond.constant RX11 84 (100000) ∈ ev_T := ev_in2 109 rfl rfl
theorem nX12_180 : Cond.constant RX12 180 (100000) ∈ ev_T := ev_in7 182 rfl rfl
theorem nX12_402 : Cond.constant RX12 402 (1000000) ∈ ev_T := ev_in8 161 rfl rfl
theorem nX12_470 : Cond.constant RX12 470 (-2000000000) ∈ ev_T := ev_in9 26 rfl rfl
theorem nJ6_265 : Cond.constant RJ6 265 (1431655765) ∈ ev_T := ev_in5 146 rfl rfl
theorem nJ6_266 : Cond.constant RJ6 266 (858993459) ∈ ev_T := ev_in5 147 rfl rfl
theorem nJ6_267 : Cond.constant RJ6 267 (252645135) ∈ ev_T := ev_in5 148 rfl rfl
theorem nJ8_200 : Cond.constant RJ8 200 (2147483639) ∈ ev_T := ev_in3 104 rfl rfl
theorem nX6_69 : Cond.constantLong RX6 69 (-1) ∈ ev_T := ev_in5 70 rfl rfl
theorem nX11_345 : Cond.constantLong RX11 345 (10) ∈ ev_T := ev_in5 125 rfl rfl
theorem nX11_347 : Cond.constantLong RX11 347 (9) ∈ ev_T := ev_in5 126 rfl rfl
theorem nX11_349 : Cond.constantLong RX11 349 (3) ∈ ev_T := ev_in5 127 rfl rfl
theorem nX12_429 : Cond.constantLong RX12 429 (-1) ∈ ev_T := ev_in8 207 rfl rfl
theorem fX0_15 : ev_Fr RX0 15 1 0 := ⟨RX0, TX0, 5, "PaperBoard$Appeal", rfl, by decide, ev_in6 53 rfl rfl, Or.inl rfl, innX0, ggX0⟩
theorem pX0_15 : ev_F RX0 15 1 0 (.object "PaperBoard$Paper") true := ⟨RX0, TX0, 5, "PaperBoard$Appeal", tyX0, rfl, by decide, ev_in6 53 rfl rfl, Or.inl rfl, innX0, ggX0, tyX0_ok, nmX0, rfl, rfl, fun _ => rfl⟩
theorem fX0_19 : ev_Fr RX0 19 1 1 := ⟨RX0, TX0, 5, "PaperBoard$Appeal", rfl, by decide, ev_in6 55 rfl rfl, Or.inl rfl, innX0, ggX0⟩
theorem pX0_19 : ev_F RX0 19 1 1 (.int) true := ⟨RX0, TX0, 5, "PaperBoard$Appeal", tyX0, rfl, by decide, ev_in6 55 rfl rfl, Or.inl rfl, innX0, ggX0, tyX0_ok, nmX0, rfl, rfl, fun _ => rfl⟩
theorem fX0_22 : ev_Fr RX0 22 6 1 := ⟨RX5, TX5, 17, "PaperBoard$Paper", rfl, by decide, ev_in3 4 rfl rfl, Or.inl rfl, innX5, ggX5⟩
theorem pX0_22 : ev_F RX0 22 6 1 (.int) false := ⟨RX5, TX5, 17, "PaperBoard$Paper", tyX5, rfl, by decide, ev_in3 4 rfl rfl, Or.inl rfl, innX5, ggX5, tyX5_ok, nmX5, rfl, rfl, fun h => by cases h⟩
theorem fX0_27 : ev_Fr RX0 27 1 2 := ⟨RX0, TX0, 5, "PaperBoard$Appeal", rfl, by decide, ev_in6 57 rfl rfl, Or.inl rfl, innX0, ggX0⟩
theorem pX0_27 : ev_F RX0 27 1 2 (.int) true := ⟨RX0, TX0, 5, "PaperBoard$Appeal", tyX0, rfl, by decide, ev_in6 57 rfl rfl, Or.inl rfl, innX0, ggX0, tyX0_ok, nmX0, rfl, rfl, fun _ => rfl⟩
theorem fX0_28 : ev_Fr RX0 28 6 2 := ⟨RX5, TX5, 17, "PaperBoard$Paper", rfl, by decide, ev_in3 8 rfl rfl, Or.inl rfl, innX5, ggX5⟩
theorem pX0_28 : ev_F RX0 28 6 2 (.int) false := ⟨RX5, TX5, 17, "PaperBoard$Paper", tyX5, rfl, by decide, ev_in3 8 rfl rfl, Or.inl rfl, innX5, ggX5, tyX5_ok, nmX5, rfl, rfl, fun h => by cases h⟩
theorem fX0_31 : ev_Fr RX0 31 1 3 := ⟨RX0, TX0, 5, "PaperBoard$Appeal", rfl, by decide, ev_in6 58 rfl rfl, Or.inl rfl, innX0, ggX0⟩
theorem pX0_31 : ev_F RX0 31 1 3 (.int) true := ⟨RX0, TX0, 5, "PaperBoard$Appeal", tyX0, rfl, by decide, ev_in6 58 rfl rfl, Or.inl rfl, innX0, ggX0, tyX0_ok, nmX0, rfl, rfl, fun _ => rfl⟩
theorem fX0_32 : ev_Fr RX0 32 6 0 := ⟨RX5, TX5, 17, "PaperBoard$Paper", rfl, by decide, ev_in3 1 rfl rfl, Or.inl rfl, innX5, ggX5⟩
theorem fX0_9 : ev_Fr RX0 9 1 4 := ⟨RX0, TX0, 5, "PaperBoard$Appeal", rfl, by decide, ev_in6 59 rfl rfl, Or.inl rfl, innX0, ggX0⟩
theorem pX0_9 : ev_F RX0 9 1 4 (.int) false := ⟨RX0, TX0, 5, "PaperBoard$Appeal", tyX0, rfl, by decide, ev_in6 59 rfl rfl, Or.inl rfl, innX0, ggX0, tyX0_ok, nmX0, rfl, rfl, fun h => by cases h⟩
theorem fX1_15 : ev_Fr RX1 15 2 1 := ⟨RX1, TX1, 5, "PaperBoard$Breaches", rfl, by decide, ev_in2 209 rfl rfl, Or.inl rfl, innX1, ggX1⟩
theorem pX1_15 : ev_F RX1 15 2 1 (.int) false := ⟨RX1, TX1, 5, "PaperBoard$Breaches", tyX1, rfl, by decide, ev_in2 209 rfl rfl, Or.inl rfl, innX1, ggX1, tyX1_ok, nmX1, rfl, rfl, fun h => by cases h⟩
theorem fX1_18 : ev_Fr RX1 18 2 2 := ⟨RX1, TX1, 5, "PaperBoard$Breaches", rfl, by decide, ev_in2 210 rfl rfl, Or.inl rfl, innX1, ggX1⟩
theorem pX1_18 : ev_F RX1 18 2 2 (.int) false := ⟨RX1, TX1, 5, "PaperBoard$Breaches", tyX1, rfl, by decide, ev_in2 210 rfl rfl, Or.inl rfl, innX1, ggX1, tyX1_ok, nmX1, rfl, rfl, fun h => by cases h⟩
theorem fX1_21 : ev_Fr RX1 21 2 3 := ⟨RX1, TX1, 5, "PaperBoard$Breaches", rfl, by decide, ev_in2 211 rfl rfl, Or.inl rfl, innX1, ggX1⟩
theorem pX1_21 : ev_F RX1 21 2 3 (.int) false := ⟨RX1, TX1, 5, "PaperBoard$Breaches", tyX1, rfl, by decide, ev_in2 211 rfl rfl, Or.inl rfl, innX1, ggX1, tyX1_ok, nmX1, rfl, rfl, fun h => by cases h⟩
theorem fX1_24 : ev_Fr RX1 24 2 4 := ⟨RX1, TX1, 5, "PaperBoard$Breaches", rfl, by decide, ev_in2 212 rfl rfl, Or.inl rfl, innX1, ggX1⟩
theorem pX1_24 : ev_F RX1 24 2 4 (.int) false := ⟨RX1, TX1, 5, "PaperBoard$Breaches", tyX1, rfl, by decide, ev_in2 212 rfl rfl, Or.inl rfl, innX1, ggX1, tyX1_ok, nmX1, rfl, rfl, fun h => by cases h⟩
theorem fX1_9 : ev_Fr RX1 9 2 0 := ⟨RX1, TX1, 5, "PaperBoard$Breaches", rfl, by decide, ev_in2 208 rfl rfl, Or.inl rfl, innX1, ggX1⟩
theorem pX1_9 : ev_F RX1 9 2 0 (.int) false := ⟨RX1, TX1, 5, "PaperBoard$Breaches", tyX1, rfl, by decide, ev_in2 208 rfl rfl, Or.inl rfl, innX1, ggX1, tyX1_ok, nmX1, rfl, rfl, fun h => by cases h⟩
theorem fX2_11 : ev_Fr RX2 11 3 0 := ⟨RX2, TX2, 6, "PaperBoard$Ledger", rfl, by decide, ev_in1 210 rfl rfl, Or.inl rfl, innX2, ggX2⟩
theorem pX2_11 : ev_F RX2 11 3 0 (.array (.array .int)) true := ⟨RX2, TX2, 6, "PaperBoard$Ledger", tyX2, rfl, by decide, ev_in1 210 rfl rfl, Or.inl rfl, innX2, ggX2, tyX2_ok, nmX2, rfl, rfl, fun _ => rfl⟩
theorem fX2_17 : ev_Fr RX2 17 3 1 := ⟨RX2, TX2, 6, "PaperBoard$Ledger", rfl, by decide, ev_in1 211 rfl rfl, Or.inl rfl, innX2, ggX2⟩
theorem pX2_17 : ev_F RX2 17 3 1 (.array .int) true := ⟨RX2, TX2, 6, "PaperBoard$Ledger", tyX2, rfl, by decide, ev_in1 211 rfl rfl, Or.inl rfl, innX2, ggX2, tyX2_ok, nmX2, rfl, rfl, fun _ => rfl⟩
theorem fX2_20 : ev_Fr RX2 20 3 2 := ⟨RX2, TX2, 6, "PaperBoard$Ledger", rfl, by decide, ev_in1 212 rfl rfl, Or.inl rfl, innX2, ggX2⟩
theorem pX2_20 : ev_F RX2 20 3 2 (.array .int) true := ⟨RX2, TX2, 6, "PaperBoard$Ledger", tyX2, rfl, by decide, ev_in1 212 rfl rfl, Or.inl rfl, innX2, ggX2, tyX2_ok, nmX2, rfl, rfl, fun _ => rfl⟩
theorem fX2_23 : ev_Fr RX2 23 3 3 := ⟨RX2, TX2, 6, "PaperBoard$Ledger", rfl, by decide, ev_in1 213 rfl rfl, Or.inl rfl, innX2, ggX2⟩
theorem pX2_23 : ev_F RX2 23 3 3 (.array .int) true := ⟨RX2, TX2, 6, "PaperBoard$Ledger", tyX2, rfl, by decide, ev_in1 213 rfl rfl, Or.inl rfl, innX2, ggX2, tyX2_ok, nmX2, rfl, rfl, fun _ => rfl⟩
theorem fX2_26 : ev_Fr RX2 26 3 4 := ⟨RX2, TX2, 6, "PaperBoard$Ledger", rfl, by decide, ev_in1 214 rfl rfl, Or.inl rfl, innX2, ggX2⟩
theorem pX2_26 : ev_F RX2 26 3 4 (.array .int) true := ⟨RX2, TX2, 6, "PaperBoard$Ledger", tyX2, rfl, by decide, ev_in1 214 rfl rfl, Or.inl rfl, innX2, ggX2, tyX2_ok, nmX2, rfl, rfl, fun _ => rfl⟩
theorem fX2_29 : ev_Fr RX2 29 3 5 := ⟨RX2, TX2, 6, "PaperBoard$Ledger", rfl, by decide, ev_in1 215 rfl rfl, Or.inl rfl, innX2, ggX2⟩
theorem pX2_29 : ev_F RX2 29 3 5 (.int) false := ⟨RX2, TX2, 6, "PaperBoard$Ledger", tyX2, rfl, by decide, ev_in1 215 rfl rfl, Or.inl rfl, innX2, ggX2, tyX2_ok, nmX2, rfl, rfl, fun h => by cases h⟩
theorem fX2_44 : ev_Fr RX2 44 6 10 := ⟨RX5, TX5, 17, "PaperBoard$Paper", rfl, by decide, ev_in3 31 rfl rfl, Or.inl rfl, innX5, ggX5⟩
theorem pX2_44 : ev_F RX2 44 6 10 (.int) false := ⟨RX5, TX5, 17, "PaperBoard$Paper", tyX5, rfl, by decide, ev_in3 31 rfl rfl, Or.inl rfl, innX5, ggX5, tyX5_ok, nmX5, rfl, rfl, fun h => by cases h⟩
theorem fX2_49 : ev_Fr RX2 49 6 7 := ⟨RX5, TX5, 17, "PaperBoard$Paper", rfl, by decide, ev_in3 23 rfl rfl, Or.inl rfl, innX5, ggX5⟩
theorem pX2_49 : ev_F RX2 49 6 7 (.int) false := ⟨RX5, TX5, 17, "PaperBoard$Paper", tyX5, rfl, by decide, ev_in3 23 rfl rfl, Or.inl rfl, innX5, ggX5, tyX5_ok, nmX5, rfl, rfl, fun h => by cases h⟩
theorem fX2_52 : ev_Fr RX2 52 6 6 := ⟨RX5, TX5, 17, "PaperBoard$Paper", rfl, by decide, ev_in3 20 rfl rfl, Or.inl rfl, innX5, ggX5⟩
theorem pX2_52 : ev_F RX2 52 6 6 (.int) false := ⟨RX5, TX5, 17, "PaperBoard$Paper", tyX5, rfl, by decide, ev_in3 20 rfl rfl, Or.inl rfl, innX5, ggX5, tyX5_ok, nmX5, rfl, rfl, fun h => by cases h⟩
theorem fX3_13 : ev_Fr RX3 13 4 1 := ⟨RX3, TX3, 4, "PaperBoard$Offer", rfl, by decide, ev_in1 237 rfl rfl, Or.inl rfl, innX3, ggX3⟩
theorem pX3_13 : ev_F RX3 13 4 1 (.int) false := ⟨RX3, TX3, 4, "PaperBoard$Offer", tyX3, rfl, by decide, ev_in1 237 rfl rfl, Or.inl rfl, innX3, ggX3, tyX3_ok, nmX3, rfl, rfl, fun h => by cases h⟩
theorem fX3_16 : ev_Fr RX3 16 4 2 := ⟨RX3, TX3, 4, "PaperBoard$Offer", rfl, by decide, ev_in1 238 rfl rfl, Or.inl rfl, innX3, ggX3⟩
theorem pX3_16 : ev_F RX3 16 4 2 (.int) false := ⟨RX3, TX3, 4, "PaperBoard$Offer", tyX3, rfl, by decide, ev_in1 238 rfl rfl, Or.inl rfl, innX3, ggX3, tyX3_ok, nmX3, rfl, rfl, fun h => by cases h⟩
theorem fX3_19 : ev_Fr RX3 19 4 3 := ⟨RX3, TX3, 4, "PaperBoard$Offer", rfl, by decide, ev_in1 239 rfl rfl, Or.inl rfl, innX3, ggX3⟩
theorem pX3_19 : ev_F RX3 19 4 3 (.int) false := ⟨RX3, TX3, 4, "PaperBoard$Offer", tyX3, rfl, by decide, ev_in1 239 rfl rfl, Or.inl rfl, innX3, ggX3, tyX3_ok, nmX3, rfl, rfl, fun h => by cases h⟩
theorem fX3_7 : ev_Fr RX3 7 4 0 := ⟨RX3, TX3, 4, "PaperBoard$Offer", rfl, by decide, ev_in1 236 rfl rfl, Or.inl rfl, innX3, ggX3⟩
theorem pX3_7 : ev_F RX3 7 4 0 (.int) false := ⟨RX3, TX3, 4, "PaperBoard$Offer", tyX3, rfl, by decide, ev_in1 236 rfl rfl, Or.inl rfl, innX3, ggX3, tyX3_ok, nmX3, rfl, rfl, fun h => by cases h⟩
theorem fX4_15 : ev_Fr RX4 15 5 2 := ⟨RX4, TX4, 13, "PaperBoard$Order", rfl, by decide, ev_in1 78 rfl rfl, Or.inl rfl, innX4, ggX4⟩
theorem pX4_15 : ev_F RX4 15 5 2 (.array .int) false := ⟨RX4, TX4, 13, "PaperBoard$Order", tyX4, rfl, by decide, ev_in1 78 rfl rfl, Or.inl rfl, innX4, ggX4, tyX4_ok, nmX4, rfl, rfl, fun h => by cases h⟩
theorem fX4_18 : ev_Fr RX4 18 5 3 := ⟨RX4, TX4, 13, "PaperBoard$Order", rfl, by decide, ev_in1 81 rfl rfl, Or.inl rfl, innX4, ggX4⟩
theorem pX4_18 : ev_F RX4 18 5 3 (.int) false := ⟨RX4, TX4, 13, "PaperBoard$Order", tyX4, rfl, by decide, ev_in1 81 rfl rfl, Or.inl rfl, innX4, ggX4, tyX4_ok, nmX4, rfl, rfl, fun h => by cases h⟩
theorem fX4_22 : ev_Fr RX4 22 5 4 := ⟨RX4, TX4, 13, "PaperBoard$Order", rfl, by decide, ev_in1 84 rfl rfl, Or.inl rfl, innX4, ggX4⟩
theorem pX4_22 : ev_F RX4 22 5 4 (.array .int) true := ⟨RX4, TX4, 13, "PaperBoard$Order", tyX4, rfl, by decide, ev_in1 84 rfl rfl, Or.inl rfl, innX4, ggX4, tyX4_ok, nmX4, rfl, rfl, fun _ => rfl⟩
theorem fX4_25 : ev_Fr RX4 25 5 5 := ⟨RX4, TX4, 13, "PaperBoard$Order", rfl, by decide, ev_in1 85 rfl rfl, Or.inl rfl, innX4, ggX4⟩
theorem pX4_25 : ev_F RX4 25 5 5 (.array .int) true := ⟨RX4, TX4, 13, "PaperBoard$Order", tyX4, rfl, by decide, ev_in1 85 rfl rfl, Or.inl rfl, innX4, ggX4, tyX4_ok, nmX4, rfl, rfl, fun _ => rfl⟩
theorem fX4_28 : ev_Fr RX4 28 5 6 := ⟨RX4, TX4, 13, "PaperBoard$Order", rfl, by decide, ev_in1 86 rfl rfl, Or.inl rfl, innX4, ggX4⟩
theorem pX4_28 : ev_F RX4 28 5 6 (.int) false := ⟨RX4, TX4, 13, "PaperBoard$Order", tyX4, rfl, by decide, ev_in1 86 rfl rfl, Or.inl rfl, innX4, ggX4, tyX4_ok, nmX4, rfl, rfl, fun h => by cases h⟩
theorem fX4_31 : ev_Fr RX4 31 5 7 := ⟨RX4, TX4, 13, "PaperBoard$Order", rfl, by decide, ev_in1 89 rfl rfl, Or.inl rfl, innX4, ggX4⟩
theorem pX4_31 : ev_F RX4 31 5 7 (.int) false := ⟨RX4, TX4, 13, "PaperBoard$Order", tyX4, rfl, by decide, ev_in1 89 rfl rfl, Or.inl rfl, innX4, ggX4, tyX4_ok, nmX4, rfl, rfl, fun h => by cases h⟩
theorem fX4_34 : ev_Fr RX4 34 5 8 := ⟨RX4, TX4, 13, "PaperBoard$Order", rfl, by decide, ev_in1 92 rfl rfl, Or.inl rfl, innX4, ggX4⟩
theorem pX4_34 : ev_F RX4 34 5 8 (.int) false := ⟨RX4, TX4, 13, "PaperBoard$Order", tyX4, rfl, by decide, ev_in1 92 rfl rfl, Or.inl rfl, innX4, ggX4, tyX4_ok, nmX4, rfl, rfl, fun h => by cases h⟩
theorem fX4_37 : ev_Fr RX4 37 5 9 := ⟨RX4, TX4, 13, "PaperBoard$Order", rfl, by decide, ev_in1 95 rfl rfl, Or.inl rfl, innX4, ggX4⟩
theorem pX4_37 : ev_F RX4 37 5 9 (.int) false := ⟨RX4, TX4, 13, "PaperBoard$Order", tyX4, rfl, by decide, ev_in1 95 rfl rfl, Or.inl rfl, innX4, ggX4, tyX4_ok, nmX4, rfl, rfl, fun h => by cases h⟩
theorem fX4_40 : ev_Fr RX4 40 5 10 := ⟨RX4, TX4, 13, "PaperBoard$Order", rfl, by decide, ev_in1 98 rfl rfl, Or.inl rfl, innX4, ggX4⟩
theorem pX4_40 : ev_F RX4 40 5 10 (.int) false := ⟨RX4, TX4, 13, "PaperBoard$Order", tyX4, rfl, by decide, ev_in1 98 rfl rfl, Or.inl rfl, innX4, ggX4, tyX4_ok, nmX4, rfl, rfl, fun h => by cases h⟩
theorem fX4_43 : ev_Fr RX4 43 5 11 := ⟨RX4, TX4, 13, "PaperBoard$Order", rfl, by decide, ev_in1 101 rfl rfl, Or.inl rfl, innX4, ggX4⟩
theorem pX4_43 : ev_F RX4 43 5 11 (.boolean) false := ⟨RX4, TX4, 13, "PaperBoard$Order", tyX4, rfl, by decide, ev_in1 101 rfl rfl, Or.inl rfl, innX4, ggX4, tyX4_ok, nmX4, rfl, rfl, fun h => by cases h⟩
theorem fX4_47 : ev_Fr RX4 47 5 12 := ⟨RX4, TX4, 13, "PaperBoard$Order", rfl, by decide, ev_in1 104 rfl rfl, Or.inl rfl, innX4, ggX4⟩
theorem pX4_47 : ev_F RX4 47 5 12 (.int) false := ⟨RX4, TX4, 13, "PaperBoard$Order", tyX4, rfl, by decide, ev_in1 104 rfl rfl, Or.inl rfl, innX4, ggX4, tyX4_ok, nmX4, rfl, rfl, fun h => by cases h⟩
theorem fX4_50 : ev_Fr RX4 50 5 0 := ⟨RX4, TX4, 13, "PaperBoard$Order", rfl, by decide, ev_in1 73 rfl rfl, Or.inl rfl, innX4, ggX4⟩
theorem pX4_50 : ev_F RX4 50 5 0 (.int) true := ⟨RX4, TX4, 13, "PaperBoard$Order", tyX4, rfl, by decide, ev_in1 73 rfl rfl, Or.inl rfl, innX4, ggX4, tyX4_ok, nmX4, rfl, rfl, fun _ => rfl⟩
theorem fX4_9 : ev_Fr RX4 9 5 1 := ⟨RX4, TX4, 13, "PaperBoard$Order", rfl, by decide, ev_in1 75 rfl rfl, Or.inl rfl, innX4, ggX4⟩
theorem pX4_9 : ev_F RX4 9 5 1 (.array .int) false := ⟨RX4, TX4, 13, "PaperBoard$Order", tyX4, rfl, by decide, ev_in1 75 rfl rfl, Or.inl rfl, innX4, ggX4, tyX4_ok, nmX4, rfl, rfl, fun h => by cases h⟩
theorem fX5_15 : ev_Fr RX5 15 6 6 := ⟨RX5, TX5, 17, "PaperBoard$Paper", rfl, by decide, ev_in3 19 rfl rfl, Or.inl rfl, innX5, ggX5⟩
theorem pX5_15 : ev_F RX5 15 6 6 (.int) false := ⟨RX5, TX5, 17, "PaperBoard$Paper", tyX5, rfl, by decide, ev_in3 19 rfl rfl, Or.inl rfl, innX5, ggX5, tyX5_ok, nmX5, rfl, rfl, fun h => by cases h⟩
theorem fX5_18 : ev_Fr RX5 18 6 7 := ⟨RX5, TX5, 17, "PaperBoard$Paper", rfl, by decide, ev_in3 22 rfl rfl, Or.inl rfl, innX5, ggX5⟩
theorem pX5_18 : ev_F RX5 18 6 7 (.int) false := ⟨RX5, TX5, 17, "PaperBoard$Paper", tyX5, rfl, by decide, ev_in3 22 rfl rfl, Or.inl rfl, innX5, ggX5, tyX5_ok, nmX5, rfl, rfl, fun h => by cases h⟩
theorem fX5_21 : ev_Fr RX5 21 6 8 := ⟨RX5, TX5, 17, "PaperBoard$Paper", rfl, by decide, ev_in3 26 rfl rfl, Or.inl rfl, innX5, ggX5⟩
theorem pX5_21 : ev_F RX5 21 6 8 (.int) false := ⟨RX5, TX5, 17, "PaperBoard$Paper", tyX5, rfl, by decide, ev_in3 26 rfl rfl, Or.inl rfl, innX5, ggX5, tyX5_ok, nmX5, rfl, rfl, fun h => by cases h⟩
theorem fX5_24 : ev_Fr RX5 24 6 9 := ⟨RX5, TX5, 17, "PaperBoard$Paper", rfl, by decide, ev_in3 28 rfl rfl, Or.inl rfl, innX5, ggX5⟩
theorem pX5_24 : ev_F RX5 24 6 9 (.int) false := ⟨RX5, TX5, 17, "PaperBoard$Paper", tyX5, rfl, by decide, ev_in3 28 rfl rfl, Or.inl rfl, innX5, ggX5, tyX5_ok, nmX5, rfl, rfl, fun h => by cases h⟩
theorem fX5_27 : ev_Fr RX5 27 6 10 := ⟨RX5, TX5, 17, "PaperBoard$Paper", rfl, by decide, ev_in3 30 rfl rfl, Or.inl rfl, innX5, ggX5⟩
theorem pX5_27 : ev_F RX5 27 6 10 (.int) false := ⟨RX5, TX5, 17, "PaperBoard$Paper", tyX5, rfl, by decide, ev_in3 30 rfl rfl, Or.inl rfl, innX5, ggX5, tyX5_ok, nmX5, rfl, rfl, fun h => by cases h⟩
theorem fX5_30 : ev_Fr RX5 30 6 11 := ⟨RX5, TX5, 17, "PaperBoard$Paper", rfl, by decide, ev_in3 34 rfl rfl, Or.inl rfl, innX5, ggX5⟩
theorem pX5_30 : ev_F RX5 30 6 11 (.int) false := ⟨RX5, TX5, 17, "PaperBoard$Paper", tyX5, rfl, by decide, ev_in3 34 rfl rfl, Or.inl rfl, innX5, ggX5, tyX5_ok, nmX5, rfl, rfl, fun h => by cases h⟩
theorem fX5_33 : ev_Fr RX5 33 6 12 := ⟨RX5, TX5, 17, "PaperBoard$Paper", rfl, by decide, ev_in3 37 rfl rfl, Or.inl rfl, innX5, ggX5⟩
theorem pX5_33 : ev_F RX5 33 6 12 (.int) false := ⟨RX5, TX5, 17, "PaperBoard$Paper", tyX5, rfl, by decide, ev_in3 37 rfl rfl, Or.inl rfl, innX5, ggX5, tyX5_ok, nmX5, rfl, rfl, fun h => by cases h⟩
theorem fX5_36 : ev_Fr RX5 36 6 13 := ⟨RX5, TX5, 17, "PaperBoard$Paper", rfl, by decide, ev_in3 40 rfl rfl, Or.inl rfl, innX5, ggX5⟩
theorem pX5_36 : ev_F RX5 36 6 13 (.array .int) true := ⟨RX5, TX5, 17, "PaperBoard$Paper", tyX5, rfl, by decide, ev_in3 40 rfl rfl, Or.inl rfl, innX5, ggX5, tyX5_ok, nmX5, rfl, rfl, fun _ => rfl⟩
theorem fX5_40 : ev_Fr RX5 40 6 14 := ⟨RX5, TX5, 17, "PaperBoard$Paper", rfl, by decide, ev_in3 42 rfl rfl, Or.inl rfl, innX5, ggX5⟩
theorem pX5_40 : ev_F RX5 40 6 14 (.array .int) true := ⟨RX5, TX5, 17, "PaperBoard$Paper", tyX5, rfl, by decide, ev_in3 42 rfl rfl, Or.inl rfl, innX5, ggX5, tyX5_ok, nmX5, rfl, rfl, fun _ => rfl⟩
theorem fX5_46 : ev_Fr RX5 46 6 15 := ⟨RX5, TX5, 17, "PaperBoard$Paper", rfl, by decide, ev_in3 43 rfl rfl, Or.inl rfl, innX5, ggX5⟩
theorem pX5_46 : ev_F RX5 46 6 15 (.object "PaperBoard$Breaches") true := ⟨RX5, TX5, 17, "PaperBoard$Paper", tyX5, rfl, by decide, ev_in3 43 rfl rfl, Or.inl rfl, innX5, ggX5, tyX5_ok, nmX5, rfl, rfl, fun _ => rfl⟩
theorem fX5_53 : ev_Fr RX5 53 6 16 := ⟨RX5, TX5, 17, "PaperBoard$Paper", rfl, by decide, ev_in3 45 rfl rfl, Or.inl rfl, innX5, ggX5⟩
theorem pX5_53 : ev_F RX5 53 6 16 (.object "PaperBoard$Sources") true := ⟨RX5, TX5, 17, "PaperBoard$Paper", tyX5, rfl, by decide, ev_in3 45 rfl rfl, Or.inl rfl, innX5, ggX5, tyX5_ok, nmX5, rfl, rfl, fun _ => rfl⟩
theorem fX5_57 : ev_Fr RX5 57 6 0 := ⟨RX5, TX5, 17, "PaperBoard$Paper", rfl, by decide, ev_in3 0 rfl rfl, Or.inl rfl, innX5, ggX5⟩
theorem pX5_57 : ev_F RX5 57 6 0 (.int) true := ⟨RX5, TX5, 17, "PaperBoard$Paper", tyX5, rfl, by decide, ev_in3 0 rfl rfl, Or.inl rfl, innX5, ggX5, tyX5_ok, nmX5, rfl, rfl, fun _ => rfl⟩
theorem fX5_60 : ev_Fr RX5 60 6 1 := ⟨RX5, TX5, 17, "PaperBoard$Paper", rfl, by decide, ev_in3 5 rfl rfl, Or.inl rfl, innX5, ggX5⟩
theorem pX5_60 : ev_F RX5 60 6 1 (.int) false := ⟨RX5, TX5, 17, "PaperBoard$Paper", tyX5, rfl, by decide, ev_in3 5 rfl rfl, Or.inl rfl, innX5, ggX5, tyX5_ok, nmX5, rfl, rfl, fun h => by cases h⟩
theorem fX5_63 : ev_Fr RX5 63 6 2 := ⟨RX5, TX5, 17, "PaperBoard$Paper", rfl, by decide, ev_in3 9 rfl rfl, Or.inl rfl, innX5, ggX5⟩
theorem pX5_63 : ev_F RX5 63 6 2 (.int) false := ⟨RX5, TX5, 17, "PaperBoard$Paper", tyX5, rfl, by decide, ev_in3 9 rfl rfl, Or.inl rfl, innX5, ggX5, tyX5_ok, nmX5, rfl, rfl, fun h => by cases h⟩
theorem fX5_66 : ev_Fr RX5 66 6 3 := ⟨RX5, TX5, 17, "PaperBoard$Paper", rfl, by decide, ev_in3 12 rfl rfl, Or.inl rfl, innX5, ggX5⟩
theorem pX5_66 : ev_F RX5 66 6 3 (.int) false := ⟨RX5, TX5, 17, "PaperBoard$Paper", tyX5, rfl, by decide, ev_in3 12 rfl rfl, Or.inl rfl, innX5, ggX5, tyX5_ok, nmX5, rfl, rfl, fun h => by cases h⟩
theorem fX5_69 : ev_Fr RX5 69 6 4 := ⟨RX5, TX5, 17, "PaperBoard$Paper", rfl, by decide, ev_in3 14 rfl rfl, Or.inl rfl, innX5, ggX5⟩
theorem pX5_69 : ev_F RX5 69 6 4 (.int) false := ⟨RX5, TX5, 17, "PaperBoard$Paper", tyX5, rfl, by decide, ev_in3 14 rfl rfl, Or.inl rfl, innX5, ggX5, tyX5_ok, nmX5, rfl, rfl, fun h => by cases h⟩
theorem fX5_9 : ev_Fr RX5 9 6 5 := ⟨RX5, TX5, 17, "PaperBoard$Paper", rfl, by decide, ev_in3 17 rfl rfl, Or.inl rfl, innX5, ggX5⟩
theorem pX5_9 : ev_F RX5 9 6 5 (.int) false := ⟨RX5, TX5, 17, "PaperBoard$Paper", tyX5, rfl, by decide, ev_in3 17 rfl rfl, Or.inl rfl, innX5, ggX5, tyX5_ok, nmX5, rfl, rfl, fun h => by cases h⟩
theorem fX6_15 : ev_Fr RX6 15 7 1 := ⟨RX6, TX6, 3, "PaperBoard$Parting", rfl, by decide, ev_in1 192 rfl rfl, Or.inl rfl, innX6, ggX6⟩
theorem pX6_15 : ev_F RX6 15 7 1 (.array .int) true := ⟨RX6, TX6, 3, "PaperBoard$Parting", tyX6, rfl, by decide, ev_in1 192 rfl rfl, Or.inl rfl, innX6, ggX6, tyX6_ok, nmX6, rfl, rfl, fun _ => rfl⟩
theorem fX6_18 : ev_Fr RX6 18 7 2 := ⟨RX6, TX6, 3, "PaperBoard$Parting", rfl, by decide, ev_in1 193 rfl rfl, Or.inl rfl, innX6, ggX6⟩
theorem pX6_18 : ev_F RX6 18 7 2 (.array .long) true := ⟨RX6, TX6, 3, "PaperBoard$Parting", tyX6, rfl, by decide, ev_in1 193 rfl rfl, Or.inl rfl, innX6, ggX6, tyX6_ok, nmX6, rfl, rfl, fun _ => rfl⟩
theorem fX6_44 : ev_Fr RX6 44 6 11 := ⟨RX5, TX5, 17, "PaperBoard$Paper", rfl, by decide, ev_in3 35 rfl rfl, Or.inl rfl, innX5, ggX5⟩
theorem pX6_44 : ev_F RX6 44 6 11 (.int) false := ⟨RX5, TX5, 17, "PaperBoard$Paper", tyX5, rfl, by decide, ev_in3 35 rfl rfl, Or.inl rfl, innX5, ggX5, tyX5_ok, nmX5, rfl, rfl, fun h => by cases h⟩
theorem fX6_58 : ev_Fr RX6 58 6 12 := ⟨RX5, TX5, 17, "PaperBoard$Paper", rfl, by decide, ev_in3 38 rfl rfl, Or.inl rfl, innX5, ggX5⟩
theorem pX6_58 : ev_F RX6 58 6 12 (.int) false := ⟨RX5, TX5, 17, "PaperBoard$Paper", tyX5, rfl, by decide, ev_in3 38 rfl rfl, Or.inl rfl, innX5, ggX5, tyX5_ok, nmX5, rfl, rfl, fun h => by cases h⟩
theorem fX6_9 : ev_Fr RX6 9 7 0 := ⟨RX6, TX6, 3, "PaperBoard$Parting", rfl, by decide, ev_in1 191 rfl rfl, Or.inl rfl, innX6, ggX6⟩
theorem pX6_9 : ev_F RX6 9 7 0 (.array .int) true := ⟨RX6, TX6, 3, "PaperBoard$Parting", tyX6, rfl, by decide, ev_in1 191 rfl rfl, Or.inl rfl, innX6, ggX6, tyX6_ok, nmX6, rfl, rfl, fun _ => rfl⟩
theorem fX7_109 : ev_Fr RX7 109 5 1 := ⟨RX4, TX4, 13, "PaperBoard$Order", rfl, by decide, ev_in1 76 rfl rfl, Or.inl rfl, innX4, ggX4⟩
theorem pX7_109 : ev_F RX7 109 5 1 (.array .int) false := ⟨RX4, TX4, 13, "PaperBoard$Order", tyX4, rfl, by decide, ev_in1 76 rfl rfl, Or.inl rfl, innX4, ggX4, tyX4_ok, nmX4, rfl, rfl, fun h => by cases h⟩
theorem fX7_115 : ev_Fr RX7 115 5 2 := ⟨RX4, TX4, 13, "PaperBoard$Order", rfl, by decide, ev_in1 79 rfl rfl, Or.inl rfl, innX4, ggX4⟩
theorem pX7_115 : ev_F RX7 115 5 2 (.array .int) false := ⟨RX4, TX4, 13, "PaperBoard$Order", tyX4, rfl, by decide, ev_in1 79 rfl rfl, Or.inl rfl, innX4, ggX4, tyX4_ok, nmX4, rfl, rfl, fun h => by cases h⟩
theorem fX7_118 : ev_Fr RX7 118 5 3 := ⟨RX4, TX4, 13, "PaperBoard$Order", rfl, by decide, ev_in1 82 rfl rfl, Or.inl rfl, innX4, ggX4⟩
theorem pX7_118 : ev_F RX7 118 5 3 (.int) false := ⟨RX4, TX4, 13, "PaperBoard$Order", tyX4, rfl, by decide, ev_in1 82 rfl rfl, Or.inl rfl, innX4, ggX4, tyX4_ok, nmX4, rfl, rfl, fun h => by cases h⟩
theorem fX7_124 : ev_Fr RX7 124 5 6 := ⟨RX4, TX4, 13, "PaperBoard$Order", rfl, by decide, ev_in1 87 rfl rfl, Or.inl rfl, innX4, ggX4⟩
theorem pX7_124 : ev_F RX7 124 5 6 (.int) false := ⟨RX4, TX4, 13, "PaperBoard$Order", tyX4, rfl, by decide, ev_in1 87 rfl rfl, Or.inl rfl, innX4, ggX4, tyX4_ok, nmX4, rfl, rfl, fun h => by cases h⟩
theorem fX7_127 : ev_Fr RX7 127 5 7 := ⟨RX4, TX4, 13, "PaperBoard$Order", rfl, by decide, ev_in1 90 rfl rfl, Or.inl rfl, innX4, ggX4⟩
theorem pX7_127 : ev_F RX7 127 5 7 (.int) false := ⟨RX4, TX4, 13, "PaperBoard$Order", tyX4, rfl, by decide, ev_in1 90 rfl rfl, Or.inl rfl, innX4, ggX4, tyX4_ok, nmX4, rfl, rfl, fun h => by cases h⟩
theorem fX7_130 : ev_Fr RX7 130 5 8 := ⟨RX4, TX4, 13, "PaperBoard$Order", rfl, by decide, ev_in1 93 rfl rfl, Or.inl rfl, innX4, ggX4⟩
theorem pX7_130 : ev_F RX7 130 5 8 (.int) false := ⟨RX4, TX4, 13, "PaperBoard$Order", tyX4, rfl, by decide, ev_in1 93 rfl rfl, Or.inl rfl, innX4, ggX4, tyX4_ok, nmX4, rfl, rfl, fun h => by cases h⟩
theorem fX7_133 : ev_Fr RX7 133 5 9 := ⟨RX4, TX4, 13, "PaperBoard$Order", rfl, by decide, ev_in1 96 rfl rfl, Or.inl rfl, innX4, ggX4⟩
theorem pX7_133 : ev_F RX7 133 5 9 (.int) false := ⟨RX4, TX4, 13, "PaperBoard$Order", tyX4, rfl, by decide, ev_in1 96 rfl rfl, Or.inl rfl, innX4, ggX4, tyX4_ok, nmX4, rfl, rfl, fun h => by cases h⟩
theorem fX7_136 : ev_Fr RX7 136 5 10 := ⟨RX4, TX4, 13, "PaperBoard$Order", rfl, by decide, ev_in1 99 rfl rfl, Or.inl rfl, innX4, ggX4⟩
theorem pX7_136 : ev_F RX7 136 5 10 (.int) false := ⟨RX4, TX4, 13, "PaperBoard$Order", tyX4, rfl, by decide, ev_in1 99 rfl rfl, Or.inl rfl, innX4, ggX4, tyX4_ok, nmX4, rfl, rfl, fun h => by cases h⟩
theorem fX7_144 : ev_Fr RX7 144 5 11 := ⟨RX4, TX4, 13, "PaperBoard$Order", rfl, by decide, ev_in1 102 rfl rfl, Or.inl rfl, innX4, ggX4⟩
theorem pX7_144 : ev_F RX7 144 5 11 (.boolean) false := ⟨RX4, TX4, 13, "PaperBoard$Order", tyX4, rfl, by decide, ev_in1 102 rfl rfl, Or.inl rfl, innX4, ggX4, tyX4_ok, nmX4, rfl, rfl, fun h => by cases h⟩
theorem fX7_15 : ev_Fr RX7 15 8 1 := ⟨RX7, TX7, 10, "PaperBoard$Reader", rfl, by decide, ev_in1 142 rfl rfl, Or.inl rfl, innX7, ggX7⟩
theorem pX7_15 : ev_F RX7 15 8 1 (.int) false := ⟨RX7, TX7, 10, "PaperBoard$Reader", tyX7, rfl, by decide, ev_in1 142 rfl rfl, Or.inl rfl, innX7, ggX7, tyX7_ok, nmX7, rfl, rfl, fun h => by cases h⟩
theorem fX7_150 : ev_Fr RX7 150 5 12 := ⟨RX4, TX4, 13, "PaperBoard$Order", rfl, by decide, ev_in1 105 rfl rfl, Or.inl rfl, innX4, ggX4⟩
theorem pX7_150 : ev_F RX7 150 5 12 (.int) false := ⟨RX4, TX4, 13, "PaperBoard$Order", tyX4, rfl, by decide, ev_in1 105 rfl rfl, Or.inl rfl, innX4, ggX4, tyX4_ok, nmX4, rfl, rfl, fun h => by cases h⟩
theorem fX7_19 : ev_Fr RX7 19 8 2 := ⟨RX7, TX7, 10, "PaperBoard$Reader", rfl, by decide, ev_in1 144 rfl rfl, Or.inl rfl, innX7, ggX7⟩
theorem pX7_19 : ev_F RX7 19 8 2 (.int) false := ⟨RX7, TX7, 10, "PaperBoard$Reader", tyX7, rfl, by decide, ev_in1 144 rfl rfl, Or.inl rfl, innX7, ggX7, tyX7_ok, nmX7, rfl, rfl, fun h => by cases h⟩
theorem fX7_22 : ev_Fr RX7 22 8 3 := ⟨RX7, TX7, 10, "PaperBoard$Reader", rfl, by decide, ev_in1 145 rfl rfl, Or.inl rfl, innX7, ggX7⟩
theorem pX7_22 : ev_F RX7 22 8 3 (.int) false := ⟨RX7, TX7, 10, "PaperBoard$Reader", tyX7, rfl, by decide, ev_in1 145 rfl rfl, Or.inl rfl, innX7, ggX7, tyX7_ok, nmX7, rfl, rfl, fun h => by cases h⟩
theorem fX7_25 : ev_Fr RX7 25 8 4 := ⟨RX7, TX7, 10, "PaperBoard$Reader", rfl, by decide, ev_in1 146 rfl rfl, Or.inl rfl, innX7, ggX7⟩
theorem pX7_25 : ev_F RX7 25 8 4 (.int) false := ⟨RX7, TX7, 10, "PaperBoard$Reader", tyX7, rfl, by decide, ev_in1 146 rfl rfl, Or.inl rfl, innX7, ggX7, tyX7_ok, nmX7, rfl, rfl, fun h => by cases h⟩
theorem fX7_28 : ev_Fr RX7 28 8 5 := ⟨RX7, TX7, 10, "PaperBoard$Reader", rfl, by decide, ev_in1 147 rfl rfl, Or.inl rfl, innX7, ggX7⟩
theorem pX7_28 : ev_F RX7 28 8 5 (.int) false := ⟨RX7, TX7, 10, "PaperBoard$Reader", tyX7, rfl, by decide, ev_in1 147 rfl rfl, Or.inl rfl, innX7, ggX7, tyX7_ok, nmX7, rfl, rfl, fun h => by cases h⟩
theorem fX7_31 : ev_Fr RX7 31 8 6 := ⟨RX7, TX7, 10, "PaperBoard$Reader", rfl, by decide, ev_in1 148 rfl rfl, Or.inl rfl, innX7, ggX7⟩
theorem pX7_31 : ev_F RX7 31 8 6 (.int) false := ⟨RX7, TX7, 10, "PaperBoard$Reader", tyX7, rfl, by decide, ev_in1 148 rfl rfl, Or.inl rfl, innX7, ggX7, tyX7_ok, nmX7, rfl, rfl, fun h => by cases h⟩
theorem fX7_34 : ev_Fr RX7 34 8 7 := ⟨RX7, TX7, 10, "PaperBoard$Reader", rfl, by decide, ev_in1 150 rfl rfl, Or.inl rfl, innX7, ggX7⟩
theorem pX7_34 : ev_F RX7 34 8 7 (.int) false := ⟨RX7, TX7, 10, "PaperBoard$Reader", tyX7, rfl, by decide, ev_in1 150 rfl rfl, Or.inl rfl, innX7, ggX7, tyX7_ok, nmX7, rfl, rfl, fun h => by cases h⟩
theorem fX7_37 : ev_Fr RX7 37 8 8 := ⟨RX7, TX7, 10, "PaperBoard$Reader", rfl, by decide, ev_in1 152 rfl rfl, Or.inl rfl, innX7, ggX7⟩
theorem pX7_37 : ev_F RX7 37 8 8 (.array .int) true := ⟨RX7, TX7, 10, "PaperBoard$Reader", tyX7, rfl, by decide, ev_in1 152 rfl rfl, Or.inl rfl, innX7, ggX7, tyX7_ok, nmX7, rfl, rfl, fun _ => rfl⟩
theorem fX7_40 : ev_Fr RX7 40 8 9 := ⟨RX7, TX7, 10, "PaperBoard$Reader", rfl, by decide, ev_in1 153 rfl rfl, Or.inl rfl, innX7, ggX7⟩
theorem pX7_40 : ev_F RX7 40 8 9 (.int) false := ⟨RX7, TX7, 10, "PaperBoard$Reader", tyX7, rfl, by decide, ev_in1 153 rfl rfl, Or.inl rfl, innX7, ggX7, tyX7_ok, nmX7, rfl, rfl, fun h => by cases h⟩
theorem fX7_9 : ev_Fr RX7 9 8 0 := ⟨RX7, TX7, 10, "PaperBoard$Reader", rfl, by decide, ev_in1 141 rfl rfl, Or.inl rfl, innX7, ggX7⟩
theorem pX7_9 : ev_F RX7 9 8 0 (.array .int) true := ⟨RX7, TX7, 10, "PaperBoard$Reader", tyX7, rfl, by decide, ev_in1 141 rfl rfl, Or.inl rfl, innX7, ggX7, tyX7_ok, nmX7, rfl, rfl, fun _ => rfl⟩
theorem fX8_15 : ev_Fr RX8 15 9 0 := ⟨RX8, TX8, 2, "PaperBoard$Reel", rfl, by decide, ev_in3 204 rfl rfl, Or.inl rfl, innX8, ggX8⟩
theorem pX8_15 : ev_F RX8 15 9 0 (.int) true := ⟨RX8, TX8, 2, "PaperBoard$Reel", tyX8, rfl, by decide, ev_in3 204 rfl rfl, Or.inl rfl, innX8, ggX8, tyX8_ok, nmX8, rfl, rfl, fun _ => rfl⟩
theorem fX8_9 : ev_Fr RX8 9 9 1 := ⟨RX8, TX8, 2, "PaperBoard$Reel", rfl, by decide, ev_in3 206 rfl rfl, Or.inl rfl, innX8, ggX8⟩
theorem pX8_9 : ev_F RX8 9 9 1 (.int) false := ⟨RX8, TX8, 2, "PaperBoard$Reel", tyX8, rfl, by decide, ev_in3 206 rfl rfl, Or.inl rfl, innX8, ggX8, tyX8_ok, nmX8, rfl, rfl, fun h => by cases h⟩
theorem fX9_11 : ev_Fr RX9 11 10 0 := ⟨RX9, TX9, 3, "PaperBoard$Sources", rfl, by decide, ev_in2 230 rfl rfl, Or.inl rfl, innX9, ggX9⟩
theorem pX9_11 : ev_F RX9 11 10 0 (.array .int) true := ⟨RX9, TX9, 3, "PaperBoard$Sources", tyX9, rfl, by decide, ev_in2 230 rfl rfl, Or.inl rfl, innX9, ggX9, tyX9_ok, nmX9, rfl, rfl, fun _ => rfl⟩
theorem fX9_15 : ev_Fr RX9 15 10 1 := ⟨RX9, TX9, 3, "PaperBoard$Sources", rfl, by decide, ev_in2 231 rfl rfl, Or.inl rfl, innX9, ggX9⟩
theorem pX9_15 : ev_F RX9 15 10 1 (.array .int) true := ⟨RX9, TX9, 3, "PaperBoard$Sources", tyX9, rfl, by decide, ev_in2 231 rfl rfl, Or.inl rfl, innX9, ggX9, tyX9_ok, nmX9, rfl, rfl, fun _ => rfl⟩
theorem fX9_18 : ev_Fr RX9 18 10 2 := ⟨RX9, TX9, 3, "PaperBoard$Sources", rfl, by decide, ev_in2 232 rfl rfl, Or.inl rfl, innX9, ggX9⟩
theorem pX9_18 : ev_F RX9 18 10 2 (.int) false := ⟨RX9, TX9, 3, "PaperBoard$Sources", tyX9, rfl, by decide, ev_in2 232 rfl rfl, Or.inl rfl, innX9, ggX9, tyX9_ok, nmX9, rfl, rfl, fun h => by cases h⟩
theorem fX10_27 : ev_Fr RX10 27 6 1 := ⟨RX5, TX5, 17, "PaperBoard$Paper", rfl, by decide, ev_in3 6 rfl rfl, Or.inl rfl, innX5, ggX5⟩
theorem pX10_27 : ev_F RX10 27 6 1 (.int) false := ⟨RX5, TX5, 17, "PaperBoard$Paper", tyX5, rfl, by decide, ev_in3 6 rfl rfl, Or.inl rfl, innX5, ggX5, tyX5_ok, nmX5, rfl, rfl, fun h => by cases h⟩
theorem fX10_33 : ev_Fr RX10 33 6 2 := ⟨RX5, TX5, 17, "PaperBoard$Paper", rfl, by decide, ev_in3 10 rfl rfl, Or.inl rfl, innX5, ggX5⟩
theorem pX10_33 : ev_F RX10 33 6 2 (.int) false := ⟨RX5, TX5, 17, "PaperBoard$Paper", tyX5, rfl, by decide, ev_in3 10 rfl rfl, Or.inl rfl, innX5, ggX5, tyX5_ok, nmX5, rfl, rfl, fun h => by cases h⟩
theorem fX10_36 : ev_Fr RX10 36 6 4 := ⟨RX5, TX5, 17, "PaperBoard$Paper", rfl, by decide, ev_in3 15 rfl rfl, Or.inl rfl, innX5, ggX5⟩
theorem pX10_36 : ev_F RX10 36 6 4 (.int) false := ⟨RX5, TX5, 17, "PaperBoard$Paper", tyX5, rfl, by decide, ev_in3 15 rfl rfl, Or.inl rfl, innX5, ggX5, tyX5_ok, nmX5, rfl, rfl, fun h => by cases h⟩
theorem fX10_39 : ev_Fr RX10 39 6 0 := ⟨RX5, TX5, 17, "PaperBoard$Paper", rfl, by decide, ev_in3 2 rfl rfl, Or.inl rfl, innX5, ggX5⟩
theorem fX10_42 : ev_Fr RX10 42 6 7 := ⟨RX5, TX5, 17, "PaperBoard$Paper", rfl, by decide, ev_in3 24 rfl rfl, Or.inl rfl, innX5, ggX5⟩
theorem pX10_42 : ev_F RX10 42 6 7 (.int) false := ⟨RX5, TX5, 17, "PaperBoard$Paper", tyX5, rfl, by decide, ev_in3 24 rfl rfl, Or.inl rfl, innX5, ggX5, tyX5_ok, nmX5, rfl, rfl, fun h => by cases h⟩
theorem fX10_45 : ev_Fr RX10 45 6 10 := ⟨RX5, TX5, 17, "PaperBoard$Paper", rfl, by decide, ev_in3 32 rfl rfl, Or.inl rfl, innX5, ggX5⟩
theorem pX10_45 : ev_F RX10 45 6 10 (.int) false := ⟨RX5, TX5, 17, "PaperBoard$Paper", tyX5, rfl, by decide, ev_in3 32 rfl rfl, Or.inl rfl, innX5, ggX5, tyX5_ok, nmX5, rfl, rfl, fun h => by cases h⟩
theorem fX10_9 : ev_Fr RX10 9 11 0 := ⟨RX10, TX10, 1, "PaperBoard$Values", rfl, by decide, ev_in1 181 rfl rfl, Or.inl rfl, innX10, ggX10⟩
theorem pX10_9 : ev_F RX10 9 11 0 (.array .int) true := ⟨RX10, TX10, 1, "PaperBoard$Values", tyX10, rfl, by decide, ev_in1 181 rfl rfl, Or.inl rfl, innX10, ggX10, tyX10_ok, nmX10, rfl, rfl, fun _ => rfl⟩
theorem fX11_10 : ev_Fr RX11 10 12 0 := ⟨RX11, TX11, 13, "PaperBoard", rfl, by decide, ev_in2 9 rfl rfl, Or.inl rfl, innX11, ggX11⟩
theorem pX11_10 : ev_F RX11 10 12 0 (.object "java/util/ArrayList") true := ⟨RX11, TX11, 13, "PaperBoard", tyX11, rfl, by decide, ev_in2 9 rfl rfl, Or.inl rfl, innX11, ggX11, tyX11_ok, nmX11, rfl, rfl, fun _ => rfl⟩
theorem fX11_117 : ev_Fr RX11 117 6 9 := ⟨RX5, TX5, 17, "PaperBoard$Paper", rfl, by decide, ev_in3 29 rfl rfl, Or.inl rfl, innX5, ggX5⟩
theorem pX11_117 : ev_F RX11 117 6 9 (.int) false := ⟨RX5, TX5, 17, "PaperBoard$Paper", tyX5, rfl, by decide, ev_in3 29 rfl rfl, Or.inl rfl, innX5, ggX5, tyX5_ok, nmX5, rfl, rfl, fun h => by cases h⟩
theorem fX11_135 : ev_Fr RX11 135 9 1 := ⟨RX8, TX8, 2, "PaperBoard$Reel", rfl, by decide, ev_in3 207 rfl rfl, Or.inl rfl, innX8, ggX8⟩
theorem pX11_135 : ev_F RX11 135 9 1 (.int) false := ⟨RX8, TX8, 2, "PaperBoard$Reel", tyX8, rfl, by decide, ev_in3 207 rfl rfl, Or.inl rfl, innX8, ggX8, tyX8_ok, nmX8, rfl, rfl, fun h => by cases h⟩
theorem fX11_142 : ev_Fr RX11 142 6 7 := ⟨RX5, TX5, 17, "PaperBoard$Paper", rfl, by decide, ev_in3 25 rfl rfl, Or.inl rfl, innX5, ggX5⟩
theorem pX11_142 : ev_F RX11 142 6 7 (.int) false := ⟨RX5, TX5, 17, "PaperBoard$Paper", tyX5, rfl, by decide, ev_in3 25 rfl rfl, Or.inl rfl, innX5, ggX5, tyX5_ok, nmX5, rfl, rfl, fun h => by cases h⟩
theorem fX11_145 : ev_Fr RX11 145 9 0 := ⟨RX8, TX8, 2, "PaperBoard$Reel", rfl, by decide, ev_in3 205 rfl rfl, Or.inl rfl, innX8, ggX8⟩
theorem fX11_153 : ev_Fr RX11 153 6 13 := ⟨RX5, TX5, 17, "PaperBoard$Paper", rfl, by decide, ev_in3 41 rfl rfl, Or.inl rfl, innX5, ggX5⟩
theorem fX11_16 : ev_Fr RX11 16 12 1 := ⟨RX11, TX11, 13, "PaperBoard", rfl, by decide, ev_in2 10 rfl rfl, Or.inl rfl, innX11, ggX11⟩
theorem pX11_16 : ev_F RX11 16 12 1 (.object "java/util/ArrayList") true := ⟨RX11, TX11, 13, "PaperBoard", tyX11, rfl, by decide, ev_in2 10 rfl rfl, Or.inl rfl, innX11, ggX11, tyX11_ok, nmX11, rfl, rfl, fun _ => rfl⟩
theorem fX11_165 : ev_Fr RX11 165 8 1 := ⟨RX7, TX7, 10, "PaperBoard$Reader", rfl, by decide, ev_in1 143 rfl rfl, Or.inl rfl, innX7, ggX7⟩
theorem pX11_165 : ev_F RX11 165 8 1 (.int) false := ⟨RX7, TX7, 10, "PaperBoard$Reader", tyX7, rfl, by decide, ev_in1 143 rfl rfl, Or.inl rfl, innX7, ggX7, tyX7_ok, nmX7, rfl, rfl, fun h => by cases h⟩
theorem fX11_178 : ev_Fr RX11 178 8 6 := ⟨RX7, TX7, 10, "PaperBoard$Reader", rfl, by decide, ev_in1 149 rfl rfl, Or.inl rfl, innX7, ggX7⟩
theorem pX11_178 : ev_F RX11 178 8 6 (.int) false := ⟨RX7, TX7, 10, "PaperBoard$Reader", tyX7, rfl, by decide, ev_in1 149 rfl rfl, Or.inl rfl, innX7, ggX7, tyX7_ok, nmX7, rfl, rfl, fun h => by cases h⟩
theorem fX11_181 : ev_Fr RX11 181 8 7 := ⟨RX7, TX7, 10, "PaperBoard$Reader", rfl, by decide, ev_in1 151 rfl rfl, Or.inl rfl, innX7, ggX7⟩
theorem pX11_181 : ev_F RX11 181 8 7 (.int) false := ⟨RX7, TX7, 10, "PaperBoard$Reader", tyX7, rfl, by decide, ev_in1 151 rfl rfl, Or.inl rfl, innX7, ggX7, tyX7_ok, nmX7, rfl, rfl, fun h => by cases h⟩
theorem fX11_19 : ev_Fr RX11 19 12 2 := ⟨RX11, TX11, 13, "PaperBoard", rfl, by decide, ev_in2 11 rfl rfl, Or.inl rfl, innX11, ggX11⟩
theorem pX11_19 : ev_F RX11 19 12 2 (.object "java/util/ArrayList") true := ⟨RX11, TX11, 13, "PaperBoard", tyX11, rfl, by decide, ev_in2 11 rfl rfl, Or.inl rfl, innX11, ggX11, tyX11_ok, nmX11, rfl, rfl, fun _ => rfl⟩
theorem fX11_193 : ev_Fr RX11 193 6 0 := ⟨RX5, TX5, 17, "PaperBoard$Paper", rfl, by decide, ev_in3 3 rfl rfl, Or.inl rfl, innX5, ggX5⟩
theorem fX11_199 : ev_Fr RX11 199 6 3 := ⟨RX5, TX5, 17, "PaperBoard$Paper", rfl, by decide, ev_in3 13 rfl rfl, Or.inl rfl, innX5, ggX5⟩
theorem pX11_199 : ev_F RX11 199 6 3 (.int) false := ⟨RX5, TX5, 17, "PaperBoard$Paper", tyX5, rfl, by decide, ev_in3 13 rfl rfl, Or.inl rfl, innX5, ggX5, tyX5_ok, nmX5, rfl, rfl, fun h => by cases h⟩
theorem fX11_206 : ev_Fr RX11 206 5 6 := ⟨RX4, TX4, 13, "PaperBoard$Order", rfl, by decide, ev_in1 88 rfl rfl, Or.inl rfl, innX4, ggX4⟩
theorem pX11_206 : ev_F RX11 206 5 6 (.int) false := ⟨RX4, TX4, 13, "PaperBoard$Order", tyX4, rfl, by decide, ev_in1 88 rfl rfl, Or.inl rfl, innX4, ggX4, tyX4_ok, nmX4, rfl, rfl, fun h => by cases h⟩
theorem fX11_209 : ev_Fr RX11 209 5 7 := ⟨RX4, TX4, 13, "PaperBoard$Order", rfl, by decide, ev_in1 91 rfl rfl, Or.inl rfl, innX4, ggX4⟩
theorem pX11_209 : ev_F RX11 209 5 7 (.int) false := ⟨RX4, TX4, 13, "PaperBoard$Order", tyX4, rfl, by decide, ev_in1 91 rfl rfl, Or.inl rfl, innX4, ggX4, tyX4_ok, nmX4, rfl, rfl, fun h => by cases h⟩
theorem fX11_212 : ev_Fr RX11 212 5 8 := ⟨RX4, TX4, 13, "PaperBoard$Order", rfl, by decide, ev_in1 94 rfl rfl, Or.inl rfl, innX4, ggX4⟩
theorem pX11_212 : ev_F RX11 212 5 8 (.int) false := ⟨RX4, TX4, 13, "PaperBoard$Order", tyX4, rfl, by decide, ev_in1 94 rfl rfl, Or.inl rfl, innX4, ggX4, tyX4_ok, nmX4, rfl, rfl, fun h => by cases h⟩
theorem fX11_215 : ev_Fr RX11 215 5 9 := ⟨RX4, TX4, 13, "PaperBoard$Order", rfl, by decide, ev_in1 97 rfl rfl, Or.inl rfl, innX4, ggX4⟩
theorem pX11_215 : ev_F RX11 215 5 9 (.int) false := ⟨RX4, TX4, 13, "PaperBoard$Order", tyX4, rfl, by decide, ev_in1 97 rfl rfl, Or.inl rfl, innX4, ggX4, tyX4_ok, nmX4, rfl, rfl, fun h => by cases h⟩
theorem fX11_218 : ev_Fr RX11 218 5 10 := ⟨RX4, TX4, 13, "PaperBoard$Order", rfl, by decide, ev_in1 100 rfl rfl, Or.inl rfl, innX4, ggX4⟩
theorem pX11_218 : ev_F RX11 218 5 10 (.int) false := ⟨RX4, TX4, 13, "PaperBoard$Order", tyX4, rfl, by decide, ev_in1 100 rfl rfl, Or.inl rfl, innX4, ggX4, tyX4_ok, nmX4, rfl, rfl, fun h => by cases h⟩
theorem fX11_22 : ev_Fr RX11 22 12 3 := ⟨RX11, TX11, 13, "PaperBoard", rfl, by decide, ev_in2 12 rfl rfl, Or.inl rfl, innX11, ggX11⟩
theorem pX11_22 : ev_F RX11 22 12 3 (.object "java/util/ArrayList") true := ⟨RX11, TX11, 13, "PaperBoard", tyX11, rfl, by decide, ev_in2 12 rfl rfl, Or.inl rfl, innX11, ggX11, tyX11_ok, nmX11, rfl, rfl, fun _ => rfl⟩
theorem fX11_221 : ev_Fr RX11 221 5 12 := ⟨RX4, TX4, 13, "PaperBoard$Order", rfl, by decide, ev_in1 106 rfl rfl, Or.inl rfl, innX4, ggX4⟩
theorem pX11_221 : ev_F RX11 221 5 12 (.int) false := ⟨RX4, TX4, 13, "PaperBoard$Order", tyX4, rfl, by decide, ev_in1 106 rfl rfl, Or.inl rfl, innX4, ggX4, tyX4_ok, nmX4, rfl, rfl, fun h => by cases h⟩
theorem fX11_228 : ev_Fr RX11 228 6 11 := ⟨RX5, TX5, 17, "PaperBoard$Paper", rfl, by decide, ev_in3 36 rfl rfl, Or.inl rfl, innX5, ggX5⟩
theorem pX11_228 : ev_F RX11 228 6 11 (.int) false := ⟨RX5, TX5, 17, "PaperBoard$Paper", tyX5, rfl, by decide, ev_in3 36 rfl rfl, Or.inl rfl, innX5, ggX5, tyX5_ok, nmX5, rfl, rfl, fun h => by cases h⟩
theorem fX11_231 : ev_Fr RX11 231 6 12 := ⟨RX5, TX5, 17, "PaperBoard$Paper", rfl, by decide, ev_in3 39 rfl rfl, Or.inl rfl, innX5, ggX5⟩
theorem pX11_231 : ev_F RX11 231 6 12 (.int) false := ⟨RX5, TX5, 17, "PaperBoard$Paper", tyX5, rfl, by decide, ev_in3 39 rfl rfl, Or.inl rfl, innX5, ggX5, tyX5_ok, nmX5, rfl, rfl, fun h => by cases h⟩
theorem fX11_25 : ev_Fr RX11 25 12 4 := ⟨RX11, TX11, 13, "PaperBoard", rfl, by decide, ev_in2 13 rfl rfl, Or.inl rfl, innX11, ggX11⟩
theorem pX11_25 : ev_F RX11 25 12 4 (.array .int) true := ⟨RX11, TX11, 13, "PaperBoard", tyX11, rfl, by decide, ev_in2 13 rfl rfl, Or.inl rfl, innX11, ggX11, tyX11_ok, nmX11, rfl, rfl, fun _ => rfl⟩
theorem fX11_261 : ev_Fr RX11 261 6 1 := ⟨RX5, TX5, 17, "PaperBoard$Paper", rfl, by decide, ev_in3 7 rfl rfl, Or.inl rfl, innX5, ggX5⟩
theorem pX11_261 : ev_F RX11 261 6 1 (.int) false := ⟨RX5, TX5, 17, "PaperBoard$Paper", tyX5, rfl, by decide, ev_in3 7 rfl rfl, Or.inl rfl, innX5, ggX5, tyX5_ok, nmX5, rfl, rfl, fun h => by cases h⟩
theorem fX11_264 : ev_Fr RX11 264 6 2 := ⟨RX5, TX5, 17, "PaperBoard$Paper", rfl, by decide, ev_in3 11 rfl rfl, Or.inl rfl, innX5, ggX5⟩
theorem pX11_264 : ev_F RX11 264 6 2 (.int) false := ⟨RX5, TX5, 17, "PaperBoard$Paper", tyX5, rfl, by decide, ev_in3 11 rfl rfl, Or.inl rfl, innX5, ggX5, tyX5_ok, nmX5, rfl, rfl, fun h => by cases h⟩
theorem fX11_270 : ev_Fr RX11 270 6 15 := ⟨RX5, TX5, 17, "PaperBoard$Paper", rfl, by decide, ev_in3 44 rfl rfl, Or.inl rfl, innX5, ggX5⟩
theorem fX11_277 : ev_Fr RX11 277 6 16 := ⟨RX5, TX5, 17, "PaperBoard$Paper", rfl, by decide, ev_in3 46 rfl rfl, Or.inl rfl, innX5, ggX5⟩
theorem fX11_29 : ev_Fr RX11 29 12 5 := ⟨RX11, TX11, 13, "PaperBoard", rfl, by decide, ev_in2 14 rfl rfl, Or.inl rfl, innX11, ggX11⟩
theorem pX11_29 : ev_F RX11 29 12 5 (.int) false := ⟨RX11, TX11, 13, "PaperBoard", tyX11, rfl, by decide, ev_in2 14 rfl rfl, Or.inl rfl, innX11, ggX11, tyX11_ok, nmX11, rfl, rfl, fun h => by cases h⟩
theorem fX11_302 : ev_Fr RX11 302 1 4 := ⟨RX0, TX0, 5, "PaperBoard$Appeal", rfl, by decide, ev_in6 60 rfl rfl, Or.inl rfl, innX0, ggX0⟩
theorem pX11_302 : ev_F RX11 302 1 4 (.int) false := ⟨RX0, TX0, 5, "PaperBoard$Appeal", tyX0, rfl, by decide, ev_in6 60 rfl rfl, Or.inl rfl, innX0, ggX0, tyX0_ok, nmX0, rfl, rfl, fun h => by cases h⟩
theorem fX11_33 : ev_Fr RX11 33 12 6 := ⟨RX11, TX11, 13, "PaperBoard", rfl, by decide, ev_in2 15 rfl rfl, Or.inl rfl, innX11, ggX11⟩
theorem pX11_33 : ev_F RX11 33 12 6 (.int) false := ⟨RX11, TX11, 13, "PaperBoard", tyX11, rfl, by decide, ev_in2 15 rfl rfl, Or.inl rfl, innX11, ggX11, tyX11_ok, nmX11, rfl, rfl, fun h => by cases h⟩
theorem fX11_331 : ev_Fr RX11 331 3 5 := ⟨RX2, TX2, 6, "PaperBoard$Ledger", rfl, by decide, ev_in1 216 rfl rfl, Or.inl rfl, innX2, ggX2⟩
theorem pX11_331 : ev_F RX11 331 3 5 (.int) false := ⟨RX2, TX2, 6, "PaperBoard$Ledger", tyX2, rfl, by decide, ev_in1 216 rfl rfl, Or.inl rfl, innX2, ggX2, tyX2_ok, nmX2, rfl, rfl, fun h => by cases h⟩
theorem fX11_361 : ev_Fr RX11 361 5 0 := ⟨RX4, TX4, 13, "PaperBoard$Order", rfl, by decide, ev_in1 74 rfl rfl, Or.inl rfl, innX4, ggX4⟩
theorem fX11_362 : ev_Fr RX11 362 5 1 := ⟨RX4, TX4, 13, "PaperBoard$Order", rfl, by decide, ev_in1 77 rfl rfl, Or.inl rfl, innX4, ggX4⟩
theorem pX11_362 : ev_F RX11 362 5 1 (.array .int) false := ⟨RX4, TX4, 13, "PaperBoard$Order", tyX4, rfl, by decide, ev_in1 77 rfl rfl, Or.inl rfl, innX4, ggX4, tyX4_ok, nmX4, rfl, rfl, fun h => by cases h⟩
theorem fX11_372 : ev_Fr RX11 372 5 2 := ⟨RX4, TX4, 13, "PaperBoard$Order", rfl, by decide, ev_in1 80 rfl rfl, Or.inl rfl, innX4, ggX4⟩
theorem pX11_372 : ev_F RX11 372 5 2 (.array .int) false := ⟨RX4, TX4, 13, "PaperBoard$Order", tyX4, rfl, by decide, ev_in1 80 rfl rfl, Or.inl rfl, innX4, ggX4, tyX4_ok, nmX4, rfl, rfl, fun h => by cases h⟩
theorem fX11_385 : ev_Fr RX11 385 5 11 := ⟨RX4, TX4, 13, "PaperBoard$Order", rfl, by decide, ev_in1 103 rfl rfl, Or.inl rfl, innX4, ggX4⟩
theorem pX11_385 : ev_F RX11 385 5 11 (.boolean) false := ⟨RX4, TX4, 13, "PaperBoard$Order", tyX4, rfl, by decide, ev_in1 103 rfl rfl, Or.inl rfl, innX4, ggX4, tyX4_ok, nmX4, rfl, rfl, fun h => by cases h⟩
theorem fX11_393 : ev_Fr RX11 393 6 5 := ⟨RX5, TX5, 17, "PaperBoard$Paper", rfl, by decide, ev_in3 18 rfl rfl, Or.inl rfl, innX5, ggX5⟩
theorem pX11_393 : ev_F RX11 393 6 5 (.int) false := ⟨RX5, TX5, 17, "PaperBoard$Paper", tyX5, rfl, by decide, ev_in3 18 rfl rfl, Or.inl rfl, innX5, ggX5, tyX5_ok, nmX5, rfl, rfl, fun h => by cases h⟩
theorem fX11_41 : ev_Fr RX11 41 12 7 := ⟨RX11, TX11, 13, "PaperBoard", rfl, by decide, ev_in2 16 rfl rfl, Or.inl rfl, innX11, ggX11⟩
theorem pX11_41 : ev_F RX11 41 12 7 (.object "PaperBoard$Order") true := ⟨RX11, TX11, 13, "PaperBoard", tyX11, rfl, by decide, ev_in2 16 rfl rfl, Or.inl rfl, innX11, ggX11, tyX11_ok, nmX11, rfl, rfl, fun _ => rfl⟩
theorem fX11_422 : ev_Fr RX11 422 1 0 := ⟨RX0, TX0, 5, "PaperBoard$Appeal", rfl, by decide, ev_in6 54 rfl rfl, Or.inl rfl, innX0, ggX0⟩
theorem fX11_426 : ev_Fr RX11 426 1 1 := ⟨RX0, TX0, 5, "PaperBoard$Appeal", rfl, by decide, ev_in6 56 rfl rfl, Or.inl rfl, innX0, ggX0⟩
theorem fX11_429 : ev_Fr RX11 429 6 8 := ⟨RX5, TX5, 17, "PaperBoard$Paper", rfl, by decide, ev_in3 27 rfl rfl, Or.inl rfl, innX5, ggX5⟩
theorem pX11_429 : ev_F RX11 429 6 8 (.int) false := ⟨RX5, TX5, 17, "PaperBoard$Paper", tyX5, rfl, by decide, ev_in3 27 rfl rfl, Or.inl rfl, innX5, ggX5, tyX5_ok, nmX5, rfl, rfl, fun h => by cases h⟩
theorem fX11_432 : ev_Fr RX11 432 6 6 := ⟨RX5, TX5, 17, "PaperBoard$Paper", rfl, by decide, ev_in3 21 rfl rfl, Or.inl rfl, innX5, ggX5⟩
theorem pX11_432 : ev_F RX11 432 6 6 (.int) false := ⟨RX5, TX5, 17, "PaperBoard$Paper", tyX5, rfl, by decide, ev_in3 21 rfl rfl, Or.inl rfl, innX5, ggX5, tyX5_ok, nmX5, rfl, rfl, fun h => by cases h⟩
theorem fX11_444 : ev_Fr RX11 444 6 4 := ⟨RX5, TX5, 17, "PaperBoard$Paper", rfl, by decide, ev_in3 16 rfl rfl, Or.inl rfl, innX5, ggX5⟩
theorem pX11_444 : ev_F RX11 444 6 4 (.int) false := ⟨RX5, TX5, 17, "PaperBoard$Paper", tyX5, rfl, by decide, ev_in3 16 rfl rfl, Or.inl rfl, innX5, ggX5, tyX5_ok, nmX5, rfl, rfl, fun h => by cases h⟩
theorem fX11_449 : ev_Fr RX11 449 6 10 := ⟨RX5, TX5, 17, "PaperBoard$Paper", rfl, by decide, ev_in3 33 rfl rfl, Or.inl rfl, innX5, ggX5⟩
theorem pX11_449 : ev_F RX11 449 6 10 (.int) false := ⟨RX5, TX5, 17, "PaperBoard$Paper", tyX5, rfl, by decide, ev_in3 33 rfl rfl, Or.inl rfl, innX5, ggX5, tyX5_ok, nmX5, rfl, rfl, fun h => by cases h⟩
theorem fX11_455 : ev_Fr RX11 455 5 3 := ⟨RX4, TX4, 13, "PaperBoard$Order", rfl, by decide, ev_in1 83 rfl rfl, Or.inl rfl, innX4, ggX4⟩
theorem pX11_455 : ev_F RX11 455 5 3 (.int) false := ⟨RX4, TX4, 13, "PaperBoard$Order", tyX4, rfl, by decide, ev_in1 83 rfl rfl, Or.inl rfl, innX4, ggX4, tyX4_ok, nmX4, rfl, rfl, fun h => by cases h⟩
theorem fX11_48 : ev_Fr RX11 48 12 8 := ⟨RX11, TX11, 13, "PaperBoard", rfl, by decide, ev_in2 17 rfl rfl, Or.inl rfl, innX11, ggX11⟩
theorem pX11_48 : ev_F RX11 48 12 8 (.object "PaperBoard$Reader") true := ⟨RX11, TX11, 13, "PaperBoard", tyX11, rfl, by decide, ev_in2 17 rfl rfl, Or.inl rfl, innX11, ggX11, tyX11_ok, nmX11, rfl, rfl, fun _ => rfl⟩
theorem fX11_55 : ev_Fr RX11 55 12 9 := ⟨RX11, TX11, 13, "PaperBoard", rfl, by decide, ev_in2 18 rfl rfl, Or.inl rfl, innX11, ggX11⟩
theorem pX11_55 : ev_F RX11 55 12 9 (.object "PaperBoard$Values") true := ⟨RX11, TX11, 13, "PaperBoard", tyX11, rfl, by decide, ev_in2 18 rfl rfl, Or.inl rfl, innX11, ggX11, tyX11_ok, nmX11, rfl, rfl, fun _ => rfl⟩
theorem fX11_62 : ev_Fr RX11 62 12 10 := ⟨RX11, TX11, 13, "PaperBoard", rfl, by decide, ev_in2 19 rfl rfl, Or.inl rfl, innX11, ggX11⟩
theorem pX11_62 : ev_F RX11 62 12 10 (.object "PaperBoard$Parting") true := ⟨RX11, TX11, 13, "PaperBoard", tyX11, rfl, by decide, ev_in2 19 rfl rfl, Or.inl rfl, innX11, ggX11, tyX11_ok, nmX11, rfl, rfl, fun _ => rfl⟩
theorem fX11_69 : ev_Fr RX11 69 12 11 := ⟨RX11, TX11, 13, "PaperBoard", rfl, by decide, ev_in2 20 rfl rfl, Or.inl rfl, innX11, ggX11⟩
theorem pX11_69 : ev_F RX11 69 12 11 (.object "PaperBoard$Ledger") true := ⟨RX11, TX11, 13, "PaperBoard", tyX11, rfl, by decide, ev_in2 20 rfl rfl, Or.inl rfl, innX11, ggX11, tyX11_ok, nmX11, rfl, rfl, fun _ => rfl⟩
theorem fX11_76 : ev_Fr RX11 76 12 12 := ⟨RX11, TX11, 13, "PaperBoard", rfl, by decide, ev_in2 21 rfl rfl, Or.inl rfl, innX11, ggX11⟩
theorem pX11_76 : ev_F RX11 76 12 12 (.object "PaperBoard$Offer") true := ⟨RX11, TX11, 13, "PaperBoard", tyX11, rfl, by decide, ev_in2 21 rfl rfl, Or.inl rfl, innX11, ggX11, tyX11_ok, nmX11, rfl, rfl, fun _ => rfl⟩
theorem fX12_102 : ev_Fr RX12 102 13 49 := ⟨RX12, TX12, 78, "PaperBoardModel", rfl, by decide, ev_in6 224 rfl rfl, Or.inl rfl, innX12, ggX12⟩
theorem pX12_102 : ev_F RX12 102 13 49 (.array .int) true := ⟨RX12, TX12, 78, "PaperBoardModel", tyX12, rfl, by decide, ev_in6 224 rfl rfl, Or.inl rfl, innX12, ggX12, tyX12_ok, nmX12, rfl, rfl, fun _ => rfl⟩
theorem fX12_105 : ev_Fr RX12 105 13 50 := ⟨RX12, TX12, 78, "PaperBoardModel", rfl, by decide, ev_in6 225 rfl rfl, Or.inl rfl, innX12, ggX12⟩
theorem pX12_105 : ev_F RX12 105 13 50 (.array .int) true := ⟨RX12, TX12, 78, "PaperBoardModel", tyX12, rfl, by decide, ev_in6 225 rfl rfl, Or.inl rfl, innX12, ggX12, tyX12_ok, nmX12, rfl, rfl, fun _ => rfl⟩
theorem fX12_108 : ev_Fr RX12 108 13 51 := ⟨RX12, TX12, 78, "PaperBoardModel", rfl, by decide, ev_in6 226 rfl rfl, Or.inl rfl, innX12, ggX12⟩
theorem pX12_108 : ev_F RX12 108 13 51 (.array .int) true := ⟨RX12, TX12, 78, "PaperBoardModel", tyX12, rfl, by decide, ev_in6 226 rfl rfl, Or.inl rfl, innX12, ggX12, tyX12_ok, nmX12, rfl, rfl, fun _ => rfl⟩
theorem fX12_111 : ev_Fr RX12 111 13 52 := ⟨RX12, TX12, 78, "PaperBoardModel", rfl, by decide, ev_in6 227 rfl rfl, Or.inl rfl, innX12, ggX12⟩
theorem pX12_111 : ev_F RX12 111 13 52 (.array .long) true := ⟨RX12, TX12, 78, "PaperBoardModel", tyX12, rfl, by decide, ev_in6 227 rfl rfl, Or.inl rfl, innX12, ggX12, tyX12_ok, nmX12, rfl, rfl, fun _ => rfl⟩
theorem fX12_115 : ev_Fr RX12 115 13 53 := ⟨RX12, TX12, 78, "PaperBoardModel", rfl, by decide, ev_in6 228 rfl rfl, Or.inl rfl, innX12, ggX12⟩
theorem pX12_115 : ev_F RX12 115 13 53 (.int) false := ⟨RX12, TX12, 78, "PaperBoardModel", tyX12, rfl, by decide, ev_in6 228 rfl rfl, Or.inl rfl, innX12, ggX12, tyX12_ok, nmX12, rfl, rfl, fun h => by cases h⟩
theorem fX12_118 : ev_Fr RX12 118 13 54 := ⟨RX12, TX12, 78, "PaperBoardModel", rfl, by decide, ev_in6 229 rfl rfl, Or.inl rfl, innX12, ggX12⟩
theorem pX12_118 : ev_F RX12 118 13 54 (.int) false := ⟨RX12, TX12, 78, "PaperBoardModel", tyX12, rfl, by decide, ev_in6 229 rfl rfl, Or.inl rfl, innX12, ggX12, tyX12_ok, nmX12, rfl, rfl, fun h => by cases h⟩
theorem fX12_121 : ev_Fr RX12 121 13 55 := ⟨RX12, TX12, 78, "PaperBoardModel", rfl, by decide, ev_in6 230 rfl rfl, Or.inl rfl, innX12, ggX12⟩
theorem pX12_121 : ev_F RX12 121 13 55 (.array .int) true := ⟨RX12, TX12, 78, "PaperBoardModel", tyX12, rfl, by decide, ev_in6 230 rfl rfl, Or.inl rfl, innX12, ggX12, tyX12_ok, nmX12, rfl, rfl, fun _ => rfl⟩
theorem fX12_124 : ev_Fr RX12 124 13 56 := ⟨RX12, TX12, 78, "PaperBoardModel", rfl, by decide, ev_in6 231 rfl rfl, Or.inl rfl, innX12, ggX12⟩
theorem pX12_124 : ev_F RX12 124 13 56 (.array .boolean) true := ⟨RX12, TX12, 78, "PaperBoardModel", tyX12, rfl, by decide, ev_in6 231 rfl rfl, Or.inl rfl, innX12, ggX12, tyX12_ok, nmX12, rfl, rfl, fun _ => rfl⟩
theorem fX12_128 : ev_Fr RX12 128 13 57 := ⟨RX12, TX12, 78, "PaperBoardModel", rfl, by decide, ev_in6 232 rfl rfl, Or.inl rfl, innX12, ggX12⟩
theorem pX12_128 : ev_F RX12 128 13 57 (.array .int) true := ⟨RX12, TX12, 78, "PaperBoardModel", tyX12, rfl, by decide, ev_in6 232 rfl rfl, Or.inl rfl, innX12, ggX12, tyX12_ok, nmX12, rfl, rfl, fun _ => rfl⟩
theorem fX12_13 : ev_Fr RX12 13 13 4 := ⟨RX12, TX12, 78, "PaperBoardModel", rfl, by decide, ev_in6 179 rfl rfl, Or.inl rfl, innX12, ggX12⟩
theorem pX12_13 : ev_F RX12 13 13 4 (.array .int) true := ⟨RX12, TX12, 78, "PaperBoardModel", tyX12, rfl, by decide, ev_in6 179 rfl rfl, Or.inl rfl, innX12, ggX12, tyX12_ok, nmX12, rfl, rfl, fun _ => rfl⟩
theorem fX12_131 : ev_Fr RX12 131 13 58 := ⟨RX12, TX12, 78, "PaperBoardModel", rfl, by decide, ev_in6 233 rfl rfl, Or.inl rfl, innX12, ggX12⟩
theorem pX12_131 : ev_F RX12 131 13 58 (.array .int) true := ⟨RX12, TX12, 78, "PaperBoardModel", tyX12, rfl, by decide, ev_in6 233 rfl rfl, Or.inl rfl, innX12, ggX12, tyX12_ok, nmX12, rfl, rfl, fun _ => rfl⟩
theorem fX12_134 : ev_Fr RX12 134 13 59 := ⟨RX12, TX12, 78, "PaperBoardModel", rfl, by decide, ev_in6 234 rfl rfl, Or.inl rfl, innX12, ggX12⟩
theorem pX12_134 : ev_F RX12 134 13 59 (.array .int) true := ⟨RX12, TX12, 78, "PaperBoardModel", tyX12, rfl, by decide, ev_in6 234 rfl rfl, Or.inl rfl, innX12, ggX12, tyX12_ok, nmX12, rfl, rfl, fun _ => rfl⟩
theorem fX12_137 : ev_Fr RX12 137 13 60 := ⟨RX12, TX12, 78, "PaperBoardModel", rfl, by decide, ev_in6 235 rfl rfl, Or.inl rfl, innX12, ggX12⟩
theorem pX12_137 : ev_F RX12 137 13 60 (.array .int) true := ⟨RX12, TX12, 78, "PaperBoardModel", tyX12, rfl, by decide, ev_in6 235 rfl rfl, Or.inl rfl, innX12, ggX12, tyX12_ok, nmX12, rfl, rfl, fun _ => rfl⟩
theorem fX12_140 : ev_Fr RX12 140 13 61 := ⟨RX12, TX12, 78, "PaperBoardModel", rfl, by decide, ev_in6 236 rfl rfl, Or.inl rfl, innX12, ggX12⟩
theorem pX12_140 : ev_F RX12 140 13 61 (.array .int) true := ⟨RX12, TX12, 78, "PaperBoardModel", tyX12, rfl, by decide, ev_in6 236 rfl rfl, Or.inl rfl, innX12, ggX12, tyX12_ok, nmX12, rfl, rfl, fun _ => rfl⟩
theorem fX12_143 : ev_Fr RX12 143 13 63 := ⟨RX12, TX12, 78, "PaperBoardModel", rfl, by decide, ev_in6 238 rfl rfl, Or.inl rfl, innX12, ggX12⟩
theorem pX12_143 : ev_F RX12 143 13 63 (.array .int) true := ⟨RX12, TX12, 78, "PaperBoardModel", tyX12, rfl, by decide, ev_in6 238 rfl rfl, Or.inl rfl, innX12, ggX12, tyX12_ok, nmX12, rfl, rfl, fun _ => rfl⟩
theorem fX12_146 : ev_Fr RX12 146 13 64 := ⟨RX12, TX12, 78, "PaperBoardModel", rfl, by decide, ev_in6 239 rfl rfl, Or.inl rfl, innX12, ggX12⟩
theorem pX12_146 : ev_F RX12 146 13 64 (.array .int) true := ⟨RX12, TX12, 78, "PaperBoardModel", tyX12, rfl, by decide, ev_in6 239 rfl rfl, Or.inl rfl, innX12, ggX12, tyX12_ok, nmX12, rfl, rfl, fun _ => rfl⟩
theorem fX12_149 : ev_Fr RX12 149 13 65 := ⟨RX12, TX12, 78, "PaperBoardModel", rfl, by decide, ev_in7 0 rfl rfl, Or.inl rfl, innX12, ggX12⟩
theorem pX12_149 : ev_F RX12 149 13 65 (.array .int) true := ⟨RX12, TX12, 78, "PaperBoardModel", tyX12, rfl, by decide, ev_in7 0 rfl rfl, Or.inl rfl, innX12, ggX12, tyX12_ok, nmX12, rfl, rfl, fun _ => rfl⟩
theorem fX12_152 : ev_Fr RX12 152 13 66 := ⟨RX12, TX12, 78, "PaperBoardModel", rfl, by decide, ev_in7 1 rfl rfl, Or.inl rfl, innX12, ggX12⟩
theorem pX12_152 : ev_F RX12 152 13 66 (.array .int) true := ⟨RX12, TX12, 78, "PaperBoardModel", tyX12, rfl, by decide, ev_in7 1 rfl rfl, Or.inl rfl, innX12, ggX12, tyX12_ok, nmX12, rfl, rfl, fun _ => rfl⟩
theorem fX12_155 : ev_Fr RX12 155 13 67 := ⟨RX12, TX12, 78, "PaperBoardModel", rfl, by decide, ev_in7 2 rfl rfl, Or.inl rfl, innX12, ggX12⟩
theorem pX12_155 : ev_F RX12 155 13 67 (.array .int) true := ⟨RX12, TX12, 78, "PaperBoardModel", tyX12, rfl, by decide, ev_in7 2 rfl rfl, Or.inl rfl, innX12, ggX12, tyX12_ok, nmX12, rfl, rfl, fun _ => rfl⟩
theorem fX12_158 : ev_Fr RX12 158 13 68 := ⟨RX12, TX12, 78, "PaperBoardModel", rfl, by decide, ev_in7 3 rfl rfl, Or.inl rfl, innX12, ggX12⟩
theorem pX12_158 : ev_F RX12 158 13 68 (.array .int) true := ⟨RX12, TX12, 78, "PaperBoardModel", tyX12, rfl, by decide, ev_in7 3 rfl rfl, Or.inl rfl, innX12, ggX12, tyX12_ok, nmX12, rfl, rfl, fun _ => rfl⟩
theorem fX12_16 : ev_Fr RX12 16 13 5 := ⟨RX12, TX12, 78, "PaperBoardModel", rfl, by decide, ev_in6 180 rfl rfl, Or.inl rfl, innX12, ggX12⟩
theorem pX12_16 : ev_F RX12 16 13 5 (.array .int) true := ⟨RX12, TX12, 78, "PaperBoardModel", tyX12, rfl, by decide, ev_in6 180 rfl rfl, Or.inl rfl, innX12, ggX12, tyX12_ok, nmX12, rfl, rfl, fun _ => rfl⟩
theorem fX12_161 : ev_Fr RX12 161 13 74 := ⟨RX12, TX12, 78, "PaperBoardModel", rfl, by decide, ev_in7 9 rfl rfl, Or.inl rfl, innX12, ggX12⟩
theorem pX12_161 : ev_F RX12 161 13 74 (.array .int) true := ⟨RX12, TX12, 78, "PaperBoardModel", tyX12, rfl, by decide, ev_in7 9 rfl rfl, Or.inl rfl, innX12, ggX12, tyX12_ok, nmX12, rfl, rfl, fun _ => rfl⟩
theorem fX12_164 : ev_Fr RX12 164 13 75 := ⟨RX12, TX12, 78, "PaperBoardModel", rfl, by decide, ev_in7 10 rfl rfl, Or.inl rfl, innX12, ggX12⟩
theorem pX12_164 : ev_F RX12 164 13 75 (.array .int) true := ⟨RX12, TX12, 78, "PaperBoardModel", tyX12, rfl, by decide, ev_in7 10 rfl rfl, Or.inl rfl, innX12, ggX12, tyX12_ok, nmX12, rfl, rfl, fun _ => rfl⟩
theorem fX12_167 : ev_Fr RX12 167 13 76 := ⟨RX12, TX12, 78, "PaperBoardModel", rfl, by decide, ev_in7 11 rfl rfl, Or.inl rfl, innX12, ggX12⟩
theorem pX12_167 : ev_F RX12 167 13 76 (.array .int) true := ⟨RX12, TX12, 78, "PaperBoardModel", tyX12, rfl, by decide, ev_in7 11 rfl rfl, Or.inl rfl, innX12, ggX12, tyX12_ok, nmX12, rfl, rfl, fun _ => rfl⟩
theorem fX12_170 : ev_Fr RX12 170 13 77 := ⟨RX12, TX12, 78, "PaperBoardModel", rfl, by decide, ev_in7 12 rfl rfl, Or.inl rfl, innX12, ggX12⟩
theorem pX12_170 : ev_F RX12 170 13 77 (.array .int) true := ⟨RX12, TX12, 78, "PaperBoardModel", tyX12, rfl, by decide, ev_in7 12 rfl rfl, Or.inl rfl, innX12, ggX12, tyX12_ok, nmX12, rfl, rfl, fun _ => rfl⟩
theorem fX12_173 : ev_Fr RX12 173 13 0 := ⟨RX12, TX12, 78, "PaperBoardModel", rfl, by decide, ev_in6 175 rfl rfl, Or.inl rfl, innX12, ggX12⟩
theorem pX12_173 : ev_F RX12 173 13 0 (.int) false := ⟨RX12, TX12, 78, "PaperBoardModel", tyX12, rfl, by decide, ev_in6 175 rfl rfl, Or.inl rfl, innX12, ggX12, tyX12_ok, nmX12, rfl, rfl, fun h => by cases h⟩
theorem fX12_185 : ev_Fr RX12 185 13 1 := ⟨RX12, TX12, 78, "PaperBoardModel", rfl, by decide, ev_in6 176 rfl rfl, Or.inl rfl, innX12, ggX12⟩
theorem pX12_185 : ev_F RX12 185 13 1 (.int) false := ⟨RX12, TX12, 78, "PaperBoardModel", tyX12, rfl, by decide, ev_in6 176 rfl rfl, Or.inl rfl, innX12, ggX12, tyX12_ok, nmX12, rfl, rfl, fun h => by cases h⟩
theorem fX12_19 : ev_Fr RX12 19 13 6 := ⟨RX12, TX12, 78, "PaperBoardModel", rfl, by decide, ev_in6 181 rfl rfl, Or.inl rfl, innX12, ggX12⟩
theorem pX12_19 : ev_F RX12 19 13 6 (.array .int) true := ⟨RX12, TX12, 78, "PaperBoardModel", tyX12, rfl, by decide, ev_in6 181 rfl rfl, Or.inl rfl, innX12, ggX12, tyX12_ok, nmX12, rfl, rfl, fun _ => rfl⟩
theorem fX12_196 : ev_Fr RX12 196 13 21 := ⟨RX12, TX12, 78, "PaperBoardModel", rfl, by decide, ev_in6 196 rfl rfl, Or.inl rfl, innX12, ggX12⟩
theorem pX12_196 : ev_F RX12 196 13 21 (.int) false := ⟨RX12, TX12, 78, "PaperBoardModel", tyX12, rfl, by decide, ev_in6 196 rfl rfl, Or.inl rfl, innX12, ggX12, tyX12_ok, nmX12, rfl, rfl, fun h => by cases h⟩
theorem fX12_202 : ev_Fr RX12 202 13 24 := ⟨RX12, TX12, 78, "PaperBoardModel", rfl, by decide, ev_in6 199 rfl rfl, Or.inl rfl, innX12, ggX12⟩
theorem pX12_202 : ev_F RX12 202 13 24 (.int) false := ⟨RX12, TX12, 78, "PaperBoardModel", tyX12, rfl, by decide, ev_in6 199 rfl rfl, Or.inl rfl, innX12, ggX12, tyX12_ok, nmX12, rfl, rfl, fun h => by cases h⟩
theorem fX12_209 : ev_Fr RX12 209 13 28 := ⟨RX12, TX12, 78, "PaperBoardModel", rfl, by decide, ev_in6 203 rfl rfl, Or.inl rfl, innX12, ggX12⟩
theorem pX12_209 : ev_F RX12 209 13 28 (.int) false := ⟨RX12, TX12, 78, "PaperBoardModel", tyX12, rfl, by decide, ev_in6 203 rfl rfl, Or.inl rfl, innX12, ggX12, tyX12_ok, nmX12, rfl, rfl, fun h => by cases h⟩
theorem fX12_212 : ev_Fr RX12 212 13 30 := ⟨RX12, TX12, 78, "PaperBoardModel", rfl, by decide, ev_in6 205 rfl rfl, Or.inl rfl, innX12, ggX12⟩
theorem pX12_212 : ev_F RX12 212 13 30 (.int) false := ⟨RX12, TX12, 78, "PaperBoardModel", tyX12, rfl, by decide, ev_in6 205 rfl rfl, Or.inl rfl, innX12, ggX12, tyX12_ok, nmX12, rfl, rfl, fun h => by cases h⟩
theorem fX12_215 : ev_Fr RX12 215 13 31 := ⟨RX12, TX12, 78, "PaperBoardModel", rfl, by decide, ev_in6 206 rfl rfl, Or.inl rfl, innX12, ggX12⟩
theorem pX12_215 : ev_F RX12 215 13 31 (.int) false := ⟨RX12, TX12, 78, "PaperBoardModel", tyX12, rfl, by decide, ev_in6 206 rfl rfl, Or.inl rfl, innX12, ggX12, tyX12_ok, nmX12, rfl, rfl, fun h => by cases h⟩
theorem fX12_22 : ev_Fr RX12 22 13 7 := ⟨RX12, TX12, 78, "PaperBoardModel", rfl, by decide, ev_in6 182 rfl rfl, Or.inl rfl, innX12, ggX12⟩
theorem pX12_22 : ev_F RX12 22 13 7 (.array .int) true := ⟨RX12, TX12, 78, "PaperBoardModel", tyX12, rfl, by decide, ev_in6 182 rfl rfl, Or.inl rfl, innX12, ggX12, tyX12_ok, nmX12, rfl, rfl, fun _ => rfl⟩
theorem fX12_222 : ev_Fr RX12 222 13 32 := ⟨RX12, TX12, 78, "PaperBoardModel", rfl, by decide, ev_in6 207 rfl rfl, Or.inl rfl, innX12, ggX12⟩
theorem pX12_222 : ev_F RX12 222 13 32 (.int) false := ⟨RX12, TX12, 78, "PaperBoardModel", tyX12, rfl, by decide, ev_in6 207 rfl rfl, Or.inl rfl, innX12, ggX12, tyX12_ok, nmX12, rfl, rfl, fun h => by cases h⟩
theorem fX12_25 : ev_Fr RX12 25 13 8 := ⟨RX12, TX12, 78, "PaperBoardModel", rfl, by decide, ev_in6 183 rfl rfl, Or.inl rfl, innX12, ggX12⟩
theorem pX12_25 : ev_F RX12 25 13 8 (.array .int) true := ⟨RX12, TX12, 78, "PaperBoardModel", tyX12, rfl, by decide, ev_in6 183 rfl rfl, Or.inl rfl, innX12, ggX12, tyX12_ok, nmX12, rfl, rfl, fun _ => rfl⟩
theorem fX12_28 : ev_Fr RX12 28 13 9 := ⟨RX12, TX12, 78, "PaperBoardModel", rfl, by decide, ev_in6 184 rfl rfl, Or.inl rfl, innX12, ggX12⟩
theorem pX12_28 : ev_F RX12 28 13 9 (.array .int) true := ⟨RX12, TX12, 78, "PaperBoardModel", tyX12, rfl, by decide, ev_in6 184 rfl rfl, Or.inl rfl, innX12, ggX12, tyX12_ok, nmX12, rfl, rfl, fun _ => rfl⟩
theorem fX12_289 : ev_Fr RX12 289 13 29 := ⟨RX12, TX12, 78, "PaperBoardModel", rfl, by decide, ev_in6 204 rfl rfl, Or.inl rfl, innX12, ggX12⟩
theorem pX12_289 : ev_F RX12 289 13 29 (.int) false := ⟨RX12, TX12, 78, "PaperBoardModel", tyX12, rfl, by decide, ev_in6 204 rfl rfl, Or.inl rfl, innX12, ggX12, tyX12_ok, nmX12, rfl, rfl, fun h => by cases h⟩
theorem fX12_292 : ev_Fr RX12 292 13 35 := ⟨RX12, TX12, 78, "PaperBoardModel", rfl, by decide, ev_in6 210 rfl rfl, Or.inl rfl, innX12, ggX12⟩
theorem pX12_292 : ev_F RX12 292 13 35 (.int) false := ⟨RX12, TX12, 78, "PaperBoardModel", tyX12, rfl, by decide, ev_in6 210 rfl rfl, Or.inl rfl, innX12, ggX12, tyX12_ok, nmX12, rfl, rfl, fun h => by cases h⟩
theorem fX12_295 : ev_Fr RX12 295 13 34 := ⟨RX12, TX12, 78, "PaperBoardModel", rfl, by decide, ev_in6 209 rfl rfl, Or.inl rfl, innX12, ggX12⟩
theorem pX12_295 : ev_F RX12 295 13 34 (.int) false := ⟨RX12, TX12, 78, "PaperBoardModel", tyX12, rfl, by decide, ev_in6 209 rfl rfl, Or.inl rfl, innX12, ggX12, tyX12_ok, nmX12, rfl, rfl, fun h => by cases h⟩
theorem fX12_31 : ev_Fr RX12 31 13 10 := ⟨RX12, TX12, 78, "PaperBoardModel", rfl, by decide, ev_in6 185 rfl rfl, Or.inl rfl, innX12, ggX12⟩
theorem pX12_31 : ev_F RX12 31 13 10 (.array .int) true := ⟨RX12, TX12, 78, "PaperBoardModel", tyX12, rfl, by decide, ev_in6 185 rfl rfl, Or.inl rfl, innX12, ggX12, tyX12_ok, nmX12, rfl, rfl, fun _ => rfl⟩
theorem fX12_34 : ev_Fr RX12 34 13 11 := ⟨RX12, TX12, 78, "PaperBoardModel", rfl, by decide, ev_in6 186 rfl rfl, Or.inl rfl, innX12, ggX12⟩
theorem pX12_34 : ev_F RX12 34 13 11 (.array .int) true := ⟨RX12, TX12, 78, "PaperBoardModel", tyX12, rfl, by decide, ev_in6 186 rfl rfl, Or.inl rfl, innX12, ggX12, tyX12_ok, nmX12, rfl, rfl, fun _ => rfl⟩
theorem fX12_364 : ev_Fr RX12 364 13 2 := ⟨RX12, TX12, 78, "PaperBoardModel", rfl, by decide, ev_in6 177 rfl rfl, Or.inl rfl, innX12, ggX12⟩
theorem pX12_364 : ev_F RX12 364 13 2 (.int) false := ⟨RX12, TX12, 78, "PaperBoardModel", tyX12, rfl, by decide, ev_in6 177 rfl rfl, Or.inl rfl, innX12, ggX12, tyX12_ok, nmX12, rfl, rfl, fun h => by cases h⟩
theorem fX12_37 : ev_Fr RX12 37 13 12 := ⟨RX12, TX12, 78, "PaperBoardModel", rfl, by decide, ev_in6 187 rfl rfl, Or.inl rfl, innX12, ggX12⟩
theorem pX12_37 : ev_F RX12 37 13 12 (.array .int) true := ⟨RX12, TX12, 78, "PaperBoardModel", tyX12, rfl, by decide, ev_in6 187 rfl rfl, Or.inl rfl, innX12, ggX12, tyX12_ok, nmX12, rfl, rfl, fun _ => rfl⟩
theorem fX12_371 : ev_Fr RX12 371 13 42 := ⟨RX12, TX12, 78, "PaperBoardModel", rfl, by decide, ev_in6 217 rfl rfl, Or.inl rfl, innX12, ggX12⟩
theorem pX12_371 : ev_F RX12 371 13 42 (.int) false := ⟨RX12, TX12, 78, "PaperBoardModel", tyX12, rfl, by decide, ev_in6 217 rfl rfl, Or.inl rfl, innX12, ggX12, tyX12_ok, nmX12, rfl, rfl, fun h => by cases h⟩
theorem fX12_374 : ev_Fr RX12 374 13 43 := ⟨RX12, TX12, 78, "PaperBoardModel", rfl, by decide, ev_in6 218 rfl rfl, Or.inl rfl, innX12, ggX12⟩
theorem pX12_374 : ev_F RX12 374 13 43 (.int) false := ⟨RX12, TX12, 78, "PaperBoardModel", tyX12, rfl, by decide, ev_in6 218 rfl rfl, Or.inl rfl, innX12, ggX12, tyX12_ok, nmX12, rfl, rfl, fun h => by cases h⟩
theorem fX12_377 : ev_Fr RX12 377 13 44 := ⟨RX12, TX12, 78, "PaperBoardModel", rfl, by decide, ev_in6 219 rfl rfl, Or.inl rfl, innX12, ggX12⟩
theorem pX12_377 : ev_F RX12 377 13 44 (.int) false := ⟨RX12, TX12, 78, "PaperBoardModel", tyX12, rfl, by decide, ev_in6 219 rfl rfl, Or.inl rfl, innX12, ggX12, tyX12_ok, nmX12, rfl, rfl, fun h => by cases h⟩
theorem fX12_380 : ev_Fr RX12 380 13 45 := ⟨RX12, TX12, 78, "PaperBoardModel", rfl, by decide, ev_in6 220 rfl rfl, Or.inl rfl, innX12, ggX12⟩
theorem pX12_380 : ev_F RX12 380 13 45 (.int) false := ⟨RX12, TX12, 78, "PaperBoardModel", tyX12, rfl, by decide, ev_in6 220 rfl rfl, Or.inl rfl, innX12, ggX12, tyX12_ok, nmX12, rfl, rfl, fun h => by cases h⟩
theorem fX12_383 : ev_Fr RX12 383 13 46 := ⟨RX12, TX12, 78, "PaperBoardModel", rfl, by decide, ev_in6 221 rfl rfl, Or.inl rfl, innX12, ggX12⟩
theorem pX12_383 : ev_F RX12 383 13 46 (.int) false := ⟨RX12, TX12, 78, "PaperBoardModel", tyX12, rfl, by decide, ev_in6 221 rfl rfl, Or.inl rfl, innX12, ggX12, tyX12_ok, nmX12, rfl, rfl, fun h => by cases h⟩
theorem fX12_386 : ev_Fr RX12 386 13 47 := ⟨RX12, TX12, 78, "PaperBoardModel", rfl, by decide, ev_in6 222 rfl rfl, Or.inl rfl, innX12, ggX12⟩
theorem pX12_386 : ev_F RX12 386 13 47 (.int) false := ⟨RX12, TX12, 78, "PaperBoardModel", tyX12, rfl, by decide, ev_in6 222 rfl rfl, Or.inl rfl, innX12, ggX12, tyX12_ok, nmX12, rfl, rfl, fun h => by cases h⟩
theorem fX12_389 : ev_Fr RX12 389 13 48 := ⟨RX12, TX12, 78, "PaperBoardModel", rfl, by decide, ev_in6 223 rfl rfl, Or.inl rfl, innX12, ggX12⟩
theorem pX12_389 : ev_F RX12 389 13 48 (.int) false := ⟨RX12, TX12, 78, "PaperBoardModel", tyX12, rfl, by decide, ev_in6 223 rfl rfl, Or.inl rfl, innX12, ggX12, tyX12_ok, nmX12, rfl, rfl, fun h => by cases h⟩
theorem fX12_40 : ev_Fr RX12 40 13 13 := ⟨RX12, TX12, 78, "PaperBoardModel", rfl, by decide, ev_in6 188 rfl rfl, Or.inl rfl, innX12, ggX12⟩
theorem pX12_40 : ev_F RX12 40 13 13 (.array .int) true := ⟨RX12, TX12, 78, "PaperBoardModel", tyX12, rfl, by decide, ev_in6 188 rfl rfl, Or.inl rfl, innX12, ggX12, tyX12_ok, nmX12, rfl, rfl, fun _ => rfl⟩
theorem fX12_43 : ev_Fr RX12 43 13 14 := ⟨RX12, TX12, 78, "PaperBoardModel", rfl, by decide, ev_in6 189 rfl rfl, Or.inl rfl, innX12, ggX12⟩
theorem pX12_43 : ev_F RX12 43 13 14 (.array .int) true := ⟨RX12, TX12, 78, "PaperBoardModel", tyX12, rfl, by decide, ev_in6 189 rfl rfl, Or.inl rfl, innX12, ggX12, tyX12_ok, nmX12, rfl, rfl, fun _ => rfl⟩
theorem fX12_446 : ev_Fr RX12 446 13 62 := ⟨RX12, TX12, 78, "PaperBoardModel", rfl, by decide, ev_in6 237 rfl rfl, Or.inl rfl, innX12, ggX12⟩
theorem pX12_446 : ev_F RX12 446 13 62 (.int) false := ⟨RX12, TX12, 78, "PaperBoardModel", tyX12, rfl, by decide, ev_in6 237 rfl rfl, Or.inl rfl, innX12, ggX12, tyX12_ok, nmX12, rfl, rfl, fun h => by cases h⟩
theorem fX12_46 : ev_Fr RX12 46 13 15 := ⟨RX12, TX12, 78, "PaperBoardModel", rfl, by decide, ev_in6 190 rfl rfl, Or.inl rfl, innX12, ggX12⟩
theorem pX12_46 : ev_F RX12 46 13 15 (.array .int) true := ⟨RX12, TX12, 78, "PaperBoardModel", tyX12, rfl, by decide, ev_in6 190 rfl rfl, Or.inl rfl, innX12, ggX12, tyX12_ok, nmX12, rfl, rfl, fun _ => rfl⟩
theorem fX12_486 : ev_Fr RX12 486 13 69 := ⟨RX12, TX12, 78, "PaperBoardModel", rfl, by decide, ev_in7 4 rfl rfl, Or.inl rfl, innX12, ggX12⟩
theorem pX12_486 : ev_F RX12 486 13 69 (.int) false := ⟨RX12, TX12, 78, "PaperBoardModel", tyX12, rfl, by decide, ev_in7 4 rfl rfl, Or.inl rfl, innX12, ggX12, tyX12_ok, nmX12, rfl, rfl, fun h => by cases h⟩
theorem fX12_489 : ev_Fr RX12 489 13 72 := ⟨RX12, TX12, 78, "PaperBoardModel", rfl, by decide, ev_in7 7 rfl rfl, Or.inl rfl, innX12, ggX12⟩
theorem pX12_489 : ev_F RX12 489 13 72 (.int) false := ⟨RX12, TX12, 78, "PaperBoardModel", tyX12, rfl, by decide, ev_in7 7 rfl rfl, Or.inl rfl, innX12, ggX12, tyX12_ok, nmX12, rfl, rfl, fun h => by cases h⟩
theorem fX12_49 : ev_Fr RX12 49 13 16 := ⟨RX12, TX12, 78, "PaperBoardModel", rfl, by decide, ev_in6 191 rfl rfl, Or.inl rfl, innX12, ggX12⟩
theorem pX12_49 : ev_F RX12 49 13 16 (.array .int) true := ⟨RX12, TX12, 78, "PaperBoardModel", tyX12, rfl, by decide, ev_in6 191 rfl rfl, Or.inl rfl, innX12, ggX12, tyX12_ok, nmX12, rfl, rfl, fun _ => rfl⟩
theorem fX12_492 : ev_Fr RX12 492 13 70 := ⟨RX12, TX12, 78, "PaperBoardModel", rfl, by decide, ev_in7 5 rfl rfl, Or.inl rfl, innX12, ggX12⟩
theorem pX12_492 : ev_F RX12 492 13 70 (.int) false := ⟨RX12, TX12, 78, "PaperBoardModel", tyX12, rfl, by decide, ev_in7 5 rfl rfl, Or.inl rfl, innX12, ggX12, tyX12_ok, nmX12, rfl, rfl, fun h => by cases h⟩
theorem fX12_495 : ev_Fr RX12 495 13 71 := ⟨RX12, TX12, 78, "PaperBoardModel", rfl, by decide, ev_in7 6 rfl rfl, Or.inl rfl, innX12, ggX12⟩
theorem pX12_495 : ev_F RX12 495 13 71 (.int) false := ⟨RX12, TX12, 78, "PaperBoardModel", tyX12, rfl, by decide, ev_in7 6 rfl rfl, Or.inl rfl, innX12, ggX12, tyX12_ok, nmX12, rfl, rfl, fun h => by cases h⟩
theorem fX12_505 : ev_Fr RX12 505 13 73 := ⟨RX12, TX12, 78, "PaperBoardModel", rfl, by decide, ev_in7 8 rfl rfl, Or.inl rfl, innX12, ggX12⟩
theorem pX12_505 : ev_F RX12 505 13 73 (.int) false := ⟨RX12, TX12, 78, "PaperBoardModel", tyX12, rfl, by decide, ev_in7 8 rfl rfl, Or.inl rfl, innX12, ggX12, tyX12_ok, nmX12, rfl, rfl, fun h => by cases h⟩
theorem fX12_52 : ev_Fr RX12 52 13 17 := ⟨RX12, TX12, 78, "PaperBoardModel", rfl, by decide, ev_in6 192 rfl rfl, Or.inl rfl, innX12, ggX12⟩
theorem pX12_52 : ev_F RX12 52 13 17 (.array .int) true := ⟨RX12, TX12, 78, "PaperBoardModel", tyX12, rfl, by decide, ev_in6 192 rfl rfl, Or.inl rfl, innX12, ggX12, tyX12_ok, nmX12, rfl, rfl, fun _ => rfl⟩
theorem fX12_55 : ev_Fr RX12 55 13 18 := ⟨RX12, TX12, 78, "PaperBoardModel", rfl, by decide, ev_in6 193 rfl rfl, Or.inl rfl, innX12, ggX12⟩
theorem pX12_55 : ev_F RX12 55 13 18 (.array .int) true := ⟨RX12, TX12, 78, "PaperBoardModel", tyX12, rfl, by decide, ev_in6 193 rfl rfl, Or.inl rfl, innX12, ggX12, tyX12_ok, nmX12, rfl, rfl, fun _ => rfl⟩
theorem fX12_58 : ev_Fr RX12 58 13 19 := ⟨RX12, TX12, 78, "PaperBoardModel", rfl, by decide, ev_in6 194 rfl rfl, Or.inl rfl, innX12, ggX12⟩
theorem pX12_58 : ev_F RX12 58 13 19 (.array .int) true := ⟨RX12, TX12, 78, "PaperBoardModel", tyX12, rfl, by decide, ev_in6 194 rfl rfl, Or.inl rfl, innX12, ggX12, tyX12_ok, nmX12, rfl, rfl, fun _ => rfl⟩
theorem fX12_61 : ev_Fr RX12 61 13 20 := ⟨RX12, TX12, 78, "PaperBoardModel", rfl, by decide, ev_in6 195 rfl rfl, Or.inl rfl, innX12, ggX12⟩
theorem pX12_61 : ev_F RX12 61 13 20 (.array .int) true := ⟨RX12, TX12, 78, "PaperBoardModel", tyX12, rfl, by decide, ev_in6 195 rfl rfl, Or.inl rfl, innX12, ggX12, tyX12_ok, nmX12, rfl, rfl, fun _ => rfl⟩
theorem fX12_64 : ev_Fr RX12 64 13 22 := ⟨RX12, TX12, 78, "PaperBoardModel", rfl, by decide, ev_in6 197 rfl rfl, Or.inl rfl, innX12, ggX12⟩
theorem pX12_64 : ev_F RX12 64 13 22 (.array .int) true := ⟨RX12, TX12, 78, "PaperBoardModel", tyX12, rfl, by decide, ev_in6 197 rfl rfl, Or.inl rfl, innX12, ggX12, tyX12_ok, nmX12, rfl, rfl, fun _ => rfl⟩
theorem fX12_67 : ev_Fr RX12 67 13 23 := ⟨RX12, TX12, 78, "PaperBoardModel", rfl, by decide, ev_in6 198 rfl rfl, Or.inl rfl, innX12, ggX12⟩
theorem pX12_67 : ev_F RX12 67 13 23 (.array .int) true := ⟨RX12, TX12, 78, "PaperBoardModel", tyX12, rfl, by decide, ev_in6 198 rfl rfl, Or.inl rfl, innX12, ggX12, tyX12_ok, nmX12, rfl, rfl, fun _ => rfl⟩
theorem fX12_70 : ev_Fr RX12 70 13 25 := ⟨RX12, TX12, 78, "PaperBoardModel", rfl, by decide, ev_in6 200 rfl rfl, Or.inl rfl, innX12, ggX12⟩
theorem pX12_70 : ev_F RX12 70 13 25 (.array .int) true := ⟨RX12, TX12, 78, "PaperBoardModel", tyX12, rfl, by decide, ev_in6 200 rfl rfl, Or.inl rfl, innX12, ggX12, tyX12_ok, nmX12, rfl, rfl, fun _ => rfl⟩
theorem fX12_73 : ev_Fr RX12 73 13 26 := ⟨RX12, TX12, 78, "PaperBoardModel", rfl, by decide, ev_in6 201 rfl rfl, Or.inl rfl, innX12, ggX12⟩
theorem pX12_73 : ev_F RX12 73 13 26 (.array .int) true := ⟨RX12, TX12, 78, "PaperBoardModel", tyX12, rfl, by decide, ev_in6 201 rfl rfl, Or.inl rfl, innX12, ggX12, tyX12_ok, nmX12, rfl, rfl, fun _ => rfl⟩
theorem fX12_76 : ev_Fr RX12 76 13 27 := ⟨RX12, TX12, 78, "PaperBoardModel", rfl, by decide, ev_in6 202 rfl rfl, Or.inl rfl, innX12, ggX12⟩
theorem pX12_76 : ev_F RX12 76 13 27 (.array .byte) true := ⟨RX12, TX12, 78, "PaperBoardModel", tyX12, rfl, by decide, ev_in6 202 rfl rfl, Or.inl rfl, innX12, ggX12, tyX12_ok, nmX12, rfl, rfl, fun _ => rfl⟩
theorem fX12_80 : ev_Fr RX12 80 13 33 := ⟨RX12, TX12, 78, "PaperBoardModel", rfl, by decide, ev_in6 208 rfl rfl, Or.inl rfl, innX12, ggX12⟩
theorem pX12_80 : ev_F RX12 80 13 33 (.int) false := ⟨RX12, TX12, 78, "PaperBoardModel", tyX12, rfl, by decide, ev_in6 208 rfl rfl, Or.inl rfl, innX12, ggX12, tyX12_ok, nmX12, rfl, rfl, fun h => by cases h⟩
theorem fX12_84 : ev_Fr RX12 84 13 36 := ⟨RX12, TX12, 78, "PaperBoardModel", rfl, by decide, ev_in6 211 rfl rfl, Or.inl rfl, innX12, ggX12⟩
theorem pX12_84 : ev_F RX12 84 13 36 (.array .int) true := ⟨RX12, TX12, 78, "PaperBoardModel", tyX12, rfl, by decide, ev_in6 211 rfl rfl, Or.inl rfl, innX12, ggX12, tyX12_ok, nmX12, rfl, rfl, fun _ => rfl⟩
theorem fX12_87 : ev_Fr RX12 87 13 37 := ⟨RX12, TX12, 78, "PaperBoardModel", rfl, by decide, ev_in6 212 rfl rfl, Or.inl rfl, innX12, ggX12⟩
theorem pX12_87 : ev_F RX12 87 13 37 (.array .int) true := ⟨RX12, TX12, 78, "PaperBoardModel", tyX12, rfl, by decide, ev_in6 212 rfl rfl, Or.inl rfl, innX12, ggX12, tyX12_ok, nmX12, rfl, rfl, fun _ => rfl⟩
theorem fX12_9 : ev_Fr RX12 9 13 3 := ⟨RX12, TX12, 78, "PaperBoardModel", rfl, by decide, ev_in6 178 rfl rfl, Or.inl rfl, innX12, ggX12⟩
theorem pX12_9 : ev_F RX12 9 13 3 (.array .int) true := ⟨RX12, TX12, 78, "PaperBoardModel", tyX12, rfl, by decide, ev_in6 178 rfl rfl, Or.inl rfl, innX12, ggX12, tyX12_ok, nmX12, rfl, rfl, fun _ => rfl⟩
theorem fX12_90 : ev_Fr RX12 90 13 38 := ⟨RX12, TX12, 78, "PaperBoardModel", rfl, by decide, ev_in6 213 rfl rfl, Or.inl rfl, innX12, ggX12⟩
theorem pX12_90 : ev_F RX12 90 13 38 (.array .int) true := ⟨RX12, TX12, 78, "PaperBoardModel", tyX12, rfl, by decide, ev_in6 213 rfl rfl, Or.inl rfl, innX12, ggX12, tyX12_ok, nmX12, rfl, rfl, fun _ => rfl⟩
theorem fX12_93 : ev_Fr RX12 93 13 39 := ⟨RX12, TX12, 78, "PaperBoardModel", rfl, by decide, ev_in6 214 rfl rfl, Or.inl rfl, innX12, ggX12⟩
theorem pX12_93 : ev_F RX12 93 13 39 (.array .int) true := ⟨RX12, TX12, 78, "PaperBoardModel", tyX12, rfl, by decide, ev_in6 214 rfl rfl, Or.inl rfl, innX12, ggX12, tyX12_ok, nmX12, rfl, rfl, fun _ => rfl⟩
theorem fX12_96 : ev_Fr RX12 96 13 40 := ⟨RX12, TX12, 78, "PaperBoardModel", rfl, by decide, ev_in6 215 rfl rfl, Or.inl rfl, innX12, ggX12⟩
theorem pX12_96 : ev_F RX12 96 13 40 (.array .int) true := ⟨RX12, TX12, 78, "PaperBoardModel", tyX12, rfl, by decide, ev_in6 215 rfl rfl, Or.inl rfl, innX12, ggX12, tyX12_ok, nmX12, rfl, rfl, fun _ => rfl⟩
theorem fX12_99 : ev_Fr RX12 99 13 41 := ⟨RX12, TX12, 78, "PaperBoardModel", rfl, by decide, ev_in6 216 rfl rfl, Or.inl rfl, innX12, ggX12⟩
theorem pX12_99 : ev_F RX12 99 13 41 (.array .int) true := ⟨RX12, TX12, 78, "PaperBoardModel", tyX12, rfl, by decide, ev_in6 216 rfl rfl, Or.inl rfl, innX12, ggX12, tyX12_ok, nmX12, rfl, rfl, fun _ => rfl⟩
theorem fJx4a65c_48 : ev_Fr RJx4a65c 48 0 2 := ⟨RJx4a65c, TJx4a65c, 3, "java/util/ArrayList", rfl, by decide, ev_in1 56 rfl rfl, Or.inl rfl, innJx4a65c, ggJx4a65c⟩
theorem pJx4a65c_48 : ev_F RJx4a65c 48 0 2 (.int) false := ⟨RJx4a65c, TJx4a65c, 3, "java/util/ArrayList", tyJx4a65c, rfl, by decide, ev_in1 56 rfl rfl, Or.inl rfl, innJx4a65c, ggJx4a65c, tyJx4a65c_ok, nmJx4a65c, rfl, rfl, fun h => by cases h⟩
theorem fJx4a65c_63 : ev_Fr RJx4a65c 63 0 0 := ⟨RJx4a65c, TJx4a65c, 3, "java/util/ArrayList", rfl, by decide, ev_in1 58 rfl rfl, Or.inr (ev_in1 59 rfl rfl), innJx4a65c, ggJx4a65c⟩
theorem pJx4a65c_63 : ev_F RJx4a65c 63 0 0 (.int) false := ⟨RJx4a65c, TJx4a65c, 3, "java/util/ArrayList", tyJx4a65c, rfl, by decide, ev_in1 58 rfl rfl, Or.inr (ev_in1 59 rfl rfl), innJx4a65c, ggJx4a65c, tyJx4a65c_ok, nmJx4a65c, rfl, rfl, fun h => by cases h⟩
theorem fJx4a65c_9 : ev_Fr RJx4a65c 9 0 1 := ⟨RJx4a65c, TJx4a65c, 3, "java/util/ArrayList", rfl, by decide, ev_in1 55 rfl rfl, Or.inl rfl, innJx4a65c, ggJx4a65c⟩
theorem pJx4a65c_9 : ev_F RJx4a65c 9 0 1 (.array (.object "java/lang/Object")) false := ⟨RJx4a65c, TJx4a65c, 3, "java/util/ArrayList", tyJx4a65c, rfl, by decide, ev_in1 55 rfl rfl, Or.inl rfl, innJx4a65c, ggJx4a65c, tyJx4a65c_ok, nmJx4a65c, rfl, rfl, fun h => by cases h⟩
theorem lX0_35 : Cond.methodLink RX0 35 yJ9_abs_0f7a4 ∈ ev_T := ev_in6 88 rfl rfl
theorem lX1_27 : Cond.methodLink RX1 27 yJ6_bitCount_0f7a4 ∈ ev_T := ev_in5 143 rfl rfl
theorem lX2_34 : Cond.methodLink RX2 34 yJ7_fill_53178 ∈ ev_T := ev_in5 117 rfl rfl
theorem lX2_40 : Cond.methodLink RX2 40 yX2_put ∈ ev_T := ev_in5 153 rfl rfl
theorem lX2_55 : Cond.methodLink RX2 55 yX2_rowsOf ∈ ev_T := ev_in5 157 rfl rfl
theorem lX2_59 : Cond.methodLink RX2 59 yX2_cell ∈ ev_T := ev_in6 152 rfl rfl
theorem lX2_63 : Cond.methodLink RX2 63 yX2_has ∈ ev_T := ev_in6 148 rfl rfl
theorem lX3_28 : Cond.methodLink RX3 28 yX3_isBetter ∈ ev_T := ev_in6 129 rfl rfl
theorem lX5_72 : Cond.methodLink RX5 72 yJ7_fill_53178 ∈ ev_T := ev_in5 165 rfl rfl
theorem lX5_79 : Cond.methodLink RX5 79 yJ9_min_7cf53 ∈ ev_T := ev_in5 212 rfl rfl
theorem lX5_85 : Cond.methodLink RX5 85 yX5_addSize ∈ ev_T := ev_in5 207 rfl rfl
theorem lX5_89 : Cond.methodLink RX5 89 yX5_leave ∈ ev_T := ev_in5 213 rfl rfl
theorem lX6_22 : Cond.methodLink RX6 22 yJ7_fill_53178 ∈ ev_T := ev_in5 40 rfl rfl
theorem lX6_28 : Cond.methodLink RX6 28 yX6_nextBidder ∈ ev_T := ev_in5 43 rfl rfl
theorem lX6_32 : Cond.methodLink RX6 32 yJx4a65c_size_8abf5 ∈ ev_T := ev_in5 46 rfl rfl
theorem lX6_38 : Cond.methodLink RX6 38 yJx4a65c_get_915e3 ∈ ev_T := ev_in5 47 rfl rfl
theorem lX6_48 : Cond.methodLink RX6 48 yJ9_min_7cf53 ∈ ev_T := ev_in5 53 rfl rfl
theorem lX6_54 : Cond.methodLink RX6 54 yX5_isAdmitted ∈ ev_T := ev_in5 49 rfl rfl
theorem lX6_61 : Cond.methodLink RX6 61 yX6_isBehind ∈ ev_T := ev_in5 50 rfl rfl
theorem lX6_65 : Cond.methodLink RX6 65 yX6_giveLeast ∈ ev_T := ev_in5 66 rfl rfl
theorem lX6_71 : Cond.methodLink RX6 71 yX6_giveOver ∈ ev_T := ev_in5 71 rfl rfl
theorem lX7_102 : Cond.methodLink RX7 102 yX7_readSum ∈ ev_T := ev_in4 121 rfl rfl
theorem lX7_105 : Cond.methodLink RX7 105 yX7_formula ∈ ev_T := ev_in4 171 rfl rfl
theorem lX7_112 : Cond.methodLink RX7 112 yX7_readPages ∈ ev_T := ev_in4 185 rfl rfl
theorem lX7_121 : Cond.methodLink RX7 121 yX7_takeNumber ∈ ev_T := ev_in4 133 rfl rfl
theorem lX7_141 : Cond.methodLink RX7 141 yX7_takeWord ∈ ev_T := ev_in4 190 rfl rfl
theorem lX7_155 : Cond.methodLink RX7 155 yX4_tellPages ∈ ev_T := ev_in4 194 rfl rfl
theorem lX7_159 : Cond.methodLink RX7 159 yJ7_copyOf_59c91 ∈ ev_T := ev_in4 175 rfl rfl
theorem lX7_165 : Cond.methodLink RX7 165 yX7_readProduct ∈ ev_T := ev_in4 125 rfl rfl
theorem lX7_168 : Cond.methodLink RX7 168 yX7_emit ∈ ev_T := ev_in4 138 rfl rfl
theorem lX7_171 : Cond.methodLink RX7 171 yX7_readUnit ∈ ev_T := ev_in4 129 rfl rfl
theorem lX7_174 : Cond.methodLink RX7 174 yX7_readInBrackets ∈ ev_T := ev_in4 142 rfl rfl
theorem lX7_177 : Cond.methodLink RX7 177 yX7_readNamed ∈ ev_T := ev_in4 154 rfl rfl
theorem lX7_182 : Cond.methodLink RX7 182 yX7_readTwo ∈ ev_T := ev_in4 159 rfl rfl
theorem lX7_185 : Cond.methodLink RX7 185 yX7_readIf ∈ ev_T := ev_in4 163 rfl rfl
theorem lX7_188 : Cond.methodLink RX7 188 yX7_openBracket ∈ ev_T := ev_in4 146 rfl rfl
theorem lX7_191 : Cond.methodLink RX7 191 yX7_takeRelation ∈ ev_T := ev_in4 167 rfl rfl
theorem lX7_45 : Cond.methodLink RX7 45 yX4_init ∈ ev_T := ev_in4 42 rfl rfl
theorem lX7_48 : Cond.methodLink RX7 48 yX7_next ∈ ev_T := ev_in4 43 rfl rfl
theorem lX7_51 : Cond.methodLink RX7 51 yX7_readClause ∈ ev_T := ev_in4 58 rfl rfl
theorem lX7_55 : Cond.methodLink RX7 55 yX7_take ∈ ev_T := ev_in4 150 rfl rfl
theorem lX7_58 : Cond.methodLink RX7 58 yX7_byteAt ∈ ev_T := ev_in4 47 rfl rfl
theorem lX7_62 : Cond.methodLink RX7 62 yJ9_min_7cf53 ∈ ev_T := ev_in4 51 rfl rfl
theorem lX7_68 : Cond.methodLink RX7 68 yX7_isLetter ∈ ev_T := ev_in4 52 rfl rfl
theorem lX7_72 : Cond.methodLink RX7 72 yX7_isDigit ∈ ev_T := ev_in4 55 rfl rfl
theorem lX7_75 : Cond.methodLink RX7 75 yX7_fail ∈ ev_T := ev_in4 117 rfl rfl
theorem lX7_78 : Cond.methodLink RX7 78 yJ0_length_8abf5 ∈ ev_T := ev_in4 67 rfl rfl
theorem lX7_84 : Cond.methodLink RX7 84 yJ0_charAt_5068e ∈ ev_T := ev_in4 77 rfl rfl
theorem lX7_88 : Cond.methodLink RX7 88 yX7_isWord ∈ ev_T := ev_in4 113 rfl rfl
theorem lX7_92 : Cond.methodLink RX7 92 yX7_wordAmong ∈ ev_T := ev_in4 63 rfl rfl
theorem lX9_22 : Cond.methodLink RX9 22 yX9_mostBorne ∈ ev_T := ev_in6 19 rfl rfl
theorem lX9_26 : Cond.methodLink RX9 26 yX9_lastAlike ∈ ev_T := ev_in6 31 rfl rfl
theorem lX9_30 : Cond.methodLink RX9 30 yX9_bearers ∈ ev_T := ev_in6 23 rfl rfl
theorem lX9_33 : Cond.methodLink RX9 33 yX9_rejected ∈ ev_T := ev_in6 37 rfl rfl
theorem lX9_36 : Cond.methodLink RX9 36 yX9_bears ∈ ev_T := ev_in6 27 rfl rfl
theorem lX9_41 : Cond.methodLink RX9 41 yJ9_min_7cf53 ∈ ev_T := ev_in6 36 rfl rfl
theorem lX10_15 : Cond.methodLink RX10 15 yX10_named ∈ ev_T := ev_in4 230 rfl rfl
theorem lX10_19 : Cond.methodLink RX10 19 yX10_joined ∈ ev_T := ev_in4 233 rfl rfl
theorem lX10_23 : Cond.methodLink RX10 23 yX10_compared ∈ ev_T := ev_in4 238 rfl rfl
theorem lX10_48 : Cond.methodLink RX10 48 yJ9_min_7cf53 ∈ ev_T := ev_in4 236 rfl rfl
theorem lX10_54 : Cond.methodLink RX10 54 yJ9_max_7cf53 ∈ ev_T := ev_in4 237 rfl rfl
theorem lX11_102 : Cond.methodLink RX11 102 yX5_init ∈ ev_T := ev_in2 198 rfl rfl
theorem lX11_105 : Cond.methodLink RX11 105 yJx4a65c_add_9ea2d ∈ ev_T := ev_in3 82 rfl rfl
theorem lX11_109 : Cond.methodLink RX11 109 yX11_paperAt ∈ ev_T := ev_in3 154 rfl rfl
theorem lX11_113 : Cond.methodLink RX11 113 yX11_settable ∈ ev_T := ev_in3 174 rfl rfl
theorem lX11_120 : Cond.methodLink RX11 120 yX5_change ∈ ev_T := ev_in3 177 rfl rfl
theorem lX11_124 : Cond.methodLink RX11 124 yX5_field ∈ ev_T := ev_in3 188 rfl rfl
theorem lX11_130 : Cond.methodLink RX11 130 yX8_init ∈ ev_T := ev_in3 200 rfl rfl
theorem lX11_131 : Cond.methodLink RX11 131 yX11_reelAt ∈ ev_T := ev_in3 220 rfl rfl
theorem lX11_138 : Cond.methodLink RX11 138 yJx4a65c_get_915e3 ∈ ev_T := ev_in2 73 rfl rfl
theorem lX11_148 : Cond.methodLink RX11 148 yJ9_max_7cf53 ∈ ev_T := ev_in3 232 rfl rfl
theorem lX11_161 : Cond.methodLink RX11 161 yX11_demandOf ∈ ev_T := ev_in4 22 rfl rfl
theorem lX11_168 : Cond.methodLink RX11 168 yX7_tapeNumber ∈ ev_T := ev_in2 53 rfl rfl
theorem lX11_171 : Cond.methodLink RX11 171 yX7_empty ∈ ev_T := ev_in4 33 rfl rfl
theorem lX11_174 : Cond.methodLink RX11 174 yX7_read ∈ ev_T := ev_in4 37 rfl rfl
theorem lX11_182 : Cond.methodLink RX11 182 yX11_numberInForce ∈ ev_T := ev_in4 207 rfl rfl
theorem lX11_185 : Cond.methodLink RX11 185 yX11_orderNow ∈ ev_T := ev_in4 218 rfl rfl
theorem lX11_189 : Cond.methodLink RX11 189 yX11_partValue ∈ ev_T := ev_in4 222 rfl rfl
theorem lX11_196 : Cond.methodLink RX11 196 yX4_pagesFor ∈ ev_T := ev_in5 6 rfl rfl
theorem lX11_202 : Cond.methodLink RX11 202 yX11_priceValue ∈ ev_T := ev_in5 10 rfl rfl
theorem lX11_224 : Cond.methodLink RX11 224 yX5_isAdmitted ∈ ev_T := ev_in5 21 rfl rfl
theorem lX11_234 : Cond.methodLink RX11 234 yX11_partPool ∈ ev_T := ev_in5 32 rfl rfl
theorem lX11_238 : Cond.methodLink RX11 238 yX6_shareOf ∈ ev_T := ev_in5 75 rfl rfl
theorem lX11_243 : Cond.methodLink RX11 243 yX11_goBy ∈ ev_T := ev_in5 87 rfl rfl
theorem lX11_246 : Cond.methodLink RX11 246 yX11_areTwoAdmitted ∈ ev_T := ev_in5 173 rfl rfl
theorem lX11_249 : Cond.methodLink RX11 249 yX5_takeFrom ∈ ev_T := ev_in5 181 rfl rfl
theorem lX11_253 : Cond.methodLink RX11 253 yX5_tookFrom ∈ ev_T := ev_in5 192 rfl rfl
theorem lX11_256 : Cond.methodLink RX11 256 yX5_takeOver ∈ ev_T := ev_in5 203 rfl rfl
theorem lX11_267 : Cond.methodLink RX11 267 yX5_addSize ∈ ev_T := ev_in5 225 rfl rfl
theorem lX11_274 : Cond.methodLink RX11 274 yX1_field ∈ ev_T := ev_in5 233 rfl rfl
theorem lX11_281 : Cond.methodLink RX11 281 yX9_add ∈ ev_T := ev_in6 4 rfl rfl
theorem lX11_285 : Cond.methodLink RX11 285 yX9_field ∈ ev_T := ev_in6 15 rfl rfl
theorem lX11_288 : Cond.methodLink RX11 288 yX0_init ∈ ev_T := ev_in6 49 rfl rfl
theorem lX11_291 : Cond.methodLink RX11 291 yX11_appealAt ∈ ev_T := ev_in6 79 rfl rfl
theorem lX11_295 : Cond.methodLink RX11 295 yX0_farFrom ∈ ev_T := ev_in6 84 rfl rfl
theorem lX11_299 : Cond.methodLink RX11 299 yX0_isGranted ∈ ev_T := ev_in6 91 rfl rfl
theorem lX11_305 : Cond.methodLink RX11 305 yX11_findBest ∈ ev_T := ev_in6 116 rfl rfl
theorem lX11_309 : Cond.methodLink RX11 309 yX3_field ∈ ev_T := ev_in6 133 rfl rfl
theorem lX11_311 : Cond.methodLink RX11 311 yX2_tellAnew ∈ ev_T := ev_in6 144 rfl rfl
theorem lX11_315 : Cond.methodLink RX11 315 yX2_has ∈ ev_T := ev_in6 163 rfl rfl
theorem lX11_318 : Cond.methodLink RX11 318 yX2_usedAsKnown ∈ ev_T := ev_in6 164 rfl rfl
theorem lX11_322 : Cond.methodLink RX11 322 yX2_cell ∈ ev_T := ev_in6 168 rfl rfl
theorem lX11_325 : Cond.methodLink RX11 325 yX11_papersThatAre ∈ ev_T := ev_in2 69 rfl rfl
theorem lX11_328 : Cond.methodLink RX11 328 yX11_pool ∈ ev_T := ev_in2 88 rfl rfl
theorem lX11_334 : Cond.methodLink RX11 334 yX11_reelsStolen ∈ ev_T := ev_in2 93 rfl rfl
theorem lX11_337 : Cond.methodLink RX11 337 yJ9_min_7cf53 ∈ ev_T := ev_in5 5 rfl rfl
theorem lX11_357 : Cond.methodLink RX11 357 yX11_isAdmittedAt ∈ ev_T := ev_in5 177 rfl rfl
theorem lX11_365 : Cond.methodLink RX11 365 yX10_of ∈ ev_T := ev_in4 226 rfl rfl
theorem lX11_369 : Cond.methodLink RX11 369 yX11_bounded ∈ ev_T := ev_in5 2 rfl rfl
theorem lX11_375 : Cond.methodLink RX11 375 yX6_byBids ∈ ev_T := ev_in5 36 rfl rfl
theorem lX11_379 : Cond.methodLink RX11 379 yX11_weightOf ∈ ev_T := ev_in5 54 rfl rfl
theorem lX11_38 : Cond.methodLink RX11 38 yX4_init ∈ ev_T := ev_in1 69 rfl rfl
theorem lX11_382 : Cond.methodLink RX11 382 yX6_weigh ∈ ev_T := ev_in5 58 rfl rfl
theorem lX11_389 : Cond.methodLink RX11 389 yX6_byWeights ∈ ev_T := ev_in5 62 rfl rfl
theorem lX11_396 : Cond.methodLink RX11 396 yX11_takeGrants ∈ ev_T := ev_in5 91 rfl rfl
theorem lX11_399 : Cond.methodLink RX11 399 yX11_admit ∈ ev_T := ev_in5 96 rfl rfl
theorem lX11_402 : Cond.methodLink RX11 402 yX11_creditShares ∈ ev_T := ev_in5 100 rfl rfl
theorem lX11_405 : Cond.methodLink RX11 405 yX11_giveReels ∈ ev_T := ev_in5 104 rfl rfl
theorem lX11_408 : Cond.methodLink RX11 408 yX2_open ∈ ev_T := ev_in5 112 rfl rfl
theorem lX11_411 : Cond.methodLink RX11 411 yX11_runMonth ∈ ev_T := ev_in5 118 rfl rfl
theorem lX11_415 : Cond.methodLink RX11 415 yX2_write ∈ ev_T := ev_in5 149 rfl rfl
theorem lX11_419 : Cond.methodLink RX11 419 yX5_forgetSwaps ∈ ev_T := ev_in5 161 rfl rfl
theorem lX11_435 : Cond.methodLink RX11 435 yX11_mostOwed ∈ ev_T := ev_in5 108 rfl rfl
theorem lX11_438 : Cond.methodLink RX11 438 yX11_mostCopies ∈ ev_T := ev_in5 122 rfl rfl
theorem lX11_441 : Cond.methodLink RX11 441 yX11_kilogramsFor ∈ ev_T := ev_in5 128 rfl rfl
theorem lX11_446 : Cond.methodLink RX11 446 yX11_payBreaches ∈ ev_T := ev_in5 131 rfl rfl
theorem lX11_452 : Cond.methodLink RX11 452 yX4_pagesClauseFor ∈ ev_T := ev_in5 135 rfl rfl
theorem lX11_458 : Cond.methodLink RX11 458 yX1_add ∈ ev_T := ev_in5 139 rfl rfl
theorem lX11_461 : Cond.methodLink RX11 461 yX3_clear ∈ ev_T := ev_in6 120 rfl rfl
theorem lX11_464 : Cond.methodLink RX11 464 yX3_consider ∈ ev_T := ev_in6 124 rfl rfl
theorem lX11_80 : Cond.methodLink RX11 80 yX11_within ∈ ev_T := ev_in2 106 rfl rfl
theorem lX11_85 : Cond.methodLink RX11 85 yX11_need ∈ ev_T := ev_in2 110 rfl rfl
theorem lX11_89 : Cond.methodLink RX11 89 yJx4a65c_size_8abf5 ∈ ev_T := ev_in2 65 rfl rfl
theorem lX11_9 : Cond.methodLink RX11 9 yJx4a65c_init_da8c8 ∈ ev_T := ev_in1 43 rfl rfl
theorem lL_100 : Cond.methodLink RL 100 yX11_best ∈ ev_T := ev_in6 112 rfl rfl
theorem lL_103 : Cond.methodLink RL 103 yX11_correct ∈ ev_T := ev_in6 140 rfl rfl
theorem lL_106 : Cond.methodLink RL 106 yX11_row ∈ ev_T := ev_in6 159 rfl rfl
theorem lL_110 : Cond.methodLink RL 110 yX11_init ∈ ev_T := ev_in1 35 rfl rfl
theorem lL_113 : Cond.methodLink RL 113 yX12_init ∈ ev_T := ev_in6 171 rfl rfl
theorem lL_114 : Cond.methodLink RL 114 yL_paper ∈ ev_T := ev_in2 97 rfl rfl
theorem lL_119 : Cond.methodLink RL 119 yX12_paper ∈ ev_T := ev_in7 175 rfl rfl
theorem lL_120 : Cond.methodLink RL 120 yX12_thrown ∈ ev_T := ev_in7 171 rfl rfl
theorem lL_124 : Cond.methodLink RL 124 yL_set ∈ ev_T := ev_in3 146 rfl rfl
theorem lL_127 : Cond.methodLink RL 127 yX12_set ∈ ev_T := ev_in7 187 rfl rfl
theorem lL_128 : Cond.methodLink RL 128 yL_told ∈ ev_T := ev_in3 181 rfl rfl
theorem lL_131 : Cond.methodLink RL 131 yX12_told ∈ ev_T := ev_in7 198 rfl rfl
theorem lL_132 : Cond.methodLink RL 132 yL_reel ∈ ev_T := ev_in3 192 rfl rfl
theorem lL_134 : Cond.methodLink RL 134 yX12_reel ∈ ev_T := ev_in7 202 rfl rfl
theorem lL_135 : Cond.methodLink RL 135 yL_where ∈ ev_T := ev_in3 213 rfl rfl
theorem lL_138 : Cond.methodLink RL 138 yX12_where ∈ ev_T := ev_in7 206 rfl rfl
theorem lL_139 : Cond.methodLink RL 139 yL_steal ∈ ev_T := ev_in3 225 rfl rfl
theorem lL_141 : Cond.methodLink RL 141 yX12_steal ∈ ev_T := ev_in7 214 rfl rfl
theorem lL_142 : Cond.methodLink RL 142 yL_find ∈ ev_T := ev_in3 233 rfl rfl
theorem lL_144 : Cond.methodLink RL 144 yX12_find ∈ ev_T := ev_in7 218 rfl rfl
theorem lL_145 : Cond.methodLink RL 145 yL_ward ∈ ev_T := ev_in4 0 rfl rfl
theorem lL_147 : Cond.methodLink RL 147 yX12_ward ∈ ev_T := ev_in7 222 rfl rfl
theorem lL_148 : Cond.methodLink RL 148 yL_loyal ∈ ev_T := ev_in4 7 rfl rfl
theorem lL_150 : Cond.methodLink RL 150 yX12_loyal ∈ ev_T := ev_in7 226 rfl rfl
theorem lL_151 : Cond.methodLink RL 151 yL_demand ∈ ev_T := ev_in4 15 rfl rfl
theorem lL_153 : Cond.methodLink RL 153 yX12_demand ∈ ev_T := ev_in7 230 rfl rfl
theorem lL_154 : Cond.methodLink RL 154 yX11_feed ∈ ev_T := ev_in2 49 rfl rfl
theorem lL_157 : Cond.methodLink RL 157 yX12_feed ∈ ev_T := ev_in7 238 rfl rfl
theorem lL_158 : Cond.methodLink RL 158 yL_order ∈ ev_T := ev_in4 26 rfl rfl
theorem lL_160 : Cond.methodLink RL 160 yX12_order ∈ ev_T := ev_in8 2 rfl rfl
theorem lL_161 : Cond.methodLink RL 161 yX11_fault ∈ ev_T := ev_in2 57 rfl rfl
theorem lL_164 : Cond.methodLink RL 164 yX12_fault ∈ ev_T := ev_in8 122 rfl rfl
theorem lL_165 : Cond.methodLink RL 165 yL_force ∈ ev_T := ev_in4 200 rfl rfl
theorem lL_167 : Cond.methodLink RL 167 yX12_force ∈ ev_T := ev_in8 126 rfl rfl
theorem lL_168 : Cond.methodLink RL 168 yL_tells ∈ ev_T := ev_in4 211 rfl rfl
theorem lL_17 : Cond.methodLink RL 17 yX11_set ∈ ev_T := ev_in3 150 rfl rfl
theorem lL_170 : Cond.methodLink RL 170 yX12_tells ∈ ev_T := ev_in8 134 rfl rfl
theorem lL_171 : Cond.methodLink RL 171 yL_bid ∈ ev_T := ev_in5 14 rfl rfl
theorem lL_173 : Cond.methodLink RL 173 yX12_bid ∈ ev_T := ev_in8 176 rfl rfl
theorem lL_174 : Cond.methodLink RL 174 yL_parted ∈ ev_T := ev_in5 25 rfl rfl
theorem lL_176 : Cond.methodLink RL 176 yX12_parted ∈ ev_T := ev_in8 180 rfl rfl
theorem lL_177 : Cond.methodLink RL 177 yL_months ∈ ev_T := ev_in5 79 rfl rfl
theorem lL_179 : Cond.methodLink RL 179 yX12_months ∈ ev_T := ev_in8 208 rfl rfl
theorem lL_180 : Cond.methodLink RL 180 yL_swap ∈ ev_T := ev_in5 166 rfl rfl
theorem lL_182 : Cond.methodLink RL 182 yX12_swap ∈ ev_T := ev_in9 2 rfl rfl
theorem lL_183 : Cond.methodLink RL 183 yL_netted ∈ ev_T := ev_in5 185 rfl rfl
theorem lL_185 : Cond.methodLink RL 185 yX12_netted ∈ ev_T := ev_in9 14 rfl rfl
theorem lL_186 : Cond.methodLink RL 186 yL_merge ∈ ev_T := ev_in5 196 rfl rfl
theorem lL_188 : Cond.methodLink RL 188 yX12_merge ∈ ev_T := ev_in9 18 rfl rfl
theorem lL_189 : Cond.methodLink RL 189 yL_gain ∈ ev_T := ev_in5 217 rfl rfl
theorem lL_191 : Cond.methodLink RL 191 yX12_gain ∈ ev_T := ev_in9 22 rfl rfl
theorem lL_192 : Cond.methodLink RL 192 yL_breach ∈ ev_T := ev_in5 226 rfl rfl
theorem lL_194 : Cond.methodLink RL 194 yX12_breach ∈ ev_T := ev_in9 27 rfl rfl
theorem lL_195 : Cond.methodLink RL 195 yL_source ∈ ev_T := ev_in5 237 rfl rfl
theorem lL_197 : Cond.methodLink RL 197 yX12_source ∈ ev_T := ev_in9 31 rfl rfl
theorem lL_198 : Cond.methodLink RL 198 yL_borne ∈ ev_T := ev_in6 8 rfl rfl
theorem lL_200 : Cond.methodLink RL 200 yX12_borne ∈ ev_T := ev_in9 35 rfl rfl
theorem lL_201 : Cond.methodLink RL 201 yL_appeal ∈ ev_T := ev_in6 41 rfl rfl
theorem lL_203 : Cond.methodLink RL 203 yX12_appeal ∈ ev_T := ev_in9 46 rfl rfl
theorem lL_204 : Cond.methodLink RL 204 yL_alike ∈ ev_T := ev_in6 72 rfl rfl
theorem lL_206 : Cond.methodLink RL 206 yX12_alike ∈ ev_T := ev_in9 50 rfl rfl
theorem lL_207 : Cond.methodLink RL 207 yL_apart ∈ ev_T := ev_in6 95 rfl rfl
theorem lL_209 : Cond.methodLink RL 209 yX12_apart ∈ ev_T := ev_in9 65 rfl rfl
theorem lL_210 : Cond.methodLink RL 210 yL_grant ∈ ev_T := ev_in6 102 rfl rfl
theorem lL_212 : Cond.methodLink RL 212 yX12_grant ∈ ev_T := ev_in9 69 rfl rfl
theorem lL_213 : Cond.methodLink RL 213 yL_best ∈ ev_T := ev_in6 109 rfl rfl
theorem lL_215 : Cond.methodLink RL 215 yX12_best ∈ ev_T := ev_in9 73 rfl rfl
theorem lL_216 : Cond.methodLink RL 216 yL_correct ∈ ev_T := ev_in6 137 rfl rfl
theorem lL_218 : Cond.methodLink RL 218 yX12_correct ∈ ev_T := ev_in9 81 rfl rfl
theorem lL_219 : Cond.methodLink RL 219 yL_row ∈ ev_T := ev_in6 156 rfl rfl
theorem lL_222 : Cond.methodLink RL 222 yX12_row ∈ ev_T := ev_in9 89 rfl rfl
theorem lL_223 : Cond.methodLink RL 223 yX11_count ∈ ev_T := ev_in2 61 rfl rfl
theorem lL_226 : Cond.methodLink RL 226 yX12_count ∈ ev_T := ev_in9 93 rfl rfl
theorem lL_23 : Cond.methodLink RL 23 yX11_told ∈ ev_T := ev_in3 184 rfl rfl
theorem lL_27 : Cond.methodLink RL 27 yX11_reel ∈ ev_T := ev_in3 195 rfl rfl
theorem lL_30 : Cond.methodLink RL 30 yX11_where ∈ ev_T := ev_in3 216 rfl rfl
theorem lL_34 : Cond.methodLink RL 34 yX11_steal ∈ ev_T := ev_in3 228 rfl rfl
theorem lL_37 : Cond.methodLink RL 37 yX11_find ∈ ev_T := ev_in3 236 rfl rfl
theorem lL_40 : Cond.methodLink RL 40 yX11_ward ∈ ev_T := ev_in4 3 rfl rfl
theorem lL_43 : Cond.methodLink RL 43 yX11_loyal ∈ ev_T := ev_in4 10 rfl rfl
theorem lL_46 : Cond.methodLink RL 46 yX11_demand ∈ ev_T := ev_in4 18 rfl rfl
theorem lL_49 : Cond.methodLink RL 49 yX11_order ∈ ev_T := ev_in4 29 rfl rfl
theorem lL_52 : Cond.methodLink RL 52 yX11_force ∈ ev_T := ev_in4 203 rfl rfl
theorem lL_55 : Cond.methodLink RL 55 yX11_tells ∈ ev_T := ev_in4 214 rfl rfl
theorem lL_58 : Cond.methodLink RL 58 yX11_bid ∈ ev_T := ev_in5 17 rfl rfl
theorem lL_61 : Cond.methodLink RL 61 yX11_parted ∈ ev_T := ev_in5 28 rfl rfl
theorem lL_64 : Cond.methodLink RL 64 yX11_months ∈ ev_T := ev_in5 82 rfl rfl
theorem lL_67 : Cond.methodLink RL 67 yX11_swap ∈ ev_T := ev_in5 169 rfl rfl
theorem lL_7 : Cond.methodLink RL 7 yX11_paper ∈ ev_T := ev_in2 102 rfl rfl
theorem lL_70 : Cond.methodLink RL 70 yX11_netted ∈ ev_T := ev_in5 188 rfl rfl
theorem lL_73 : Cond.methodLink RL 73 yX11_merge ∈ ev_T := ev_in5 199 rfl rfl
theorem lL_76 : Cond.methodLink RL 76 yX11_gain ∈ ev_T := ev_in5 220 rfl rfl
theorem lL_79 : Cond.methodLink RL 79 yX11_breach ∈ ev_T := ev_in5 229 rfl rfl
theorem lL_82 : Cond.methodLink RL 82 yX11_source ∈ ev_T := ev_in6 0 rfl rfl
theorem lL_85 : Cond.methodLink RL 85 yX11_borne ∈ ev_T := ev_in6 11 rfl rfl
theorem lL_88 : Cond.methodLink RL 88 yX11_appeal ∈ ev_T := ev_in6 44 rfl rfl
theorem lL_91 : Cond.methodLink RL 91 yX11_alike ∈ ev_T := ev_in6 75 rfl rfl
theorem lL_94 : Cond.methodLink RL 94 yX11_apart ∈ ev_T := ev_in6 98 rfl rfl
theorem lL_97 : Cond.methodLink RL 97 yX11_grant ∈ ev_T := ev_in6 105 rfl rfl
theorem lX12_176 : Cond.methodLink RX12 176 yX12_in ∈ ev_T := ev_in7 179 rfl rfl
theorem lX12_181 : Cond.methodLink RX12 181 yX12_bad ∈ ev_T := ev_in7 183 rfl rfl
theorem lX12_188 : Cond.methodLink RX12 188 yX12_isPaper ∈ ev_T := ev_in7 191 rfl rfl
theorem lX12_192 : Cond.methodLink RX12 192 yX12_isSet ∈ ev_T := ev_in7 195 rfl rfl
theorem lX12_199 : Cond.methodLink RX12 199 yX12_isReel ∈ ev_T := ev_in7 210 rfl rfl
theorem lX12_205 : Cond.methodLink RX12 205 yX12_demandOf ∈ ev_T := ev_in7 234 rfl rfl
theorem lX12_218 : Cond.methodLink RX12 218 yX12_byteAt ∈ ev_T := ev_in8 10 rfl rfl
theorem lX12_225 : Cond.methodLink RX12 225 yX12_blanks ∈ ev_T := ev_in8 6 rfl rfl
theorem lX12_228 : Cond.methodLink RX12 228 yJ0_length_8abf5 ∈ ev_T := ev_in8 35 rfl rfl
theorem lX12_234 : Cond.methodLink RX12 234 yJ0_charAt_5068e ∈ ev_T := ev_in8 36 rfl rfl
theorem lX12_238 : Cond.methodLink RX12 238 yX12_isWord ∈ ev_T := ev_in8 31 rfl rfl
theorem lX12_278 : Cond.methodLink RX12 278 yX12_clauseName ∈ ev_T := ev_in8 18 rfl rfl
theorem lX12_282 : Cond.methodLink RX12 282 yX12_isDigit ∈ ev_T := ev_in8 61 rfl rfl
theorem lX12_285 : Cond.methodLink RX12 285 yX12_wrong ∈ ev_T := ev_in8 37 rfl rfl
theorem lX12_298 : Cond.methodLink RX12 298 yX12_sign ∈ ev_T := ev_in8 94 rfl rfl
theorem lX12_302 : Cond.methodLink RX12 302 yX12_product ∈ ev_T := ev_in8 53 rfl rfl
theorem lX12_305 : Cond.methodLink RX12 305 yX12_emits ∈ ev_T := ev_in8 68 rfl rfl
theorem lX12_308 : Cond.methodLink RX12 308 yX12_unit ∈ ev_T := ev_in8 57 rfl rfl
theorem lX12_311 : Cond.methodLink RX12 311 yX12_figures ∈ ev_T := ev_in8 64 rfl rfl
theorem lX12_314 : Cond.methodLink RX12 314 yX12_nameOf ∈ ev_T := ev_in8 72 rfl rfl
theorem lX12_317 : Cond.methodLink RX12 317 yX12_eat ∈ ev_T := ev_in8 81 rfl rfl
theorem lX12_322 : Cond.methodLink RX12 322 yX12_chosen ∈ ev_T := ev_in8 86 rfl rfl
theorem lX12_329 : Cond.methodLink RX12 329 yX12_opens ∈ ev_T := ev_in8 90 rfl rfl
theorem lX12_332 : Cond.methodLink RX12 332 yX12_sum ∈ ev_T := ev_in8 49 rfl rfl
theorem lX12_335 : Cond.methodLink RX12 335 yX12_closes ∈ ev_T := ev_in8 98 rfl rfl
theorem lX12_338 : Cond.methodLink RX12 338 yX12_kindName ∈ ev_T := ev_in8 108 rfl rfl
theorem lX12_341 : Cond.methodLink RX12 341 yX12_wayName ∈ ev_T := ev_in8 114 rfl rfl
theorem lX12_344 : Cond.methodLink RX12 344 yX12_clauseHere ∈ ev_T := ev_in8 14 rfl rfl
theorem lX12_347 : Cond.methodLink RX12 347 yX12_formula ∈ ev_T := ev_in8 45 rfl rfl
theorem lX12_350 : Cond.methodLink RX12 350 yX12_oneOf ∈ ev_T := ev_in8 104 rfl rfl
theorem lX12_358 : Cond.methodLink RX12 358 yX12_clause ∈ ev_T := ev_in8 41 rfl rfl
theorem lX12_361 : Cond.methodLink RX12 361 yX12_forceIn ∈ ev_T := ev_in8 130 rfl rfl
theorem lX12_366 : Cond.methodLink RX12 366 yX12_teller ∈ ev_T := ev_in8 146 rfl rfl
theorem lX12_369 : Cond.methodLink RX12 369 yX12_without ∈ ev_T := ev_in8 169 rfl rfl
theorem lX12_392 : Cond.methodLink RX12 392 yX12_named ∈ ev_T := ev_in8 154 rfl rfl
theorem lX12_395 : Cond.methodLink RX12 395 yX12_worked ∈ ev_T := ev_in8 158 rfl rfl
theorem lX12_399 : Cond.methodLink RX12 399 yX12_value ∈ ev_T := ev_in8 150 rfl rfl
theorem lX12_403 : Cond.methodLink RX12 403 yX12_bounded ∈ ev_T := ev_in8 162 rfl rfl
theorem lX12_406 : Cond.methodLink RX12 406 yX12_means ∈ ev_T := ev_in8 138 rfl rfl
theorem lX12_409 : Cond.methodLink RX12 409 yX12_partNow ∈ ev_T := ev_in8 142 rfl rfl
theorem lX12_412 : Cond.methodLink RX12 412 yX12_much ∈ ev_T := ev_in8 165 rfl rfl
theorem lX12_415 : Cond.methodLink RX12 415 yX12_priceNow ∈ ev_T := ev_in8 172 rfl rfl
theorem lX12_418 : Cond.methodLink RX12 418 yX12_isIn ∈ ev_T := ev_in8 196 rfl rfl
theorem lX12_421 : Cond.methodLink RX12 421 yX12_least ∈ ev_T := ev_in8 200 rfl rfl
theorem lX12_423 : Cond.methodLink RX12 423 yX12_byBids ∈ ev_T := ev_in8 192 rfl rfl
theorem lX12_426 : Cond.methodLink RX12 426 yX12_weightOf ∈ ev_T := ev_in8 203 rfl rfl
theorem lX12_431 : Cond.methodLink RX12 431 yX12_pool ∈ ev_T := ev_in8 184 rfl rfl
theorem lX12_434 : Cond.methodLink RX12 434 yX12_parts ∈ ev_T := ev_in8 188 rfl rfl
theorem lX12_437 : Cond.methodLink RX12 437 yX12_printable ∈ ev_T := ev_in8 232 rfl rfl
theorem lX12_440 : Cond.methodLink RX12 440 yX12_kilograms ∈ ev_T := ev_in8 235 rfl rfl
theorem lX12_443 : Cond.methodLink RX12 443 yX12_breaks ∈ ev_T := ev_in8 238 rfl rfl
theorem lX12_449 : Cond.methodLink RX12 449 yX12_admits ∈ ev_T := ev_in8 216 rfl rfl
theorem lX12_452 : Cond.methodLink RX12 452 yX12_divides ∈ ev_T := ev_in8 220 rfl rfl
theorem lX12_455 : Cond.methodLink RX12 455 yX12_hands ∈ ev_T := ev_in8 224 rfl rfl
theorem lX12_458 : Cond.methodLink RX12 458 yX12_prints ∈ ev_T := ev_in8 228 rfl rfl
theorem lX12_461 : Cond.methodLink RX12 461 yX12_goes ∈ ev_T := ev_in8 212 rfl rfl
theorem lX12_464 : Cond.methodLink RX12 464 yX12_isTwo ∈ ev_T := ev_in9 6 rfl rfl
theorem lX12_467 : Cond.methodLink RX12 467 yX12_areTwo ∈ ev_T := ev_in9 10 rfl rfl
theorem lX12_471 : Cond.methodLink RX12 471 yX12_lies ∈ ev_T := ev_in9 39 rfl rfl
theorem lX12_474 : Cond.methodLink RX12 474 yX12_many ∈ ev_T := ev_in9 43 rfl rfl
theorem lX12_477 : Cond.methodLink RX12 477 yX12_far ∈ ev_T := ev_in9 62 rfl rfl
theorem lX12_480 : Cond.methodLink RX12 480 yX12_isAppeal ∈ ev_T := ev_in9 54 rfl rfl
theorem lX12_483 : Cond.methodLink RX12 483 yX12_apartOf ∈ ev_T := ev_in9 58 rfl rfl
theorem lX12_498 : Cond.methodLink RX12 498 yX12_tries ∈ ev_T := ev_in9 77 rfl rfl
theorem lX12_502 : Cond.methodLink RX12 502 yX12_isRow ∈ ev_T := ev_in9 85 rfl rfl
theorem lX12_508 : Cond.methodLink RX12 508 yX12_paperMany ∈ ev_T := ev_in9 97 rfl rfl
theorem lJ0_1059 : Cond.methodLink RJ0 1059 yJ3_checkIndex_8e157 ∈ ev_T := ev_in4 93 rfl rfl
theorem lJ0_335 : Cond.methodLink RJ0 335 yJ0_coder_7d493 ∈ ev_T := ev_in4 71 rfl rfl
theorem lJ0_492 : Cond.methodLink RJ0 492 yJ0_isLatin1_aae02 ∈ ev_T := ev_in4 81 rfl rfl
theorem lJ0_495 : Cond.methodLink RJ0 495 yJ1_charAt_3b067 ∈ ev_T := ev_in4 85 rfl rfl
theorem lJ0_498 : Cond.methodLink RJ0 498 yJ2_charAt_3b067 ∈ ev_T := ev_in4 94 rfl rfl
theorem lJ1_9 : Cond.methodLink RJ1 9 yJ0_checkIndex_df160 ∈ ev_T := ev_in4 88 rfl rfl
theorem lJ2_414 : Cond.methodLink RJ2 414 yJ0_checkIndex_df160 ∈ ev_T := ev_in4 103 rfl rfl
theorem lJ2_48 : Cond.methodLink RJ2 48 yJ2_length_9d52b ∈ ev_T := ev_in4 100 rfl rfl
theorem lJ2_67 : Cond.methodLink RJ2 67 yJ2_checkIndex_2214a ∈ ev_T := ev_in4 97 rfl rfl
theorem lJ2_71 : Cond.methodLink RJ2 71 yJ2_getChar_3b067 ∈ ev_T := ev_in4 104 rfl rfl
theorem lJxc12de_1 : Cond.methodLink RJxc12de 1 yJxa1e45_init_da8c8 ∈ ev_T := ev_in1 49 rfl rfl
theorem lJx4a65c_1 : Cond.methodLink RJx4a65c 1 yJxc12de_init_da8c8 ∈ ev_T := ev_in1 46 rfl rfl
theorem lJx4a65c_118 : Cond.methodLink RJx4a65c 118 yJ15_checkIndex_7cf53 ∈ ev_T := ev_in2 77 rfl rfl
theorem lJx4a65c_123 : Cond.methodLink RJx4a65c 123 yJx4a65c_elementData_915e3 ∈ ev_T := ev_in2 83 rfl rfl
theorem lJx4a65c_129 : Cond.methodLink RJx4a65c 129 yJx4a65c_grow_d5877 ∈ ev_T := ev_in3 90 rfl rfl
theorem lJx4a65c_131 : Cond.methodLink RJx4a65c 131 yJx4a65c_add_72be8 ∈ ev_T := ev_in3 86 rfl rfl
theorem lJx4a65c_66 : Cond.methodLink RJx4a65c 66 yJ7_copyOf_1904c ∈ ev_T := ev_in3 108 rfl rfl
theorem lJx4a65c_69 : Cond.methodLink RJx4a65c 69 yJx4a65c_grow_92f84 ∈ ev_T := ev_in3 94 rfl rfl
theorem lJx4a65c_73 : Cond.methodLink RJx4a65c 73 yJ8_newLength_cabcc ∈ ev_T := ev_in3 98 rfl rfl
theorem lJx4a65c_79 : Cond.methodLink RJx4a65c 79 yJ9_max_7cf53 ∈ ev_T := ev_in3 144 rfl rfl
theorem lJ7_300 : Cond.methodLink RJ7 300 yJ7_copyOf_6403c ∈ ev_T := ev_in3 132 rfl rfl
theorem lJ7_304 : Cond.methodLink RJ7 304 yJ9_min_7cf53 ∈ ev_T := ev_in3 138 rfl rfl
theorem lJ15_105 : Cond.methodLink RJ15 105 yJ3_checkIndex_8e157 ∈ ev_T := ev_in2 80 rfl rfl
theorem lJ8_194 : Cond.methodLink RJ8 194 yJ9_max_7cf53 ∈ ev_T := ev_in3 101 rfl rfl
theorem lJ8_201 : Cond.methodLink RJ8 201 yJ8_hugeLength_7cf53 ∈ ev_T := ev_in3 105 rfl rfl
theorem a_int : Cond.arrayClass .int ∈ ev_T := ev_in1 134 rfl rfl
theorem a_long : Cond.arrayClass .long ∈ ev_T := ev_in1 201 rfl rfl
theorem a_byte : Cond.arrayClass .byte ∈ ev_T := ev_in2 180 rfl rfl
theorem a_boolean : Cond.arrayClass .boolean ∈ ev_T := ev_in7 170 rfl rfl
end EF
