section STR
theorem e_val : Cond.fieldLink "java/lang/String" 9 "java/lang/String" "value" "[B" ∈ ev_T := ev_in9 130 rfl rfl
theorem e_cod : Cond.fieldLink "java/lang/String" 15 "java/lang/String" "coder" "B" ∈ ev_T := ev_in9 131 rfl rfl
theorem e_cmp : Cond.fieldLink "java/lang/String" 38 "java/lang/String" "COMPACT_STRINGS" "Z" ∈ ev_T := ev_in4 75 rfl rfl
theorem e_sio : Cond.fieldLink "java/lang/String" 1053 "jdk/internal/util/Preconditions" "SIOOBE_FORMATTER" "Ljava/util/function/BiFunction;" ∈ ev_T := ev_in4 91 rfl rfl
/-- a text of the start: the object at a holds these signs -/
def ev_str (G : ev_G) (a : Nat) (L : List Nat) : Prop := ∃ b : Nat, va_O "java/lang/String" a (ev_A G) G.2.1 G.2.1.heap ∧ va_OF "java/lang/String" "coder" "B" (.int 0) a (ev_A G) G.2.1 G.2.1.heap ∧ va_OF "java/lang/String" "value" "[B" (.ref b) a (ev_A G) G.2.1 G.2.1.heap ∧ va_T .byte b L.length (fun j => .int (nI (L.getD j 0))) (ev_A G) G.2.1 G.2.1.heap ∧ L.length < 64 ∧ ∀ c ∈ L, c < 128
/-- the text at this index of a class' pool -/
def ev_lit (G : ev_G) (own : String) (idx : Nat) (L : List Nat) : Prop := ∃ (tx : String) (a : Nat), vk_R own idx tx a G.2.1 ∧ ev_str G a L
/-- what the JDK's statics hold at the start -/
def ev_En2 (G : ev_G) : Prop := va_Z "java/lang/String" "COMPACT_STRINGS" "Z" (.int 1) (ev_A G) G.2.1 G.2.1.heap ∧ ∃ v : Value, (v = .null ∨ ∃ a, v = .ref a) ∧ va_Z "jdk/internal/util/Preconditions" "SIOOBE_FORMATTER" "Ljava/util/function/BiFunction;" v (ev_A G) G.2.1 G.2.1.heap
section SR
variable {G : ev_G} {d bc bs : Nat} {M : ev_M} {Post : ev_P} {g : ev_H} {pc : Nat} {lv : List (Option Value)} {st : List Value}
theorem ev_O.oT {s : State} {ty : FieldType} {t N : Nat} {f : Nat → Value} (h : ev_O G s s.heap) (hT : va_T ty t N f (ev_A G) G.2.1 G.2.1.heap) : va_T ty t N f (ev_A G) s s.heap := (hT.moved h.1).kept (fun a ha _ => h.2.2.1 a ha)
theorem ev_O.oO {s : State} {E : String} {t : Nat} (h : ev_O G s s.heap) (hT : va_O E t (ev_A G) G.2.1 G.2.1.heap) : va_O E t (ev_A G) s s.heap := (hT.moved h.1).kept (fun a ha _ => h.2.2.1 a ha)
theorem ev_O.oF {s : State} {o n dd : String} {v : Value} {t : Nat} (h : ev_O G s s.heap) (hT : va_OF o n dd v t (ev_A G) G.2.1 G.2.1.heap) : va_OF o n dd v t (ev_A G) s s.heap := (hT.moved h.1).kept (fun a ha _ => h.2.2.1 a ha)
theorem ev_O.oZ {s : State} {o n dd : String} {v : Value} (h : ev_O G s s.heap) (hT : va_Z o n dd v (ev_A G) G.2.1 G.2.1.heap) : va_Z o n dd v (ev_A G) s s.heap := (hT.moved h.1).kept (fun a ha _ => h.2.2.1 a ha)
theorem ev_ldcS {index : Nat} {L : List Nat} (hd : decode M.2.1 pc = .ok (.ldc index, 2)) (hL : ev_lit G M.1.cls index L) (k : ∀ a : Nat, ev_str G a L → ev_V G d bc bs M Post g (pc + 2) lv (.ref a :: st)) : ev_V G d bc bs M Post g pc lv st := by
  obtain ⟨tx, a, hR0, hs0⟩ := hL
  intro p e s m args below meth c H locs cells slots mc ms ls hC hR hS hc hs hl
  exact va_ldcS hC.1 hC.2.1 hC.2.2.2.2.2.1 (vk_R.warm hC.2.2.2.2.2.2.2.1.2.2.2 hR0) hd (k a hs0 p e s m args below meth c H locs cells slots mc ms ls hC hR hS hc hs hl)
theorem ev_ldcwS {index : Nat} {L : List Nat} (hd : decode M.2.1 pc = .ok (.ldc_w index, 3)) (hL : ev_lit G M.1.cls index L) (k : ∀ a : Nat, ev_str G a L → ev_V G d bc bs M Post g (pc + 3) lv (.ref a :: st)) : ev_V G d bc bs M Post g pc lv st := by
  obtain ⟨tx, a, hR0, hs0⟩ := hL
  intro p e s m args below meth c H locs cells slots mc ms ls hC hR hS hc hs hl T hT X
  have hq := vk_R.warm hC.2.2.2.2.2.2.2.1.2.2.2 hR0
  obtain ⟨t, a1, b1⟩ := k a hs0 p e s m args below meth c H locs cells slots mc ms ls hC hR hS hc hs hl T hT X
  obtain ⟨k0, cf, i, a', hk, hcf, hcp, -, hr, hev'⟩ := Cond.stringRef_spec hC.2.2.2.2.2.1 hq.1
  cases hq.2.symm.trans hev'
  obtain ⟨k', hk', he⟩ := X.warmed.alike.2.2 _ _ hk
  have hr' : k'.resolved[index]? = some (some (.string a)) := by
    rcases X.warmed.entry hk hk' index with h | ⟨h, -⟩
    · rw [h]; exact hr
    · rw [hr] at h; cases h
  have hdg : decode c.code pc = .ok (.ldc_w index, 3) := by rw [hC.2.1]; exact hd
  have hexec := hC.1
  have fin : Steps p.tables e below (T.setTop (F0 m pc ls st)) t := by
    jvm_step X.here [hexec, hdg, ldc_w.wp_string (e := e) (s := T) (f := F0 m pc ls st) X.here.top hk' (by rw [he]; exact hcf) hcp hr']
    exact a1
  exact ⟨t, fin, b1⟩
theorem ev_sgetf {index q : Nat} {o n dd : String} {v : Value} (hd : decode M.2.1 pc = .ok (.getfield index, 3)) (hl0 : Cond.fieldLink M.1.cls index o n dd ∈ ev_T) (hF : va_OF o n dd v q (ev_A G) G.2.1 G.2.1.heap) (k : ev_V G d bc bs M Post g (pc + 3) lv (v :: st)) : ev_V G d bc bs M Post g pc lv (.ref q :: st) := by
  intro p e s m args below meth c H locs cells slots mc ms ls hC hR hS hc hs hl
  exact vk_getf hC.1 hC.2.1 (hC.2.2.2.2.2.2.2.1.oF hF) hS hC.2.2.2.2.2.1 (hC.2.2.2.2.2.2.1 _ hl0) (fun _ h => h) hd (k p e s m args below meth c H locs cells slots mc ms ls hC hR hS hc hs hl)
theorem ev_gets {index : Nat} {o n dd : String} {v : Value} (hd : decode M.2.1 pc = .ok (.getstatic index, 3)) (hl0 : Cond.fieldLink M.1.cls index o n dd ∈ ev_T) (hZ : va_Z o n dd v (ev_A G) G.2.1 G.2.1.heap) (k : ev_V G d bc bs M Post g (pc + 3) lv (v :: st)) : ev_V G d bc bs M Post g pc lv st := by
  intro p e s m args below meth c H locs cells slots mc ms ls hC hR hS hc hs hl
  exact va_gets hC.1 hC.2.1 (hC.2.2.2.2.2.2.2.1.oZ hZ) hS hC.2.2.2.2.2.1 (hC.2.2.2.2.2.2.1 _ hl0) (fun _ h => h) hd (k p e s m args below meth c H locs cells slots mc ms ls hC hR hS hc hs hl)
theorem ev_tb {t N : Nat} {f : Nat → Value} {i : Int32} {v : Value} (hd : decode M.2.1 pc = .ok (.baload, 1)) (hT : va_T .byte t N f (ev_A G) G.2.1 G.2.1.heap) (hi : vp_in i N) (hv : f i.toNatClampNeg = v) (k : ev_V G d bc bs M Post g (pc + 1) lv (v :: st)) : ev_V G d bc bs M Post g pc lv (.int i :: .ref t :: st) := by
  intro p e s m args below meth c H locs cells slots mc ms ls hC hR hS hc hs hl
  exact va_tb hC.1 hC.2.1 (hC.2.2.2.2.2.2.2.1.oT hT) hS hi hv hd (k p e s m args below meth c H locs cells slots mc ms ls hC hR hS hc hs hl)
theorem ev_tlen {ty : FieldType} {t N : Nat} {f : Nat → Value} (hd : decode M.2.1 pc = .ok (.arraylength, 1)) (hT : va_T ty t N f (ev_A G) G.2.1 G.2.1.heap) (k : ev_V G d bc bs M Post g (pc + 1) lv (.int (nI N) :: st)) : ev_V G d bc bs M Post g pc lv (.ref t :: st) := by
  intro p e s m args below meth c H locs cells slots mc ms ls hC hR hS hc hs hl
  exact va_tlen hC.1 hC.2.1 (hC.2.2.2.2.2.2.2.1.oT hT) hS rfl hd (k p e s m args below meth c H locs cells slots mc ms ls hC hR hS hc hs hl)
/-- a call on an object of the start; it leaves the heap as it is -/
theorem ev_callO {index n d' : Nat} {M' : ev_M} {rv : Option Value} {r : Nat} {As rest : List Value} (hd : decode M.2.1 pc = .ok (.invokevirtual index, 3)) (hh : M'.2.2.2.2 = []) (hK : ev_K M' n) (hn : As.length = n) (hl1 : Cond.methodLink M.1.cls index M'.1 ∈ ev_T) (hl2 : Cond.instanceMethod M'.1 ∈ ev_T) (hl3 : Cond.selects M'.1.cls M'.1 M'.1 ∈ ev_T) (hO : va_O M'.1.cls r (ev_A G) G.2.1 G.2.1.heap) (hr : (rest.map fun v => v.category).sum ≤ 8) (hdd : d' + 1 ≤ d) (hM : ev_Cp G d' M' (.ref r :: As) g rv)
    (k : ev_V G d bc bs M Post g (pc + 3) lv (rv.toList ++ rest)) : ev_V G d bc bs M Post g pc lv (As.reverse ++ .ref r :: rest) := by
  refine ev_run (mc' := 0) (ms' := 0) (Post' := (fun o g' => o = .inl rv ∧ g' = g)) (a := (.ref r :: As).toArray) (rest := rest) (b := bc) (n := bs) (Nat.le_refl _) (Nat.le_refl _) ?_ (fun v g' h => by obtain ⟨h1, rfl⟩ := h; cases h1; exact k) (fun E g' h => by cases h.1)
  intro p e s m args below meth c H locs cells slots mc ms ls hC hR hS hc hs hl
  obtain ⟨k1, k2, k3, k4, k5, k6⟩ := hK
  have hts := hC.2.2.2.2.2.2.1
  have hU : ∀ U : State, U.heap = H → s.WarmedH U.vm → ev_Pc G (.ref r :: As) g (.ref r :: As).toArray U := fun U hU hW => ⟨rfl, by rw [hU]; exact hR, by rw [hU]; exact (hC.2.2.2.2.2.2.2.1.of hS).to hW⟩
  have hrec : ∃ cell : Cell, H[r]? = some cell ∧ cell.vm.isStatics = false ∧ s.vm.findClass M'.1.cls = some cell.cls := by
    obtain ⟨cell, h1, h2, h3, -⟩ := (hC.2.2.2.2.2.2.2.1.oO hO).kept hS.2.1
    exact ⟨cell, h1, h2, h3⟩
  exact vx_runV ⟨hC.1, hC.2.1, hC.2.2.1, hC.2.2.2.2.2.1, hts⟩ hM (cwV n hts (ev_good1 hl1 (ev_good1 hl2 (ev_good1 hl3 (ev_good1 k2 (ev_wsg k1))))) (ev_hd0 hh) rfl rfl ⟨rfl, k3, k4, k5⟩ ⟨show d' + 1 ≤ d from hdd, show 8 + (M'.2.2.1 + 11) + 64 * d' ≤ 64 * d by omega⟩) ⟨ev_blind _, hrec, hU⟩ rfl hn hl rfl (by simpa [JFrame.monitorRoom] using hr) hd ⟨hc, hs⟩
end SR
section SM
variable {G : ev_G} {d : Nat} {g : ev_H} {a : Nat} {L : List Nat}
theorem c_coder (h2 : ev_En2 G) (hs : ev_str G a L) : ev_Cp G d mJ0_coder_7d493 [.ref a] g (some (.int 0)) := by
  obtain ⟨b, s1, s2, s3, s4, s5, s6⟩ := hs
  refine ev_start (lv0 := [some (.ref a)]) (by decide +kernel) rfl (Nat.le_of_ble_eq_true rfl) rfl ?_
  refine ev_gets dJ0_coder_7d493_0 e_cmp h2.1 ?_
  refine ev_if_eq (tgt := 13) dJ0_coder_7d493_3 (by decide) (fun c_3 => ?_) (fun c_3 => ?_)
  · exact absurd c_3 (by decide)
  · refine ev_aload_n dJ0_coder_7d493_6 rfl rfl ?_
    refine ev_sgetf dJ0_coder_7d493_7 e_cod s2 ?_
    refine ev_goto (tgt := 14) dJ0_coder_7d493_10 (by decide) ?_
    exact ev_iret dJ0_coder_7d493_14 rfl rfl ⟨rfl, rfl⟩
theorem c_length (h2 : ev_En2 G) (hd : 1 ≤ d) (hs : ev_str G a L) : ev_Cp G d mJ0_length_8abf5 [.ref a] g (some (.int (nI L.length))) := by
  obtain ⟨b, s1, s2, s3, s4, s5, s6⟩ := id hs
  refine ev_start (lv0 := [some (.ref a)]) (by decide +kernel) rfl (Nat.le_of_ble_eq_true rfl) rfl ?_
  refine ev_aload_n dJ0_length_8abf5_0 rfl rfl ?_
  refine ev_sgetf dJ0_length_8abf5_1 e_val s3 ?_
  refine ev_tlen dJ0_length_8abf5_4 s4 ?_
  refine ev_aload_n dJ0_length_8abf5_5 rfl rfl ?_
  refine ev_callO (As := []) (d' := d - 1) dJ0_length_8abf5_6 rfl kJ0_coder_7d493 rfl lJ0_335 iJ0_coder_7d493 vJ0_coder_7d493 s1 (Nat.le_of_ble_eq_true rfl) (by omega) (c_coder h2 hs) ?_
  refine ev_ishr dJ0_length_8abf5_9 ?_
  have e := pk_shrN (n := L.length) (by omega) ((0 : Int32) &&& 31) 0 (by decide)
  exact ev_iret dJ0_length_8abf5_10 rfl rfl ⟨by rw [e, Nat.pow_zero, Nat.div_one], rfl⟩
theorem c_isLatin (h2 : ev_En2 G) (hs : ev_str G a L) : ev_Cp G d mJ0_isLatin1_aae02 [.ref a] g (some (.int 1)) := by
  obtain ⟨b, s1, s2, s3, s4, s5, s6⟩ := hs
  refine ev_start (lv0 := [some (.ref a)]) (by decide +kernel) rfl (Nat.le_of_ble_eq_true rfl) rfl ?_
  refine ev_gets dJ0_isLatin1_aae02_0 e_cmp h2.1 ?_
  refine ev_if_eq (tgt := 17) dJ0_isLatin1_aae02_3 (by decide) (fun c_3 => ?_) (fun c_3 => ?_)
  · exact absurd c_3 (by decide)
  · refine ev_aload_n dJ0_isLatin1_aae02_6 rfl rfl ?_
    refine ev_sgetf dJ0_isLatin1_aae02_7 e_cod s2 ?_
    refine ev_if_ne (tgt := 17) dJ0_isLatin1_aae02_10 (by decide) (fun c_10 => ?_) (fun c_10 => ?_)
    · exact absurd rfl c_10
    · refine ev_iconst (v := 1) dJ0_isLatin1_aae02_13 (by decide) ?_
      refine ev_goto (tgt := 18) dJ0_isLatin1_aae02_14 (by decide) ?_
      exact ev_iret dJ0_isLatin1_aae02_18 rfl rfl ⟨rfl, rfl⟩
theorem c_checkIndexP {i n : Nat} {v : Value} (hv : v = .null ∨ ∃ a, v = .ref a) (hi : i < n) (hn : n < 2147483648) : ev_Cp G d mJ3_checkIndex_8e157 [.int (nI i), .int (nI n), v] g (some (.int (nI i))) := by
  have key : ∀ lv0, ev_V G d 0 0 mJ3_checkIndex_8e157 (fun o g' => o = .inl (some (.int (nI i))) ∧ g' = g) g 0 [some (.int (nI i)), some (.int (nI n)), lv0] [] := by
    intro lv0
    refine ev_iload_n dJ3_checkIndex_8e157_0 rfl rfl ?_
    refine ev_if_lt (tgt := 9) dJ3_checkIndex_8e157_1 (by decide) (fun c_1 => ?_) (fun c_1 => ?_)
    · exact absurd c_1 (nI_pos (by omega))
    · refine ev_iload_n dJ3_checkIndex_8e157_4 rfl rfl ?_
      refine ev_iload_n dJ3_checkIndex_8e157_5 rfl rfl ?_
      refine ev_icmp_lt (tgt := 16) dJ3_checkIndex_8e157_6 (by decide) (fun c_6 => ?_) (fun c_6 => ?_)
      · refine ev_iload_n dJ3_checkIndex_8e157_16 rfl rfl ?_
        exact ev_iret dJ3_checkIndex_8e157_17 rfl rfl ⟨rfl, rfl⟩
      · exact absurd (nI_lt hi hn) c_6
  rcases hv with rfl | ⟨q, rfl⟩
  · exact ev_start (lv0 := [some (.int (nI i)), some (.int (nI n)), some .null]) (by decide +kernel) rfl (Nat.le_of_ble_eq_true rfl) rfl (key _)
  · exact ev_start (lv0 := [some (.int (nI i)), some (.int (nI n)), some (.ref q)]) (by decide +kernel) rfl (Nat.le_of_ble_eq_true rfl) rfl (key _)
theorem c_checkIndexS (h2 : ev_En2 G) {i n : Nat} (hd : 1 ≤ d) (hi : i < n) (hn : n < 2147483648) : ev_Cp G d mJ0_checkIndex_df160 [.int (nI i), .int (nI n)] g none := by
  obtain ⟨v, hv, hZ⟩ := h2.2
  refine ev_start (lv0 := [some (.int (nI i)), some (.int (nI n))]) (by decide +kernel) rfl (Nat.le_of_ble_eq_true rfl) rfl ?_
  refine ev_iload_n dJ0_checkIndex_df160_0 rfl rfl ?_
  refine ev_iload_n dJ0_checkIndex_df160_1 rfl rfl ?_
  refine ev_gets dJ0_checkIndex_df160_2 e_sio hZ ?_
  refine ev_pS3 (d' := d - 1) dJ0_checkIndex_df160_5 rfl kJ3_checkIndex_8e157 lJ0_1059 sJ3_checkIndex_8e157 (Nat.le_of_ble_eq_true rfl) (by omega) (c_checkIndexP hv hi hn) ?_
  refine ev_pop dJ0_checkIndex_df160_8 rfl ?_
  exact ev_vret dJ0_checkIndex_df160_9 rfl ⟨rfl, rfl⟩
theorem c_charAt1 (h2 : ev_En2 G) {b k : Nat} (hd : 2 ≤ d) (hb : va_T .byte b L.length (fun j => .int (nI (L.getD j 0))) (ev_A G) G.2.1 G.2.1.heap) (hL : L.length < 64) (hc : ∀ c ∈ L, c < 128) (hk : k < L.length) : ev_Cp G d mJ1_charAt_3b067 [.ref b, .int (nI k)] g (some (.int (nI (L.getD k 0)))) := by
  have h128 : L.getD k 0 < 128 := hc _ (by rw [List.getD_eq_getElem?_getD, List.getElem?_eq_getElem hk]; exact List.getElem_mem hk)
  refine ev_start (lv0 := [some (.ref b), some (.int (nI k))]) (by decide +kernel) rfl (Nat.le_of_ble_eq_true rfl) rfl ?_
  refine ev_iload_n dJ1_charAt_3b067_0 rfl rfl ?_
  refine ev_aload_n dJ1_charAt_3b067_1 rfl rfl ?_
  refine ev_tlen dJ1_charAt_3b067_2 hb ?_
  refine ev_pS2 (d' := d - 1) dJ1_charAt_3b067_3 rfl kJ0_checkIndex_df160 lJ1_9 sJ0_checkIndex_df160 (Nat.le_of_ble_eq_true rfl) (by omega) (c_checkIndexS h2 (by omega) hk (by omega)) ?_
  refine ev_aload_n dJ1_charAt_3b067_6 rfl rfl ?_
  refine ev_iload_n dJ1_charAt_3b067_7 rfl rfl ?_
  refine ev_tb (v := .int (nI (L.getD k 0))) dJ1_charAt_3b067_8 hb (vp_in_nI hk (by omega)) (by rw [nI_clamp (by omega)]) ?_
  refine ev_sipush (v := 255) dJ1_charAt_3b067_9 (by decide) ?_
  refine ev_iand dJ1_charAt_3b067_12 ?_
  refine ev_i2c dJ1_charAt_3b067_13 ?_
  have e1 : nI (L.getD k 0) &&& 255 = nI (L.getD k 0) := by
    rw [pk_andN (n := L.getD k 0) (by omega) (m := 255) 8 (by decide), Nat.mod_eq_of_lt (by omega)]
  have e2 : ((nI (L.getD k 0)).toUInt32 % 65536).toInt32 = nI (L.getD k 0) := by
    rw [pk_char, pk_tn (by omega), Nat.mod_eq_of_lt (by omega)]
  rw [e1, e2]
  exact ev_iret dJ1_charAt_3b067_14 rfl (pk_charN (by omega)).1 ⟨rfl, rfl⟩
theorem c_charAt (h2 : ev_En2 G) {k : Nat} (hd : 3 ≤ d) (hs : ev_str G a L) (hk : k < L.length) : ev_Cp G d mJ0_charAt_5068e [.ref a, .int (nI k)] g (some (.int (nI (L.getD k 0)))) := by
  obtain ⟨b, s1, s2, s3, s4, s5, s6⟩ := id hs
  have h128 : L.getD k 0 < 128 := s6 _ (by rw [List.getD_eq_getElem?_getD, List.getElem?_eq_getElem hk]; exact List.getElem_mem hk)
  refine ev_start (lv0 := [some (.ref a), some (.int (nI k))]) (by decide +kernel) rfl (Nat.le_of_ble_eq_true rfl) rfl ?_
  refine ev_aload_n dJ0_charAt_5068e_0 rfl rfl ?_
  refine ev_callO (As := []) (d' := d - 1) dJ0_charAt_5068e_1 rfl kJ0_isLatin1_aae02 rfl lJ0_492 iJ0_isLatin1_aae02 vJ0_isLatin1_aae02 s1 (Nat.le_of_ble_eq_true rfl) (by omega) (c_isLatin h2 hs) ?_
  refine ev_if_eq (tgt := 16) dJ0_charAt_5068e_4 (by decide) (fun c_4 => ?_) (fun c_4 => ?_)
  · exact absurd c_4 (by decide)
  · refine ev_aload_n dJ0_charAt_5068e_7 rfl rfl ?_
    refine ev_sgetf dJ0_charAt_5068e_8 e_val s3 ?_
    refine ev_iload_n dJ0_charAt_5068e_11 rfl rfl ?_
    refine ev_pS2 (d' := d - 1) dJ0_charAt_5068e_12 rfl kJ1_charAt_3b067 lJ0_495 sJ1_charAt_3b067 (Nat.le_of_ble_eq_true rfl) (by omega) (c_charAt1 h2 (by omega) s4 s5 s6 hk) ?_
    exact ev_iret dJ0_charAt_5068e_15 rfl (pk_charN (by omega)).1 ⟨rfl, rfl⟩
end SM

end STR
