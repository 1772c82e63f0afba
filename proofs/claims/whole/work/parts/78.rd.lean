section RD
/-- the run of such signs from h on -/
def rd_rn (f : Nat → Bool) (t : Nat → Nat) : Nat → Nat → Nat
  | 0, h => h
  | m + 1, h => if f (t h) = true then rd_rn f t m (h + 1) else h
def rd_end (f : Nat → Bool) (t : Nat → Nat) (n h : Nat) : Nat := rd_rn f t (n - h) h
theorem rd_end_s {f : Nat → Bool} {t : Nat → Nat} {n h : Nat} (hh : h < n) (ht : f (t h) = true) : rd_end f t n h = rd_end f t n (h + 1) := by
  unfold rd_end
  rw [show n - h = (n - (h + 1)) + 1 by omega, rd_rn, if_pos ht]
theorem rd_end_e {f : Nat → Bool} {t : Nat → Nat} {n h : Nat} (hh : ¬ (h < n ∧ f (t h) = true)) (hn : h ≤ n) : rd_end f t n h = h := by
  unfold rd_end
  by_cases e : h < n
  · rw [show n - h = (n - (h + 1)) + 1 by omega, rd_rn, if_neg (fun q => hh ⟨e, q⟩)]
  · rw [show n - h = 0 by omega]; rfl
theorem rd_rn_in (f : Nat → Bool) (t : Nat → Nat) : ∀ m h, h ≤ rd_rn f t m h ∧ rd_rn f t m h ≤ h + m
  | 0, h => ⟨Nat.le_refl _, Nat.le_refl _⟩
  | m + 1, h => by
    have := rd_rn_in f t m (h + 1)
    simp only [rd_rn]
    split <;> omega
theorem rd_end_in {f : Nat → Bool} {t : Nat → Nat} {n h : Nat} (hh : h ≤ n) : h ≤ rd_end f t n h ∧ rd_end f t n h ≤ n := by
  have := rd_rn_in f t (n - h) h
  unfold rd_end
  omega
/-- what stands at p; where it ends -/
def rd_sg (t : Nat → Nat) (n p : Nat) : Int32 := if p < n then (if ps_let (t p) = true then 97 else if ps_dig (t p) = true then 48 else nI (t p)) else -1
def rd_bh (t : Nat → Nat) (n p : Nat) : Nat := if p < n then (if ps_let (t p) = true then rd_end ps_let t n (p + 1) else if ps_dig (t p) = true then rd_end ps_dig t n (p + 1) else p + 1) else n
theorem rd_bh_in {t : Nat → Nat} {n p : Nat} (hp : p ≤ n) : p ≤ rd_bh t n p ∧ rd_bh t n p ≤ n := by
  unfold rd_bh
  split
  · split
    · have := rd_end_in (f := ps_let) (t := t) (n := n) (h := p + 1) (by omega); omega
    · split
      · have := rd_end_in (f := ps_dig) (t := t) (n := n) (h := p + 1) (by omega); omega
      · omega
  · omega
/-- the text -/
def rd_X (C : mo_S) (t : Nat → Nat) (n : Nat) : Prop := C.1 116 0 = nI n ∧ n ≤ 300 ∧ (∀ j, j < 300 → C.1 115 j = nI (t j)) ∧ ∀ j, t j < 256
theorem rd_X.cg {T C : mo_S} {t : Nat → Nat} {n : Nat} (h : rd_X C t n) (h1 : T.1 115 = C.1 115) (h2 : T.1 116 = C.1 116) : rd_X T t n := by
  unfold rd_X
  rw [h1, h2]
  exact h
/-- p stands next -/
def rd_T (t : Nat → Nat) (n p : Nat) (C : mo_S) : Prop := p ≤ n ∧ C.1 118 0 = nI p ∧ C.1 117 0 = rd_sg t n p ∧ C.1 119 0 = nI (rd_bh t n p)
def rd_by (t : Nat → Nat) (n j : Nat) : Int32 := if j < n then nI (t j) else -1
def cx_X7_byteAt (C : mo_S) (j : Nat) : Int32 :=
  (if (C.1 116 0) ≤ (nI j) then (-1) else (if 300 ≤ (nI j) then (-1) else (C.1 115 j)))
theorem c_X7_byteAt {G : ev_G} {W : cw_W} {d : Nat} {C : mo_S} {j : Nat} (hE : ev_En G) (hj : j < 2147483648) : cw_C G W d mX7_byteAt [.ref (W 4 0), .int (nI j)] C (some (.int (cx_X7_byteAt C j))) C := by
  refine cw_start (lv0 := [some (.ref (W 4 0)), some (.int (nI j))]) (by decide +kernel) rfl (Nat.le_of_ble_eq_true rfl) rfl ?_
  intro K g0 g hT
  refine ev_iload_n dX7_byteAt_0 rfl rfl ?_
  have K_31 : ∀ (g : ev_H) (hT : cw_T G K g0 W g C), ∀ x9 : Int32, x9 = (if (C.1 116 0) ≤ (nI j) then (-1) else (if 300 ≤ (nI j) then (-1) else (C.1 115 j))) → ev_V G d 0 0 mX7_byteAt (fun o g' => o = .inl (some (.int (cx_X7_byteAt C j))) ∧ cw_T G K g0 W g' C) g 31 [some (.ref (W 4 0)), some (.int (nI j))] (.int x9 :: []) := by
    intro g hT x9 h9
    subst h9
    have e9 : cx_X7_byteAt C j = (if (C.1 116 0) ≤ (nI j) then (-1) else (if 300 ≤ (nI j) then (-1) else (C.1 115 j))) := by unfold cx_X7_byteAt; rfl
    exact ev_iret dX7_byteAt_31 rfl rfl ⟨by rw [e9], hT⟩
  refine ev_if_lt (tgt := 30) dX7_byteAt_1 (by decide) (fun c_1 => ?_) (fun c_1 => ?_)
  · exact absurd c_1 (nI_pos (by omega))
  · refine ev_iload_n dX7_byteAt_4 rfl rfl ?_
    refine ev_aload_n dX7_byteAt_5 rfl rfl ?_
    refine cw_getf hE hT dX7_byteAt_6 fX7_19 (k := 4) (i := 0) rfl ob4 rfl ?_
    refine ev_icmp_ge (tgt := 30) dX7_byteAt_9 (by decide) (fun c_9 => ?_) (fun c_9 => ?_)
    · refine ev_iconst (v := (-1)) dX7_byteAt_30 (by decide) ?_
      exact K_31 g hT _ (by rw [if_pos c_9])
    · refine ev_iload_n dX7_byteAt_12 rfl rfl ?_
      refine ev_aload_n dX7_byteAt_13 rfl rfl ?_
      refine cw_getf hE hT dX7_byteAt_14 fX7_9 (k := 4) (i := 0) rfl ob4 rfl ?_
      refine cw_alenv (n := 300) (v := 300) hE hT dX7_byteAt_17 (k := 5) (i := 0) rfl ar5 rfl ?_
      refine ev_icmp_ge (tgt := 30) dX7_byteAt_18 (by decide) (fun c_18 => ?_) (fun c_18 => ?_)
      · refine ev_iconst (v := (-1)) dX7_byteAt_30 (by decide) ?_
        exact K_31 g hT _ (by rw [if_neg c_9, if_pos c_18])
      · have hj3 : j < 300 := Nat.lt_of_not_le fun q => c_18 (nI_le (a := 300) q (by omega))
        refine ev_aload_n dX7_byteAt_21 rfl rfl ?_
        refine cw_getf hE hT dX7_byteAt_22 fX7_9 (k := 4) (i := 0) rfl ob4 rfl ?_
        refine ev_iload_n dX7_byteAt_25 rfl rfl ?_
        refine cw_ial (q := j) (v := (C.1 115 j)) hE hT dX7_byteAt_26 (k := 5) (i := 0) rfl ar5 rfl hj3 (by decide) rfl ?_
        refine ev_goto (tgt := 31) dX7_byteAt_27 (by decide) ?_
        exact K_31 g hT _ (by rw [if_neg c_9, if_neg c_18])
theorem c_X7_byteAt2 {G : ev_G} {W : cw_W} {d : Nat} {C : mo_S} {j n : Nat} {t : Nat → Nat} (hE : ev_En G) (hX : rd_X C t n) (hj : j < 2147483648) : cw_C G W d mX7_byteAt [.ref (W 4 0), .int (nI j)] C (some (.int (rd_by t n j))) C := by
  have e : rd_by t n j = cx_X7_byteAt C j := by
    obtain ⟨h1, h2, h3, h4⟩ := hX
    unfold rd_by cx_X7_byteAt
    rw [h1]
    by_cases q : j < n
    · rw [if_pos q, if_neg (nI_ge q (by omega)), if_neg (show ¬ (300 : Int32) ≤ nI j from nI_ge (a := j) (b := 300) (by omega) (by decide)), h3 j (by omega)]
    · rw [if_neg q, if_pos (nI_le (by omega) (by omega))]
  rw [e]
  exact c_X7_byteAt hE hj
theorem rd_let {t : Nat → Nat} {n j : Nat} (h : t j < 256) : cx_X7_isLetter (rd_by t n j) = (decide (j < n) && ps_let (t j)) := by
  unfold rd_by
  by_cases q : j < n
  · rw [if_pos q, decide_eq_true q, Bool.true_and]
    have : ∀ c, c < 256 → cx_X7_isLetter (nI c) = ps_let c := by decide +kernel
    exact this _ h
  · rw [if_neg q, decide_eq_false q, Bool.false_and]
    decide
theorem rd_dig {t : Nat → Nat} {n j : Nat} (h : t j < 256) : cx_X7_isDigit (rd_by t n j) = (decide (j < n) && ps_dig (t j)) := by
  unfold rd_by
  by_cases q : j < n
  · rw [if_pos q, decide_eq_true q, Bool.true_and]
    have : ∀ c, c < 256 → cx_X7_isDigit (nI c) = ps_dig c := by decide +kernel
    exact this _ h
  · rw [if_neg q, decide_eq_false q, Bool.false_and]
    decide
def cx_X7_fail (C : mo_S) (x1 : Int32) : mo_S :=
  (if (C.1 120 0) = 0 then (mo_up (mo_up (mo_up C 120 0 x1) 33 0 (C.1 118 0)) 117 0 (-2)) else C)
theorem c_X7_fail {G : ev_G} {W : cw_W} {d : Nat} {C : mo_S} {x1 : Int32} (hE : ev_En G) : cw_C G W d mX7_fail [.ref (W 4 0), .int x1] C none (cx_X7_fail C x1) := by
  refine cw_start (lv0 := [some (.ref (W 4 0)), some (.int x1)]) (by decide +kernel) rfl (Nat.le_of_ble_eq_true rfl) rfl ?_
  intro K g0 g hT
  refine ev_aload_n dX7_fail_0 rfl rfl ?_
  refine cw_getf hE hT dX7_fail_1 fX7_31 (k := 4) (i := 0) rfl ob4 rfl ?_
  refine ev_if_ne (tgt := 26) dX7_fail_4 (by decide) (fun c_4 => ?_) (fun c_4 => ?_)
  · have e9 : cx_X7_fail C x1 = C := by unfold cx_X7_fail; rw [if_neg c_4]
    exact ev_vret dX7_fail_26 rfl ⟨rfl, by rw [e9]; exact hT⟩
  · refine ev_aload_n dX7_fail_7 rfl rfl ?_
    refine ev_iload_n dX7_fail_8 rfl rfl ?_
    refine cw_putf (k := 4) (i := 0) (f := 120) (x := 0) hE hT dX7_fail_9 pX7_31 rfl ob4 (Nat.le_of_ble_eq_true rfl) rfl rfl rfl (by decide) (by decide) pu4_6 (fun g hT => ?_)
    refine ev_aload_n dX7_fail_12 rfl rfl ?_
    refine ev_aload_n dX7_fail_13 rfl rfl ?_
    refine cw_geti (v2 := (C.1 118 0)) hE hT dX7_fail_14 fX7_25 (k := 4) (i := 0) rfl ob4 rfl (by simp [mo_up]) ?_
    refine cw_putf (k := 4) (i := 0) (f := 33) (x := 0) hE hT dX7_fail_17 pX7_34 rfl ob4 (Nat.le_of_ble_eq_true rfl) rfl rfl rfl (by decide) (by decide) pu4_7 (fun g hT => ?_)
    refine ev_aload_n dX7_fail_20 rfl rfl ?_
    refine ev_bipush (v := (-2)) dX7_fail_21 (by decide) ?_
    refine cw_putf (k := 4) (i := 0) (f := 117) (x := 0) hE hT dX7_fail_23 pX7_22 rfl ob4 (Nat.le_of_ble_eq_true rfl) rfl rfl rfl (by decide) (by decide) pu4_3 (fun g hT => ?_)
    have e9 : cx_X7_fail C x1 = (mo_up (mo_up (mo_up C 120 0 x1) 33 0 (C.1 118 0)) 117 0 (-2)) := by unfold cx_X7_fail; rw [if_pos c_4]
    exact ev_vret dX7_fail_26 rfl ⟨rfl, by rw [e9]; exact hT⟩
def cx_X7_empty (C : mo_S)  : mo_S :=
  (mo_up (mo_up (mo_up C 28 0 0) 120 0 0) 33 0 (-1))
theorem c_X7_empty {G : ev_G} {W : cw_W} {d : Nat} {C : mo_S}  (hE : ev_En G) : cw_C G W d mX7_empty [.ref (W 4 0)] C none (cx_X7_empty C) := by
  refine cw_start (lv0 := [some (.ref (W 4 0))]) (by decide +kernel) rfl (Nat.le_of_ble_eq_true rfl) rfl ?_
  intro K g0 g hT
  refine ev_aload_n dX7_empty_0 rfl rfl ?_
  refine ev_iconst (v := 0) dX7_empty_1 (by decide) ?_
  refine cw_putf (k := 4) (i := 0) (f := 28) (x := 0) hE hT dX7_empty_2 pX7_15 rfl ob4 (Nat.le_of_ble_eq_true rfl) rfl rfl rfl (by decide) (by decide) pu4_1 (fun g hT => ?_)
  refine ev_aload_n dX7_empty_5 rfl rfl ?_
  refine ev_iconst (v := 0) dX7_empty_6 (by decide) ?_
  refine cw_putf (k := 4) (i := 0) (f := 120) (x := 0) hE hT dX7_empty_7 pX7_31 rfl ob4 (Nat.le_of_ble_eq_true rfl) rfl rfl rfl (by decide) (by decide) pu4_6 (fun g hT => ?_)
  refine ev_aload_n dX7_empty_10 rfl rfl ?_
  refine ev_iconst (v := (-1)) dX7_empty_11 (by decide) ?_
  refine cw_putf (k := 4) (i := 0) (f := 33) (x := 0) hE hT dX7_empty_12 pX7_34 rfl ob4 (Nat.le_of_ble_eq_true rfl) rfl rfl rfl (by decide) (by decide) pu4_7 (fun g hT => ?_)
  have e9 : cx_X7_empty C = (mo_up (mo_up (mo_up C 28 0 0) 120 0 0) 33 0 (-1)) := by unfold cx_X7_empty; rfl
  exact ev_vret dX7_empty_15 rfl ⟨rfl, by rw [e9]; exact hT⟩
def cx_X7_emit (C : mo_S) (cd : Nat) (x1 : Int32) : mo_S :=
  (if 300 ≤ (C.1 122 0) then C else (mo_up (mo_up C 121 cd x1) 122 0 ((C.1 122 0) + 1)))
theorem c_X7_emit {G : ev_G} {W : cw_W} {d : Nat} {C : mo_S} {cd : Nat} {x1 : Int32} (hE : ev_En G) (hc : C.1 122 0 = nI cd) (hc2 : cd < 2147483648) : cw_C G W d mX7_emit [.ref (W 4 0), .int x1] C none (cx_X7_emit C cd x1) := by
  refine cw_start (lv0 := [some (.ref (W 4 0)), some (.int x1)]) (by decide +kernel) rfl (Nat.le_of_ble_eq_true rfl) rfl ?_
  intro K g0 g hT
  refine ev_aload_n dX7_emit_0 rfl rfl ?_
  refine cw_getf hE hT dX7_emit_1 fX7_40 (k := 4) (i := 0) rfl ob4 rfl ?_
  refine ev_if_lt (tgt := 39) dX7_emit_4 (by decide) (fun c_4 => ?_) (fun c_4 => ?_)
  · exact absurd (show nI cd < 0 by rw [← hc]; exact c_4) (nI_pos (by omega))
  · refine ev_aload_n dX7_emit_7 rfl rfl ?_
    refine cw_getf hE hT dX7_emit_8 fX7_40 (k := 4) (i := 0) rfl ob4 rfl ?_
    refine ev_aload_n dX7_emit_11 rfl rfl ?_
    refine cw_getf hE hT dX7_emit_12 fX7_37 (k := 4) (i := 0) rfl ob4 rfl ?_
    refine cw_alenv (n := 300) (v := 300) hE hT dX7_emit_15 (k := 6) (i := 0) rfl ar6 rfl ?_
    refine ev_icmp_ge (tgt := 39) dX7_emit_16 (by decide) (fun c_16 => ?_) (fun c_16 => ?_)
    · have e9 : cx_X7_emit C cd x1 = C := by unfold cx_X7_emit; rw [if_pos c_16]
      exact ev_vret dX7_emit_39 rfl ⟨rfl, by rw [e9]; exact hT⟩
    · have hc3 : cd < 300 := Nat.lt_of_not_le fun q => c_16 (by rw [hc]; exact nI_le (a := 300) q (by omega))
      refine ev_aload_n dX7_emit_19 rfl rfl ?_
      refine cw_getf hE hT dX7_emit_20 fX7_37 (k := 4) (i := 0) rfl ob4 rfl ?_
      refine ev_aload_n dX7_emit_23 rfl rfl ?_
      refine cw_getf hE hT dX7_emit_24 fX7_40 (k := 4) (i := 0) rfl ob4 rfl ?_
      refine ev_iload_n dX7_emit_27 rfl rfl ?_
      refine cw_ias (q := cd) (f := 121) (ix := cd) hE hT dX7_emit_28 (k := 6) (i := 0) rfl ar6 hc hc3 (by decide) rfl (by decide) (by decide) (pa6 (i := 0)) (fun g hT => ?_)
      refine ev_aload_n dX7_emit_29 rfl rfl ?_
      refine ev_dup dX7_emit_30 rfl ?_
      refine cw_geti (v2 := (C.1 122 0)) hE hT dX7_emit_31 fX7_40 (k := 4) (i := 0) rfl ob4 rfl (by simp [mo_up]) ?_
      refine ev_iconst (v := 1) dX7_emit_34 (by decide) ?_
      refine ev_iadd dX7_emit_35 ?_
      refine cw_putf (k := 4) (i := 0) (f := 122) (x := 0) hE hT dX7_emit_36 pX7_40 rfl ob4 (Nat.le_of_ble_eq_true rfl) rfl rfl rfl (by decide) (by decide) pu4_9 (fun g hT => ?_)
      have e9 : cx_X7_emit C cd x1 = (mo_up (mo_up C 121 cd x1) 122 0 ((C.1 122 0) + 1)) := by unfold cx_X7_emit; rw [if_neg c_16]
      exact ev_vret dX7_emit_39 rfl ⟨rfl, by rw [e9]; exact hT⟩
theorem c_X7_next_f {G : ev_G} {W : cw_W} {d : Nat} {C : mo_S} (hE : ev_En G) (hf : ¬ C.1 120 0 = 0) : cw_C G W d mX7_next [.ref (W 4 0)] C none C := by
  refine cw_start (lv0 := [some (.ref (W 4 0))]) (by decide +kernel) rfl (Nat.le_of_ble_eq_true rfl) rfl ?_
  intro K g0 g hT
  refine ev_aload_n dX7_next_0 rfl rfl ?_
  refine cw_getf hE hT dX7_next_1 fX7_31 (k := 4) (i := 0) rfl ob4 rfl ?_
  refine ev_if_eq (tgt := 8) dX7_next_4 (by decide) (fun c => absurd c hf) (fun _ => ?_)
  exact ev_vret dX7_next_7 rfl ⟨rfl, hT⟩
theorem c_X7_next {G : ev_G} {W : cw_W} {d n h : Nat} {C : mo_S} {t : Nat → Nat} (hE : ev_En G) (hd : 2 ≤ d) (hX : rd_X C t n) (hf : C.1 120 0 = 0) (hb : C.1 119 0 = nI h) (hh : h ≤ n) : cw_R G W d 0 0 mX7_next [.ref (W 4 0)] C (fun o W2 C2 => W2 = W ∧ o = .inl none ∧ cx_eqX [117, 118, 119] C2 C ∧ rd_T t n (ps_skn t n h) C2) := by
  refine cw_startR (lv0 := [some (.ref (W 4 0))]) (by decide +kernel) rfl (Nat.le_of_ble_eq_true rfl) rfl ?_
  intro K g0 g hT
  have hn3 := hX.2.1
  have hsk := ps_skn_in (t := t) hh
  have LT : ∀ (m i : Nat), n - i = m → i ≤ n → rd_end ps_let t n i = rd_end ps_let t n (ps_skn t n h + 1) → ∀ (T : mo_S) (g : ev_H), cx_eqX [117, 118, 119] T C → T.1 118 0 = nI (ps_skn t n h) → T.1 117 0 = 97 → T.1 119 0 = nI i → ps_skn t n h < n → rd_sg t n (ps_skn t n h) = 97 → rd_bh t n (ps_skn t n h) = rd_end ps_let t n (ps_skn t n h + 1) → cw_T G K g0 W g T → ev_V G d 0 0 mX7_next (fun o g' => ∃ W2 C2, (W2 = W ∧ o = .inl none ∧ cx_eqX [117, 118, 119] C2 C ∧ rd_T t n (ps_skn t n h) C2) ∧ cw_T G K g0 W2 g' C2) g 98 [some (.ref (W 4 0))] [] := by
    intro m
    induction m with
    | zero =>
      intro i hi hin he T g hx h118 h117 h119 hpn hsg hbh hT
      refine ev_aload_n dX7_next_98 rfl rfl ?_
      refine cw_geti (v2 := nI i) hE hT dX7_next_99 fX7_28 (k := 4) (i := 0) rfl ob4 rfl (h119) ?_
      refine ev_aload_n dX7_next_102 rfl rfl ?_
      refine cw_geti (v2 := nI n) hE hT dX7_next_103 fX7_19 (k := 4) (i := 0) rfl ob4 rfl (by rw [hx 116 (by decide)]; exact hX.1) ?_
      refine ev_icmp_ge (tgt := 190) dX7_next_106 (by decide) (fun _ => ?_) (fun c => absurd (nI_le (by omega) (by omega)) c)
      refine ev_vret dX7_next_190 rfl ⟨W, T, ⟨rfl, rfl, hx, by omega, h118, h117.trans hsg.symm, ?_⟩, hT⟩
      rw [h119, hbh, ← he, rd_end_e (by omega) hin]
    | succ m ih =>
      intro i hi hin he T g hx h118 h117 h119 hpn hsg hbh hT
      have hXT : rd_X T t n := hX.cg (hx 115 (by decide)) (hx 116 (by decide))
      refine ev_aload_n dX7_next_98 rfl rfl ?_
      refine cw_geti (v2 := nI i) hE hT dX7_next_99 fX7_28 (k := 4) (i := 0) rfl ob4 rfl (h119) ?_
      refine ev_aload_n dX7_next_102 rfl rfl ?_
      refine cw_geti (v2 := nI n) hE hT dX7_next_103 fX7_19 (k := 4) (i := 0) rfl ob4 rfl (hXT.1) ?_
      refine ev_icmp_ge (tgt := 190) dX7_next_106 (by decide) (fun c => absurd c (nI_ge (by omega) (by omega))) (fun _ => ?_)
      refine ev_aload_n dX7_next_109 rfl rfl ?_
      refine ev_aload_n dX7_next_110 rfl rfl ?_
      refine cw_geti (v2 := nI i) hE hT dX7_next_111 fX7_28 (k := 4) (i := 0) rfl ob4 rfl (h119) ?_
      refine cw_call1 (d' := d - 1) hE hT dX7_next_114 rfl kX7_byteAt lX7_58 iX7_byteAt vX7_byteAt (k := 4) (i := 0) rfl ob4 rfl (Nat.le_of_ble_eq_true rfl) (by omega) (c_X7_byteAt2 hE hXT (by omega)) (fun g hT => ?_)
      refine ev_pS1 (d' := d - 1) dX7_next_117 rfl kX7_isLetter lX7_68 sX7_isLetter (Nat.le_of_ble_eq_true rfl) (by omega) c_X7_isLetter ?_
      rw [rd_let (hX.2.2.2 i), decide_eq_true (show i < n by omega), Bool.true_and]
      by_cases z : ps_let (t i) = true
      · rw [z]
        refine ev_if_eq (tgt := 190) dX7_next_120 (by decide) (fun c => absurd c (by decide)) (fun _ => ?_)
        refine ev_aload_n dX7_next_123 rfl rfl ?_
        refine ev_dup dX7_next_124 rfl ?_
        refine cw_geti (v2 := nI i) hE hT dX7_next_125 fX7_28 (k := 4) (i := 0) rfl ob4 rfl h119 ?_
        refine ev_iconst (v := 1) dX7_next_128 (by decide) ?_
        refine ev_iadd dX7_next_129 ?_
        rw [nI_1]
        refine cw_putf (k := 4) (i := 0) (f := 119) (x := 0) hE hT dX7_next_130 pX7_28 rfl ob4 (Nat.le_of_ble_eq_true rfl) rfl rfl rfl (by decide) (by decide) pu4_5 (fun g hT => ?_)
        refine ev_goto (tgt := 98) dX7_next_133 (by decide) ?_
        exact ih (i + 1) (by omega) (by omega) ((rd_end_s (by omega) z).symm.trans he) _ g (hx.up (by decide)) (by rw [mo_up_ne (by decide)]; exact h118) (by rw [mo_up_ne (by decide)]; exact h117) (by rw [mo_up_at, pk_us]) hpn hsg hbh hT
      · rw [show ps_let (t i) = false by cases y : ps_let (t i) with
          | false => rfl
          | true => exact absurd y z]
        refine ev_if_eq (tgt := 190) dX7_next_120 (by decide) (fun _ => ?_) (fun c => absurd rfl c)
        refine ev_vret dX7_next_190 rfl ⟨W, T, ⟨rfl, rfl, hx, by omega, h118, h117.trans hsg.symm, ?_⟩, hT⟩
        rw [h119, hbh, ← he, rd_end_e (fun q => z q.2) hin]
  have DG : ∀ (m i : Nat), n - i = m → i ≤ n → rd_end ps_dig t n i = rd_end ps_dig t n (ps_skn t n h + 1) → ∀ (T : mo_S) (g : ev_H), cx_eqX [117, 118, 119] T C → T.1 118 0 = nI (ps_skn t n h) → T.1 117 0 = 48 → T.1 119 0 = nI i → ps_skn t n h < n → rd_sg t n (ps_skn t n h) = 48 → rd_bh t n (ps_skn t n h) = rd_end ps_dig t n (ps_skn t n h + 1) → cw_T G K g0 W g T → ev_V G d 0 0 mX7_next (fun o g' => ∃ W2 C2, (W2 = W ∧ o = .inl none ∧ cx_eqX [117, 118, 119] C2 C ∧ rd_T t n (ps_skn t n h) C2) ∧ cw_T G K g0 W2 g' C2) g 152 [some (.ref (W 4 0))] [] := by
    intro m
    induction m with
    | zero =>
      intro i hi hin he T g hx h118 h117 h119 hpn hsg hbh hT
      refine ev_aload_n dX7_next_152 rfl rfl ?_
      refine cw_geti (v2 := nI i) hE hT dX7_next_153 fX7_28 (k := 4) (i := 0) rfl ob4 rfl (h119) ?_
      refine ev_aload_n dX7_next_156 rfl rfl ?_
      refine cw_geti (v2 := nI n) hE hT dX7_next_157 fX7_19 (k := 4) (i := 0) rfl ob4 rfl (by rw [hx 116 (by decide)]; exact hX.1) ?_
      refine ev_icmp_ge (tgt := 190) dX7_next_160 (by decide) (fun _ => ?_) (fun c => absurd (nI_le (by omega) (by omega)) c)
      refine ev_vret dX7_next_190 rfl ⟨W, T, ⟨rfl, rfl, hx, by omega, h118, h117.trans hsg.symm, ?_⟩, hT⟩
      rw [h119, hbh, ← he, rd_end_e (by omega) hin]
    | succ m ih =>
      intro i hi hin he T g hx h118 h117 h119 hpn hsg hbh hT
      have hXT : rd_X T t n := hX.cg (hx 115 (by decide)) (hx 116 (by decide))
      refine ev_aload_n dX7_next_152 rfl rfl ?_
      refine cw_geti (v2 := nI i) hE hT dX7_next_153 fX7_28 (k := 4) (i := 0) rfl ob4 rfl (h119) ?_
      refine ev_aload_n dX7_next_156 rfl rfl ?_
      refine cw_geti (v2 := nI n) hE hT dX7_next_157 fX7_19 (k := 4) (i := 0) rfl ob4 rfl (hXT.1) ?_
      refine ev_icmp_ge (tgt := 190) dX7_next_160 (by decide) (fun c => absurd c (nI_ge (by omega) (by omega))) (fun _ => ?_)
      refine ev_aload_n dX7_next_163 rfl rfl ?_
      refine ev_aload_n dX7_next_164 rfl rfl ?_
      refine cw_geti (v2 := nI i) hE hT dX7_next_165 fX7_28 (k := 4) (i := 0) rfl ob4 rfl (h119) ?_
      refine cw_call1 (d' := d - 1) hE hT dX7_next_168 rfl kX7_byteAt lX7_58 iX7_byteAt vX7_byteAt (k := 4) (i := 0) rfl ob4 rfl (Nat.le_of_ble_eq_true rfl) (by omega) (c_X7_byteAt2 hE hXT (by omega)) (fun g hT => ?_)
      refine ev_pS1 (d' := d - 1) dX7_next_171 rfl kX7_isDigit lX7_72 sX7_isDigit (Nat.le_of_ble_eq_true rfl) (by omega) c_X7_isDigit ?_
      rw [rd_dig (hX.2.2.2 i), decide_eq_true (show i < n by omega), Bool.true_and]
      by_cases z : ps_dig (t i) = true
      · rw [z]
        refine ev_if_eq (tgt := 190) dX7_next_174 (by decide) (fun c => absurd c (by decide)) (fun _ => ?_)
        refine ev_aload_n dX7_next_177 rfl rfl ?_
        refine ev_dup dX7_next_178 rfl ?_
        refine cw_geti (v2 := nI i) hE hT dX7_next_179 fX7_28 (k := 4) (i := 0) rfl ob4 rfl h119 ?_
        refine ev_iconst (v := 1) dX7_next_182 (by decide) ?_
        refine ev_iadd dX7_next_183 ?_
        rw [nI_1]
        refine cw_putf (k := 4) (i := 0) (f := 119) (x := 0) hE hT dX7_next_184 pX7_28 rfl ob4 (Nat.le_of_ble_eq_true rfl) rfl rfl rfl (by decide) (by decide) pu4_5 (fun g hT => ?_)
        refine ev_goto (tgt := 152) dX7_next_187 (by decide) ?_
        exact ih (i + 1) (by omega) (by omega) ((rd_end_s (by omega) z).symm.trans he) _ g (hx.up (by decide)) (by rw [mo_up_ne (by decide)]; exact h118) (by rw [mo_up_ne (by decide)]; exact h117) (by rw [mo_up_at, pk_us]) hpn hsg hbh hT
      · rw [show ps_dig (t i) = false by cases y : ps_dig (t i) with
          | false => rfl
          | true => exact absurd y z]
        refine ev_if_eq (tgt := 190) dX7_next_174 (by decide) (fun _ => ?_) (fun c => absurd rfl c)
        refine ev_vret dX7_next_190 rfl ⟨W, T, ⟨rfl, rfl, hx, by omega, h118, h117.trans hsg.symm, ?_⟩, hT⟩
        rw [h119, hbh, ← he, rd_end_e (fun q => z q.2) hin]
  have K53 : ∀ (T : mo_S) (g : ev_H), cx_eqX [117, 118, 119] T C → T.1 118 0 = nI (ps_skn t n h) → cw_T G K g0 W g T → ev_V G d 0 0 mX7_next (fun o g' => ∃ W2 C2, (W2 = W ∧ o = .inl none ∧ cx_eqX [117, 118, 119] C2 C ∧ rd_T t n (ps_skn t n h) C2) ∧ cw_T G K g0 W2 g' C2) g 53 [some (.ref (W 4 0))] [] := by
    intro T g hx h118 hT
    have hXT : rd_X T t n := hX.cg (hx 115 (by decide)) (hx 116 (by decide))
    refine ev_aload_n dX7_next_53 rfl rfl ?_
    refine ev_aload_n dX7_next_54 rfl rfl ?_
    refine ev_aload_n dX7_next_55 rfl rfl ?_
    refine cw_geti (v2 := nI (ps_skn t n h)) hE hT dX7_next_56 fX7_25 (k := 4) (i := 0) rfl ob4 rfl (h118) ?_
    refine cw_call1 (d' := d - 1) hE hT dX7_next_59 rfl kX7_byteAt lX7_58 iX7_byteAt vX7_byteAt (k := 4) (i := 0) rfl ob4 rfl (Nat.le_of_ble_eq_true rfl) (by omega) (c_X7_byteAt2 hE hXT (by omega)) (fun g hT => ?_)
    refine cw_putf (k := 4) (i := 0) (f := 117) (x := 0) hE hT dX7_next_62 pX7_22 rfl ob4 (Nat.le_of_ble_eq_true rfl) rfl rfl rfl (by decide) (by decide) pu4_3 (fun g hT => ?_)
    refine ev_aload_n dX7_next_65 rfl rfl ?_
    refine ev_aload_n dX7_next_66 rfl rfl ?_
    refine cw_geti (v2 := nI (ps_skn t n h)) hE hT dX7_next_67 fX7_25 (k := 4) (i := 0) rfl ob4 rfl (by rw [mo_up_ne (by decide)]; exact h118) ?_
    refine ev_iconst (v := 1) dX7_next_70 (by decide) ?_
    refine ev_iadd dX7_next_71 ?_
    rw [nI_1]
    refine ev_aload_n dX7_next_72 rfl rfl ?_
    refine cw_geti (v2 := nI n) hE hT dX7_next_73 fX7_19 (k := 4) (i := 0) rfl ob4 rfl (by rw [mo_up_ne (by decide)]; exact hXT.1) ?_
    refine ev_mmin dX7_next_76 lX7_62 (Nat.le_of_ble_eq_true rfl) (by omega) ?_
    rw [cl_min (by omega) (by omega)]
    refine cw_putf (k := 4) (i := 0) (f := 119) (x := 0) hE hT dX7_next_79 pX7_28 rfl ob4 (Nat.le_of_ble_eq_true rfl) rfl rfl rfl (by decide) (by decide) pu4_5 (fun g hT => ?_)
    refine ev_aload_n dX7_next_82 rfl rfl ?_
    refine cw_geti (v2 := rd_by t n (ps_skn t n h)) hE hT dX7_next_83 fX7_22 (k := 4) (i := 0) rfl ob4 rfl (by rw [mo_up_ne (by decide), mo_up_at, pk_us]) ?_
    refine ev_pS1 (d' := d - 1) dX7_next_86 rfl kX7_isLetter lX7_68 sX7_isLetter (Nat.le_of_ble_eq_true rfl) (by omega) c_X7_isLetter ?_
    rw [rd_let (hX.2.2.2 _)]
    by_cases q : ps_skn t n h < n
    · rw [decide_eq_true q, Bool.true_and]
      by_cases z : ps_let (t (ps_skn t n h)) = true
      · rw [z]
        refine ev_if_eq (tgt := 136) dX7_next_89 (by decide) (fun c => absurd c (by decide)) (fun _ => ?_)
        refine ev_aload_n dX7_next_92 rfl rfl ?_
        refine ev_bipush (v := 97) dX7_next_93 (by decide) ?_
        refine cw_putf (k := 4) (i := 0) (f := 117) (x := 0) hE hT dX7_next_95 pX7_22 rfl ob4 (Nat.le_of_ble_eq_true rfl) rfl rfl rfl (by decide) (by decide) pu4_3 (fun g hT => ?_)
        exact LT _ (min (ps_skn t n h + 1) n) rfl (by omega) (by rw [Nat.min_eq_left (by omega)]) _ g (((hx.up (by decide)).up (by decide)).up (by decide)) (by rw [mo_up_ne (by decide), mo_up_ne (by decide), mo_up_ne (by decide)]; exact h118) (by rw [mo_up_at, pk_us]) (by rw [mo_up_ne (by decide), mo_up_at, pk_us]) q (by unfold rd_sg; rw [if_pos q, if_pos z]) (by unfold rd_bh; rw [if_pos q, if_pos z]) hT
      · have z2 : ps_let (t (ps_skn t n h)) = false := by cases y : ps_let (t (ps_skn t n h)) with
          | false => rfl
          | true => exact absurd y z
        rw [z2]
        refine ev_if_eq (tgt := 136) dX7_next_89 (by decide) (fun _ => ?_) (fun c => absurd rfl c)
        refine ev_aload_n dX7_next_136 rfl rfl ?_
        refine cw_geti (v2 := rd_by t n (ps_skn t n h)) hE hT dX7_next_137 fX7_22 (k := 4) (i := 0) rfl ob4 rfl (by rw [mo_up_ne (by decide), mo_up_at, pk_us]) ?_
        refine ev_pS1 (d' := d - 1) dX7_next_140 rfl kX7_isDigit lX7_72 sX7_isDigit (Nat.le_of_ble_eq_true rfl) (by omega) c_X7_isDigit ?_
        rw [rd_dig (hX.2.2.2 _), decide_eq_true q, Bool.true_and]
        by_cases y : ps_dig (t (ps_skn t n h)) = true
        · rw [y]
          refine ev_if_eq (tgt := 190) dX7_next_143 (by decide) (fun c => absurd c (by decide)) (fun _ => ?_)
          refine ev_aload_n dX7_next_146 rfl rfl ?_
          refine ev_bipush (v := 48) dX7_next_147 (by decide) ?_
          refine cw_putf (k := 4) (i := 0) (f := 117) (x := 0) hE hT dX7_next_149 pX7_22 rfl ob4 (Nat.le_of_ble_eq_true rfl) rfl rfl rfl (by decide) (by decide) pu4_3 (fun g hT => ?_)
          exact DG _ (min (ps_skn t n h + 1) n) rfl (by omega) (by rw [Nat.min_eq_left (by omega)]) _ g (((hx.up (by decide)).up (by decide)).up (by decide)) (by rw [mo_up_ne (by decide), mo_up_ne (by decide), mo_up_ne (by decide)]; exact h118) (by rw [mo_up_at, pk_us]) (by rw [mo_up_ne (by decide), mo_up_at, pk_us]) q (by unfold rd_sg; rw [if_pos q, if_neg z, if_pos y]) (by unfold rd_bh; rw [if_pos q, if_neg z, if_pos y]) hT
        · rw [show ps_dig (t (ps_skn t n h)) = false by cases v : ps_dig (t (ps_skn t n h)) with
            | false => rfl
            | true => exact absurd v y]
          refine ev_if_eq (tgt := 190) dX7_next_143 (by decide) (fun _ => ?_) (fun c => absurd rfl c)
          refine ev_vret dX7_next_190 rfl ⟨W, _, ⟨rfl, rfl, (hx.up (by decide)).up (by decide), hsk.2, by rw [mo_up_ne (by decide), mo_up_ne (by decide)]; exact h118, ?_, ?_⟩, hT⟩
          · rw [mo_up_ne (by decide), mo_up_at, pk_us]
            unfold rd_by rd_sg
            rw [if_pos q, if_pos q, if_neg z, if_neg y]
          · rw [mo_up_at, pk_us]
            unfold rd_bh
            rw [if_pos q, if_neg z, if_neg y, Nat.min_eq_left (by omega)]
    · rw [decide_eq_false q, Bool.false_and]
      refine ev_if_eq (tgt := 136) dX7_next_89 (by decide) (fun _ => ?_) (fun c => absurd rfl c)
      refine ev_aload_n dX7_next_136 rfl rfl ?_
      refine cw_geti (v2 := rd_by t n (ps_skn t n h)) hE hT dX7_next_137 fX7_22 (k := 4) (i := 0) rfl ob4 rfl (by rw [mo_up_ne (by decide), mo_up_at, pk_us]) ?_
      refine ev_pS1 (d' := d - 1) dX7_next_140 rfl kX7_isDigit lX7_72 sX7_isDigit (Nat.le_of_ble_eq_true rfl) (by omega) c_X7_isDigit ?_
      rw [rd_dig (hX.2.2.2 _), decide_eq_false q, Bool.false_and]
      refine ev_if_eq (tgt := 190) dX7_next_143 (by decide) (fun _ => ?_) (fun c => absurd rfl c)
      refine ev_vret dX7_next_190 rfl ⟨W, _, ⟨rfl, rfl, (hx.up (by decide)).up (by decide), hsk.2, by rw [mo_up_ne (by decide), mo_up_ne (by decide)]; exact h118, ?_, ?_⟩, hT⟩
      · rw [mo_up_ne (by decide), mo_up_at, pk_us]
        unfold rd_by rd_sg
        rw [if_neg q, if_neg q]
      · rw [mo_up_at, pk_us]
        unfold rd_bh
        rw [if_neg q, Nat.min_eq_right (by omega)]
  have loop : ∀ (m i : Nat), n - i = m → i ≤ n → ps_skn t n i = ps_skn t n h → ∀ (T : mo_S) (g : ev_H), cx_eqX [117, 118, 119] T C → T.1 118 0 = nI i → cw_T G K g0 W g T → ev_V G d 0 0 mX7_next (fun o g' => ∃ W2 C2, (W2 = W ∧ o = .inl none ∧ cx_eqX [117, 118, 119] C2 C ∧ rd_T t n (ps_skn t n h) C2) ∧ cw_T G K g0 W2 g' C2) g 16 [some (.ref (W 4 0))] [] := by
    intro m
    induction m with
    | zero =>
      intro i hi hin he T g hx h118 hT
      refine ev_aload_n dX7_next_16 rfl rfl ?_
      refine cw_geti (v2 := nI i) hE hT dX7_next_17 fX7_25 (k := 4) (i := 0) rfl ob4 rfl (h118) ?_
      refine ev_aload_n dX7_next_20 rfl rfl ?_
      refine cw_geti (v2 := nI n) hE hT dX7_next_21 fX7_19 (k := 4) (i := 0) rfl ob4 rfl (by rw [hx 116 (by decide)]; exact hX.1) ?_
      refine ev_icmp_ge (tgt := 53) dX7_next_24 (by decide) (fun _ => ?_) (fun c => absurd (nI_le (by omega) (by omega)) c)
      exact K53 T g hx (by rw [h118, ← he, ps_skn_e (by omega) hin]) hT
    | succ m ih =>
      intro i hi hin he T g hx h118 hT
      have hXT : rd_X T t n := hX.cg (hx 115 (by decide)) (hx 116 (by decide))
      refine ev_aload_n dX7_next_16 rfl rfl ?_
      refine cw_geti (v2 := nI i) hE hT dX7_next_17 fX7_25 (k := 4) (i := 0) rfl ob4 rfl (h118) ?_
      refine ev_aload_n dX7_next_20 rfl rfl ?_
      refine cw_geti (v2 := nI n) hE hT dX7_next_21 fX7_19 (k := 4) (i := 0) rfl ob4 rfl (hXT.1) ?_
      refine ev_icmp_ge (tgt := 53) dX7_next_24 (by decide) (fun c => absurd c (nI_ge (by omega) (by omega))) (fun _ => ?_)
      refine ev_aload_n dX7_next_27 rfl rfl ?_
      refine ev_aload_n dX7_next_28 rfl rfl ?_
      refine cw_geti (v2 := nI i) hE hT dX7_next_29 fX7_25 (k := 4) (i := 0) rfl ob4 rfl (h118) ?_
      refine cw_call1 (d' := d - 1) hE hT dX7_next_32 rfl kX7_byteAt lX7_58 iX7_byteAt vX7_byteAt (k := 4) (i := 0) rfl ob4 rfl (Nat.le_of_ble_eq_true rfl) (by omega) (c_X7_byteAt2 hE hXT (by omega)) (fun g hT => ?_)
      refine ev_bipush (v := 32) dX7_next_35 (by decide) ?_
      have hby : rd_by t n i = nI (t i) := if_pos (by omega)
      have h256 := hX.2.2.2 i
      rw [hby]
      refine ev_icmp_ne (tgt := 53) dX7_next_37 (by decide) (fun c_37 => ?_) (fun c_37 => ?_)
      · exact K53 T g hx (by rw [h118, ← he, ps_skn_e (fun q => c_37 (by rw [q.2]; rfl)) hin]) hT
      · have z : t i = 32 := mo_niinj (by omega) (by decide) c_37
        refine ev_aload_n dX7_next_40 rfl rfl ?_
        refine ev_dup dX7_next_41 rfl ?_
        refine cw_geti (v2 := nI i) hE hT dX7_next_42 fX7_25 (k := 4) (i := 0) rfl ob4 rfl h118 ?_
        refine ev_iconst (v := 1) dX7_next_45 (by decide) ?_
        refine ev_iadd dX7_next_46 ?_
        rw [nI_1]
        refine cw_putf (k := 4) (i := 0) (f := 118) (x := 0) hE hT dX7_next_47 pX7_25 rfl ob4 (Nat.le_of_ble_eq_true rfl) rfl rfl rfl (by decide) (by decide) pu4_4 (fun g hT => ?_)
        refine ev_goto (tgt := 16) dX7_next_50 (by decide) ?_
        exact ih (i + 1) (by omega) (by omega) ((ps_skn_s (by omega) z).symm.trans he) _ g (hx.up (by decide)) (by rw [mo_up_at, pk_us]) hT
  refine ev_aload_n dX7_next_0 rfl rfl ?_
  refine cw_geti (v2 := 0) hE hT dX7_next_1 fX7_31 (k := 4) (i := 0) rfl ob4 rfl (hf) ?_
  refine ev_if_eq (tgt := 8) dX7_next_4 (by decide) (fun _ => ?_) (fun c => absurd rfl c)
  refine ev_aload_n dX7_next_8 rfl rfl ?_
  refine ev_aload_n dX7_next_9 rfl rfl ?_
  refine cw_geti (v2 := nI h) hE hT dX7_next_10 fX7_28 (k := 4) (i := 0) rfl ob4 rfl (hb) ?_
  refine cw_putf (k := 4) (i := 0) (f := 118) (x := 0) hE hT dX7_next_13 pX7_25 rfl ob4 (Nat.le_of_ble_eq_true rfl) rfl rfl rfl (by decide) (by decide) pu4_4 (fun g hT => ?_)
  exact loop _ h rfl hh rfl _ g ((cx_eqX.r C).up (by decide)) (by rw [mo_up_at, pk_us]) hT
end RD
