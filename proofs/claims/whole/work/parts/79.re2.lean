section RE2
/-- the word at p is that part of the words -/
def rd_isw (t : Nat → Nat) (n p : Nat) (L : List Nat) (s e : Nat) : Bool := decide (e - s = rd_bh t n p - p ∧ ∀ k, k < e - s → rd_by t n (p + k) = nI (L.getD (s + k) 0))
theorem rd_mem {L : List Nat} (h : ∀ c ∈ L, c < 128) (k : Nat) : L.getD k 0 < 128 := by
  rw [List.getD_eq_getElem?_getD]
  cases e : L[k]? with
  | none => exact (by decide)
  | some x => exact h x (List.mem_of_getElem? e)
theorem c_X7_isWord {G : ev_G} {W : cw_W} {d D0 n p a s e : Nat} {C : mo_S} {t : Nat → Nat} {L : List Nat} (hE : ev_En G) (h4 : ev_En4 G D0) (hd : 4 ≤ d) (hX : rd_X C t n) (hT0 : rd_T t n p C) (hs : ev_str G a L) (hse : s ≤ e) (he : e ≤ L.length) : cw_C G W d mX7_isWord [.ref (W 4 0), .ref a, .int (nI s), .int (nI e)] C (some (.int (mo_b (rd_isw t n p L s e)))) C := by
  have h2 := h4.1.1
  have hL := hs.choose_spec.2.2.2.2.1
  have hLc := hs.choose_spec.2.2.2.2.2
  obtain ⟨hp, t118, t117, t119⟩ := hT0
  have hbh := rd_bh_in (t := t) hp
  have hn3 := hX.2.1
  refine cw_start (lv0 := [some (.ref (W 4 0)), some (.ref a), some (.int (nI s)), some (.int (nI e)), none]) (by decide +kernel) rfl (Nat.le_of_ble_eq_true rfl) rfl ?_
  intro K g0 g hT
  refine ev_iload_n dX7_isWord_0 rfl rfl ?_
  refine ev_if_lt (tgt := 27) dX7_isWord_1 (by decide) (fun c => absurd c (nI_pos (by omega))) (fun _ => ?_)
  refine ev_iload_n dX7_isWord_4 rfl rfl ?_
  refine ev_aload_n dX7_isWord_5 rfl rfl ?_
  refine ev_callO (As := []) (d' := d - 1) dX7_isWord_6 rfl kJ0_length_8abf5 rfl lX7_78 iJ0_length_8abf5 vJ0_length_8abf5 hs.choose_spec.1 (Nat.le_of_ble_eq_true rfl) (by omega) (c_length h2 (by omega) hs) ?_
  refine ev_icmp_gt (tgt := 27) dX7_isWord_9 (by decide) (fun c => absurd c (nI_nlt he (by omega))) (fun _ => ?_)
  refine ev_iload_n dX7_isWord_12 rfl rfl ?_
  refine ev_iload_n dX7_isWord_13 rfl rfl ?_
  refine ev_isub dX7_isWord_14 ?_
  rw [pk_sub hse]
  refine ev_aload_n dX7_isWord_15 rfl rfl ?_
  refine cw_geti (v2 := nI (rd_bh t n p)) hE hT dX7_isWord_16 fX7_28 (k := 4) (i := 0) rfl ob4 rfl t119 ?_
  refine ev_aload_n dX7_isWord_19 rfl rfl ?_
  refine cw_geti (v2 := nI p) hE hT dX7_isWord_20 fX7_25 (k := 4) (i := 0) rfl ob4 rfl t118 ?_
  refine ev_isub dX7_isWord_23 ?_
  rw [pk_sub hbh.1]
  refine ev_icmp_eq (tgt := 29) dX7_isWord_24 (by decide) (fun c_24 => ?_) (fun c_24 => ?_)
  · have hlen : e - s = rd_bh t n p - p := mo_niinj (by omega) (by omega) c_24
    refine ev_iload_n dX7_isWord_29 rfl rfl ?_
    refine ev_istore dX7_isWord_30 (Nat.le_of_ble_eq_true rfl) rfl ?_
    have loop : ∀ (m i : Nat), e - i = m → s ≤ i → i ≤ e → (∀ k, k < i - s → rd_by t n (p + k) = nI (L.getD (s + k) 0)) → ∀ g, cw_T G K g0 W g C → ev_V G d 0 0 mX7_isWord (fun o g' => o = .inl (some (.int (mo_b (rd_isw t n p L s e)))) ∧ cw_T G K g0 W g' C) g 32 [some (.ref (W 4 0)), some (.ref a), some (.int (nI s)), some (.int (nI e)), some (.int (nI i))] [] := by
      intro m
      induction m with
      | zero =>
        intro i hi h1 h3 hx g hT
        have : i = e := by omega
        subst this
        refine ev_iload dX7_isWord_32 rfl ?_
        refine ev_iload_n dX7_isWord_34 rfl rfl ?_
        refine ev_icmp_ge (tgt := 68) dX7_isWord_35 (by decide) (fun _ => ?_) (fun c => absurd (nI_le (Nat.le_refl _) (by omega)) c)
        refine ev_iconst (v := 1) dX7_isWord_68 (by decide) ?_
        refine ev_iret dX7_isWord_69 rfl rfl ⟨?_, hT⟩
        unfold rd_isw
        rw [decide_eq_true ⟨hlen, hx⟩]
        rfl
      | succ m ih =>
        intro i hi h1 h3 hx g hT
        refine ev_iload dX7_isWord_32 rfl ?_
        refine ev_iload_n dX7_isWord_34 rfl rfl ?_
        refine ev_icmp_ge (tgt := 68) dX7_isWord_35 (by decide) (fun c => absurd c (nI_ge (by omega) (by omega))) (fun _ => ?_)
        refine ev_aload_n dX7_isWord_38 rfl rfl ?_
        refine ev_iload dX7_isWord_39 rfl ?_
        refine ev_callO (As := [.int (nI i)]) (d' := d - 1) dX7_isWord_41 rfl kJ0_charAt_5068e rfl lX7_84 iJ0_charAt_5068e vJ0_charAt_5068e hs.choose_spec.1 (Nat.le_of_ble_eq_true rfl) (by omega) (c_charAt h2 (by omega) hs (by omega)) ?_
        refine ev_aload_n dX7_isWord_44 rfl rfl ?_
        refine ev_aload_n dX7_isWord_45 rfl rfl ?_
        refine cw_geti (v2 := nI p) hE hT dX7_isWord_46 fX7_25 (k := 4) (i := 0) rfl ob4 rfl t118 ?_
        refine ev_iload dX7_isWord_49 rfl ?_
        refine ev_iadd dX7_isWord_51 ?_
        rw [nI_add]
        refine ev_iload_n dX7_isWord_52 rfl rfl ?_
        refine ev_isub dX7_isWord_53 ?_
        rw [pk_sub (show s ≤ p + i by omega), show p + i - s = p + (i - s) by omega]
        refine cw_call1 (d' := d - 1) hE hT dX7_isWord_54 rfl kX7_byteAt lX7_58 iX7_byteAt vX7_byteAt (k := 4) (i := 0) rfl ob4 rfl (Nat.le_of_ble_eq_true rfl) (by omega) (c_X7_byteAt2 hE hX (by omega)) (fun g hT => ?_)
        refine ev_icmp_eq (tgt := 62) dX7_isWord_57 (by decide) (fun c_57 => ?_) (fun c_57 => ?_)
        · refine ev_iinc (v := nI (i + 1)) dX7_isWord_62 rfl (nI_1 i) rfl ?_
          refine ev_goto (tgt := 32) dX7_isWord_65 (by decide) ?_
          refine ih (i + 1) (by omega) (by omega) (by omega) (fun k hk => ?_) g hT
          by_cases z : k = i - s
          · rw [z, ← c_57, show s + (i - s) = i by omega]
          · exact hx k (by omega)
        · refine ev_iconst (v := 0) dX7_isWord_60 (by decide) ?_
          refine ev_iret dX7_isWord_61 rfl rfl ⟨?_, hT⟩
          unfold rd_isw
          rw [decide_eq_false (fun q => c_57 (by rw [q.2 (i - s) (by omega), show s + (i - s) = i by omega]))]
          rfl
    exact loop _ s rfl (Nat.le_refl _) hse (fun k hk => absurd hk (by omega)) g hT
  · refine ev_iconst (v := 0) dX7_isWord_27 (by decide) ?_
    refine ev_iret dX7_isWord_28 rfl rfl ⟨?_, hT⟩
    unfold rd_isw
    rw [decide_eq_false (fun q => c_24 (by rw [q.1]))]
    rfl
/-- the first of the words that f holds for; from i on, the word begun at s has number x -/
def rd_wa (L : List Nat) (f : Nat → Nat → Bool) : Nat → Nat → Nat → Nat → Option Nat
  | 0, _, _, _ => none
  | m + 1, i, s, x => if i = L.length ∨ L.getD i 0 = 32 then (if f s i = true then some x else rd_wa L f m (i + 1) (i + 1) (x + 1)) else rd_wa L f m (i + 1) s x
theorem c_X7_wordAmong {G : ev_G} {W : cw_W} {d D0 n p a : Nat} {C : mo_S} {t : Nat → Nat} {L : List Nat} (hE : ev_En G) (h4 : ev_En4 G D0) (hd : 5 ≤ d) (hX : rd_X C t n) (hT0 : rd_T t n p C) (hs : ev_str G a L) (hw : C.1 117 0 = 97) : cw_C G W d mX7_wordAmong [.ref (W 4 0), .ref a] C (some (.int (sp_opt (rd_wa L (rd_isw t n p L) (L.length + 1) 0 0 0)))) C := by
  have h2 := h4.1.1
  have hL := hs.choose_spec.2.2.2.2.1
  have hLc := hs.choose_spec.2.2.2.2.2
  refine cw_start (lv0 := [some (.ref (W 4 0)), some (.ref a), none, none, none]) (by decide +kernel) rfl (Nat.le_of_ble_eq_true rfl) rfl ?_
  intro K g0 g hT
  refine ev_aload_n dX7_wordAmong_0 rfl rfl ?_
  refine cw_geti (v2 := 97) hE hT dX7_wordAmong_1 fX7_22 (k := 4) (i := 0) rfl ob4 rfl hw ?_
  refine ev_bipush (v := 97) dX7_wordAmong_4 (by decide) ?_
  refine ev_icmp_eq (tgt := 11) dX7_wordAmong_6 (by decide) (fun _ => ?_) (fun c => absurd rfl c)
  refine ev_iconst (v := nI 0) dX7_wordAmong_11 (by decide) ?_
  refine ev_istore_n dX7_wordAmong_12 rfl (Nat.le_of_ble_eq_true rfl) rfl ?_
  refine ev_iconst (v := nI 0) dX7_wordAmong_13 (by decide) ?_
  refine ev_istore_n dX7_wordAmong_14 rfl (Nat.le_of_ble_eq_true rfl) rfl ?_
  refine ev_iconst (v := nI 0) dX7_wordAmong_15 (by decide) ?_
  refine ev_istore dX7_wordAmong_16 (Nat.le_of_ble_eq_true rfl) rfl ?_
  have loop : ∀ (m i s x : Nat), L.length + 1 - i = m → i ≤ L.length + 1 → s ≤ i → x ≤ i → (i = L.length + 1 → True) → (s ≤ L.length ∨ i = L.length + 1) → ∀ g, cw_T G K g0 W g C → ev_V G d 0 0 mX7_wordAmong (fun o g' => o = .inl (some (.int (sp_opt (rd_wa L (rd_isw t n p L) m i s x)))) ∧ cw_T G K g0 W g' C) g 18 [some (.ref (W 4 0)), some (.ref a), some (.int (nI x)), some (.int (nI s)), some (.int (nI i))] [] := by
    intro m
    induction m with
    | zero =>
      intro i s x hi h1 h3 h5 _ _ g hT
      have : i = L.length + 1 := by omega
      subst this
      refine ev_iload dX7_wordAmong_18 rfl ?_
      refine ev_aload_n dX7_wordAmong_20 rfl rfl ?_
      refine ev_callO (As := []) (d' := d - 1) dX7_wordAmong_21 rfl kJ0_length_8abf5 rfl lX7_78 iJ0_length_8abf5 vJ0_length_8abf5 hs.choose_spec.1 (Nat.le_of_ble_eq_true rfl) (by omega) (c_length h2 (by omega) hs) ?_
      refine ev_icmp_gt (tgt := 74) dX7_wordAmong_24 (by decide) (fun _ => ?_) (fun c => absurd (nI_lt (by omega) (by omega)) c)
      refine ev_iconst (v := -1) dX7_wordAmong_74 (by decide) ?_
      exact ev_iret dX7_wordAmong_75 rfl rfl ⟨rfl, hT⟩
    | succ m ih =>
      intro i s x hi h1 h3 h5 _ h6 g hT
      have next : ∀ g, (i = L.length ∨ L.getD i 0 = 32) → cw_T G K g0 W g C → ev_V G d 0 0 mX7_wordAmong (fun o g' => o = .inl (some (.int (sp_opt (rd_wa L (rd_isw t n p L) (m + 1) i s x)))) ∧ cw_T G K g0 W g' C) g 47 [some (.ref (W 4 0)), some (.ref a), some (.int (nI x)), some (.int (nI s)), some (.int (nI i))] [] := by
        intro g hq hT
        rw [rd_wa, if_pos hq]
        refine ev_aload_n dX7_wordAmong_47 rfl rfl ?_
        refine ev_aload_n dX7_wordAmong_48 rfl rfl ?_
        refine ev_iload_n dX7_wordAmong_49 rfl rfl ?_
        refine ev_iload dX7_wordAmong_50 rfl ?_
        refine cw_call3 (d' := d - 1) hE hT dX7_wordAmong_52 rfl kX7_isWord lX7_88 iX7_isWord vX7_isWord (k := 4) (i := 0) rfl ob4 rfl (Nat.le_of_ble_eq_true rfl) (by omega) (c_X7_isWord hE h4 (by omega) hX hT0 hs h3 (by omega)) (fun g hT => ?_)
        cases hb : rd_isw t n p L s i with
        | true =>
          refine ev_if_eq (tgt := 60) dX7_wordAmong_55 (by decide) (fun c => absurd c (by decide)) (fun _ => ?_)
          refine ev_iload_n dX7_wordAmong_58 rfl rfl ?_
          rw [if_pos rfl]
          exact ev_iret dX7_wordAmong_59 rfl rfl ⟨rfl, hT⟩
        | false =>
          refine ev_if_eq (tgt := 60) dX7_wordAmong_55 (by decide) (fun _ => ?_) (fun c => absurd rfl c)
          refine ev_iinc (v := nI (x + 1)) dX7_wordAmong_60 rfl (nI_1 x) rfl ?_
          refine ev_iload dX7_wordAmong_63 rfl ?_
          refine ev_iconst (v := 1) dX7_wordAmong_65 (by decide) ?_
          refine ev_iadd dX7_wordAmong_66 ?_
          rw [nI_1]
          refine ev_istore_n dX7_wordAmong_67 rfl (Nat.le_of_ble_eq_true rfl) rfl ?_
          refine ev_iinc (v := nI (i + 1)) dX7_wordAmong_68 rfl (nI_1 i) rfl ?_
          refine ev_goto (tgt := 18) dX7_wordAmong_71 (by decide) ?_
          rw [if_neg (by decide)]
          exact ih (i + 1) (i + 1) (x + 1) (by omega) (by omega) (Nat.le_refl _) (by omega) (fun _ => trivial) (by omega) g hT
      refine ev_iload dX7_wordAmong_18 rfl ?_
      refine ev_aload_n dX7_wordAmong_20 rfl rfl ?_
      refine ev_callO (As := []) (d' := d - 1) dX7_wordAmong_21 rfl kJ0_length_8abf5 rfl lX7_78 iJ0_length_8abf5 vJ0_length_8abf5 hs.choose_spec.1 (Nat.le_of_ble_eq_true rfl) (by omega) (c_length h2 (by omega) hs) ?_
      refine ev_icmp_gt (tgt := 74) dX7_wordAmong_24 (by decide) (fun c => absurd c (nI_nlt (by omega) (by omega))) (fun _ => ?_)
      refine ev_iload dX7_wordAmong_27 rfl ?_
      refine ev_aload_n dX7_wordAmong_29 rfl rfl ?_
      refine ev_callO (As := []) (d' := d - 1) dX7_wordAmong_30 rfl kJ0_length_8abf5 rfl lX7_78 iJ0_length_8abf5 vJ0_length_8abf5 hs.choose_spec.1 (Nat.le_of_ble_eq_true rfl) (by omega) (c_length h2 (by omega) hs) ?_
      refine ev_icmp_eq (tgt := 47) dX7_wordAmong_33 (by decide) (fun c_33 => next g (Or.inl (mo_niinj (by omega) (by omega) c_33)) hT) (fun c_33 => ?_)
      have hil : i < L.length := by
        have : i ≠ L.length := fun z => c_33 (by rw [z])
        omega
      refine ev_aload_n dX7_wordAmong_36 rfl rfl ?_
      refine ev_iload dX7_wordAmong_37 rfl ?_
      refine ev_callO (As := [.int (nI i)]) (d' := d - 1) dX7_wordAmong_39 rfl kJ0_charAt_5068e rfl lX7_84 iJ0_charAt_5068e vJ0_charAt_5068e hs.choose_spec.1 (Nat.le_of_ble_eq_true rfl) (by omega) (c_charAt h2 (by omega) hs hil) ?_
      refine ev_bipush (v := 32) dX7_wordAmong_42 (by decide) ?_
      have hch := rd_mem hLc i
      refine ev_icmp_ne (tgt := 68) dX7_wordAmong_44 (by decide) (fun c_44 => ?_) (fun c_44 => next g (Or.inr (mo_niinj (by omega) (by decide) c_44)) hT)
      rw [rd_wa, if_neg (fun q => q.elim (fun z => by omega) (fun z => c_44 (by rw [z]; rfl)))]
      refine ev_iinc (v := nI (i + 1)) dX7_wordAmong_68 rfl (nI_1 i) rfl ?_
      refine ev_goto (tgt := 18) dX7_wordAmong_71 (by decide) ?_
      exact ih (i + 1) s x (by omega) (by omega) (by omega) (by omega) (fun _ => trivial) (by omega) g hT
  exact loop (L.length + 1) 0 0 0 (by omega) (by omega) (Nat.le_refl _) (Nat.le_refl _) (fun _ => trivial) (by omega) g hT
theorem c_X7_wordAmong_n {G : ev_G} {W : cw_W} {d a : Nat} {C : mo_S} (hE : ev_En G) (hw : ¬ C.1 117 0 = 97) : cw_C G W d mX7_wordAmong [.ref (W 4 0), .ref a] C (some (.int (-1))) C := by
  refine cw_start (lv0 := [some (.ref (W 4 0)), some (.ref a), none, none, none]) (by decide +kernel) rfl (Nat.le_of_ble_eq_true rfl) rfl ?_
  intro K g0 g hT
  refine ev_aload_n dX7_wordAmong_0 rfl rfl ?_
  refine cw_getf hE hT dX7_wordAmong_1 fX7_22 (k := 4) (i := 0) rfl ob4 rfl ?_
  refine ev_bipush (v := 97) dX7_wordAmong_4 (by decide) ?_
  refine ev_icmp_eq (tgt := 11) dX7_wordAmong_6 (by decide) (fun c => absurd c hw) (fun _ => ?_)
  refine ev_iconst (v := -1) dX7_wordAmong_9 (by decide) ?_
  exact ev_iret dX7_wordAmong_10 rfl rfl ⟨rfl, hT⟩
end RE2
