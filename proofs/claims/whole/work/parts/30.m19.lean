section M19
theorem ps_bt_lt {S : mo_S} {N k : Nat} : ps_bt (ps_tx S) N k < 256 := by
  have := (ps_tx_is S k).2
  unfold ps_bt
  split <;> omega
/-- the words of the model's pool -/
def ps_cn (k : Nat) : List Nat := ([[112, 97, 114, 116], [112, 97, 103, 101, 115], [112, 114, 105, 99, 101], [102, 105, 110, 101], [110, 101, 119], [115, 119, 97, 112], [119, 97, 115, 116, 101], [108, 101, 97, 115, 116], [114, 101, 115, 116], [119, 97, 121]] : List (List Nat)).getD k []
def ps_kn (k : Nat) : List Nat := ([[100, 97, 105, 108, 121], [119, 101, 101, 107, 108, 121], [112, 97, 114, 116, 121]] : List (List Nat)).getD k []
def ps_wn (k : Nat) : List Nat := ([[98, 97, 115, 101], [112, 111, 105, 110, 116, 115], [97, 108, 105, 107, 101], [98, 105, 100, 115]] : List (List Nat)).getD k []
def ps_nn (k : Nat) : List Nat := ([[98, 97, 115, 101], [99, 111, 112, 105, 101, 115], [112, 97, 103, 101, 115], [112, 114, 105, 99, 101], [107, 105, 110, 100], [109, 111, 110, 116, 104], [115, 116, 111, 99, 107], [117, 115, 101, 100]] : List (List Nat)).getD k []
def ps_lits : List (Nat × List Nat) := [(242, ps_cn 0), (244, ps_cn 1), (245, ps_cn 2), (246, ps_cn 3), (248, ps_cn 4), (250, ps_cn 5), (252, ps_cn 6), (254, ps_cn 7), (256, ps_cn 8), (258, ps_cn 9), (260, ps_kn 0), (262, ps_kn 1), (264, ps_kn 2), (266, ps_wn 0), (267, ps_wn 1), (268, ps_wn 2), (270, ps_wn 3), (272, ps_nn 1), (273, ps_nn 4), (274, ps_nn 5), (276, ps_nn 6), (277, ps_nn 7), (320, [105, 102]), (325, [109, 105, 110]), (327, [109, 97, 120]), (354, [109, 111, 115, 116]), (356, [107, 101, 101, 112])]
/-- what the model's pool holds -/
def ev_En3 (G : ev_G) : Prop := ev_En2 G ∧ ∀ q ∈ ps_lits, ev_lit G RX12 q.1 q.2
theorem ps_lit {G : ev_G} (h : ev_En3 G) {i : Nat} {L : List Nat} (k : Nat) (hk : ps_lits[k]? = some (i, L)) : ev_lit G RX12 i L := h.2 _ (List.mem_of_getElem? hk)
/-- a static method that answers a text of the start -/
def ev_Cstr (G : ev_G) (d : Nat) (M' : ev_M) (As : List Value) (g : ev_H) (L : List Nat) : Prop := ev_C G d 0 0 M' As g (fun o g' => ∃ a : Nat, o = .inl (some (.ref a)) ∧ ev_str G a L ∧ g' = g)
theorem ev_strS {G : ev_G} {d bc bs : Nat} {M : ev_M} {Post : ev_P} {g : ev_H} {pc : Nat} {lv : List (Option Value)} {index d' : Nat} {M' : ev_M} {L : List Nat} {a1 : Value} {rest : List Value} (hd : decode M.2.1 pc = .ok (.invokestatic index, 3)) (hh : M'.2.2.2.2 = []) (hK : ev_K M' 1) (hl1 : Cond.methodLink M.1.cls index M'.1 ∈ ev_T) (hl2 : Cond.static M'.1 ∈ ev_T) (hr : (rest.map fun v => v.category).sum ≤ 8) (hdd : d' + 1 ≤ d) (hM : ev_Cstr G d' M' [a1] g L) (k : ∀ a : Nat, ev_str G a L → ev_V G d bc bs M Post g (pc + 3) lv (.ref a :: rest)) : ev_V G d bc bs M Post g pc lv (a1 :: rest) :=
  ev_callS (ci := 0) (r := 0) (fs := []) (As := [a1]) hd hh hK rfl hl1 hl2 hr hdd hM (b := bc) (k0 := bs) (Nat.le_refl _) (Nat.le_refl _) (fun v g' h => by obtain ⟨a, h1, h2, rfl⟩ := h; cases h1; exact k a h2) (fun E g' h => by obtain ⟨a, h1, -⟩ := h; cases h1)
theorem ps_in_not {t : Nat → Nat} {n p k : Nat} {L : List Nat} (hk : k < L.length) (h : ¬ ps_bt t n (p + k) = L.getD k 0) : ps_wd t n p L = false := by
  unfold ps_wd
  rw [decide_eq_false (fun q => h (q k hk))]
  rfl
theorem ps_in_yes {t : Nat → Nat} {n p : Nat} {L : List Nat} (h : ∀ j, j < L.length → ps_bt t n (p + j) = L.getD j 0) : ps_wd t n p L = !ps_let (ps_bt t n (p + L.length)) := by
  unfold ps_wd
  rw [decide_eq_true h]
  rfl
theorem ps_let_lo {c : Nat} (h : c < 97) : ps_let c = false := by unfold ps_let; exact decide_eq_false (by omega)
theorem ps_let_hi {c : Nat} (h : 122 < c) : ps_let c = false := by unfold ps_let; exact decide_eq_false (by omega)
theorem ps_let_in {c : Nat} (h : ¬ c < 97) (h2 : ¬ 122 < c) : ps_let c = true := by unfold ps_let; exact decide_eq_true (by omega)
/-- a word that stands there ends within the text -/
theorem ps_wd_in {t : Nat → Nat} {n p : Nat} {L : List Nat} (hL : ∀ c ∈ L, 0 < c) (hp : p ≤ n) (h : ps_wd t n p L = true) : p + L.length ≤ n := by
  unfold ps_wd at h
  have h1 := of_decide_eq_true (Bool.and_eq_true_iff.mp h).1
  rcases Nat.eq_zero_or_pos L.length with e | e
  · omega
  · have h2 := h1 (L.length - 1) (by omega)
    have h3 : 0 < L.getD (L.length - 1) 0 := hL _ (by rw [List.getD_eq_getElem?_getD, List.getElem?_eq_getElem (by omega)]; exact List.getElem_mem _)
    rw [← h2] at h3
    unfold ps_bt at h3
    split at h3
    · omega
    · omega
theorem ps_tw {S : mo_S} {a b : Nat} : mo_up (mo_up S 31 0 (nI a)) 31 0 (nI b) = mo_up S 31 0 (nI b) := mo_up_tw
theorem ps_le_pos : (∀ k, ∀ c ∈ ps_cn k, 0 < c) := by
  intro k
  rcases Nat.lt_or_ge k 10 with h | h
  · have : ∀ k, k < 10 → ∀ c ∈ ps_cn k, 0 < c := by decide
    exact this k h
  · unfold ps_cn
    rw [List.getD_eq_getElem?_getD, List.getElem?_eq_none (by simpa using h)]
    intro c hc
    cases hc

theorem iw_loop {G : ev_G} {W : mo_W} {d : Nat} {g0 : ev_H} {S : mo_S} {N h a : Nat} {L : List Nat} (hE : ev_En G) (h3 : ev_En3 G) (hd : 5 ≤ d) (H : ps_at S N h) (hs : ev_str G a L)  : ∀ (n k : Nat), k ≤ L.length → L.length < k + n → ∀ (u : Unit), (∀ j, j < k → ps_bt (ps_tx S) N ((ps_skn (ps_tx S) N h) + j) = L.getD j 0) → ∀ g, mo_T G W g0 g (mo_up S 31 0 (nI (ps_skn (ps_tx S) N h))) → ev_V G d 0 0 mX12_isWord (fun o g' => o = .inl (some (.int (mo_b (ps_wd (ps_tx S) N (ps_skn (ps_tx S) N h) L)))) ∧ mo_T G W g0 g' (mo_up S 31 0 (nI (ps_skn (ps_tx S) N h)))) g 6 [some (.ref W.1), some (.ref a), some (.int (nI k))] [] := by
  intro n
  induction n with
  | zero => intro k h1 h2; exact absurd h2 (by omega)
  | succ n ih =>
    intro k h1 h2 u hI g hT
    have hL := hs.choose_spec.2.2.2.2.1
    have hp := ps_skn_in (t := ps_tx S) H.2.2.2
    have HP := H.up hp.2
    have hn3 := H.2.1
    refine ev_iload_n dX12_isWord_6 rfl rfl ?_
    refine ev_aload_n dX12_isWord_7 rfl rfl ?_
    refine ev_callO (As := []) (d' := d - 1) dX12_isWord_8 rfl kJ0_length_8abf5 rfl lX12_228 iJ0_length_8abf5 vJ0_length_8abf5 hs.choose_spec.1 (Nat.le_of_ble_eq_true rfl) (by omega) (c_length h3.1 (by omega) hs) ?_
    refine ev_icmp_ge (tgt := 40) dX12_isWord_11 (by decide) (fun c_11 => ?_) (fun c_11 => ?_)
    · refine ev_aload_n dX12_isWord_40 rfl rfl ?_
      refine ev_aload_n dX12_isWord_41 rfl rfl ?_
      refine mo_getiE (v := (nI (ps_skn (ps_tx S) N h))) hE hT dX12_isWord_42 fX12_215 (by decide) (by simp [sp_bad_ne, mo_up]) ?_
      refine ev_aload_n dX12_isWord_45 rfl rfl ?_
      refine ev_callO (As := []) (d' := d - 1) dX12_isWord_46 rfl kJ0_length_8abf5 rfl lX12_228 iJ0_length_8abf5 vJ0_length_8abf5 hs.choose_spec.1 (Nat.le_of_ble_eq_true rfl) (by omega) (c_length h3.1 (by omega) hs) ?_
      refine ev_iadd dX12_isWord_49 ?_
      rw [nI_add]
      refine mo_call1 (d' := d - 1) hE hT dX12_isWord_50 rfl rfl kX12_byteAt lX12_218 iX12_byteAt vX12_byteAt (Nat.le_of_ble_eq_true rfl) (by omega) (c_X12_byteAt (k := ((ps_skn (ps_tx S) N h) + L.length)) hE (by omega) HP) (fun g hT => ?_)
      rw [ps_tx_up (by decide)]
      refine ev_istore_n dX12_isWord_53 rfl (Nat.le_of_ble_eq_true rfl) rfl ?_
      have e : k = L.length := by have q := mo_ige rfl (by omega) (by omega) c_11; omega
      rw [e] at hI
      have hb := ps_bt_lt (S := S) (N := N) (k := (ps_skn (ps_tx S) N h) + L.length)
      refine ev_iload_n dX12_isWord_54 rfl rfl ?_
      refine ev_bipush (v := 97) dX12_isWord_55 (by decide) ?_
      refine ev_icmp_lt (tgt := 66) dX12_isWord_57 (by decide) (fun c_57 => ?_) (fun c_57 => ?_)
      · refine ev_iconst (v := 1) dX12_isWord_66 (by decide) ?_
        refine ev_goto (tgt := 71) dX12_isWord_67 (by decide) ?_
        refine ev_iret dX12_isWord_71 rfl rfl ⟨?_, hT⟩
        rw [ps_in_yes hI, ps_let_lo ((nI_ltI (a := (ps_bt (ps_tx S) N ((ps_skn (ps_tx S) N h) + L.length))) (b := 97) (by omega) (by decide)).mp c_57)]
        rfl
      · refine ev_iload_n dX12_isWord_60 rfl rfl ?_
        refine ev_bipush (v := 122) dX12_isWord_61 (by decide) ?_
        refine ev_icmp_le (tgt := 70) dX12_isWord_63 (by decide) (fun c_63 => ?_) (fun c_63 => ?_)
        · refine ev_iconst (v := 0) dX12_isWord_70 (by decide) ?_
          refine ev_iret dX12_isWord_71 rfl rfl ⟨?_, hT⟩
          rw [ps_in_yes hI, ps_let_in (fun q => c_57 (nI_lt (a := (ps_bt (ps_tx S) N ((ps_skn (ps_tx S) N h) + L.length))) (b := 97) q (by decide))) (fun q => absurd q (by have q2 := (nI_leI (a := (ps_bt (ps_tx S) N ((ps_skn (ps_tx S) N h) + L.length))) (b := 122) (by omega) (by decide)).mp c_63; omega))]
          rfl
        · refine ev_iconst (v := 1) dX12_isWord_66 (by decide) ?_
          refine ev_goto (tgt := 71) dX12_isWord_67 (by decide) ?_
          refine ev_iret dX12_isWord_71 rfl rfl ⟨?_, hT⟩
          rw [ps_in_yes hI, ps_let_hi (Nat.lt_of_not_le fun q => c_63 (nI_le (a := (ps_bt (ps_tx S) N ((ps_skn (ps_tx S) N h) + L.length))) (b := 122) q (by decide)))]
          rfl
    · have hlt : k < L.length := mo_ilt rfl (by omega) (by omega) c_11
      refine ev_aload_n dX12_isWord_14 rfl rfl ?_
      refine ev_aload_n dX12_isWord_15 rfl rfl ?_
      refine mo_getiE (v := (nI (ps_skn (ps_tx S) N h))) hE hT dX12_isWord_16 fX12_215 (by decide) (by simp [sp_bad_ne, mo_up]) ?_
      refine ev_iload_n dX12_isWord_19 rfl rfl ?_
      refine ev_iadd dX12_isWord_20 ?_
      rw [nI_add]
      refine mo_call1 (d' := d - 1) hE hT dX12_isWord_21 rfl rfl kX12_byteAt lX12_218 iX12_byteAt vX12_byteAt (Nat.le_of_ble_eq_true rfl) (by omega) (c_X12_byteAt (k := ((ps_skn (ps_tx S) N h) + k)) hE (by omega) HP) (fun g hT => ?_)
      rw [ps_tx_up (by decide)]
      refine ev_aload_n dX12_isWord_24 rfl rfl ?_
      refine ev_iload_n dX12_isWord_25 rfl rfl ?_
      refine ev_callO (As := [.int (nI k)]) (d' := d - 1) dX12_isWord_26 rfl kJ0_charAt_5068e rfl lX12_234 iJ0_charAt_5068e vJ0_charAt_5068e hs.choose_spec.1 (Nat.le_of_ble_eq_true rfl) (by omega) (c_charAt h3.1 (by omega) hs hlt) ?_
      refine ev_icmp_eq (tgt := 34) dX12_isWord_29 (by decide) (fun c_29 => ?_) (fun c_29 => ?_)
      · refine ev_iinc (v := (nI (k + 1))) dX12_isWord_34 rfl (by exact nI_1 k) rfl ?_
        refine ev_goto (tgt := 6) dX12_isWord_37 (by decide) ?_
        refine ih (k + 1) (by omega) (by omega) () (fun j hj => ?_) g hT
        by_cases e : j = k
        · subst e
          have hb := ps_bt_lt (S := S) (N := N) (k := (ps_skn (ps_tx S) N h) + j)
          have hc := hs.choose_spec.2.2.2.2.2 (L.getD j 0) (by rw [List.getD_eq_getElem?_getD, List.getElem?_eq_getElem hlt]; exact List.getElem_mem hlt)
          exact (nI_eq (by omega) (by omega)).mp c_29
        · exact hI j (by omega)
      · refine ev_iconst (v := 0) dX12_isWord_32 (by decide) ?_
        refine ev_iret dX12_isWord_33 rfl rfl ⟨?_, hT⟩
        rw [ps_in_not hlt (fun q => c_29 (by rw [q]))]
        rfl
theorem c_X12_isWord {G : ev_G} {W : mo_W} {d : Nat} {S : mo_S} {N h a : Nat} {L : List Nat} (hE : ev_En G) (h3 : ev_En3 G) (hd : 5 ≤ d) (H : ps_at S N h) (hs : ev_str G a L) : mo_C G W d mX12_isWord [.ref a] S (some (.int (mo_b (ps_wd (ps_tx S) N (ps_skn (ps_tx S) N h) L)))) (mo_up S 31 0 (nI (ps_skn (ps_tx S) N h))) := by
  refine mo_start (lv0 := [some (.ref W.1), some (.ref a), none]) (by decide +kernel) rfl (Nat.le_of_ble_eq_true rfl) rfl ?_
  intro g0 g hT
  refine ev_aload_n dX12_isWord_0 rfl rfl ?_
  refine mo_call0 (d' := d - 1) hE hT dX12_isWord_1 rfl rfl kX12_blanks lX12_225 iX12_blanks vX12_blanks (Nat.le_of_ble_eq_true rfl) (by omega) (c_X12_blanks hE (by omega) H) (fun g hT => ?_)
  have hp := ps_skn_in (t := ps_tx S) H.2.2.2
  have HP := H.up hp.2
  have hn3 := H.2.1
  refine ev_iconst (v := (nI 0)) dX12_isWord_4 (by decide) ?_
  refine ev_istore_n dX12_isWord_5 rfl (Nat.le_of_ble_eq_true rfl) rfl ?_
  exact iw_loop hE h3 hd H hs (L.length + 1) 0 (by omega) (by omega) () (fun j hj => absurd hj (Nat.not_lt_zero j)) g hT
theorem c_X12_eat {G : ev_G} {W : mo_W} {d : Nat} {S : mo_S} {N h a : Nat} {L : List Nat} (hE : ev_En G) (h3 : ev_En3 G) (hd : 6 ≤ d) (H : ps_at S N h) (hs : ev_str G a L) (hf : S.1 32 0 = 0) : mo_C G W d mX12_eat [.ref a] S (some (.int (mo_b (ps_wd (ps_tx S) N (ps_skn (ps_tx S) N h) L)))) (mo_up S 31 0 (nI (if ps_wd (ps_tx S) N (ps_skn (ps_tx S) N h) L = true then (ps_skn (ps_tx S) N h) + L.length else (ps_skn (ps_tx S) N h)))) := by
  refine mo_start (lv0 := [some (.ref W.1), some (.ref a), none]) (by decide +kernel) rfl (Nat.le_of_ble_eq_true rfl) rfl ?_
  intro g0 g hT
  refine ev_aload_n dX12_eat_0 rfl rfl ?_
  refine mo_getiE (v := 0) hE hT dX12_eat_1 fX12_222 (by decide) hf ?_
  refine ev_if_ne (tgt := 19) dX12_eat_4 (by decide) (fun c_4 => ?_) (fun c_4 => ?_)
  · exact absurd (by decide) c_4
  · refine ev_aload_n dX12_eat_7 rfl rfl ?_
    refine ev_aload_n dX12_eat_8 rfl rfl ?_
    refine mo_call1 (d' := d - 1) hE hT dX12_eat_9 rfl rfl kX12_isWord lX12_238 iX12_isWord vX12_isWord (Nat.le_of_ble_eq_true rfl) (by omega) (c_X12_isWord hE h3 (by omega) H hs) (fun g hT => ?_)
    have K_20 : ∀ (g : ev_H) (hT : mo_T G W g0 g (mo_up S 31 0 (nI (ps_skn (ps_tx S) N h)))), ∀ x9 : Int32, x9 = (mo_b (if (mo_b (ps_wd (ps_tx S) N (ps_skn (ps_tx S) N h) L)) = 0 then false else true)) → ev_V G d 0 0 mX12_eat (fun o g' => o = .inl (some (.int (mo_b (ps_wd (ps_tx S) N (ps_skn (ps_tx S) N h) L)))) ∧ mo_T G W g0 g' (mo_up S 31 0 (nI (if ps_wd (ps_tx S) N (ps_skn (ps_tx S) N h) L = true then (ps_skn (ps_tx S) N h) + L.length else (ps_skn (ps_tx S) N h))))) g 20 [some (.ref W.1), some (.ref a), none] (.int x9 :: []) := by
      intro g hT x9 h9
      subst h9
      refine ev_istore_n dX12_eat_20 rfl (Nat.le_of_ble_eq_true rfl) rfl ?_
      refine ev_iload_n dX12_eat_21 rfl rfl ?_
      refine ev_if_eq (tgt := 38) dX12_eat_22 (by decide) (fun c_22 => ?_) (fun c_22 => ?_)
      · refine ev_iload_n dX12_eat_38 rfl rfl ?_
        refine ev_iret dX12_eat_39 rfl (mo_b_nar _) ⟨?_, ?_⟩
        · cases ps_wd (ps_tx S) N (ps_skn (ps_tx S) N h) L <;> rfl
        · clear hE h3
          first
            | (have q : ps_wd (ps_tx S) N (ps_skn (ps_tx S) N h) L = true := by
                 clear hT
                 cases hq : ps_wd (ps_tx S) N (ps_skn (ps_tx S) N h) L <;> simp_all [mo_b]
               rw [if_pos q]
               rw [ps_tw] at hT
               exact hT)
            | (have q : ps_wd (ps_tx S) N (ps_skn (ps_tx S) N h) L = false := by
                 clear hT
                 cases hq : ps_wd (ps_tx S) N (ps_skn (ps_tx S) N h) L <;> simp_all [mo_b]
               rw [if_neg (by rw [q]; decide)]
               exact hT)
      · refine ev_aload_n dX12_eat_25 rfl rfl ?_
        refine ev_dup dX12_eat_26 rfl ?_
        refine mo_getiE (v := (nI (ps_skn (ps_tx S) N h))) hE hT dX12_eat_27 fX12_215 (by decide) (by simp [sp_bad_ne, mo_up]) ?_
        refine ev_aload_n dX12_eat_30 rfl rfl ?_
        refine ev_callO (As := []) (d' := d - 1) dX12_eat_31 rfl kJ0_length_8abf5 rfl lX12_228 iJ0_length_8abf5 vJ0_length_8abf5 hs.choose_spec.1 (Nat.le_of_ble_eq_true rfl) (by omega) (c_length h3.1 (by omega) hs) ?_
        refine ev_iadd dX12_eat_34 ?_
        rw [nI_add]
        refine mo_put hE hT dX12_eat_35 pX12_215 (by decide) (fun g hT => ?_)
        refine ev_iload_n dX12_eat_38 rfl rfl ?_
        refine ev_iret dX12_eat_39 rfl (mo_b_nar _) ⟨?_, ?_⟩
        · cases ps_wd (ps_tx S) N (ps_skn (ps_tx S) N h) L <;> rfl
        · clear hE h3
          first
            | (have q : ps_wd (ps_tx S) N (ps_skn (ps_tx S) N h) L = true := by
                 clear hT
                 cases hq : ps_wd (ps_tx S) N (ps_skn (ps_tx S) N h) L <;> simp_all [mo_b]
               rw [if_pos q]
               rw [ps_tw] at hT
               exact hT)
            | (have q : ps_wd (ps_tx S) N (ps_skn (ps_tx S) N h) L = false := by
                 clear hT
                 cases hq : ps_wd (ps_tx S) N (ps_skn (ps_tx S) N h) L <;> simp_all [mo_b]
               rw [if_neg (by rw [q]; decide)]
               exact hT)
    refine ev_if_eq (tgt := 19) dX12_eat_12 (by decide) (fun c_12 => ?_) (fun c_12 => ?_)
    · refine ev_iconst (v := 0) dX12_eat_19 (by decide) ?_
      exact K_20 g hT _ (by rw [if_pos c_12]; rfl)
    · refine ev_iconst (v := 1) dX12_eat_15 (by decide) ?_
      refine ev_goto (tgt := 20) dX12_eat_16 (by decide) ?_
      exact K_20 g hT _ (by rw [if_neg c_12]; rfl)
theorem c_X12_eatF {G : ev_G} {W : mo_W} {d : Nat} {S : mo_S} {a : Nat} (hE : ev_En G) (hf : ¬ S.1 32 0 = 0) : mo_C G W d mX12_eat [.ref a] S (some (.int 0)) S := by
  refine mo_start (lv0 := [some (.ref W.1), some (.ref a), none]) (by decide +kernel) rfl (Nat.le_of_ble_eq_true rfl) rfl ?_
  intro g0 g hT
  refine ev_aload_n dX12_eat_0 rfl rfl ?_
  refine mo_geti hE hT dX12_eat_1 fX12_222 (by decide) ?_
  refine ev_if_ne (tgt := 19) dX12_eat_4 (by decide) (fun c_4 => ?_) (fun c_4 => ?_)
  · refine ev_iconst (v := 0) dX12_eat_19 (by decide) ?_
    refine ev_istore_n dX12_eat_20 rfl (Nat.le_of_ble_eq_true rfl) rfl ?_
    refine ev_iload_n dX12_eat_21 rfl rfl ?_
    refine ev_if_eq (tgt := 38) dX12_eat_22 (by decide) (fun c_22 => ?_) (fun c_22 => ?_)
    · refine ev_iload_n dX12_eat_38 rfl rfl ?_
      exact ev_iret dX12_eat_39 rfl rfl ⟨rfl, hT⟩
    · exact absurd (by decide) c_22
  · exact absurd c_4 hf
theorem c_X12_clauseName {G : ev_G} {d : Nat} {g : ev_H} {k : Nat} (h3 : ev_En3 G) (hk : k < 10) : ev_Cstr G d mX12_clauseName [.int (nI k)] g (ps_cn k) := by
  refine ev_start (lv0 := [some (.int (nI k))]) (by decide +kernel) rfl (Nat.le_of_ble_eq_true rfl) rfl ?_
  have e : k = 0 ∨ k = 1 ∨ k = 2 ∨ k = 3 ∨ k = 4 ∨ k = 5 ∨ k = 6 ∨ k = 7 ∨ k = 8 ∨ k = 9 := by omega
  rcases e with rfl | rfl | rfl | rfl | rfl | rfl | rfl | rfl | rfl | rfl
  · refine ev_iload_n dX12_clauseName_0 rfl rfl ?_
    refine ev_tableIn (tgt := 52) (off := 51) dX12_clauseName_1 (by decide) (by decide) rfl (by decide) ?_
    refine ev_ldcS dX12_clauseName_52 (ps_lit h3 0 rfl) (fun a hs => ?_)
    exact ev_aret dX12_clauseName_54 rfl (Or.inl ⟨_, rfl⟩) (Or.inr ⟨_, rfl⟩) ⟨a, rfl, hs, rfl⟩
  · refine ev_iload_n dX12_clauseName_0 rfl rfl ?_
    refine ev_tableIn (tgt := 55) (off := 54) dX12_clauseName_1 (by decide) (by decide) rfl (by decide) ?_
    refine ev_ldcS dX12_clauseName_55 (ps_lit h3 1 rfl) (fun a hs => ?_)
    exact ev_aret dX12_clauseName_57 rfl (Or.inl ⟨_, rfl⟩) (Or.inr ⟨_, rfl⟩) ⟨a, rfl, hs, rfl⟩
  · refine ev_iload_n dX12_clauseName_0 rfl rfl ?_
    refine ev_tableIn (tgt := 58) (off := 57) dX12_clauseName_1 (by decide) (by decide) rfl (by decide) ?_
    refine ev_ldcS dX12_clauseName_58 (ps_lit h3 2 rfl) (fun a hs => ?_)
    exact ev_aret dX12_clauseName_60 rfl (Or.inl ⟨_, rfl⟩) (Or.inr ⟨_, rfl⟩) ⟨a, rfl, hs, rfl⟩
  · refine ev_iload_n dX12_clauseName_0 rfl rfl ?_
    refine ev_tableIn (tgt := 61) (off := 60) dX12_clauseName_1 (by decide) (by decide) rfl (by decide) ?_
    refine ev_ldcS dX12_clauseName_61 (ps_lit h3 3 rfl) (fun a hs => ?_)
    exact ev_aret dX12_clauseName_63 rfl (Or.inl ⟨_, rfl⟩) (Or.inr ⟨_, rfl⟩) ⟨a, rfl, hs, rfl⟩
  · refine ev_iload_n dX12_clauseName_0 rfl rfl ?_
    refine ev_tableIn (tgt := 64) (off := 63) dX12_clauseName_1 (by decide) (by decide) rfl (by decide) ?_
    refine ev_ldcS dX12_clauseName_64 (ps_lit h3 4 rfl) (fun a hs => ?_)
    exact ev_aret dX12_clauseName_66 rfl (Or.inl ⟨_, rfl⟩) (Or.inr ⟨_, rfl⟩) ⟨a, rfl, hs, rfl⟩
  · refine ev_iload_n dX12_clauseName_0 rfl rfl ?_
    refine ev_tableIn (tgt := 67) (off := 66) dX12_clauseName_1 (by decide) (by decide) rfl (by decide) ?_
    refine ev_ldcS dX12_clauseName_67 (ps_lit h3 5 rfl) (fun a hs => ?_)
    exact ev_aret dX12_clauseName_69 rfl (Or.inl ⟨_, rfl⟩) (Or.inr ⟨_, rfl⟩) ⟨a, rfl, hs, rfl⟩
  · refine ev_iload_n dX12_clauseName_0 rfl rfl ?_
    refine ev_tableIn (tgt := 70) (off := 69) dX12_clauseName_1 (by decide) (by decide) rfl (by decide) ?_
    refine ev_ldcS dX12_clauseName_70 (ps_lit h3 6 rfl) (fun a hs => ?_)
    exact ev_aret dX12_clauseName_72 rfl (Or.inl ⟨_, rfl⟩) (Or.inr ⟨_, rfl⟩) ⟨a, rfl, hs, rfl⟩
  · refine ev_iload_n dX12_clauseName_0 rfl rfl ?_
    refine ev_tableIn (tgt := 73) (off := 72) dX12_clauseName_1 (by decide) (by decide) rfl (by decide) ?_
    refine ev_ldcS dX12_clauseName_73 (ps_lit h3 7 rfl) (fun a hs => ?_)
    exact ev_aret dX12_clauseName_75 rfl (Or.inl ⟨_, rfl⟩) (Or.inr ⟨_, rfl⟩) ⟨a, rfl, hs, rfl⟩
  · refine ev_iload_n dX12_clauseName_0 rfl rfl ?_
    refine ev_tableIn (tgt := 76) (off := 75) dX12_clauseName_1 (by decide) (by decide) rfl (by decide) ?_
    refine ev_ldcwS dX12_clauseName_76 (ps_lit h3 8 rfl) (fun a hs => ?_)
    exact ev_aret dX12_clauseName_79 rfl (Or.inl ⟨_, rfl⟩) (Or.inr ⟨_, rfl⟩) ⟨a, rfl, hs, rfl⟩
  · refine ev_iload_n dX12_clauseName_0 rfl rfl ?_
    refine ev_tableOut (tgt := 80) dX12_clauseName_1 (by decide) (by decide) ?_
    refine ev_ldcwS dX12_clauseName_80 (ps_lit h3 9 rfl) (fun a hs => ?_)
    exact ev_aret dX12_clauseName_83 rfl (Or.inl ⟨_, rfl⟩) (Or.inr ⟨_, rfl⟩) ⟨a, rfl, hs, rfl⟩
theorem c_X12_nameOf {G : ev_G} {d : Nat} {g : ev_H} {k : Nat} (h3 : ev_En3 G) (hk : k < 8) : ev_Cstr G d mX12_nameOf [.int (nI k)] g (ps_nn k) := by
  refine ev_start (lv0 := [some (.int (nI k))]) (by decide +kernel) rfl (Nat.le_of_ble_eq_true rfl) rfl ?_
  have e : k = 0 ∨ k = 1 ∨ k = 2 ∨ k = 3 ∨ k = 4 ∨ k = 5 ∨ k = 6 ∨ k = 7 := by omega
  rcases e with rfl | rfl | rfl | rfl | rfl | rfl | rfl | rfl
  · refine ev_iload_n dX12_nameOf_0 rfl rfl ?_
    refine ev_tableIn (tgt := 44) (off := 43) dX12_nameOf_1 (by decide) (by decide) rfl (by decide) ?_
    refine ev_ldcwS dX12_nameOf_44 (ps_lit h3 13 rfl) (fun a hs => ?_)
    exact ev_aret dX12_nameOf_47 rfl (Or.inl ⟨_, rfl⟩) (Or.inr ⟨_, rfl⟩) ⟨a, rfl, hs, rfl⟩
  · refine ev_iload_n dX12_nameOf_0 rfl rfl ?_
    refine ev_tableIn (tgt := 48) (off := 47) dX12_nameOf_1 (by decide) (by decide) rfl (by decide) ?_
    refine ev_ldcwS dX12_nameOf_48 (ps_lit h3 17 rfl) (fun a hs => ?_)
    exact ev_aret dX12_nameOf_51 rfl (Or.inl ⟨_, rfl⟩) (Or.inr ⟨_, rfl⟩) ⟨a, rfl, hs, rfl⟩
  · refine ev_iload_n dX12_nameOf_0 rfl rfl ?_
    refine ev_tableIn (tgt := 52) (off := 51) dX12_nameOf_1 (by decide) (by decide) rfl (by decide) ?_
    refine ev_ldcS dX12_nameOf_52 (ps_lit h3 1 rfl) (fun a hs => ?_)
    exact ev_aret dX12_nameOf_54 rfl (Or.inl ⟨_, rfl⟩) (Or.inr ⟨_, rfl⟩) ⟨a, rfl, hs, rfl⟩
  · refine ev_iload_n dX12_nameOf_0 rfl rfl ?_
    refine ev_tableIn (tgt := 55) (off := 54) dX12_nameOf_1 (by decide) (by decide) rfl (by decide) ?_
    refine ev_ldcS dX12_nameOf_55 (ps_lit h3 2 rfl) (fun a hs => ?_)
    exact ev_aret dX12_nameOf_57 rfl (Or.inl ⟨_, rfl⟩) (Or.inr ⟨_, rfl⟩) ⟨a, rfl, hs, rfl⟩
  · refine ev_iload_n dX12_nameOf_0 rfl rfl ?_
    refine ev_tableIn (tgt := 58) (off := 57) dX12_nameOf_1 (by decide) (by decide) rfl (by decide) ?_
    refine ev_ldcwS dX12_nameOf_58 (ps_lit h3 18 rfl) (fun a hs => ?_)
    exact ev_aret dX12_nameOf_61 rfl (Or.inl ⟨_, rfl⟩) (Or.inr ⟨_, rfl⟩) ⟨a, rfl, hs, rfl⟩
  · refine ev_iload_n dX12_nameOf_0 rfl rfl ?_
    refine ev_tableIn (tgt := 62) (off := 61) dX12_nameOf_1 (by decide) (by decide) rfl (by decide) ?_
    refine ev_ldcwS dX12_nameOf_62 (ps_lit h3 19 rfl) (fun a hs => ?_)
    exact ev_aret dX12_nameOf_65 rfl (Or.inl ⟨_, rfl⟩) (Or.inr ⟨_, rfl⟩) ⟨a, rfl, hs, rfl⟩
  · refine ev_iload_n dX12_nameOf_0 rfl rfl ?_
    refine ev_tableIn (tgt := 66) (off := 65) dX12_nameOf_1 (by decide) (by decide) rfl (by decide) ?_
    refine ev_ldcwS dX12_nameOf_66 (ps_lit h3 20 rfl) (fun a hs => ?_)
    exact ev_aret dX12_nameOf_69 rfl (Or.inl ⟨_, rfl⟩) (Or.inr ⟨_, rfl⟩) ⟨a, rfl, hs, rfl⟩
  · refine ev_iload_n dX12_nameOf_0 rfl rfl ?_
    refine ev_tableOut (tgt := 70) dX12_nameOf_1 (by decide) (by decide) ?_
    refine ev_ldcwS dX12_nameOf_70 (ps_lit h3 21 rfl) (fun a hs => ?_)
    exact ev_aret dX12_nameOf_73 rfl (Or.inl ⟨_, rfl⟩) (Or.inr ⟨_, rfl⟩) ⟨a, rfl, hs, rfl⟩
theorem c_X12_kindName {G : ev_G} {d : Nat} {g : ev_H} {k : Nat} (h3 : ev_En3 G) (hk : k < 3) : ev_Cstr G d mX12_kindName [.int (nI k)] g (ps_kn k) := by
  refine ev_start (lv0 := [some (.int (nI k))]) (by decide +kernel) rfl (Nat.le_of_ble_eq_true rfl) rfl ?_
  have e : k = 0 ∨ k = 1 ∨ k = 2 := by omega
  rcases e with rfl | rfl | rfl
  · refine ev_iload_n dX12_kindName_0 rfl rfl ?_
    refine ev_if_ne (tgt := 10) dX12_kindName_1 (by decide) (fun c_1 => absurd rfl c_1) (fun c_1 => ?_)
    refine ev_ldcwS dX12_kindName_4 (ps_lit h3 10 rfl) (fun a hs => ?_)
    refine ev_goto (tgt := 24) dX12_kindName_7 (by decide) ?_
    exact ev_aret dX12_kindName_24 rfl (Or.inl ⟨_, rfl⟩) (Or.inr ⟨_, rfl⟩) ⟨a, rfl, hs, rfl⟩
  · refine ev_iload_n dX12_kindName_0 rfl rfl ?_
    refine ev_if_ne (tgt := 10) dX12_kindName_1 (by decide) (fun c_1 => ?_) (fun c_1 => absurd c_1 (by decide))
    refine ev_iload_n dX12_kindName_10 rfl rfl ?_
    refine ev_iconst (v := 1) dX12_kindName_11 (by decide) ?_
    refine ev_icmp_ne (tgt := 21) dX12_kindName_12 (by decide) (fun c_12 => absurd rfl c_12) (fun c_12 => ?_)
    refine ev_ldcwS dX12_kindName_15 (ps_lit h3 11 rfl) (fun a hs => ?_)
    refine ev_goto (tgt := 24) dX12_kindName_18 (by decide) ?_
    exact ev_aret dX12_kindName_24 rfl (Or.inl ⟨_, rfl⟩) (Or.inr ⟨_, rfl⟩) ⟨a, rfl, hs, rfl⟩
  · refine ev_iload_n dX12_kindName_0 rfl rfl ?_
    refine ev_if_ne (tgt := 10) dX12_kindName_1 (by decide) (fun c_1 => ?_) (fun c_1 => absurd c_1 (by decide))
    refine ev_iload_n dX12_kindName_10 rfl rfl ?_
    refine ev_iconst (v := 1) dX12_kindName_11 (by decide) ?_
    refine ev_icmp_ne (tgt := 21) dX12_kindName_12 (by decide) (fun c_12 => ?_) (fun c_12 => absurd c_12 (by decide))
    refine ev_ldcwS dX12_kindName_21 (ps_lit h3 12 rfl) (fun a hs => ?_)
    exact ev_aret dX12_kindName_24 rfl (Or.inl ⟨_, rfl⟩) (Or.inr ⟨_, rfl⟩) ⟨a, rfl, hs, rfl⟩
theorem c_X12_wayName {G : ev_G} {d : Nat} {g : ev_H} {k : Nat} (h3 : ev_En3 G) (hk : k < 4) : ev_Cstr G d mX12_wayName [.int (nI k)] g (ps_wn k) := by
  refine ev_start (lv0 := [some (.int (nI k))]) (by decide +kernel) rfl (Nat.le_of_ble_eq_true rfl) rfl ?_
  have e : k = 0 ∨ k = 1 ∨ k = 2 ∨ k = 3 := by omega
  rcases e with rfl | rfl | rfl | rfl
  · refine ev_iload_n dX12_wayName_0 rfl rfl ?_
    refine ev_if_ne (tgt := 10) dX12_wayName_1 (by decide) (fun c_1 => absurd rfl c_1) (fun c_1 => ?_)
    refine ev_ldcwS dX12_wayName_4 (ps_lit h3 13 rfl) (fun a hs => ?_)
    refine ev_goto (tgt := 35) dX12_wayName_7 (by decide) ?_
    exact ev_aret dX12_wayName_35 rfl (Or.inl ⟨_, rfl⟩) (Or.inr ⟨_, rfl⟩) ⟨a, rfl, hs, rfl⟩
  · refine ev_iload_n dX12_wayName_0 rfl rfl ?_
    refine ev_if_ne (tgt := 10) dX12_wayName_1 (by decide) (fun c_1 => ?_) (fun c_1 => absurd c_1 (by decide))
    refine ev_iload_n dX12_wayName_10 rfl rfl ?_
    refine ev_iconst (v := 1) dX12_wayName_11 (by decide) ?_
    refine ev_icmp_ne (tgt := 21) dX12_wayName_12 (by decide) (fun c_12 => absurd rfl c_12) (fun c_12 => ?_)
    refine ev_ldcwS dX12_wayName_15 (ps_lit h3 14 rfl) (fun a hs => ?_)
    refine ev_goto (tgt := 35) dX12_wayName_18 (by decide) ?_
    exact ev_aret dX12_wayName_35 rfl (Or.inl ⟨_, rfl⟩) (Or.inr ⟨_, rfl⟩) ⟨a, rfl, hs, rfl⟩
  · refine ev_iload_n dX12_wayName_0 rfl rfl ?_
    refine ev_if_ne (tgt := 10) dX12_wayName_1 (by decide) (fun c_1 => ?_) (fun c_1 => absurd c_1 (by decide))
    refine ev_iload_n dX12_wayName_10 rfl rfl ?_
    refine ev_iconst (v := 1) dX12_wayName_11 (by decide) ?_
    refine ev_icmp_ne (tgt := 21) dX12_wayName_12 (by decide) (fun c_12 => ?_) (fun c_12 => absurd c_12 (by decide))
    refine ev_iload_n dX12_wayName_21 rfl rfl ?_
    refine ev_iconst (v := 2) dX12_wayName_22 (by decide) ?_
    refine ev_icmp_ne (tgt := 32) dX12_wayName_23 (by decide) (fun c_23 => absurd rfl c_23) (fun c_23 => ?_)
    refine ev_ldcwS dX12_wayName_26 (ps_lit h3 15 rfl) (fun a hs => ?_)
    refine ev_goto (tgt := 35) dX12_wayName_29 (by decide) ?_
    exact ev_aret dX12_wayName_35 rfl (Or.inl ⟨_, rfl⟩) (Or.inr ⟨_, rfl⟩) ⟨a, rfl, hs, rfl⟩
  · refine ev_iload_n dX12_wayName_0 rfl rfl ?_
    refine ev_if_ne (tgt := 10) dX12_wayName_1 (by decide) (fun c_1 => ?_) (fun c_1 => absurd c_1 (by decide))
    refine ev_iload_n dX12_wayName_10 rfl rfl ?_
    refine ev_iconst (v := 1) dX12_wayName_11 (by decide) ?_
    refine ev_icmp_ne (tgt := 21) dX12_wayName_12 (by decide) (fun c_12 => ?_) (fun c_12 => absurd c_12 (by decide))
    refine ev_iload_n dX12_wayName_21 rfl rfl ?_
    refine ev_iconst (v := 2) dX12_wayName_22 (by decide) ?_
    refine ev_icmp_ne (tgt := 32) dX12_wayName_23 (by decide) (fun c_23 => ?_) (fun c_23 => absurd c_23 (by decide))
    refine ev_ldcwS dX12_wayName_32 (ps_lit h3 16 rfl) (fun a hs => ?_)
    exact ev_aret dX12_wayName_35 rfl (Or.inl ⟨_, rfl⟩) (Or.inr ⟨_, rfl⟩) ⟨a, rfl, hs, rfl⟩
end M19
