section DU
/-! the model's constructor -/
def nw_S : mo_S := (fun k i => if (k = 33 ∨ k = 53 ∨ k = 54) ∧ i = 0 then -1 else 0, fun _ => 0)
def nw_v (A : Nat → Nat) (n k : Nat) : Value := if mo_len k = 0 then (if k < n then .int (nw_S.1 k 0) else .int 0) else if k < n then .ref (A k) else .null
def nw_fs (A : Nat → Nat) (n : Nat) : List Value := (List.range 78).map (nw_v A n)
theorem nw_fs_get {A : Nat → Nat} {n j : Nat} (h : j < 78) : (nw_fs A n)[j]? = some (nw_v A n j) := by
  unfold nw_fs
  rw [List.getElem?_map, List.getElem?_range h]
  rfl
theorem nw_fs_len {A : Nat → Nat} {n : Nat} : (nw_fs A n).length = 78 := by simp [nw_fs]
theorem nw_fs_set {A B : Nat → Nat} {n : Nat} {v : Value} (hn : n < 78) (hv : nw_v B (n + 1) n = v) (hB : ∀ k, k < n → B k = A k) : (nw_fs A n).set n v = nw_fs B (n + 1) := by
  refine List.ext_getElem? fun i => ?_
  by_cases hi : i < 78
  · rw [nw_fs_get hi, List.getElem?_set]
    by_cases e : n = i
    · subst e
      rw [if_pos rfl, if_pos (by rw [nw_fs_len]; exact hn), hv]
    · rw [if_neg e, nw_fs_get hi]
      unfold nw_v
      by_cases c : i < n
      · have c2 : i < n + 1 := by omega
        rw [if_pos c, if_pos c, if_pos c2, if_pos c2, hB i c]
      · have c2 : ¬ i < n + 1 := by omega
        rw [if_neg c, if_neg c, if_neg c2, if_neg c2]
  · rw [List.getElem?_eq_none (by rw [List.length_set, nw_fs_len]; omega), List.getElem?_eq_none (by rw [nw_fs_len]; omega)]
/-- the fields ahead of n are made -/
def nw_I (G : ev_G) (g0 : ev_H) (q n : Nat) (A : Nat → Nat) (g : ev_H) : Prop := g q = some (.inr (13, nw_fs A n)) ∧ (∀ k, k < n → mo_len k ≠ 0 → g (A k) = some (mo_cell G nw_S k) ∧ A k ≠ q ∧ g0 (A k) = none) ∧ (∀ j k, j < n → k < n → mo_len j ≠ 0 → mo_len k ≠ 0 → A j = A k → j = k) ∧ ∀ b e, b ≠ q → g0 b = some e → g b = some e
def nw_A (A : Nat → Nat) (n a : Nat) : Nat → Nat := fun k => if k = n then a else A k
section I
variable {G : ev_G} {g0 g g1 g2 : ev_H} {q n a : Nat} {A : Nat → Nat}
theorem nw_I.q1 (h : nw_I G g0 q n A g) (k0 : g a = none) (k2 : ∀ b, b ≠ a → g1 b = g b) : g1 q = some (.inr (13, nw_fs A n)) := by
  rw [k2 q (fun e => by rw [← e, h.1] at k0; cases k0)]
  exact h.1
theorem nw_I.skip (h : nw_I G g0 q n A g) (hn : mo_len n = 0) (hv : nw_S.1 n 0 = 0) : nw_I G g0 q (n + 1) A g := by
  obtain ⟨h1, h2, h3, h4⟩ := h
  have l : ∀ k, k < n + 1 → mo_len k ≠ 0 → k < n := fun k hk hk2 => by
    rcases Nat.lt_or_ge k n with c | c
    · exact c
    · exact absurd (by rw [show k = n by omega]; exact hn) hk2
  refine ⟨?_, fun k hk hk2 => h2 k (l k hk hk2) hk2, fun j k hj hk hj2 hk2 => h3 j k (l j hj hj2) (l k hk hk2) hj2 hk2, h4⟩
  rw [h1]
  have e : nw_fs A n = nw_fs A (n + 1) := by
    unfold nw_fs
    refine List.map_congr_left fun k _ => ?_
    unfold nw_v
    by_cases c : k = n
    · subst c
      rw [if_pos hn, if_pos hn, if_neg (by omega), if_pos (by omega), hv]
    · by_cases d : k < n
      · have c2 : k < n + 1 := by omega
        rw [if_pos d, if_pos d, if_pos c2, if_pos c2]
      · have c2 : ¬ k < n + 1 := by omega
        rw [if_neg d, if_neg d, if_neg c2, if_neg c2]
  rw [e]
theorem nw_I.int (h : nw_I G g0 q n A g) (hn : n < 78) (hl : mo_len n = 0) {v : Int32} (hv : nw_S.1 n 0 = v) (j1 : g1 q = some (.inr (13, (nw_fs A n).set n (.int v)))) (j2 : ∀ b, b ≠ q → g1 b = g b) : nw_I G g0 q (n + 1) A g1 := by
  obtain ⟨h1, h2, h3, h4⟩ := h
  have l : ∀ k, k < n + 1 → mo_len k ≠ 0 → k < n := fun k hk hk2 => by
    rcases Nat.lt_or_ge k n with c | c
    · exact c
    · exact absurd (by rw [show k = n by omega]; exact hl) hk2
  refine ⟨?_, fun k hk hk2 => ?_, fun j k hj hk hj2 hk2 => h3 j k (l j hj hj2) (l k hk hk2) hj2 hk2, fun b e hb he => (j2 b hb).trans (h4 b e hb he)⟩
  · rw [j1, nw_fs_set (B := A) hn (by unfold nw_v; rw [if_pos hl, if_pos (by omega), hv]) (fun _ _ => rfl)]
  · obtain ⟨a1, a2, a3⟩ := h2 k (l k hk hk2) hk2
    exact ⟨(j2 _ a2).trans a1, a2, a3⟩
theorem nw_I.arr (h : nw_I G g0 q n A g) {e0 : va_E} (hn : n < 78) (hl : mo_len n ≠ 0) (he : mo_cell G nw_S n = e0) (k0 : g a = none) (k1 : g1 a = some e0) (k2 : ∀ b, b ≠ a → g1 b = g b) (j1 : g2 q = some (.inr (13, (nw_fs A n).set n (.ref a)))) (j2 : ∀ b, b ≠ q → g2 b = g1 b) : nw_I G g0 q (n + 1) (nw_A A n a) g2 := by
  obtain ⟨h1, h2, h3, h4⟩ := h
  have aq : a ≠ q := fun e => by rw [e, h1] at k0; cases k0
  have an : ∀ k, k < n → nw_A A n a k = A k := fun k hk => if_neg (by omega)
  have nA : ∀ k, k < n → mo_len k ≠ 0 → A k ≠ a := fun k hk hk2 e => by rw [← e, (h2 k hk hk2).1] at k0; cases k0
  have n0 : g0 a = none := by
    cases z : g0 a with
    | none => rfl
    | some e => rw [h4 a e aq z] at k0; cases k0
  have aa : nw_A A n a n = a := if_pos rfl
  refine ⟨?_, fun k hk hk2 => ?_, fun j k hj hk hj2 hk2 e => ?_, fun b e hb he => ?_⟩
  · rw [j1, nw_fs_set (B := nw_A A n a) hn (by unfold nw_v; rw [if_neg hl, if_pos (by omega), aa]) an]
  · by_cases c : k = n
    · subst c
      rw [aa, j2 a aq, k1, he]
      exact ⟨rfl, aq, n0⟩
    · rw [an k (by omega)]
      obtain ⟨a1, a2, a3⟩ := h2 k (by omega) hk2
      exact ⟨by rw [j2 _ a2, k2 _ (nA k (by omega) hk2)]; exact a1, a2, a3⟩
  · by_cases c : j = n
    · by_cases d : k = n
      · rw [c, d]
      · rw [c, aa, an k (by omega)] at e
        exact absurd e.symm (nA k (by omega) hk2)
    · by_cases d : k = n
      · rw [d, aa, an j (by omega)] at e
        exact absurd e (nA j (by omega) hj2)
      · rw [an j (by omega), an k (by omega)] at e
        exact h3 j k (by omega) (by omega) hj2 hk2 e
  · rw [j2 b hb, k2 b (fun z => by rw [z, n0] at he; cases he)]
    exact h4 b e hb he
theorem nw_I.start (h : g0 q = some (.inr (13, nw_fs A 0))) : nw_I G g0 q 0 A g0 := ⟨h, fun k hk => absurd hk (by omega), fun j k hj => absurd hj (by omega), fun b e _ he => he⟩
/-- all are made: the model's world -/
theorem nw_I.fin (h : nw_I G g0 q 78 A g) : mo_D (q, A) ∧ mo_R G (q, A) g nw_S ∧ (∀ k, k < 78 → mo_len k ≠ 0 → g0 (A k) = none) ∧ ∀ b e, b ≠ q → g0 b = some e → g b = some e := by
  obtain ⟨h1, h2, h3, h4⟩ := h
  refine ⟨⟨fun k hk hk2 => (h2 k hk hk2).2.1, fun j k hj hk hj2 hk2 e => h3 j k hj hk hj2 hk2 e⟩, ⟨?_, fun k hk hk2 => (h2 k hk hk2).1⟩, fun k hk hk2 => (h2 k hk hk2).2.2, h4⟩
  rw [h1]
  have e : nw_fs A 78 = mo_fs (q, A) nw_S := by
    unfold nw_fs mo_fs
    refine List.map_congr_left fun k hk => ?_
    have hk := List.mem_range.mp hk
    unfold nw_v
    by_cases c : mo_len k = 0
    · rw [if_pos c, if_pos c, if_pos hk]
    · rw [if_neg c, if_neg c, if_pos hk]
  rw [e]
end I
theorem nw_z : ∀ k, ¬ (k = 33 ∨ k = 53 ∨ k = 54) → nw_S.1 k = fun _ => 0 := fun k hk => by
  funext i
  exact if_neg (fun z => hk z.1)
theorem nw_cI {G : ev_G} {k : Nat} (h : ¬ (k = 33 ∨ k = 53 ∨ k = 54) ∧ k ≠ 27 ∧ k ≠ 56 ∧ k ≠ 52) : mo_cell G nw_S k = .inl (G.2.2.2 0, mo_len k, .inl (fun _ => 0)) := by
  unfold mo_cell
  rw [if_neg h.2.1, if_neg h.2.2.1, if_neg h.2.2.2, nw_z k h.1]
theorem ev_newa2_byte {G : ev_G} {d bc bs : Nat} {M : ev_M} {Post : ev_P} {g : ev_H} {pc : Nat} {lv : List (Option Value)} {st : List Value} {b n N : Nat} {x : Int32} (hE : ev_En G) (hd : decode M.2.1 pc = .ok (.newarray .byte, 2)) (hw : Cond.arrayClass .byte ∈ ev_T) (hx : ¬ x < 0) (hN : x.toNatClampNeg = N) (hby : N * componentBytes .byte ≤ 536870912) (hb : b + 1 ≤ bc) (hn : n + N ≤ bs) (k : ∀ (q : Nat) (g' : ev_H), g q = none → g' q = some (.inl (G.2.2.2 2, N, .inl (fun _ => 0))) → (∀ b, b ≠ q → g' b = g b) → ev_V G d b n M Post g' (pc + 2) lv (.ref q :: st)) : ev_V G d bc bs M Post g pc lv (.int x :: st) :=
  ev_newa_byte hE hd hw hx hN hby hb hn (fun q hq => k q _ hq (ev_up_s _ _ _) (fun _ hb => ev_up_n _ _ hb))
theorem ev_newa2_boolean {G : ev_G} {d bc bs : Nat} {M : ev_M} {Post : ev_P} {g : ev_H} {pc : Nat} {lv : List (Option Value)} {st : List Value} {b n N : Nat} {x : Int32} (hE : ev_En G) (hd : decode M.2.1 pc = .ok (.newarray .boolean, 2)) (hw : Cond.arrayClass .boolean ∈ ev_T) (hx : ¬ x < 0) (hN : x.toNatClampNeg = N) (hby : N * componentBytes .boolean ≤ 536870912) (hb : b + 1 ≤ bc) (hn : n + N ≤ bs) (k : ∀ (q : Nat) (g' : ev_H), g q = none → g' q = some (.inl (G.2.2.2 3, N, .inl (fun _ => 0))) → (∀ b, b ≠ q → g' b = g b) → ev_V G d b n M Post g' (pc + 2) lv (.ref q :: st)) : ev_V G d bc bs M Post g pc lv (.int x :: st) :=
  ev_newa_bool hE hd hw hx hN hby hb hn (fun q hq => k q _ hq (ev_up_s _ _ _) (fun _ hb => ev_up_n _ _ hb))
set_option maxHeartbeats 2000000 in
theorem c_X12_init {G : ev_G} {d : Nat} {g0 : ev_H} {q : Nat} {A : Nat → Nat} (hE : ev_En G) (hd : 1 ≤ d) (H_q : g0 q = some (.inr (13, nw_fs A 0))) : ev_C G d 50 45107 mX12_init [.ref q] g0 (fun o g' => o = .inl none ∧ ∃ A : Nat → Nat, mo_D (q, A) ∧ mo_R G (q, A) g' nw_S ∧ (∀ k, k < 78 → mo_len k ≠ 0 → g0 (A k) = none) ∧ ∀ b e, b ≠ q → g0 b = some e → g' b = some e) := by
  refine ev_start (lv0 := [some (.ref q)]) (by decide +kernel) rfl (Nat.le_of_ble_eq_true rfl) rfl ?_
  refine ev_aload_n dX12_init_0 rfl rfl ?_
  refine ev_objI dX12_init_1 loX12 (Nat.le_of_ble_eq_true rfl) (by omega) ?_
  have I0 : nw_I G g0 q 0 A g0 := nw_I.start H_q
  refine ev_aload_n dX12_init_4 rfl rfl ?_
  refine ev_bipush (v := 12) dX12_init_5 (by decide) ?_
  have I1 := I0.skip (by decide) (by decide)
  have I2 := I1.skip (by decide) (by decide)
  have I3 := I2.skip (by decide) (by decide)
  refine ev_newa2_int (N := 12) (b := 49) (n := 45095) hE dX12_init_7 a_int (by decide) (by decide) (by decide) (by decide) (by decide) (fun a3 g1 k0 k1 k2 => ?_)
  refine ev_putF2 hE rfl dX12_init_9 pX12_9 (I3.q1 k0 k2) (by rw [nw_fs_len]; exact Nat.le_of_ble_eq_true rfl) rfl rfl (fun g j1 j2 => ?_)
  have I4 := I3.arr (by decide) (by decide) (nw_cI (by decide)) k0 k1 k2 j1 j2
  clear k0 k1 k2 j1 j2 I3
  generalize nw_A _ 3 a3 = A at I4
  refine ev_aload_n dX12_init_12 rfl rfl ?_
  refine ev_bipush (v := 12) dX12_init_13 (by decide) ?_
  refine ev_newa2_int (N := 12) (b := 48) (n := 45083) hE dX12_init_15 a_int (by decide) (by decide) (by decide) (by decide) (by decide) (fun a4 g1 k0 k1 k2 => ?_)
  refine ev_putF2 hE rfl dX12_init_17 pX12_13 (I4.q1 k0 k2) (by rw [nw_fs_len]; exact Nat.le_of_ble_eq_true rfl) rfl rfl (fun g j1 j2 => ?_)
  have I5 := I4.arr (by decide) (by decide) (nw_cI (by decide)) k0 k1 k2 j1 j2
  clear k0 k1 k2 j1 j2 I4
  generalize nw_A _ 4 a4 = A at I5
  refine ev_aload_n dX12_init_20 rfl rfl ?_
  refine ev_bipush (v := 12) dX12_init_21 (by decide) ?_
  refine ev_newa2_int (N := 12) (b := 47) (n := 45071) hE dX12_init_23 a_int (by decide) (by decide) (by decide) (by decide) (by decide) (fun a5 g1 k0 k1 k2 => ?_)
  refine ev_putF2 hE rfl dX12_init_25 pX12_16 (I5.q1 k0 k2) (by rw [nw_fs_len]; exact Nat.le_of_ble_eq_true rfl) rfl rfl (fun g j1 j2 => ?_)
  have I6 := I5.arr (by decide) (by decide) (nw_cI (by decide)) k0 k1 k2 j1 j2
  clear k0 k1 k2 j1 j2 I5
  generalize nw_A _ 5 a5 = A at I6
  refine ev_aload_n dX12_init_28 rfl rfl ?_
  refine ev_bipush (v := 12) dX12_init_29 (by decide) ?_
  refine ev_newa2_int (N := 12) (b := 46) (n := 45059) hE dX12_init_31 a_int (by decide) (by decide) (by decide) (by decide) (by decide) (fun a6 g1 k0 k1 k2 => ?_)
  refine ev_putF2 hE rfl dX12_init_33 pX12_19 (I6.q1 k0 k2) (by rw [nw_fs_len]; exact Nat.le_of_ble_eq_true rfl) rfl rfl (fun g j1 j2 => ?_)
  have I7 := I6.arr (by decide) (by decide) (nw_cI (by decide)) k0 k1 k2 j1 j2
  clear k0 k1 k2 j1 j2 I6
  generalize nw_A _ 6 a6 = A at I7
  refine ev_aload_n dX12_init_36 rfl rfl ?_
  refine ev_bipush (v := 12) dX12_init_37 (by decide) ?_
  refine ev_newa2_int (N := 12) (b := 45) (n := 45047) hE dX12_init_39 a_int (by decide) (by decide) (by decide) (by decide) (by decide) (fun a7 g1 k0 k1 k2 => ?_)
  refine ev_putF2 hE rfl dX12_init_41 pX12_22 (I7.q1 k0 k2) (by rw [nw_fs_len]; exact Nat.le_of_ble_eq_true rfl) rfl rfl (fun g j1 j2 => ?_)
  have I8 := I7.arr (by decide) (by decide) (nw_cI (by decide)) k0 k1 k2 j1 j2
  clear k0 k1 k2 j1 j2 I7
  generalize nw_A _ 7 a7 = A at I8
  refine ev_aload_n dX12_init_44 rfl rfl ?_
  refine ev_bipush (v := 12) dX12_init_45 (by decide) ?_
  refine ev_newa2_int (N := 12) (b := 44) (n := 45035) hE dX12_init_47 a_int (by decide) (by decide) (by decide) (by decide) (by decide) (fun a8 g1 k0 k1 k2 => ?_)
  refine ev_putF2 hE rfl dX12_init_49 pX12_25 (I8.q1 k0 k2) (by rw [nw_fs_len]; exact Nat.le_of_ble_eq_true rfl) rfl rfl (fun g j1 j2 => ?_)
  have I9 := I8.arr (by decide) (by decide) (nw_cI (by decide)) k0 k1 k2 j1 j2
  clear k0 k1 k2 j1 j2 I8
  generalize nw_A _ 8 a8 = A at I9
  refine ev_aload_n dX12_init_52 rfl rfl ?_
  refine ev_bipush (v := 12) dX12_init_53 (by decide) ?_
  refine ev_newa2_int (N := 12) (b := 43) (n := 45023) hE dX12_init_55 a_int (by decide) (by decide) (by decide) (by decide) (by decide) (fun a9 g1 k0 k1 k2 => ?_)
  refine ev_putF2 hE rfl dX12_init_57 pX12_28 (I9.q1 k0 k2) (by rw [nw_fs_len]; exact Nat.le_of_ble_eq_true rfl) rfl rfl (fun g j1 j2 => ?_)
  have I10 := I9.arr (by decide) (by decide) (nw_cI (by decide)) k0 k1 k2 j1 j2
  clear k0 k1 k2 j1 j2 I9
  generalize nw_A _ 9 a9 = A at I10
  refine ev_aload_n dX12_init_60 rfl rfl ?_
  refine ev_bipush (v := 12) dX12_init_61 (by decide) ?_
  refine ev_newa2_int (N := 12) (b := 42) (n := 45011) hE dX12_init_63 a_int (by decide) (by decide) (by decide) (by decide) (by decide) (fun a10 g1 k0 k1 k2 => ?_)
  refine ev_putF2 hE rfl dX12_init_65 pX12_31 (I10.q1 k0 k2) (by rw [nw_fs_len]; exact Nat.le_of_ble_eq_true rfl) rfl rfl (fun g j1 j2 => ?_)
  have I11 := I10.arr (by decide) (by decide) (nw_cI (by decide)) k0 k1 k2 j1 j2
  clear k0 k1 k2 j1 j2 I10
  generalize nw_A _ 10 a10 = A at I11
  refine ev_aload_n dX12_init_68 rfl rfl ?_
  refine ev_bipush (v := 12) dX12_init_69 (by decide) ?_
  refine ev_newa2_int (N := 12) (b := 41) (n := 44999) hE dX12_init_71 a_int (by decide) (by decide) (by decide) (by decide) (by decide) (fun a11 g1 k0 k1 k2 => ?_)
  refine ev_putF2 hE rfl dX12_init_73 pX12_34 (I11.q1 k0 k2) (by rw [nw_fs_len]; exact Nat.le_of_ble_eq_true rfl) rfl rfl (fun g j1 j2 => ?_)
  have I12 := I11.arr (by decide) (by decide) (nw_cI (by decide)) k0 k1 k2 j1 j2
  clear k0 k1 k2 j1 j2 I11
  generalize nw_A _ 11 a11 = A at I12
  refine ev_aload_n dX12_init_76 rfl rfl ?_
  refine ev_bipush (v := 12) dX12_init_77 (by decide) ?_
  refine ev_newa2_int (N := 12) (b := 40) (n := 44987) hE dX12_init_79 a_int (by decide) (by decide) (by decide) (by decide) (by decide) (fun a12 g1 k0 k1 k2 => ?_)
  refine ev_putF2 hE rfl dX12_init_81 pX12_37 (I12.q1 k0 k2) (by rw [nw_fs_len]; exact Nat.le_of_ble_eq_true rfl) rfl rfl (fun g j1 j2 => ?_)
  have I13 := I12.arr (by decide) (by decide) (nw_cI (by decide)) k0 k1 k2 j1 j2
  clear k0 k1 k2 j1 j2 I12
  generalize nw_A _ 12 a12 = A at I13
  refine ev_aload_n dX12_init_84 rfl rfl ?_
  refine ev_bipush (v := 12) dX12_init_85 (by decide) ?_
  refine ev_newa2_int (N := 12) (b := 39) (n := 44975) hE dX12_init_87 a_int (by decide) (by decide) (by decide) (by decide) (by decide) (fun a13 g1 k0 k1 k2 => ?_)
  refine ev_putF2 hE rfl dX12_init_89 pX12_40 (I13.q1 k0 k2) (by rw [nw_fs_len]; exact Nat.le_of_ble_eq_true rfl) rfl rfl (fun g j1 j2 => ?_)
  have I14 := I13.arr (by decide) (by decide) (nw_cI (by decide)) k0 k1 k2 j1 j2
  clear k0 k1 k2 j1 j2 I13
  generalize nw_A _ 13 a13 = A at I14
  refine ev_aload_n dX12_init_92 rfl rfl ?_
  refine ev_bipush (v := 12) dX12_init_93 (by decide) ?_
  refine ev_newa2_int (N := 12) (b := 38) (n := 44963) hE dX12_init_95 a_int (by decide) (by decide) (by decide) (by decide) (by decide) (fun a14 g1 k0 k1 k2 => ?_)
  refine ev_putF2 hE rfl dX12_init_97 pX12_43 (I14.q1 k0 k2) (by rw [nw_fs_len]; exact Nat.le_of_ble_eq_true rfl) rfl rfl (fun g j1 j2 => ?_)
  have I15 := I14.arr (by decide) (by decide) (nw_cI (by decide)) k0 k1 k2 j1 j2
  clear k0 k1 k2 j1 j2 I14
  generalize nw_A _ 14 a14 = A at I15
  refine ev_aload_n dX12_init_100 rfl rfl ?_
  refine ev_bipush (v := 12) dX12_init_101 (by decide) ?_
  refine ev_newa2_int (N := 12) (b := 37) (n := 44951) hE dX12_init_103 a_int (by decide) (by decide) (by decide) (by decide) (by decide) (fun a15 g1 k0 k1 k2 => ?_)
  refine ev_putF2 hE rfl dX12_init_105 pX12_46 (I15.q1 k0 k2) (by rw [nw_fs_len]; exact Nat.le_of_ble_eq_true rfl) rfl rfl (fun g j1 j2 => ?_)
  have I16 := I15.arr (by decide) (by decide) (nw_cI (by decide)) k0 k1 k2 j1 j2
  clear k0 k1 k2 j1 j2 I15
  generalize nw_A _ 15 a15 = A at I16
  refine ev_aload_n dX12_init_108 rfl rfl ?_
  refine ev_bipush (v := 12) dX12_init_109 (by decide) ?_
  refine ev_newa2_int (N := 12) (b := 36) (n := 44939) hE dX12_init_111 a_int (by decide) (by decide) (by decide) (by decide) (by decide) (fun a16 g1 k0 k1 k2 => ?_)
  refine ev_putF2 hE rfl dX12_init_113 pX12_49 (I16.q1 k0 k2) (by rw [nw_fs_len]; exact Nat.le_of_ble_eq_true rfl) rfl rfl (fun g j1 j2 => ?_)
  have I17 := I16.arr (by decide) (by decide) (nw_cI (by decide)) k0 k1 k2 j1 j2
  clear k0 k1 k2 j1 j2 I16
  generalize nw_A _ 16 a16 = A at I17
  refine ev_aload_n dX12_init_116 rfl rfl ?_
  refine ev_bipush (v := 12) dX12_init_117 (by decide) ?_
  refine ev_newa2_int (N := 12) (b := 35) (n := 44927) hE dX12_init_119 a_int (by decide) (by decide) (by decide) (by decide) (by decide) (fun a17 g1 k0 k1 k2 => ?_)
  refine ev_putF2 hE rfl dX12_init_121 pX12_52 (I17.q1 k0 k2) (by rw [nw_fs_len]; exact Nat.le_of_ble_eq_true rfl) rfl rfl (fun g j1 j2 => ?_)
  have I18 := I17.arr (by decide) (by decide) (nw_cI (by decide)) k0 k1 k2 j1 j2
  clear k0 k1 k2 j1 j2 I17
  generalize nw_A _ 17 a17 = A at I18
  refine ev_aload_n dX12_init_124 rfl rfl ?_
  refine ev_bipush (v := 12) dX12_init_125 (by decide) ?_
  refine ev_newa2_int (N := 12) (b := 34) (n := 44915) hE dX12_init_127 a_int (by decide) (by decide) (by decide) (by decide) (by decide) (fun a18 g1 k0 k1 k2 => ?_)
  refine ev_putF2 hE rfl dX12_init_129 pX12_55 (I18.q1 k0 k2) (by rw [nw_fs_len]; exact Nat.le_of_ble_eq_true rfl) rfl rfl (fun g j1 j2 => ?_)
  have I19 := I18.arr (by decide) (by decide) (nw_cI (by decide)) k0 k1 k2 j1 j2
  clear k0 k1 k2 j1 j2 I18
  generalize nw_A _ 18 a18 = A at I19
  refine ev_aload_n dX12_init_132 rfl rfl ?_
  refine ev_bipush (v := 12) dX12_init_133 (by decide) ?_
  refine ev_newa2_int (N := 12) (b := 33) (n := 44903) hE dX12_init_135 a_int (by decide) (by decide) (by decide) (by decide) (by decide) (fun a19 g1 k0 k1 k2 => ?_)
  refine ev_putF2 hE rfl dX12_init_137 pX12_58 (I19.q1 k0 k2) (by rw [nw_fs_len]; exact Nat.le_of_ble_eq_true rfl) rfl rfl (fun g j1 j2 => ?_)
  have I20 := I19.arr (by decide) (by decide) (nw_cI (by decide)) k0 k1 k2 j1 j2
  clear k0 k1 k2 j1 j2 I19
  generalize nw_A _ 19 a19 = A at I20
  refine ev_aload_n dX12_init_140 rfl rfl ?_
  refine ev_bipush (v := 12) dX12_init_141 (by decide) ?_
  refine ev_newa2_int (N := 12) (b := 32) (n := 44891) hE dX12_init_143 a_int (by decide) (by decide) (by decide) (by decide) (by decide) (fun a20 g1 k0 k1 k2 => ?_)
  refine ev_putF2 hE rfl dX12_init_145 pX12_61 (I20.q1 k0 k2) (by rw [nw_fs_len]; exact Nat.le_of_ble_eq_true rfl) rfl rfl (fun g j1 j2 => ?_)
  have I21 := I20.arr (by decide) (by decide) (nw_cI (by decide)) k0 k1 k2 j1 j2
  clear k0 k1 k2 j1 j2 I20
  generalize nw_A _ 20 a20 = A at I21
  refine ev_aload_n dX12_init_148 rfl rfl ?_
  refine ev_bipush (v := 80) dX12_init_149 (by decide) ?_
  have I22 := I21.skip (by decide) (by decide)
  refine ev_newa2_int (N := 80) (b := 31) (n := 44811) hE dX12_init_151 a_int (by decide) (by decide) (by decide) (by decide) (by decide) (fun a22 g1 k0 k1 k2 => ?_)
  refine ev_putF2 hE rfl dX12_init_153 pX12_64 (I22.q1 k0 k2) (by rw [nw_fs_len]; exact Nat.le_of_ble_eq_true rfl) rfl rfl (fun g j1 j2 => ?_)
  have I23 := I22.arr (by decide) (by decide) (nw_cI (by decide)) k0 k1 k2 j1 j2
  clear k0 k1 k2 j1 j2 I22
  generalize nw_A _ 22 a22 = A at I23
  refine ev_aload_n dX12_init_156 rfl rfl ?_
  refine ev_bipush (v := 80) dX12_init_157 (by decide) ?_
  refine ev_newa2_int (N := 80) (b := 30) (n := 44731) hE dX12_init_159 a_int (by decide) (by decide) (by decide) (by decide) (by decide) (fun a23 g1 k0 k1 k2 => ?_)
  refine ev_putF2 hE rfl dX12_init_161 pX12_67 (I23.q1 k0 k2) (by rw [nw_fs_len]; exact Nat.le_of_ble_eq_true rfl) rfl rfl (fun g j1 j2 => ?_)
  have I24 := I23.arr (by decide) (by decide) (nw_cI (by decide)) k0 k1 k2 j1 j2
  clear k0 k1 k2 j1 j2 I23
  generalize nw_A _ 23 a23 = A at I24
  refine ev_aload_n dX12_init_164 rfl rfl ?_
  refine ev_iconst (v := 5) dX12_init_165 (by decide) ?_
  have I25 := I24.skip (by decide) (by decide)
  refine ev_newa2_int (N := 5) (b := 29) (n := 44726) hE dX12_init_166 a_int (by decide) (by decide) (by decide) (by decide) (by decide) (fun a25 g1 k0 k1 k2 => ?_)
  refine ev_putF2 hE rfl dX12_init_168 pX12_70 (I25.q1 k0 k2) (by rw [nw_fs_len]; exact Nat.le_of_ble_eq_true rfl) rfl rfl (fun g j1 j2 => ?_)
  have I26 := I25.arr (by decide) (by decide) (nw_cI (by decide)) k0 k1 k2 j1 j2
  clear k0 k1 k2 j1 j2 I25
  generalize nw_A _ 25 a25 = A at I26
  refine ev_aload_n dX12_init_171 rfl rfl ?_
  refine ev_bipush (v := 60) dX12_init_172 (by decide) ?_
  refine ev_newa2_int (N := 60) (b := 28) (n := 44666) hE dX12_init_174 a_int (by decide) (by decide) (by decide) (by decide) (by decide) (fun a26 g1 k0 k1 k2 => ?_)
  refine ev_putF2 hE rfl dX12_init_176 pX12_73 (I26.q1 k0 k2) (by rw [nw_fs_len]; exact Nat.le_of_ble_eq_true rfl) rfl rfl (fun g j1 j2 => ?_)
  have I27 := I26.arr (by decide) (by decide) (nw_cI (by decide)) k0 k1 k2 j1 j2
  clear k0 k1 k2 j1 j2 I26
  generalize nw_A _ 26 a26 = A at I27
  refine ev_aload_n dX12_init_179 rfl rfl ?_
  refine ev_sipush (v := 300) dX12_init_180 (by decide) ?_
  refine ev_newa2_byte (N := 300) (b := 27) (n := 44366) hE dX12_init_183 a_byte (by decide) (by decide) (by decide) (by decide) (by decide) (fun a27 g1 k0 k1 k2 => ?_)
  refine ev_putF2 hE rfl dX12_init_185 pX12_76 (I27.q1 k0 k2) (by rw [nw_fs_len]; exact Nat.le_of_ble_eq_true rfl) rfl rfl (fun g j1 j2 => ?_)
  have I28 := I27.arr (by decide) (by decide) (by unfold mo_cell; rw [if_pos rfl, nw_z 27 (by decide)]; rfl) k0 k1 k2 j1 j2
  clear k0 k1 k2 j1 j2 I27
  generalize nw_A _ 27 a27 = A at I28
  refine ev_aload_n dX12_init_188 rfl rfl ?_
  refine ev_iconst (v := (-1)) dX12_init_189 (by decide) ?_
  have I29 := I28.skip (by decide) (by decide)
  have I30 := I29.skip (by decide) (by decide)
  have I31 := I30.skip (by decide) (by decide)
  have I32 := I31.skip (by decide) (by decide)
  have I33 := I32.skip (by decide) (by decide)
  refine ev_put2 hE dX12_init_190 pX12_80 I33.1 (by rw [nw_fs_len]; exact Nat.le_of_ble_eq_true rfl) rfl rfl (fun g j1 j2 => ?_)
  have I34 := I33.int (by decide) (by decide) (by decide) j1 j2
  clear j1 j2 I33
  refine ev_aload_n dX12_init_193 rfl rfl ?_
  refine ev_bipush (v := 10) dX12_init_194 (by decide) ?_
  have I35 := I34.skip (by decide) (by decide)
  have I36 := I35.skip (by decide) (by decide)
  refine ev_newa2_int (N := 10) (b := 26) (n := 44356) hE dX12_init_196 a_int (by decide) (by decide) (by decide) (by decide) (by decide) (fun a36 g1 k0 k1 k2 => ?_)
  refine ev_putF2 hE rfl dX12_init_198 pX12_84 (I36.q1 k0 k2) (by rw [nw_fs_len]; exact Nat.le_of_ble_eq_true rfl) rfl rfl (fun g j1 j2 => ?_)
  have I37 := I36.arr (by decide) (by decide) (nw_cI (by decide)) k0 k1 k2 j1 j2
  clear k0 k1 k2 j1 j2 I36
  generalize nw_A _ 36 a36 = A at I37
  refine ev_aload_n dX12_init_201 rfl rfl ?_
  refine ev_bipush (v := 10) dX12_init_202 (by decide) ?_
  refine ev_newa2_int (N := 10) (b := 25) (n := 44346) hE dX12_init_204 a_int (by decide) (by decide) (by decide) (by decide) (by decide) (fun a37 g1 k0 k1 k2 => ?_)
  refine ev_putF2 hE rfl dX12_init_206 pX12_87 (I37.q1 k0 k2) (by rw [nw_fs_len]; exact Nat.le_of_ble_eq_true rfl) rfl rfl (fun g j1 j2 => ?_)
  have I38 := I37.arr (by decide) (by decide) (nw_cI (by decide)) k0 k1 k2 j1 j2
  clear k0 k1 k2 j1 j2 I37
  generalize nw_A _ 37 a37 = A at I38
  refine ev_aload_n dX12_init_209 rfl rfl ?_
  refine ev_bipush (v := 120) dX12_init_210 (by decide) ?_
  refine ev_newa2_int (N := 120) (b := 24) (n := 44226) hE dX12_init_212 a_int (by decide) (by decide) (by decide) (by decide) (by decide) (fun a38 g1 k0 k1 k2 => ?_)
  refine ev_putF2 hE rfl dX12_init_214 pX12_90 (I38.q1 k0 k2) (by rw [nw_fs_len]; exact Nat.le_of_ble_eq_true rfl) rfl rfl (fun g j1 j2 => ?_)
  have I39 := I38.arr (by decide) (by decide) (nw_cI (by decide)) k0 k1 k2 j1 j2
  clear k0 k1 k2 j1 j2 I38
  generalize nw_A _ 38 a38 = A at I39
  refine ev_aload_n dX12_init_217 rfl rfl ?_
  refine ev_bipush (v := 120) dX12_init_218 (by decide) ?_
  refine ev_newa2_int (N := 120) (b := 23) (n := 44106) hE dX12_init_220 a_int (by decide) (by decide) (by decide) (by decide) (by decide) (fun a39 g1 k0 k1 k2 => ?_)
  refine ev_putF2 hE rfl dX12_init_222 pX12_93 (I39.q1 k0 k2) (by rw [nw_fs_len]; exact Nat.le_of_ble_eq_true rfl) rfl rfl (fun g j1 j2 => ?_)
  have I40 := I39.arr (by decide) (by decide) (nw_cI (by decide)) k0 k1 k2 j1 j2
  clear k0 k1 k2 j1 j2 I39
  generalize nw_A _ 39 a39 = A at I40
  refine ev_aload_n dX12_init_225 rfl rfl ?_
  refine ev_sipush (v := 3500) dX12_init_226 (by decide) ?_
  refine ev_newa2_int (N := 3500) (b := 22) (n := 40606) hE dX12_init_229 a_int (by decide) (by decide) (by decide) (by decide) (by decide) (fun a40 g1 k0 k1 k2 => ?_)
  refine ev_putF2 hE rfl dX12_init_231 pX12_96 (I40.q1 k0 k2) (by rw [nw_fs_len]; exact Nat.le_of_ble_eq_true rfl) rfl rfl (fun g j1 j2 => ?_)
  have I41 := I40.arr (by decide) (by decide) (nw_cI (by decide)) k0 k1 k2 j1 j2
  clear k0 k1 k2 j1 j2 I40
  generalize nw_A _ 40 a40 = A at I41
  refine ev_aload_n dX12_init_234 rfl rfl ?_
  refine ev_sipush (v := 3500) dX12_init_235 (by decide) ?_
  refine ev_newa2_int (N := 3500) (b := 21) (n := 37106) hE dX12_init_238 a_int (by decide) (by decide) (by decide) (by decide) (by decide) (fun a41 g1 k0 k1 k2 => ?_)
  refine ev_putF2 hE rfl dX12_init_240 pX12_99 (I41.q1 k0 k2) (by rw [nw_fs_len]; exact Nat.le_of_ble_eq_true rfl) rfl rfl (fun g j1 j2 => ?_)
  have I42 := I41.arr (by decide) (by decide) (nw_cI (by decide)) k0 k1 k2 j1 j2
  clear k0 k1 k2 j1 j2 I41
  generalize nw_A _ 41 a41 = A at I42
  refine ev_aload_n dX12_init_243 rfl rfl ?_
  refine ev_sipush (v := 350) dX12_init_244 (by decide) ?_
  have I43 := I42.skip (by decide) (by decide)
  have I44 := I43.skip (by decide) (by decide)
  have I45 := I44.skip (by decide) (by decide)
  have I46 := I45.skip (by decide) (by decide)
  have I47 := I46.skip (by decide) (by decide)
  have I48 := I47.skip (by decide) (by decide)
  have I49 := I48.skip (by decide) (by decide)
  refine ev_newa2_int (N := 350) (b := 20) (n := 36756) hE dX12_init_247 a_int (by decide) (by decide) (by decide) (by decide) (by decide) (fun a49 g1 k0 k1 k2 => ?_)
  refine ev_putF2 hE rfl dX12_init_249 pX12_102 (I49.q1 k0 k2) (by rw [nw_fs_len]; exact Nat.le_of_ble_eq_true rfl) rfl rfl (fun g j1 j2 => ?_)
  have I50 := I49.arr (by decide) (by decide) (nw_cI (by decide)) k0 k1 k2 j1 j2
  clear k0 k1 k2 j1 j2 I49
  generalize nw_A _ 49 a49 = A at I50
  refine ev_aload_n dX12_init_252 rfl rfl ?_
  refine ev_bipush (v := 12) dX12_init_253 (by decide) ?_
  refine ev_newa2_int (N := 12) (b := 19) (n := 36744) hE dX12_init_255 a_int (by decide) (by decide) (by decide) (by decide) (by decide) (fun a50 g1 k0 k1 k2 => ?_)
  refine ev_putF2 hE rfl dX12_init_257 pX12_105 (I50.q1 k0 k2) (by rw [nw_fs_len]; exact Nat.le_of_ble_eq_true rfl) rfl rfl (fun g j1 j2 => ?_)
  have I51 := I50.arr (by decide) (by decide) (nw_cI (by decide)) k0 k1 k2 j1 j2
  clear k0 k1 k2 j1 j2 I50
  generalize nw_A _ 50 a50 = A at I51
  refine ev_aload_n dX12_init_260 rfl rfl ?_
  refine ev_bipush (v := 12) dX12_init_261 (by decide) ?_
  refine ev_newa2_int (N := 12) (b := 18) (n := 36732) hE dX12_init_263 a_int (by decide) (by decide) (by decide) (by decide) (by decide) (fun a51 g1 k0 k1 k2 => ?_)
  refine ev_putF2 hE rfl dX12_init_265 pX12_108 (I51.q1 k0 k2) (by rw [nw_fs_len]; exact Nat.le_of_ble_eq_true rfl) rfl rfl (fun g j1 j2 => ?_)
  have I52 := I51.arr (by decide) (by decide) (nw_cI (by decide)) k0 k1 k2 j1 j2
  clear k0 k1 k2 j1 j2 I51
  generalize nw_A _ 51 a51 = A at I52
  refine ev_aload_n dX12_init_268 rfl rfl ?_
  refine ev_bipush (v := 12) dX12_init_269 (by decide) ?_
  refine ev_newa2_long (N := 12) (b := 17) (n := 36720) hE dX12_init_271 a_long (by decide) (by decide) (by decide) (by decide) (by decide) (fun a52 g1 k0 k1 k2 => ?_)
  refine ev_putF2 hE rfl dX12_init_273 pX12_111 (I52.q1 k0 k2) (by rw [nw_fs_len]; exact Nat.le_of_ble_eq_true rfl) rfl rfl (fun g j1 j2 => ?_)
  have I53 := I52.arr (by decide) (by decide) rfl k0 k1 k2 j1 j2
  clear k0 k1 k2 j1 j2 I52
  generalize nw_A _ 52 a52 = A at I53
  refine ev_aload_n dX12_init_276 rfl rfl ?_
  refine ev_iconst (v := (-1)) dX12_init_277 (by decide) ?_
  refine ev_put2 hE dX12_init_278 pX12_115 I53.1 (by rw [nw_fs_len]; exact Nat.le_of_ble_eq_true rfl) rfl rfl (fun g j1 j2 => ?_)
  have I54 := I53.int (by decide) (by decide) (by decide) j1 j2
  clear j1 j2 I53
  refine ev_aload_n dX12_init_281 rfl rfl ?_
  refine ev_iconst (v := (-1)) dX12_init_282 (by decide) ?_
  refine ev_put2 hE dX12_init_283 pX12_118 I54.1 (by rw [nw_fs_len]; exact Nat.le_of_ble_eq_true rfl) rfl rfl (fun g j1 j2 => ?_)
  have I55 := I54.int (by decide) (by decide) (by decide) j1 j2
  clear j1 j2 I54
  refine ev_aload_n dX12_init_286 rfl rfl ?_
  refine ev_sipush (v := 28800) dX12_init_287 (by decide) ?_
  refine ev_newa2_int (N := 28800) (b := 16) (n := 7920) hE dX12_init_290 a_int (by decide) (by decide) (by decide) (by decide) (by decide) (fun a55 g1 k0 k1 k2 => ?_)
  refine ev_putF2 hE rfl dX12_init_292 pX12_121 (I55.q1 k0 k2) (by rw [nw_fs_len]; exact Nat.le_of_ble_eq_true rfl) rfl rfl (fun g j1 j2 => ?_)
  have I56 := I55.arr (by decide) (by decide) (nw_cI (by decide)) k0 k1 k2 j1 j2
  clear k0 k1 k2 j1 j2 I55
  generalize nw_A _ 55 a55 = A at I56
  refine ev_aload_n dX12_init_295 rfl rfl ?_
  refine ev_sipush (v := 7200) dX12_init_296 (by decide) ?_
  refine ev_newa2_boolean (N := 7200) (b := 15) (n := 720) hE dX12_init_299 a_boolean (by decide) (by decide) (by decide) (by decide) (by decide) (fun a56 g1 k0 k1 k2 => ?_)
  refine ev_putF2 hE rfl dX12_init_301 pX12_124 (I56.q1 k0 k2) (by rw [nw_fs_len]; exact Nat.le_of_ble_eq_true rfl) rfl rfl (fun g j1 j2 => ?_)
  have I57 := I56.arr (by decide) (by decide) (by unfold mo_cell; rw [if_neg (by decide), if_pos rfl, nw_z 56 (by decide)]; rfl) k0 k1 k2 j1 j2
  clear k0 k1 k2 j1 j2 I56
  generalize nw_A _ 56 a56 = A at I57
  refine ev_aload_n dX12_init_304 rfl rfl ?_
  refine ev_bipush (v := 12) dX12_init_305 (by decide) ?_
  refine ev_newa2_int (N := 12) (b := 14) (n := 708) hE dX12_init_307 a_int (by decide) (by decide) (by decide) (by decide) (by decide) (fun a57 g1 k0 k1 k2 => ?_)
  refine ev_putF2 hE rfl dX12_init_309 pX12_128 (I57.q1 k0 k2) (by rw [nw_fs_len]; exact Nat.le_of_ble_eq_true rfl) rfl rfl (fun g j1 j2 => ?_)
  have I58 := I57.arr (by decide) (by decide) (nw_cI (by decide)) k0 k1 k2 j1 j2
  clear k0 k1 k2 j1 j2 I57
  generalize nw_A _ 57 a57 = A at I58
  refine ev_aload_n dX12_init_312 rfl rfl ?_
  refine ev_sipush (v := 144) dX12_init_313 (by decide) ?_
  refine ev_newa2_int (N := 144) (b := 13) (n := 564) hE dX12_init_316 a_int (by decide) (by decide) (by decide) (by decide) (by decide) (fun a58 g1 k0 k1 k2 => ?_)
  refine ev_putF2 hE rfl dX12_init_318 pX12_131 (I58.q1 k0 k2) (by rw [nw_fs_len]; exact Nat.le_of_ble_eq_true rfl) rfl rfl (fun g j1 j2 => ?_)
  have I59 := I58.arr (by decide) (by decide) (nw_cI (by decide)) k0 k1 k2 j1 j2
  clear k0 k1 k2 j1 j2 I58
  generalize nw_A _ 58 a58 = A at I59
  refine ev_aload_n dX12_init_321 rfl rfl ?_
  refine ev_bipush (v := 12) dX12_init_322 (by decide) ?_
  refine ev_newa2_int (N := 12) (b := 12) (n := 552) hE dX12_init_324 a_int (by decide) (by decide) (by decide) (by decide) (by decide) (fun a59 g1 k0 k1 k2 => ?_)
  refine ev_putF2 hE rfl dX12_init_326 pX12_134 (I59.q1 k0 k2) (by rw [nw_fs_len]; exact Nat.le_of_ble_eq_true rfl) rfl rfl (fun g j1 j2 => ?_)
  have I60 := I59.arr (by decide) (by decide) (nw_cI (by decide)) k0 k1 k2 j1 j2
  clear k0 k1 k2 j1 j2 I59
  generalize nw_A _ 59 a59 = A at I60
  refine ev_aload_n dX12_init_329 rfl rfl ?_
  refine ev_bipush (v := 96) dX12_init_330 (by decide) ?_
  refine ev_newa2_int (N := 96) (b := 11) (n := 456) hE dX12_init_332 a_int (by decide) (by decide) (by decide) (by decide) (by decide) (fun a60 g1 k0 k1 k2 => ?_)
  refine ev_putF2 hE rfl dX12_init_334 pX12_137 (I60.q1 k0 k2) (by rw [nw_fs_len]; exact Nat.le_of_ble_eq_true rfl) rfl rfl (fun g j1 j2 => ?_)
  have I61 := I60.arr (by decide) (by decide) (nw_cI (by decide)) k0 k1 k2 j1 j2
  clear k0 k1 k2 j1 j2 I60
  generalize nw_A _ 60 a60 = A at I61
  refine ev_aload_n dX12_init_337 rfl rfl ?_
  refine ev_bipush (v := 96) dX12_init_338 (by decide) ?_
  refine ev_newa2_int (N := 96) (b := 10) (n := 360) hE dX12_init_340 a_int (by decide) (by decide) (by decide) (by decide) (by decide) (fun a61 g1 k0 k1 k2 => ?_)
  refine ev_putF2 hE rfl dX12_init_342 pX12_140 (I61.q1 k0 k2) (by rw [nw_fs_len]; exact Nat.le_of_ble_eq_true rfl) rfl rfl (fun g j1 j2 => ?_)
  have I62 := I61.arr (by decide) (by decide) (nw_cI (by decide)) k0 k1 k2 j1 j2
  clear k0 k1 k2 j1 j2 I61
  generalize nw_A _ 61 a61 = A at I62
  refine ev_aload_n dX12_init_345 rfl rfl ?_
  refine ev_bipush (v := 20) dX12_init_346 (by decide) ?_
  have I63 := I62.skip (by decide) (by decide)
  refine ev_newa2_int (N := 20) (b := 9) (n := 340) hE dX12_init_348 a_int (by decide) (by decide) (by decide) (by decide) (by decide) (fun a63 g1 k0 k1 k2 => ?_)
  refine ev_putF2 hE rfl dX12_init_350 pX12_143 (I63.q1 k0 k2) (by rw [nw_fs_len]; exact Nat.le_of_ble_eq_true rfl) rfl rfl (fun g j1 j2 => ?_)
  have I64 := I63.arr (by decide) (by decide) (nw_cI (by decide)) k0 k1 k2 j1 j2
  clear k0 k1 k2 j1 j2 I63
  generalize nw_A _ 63 a63 = A at I64
  refine ev_aload_n dX12_init_353 rfl rfl ?_
  refine ev_bipush (v := 20) dX12_init_354 (by decide) ?_
  refine ev_newa2_int (N := 20) (b := 8) (n := 320) hE dX12_init_356 a_int (by decide) (by decide) (by decide) (by decide) (by decide) (fun a64 g1 k0 k1 k2 => ?_)
  refine ev_putF2 hE rfl dX12_init_358 pX12_146 (I64.q1 k0 k2) (by rw [nw_fs_len]; exact Nat.le_of_ble_eq_true rfl) rfl rfl (fun g j1 j2 => ?_)
  have I65 := I64.arr (by decide) (by decide) (nw_cI (by decide)) k0 k1 k2 j1 j2
  clear k0 k1 k2 j1 j2 I64
  generalize nw_A _ 64 a64 = A at I65
  refine ev_aload_n dX12_init_361 rfl rfl ?_
  refine ev_bipush (v := 20) dX12_init_362 (by decide) ?_
  refine ev_newa2_int (N := 20) (b := 7) (n := 300) hE dX12_init_364 a_int (by decide) (by decide) (by decide) (by decide) (by decide) (fun a65 g1 k0 k1 k2 => ?_)
  refine ev_putF2 hE rfl dX12_init_366 pX12_149 (I65.q1 k0 k2) (by rw [nw_fs_len]; exact Nat.le_of_ble_eq_true rfl) rfl rfl (fun g j1 j2 => ?_)
  have I66 := I65.arr (by decide) (by decide) (nw_cI (by decide)) k0 k1 k2 j1 j2
  clear k0 k1 k2 j1 j2 I65
  generalize nw_A _ 65 a65 = A at I66
  refine ev_aload_n dX12_init_369 rfl rfl ?_
  refine ev_bipush (v := 20) dX12_init_370 (by decide) ?_
  refine ev_newa2_int (N := 20) (b := 6) (n := 280) hE dX12_init_372 a_int (by decide) (by decide) (by decide) (by decide) (by decide) (fun a66 g1 k0 k1 k2 => ?_)
  refine ev_putF2 hE rfl dX12_init_374 pX12_152 (I66.q1 k0 k2) (by rw [nw_fs_len]; exact Nat.le_of_ble_eq_true rfl) rfl rfl (fun g j1 j2 => ?_)
  have I67 := I66.arr (by decide) (by decide) (nw_cI (by decide)) k0 k1 k2 j1 j2
  clear k0 k1 k2 j1 j2 I66
  generalize nw_A _ 66 a66 = A at I67
  refine ev_aload_n dX12_init_377 rfl rfl ?_
  refine ev_bipush (v := 20) dX12_init_378 (by decide) ?_
  refine ev_newa2_int (N := 20) (b := 5) (n := 260) hE dX12_init_380 a_int (by decide) (by decide) (by decide) (by decide) (by decide) (fun a67 g1 k0 k1 k2 => ?_)
  refine ev_putF2 hE rfl dX12_init_382 pX12_155 (I67.q1 k0 k2) (by rw [nw_fs_len]; exact Nat.le_of_ble_eq_true rfl) rfl rfl (fun g j1 j2 => ?_)
  have I68 := I67.arr (by decide) (by decide) (nw_cI (by decide)) k0 k1 k2 j1 j2
  clear k0 k1 k2 j1 j2 I67
  generalize nw_A _ 67 a67 = A at I68
  refine ev_aload_n dX12_init_385 rfl rfl ?_
  refine ev_bipush (v := 20) dX12_init_386 (by decide) ?_
  refine ev_newa2_int (N := 20) (b := 4) (n := 240) hE dX12_init_388 a_int (by decide) (by decide) (by decide) (by decide) (by decide) (fun a68 g1 k0 k1 k2 => ?_)
  refine ev_putF2 hE rfl dX12_init_390 pX12_158 (I68.q1 k0 k2) (by rw [nw_fs_len]; exact Nat.le_of_ble_eq_true rfl) rfl rfl (fun g j1 j2 => ?_)
  have I69 := I68.arr (by decide) (by decide) (nw_cI (by decide)) k0 k1 k2 j1 j2
  clear k0 k1 k2 j1 j2 I68
  generalize nw_A _ 68 a68 = A at I69
  refine ev_aload_n dX12_init_393 rfl rfl ?_
  refine ev_bipush (v := 60) dX12_init_394 (by decide) ?_
  have I70 := I69.skip (by decide) (by decide)
  have I71 := I70.skip (by decide) (by decide)
  have I72 := I71.skip (by decide) (by decide)
  have I73 := I72.skip (by decide) (by decide)
  have I74 := I73.skip (by decide) (by decide)
  refine ev_newa2_int (N := 60) (b := 3) (n := 180) hE dX12_init_396 a_int (by decide) (by decide) (by decide) (by decide) (by decide) (fun a74 g1 k0 k1 k2 => ?_)
  refine ev_putF2 hE rfl dX12_init_398 pX12_161 (I74.q1 k0 k2) (by rw [nw_fs_len]; exact Nat.le_of_ble_eq_true rfl) rfl rfl (fun g j1 j2 => ?_)
  have I75 := I74.arr (by decide) (by decide) (nw_cI (by decide)) k0 k1 k2 j1 j2
  clear k0 k1 k2 j1 j2 I74
  generalize nw_A _ 74 a74 = A at I75
  refine ev_aload_n dX12_init_401 rfl rfl ?_
  refine ev_bipush (v := 60) dX12_init_402 (by decide) ?_
  refine ev_newa2_int (N := 60) (b := 2) (n := 120) hE dX12_init_404 a_int (by decide) (by decide) (by decide) (by decide) (by decide) (fun a75 g1 k0 k1 k2 => ?_)
  refine ev_putF2 hE rfl dX12_init_406 pX12_164 (I75.q1 k0 k2) (by rw [nw_fs_len]; exact Nat.le_of_ble_eq_true rfl) rfl rfl (fun g j1 j2 => ?_)
  have I76 := I75.arr (by decide) (by decide) (nw_cI (by decide)) k0 k1 k2 j1 j2
  clear k0 k1 k2 j1 j2 I75
  generalize nw_A _ 75 a75 = A at I76
  refine ev_aload_n dX12_init_409 rfl rfl ?_
  refine ev_bipush (v := 60) dX12_init_410 (by decide) ?_
  refine ev_newa2_int (N := 60) (b := 1) (n := 60) hE dX12_init_412 a_int (by decide) (by decide) (by decide) (by decide) (by decide) (fun a76 g1 k0 k1 k2 => ?_)
  refine ev_putF2 hE rfl dX12_init_414 pX12_167 (I76.q1 k0 k2) (by rw [nw_fs_len]; exact Nat.le_of_ble_eq_true rfl) rfl rfl (fun g j1 j2 => ?_)
  have I77 := I76.arr (by decide) (by decide) (nw_cI (by decide)) k0 k1 k2 j1 j2
  clear k0 k1 k2 j1 j2 I76
  generalize nw_A _ 76 a76 = A at I77
  refine ev_aload_n dX12_init_417 rfl rfl ?_
  refine ev_bipush (v := 60) dX12_init_418 (by decide) ?_
  refine ev_newa2_int (N := 60) (b := 0) (n := 0) hE dX12_init_420 a_int (by decide) (by decide) (by decide) (by decide) (by decide) (fun a77 g1 k0 k1 k2 => ?_)
  refine ev_putF2 hE rfl dX12_init_422 pX12_170 (I77.q1 k0 k2) (by rw [nw_fs_len]; exact Nat.le_of_ble_eq_true rfl) rfl rfl (fun g j1 j2 => ?_)
  have I78 := I77.arr (by decide) (by decide) (nw_cI (by decide)) k0 k1 k2 j1 j2
  clear k0 k1 k2 j1 j2 I77
  generalize nw_A _ 77 a77 = A at I78
  exact ev_vret dX12_init_425 rfl ⟨rfl, _, I78.fin⟩
end DU
