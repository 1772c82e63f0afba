section ED
/-! what the statement gives of the start -/
theorem fx_A {l : Launch} {s : State} {D : va_G} {cy : Nat → ClassId} : ∀ a : Nat, a < s.heap.size → ¬ ev_A (l, s, D, cy) a := fun _ h => Nat.not_le.mpr h
def fx_N : List Cond := flatC (Jvm.Cond.and given_1 narrow_1)
/-- the words of a text -/
def fx_lit (own : String) (q : Nat × List Nat) : List Cond := [.exactly (.string own q.1) "java/lang/String", .eq (.field (.string own q.1) "java/lang/String" "coder" "B") (.int 0), .arrayOf (.field (.string own q.1) "java/lang/String" "value" "[B") .byte, .eq (.length (.field (.string own q.1) "java/lang/String" "value" "[B")) (.int (Int32.ofNat q.2.length))] ++ (List.range q.2.length).map (fun j => .eq (.elem (.field (.string own q.1) "java/lang/String" "value" "[B") (.int (Int32.ofNat j))) (.int (nI (q.2.getD j 0))))
theorem fx_str {l : Launch} {s : State} {D : va_G} {cy : Nat → ClassId} {args : Array Value} {own tx : String} {q : Nat × List Nat} (hst : (Cond.stringRef own q.1 tx).before args s = true) (hw : ∀ w, w ∈ fx_lit own q → w.before args s = true) (hL : q.2.length < 64 ∧ ∀ c, c ∈ q.2 → c < 128) : ev_lit (l, s, D, cy) own q.1 q.2 := by
  have h0 : ∀ w, w ∈ ([.exactly (.string own q.1) "java/lang/String", .eq (.field (.string own q.1) "java/lang/String" "coder" "B") (.int 0), .arrayOf (.field (.string own q.1) "java/lang/String" "value" "[B") .byte, .eq (.length (.field (.string own q.1) "java/lang/String" "value" "[B")) (.int (Int32.ofNat q.2.length))] : List Cond) → w.before args s = true := fun w h => hw w (List.mem_append_left _ h)
  have hel : ∀ j : Nat, j < q.2.length → (Cond.eq (.elem (.field (.string own q.1) "java/lang/String" "value" "[B") (.int (Int32.ofNat j))) (.int (nI (q.2.getD j 0)))).before args s = true := fun j hj => hw _ (List.mem_append_right _ (List.mem_map.mpr ⟨j, List.mem_range.mpr hj, rfl⟩))
  obtain ⟨a, c, cA, kA, q1, q2, q3, q4, q5, q6, -⟩ := Cond.exactly_spec (args := args) (first := s) (o := none) (s := s) (idx := []) (t := .string own q.1) (cls := "java/lang/String") (h0 _ List.mem_cons_self)
  obtain ⟨t, ht, hT⟩ := va_Tof (f := fun j => .int (nI (q.2.getD j 0))) (A := ev_A (l, s, D, cy)) (by omega) (h0 _ (List.mem_cons_of_mem _ (List.mem_cons_of_mem _ List.mem_cons_self))) (va_eqt (h0 _ (List.mem_cons_of_mem _ (List.mem_cons_of_mem _ (List.mem_cons_of_mem _ List.mem_cons_self))))) (fun j hj => va_eqt (hel j hj)) fx_A
  exact ⟨tx, a, vk_R.of hst q1, t, ⟨cA, q3, q5, by rw [q6]; exact q2, fx_A a (Array.getElem?_eq_some_iff.mp q3).1⟩, vk_OFof q1 (va_eqt (h0 _ (List.mem_cons_of_mem _ List.mem_cons_self))) fx_A, vk_OFof q1 ht fx_A, hT, hL.1, hL.2⟩
/-- arrays of simple things -/
theorem fx_ar {s : State} {args : Array Value} {ty : FieldType} (h : (Cond.arrayClass ty).before args s = true) : ∃ c : ClassId, ArrOfT s c ty ∧ s.vm.findClass ("[" ++ ty.toString) = some c := by
  obtain ⟨c, k, comp, h1, h2, h3⟩ := Cond.arrayClass_spec h
  exact ⟨c, fun n z => ⟨fun k h => (by cases h), k, h2, comp, h3⟩, h1⟩
theorem fx_arO {s : State} {args : Array Value} (h : (Cond.arrayOver (.object "java/lang/Object")).before args s = true) : ∃ c : ClassId, ArrOfT s c (.object "java/lang/Object") ∧ va_RA s c (.object "java/lang/Object") := by
  obtain ⟨comp, c, k, h1, -, h3, h4, h5⟩ := Cond.arrayOver_spec h
  exact ⟨c, fun n z => ⟨fun k h => (by cases h), k, h3, comp, h4⟩, k, comp, h3, h4, h1, h5⟩
theorem fx_arA {s : State} {args : Array Value} (h : (Cond.arrayOver (.array .int)).before args s = true) : ∃ c : ClassId, ArrOfT s c (.array .int) ∧ va_RA s c (.array .int) := by
  obtain ⟨comp, c, k, a1, a2, a3, a4, a5⟩ := arrayOverA_spec (args := args) (idx := []) (o := none) h
  exact ⟨c, fun n z => ⟨fun k h => (by cases h), k, a3, comp, a4⟩, a5⟩
section S
variable {s : State} {args : Array Value}
theorem fx_cl (hts : ∀ w ∈ lw_tbl, w.before args s = true) : ∃ D : va_G, ∀ (k : Nat) (q : vw_C), vwCl[k]? = some q → u_Kn s q.1 q.2.1 q.2.2 (D.1 k) (D.2 k) := by
  have h : ∀ k : Nat, ∃ d : ClassId × (Nat → Nat), ∀ q : vw_C, vwCl[k]? = some q → u_Kn s q.1 q.2.1 q.2.2 d.1 d.2 := fun k => by
    match k with
    | 0 =>
      obtain ⟨c, i, h⟩ := u_known (C := RJx4a65c) (T := TJx4a65c) (N := 3) (n := 3) hts innJx4a65c (hts _ (List.mem_append_right _ (List.mem_of_getElem? (i := 42) (by decide +kernel))))
      exact ⟨(c, i), fun q hq => by cases hq; exact h⟩
    | 1 =>
      obtain ⟨c, i, h⟩ := u_known (C := RX0) (T := TX0) (N := 5) (n := 5) hts innX0 (hts _ (List.mem_append_right _ (List.mem_of_getElem? (i := 1248) (by decide +kernel))))
      exact ⟨(c, i), fun q hq => by cases hq; exact h⟩
    | 2 =>
      obtain ⟨c, i, h⟩ := u_known (C := RX1) (T := TX1) (N := 5) (n := 5) hts innX1 (hts _ (List.mem_append_right _ (List.mem_of_getElem? (i := 443) (by decide +kernel))))
      exact ⟨(c, i), fun q hq => by cases hq; exact h⟩
    | 3 =>
      obtain ⟨c, i, h⟩ := u_known (C := RX2) (T := TX2) (N := 6) (n := 6) hts innX2 (hts _ (List.mem_append_right _ (List.mem_of_getElem? (i := 203) (by decide +kernel))))
      exact ⟨(c, i), fun q hq => by cases hq; exact h⟩
    | 4 =>
      obtain ⟨c, i, h⟩ := u_known (C := RX3) (T := TX3) (N := 4) (n := 4) hts innX3 (hts _ (List.mem_append_right _ (List.mem_of_getElem? (i := 231) (by decide +kernel))))
      exact ⟨(c, i), fun q hq => by cases hq; exact h⟩
    | 5 =>
      obtain ⟨c, i, h⟩ := u_known (C := RX4) (T := TX4) (N := 13) (n := 13) hts innX4 (hts _ (List.mem_append_right _ (List.mem_of_getElem? (i := 68) (by decide +kernel))))
      exact ⟨(c, i), fun q hq => by cases hq; exact h⟩
    | 6 =>
      obtain ⟨c, i, h⟩ := u_known (C := RX5) (T := TX5) (N := 17) (n := 17) hts innX5 (hts _ (List.mem_append_right _ (List.mem_of_getElem? (i := 437) (by decide +kernel))))
      exact ⟨(c, i), fun q hq => by cases hq; exact h⟩
    | 7 =>
      obtain ⟨c, i, h⟩ := u_known (C := RX6) (T := TX6) (N := 3) (n := 3) hts innX6 (hts _ (List.mem_append_right _ (List.mem_of_getElem? (i := 186) (by decide +kernel))))
      exact ⟨(c, i), fun q hq => by cases hq; exact h⟩
    | 8 =>
      obtain ⟨c, i, h⟩ := u_known (C := RX7) (T := TX7) (N := 10) (n := 10) hts innX7 (hts _ (List.mem_append_right _ (List.mem_of_getElem? (i := 136) (by decide +kernel))))
      exact ⟨(c, i), fun q hq => by cases hq; exact h⟩
    | 9 =>
      obtain ⟨c, i, h⟩ := u_known (C := RX8) (T := TX8) (N := 2) (n := 2) hts innX8 (hts _ (List.mem_append_right _ (List.mem_of_getElem? (i := 679) (by decide +kernel))))
      exact ⟨(c, i), fun q hq => by cases hq; exact h⟩
    | 10 =>
      obtain ⟨c, i, h⟩ := u_known (C := RX9) (T := TX9) (N := 3) (n := 3) hts innX9 (hts _ (List.mem_append_right _ (List.mem_of_getElem? (i := 465) (by decide +kernel))))
      exact ⟨(c, i), fun q hq => by cases hq; exact h⟩
    | 11 =>
      obtain ⟨c, i, h⟩ := u_known (C := RX10) (T := TX10) (N := 1) (n := 1) hts innX10 (hts _ (List.mem_append_right _ (List.mem_of_getElem? (i := 176) (by decide +kernel))))
      exact ⟨(c, i), fun q hq => by cases hq; exact h⟩
    | 12 =>
      obtain ⟨c, i, h⟩ := u_known (C := RX11) (T := TX11) (N := 13) (n := 13) hts innX11 (hts _ (List.mem_append_right _ (List.mem_of_getElem? (i := 34) (by decide +kernel))))
      exact ⟨(c, i), fun q hq => by cases hq; exact h⟩
    | 13 =>
      obtain ⟨c, i, h⟩ := u_known (C := RX12) (T := TX12) (N := 78) (n := 78) hts innX12 (hts _ (List.mem_append_right _ (List.mem_of_getElem? (i := 1370) (by decide +kernel))))
      exact ⟨(c, i), fun q hq => by cases hq; exact h⟩
    | k + 14 => exact ⟨(0, fun _ => 0), fun q hq => absurd hq (by simp [vwCl])⟩
  obtain ⟨f, hf⟩ := Classical.axiomOfChoice h
  exact ⟨(fun k => (f k).1, fun k => (f k).2), fun k q hq => hf k q hq⟩
def fx_t12 : List (Nat × Nat × String) := [(242, 1701, "part"), (244, 1702, "pages"), (245, 1703, "price"), (246, 1704, "fine"), (248, 1705, "new"), (250, 1706, "swap"), (252, 1707, "waste"), (254, 1708, "least"), (256, 1709, "rest"), (258, 1710, "way"), (260, 1791, "daily"), (262, 1792, "weekly"), (264, 1793, "party"), (266, 1755, "base"), (267, 1797, "points"), (268, 1798, "alike"), (270, 1799, "bids"), (272, 1756, "copies"), (273, 1757, "kind"), (274, 1758, "month"), (276, 1759, "stock"), (277, 1760, "used"), (320, 1765, "if"), (325, 1782, "min"), (327, 1783, "max"), (354, 1800, "most"), (356, 1801, "keep")]
theorem fx_t12_ok : ∀ p, p ∈ fx_t12 → tables_1[p.2.1]? = some (Cond.stringRef RX12 p.1 p.2.2) := by decide +kernel
def fx_t7 : List (Nat × Nat × String) := [(100, 782, "part pages price fine new swap waste least rest way"), (180, 878, "base copies pages price kind month stock used min max if"), (153, 909, "daily weekly party"), (139, 918, "most keep"), (148, 919, "base points alike bids")]
theorem fx_t7_ok : ∀ p, p ∈ fx_t7 → tables_1[p.2.1]? = some (Cond.stringRef RX7 p.1 p.2.2) := by decide +kernel
def fx_t11 : List (Nat × Nat × String) := [(95, 430, "there are 12 papers"), (158, 734, "no such ward"), (241, 1046, "above month 600"), (342, 394, "a number is none such"), (351, 647, "no such paper"), (353, 704, "no such reel"), (355, 1283, "no such appeal")]
theorem fx_t11_ok : ∀ p, p ∈ fx_t11 → tables_1[p.2.1]? = some (Cond.stringRef RX11 p.1 p.2.2) := by decide +kernel
theorem fx_i12 : ps_lits.map (fun q => q.1) = fx_t12.map (fun p => p.1) := by decide +kernel
theorem fx_i7 : ev_rl.map (fun q => q.1) = fx_t7.map (fun p => p.1) := by decide +kernel
theorem fx_i11 : ev_tx = fx_t11.map (fun p => p.1) := by decide +kernel
theorem fx_sub {own : String} {L : List (Nat × List Nat)} {P : List Nat} (h1 : (L.zip P).map (fun z => z.1) = L) (h2 : (L.zip P).map (fun z => (fx_N.drop z.2).take (4 + z.1.2.length)) = (L.zip P).map (fun z => fx_lit own z.1)) : ∀ q, q ∈ L → ∀ w, w ∈ fx_lit own q → w ∈ fx_N := fun q hq w hw => by
  rw [← h1] at hq
  obtain ⟨z, hz, rfl⟩ := List.mem_map.mp hq
  have e := List.map_inj_left.mp h2 z hz
  rw [← e] at hw
  exact List.mem_of_mem_drop (List.mem_of_mem_take hw)
def fx_p12 : List Nat := [374, 382, 391, 400, 408, 415, 423, 432, 441, 449, 528, 537, 547, 456, 556, 566, 575, 464, 474, 482, 491, 500, 508, 514, 521, 583, 591]
theorem fx_w12 : ∀ q, q ∈ ps_lits → ∀ w, w ∈ fx_lit RX12 q → w ∈ fx_N := fx_sub (P := fx_p12) (by decide +kernel) (by decide +kernel)
theorem fx_w7 : ∀ q, q ∈ ev_rl → ∀ w, w ∈ fx_lit RX7 q → w ∈ fx_N := fx_sub (P := [161, 216, 276, 298, 311]) (by decide +kernel) (by decide +kernel)
theorem fx_w11 : ∀ i, i ∈ ev_tx → Cond.exactly (.string RX11 i) "java/lang/String" ∈ fx_N := by decide +kernel
theorem fx_c12 : ∀ q, q ∈ ps_lits → q.2.length < 64 ∧ ∀ c, c ∈ q.2 → c < 128 := by decide +kernel
theorem fx_c7 : ∀ q, q ∈ ev_rl → q.2.length < 64 ∧ ∀ c, c ∈ q.2 → c < 128 := by decide +kernel
/-- a text's place in the tables -/
theorem fx_ref {own : String} {t : List (Nat × Nat × String)} {L : List Nat} (hts : ∀ w ∈ lw_tbl, w.before args s = true) (ht : ∀ p, p ∈ t → tables_1[p.2.1]? = some (Cond.stringRef own p.1 p.2.2)) (hL : L = t.map (fun p => p.1)) {i : Nat} (hi : i ∈ L) : ∃ tx : String, (Cond.stringRef own i tx).before args s = true := by
  rw [hL] at hi
  obtain ⟨p, hp, rfl⟩ := List.mem_map.mp hi
  exact ⟨p.2.2, hts _ (List.mem_append_right _ (List.mem_of_getElem? (ht p hp)))⟩
def fx_pn : Nat → Nat := fun k => ([1328, 444, 466, 857, 137, 177, 187, 204, 232] : List Nat).getD k 0
theorem fx_nn : ∀ k, k < 9 → ∃ q, ev_nn[k]? = some q ∧ tables_1[fx_pn k]? = some (Cond.methodLinkNest q.1 q.2.1 q.2.2 RX11) := by
  intro k hk
  match k, hk with
  | 0, _ => exact ⟨_, rfl, by decide +kernel⟩
  | 1, _ => exact ⟨_, rfl, by decide +kernel⟩
  | 2, _ => exact ⟨_, rfl, by decide +kernel⟩
  | 3, _ => exact ⟨_, rfl, by decide +kernel⟩
  | 4, _ => exact ⟨_, rfl, by decide +kernel⟩
  | 5, _ => exact ⟨_, rfl, by decide +kernel⟩
  | 6, _ => exact ⟨_, rfl, by decide +kernel⟩
  | 7, _ => exact ⟨_, rfl, by decide +kernel⟩
  | 8, _ => exact ⟨_, rfl, by decide +kernel⟩
  | k + 9, h => exact absurd h (by omega)
def fx_pw : Nat → Nat := fun k => ([355, 423, 640, 2033, 2037, 2024, 2038, 903, 357, 359, 361] : List Nat).getD k 0
theorem fx_nw : ∀ k, k < 11 → ∃ w, ev_nw[k]? = some w ∧ w.onTables = true ∧ tables_1[fx_pw k]? = some w := by
  intro k hk
  match k, hk with
  | 0, _ => exact ⟨_, rfl, rfl, by decide +kernel⟩
  | 1, _ => exact ⟨_, rfl, rfl, by decide +kernel⟩
  | 2, _ => exact ⟨_, rfl, rfl, by decide +kernel⟩
  | 3, _ => exact ⟨_, rfl, rfl, by decide +kernel⟩
  | 4, _ => exact ⟨_, rfl, rfl, by decide +kernel⟩
  | 5, _ => exact ⟨_, rfl, rfl, by decide +kernel⟩
  | 6, _ => exact ⟨_, rfl, rfl, by decide +kernel⟩
  | 7, _ => exact ⟨_, rfl, rfl, by decide +kernel⟩
  | 8, _ => exact ⟨_, rfl, rfl, by decide +kernel⟩
  | 9, _ => exact ⟨_, rfl, rfl, by decide +kernel⟩
  | 10, _ => exact ⟨_, rfl, rfl, by decide +kernel⟩
  | k + 11, h => exact absurd h (by omega)
theorem fx_start {l : Launch} (hl : l.stackTraces = false) (hts : ∀ w ∈ lw_tbl, w.before args s = true) (hgv : (Jvm.Cond.and given_1 narrow_1).before args s = true) : ∃ (D : va_G) (cy : Nat → ClassId) (D0 : Nat), ev_En (l, s, D, cy) ∧ ev_En4 (l, s, D, cy) D0 ∧ la_N (l, s, D, cy) := by
  have hs : ∀ w, w ∈ fx_N → w.before args s = true := flat_of_before _ hgv
  obtain ⟨D, hD⟩ := fx_cl hts
  obtain ⟨c0, a0, b0⟩ := fx_ar (ty := .int) (hts _ (List.mem_append_right _ (List.mem_of_getElem? (i := 134) (by decide +kernel))))
  obtain ⟨c1, a1, b1⟩ := fx_ar (ty := .long) (hts _ (List.mem_append_right _ (List.mem_of_getElem? (i := 201) (by decide +kernel))))
  obtain ⟨c2, a2, b2⟩ := fx_ar (ty := .byte) (hts _ (List.mem_append_right _ (List.mem_of_getElem? (i := 420) (by decide +kernel))))
  obtain ⟨c3, a3, b3⟩ := fx_ar (ty := .boolean) (hts _ (List.mem_append_right _ (List.mem_of_getElem? (i := 1610) (by decide +kernel))))
  have hO : (Cond.arrayOver (.object "java/lang/Object")).before args s = true := hts _ (List.mem_append_right _ (List.mem_of_getElem? (i := 616) (by decide +kernel)))
  have hAI : (Cond.arrayOver (.array .int)).before args s = true := hts _ (List.mem_append_right _ (List.mem_of_getElem? (i := 209) (by decide +kernel)))
  obtain ⟨c4, a4, b4⟩ := fx_arO hO
  obtain ⟨c5, a5, b5⟩ := fx_arA hAI
  obtain ⟨cy, y0, y1, y2, y3, y4, y5⟩ : ∃ cy : Nat → ClassId, cy 0 = c0 ∧ cy 1 = c1 ∧ cy 2 = c2 ∧ cy 3 = c3 ∧ cy 4 = c4 ∧ cy 5 = c5 := ⟨fun k => match k with | 0 => c0 | 1 => c1 | 2 => c2 | 3 => c3 | 4 => c4 | _ => c5, rfl, rfl, rfl, rfl, rfl, rfl⟩
  obtain ⟨D0, hD0, hT0⟩ := va_Tof (s := s) (args := args) (tm := .static "java/util/ArrayList" "DEFAULTCAPACITY_EMPTY_ELEMENTDATA" "[Ljava/lang/Object;") (ty := .object "java/lang/Object") (N := 0) (f := fun _ => .null) (A := ev_A (l, s, D, cy)) (by decide) (hs _ (by decide +kernel)) (va_eqt (hs _ (by decide +kernel))) (fun j hj => absurd hj (by omega)) fx_A
  obtain ⟨mi, hmi⟩ := va_Mi.of (args := args) (s := s) (C := "[Ljava/lang/Object;") (hs _ (by decide +kernel))
  refine ⟨D, cy, D0, ⟨⟨hD, fun k q hk => ?_⟩, hl⟩, ⟨⟨⟨?_, ?_⟩, fun q hq => ?_⟩, ⟨?_, ?_⟩, ⟨?_, hT0⟩, fun w hw => ?_, fun q hq => ?_, fun i hi => ?_, fun q hq => ?_, ⟨mi, hmi⟩, va_Dc.of (A := args) (hts _ (List.mem_append_right _ (List.mem_of_getElem? (i := 2043) (by decide +kernel)))), va_AO.of (A := args) hO, hAI⟩, ⟨va_Nc.of (hs _ (by decide +kernel)), va_Nc.of (hs _ (by decide +kernel))⟩⟩
  · match k, hk with
    | 0, hk => cases hk; dsimp only; rw [y0]; exact ⟨a0, b0⟩
    | 1, hk => cases hk; dsimp only; rw [y1]; exact ⟨a1, b1⟩
    | 2, hk => cases hk; dsimp only; rw [y2]; exact ⟨a2, b2⟩
    | 3, hk => cases hk; dsimp only; rw [y3]; exact ⟨a3, b3⟩
    | 4, hk => cases hk; dsimp only; rw [y4]; exact ⟨a4, b4⟩
    | 5, hk => cases hk; dsimp only; rw [y5]; exact ⟨a5, b5⟩
    | k + 6, hk => exact absurd hk (by simp [ev_tys])
  · exact va_Zof (hts _ (List.mem_append_right _ (List.mem_of_getElem? (i := 796) (by decide +kernel)))) (hts _ (List.mem_append_right _ (List.mem_of_getElem? (i := 28) (by decide +kernel)))) (va_eqi (hs _ (by decide +kernel))) fx_A
  · have h := va_Zqof (A := ev_A (l, s, D, cy)) (s := s) (args := args) (C := "jdk/internal/util/Preconditions") (n := "SIOOBE_FORMATTER") (d := "Ljava/util/function/BiFunction;") (hts _ (List.mem_append_right _ (List.mem_of_getElem? (i := 812) (by decide +kernel)))) (hts _ (List.mem_append_right _ (List.mem_of_getElem? (i := 26) (by decide +kernel)))) (hs _ (by decide +kernel)) fx_A
    rcases h with h | ⟨t, h⟩
    · exact ⟨.null, Or.inl rfl, h⟩
    · exact ⟨.ref t, Or.inr ⟨t, rfl⟩, h⟩
  · obtain ⟨tx, h⟩ := fx_ref hts fx_t12_ok fx_i12 (List.mem_map.mpr ⟨q, hq, rfl⟩)
    exact fx_str h (fun w hw => hs w (fx_w12 q hq w hw)) (fx_c12 q hq)
  · exact vx_Zqof (args := args) (hts _ (List.mem_append_right _ (List.mem_of_getElem? (i := 380) (by decide +kernel)))) (hts _ (List.mem_append_right _ (List.mem_of_getElem? (i := 12) (by decide +kernel)))) (hs _ (by decide +kernel)) fx_A
  · exact vx_Zqof (args := args) (hts _ (List.mem_append_right _ (List.mem_of_getElem? (i := 382) (by decide +kernel)))) (hts _ (List.mem_append_right _ (List.mem_of_getElem? (i := 12) (by decide +kernel)))) (hs _ (by decide +kernel)) fx_A
  · exact va_Zref (hts _ (List.mem_append_right _ (List.mem_of_getElem? (i := 54) (by decide +kernel)))) (hts _ (List.mem_append_right _ (List.mem_of_getElem? (i := 4) (by decide +kernel)))) hD0 fx_A
  · obtain ⟨k, hk⟩ := List.getElem?_of_mem hw
    have hlt : k < 11 := (List.getElem?_eq_some_iff.mp hk).1
    obtain ⟨w', h1, h2, h3⟩ := fx_nw k hlt
    cases hk.symm.trans h1
    exact va_Nw.of h2 (hts _ (List.mem_append_right _ (List.mem_of_getElem? h3)))
  · obtain ⟨k, hk⟩ := List.getElem?_of_mem hq
    have hlt : k < 9 := (List.getElem?_eq_some_iff.mp hk).1
    obtain ⟨q', h1, h3⟩ := fx_nn k hlt
    cases hk.symm.trans h1
    exact va_Nw.of rfl (hts _ (List.mem_append_right _ (List.mem_of_getElem? h3)))
  · obtain ⟨tx, h⟩ := fx_ref hts fx_t11_ok fx_i11 hi
    obtain ⟨a, c, cA, kA, q1, -⟩ := Cond.exactly_spec (args := args) (first := s) (o := none) (s := s) (idx := []) (t := .string RX11 i) (cls := "java/lang/String") (hs _ (fx_w11 i hi))
    exact ⟨tx, a, vk_R.of h q1⟩
  · obtain ⟨tx, h⟩ := fx_ref hts fx_t7_ok fx_i7 (List.mem_map.mpr ⟨q, hq, rfl⟩)
    exact fx_str h (fun w hw => hs w (fx_w7 q hq w hw)) (fx_c7 q hq)
end S
end ED
