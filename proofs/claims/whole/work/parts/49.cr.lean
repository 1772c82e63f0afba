section CR
def cw_OL : List Nat := [0, 1, 4, 7, 9, 13, 19, 20, 23, 24, 27, 28, 33]
def cw_AL : List Nat := [3, 5, 6, 8, 10, 11, 15, 16, 17, 18, 21, 22, 25, 26, 29, 30, 31, 32, 34]
theorem cw_n_cg {C C2 : mo_S} (hs : ∀ f, f ∈ cw_S → C2.1 f = C.1 f) (l : Nat) : cw_n C2 l = cw_n C l := by
  have h1 := hs 1 (by decide)
  have h21 := hs 21 (by decide)
  have h29 := hs 29 (by decide)
  have h62 := hs 62 (by decide)
  have q : ∀ x, x = 1 ∨ x = 21 ∨ x = 29 ∨ x = 62 → C2.1 x = C.1 x := fun x hx => by
    rcases hx with rfl | rfl | rfl | rfl <;> assumption
  unfold cw_n
  rw [q]
  unfold cw_sz
  split <;> simp
theorem cw_at_cg {G : ev_G} {W : cw_W} {C C2 : mo_S} {g g2 : ev_H} {k i : Nat} (hB : cw_B C) (hl : cw_lv C k i) (hs : ∀ f, f ∈ cw_S → C2.1 f = C.1 f) (ho : ∀ f x, cw_ow f x = (k, i) → C2.1 f x = C.1 f x) (h2 : k = 12 → C2.2 = C.2) (hg : g2 (W k i) = g (W k i)) (h : cw_at G W C g k i) : cw_at G W C2 g2 k i := by
  obtain ⟨a1, a2, a3, a4, a5⟩ := h
  refine ⟨fun ci fs e => ?_, fun n hh e => ?_, fun e => ?_, fun e => ?_, fun e => ?_⟩
  · rw [cw_ob_cg hl hs ho] at e
    rw [hg]; exact a1 ci fs e
  · obtain ⟨h', e', q⟩ := cw_ar_cg hB hl hs ho e
    exact (a2 n h' e').mv hg rfl q
  · obtain ⟨f, b1, b2⟩ := a3 e
    exact ⟨f, by rw [hg, hs 132 (by decide)]; exact b1, by rw [cw_n_cg hs]; exact b2⟩
  · obtain ⟨f, b1, b2⟩ := a4 e
    exact ⟨f, by rw [hg]; exact b1, by rw [h2 e]; exact b2⟩
  · obtain ⟨f, b1, b2⟩ := a5 e
    have e9 : cw_M C2 = cw_M C := by unfold cw_M; rw [hs 134 (by decide)]
    exact ⟨f, by rw [hg]; exact b1, by rw [e9]; exact b2⟩
section CT
variable {G : ev_G} {K : Nat → Prop} {g0 g : ev_H} {W : cw_W} {C C2 : mo_S}
theorem cw_T.B (hT : cw_T G K g0 W g C) : cw_B C := hT.1
theorem cw_T.at (hT : cw_T G K g0 W g C) {k i : Nat} (hl : cw_lv C k i) : cw_at G W C g k i := (hT.2.2.1 k i hl).1
/-- one thing changes, and its own numbers -/
theorem cw_T.set {k i : Nat} {e : va_E} (hT : cw_T G K g0 W g C) (hl : cw_lv C k i) (hs : ∀ f, f ∈ cw_S → C2.1 f = C.1 f) (hn : ∀ f x, cw_ow f x ≠ (k, i) → C2.1 f x = C.1 f x) (h2 : k ≠ 12 → C2.2 = C.2) (hat : cw_at G W C2 (ev_up g (W k i) e) k i) : cw_T G K g0 W (ev_up g (W k i) e) C2 := by
  obtain ⟨hB, hK, hA, hD⟩ := hT
  refine ⟨cw_B_cg hs hB, fun a ha => ?_, fun k' i' hl' => ?_, fun k' i' k2 i2 q1 q2 => hD k' i' k2 i2 ((cw_lv_cg hs k' i').mp q1) ((cw_lv_cg hs k2 i2).mp q2)⟩
  · have q : a ≠ W k i := fun q => (hA k i hl).2 (q ▸ ha)
    rw [ev_up_n _ _ q]
    exact hK a ha
  · have hl' := (cw_lv_cg hs k' i').mp hl'
    refine ⟨?_, (hA k' i' hl').2⟩
    by_cases q : k' = k ∧ i' = i
    · obtain ⟨rfl, rfl⟩ := q
      exact hat
    · have hne : W k' i' ≠ W k i := fun e => q (hD k' i' k i hl' hl e)
      refine cw_at_cg hB hl' hs (fun f x e => hn f x (by rw [e]; intro q2; cases q2; exact q ⟨rfl, rfl⟩)) (fun e => h2 (fun e2 => ?_)) (ev_up_n _ _ hne) (hA k' i' hl').1
      subst e e2
      have a1 : i' = 0 := hl'
      have a2 : i = 0 := hl
      exact q ⟨rfl, by rw [a1, a2]⟩
theorem cw_up_at {f x f2 x2 : Nat} {v : Int32} (h : ¬ (f2 = f ∧ x2 = x)) : (mo_up C f x v).1 f2 x2 = C.1 f2 x2 := if_neg h
theorem cw_T.put {k i f x : Nat} {v : Int32} {e : va_E} (hT : cw_T G K g0 W g C) (hl : cw_lv C k i) (ho : cw_ow f x = (k, i)) (hf : f ∉ cw_S) (hat : cw_at G W (mo_up C f x v) (ev_up g (W k i) e) k i) : cw_T G K g0 W (ev_up g (W k i) e) (mo_up C f x v) :=
  hT.set hl (fun f' hf' => mo_up_ne (fun e => hf (e ▸ hf'))) (fun f' x' hne => cw_up_at (fun q => hne (by rw [q.1, q.2]; exact ho))) (fun _ => rfl) hat
theorem cw_at_ob {k i ci : Nat} {fs : List Value} (hk : k ∈ cw_OL) (h : cw_ob W C k i = some (ci, fs)) (hg : g (W k i) = some (.inr (ci, fs))) : cw_at G W C g k i := by
  have q : ∀ k, k ∈ cw_OL → k ≠ 2 ∧ k ≠ 12 ∧ k ≠ 14 ∧ (cw_AL.contains k) = false := by decide
  obtain ⟨q1, q2, q3, q4⟩ := q k hk
  refine ⟨fun ci' fs' e => ?_, fun n hh e => ?_, fun e => absurd e q1, fun e => absurd e q2, fun e => absurd e q3⟩
  · rw [h] at e; cases e; exact hg
  · exfalso
    have : k ∈ cw_AL → False := fun z => by rw [List.contains_iff_mem.mpr z] at q4; cases q4
    refine this ?_
    unfold cw_ar at e
    unfold cw_AL
    split at e <;> first | (simp; done) | cases e
theorem cw_at_ar {k i n : Nat} {hh : Nat → Int32} (hk : k ∈ cw_AL) (h : cw_ar C k i = some (n, hh)) (hg : cw_ia G g (W k i) n hh) : cw_at G W C g k i := by
  have q : ∀ k, k ∈ cw_AL → k ≠ 2 ∧ k ≠ 12 ∧ k ≠ 14 ∧ (cw_OL.contains k) = false := by decide
  obtain ⟨q1, q2, q3, q4⟩ := q k hk
  refine ⟨fun ci' fs' e => ?_, fun n hh e => ?_, fun e => absurd e q1, fun e => absurd e q2, fun e => absurd e q3⟩
  · exfalso
    have : k ∈ cw_OL → False := fun z => by rw [List.contains_iff_mem.mpr z] at q4; cases q4
    refine this ?_
    unfold cw_ob at e
    unfold cw_OL
    split at e <;> first | (simp; done) | cases e
  · rw [h] at e; cases e; exact hg
end CT
/-! the kinds, each -/
theorem ob0 {W : cw_W} {C : mo_S} {i : Nat} : cw_ob W C 0 i = some (12, [.ref (W 1 0), .ref (W 1 1), .ref (W 1 2), .ref (W 1 3), .ref (W 3 0), .int (C.1 24 0), .int (C.1 2 0), .ref (W 28 10), .ref (W 4 0), .ref (W 7 0), .ref (W 9 0), .ref (W 13 0), .ref (W 19 0)]) := by simp only [cw_ob]
theorem ob1 {W : cw_W} {C : mo_S} {i : Nat} : cw_ob W C 1 i = some (0, [.int (C.1 131 i), .ref (if C.1 132 i = 0 then W 99 0 else W 2 i), .int (C.1 (cw_sz i) 0)]) := by simp only [cw_ob]
theorem ob4 {W : cw_W} {C : mo_S} {i : Nat} : cw_ob W C 4 i = some (8, [.ref (W 5 0), .int (C.1 28 0), .int (C.1 116 0), .int (C.1 117 0), .int (C.1 118 0), .int (C.1 119 0), .int (C.1 120 0), .int (C.1 33 0), .ref (W 6 0), .int (C.1 122 0)]) := by simp only [cw_ob]
theorem ob7 {W : cw_W} {C : mo_S} {i : Nat} : cw_ob W C 7 i = some (11, [.ref (W 8 0)]) := by simp only [cw_ob]
theorem ob9 {W : cw_W} {C : mo_S} {i : Nat} : cw_ob W C 9 i = some (7, [.ref (W 10 0), .ref (W 11 0), .ref (W 12 0)]) := by simp only [cw_ob]
theorem ob13 {W : cw_W} {C : mo_S} {i : Nat} : cw_ob W C 13 i = some (3, [.ref (W 14 0), .ref (W 15 0), .ref (W 16 0), .ref (W 17 0), .ref (W 18 0), .int (C.1 73 0)]) := by simp only [cw_ob]
theorem ob19 {W : cw_W} {C : mo_S} {i : Nat} : cw_ob W C 19 i = some (4, [.int (C.1 127 0), .int (C.1 128 0), .int (C.1 129 0), .int (C.1 130 0)]) := by simp only [cw_ob]
theorem ob20 {W : cw_W} {C : mo_S} {i : Nat} : cw_ob W C 20 i = some (6, [.int (C.1 3 i), .int (C.1 4 i), .int (C.1 5 i), .int (C.1 6 i), .int (C.1 7 i), .int (C.1 8 i), .int (C.1 9 i), .int (C.1 10 i), .int (C.1 11 i), .int (C.1 12 i), .int (C.1 13 i), .int (C.1 14 i), .int (C.1 15 i), .ref (W 21 i), .ref (W 22 i), .ref (W 23 i), .ref (W 24 i)]) := by simp only [cw_ob]
theorem ob23 {W : cw_W} {C : mo_S} {i : Nat} : cw_ob W C 23 i = some (2, [.int (C.1 16 i), .int (C.1 17 i), .int (C.1 18 i), .int (C.1 19 i), .int (C.1 20 i)]) := by simp only [cw_ob]
theorem ob24 {W : cw_W} {C : mo_S} {i : Nat} : cw_ob W C 24 i = some (10, [.ref (W 25 i), .ref (W 26 i), .int (C.1 59 i)]) := by simp only [cw_ob]
theorem ob27 {W : cw_W} {C : mo_S} {i : Nat} : cw_ob W C 27 i = some (9, [.int (C.1 22 i), .int (C.1 23 i)]) := by simp only [cw_ob]
theorem ob28 {W : cw_W} {C : mo_S} {i : Nat} : cw_ob W C 28 i = some (5, [.int (C.1 36 i), .ref (W 29 i), (if C.1 110 i = 0 then .null else .ref (W 30 i)), .int (C.1 100 i), .ref (W 31 i), .ref (W 32 i), .int (C.1 103 i), .int (C.1 104 i), .int (C.1 105 i), .int (C.1 106 i), .int (C.1 107 i), .int (C.1 108 i), .int (C.1 109 i)]) := by simp only [cw_ob]
theorem ob33 {W : cw_W} {C : mo_S} {i : Nat} : cw_ob W C 33 i = some (1, [.ref (W 20 (C.1 63 i).toNatClampNeg), .int (C.1 64 i), .int (C.1 65 i), .int (C.1 66 i), .int (C.1 68 i)]) := by simp only [cw_ob]
theorem ar3 {C : mo_S} {i : Nat} : cw_ar C 3 i = some (5, fun j => C.1 25 j) := by simp only [cw_ar]
theorem ar5 {C : mo_S} {i : Nat} : cw_ar C 5 i = some (300, fun j => C.1 115 j) := by simp only [cw_ar]
theorem ar6 {C : mo_S} {i : Nat} : cw_ar C 6 i = some (300, fun j => C.1 121 j) := by simp only [cw_ar]
theorem ar8 {C : mo_S} {i : Nat} : cw_ar C 8 i = some (64, fun j => C.1 123 j) := by simp only [cw_ar]
theorem ar10 {C : mo_S} {i : Nat} : cw_ar C 10 i = some (12, fun j => C.1 124 j) := by simp only [cw_ar]
theorem ar11 {C : mo_S} {i : Nat} : cw_ar C 11 i = some (12, fun j => C.1 125 j) := by simp only [cw_ar]
theorem ar15 {C : mo_S} {i : Nat} : cw_ar C 15 i = some (60, fun j => C.1 74 j) := by simp only [cw_ar]
theorem ar16 {C : mo_S} {i : Nat} : cw_ar C 16 i = some (60, fun j => C.1 75 j) := by simp only [cw_ar]
theorem ar17 {C : mo_S} {i : Nat} : cw_ar C 17 i = some (60, fun j => C.1 76 j) := by simp only [cw_ar]
theorem ar18 {C : mo_S} {i : Nat} : cw_ar C 18 i = some (60, fun j => C.1 77 j) := by simp only [cw_ar]
theorem ar21 {C : mo_S} {i : Nat} : cw_ar C 21 i = some (5, fun j => C.1 26 (12 * j + i)) := by simp only [cw_ar]
theorem ar22 {C : mo_S} {i : Nat} : cw_ar C 22 i = some (12, fun j => C.1 58 (12 * i + j)) := by simp only [cw_ar]
theorem ar25 {C : mo_S} {i : Nat} : cw_ar C 25 i = some (8, fun j => C.1 60 (8 * i + j)) := by simp only [cw_ar]
theorem ar26 {C : mo_S} {i : Nat} : cw_ar C 26 i = some (8, fun j => C.1 61 (8 * i + j)) := by simp only [cw_ar]
theorem ar29 {C : mo_S} {i : Nat} : cw_ar C 29 i = some ((C.1 111 i).toNatClampNeg, fun j => C.1 112 (300 * i + j)) := by simp only [cw_ar]
theorem ar30 {C : mo_S} {i : Nat} : cw_ar C 30 i = some ((C.1 113 i).toNatClampNeg, fun j => C.1 114 (300 * i + j)) := by simp only [cw_ar]
theorem ar31 {C : mo_S} {i : Nat} : cw_ar C 31 i = some (3, fun j => C.1 101 (3 * i + j)) := by simp only [cw_ar]
theorem ar32 {C : mo_S} {i : Nat} : cw_ar C 32 i = some (3, fun j => C.1 102 (3 * i + j)) := by simp only [cw_ar]
theorem ar34 {C : mo_S} {i : Nat} : cw_ar C 34 i = some (48, fun j => C.1 126 (48 * i + j)) := by simp only [cw_ar]
theorem pu0_5 {W : cw_W} {C : mo_S} {i : Nat} {v : Int32} : cw_ob W (mo_up C 24 0 v) 0 i = some (12, [.ref (W 1 0), .ref (W 1 1), .ref (W 1 2), .ref (W 1 3), .ref (W 3 0), .int (C.1 24 0), .int (C.1 2 0), .ref (W 28 10), .ref (W 4 0), .ref (W 7 0), .ref (W 9 0), .ref (W 13 0), .ref (W 19 0)].set 5 (.int v)) := by
  rw [ob0]
  simp [mo_up]
theorem pu0_6 {W : cw_W} {C : mo_S} {i : Nat} {v : Int32} : cw_ob W (mo_up C 2 0 v) 0 i = some (12, [.ref (W 1 0), .ref (W 1 1), .ref (W 1 2), .ref (W 1 3), .ref (W 3 0), .int (C.1 24 0), .int (C.1 2 0), .ref (W 28 10), .ref (W 4 0), .ref (W 7 0), .ref (W 9 0), .ref (W 13 0), .ref (W 19 0)].set 6 (.int v)) := by
  rw [ob0]
  simp [mo_up]
theorem pu1_0 {W : cw_W} {C : mo_S} {i : Nat} {v : Int32} : cw_ob W (mo_up C 131 i v) 1 i = some (0, [.int (C.1 131 i), .ref (if C.1 132 i = 0 then W 99 0 else W 2 i), .int (C.1 (cw_sz i) 0)].set 0 (.int v)) := by
  rw [ob1]
  have e : cw_sz i ≠ 131 := by unfold cw_sz; split <;> decide
  simp [mo_up, e]
theorem pu4_1 {W : cw_W} {C : mo_S} {i : Nat} {v : Int32} : cw_ob W (mo_up C 28 0 v) 4 i = some (8, [.ref (W 5 0), .int (C.1 28 0), .int (C.1 116 0), .int (C.1 117 0), .int (C.1 118 0), .int (C.1 119 0), .int (C.1 120 0), .int (C.1 33 0), .ref (W 6 0), .int (C.1 122 0)].set 1 (.int v)) := by
  rw [ob4]
  simp [mo_up]
theorem pu4_2 {W : cw_W} {C : mo_S} {i : Nat} {v : Int32} : cw_ob W (mo_up C 116 0 v) 4 i = some (8, [.ref (W 5 0), .int (C.1 28 0), .int (C.1 116 0), .int (C.1 117 0), .int (C.1 118 0), .int (C.1 119 0), .int (C.1 120 0), .int (C.1 33 0), .ref (W 6 0), .int (C.1 122 0)].set 2 (.int v)) := by
  rw [ob4]
  simp [mo_up]
theorem pu4_3 {W : cw_W} {C : mo_S} {i : Nat} {v : Int32} : cw_ob W (mo_up C 117 0 v) 4 i = some (8, [.ref (W 5 0), .int (C.1 28 0), .int (C.1 116 0), .int (C.1 117 0), .int (C.1 118 0), .int (C.1 119 0), .int (C.1 120 0), .int (C.1 33 0), .ref (W 6 0), .int (C.1 122 0)].set 3 (.int v)) := by
  rw [ob4]
  simp [mo_up]
theorem pu4_4 {W : cw_W} {C : mo_S} {i : Nat} {v : Int32} : cw_ob W (mo_up C 118 0 v) 4 i = some (8, [.ref (W 5 0), .int (C.1 28 0), .int (C.1 116 0), .int (C.1 117 0), .int (C.1 118 0), .int (C.1 119 0), .int (C.1 120 0), .int (C.1 33 0), .ref (W 6 0), .int (C.1 122 0)].set 4 (.int v)) := by
  rw [ob4]
  simp [mo_up]
theorem pu4_5 {W : cw_W} {C : mo_S} {i : Nat} {v : Int32} : cw_ob W (mo_up C 119 0 v) 4 i = some (8, [.ref (W 5 0), .int (C.1 28 0), .int (C.1 116 0), .int (C.1 117 0), .int (C.1 118 0), .int (C.1 119 0), .int (C.1 120 0), .int (C.1 33 0), .ref (W 6 0), .int (C.1 122 0)].set 5 (.int v)) := by
  rw [ob4]
  simp [mo_up]
theorem pu4_6 {W : cw_W} {C : mo_S} {i : Nat} {v : Int32} : cw_ob W (mo_up C 120 0 v) 4 i = some (8, [.ref (W 5 0), .int (C.1 28 0), .int (C.1 116 0), .int (C.1 117 0), .int (C.1 118 0), .int (C.1 119 0), .int (C.1 120 0), .int (C.1 33 0), .ref (W 6 0), .int (C.1 122 0)].set 6 (.int v)) := by
  rw [ob4]
  simp [mo_up]
theorem pu4_7 {W : cw_W} {C : mo_S} {i : Nat} {v : Int32} : cw_ob W (mo_up C 33 0 v) 4 i = some (8, [.ref (W 5 0), .int (C.1 28 0), .int (C.1 116 0), .int (C.1 117 0), .int (C.1 118 0), .int (C.1 119 0), .int (C.1 120 0), .int (C.1 33 0), .ref (W 6 0), .int (C.1 122 0)].set 7 (.int v)) := by
  rw [ob4]
  simp [mo_up]
theorem pu4_9 {W : cw_W} {C : mo_S} {i : Nat} {v : Int32} : cw_ob W (mo_up C 122 0 v) 4 i = some (8, [.ref (W 5 0), .int (C.1 28 0), .int (C.1 116 0), .int (C.1 117 0), .int (C.1 118 0), .int (C.1 119 0), .int (C.1 120 0), .int (C.1 33 0), .ref (W 6 0), .int (C.1 122 0)].set 9 (.int v)) := by
  rw [ob4]
  simp [mo_up]
theorem pu13_5 {W : cw_W} {C : mo_S} {i : Nat} {v : Int32} : cw_ob W (mo_up C 73 0 v) 13 i = some (3, [.ref (W 14 0), .ref (W 15 0), .ref (W 16 0), .ref (W 17 0), .ref (W 18 0), .int (C.1 73 0)].set 5 (.int v)) := by
  rw [ob13]
  simp [mo_up]
theorem pu19_0 {W : cw_W} {C : mo_S} {i : Nat} {v : Int32} : cw_ob W (mo_up C 127 0 v) 19 i = some (4, [.int (C.1 127 0), .int (C.1 128 0), .int (C.1 129 0), .int (C.1 130 0)].set 0 (.int v)) := by
  rw [ob19]
  simp [mo_up]
theorem pu19_1 {W : cw_W} {C : mo_S} {i : Nat} {v : Int32} : cw_ob W (mo_up C 128 0 v) 19 i = some (4, [.int (C.1 127 0), .int (C.1 128 0), .int (C.1 129 0), .int (C.1 130 0)].set 1 (.int v)) := by
  rw [ob19]
  simp [mo_up]
theorem pu19_2 {W : cw_W} {C : mo_S} {i : Nat} {v : Int32} : cw_ob W (mo_up C 129 0 v) 19 i = some (4, [.int (C.1 127 0), .int (C.1 128 0), .int (C.1 129 0), .int (C.1 130 0)].set 2 (.int v)) := by
  rw [ob19]
  simp [mo_up]
theorem pu19_3 {W : cw_W} {C : mo_S} {i : Nat} {v : Int32} : cw_ob W (mo_up C 130 0 v) 19 i = some (4, [.int (C.1 127 0), .int (C.1 128 0), .int (C.1 129 0), .int (C.1 130 0)].set 3 (.int v)) := by
  rw [ob19]
  simp [mo_up]
theorem pu20_0 {W : cw_W} {C : mo_S} {i : Nat} {v : Int32} : cw_ob W (mo_up C 3 i v) 20 i = some (6, [.int (C.1 3 i), .int (C.1 4 i), .int (C.1 5 i), .int (C.1 6 i), .int (C.1 7 i), .int (C.1 8 i), .int (C.1 9 i), .int (C.1 10 i), .int (C.1 11 i), .int (C.1 12 i), .int (C.1 13 i), .int (C.1 14 i), .int (C.1 15 i), .ref (W 21 i), .ref (W 22 i), .ref (W 23 i), .ref (W 24 i)].set 0 (.int v)) := by
  rw [ob20]
  simp [mo_up]
theorem pu20_1 {W : cw_W} {C : mo_S} {i : Nat} {v : Int32} : cw_ob W (mo_up C 4 i v) 20 i = some (6, [.int (C.1 3 i), .int (C.1 4 i), .int (C.1 5 i), .int (C.1 6 i), .int (C.1 7 i), .int (C.1 8 i), .int (C.1 9 i), .int (C.1 10 i), .int (C.1 11 i), .int (C.1 12 i), .int (C.1 13 i), .int (C.1 14 i), .int (C.1 15 i), .ref (W 21 i), .ref (W 22 i), .ref (W 23 i), .ref (W 24 i)].set 1 (.int v)) := by
  rw [ob20]
  simp [mo_up]
theorem pu20_2 {W : cw_W} {C : mo_S} {i : Nat} {v : Int32} : cw_ob W (mo_up C 5 i v) 20 i = some (6, [.int (C.1 3 i), .int (C.1 4 i), .int (C.1 5 i), .int (C.1 6 i), .int (C.1 7 i), .int (C.1 8 i), .int (C.1 9 i), .int (C.1 10 i), .int (C.1 11 i), .int (C.1 12 i), .int (C.1 13 i), .int (C.1 14 i), .int (C.1 15 i), .ref (W 21 i), .ref (W 22 i), .ref (W 23 i), .ref (W 24 i)].set 2 (.int v)) := by
  rw [ob20]
  simp [mo_up]
theorem pu20_3 {W : cw_W} {C : mo_S} {i : Nat} {v : Int32} : cw_ob W (mo_up C 6 i v) 20 i = some (6, [.int (C.1 3 i), .int (C.1 4 i), .int (C.1 5 i), .int (C.1 6 i), .int (C.1 7 i), .int (C.1 8 i), .int (C.1 9 i), .int (C.1 10 i), .int (C.1 11 i), .int (C.1 12 i), .int (C.1 13 i), .int (C.1 14 i), .int (C.1 15 i), .ref (W 21 i), .ref (W 22 i), .ref (W 23 i), .ref (W 24 i)].set 3 (.int v)) := by
  rw [ob20]
  simp [mo_up]
theorem pu20_4 {W : cw_W} {C : mo_S} {i : Nat} {v : Int32} : cw_ob W (mo_up C 7 i v) 20 i = some (6, [.int (C.1 3 i), .int (C.1 4 i), .int (C.1 5 i), .int (C.1 6 i), .int (C.1 7 i), .int (C.1 8 i), .int (C.1 9 i), .int (C.1 10 i), .int (C.1 11 i), .int (C.1 12 i), .int (C.1 13 i), .int (C.1 14 i), .int (C.1 15 i), .ref (W 21 i), .ref (W 22 i), .ref (W 23 i), .ref (W 24 i)].set 4 (.int v)) := by
  rw [ob20]
  simp [mo_up]
theorem pu20_5 {W : cw_W} {C : mo_S} {i : Nat} {v : Int32} : cw_ob W (mo_up C 8 i v) 20 i = some (6, [.int (C.1 3 i), .int (C.1 4 i), .int (C.1 5 i), .int (C.1 6 i), .int (C.1 7 i), .int (C.1 8 i), .int (C.1 9 i), .int (C.1 10 i), .int (C.1 11 i), .int (C.1 12 i), .int (C.1 13 i), .int (C.1 14 i), .int (C.1 15 i), .ref (W 21 i), .ref (W 22 i), .ref (W 23 i), .ref (W 24 i)].set 5 (.int v)) := by
  rw [ob20]
  simp [mo_up]
theorem pu20_6 {W : cw_W} {C : mo_S} {i : Nat} {v : Int32} : cw_ob W (mo_up C 9 i v) 20 i = some (6, [.int (C.1 3 i), .int (C.1 4 i), .int (C.1 5 i), .int (C.1 6 i), .int (C.1 7 i), .int (C.1 8 i), .int (C.1 9 i), .int (C.1 10 i), .int (C.1 11 i), .int (C.1 12 i), .int (C.1 13 i), .int (C.1 14 i), .int (C.1 15 i), .ref (W 21 i), .ref (W 22 i), .ref (W 23 i), .ref (W 24 i)].set 6 (.int v)) := by
  rw [ob20]
  simp [mo_up]
theorem pu20_7 {W : cw_W} {C : mo_S} {i : Nat} {v : Int32} : cw_ob W (mo_up C 10 i v) 20 i = some (6, [.int (C.1 3 i), .int (C.1 4 i), .int (C.1 5 i), .int (C.1 6 i), .int (C.1 7 i), .int (C.1 8 i), .int (C.1 9 i), .int (C.1 10 i), .int (C.1 11 i), .int (C.1 12 i), .int (C.1 13 i), .int (C.1 14 i), .int (C.1 15 i), .ref (W 21 i), .ref (W 22 i), .ref (W 23 i), .ref (W 24 i)].set 7 (.int v)) := by
  rw [ob20]
  simp [mo_up]
theorem pu20_8 {W : cw_W} {C : mo_S} {i : Nat} {v : Int32} : cw_ob W (mo_up C 11 i v) 20 i = some (6, [.int (C.1 3 i), .int (C.1 4 i), .int (C.1 5 i), .int (C.1 6 i), .int (C.1 7 i), .int (C.1 8 i), .int (C.1 9 i), .int (C.1 10 i), .int (C.1 11 i), .int (C.1 12 i), .int (C.1 13 i), .int (C.1 14 i), .int (C.1 15 i), .ref (W 21 i), .ref (W 22 i), .ref (W 23 i), .ref (W 24 i)].set 8 (.int v)) := by
  rw [ob20]
  simp [mo_up]
theorem pu20_9 {W : cw_W} {C : mo_S} {i : Nat} {v : Int32} : cw_ob W (mo_up C 12 i v) 20 i = some (6, [.int (C.1 3 i), .int (C.1 4 i), .int (C.1 5 i), .int (C.1 6 i), .int (C.1 7 i), .int (C.1 8 i), .int (C.1 9 i), .int (C.1 10 i), .int (C.1 11 i), .int (C.1 12 i), .int (C.1 13 i), .int (C.1 14 i), .int (C.1 15 i), .ref (W 21 i), .ref (W 22 i), .ref (W 23 i), .ref (W 24 i)].set 9 (.int v)) := by
  rw [ob20]
  simp [mo_up]
theorem pu20_10 {W : cw_W} {C : mo_S} {i : Nat} {v : Int32} : cw_ob W (mo_up C 13 i v) 20 i = some (6, [.int (C.1 3 i), .int (C.1 4 i), .int (C.1 5 i), .int (C.1 6 i), .int (C.1 7 i), .int (C.1 8 i), .int (C.1 9 i), .int (C.1 10 i), .int (C.1 11 i), .int (C.1 12 i), .int (C.1 13 i), .int (C.1 14 i), .int (C.1 15 i), .ref (W 21 i), .ref (W 22 i), .ref (W 23 i), .ref (W 24 i)].set 10 (.int v)) := by
  rw [ob20]
  simp [mo_up]
theorem pu20_11 {W : cw_W} {C : mo_S} {i : Nat} {v : Int32} : cw_ob W (mo_up C 14 i v) 20 i = some (6, [.int (C.1 3 i), .int (C.1 4 i), .int (C.1 5 i), .int (C.1 6 i), .int (C.1 7 i), .int (C.1 8 i), .int (C.1 9 i), .int (C.1 10 i), .int (C.1 11 i), .int (C.1 12 i), .int (C.1 13 i), .int (C.1 14 i), .int (C.1 15 i), .ref (W 21 i), .ref (W 22 i), .ref (W 23 i), .ref (W 24 i)].set 11 (.int v)) := by
  rw [ob20]
  simp [mo_up]
theorem pu20_12 {W : cw_W} {C : mo_S} {i : Nat} {v : Int32} : cw_ob W (mo_up C 15 i v) 20 i = some (6, [.int (C.1 3 i), .int (C.1 4 i), .int (C.1 5 i), .int (C.1 6 i), .int (C.1 7 i), .int (C.1 8 i), .int (C.1 9 i), .int (C.1 10 i), .int (C.1 11 i), .int (C.1 12 i), .int (C.1 13 i), .int (C.1 14 i), .int (C.1 15 i), .ref (W 21 i), .ref (W 22 i), .ref (W 23 i), .ref (W 24 i)].set 12 (.int v)) := by
  rw [ob20]
  simp [mo_up]
theorem pu23_0 {W : cw_W} {C : mo_S} {i : Nat} {v : Int32} : cw_ob W (mo_up C 16 i v) 23 i = some (2, [.int (C.1 16 i), .int (C.1 17 i), .int (C.1 18 i), .int (C.1 19 i), .int (C.1 20 i)].set 0 (.int v)) := by
  rw [ob23]
  simp [mo_up]
theorem pu23_1 {W : cw_W} {C : mo_S} {i : Nat} {v : Int32} : cw_ob W (mo_up C 17 i v) 23 i = some (2, [.int (C.1 16 i), .int (C.1 17 i), .int (C.1 18 i), .int (C.1 19 i), .int (C.1 20 i)].set 1 (.int v)) := by
  rw [ob23]
  simp [mo_up]
theorem pu23_2 {W : cw_W} {C : mo_S} {i : Nat} {v : Int32} : cw_ob W (mo_up C 18 i v) 23 i = some (2, [.int (C.1 16 i), .int (C.1 17 i), .int (C.1 18 i), .int (C.1 19 i), .int (C.1 20 i)].set 2 (.int v)) := by
  rw [ob23]
  simp [mo_up]
theorem pu23_3 {W : cw_W} {C : mo_S} {i : Nat} {v : Int32} : cw_ob W (mo_up C 19 i v) 23 i = some (2, [.int (C.1 16 i), .int (C.1 17 i), .int (C.1 18 i), .int (C.1 19 i), .int (C.1 20 i)].set 3 (.int v)) := by
  rw [ob23]
  simp [mo_up]
theorem pu23_4 {W : cw_W} {C : mo_S} {i : Nat} {v : Int32} : cw_ob W (mo_up C 20 i v) 23 i = some (2, [.int (C.1 16 i), .int (C.1 17 i), .int (C.1 18 i), .int (C.1 19 i), .int (C.1 20 i)].set 4 (.int v)) := by
  rw [ob23]
  simp [mo_up]
theorem pu24_2 {W : cw_W} {C : mo_S} {i : Nat} {v : Int32} : cw_ob W (mo_up C 59 i v) 24 i = some (10, [.ref (W 25 i), .ref (W 26 i), .int (C.1 59 i)].set 2 (.int v)) := by
  rw [ob24]
  simp [mo_up]
theorem pu27_0 {W : cw_W} {C : mo_S} {i : Nat} {v : Int32} : cw_ob W (mo_up C 22 i v) 27 i = some (9, [.int (C.1 22 i), .int (C.1 23 i)].set 0 (.int v)) := by
  rw [ob27]
  simp [mo_up]
theorem pu27_1 {W : cw_W} {C : mo_S} {i : Nat} {v : Int32} : cw_ob W (mo_up C 23 i v) 27 i = some (9, [.int (C.1 22 i), .int (C.1 23 i)].set 1 (.int v)) := by
  rw [ob27]
  simp [mo_up]
theorem pu28_0 {W : cw_W} {C : mo_S} {i : Nat} {v : Int32} : cw_ob W (mo_up C 36 i v) 28 i = some (5, [.int (C.1 36 i), .ref (W 29 i), (if C.1 110 i = 0 then .null else .ref (W 30 i)), .int (C.1 100 i), .ref (W 31 i), .ref (W 32 i), .int (C.1 103 i), .int (C.1 104 i), .int (C.1 105 i), .int (C.1 106 i), .int (C.1 107 i), .int (C.1 108 i), .int (C.1 109 i)].set 0 (.int v)) := by
  rw [ob28]
  simp [mo_up]
theorem pu28_3 {W : cw_W} {C : mo_S} {i : Nat} {v : Int32} : cw_ob W (mo_up C 100 i v) 28 i = some (5, [.int (C.1 36 i), .ref (W 29 i), (if C.1 110 i = 0 then .null else .ref (W 30 i)), .int (C.1 100 i), .ref (W 31 i), .ref (W 32 i), .int (C.1 103 i), .int (C.1 104 i), .int (C.1 105 i), .int (C.1 106 i), .int (C.1 107 i), .int (C.1 108 i), .int (C.1 109 i)].set 3 (.int v)) := by
  rw [ob28]
  simp [mo_up]
theorem pu28_6 {W : cw_W} {C : mo_S} {i : Nat} {v : Int32} : cw_ob W (mo_up C 103 i v) 28 i = some (5, [.int (C.1 36 i), .ref (W 29 i), (if C.1 110 i = 0 then .null else .ref (W 30 i)), .int (C.1 100 i), .ref (W 31 i), .ref (W 32 i), .int (C.1 103 i), .int (C.1 104 i), .int (C.1 105 i), .int (C.1 106 i), .int (C.1 107 i), .int (C.1 108 i), .int (C.1 109 i)].set 6 (.int v)) := by
  rw [ob28]
  simp [mo_up]
theorem pu28_7 {W : cw_W} {C : mo_S} {i : Nat} {v : Int32} : cw_ob W (mo_up C 104 i v) 28 i = some (5, [.int (C.1 36 i), .ref (W 29 i), (if C.1 110 i = 0 then .null else .ref (W 30 i)), .int (C.1 100 i), .ref (W 31 i), .ref (W 32 i), .int (C.1 103 i), .int (C.1 104 i), .int (C.1 105 i), .int (C.1 106 i), .int (C.1 107 i), .int (C.1 108 i), .int (C.1 109 i)].set 7 (.int v)) := by
  rw [ob28]
  simp [mo_up]
theorem pu28_8 {W : cw_W} {C : mo_S} {i : Nat} {v : Int32} : cw_ob W (mo_up C 105 i v) 28 i = some (5, [.int (C.1 36 i), .ref (W 29 i), (if C.1 110 i = 0 then .null else .ref (W 30 i)), .int (C.1 100 i), .ref (W 31 i), .ref (W 32 i), .int (C.1 103 i), .int (C.1 104 i), .int (C.1 105 i), .int (C.1 106 i), .int (C.1 107 i), .int (C.1 108 i), .int (C.1 109 i)].set 8 (.int v)) := by
  rw [ob28]
  simp [mo_up]
theorem pu28_9 {W : cw_W} {C : mo_S} {i : Nat} {v : Int32} : cw_ob W (mo_up C 106 i v) 28 i = some (5, [.int (C.1 36 i), .ref (W 29 i), (if C.1 110 i = 0 then .null else .ref (W 30 i)), .int (C.1 100 i), .ref (W 31 i), .ref (W 32 i), .int (C.1 103 i), .int (C.1 104 i), .int (C.1 105 i), .int (C.1 106 i), .int (C.1 107 i), .int (C.1 108 i), .int (C.1 109 i)].set 9 (.int v)) := by
  rw [ob28]
  simp [mo_up]
theorem pu28_10 {W : cw_W} {C : mo_S} {i : Nat} {v : Int32} : cw_ob W (mo_up C 107 i v) 28 i = some (5, [.int (C.1 36 i), .ref (W 29 i), (if C.1 110 i = 0 then .null else .ref (W 30 i)), .int (C.1 100 i), .ref (W 31 i), .ref (W 32 i), .int (C.1 103 i), .int (C.1 104 i), .int (C.1 105 i), .int (C.1 106 i), .int (C.1 107 i), .int (C.1 108 i), .int (C.1 109 i)].set 10 (.int v)) := by
  rw [ob28]
  simp [mo_up]
theorem pu28_11 {W : cw_W} {C : mo_S} {i : Nat} {v : Int32} : cw_ob W (mo_up C 108 i v) 28 i = some (5, [.int (C.1 36 i), .ref (W 29 i), (if C.1 110 i = 0 then .null else .ref (W 30 i)), .int (C.1 100 i), .ref (W 31 i), .ref (W 32 i), .int (C.1 103 i), .int (C.1 104 i), .int (C.1 105 i), .int (C.1 106 i), .int (C.1 107 i), .int (C.1 108 i), .int (C.1 109 i)].set 11 (.int v)) := by
  rw [ob28]
  simp [mo_up]
theorem pu28_12 {W : cw_W} {C : mo_S} {i : Nat} {v : Int32} : cw_ob W (mo_up C 109 i v) 28 i = some (5, [.int (C.1 36 i), .ref (W 29 i), (if C.1 110 i = 0 then .null else .ref (W 30 i)), .int (C.1 100 i), .ref (W 31 i), .ref (W 32 i), .int (C.1 103 i), .int (C.1 104 i), .int (C.1 105 i), .int (C.1 106 i), .int (C.1 107 i), .int (C.1 108 i), .int (C.1 109 i)].set 12 (.int v)) := by
  rw [ob28]
  simp [mo_up]
theorem pu33_1 {W : cw_W} {C : mo_S} {i : Nat} {v : Int32} : cw_ob W (mo_up C 64 i v) 33 i = some (1, [.ref (W 20 (C.1 63 i).toNatClampNeg), .int (C.1 64 i), .int (C.1 65 i), .int (C.1 66 i), .int (C.1 68 i)].set 1 (.int v)) := by
  rw [ob33]
  simp [mo_up]
theorem pu33_2 {W : cw_W} {C : mo_S} {i : Nat} {v : Int32} : cw_ob W (mo_up C 65 i v) 33 i = some (1, [.ref (W 20 (C.1 63 i).toNatClampNeg), .int (C.1 64 i), .int (C.1 65 i), .int (C.1 66 i), .int (C.1 68 i)].set 2 (.int v)) := by
  rw [ob33]
  simp [mo_up]
theorem pu33_3 {W : cw_W} {C : mo_S} {i : Nat} {v : Int32} : cw_ob W (mo_up C 66 i v) 33 i = some (1, [.ref (W 20 (C.1 63 i).toNatClampNeg), .int (C.1 64 i), .int (C.1 65 i), .int (C.1 66 i), .int (C.1 68 i)].set 3 (.int v)) := by
  rw [ob33]
  simp [mo_up]
theorem pu33_4 {W : cw_W} {C : mo_S} {i : Nat} {v : Int32} : cw_ob W (mo_up C 68 i v) 33 i = some (1, [.ref (W 20 (C.1 63 i).toNatClampNeg), .int (C.1 64 i), .int (C.1 65 i), .int (C.1 66 i), .int (C.1 68 i)].set 4 (.int v)) := by
  rw [ob33]
  simp [mo_up]
theorem pa3 {C : mo_S} {i q : Nat} {v : Int32} : ∃ h2, cw_ar (mo_up C 25 q v) 3 i = some (5, h2) ∧ ∀ j, h2 j = upd (fun j => C.1 25 j) q v j := by
  refine ⟨_, ar3, fun j => ?_⟩
  by_cases e : j = q
  · subst e
    show (if 25 = 25 ∧ j = j then v else C.1 25 j) = if j = j then v else C.1 25 j
    rw [if_pos ⟨rfl, rfl⟩, if_pos rfl]
  · have e2 : ¬ j = q := by omega
    show (if 25 = 25 ∧ j = q then v else C.1 25 j) = if j = q then v else C.1 25 j
    rw [if_neg (fun z => e2 z.2), if_neg e]
theorem pa5 {C : mo_S} {i q : Nat} {v : Int32} : ∃ h2, cw_ar (mo_up C 115 q v) 5 i = some (300, h2) ∧ ∀ j, h2 j = upd (fun j => C.1 115 j) q v j := by
  refine ⟨_, ar5, fun j => ?_⟩
  by_cases e : j = q
  · subst e
    show (if 115 = 115 ∧ j = j then v else C.1 115 j) = if j = j then v else C.1 115 j
    rw [if_pos ⟨rfl, rfl⟩, if_pos rfl]
  · have e2 : ¬ j = q := by omega
    show (if 115 = 115 ∧ j = q then v else C.1 115 j) = if j = q then v else C.1 115 j
    rw [if_neg (fun z => e2 z.2), if_neg e]
theorem pa6 {C : mo_S} {i q : Nat} {v : Int32} : ∃ h2, cw_ar (mo_up C 121 q v) 6 i = some (300, h2) ∧ ∀ j, h2 j = upd (fun j => C.1 121 j) q v j := by
  refine ⟨_, ar6, fun j => ?_⟩
  by_cases e : j = q
  · subst e
    show (if 121 = 121 ∧ j = j then v else C.1 121 j) = if j = j then v else C.1 121 j
    rw [if_pos ⟨rfl, rfl⟩, if_pos rfl]
  · have e2 : ¬ j = q := by omega
    show (if 121 = 121 ∧ j = q then v else C.1 121 j) = if j = q then v else C.1 121 j
    rw [if_neg (fun z => e2 z.2), if_neg e]
theorem pa8 {C : mo_S} {i q : Nat} {v : Int32} : ∃ h2, cw_ar (mo_up C 123 q v) 8 i = some (64, h2) ∧ ∀ j, h2 j = upd (fun j => C.1 123 j) q v j := by
  refine ⟨_, ar8, fun j => ?_⟩
  by_cases e : j = q
  · subst e
    show (if 123 = 123 ∧ j = j then v else C.1 123 j) = if j = j then v else C.1 123 j
    rw [if_pos ⟨rfl, rfl⟩, if_pos rfl]
  · have e2 : ¬ j = q := by omega
    show (if 123 = 123 ∧ j = q then v else C.1 123 j) = if j = q then v else C.1 123 j
    rw [if_neg (fun z => e2 z.2), if_neg e]
theorem pa10 {C : mo_S} {i q : Nat} {v : Int32} : ∃ h2, cw_ar (mo_up C 124 q v) 10 i = some (12, h2) ∧ ∀ j, h2 j = upd (fun j => C.1 124 j) q v j := by
  refine ⟨_, ar10, fun j => ?_⟩
  by_cases e : j = q
  · subst e
    show (if 124 = 124 ∧ j = j then v else C.1 124 j) = if j = j then v else C.1 124 j
    rw [if_pos ⟨rfl, rfl⟩, if_pos rfl]
  · have e2 : ¬ j = q := by omega
    show (if 124 = 124 ∧ j = q then v else C.1 124 j) = if j = q then v else C.1 124 j
    rw [if_neg (fun z => e2 z.2), if_neg e]
theorem pa11 {C : mo_S} {i q : Nat} {v : Int32} : ∃ h2, cw_ar (mo_up C 125 q v) 11 i = some (12, h2) ∧ ∀ j, h2 j = upd (fun j => C.1 125 j) q v j := by
  refine ⟨_, ar11, fun j => ?_⟩
  by_cases e : j = q
  · subst e
    show (if 125 = 125 ∧ j = j then v else C.1 125 j) = if j = j then v else C.1 125 j
    rw [if_pos ⟨rfl, rfl⟩, if_pos rfl]
  · have e2 : ¬ j = q := by omega
    show (if 125 = 125 ∧ j = q then v else C.1 125 j) = if j = q then v else C.1 125 j
    rw [if_neg (fun z => e2 z.2), if_neg e]
theorem pa15 {C : mo_S} {i q : Nat} {v : Int32} : ∃ h2, cw_ar (mo_up C 74 q v) 15 i = some (60, h2) ∧ ∀ j, h2 j = upd (fun j => C.1 74 j) q v j := by
  refine ⟨_, ar15, fun j => ?_⟩
  by_cases e : j = q
  · subst e
    show (if 74 = 74 ∧ j = j then v else C.1 74 j) = if j = j then v else C.1 74 j
    rw [if_pos ⟨rfl, rfl⟩, if_pos rfl]
  · have e2 : ¬ j = q := by omega
    show (if 74 = 74 ∧ j = q then v else C.1 74 j) = if j = q then v else C.1 74 j
    rw [if_neg (fun z => e2 z.2), if_neg e]
theorem pa16 {C : mo_S} {i q : Nat} {v : Int32} : ∃ h2, cw_ar (mo_up C 75 q v) 16 i = some (60, h2) ∧ ∀ j, h2 j = upd (fun j => C.1 75 j) q v j := by
  refine ⟨_, ar16, fun j => ?_⟩
  by_cases e : j = q
  · subst e
    show (if 75 = 75 ∧ j = j then v else C.1 75 j) = if j = j then v else C.1 75 j
    rw [if_pos ⟨rfl, rfl⟩, if_pos rfl]
  · have e2 : ¬ j = q := by omega
    show (if 75 = 75 ∧ j = q then v else C.1 75 j) = if j = q then v else C.1 75 j
    rw [if_neg (fun z => e2 z.2), if_neg e]
theorem pa17 {C : mo_S} {i q : Nat} {v : Int32} : ∃ h2, cw_ar (mo_up C 76 q v) 17 i = some (60, h2) ∧ ∀ j, h2 j = upd (fun j => C.1 76 j) q v j := by
  refine ⟨_, ar17, fun j => ?_⟩
  by_cases e : j = q
  · subst e
    show (if 76 = 76 ∧ j = j then v else C.1 76 j) = if j = j then v else C.1 76 j
    rw [if_pos ⟨rfl, rfl⟩, if_pos rfl]
  · have e2 : ¬ j = q := by omega
    show (if 76 = 76 ∧ j = q then v else C.1 76 j) = if j = q then v else C.1 76 j
    rw [if_neg (fun z => e2 z.2), if_neg e]
theorem pa18 {C : mo_S} {i q : Nat} {v : Int32} : ∃ h2, cw_ar (mo_up C 77 q v) 18 i = some (60, h2) ∧ ∀ j, h2 j = upd (fun j => C.1 77 j) q v j := by
  refine ⟨_, ar18, fun j => ?_⟩
  by_cases e : j = q
  · subst e
    show (if 77 = 77 ∧ j = j then v else C.1 77 j) = if j = j then v else C.1 77 j
    rw [if_pos ⟨rfl, rfl⟩, if_pos rfl]
  · have e2 : ¬ j = q := by omega
    show (if 77 = 77 ∧ j = q then v else C.1 77 j) = if j = q then v else C.1 77 j
    rw [if_neg (fun z => e2 z.2), if_neg e]
theorem pa21 {C : mo_S} {i q : Nat} {v : Int32} : ∃ h2, cw_ar (mo_up C 26 (12 * q + i) v) 21 i = some (5, h2) ∧ ∀ j, h2 j = upd (fun j => C.1 26 (12 * j + i)) q v j := by
  refine ⟨_, ar21, fun j => ?_⟩
  by_cases e : j = q
  · subst e
    show (if 26 = 26 ∧ (12 * j + i) = (12 * j + i) then v else C.1 26 (12 * j + i)) = if j = j then v else C.1 26 (12 * j + i)
    rw [if_pos ⟨rfl, rfl⟩, if_pos rfl]
  · have e2 : ¬ (12 * j + i) = (12 * q + i) := by omega
    show (if 26 = 26 ∧ (12 * j + i) = (12 * q + i) then v else C.1 26 (12 * j + i)) = if j = q then v else C.1 26 (12 * j + i)
    rw [if_neg (fun z => e2 z.2), if_neg e]
theorem pa22 {C : mo_S} {i q : Nat} {v : Int32} : ∃ h2, cw_ar (mo_up C 58 (12 * i + q) v) 22 i = some (12, h2) ∧ ∀ j, h2 j = upd (fun j => C.1 58 (12 * i + j)) q v j := by
  refine ⟨_, ar22, fun j => ?_⟩
  by_cases e : j = q
  · subst e
    show (if 58 = 58 ∧ (12 * i + j) = (12 * i + j) then v else C.1 58 (12 * i + j)) = if j = j then v else C.1 58 (12 * i + j)
    rw [if_pos ⟨rfl, rfl⟩, if_pos rfl]
  · have e2 : ¬ (12 * i + j) = (12 * i + q) := by omega
    show (if 58 = 58 ∧ (12 * i + j) = (12 * i + q) then v else C.1 58 (12 * i + j)) = if j = q then v else C.1 58 (12 * i + j)
    rw [if_neg (fun z => e2 z.2), if_neg e]
theorem pa25 {C : mo_S} {i q : Nat} {v : Int32} : ∃ h2, cw_ar (mo_up C 60 (8 * i + q) v) 25 i = some (8, h2) ∧ ∀ j, h2 j = upd (fun j => C.1 60 (8 * i + j)) q v j := by
  refine ⟨_, ar25, fun j => ?_⟩
  by_cases e : j = q
  · subst e
    show (if 60 = 60 ∧ (8 * i + j) = (8 * i + j) then v else C.1 60 (8 * i + j)) = if j = j then v else C.1 60 (8 * i + j)
    rw [if_pos ⟨rfl, rfl⟩, if_pos rfl]
  · have e2 : ¬ (8 * i + j) = (8 * i + q) := by omega
    show (if 60 = 60 ∧ (8 * i + j) = (8 * i + q) then v else C.1 60 (8 * i + j)) = if j = q then v else C.1 60 (8 * i + j)
    rw [if_neg (fun z => e2 z.2), if_neg e]
theorem pa26 {C : mo_S} {i q : Nat} {v : Int32} : ∃ h2, cw_ar (mo_up C 61 (8 * i + q) v) 26 i = some (8, h2) ∧ ∀ j, h2 j = upd (fun j => C.1 61 (8 * i + j)) q v j := by
  refine ⟨_, ar26, fun j => ?_⟩
  by_cases e : j = q
  · subst e
    show (if 61 = 61 ∧ (8 * i + j) = (8 * i + j) then v else C.1 61 (8 * i + j)) = if j = j then v else C.1 61 (8 * i + j)
    rw [if_pos ⟨rfl, rfl⟩, if_pos rfl]
  · have e2 : ¬ (8 * i + j) = (8 * i + q) := by omega
    show (if 61 = 61 ∧ (8 * i + j) = (8 * i + q) then v else C.1 61 (8 * i + j)) = if j = q then v else C.1 61 (8 * i + j)
    rw [if_neg (fun z => e2 z.2), if_neg e]
theorem pa29 {C : mo_S} {i q : Nat} {v : Int32} : ∃ h2, cw_ar (mo_up C 112 (300 * i + q) v) 29 i = some ((C.1 111 i).toNatClampNeg, h2) ∧ ∀ j, h2 j = upd (fun j => C.1 112 (300 * i + j)) q v j := by
  refine ⟨_, ar29, fun j => ?_⟩
  by_cases e : j = q
  · subst e
    show (if 112 = 112 ∧ (300 * i + j) = (300 * i + j) then v else C.1 112 (300 * i + j)) = if j = j then v else C.1 112 (300 * i + j)
    rw [if_pos ⟨rfl, rfl⟩, if_pos rfl]
  · have e2 : ¬ (300 * i + j) = (300 * i + q) := by omega
    show (if 112 = 112 ∧ (300 * i + j) = (300 * i + q) then v else C.1 112 (300 * i + j)) = if j = q then v else C.1 112 (300 * i + j)
    rw [if_neg (fun z => e2 z.2), if_neg e]
theorem pa30 {C : mo_S} {i q : Nat} {v : Int32} : ∃ h2, cw_ar (mo_up C 114 (300 * i + q) v) 30 i = some ((C.1 113 i).toNatClampNeg, h2) ∧ ∀ j, h2 j = upd (fun j => C.1 114 (300 * i + j)) q v j := by
  refine ⟨_, ar30, fun j => ?_⟩
  by_cases e : j = q
  · subst e
    show (if 114 = 114 ∧ (300 * i + j) = (300 * i + j) then v else C.1 114 (300 * i + j)) = if j = j then v else C.1 114 (300 * i + j)
    rw [if_pos ⟨rfl, rfl⟩, if_pos rfl]
  · have e2 : ¬ (300 * i + j) = (300 * i + q) := by omega
    show (if 114 = 114 ∧ (300 * i + j) = (300 * i + q) then v else C.1 114 (300 * i + j)) = if j = q then v else C.1 114 (300 * i + j)
    rw [if_neg (fun z => e2 z.2), if_neg e]
theorem pa31 {C : mo_S} {i q : Nat} {v : Int32} : ∃ h2, cw_ar (mo_up C 101 (3 * i + q) v) 31 i = some (3, h2) ∧ ∀ j, h2 j = upd (fun j => C.1 101 (3 * i + j)) q v j := by
  refine ⟨_, ar31, fun j => ?_⟩
  by_cases e : j = q
  · subst e
    show (if 101 = 101 ∧ (3 * i + j) = (3 * i + j) then v else C.1 101 (3 * i + j)) = if j = j then v else C.1 101 (3 * i + j)
    rw [if_pos ⟨rfl, rfl⟩, if_pos rfl]
  · have e2 : ¬ (3 * i + j) = (3 * i + q) := by omega
    show (if 101 = 101 ∧ (3 * i + j) = (3 * i + q) then v else C.1 101 (3 * i + j)) = if j = q then v else C.1 101 (3 * i + j)
    rw [if_neg (fun z => e2 z.2), if_neg e]
theorem pa32 {C : mo_S} {i q : Nat} {v : Int32} : ∃ h2, cw_ar (mo_up C 102 (3 * i + q) v) 32 i = some (3, h2) ∧ ∀ j, h2 j = upd (fun j => C.1 102 (3 * i + j)) q v j := by
  refine ⟨_, ar32, fun j => ?_⟩
  by_cases e : j = q
  · subst e
    show (if 102 = 102 ∧ (3 * i + j) = (3 * i + j) then v else C.1 102 (3 * i + j)) = if j = j then v else C.1 102 (3 * i + j)
    rw [if_pos ⟨rfl, rfl⟩, if_pos rfl]
  · have e2 : ¬ (3 * i + j) = (3 * i + q) := by omega
    show (if 102 = 102 ∧ (3 * i + j) = (3 * i + q) then v else C.1 102 (3 * i + j)) = if j = q then v else C.1 102 (3 * i + j)
    rw [if_neg (fun z => e2 z.2), if_neg e]
theorem pa34 {C : mo_S} {i q : Nat} {v : Int32} : ∃ h2, cw_ar (mo_up C 126 (48 * i + q) v) 34 i = some (48, h2) ∧ ∀ j, h2 j = upd (fun j => C.1 126 (48 * i + j)) q v j := by
  refine ⟨_, ar34, fun j => ?_⟩
  by_cases e : j = q
  · subst e
    show (if 126 = 126 ∧ (48 * i + j) = (48 * i + j) then v else C.1 126 (48 * i + j)) = if j = j then v else C.1 126 (48 * i + j)
    rw [if_pos ⟨rfl, rfl⟩, if_pos rfl]
  · have e2 : ¬ (48 * i + j) = (48 * i + q) := by omega
    show (if 126 = 126 ∧ (48 * i + j) = (48 * i + q) then v else C.1 126 (48 * i + j)) = if j = q then v else C.1 126 (48 * i + j)
    rw [if_neg (fun z => e2 z.2), if_neg e]
section RW
variable {G : ev_G} {d bc bs : Nat} {M : ev_M} {Post : ev_P} {g : ev_H} {pc : Nat} {lv : List (Option Value)} {st : List Value}
variable {K : Nat → Prop} {g0 : ev_H} {W : cw_W} {C : mo_S}
theorem cw_getf {index k i ci j : Nat} {fs : List Value} {v : Value} (hE : ev_En G) (hT : cw_T G K g0 W g C) (hd : decode M.2.1 pc = .ok (.getfield index, 3)) (hF : ev_Fr M.1.cls index ci j) (hl : cw_lv C k i) (hk : cw_ob W C k i = some (ci, fs)) (hv : fs[j]? = some v) (kk : ev_V G d bc bs M Post g (pc + 3) lv (v :: st)) : ev_V G d bc bs M Post g pc lv (.ref (W k i) :: st) :=
  ev_getf hE hd hF ((hT.at hl).1 _ _ hk) hv kk
theorem cw_geti {index k i ci j : Nat} {fs : List Value} {v v2 : Int32} (hE : ev_En G) (hT : cw_T G K g0 W g C) (hd : decode M.2.1 pc = .ok (.getfield index, 3)) (hF : ev_Fr M.1.cls index ci j) (hl : cw_lv C k i) (hk : cw_ob W C k i = some (ci, fs)) (hv : fs[j]? = some (.int v)) (he : v = v2) (kk : ev_V G d bc bs M Post g (pc + 3) lv (.int v2 :: st)) : ev_V G d bc bs M Post g pc lv (.ref (W k i) :: st) := by
  subst he
  exact cw_getf hE hT hd hF hl hk hv kk
theorem cw_putf {index k i f x ci j : Nat} {fs : List Value} {v : Int32} {ty : FieldType} (hE : ev_En G) (hT : cw_T G K g0 W g C) (hd : decode M.2.1 pc = .ok (.putfield index, 3)) (hF : ev_F M.1.cls index ci j ty false) (hl : cw_lv C k i) (hk : cw_ob W C k i = some (ci, fs)) (hj : j < fs.length) (hn : narrow ty (.int v) = .int v) (hfit : fits ty (.int v) = true) (ho : cw_ow f x = (k, i)) (hf : f ∉ cw_S) (hO : k ∈ cw_OL) (hk2 : cw_ob W (mo_up C f x v) k i = some (ci, fs.set j (.int v))) (kk : ∀ g', cw_T G K g0 W g' (mo_up C f x v) → ev_V G d bc bs M Post g' (pc + 3) lv st) : ev_V G d bc bs M Post g pc lv (.int v :: .ref (W k i) :: st) :=
  ev_put hE hd hF ((hT.at hl).1 _ _ hk) hj hn hfit (kk _ (hT.put hl ho hf (cw_at_ob hO hk2 (ev_up_s _ _ _))))
theorem cw_ial {k i n q : Nat} {h : Nat → Int32} {x v : Int32} (hE : ev_En G) (hT : cw_T G K g0 W g C) (hd : decode M.2.1 pc = .ok (.iaload, 1)) (hl : cw_lv C k i) (hk : cw_ar C k i = some (n, h)) (hx : x = nI q) (hq : q < n) (hn : n < 2147483648) (hv : h q = v) (kk : ev_V G d bc bs M Post g (pc + 1) lv (.int v :: st)) : ev_V G d bc bs M Post g pc lv (.int x :: .ref (W k i) :: st) := by
  obtain ⟨f, a1, a2⟩ := (hT.at hl).2.1 _ _ hk
  subst hx
  refine ev_iald hE hd a1 (vp_in_nI hq hn) ?_
  rw [nI_clamp (by omega), a2 q hq, hv]
  exact kk
theorem cw_ias {k i n q f ix : Nat} {h : Nat → Int32} {x v : Int32} (hE : ev_En G) (hT : cw_T G K g0 W g C) (hd : decode M.2.1 pc = .ok (.iastore, 1)) (hl : cw_lv C k i) (hk : cw_ar C k i = some (n, h)) (hx : x = nI q) (hq : q < n) (hn : n < 2147483648) (ho : cw_ow f ix = (k, i)) (hf : f ∉ cw_S) (hA : k ∈ cw_AL) (hk2 : ∃ h2, cw_ar (mo_up C f ix v) k i = some (n, h2) ∧ ∀ j, h2 j = upd h q v j) (kk : ∀ g', cw_T G K g0 W g' (mo_up C f ix v) → ev_V G d bc bs M Post g' (pc + 1) lv st) : ev_V G d bc bs M Post g pc lv (.int v :: .int x :: .ref (W k i) :: st) := by
  obtain ⟨f', a1, a2⟩ := (hT.at hl).2.1 _ _ hk
  obtain ⟨h2, b1, b2⟩ := hk2
  subst hx
  refine ev_iast hE hd a1 (vp_in_nI hq hn) (kk _ (hT.put hl ho hf (cw_at_ar hA b1 ⟨_, ev_up_s _ _ _, fun j hj => ?_⟩)))
  rw [nI_clamp (by omega), b2]
  unfold upd
  split
  · rfl
  · exact a2 j hj
theorem cw_alen {k i n : Nat} {h : Nat → Int32} (hE : ev_En G) (hT : cw_T G K g0 W g C) (hd : decode M.2.1 pc = .ok (.arraylength, 1)) (hl : cw_lv C k i) (hk : cw_ar C k i = some (n, h)) (kk : ev_V G d bc bs M Post g (pc + 1) lv (.int (nI n) :: st)) : ev_V G d bc bs M Post g pc lv (.ref (W k i) :: st) := by
  obtain ⟨f, a1, a2⟩ := (hT.at hl).2.1 _ _ hk
  exact ev_alen (t0 := 0) hE hd rfl a1 kk
theorem cw_lal {i q : Nat} {x : Int32} (hE : ev_En G) (hT : cw_T G K g0 W g C) (hd : decode M.2.1 pc = .ok (.laload, 1)) (hl : cw_lv C 12 i) (hx : x = nI q) (hq : q < 12) (kk : ev_V G d bc bs M Post g (pc + 1) lv (.long (C.2 q) :: st)) : ev_V G d bc bs M Post g pc lv (.int x :: .ref (W 12 i) :: st) := by
  obtain ⟨f, a1, a2⟩ := (hT.at hl).2.2.2.1 rfl
  subst hx
  refine ev_lald hE hd a1 (vp_in_nI hq (by decide)) ?_
  rw [nI_clamp (by omega), a2 q hq]
  exact kk
theorem cw_las {i q : Nat} {x : Int32} {v : Int64} (hE : ev_En G) (hT : cw_T G K g0 W g C) (hd : decode M.2.1 pc = .ok (.lastore, 1)) (hl : cw_lv C 12 i) (hx : x = nI q) (hq : q < 12) (kk : ∀ g', cw_T G K g0 W g' (mo_upL C q v) → ev_V G d bc bs M Post g' (pc + 1) lv st) : ev_V G d bc bs M Post g pc lv (.long v :: .int x :: .ref (W 12 i) :: st) := by
  obtain ⟨f, a1, a2⟩ := (hT.at hl).2.2.2.1 rfl
  subst hx
  refine ev_last hE hd a1 (vp_in_nI hq (by decide)) (kk _ (hT.set hl (fun _ _ => rfl) (fun _ _ _ => rfl) (fun q => absurd rfl q) ?_))
  refine ⟨fun ci fs e => ?_, fun n hh e => ?_, fun e => (by cases e), fun _ => ⟨_, ev_up_s _ _ _, fun j hj => ?_⟩, fun e => (by cases e)⟩
  · simp only [cw_ob] at e; cases e
  · simp only [cw_ar] at e; cases e
  · rw [nI_clamp (by omega)]
    show (if j = q then v else f j) = if j = q then v else C.2 j
    split
    · rfl
    · exact a2 j hj
/-! contracts of the class' methods -/
def cw_C (G : ev_G) (W : cw_W) (d : Nat) (M' : ev_M) (As : List Value) (C : mo_S) (r : Option Value) (C2 : mo_S) : Prop := ∀ K g0 g, cw_T G K g0 W g C → ev_C G d 0 0 M' As g (fun o g' => o = .inl r ∧ cw_T G K g0 W g' C2)
def cw_R (G : ev_G) (W : cw_W) (d mc ms : Nat) (M' : ev_M) (As : List Value) (C : mo_S) (Q : (Option Value ⊕ String) → cw_W → mo_S → Prop) : Prop := ∀ K g0 g, cw_T G K g0 W g C → ev_C G d mc ms M' As g (fun o g' => ∃ W2 C2, Q o W2 C2 ∧ cw_T G K g0 W2 g' C2)
theorem cw_start {As : List Value} {lv0 : List (Option Value)} {C2 : mo_S} {r : Option Value} (hy : plainName M.1.cls = true) (hh : M.2.2.2.2 = []) (hn : (lg_sl As).length ≤ M.2.2.1) (hlv : ev_ent As M.2.2.1 = lv0)
    (k : ∀ K g0 g, cw_T G K g0 W g C → ev_V G d 0 0 M (fun o g' => o = .inl r ∧ cw_T G K g0 W g' C2) g 0 lv0 []) : cw_C G W d M As C r C2 :=
  fun K g0 g hT => ev_start hy hh hn hlv (k K g0 g hT)
theorem cw_startR {mc ms : Nat} {As : List Value} {lv0 : List (Option Value)} {Q : (Option Value ⊕ String) → cw_W → mo_S → Prop} (hy : plainName M.1.cls = true) (hh : M.2.2.2.2 = []) (hn : (lg_sl As).length ≤ M.2.2.1) (hlv : ev_ent As M.2.2.1 = lv0)
    (k : ∀ K g0 g, cw_T G K g0 W g C → ev_V G d mc ms M (fun o g' => ∃ W2 C2, Q o W2 C2 ∧ cw_T G K g0 W2 g' C2) g 0 lv0 []) : cw_R G W d mc ms M As C Q :=
  fun K g0 g hT => ev_start hy hh hn hlv (k K g0 g hT)
theorem cw_call0 {index d' k i ci : Nat} {fs : List Value} {M' : ev_M} {r : Option Value} {C2 : mo_S} {rest : List Value} (hE : ev_En G) (hT : cw_T G K g0 W g C) (hd : decode M.2.1 pc = .ok (.invokevirtual index, 3)) (hh : M'.2.2.2.2 = []) (hK : ev_K M' 0) (hl1 : Cond.methodLink M.1.cls index M'.1 ∈ ev_T) (hl2 : Cond.instanceMethod M'.1 ∈ ev_T) (hl3 : Cond.selects M'.1.cls M'.1 M'.1 ∈ ev_T) (hl : cw_lv C k i) (hk : cw_ob W C k i = some (ci, fs)) (hci : (vwCl[ci]?).map (fun q => q.1) = some M'.1.cls) (hr : (rest.map fun v => v.category).sum ≤ 8) (hdd : d' + 1 ≤ d) (hM : cw_C G W d' M' [.ref (W k i)] C r C2) (kk : ∀ g', cw_T G K g0 W g' C2 → ev_V G d bc bs M Post g' (pc + 3) lv (r.toList ++ rest)) : ev_V G d bc bs M Post g pc lv (.ref (W k i) :: rest) :=
  ev_callV (As := []) hE hd hh hK rfl hl1 hl2 hl3 ((hT.at hl).1 _ _ hk) hci hr hdd (hM K g0 g hT) (b := bc) (k0 := bs) (Nat.le_refl _) (Nat.le_refl _) (fun v g' h => by obtain ⟨h1, h2⟩ := h; cases h1; exact kk g' h2) (fun E g' h => by cases h.1)
theorem cw_callr0 {index d' mc' ms' b n0 k i ci : Nat} {fs : List Value} {M' : ev_M} {Q : (Option Value ⊕ String) → cw_W → mo_S → Prop} {rest : List Value} (hE : ev_En G) (hT : cw_T G K g0 W g C) (hd : decode M.2.1 pc = .ok (.invokevirtual index, 3)) (hh : M'.2.2.2.2 = []) (hK : ev_K M' 0) (hl1 : Cond.methodLink M.1.cls index M'.1 ∈ ev_T) (hl2 : Cond.instanceMethod M'.1 ∈ ev_T) (hl3 : Cond.selects M'.1.cls M'.1 M'.1 ∈ ev_T) (hl : cw_lv C k i) (hk : cw_ob W C k i = some (ci, fs)) (hci : (vwCl[ci]?).map (fun q => q.1) = some M'.1.cls) (hr : (rest.map fun v => v.category).sum ≤ 8) (hdd : d' + 1 ≤ d) (hM : cw_R G W d' mc' ms' M' [.ref (W k i)] C Q) (hb : b + mc' ≤ bc) (hs0 : n0 + ms' ≤ bs) (kk : ∀ v W2 C2 g', Q (.inl v) W2 C2 → cw_T G K g0 W2 g' C2 → ev_V G d b n0 M Post g' (pc + 3) lv (v.toList ++ rest)) (kx : ∀ E W2 C2 g', Q (.inr E) W2 C2 → cw_T G K g0 W2 g' C2 → ev_Vx G d b n0 M Post g' pc lv E) : ev_V G d bc bs M Post g pc lv (.ref (W k i) :: rest) :=
  ev_callV (As := []) hE hd hh hK rfl hl1 hl2 hl3 ((hT.at hl).1 _ _ hk) hci hr hdd (hM K g0 g hT) hb hs0 (fun v g' h => by obtain ⟨W2, C2, h1, h2⟩ := h; exact kk v W2 C2 g' h1 h2) (fun E g' h => by obtain ⟨W2, C2, h1, h2⟩ := h; exact kx E W2 C2 g' h1 h2)
theorem cw_callS0 {index d' : Nat} {M' : ev_M} {r : Option Value} {C2 : mo_S} {rest : List Value} (hT : cw_T G K g0 W g C) (hd : decode M.2.1 pc = .ok (.invokestatic index, 3)) (hh : M'.2.2.2.2 = []) (hK : ev_K M' 0) (hl1 : Cond.methodLink M.1.cls index M'.1 ∈ ev_T) (hl2 : Cond.static M'.1 ∈ ev_T) (hr : (rest.map fun v => v.category).sum ≤ 8) (hdd : d' + 1 ≤ d) (hM : cw_C G W d' M' [] C r C2) (kk : ∀ g', cw_T G K g0 W g' C2 → ev_V G d bc bs M Post g' (pc + 3) lv (r.toList ++ rest)) : ev_V G d bc bs M Post g pc lv (rest) :=
  ev_callS (ci := 0) (r := 0) (fs := []) (As := []) hd hh hK rfl hl1 hl2 hr hdd (hM K g0 g hT) (b := bc) (k0 := bs) (Nat.le_refl _) (Nat.le_refl _) (fun v g' h => by obtain ⟨h1, h2⟩ := h; cases h1; exact kk g' h2) (fun E g' h => by cases h.1)
theorem cw_callSr0 {index d' mc' ms' b n0 : Nat} {M' : ev_M} {Q : (Option Value ⊕ String) → cw_W → mo_S → Prop} {rest : List Value} (hT : cw_T G K g0 W g C) (hd : decode M.2.1 pc = .ok (.invokestatic index, 3)) (hh : M'.2.2.2.2 = []) (hK : ev_K M' 0) (hl1 : Cond.methodLink M.1.cls index M'.1 ∈ ev_T) (hl2 : Cond.static M'.1 ∈ ev_T) (hr : (rest.map fun v => v.category).sum ≤ 8) (hdd : d' + 1 ≤ d) (hM : cw_R G W d' mc' ms' M' [] C Q) (hb : b + mc' ≤ bc) (hs0 : n0 + ms' ≤ bs) (kk : ∀ v W2 C2 g', Q (.inl v) W2 C2 → cw_T G K g0 W2 g' C2 → ev_V G d b n0 M Post g' (pc + 3) lv (v.toList ++ rest)) (kx : ∀ E W2 C2 g', Q (.inr E) W2 C2 → cw_T G K g0 W2 g' C2 → ev_Vx G d b n0 M Post g' pc lv E) : ev_V G d bc bs M Post g pc lv (rest) :=
  ev_callS (ci := 0) (r := 0) (fs := []) (As := []) hd hh hK rfl hl1 hl2 hr hdd (hM K g0 g hT) hb hs0 (fun v g' h => by obtain ⟨W2, C2, h1, h2⟩ := h; exact kk v W2 C2 g' h1 h2) (fun E g' h => by obtain ⟨W2, C2, h1, h2⟩ := h; exact kx E W2 C2 g' h1 h2)
theorem cw_call1 {index d' k i ci : Nat} {fs : List Value} {M' : ev_M} {r : Option Value} {C2 : mo_S} {a1 : Value} {rest : List Value} (hE : ev_En G) (hT : cw_T G K g0 W g C) (hd : decode M.2.1 pc = .ok (.invokevirtual index, 3)) (hh : M'.2.2.2.2 = []) (hK : ev_K M' 1) (hl1 : Cond.methodLink M.1.cls index M'.1 ∈ ev_T) (hl2 : Cond.instanceMethod M'.1 ∈ ev_T) (hl3 : Cond.selects M'.1.cls M'.1 M'.1 ∈ ev_T) (hl : cw_lv C k i) (hk : cw_ob W C k i = some (ci, fs)) (hci : (vwCl[ci]?).map (fun q => q.1) = some M'.1.cls) (hr : (rest.map fun v => v.category).sum ≤ 8) (hdd : d' + 1 ≤ d) (hM : cw_C G W d' M' [.ref (W k i), a1] C r C2) (kk : ∀ g', cw_T G K g0 W g' C2 → ev_V G d bc bs M Post g' (pc + 3) lv (r.toList ++ rest)) : ev_V G d bc bs M Post g pc lv (a1 :: .ref (W k i) :: rest) :=
  ev_callV (As := [a1]) hE hd hh hK rfl hl1 hl2 hl3 ((hT.at hl).1 _ _ hk) hci hr hdd (hM K g0 g hT) (b := bc) (k0 := bs) (Nat.le_refl _) (Nat.le_refl _) (fun v g' h => by obtain ⟨h1, h2⟩ := h; cases h1; exact kk g' h2) (fun E g' h => by cases h.1)
theorem cw_callr1 {index d' mc' ms' b n0 k i ci : Nat} {fs : List Value} {M' : ev_M} {Q : (Option Value ⊕ String) → cw_W → mo_S → Prop} {a1 : Value} {rest : List Value} (hE : ev_En G) (hT : cw_T G K g0 W g C) (hd : decode M.2.1 pc = .ok (.invokevirtual index, 3)) (hh : M'.2.2.2.2 = []) (hK : ev_K M' 1) (hl1 : Cond.methodLink M.1.cls index M'.1 ∈ ev_T) (hl2 : Cond.instanceMethod M'.1 ∈ ev_T) (hl3 : Cond.selects M'.1.cls M'.1 M'.1 ∈ ev_T) (hl : cw_lv C k i) (hk : cw_ob W C k i = some (ci, fs)) (hci : (vwCl[ci]?).map (fun q => q.1) = some M'.1.cls) (hr : (rest.map fun v => v.category).sum ≤ 8) (hdd : d' + 1 ≤ d) (hM : cw_R G W d' mc' ms' M' [.ref (W k i), a1] C Q) (hb : b + mc' ≤ bc) (hs0 : n0 + ms' ≤ bs) (kk : ∀ v W2 C2 g', Q (.inl v) W2 C2 → cw_T G K g0 W2 g' C2 → ev_V G d b n0 M Post g' (pc + 3) lv (v.toList ++ rest)) (kx : ∀ E W2 C2 g', Q (.inr E) W2 C2 → cw_T G K g0 W2 g' C2 → ev_Vx G d b n0 M Post g' pc lv E) : ev_V G d bc bs M Post g pc lv (a1 :: .ref (W k i) :: rest) :=
  ev_callV (As := [a1]) hE hd hh hK rfl hl1 hl2 hl3 ((hT.at hl).1 _ _ hk) hci hr hdd (hM K g0 g hT) hb hs0 (fun v g' h => by obtain ⟨W2, C2, h1, h2⟩ := h; exact kk v W2 C2 g' h1 h2) (fun E g' h => by obtain ⟨W2, C2, h1, h2⟩ := h; exact kx E W2 C2 g' h1 h2)
theorem cw_callS1 {index d' : Nat} {M' : ev_M} {r : Option Value} {C2 : mo_S} {a1 : Value} {rest : List Value} (hT : cw_T G K g0 W g C) (hd : decode M.2.1 pc = .ok (.invokestatic index, 3)) (hh : M'.2.2.2.2 = []) (hK : ev_K M' 1) (hl1 : Cond.methodLink M.1.cls index M'.1 ∈ ev_T) (hl2 : Cond.static M'.1 ∈ ev_T) (hr : (rest.map fun v => v.category).sum ≤ 8) (hdd : d' + 1 ≤ d) (hM : cw_C G W d' M' [a1] C r C2) (kk : ∀ g', cw_T G K g0 W g' C2 → ev_V G d bc bs M Post g' (pc + 3) lv (r.toList ++ rest)) : ev_V G d bc bs M Post g pc lv (a1 :: rest) :=
  ev_callS (ci := 0) (r := 0) (fs := []) (As := [a1]) hd hh hK rfl hl1 hl2 hr hdd (hM K g0 g hT) (b := bc) (k0 := bs) (Nat.le_refl _) (Nat.le_refl _) (fun v g' h => by obtain ⟨h1, h2⟩ := h; cases h1; exact kk g' h2) (fun E g' h => by cases h.1)
theorem cw_callSr1 {index d' mc' ms' b n0 : Nat} {M' : ev_M} {Q : (Option Value ⊕ String) → cw_W → mo_S → Prop} {a1 : Value} {rest : List Value} (hT : cw_T G K g0 W g C) (hd : decode M.2.1 pc = .ok (.invokestatic index, 3)) (hh : M'.2.2.2.2 = []) (hK : ev_K M' 1) (hl1 : Cond.methodLink M.1.cls index M'.1 ∈ ev_T) (hl2 : Cond.static M'.1 ∈ ev_T) (hr : (rest.map fun v => v.category).sum ≤ 8) (hdd : d' + 1 ≤ d) (hM : cw_R G W d' mc' ms' M' [a1] C Q) (hb : b + mc' ≤ bc) (hs0 : n0 + ms' ≤ bs) (kk : ∀ v W2 C2 g', Q (.inl v) W2 C2 → cw_T G K g0 W2 g' C2 → ev_V G d b n0 M Post g' (pc + 3) lv (v.toList ++ rest)) (kx : ∀ E W2 C2 g', Q (.inr E) W2 C2 → cw_T G K g0 W2 g' C2 → ev_Vx G d b n0 M Post g' pc lv E) : ev_V G d bc bs M Post g pc lv (a1 :: rest) :=
  ev_callS (ci := 0) (r := 0) (fs := []) (As := [a1]) hd hh hK rfl hl1 hl2 hr hdd (hM K g0 g hT) hb hs0 (fun v g' h => by obtain ⟨W2, C2, h1, h2⟩ := h; exact kk v W2 C2 g' h1 h2) (fun E g' h => by obtain ⟨W2, C2, h1, h2⟩ := h; exact kx E W2 C2 g' h1 h2)
theorem cw_call2 {index d' k i ci : Nat} {fs : List Value} {M' : ev_M} {r : Option Value} {C2 : mo_S} {a1 a2 : Value} {rest : List Value} (hE : ev_En G) (hT : cw_T G K g0 W g C) (hd : decode M.2.1 pc = .ok (.invokevirtual index, 3)) (hh : M'.2.2.2.2 = []) (hK : ev_K M' 2) (hl1 : Cond.methodLink M.1.cls index M'.1 ∈ ev_T) (hl2 : Cond.instanceMethod M'.1 ∈ ev_T) (hl3 : Cond.selects M'.1.cls M'.1 M'.1 ∈ ev_T) (hl : cw_lv C k i) (hk : cw_ob W C k i = some (ci, fs)) (hci : (vwCl[ci]?).map (fun q => q.1) = some M'.1.cls) (hr : (rest.map fun v => v.category).sum ≤ 8) (hdd : d' + 1 ≤ d) (hM : cw_C G W d' M' [.ref (W k i), a1, a2] C r C2) (kk : ∀ g', cw_T G K g0 W g' C2 → ev_V G d bc bs M Post g' (pc + 3) lv (r.toList ++ rest)) : ev_V G d bc bs M Post g pc lv (a2 :: a1 :: .ref (W k i) :: rest) :=
  ev_callV (As := [a1, a2]) hE hd hh hK rfl hl1 hl2 hl3 ((hT.at hl).1 _ _ hk) hci hr hdd (hM K g0 g hT) (b := bc) (k0 := bs) (Nat.le_refl _) (Nat.le_refl _) (fun v g' h => by obtain ⟨h1, h2⟩ := h; cases h1; exact kk g' h2) (fun E g' h => by cases h.1)
theorem cw_callr2 {index d' mc' ms' b n0 k i ci : Nat} {fs : List Value} {M' : ev_M} {Q : (Option Value ⊕ String) → cw_W → mo_S → Prop} {a1 a2 : Value} {rest : List Value} (hE : ev_En G) (hT : cw_T G K g0 W g C) (hd : decode M.2.1 pc = .ok (.invokevirtual index, 3)) (hh : M'.2.2.2.2 = []) (hK : ev_K M' 2) (hl1 : Cond.methodLink M.1.cls index M'.1 ∈ ev_T) (hl2 : Cond.instanceMethod M'.1 ∈ ev_T) (hl3 : Cond.selects M'.1.cls M'.1 M'.1 ∈ ev_T) (hl : cw_lv C k i) (hk : cw_ob W C k i = some (ci, fs)) (hci : (vwCl[ci]?).map (fun q => q.1) = some M'.1.cls) (hr : (rest.map fun v => v.category).sum ≤ 8) (hdd : d' + 1 ≤ d) (hM : cw_R G W d' mc' ms' M' [.ref (W k i), a1, a2] C Q) (hb : b + mc' ≤ bc) (hs0 : n0 + ms' ≤ bs) (kk : ∀ v W2 C2 g', Q (.inl v) W2 C2 → cw_T G K g0 W2 g' C2 → ev_V G d b n0 M Post g' (pc + 3) lv (v.toList ++ rest)) (kx : ∀ E W2 C2 g', Q (.inr E) W2 C2 → cw_T G K g0 W2 g' C2 → ev_Vx G d b n0 M Post g' pc lv E) : ev_V G d bc bs M Post g pc lv (a2 :: a1 :: .ref (W k i) :: rest) :=
  ev_callV (As := [a1, a2]) hE hd hh hK rfl hl1 hl2 hl3 ((hT.at hl).1 _ _ hk) hci hr hdd (hM K g0 g hT) hb hs0 (fun v g' h => by obtain ⟨W2, C2, h1, h2⟩ := h; exact kk v W2 C2 g' h1 h2) (fun E g' h => by obtain ⟨W2, C2, h1, h2⟩ := h; exact kx E W2 C2 g' h1 h2)
theorem cw_callS2 {index d' : Nat} {M' : ev_M} {r : Option Value} {C2 : mo_S} {a1 a2 : Value} {rest : List Value} (hT : cw_T G K g0 W g C) (hd : decode M.2.1 pc = .ok (.invokestatic index, 3)) (hh : M'.2.2.2.2 = []) (hK : ev_K M' 2) (hl1 : Cond.methodLink M.1.cls index M'.1 ∈ ev_T) (hl2 : Cond.static M'.1 ∈ ev_T) (hr : (rest.map fun v => v.category).sum ≤ 8) (hdd : d' + 1 ≤ d) (hM : cw_C G W d' M' [a1, a2] C r C2) (kk : ∀ g', cw_T G K g0 W g' C2 → ev_V G d bc bs M Post g' (pc + 3) lv (r.toList ++ rest)) : ev_V G d bc bs M Post g pc lv (a2 :: a1 :: rest) :=
  ev_callS (ci := 0) (r := 0) (fs := []) (As := [a1, a2]) hd hh hK rfl hl1 hl2 hr hdd (hM K g0 g hT) (b := bc) (k0 := bs) (Nat.le_refl _) (Nat.le_refl _) (fun v g' h => by obtain ⟨h1, h2⟩ := h; cases h1; exact kk g' h2) (fun E g' h => by cases h.1)
theorem cw_callSr2 {index d' mc' ms' b n0 : Nat} {M' : ev_M} {Q : (Option Value ⊕ String) → cw_W → mo_S → Prop} {a1 a2 : Value} {rest : List Value} (hT : cw_T G K g0 W g C) (hd : decode M.2.1 pc = .ok (.invokestatic index, 3)) (hh : M'.2.2.2.2 = []) (hK : ev_K M' 2) (hl1 : Cond.methodLink M.1.cls index M'.1 ∈ ev_T) (hl2 : Cond.static M'.1 ∈ ev_T) (hr : (rest.map fun v => v.category).sum ≤ 8) (hdd : d' + 1 ≤ d) (hM : cw_R G W d' mc' ms' M' [a1, a2] C Q) (hb : b + mc' ≤ bc) (hs0 : n0 + ms' ≤ bs) (kk : ∀ v W2 C2 g', Q (.inl v) W2 C2 → cw_T G K g0 W2 g' C2 → ev_V G d b n0 M Post g' (pc + 3) lv (v.toList ++ rest)) (kx : ∀ E W2 C2 g', Q (.inr E) W2 C2 → cw_T G K g0 W2 g' C2 → ev_Vx G d b n0 M Post g' pc lv E) : ev_V G d bc bs M Post g pc lv (a2 :: a1 :: rest) :=
  ev_callS (ci := 0) (r := 0) (fs := []) (As := [a1, a2]) hd hh hK rfl hl1 hl2 hr hdd (hM K g0 g hT) hb hs0 (fun v g' h => by obtain ⟨W2, C2, h1, h2⟩ := h; exact kk v W2 C2 g' h1 h2) (fun E g' h => by obtain ⟨W2, C2, h1, h2⟩ := h; exact kx E W2 C2 g' h1 h2)
theorem cw_call3 {index d' k i ci : Nat} {fs : List Value} {M' : ev_M} {r : Option Value} {C2 : mo_S} {a1 a2 a3 : Value} {rest : List Value} (hE : ev_En G) (hT : cw_T G K g0 W g C) (hd : decode M.2.1 pc = .ok (.invokevirtual index, 3)) (hh : M'.2.2.2.2 = []) (hK : ev_K M' 3) (hl1 : Cond.methodLink M.1.cls index M'.1 ∈ ev_T) (hl2 : Cond.instanceMethod M'.1 ∈ ev_T) (hl3 : Cond.selects M'.1.cls M'.1 M'.1 ∈ ev_T) (hl : cw_lv C k i) (hk : cw_ob W C k i = some (ci, fs)) (hci : (vwCl[ci]?).map (fun q => q.1) = some M'.1.cls) (hr : (rest.map fun v => v.category).sum ≤ 8) (hdd : d' + 1 ≤ d) (hM : cw_C G W d' M' [.ref (W k i), a1, a2, a3] C r C2) (kk : ∀ g', cw_T G K g0 W g' C2 → ev_V G d bc bs M Post g' (pc + 3) lv (r.toList ++ rest)) : ev_V G d bc bs M Post g pc lv (a3 :: a2 :: a1 :: .ref (W k i) :: rest) :=
  ev_callV (As := [a1, a2, a3]) hE hd hh hK rfl hl1 hl2 hl3 ((hT.at hl).1 _ _ hk) hci hr hdd (hM K g0 g hT) (b := bc) (k0 := bs) (Nat.le_refl _) (Nat.le_refl _) (fun v g' h => by obtain ⟨h1, h2⟩ := h; cases h1; exact kk g' h2) (fun E g' h => by cases h.1)
theorem cw_callr3 {index d' mc' ms' b n0 k i ci : Nat} {fs : List Value} {M' : ev_M} {Q : (Option Value ⊕ String) → cw_W → mo_S → Prop} {a1 a2 a3 : Value} {rest : List Value} (hE : ev_En G) (hT : cw_T G K g0 W g C) (hd : decode M.2.1 pc = .ok (.invokevirtual index, 3)) (hh : M'.2.2.2.2 = []) (hK : ev_K M' 3) (hl1 : Cond.methodLink M.1.cls index M'.1 ∈ ev_T) (hl2 : Cond.instanceMethod M'.1 ∈ ev_T) (hl3 : Cond.selects M'.1.cls M'.1 M'.1 ∈ ev_T) (hl : cw_lv C k i) (hk : cw_ob W C k i = some (ci, fs)) (hci : (vwCl[ci]?).map (fun q => q.1) = some M'.1.cls) (hr : (rest.map fun v => v.category).sum ≤ 8) (hdd : d' + 1 ≤ d) (hM : cw_R G W d' mc' ms' M' [.ref (W k i), a1, a2, a3] C Q) (hb : b + mc' ≤ bc) (hs0 : n0 + ms' ≤ bs) (kk : ∀ v W2 C2 g', Q (.inl v) W2 C2 → cw_T G K g0 W2 g' C2 → ev_V G d b n0 M Post g' (pc + 3) lv (v.toList ++ rest)) (kx : ∀ E W2 C2 g', Q (.inr E) W2 C2 → cw_T G K g0 W2 g' C2 → ev_Vx G d b n0 M Post g' pc lv E) : ev_V G d bc bs M Post g pc lv (a3 :: a2 :: a1 :: .ref (W k i) :: rest) :=
  ev_callV (As := [a1, a2, a3]) hE hd hh hK rfl hl1 hl2 hl3 ((hT.at hl).1 _ _ hk) hci hr hdd (hM K g0 g hT) hb hs0 (fun v g' h => by obtain ⟨W2, C2, h1, h2⟩ := h; exact kk v W2 C2 g' h1 h2) (fun E g' h => by obtain ⟨W2, C2, h1, h2⟩ := h; exact kx E W2 C2 g' h1 h2)
theorem cw_callS3 {index d' : Nat} {M' : ev_M} {r : Option Value} {C2 : mo_S} {a1 a2 a3 : Value} {rest : List Value} (hT : cw_T G K g0 W g C) (hd : decode M.2.1 pc = .ok (.invokestatic index, 3)) (hh : M'.2.2.2.2 = []) (hK : ev_K M' 3) (hl1 : Cond.methodLink M.1.cls index M'.1 ∈ ev_T) (hl2 : Cond.static M'.1 ∈ ev_T) (hr : (rest.map fun v => v.category).sum ≤ 8) (hdd : d' + 1 ≤ d) (hM : cw_C G W d' M' [a1, a2, a3] C r C2) (kk : ∀ g', cw_T G K g0 W g' C2 → ev_V G d bc bs M Post g' (pc + 3) lv (r.toList ++ rest)) : ev_V G d bc bs M Post g pc lv (a3 :: a2 :: a1 :: rest) :=
  ev_callS (ci := 0) (r := 0) (fs := []) (As := [a1, a2, a3]) hd hh hK rfl hl1 hl2 hr hdd (hM K g0 g hT) (b := bc) (k0 := bs) (Nat.le_refl _) (Nat.le_refl _) (fun v g' h => by obtain ⟨h1, h2⟩ := h; cases h1; exact kk g' h2) (fun E g' h => by cases h.1)
theorem cw_callSr3 {index d' mc' ms' b n0 : Nat} {M' : ev_M} {Q : (Option Value ⊕ String) → cw_W → mo_S → Prop} {a1 a2 a3 : Value} {rest : List Value} (hT : cw_T G K g0 W g C) (hd : decode M.2.1 pc = .ok (.invokestatic index, 3)) (hh : M'.2.2.2.2 = []) (hK : ev_K M' 3) (hl1 : Cond.methodLink M.1.cls index M'.1 ∈ ev_T) (hl2 : Cond.static M'.1 ∈ ev_T) (hr : (rest.map fun v => v.category).sum ≤ 8) (hdd : d' + 1 ≤ d) (hM : cw_R G W d' mc' ms' M' [a1, a2, a3] C Q) (hb : b + mc' ≤ bc) (hs0 : n0 + ms' ≤ bs) (kk : ∀ v W2 C2 g', Q (.inl v) W2 C2 → cw_T G K g0 W2 g' C2 → ev_V G d b n0 M Post g' (pc + 3) lv (v.toList ++ rest)) (kx : ∀ E W2 C2 g', Q (.inr E) W2 C2 → cw_T G K g0 W2 g' C2 → ev_Vx G d b n0 M Post g' pc lv E) : ev_V G d bc bs M Post g pc lv (a3 :: a2 :: a1 :: rest) :=
  ev_callS (ci := 0) (r := 0) (fs := []) (As := [a1, a2, a3]) hd hh hK rfl hl1 hl2 hr hdd (hM K g0 g hT) hb hs0 (fun v g' h => by obtain ⟨W2, C2, h1, h2⟩ := h; exact kk v W2 C2 g' h1 h2) (fun E g' h => by obtain ⟨W2, C2, h1, h2⟩ := h; exact kx E W2 C2 g' h1 h2)
theorem cw_call4 {index d' k i ci : Nat} {fs : List Value} {M' : ev_M} {r : Option Value} {C2 : mo_S} {a1 a2 a3 a4 : Value} {rest : List Value} (hE : ev_En G) (hT : cw_T G K g0 W g C) (hd : decode M.2.1 pc = .ok (.invokevirtual index, 3)) (hh : M'.2.2.2.2 = []) (hK : ev_K M' 4) (hl1 : Cond.methodLink M.1.cls index M'.1 ∈ ev_T) (hl2 : Cond.instanceMethod M'.1 ∈ ev_T) (hl3 : Cond.selects M'.1.cls M'.1 M'.1 ∈ ev_T) (hl : cw_lv C k i) (hk : cw_ob W C k i = some (ci, fs)) (hci : (vwCl[ci]?).map (fun q => q.1) = some M'.1.cls) (hr : (rest.map fun v => v.category).sum ≤ 8) (hdd : d' + 1 ≤ d) (hM : cw_C G W d' M' [.ref (W k i), a1, a2, a3, a4] C r C2) (kk : ∀ g', cw_T G K g0 W g' C2 → ev_V G d bc bs M Post g' (pc + 3) lv (r.toList ++ rest)) : ev_V G d bc bs M Post g pc lv (a4 :: a3 :: a2 :: a1 :: .ref (W k i) :: rest) :=
  ev_callV (As := [a1, a2, a3, a4]) hE hd hh hK rfl hl1 hl2 hl3 ((hT.at hl).1 _ _ hk) hci hr hdd (hM K g0 g hT) (b := bc) (k0 := bs) (Nat.le_refl _) (Nat.le_refl _) (fun v g' h => by obtain ⟨h1, h2⟩ := h; cases h1; exact kk g' h2) (fun E g' h => by cases h.1)
theorem cw_callr4 {index d' mc' ms' b n0 k i ci : Nat} {fs : List Value} {M' : ev_M} {Q : (Option Value ⊕ String) → cw_W → mo_S → Prop} {a1 a2 a3 a4 : Value} {rest : List Value} (hE : ev_En G) (hT : cw_T G K g0 W g C) (hd : decode M.2.1 pc = .ok (.invokevirtual index, 3)) (hh : M'.2.2.2.2 = []) (hK : ev_K M' 4) (hl1 : Cond.methodLink M.1.cls index M'.1 ∈ ev_T) (hl2 : Cond.instanceMethod M'.1 ∈ ev_T) (hl3 : Cond.selects M'.1.cls M'.1 M'.1 ∈ ev_T) (hl : cw_lv C k i) (hk : cw_ob W C k i = some (ci, fs)) (hci : (vwCl[ci]?).map (fun q => q.1) = some M'.1.cls) (hr : (rest.map fun v => v.category).sum ≤ 8) (hdd : d' + 1 ≤ d) (hM : cw_R G W d' mc' ms' M' [.ref (W k i), a1, a2, a3, a4] C Q) (hb : b + mc' ≤ bc) (hs0 : n0 + ms' ≤ bs) (kk : ∀ v W2 C2 g', Q (.inl v) W2 C2 → cw_T G K g0 W2 g' C2 → ev_V G d b n0 M Post g' (pc + 3) lv (v.toList ++ rest)) (kx : ∀ E W2 C2 g', Q (.inr E) W2 C2 → cw_T G K g0 W2 g' C2 → ev_Vx G d b n0 M Post g' pc lv E) : ev_V G d bc bs M Post g pc lv (a4 :: a3 :: a2 :: a1 :: .ref (W k i) :: rest) :=
  ev_callV (As := [a1, a2, a3, a4]) hE hd hh hK rfl hl1 hl2 hl3 ((hT.at hl).1 _ _ hk) hci hr hdd (hM K g0 g hT) hb hs0 (fun v g' h => by obtain ⟨W2, C2, h1, h2⟩ := h; exact kk v W2 C2 g' h1 h2) (fun E g' h => by obtain ⟨W2, C2, h1, h2⟩ := h; exact kx E W2 C2 g' h1 h2)
theorem cw_callS4 {index d' : Nat} {M' : ev_M} {r : Option Value} {C2 : mo_S} {a1 a2 a3 a4 : Value} {rest : List Value} (hT : cw_T G K g0 W g C) (hd : decode M.2.1 pc = .ok (.invokestatic index, 3)) (hh : M'.2.2.2.2 = []) (hK : ev_K M' 4) (hl1 : Cond.methodLink M.1.cls index M'.1 ∈ ev_T) (hl2 : Cond.static M'.1 ∈ ev_T) (hr : (rest.map fun v => v.category).sum ≤ 8) (hdd : d' + 1 ≤ d) (hM : cw_C G W d' M' [a1, a2, a3, a4] C r C2) (kk : ∀ g', cw_T G K g0 W g' C2 → ev_V G d bc bs M Post g' (pc + 3) lv (r.toList ++ rest)) : ev_V G d bc bs M Post g pc lv (a4 :: a3 :: a2 :: a1 :: rest) :=
  ev_callS (ci := 0) (r := 0) (fs := []) (As := [a1, a2, a3, a4]) hd hh hK rfl hl1 hl2 hr hdd (hM K g0 g hT) (b := bc) (k0 := bs) (Nat.le_refl _) (Nat.le_refl _) (fun v g' h => by obtain ⟨h1, h2⟩ := h; cases h1; exact kk g' h2) (fun E g' h => by cases h.1)
theorem cw_callSr4 {index d' mc' ms' b n0 : Nat} {M' : ev_M} {Q : (Option Value ⊕ String) → cw_W → mo_S → Prop} {a1 a2 a3 a4 : Value} {rest : List Value} (hT : cw_T G K g0 W g C) (hd : decode M.2.1 pc = .ok (.invokestatic index, 3)) (hh : M'.2.2.2.2 = []) (hK : ev_K M' 4) (hl1 : Cond.methodLink M.1.cls index M'.1 ∈ ev_T) (hl2 : Cond.static M'.1 ∈ ev_T) (hr : (rest.map fun v => v.category).sum ≤ 8) (hdd : d' + 1 ≤ d) (hM : cw_R G W d' mc' ms' M' [a1, a2, a3, a4] C Q) (hb : b + mc' ≤ bc) (hs0 : n0 + ms' ≤ bs) (kk : ∀ v W2 C2 g', Q (.inl v) W2 C2 → cw_T G K g0 W2 g' C2 → ev_V G d b n0 M Post g' (pc + 3) lv (v.toList ++ rest)) (kx : ∀ E W2 C2 g', Q (.inr E) W2 C2 → cw_T G K g0 W2 g' C2 → ev_Vx G d b n0 M Post g' pc lv E) : ev_V G d bc bs M Post g pc lv (a4 :: a3 :: a2 :: a1 :: rest) :=
  ev_callS (ci := 0) (r := 0) (fs := []) (As := [a1, a2, a3, a4]) hd hh hK rfl hl1 hl2 hr hdd (hM K g0 g hT) hb hs0 (fun v g' h => by obtain ⟨W2, C2, h1, h2⟩ := h; exact kk v W2 C2 g' h1 h2) (fun E g' h => by obtain ⟨W2, C2, h1, h2⟩ := h; exact kx E W2 C2 g' h1 h2)
theorem cw_call5 {index d' k i ci : Nat} {fs : List Value} {M' : ev_M} {r : Option Value} {C2 : mo_S} {a1 a2 a3 a4 a5 : Value} {rest : List Value} (hE : ev_En G) (hT : cw_T G K g0 W g C) (hd : decode M.2.1 pc = .ok (.invokevirtual index, 3)) (hh : M'.2.2.2.2 = []) (hK : ev_K M' 5) (hl1 : Cond.methodLink M.1.cls index M'.1 ∈ ev_T) (hl2 : Cond.instanceMethod M'.1 ∈ ev_T) (hl3 : Cond.selects M'.1.cls M'.1 M'.1 ∈ ev_T) (hl : cw_lv C k i) (hk : cw_ob W C k i = some (ci, fs)) (hci : (vwCl[ci]?).map (fun q => q.1) = some M'.1.cls) (hr : (rest.map fun v => v.category).sum ≤ 8) (hdd : d' + 1 ≤ d) (hM : cw_C G W d' M' [.ref (W k i), a1, a2, a3, a4, a5] C r C2) (kk : ∀ g', cw_T G K g0 W g' C2 → ev_V G d bc bs M Post g' (pc + 3) lv (r.toList ++ rest)) : ev_V G d bc bs M Post g pc lv (a5 :: a4 :: a3 :: a2 :: a1 :: .ref (W k i) :: rest) :=
  ev_callV (As := [a1, a2, a3, a4, a5]) hE hd hh hK rfl hl1 hl2 hl3 ((hT.at hl).1 _ _ hk) hci hr hdd (hM K g0 g hT) (b := bc) (k0 := bs) (Nat.le_refl _) (Nat.le_refl _) (fun v g' h => by obtain ⟨h1, h2⟩ := h; cases h1; exact kk g' h2) (fun E g' h => by cases h.1)
theorem cw_callr5 {index d' mc' ms' b n0 k i ci : Nat} {fs : List Value} {M' : ev_M} {Q : (Option Value ⊕ String) → cw_W → mo_S → Prop} {a1 a2 a3 a4 a5 : Value} {rest : List Value} (hE : ev_En G) (hT : cw_T G K g0 W g C) (hd : decode M.2.1 pc = .ok (.invokevirtual index, 3)) (hh : M'.2.2.2.2 = []) (hK : ev_K M' 5) (hl1 : Cond.methodLink M.1.cls index M'.1 ∈ ev_T) (hl2 : Cond.instanceMethod M'.1 ∈ ev_T) (hl3 : Cond.selects M'.1.cls M'.1 M'.1 ∈ ev_T) (hl : cw_lv C k i) (hk : cw_ob W C k i = some (ci, fs)) (hci : (vwCl[ci]?).map (fun q => q.1) = some M'.1.cls) (hr : (rest.map fun v => v.category).sum ≤ 8) (hdd : d' + 1 ≤ d) (hM : cw_R G W d' mc' ms' M' [.ref (W k i), a1, a2, a3, a4, a5] C Q) (hb : b + mc' ≤ bc) (hs0 : n0 + ms' ≤ bs) (kk : ∀ v W2 C2 g', Q (.inl v) W2 C2 → cw_T G K g0 W2 g' C2 → ev_V G d b n0 M Post g' (pc + 3) lv (v.toList ++ rest)) (kx : ∀ E W2 C2 g', Q (.inr E) W2 C2 → cw_T G K g0 W2 g' C2 → ev_Vx G d b n0 M Post g' pc lv E) : ev_V G d bc bs M Post g pc lv (a5 :: a4 :: a3 :: a2 :: a1 :: .ref (W k i) :: rest) :=
  ev_callV (As := [a1, a2, a3, a4, a5]) hE hd hh hK rfl hl1 hl2 hl3 ((hT.at hl).1 _ _ hk) hci hr hdd (hM K g0 g hT) hb hs0 (fun v g' h => by obtain ⟨W2, C2, h1, h2⟩ := h; exact kk v W2 C2 g' h1 h2) (fun E g' h => by obtain ⟨W2, C2, h1, h2⟩ := h; exact kx E W2 C2 g' h1 h2)
theorem cw_callS5 {index d' : Nat} {M' : ev_M} {r : Option Value} {C2 : mo_S} {a1 a2 a3 a4 a5 : Value} {rest : List Value} (hT : cw_T G K g0 W g C) (hd : decode M.2.1 pc = .ok (.invokestatic index, 3)) (hh : M'.2.2.2.2 = []) (hK : ev_K M' 5) (hl1 : Cond.methodLink M.1.cls index M'.1 ∈ ev_T) (hl2 : Cond.static M'.1 ∈ ev_T) (hr : (rest.map fun v => v.category).sum ≤ 8) (hdd : d' + 1 ≤ d) (hM : cw_C G W d' M' [a1, a2, a3, a4, a5] C r C2) (kk : ∀ g', cw_T G K g0 W g' C2 → ev_V G d bc bs M Post g' (pc + 3) lv (r.toList ++ rest)) : ev_V G d bc bs M Post g pc lv (a5 :: a4 :: a3 :: a2 :: a1 :: rest) :=
  ev_callS (ci := 0) (r := 0) (fs := []) (As := [a1, a2, a3, a4, a5]) hd hh hK rfl hl1 hl2 hr hdd (hM K g0 g hT) (b := bc) (k0 := bs) (Nat.le_refl _) (Nat.le_refl _) (fun v g' h => by obtain ⟨h1, h2⟩ := h; cases h1; exact kk g' h2) (fun E g' h => by cases h.1)
theorem cw_callSr5 {index d' mc' ms' b n0 : Nat} {M' : ev_M} {Q : (Option Value ⊕ String) → cw_W → mo_S → Prop} {a1 a2 a3 a4 a5 : Value} {rest : List Value} (hT : cw_T G K g0 W g C) (hd : decode M.2.1 pc = .ok (.invokestatic index, 3)) (hh : M'.2.2.2.2 = []) (hK : ev_K M' 5) (hl1 : Cond.methodLink M.1.cls index M'.1 ∈ ev_T) (hl2 : Cond.static M'.1 ∈ ev_T) (hr : (rest.map fun v => v.category).sum ≤ 8) (hdd : d' + 1 ≤ d) (hM : cw_R G W d' mc' ms' M' [a1, a2, a3, a4, a5] C Q) (hb : b + mc' ≤ bc) (hs0 : n0 + ms' ≤ bs) (kk : ∀ v W2 C2 g', Q (.inl v) W2 C2 → cw_T G K g0 W2 g' C2 → ev_V G d b n0 M Post g' (pc + 3) lv (v.toList ++ rest)) (kx : ∀ E W2 C2 g', Q (.inr E) W2 C2 → cw_T G K g0 W2 g' C2 → ev_Vx G d b n0 M Post g' pc lv E) : ev_V G d bc bs M Post g pc lv (a5 :: a4 :: a3 :: a2 :: a1 :: rest) :=
  ev_callS (ci := 0) (r := 0) (fs := []) (As := [a1, a2, a3, a4, a5]) hd hh hK rfl hl1 hl2 hr hdd (hM K g0 g hT) hb hs0 (fun v g' h => by obtain ⟨W2, C2, h1, h2⟩ := h; exact kk v W2 C2 g' h1 h2) (fun E g' h => by obtain ⟨W2, C2, h1, h2⟩ := h; exact kx E W2 C2 g' h1 h2)
end RW
end CR
