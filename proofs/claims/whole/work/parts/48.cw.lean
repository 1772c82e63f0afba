section CW
/-! THE CLASS' WORLD. W k i: where the i-th thing of kind k lies; C: what they hold, numbered as the model's state where it has it too (C.1 f x), from 100 on what the class alone has. -/
abbrev cw_W : Type := Nat → Nat → Nat
/-- which number is a list's size; what lies in it -/
def cw_sz (l : Nat) : Nat := match l with | 0 => 1 | 1 => 21 | 2 => 29 | _ => 62
def cw_ek (l : Nat) : Nat := match l with | 0 => 20 | 1 => 27 | 2 => 28 | _ => 33
def cw_n (C : mo_S) (l : Nat) : Nat := (C.1 (cw_sz l) 0).toNatClampNeg
def cw_M (C : mo_S) : Nat := (C.1 134 0).toNatClampNeg
def cw_ol (C : mo_S) (i : Nat) : Prop := i < sp_O C ∨ i = 10 ∨ (i = 11 ∧ C.1 133 0 = 1)
/-- what there is -/
def cw_lv (C : mo_S) (k i : Nat) : Prop := match k with
  | 0 => i = 0
  | 1 => i < 4
  | 2 => i < 4 ∧ ¬ C.1 132 i = 0
  | 3 => i = 0
  | 4 => i = 0
  | 5 => i = 0
  | 6 => i = 0
  | 7 => i = 0
  | 8 => i = 0
  | 9 => i = 0
  | 10 => i = 0
  | 11 => i = 0
  | 12 => i = 0
  | 13 => i = 0
  | 14 => i = 0
  | 15 => i = 0
  | 16 => i = 0
  | 17 => i = 0
  | 18 => i = 0
  | 19 => i = 0
  | 20 => i < sp_P C
  | 21 => i < sp_P C
  | 22 => i < sp_P C
  | 23 => i < sp_P C
  | 24 => i < sp_P C
  | 25 => i < sp_P C
  | 26 => i < sp_P C
  | 27 => i < sp_R C
  | 28 => cw_ol C i
  | 29 => cw_ol C i
  | 30 => cw_ol C i ∧ ¬ C.1 110 i = 0
  | 31 => cw_ol C i
  | 32 => cw_ol C i
  | 33 => i < sp_A C
  | 34 => i < cw_M C
  | _ => False
def cw_ob (W : cw_W) (C : mo_S) (k i : Nat) : Option (Nat × List Value) := match k with
  | 0 => some (12, [.ref (W 1 0), .ref (W 1 1), .ref (W 1 2), .ref (W 1 3), .ref (W 3 0), .int (C.1 24 0), .int (C.1 2 0), .ref (W 28 10), .ref (W 4 0), .ref (W 7 0), .ref (W 9 0), .ref (W 13 0), .ref (W 19 0)])
  | 1 => some (0, [.int (C.1 131 i), .ref (if C.1 132 i = 0 then W 99 0 else W 2 i), .int (C.1 (cw_sz i) 0)])
  | 4 => some (8, [.ref (W 5 0), .int (C.1 28 0), .int (C.1 116 0), .int (C.1 117 0), .int (C.1 118 0), .int (C.1 119 0), .int (C.1 120 0), .int (C.1 33 0), .ref (W 6 0), .int (C.1 122 0)])
  | 7 => some (11, [.ref (W 8 0)])
  | 9 => some (7, [.ref (W 10 0), .ref (W 11 0), .ref (W 12 0)])
  | 13 => some (3, [.ref (W 14 0), .ref (W 15 0), .ref (W 16 0), .ref (W 17 0), .ref (W 18 0), .int (C.1 73 0)])
  | 19 => some (4, [.int (C.1 127 0), .int (C.1 128 0), .int (C.1 129 0), .int (C.1 130 0)])
  | 20 => some (6, [.int (C.1 3 i), .int (C.1 4 i), .int (C.1 5 i), .int (C.1 6 i), .int (C.1 7 i), .int (C.1 8 i), .int (C.1 9 i), .int (C.1 10 i), .int (C.1 11 i), .int (C.1 12 i), .int (C.1 13 i), .int (C.1 14 i), .int (C.1 15 i), .ref (W 21 i), .ref (W 22 i), .ref (W 23 i), .ref (W 24 i)])
  | 23 => some (2, [.int (C.1 16 i), .int (C.1 17 i), .int (C.1 18 i), .int (C.1 19 i), .int (C.1 20 i)])
  | 24 => some (10, [.ref (W 25 i), .ref (W 26 i), .int (C.1 59 i)])
  | 27 => some (9, [.int (C.1 22 i), .int (C.1 23 i)])
  | 28 => some (5, [.int (C.1 36 i), .ref (W 29 i), (if C.1 110 i = 0 then .null else .ref (W 30 i)), .int (C.1 100 i), .ref (W 31 i), .ref (W 32 i), .int (C.1 103 i), .int (C.1 104 i), .int (C.1 105 i), .int (C.1 106 i), .int (C.1 107 i), .int (C.1 108 i), .int (C.1 109 i)])
  | 33 => some (1, [.ref (W 20 (C.1 63 i).toNatClampNeg), .int (C.1 64 i), .int (C.1 65 i), .int (C.1 66 i), .int (C.1 68 i)])
  | _ => none
def cw_ar (C : mo_S) (k i : Nat) : Option (Nat × (Nat → Int32)) := match k with
  | 3 => some (5, fun j => C.1 25 j)
  | 5 => some (300, fun j => C.1 115 j)
  | 6 => some (300, fun j => C.1 121 j)
  | 8 => some (64, fun j => C.1 123 j)
  | 10 => some (12, fun j => C.1 124 j)
  | 11 => some (12, fun j => C.1 125 j)
  | 15 => some (60, fun j => C.1 74 j)
  | 16 => some (60, fun j => C.1 75 j)
  | 17 => some (60, fun j => C.1 76 j)
  | 18 => some (60, fun j => C.1 77 j)
  | 21 => some (5, fun j => C.1 26 (12 * j + i))
  | 22 => some (12, fun j => C.1 58 (12 * i + j))
  | 25 => some (8, fun j => C.1 60 (8 * i + j))
  | 26 => some (8, fun j => C.1 61 (8 * i + j))
  | 29 => some ((C.1 111 i).toNatClampNeg, fun j => C.1 112 (300 * i + j))
  | 30 => some ((C.1 113 i).toNatClampNeg, fun j => C.1 114 (300 * i + j))
  | 31 => some (3, fun j => C.1 101 (3 * i + j))
  | 32 => some (3, fun j => C.1 102 (3 * i + j))
  | 34 => some (48, fun j => C.1 126 (48 * i + j))
  | _ => none
/-- whose a number is -/
def cw_ow (f x : Nat) : Nat × Nat := match f with
  | 2 => (0, 0)
  | 3 => (20, x)
  | 4 => (20, x)
  | 5 => (20, x)
  | 6 => (20, x)
  | 7 => (20, x)
  | 8 => (20, x)
  | 9 => (20, x)
  | 10 => (20, x)
  | 11 => (20, x)
  | 12 => (20, x)
  | 13 => (20, x)
  | 14 => (20, x)
  | 15 => (20, x)
  | 16 => (23, x)
  | 17 => (23, x)
  | 18 => (23, x)
  | 19 => (23, x)
  | 20 => (23, x)
  | 22 => (27, x)
  | 23 => (27, x)
  | 24 => (0, 0)
  | 25 => (3, 0)
  | 26 => (21, x % 12)
  | 28 => (4, 0)
  | 33 => (4, 0)
  | 36 => (28, x)
  | 58 => (22, x / 12)
  | 59 => (24, x)
  | 60 => (25, x / 8)
  | 61 => (26, x / 8)
  | 63 => (33, x)
  | 64 => (33, x)
  | 65 => (33, x)
  | 66 => (33, x)
  | 68 => (33, x)
  | 73 => (13, 0)
  | 74 => (15, 0)
  | 75 => (16, 0)
  | 76 => (17, 0)
  | 77 => (18, 0)
  | 100 => (28, x)
  | 101 => (31, x / 3)
  | 102 => (32, x / 3)
  | 103 => (28, x)
  | 104 => (28, x)
  | 105 => (28, x)
  | 106 => (28, x)
  | 107 => (28, x)
  | 108 => (28, x)
  | 109 => (28, x)
  | 112 => (29, x / 300)
  | 114 => (30, x / 300)
  | 115 => (5, 0)
  | 116 => (4, 0)
  | 117 => (4, 0)
  | 118 => (4, 0)
  | 119 => (4, 0)
  | 120 => (4, 0)
  | 121 => (6, 0)
  | 122 => (4, 0)
  | 123 => (8, 0)
  | 124 => (10, 0)
  | 125 => (11, 0)
  | 126 => (34, x / 48)
  | 127 => (19, 0)
  | 128 => (19, 0)
  | 129 => (19, 0)
  | 130 => (19, 0)
  | 131 => (1, x)
  | _ => (99, 0)
/-- numbers that tell what there is, and how long -/
def cw_S : List Nat := [1, 21, 29, 62, 110, 111, 113, 132, 133, 134]
def cw_ia (G : ev_G) (g : ev_H) (a n : Nat) (h : Nat → Int32) : Prop := ∃ f : Nat → Int32, g a = some (.inl (G.2.2.2 0, n, .inl f)) ∧ ∀ j, j < n → f j = h j
def cw_at (G : ev_G) (W : cw_W) (C : mo_S) (g : ev_H) (k i : Nat) : Prop :=
  (∀ ci fs, cw_ob W C k i = some (ci, fs) → g (W k i) = some (.inr (ci, fs))) ∧ (∀ n h, cw_ar C k i = some (n, h) → cw_ia G g (W k i) n h) ∧
  (k = 2 → ∃ f : Nat → Option Nat, g (W k i) = some (.inl (G.2.2.2 4, (C.1 132 i).toNatClampNeg, .inr (.inr (.inr (.inr f))))) ∧ ∀ j, f j = if j < cw_n C i then some (W (cw_ek i) j) else none) ∧
  (k = 12 → ∃ f : Nat → Int64, g (W k i) = some (.inl (G.2.2.2 1, 12, .inr (.inl f))) ∧ ∀ j, j < 12 → f j = C.2 j) ∧
  (k = 14 → ∃ f : Nat → Option Nat, g (W k i) = some (.inl (G.2.2.2 5, 600, .inr (.inr (.inr (.inr f))))) ∧ ∀ m, m < 600 → f m = if m < cw_M C then some (W 34 m) else none)
/-- how many there may be -/
def cw_B (C : mo_S) : Prop := (C.1 1 0 = nI (sp_P C) ∧ sp_P C ≤ 12) ∧ (C.1 21 0 = nI (sp_R C) ∧ sp_R C ≤ 80) ∧ (C.1 29 0 = nI (sp_O C) ∧ sp_O C ≤ 10) ∧ (C.1 62 0 = nI (sp_A C) ∧ sp_A C ≤ 20) ∧ (C.1 134 0 = nI (cw_M C) ∧ cw_M C ≤ 600) ∧ (∀ l, l < 4 → ∃ cap : Nat, C.1 132 l = nI cap ∧ cap ≤ 200 ∧ cw_n C l ≤ cap ∧ (cap = 0 ∨ 10 ≤ cap)) ∧ ∀ i, (C.1 111 i).toNatClampNeg ≤ 300 ∧ (C.1 113 i).toNatClampNeg ≤ 300
/-- the heap g holds C at W; what K tells is as it was -/
def cw_T (G : ev_G) (K : Nat → Prop) (g0 : ev_H) (W : cw_W) (g : ev_H) (C : mo_S) : Prop :=
  cw_B C ∧ (∀ a, K a → g a = g0 a ∧ ∃ e, g0 a = some e) ∧ (∀ k i, cw_lv C k i → cw_at G W C g k i ∧ ¬ K (W k i)) ∧ ∀ k i k' i', cw_lv C k i → cw_lv C k' i' → W k i = W k' i' → k = k' ∧ i = i'
theorem cw_lv_cg {C C2 : mo_S} (hs : ∀ f, f ∈ cw_S → C2.1 f = C.1 f) (k i : Nat) : cw_lv C2 k i ↔ cw_lv C k i := by
  have h1 := hs 1 (by decide)
  have h21 := hs 21 (by decide)
  have h29 := hs 29 (by decide)
  have h62 := hs 62 (by decide)
  have h110 := hs 110 (by decide)
  have h132 := hs 132 (by decide)
  have h133 := hs 133 (by decide)
  have h134 := hs 134 (by decide)
  have e : cw_lv C2 k i = cw_lv C k i := by
    unfold cw_lv cw_ol sp_P sp_R sp_O sp_A cw_M
    rw [h1, h21, h29, h62, h110, h132, h133, h134]
  rw [e]
theorem cw_B_cg {C C2 : mo_S} (hs : ∀ f, f ∈ cw_S → C2.1 f = C.1 f) (h : cw_B C) : cw_B C2 := by
  have h1 := hs 1 (by decide)
  have h21 := hs 21 (by decide)
  have h29 := hs 29 (by decide)
  have h62 := hs 62 (by decide)
  have h132 := hs 132 (by decide)
  have h134 := hs 134 (by decide)
  have hn : ∀ l, cw_n C2 l = cw_n C l := fun l => by
    have q : ∀ x, x = 1 ∨ x = 21 ∨ x = 29 ∨ x = 62 → C2.1 x = C.1 x := fun x hx => by
      rcases hx with rfl | rfl | rfl | rfl <;> assumption
    unfold cw_n
    rw [q]
    unfold cw_sz
    split <;> simp
  obtain ⟨a1, a2, a3, a4, a5, a6, a7⟩ := h
  unfold sp_P at a1
  unfold sp_R at a2
  unfold sp_O at a3
  unfold sp_A at a4
  unfold cw_M at a5
  refine ⟨?_, ?_, ?_, ?_, ?_, fun l hl => ?_, fun i => by rw [hs 111 (by decide), hs 113 (by decide)]; exact a7 i⟩
  · unfold sp_P; rw [h1]; exact a1
  · unfold sp_R; rw [h21]; exact a2
  · unfold sp_O; rw [h29]; exact a3
  · unfold sp_A; rw [h62]; exact a4
  · unfold cw_M; rw [h134]; exact a5
  · obtain ⟨cap, b⟩ := a6 l hl
    exact ⟨cap, by rw [h132, hn]; exact b⟩
theorem cw_ia.mv {G : ev_G} {g g2 : ev_H} {a n n2 : Nat} {h h2 : Nat → Int32} (q : cw_ia G g a n h) (hg : g2 a = g a) (hn : n2 = n) (hh : ∀ j, j < n → h2 j = h j) : cw_ia G g2 a n2 h2 := by
  obtain ⟨f, a1, a2⟩ := q
  subst hn
  exact ⟨f, by rw [hg]; exact a1, fun j hj => (a2 j hj).trans (hh j hj).symm⟩
theorem cw_il {C : mo_S} (hB : cw_B C) {k i : Nat} (h : cw_lv C k i) : (20 ≤ k → k < 27 → i < 12) ∧ (28 ≤ k → k < 33 → i < 12) := by
  refine ⟨fun a b => ?_, fun a b => ?_⟩
  · obtain rfl | rfl | rfl | rfl | rfl | rfl | rfl : k = 20 ∨ k = 21 ∨ k = 22 ∨ k = 23 ∨ k = 24 ∨ k = 25 ∨ k = 26 := by omega
    all_goals exact Nat.lt_of_lt_of_le h hB.1.2
  · have q : cw_ol C i → i < 12 := fun q => by
      have := hB.2.2.1.2
      rcases q with q | q | q <;> omega
    obtain rfl | rfl | rfl | rfl | rfl : k = 28 ∨ k = 29 ∨ k = 30 ∨ k = 31 ∨ k = 32 := by omega
    · exact q h
    · exact q h
    · exact q h.1
    · exact q h
    · exact q h

theorem cw_ob_cg0 {W : cw_W} {C C2 : mo_S} {i : Nat} (hl : cw_lv C 0 i) (hs : ∀ f, f ∈ cw_S → C2.1 f = C.1 f) (ho : ∀ f x, cw_ow f x = (0, i) → C2.1 f x = C.1 f x) : cw_ob W C2 0 i = cw_ob W C 0 i := by
  have hl : i = 0 := hl
  subst hl
  simp only [cw_ob]
  rw [ho 24 0 rfl, ho 2 0 rfl]
theorem cw_ob_cg1 {W : cw_W} {C C2 : mo_S} {i : Nat} (hl : cw_lv C 1 i) (hs : ∀ f, f ∈ cw_S → C2.1 f = C.1 f) (ho : ∀ f x, cw_ow f x = (1, i) → C2.1 f x = C.1 f x) : cw_ob W C2 1 i = cw_ob W C 1 i := by
  have hl : i < 4 := hl
  have hz : C2.1 (cw_sz i) 0 = C.1 (cw_sz i) 0 := by
    obtain rfl | rfl | rfl | rfl : i = 0 ∨ i = 1 ∨ i = 2 ∨ i = 3 := by omega
    · show C2.1 1 0 = _; rw [hs 1 (by decide)]; rfl
    · show C2.1 21 0 = _; rw [hs 21 (by decide)]; rfl
    · show C2.1 29 0 = _; rw [hs 29 (by decide)]; rfl
    · show C2.1 62 0 = _; rw [hs 62 (by decide)]; rfl
  simp only [cw_ob]
  rw [hs 132 (by decide), ho 131 i rfl, hz]
theorem cw_ob_cg4 {W : cw_W} {C C2 : mo_S} {i : Nat} (hl : cw_lv C 4 i) (hs : ∀ f, f ∈ cw_S → C2.1 f = C.1 f) (ho : ∀ f x, cw_ow f x = (4, i) → C2.1 f x = C.1 f x) : cw_ob W C2 4 i = cw_ob W C 4 i := by
  have hl : i = 0 := hl
  subst hl
  simp only [cw_ob]
  rw [ho 28 0 rfl, ho 116 0 rfl, ho 117 0 rfl, ho 118 0 rfl, ho 119 0 rfl, ho 120 0 rfl, ho 33 0 rfl, ho 122 0 rfl]
theorem cw_ob_cg7 {W : cw_W} {C C2 : mo_S} {i : Nat} (hl : cw_lv C 7 i) (hs : ∀ f, f ∈ cw_S → C2.1 f = C.1 f) (ho : ∀ f x, cw_ow f x = (7, i) → C2.1 f x = C.1 f x) : cw_ob W C2 7 i = cw_ob W C 7 i := by
  simp only [cw_ob]
theorem cw_ob_cg9 {W : cw_W} {C C2 : mo_S} {i : Nat} (hl : cw_lv C 9 i) (hs : ∀ f, f ∈ cw_S → C2.1 f = C.1 f) (ho : ∀ f x, cw_ow f x = (9, i) → C2.1 f x = C.1 f x) : cw_ob W C2 9 i = cw_ob W C 9 i := by
  simp only [cw_ob]
theorem cw_ob_cg13 {W : cw_W} {C C2 : mo_S} {i : Nat} (hl : cw_lv C 13 i) (hs : ∀ f, f ∈ cw_S → C2.1 f = C.1 f) (ho : ∀ f x, cw_ow f x = (13, i) → C2.1 f x = C.1 f x) : cw_ob W C2 13 i = cw_ob W C 13 i := by
  have hl : i = 0 := hl
  subst hl
  simp only [cw_ob]
  rw [ho 73 0 rfl]
theorem cw_ob_cg19 {W : cw_W} {C C2 : mo_S} {i : Nat} (hl : cw_lv C 19 i) (hs : ∀ f, f ∈ cw_S → C2.1 f = C.1 f) (ho : ∀ f x, cw_ow f x = (19, i) → C2.1 f x = C.1 f x) : cw_ob W C2 19 i = cw_ob W C 19 i := by
  have hl : i = 0 := hl
  subst hl
  simp only [cw_ob]
  rw [ho 127 0 rfl, ho 128 0 rfl, ho 129 0 rfl, ho 130 0 rfl]
theorem cw_ob_cg20 {W : cw_W} {C C2 : mo_S} {i : Nat} (hl : cw_lv C 20 i) (hs : ∀ f, f ∈ cw_S → C2.1 f = C.1 f) (ho : ∀ f x, cw_ow f x = (20, i) → C2.1 f x = C.1 f x) : cw_ob W C2 20 i = cw_ob W C 20 i := by
  simp only [cw_ob]
  rw [ho 3 i rfl, ho 4 i rfl, ho 5 i rfl, ho 6 i rfl, ho 7 i rfl, ho 8 i rfl, ho 9 i rfl, ho 10 i rfl, ho 11 i rfl, ho 12 i rfl, ho 13 i rfl, ho 14 i rfl, ho 15 i rfl]
theorem cw_ob_cg23 {W : cw_W} {C C2 : mo_S} {i : Nat} (hl : cw_lv C 23 i) (hs : ∀ f, f ∈ cw_S → C2.1 f = C.1 f) (ho : ∀ f x, cw_ow f x = (23, i) → C2.1 f x = C.1 f x) : cw_ob W C2 23 i = cw_ob W C 23 i := by
  simp only [cw_ob]
  rw [ho 16 i rfl, ho 17 i rfl, ho 18 i rfl, ho 19 i rfl, ho 20 i rfl]
theorem cw_ob_cg24 {W : cw_W} {C C2 : mo_S} {i : Nat} (hl : cw_lv C 24 i) (hs : ∀ f, f ∈ cw_S → C2.1 f = C.1 f) (ho : ∀ f x, cw_ow f x = (24, i) → C2.1 f x = C.1 f x) : cw_ob W C2 24 i = cw_ob W C 24 i := by
  simp only [cw_ob]
  rw [ho 59 i rfl]
theorem cw_ob_cg27 {W : cw_W} {C C2 : mo_S} {i : Nat} (hl : cw_lv C 27 i) (hs : ∀ f, f ∈ cw_S → C2.1 f = C.1 f) (ho : ∀ f x, cw_ow f x = (27, i) → C2.1 f x = C.1 f x) : cw_ob W C2 27 i = cw_ob W C 27 i := by
  simp only [cw_ob]
  rw [ho 22 i rfl, ho 23 i rfl]
theorem cw_ob_cg28 {W : cw_W} {C C2 : mo_S} {i : Nat} (hl : cw_lv C 28 i) (hs : ∀ f, f ∈ cw_S → C2.1 f = C.1 f) (ho : ∀ f x, cw_ow f x = (28, i) → C2.1 f x = C.1 f x) : cw_ob W C2 28 i = cw_ob W C 28 i := by
  simp only [cw_ob]
  rw [ho 36 i rfl, hs 110 (by decide), ho 100 i rfl, ho 103 i rfl, ho 104 i rfl, ho 105 i rfl, ho 106 i rfl, ho 107 i rfl, ho 108 i rfl, ho 109 i rfl]
theorem cw_ob_cg33 {W : cw_W} {C C2 : mo_S} {i : Nat} (hl : cw_lv C 33 i) (hs : ∀ f, f ∈ cw_S → C2.1 f = C.1 f) (ho : ∀ f x, cw_ow f x = (33, i) → C2.1 f x = C.1 f x) : cw_ob W C2 33 i = cw_ob W C 33 i := by
  simp only [cw_ob]
  rw [ho 63 i rfl, ho 64 i rfl, ho 65 i rfl, ho 66 i rfl, ho 68 i rfl]
/-- what lies there doesn't change where its own numbers don't -/
theorem cw_ob_cg {W : cw_W} {C C2 : mo_S} {k i : Nat} (hl : cw_lv C k i) (hs : ∀ f, f ∈ cw_S → C2.1 f = C.1 f) (ho : ∀ f x, cw_ow f x = (k, i) → C2.1 f x = C.1 f x) : cw_ob W C2 k i = cw_ob W C k i := by
  by_cases hk : k = 0 ∨ k = 1 ∨ k = 4 ∨ k = 7 ∨ k = 9 ∨ k = 13 ∨ k = 19 ∨ k = 20 ∨ k = 23 ∨ k = 24 ∨ k = 27 ∨ k = 28 ∨ k = 33
  · obtain rfl | rfl | rfl | rfl | rfl | rfl | rfl | rfl | rfl | rfl | rfl | rfl | rfl := hk
    · exact cw_ob_cg0 hl hs ho
    · exact cw_ob_cg1 hl hs ho
    · exact cw_ob_cg4 hl hs ho
    · exact cw_ob_cg7 hl hs ho
    · exact cw_ob_cg9 hl hs ho
    · exact cw_ob_cg13 hl hs ho
    · exact cw_ob_cg19 hl hs ho
    · exact cw_ob_cg20 hl hs ho
    · exact cw_ob_cg23 hl hs ho
    · exact cw_ob_cg24 hl hs ho
    · exact cw_ob_cg27 hl hs ho
    · exact cw_ob_cg28 hl hs ho
    · exact cw_ob_cg33 hl hs ho
  · have e : ∀ C : mo_S, cw_ob W C k i = none := fun C => by
      unfold cw_ob
      split <;> first | rfl | (exfalso; omega)
    rw [e, e]
theorem cw_ar_cg {C C2 : mo_S} {k i n : Nat} {h2 : Nat → Int32} (hB : cw_B C) (hl : cw_lv C k i) (hs : ∀ f, f ∈ cw_S → C2.1 f = C.1 f) (ho : ∀ f x, cw_ow f x = (k, i) → C2.1 f x = C.1 f x) (e : cw_ar C2 k i = some (n, h2)) : ∃ h, cw_ar C k i = some (n, h) ∧ ∀ j, j < n → h2 j = h j := by
  have hil := cw_il hB hl
  match k, hl, ho, hil, e with
  | 0, hl, ho, _, e => cases e
  | 1, hl, ho, _, e => cases e
  | 2, hl, ho, _, e => cases e
  | 3, hl, ho, _, e => have hl : i = 0 := hl; subst hl; cases e; exact ⟨_, rfl, fun j _ => ho 25 j rfl⟩
  | 4, hl, ho, _, e => cases e
  | 5, hl, ho, _, e => have hl : i = 0 := hl; subst hl; cases e; exact ⟨_, rfl, fun j _ => ho 115 j rfl⟩
  | 6, hl, ho, _, e => have hl : i = 0 := hl; subst hl; cases e; exact ⟨_, rfl, fun j _ => ho 121 j rfl⟩
  | 7, hl, ho, _, e => cases e
  | 8, hl, ho, _, e => have hl : i = 0 := hl; subst hl; cases e; exact ⟨_, rfl, fun j _ => ho 123 j rfl⟩
  | 9, hl, ho, _, e => cases e
  | 10, hl, ho, _, e => have hl : i = 0 := hl; subst hl; cases e; exact ⟨_, rfl, fun j _ => ho 124 j rfl⟩
  | 11, hl, ho, _, e => have hl : i = 0 := hl; subst hl; cases e; exact ⟨_, rfl, fun j _ => ho 125 j rfl⟩
  | 12, hl, ho, _, e => cases e
  | 13, hl, ho, _, e => cases e
  | 14, hl, ho, _, e => cases e
  | 15, hl, ho, _, e => have hl : i = 0 := hl; subst hl; cases e; exact ⟨_, rfl, fun j _ => ho 74 j rfl⟩
  | 16, hl, ho, _, e => have hl : i = 0 := hl; subst hl; cases e; exact ⟨_, rfl, fun j _ => ho 75 j rfl⟩
  | 17, hl, ho, _, e => have hl : i = 0 := hl; subst hl; cases e; exact ⟨_, rfl, fun j _ => ho 76 j rfl⟩
  | 18, hl, ho, _, e => have hl : i = 0 := hl; subst hl; cases e; exact ⟨_, rfl, fun j _ => ho 77 j rfl⟩
  | 19, hl, ho, _, e => cases e
  | 20, hl, ho, _, e => cases e
  | 21, hl, ho, hil, e => cases e; exact ⟨_, rfl, fun j _ => ho 26 _ (by have := hil.1 (by decide) (by decide); show (21, (12 * j + i) % 12) = (21, i); rw [Nat.mul_add_mod, Nat.mod_eq_of_lt this])⟩
  | 22, hl, ho, _, e => cases e; exact ⟨_, rfl, fun j hj => ho 58 _ (by show (22, (12 * i + j) / 12) = (22, i); rw [Nat.mul_add_div (by decide), Nat.div_eq_of_lt hj]; rfl)⟩
  | 23, hl, ho, _, e => cases e
  | 24, hl, ho, _, e => cases e
  | 25, hl, ho, _, e => cases e; exact ⟨_, rfl, fun j hj => ho 60 _ (by show (25, (8 * i + j) / 8) = (25, i); rw [Nat.mul_add_div (by decide), Nat.div_eq_of_lt hj]; rfl)⟩
  | 26, hl, ho, _, e => cases e; exact ⟨_, rfl, fun j hj => ho 61 _ (by show (26, (8 * i + j) / 8) = (26, i); rw [Nat.mul_add_div (by decide), Nat.div_eq_of_lt hj]; rfl)⟩
  | 27, hl, ho, _, e => cases e
  | 28, hl, ho, _, e => cases e
  | 29, hl, ho, hil, e =>
    have e : some ((C2.1 111 i).toNatClampNeg, fun j => C2.1 112 (300 * i + j)) = some (n, h2) := e
    rw [hs 111 (by decide)] at e
    cases e
    refine ⟨_, rfl, fun j hj => ?_⟩
    by_cases q : j < 300
    · exact ho 112 _ (by show (29, (300 * i + j) / 300) = (29, i); rw [Nat.mul_add_div (by decide), Nat.div_eq_of_lt q]; rfl)
    · exact absurd (hB.2.2.2.2.2.2 i).1 (by omega)
  | 30, hl, ho, hil, e =>
    have e : some ((C2.1 113 i).toNatClampNeg, fun j => C2.1 114 (300 * i + j)) = some (n, h2) := e
    rw [hs 113 (by decide)] at e
    cases e
    refine ⟨_, rfl, fun j hj => ?_⟩
    by_cases q : j < 300
    · exact ho 114 _ (by show (30, (300 * i + j) / 300) = (30, i); rw [Nat.mul_add_div (by decide), Nat.div_eq_of_lt q]; rfl)
    · exact absurd (hB.2.2.2.2.2.2 i).2 (by omega)
  | 31, hl, ho, _, e => cases e; exact ⟨_, rfl, fun j hj => ho 101 _ (by show (31, (3 * i + j) / 3) = (31, i); rw [Nat.mul_add_div (by decide), Nat.div_eq_of_lt hj]; rfl)⟩
  | 32, hl, ho, _, e => cases e; exact ⟨_, rfl, fun j hj => ho 102 _ (by show (32, (3 * i + j) / 3) = (32, i); rw [Nat.mul_add_div (by decide), Nat.div_eq_of_lt hj]; rfl)⟩
  | 33, hl, ho, _, e => cases e
  | 34, hl, ho, _, e => cases e; exact ⟨_, rfl, fun j hj => ho 126 _ (by show (34, (48 * i + j) / 48) = (34, i); rw [Nat.mul_add_div (by decide), Nat.div_eq_of_lt hj]; rfl)⟩
  | n + 35, hl, ho, _, e => cases e
end CW
