section CG
/-- what k, i holds is as it was -/
def cw_sm (C2 C : mo_S) (k i : Nat) : Prop :=
  (∀ f x, cw_ow f x = (k, i) → C2.1 f x = C.1 f x) ∧ (k = 1 ∨ k = 2 → C2.1 132 i = C.1 132 i ∧ C2.1 (cw_sz i) 0 = C.1 (cw_sz i) 0) ∧ (28 ≤ k → k ≤ 30 → C2.1 110 i = C.1 110 i ∧ C2.1 111 i = C.1 111 i ∧ C2.1 113 i = C.1 113 i) ∧ (k = 14 → C2.1 134 0 = C.1 134 0) ∧ (k = 12 → C2.2 = C.2)
section SM
variable {C2 C : mo_S} {k i : Nat}
theorem cw_sm.ho (h : cw_sm C2 C k i) : ∀ f x, cw_ow f x = (k, i) → C2.1 f x = C.1 f x := h.1
theorem cw_sm.h1 (h : cw_sm C2 C k i) : k = 1 ∨ k = 2 → C2.1 132 i = C.1 132 i ∧ C2.1 (cw_sz i) 0 = C.1 (cw_sz i) 0 := h.2.1
theorem cw_sm.h28 (h : cw_sm C2 C k i) : 28 ≤ k → k ≤ 30 → C2.1 110 i = C.1 110 i ∧ C2.1 111 i = C.1 111 i ∧ C2.1 113 i = C.1 113 i := h.2.2.1
theorem cw_sm.h14 (h : cw_sm C2 C k i) : k = 14 → C2.1 134 0 = C.1 134 0 := h.2.2.2.1
theorem cw_sm.h2 (h : cw_sm C2 C k i) : k = 12 → C2.2 = C.2 := h.2.2.2.2
end SM
theorem cw_ob_sm0 {W W2 : cw_W} {C C2 : mo_S} {l i : Nat} (hl : cw_lv C 0 i) (h99 : W2 99 0 = W 99 0) (hW : ∀ k i, cw_lv C k i → (k = 2 → i ≠ l) → W2 k i = W k i) (hA : ∀ a, a < sp_A C → (C.1 63 a).toNatClampNeg < sp_P C) (hil : 0 = 1 ∨ 0 = 2 → i ≠ l) (hs : cw_sm C2 C 0 i) : cw_ob W2 C2 0 i = cw_ob W C 0 i := by
  have hl : i = 0 := hl
  subst hl
  simp only [cw_ob]
  rw [hs.ho 24 0 rfl, hs.ho 2 0 rfl, hW 1 0 (show (0 : Nat) < 4 by decide) (fun q => absurd q (by decide)), hW 1 1 (show (1 : Nat) < 4 by decide) (fun q => absurd q (by decide)), hW 1 2 (show (2 : Nat) < 4 by decide) (fun q => absurd q (by decide)), hW 1 3 (show (3 : Nat) < 4 by decide) (fun q => absurd q (by decide)), hW 3 0 rfl (fun q => absurd q (by decide)), hW 28 10 (Or.inr (Or.inl rfl)) (fun q => absurd q (by decide)), hW 4 0 rfl (fun q => absurd q (by decide)), hW 7 0 rfl (fun q => absurd q (by decide)), hW 9 0 rfl (fun q => absurd q (by decide)), hW 13 0 rfl (fun q => absurd q (by decide)), hW 19 0 rfl (fun q => absurd q (by decide))]
theorem cw_ob_sm1 {W W2 : cw_W} {C C2 : mo_S} {l i : Nat} (hl : cw_lv C 1 i) (h99 : W2 99 0 = W 99 0) (hW : ∀ k i, cw_lv C k i → (k = 2 → i ≠ l) → W2 k i = W k i) (hA : ∀ a, a < sp_A C → (C.1 63 a).toNatClampNeg < sp_P C) (hil : 1 = 1 ∨ 1 = 2 → i ≠ l) (hs : cw_sm C2 C 1 i) : cw_ob W2 C2 1 i = cw_ob W C 1 i := by
  simp only [cw_ob]
  rw [hs.ho 131 i rfl, (hs.h1 (Or.inl rfl)).1, (hs.h1 (Or.inl rfl)).2, h99]
  by_cases z : C.1 132 i = 0
  · rw [if_pos z, if_pos z]
  · rw [if_neg z, if_neg z, hW 2 i ⟨hl, z⟩ (fun _ => hil (Or.inl rfl))]
theorem cw_ob_sm4 {W W2 : cw_W} {C C2 : mo_S} {l i : Nat} (hl : cw_lv C 4 i) (h99 : W2 99 0 = W 99 0) (hW : ∀ k i, cw_lv C k i → (k = 2 → i ≠ l) → W2 k i = W k i) (hA : ∀ a, a < sp_A C → (C.1 63 a).toNatClampNeg < sp_P C) (hil : 4 = 1 ∨ 4 = 2 → i ≠ l) (hs : cw_sm C2 C 4 i) : cw_ob W2 C2 4 i = cw_ob W C 4 i := by
  have hl : i = 0 := hl
  subst hl
  simp only [cw_ob]
  rw [hs.ho 28 0 rfl, hs.ho 116 0 rfl, hs.ho 117 0 rfl, hs.ho 118 0 rfl, hs.ho 119 0 rfl, hs.ho 120 0 rfl, hs.ho 33 0 rfl, hs.ho 122 0 rfl, hW 5 0 rfl (fun q => absurd q (by decide)), hW 6 0 rfl (fun q => absurd q (by decide))]
theorem cw_ob_sm7 {W W2 : cw_W} {C C2 : mo_S} {l i : Nat} (hl : cw_lv C 7 i) (h99 : W2 99 0 = W 99 0) (hW : ∀ k i, cw_lv C k i → (k = 2 → i ≠ l) → W2 k i = W k i) (hA : ∀ a, a < sp_A C → (C.1 63 a).toNatClampNeg < sp_P C) (hil : 7 = 1 ∨ 7 = 2 → i ≠ l) (hs : cw_sm C2 C 7 i) : cw_ob W2 C2 7 i = cw_ob W C 7 i := by
  have hl : i = 0 := hl
  subst hl
  simp only [cw_ob]
  rw [hW 8 0 rfl (fun q => absurd q (by decide))]
theorem cw_ob_sm9 {W W2 : cw_W} {C C2 : mo_S} {l i : Nat} (hl : cw_lv C 9 i) (h99 : W2 99 0 = W 99 0) (hW : ∀ k i, cw_lv C k i → (k = 2 → i ≠ l) → W2 k i = W k i) (hA : ∀ a, a < sp_A C → (C.1 63 a).toNatClampNeg < sp_P C) (hil : 9 = 1 ∨ 9 = 2 → i ≠ l) (hs : cw_sm C2 C 9 i) : cw_ob W2 C2 9 i = cw_ob W C 9 i := by
  have hl : i = 0 := hl
  subst hl
  simp only [cw_ob]
  rw [hW 10 0 rfl (fun q => absurd q (by decide)), hW 11 0 rfl (fun q => absurd q (by decide)), hW 12 0 rfl (fun q => absurd q (by decide))]
theorem cw_ob_sm13 {W W2 : cw_W} {C C2 : mo_S} {l i : Nat} (hl : cw_lv C 13 i) (h99 : W2 99 0 = W 99 0) (hW : ∀ k i, cw_lv C k i → (k = 2 → i ≠ l) → W2 k i = W k i) (hA : ∀ a, a < sp_A C → (C.1 63 a).toNatClampNeg < sp_P C) (hil : 13 = 1 ∨ 13 = 2 → i ≠ l) (hs : cw_sm C2 C 13 i) : cw_ob W2 C2 13 i = cw_ob W C 13 i := by
  have hl : i = 0 := hl
  subst hl
  simp only [cw_ob]
  rw [hs.ho 73 0 rfl, hW 14 0 rfl (fun q => absurd q (by decide)), hW 15 0 rfl (fun q => absurd q (by decide)), hW 16 0 rfl (fun q => absurd q (by decide)), hW 17 0 rfl (fun q => absurd q (by decide)), hW 18 0 rfl (fun q => absurd q (by decide))]
theorem cw_ob_sm19 {W W2 : cw_W} {C C2 : mo_S} {l i : Nat} (hl : cw_lv C 19 i) (h99 : W2 99 0 = W 99 0) (hW : ∀ k i, cw_lv C k i → (k = 2 → i ≠ l) → W2 k i = W k i) (hA : ∀ a, a < sp_A C → (C.1 63 a).toNatClampNeg < sp_P C) (hil : 19 = 1 ∨ 19 = 2 → i ≠ l) (hs : cw_sm C2 C 19 i) : cw_ob W2 C2 19 i = cw_ob W C 19 i := by
  have hl : i = 0 := hl
  subst hl
  simp only [cw_ob]
  rw [hs.ho 127 0 rfl, hs.ho 128 0 rfl, hs.ho 129 0 rfl, hs.ho 130 0 rfl]
theorem cw_ob_sm20 {W W2 : cw_W} {C C2 : mo_S} {l i : Nat} (hl : cw_lv C 20 i) (h99 : W2 99 0 = W 99 0) (hW : ∀ k i, cw_lv C k i → (k = 2 → i ≠ l) → W2 k i = W k i) (hA : ∀ a, a < sp_A C → (C.1 63 a).toNatClampNeg < sp_P C) (hil : 20 = 1 ∨ 20 = 2 → i ≠ l) (hs : cw_sm C2 C 20 i) : cw_ob W2 C2 20 i = cw_ob W C 20 i := by
  simp only [cw_ob]
  rw [hs.ho 3 i rfl, hs.ho 4 i rfl, hs.ho 5 i rfl, hs.ho 6 i rfl, hs.ho 7 i rfl, hs.ho 8 i rfl, hs.ho 9 i rfl, hs.ho 10 i rfl, hs.ho 11 i rfl, hs.ho 12 i rfl, hs.ho 13 i rfl, hs.ho 14 i rfl, hs.ho 15 i rfl, hW 21 i hl (fun q => absurd q (by decide)), hW 22 i hl (fun q => absurd q (by decide)), hW 23 i hl (fun q => absurd q (by decide)), hW 24 i hl (fun q => absurd q (by decide))]
theorem cw_ob_sm23 {W W2 : cw_W} {C C2 : mo_S} {l i : Nat} (hl : cw_lv C 23 i) (h99 : W2 99 0 = W 99 0) (hW : ∀ k i, cw_lv C k i → (k = 2 → i ≠ l) → W2 k i = W k i) (hA : ∀ a, a < sp_A C → (C.1 63 a).toNatClampNeg < sp_P C) (hil : 23 = 1 ∨ 23 = 2 → i ≠ l) (hs : cw_sm C2 C 23 i) : cw_ob W2 C2 23 i = cw_ob W C 23 i := by
  simp only [cw_ob]
  rw [hs.ho 16 i rfl, hs.ho 17 i rfl, hs.ho 18 i rfl, hs.ho 19 i rfl, hs.ho 20 i rfl]
theorem cw_ob_sm24 {W W2 : cw_W} {C C2 : mo_S} {l i : Nat} (hl : cw_lv C 24 i) (h99 : W2 99 0 = W 99 0) (hW : ∀ k i, cw_lv C k i → (k = 2 → i ≠ l) → W2 k i = W k i) (hA : ∀ a, a < sp_A C → (C.1 63 a).toNatClampNeg < sp_P C) (hil : 24 = 1 ∨ 24 = 2 → i ≠ l) (hs : cw_sm C2 C 24 i) : cw_ob W2 C2 24 i = cw_ob W C 24 i := by
  simp only [cw_ob]
  rw [hs.ho 59 i rfl, hW 25 i hl (fun q => absurd q (by decide)), hW 26 i hl (fun q => absurd q (by decide))]
theorem cw_ob_sm27 {W W2 : cw_W} {C C2 : mo_S} {l i : Nat} (hl : cw_lv C 27 i) (h99 : W2 99 0 = W 99 0) (hW : ∀ k i, cw_lv C k i → (k = 2 → i ≠ l) → W2 k i = W k i) (hA : ∀ a, a < sp_A C → (C.1 63 a).toNatClampNeg < sp_P C) (hil : 27 = 1 ∨ 27 = 2 → i ≠ l) (hs : cw_sm C2 C 27 i) : cw_ob W2 C2 27 i = cw_ob W C 27 i := by
  simp only [cw_ob]
  rw [hs.ho 22 i rfl, hs.ho 23 i rfl]
theorem cw_ob_sm28 {W W2 : cw_W} {C C2 : mo_S} {l i : Nat} (hl : cw_lv C 28 i) (h99 : W2 99 0 = W 99 0) (hW : ∀ k i, cw_lv C k i → (k = 2 → i ≠ l) → W2 k i = W k i) (hA : ∀ a, a < sp_A C → (C.1 63 a).toNatClampNeg < sp_P C) (hil : 28 = 1 ∨ 28 = 2 → i ≠ l) (hs : cw_sm C2 C 28 i) : cw_ob W2 C2 28 i = cw_ob W C 28 i := by
  simp only [cw_ob]
  rw [hs.ho 36 i rfl, (hs.h28 (by decide) (by decide)).1, hs.ho 100 i rfl, hs.ho 103 i rfl, hs.ho 104 i rfl, hs.ho 105 i rfl, hs.ho 106 i rfl, hs.ho 107 i rfl, hs.ho 108 i rfl, hs.ho 109 i rfl, hW 29 i hl (fun q => absurd q (by decide)), hW 31 i hl (fun q => absurd q (by decide)), hW 32 i hl (fun q => absurd q (by decide))]
  by_cases z : C.1 110 i = 0
  · rw [if_pos z, if_pos z]
  · rw [if_neg z, if_neg z, hW 30 i ⟨hl, z⟩ (fun q => absurd q (by decide))]
theorem cw_ob_sm33 {W W2 : cw_W} {C C2 : mo_S} {l i : Nat} (hl : cw_lv C 33 i) (h99 : W2 99 0 = W 99 0) (hW : ∀ k i, cw_lv C k i → (k = 2 → i ≠ l) → W2 k i = W k i) (hA : ∀ a, a < sp_A C → (C.1 63 a).toNatClampNeg < sp_P C) (hil : 33 = 1 ∨ 33 = 2 → i ≠ l) (hs : cw_sm C2 C 33 i) : cw_ob W2 C2 33 i = cw_ob W C 33 i := by
  simp only [cw_ob]
  rw [hs.ho 63 i rfl, hs.ho 64 i rfl, hs.ho 65 i rfl, hs.ho 66 i rfl, hs.ho 68 i rfl, hW 20 _ (hA i hl) (fun q => absurd q (by decide))]
theorem cw_ob_sm {W W2 : cw_W} {C C2 : mo_S} {l i : Nat} {k : Nat} (hl : cw_lv C k i) (h99 : W2 99 0 = W 99 0) (hW : ∀ k i, cw_lv C k i → (k = 2 → i ≠ l) → W2 k i = W k i) (hA : ∀ a, a < sp_A C → (C.1 63 a).toNatClampNeg < sp_P C) (hil : k = 1 ∨ k = 2 → i ≠ l) (hs : cw_sm C2 C k i) : cw_ob W2 C2 k i = cw_ob W C k i := by
  by_cases hk : k = 0 ∨ k = 1 ∨ k = 4 ∨ k = 7 ∨ k = 9 ∨ k = 13 ∨ k = 19 ∨ k = 20 ∨ k = 23 ∨ k = 24 ∨ k = 27 ∨ k = 28 ∨ k = 33
  · obtain rfl | rfl | rfl | rfl | rfl | rfl | rfl | rfl | rfl | rfl | rfl | rfl | rfl := hk
    · exact cw_ob_sm0 hl h99 hW hA hil hs
    · exact cw_ob_sm1 hl h99 hW hA hil hs
    · exact cw_ob_sm4 hl h99 hW hA hil hs
    · exact cw_ob_sm7 hl h99 hW hA hil hs
    · exact cw_ob_sm9 hl h99 hW hA hil hs
    · exact cw_ob_sm13 hl h99 hW hA hil hs
    · exact cw_ob_sm19 hl h99 hW hA hil hs
    · exact cw_ob_sm20 hl h99 hW hA hil hs
    · exact cw_ob_sm23 hl h99 hW hA hil hs
    · exact cw_ob_sm24 hl h99 hW hA hil hs
    · exact cw_ob_sm27 hl h99 hW hA hil hs
    · exact cw_ob_sm28 hl h99 hW hA hil hs
    · exact cw_ob_sm33 hl h99 hW hA hil hs
  · have e : ∀ (W : cw_W) (C : mo_S), cw_ob W C k i = none := fun W C => by
      unfold cw_ob
      split <;> first | rfl | (exfalso; omega)
    rw [e, e]
theorem cw_ar_sm {C C2 : mo_S} {k i n : Nat} {h2 : Nat → Int32} (hB : cw_B C) (hl : cw_lv C k i) (hs : cw_sm C2 C k i) (e : cw_ar C2 k i = some (n, h2)) : ∃ h, cw_ar C k i = some (n, h) ∧ ∀ j, j < n → h2 j = h j := by
  have hil := cw_il hB hl
  have ho := hs.ho
  match k, hl, ho, hil, hs, e with
  | 0, hl, ho, hil, hs, e => cases e
  | 1, hl, ho, hil, hs, e => cases e
  | 2, hl, ho, hil, hs, e => cases e
  | 3, hl, ho, hil, hs, e => have hl : i = 0 := hl; subst hl; cases e; exact ⟨_, rfl, fun j _ => ho 25 j rfl⟩
  | 4, hl, ho, hil, hs, e => cases e
  | 5, hl, ho, hil, hs, e => have hl : i = 0 := hl; subst hl; cases e; exact ⟨_, rfl, fun j _ => ho 115 j rfl⟩
  | 6, hl, ho, hil, hs, e => have hl : i = 0 := hl; subst hl; cases e; exact ⟨_, rfl, fun j _ => ho 121 j rfl⟩
  | 7, hl, ho, hil, hs, e => cases e
  | 8, hl, ho, hil, hs, e => have hl : i = 0 := hl; subst hl; cases e; exact ⟨_, rfl, fun j _ => ho 123 j rfl⟩
  | 9, hl, ho, hil, hs, e => cases e
  | 10, hl, ho, hil, hs, e => have hl : i = 0 := hl; subst hl; cases e; exact ⟨_, rfl, fun j _ => ho 124 j rfl⟩
  | 11, hl, ho, hil, hs, e => have hl : i = 0 := hl; subst hl; cases e; exact ⟨_, rfl, fun j _ => ho 125 j rfl⟩
  | 12, hl, ho, hil, hs, e => cases e
  | 13, hl, ho, hil, hs, e => cases e
  | 14, hl, ho, hil, hs, e => cases e
  | 15, hl, ho, hil, hs, e => have hl : i = 0 := hl; subst hl; cases e; exact ⟨_, rfl, fun j _ => ho 74 j rfl⟩
  | 16, hl, ho, hil, hs, e => have hl : i = 0 := hl; subst hl; cases e; exact ⟨_, rfl, fun j _ => ho 75 j rfl⟩
  | 17, hl, ho, hil, hs, e => have hl : i = 0 := hl; subst hl; cases e; exact ⟨_, rfl, fun j _ => ho 76 j rfl⟩
  | 18, hl, ho, hil, hs, e => have hl : i = 0 := hl; subst hl; cases e; exact ⟨_, rfl, fun j _ => ho 77 j rfl⟩
  | 19, hl, ho, hil, hs, e => cases e
  | 20, hl, ho, hil, hs, e => cases e
  | 21, hl, ho, hil, hs, e => cases e; exact ⟨_, rfl, fun j _ => ho 26 _ (by have := hil.1 (by decide) (by decide); show (21, (12 * j + i) % 12) = (21, i); rw [Nat.mul_add_mod, Nat.mod_eq_of_lt this])⟩
  | 22, hl, ho, hil, hs, e => cases e; exact ⟨_, rfl, fun j hj => ho 58 _ (by show (22, (12 * i + j) / 12) = (22, i); rw [Nat.mul_add_div (by decide), Nat.div_eq_of_lt hj]; rfl)⟩
  | 23, hl, ho, hil, hs, e => cases e
  | 24, hl, ho, hil, hs, e => cases e
  | 25, hl, ho, hil, hs, e => cases e; exact ⟨_, rfl, fun j hj => ho 60 _ (by show (25, (8 * i + j) / 8) = (25, i); rw [Nat.mul_add_div (by decide), Nat.div_eq_of_lt hj]; rfl)⟩
  | 26, hl, ho, hil, hs, e => cases e; exact ⟨_, rfl, fun j hj => ho 61 _ (by show (26, (8 * i + j) / 8) = (26, i); rw [Nat.mul_add_div (by decide), Nat.div_eq_of_lt hj]; rfl)⟩
  | 27, hl, ho, hil, hs, e => cases e
  | 28, hl, ho, hil, hs, e => cases e
  | 29, hl, ho, hil, hs, e => rw [ar29, (hs.h28 (by decide) (by decide)).2.1] at e; cases e; exact ⟨_, rfl, fun j hj => ho 112 _ (by show (29, (300 * i + j) / 300) = (29, i); rw [Nat.mul_add_div (by decide), Nat.div_eq_of_lt (Nat.lt_of_lt_of_le hj (hB.2.2.2.2.2.2 i).1)]; rfl)⟩
  | 30, hl, ho, hil, hs, e => rw [ar30, (hs.h28 (by decide) (by decide)).2.2] at e; cases e; exact ⟨_, rfl, fun j hj => ho 114 _ (by show (30, (300 * i + j) / 300) = (30, i); rw [Nat.mul_add_div (by decide), Nat.div_eq_of_lt (Nat.lt_of_lt_of_le hj (hB.2.2.2.2.2.2 i).2)]; rfl)⟩
  | 31, hl, ho, hil, hs, e => cases e; exact ⟨_, rfl, fun j hj => ho 101 _ (by show (31, (3 * i + j) / 3) = (31, i); rw [Nat.mul_add_div (by decide), Nat.div_eq_of_lt hj]; rfl)⟩
  | 32, hl, ho, hil, hs, e => cases e; exact ⟨_, rfl, fun j hj => ho 102 _ (by show (32, (3 * i + j) / 3) = (32, i); rw [Nat.mul_add_div (by decide), Nat.div_eq_of_lt hj]; rfl)⟩
  | 33, hl, ho, hil, hs, e => cases e
  | 34, hl, ho, hil, hs, e => cases e; exact ⟨_, rfl, fun j hj => ho 126 _ (by show (34, (48 * i + j) / 48) = (34, i); rw [Nat.mul_add_div (by decide), Nat.div_eq_of_lt hj]; rfl)⟩
  | k + 35, hl, ho, hil, hs, e => exact hl.elim
theorem cw_n4 (C : mo_S) : cw_n C 0 = sp_P C ∧ cw_n C 1 = sp_R C ∧ cw_n C 2 = sp_O C ∧ cw_n C 3 = sp_A C := ⟨rfl, rfl, rfl, rfl⟩
theorem cw_ek_lv {C : mo_S} {l j : Nat} (hl : l < 4) (hj : j < cw_n C l) : cw_lv C (cw_ek l) j := by
  obtain rfl | rfl | rfl | rfl : l = 0 ∨ l = 1 ∨ l = 2 ∨ l = 3 := by omega
  · exact hj
  · exact hj
  · exact Or.inl hj
  · exact hj
theorem cw_ek_2 (l : Nat) : cw_ek l ≠ 2 := by
  unfold cw_ek
  split <;> decide
theorem cw_at_sm {G : ev_G} {W W2 : cw_W} {C C2 : mo_S} {g g2 : ev_H} {l k i : Nat} (hB : cw_B C) (hl : cw_lv C k i) (h99 : W2 99 0 = W 99 0) (hW : ∀ k i, cw_lv C k i → (k = 2 → i ≠ l) → W2 k i = W k i) (hA : ∀ a, a < sp_A C → (C.1 63 a).toNatClampNeg < sp_P C) (hil : k = 1 ∨ k = 2 → i ≠ l) (hs : cw_sm C2 C k i) (hg : g2 (W2 k i) = g (W k i)) (h : cw_at G W C g k i) : cw_at G W2 C2 g2 k i := by
  obtain ⟨a1, a2, a3, a4, a5⟩ := h
  refine ⟨fun ci fs e => ?_, fun n hh e => ?_, fun e => ?_, fun e => ?_, fun e => ?_⟩
  · rw [cw_ob_sm hl h99 hW hA hil hs] at e
    rw [hg]; exact a1 ci fs e
  · obtain ⟨h', e', q⟩ := cw_ar_sm hB hl hs e
    obtain ⟨f, b1, b2⟩ := a2 n h' e'
    exact ⟨f, by rw [hg]; exact b1, fun j hj => (b2 j hj).trans (q j hj).symm⟩
  · obtain ⟨f, b1, b2⟩ := a3 e
    obtain ⟨q1, q2⟩ := hs.h1 (Or.inr e)
    subst e
    have en : cw_n C2 i = cw_n C i := by unfold cw_n; rw [q2]
    refine ⟨f, by rw [hg, q1]; exact b1, fun j => ?_⟩
    rw [b2 j, en]
    by_cases z : j < cw_n C i
    · rw [if_pos z, if_pos z, hW _ _ (cw_ek_lv hl.1 z) (fun q => absurd q (cw_ek_2 i))]
    · rw [if_neg z, if_neg z]
  · obtain ⟨f, b1, b2⟩ := a4 e
    exact ⟨f, by rw [hg]; exact b1, by rw [hs.h2 e]; exact b2⟩
  · obtain ⟨f, b1, b2⟩ := a5 e
    have e9 : cw_M C2 = cw_M C := by unfold cw_M; rw [hs.h14 e]
    refine ⟨f, by rw [hg]; exact b1, fun m hm => ?_⟩
    rw [b2 m hm, e9]
    by_cases z : m < cw_M C
    · rw [if_pos z, if_pos z, hW 34 m z (fun q => absurd q (by decide))]
    · rw [if_neg z, if_neg z]
section CT
variable {G : ev_G} {K : Nat → Prop} {g0 g : ev_H} {W : cw_W} {C : mo_S}
theorem cw_T.ex9 (hT : cw_T G K g0 W g C) {k i : Nat} (hl : cw_lv C k i) : ∃ e, g (W k i) = some e := by
  obtain ⟨a1, a2, a3, a4, a5⟩ := hT.at hl
  have hk : k < 35 := by
    rcases Nat.lt_or_ge k 35 with q | q
    · exact q
    · exfalso
      obtain ⟨m, rfl⟩ : ∃ m, k = m + 35 := ⟨k - 35, by omega⟩
      exact hl
  match k, hk, a1, a2, a3, a4, a5 with
  | 0, _, a1, _, _, _, _ => exact ⟨_, a1 _ _ ob0⟩
  | 1, _, a1, _, _, _, _ => exact ⟨_, a1 _ _ ob1⟩
  | 2, _, _, _, a3, _, _ => obtain ⟨f, b, _⟩ := a3 rfl; exact ⟨_, b⟩
  | 3, _, _, a2, _, _, _ => obtain ⟨f, b, _⟩ := a2 _ _ ar3; exact ⟨_, b⟩
  | 4, _, a1, _, _, _, _ => exact ⟨_, a1 _ _ ob4⟩
  | 5, _, _, a2, _, _, _ => obtain ⟨f, b, _⟩ := a2 _ _ ar5; exact ⟨_, b⟩
  | 6, _, _, a2, _, _, _ => obtain ⟨f, b, _⟩ := a2 _ _ ar6; exact ⟨_, b⟩
  | 7, _, a1, _, _, _, _ => exact ⟨_, a1 _ _ ob7⟩
  | 8, _, _, a2, _, _, _ => obtain ⟨f, b, _⟩ := a2 _ _ ar8; exact ⟨_, b⟩
  | 9, _, a1, _, _, _, _ => exact ⟨_, a1 _ _ ob9⟩
  | 10, _, _, a2, _, _, _ => obtain ⟨f, b, _⟩ := a2 _ _ ar10; exact ⟨_, b⟩
  | 11, _, _, a2, _, _, _ => obtain ⟨f, b, _⟩ := a2 _ _ ar11; exact ⟨_, b⟩
  | 12, _, _, _, _, a4, _ => obtain ⟨f, b, _⟩ := a4 rfl; exact ⟨_, b⟩
  | 13, _, a1, _, _, _, _ => exact ⟨_, a1 _ _ ob13⟩
  | 14, _, _, _, _, _, a5 => obtain ⟨f, b, _⟩ := a5 rfl; exact ⟨_, b⟩
  | 15, _, _, a2, _, _, _ => obtain ⟨f, b, _⟩ := a2 _ _ ar15; exact ⟨_, b⟩
  | 16, _, _, a2, _, _, _ => obtain ⟨f, b, _⟩ := a2 _ _ ar16; exact ⟨_, b⟩
  | 17, _, _, a2, _, _, _ => obtain ⟨f, b, _⟩ := a2 _ _ ar17; exact ⟨_, b⟩
  | 18, _, _, a2, _, _, _ => obtain ⟨f, b, _⟩ := a2 _ _ ar18; exact ⟨_, b⟩
  | 19, _, a1, _, _, _, _ => exact ⟨_, a1 _ _ ob19⟩
  | 20, _, a1, _, _, _, _ => exact ⟨_, a1 _ _ ob20⟩
  | 21, _, _, a2, _, _, _ => obtain ⟨f, b, _⟩ := a2 _ _ ar21; exact ⟨_, b⟩
  | 22, _, _, a2, _, _, _ => obtain ⟨f, b, _⟩ := a2 _ _ ar22; exact ⟨_, b⟩
  | 23, _, a1, _, _, _, _ => exact ⟨_, a1 _ _ ob23⟩
  | 24, _, a1, _, _, _, _ => exact ⟨_, a1 _ _ ob24⟩
  | 25, _, _, a2, _, _, _ => obtain ⟨f, b, _⟩ := a2 _ _ ar25; exact ⟨_, b⟩
  | 26, _, _, a2, _, _, _ => obtain ⟨f, b, _⟩ := a2 _ _ ar26; exact ⟨_, b⟩
  | 27, _, a1, _, _, _, _ => exact ⟨_, a1 _ _ ob27⟩
  | 28, _, a1, _, _, _, _ => exact ⟨_, a1 _ _ ob28⟩
  | 29, _, _, a2, _, _, _ => obtain ⟨f, b, _⟩ := a2 _ _ ar29; exact ⟨_, b⟩
  | 30, _, _, a2, _, _, _ => obtain ⟨f, b, _⟩ := a2 _ _ ar30; exact ⟨_, b⟩
  | 31, _, _, a2, _, _, _ => obtain ⟨f, b, _⟩ := a2 _ _ ar31; exact ⟨_, b⟩
  | 32, _, _, a2, _, _, _ => obtain ⟨f, b, _⟩ := a2 _ _ ar32; exact ⟨_, b⟩
  | 33, _, a1, _, _, _, _ => exact ⟨_, a1 _ _ ob33⟩
  | 34, _, _, a2, _, _, _ => obtain ⟨f, b, _⟩ := a2 _ _ ar34; exact ⟨_, b⟩
  | k + 35, hk, _, _, _, _, _ => exact absurd hk (by omega)
/-- a new cell -/
theorem cw_T.new {q : Nat} {e : va_E} (hT : cw_T G K g0 W g C) (hq : g q = none) : cw_T G K g0 W (ev_up g q e) C := by
  have hne : ∀ k i, cw_lv C k i → W k i ≠ q := fun k i hl z => by
    obtain ⟨e, he⟩ := hT.ex9 hl
    rw [z, hq] at he
    cases he
  obtain ⟨hB, hK, hA, hD⟩ := hT
  refine ⟨hB, fun a ha => ?_, fun k i hl => ⟨?_, (hA k i hl).2⟩, hD⟩
  · obtain ⟨h1, e0, h2⟩ := hK a ha
    have : a ≠ q := fun z => by rw [← h1, z, hq] at h2; cases h2
    rw [ev_up_n _ _ this]
    exact ⟨h1, e0, h2⟩
  · exact cw_at_cg hB hl (fun _ _ => rfl) (fun _ _ _ => rfl) (fun _ => rfl) (ev_up_n _ _ (hne k i hl)) (hA k i hl).1
/-- the heap goes on -/
theorem cw_T.mv {g2 : ev_H} (hT : cw_T G K g0 W g C) (h : ∀ b e, g b = some e → g2 b = some e) : cw_T G K g0 W g2 C := by
  have hs := @cw_T.ex9 G K g0 g W C hT
  obtain ⟨hB, hK, hA, hD⟩ := hT
  refine ⟨hB, fun a ha => ?_, fun k i hl => ⟨?_, (hA k i hl).2⟩, hD⟩
  · obtain ⟨h1, e0, h2⟩ := hK a ha
    exact ⟨by rw [h a e0 (by rw [h1]; exact h2), h2], e0, h2⟩
  · obtain ⟨e, he⟩ := hs hl
    exact cw_at_cg hB hl (fun _ _ => rfl) (fun _ _ _ => rfl) (fun _ => rfl) (by rw [he]; exact h _ _ he) (hA k i hl).1
/-- new things -/
theorem cw_T.grow {l : Nat} {W2 : cw_W} {C2 : mo_S} {g2 : ev_H} (N : Nat → Nat → Prop) (hT : cw_T G K g0 W g C) (h99 : W2 99 0 = W 99 0) (hW : ∀ k i, cw_lv C k i → (k = 2 → i ≠ l) → W2 k i = W k i) (hA : ∀ a, a < sp_A C → (C.1 63 a).toNatClampNeg < sp_P C) (hB : cw_B C2) (hK : ∀ a, K a → g2 a = g a)
    (hL : ∀ k i, cw_lv C2 k i → (cw_lv C k i ∧ (k = 1 ∨ k = 2 → i ≠ l) ∧ cw_sm C2 C k i ∧ g2 (W k i) = g (W k i)) ∨ (N k i ∧ cw_at G W2 C2 g2 k i ∧ ¬ K (W2 k i)))
    (hD : ∀ k i k' i', N k i → cw_lv C2 k' i' → W2 k i = W2 k' i' → k = k' ∧ i = i') : cw_T G K g0 W2 g2 C2 := by
  obtain ⟨tB, tK, tA, tD⟩ := hT
  have hWo : ∀ k i, cw_lv C k i → (k = 1 ∨ k = 2 → i ≠ l) → W2 k i = W k i := fun k i h1 h2 => hW k i h1 (fun q => h2 (Or.inr q))
  refine ⟨hB, fun a ha => ?_, fun k i hl => ?_, fun k i k' i' h1 h2 e => ?_⟩
  · rw [hK a ha]; exact tK a ha
  · rcases hL k i hl with ⟨q1, q2, q3, q4⟩ | ⟨-, q2, q3⟩
    · have e := hWo k i q1 q2
      refine ⟨cw_at_sm tB q1 h99 hW hA q2 q3 (by rw [e]; exact q4) (tA k i q1).1, ?_⟩
      rw [e]; exact (tA k i q1).2
    · exact ⟨q2, q3⟩
  · rcases hL k i h1 with ⟨q1, q2, q3, q4⟩ | ⟨q1, -, -⟩
    · rcases hL k' i' h2 with ⟨r1, r2, r3, r4⟩ | ⟨r1, -, -⟩
      · rw [hWo k i q1 q2, hWo k' i' r1 r2] at e
        exact tD k i k' i' q1 r1 e
      · have := hD k' i' k i r1 h1 e.symm
        exact ⟨this.1.symm, this.2.symm⟩
    · exact hD k i k' i' q1 h2 e
end CT
end CG
