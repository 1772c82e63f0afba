section M33
/-! ALL THAT HOLDS BETWEEN CALLS -/
def mo_K (B : Int) (S : mo_S) (F : mo_Fn) : Prop := mo_I B S F ∧ mo_IC S
/-- the fields of which it speaks, beside bounds -/
def mo_LK : List Nat := [1, 2, 8, 9, 10, 11, 12, 13, 14, 15, 16, 18, 21, 22, 23, 24, 26, 29, 33, 37, 38, 39, 40, 53, 54, 55, 56, 58, 59, 60, 61, 62, 63]
theorem mo_K.cg {S T : mo_S} {F : mo_Fn} {B : Int} (h : mo_K B S F) (hJ : mo_J T F) (n : ∀ a, a ∈ mo_LK → T.1 a = S.1 a) : mo_K B T F := by
  obtain ⟨⟨h1, h2, h3, h4⟩, h5⟩ := h
  have n1 := n 1 (by decide)
  have n2 := n 2 (by decide)
  have n10 := n 10 (by decide)
  have n11 := n 11 (by decide)
  have n21 := n 21 (by decide)
  have n23 := n 23 (by decide)
  have n29 := n 29 (by decide)
  have n59 := n 59 (by decide)
  refine ⟨⟨hJ, ?_, ?_, ?_⟩, ?_⟩
  · unfold mo_IZ sp_P sp_W at h2 ⊢
    rw [n1, n10, n11, n59, n 8 (by decide), n 9 (by decide), n 12 (by decide), n 13 (by decide), n 14 (by decide), n 15 (by decide), n 16 (by decide), n 18 (by decide), n 24 (by decide), n 26 (by decide), n 58 (by decide)]
    exact h2
  · unfold mo_IP sp_P sp_R sp_A sp_M sp_O at h3 ⊢
    rw [n1, n2, n21, n23, n29, n59, n 62 (by decide), n 63 (by decide), n 56 (by decide), n 55 (by decide), n 60 (by decide), n 61 (by decide), n 33 (by decide), n 53 (by decide), n 54 (by decide)]
    exact h3
  · unfold mo_IS mo_pl sp_R sp_M at h4 ⊢
    rw [n2, n10, n11, n21, n23, n 22 (by decide)]
    exact h4
  · unfold mo_IC sp_O at h5 ⊢
    rw [n29, n 37 (by decide), n 38 (by decide), n 39 (by decide), n 40 (by decide)]
    exact h5
theorem mo_K.congB {S T : mo_S} {F : mo_Fn} {B : Int} (e : sp_eqB T S) (h : mo_K B S F) : mo_K B T F := by
  refine h.cg (sp_eqB_J e h.1.1) (fun a ha => e a ?_)
  have q : ∀ a ∈ mo_LK, a < 42 ∨ (52 < a ∧ a < 69) ∨ 72 < a := by decide
  exact q a ha
theorem mo_K.congM {S T : mo_S} {F : mo_Fn} {B : Int} (e : sp_eqM T S) (h : mo_K B S F) : mo_K B T F := h.congB (fun k hk => e k (by omega))
/-- a field of which nothing but bounds is known -/
theorem mo_K.up {S : mo_S} {F : mo_Fn} {B : Int} {k i : Nat} {v : Int32} (h : mo_K B S F) (hk : ((k < 42 ∨ 52 < k) ∧ k ≠ 1 ∧ k ≠ 2 ∧ k ≠ 29 ∧ ¬ (36 ≤ k ∧ k ≤ 41) ∧ k ≠ 6 ∧ k ≠ 7 ∧ k ≠ 53 ∧ k ≠ 54) ∧ k ∉ mo_LK) (hv : mo_lo k ≤ v.toInt ∧ v.toInt ≤ mo_hi k) : mo_K B (mo_up S k i v) F :=
  h.cg (h.1.1.up hk.1 hv) (fun a ha => mo_up_ne (fun e => hk.2 (e ▸ ha)))
theorem mo_K.upA {S : mo_S} {F : mo_Fn} {B : Int} {k i : Nat} {v : Int32} (h : mo_K B S F) (hk : (((k < 42 ∨ 52 < k) ∧ k ≠ 1 ∧ k ≠ 2 ∧ k ≠ 29 ∧ ¬ (36 ≤ k ∧ k ≤ 41) ∧ k ≠ 6 ∧ k ≠ 7 ∧ k ≠ 53 ∧ k ≠ 54) ∧ k ∉ mo_LK) ∧ mo_lo k = -2147483648 ∧ mo_hi k = 2147483647) : mo_K B (mo_up S k i v) F := h.up hk.1 (by rw [hk.2.1, hk.2.2]; exact mo_any)
theorem mo_K.u0 {S : mo_S} {F : mo_Fn} {B : Int} {v : Int32} (h : mo_K B S F) : mo_K B (mo_up S 0 0 v) F := h.upA (by decide)
theorem mo_K.bad {S : mo_S} {F : mo_Fn} {B : Int} {b : Bool} {x : Int32} (h : mo_K B S F) : mo_K B (sp_bad b x S) F := by
  unfold sp_bad
  split
  · exact h.u0
  · exact h
theorem mo_K.le {S : mo_S} {F : mo_Fn} {B B2 : Int} (h : mo_K B S F) (hB : B ≤ B2) : mo_K B2 S F := ⟨⟨h.1.1, h.1.2.1, h.1.2.2.1, h.1.2.2.2.1, Int.le_trans h.1.2.2.2.2.1 hB, h.1.2.2.2.2.2⟩, h.2⟩
theorem kl_ite {B : Int} {F : mo_Fn} {c : Prop} [Decidable c] {a b : Int32 × mo_S} (h1 : mo_K B a.2 F) (h2 : mo_K B b.2 F) : mo_K B (if c then a else b).2 F := by
  split
  · exact h1
  · exact h2
theorem kl_leaf {B : Int} {F : mo_Fn} {r : Int32} {s : mo_S} (h : mo_K B s F) : mo_K B ((r, s) : Int32 × mo_S).2 F := h
/-! calls that change nothing -/
theorem mo_K.where_ {S : mo_S} {F : mo_Fn} {B : Int} (h : mo_K B S F) (x1 : Int32) : mo_K B (sp_X12_where S x1).2 F := h.u0
theorem mo_K.fault_ {S : mo_S} {F : mo_Fn} {B : Int} (h : mo_K B S F) : mo_K B (sp_X12_fault S).2 F := h.u0
theorem mo_K.netted {S : mo_S} {F : mo_Fn} {B : Int} (h : mo_K B S F) (x1 x2 : Int32) : mo_K B (sp_X12_netted S x1 x2).2 F := h.u0
theorem mo_K.apart {S : mo_S} {F : mo_Fn} {B : Int} (h : mo_K B S F) (x1 x2 : Int32) : mo_K B (sp_X12_apart S x1 x2).2 F := h.u0.bad
theorem mo_K.force {S : mo_S} {F : mo_Fn} {B : Int} (h : mo_K B S F) (x1 : Int32) : mo_K B (sp_X12_force S x1).2 F := h.u0.bad
theorem mo_K.demand {S : mo_S} {F : mo_Fn} {B : Int} (h : mo_K B S F) (x1 x2 : Int32) : mo_K B (sp_X12_demand S x1 x2).2 F := by
  unfold sp_X12_demand
  split
  · exact h.u0
  · exact h.u0.bad
theorem mo_K.told {S : mo_S} {F : mo_Fn} {B : Int} (h : mo_K B S F) (x1 x2 : Int32) : mo_K B (sp_X12_told S x1 x2).2 F := by
  have hb : ∀ (b : Bool) (v : Int32), mo_K B (sp_bad b 2 (mo_up S 0 0 v)) F := fun b v => mo_K.bad h.u0
  have h0 : ∀ v : Int32, mo_K B (mo_up S 0 0 v) F := fun v => h.u0
  unfold sp_X12_told
  refine kl_ite (kl_leaf (h0 _)) (kl_ite ?_ (kl_leaf (hb _ _)))
  generalize hz : sp_bad (if (mo_b (sp_in x2 0 10)) = 0 then true else false) 2 (mo_up S 0 0 (mo_b (!sp_in x1 0 (S.1 1 0 - 1)))) = Z
  have hZ : mo_K B Z F := by rw [← hz]; exact hb _ _
  iterate 10 (refine kl_ite (kl_leaf hZ) ?_)
  exact kl_leaf hZ
end M33
