section M34
/-! CALLS THAT CHANGE SOMETHING -/
theorem kl_iteC {B : Int} {F : mo_Fn} {c : Prop} [Decidable c] {a b : Int32 × mo_S} (h1 : c → mo_K B a.2 F) (h2 : ¬ c → mo_K B b.2 F) : mo_K B (if c then a else b).2 F := by
  by_cases q : c
  · rw [if_pos q]; exact h1 q
  · rw [if_neg q]; exact h2 q
theorem kl_b {b : Bool} (h : (mo_b (if mo_b b = 0 then true else false)) = 0) : b = true := by
  cases b with
  | true => rfl
  | false => exact absurd h (by decide)
theorem mo_K.grant {S : mo_S} {F : mo_Fn} {B : Int} (h : mo_K B S F) (x1 x2 : Int32) : mo_K B (sp_X12_grant S x1 x2).2 F := by
  unfold sp_X12_grant
  refine kl_ite (kl_iteC (fun c => ?_) (fun _ => kl_leaf h.u0.bad.bad)) (kl_leaf h.u0.bad)
  refine kl_ite (kl_leaf ?_) (kl_leaf h.u0.bad.bad)
  have hi := of_decide_eq_true (kl_b c)
  have h1 := Int32.le_iff_toInt_le.mp hi.1
  have h2 := Int32.le_iff_toInt_le.mp hi.2
  have hM := h.1.1.M
  have h3 : (0 : Int) ≤ (S.1 2 0).toInt := (h.1.1.1 2 0 (by decide)).1
  refine h.u0.bad.bad.up (by decide) ⟨?_, h2⟩
  show (-1 : Int) ≤ _
  omega
/-- a field of a paper that is there -/
theorem mo_K.upP {S : mo_S} {F : mo_Fn} {B : Int} {k p : Nat} {v : Int32} (h : mo_K B S F) (hk : k = 8 ∨ k = 9 ∨ k = 12 ∨ k = 13 ∨ k = 14 ∨ k = 15 ∨ k = 16 ∨ k = 18) (hp : p < sp_P S) (hv : mo_lo k ≤ v.toInt ∧ v.toInt ≤ mo_hi k) : mo_K B (mo_up S k p v) F := by
  obtain ⟨⟨h1, h2, h3, h4⟩, h5⟩ := h
  have n : ∀ a, ¬ (8 ≤ a ∧ a ≤ 9) → ¬ (12 ≤ a ∧ a ≤ 16) → a ≠ 18 → (mo_up S k p v).1 a = S.1 a := fun a q1 q2 q3 => mo_up_ne (by omega)
  have z : ∀ a, k = a ∨ k ≠ a → ∀ q, sp_P S ≤ q → (mo_up S k p v).1 a q = S.1 a q := fun a ha q hq => by
    rcases ha with e | e
    · rw [← e, mo_up_at, pk_un (by omega)]
    · rw [mo_up_ne (fun x => e x.symm)]
  have em : ∀ a : Nat, k = a ∨ k ≠ a := fun a => Nat.decEq k a |>.byCases Or.inl Or.inr
  have nP : sp_P (mo_up S k p v) = sp_P S := by unfold sp_P; rw [n 1 (by decide) (by decide) (by decide)]
  have nW : sp_W (mo_up S k p v) = sp_W S := by unfold sp_W; rw [n 24 (by decide) (by decide) (by decide)]
  refine ⟨⟨h1.up (by omega) hv, ⟨fun q hq => ?_, ?_, ?_⟩, ?_, ?_⟩, ?_⟩
  · rw [nP] at hq
    rw [z 8 (em _) q hq, z 9 (em _) q hq, z 10 (em _) q hq, z 11 (em _) q hq, z 12 (em _) q hq, z 13 (em _) q hq, z 14 (em _) q hq, z 15 (em _) q hq, z 16 (em _) q hq, z 18 (em _) q hq, z 59 (em _) q hq]
    exact h2.1 q hq
  · rw [nP, nW, n 26 (by decide) (by decide) (by decide)]; exact h2.2.1
  · rw [nP, n 58 (by decide) (by decide) (by decide)]; exact h2.2.2
  · unfold mo_IP sp_P sp_R sp_A sp_M sp_O at h3 ⊢
    rw [n 1 (by decide) (by decide) (by decide), n 2 (by decide) (by decide) (by decide), n 21 (by decide) (by decide) (by decide), n 23 (by decide) (by decide) (by decide), n 29 (by decide) (by decide) (by decide), n 59 (by decide) (by decide) (by decide), n 62 (by decide) (by decide) (by decide), n 63 (by decide) (by decide) (by decide), n 56 (by decide) (by decide) (by decide), n 55 (by decide) (by decide) (by decide), n 60 (by decide) (by decide) (by decide), n 61 (by decide) (by decide) (by decide), n 33 (by decide) (by decide) (by decide), n 53 (by decide) (by decide) (by decide), n 54 (by decide) (by decide) (by decide)]
    exact h3
  · unfold mo_IS mo_pl sp_R sp_M at h4 ⊢
    rw [n 2 (by decide) (by decide) (by decide), n 10 (by decide) (by decide) (by decide), n 11 (by decide) (by decide) (by decide), n 21 (by decide) (by decide) (by decide), n 23 (by decide) (by decide) (by decide), n 22 (by decide) (by decide) (by decide)]
    exact h4
  · unfold mo_IC sp_O at h5 ⊢
    rw [n 29 (by decide) (by decide) (by decide), n 37 (by decide) (by decide) (by decide), n 38 (by decide) (by decide) (by decide), n 39 (by decide) (by decide) (by decide), n 40 (by decide) (by decide) (by decide)]
    exact h5
theorem kl_b2 {b b2 : Bool} (h : (mo_b (if mo_b b = 0 then true else (if mo_b b2 = 0 then true else false))) = 0) : b = true ∧ b2 = true := by
  cases b <;> cases b2 <;> first | exact ⟨rfl, rfl⟩ | exact absurd h (by decide)
theorem kl_P {S : mo_S} {v : Int32} {k i : Nat} (h : k ≠ 1) : sp_P (mo_up S k i v) = sp_P S := by unfold sp_P; rw [mo_up_ne (Ne.symm h)]
theorem kl_Pb {S : mo_S} {b : Bool} {x : Int32} : sp_P (sp_bad b x S) = sp_P S := by
  unfold sp_bad
  split
  · exact kl_P (by decide)
  · rfl
theorem kl_in {x a b : Int32} (h : sp_in x a b = true) : a.toInt ≤ x.toInt ∧ x.toInt ≤ b.toInt := by
  have hi := of_decide_eq_true h
  exact ⟨Int32.le_iff_toInt_le.mp hi.1, Int32.le_iff_toInt_le.mp hi.2⟩
theorem mo_K.bid {S : mo_S} {F : mo_Fn} {B : Int} (h : mo_K B S F) (x1 x2 x3 : Int32) : mo_K B (sp_X12_bid S x1 x2 x3).2 F := by
  unfold sp_X12_bid
  refine kl_iteC (fun _ => kl_leaf h.u0) (fun c1 => ?_)
  refine kl_iteC (fun c2 => ?_) (fun _ => kl_leaf h.u0.bad)
  refine kl_ite (kl_leaf ?_) (kl_leaf h.u0.bad)
  have hp := (mo_vin (N := 12) h.1.1.P.1 h.1.1.P.2 (by decide) (mo_b_1 c1)).2.1
  obtain ⟨c3, c4⟩ := kl_b2 c2
  have c3 := kl_in c3
  have c4 := kl_in c4
  refine (h.u0.bad.upP (by decide) (by rw [kl_Pb, kl_P (by decide)]; exact hp) ⟨?_, c3.2⟩).upP (by decide) (by rw [kl_P (by decide), kl_Pb, kl_P (by decide)]; exact hp) ⟨c4.1, c4.2⟩
  exact Int.le_trans (by decide) c3.1
theorem kl_cnt {x : Int32} {Z N : Nat} (hN : N < 2147483647) (h : x = nI Z) (hZ : Z ≤ N) (hn : ¬ x = nI N) : (0 : Int) ≤ (x + 1).toInt ∧ (x + 1).toInt ≤ N := by
  have hlt : Z < N := by
    rcases Nat.lt_or_ge Z N with q | q
    · exact q
    · exact absurd (by rw [h, show Z = N by omega]) hn
  rw [h, show nI Z + 1 = nI (Z + 1) from nI_add Z 1, nI_toInt (by omega)]
  omega
theorem mo_K.correct {S : mo_S} {F : mo_Fn} {B : Int} (h : mo_K B S F) (x1 x2 x3 : Int32) : mo_K B (sp_X12_correct S x1 x2 x3).2 F := by
  unfold sp_X12_correct
  refine kl_ite (kl_leaf h.u0) (kl_ite ?_ (kl_leaf h.u0.bad))
  refine kl_ite (kl_leaf h.u0.bad) (kl_iteC (fun _ => kl_leaf h.u0.bad) (fun c => kl_leaf ?_))
  exact ((((h.u0.bad.upA (by decide)).upA (by decide)).upA (by decide)).upA (by decide)).up (by decide) (kl_cnt (N := 60) (by decide) h.1.1.Z.1 h.1.1.Z.2 c)
theorem kl_ne {S : mo_S} {b : Bool} {x : Int32} {k : Nat} (h : k ≠ 0) : (sp_bad b x S).1 k = S.1 k := by
  unfold sp_bad
  split
  · exact mo_up_ne h
  · rfl
/-- one more ward -/
theorem mo_K.ward {S : mo_S} {F : mo_Fn} {B : Int} (h : mo_K B S F) (x1 : Int32) : mo_K B (sp_X12_ward S x1).2 F := by
  unfold sp_X12_ward
  refine kl_iteC (fun c => ?_) (fun _ => kl_leaf h.u0.bad)
  refine kl_iteC (fun _ => kl_leaf h.u0.bad) (fun c2 => kl_leaf ?_)
  have c3 := kl_in (kl_b c)
  have hW := h.1.1.W
  have cn := kl_cnt (N := 5) (by decide) hW.1 hW.2 c2
  have h25 : mo_K B (mo_up (sp_bad (if mo_b (sp_in x1 0 1000) = 0 then true else false) 1 (mo_up S 0 0 0)) 25 (S.1 24 0).toNatClampNeg x1) F := h.u0.bad.up (by decide) c3
  obtain ⟨⟨h1, h2, h3, h4⟩, h5⟩ := id h25
  refine ⟨⟨h1.up (by decide) cn, ⟨?_, ?_, ?_⟩, ?_, ?_⟩, ?_⟩
  · unfold mo_IZ at h2
    rw [kl_P (by decide)]
    exact h2.1
  · rw [kl_P (by decide)]
    refine fun w p hp hq => h2.2.1 w p hp (hq.imp (fun q => ?_) id)
    have e : sp_W (mo_up (sp_bad (if mo_b (sp_in x1 0 1000) = 0 then true else false) 1 (mo_up S 0 0 0)) 25 (S.1 24 0).toNatClampNeg x1) = sp_W S := by
      unfold sp_W
      rw [mo_up_ne (by decide), kl_ne (by decide), mo_up_ne (by decide)]
    rw [e]
    unfold sp_W at q
    rw [mo_up_at, pk_us] at q
    have e2 : (S.1 24 0 + 1).toNatClampNeg = sp_W S + 1 := by
      rw [hW.1, show nI (sp_W S) + 1 = nI (sp_W S + 1) from nI_add _ 1, nI_clamp (by omega)]
    omega
  · rw [kl_P (by decide)]
    exact h2.2.2
  · exact h3
  · exact h4
  · exact h5
theorem mo_IZ.cg {S T : mo_S} (h2 : mo_IZ S) (n : ∀ a, a ∈ [1, 8, 9, 10, 11, 12, 13, 14, 15, 16, 18, 24, 26, 58, 59] → T.1 a = S.1 a) : mo_IZ T := by
  unfold mo_IZ sp_P sp_W at h2 ⊢
  rw [n 1 (by decide), n 10 (by decide), n 11 (by decide), n 59 (by decide), n 8 (by decide), n 9 (by decide), n 12 (by decide), n 13 (by decide), n 14 (by decide), n 15 (by decide), n 16 (by decide), n 18 (by decide), n 24 (by decide), n 26 (by decide), n 58 (by decide)]
  exact h2
theorem mo_IS.cg {S T : mo_S} {B : Int} (h4 : mo_IS B S) (n : ∀ a, a ∈ [2, 10, 11, 21, 22, 23] → T.1 a = S.1 a) : mo_IS B T := by
  unfold mo_IS mo_pl sp_R sp_M at h4 ⊢
  rw [n 2 (by decide), n 10 (by decide), n 11 (by decide), n 21 (by decide), n 23 (by decide), n 22 (by decide)]
  exact h4
theorem mo_IC.cg {S T : mo_S} (h5 : mo_IC S) (n : ∀ a, a ∈ [29, 37, 38, 39, 40] → T.1 a = S.1 a) : mo_IC T := by
  unfold mo_IC sp_O at h5 ⊢
  rw [n 29 (by decide), n 37 (by decide), n 38 (by decide), n 39 (by decide), n 40 (by decide)]
  exact h5
theorem kl_up {S : mo_S} {k i a : Nat} {v : Int32} {L : List Nat} (hk : k ∉ L) (ha : a ∈ L) : (mo_up S k i v).1 a = S.1 a := mo_up_ne (fun e => hk (e ▸ ha))
end M34
