section M28
/-- what stands in the tables of order O from clause i, code c on -/
def ps_LW (T : mo_S) (O : Nat) : Nat → Nat → List (Int32 × Int32 × List (Int32 × Int32) × List Int32 × ps_F) → Prop
  | _, _, [] => True
  | i, c, q :: l => (c + q.2.2.1.length ≤ 300 ∧ T.1 38 (12 * O + i) = q.1 ∧ T.1 39 (12 * O + i) = (if q.1 = 0 ∨ q.1 = 4 then nI c else q.2.1) ∧ ∀ j, j < q.2.2.1.length → T.1 40 (350 * O + c + j) = (q.2.2.1.getD j (0, 0)).1 ∧ T.1 41 (350 * O + c + j) = (q.2.2.1.getD j (0, 0)).2) ∧ ps_LW T O (i + 1) (c + q.2.2.1.length) l
def ps_OQ (S : mo_S) (N c O i : Nat) (r : (Nat × Nat) ⊕ List (Int32 × Int32 × List (Int32 × Int32) × List Int32 × ps_F)) (T : mo_S) (cnt : Nat) : Prop := match r with
  | .inl (w, pl) => ps_CB S N c O (12 * O + i) T w pl
  | .inr l => cnt = i + l.length ∧ ps_eq2 S T ∧ T.1 32 0 = 0 ∧ T.1 33 0 = S.1 33 0 ∧ ps_low (350 * O + c) S T ∧ (∀ k, k < 12 * O + i → T.1 38 k = S.1 38 k ∧ T.1 39 k = S.1 39 k) ∧ ps_LW T O i c l
def ps_cons (q : Int32 × Int32 × List (Int32 × Int32) × List Int32 × ps_F) (r : (Nat × Nat) ⊕ List (Int32 × Int32 × List (Int32 × Int32) × List Int32 × ps_F)) : (Nat × Nat) ⊕ List (Int32 × Int32 × List (Int32 × Int32) × List Int32 × ps_F) := match r with
  | .inl e => .inl e
  | .inr l => .inr (q :: l)
theorem ps_eq2.t {S T U : mo_S} (h : ps_eq2 S T) (h2 : ps_eq2 T U) : ps_eq2 S U := fun k a b => (h2 k a b).trans (h k a b)
theorem ps_OQ.t {S T U V : mo_S} {N c O i p e e2 : Nat} {w m mm : Int32} {L : List (Int32 × Int32)} {C : List Int32} {F : ps_F} {r : (Nat × Nat) ⊕ List (Int32 × Int32 × List (Int32 × Int32) × List Int32 × ps_F)} {cnt : Nat} (hG : ps_CG S N p c O (12 * O + i) T e w mm L) (hcp : c ≤ p) (hm : mm = if w = 0 ∨ w = 4 then nI c else m) (hU : U = mo_up T 31 0 (nI e2)) (hQ : ps_OQ U N (c + L.length) O (i + 1) r V cnt) : ps_OQ S N c O i (ps_cons (w, m, L, C, F) r) V cnt := by
  obtain ⟨a1, a2, a3, a4, a5, a6, a7, a8, a9, a10, a11⟩ := hG
  have un : ∀ k, k ≠ 31 → U.1 k = T.1 k := fun k q => by rw [hU, mo_up_ne q]
  have ue : ps_eq2 S U := fun k b1 b2 => (un k (by omega)).trans (a1 k b1 b2)
  have ul : ps_low (350 * O + c) S U := fun k hk => by rw [un 40 (by decide), un 41 (by decide)]; exact a8 k hk
  have uc : ∀ k, k < 12 * O + i → U.1 38 k = S.1 38 k ∧ U.1 39 k = S.1 39 k := fun k hk => by rw [un 38 (by decide), un 39 (by decide), a10, a11, pk_un (by omega), pk_un (by omega)]; exact ⟨rfl, rfl⟩
  match r, hQ with
  | .inl (w9, pl), hQ =>
    obtain ⟨b1, b2, b3, b4, b5, b6, b7, b8⟩ := hQ
    refine ⟨ue.t b1, b2, b3, b4, b5, b6, ps_low.t ul b7 (by omega), fun k hk => ?_⟩
    have q := b8 k (by omega)
    have q2 := uc k hk
    exact ⟨q.1.trans q2.1, q.2.trans q2.2⟩
  | .inr l, hQ =>
    obtain ⟨b1, b2, b3, b4, b5, b6, b7⟩ := hQ
    refine ⟨by rw [b1, List.length_cons]; omega, ue.t b2, b3, by rw [b4, un 33 (by decide)]; exact a5, ps_low.t ul b5 (by omega), fun k hk => ?_, ⟨?_, ?_, ?_, fun j hj => ?_⟩, b7⟩
    · have q := b6 k (by omega)
      have q2 := uc k hk
      exact ⟨q.1.trans q2.1, q.2.trans q2.2⟩
    · have q1 := a2.2.1
      have q2 := a2.2.2.2
      show c + L.length ≤ 300
      omega
    · rw [(b6 (12 * O + i) (by omega)).1, un 38 (by decide), a10, pk_us]
    · rw [(b6 (12 * O + i) (by omega)).2, un 39 (by decide), a11, pk_us]; exact hm
    · have q := b5 (350 * O + c + j) (by have : j < L.length := hj; omega)
      rw [q.1, q.2, un 40 (by decide), un 41 (by decide)]
      exact a9 j hj
theorem ps_CG.P {S T : mo_S} {N p c O ci e e2 : Nat} {w m : Int32} {L : List (Int32 × Int32)} (hP : ps_P S N p 0 c O) (h1 : ps_CG S N p c O ci T e w m L) (he : e ≤ e2) (he2 : e2 ≤ N) : ps_P (mo_up T 31 0 (nI e2)) N e2 0 (c + L.length) O := by
  obtain ⟨a1, a2, a3, a4, a5, a6, a7, a8, a9, a10, a11⟩ := h1
  obtain ⟨b1, b2, b3, b4, b5, b6, b7, b8⟩ := hP
  exact ⟨a2.up he2, by rw [mo_up_ne (by decide)]; exact a4, by rw [mo_up_ne (by decide)]; exact a6.trans b3, by omega, by rw [mo_up_ne (by decide)]; exact a7, by omega, by rw [mo_up_ne (by decide), a1 29 (by decide) (by decide)]; exact b7, b8⟩
theorem ps_os_len {t : Nat → Nat} {n : Nat} : ∀ {m p l}, ps_os t n m p = .inr l → l.length ≤ m
  | 0, p, l, h => by
    unfold ps_os at h
    split at h
    · cases h
    · cases h; exact Nat.le_refl _
  | m + 1, p, l, h => by
    unfold ps_os at h
    split at h
    · split at h
      · cases h
      · split at h
        · cases h
        · rename_i q _ _ h2
          cases h
          have := ps_os_len h2
          rw [List.length_cons]
          omega
    · cases h; exact Nat.zero_le _
/-- what a new order leaves alone -/
def sp_ordE (S T : mo_S) (O : Nat) : Prop := (∀ k, k ≠ 0 → k ≠ 28 → k ≠ 29 → ¬ (30 ≤ k ∧ k ≤ 41) → T.1 k = S.1 k) ∧ (∀ i, i < 12 * O → T.1 38 i = S.1 38 i ∧ T.1 39 i = S.1 39 i) ∧ ps_low (350 * O) S T ∧ T.1 0 = upd (S.1 0) 0 0 ∧ T.1 28 = upd (S.1 28) 0 0
def sp_ordQ (S : mo_S) (O n : Nat) (x1 : Int32) (r : Option Value) (T : mo_S) : Prop := (O = 10 ∧ r = some (.int (-1)) ∧ T = mo_up (mo_up (mo_up S 0 0 0) 30 0 (nI n)) 28 0 0) ∨ (O < 10 ∧ sp_ordE S T O ∧ match ps_os (ps_tx S) n 12 (ps_skn (ps_tx S) n 0) with
  | .inl (w, pl) => r = some (.int (nI w - 10)) ∧ T.1 33 0 = nI pl ∧ T.1 29 = S.1 29 ∧ T.1 36 = S.1 36 ∧ T.1 37 = S.1 37
  | .inr l => r = some (.int (nI O)) ∧ T.1 33 0 = -1 ∧ T.1 29 = upd (S.1 29) 0 (nI (O + 1)) ∧ T.1 36 = upd (S.1 36) O x1 ∧ T.1 37 = upd (S.1 37) O (nI l.length) ∧ ps_LW T O 0 0 l)
theorem ps_LW.cong {S T : mo_S} {O : Nat} (h : ∀ k, 38 ≤ k → k ≤ 41 → T.1 k = S.1 k) : ∀ {l i c}, ps_LW S O i c l → ps_LW T O i c l
  | [], i, c, _ => trivial
  | q :: l, i, c, ⟨⟨a0, a1, a2, a3⟩, a4⟩ => by
    refine ⟨⟨a0, ?_, ?_, fun j hj => ?_⟩, ps_LW.cong h a4⟩
    · rw [h 38 (by decide) (by decide)]; exact a1
    · rw [h 39 (by decide) (by decide)]; exact a2
    · rw [h 40 (by decide) (by decide), h 41 (by decide) (by decide)]; exact a3 j hj
/-- the state in which an order's text is read -/
def ps_ob (S : mo_S) (n : Nat) : mo_S := mo_up (mo_up (mo_up (mo_up (mo_up (mo_up (mo_up (mo_up S 0 0 0) 30 0 (nI n)) 28 0 0) 31 0 0) 32 0 0) 33 0 (-1)) 34 0 0) 35 0 0
theorem ps_ob_ne {S : mo_S} {n k : Nat} (h0 : k ≠ 0) (h28 : k ≠ 28) (h : ¬ (30 ≤ k ∧ k ≤ 35)) : (ps_ob S n).1 k = S.1 k := by
  unfold ps_ob
  rw [mo_up_ne (by omega), mo_up_ne (by omega), mo_up_ne (by omega), mo_up_ne (by omega), mo_up_ne (by omega), mo_up_ne (by omega), mo_up_ne (by omega), mo_up_ne (by omega)]
theorem ps_ob_tx {S : mo_S} {n : Nat} : ps_tx (ps_ob S n) = ps_tx S := by
  funext a
  unfold ps_tx
  rw [ps_ob_ne (by decide) (by decide) (by decide)]
theorem ps_ob_33 {S : mo_S} {n : Nat} : (ps_ob S n).1 33 0 = -1 := by
  unfold ps_ob
  rw [mo_up_ne (by decide), mo_up_ne (by decide), mo_up_at, pk_us]
theorem ps_ob_P {S : mo_S} {n O : Nat} (hn : n ≤ 300) (hO : S.1 29 0 = nI O) (hO2 : O ≤ 9) : ps_P (ps_ob S n) n 0 0 0 O := by
  refine ⟨⟨?_, hn, ?_, Nat.zero_le _⟩, ?_, ?_, by decide, ?_, Nat.le_refl _, by rw [ps_ob_ne (by decide) (by decide) (by decide)]; exact hO, hO2⟩
  · unfold ps_ob
    rw [mo_up_ne (by decide), mo_up_ne (by decide), mo_up_ne (by decide), mo_up_ne (by decide), mo_up_ne (by decide), mo_up_ne (by decide), mo_up_at, pk_us]
  · unfold ps_ob
    rw [mo_up_ne (by decide), mo_up_ne (by decide), mo_up_ne (by decide), mo_up_ne (by decide), mo_up_at, pk_us]
    rfl
  · unfold ps_ob
    rw [mo_up_ne (by decide), mo_up_ne (by decide), mo_up_ne (by decide), mo_up_at, pk_us]
  · unfold ps_ob
    rw [mo_up_ne (by decide), mo_up_at, pk_us]
    rfl
  · unfold ps_ob
    rw [mo_up_at, pk_us]
    rfl
theorem ps_ob_28 {S : mo_S} {n : Nat} : (ps_ob S n).1 28 = upd (S.1 28) 0 0 ∧ (ps_ob S n).1 0 = upd (S.1 0) 0 0 := by
  unfold ps_ob
  refine ⟨?_, ?_⟩
  · rw [mo_up_ne (by decide), mo_up_ne (by decide), mo_up_ne (by decide), mo_up_ne (by decide), mo_up_ne (by decide), mo_up_at, mo_up_ne (by decide), mo_up_ne (by decide)]
  · rw [mo_up_ne (by decide), mo_up_ne (by decide), mo_up_ne (by decide), mo_up_ne (by decide), mo_up_ne (by decide), mo_up_ne (by decide), mo_up_ne (by decide), mo_up_at]
/-- from the reader's state to the order's end -/
theorem ps_ob_E {S T : mo_S} {n O v : Nat} (he : ps_eq2 (mo_up (ps_ob S n) 31 0 (nI v)) T) (hl : ps_low (350 * O) (mo_up (ps_ob S n) 31 0 (nI v)) T) (hc : ∀ k, k < 12 * O → T.1 38 k = (mo_up (ps_ob S n) 31 0 (nI v)).1 38 k ∧ T.1 39 k = (mo_up (ps_ob S n) 31 0 (nI v)).1 39 k) : sp_ordE S T O := by
  have e : ∀ k, k ≠ 0 → k ≠ 28 → ¬ (30 ≤ k ∧ k ≤ 35) → (mo_up (ps_ob S n) 31 0 (nI v)).1 k = S.1 k := fun k q1 q2 q3 => by rw [mo_up_ne (by omega), ps_ob_ne q1 q2 q3]
  have h30 : ∀ k, k ≠ 31 → (mo_up (ps_ob S n) 31 0 (nI v)).1 k = (ps_ob S n).1 k := fun k q => mo_up_ne q
  refine ⟨fun k q1 q2 q3 q4 => (he k (by omega) (by omega)).trans (e k q1 q2 (by omega)), fun i hi => ?_, fun i hi => ?_, ?_, ?_⟩
  · have := hc i hi
    rw [e 38 (by decide) (by decide) (by decide), e 39 (by decide) (by decide) (by decide)] at this
    exact this
  · have := hl i hi
    rw [e 40 (by decide) (by decide) (by decide), e 41 (by decide) (by decide) (by decide)] at this
    exact this
  · rw [he 0 (by decide) (by decide), h30 0 (by decide), ps_ob_28.2]
  · rw [he 28 (by decide) (by decide), h30 28 (by decide), ps_ob_28.1]
theorem mo_vinB {x : Int32} {M : Nat} (hM : M ≤ 300) (h : sp_in x 0 (nI M) = true) : ∃ n, n ≤ M ∧ x = nI n := by
  obtain ⟨a, h1, h2⟩ := mo_vinE (p := x) (x := nI (M + 1)) (P := M + 1) (N := 301) rfl (by omega) (by decide) (by rw [nI_pred]; exact h)
  exact ⟨a, by omega, h2⟩

theorem or_loop {G : ev_G} {W : mo_W} {d N O : Nat} {g0 : ev_H} {PO : ev_P} {x1 x2 : Int32} {t : Nat → Nat} (hE : ev_En G) (h3 : ev_En3 G) (hd : 51 ≤ d) : ∀ (m i c p : Nat) (S : mo_S), i + m = 12 → ps_P S N p 0 c O → (ps_tx S) = t → ps_skn t N p = p → (∀ T cnt g, ps_OQ S N c O i (ps_os t N m p) T cnt → cnt ≤ 13 → mo_T G W g0 g T → ev_V G d 0 0 mX12_order PO g 165 [some (.ref W.1), some (.int x1), some (.int x2), some (.int (nI (cnt)))] []) → ∀ g, mo_T G W g0 g S → ev_V G d 0 0 mX12_order PO g 95 [some (.ref W.1), some (.int x1), some (.int x2), some (.int (nI (i)))] [] := by
  intro m
  induction m with
  | zero =>
    intro i c p S him hP ht hsk K g hT
    have hi : i = 12 := by omega
    subst hi
    have hn3 := hP.1.2.1
    have hpN := hP.1.2.2.2
    refine ev_aload_n dX12_order_95 rfl rfl ?_
    refine mo_getiE (v := 0) hE hT dX12_order_96 fX12_222 (by decide) hP.2.1 ?_
    refine ev_if_ne (tgt := 165) dX12_order_99 (by decide) (fun c_99 => absurd rfl c_99) (fun c_99 => ?_)
    refine ev_aload_n dX12_order_102 rfl rfl ?_
    refine mo_getiE (v := nI p) hE hT dX12_order_103 fX12_215 (by decide) hP.1.2.2.1 ?_
    refine ev_aload_n dX12_order_106 rfl rfl ?_
    refine mo_getiE (v := nI N) hE hT dX12_order_107 fX12_212 (by decide) hP.1.1 ?_
    unfold ps_os at K
    refine ev_icmp_ge (tgt := 165) dX12_order_110 (by decide) (fun c_110 => ?_) (fun c_110 => ?_)
    · have hge : N ≤ p := mo_ige rfl (by omega) (by omega) c_110
      rw [if_neg (by omega)] at K
      exact K S 12 g ⟨rfl, fun _ _ _ => rfl, hP.2.1, rfl, ps_low.r _ S, fun _ _ => ⟨rfl, rfl⟩, trivial⟩ (by decide) hT
    have hlt : p < N := mo_ilt rfl (by omega) (by omega) c_110
    rw [if_pos hlt] at K
    refine ev_iload_n dX12_order_113 rfl rfl ?_
    refine ev_bipush (v := nI 12) dX12_order_114 (by decide) ?_
    refine ev_icmp_ne (tgt := 142) dX12_order_116 (by decide) (fun c_116 => absurd rfl c_116) (fun c_116 => ?_)
    refine ev_aload_n dX12_order_119 rfl rfl ?_
    refine ev_aload_n dX12_order_120 rfl rfl ?_
    refine mo_call0 (d' := d - 1) hE hT dX12_order_121 rfl rfl kX12_clauseHere lX12_344 iX12_clauseHere vX12_clauseHere (Nat.le_of_ble_eq_true rfl) (by omega) (c_X12_clauseHere hE h3 (by omega) hP.1) (fun g hT => ?_)
    rw [ht, hsk] at hT
    rw [ht, hsk]
    have K2 : ∀ why : Nat, 1 ≤ why ∧ why ≤ 3 → (∀ T cnt g, ps_OQ S N c O 12 (.inl (why, p)) T cnt → cnt ≤ 13 → mo_T G W g0 g T → ev_V G d 0 0 mX12_order PO g 165 [some (.ref W.1), some (.int x1), some (.int x2), some (.int (nI (cnt)))] []) → ∀ g, mo_T G W g0 g (mo_up S 31 0 (nI p)) → ev_V G d 0 0 mX12_order PO g 132 [some (.ref W.1), some (.int x1), some (.int x2), some (.int (nI (12)))] [.int (nI why), .ref W.1] := by
      intro why hw1 K g hT
      refine ev_aload_n dX12_order_132 rfl rfl ?_
      refine mo_getiE (v := nI p) hE hT dX12_order_133 fX12_215 (by decide) (by rw [mo_up_at, pk_us]) ?_
      refine mo_call2 (d' := d - 1) hE hT dX12_order_136 rfl rfl kX12_wrong lX12_285 iX12_wrong vX12_wrong (Nat.le_of_ble_eq_true rfl) (by omega) (c_X12_wrong (x1 := nI why) (x2 := nI p) hE) (fun g hT => ?_)
      rw [ps_wr_is hP.2.1] at hT
      have hB : ps_CB S N c O (12 * O + 12) (ps_wr S p why p) why p := by
        have q : ps_CB S N c O (12 * O + 12) _ why p := ps_cB0 (v := nI p) (e := p) hP hpN hw1
        rw [show mo_up S 31 0 (nI p) = S from mo_up_self hP.1.2.2.1] at q
        exact q
      refine ev_goto (tgt := 95) dX12_order_139 (by decide) ?_
      refine ev_aload_n dX12_order_95 rfl rfl ?_
      refine mo_geti hE hT dX12_order_96 fX12_222 (by decide) ?_
      refine ev_if_ne (tgt := 165) dX12_order_99 (by decide) (fun c_99 => ?_) (fun c_99 => absurd c_99 hB.f.ne.2)
      exact K _ 12 g hB (by decide) hT
    cases hf : ps_fnd t N p ps_cn 10 with
    | none =>
      refine ev_if_lt (tgt := 131) dX12_order_124 (by decide) (fun c_124 => ?_) (fun c_124 => absurd (by decide) c_124)
      refine ev_iconst (v := nI 1) dX12_order_131 (by decide) ?_
      exact K2 1 (by decide) (by rw [hf] at K; exact K) g hT
    | some k =>
      have hl := ps_fnd_lt hf
      refine ev_if_lt (tgt := 131) dX12_order_124 (by decide) (fun c_124 => absurd c_124 (show ¬ nI k < 0 by have q : ∀ k, k < 10 → ¬ nI k < 0 := (by decide); exact q k hl.1)) (fun c_124 => ?_)
      refine ev_iconst (v := nI 3) dX12_order_127 (by decide) ?_
      refine ev_goto (tgt := 132) dX12_order_128 (by decide) ?_
      exact K2 3 (by decide) (by rw [hf] at K; exact K) g hT
  | succ m ih =>
    intro i c p S him hP ht hsk K g hT
    have hn3 := hP.1.2.1
    have hpN := hP.1.2.2.2
    have hO9 := hP.2.2.2.2.2.2.2
    refine ev_aload_n dX12_order_95 rfl rfl ?_
    refine mo_getiE (v := 0) hE hT dX12_order_96 fX12_222 (by decide) hP.2.1 ?_
    refine ev_if_ne (tgt := 165) dX12_order_99 (by decide) (fun c_99 => absurd rfl c_99) (fun c_99 => ?_)
    refine ev_aload_n dX12_order_102 rfl rfl ?_
    refine mo_getiE (v := nI p) hE hT dX12_order_103 fX12_215 (by decide) hP.1.2.2.1 ?_
    refine ev_aload_n dX12_order_106 rfl rfl ?_
    refine mo_getiE (v := nI N) hE hT dX12_order_107 fX12_212 (by decide) hP.1.1 ?_
    unfold ps_os at K
    refine ev_icmp_ge (tgt := 165) dX12_order_110 (by decide) (fun c_110 => ?_) (fun c_110 => ?_)
    · have hge : N ≤ p := mo_ige rfl (by omega) (by omega) c_110
      rw [if_neg (by omega)] at K
      exact K S i g ⟨rfl, fun _ _ _ => rfl, hP.2.1, rfl, ps_low.r _ S, fun _ _ => ⟨rfl, rfl⟩, trivial⟩ (by omega) hT
    have hlt : p < N := mo_ilt rfl (by omega) (by omega) c_110
    rw [if_pos hlt] at K
    refine ev_iload_n dX12_order_113 rfl rfl ?_
    refine ev_bipush (v := nI 12) dX12_order_114 (by decide) ?_
    refine ev_icmp_ne (tgt := 142) dX12_order_116 (by decide) (fun c_116 => ?_) (fun c_116 => absurd c_116 (by have q : ∀ i, i < 12 → ¬ nI i = nI 12 := (by decide); exact q i (by omega)))
    refine ev_aload_n dX12_order_142 rfl rfl ?_
    refine ev_bipush (v := nI 12) dX12_order_143 (by decide) ?_
    refine ev_aload_n dX12_order_145 rfl rfl ?_
    refine mo_getiE (v := nI O) hE hT dX12_order_146 fX12_289 (by decide) hP.2.2.2.2.2.2.1 ?_
    refine ev_imul dX12_order_149 ?_
    refine ev_iload_n dX12_order_150 rfl rfl ?_
    refine ev_iadd dX12_order_151 ?_
    rw [pk_mul, nI_add]
    refine mo_callr1 (d' := d - 1) hE hT dX12_order_152 rfl rfl kX12_clause lX12_358 iX12_clause vX12_clause (Nat.le_of_ble_eq_true rfl) (by omega) (c_X12_clause (ci := 12 * O + i) hE h3 (by omega) hP (by rw [ht]; exact hsk) (by omega)) (fun r T g h8 hT => ?_)
    obtain ⟨rfl, h8⟩ := h8
    rw [ht] at h8
    refine ev_iinc (v := nI (i + 1)) dX12_order_155 rfl (by exact nI_1 i) rfl ?_
    refine ev_aload_n dX12_order_158 rfl rfl ?_
    cases hcl : ps_cl t N p with
    | inl q =>
      obtain ⟨w9, pl⟩ := q
      rw [hcl] at h8
      have hB : ps_CB S N c O (12 * O + i) T w9 pl := h8
      obtain ⟨e, he⟩ := hB.2.1
      refine mo_call0 (d' := d - 1) hE hT dX12_order_159 rfl rfl kX12_blanks lX12_225 iX12_blanks vX12_blanks (Nat.le_of_ble_eq_true rfl) (by omega) (c_X12_blanks hE (by omega) he) (fun g hT => ?_)
      have hin := ps_skn_in (t := ps_tx T) he.2.2.2
      have hB := hB.fr (ps_FR.h (v := nI (ps_skn (ps_tx T) N e)) (he.up hin.2))
      refine ev_goto (tgt := 95) dX12_order_162 (by decide) ?_
      refine ev_aload_n dX12_order_95 rfl rfl ?_
      refine mo_geti hE hT dX12_order_96 fX12_222 (by decide) ?_
      refine ev_if_ne (tgt := 165) dX12_order_99 (by decide) (fun c_99 => ?_) (fun c_99 => absurd c_99 hB.f.ne.2)
      refine K _ (i + 1) g ?_ (by omega) hT
      rw [hcl]
      exact hB
    | inr q =>
      obtain ⟨h2, w9, m9, L, C, F⟩ := q
      rw [hcl] at h8
      obtain ⟨e, hG, hs2⟩ := h8
      rw [ht] at hs2
      refine mo_call0 (d' := d - 1) hE hT dX12_order_159 rfl rfl kX12_blanks lX12_225 iX12_blanks vX12_blanks (Nat.le_of_ble_eq_true rfl) (by omega) (c_X12_blanks hE (by omega) hG.2.1) (fun g hT => ?_)
      have hx : ps_tx T = t := hG.1.tx.trans ht
      rw [hx, hs2] at hT
      have hin := ps_skn_in (t := t) hG.2.1.2.2.2
      rw [hs2] at hin
      refine ev_goto (tgt := 95) dX12_order_162 (by decide) ?_
      refine ih (i + 1) (c + L.length) h2 _ (by omega) (hG.P hP hin.1 hin.2) (by rw [ps_tx_31]; exact hx) (by rw [← hs2]; exact ps_skn_i hG.2.1.2.2.2) (fun V cnt g hQ hc hT => ?_) g hT
      refine K V cnt g ?_ hc hT
      rw [hcl]
      exact ps_OQ.t (m := m9) (C := C) (F := F) hG hP.2.2.2.2.2.1 rfl rfl hQ
theorem or_end {G : ev_G} {W : mo_W} {d : Nat} {g0 : ev_H} {S : mo_S} {x1 x2 : Int32} {M O n v : Nat} (hE : ev_En G) (hO : S.1 29 0 = nI O) (hO2 : O < 10) (hn : n ≤ M) (hx2 : x2 = nI n) (hq : (sp_in x1 0 600 && sp_in x2 0 (nI M)) = true) : ∀ T cnt g, ps_OQ (mo_up (ps_ob S n) 31 0 (nI v)) n 0 O 0 (ps_os (ps_tx S) n 12 (ps_skn (ps_tx S) n 0)) T cnt → cnt ≤ 13 → mo_T G W g0 g T → ev_V G d 0 0 mX12_order (fun o g' => ∃ r S2, o = .inl r ∧ ((r = some (.int 0) ∧ (sp_in x1 0 600 && sp_in x2 0 (nI M)) = false ∧ S2 = mo_up S 0 0 1) ∨ ((sp_in x1 0 600 && sp_in x2 0 (nI M)) = true ∧ ∃ n, x2 = nI n ∧ n ≤ M ∧ sp_ordQ S O n x1 r S2)) ∧ mo_T G W g0 g' S2) g 165 [some (.ref W.1), some (.int x1), some (.int x2), some (.int (nI (cnt)))] [] := by
  intro T cnt g h8 hc hT
  have eb : ∀ k, k ≠ 0 → k ≠ 28 → ¬ (30 ≤ k ∧ k ≤ 35) → (mo_up (ps_ob S n) 31 0 (nI v)).1 k = S.1 k := fun k q1 q2 q3 => by rw [mo_up_ne (by omega), ps_ob_ne q1 q2 q3]
  refine ev_aload_n dX12_order_165 rfl rfl ?_
  cases hos : ps_os (ps_tx S) n 12 (ps_skn (ps_tx S) n 0) with
  | inl q =>
    obtain ⟨w9, pl⟩ := q
    rw [hos] at h8
    have hB : ps_CB (mo_up (ps_ob S n) 31 0 (nI v)) n 0 O (12 * O + 0) T w9 pl := h8
    refine mo_geti hE hT dX12_order_166 fX12_222 (by decide) ?_
    refine ev_if_le (tgt := 180) dX12_order_169 (by decide) (fun c_169 => absurd c_169 hB.f.ne.1) (fun c_169 => ?_)
    refine ev_aload_n dX12_order_172 rfl rfl ?_
    refine mo_getiE (v := nI w9) hE hT dX12_order_173 fX12_222 (by decide) hB.2.2.1 ?_
    refine ev_bipush (v := 10) dX12_order_176 (by decide) ?_
    refine ev_isub dX12_order_178 ?_
    refine ev_iret dX12_order_179 rfl rfl ⟨_, T, rfl, Or.inr ⟨hq, n, hx2, hn, Or.inr ⟨hO2, ?_, ?_⟩⟩, hT⟩
    · exact ps_ob_E hB.1 hB.2.2.2.2.2.2.1 hB.2.2.2.2.2.2.2
    · rw [hos]
      exact ⟨rfl, hB.2.2.2.2.2.1, (hB.1 29 (by decide) (by decide)).trans (eb 29 (by decide) (by decide) (by decide)), (hB.1 36 (by decide) (by decide)).trans (eb 36 (by decide) (by decide) (by decide)), (hB.1 37 (by decide) (by decide)).trans (eb 37 (by decide) (by decide) (by decide))⟩
  | inr l =>
    rw [hos] at h8
    obtain ⟨b1, b2, b3, b4, b5, b6, b7⟩ := h8
    have hl := ps_os_len hos
    have h29 : T.1 29 = S.1 29 := (b2 29 (by decide) (by decide)).trans (eb 29 (by decide) (by decide) (by decide))
    have h29a : T.1 29 0 = nI O := by rw [h29]; exact hO
    refine mo_getiE (v := 0) hE hT dX12_order_166 fX12_222 (by decide) b3 ?_
    refine ev_if_le (tgt := 180) dX12_order_169 (by decide) (fun c_169 => ?_) (fun c_169 => absurd (by decide) c_169)
    refine ev_aload_n dX12_order_180 rfl rfl ?_
    refine mo_geta hE hT dX12_order_181 fX12_84 (by decide) ?_
    refine ev_aload_n dX12_order_184 rfl rfl ?_
    refine mo_getiE (v := nI O) hE hT dX12_order_185 fX12_289 (by decide) h29a ?_
    refine ev_iload_n dX12_order_188 rfl rfl ?_
    refine mo_iast (q := O) hE hT dX12_order_189 (by decide) rfl (show _ < 10 from hO2) (fun g hT => ?_)
    refine ev_aload_n dX12_order_190 rfl rfl ?_
    refine mo_geta hE hT dX12_order_191 fX12_87 (by decide) ?_
    refine ev_aload_n dX12_order_194 rfl rfl ?_
    refine mo_getiE (v := nI O) hE hT dX12_order_195 fX12_289 (by decide) (by rw [mo_up_ne (by decide)]; exact h29a) ?_
    refine ev_iload_n dX12_order_198 rfl rfl ?_
    refine mo_iast (q := O) hE hT dX12_order_199 (by decide) rfl (show _ < 10 from hO2) (fun g hT => ?_)
    refine ev_aload_n dX12_order_200 rfl rfl ?_
    refine ev_dup dX12_order_201 rfl ?_
    refine mo_getiE (v := nI O) hE hT dX12_order_202 fX12_289 (by decide) (by rw [mo_up_ne (by decide), mo_up_ne (by decide)]; exact h29a) ?_
    refine ev_iconst (v := nI 1) dX12_order_205 (by decide) ?_
    refine ev_iadd dX12_order_206 ?_
    rw [nI_add]
    refine mo_put hE hT dX12_order_207 pX12_289 (by decide) (fun g hT => ?_)
    refine ev_aload_n dX12_order_210 rfl rfl ?_
    refine mo_getiE (v := nI (O + 1)) hE hT dX12_order_211 fX12_289 (by decide) (by rw [mo_up_at, pk_us]) ?_
    refine ev_iconst (v := 1) dX12_order_214 (by decide) ?_
    refine ev_isub dX12_order_215 ?_
    rw [nI_pred]
    have en : ∀ k, k ≠ 29 → k ≠ 36 → k ≠ 37 → (mo_up (mo_up (mo_up T 36 O x1) 37 O (nI cnt)) 29 0 (nI (O + 1))).1 k = T.1 k := fun k q1 q2 q3 => by rw [mo_up_ne q1, mo_up_ne q3, mo_up_ne q2]
    refine ev_iret dX12_order_216 rfl rfl ⟨_, _, rfl, Or.inr ⟨hq, n, hx2, hn, Or.inr ⟨hO2, ?_, ?_⟩⟩, hT⟩
    · obtain ⟨z1, z2, z3, z4, z5⟩ := ps_ob_E (O := O) b2 b5 b6
      refine ⟨fun k q1 q2 q3 q4 => by rw [en k q3 (by omega) (by omega)]; exact z1 k q1 q2 q3 q4, fun i hi => by rw [en 38 (by decide) (by decide) (by decide), en 39 (by decide) (by decide) (by decide)]; exact z2 i hi, fun i hi => by rw [en 40 (by decide) (by decide) (by decide), en 41 (by decide) (by decide) (by decide)]; exact z3 i hi, by rw [en 0 (by decide) (by decide) (by decide)]; exact z4, by rw [en 28 (by decide) (by decide) (by decide)]; exact z5⟩
    · rw [hos]
      have e36 : T.1 36 = S.1 36 := (b2 36 (by decide) (by decide)).trans (eb 36 (by decide) (by decide) (by decide))
      have e37 : T.1 37 = S.1 37 := (b2 37 (by decide) (by decide)).trans (eb 37 (by decide) (by decide) (by decide))
      refine ⟨rfl, ?_, ?_, ?_, ?_, ?_⟩
      · rw [en 33 (by decide) (by decide) (by decide), b4, mo_up_ne (by decide), ps_ob_33]
      · rw [mo_up_at, mo_up_ne (by decide), mo_up_ne (by decide), h29]
      · rw [mo_up_ne (by decide), mo_up_ne (by decide), mo_up_at, e36]
      · rw [mo_up_ne (by decide), mo_up_at, mo_up_ne (by decide), e37, b1, Nat.zero_add]
      · exact ps_LW.cong (fun k q1 q2 => en k (by omega) (by omega) (by omega)) b7
theorem or_go {G : ev_G} {W : mo_W} {d : Nat} {g0 : ev_H} {S : mo_S} {x1 x2 : Int32} {M O n : Nat} (hE : ev_En G) (h3 : ev_En3 G) (hd : 52 ≤ d) (hM : M ≤ 300) (hO : S.1 29 0 = nI O) (hO2 : O ≤ 10) (hn : n ≤ M) (hx2 : x2 = nI n) (hq : (sp_in x1 0 600 && sp_in x2 0 (nI M)) = true) : ∀ g, mo_T G W g0 g (mo_up S 0 0 0) → ev_V G d 0 0 mX12_order (fun o g' => ∃ r S2, o = .inl r ∧ ((r = some (.int 0) ∧ (sp_in x1 0 600 && sp_in x2 0 (nI M)) = false ∧ S2 = mo_up S 0 0 1) ∨ ((sp_in x1 0 600 && sp_in x2 0 (nI M)) = true ∧ ∃ n, x2 = nI n ∧ n ≤ M ∧ sp_ordQ S O n x1 r S2)) ∧ mo_T G W g0 g' S2) g 43 [some (.ref W.1), some (.int x1), some (.int x2), none] [] := by
  intro g hT
  refine ev_aload_n dX12_order_43 rfl rfl ?_
  refine ev_iload_n dX12_order_44 rfl rfl ?_
  refine mo_put hE hT dX12_order_45 pX12_212 (by decide) (fun g hT => ?_)
  refine ev_aload_n dX12_order_48 rfl rfl ?_
  refine ev_iconst (v := 0) dX12_order_49 (by decide) ?_
  refine mo_put hE hT dX12_order_50 pX12_209 (by decide) (fun g hT => ?_)
  refine ev_aload_n dX12_order_53 rfl rfl ?_
  refine mo_getiE (v := nI O) hE hT dX12_order_54 fX12_289 (by decide) (by rw [mo_up_ne (by decide), mo_up_ne (by decide), mo_up_ne (by decide)]; exact hO) ?_
  refine ev_bipush (v := nI 10) dX12_order_57 (by decide) ?_
  refine ev_icmp_ne (tgt := 64) dX12_order_59 (by decide) (fun c_59 => ?_) (fun c_59 => ?_)
  rotate_left
  · have hO10 : O = 10 := by
      have q := congrArg Int32.toNatClampNeg c_59
      rw [nI_clamp (by omega), nI_clamp (by decide)] at q
      exact q
    refine ev_iconst (v := -1) dX12_order_62 (by decide) ?_
    exact ev_iret dX12_order_63 rfl rfl ⟨_, _, rfl, Or.inr ⟨hq, n, hx2, hn, Or.inl ⟨hO10, rfl, by rw [hx2]⟩⟩, hT⟩
  have hO9 : O ≤ 9 := by
    rcases Nat.lt_or_ge O 10 with q | q
    · omega
    · exact absurd (by rw [show O = 10 by omega]) c_59
  refine ev_aload_n dX12_order_64 rfl rfl ?_
  refine ev_iconst (v := 0) dX12_order_65 (by decide) ?_
  refine mo_put hE hT dX12_order_66 pX12_215 (by decide) (fun g hT => ?_)
  refine ev_aload_n dX12_order_69 rfl rfl ?_
  refine ev_iconst (v := 0) dX12_order_70 (by decide) ?_
  refine mo_put hE hT dX12_order_71 pX12_222 (by decide) (fun g hT => ?_)
  refine ev_aload_n dX12_order_74 rfl rfl ?_
  refine ev_iconst (v := -1) dX12_order_75 (by decide) ?_
  refine mo_put hE hT dX12_order_76 pX12_80 (by decide) (fun g hT => ?_)
  refine ev_aload_n dX12_order_79 rfl rfl ?_
  refine ev_iconst (v := 0) dX12_order_80 (by decide) ?_
  refine mo_put hE hT dX12_order_81 pX12_295 (by decide) (fun g hT => ?_)
  refine ev_aload_n dX12_order_84 rfl rfl ?_
  refine ev_iconst (v := 0) dX12_order_85 (by decide) ?_
  refine mo_put hE hT dX12_order_86 pX12_292 (by decide) (fun g hT => ?_)
  rw [hx2] at hT
  have hT : mo_T G W g0 g (ps_ob S n) := hT
  have hP := ps_ob_P (S := S) (n := n) (by omega) hO hO9
  refine ev_iconst (v := nI 0) dX12_order_89 (by decide) ?_
  refine ev_istore_n dX12_order_90 rfl (Nat.le_of_ble_eq_true rfl) rfl ?_
  refine ev_aload_n dX12_order_91 rfl rfl ?_
  refine mo_call0 (d' := d - 1) hE hT dX12_order_92 rfl rfl kX12_blanks lX12_225 iX12_blanks vX12_blanks (Nat.le_of_ble_eq_true rfl) (by omega) (c_X12_blanks hE (by omega) hP.1) (fun g hT => ?_)
  rw [ps_ob_tx] at hT
  have hin := ps_skn_in (t := (ps_tx S)) (Nat.zero_le n)
  have hP2 : ps_P (mo_up (ps_ob S n) 31 0 (nI (ps_skn (ps_tx S) n 0))) n (ps_skn (ps_tx S) n 0) 0 0 O := ⟨hP.1.up hin.2, by rw [mo_up_ne (by decide)]; exact hP.2.1, by rw [mo_up_ne (by decide)]; exact hP.2.2.1, by decide, by rw [mo_up_ne (by decide)]; exact hP.2.2.2.2.1, by omega, by rw [mo_up_ne (by decide)]; exact hP.2.2.2.2.2.2.1, hO9⟩
  exact or_loop hE h3 (by omega) 12 0 0 _ _ rfl hP2 (by rw [ps_tx_31, ps_ob_tx]) (ps_skn_i (Nat.zero_le n)) (or_end hE hO (by omega) hn hx2 hq) g hT
theorem c_X12_order {G : ev_G} {W : mo_W} {d : Nat} {S : mo_S} {x1 x2 : Int32} {M O : Nat} (hE : ev_En G) (h3 : ev_En3 G) (hd : 52 ≤ d) (h28 : S.1 28 0 = nI M) (hM : M ≤ 300) (hO : S.1 29 0 = nI O) (hO2 : O ≤ 10) : mo_Cr G W d mX12_order [.int x1, .int x2] S (fun r S2 => (r = some (.int 0) ∧ (sp_in x1 0 600 && sp_in x2 0 (nI M)) = false ∧ S2 = mo_up S 0 0 1) ∨ ((sp_in x1 0 600 && sp_in x2 0 (nI M)) = true ∧ ∃ n, x2 = nI n ∧ n ≤ M ∧ sp_ordQ S O n x1 r S2)) := by
  refine mo_startr (lv0 := [some (.ref W.1), some (.int x1), some (.int x2), none]) (by decide +kernel) rfl (Nat.le_of_ble_eq_true rfl) rfl ?_
  intro g0 g hT
  have K : ∀ (b : Bool), b = (sp_in x1 0 600 && sp_in x2 0 (nI M)) → ∀ g, mo_T G W g0 g (mo_up S 0 0 0) → ev_V G d 0 0 mX12_order (fun o g' => ∃ r S2, o = .inl r ∧ ((r = some (.int 0) ∧ (sp_in x1 0 600 && sp_in x2 0 (nI M)) = false ∧ S2 = mo_up S 0 0 1) ∨ ((sp_in x1 0 600 && sp_in x2 0 (nI M)) = true ∧ ∃ n, x2 = nI n ∧ n ≤ M ∧ sp_ordQ S O n x1 r S2)) ∧ mo_T G W g0 g' S2) g 34 [some (.ref W.1), some (.int x1), some (.int x2), none] [.int (mo_b (!b)), .ref W.1] := by
    intro b hb g hT
    refine ev_iconst (v := 1) dX12_order_34 (by decide) ?_
    refine mo_call2 (d' := d - 1) hE hT dX12_order_35 rfl rfl kX12_bad lX12_181 iX12_bad vX12_bad (Nat.le_of_ble_eq_true rfl) (by omega) (c_X12_bad hE) (fun g hT => ?_)
    cases b with
    | false =>
      refine ev_if_eq (tgt := 43) dX12_order_38 (by decide) (fun c_38 => absurd c_38 (by decide)) (fun c_38 => ?_)
      refine ev_iconst (v := 0) dX12_order_41 (by decide) ?_
      rw [show sp_bad (!false) 1 (mo_up S 0 0 0) = mo_up S 0 0 1 from mo_up_tw] at hT
      exact ev_iret dX12_order_42 rfl rfl ⟨_, _, rfl, Or.inl ⟨rfl, hb.symm, rfl⟩, hT⟩
    | true =>
      refine ev_if_eq (tgt := 43) dX12_order_38 (by decide) (fun c_38 => ?_) (fun c_38 => absurd rfl c_38)
      have hi := Bool.and_eq_true_iff.mp hb.symm
      obtain ⟨n, hn, hx⟩ : ∃ n, n ≤ M ∧ x2 = nI n := mo_vinB hM hi.2
      exact or_go hE h3 hd hM hO hO2 hn hx hb.symm g hT
  refine ev_aload_n dX12_order_0 rfl rfl ?_
  refine ev_iconst (v := 0) dX12_order_1 (by decide) ?_
  refine mo_put hE hT dX12_order_2 pX12_173 (by decide) (fun g hT => ?_)
  refine ev_aload_n dX12_order_5 rfl rfl ?_
  refine ev_iload_n dX12_order_6 rfl rfl ?_
  refine ev_iconst (v := 0) dX12_order_7 (by decide) ?_
  refine ev_sipush (v := 600) dX12_order_8 (by decide) ?_
  refine ev_pS3 (d' := d - 1) dX12_order_11 rfl kX12_in lX12_176 sX12_in (Nat.le_of_ble_eq_true rfl) (by omega) (c_X12_in) ?_
  obtain h1 | h1 := (Bool.eq_false_or_eq_true (sp_in x1 0 600)).symm
  · refine ev_if_eq (tgt := 29) dX12_order_14 (by decide) (fun c_14 => ?_) (fun c_14 => absurd (by rw [h1]; rfl) c_14)
    refine ev_iconst (v := 1) dX12_order_29 (by decide) ?_
    refine ev_goto (tgt := 34) dX12_order_30 (by decide) ?_
    exact K false (by rw [h1]; rfl) g hT
  · refine ev_if_eq (tgt := 29) dX12_order_14 (by decide) (fun c_14 => absurd c_14 (by rw [h1]; decide)) (fun c_14 => ?_)
    refine ev_iload_n dX12_order_17 rfl rfl ?_
    refine ev_if_lt (tgt := 29) dX12_order_18 (by decide) (fun c_18 => ?_) (fun c_18 => ?_)
    · refine ev_iconst (v := 1) dX12_order_29 (by decide) ?_
      refine ev_goto (tgt := 34) dX12_order_30 (by decide) ?_
      exact K false (by rw [h1, Bool.true_and]; exact (decide_eq_false (fun q => Int32.not_le.mpr c_18 q.1)).symm) g hT
    · refine ev_iload_n dX12_order_21 rfl rfl ?_
      refine ev_aload_n dX12_order_22 rfl rfl ?_
      refine mo_getiE (v := nI M) hE hT dX12_order_23 fX12_209 (by decide) (by rw [mo_up_ne (by decide)]; exact h28) ?_
      refine ev_icmp_le (tgt := 33) dX12_order_26 (by decide) (fun c_26 => ?_) (fun c_26 => ?_)
      · refine ev_iconst (v := 0) dX12_order_33 (by decide) ?_
        exact K true (by rw [h1, Bool.true_and]; exact (decide_eq_true ⟨Int32.not_lt.mp c_18, c_26⟩).symm) g hT
      · refine ev_iconst (v := 1) dX12_order_29 (by decide) ?_
        refine ev_goto (tgt := 34) dX12_order_30 (by decide) ?_
        exact K false (by rw [h1, Bool.true_and]; exact (decide_eq_false (fun q => c_26 q.2)).symm) g hT
end M28
