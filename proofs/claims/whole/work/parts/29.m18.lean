section M18
/-! THE TEXT OF AN ORDER: t: its signs, n: how many -/
def ps_tx (S : mo_S) (k : Nat) : Nat := ((S.1 27 k) &&& 255).toNatClampNeg
theorem ps_tx_is (S : mo_S) (k : Nat) : (S.1 27 k) &&& 255 = nI (ps_tx S k) ∧ ps_tx S k < 256 := by
  obtain ⟨j, h1, h2⟩ := pk_andE (S.1 27 k) (m := 255) 8 (by decide)
  unfold ps_tx
  rw [h2, nI_clamp (by omega)]
  exact ⟨rfl, h1⟩
def ps_bt (t : Nat → Nat) (n k : Nat) : Nat := if k < n then t k else 0
/-- behind the blanks -/
def ps_sk (t : Nat → Nat) : Nat → Nat → Nat
  | 0, h => h
  | m + 1, h => if t h = 32 then ps_sk t m (h + 1) else h
def ps_skn (t : Nat → Nat) (n h : Nat) : Nat := ps_sk t (n - h) h
theorem ps_sk_ge (t : Nat → Nat) : ∀ m h, h ≤ ps_sk t m h ∧ ps_sk t m h ≤ h + m
  | 0, h => ⟨Nat.le_refl _, Nat.le_refl _⟩
  | m + 1, h => by
    have := ps_sk_ge t m (h + 1)
    simp only [ps_sk]
    split <;> omega
theorem ps_skn_in {t : Nat → Nat} {n h : Nat} (hh : h ≤ n) : h ≤ ps_skn t n h ∧ ps_skn t n h ≤ n := by
  have := ps_sk_ge t (n - h) h
  unfold ps_skn
  omega
theorem ps_skn_s {t : Nat → Nat} {n h : Nat} (hh : h < n) (ht : t h = 32) : ps_skn t n h = ps_skn t n (h + 1) := by
  unfold ps_skn
  rw [show n - h = (n - (h + 1)) + 1 by omega, ps_sk, if_pos ht]
theorem ps_skn_e {t : Nat → Nat} {n h : Nat} (hh : ¬ (h < n ∧ t h = 32)) (hn : h ≤ n) : ps_skn t n h = h := by
  unfold ps_skn
  by_cases e : h < n
  · rw [show n - h = (n - (h + 1)) + 1 by omega, ps_sk, if_neg (fun q => hh ⟨e, q⟩)]
  · rw [show n - h = 0 by omega]; rfl
theorem ps_sk_no (t : Nat → Nat) : ∀ m h, ps_sk t m h < h + m → t (ps_sk t m h) ≠ 32
  | 0, h, q => absurd q (by simp [ps_sk])
  | m + 1, h, q => by
    simp only [ps_sk] at q ⊢
    by_cases e : t h = 32
    · rw [if_pos e] at q ⊢
      exact ps_sk_no t m (h + 1) (by omega)
    · rw [if_neg e]; exact e
theorem ps_skn_i {t : Nat → Nat} {n h : Nat} (hh : h ≤ n) : ps_skn t n (ps_skn t n h) = ps_skn t n h := by
  refine ps_skn_e (fun q => ?_) (ps_skn_in hh).2
  have h1 := ps_sk_no t (n - h) h
  unfold ps_skn at q
  exact h1 (by omega) q.2
def ps_let (c : Nat) : Bool := decide (97 ≤ c ∧ c ≤ 122)
def ps_dig (c : Nat) : Bool := decide (48 ≤ c ∧ c ≤ 57)
/-- these signs stand at p, and no letter behind -/
def ps_wd (t : Nat → Nat) (n p : Nat) (L : List Nat) : Bool := decide (∀ k, k < L.length → ps_bt t n (p + k) = L.getD k 0) && !ps_let (ps_bt t n (p + L.length))
theorem mo_up_self {S : mo_S} {k i : Nat} {v : Int32} (h : S.1 k i = v) : mo_up S k i v = S := by
  unfold mo_up
  refine Prod.ext ?_ rfl
  funext a b
  dsimp only
  by_cases e : a = k ∧ b = i
  · rw [if_pos e, e.1, e.2, h]
  · rw [if_neg e]
/-- the state while a text is read: its length, where the reader is -/
def ps_at (S : mo_S) (n h : Nat) : Prop := S.1 30 0 = nI n ∧ n ≤ 300 ∧ S.1 31 0 = nI h ∧ h ≤ n
theorem ps_at.up {S : mo_S} {n h j : Nat} (H : ps_at S n h) (hj : j ≤ n) : ps_at (mo_up S 31 0 (nI j)) n j := ⟨by rw [mo_up_ne (by decide)]; exact H.1, H.2.1, by rw [mo_up_at, pk_us], hj⟩
theorem ps_tx_up {S : mo_S} {k i : Nat} {v : Int32} (h : k ≠ 27) : ps_tx (mo_up S k i v) = ps_tx S := by
  funext a
  unfold ps_tx
  rw [mo_up_ne (Ne.symm h)]

theorem c_X12_byteAt {G : ev_G} {W : mo_W} {d : Nat} {S : mo_S} {N h k : Nat} (hE : ev_En G) (hk : k < 2147483648) (H : ps_at S N h) : mo_C G W d mX12_byteAt [.int (nI k)] S (some (.int (nI (ps_bt (ps_tx S) N k)))) S := by
  refine mo_start (lv0 := [some (.ref W.1), some (.int (nI k))]) (by decide +kernel) rfl (Nat.le_of_ble_eq_true rfl) rfl ?_
  intro g0 g hT
  refine ev_iload_n dX12_byteAt_0 rfl rfl ?_
  refine ev_aload_n dX12_byteAt_1 rfl rfl ?_
  refine mo_geti hE hT dX12_byteAt_2 fX12_212 (by decide) ?_
  have K_22 : ∀ (g : ev_H) (hT : mo_T G W g0 g S), ∀ x9 : Int32, x9 = (if (S.1 30 0) ≤ (nI k) then 0 else ((S.1 27 k) &&& 255)) → ev_V G d 0 0 mX12_byteAt (fun o g' => o = .inl (some (.int (nI (ps_bt (ps_tx S) N k)))) ∧ mo_T G W g0 g' S) g 22 [some (.ref W.1), some (.int (nI k))] (.int x9 :: []) := by
    intro g hT x9 h9
    subst h9
    refine ev_iret dX12_byteAt_22 rfl rfl ⟨?_, hT⟩
    unfold ps_bt
    have hn3 := H.2.1
    by_cases e : k < N
    · rw [if_neg (by rw [H.1]; exact fun q => absurd ((nI_leI (by omega) (by omega)).mp q) (by omega)), if_pos e, (ps_tx_is S k).1]
    · rw [if_pos (by rw [H.1]; exact nI_le (by omega) (by omega)), if_neg e]; rfl
  refine ev_icmp_ge (tgt := 21) dX12_byteAt_5 (by decide) (fun c_5 => ?_) (fun c_5 => ?_)
  · refine ev_iconst (v := 0) dX12_byteAt_21 (by decide) ?_
    exact K_22 g hT _ (by rw [if_pos c_5])
  · have hlt : k < N := mo_ilt H.1 (by have := H.2.1; omega) (by omega) c_5
    have hn3 := H.2.1
    refine ev_aload_n dX12_byteAt_8 rfl rfl ?_
    refine mo_geta hE hT dX12_byteAt_9 fX12_76 (by decide) ?_
    refine ev_iload_n dX12_byteAt_12 rfl rfl ?_
    refine mo_bald (q := k) hE hT dX12_byteAt_13 rfl (show _ < 300 from (by omega)) ?_
    refine ev_sipush (v := 255) dX12_byteAt_14 (by decide) ?_
    refine ev_iand dX12_byteAt_17 ?_
    refine ev_goto (tgt := 22) dX12_byteAt_18 (by decide) ?_
    exact K_22 g hT _ (by rw [if_neg c_5])
def sp_X12_isDigit (x1 : Int32) : Bool :=
  (if x1 < 48 then false else (if 57 < x1 then false else true))
theorem c_X12_isDigit {G : ev_G} {d : Nat} {g : ev_H} {x1 : Int32} : ev_Cp G d mX12_isDigit [.int x1] g (some (.int (mo_b (sp_X12_isDigit x1)))) := by
  refine ev_start (lv0 := [some (.int x1)]) (by decide +kernel) rfl (Nat.le_of_ble_eq_true rfl) rfl ?_
  refine ev_iload_n dX12_isDigit_0 rfl rfl ?_
  refine ev_bipush (v := 48) dX12_isDigit_1 (by decide) ?_
  have K_17 : ∀ x9 : Int32, x9 = (mo_b (if x1 < 48 then false else (if 57 < x1 then false else true))) → ev_V G d 0 0 mX12_isDigit (fun o g' => o = .inl (some (.int (mo_b (sp_X12_isDigit x1)))) ∧ g' = g) g 17 [some (.int x1)] (.int x9 :: []) := by
    intro x9 h9
    subst h9
    have e9 : sp_X12_isDigit x1 = (if x1 < 48 then false else (if 57 < x1 then false else true)) := by unfold sp_X12_isDigit; rfl
    exact ev_iret dX12_isDigit_17 rfl (by first | exact mo_b_nar _ | rfl) ⟨by rw [e9], rfl⟩
  refine ev_icmp_lt (tgt := 16) dX12_isDigit_3 (by decide) (fun c_3 => ?_) (fun c_3 => ?_)
  · refine ev_iconst (v := 0) dX12_isDigit_16 (by decide) ?_
    exact K_17 _ (by rw [if_pos c_3]; rfl)
  · refine ev_iload_n dX12_isDigit_6 rfl rfl ?_
    refine ev_bipush (v := 57) dX12_isDigit_7 (by decide) ?_
    refine ev_icmp_gt (tgt := 16) dX12_isDigit_9 (by decide) (fun c_9 => ?_) (fun c_9 => ?_)
    · refine ev_iconst (v := 0) dX12_isDigit_16 (by decide) ?_
      exact K_17 _ (by rw [if_neg c_3, if_pos c_9]; rfl)
    · refine ev_iconst (v := 1) dX12_isDigit_12 (by decide) ?_
      refine ev_goto (tgt := 17) dX12_isDigit_13 (by decide) ?_
      exact K_17 _ (by rw [if_neg c_3, if_neg c_9]; rfl)
theorem ps_dig_is {c : Nat} (h : c < 2147483648) : sp_X12_isDigit (nI c) = ps_dig c := by
  have e1 : nI c < 48 ↔ c < 48 := nI_ltI (a := c) (b := 48) h (by decide)
  have e2 : (57 : Int32) < nI c ↔ 57 < c := nI_ltI (a := 57) (b := c) (by decide) h
  unfold sp_X12_isDigit ps_dig
  by_cases a : c < 48
  · rw [if_pos (e1.mpr a)]; simp; omega
  · rw [if_neg (fun q => a (e1.mp q))]
    by_cases b : 57 < c
    · rw [if_pos (e2.mpr b)]; simp; omega
    · rw [if_neg (fun q => b (e2.mp q))]; simp; omega
def sp_X12_wrong (S : mo_S) (x1 x2 : Int32) : mo_S :=
  (if (S.1 32 0) ≤ 0 then (mo_up (mo_up S 32 0 x1) 33 0 x2) else S)
theorem c_X12_wrong {G : ev_G} {W : mo_W} {d : Nat} {S : mo_S} {x1 x2 : Int32} (hE : ev_En G) : mo_C G W d mX12_wrong [.int x1, .int x2] S none (sp_X12_wrong S x1 x2) := by
  refine mo_start (lv0 := [some (.ref W.1), some (.int x1), some (.int x2)]) (by decide +kernel) rfl (Nat.le_of_ble_eq_true rfl) rfl ?_
  intro g0 g hT
  refine ev_aload_n dX12_wrong_0 rfl rfl ?_
  refine mo_geti hE hT dX12_wrong_1 fX12_222 (by decide) ?_
  refine ev_if_le (tgt := 8) dX12_wrong_4 (by decide) (fun c_4 => ?_) (fun c_4 => ?_)
  · refine ev_aload_n dX12_wrong_8 rfl rfl ?_
    refine ev_iload_n dX12_wrong_9 rfl rfl ?_
    refine mo_put hE hT dX12_wrong_10 pX12_222 (by decide) (fun g hT => ?_)
    refine ev_aload_n dX12_wrong_13 rfl rfl ?_
    refine ev_iload_n dX12_wrong_14 rfl rfl ?_
    refine mo_put hE hT dX12_wrong_15 pX12_80 (by decide) (fun g hT => ?_)
    have e9 : sp_X12_wrong S x1 x2 = (mo_up (mo_up S 32 0 x1) 33 0 x2) := by unfold sp_X12_wrong; rw [if_pos c_4]
    exact ev_vret dX12_wrong_18 rfl ⟨rfl, by rw [e9]; exact hT⟩
  · have e9 : sp_X12_wrong S x1 x2 = S := by unfold sp_X12_wrong; rw [if_neg c_4]
    exact ev_vret dX12_wrong_7 rfl ⟨rfl, by rw [e9]; exact hT⟩
theorem bl_loop {G : ev_G} {W : mo_W} {d : Nat} {g0 : ev_H} {S : mo_S} {N h : Nat} (hE : ev_En G) (hd : 1 ≤ d) (H : ps_at S N h)  : ∀ (n i : Nat), i ≤ N → N < i + n → ∀ (u : Unit), ps_skn (ps_tx S) N i = ps_skn (ps_tx S) N h → ∀ g, mo_T G W g0 g (mo_up S 31 0 (nI i)) → ev_V G d 0 0 mX12_blanks (fun o g' => o = .inl none ∧ mo_T G W g0 g' (mo_up S 31 0 (nI (ps_skn (ps_tx S) N h)))) g 0 [some (.ref W.1)] [] := by
  intro n
  induction n with
  | zero => intro i h1 h2; exact absurd h2 (by omega)
  | succ n ih =>
    intro i h1 h2 u hI g hT
    have hn3 := H.2.1
    refine ev_aload_n dX12_blanks_0 rfl rfl ?_
    refine mo_getiE (v := (nI i)) hE hT dX12_blanks_1 fX12_215 (by decide) (by simp [sp_bad_ne, mo_up]) ?_
    refine ev_aload_n dX12_blanks_4 rfl rfl ?_
    refine mo_getiE (v := (S.1 30 0)) hE hT dX12_blanks_5 fX12_212 (by decide) (by simp [sp_bad_ne, mo_up]) ?_
    refine ev_icmp_ge (tgt := 37) dX12_blanks_8 (by decide) (fun c_8 => ?_) (fun c_8 => ?_)
    · have e : i = ps_skn (ps_tx S) N h := by
        rw [← hI]
        refine (ps_skn_e (fun q => ?_) h1).symm
        first
          | exact absurd (mo_ige H.1 (by omega) (by omega) c_8) (by omega)
          | (refine c_21 ?_
             unfold ps_bt
             rw [if_pos q.1, q.2]
             rfl)
      subst e
      exact ev_vret dX12_blanks_37 rfl ⟨rfl, hT⟩
    · refine ev_aload_n dX12_blanks_11 rfl rfl ?_
      refine ev_aload_n dX12_blanks_12 rfl rfl ?_
      refine mo_getiE (v := (nI i)) hE hT dX12_blanks_13 fX12_215 (by decide) (by simp [sp_bad_ne, mo_up]) ?_
      refine mo_call1 (d' := d - 1) hE hT dX12_blanks_16 rfl rfl kX12_byteAt lX12_218 iX12_byteAt vX12_byteAt (Nat.le_of_ble_eq_true rfl) (by omega) (c_X12_byteAt hE (by omega) (H.up h1)) (fun g hT => ?_)
      rw [ps_tx_up (by decide)]
      refine ev_bipush (v := 32) dX12_blanks_19 (by decide) ?_
      refine ev_icmp_ne (tgt := 37) dX12_blanks_21 (by decide) (fun c_21 => ?_) (fun c_21 => ?_)
      · have e : i = ps_skn (ps_tx S) N h := by
          rw [← hI]
          refine (ps_skn_e (fun q => ?_) h1).symm
          first
            | exact absurd (mo_ige H.1 (by omega) (by omega) c_8) (by omega)
            | (refine c_21 ?_
               unfold ps_bt
               rw [if_pos q.1, q.2]
               rfl)
        subst e
        exact ev_vret dX12_blanks_37 rfl ⟨rfl, hT⟩
      · refine ev_aload_n dX12_blanks_24 rfl rfl ?_
        refine ev_dup dX12_blanks_25 rfl ?_
        refine mo_getiE (v := (nI i)) hE hT dX12_blanks_26 fX12_215 (by decide) (by simp [sp_bad_ne, mo_up]) ?_
        refine ev_iconst (v := 1) dX12_blanks_29 (by decide) ?_
        refine ev_iadd dX12_blanks_30 ?_
        refine mo_put hE hT dX12_blanks_31 pX12_215 (by decide) (fun g hT => ?_)
        refine ev_goto (tgt := 0) dX12_blanks_34 (by decide) ?_
        have hlt : i < N := mo_ilt H.1 (by omega) (by omega) c_8
        have hc : (ps_tx S) i = 32 := by
          have q := (nI_eq (by unfold ps_bt; rw [if_pos hlt]; have := (ps_tx_is S i).2; omega) (by decide)).mp (show nI (ps_bt (ps_tx S) N i) = nI 32 from c_21)
          unfold ps_bt at q
          rw [if_pos hlt] at q
          exact q
        refine ih (i + 1) (by omega) (by omega) () ((ps_skn_s hlt hc).symm.trans hI) g ?_
        rw [show mo_up S 31 0 (nI (i + 1)) = (mo_up (mo_up S 31 0 (nI i)) 31 0 ((nI i) + 1)) from by rw [mo_up_tw, nI_1]]
        exact hT
theorem c_X12_blanks {G : ev_G} {W : mo_W} {d : Nat} {S : mo_S} {N h : Nat} (hE : ev_En G) (hd : 1 ≤ d) (H : ps_at S N h) : mo_C G W d mX12_blanks [] S none (mo_up S 31 0 (nI (ps_skn (ps_tx S) N h))) := by
  refine mo_start (lv0 := [some (.ref W.1)]) (by decide +kernel) rfl (Nat.le_of_ble_eq_true rfl) rfl ?_
  intro g0 g hT
  rw [← mo_up_self H.2.2.1] at hT
  exact bl_loop hE hd H (N + 1) h H.2.2.2 (by omega) () rfl g hT
end M18
