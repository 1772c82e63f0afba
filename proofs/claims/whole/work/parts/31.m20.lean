section M20
/-- figures from h on: where they end, what they tell -/
def ps_figs (t : Nat → Nat) : Nat → Nat → Nat → Nat × Nat
  | 0, h, v => (h, v)
  | m + 1, h, v => if ps_dig (t h) = true then ps_figs t m (h + 1) (if 100000 < v then v else 10 * v + t h - 48) else (h, v)
def ps_fig (t : Nat → Nat) (n p : Nat) : Nat × Nat := ps_figs t (n - p) p 0
theorem ps_figs_in (t : Nat → Nat) : ∀ m h v, v ≤ 1000009 → h ≤ (ps_figs t m h v).1 ∧ (ps_figs t m h v).1 ≤ h + m ∧ (ps_figs t m h v).2 ≤ 1000009
  | 0, h, v, hv => ⟨Nat.le_refl _, Nat.le_refl _, hv⟩
  | m + 1, h, v, hv => by
    simp only [ps_figs]
    by_cases e : ps_dig (t h) = true
    · rw [if_pos e]
      have e2 : 48 ≤ t h ∧ t h ≤ 57 := of_decide_eq_true e
      have := ps_figs_in t m (h + 1) (if 100000 < v then v else 10 * v + t h - 48) (by split <;> omega)
      omega
    · rw [if_neg e]
      exact ⟨Nat.le_refl _, by omega, hv⟩
/-- the first of the first m words that stands at p -/
def ps_fnd (t : Nat → Nat) (n p : Nat) (nm : Nat → List Nat) : Nat → Option Nat
  | 0 => none
  | m + 1 => match ps_fnd t n p nm m with
    | some k => some k
    | none => if ps_wd t n p (nm m) = true then some m else none
theorem ps_fnd_lt {t : Nat → Nat} {n p : Nat} {nm : Nat → List Nat} : ∀ {m k}, ps_fnd t n p nm m = some k → k < m ∧ ps_wd t n p (nm k) = true
  | 0, k, h => by cases h
  | m + 1, k, h => by
    unfold ps_fnd at h
    cases hq : ps_fnd t n p nm m with
    | some j =>
      rw [hq] at h
      cases h
      have := ps_fnd_lt hq
      exact ⟨by omega, this.2⟩
    | none =>
      rw [hq] at h
      dsimp only at h
      by_cases e : ps_wd t n p (nm m) = true
      · rw [if_pos e] at h; cases h; exact ⟨by omega, e⟩
      · rw [if_neg e] at h; cases h
theorem ps_fnd_s {t : Nat → Nat} {n p : Nat} {nm : Nat → List Nat} {m k : Nat} (h : ps_fnd t n p nm m = some k) : ∀ j, ps_fnd t n p nm (m + j) = some k
  | 0 => h
  | j + 1 => by
    rw [show m + (j + 1) = (m + j) + 1 from rfl, ps_fnd, ps_fnd_s h j]
theorem ps_fnd_1 {t : Nat → Nat} {n p : Nat} {nm : Nat → List Nat} {m : Nat} (h : ps_fnd t n p nm m = none) (h2 : ps_wd t n p (nm m) = true) : ps_fnd t n p nm (m + 1) = some m := by rw [ps_fnd, h]; exact if_pos h2
theorem ps_fnd_0 {t : Nat → Nat} {n p : Nat} {nm : Nat → List Nat} {m : Nat} (h : ps_fnd t n p nm m = none) (h2 : ps_wd t n p (nm m) = false) : ps_fnd t n p nm (m + 1) = none := by rw [ps_fnd, h]; exact if_neg (by rw [h2]; decide)
/-- fault why, told at place -/
def ps_wr (S : mo_S) (h why place : Nat) : mo_S := mo_up (mo_up (mo_up S 31 0 (nI h)) 32 0 (nI why)) 33 0 (nI place)
theorem ps_wr_is {S : mo_S} {h why place : Nat} (hf : S.1 32 0 = 0) : sp_X12_wrong (mo_up S 31 0 (nI h)) (nI why) (nI place) = ps_wr S h why place := by
  unfold sp_X12_wrong ps_wr
  rw [mo_up_ne (show (32 : Nat) ≠ 31 by decide), hf]
  rfl

theorem c_X12_sign {G : ev_G} {W : mo_W} {d : Nat} {S : mo_S} {N h c : Nat} (hE : ev_En G) (hd : 3 ≤ d) (H : ps_at S N h) (hf : S.1 32 0 = 0) (hc : c < 256) : mo_C G W d mX12_sign [.int (nI c)] S none (if (ps_skn (ps_tx S) N h) < N ∧ (ps_tx S) (ps_skn (ps_tx S) N h) = c then mo_up S 31 0 (nI ((ps_skn (ps_tx S) N h) + 1)) else ps_wr S (ps_skn (ps_tx S) N h) 1 (ps_skn (ps_tx S) N h)) := by
  refine mo_start (lv0 := [some (.ref W.1), some (.int (nI c))]) (by decide +kernel) rfl (Nat.le_of_ble_eq_true rfl) rfl ?_
  intro g0 g hT
  refine ev_aload_n dX12_sign_0 rfl rfl ?_
  refine mo_getiE (v := 0) hE hT dX12_sign_1 fX12_222 (by decide) (by first | exact hf | (rw [mo_up_ne (by decide)]; exact hf)) ?_
  refine ev_if_le (tgt := 8) dX12_sign_4 (by decide) (fun c_4 => ?_) (fun c_4 => ?_)
  · refine ev_aload_n dX12_sign_8 rfl rfl ?_
    refine mo_call0 (d' := d - 1) hE hT dX12_sign_9 rfl rfl kX12_blanks lX12_225 iX12_blanks vX12_blanks (Nat.le_of_ble_eq_true rfl) (by omega) (c_X12_blanks hE (by omega) H) (fun g hT => ?_)
    have hp := ps_skn_in (t := ps_tx S) H.2.2.2
    have HP := H.up hp.2
    have hn3 := H.2.1
    refine ev_aload_n dX12_sign_12 rfl rfl ?_
    refine mo_getiE (v := (nI (ps_skn (ps_tx S) N h))) hE hT dX12_sign_13 fX12_215 (by decide) (by simp [sp_bad_ne, mo_up]) ?_
    refine ev_aload_n dX12_sign_16 rfl rfl ?_
    refine mo_getiE (v := (S.1 30 0)) hE hT dX12_sign_17 fX12_212 (by decide) (by simp [sp_bad_ne, mo_up]) ?_
    refine ev_icmp_ge (tgt := 48) dX12_sign_20 (by decide) (fun c_20 => ?_) (fun c_20 => ?_)
    · have hcc : (ps_skn (ps_tx S) N h) < N → ¬ (ps_tx S) (ps_skn (ps_tx S) N h) = c := by
        intro hl0 q0
        first
          | exact absurd (mo_ige HP.1 (by omega) (by omega) c_20) (by omega)
          | (refine c_32 ?_
             unfold ps_bt
             rw [if_pos hl0, q0])
      refine ev_aload_n dX12_sign_48 rfl rfl ?_
      refine ev_iconst (v := 1) dX12_sign_49 (by decide) ?_
      refine ev_aload_n dX12_sign_50 rfl rfl ?_
      refine mo_getiE (v := (nI (ps_skn (ps_tx S) N h))) hE hT dX12_sign_51 fX12_215 (by decide) (by simp [sp_bad_ne, mo_up]) ?_
      refine mo_call2 (d' := d - 1) hE hT dX12_sign_54 rfl rfl kX12_wrong lX12_285 iX12_wrong vX12_wrong (Nat.le_of_ble_eq_true rfl) (by omega) (c_X12_wrong (x1 := nI 1) (x2 := nI (ps_skn (ps_tx S) N h)) hE) (fun g hT => ?_)
      rw [ps_wr_is hf] at hT
      refine ev_vret dX12_sign_57 rfl ⟨rfl, ?_⟩
      first
        | (rw [if_pos ⟨hlt, hcc⟩, ← nI_1, ← mo_up_tw (v := nI (ps_skn (ps_tx S) N h))]; exact hT)
        | (rw [if_neg (fun q => hcc q.1 q.2)]; exact hT)
    · have hlt : (ps_skn (ps_tx S) N h) < N := mo_ilt HP.1 (by omega) (by omega) c_20
      refine ev_aload_n dX12_sign_23 rfl rfl ?_
      refine ev_aload_n dX12_sign_24 rfl rfl ?_
      refine mo_getiE (v := (nI (ps_skn (ps_tx S) N h))) hE hT dX12_sign_25 fX12_215 (by decide) (by simp [sp_bad_ne, mo_up]) ?_
      refine mo_call1 (d' := d - 1) hE hT dX12_sign_28 rfl rfl kX12_byteAt lX12_218 iX12_byteAt vX12_byteAt (Nat.le_of_ble_eq_true rfl) (by omega) (c_X12_byteAt (k := (ps_skn (ps_tx S) N h)) hE (by omega) HP) (fun g hT => ?_)
      rw [ps_tx_up (by decide)]
      refine ev_iload_n dX12_sign_31 rfl rfl ?_
      refine ev_icmp_ne (tgt := 48) dX12_sign_32 (by decide) (fun c_32 => ?_) (fun c_32 => ?_)
      · have hcc : (ps_skn (ps_tx S) N h) < N → ¬ (ps_tx S) (ps_skn (ps_tx S) N h) = c := by
          intro hl0 q0
          first
            | exact absurd (mo_ige HP.1 (by omega) (by omega) c_20) (by omega)
            | (refine c_32 ?_
               unfold ps_bt
               rw [if_pos hl0, q0])
        refine ev_aload_n dX12_sign_48 rfl rfl ?_
        refine ev_iconst (v := 1) dX12_sign_49 (by decide) ?_
        refine ev_aload_n dX12_sign_50 rfl rfl ?_
        refine mo_getiE (v := (nI (ps_skn (ps_tx S) N h))) hE hT dX12_sign_51 fX12_215 (by decide) (by simp [sp_bad_ne, mo_up]) ?_
        refine mo_call2 (d' := d - 1) hE hT dX12_sign_54 rfl rfl kX12_wrong lX12_285 iX12_wrong vX12_wrong (Nat.le_of_ble_eq_true rfl) (by omega) (c_X12_wrong (x1 := nI 1) (x2 := nI (ps_skn (ps_tx S) N h)) hE) (fun g hT => ?_)
        rw [ps_wr_is hf] at hT
        refine ev_vret dX12_sign_57 rfl ⟨rfl, ?_⟩
        first
          | (rw [if_pos ⟨hlt, hcc⟩, ← nI_1, ← mo_up_tw (v := nI (ps_skn (ps_tx S) N h))]; exact hT)
          | (rw [if_neg (fun q => hcc q.1 q.2)]; exact hT)
      · have hcc : (ps_tx S) (ps_skn (ps_tx S) N h) = c := by
          have q := (nI_eq (by have := ps_bt_lt (S := S) (N := N) (k := (ps_skn (ps_tx S) N h)); omega) (by omega)).mp c_32
          unfold ps_bt at q
          rw [if_pos hlt] at q
          exact q
        refine ev_aload_n dX12_sign_35 rfl rfl ?_
        refine ev_dup dX12_sign_36 rfl ?_
        refine mo_getiE (v := (nI (ps_skn (ps_tx S) N h))) hE hT dX12_sign_37 fX12_215 (by decide) (by simp [sp_bad_ne, mo_up]) ?_
        refine ev_iconst (v := 1) dX12_sign_40 (by decide) ?_
        refine ev_iadd dX12_sign_41 ?_
        refine mo_put hE hT dX12_sign_42 pX12_215 (by decide) (fun g hT => ?_)
        refine ev_goto (tgt := 57) dX12_sign_45 (by decide) ?_
        refine ev_vret dX12_sign_57 rfl ⟨rfl, ?_⟩
        first
          | (rw [if_pos ⟨hlt, hcc⟩, ← nI_1, ← mo_up_tw (v := nI (ps_skn (ps_tx S) N h))]; exact hT)
          | (rw [if_neg (fun q => hcc q.1 q.2)]; exact hT)
  · exact absurd (by decide) c_4
theorem c_X12_signF {G : ev_G} {W : mo_W} {d : Nat} {S : mo_S} {x1 x2 : Int32} (hE : ev_En G) (hf : ¬ S.1 32 0 ≤ 0) : mo_C G W d mX12_sign [.int x1] S none S := by
  refine mo_start (lv0 := [some (.ref W.1), some (.int x1)]) (by decide +kernel) rfl (Nat.le_of_ble_eq_true rfl) rfl ?_
  intro g0 g hT
  refine ev_aload_n dX12_sign_0 rfl rfl ?_
  refine mo_geti hE hT dX12_sign_1 fX12_222 (by decide) ?_
  refine ev_if_le (tgt := 8) dX12_sign_4 (by decide) (fun c_4 => ?_) (fun c_4 => ?_)
  · exact absurd c_4 hf
  · exact ev_vret dX12_sign_7 rfl ⟨rfl, hT⟩
theorem c_X12_emitsF {G : ev_G} {W : mo_W} {d : Nat} {S : mo_S} {x1 x2 : Int32} (hE : ev_En G) (hf : ¬ S.1 32 0 ≤ 0) : mo_C G W d mX12_emits [.int x1, .int x2] S none S := by
  refine mo_start (lv0 := [some (.ref W.1), some (.int x1), some (.int x2)]) (by decide +kernel) rfl (Nat.le_of_ble_eq_true rfl) rfl ?_
  intro g0 g hT
  refine ev_aload_n dX12_emits_0 rfl rfl ?_
  refine mo_geti hE hT dX12_emits_1 fX12_222 (by decide) ?_
  refine ev_if_le (tgt := 8) dX12_emits_4 (by decide) (fun c_4 => ?_) (fun c_4 => ?_)
  · exact absurd c_4 hf
  · exact ev_vret dX12_emits_7 rfl ⟨rfl, hT⟩
theorem c_X12_opensF {G : ev_G} {W : mo_W} {d : Nat} {S : mo_S} (hE : ev_En G) (hf : ¬ S.1 32 0 ≤ 0) : mo_C G W d mX12_opens [] S none S := by
  refine mo_start (lv0 := [some (.ref W.1)]) (by decide +kernel) rfl (Nat.le_of_ble_eq_true rfl) rfl ?_
  intro g0 g hT
  refine ev_aload_n dX12_opens_0 rfl rfl ?_
  refine mo_geti hE hT dX12_opens_1 fX12_222 (by decide) ?_
  refine ev_if_le (tgt := 8) dX12_opens_4 (by decide) (fun c_4 => ?_) (fun c_4 => ?_)
  · exact absurd c_4 hf
  · exact ev_vret dX12_opens_7 rfl ⟨rfl, hT⟩
theorem c_X12_figuresF {G : ev_G} {W : mo_W} {d : Nat} {S : mo_S} {x1 x2 : Int32} (hE : ev_En G) (hf : ¬ S.1 32 0 ≤ 0) : mo_C G W d mX12_figures [.int x1, .int x2] S (some (.int 0)) S := by
  refine mo_start (lv0 := [some (.ref W.1), some (.int x1), some (.int x2), none, none]) (by decide +kernel) rfl (Nat.le_of_ble_eq_true rfl) rfl ?_
  intro g0 g hT
  refine ev_aload_n dX12_figures_0 rfl rfl ?_
  refine mo_geti hE hT dX12_figures_1 fX12_222 (by decide) ?_
  refine ev_if_le (tgt := 9) dX12_figures_4 (by decide) (fun c_4 => ?_) (fun c_4 => ?_)
  · exact absurd c_4 hf
  · refine ev_iconst (v := 0) dX12_figures_7 (by decide) ?_
    exact ev_iret dX12_figures_8 rfl rfl ⟨rfl, hT⟩
/-- a code is kept -/
def ps_em (S : mo_S) (O c : Nat) (x y : Int32) : mo_S := mo_up (mo_up (mo_up S 40 (350 * O + c) x) 41 (350 * O + c) y) 35 0 (nI (c + 1))
theorem c_X12_emits {G : ev_G} {W : mo_W} {d : Nat} {S : mo_S} {O c : Nat} {x1 x2 : Int32} (hE : ev_En G) (hf : S.1 32 0 = 0) (hO : S.1 29 0 = nI O) (hO2 : O ≤ 9) (hc : S.1 35 0 = nI c) (hc2 : c < 350) : mo_C G W d mX12_emits [.int x1, .int x2] S none (ps_em S O c x1 x2) := by
  refine mo_start (lv0 := [some (.ref W.1), some (.int x1), some (.int x2)]) (by decide +kernel) rfl (Nat.le_of_ble_eq_true rfl) rfl ?_
  intro g0 g hT
  refine ev_aload_n dX12_emits_0 rfl rfl ?_
  refine mo_getiE (v := 0) hE hT dX12_emits_1 fX12_222 (by decide) (by first | exact hf | (rw [mo_up_ne (by decide)]; exact hf)) ?_
  refine ev_if_le (tgt := 8) dX12_emits_4 (by decide) (fun c_4 => ?_) (fun c_4 => ?_)
  · have e1 : 350 * S.1 29 0 + S.1 35 0 = nI (350 * O + c) := by rw [hO, hc]; exact mo_l2 350 O c
    refine ev_aload_n dX12_emits_8 rfl rfl ?_
    refine mo_geta hE hT dX12_emits_9 fX12_96 (by decide) ?_
    refine ev_sipush (v := 350) dX12_emits_12 (by decide) ?_
    refine ev_aload_n dX12_emits_15 rfl rfl ?_
    refine mo_geti hE hT dX12_emits_16 fX12_289 (by decide) ?_
    refine ev_imul dX12_emits_19 ?_
    refine ev_aload_n dX12_emits_20 rfl rfl ?_
    refine mo_geti hE hT dX12_emits_21 fX12_292 (by decide) ?_
    refine ev_iadd dX12_emits_24 ?_
    refine ev_iload_n dX12_emits_25 rfl rfl ?_
    refine mo_iast (q := (350 * O + c)) hE hT dX12_emits_26 (by decide) e1 (show _ < 3500 from (by omega)) (fun g hT => ?_)
    refine ev_aload_n dX12_emits_27 rfl rfl ?_
    refine mo_geta hE hT dX12_emits_28 fX12_99 (by decide) ?_
    refine ev_sipush (v := 350) dX12_emits_31 (by decide) ?_
    refine ev_aload_n dX12_emits_34 rfl rfl ?_
    refine mo_getiE (v := (S.1 29 0)) hE hT dX12_emits_35 fX12_289 (by decide) (by simp [sp_bad_ne, mo_up]) ?_
    refine ev_imul dX12_emits_38 ?_
    refine ev_aload_n dX12_emits_39 rfl rfl ?_
    refine mo_getiE (v := (S.1 35 0)) hE hT dX12_emits_40 fX12_292 (by decide) (by simp [sp_bad_ne, mo_up]) ?_
    refine ev_iadd dX12_emits_43 ?_
    refine ev_iload_n dX12_emits_44 rfl rfl ?_
    refine mo_iast (q := (350 * O + c)) hE hT dX12_emits_45 (by decide) e1 (show _ < 3500 from (by omega)) (fun g hT => ?_)
    refine ev_aload_n dX12_emits_46 rfl rfl ?_
    refine ev_dup dX12_emits_47 rfl ?_
    refine mo_getiE (v := (S.1 35 0)) hE hT dX12_emits_48 fX12_292 (by decide) (by simp [sp_bad_ne, mo_up]) ?_
    refine ev_iconst (v := 1) dX12_emits_51 (by decide) ?_
    refine ev_iadd dX12_emits_52 ?_
    refine mo_put hE hT dX12_emits_53 pX12_292 (by decide) (fun g hT => ?_)
    refine ev_vret dX12_emits_56 rfl ⟨rfl, ?_⟩
    unfold ps_em
    rw [← nI_1, ← hc]
    exact hT
  · exact absurd (by decide) c_4
theorem c_X12_opens {G : ev_G} {W : mo_W} {d : Nat} {S : mo_S} {N h o : Nat} (hE : ev_En G) (hd : 3 ≤ d) (H : ps_at S N h) (hf : S.1 32 0 = 0) (ho : S.1 34 0 = nI o) (ho2 : o ≤ 8) : mo_C G W d mX12_opens [] S none (if (ps_skn (ps_tx S) N h) < N ∧ (ps_tx S) (ps_skn (ps_tx S) N h) = 40 then (if o = 8 then mo_up (mo_up (ps_wr S (ps_skn (ps_tx S) N h) 3 (ps_skn (ps_tx S) N h)) 34 0 (nI (o + 1))) 31 0 (nI ((ps_skn (ps_tx S) N h) + 1)) else mo_up (mo_up (mo_up S 31 0 (nI (ps_skn (ps_tx S) N h))) 34 0 (nI (o + 1))) 31 0 (nI ((ps_skn (ps_tx S) N h) + 1))) else ps_wr S (ps_skn (ps_tx S) N h) 1 (ps_skn (ps_tx S) N h)) := by
  refine mo_start (lv0 := [some (.ref W.1)]) (by decide +kernel) rfl (Nat.le_of_ble_eq_true rfl) rfl ?_
  intro g0 g hT
  refine ev_aload_n dX12_opens_0 rfl rfl ?_
  refine mo_getiE (v := 0) hE hT dX12_opens_1 fX12_222 (by decide) (by first | exact hf | (rw [mo_up_ne (by decide)]; exact hf)) ?_
  refine ev_if_le (tgt := 8) dX12_opens_4 (by decide) (fun c_4 => ?_) (fun c_4 => ?_)
  · refine ev_aload_n dX12_opens_8 rfl rfl ?_
    refine mo_call0 (d' := d - 1) hE hT dX12_opens_9 rfl rfl kX12_blanks lX12_225 iX12_blanks vX12_blanks (Nat.le_of_ble_eq_true rfl) (by omega) (c_X12_blanks hE (by omega) H) (fun g hT => ?_)
    have hp := ps_skn_in (t := ps_tx S) H.2.2.2
    have HP := H.up hp.2
    have hn3 := H.2.1
    refine ev_aload_n dX12_opens_12 rfl rfl ?_
    refine ev_aload_n dX12_opens_13 rfl rfl ?_
    refine mo_getiE (v := (nI (ps_skn (ps_tx S) N h))) hE hT dX12_opens_14 fX12_215 (by decide) (by simp [sp_bad_ne, mo_up]) ?_
    refine mo_call1 (d' := d - 1) hE hT dX12_opens_17 rfl rfl kX12_byteAt lX12_218 iX12_byteAt vX12_byteAt (Nat.le_of_ble_eq_true rfl) (by omega) (c_X12_byteAt (k := (ps_skn (ps_tx S) N h)) hE (by omega) HP) (fun g hT => ?_)
    rw [ps_tx_up (by decide)]
    refine ev_bipush (v := 40) dX12_opens_20 (by decide) ?_
    refine ev_icmp_eq (tgt := 35) dX12_opens_22 (by decide) (fun c_22 => ?_) (fun c_22 => ?_)
    · have hyes : (ps_skn (ps_tx S) N h) < N ∧ (ps_tx S) (ps_skn (ps_tx S) N h) = 40 := by
        have q := (nI_eq (by have := ps_bt_lt (S := S) (N := N) (k := (ps_skn (ps_tx S) N h)); omega) (by decide)).mp (show nI (ps_bt (ps_tx S) N (ps_skn (ps_tx S) N h)) = nI 40 from c_22)
        unfold ps_bt at q
        by_cases e : (ps_skn (ps_tx S) N h) < N
        · rw [if_pos e] at q; exact ⟨e, q⟩
        · rw [if_neg e] at q; exact absurd q (by decide)
      refine ev_aload_n dX12_opens_35 rfl rfl ?_
      refine mo_getiE (v := nI o) hE hT dX12_opens_36 fX12_295 (by decide) (by rw [mo_up_ne (by decide)]; exact ho) ?_
      refine ev_bipush (v := 8) dX12_opens_39 (by decide) ?_
      refine ev_icmp_ne (tgt := 53) dX12_opens_41 (by decide) (fun c_41 => ?_) (fun c_41 => ?_)
      · have h8 : ¬ o = 8 := fun q => c_41 (by rw [q]; rfl)
        refine ev_aload_n dX12_opens_53 rfl rfl ?_
        refine ev_dup dX12_opens_54 rfl ?_
        refine mo_getiE (v := nI o) hE hT dX12_opens_55 fX12_295 (by decide) (by rw [mo_up_ne (by decide)]; exact ho) ?_
        refine ev_iconst (v := 1) dX12_opens_58 (by decide) ?_
        refine ev_iadd dX12_opens_59 ?_
        rw [nI_1]
        refine mo_put hE hT dX12_opens_60 pX12_295 (by decide) (fun g hT => ?_)
        refine ev_aload_n dX12_opens_63 rfl rfl ?_
        refine ev_dup dX12_opens_64 rfl ?_
        refine mo_getiE (v := nI (ps_skn (ps_tx S) N h)) hE hT dX12_opens_65 fX12_215 (by decide) (by rw [mo_up_ne (by decide), mo_up_at, pk_us]) ?_
        refine ev_iconst (v := 1) dX12_opens_68 (by decide) ?_
        refine ev_iadd dX12_opens_69 ?_
        rw [nI_1]
        refine mo_put hE hT dX12_opens_70 pX12_215 (by decide) (fun g hT => ?_)
        refine ev_vret dX12_opens_73 rfl ⟨rfl, ?_⟩
        rw [if_pos hyes, if_neg h8]
        exact hT
      · refine ev_aload_n dX12_opens_44 rfl rfl ?_
        refine ev_iconst (v := 3) dX12_opens_45 (by decide) ?_
        refine ev_aload_n dX12_opens_46 rfl rfl ?_
        refine mo_getiE (v := (nI (ps_skn (ps_tx S) N h))) hE hT dX12_opens_47 fX12_215 (by decide) (by simp [sp_bad_ne, mo_up]) ?_
        refine mo_call2 (d' := d - 1) hE hT dX12_opens_50 rfl rfl kX12_wrong lX12_285 iX12_wrong vX12_wrong (Nat.le_of_ble_eq_true rfl) (by omega) (c_X12_wrong (x1 := nI 3) (x2 := nI (ps_skn (ps_tx S) N h)) hE) (fun g hT => ?_)
        rw [ps_wr_is hf] at hT
        have h8 : o = 8 := (nI_eq (by omega) (by decide)).mp (show nI o = nI 8 from c_41)
        refine ev_aload_n dX12_opens_53 rfl rfl ?_
        refine ev_dup dX12_opens_54 rfl ?_
        refine mo_getiE (v := nI o) hE hT dX12_opens_55 fX12_295 (by decide) (by unfold ps_wr; rw [mo_up_ne (by decide), mo_up_ne (by decide), mo_up_ne (by decide)]; exact ho) ?_
        refine ev_iconst (v := 1) dX12_opens_58 (by decide) ?_
        refine ev_iadd dX12_opens_59 ?_
        rw [nI_1]
        refine mo_put hE hT dX12_opens_60 pX12_295 (by decide) (fun g hT => ?_)
        refine ev_aload_n dX12_opens_63 rfl rfl ?_
        refine ev_dup dX12_opens_64 rfl ?_
        refine mo_getiE (v := nI (ps_skn (ps_tx S) N h)) hE hT dX12_opens_65 fX12_215 (by decide) (by rw [mo_up_ne (by decide)]; unfold ps_wr; rw [mo_up_ne (by decide), mo_up_ne (by decide), mo_up_at, pk_us]) ?_
        refine ev_iconst (v := 1) dX12_opens_68 (by decide) ?_
        refine ev_iadd dX12_opens_69 ?_
        rw [nI_1]
        refine mo_put hE hT dX12_opens_70 pX12_215 (by decide) (fun g hT => ?_)
        refine ev_vret dX12_opens_73 rfl ⟨rfl, ?_⟩
        rw [if_pos hyes, if_pos h8]
        exact hT
    · have hno : ¬ ((ps_skn (ps_tx S) N h) < N ∧ (ps_tx S) (ps_skn (ps_tx S) N h) = 40) := fun q => c_22 (by unfold ps_bt; rw [if_pos q.1, q.2]; rfl)
      refine ev_aload_n dX12_opens_25 rfl rfl ?_
      refine ev_iconst (v := 1) dX12_opens_26 (by decide) ?_
      refine ev_aload_n dX12_opens_27 rfl rfl ?_
      refine mo_getiE (v := (nI (ps_skn (ps_tx S) N h))) hE hT dX12_opens_28 fX12_215 (by decide) (by simp [sp_bad_ne, mo_up]) ?_
      refine mo_call2 (d' := d - 1) hE hT dX12_opens_31 rfl rfl kX12_wrong lX12_285 iX12_wrong vX12_wrong (Nat.le_of_ble_eq_true rfl) (by omega) (c_X12_wrong (x1 := nI 1) (x2 := nI (ps_skn (ps_tx S) N h)) hE) (fun g hT => ?_)
      rw [ps_wr_is hf] at hT
      refine ev_vret dX12_opens_34 rfl ⟨rfl, ?_⟩
      rw [if_neg hno]
      exact hT
  · exact absurd (by decide) c_4
theorem fg_loop {G : ev_G} {W : mo_W} {d : Nat} {g0 : ev_H} {S : mo_S} {N h lo hi : Nat} (hE : ev_En G) (h3 : ev_En3 G) (hd : 3 ≤ d) (H : ps_at S N h) (hf : S.1 32 0 = 0) (hlo : lo < 100000) (hhi : hi < 100000) (hp0 : ps_dig (ps_bt (ps_tx S) N (ps_skn (ps_tx S) N h)) = true)  : ∀ (n i : Nat), i ≤ N → N < i + n → ∀ (v : Nat), ps_figs (ps_tx S) (N - i) i v = (ps_fig (ps_tx S) N (ps_skn (ps_tx S) N h)) ∧ v ≤ 1000009 → ∀ g, mo_T G W g0 g (mo_up S 31 0 (nI i)) → ev_V G d 0 0 mX12_figures (fun o g' => o = .inl (some (.int (nI (if ps_dig (ps_bt (ps_tx S) N (ps_skn (ps_tx S) N h)) = true then (ps_fig (ps_tx S) N (ps_skn (ps_tx S) N h)).2 else 0)))) ∧ mo_T G W g0 g' (if ps_dig (ps_bt (ps_tx S) N (ps_skn (ps_tx S) N h)) = true then (if (ps_fig (ps_tx S) N (ps_skn (ps_tx S) N h)).2 < lo ∨ hi < (ps_fig (ps_tx S) N (ps_skn (ps_tx S) N h)).2 then ps_wr S (ps_fig (ps_tx S) N (ps_skn (ps_tx S) N h)).1 2 (ps_skn (ps_tx S) N h) else mo_up S 31 0 (nI (ps_fig (ps_tx S) N (ps_skn (ps_tx S) N h)).1)) else ps_wr S (ps_skn (ps_tx S) N h) 1 (ps_skn (ps_tx S) N h))) g 46 [some (.ref W.1), some (.int (nI lo)), some (.int (nI hi)), some (.int (nI (ps_skn (ps_tx S) N h))), some (.int (nI v))] [] := by
  intro n
  induction n with
  | zero => intro i h1 h2; exact absurd h2 (by omega)
  | succ n ih =>
    intro i h1 h2 v hI g hT
    have hn3 := H.2.1
    have HP := H.up h1
    refine ev_aload_n dX12_figures_46 rfl rfl ?_
    refine ev_aload_n dX12_figures_47 rfl rfl ?_
    refine mo_getiE (v := (nI i)) hE hT dX12_figures_48 fX12_215 (by decide) (by simp [sp_bad_ne, mo_up]) ?_
    refine mo_call1 (d' := d - 1) hE hT dX12_figures_51 rfl rfl kX12_byteAt lX12_218 iX12_byteAt vX12_byteAt (Nat.le_of_ble_eq_true rfl) (by omega) (c_X12_byteAt (k := i) hE (by omega) HP) (fun g hT => ?_)
    rw [ps_tx_up (by decide)]
    refine ev_pS1 (d' := d - 1) dX12_figures_54 rfl kX12_isDigit lX12_282 sX12_isDigit (Nat.le_of_ble_eq_true rfl) (by omega) (c_X12_isDigit) ?_
    rw [ps_dig_is (by have := ps_bt_lt (S := S) (N := N) (k := i); omega)]
    refine ev_if_eq (tgt := 104) dX12_figures_57 (by decide) (fun c_57 => ?_) (fun c_57 => ?_)
    · have hdg : ps_dig (ps_bt (ps_tx S) N i) = false := mo_b_0 c_57
      have hfg : (ps_fig (ps_tx S) N (ps_skn (ps_tx S) N h)) = (i, v) := by
        rw [← hI.1]
        by_cases e : i < N
        · rw [show N - i = (N - (i + 1)) + 1 by omega, ps_figs, if_neg (by unfold ps_bt at hdg; rw [if_pos e] at hdg; rw [hdg]; decide)]
        · rw [show N - i = 0 by omega]; rfl
      have hL : ∀ z, mo_T G W g0 g z → True := fun _ _ => trivial
      rw [hfg]
      refine ev_iload dX12_figures_104 rfl ?_
      refine ev_iload_n dX12_figures_106 rfl rfl ?_
      refine ev_icmp_lt (tgt := 116) dX12_figures_107 (by decide) (fun c_107 => ?_) (fun c_107 => ?_)
      · have hbad : v < lo ∨ hi < v := Or.inl ((nI_ltI (by omega) (by omega)).mp c_107)
        refine ev_aload_n dX12_figures_116 rfl rfl ?_
        refine ev_iconst (v := nI 2) dX12_figures_117 (by decide) ?_
        refine ev_iload_n dX12_figures_118 rfl rfl ?_
        refine mo_call2 (d' := d - 1) hE hT dX12_figures_119 rfl rfl kX12_wrong lX12_285 iX12_wrong vX12_wrong (Nat.le_of_ble_eq_true rfl) (by omega) (c_X12_wrong (x1 := nI 2) (x2 := nI (ps_skn (ps_tx S) N h)) hE) (fun g hT => ?_)
        rw [ps_wr_is hf] at hT
        refine ev_iload dX12_figures_122 rfl ?_
        exact ev_iret dX12_figures_124 rfl rfl ⟨by rw [if_pos hp0], by rw [if_pos hp0, if_pos hbad]; exact hT⟩
      · refine ev_iload dX12_figures_110 rfl ?_
        refine ev_iload_n dX12_figures_112 rfl rfl ?_
        refine ev_icmp_le (tgt := 122) dX12_figures_113 (by decide) (fun c_113 => ?_) (fun c_113 => ?_)
        · have hok : ¬ (v < lo ∨ hi < v) := fun q => q.elim (fun q => c_107 (nI_lt q (by omega))) (fun q => absurd ((nI_leI (by omega) (by omega)).mp c_113) (by omega))
          refine ev_iload dX12_figures_122 rfl ?_
          exact ev_iret dX12_figures_124 rfl rfl ⟨by rw [if_pos hp0], by rw [if_pos hp0, if_neg hok]; exact hT⟩
        · have hbad : v < lo ∨ hi < v := Or.inr (Nat.lt_of_not_le fun q => c_113 (nI_le q (by omega)))
          refine ev_aload_n dX12_figures_116 rfl rfl ?_
          refine ev_iconst (v := nI 2) dX12_figures_117 (by decide) ?_
          refine ev_iload_n dX12_figures_118 rfl rfl ?_
          refine mo_call2 (d' := d - 1) hE hT dX12_figures_119 rfl rfl kX12_wrong lX12_285 iX12_wrong vX12_wrong (Nat.le_of_ble_eq_true rfl) (by omega) (c_X12_wrong (x1 := nI 2) (x2 := nI (ps_skn (ps_tx S) N h)) hE) (fun g hT => ?_)
          rw [ps_wr_is hf] at hT
          refine ev_iload dX12_figures_122 rfl ?_
          exact ev_iret dX12_figures_124 rfl rfl ⟨by rw [if_pos hp0], by rw [if_pos hp0, if_pos hbad]; exact hT⟩
    · have hdg : ps_dig (ps_bt (ps_tx S) N i) = true := mo_b_1 c_57
      have hlt : i < N := by
        rcases Nat.lt_or_ge i N with q | q
        · exact q
        · exact absurd hdg (by unfold ps_bt; rw [if_neg (by omega)]; decide)
      have hbt : ps_bt (ps_tx S) N i = (ps_tx S) i := if_pos hlt
      rw [hbt] at hdg
      have h48 : 48 ≤ (ps_tx S) i ∧ (ps_tx S) i ≤ 57 := of_decide_eq_true hdg
      refine ev_iload dX12_figures_60 rfl ?_
      refine ev_ldc dX12_figures_62 nX12_180 ?_
      have K_89 : ∀ (g : ev_H) (hT : mo_T G W g0 g (mo_up S 31 0 (nI i))), ∀ x9 : Int32, x9 = (if (nI v) ≤ 100000 then (((10 * (nI v)) + (nI (ps_bt (ps_tx S) N i))) - 48) else (nI v)) → ev_V G d 0 0 mX12_figures (fun o g' => o = .inl (some (.int (nI (if ps_dig (ps_bt (ps_tx S) N (ps_skn (ps_tx S) N h)) = true then (ps_fig (ps_tx S) N (ps_skn (ps_tx S) N h)).2 else 0)))) ∧ mo_T G W g0 g' (if ps_dig (ps_bt (ps_tx S) N (ps_skn (ps_tx S) N h)) = true then (if (ps_fig (ps_tx S) N (ps_skn (ps_tx S) N h)).2 < lo ∨ hi < (ps_fig (ps_tx S) N (ps_skn (ps_tx S) N h)).2 then ps_wr S (ps_fig (ps_tx S) N (ps_skn (ps_tx S) N h)).1 2 (ps_skn (ps_tx S) N h) else mo_up S 31 0 (nI (ps_fig (ps_tx S) N (ps_skn (ps_tx S) N h)).1)) else ps_wr S (ps_skn (ps_tx S) N h) 1 (ps_skn (ps_tx S) N h))) g 89 [some (.ref W.1), some (.int (nI lo)), some (.int (nI hi)), some (.int (nI (ps_skn (ps_tx S) N h))), some (.int (nI v))] (.int x9 :: []) := by
        intro g hT x9 h9
        subst h9
        refine ev_istore dX12_figures_89 (Nat.le_of_ble_eq_true rfl) rfl ?_
        refine ev_aload_n dX12_figures_91 rfl rfl ?_
        refine ev_dup dX12_figures_92 rfl ?_
        refine mo_getiE (v := (nI i)) hE hT dX12_figures_93 fX12_215 (by decide) (by simp [sp_bad_ne, mo_up]) ?_
        refine ev_iconst (v := 1) dX12_figures_96 (by decide) ?_
        refine ev_iadd dX12_figures_97 ?_
        refine mo_put hE hT dX12_figures_98 pX12_215 (by decide) (fun g hT => ?_)
        refine ev_goto (tgt := 46) dX12_figures_101 (by decide) ?_
        have HP := H.up h1
        have e7 : ∀ y, y = nI (if 100000 < v then v else 10 * v + (ps_tx S) i - 48) → ev_V G d 0 0 mX12_figures (fun o g' => o = .inl (some (.int (nI (if ps_dig (ps_bt (ps_tx S) N (ps_skn (ps_tx S) N h)) = true then (ps_fig (ps_tx S) N (ps_skn (ps_tx S) N h)).2 else 0)))) ∧ mo_T G W g0 g' (if ps_dig (ps_bt (ps_tx S) N (ps_skn (ps_tx S) N h)) = true then (if (ps_fig (ps_tx S) N (ps_skn (ps_tx S) N h)).2 < lo ∨ hi < (ps_fig (ps_tx S) N (ps_skn (ps_tx S) N h)).2 then ps_wr S (ps_fig (ps_tx S) N (ps_skn (ps_tx S) N h)).1 2 (ps_skn (ps_tx S) N h) else mo_up S 31 0 (nI (ps_fig (ps_tx S) N (ps_skn (ps_tx S) N h)).1)) else ps_wr S (ps_skn (ps_tx S) N h) 1 (ps_skn (ps_tx S) N h))) g 46 [some (.ref W.1), some (.int (nI lo)), some (.int (nI hi)), some (.int (nI (ps_skn (ps_tx S) N h))), some (.int y)] [] := fun y hy => by
          subst hy
          refine ih (i + 1) (by omega) (by omega) _ ⟨?_, by split <;> omega⟩ g ?_
          · rw [← hI.1, show N - i = (N - (i + 1)) + 1 by omega, ps_figs, if_pos hdg]
          · rw [← nI_1, ← mo_up_tw (v := nI i)]
            exact hT
        refine e7 _ ?_
        by_cases c : v ≤ 100000
        · rw [if_pos (show nI v ≤ 100000 from nI_le (a := v) (b := 100000) c (by decide)), if_neg (by omega), hbt, show (10 : Int32) * nI v + nI ((ps_tx S) i) = nI (10 * v + (ps_tx S) i) from mo_l2 10 v _, show (48 : Int32) = nI 48 from rfl, pk_sub (by omega)]
        · rw [if_neg (show ¬ nI v ≤ 100000 from fun q => c ((nI_leI (a := v) (b := 100000) (by omega) (by decide)).mp q)), if_pos (by omega)]
      refine ev_icmp_le (tgt := 72) dX12_figures_64 (by decide) (fun c_64 => ?_) (fun c_64 => ?_)
      · refine ev_bipush (v := 10) dX12_figures_72 (by decide) ?_
        refine ev_iload dX12_figures_74 rfl ?_
        refine ev_imul dX12_figures_76 ?_
        refine ev_aload_n dX12_figures_77 rfl rfl ?_
        refine ev_aload_n dX12_figures_78 rfl rfl ?_
        refine mo_getiE (v := (nI i)) hE hT dX12_figures_79 fX12_215 (by decide) (by simp [sp_bad_ne, mo_up]) ?_
        refine mo_call1 (d' := d - 1) hE hT dX12_figures_82 rfl rfl kX12_byteAt lX12_218 iX12_byteAt vX12_byteAt (Nat.le_of_ble_eq_true rfl) (by omega) (c_X12_byteAt (k := i) hE (by omega) HP) (fun g hT => ?_)
        rw [ps_tx_up (by decide)]
        refine ev_iadd dX12_figures_85 ?_
        refine ev_bipush (v := 48) dX12_figures_86 (by decide) ?_
        refine ev_isub dX12_figures_88 ?_
        exact K_89 g hT _ (by rw [if_pos c_64])
      · refine ev_iload dX12_figures_67 rfl ?_
        refine ev_goto (tgt := 89) dX12_figures_69 (by decide) ?_
        exact K_89 g hT _ (by rw [if_neg c_64])
theorem c_X12_figures {G : ev_G} {W : mo_W} {d : Nat} {S : mo_S} {N h lo hi : Nat} (hE : ev_En G) (h3 : ev_En3 G) (hd : 3 ≤ d) (H : ps_at S N h) (hf : S.1 32 0 = 0) (hlo : lo < 100000) (hhi : hi < 100000) : mo_C G W d mX12_figures [.int (nI lo), .int (nI hi)] S (some (.int (nI (if ps_dig (ps_bt (ps_tx S) N (ps_skn (ps_tx S) N h)) = true then (ps_fig (ps_tx S) N (ps_skn (ps_tx S) N h)).2 else 0)))) (if ps_dig (ps_bt (ps_tx S) N (ps_skn (ps_tx S) N h)) = true then (if (ps_fig (ps_tx S) N (ps_skn (ps_tx S) N h)).2 < lo ∨ hi < (ps_fig (ps_tx S) N (ps_skn (ps_tx S) N h)).2 then ps_wr S (ps_fig (ps_tx S) N (ps_skn (ps_tx S) N h)).1 2 (ps_skn (ps_tx S) N h) else mo_up S 31 0 (nI (ps_fig (ps_tx S) N (ps_skn (ps_tx S) N h)).1)) else ps_wr S (ps_skn (ps_tx S) N h) 1 (ps_skn (ps_tx S) N h)) := by
  refine mo_start (lv0 := [some (.ref W.1), some (.int (nI lo)), some (.int (nI hi)), none, none]) (by decide +kernel) rfl (Nat.le_of_ble_eq_true rfl) rfl ?_
  intro g0 g hT
  refine ev_aload_n dX12_figures_0 rfl rfl ?_
  refine mo_getiE (v := 0) hE hT dX12_figures_1 fX12_222 (by decide) (by first | exact hf | (rw [mo_up_ne (by decide)]; exact hf)) ?_
  refine ev_if_le (tgt := 9) dX12_figures_4 (by decide) (fun c_4 => ?_) (fun c_4 => ?_)
  · refine ev_aload_n dX12_figures_9 rfl rfl ?_
    refine mo_call0 (d' := d - 1) hE hT dX12_figures_10 rfl rfl kX12_blanks lX12_225 iX12_blanks vX12_blanks (Nat.le_of_ble_eq_true rfl) (by omega) (c_X12_blanks hE (by omega) H) (fun g hT => ?_)
    have hp := ps_skn_in (t := ps_tx S) H.2.2.2
    have HP := H.up hp.2
    have hn3 := H.2.1
    refine ev_aload_n dX12_figures_13 rfl rfl ?_
    refine mo_getiE (v := (nI (ps_skn (ps_tx S) N h))) hE hT dX12_figures_14 fX12_215 (by decide) (by simp [sp_bad_ne, mo_up]) ?_
    refine ev_istore_n dX12_figures_17 rfl (Nat.le_of_ble_eq_true rfl) rfl ?_
    refine ev_iconst (v := (nI 0)) dX12_figures_18 (by decide) ?_
    refine ev_istore dX12_figures_19 (Nat.le_of_ble_eq_true rfl) rfl ?_
    refine ev_aload_n dX12_figures_21 rfl rfl ?_
    refine ev_aload_n dX12_figures_22 rfl rfl ?_
    refine mo_getiE (v := (nI (ps_skn (ps_tx S) N h))) hE hT dX12_figures_23 fX12_215 (by decide) (by simp [sp_bad_ne, mo_up]) ?_
    refine mo_call1 (d' := d - 1) hE hT dX12_figures_26 rfl rfl kX12_byteAt lX12_218 iX12_byteAt vX12_byteAt (Nat.le_of_ble_eq_true rfl) (by omega) (c_X12_byteAt (k := (ps_skn (ps_tx S) N h)) hE (by omega) HP) (fun g hT => ?_)
    rw [ps_tx_up (by decide)]
    refine ev_pS1 (d' := d - 1) dX12_figures_29 rfl kX12_isDigit lX12_282 sX12_isDigit (Nat.le_of_ble_eq_true rfl) (by omega) (c_X12_isDigit) ?_
    rw [ps_dig_is (by have := ps_bt_lt (S := S) (N := N) (k := (ps_skn (ps_tx S) N h)); omega)]
    refine ev_if_ne (tgt := 46) dX12_figures_32 (by decide) (fun c_32 => ?_) (fun c_32 => ?_)
    · exact fg_loop hE h3 hd H hf hlo hhi (mo_b_1 c_32) (N + 1) _ hp.2 (by omega) 0 ⟨rfl, by decide⟩ g hT
    · refine ev_aload_n dX12_figures_35 rfl rfl ?_
      refine ev_iconst (v := 1) dX12_figures_36 (by decide) ?_
      refine ev_aload_n dX12_figures_37 rfl rfl ?_
      refine mo_getiE (v := (nI (ps_skn (ps_tx S) N h))) hE hT dX12_figures_38 fX12_215 (by decide) (by simp [sp_bad_ne, mo_up]) ?_
      refine mo_call2 (d' := d - 1) hE hT dX12_figures_41 rfl rfl kX12_wrong lX12_285 iX12_wrong vX12_wrong (Nat.le_of_ble_eq_true rfl) (by omega) (c_X12_wrong (x1 := nI 1) (x2 := nI (ps_skn (ps_tx S) N h)) hE) (fun g hT => ?_)
      rw [ps_wr_is hf] at hT
      refine ev_iconst (v := nI 0) dX12_figures_44 (by decide) ?_
      exact ev_iret dX12_figures_45 rfl rfl ⟨by rw [if_neg (by rw [mo_b_0 c_32]; decide)], by rw [if_neg (by rw [mo_b_0 c_32]; decide)]; exact hT⟩
  · exact absurd (by decide) c_4
end M20
