section M25
/-! CLAUSES. what a clause tells: its kind, a number (0 of a formula), the formula's codes -/
abbrev ps_C : Type := (Nat × Nat) ⊕ (Nat × Int32 × Int32 × List (Int32 × Int32) × List Int32 × ps_F)
/-- the ';' behind -/
def ps_ce (t : Nat → Nat) (n h : Nat) (w m : Int32) (L : List (Int32 × Int32)) (C : List Int32) (F : ps_F) : ps_C := if h < n ∧ t h = 59 then .inr (ps_skn t n (h + 1), w, m, L, C, F) else .inl (1, h)
def ps_cf (t : Nat → Nat) (n : Nat) (w : Int32) (p : Nat) : ps_C := match ps_sum t n 8 p with
  | .inl e => .inl e
  | .inr (h, L, C, F) => ps_ce t n h w 0 (L ++ [(12, 0)]) C F
/-- a number from lo to hi -/
def ps_cg (t : Nat → Nat) (n : Nat) (w : Int32) (lo hi p : Nat) : ps_C := if ps_dig (ps_bt t n p) = true then (if (ps_fig t n p).2 < lo ∨ hi < (ps_fig t n p).2 then .inl (2, p) else ps_ce t n (ps_skn t n (ps_fig t n p).1) w (nI (ps_fig t n p).2) [] [] (fun _ => 0)) else .inl (1, p)
def ps_cl (t : Nat → Nat) (n p : Nat) : ps_C := match ps_fnd t n p ps_cn 10 with
  | none => .inl (1, p)
  | some 0 => ps_cf t n 0 (ps_skn t n (p + 4))
  | some 1 => (match ps_fnd t n (ps_skn t n (p + 5)) ps_kn 3 with
    | none => .inl (1, ps_skn t n (p + 5))
    | some k => ps_cg t n (1 + nI k) 2 64 (ps_skn t n (ps_skn t n (p + 5) + (ps_kn k).length)))
  | some 2 => ps_cf t n 4 (ps_skn t n (p + 5))
  | some 8 => if ps_wd t n (ps_skn t n (p + 4)) [109, 111, 115, 116] = true then ps_ce t n (ps_skn t n (ps_skn t n (p + 4) + 4)) 10 1 [] [] (fun _ => 0)
    else if ps_wd t n (ps_skn t n (p + 4)) [107, 101, 101, 112] = true then ps_ce t n (ps_skn t n (ps_skn t n (p + 4) + 4)) 10 0 [] [] (fun _ => 0)
    else .inl (1, ps_skn t n (p + 4))
  | some 9 => (match ps_fnd t n (ps_skn t n (p + 3)) ps_wn 4 with
    | none => .inl (1, ps_skn t n (p + 3))
    | some k => ps_ce t n (ps_skn t n (ps_skn t n (p + 3) + (ps_wn k).length)) 11 (nI k) [] [] (fun _ => 0))
  | some k => ps_cg t n (nI (k + 2)) 0 (if k = 5 ∨ k = 6 then 100 else 9999) (ps_skn t n (p + (ps_cn k).length))
/-- .. on and on: at most 12 -/
def ps_os (t : Nat → Nat) (n : Nat) : Nat → Nat → (Nat × Nat) ⊕ List (Int32 × Int32 × List (Int32 × Int32) × List Int32 × ps_F)
  | 0, p => if p < n then .inl (match ps_fnd t n p ps_cn 10 with | none => 1 | some _ => 3, p) else .inr []
  | m + 1, p => if p < n then (match ps_cl t n p with
    | .inl e => .inl e
    | .inr (h, q) => match ps_os t n m h with
      | .inl e => .inl e
      | .inr l => .inr (q :: l)) else .inr []
theorem ps_cn_len : ∀ k, k < 10 → (ps_cn k).length = ([4, 5, 5, 4, 3, 4, 5, 5, 4, 3] : List Nat).getD k 0 := by decide
theorem ps_cn_pos : ∀ k, k < 10 → ∀ c ∈ ps_cn k, 0 < c := by decide
theorem ps_kn_pos : ∀ k, k < 3 → ∀ c ∈ ps_kn k, 0 < c := by decide
theorem ps_wn_pos : ∀ k, k < 4 → ∀ c ∈ ps_wn k, 0 < c := by decide

theorem chl_loop {G : ev_G} {W : mo_W} {d : Nat} {g0 : ev_H} {S : mo_S} {N h : Nat} (hE : ev_En G) (h3 : ev_En3 G) (hd : 7 ≤ d) (H : ps_at S N h) : ∀ (n i e : Nat), i ≤ 10 → 10 < i + n → e ≤ N → ps_skn (ps_tx S) N e = (ps_skn (ps_tx S) N h) → (i = 0 ∨ e = (ps_skn (ps_tx S) N h)) → ps_fnd (ps_tx S) N (ps_skn (ps_tx S) N h) ps_cn i = none → ∀ g, mo_T G W g0 g (mo_up S 31 0 (nI e)) → ev_V G d 0 0 mX12_clauseHere (fun o g' => o = .inl (some (.int (sp_opt (ps_fnd (ps_tx S) N (ps_skn (ps_tx S) N h) ps_cn 10)))) ∧ mo_T G W g0 g' (mo_up S 31 0 (nI (ps_skn (ps_tx S) N h)))) g 2 [some (.ref W.1), some (.int (nI i))] [] := by
  intro n
  have hn3 := H.2.1
  have hp := ps_skn_in (t := (ps_tx S)) H.2.2.2
  induction n with
  | zero => intro i e h1 h2; exact absurd h2 (by omega)
  | succ n ih =>
    intro i e h1 h2 he hsk hie hfn g hT
    have HU := H.up he
    refine ev_iload_n dX12_clauseHere_2 rfl rfl ?_
    refine ev_bipush (v := 10) dX12_clauseHere_3 (by decide) ?_
    refine ev_icmp_ge (tgt := 27) dX12_clauseHere_5 (by decide) (fun c_5 => ?_) (fun c_5 => ?_)
    · have e10 : i = 10 := by have q := mo_ige (R := 10) rfl (by decide) (by omega) c_5; omega
      subst e10
      refine ev_iconst (v := -1) dX12_clauseHere_27 (by decide) ?_
      refine ev_iret dX12_clauseHere_28 rfl rfl ⟨by rw [hfn]; rfl, ?_⟩
      rw [hie.resolve_left (by decide)] at hT
      exact hT
    have hlt : i < 10 := mo_ilt (R := 10) rfl (by decide) (by omega) c_5
    refine ev_aload_n dX12_clauseHere_8 rfl rfl ?_
    refine ev_iload_n dX12_clauseHere_9 rfl rfl ?_
    refine ev_strS (d' := d - 1) dX12_clauseHere_10 rfl kX12_clauseName lX12_278 sX12_clauseName (Nat.le_of_ble_eq_true rfl) (by omega) (c_X12_clauseName h3 hlt) (fun a hs => ?_)
    refine mo_call1 (d' := d - 1) hE hT dX12_clauseHere_13 rfl rfl kX12_isWord lX12_238 iX12_isWord vX12_isWord (Nat.le_of_ble_eq_true rfl) (by omega) (c_X12_isWord hE h3 (by omega) HU hs) (fun g hT => ?_)
    rw [ps_tx_31, hsk, ps_tw] at hT
    rw [ps_tx_31, hsk]
    refine ev_if_eq (tgt := 21) dX12_clauseHere_16 (by decide) (fun c_16 => ?_) (fun c_16 => ?_)
    · refine ev_iinc (v := nI (i + 1)) dX12_clauseHere_21 rfl (by exact nI_1 i) rfl ?_
      refine ev_goto (tgt := 2) dX12_clauseHere_24 (by decide) ?_
      exact ih (i + 1) _ (by omega) (by omega) hp.2 (ps_skn_i H.2.2.2) (Or.inr rfl) (ps_fnd_0 hfn (mo_b_0 c_16)) g hT
    · refine ev_iload_n dX12_clauseHere_19 rfl rfl ?_
      have q := ps_fnd_s (ps_fnd_1 hfn (mo_b_1 c_16)) (10 - (i + 1))
      rw [show i + 1 + (10 - (i + 1)) = 10 by omega] at q
      exact ev_iret dX12_clauseHere_20 rfl rfl ⟨by rw [q]; rfl, hT⟩
theorem c_X12_clauseHere {G : ev_G} {W : mo_W} {d : Nat} {S : mo_S} {N h : Nat} (hE : ev_En G) (h3 : ev_En3 G) (hd : 7 ≤ d) (H : ps_at S N h) : mo_C G W d mX12_clauseHere [] S (some (.int (sp_opt (ps_fnd (ps_tx S) N (ps_skn (ps_tx S) N h) ps_cn 10)))) (mo_up S 31 0 (nI (ps_skn (ps_tx S) N h))) := by
  refine mo_start (lv0 := [some (.ref W.1), none]) (by decide +kernel) rfl (Nat.le_of_ble_eq_true rfl) rfl ?_
  intro g0 g hT
  rw [← mo_up_self H.2.2.1] at hT
  refine ev_iconst (v := nI 0) dX12_clauseHere_0 (by decide) ?_
  refine ev_istore_n dX12_clauseHere_1 rfl (Nat.le_of_ble_eq_true rfl) rfl ?_
  exact chl_loop hE h3 hd H 11 0 h (by omega) (by omega) H.2.2.2 rfl (Or.inl rfl) rfl g hT
theorem oo_K {G : ev_G} {W : mo_W} {d : Nat} {g0 : ev_H} {S : mo_S} {N h : Nat} (hE : ev_En G) (h3 : ev_En3 G) (hd : 8 ≤ d) (H : ps_at S N h) (hf : S.1 32 0 = 0) : ∀ (n i e : Nat), i ≤ 3 → 3 < i + n → e ≤ N → ps_skn (ps_tx S) N e = (ps_skn (ps_tx S) N h) → (ps_fnd (ps_tx S) N (ps_skn (ps_tx S) N h) ps_kn i) = none → ∀ g, mo_T G W g0 g (mo_up S 31 0 (nI e)) → ev_V G d 0 0 mX12_oneOf (fun o g' => o = .inl (some (.int (nI ((ps_fnd (ps_tx S) N (ps_skn (ps_tx S) N h) ps_kn 3).getD 0)))) ∧ mo_T G W g0 g' (match (ps_fnd (ps_tx S) N (ps_skn (ps_tx S) N h) ps_kn 3) with | none => ps_wr S (ps_skn (ps_tx S) N h) 1 (ps_skn (ps_tx S) N h) | some k => mo_up S 31 0 (nI ((ps_skn (ps_tx S) N h) + (ps_kn k).length)))) g 2 [some (.ref W.1), some (.int 3), some (.int 1), some (.int (nI i))] [] := by
  intro n
  have hn3 := H.2.1
  have hp := ps_skn_in (t := (ps_tx S)) H.2.2.2
  induction n with
  | zero => intro i e h1 h2; exact absurd h2 (by omega)
  | succ n ih =>
    intro i e h1 h2 he hsk hfn g hT
    have HU := H.up he
    refine ev_iload_n dX12_oneOf_2 rfl rfl ?_
    refine ev_iload_n dX12_oneOf_3 rfl rfl ?_
    refine ev_icmp_ge (tgt := 37) dX12_oneOf_4 (by decide) (fun c_4 => ?_) (fun c_4 => ?_)
    · have e10 : i = 3 := by have q := mo_ige (R := 3) rfl (by decide) (by omega) c_4; omega
      subst e10
      refine ev_aload_n dX12_oneOf_37 rfl rfl ?_
      refine mo_call0 (d' := d - 1) hE hT dX12_oneOf_38 rfl rfl kX12_blanks lX12_225 iX12_blanks vX12_blanks (Nat.le_of_ble_eq_true rfl) (by omega) (c_X12_blanks hE (by omega) HU) (fun g hT => ?_)
      rw [ps_tx_31, hsk, ps_tw] at hT
      refine ev_aload_n dX12_oneOf_41 rfl rfl ?_
      refine ev_iconst (v := nI 1) dX12_oneOf_42 (by decide) ?_
      refine ev_aload_n dX12_oneOf_43 rfl rfl ?_
      refine mo_getiE (v := nI (ps_skn (ps_tx S) N h)) hE hT dX12_oneOf_44 fX12_215 (by decide) (by rw [mo_up_at, pk_us]) ?_
      refine mo_call2 (d' := d - 1) hE hT dX12_oneOf_47 rfl rfl kX12_wrong lX12_285 iX12_wrong vX12_wrong (Nat.le_of_ble_eq_true rfl) (by omega) (c_X12_wrong (x1 := nI 1) (x2 := nI (ps_skn (ps_tx S) N h)) hE) (fun g hT => ?_)
      rw [ps_wr_is hf] at hT
      refine ev_iconst (v := 0) dX12_oneOf_50 (by decide) ?_
      refine ev_iret dX12_oneOf_51 rfl rfl ⟨by rw [hfn]; rfl, ?_⟩
      rw [hfn]
      exact hT
    have hlt : i < 3 := mo_ilt (R := 3) rfl (by decide) (by omega) c_4
    refine ev_aload_n dX12_oneOf_7 rfl rfl ?_
    refine ev_iload_n dX12_oneOf_8 rfl rfl ?_
    refine ev_if_eq (tgt := 19) dX12_oneOf_9 (by decide) (fun c_9 => absurd c_9 (by decide)) (fun c_9 => ?_)
    refine ev_iload_n dX12_oneOf_12 rfl rfl ?_
    refine ev_strS (d' := d - 1) dX12_oneOf_13 rfl kX12_kindName lX12_338 sX12_kindName (Nat.le_of_ble_eq_true rfl) (by omega) (c_X12_kindName h3 hlt) (fun a hs => ?_)
    refine ev_goto (tgt := 23) dX12_oneOf_16 (by decide) ?_
    refine mo_call1 (d' := d - 1) hE hT dX12_oneOf_23 rfl rfl kX12_eat lX12_317 iX12_eat vX12_eat (Nat.le_of_ble_eq_true rfl) (by omega) (c_X12_eat (L := ps_kn i) hE h3 (by omega) HU hs (by rw [mo_up_ne (by decide)]; exact hf)) (fun g hT => ?_)
    rw [ps_tx_31, hsk, ps_tw] at hT
    rw [ps_tx_31, hsk]
    refine ev_if_eq (tgt := 31) dX12_oneOf_26 (by decide) (fun c_26 => ?_) (fun c_26 => ?_)
    · rw [if_neg (by rw [mo_b_0 c_26]; decide)] at hT
      refine ev_iinc (v := nI (i + 1)) dX12_oneOf_31 rfl (by exact nI_1 i) rfl ?_
      refine ev_goto (tgt := 2) dX12_oneOf_34 (by decide) ?_
      exact ih (i + 1) _ (by omega) (by omega) hp.2 (ps_skn_i H.2.2.2) (ps_fnd_0 hfn (mo_b_0 c_26)) g hT
    · rw [if_pos (mo_b_1 c_26)] at hT
      refine ev_iload_n dX12_oneOf_29 rfl rfl ?_
      have q := ps_fnd_s (ps_fnd_1 hfn (mo_b_1 c_26)) (3 - (i + 1))
      rw [show i + 1 + (3 - (i + 1)) = 3 by omega] at q
      refine ev_iret dX12_oneOf_30 rfl rfl ⟨by rw [q]; rfl, ?_⟩
      rw [q]
      exact hT
theorem c_X12_oneOfK {G : ev_G} {W : mo_W} {d : Nat} {S : mo_S} {N h : Nat} (hE : ev_En G) (h3 : ev_En3 G) (hd : 8 ≤ d) (H : ps_at S N h) (hf : S.1 32 0 = 0) : mo_C G W d mX12_oneOf [.int 3, .int 1] S (some (.int (nI ((ps_fnd (ps_tx S) N (ps_skn (ps_tx S) N h) ps_kn 3).getD 0)))) (match (ps_fnd (ps_tx S) N (ps_skn (ps_tx S) N h) ps_kn 3) with | none => ps_wr S (ps_skn (ps_tx S) N h) 1 (ps_skn (ps_tx S) N h) | some k => mo_up S 31 0 (nI ((ps_skn (ps_tx S) N h) + (ps_kn k).length))) := by
  refine mo_start (lv0 := [some (.ref W.1), some (.int 3), some (.int 1), none]) (by decide +kernel) rfl (Nat.le_of_ble_eq_true rfl) rfl ?_
  intro g0 g hT
  rw [← mo_up_self H.2.2.1] at hT
  refine ev_iconst (v := nI 0) dX12_oneOf_0 (by decide) ?_
  refine ev_istore_n dX12_oneOf_1 rfl (Nat.le_of_ble_eq_true rfl) rfl ?_
  exact oo_K hE h3 hd H hf 4 0 h (by omega) (by omega) H.2.2.2 rfl rfl g hT
theorem oo_W {G : ev_G} {W : mo_W} {d : Nat} {g0 : ev_H} {S : mo_S} {N h : Nat} (hE : ev_En G) (h3 : ev_En3 G) (hd : 8 ≤ d) (H : ps_at S N h) (hf : S.1 32 0 = 0) : ∀ (n i e : Nat), i ≤ 4 → 4 < i + n → e ≤ N → ps_skn (ps_tx S) N e = (ps_skn (ps_tx S) N h) → (ps_fnd (ps_tx S) N (ps_skn (ps_tx S) N h) ps_wn i) = none → ∀ g, mo_T G W g0 g (mo_up S 31 0 (nI e)) → ev_V G d 0 0 mX12_oneOf (fun o g' => o = .inl (some (.int (nI ((ps_fnd (ps_tx S) N (ps_skn (ps_tx S) N h) ps_wn 4).getD 0)))) ∧ mo_T G W g0 g' (match (ps_fnd (ps_tx S) N (ps_skn (ps_tx S) N h) ps_wn 4) with | none => ps_wr S (ps_skn (ps_tx S) N h) 1 (ps_skn (ps_tx S) N h) | some k => mo_up S 31 0 (nI ((ps_skn (ps_tx S) N h) + (ps_wn k).length)))) g 2 [some (.ref W.1), some (.int 4), some (.int 0), some (.int (nI i))] [] := by
  intro n
  have hn3 := H.2.1
  have hp := ps_skn_in (t := (ps_tx S)) H.2.2.2
  induction n with
  | zero => intro i e h1 h2; exact absurd h2 (by omega)
  | succ n ih =>
    intro i e h1 h2 he hsk hfn g hT
    have HU := H.up he
    refine ev_iload_n dX12_oneOf_2 rfl rfl ?_
    refine ev_iload_n dX12_oneOf_3 rfl rfl ?_
    refine ev_icmp_ge (tgt := 37) dX12_oneOf_4 (by decide) (fun c_4 => ?_) (fun c_4 => ?_)
    · have e10 : i = 4 := by have q := mo_ige (R := 4) rfl (by decide) (by omega) c_4; omega
      subst e10
      refine ev_aload_n dX12_oneOf_37 rfl rfl ?_
      refine mo_call0 (d' := d - 1) hE hT dX12_oneOf_38 rfl rfl kX12_blanks lX12_225 iX12_blanks vX12_blanks (Nat.le_of_ble_eq_true rfl) (by omega) (c_X12_blanks hE (by omega) HU) (fun g hT => ?_)
      rw [ps_tx_31, hsk, ps_tw] at hT
      refine ev_aload_n dX12_oneOf_41 rfl rfl ?_
      refine ev_iconst (v := nI 1) dX12_oneOf_42 (by decide) ?_
      refine ev_aload_n dX12_oneOf_43 rfl rfl ?_
      refine mo_getiE (v := nI (ps_skn (ps_tx S) N h)) hE hT dX12_oneOf_44 fX12_215 (by decide) (by rw [mo_up_at, pk_us]) ?_
      refine mo_call2 (d' := d - 1) hE hT dX12_oneOf_47 rfl rfl kX12_wrong lX12_285 iX12_wrong vX12_wrong (Nat.le_of_ble_eq_true rfl) (by omega) (c_X12_wrong (x1 := nI 1) (x2 := nI (ps_skn (ps_tx S) N h)) hE) (fun g hT => ?_)
      rw [ps_wr_is hf] at hT
      refine ev_iconst (v := 0) dX12_oneOf_50 (by decide) ?_
      refine ev_iret dX12_oneOf_51 rfl rfl ⟨by rw [hfn]; rfl, ?_⟩
      rw [hfn]
      exact hT
    have hlt : i < 4 := mo_ilt (R := 4) rfl (by decide) (by omega) c_4
    refine ev_aload_n dX12_oneOf_7 rfl rfl ?_
    refine ev_iload_n dX12_oneOf_8 rfl rfl ?_
    refine ev_if_eq (tgt := 19) dX12_oneOf_9 (by decide) (fun c_9 => ?_) (fun c_9 => absurd rfl c_9)
    refine ev_iload_n dX12_oneOf_19 rfl rfl ?_
    refine ev_strS (d' := d - 1) dX12_oneOf_20 rfl kX12_wayName lX12_341 sX12_wayName (Nat.le_of_ble_eq_true rfl) (by omega) (c_X12_wayName h3 hlt) (fun a hs => ?_)
    refine mo_call1 (d' := d - 1) hE hT dX12_oneOf_23 rfl rfl kX12_eat lX12_317 iX12_eat vX12_eat (Nat.le_of_ble_eq_true rfl) (by omega) (c_X12_eat (L := ps_wn i) hE h3 (by omega) HU hs (by rw [mo_up_ne (by decide)]; exact hf)) (fun g hT => ?_)
    rw [ps_tx_31, hsk, ps_tw] at hT
    rw [ps_tx_31, hsk]
    refine ev_if_eq (tgt := 31) dX12_oneOf_26 (by decide) (fun c_26 => ?_) (fun c_26 => ?_)
    · rw [if_neg (by rw [mo_b_0 c_26]; decide)] at hT
      refine ev_iinc (v := nI (i + 1)) dX12_oneOf_31 rfl (by exact nI_1 i) rfl ?_
      refine ev_goto (tgt := 2) dX12_oneOf_34 (by decide) ?_
      exact ih (i + 1) _ (by omega) (by omega) hp.2 (ps_skn_i H.2.2.2) (ps_fnd_0 hfn (mo_b_0 c_26)) g hT
    · rw [if_pos (mo_b_1 c_26)] at hT
      refine ev_iload_n dX12_oneOf_29 rfl rfl ?_
      have q := ps_fnd_s (ps_fnd_1 hfn (mo_b_1 c_26)) (4 - (i + 1))
      rw [show i + 1 + (4 - (i + 1)) = 4 by omega] at q
      refine ev_iret dX12_oneOf_30 rfl rfl ⟨by rw [q]; rfl, ?_⟩
      rw [q]
      exact hT
theorem c_X12_oneOfW {G : ev_G} {W : mo_W} {d : Nat} {S : mo_S} {N h : Nat} (hE : ev_En G) (h3 : ev_En3 G) (hd : 8 ≤ d) (H : ps_at S N h) (hf : S.1 32 0 = 0) : mo_C G W d mX12_oneOf [.int 4, .int 0] S (some (.int (nI ((ps_fnd (ps_tx S) N (ps_skn (ps_tx S) N h) ps_wn 4).getD 0)))) (match (ps_fnd (ps_tx S) N (ps_skn (ps_tx S) N h) ps_wn 4) with | none => ps_wr S (ps_skn (ps_tx S) N h) 1 (ps_skn (ps_tx S) N h) | some k => mo_up S 31 0 (nI ((ps_skn (ps_tx S) N h) + (ps_wn k).length))) := by
  refine mo_start (lv0 := [some (.ref W.1), some (.int 4), some (.int 0), none]) (by decide +kernel) rfl (Nat.le_of_ble_eq_true rfl) rfl ?_
  intro g0 g hT
  rw [← mo_up_self H.2.2.1] at hT
  refine ev_iconst (v := nI 0) dX12_oneOf_0 (by decide) ?_
  refine ev_istore_n dX12_oneOf_1 rfl (Nat.le_of_ble_eq_true rfl) rfl ?_
  exact oo_W hE h3 hd H hf 5 0 h (by omega) (by omega) H.2.2.2 rfl rfl g hT
end M25
