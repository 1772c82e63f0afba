section M22
/-- a method of the reader, with k brackets still to open: what it reads -/
def ps_CM (G : ev_G) (W : mo_W) (d k : Nat) (M' : ev_M) (f : (Nat → Nat) → Nat → Nat → ps_R) : Prop := ∀ (S : mo_S) (N h o c O : Nat), ps_P S N h o c O → o + k = 8 → mo_Cr G W d M' [] S (fun r T => r = none ∧ ps_Q S N h c O (f (ps_tx S) N (ps_skn (ps_tx S) N h)) T)
/-- .. once a fault is known -/
def ps_CF (G : ev_G) (W : mo_W) (d : Nat) (M' : ev_M) : Prop := ∀ (S : mo_S) (N : Nat), ps_Ft S N → mo_Cr G W d M' [] S (fun r T => r = none ∧ ps_FR S N T)
theorem ps_G.tx {S T : mo_S} {N h c O e : Nat} {L : List (Int32 × Int32)} (h1 : ps_G S N h c O T e L) : ps_tx T = ps_tx S := h1.1.tx
theorem ps_FR.tx {S T : mo_S} {N : Nat} (h : ps_FR S N T) : ps_tx T = ps_tx S := by
  funext a
  unfold ps_tx
  rw [h.1 27 (by decide) (by decide)]
theorem ps_bt_0 {t : Nat → Nat} {N e : Nat} (h : N ≤ e) : ps_bt t N e = 0 := if_neg (by omega)

/-- a fault is known: back from the loop -/
theorem jf_product {G : ev_G} {W : mo_W} {d : Nat} {g0 : ev_H} {T : mo_S} {N : Nat} {PO : ev_P} {v1 : Option Value} (hE : ev_En G) (hf : ps_Ft T N) (K : ∀ g, mo_T G W g0 g T → PO (.inl none) g) : ∀ g, mo_T G W g0 g T → ev_V G d 0 0 mX12_product PO g 8 [some (.ref W.1), v1] [] := by
  intro g hT
  refine ev_aload_n dX12_product_8 rfl rfl ?_
  refine mo_geti hE hT dX12_product_9 fX12_222 (by decide) ?_
  refine ev_if_ne (tgt := 87) dX12_product_12 (by decide) (fun c_12 => ?_) (fun c_12 => absurd c_12 hf.ne.2)
  exact ev_vret dX12_product_87 rfl (K g hT)
/-- .. behind the second one's fault -/
theorem jg_product {G : ev_G} {W : mo_W} {d : Nat} {g0 : ev_H} {S T : mo_S} {N c O w pl : Nat} {v : Int32} {PO : ev_P} (hE : ev_En G) (hd : 3 ≤ d) (hB : ps_B S N c O T w pl) (K : ∀ U g, ps_B S N c O U w pl → mo_T G W g0 g U → PO (.inl none) g) : ∀ g, mo_T G W g0 g T → ev_V G d 0 0 mX12_product PO g 64 [some (.ref W.1), some (.int v)] [] := by
  intro g hT
  have hF := hB.f
  obtain ⟨e, he⟩ := hF.1
  have hbl := ps_skn_in (t := ps_tx T) he.2.2.2
  refine ev_aload_n dX12_product_64 rfl rfl ?_
  refine ev_iload_n dX12_product_65 rfl rfl ?_
  refine ev_bipush (v := 42) dX12_product_66 (by decide) ?_
  have K76 : ∀ z : Int32, ev_V G d 0 0 mX12_product PO g 76 [some (.ref W.1), some (.int v)] (.int z :: .ref W.1 :: []) := by
    intro z
    refine ev_iconst (v := 0) dX12_product_76 (by decide) ?_
    refine mo_call2 (d' := d - 1) hE hT dX12_product_77 rfl rfl kX12_emits lX12_305 iX12_emits vX12_emits (Nat.le_of_ble_eq_true rfl) (by omega) (c_X12_emitsF hE hF.ne.1) (fun g hT => ?_)
    refine ev_aload_n dX12_product_80 rfl rfl ?_
    refine mo_call0 (d' := d - 1) hE hT dX12_product_81 rfl rfl kX12_blanks lX12_225 iX12_blanks vX12_blanks (Nat.le_of_ble_eq_true rfl) (by omega) (c_X12_blanks hE (by omega) he) (fun g hT => ?_)
    refine ev_goto (tgt := 8) dX12_product_84 (by decide) ?_
    have hR := ps_FR.h (S := T) (N := N) (he.up hbl.2)
    exact jf_product hE (hR.f hF) (fun g hT => K _ g (hB.fr hR) hT) g hT
  refine ev_icmp_ne (tgt := 75) dX12_product_68 (by decide) (fun c_68 => ?_) (fun c_68 => ?_)
  · refine ev_iconst (v := 5) dX12_product_75 (by decide) ?_
    exact K76 _
  · refine ev_iconst (v := 4) dX12_product_71 (by decide) ?_
    refine ev_goto (tgt := 76) dX12_product_72 (by decide) ?_
    exact K76 _
theorem jl_product {G : ev_G} {W : mo_W} {d : Nat} {g0 : ev_H} {S : mo_S} {N h o c O k : Nat} {R : ps_R} {PO : ev_P} (hE : ev_En G) (hd : 3 ≤ d) (h0 : ps_P S N h o c O) (hok : o + k = 8) (hU : ps_CM G W (d - 1) k mX12_unit (fun t n => ps_unit t n (ps_inner t n k))) (K : ∀ T g, ps_Q S N h c O R T → mo_T G W g0 g T → PO (.inl none) g) : ∀ (m e : Nat) (T : mo_S) (L : List (Int32 × Int32)) (C : List Int32) (F : ps_F) (v1 : Option Value), ps_G S N h c O T e L → ps_skn (ps_tx S) N e = e → N ≤ e + m → R = ps_jn (ps_tx S) N (fun p => ps_unit (ps_tx S) N (ps_inner (ps_tx S) N k) p) 42 47 4 5 (-11) (-12) m e L C F → ∀ g, mo_T G W g0 g T → ev_V G d 0 0 mX12_product PO g 8 [some (.ref W.1), v1] [] := by
  intro m
  induction m with
  | zero =>
    intro e T L C F v1 hG hsk hN hR g hT
    have hPT := hG.P h0
    have hb0 : ps_bt (ps_tx S) N e = 0 := ps_bt_0 (by omega)
    have hat := hPT.1
    have hn3 := hat.2.1
    have heN := hat.2.2.2
    have hfin := K T g (by rw [hR]; exact ⟨e, hG, hsk⟩)
    refine ev_aload_n dX12_product_8 rfl rfl ?_
    refine mo_getiE (v := 0) hE hT dX12_product_9 fX12_222 (by decide) hPT.2.1 ?_
    refine ev_if_ne (tgt := 87) dX12_product_12 (by decide) (fun c_12 => absurd rfl c_12) (fun c_12 => ?_)
    refine ev_aload_n dX12_product_15 rfl rfl ?_
    refine ev_aload_n dX12_product_16 rfl rfl ?_
    refine mo_getiE (v := nI e) hE hT dX12_product_17 fX12_215 (by decide) hat.2.2.1 ?_
    refine mo_call1 (d' := d - 1) hE hT dX12_product_20 rfl rfl kX12_byteAt lX12_218 iX12_byteAt vX12_byteAt (Nat.le_of_ble_eq_true rfl) (by omega) (c_X12_byteAt (k := e) hE (by omega) hat) (fun g hT => ?_)
    rw [hG.tx, hb0]
    refine ev_bipush (v := 42) dX12_product_23 (by decide) ?_
    refine ev_icmp_eq (tgt := 41) dX12_product_25 (by decide) (fun c_25 => absurd c_25 (by decide)) (fun c_25 => ?_)
    refine ev_aload_n dX12_product_28 rfl rfl ?_
    refine ev_aload_n dX12_product_29 rfl rfl ?_
    refine mo_getiE (v := nI e) hE hT dX12_product_30 fX12_215 (by decide) hat.2.2.1 ?_
    refine mo_call1 (d' := d - 1) hE hT dX12_product_33 rfl rfl kX12_byteAt lX12_218 iX12_byteAt vX12_byteAt (Nat.le_of_ble_eq_true rfl) (by omega) (c_X12_byteAt (k := e) hE (by omega) hat) (fun g hT => ?_)
    rw [hG.tx, hb0]
    refine ev_bipush (v := 47) dX12_product_36 (by decide) ?_
    refine ev_icmp_ne (tgt := 87) dX12_product_38 (by decide) (fun c_38 => ?_) (fun c_38 => absurd c_38 (by decide))
    exact ev_vret dX12_product_87 rfl (K T g (by rw [hR]; exact ⟨e, hG, hsk⟩) hT)
  | succ m ih =>
    intro e T L C F v1 hG hsk hN hR g hT
    have hPT := hG.P h0
    have hat := hPT.1
    have hn3 := hat.2.1
    have heN := hat.2.2.2
    have hbl0 : ps_bt (ps_tx S) N e < 256 := ps_bt_lt
    have hch : h ≤ e := Nat.le_trans (Nat.le_add_right _ _) hG.2.2.1
    -- one more
    have one : ∀ (g : ev_H), mo_T G W g0 g T → (ps_bt (ps_tx S) N e = 42 ∨ ps_bt (ps_tx S) N e = 47) → ev_V G d 0 0 mX12_product PO g 41 [some (.ref W.1), v1] [] := by
      intro g hT hab
      have hlt : e < N := by
        rcases Nat.lt_or_ge e N with q | q
        · exact q
        · rw [ps_bt_0 q] at hab; omega
      refine ev_aload_n dX12_product_41 rfl rfl ?_
      refine ev_aload_n dX12_product_42 rfl rfl ?_
      refine mo_getiE (v := nI e) hE hT dX12_product_43 fX12_215 (by decide) hat.2.2.1 ?_
      refine mo_call1 (d' := d - 1) hE hT dX12_product_46 rfl rfl kX12_byteAt lX12_218 iX12_byteAt vX12_byteAt (Nat.le_of_ble_eq_true rfl) (by omega) (c_X12_byteAt (k := e) hE (by omega) hat) (fun g hT => ?_)
      rw [hG.tx]
      refine ev_istore_n (lv' := [some (.ref W.1), some (.int (nI (ps_bt (ps_tx S) N e)))]) dX12_product_49 rfl (Nat.le_of_ble_eq_true rfl) (by cases v1 <;> rfl) ?_
      refine ev_aload_n dX12_product_50 rfl rfl ?_
      refine ev_dup dX12_product_51 rfl ?_
      refine mo_getiE (v := nI e) hE hT dX12_product_52 fX12_215 (by decide) hat.2.2.1 ?_
      refine ev_iconst (v := 1) dX12_product_55 (by decide) ?_
      refine ev_iadd dX12_product_56 ?_
      rw [nI_1]
      refine mo_put hE hT dX12_product_57 pX12_215 (by decide) (fun g hT => ?_)
      have hG1 := hG.mv (e2 := e + 1) (by omega) (by omega)
      have hP1 := hG1.P h0
      refine ev_aload_n dX12_product_60 rfl rfl ?_
      refine mo_callr0 (d' := d - 1) hE hT dX12_product_61 rfl rfl kX12_unit lX12_308 iX12_unit vX12_unit (Nat.le_of_ble_eq_true rfl) (by omega) (hU _ _ _ _ _ _ hP1 hok) (fun r T2 g h8 hT => ?_)
      obtain ⟨rfl, h8⟩ := h8
      rw [hG1.tx] at h8
      cases hu : ps_unit (ps_tx S) N (ps_inner (ps_tx S) N k) (ps_skn (ps_tx S) N (e + 1)) with
      | inl q =>
        obtain ⟨w, pl⟩ := q
        dsimp only at h8; rw [hu] at h8
        have hB : ps_B S N c O T2 w pl := ps_B.t (h := h) (o := o) hG1 h8
        refine jg_product hE hd hB (fun U g hB hT => K U g ?_ hT) g hT
        rw [hR, ps_jn]
        rcases hab with q | q
        · rw [if_pos q]; rw [hu]; exact hB
        · rw [if_neg (by rw [q]; decide), if_pos q]; rw [hu]; exact hB
      | inr q =>
        obtain ⟨h2, L2, C2, F2⟩ := q
        dsimp only at h8; rw [hu] at h8
        obtain ⟨e2, hG2, hsk2⟩ := h8
        have hG3 := ps_G.t h0 hG1 hG2 (Nat.le_refl _)
        have hP3 := hG3.P h0
        have hle2 := hG2.2.2.1
        have hle1 := hG.2.2.1
        have he2 := hG2.2.1.2.2.2
        have hlen : (L ++ L2).length = L.length + L2.length := List.length_append
        rw [hG1.tx] at hsk2
        have hbl := ps_skn_in (t := ps_tx S) he2
        rw [hsk2] at hbl
        have hcO := h0.2.2.2.2.2.1
        have hem : ∀ z : Int32, ps_G S N h c O (ps_em T2 O (c + (L ++ L2).length) z 0) e2 (L ++ L2 ++ [(z, 0)]) := fun z => hG3.em h0 (by omega)
        have K76 : ∀ z : Int32, R = ps_jn (ps_tx S) N (fun p => ps_unit (ps_tx S) N (ps_inner (ps_tx S) N k) p) 42 47 4 5 (-11) (-12) m h2 (L ++ L2 ++ [(z, 0)]) (C ++ C2 ++ [if z = 4 then -11 else -12]) (fun v => sp_X12_worked z (F v) (F2 v)) → ev_V G d 0 0 mX12_product PO g 76 [some (.ref W.1), some (.int (nI (ps_bt (ps_tx S) N e)))] (.int z :: .ref W.1 :: []) := by
          intro z hz
          refine ev_iconst (v := 0) dX12_product_76 (by decide) ?_
          refine mo_call2 (d' := d - 1) hE hT dX12_product_77 rfl rfl kX12_emits lX12_305 iX12_emits vX12_emits (Nat.le_of_ble_eq_true rfl) (by omega) (c_X12_emits hE hP3.2.1 hP3.2.2.2.2.2.2.1 hP3.2.2.2.2.2.2.2 hP3.2.2.2.2.1 (by omega)) (fun g hT => ?_)
          have hG4 := hem z
          refine ev_aload_n dX12_product_80 rfl rfl ?_
          refine mo_call0 (d' := d - 1) hE hT dX12_product_81 rfl rfl kX12_blanks lX12_225 iX12_blanks vX12_blanks (Nat.le_of_ble_eq_true rfl) (by omega) (c_X12_blanks hE (by omega) hG4.2.1) (fun g hT => ?_)
          rw [hG4.tx, hsk2] at hT
          refine ev_goto (tgt := 8) dX12_product_84 (by decide) ?_
          exact ih h2 _ _ _ _ _ (hG4.mv hbl.1 hbl.2) (by rw [← hsk2]; exact ps_skn_i he2) (by omega) hz g hT
        refine ev_aload_n dX12_product_64 rfl rfl ?_
        refine ev_iload_n dX12_product_65 rfl rfl ?_
        refine ev_bipush (v := 42) dX12_product_66 (by decide) ?_
        refine ev_icmp_ne (tgt := 75) dX12_product_68 (by decide) (fun c_68 => ?_) (fun c_68 => ?_)
        · have hq : ¬ ps_bt (ps_tx S) N e = 42 := fun q => c_68 (by rw [q]; rfl)
          refine ev_iconst (v := 5) dX12_product_75 (by decide) ?_
          refine K76 _ ?_
          rw [hR, ps_jn, if_neg hq, if_pos (hab.resolve_left hq)]
          rw [hu]
          rfl
        · have hq : ps_bt (ps_tx S) N e = 42 := (nI_eq (by omega) (by decide)).mp (show nI (ps_bt (ps_tx S) N e) = nI 42 from c_68)
          refine ev_iconst (v := 4) dX12_product_71 (by decide) ?_
          refine ev_goto (tgt := 76) dX12_product_72 (by decide) ?_
          refine K76 _ ?_
          rw [hR, ps_jn, if_pos hq]
          rw [hu]
          rfl
    refine ev_aload_n dX12_product_8 rfl rfl ?_
    refine mo_getiE (v := 0) hE hT dX12_product_9 fX12_222 (by decide) hPT.2.1 ?_
    refine ev_if_ne (tgt := 87) dX12_product_12 (by decide) (fun c_12 => absurd rfl c_12) (fun c_12 => ?_)
    refine ev_aload_n dX12_product_15 rfl rfl ?_
    refine ev_aload_n dX12_product_16 rfl rfl ?_
    refine mo_getiE (v := nI e) hE hT dX12_product_17 fX12_215 (by decide) hat.2.2.1 ?_
    refine mo_call1 (d' := d - 1) hE hT dX12_product_20 rfl rfl kX12_byteAt lX12_218 iX12_byteAt vX12_byteAt (Nat.le_of_ble_eq_true rfl) (by omega) (c_X12_byteAt (k := e) hE (by omega) hat) (fun g hT => ?_)
    rw [hG.tx]
    refine ev_bipush (v := 42) dX12_product_23 (by decide) ?_
    refine ev_icmp_eq (tgt := 41) dX12_product_25 (by decide) (fun c_25 => ?_) (fun c_25 => ?_)
    · exact one g hT (Or.inl ((nI_eq (by omega) (by decide)).mp (show nI (ps_bt (ps_tx S) N e) = nI 42 from c_25)))
    have hq : ¬ ps_bt (ps_tx S) N e = 42 := fun q => c_25 (by rw [q]; rfl)
    refine ev_aload_n dX12_product_28 rfl rfl ?_
    refine ev_aload_n dX12_product_29 rfl rfl ?_
    refine mo_getiE (v := nI e) hE hT dX12_product_30 fX12_215 (by decide) hat.2.2.1 ?_
    refine mo_call1 (d' := d - 1) hE hT dX12_product_33 rfl rfl kX12_byteAt lX12_218 iX12_byteAt vX12_byteAt (Nat.le_of_ble_eq_true rfl) (by omega) (c_X12_byteAt (k := e) hE (by omega) hat) (fun g hT => ?_)
    rw [hG.tx]
    refine ev_bipush (v := 47) dX12_product_36 (by decide) ?_
    refine ev_icmp_ne (tgt := 87) dX12_product_38 (by decide) (fun c_38 => ?_) (fun c_38 => ?_)
    · refine ev_vret dX12_product_87 rfl (K T g ?_ hT)
      rw [hR, ps_jn, if_neg hq, if_neg (fun q => c_38 (by rw [q]; rfl))]
      exact ⟨e, hG, hsk⟩
    · exact one g hT (Or.inr ((nI_eq (by omega) (by decide)).mp (show nI (ps_bt (ps_tx S) N e) = nI 47 from c_38)))
theorem c_X12_product {G : ev_G} {W : mo_W} {d k : Nat} (hE : ev_En G) (hd : 3 ≤ d) (hU : ps_CM G W (d - 1) k mX12_unit (fun t n => ps_unit t n (ps_inner t n k))) : ps_CM G W d k mX12_product (fun t n => ps_prod t n (ps_inner t n k)) := by
  intro S N h o c O h0 hok
  refine mo_startr (lv0 := [some (.ref W.1), none]) (by decide +kernel) rfl (Nat.le_of_ble_eq_true rfl) rfl ?_
  intro g0 g hT
  refine ev_aload_n dX12_product_0 rfl rfl ?_
  refine mo_callr0 (d' := d - 1) hE hT dX12_product_1 rfl rfl kX12_unit lX12_308 iX12_unit vX12_unit (Nat.le_of_ble_eq_true rfl) (by omega) (hU _ _ _ _ _ _ h0 hok) (fun r T g h8 hT => ?_)
  obtain ⟨rfl, h8⟩ := h8
  refine ev_aload_n dX12_product_4 rfl rfl ?_
  cases hu : ps_unit (ps_tx S) N (ps_inner (ps_tx S) N k) (ps_skn (ps_tx S) N h) with
  | inl q =>
    obtain ⟨w, pl⟩ := q
    dsimp only at h8; rw [hu] at h8
    have hB : ps_B S N c O T w pl := h8
    have hF := hB.f
    obtain ⟨e, he⟩ := hF.1
    have hbl := ps_skn_in (t := ps_tx T) he.2.2.2
    refine mo_call0 (d' := d - 1) hE hT dX12_product_5 rfl rfl kX12_blanks lX12_225 iX12_blanks vX12_blanks (Nat.le_of_ble_eq_true rfl) (by omega) (c_X12_blanks hE (by omega) he) (fun g hT => ?_)
    have hR := ps_FR.h (S := T) (N := N) (he.up hbl.2)
    refine jf_product hE (hR.f hF) (fun g hT => ⟨_, _, rfl, ⟨rfl, ?_⟩, hT⟩) g hT
    dsimp only
    rw [ps_prod, hu]
    exact hB.fr hR
  | inr q =>
    obtain ⟨h2, L, C, F⟩ := q
    dsimp only at h8; rw [hu] at h8
    obtain ⟨e, hG, hsk⟩ := h8
    have he := hG.2.1.2.2.2
    have hbl := ps_skn_in (t := ps_tx S) he
    rw [hsk] at hbl
    refine mo_call0 (d' := d - 1) hE hT dX12_product_5 rfl rfl kX12_blanks lX12_225 iX12_blanks vX12_blanks (Nat.le_of_ble_eq_true rfl) (by omega) (c_X12_blanks hE (by omega) hG.2.1) (fun g hT => ?_)
    rw [hG.tx, hsk] at hT
    refine jl_product (R := ps_prod (ps_tx S) N (ps_inner (ps_tx S) N k) (ps_skn (ps_tx S) N h)) hE hd h0 hok hU (fun T g hQ hT => ⟨_, _, rfl, ⟨rfl, hQ⟩, hT⟩) N h2 _ L C F none (hG.mv hbl.1 hbl.2) (by rw [← hsk]; exact ps_skn_i he) (by omega) ?_ g hT
    rw [ps_prod, hu]
    rfl
theorem cF_X12_product {G : ev_G} {W : mo_W} {d : Nat} (hE : ev_En G) (hd : 3 ≤ d) (hU : ps_CF G W (d - 1) mX12_unit) : ps_CF G W d mX12_product := by
  intro S N hF
  refine mo_startr (lv0 := [some (.ref W.1), none]) (by decide +kernel) rfl (Nat.le_of_ble_eq_true rfl) rfl ?_
  intro g0 g hT
  refine ev_aload_n dX12_product_0 rfl rfl ?_
  refine mo_callr0 (d' := d - 1) hE hT dX12_product_1 rfl rfl kX12_unit lX12_308 iX12_unit vX12_unit (Nat.le_of_ble_eq_true rfl) (by omega) (hU _ _ hF) (fun r T g h8 hT => ?_)
  obtain ⟨rfl, h8⟩ := h8
  obtain ⟨e, he⟩ := h8.2
  have hbl := ps_skn_in (t := ps_tx T) he.2.2.2
  refine ev_aload_n dX12_product_4 rfl rfl ?_
  refine mo_call0 (d' := d - 1) hE hT dX12_product_5 rfl rfl kX12_blanks lX12_225 iX12_blanks vX12_blanks (Nat.le_of_ble_eq_true rfl) (by omega) (c_X12_blanks hE (by omega) he) (fun g hT => ?_)
  have hR := h8.t (ps_FR.h (S := T) (N := N) (he.up hbl.2))
  exact jf_product hE (hR.f hF) (fun g hT => ⟨_, _, rfl, ⟨rfl, hR⟩, hT⟩) g hT
/-- a fault is known: back from the loop -/
theorem jf_sum {G : ev_G} {W : mo_W} {d : Nat} {g0 : ev_H} {T : mo_S} {N : Nat} {PO : ev_P} {v1 : Option Value} (hE : ev_En G) (hf : ps_Ft T N) (K : ∀ g, mo_T G W g0 g T → PO (.inl none) g) : ∀ g, mo_T G W g0 g T → ev_V G d 0 0 mX12_sum PO g 8 [some (.ref W.1), v1] [] := by
  intro g hT
  refine ev_aload_n dX12_sum_8 rfl rfl ?_
  refine mo_geti hE hT dX12_sum_9 fX12_222 (by decide) ?_
  refine ev_if_ne (tgt := 87) dX12_sum_12 (by decide) (fun c_12 => ?_) (fun c_12 => absurd c_12 hf.ne.2)
  exact ev_vret dX12_sum_87 rfl (K g hT)
/-- .. behind the second one's fault -/
theorem jg_sum {G : ev_G} {W : mo_W} {d : Nat} {g0 : ev_H} {S T : mo_S} {N c O w pl : Nat} {v : Int32} {PO : ev_P} (hE : ev_En G) (hd : 3 ≤ d) (hB : ps_B S N c O T w pl) (K : ∀ U g, ps_B S N c O U w pl → mo_T G W g0 g U → PO (.inl none) g) : ∀ g, mo_T G W g0 g T → ev_V G d 0 0 mX12_sum PO g 64 [some (.ref W.1), some (.int v)] [] := by
  intro g hT
  have hF := hB.f
  obtain ⟨e, he⟩ := hF.1
  have hbl := ps_skn_in (t := ps_tx T) he.2.2.2
  refine ev_aload_n dX12_sum_64 rfl rfl ?_
  refine ev_iload_n dX12_sum_65 rfl rfl ?_
  refine ev_bipush (v := 43) dX12_sum_66 (by decide) ?_
  have K76 : ∀ z : Int32, ev_V G d 0 0 mX12_sum PO g 76 [some (.ref W.1), some (.int v)] (.int z :: .ref W.1 :: []) := by
    intro z
    refine ev_iconst (v := 0) dX12_sum_76 (by decide) ?_
    refine mo_call2 (d' := d - 1) hE hT dX12_sum_77 rfl rfl kX12_emits lX12_305 iX12_emits vX12_emits (Nat.le_of_ble_eq_true rfl) (by omega) (c_X12_emitsF hE hF.ne.1) (fun g hT => ?_)
    refine ev_aload_n dX12_sum_80 rfl rfl ?_
    refine mo_call0 (d' := d - 1) hE hT dX12_sum_81 rfl rfl kX12_blanks lX12_225 iX12_blanks vX12_blanks (Nat.le_of_ble_eq_true rfl) (by omega) (c_X12_blanks hE (by omega) he) (fun g hT => ?_)
    refine ev_goto (tgt := 8) dX12_sum_84 (by decide) ?_
    have hR := ps_FR.h (S := T) (N := N) (he.up hbl.2)
    exact jf_sum hE (hR.f hF) (fun g hT => K _ g (hB.fr hR) hT) g hT
  refine ev_icmp_ne (tgt := 75) dX12_sum_68 (by decide) (fun c_68 => ?_) (fun c_68 => ?_)
  · refine ev_iconst (v := 3) dX12_sum_75 (by decide) ?_
    exact K76 _
  · refine ev_iconst (v := 2) dX12_sum_71 (by decide) ?_
    refine ev_goto (tgt := 76) dX12_sum_72 (by decide) ?_
    exact K76 _
theorem jl_sum {G : ev_G} {W : mo_W} {d : Nat} {g0 : ev_H} {S : mo_S} {N h o c O k : Nat} {R : ps_R} {PO : ev_P} (hE : ev_En G) (hd : 3 ≤ d) (h0 : ps_P S N h o c O) (hok : o + k = 8) (hU : ps_CM G W (d - 1) k mX12_product (fun t n => ps_prod t n (ps_inner t n k))) (K : ∀ T g, ps_Q S N h c O R T → mo_T G W g0 g T → PO (.inl none) g) : ∀ (m e : Nat) (T : mo_S) (L : List (Int32 × Int32)) (C : List Int32) (F : ps_F) (v1 : Option Value), ps_G S N h c O T e L → ps_skn (ps_tx S) N e = e → N ≤ e + m → R = ps_jn (ps_tx S) N (fun p => ps_prod (ps_tx S) N (ps_inner (ps_tx S) N k) p) 43 45 2 3 (-9) (-10) m e L C F → ∀ g, mo_T G W g0 g T → ev_V G d 0 0 mX12_sum PO g 8 [some (.ref W.1), v1] [] := by
  intro m
  induction m with
  | zero =>
    intro e T L C F v1 hG hsk hN hR g hT
    have hPT := hG.P h0
    have hb0 : ps_bt (ps_tx S) N e = 0 := ps_bt_0 (by omega)
    have hat := hPT.1
    have hn3 := hat.2.1
    have heN := hat.2.2.2
    have hfin := K T g (by rw [hR]; exact ⟨e, hG, hsk⟩)
    refine ev_aload_n dX12_sum_8 rfl rfl ?_
    refine mo_getiE (v := 0) hE hT dX12_sum_9 fX12_222 (by decide) hPT.2.1 ?_
    refine ev_if_ne (tgt := 87) dX12_sum_12 (by decide) (fun c_12 => absurd rfl c_12) (fun c_12 => ?_)
    refine ev_aload_n dX12_sum_15 rfl rfl ?_
    refine ev_aload_n dX12_sum_16 rfl rfl ?_
    refine mo_getiE (v := nI e) hE hT dX12_sum_17 fX12_215 (by decide) hat.2.2.1 ?_
    refine mo_call1 (d' := d - 1) hE hT dX12_sum_20 rfl rfl kX12_byteAt lX12_218 iX12_byteAt vX12_byteAt (Nat.le_of_ble_eq_true rfl) (by omega) (c_X12_byteAt (k := e) hE (by omega) hat) (fun g hT => ?_)
    rw [hG.tx, hb0]
    refine ev_bipush (v := 43) dX12_sum_23 (by decide) ?_
    refine ev_icmp_eq (tgt := 41) dX12_sum_25 (by decide) (fun c_25 => absurd c_25 (by decide)) (fun c_25 => ?_)
    refine ev_aload_n dX12_sum_28 rfl rfl ?_
    refine ev_aload_n dX12_sum_29 rfl rfl ?_
    refine mo_getiE (v := nI e) hE hT dX12_sum_30 fX12_215 (by decide) hat.2.2.1 ?_
    refine mo_call1 (d' := d - 1) hE hT dX12_sum_33 rfl rfl kX12_byteAt lX12_218 iX12_byteAt vX12_byteAt (Nat.le_of_ble_eq_true rfl) (by omega) (c_X12_byteAt (k := e) hE (by omega) hat) (fun g hT => ?_)
    rw [hG.tx, hb0]
    refine ev_bipush (v := 45) dX12_sum_36 (by decide) ?_
    refine ev_icmp_ne (tgt := 87) dX12_sum_38 (by decide) (fun c_38 => ?_) (fun c_38 => absurd c_38 (by decide))
    exact ev_vret dX12_sum_87 rfl (K T g (by rw [hR]; exact ⟨e, hG, hsk⟩) hT)
  | succ m ih =>
    intro e T L C F v1 hG hsk hN hR g hT
    have hPT := hG.P h0
    have hat := hPT.1
    have hn3 := hat.2.1
    have heN := hat.2.2.2
    have hbl0 : ps_bt (ps_tx S) N e < 256 := ps_bt_lt
    have hch : h ≤ e := Nat.le_trans (Nat.le_add_right _ _) hG.2.2.1
    -- one more
    have one : ∀ (g : ev_H), mo_T G W g0 g T → (ps_bt (ps_tx S) N e = 43 ∨ ps_bt (ps_tx S) N e = 45) → ev_V G d 0 0 mX12_sum PO g 41 [some (.ref W.1), v1] [] := by
      intro g hT hab
      have hlt : e < N := by
        rcases Nat.lt_or_ge e N with q | q
        · exact q
        · rw [ps_bt_0 q] at hab; omega
      refine ev_aload_n dX12_sum_41 rfl rfl ?_
      refine ev_aload_n dX12_sum_42 rfl rfl ?_
      refine mo_getiE (v := nI e) hE hT dX12_sum_43 fX12_215 (by decide) hat.2.2.1 ?_
      refine mo_call1 (d' := d - 1) hE hT dX12_sum_46 rfl rfl kX12_byteAt lX12_218 iX12_byteAt vX12_byteAt (Nat.le_of_ble_eq_true rfl) (by omega) (c_X12_byteAt (k := e) hE (by omega) hat) (fun g hT => ?_)
      rw [hG.tx]
      refine ev_istore_n (lv' := [some (.ref W.1), some (.int (nI (ps_bt (ps_tx S) N e)))]) dX12_sum_49 rfl (Nat.le_of_ble_eq_true rfl) (by cases v1 <;> rfl) ?_
      refine ev_aload_n dX12_sum_50 rfl rfl ?_
      refine ev_dup dX12_sum_51 rfl ?_
      refine mo_getiE (v := nI e) hE hT dX12_sum_52 fX12_215 (by decide) hat.2.2.1 ?_
      refine ev_iconst (v := 1) dX12_sum_55 (by decide) ?_
      refine ev_iadd dX12_sum_56 ?_
      rw [nI_1]
      refine mo_put hE hT dX12_sum_57 pX12_215 (by decide) (fun g hT => ?_)
      have hG1 := hG.mv (e2 := e + 1) (by omega) (by omega)
      have hP1 := hG1.P h0
      refine ev_aload_n dX12_sum_60 rfl rfl ?_
      refine mo_callr0 (d' := d - 1) hE hT dX12_sum_61 rfl rfl kX12_product lX12_302 iX12_product vX12_product (Nat.le_of_ble_eq_true rfl) (by omega) (hU _ _ _ _ _ _ hP1 hok) (fun r T2 g h8 hT => ?_)
      obtain ⟨rfl, h8⟩ := h8
      rw [hG1.tx] at h8
      cases hu : ps_prod (ps_tx S) N (ps_inner (ps_tx S) N k) (ps_skn (ps_tx S) N (e + 1)) with
      | inl q =>
        obtain ⟨w, pl⟩ := q
        dsimp only at h8; rw [hu] at h8
        have hB : ps_B S N c O T2 w pl := ps_B.t (h := h) (o := o) hG1 h8
        refine jg_sum hE hd hB (fun U g hB hT => K U g ?_ hT) g hT
        rw [hR, ps_jn]
        rcases hab with q | q
        · rw [if_pos q]; rw [hu]; exact hB
        · rw [if_neg (by rw [q]; decide), if_pos q]; rw [hu]; exact hB
      | inr q =>
        obtain ⟨h2, L2, C2, F2⟩ := q
        dsimp only at h8; rw [hu] at h8
        obtain ⟨e2, hG2, hsk2⟩ := h8
        have hG3 := ps_G.t h0 hG1 hG2 (Nat.le_refl _)
        have hP3 := hG3.P h0
        have hle2 := hG2.2.2.1
        have hle1 := hG.2.2.1
        have he2 := hG2.2.1.2.2.2
        have hlen : (L ++ L2).length = L.length + L2.length := List.length_append
        rw [hG1.tx] at hsk2
        have hbl := ps_skn_in (t := ps_tx S) he2
        rw [hsk2] at hbl
        have hcO := h0.2.2.2.2.2.1
        have hem : ∀ z : Int32, ps_G S N h c O (ps_em T2 O (c + (L ++ L2).length) z 0) e2 (L ++ L2 ++ [(z, 0)]) := fun z => hG3.em h0 (by omega)
        have K76 : ∀ z : Int32, R = ps_jn (ps_tx S) N (fun p => ps_prod (ps_tx S) N (ps_inner (ps_tx S) N k) p) 43 45 2 3 (-9) (-10) m h2 (L ++ L2 ++ [(z, 0)]) (C ++ C2 ++ [if z = 2 then -9 else -10]) (fun v => sp_X12_worked z (F v) (F2 v)) → ev_V G d 0 0 mX12_sum PO g 76 [some (.ref W.1), some (.int (nI (ps_bt (ps_tx S) N e)))] (.int z :: .ref W.1 :: []) := by
          intro z hz
          refine ev_iconst (v := 0) dX12_sum_76 (by decide) ?_
          refine mo_call2 (d' := d - 1) hE hT dX12_sum_77 rfl rfl kX12_emits lX12_305 iX12_emits vX12_emits (Nat.le_of_ble_eq_true rfl) (by omega) (c_X12_emits hE hP3.2.1 hP3.2.2.2.2.2.2.1 hP3.2.2.2.2.2.2.2 hP3.2.2.2.2.1 (by omega)) (fun g hT => ?_)
          have hG4 := hem z
          refine ev_aload_n dX12_sum_80 rfl rfl ?_
          refine mo_call0 (d' := d - 1) hE hT dX12_sum_81 rfl rfl kX12_blanks lX12_225 iX12_blanks vX12_blanks (Nat.le_of_ble_eq_true rfl) (by omega) (c_X12_blanks hE (by omega) hG4.2.1) (fun g hT => ?_)
          rw [hG4.tx, hsk2] at hT
          refine ev_goto (tgt := 8) dX12_sum_84 (by decide) ?_
          exact ih h2 _ _ _ _ _ (hG4.mv hbl.1 hbl.2) (by rw [← hsk2]; exact ps_skn_i he2) (by omega) hz g hT
        refine ev_aload_n dX12_sum_64 rfl rfl ?_
        refine ev_iload_n dX12_sum_65 rfl rfl ?_
        refine ev_bipush (v := 43) dX12_sum_66 (by decide) ?_
        refine ev_icmp_ne (tgt := 75) dX12_sum_68 (by decide) (fun c_68 => ?_) (fun c_68 => ?_)
        · have hq : ¬ ps_bt (ps_tx S) N e = 43 := fun q => c_68 (by rw [q]; rfl)
          refine ev_iconst (v := 3) dX12_sum_75 (by decide) ?_
          refine K76 _ ?_
          rw [hR, ps_jn, if_neg hq, if_pos (hab.resolve_left hq)]
          rw [hu]
          rfl
        · have hq : ps_bt (ps_tx S) N e = 43 := (nI_eq (by omega) (by decide)).mp (show nI (ps_bt (ps_tx S) N e) = nI 43 from c_68)
          refine ev_iconst (v := 2) dX12_sum_71 (by decide) ?_
          refine ev_goto (tgt := 76) dX12_sum_72 (by decide) ?_
          refine K76 _ ?_
          rw [hR, ps_jn, if_pos hq]
          rw [hu]
          rfl
    refine ev_aload_n dX12_sum_8 rfl rfl ?_
    refine mo_getiE (v := 0) hE hT dX12_sum_9 fX12_222 (by decide) hPT.2.1 ?_
    refine ev_if_ne (tgt := 87) dX12_sum_12 (by decide) (fun c_12 => absurd rfl c_12) (fun c_12 => ?_)
    refine ev_aload_n dX12_sum_15 rfl rfl ?_
    refine ev_aload_n dX12_sum_16 rfl rfl ?_
    refine mo_getiE (v := nI e) hE hT dX12_sum_17 fX12_215 (by decide) hat.2.2.1 ?_
    refine mo_call1 (d' := d - 1) hE hT dX12_sum_20 rfl rfl kX12_byteAt lX12_218 iX12_byteAt vX12_byteAt (Nat.le_of_ble_eq_true rfl) (by omega) (c_X12_byteAt (k := e) hE (by omega) hat) (fun g hT => ?_)
    rw [hG.tx]
    refine ev_bipush (v := 43) dX12_sum_23 (by decide) ?_
    refine ev_icmp_eq (tgt := 41) dX12_sum_25 (by decide) (fun c_25 => ?_) (fun c_25 => ?_)
    · exact one g hT (Or.inl ((nI_eq (by omega) (by decide)).mp (show nI (ps_bt (ps_tx S) N e) = nI 43 from c_25)))
    have hq : ¬ ps_bt (ps_tx S) N e = 43 := fun q => c_25 (by rw [q]; rfl)
    refine ev_aload_n dX12_sum_28 rfl rfl ?_
    refine ev_aload_n dX12_sum_29 rfl rfl ?_
    refine mo_getiE (v := nI e) hE hT dX12_sum_30 fX12_215 (by decide) hat.2.2.1 ?_
    refine mo_call1 (d' := d - 1) hE hT dX12_sum_33 rfl rfl kX12_byteAt lX12_218 iX12_byteAt vX12_byteAt (Nat.le_of_ble_eq_true rfl) (by omega) (c_X12_byteAt (k := e) hE (by omega) hat) (fun g hT => ?_)
    rw [hG.tx]
    refine ev_bipush (v := 45) dX12_sum_36 (by decide) ?_
    refine ev_icmp_ne (tgt := 87) dX12_sum_38 (by decide) (fun c_38 => ?_) (fun c_38 => ?_)
    · refine ev_vret dX12_sum_87 rfl (K T g ?_ hT)
      rw [hR, ps_jn, if_neg hq, if_neg (fun q => c_38 (by rw [q]; rfl))]
      exact ⟨e, hG, hsk⟩
    · exact one g hT (Or.inr ((nI_eq (by omega) (by decide)).mp (show nI (ps_bt (ps_tx S) N e) = nI 45 from c_38)))
theorem c_X12_sum {G : ev_G} {W : mo_W} {d k : Nat} (hE : ev_En G) (hd : 3 ≤ d) (hU : ps_CM G W (d - 1) k mX12_product (fun t n => ps_prod t n (ps_inner t n k))) : ps_CM G W d k mX12_sum (fun t n => ps_lev t n (ps_inner t n k)) := by
  intro S N h o c O h0 hok
  refine mo_startr (lv0 := [some (.ref W.1), none]) (by decide +kernel) rfl (Nat.le_of_ble_eq_true rfl) rfl ?_
  intro g0 g hT
  refine ev_aload_n dX12_sum_0 rfl rfl ?_
  refine mo_callr0 (d' := d - 1) hE hT dX12_sum_1 rfl rfl kX12_product lX12_302 iX12_product vX12_product (Nat.le_of_ble_eq_true rfl) (by omega) (hU _ _ _ _ _ _ h0 hok) (fun r T g h8 hT => ?_)
  obtain ⟨rfl, h8⟩ := h8
  refine ev_aload_n dX12_sum_4 rfl rfl ?_
  cases hu : ps_prod (ps_tx S) N (ps_inner (ps_tx S) N k) (ps_skn (ps_tx S) N h) with
  | inl q =>
    obtain ⟨w, pl⟩ := q
    dsimp only at h8; rw [hu] at h8
    have hB : ps_B S N c O T w pl := h8
    have hF := hB.f
    obtain ⟨e, he⟩ := hF.1
    have hbl := ps_skn_in (t := ps_tx T) he.2.2.2
    refine mo_call0 (d' := d - 1) hE hT dX12_sum_5 rfl rfl kX12_blanks lX12_225 iX12_blanks vX12_blanks (Nat.le_of_ble_eq_true rfl) (by omega) (c_X12_blanks hE (by omega) he) (fun g hT => ?_)
    have hR := ps_FR.h (S := T) (N := N) (he.up hbl.2)
    refine jf_sum hE (hR.f hF) (fun g hT => ⟨_, _, rfl, ⟨rfl, ?_⟩, hT⟩) g hT
    dsimp only
    rw [ps_lev, hu]
    exact hB.fr hR
  | inr q =>
    obtain ⟨h2, L, C, F⟩ := q
    dsimp only at h8; rw [hu] at h8
    obtain ⟨e, hG, hsk⟩ := h8
    have he := hG.2.1.2.2.2
    have hbl := ps_skn_in (t := ps_tx S) he
    rw [hsk] at hbl
    refine mo_call0 (d' := d - 1) hE hT dX12_sum_5 rfl rfl kX12_blanks lX12_225 iX12_blanks vX12_blanks (Nat.le_of_ble_eq_true rfl) (by omega) (c_X12_blanks hE (by omega) hG.2.1) (fun g hT => ?_)
    rw [hG.tx, hsk] at hT
    refine jl_sum (R := ps_lev (ps_tx S) N (ps_inner (ps_tx S) N k) (ps_skn (ps_tx S) N h)) hE hd h0 hok hU (fun T g hQ hT => ⟨_, _, rfl, ⟨rfl, hQ⟩, hT⟩) N h2 _ L C F none (hG.mv hbl.1 hbl.2) (by rw [← hsk]; exact ps_skn_i he) (by omega) ?_ g hT
    rw [ps_lev, hu]
    rfl
theorem cF_X12_sum {G : ev_G} {W : mo_W} {d : Nat} (hE : ev_En G) (hd : 3 ≤ d) (hU : ps_CF G W (d - 1) mX12_product) : ps_CF G W d mX12_sum := by
  intro S N hF
  refine mo_startr (lv0 := [some (.ref W.1), none]) (by decide +kernel) rfl (Nat.le_of_ble_eq_true rfl) rfl ?_
  intro g0 g hT
  refine ev_aload_n dX12_sum_0 rfl rfl ?_
  refine mo_callr0 (d' := d - 1) hE hT dX12_sum_1 rfl rfl kX12_product lX12_302 iX12_product vX12_product (Nat.le_of_ble_eq_true rfl) (by omega) (hU _ _ hF) (fun r T g h8 hT => ?_)
  obtain ⟨rfl, h8⟩ := h8
  obtain ⟨e, he⟩ := h8.2
  have hbl := ps_skn_in (t := ps_tx T) he.2.2.2
  refine ev_aload_n dX12_sum_4 rfl rfl ?_
  refine mo_call0 (d' := d - 1) hE hT dX12_sum_5 rfl rfl kX12_blanks lX12_225 iX12_blanks vX12_blanks (Nat.le_of_ble_eq_true rfl) (by omega) (c_X12_blanks hE (by omega) he) (fun g hT => ?_)
  have hR := h8.t (ps_FR.h (S := T) (N := N) (he.up hbl.2))
  exact jf_sum hE (hR.f hF) (fun g hT => ⟨_, _, rfl, ⟨rfl, hR⟩, hT⟩) g hT
end M22
