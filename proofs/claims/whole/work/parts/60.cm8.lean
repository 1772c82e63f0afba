section CM8
/-- the same but for these fields -/
def cx_eqX (X : List Nat) (T C : mo_S) : Prop := ∀ f, f ∉ X → T.1 f = C.1 f
theorem cx_eqX.r {X : List Nat} (C : mo_S) : cx_eqX X C C := fun _ _ => rfl
theorem cx_eqX.up {X : List Nat} {T C : mo_S} {f i : Nat} {v : Int32} (h : cx_eqX X T C) (hf : f ∈ X) : cx_eqX X (mo_up T f i v) C := fun k hk => by rw [mo_up_ne (fun e => hk (by rw [e]; exact hf))]; exact h k hk
theorem cx_eqX.upL {X : List Nat} {T C : mo_S} {i : Nat} {v : Int64} (h : cx_eqX X T C) : cx_eqX X (mo_upL T i v) C := h
theorem cx_eqX.fl {X : List Nat} {T C : mo_S} {f n : Nat} {e : Nat → Nat} {v : Int32} (h : cx_eqX X T C) (hf : f ∈ X) : cx_eqX X (cx_fl T f e v n) C := fun k hk => by rw [cx_fl_ne (fun e => hk (by rw [e]; exact hf))]; exact h k hk
theorem cx_eqX.t {X : List Nat} {U T C : mo_S} (h : cx_eqX X U T) (h2 : cx_eqX X T C) : cx_eqX X U C := fun k hk => (h k hk).trans (h2 k hk)
theorem cx_eqX.mono {X Y : List Nat} {T C : mo_S} (h : cx_eqX X T C) (hs : ∀ k, k ∈ X → k ∈ Y) : cx_eqX Y T C := fun k hk => h k (fun q => hk (hs k q))
theorem cl_min {a b : Nat} (ha : a < 2147483648) (hb : b < 2147483648) : cj_min (nI a) (nI b) = nI (min a b) := by
  unfold cj_min
  by_cases h : b < a
  · rw [if_pos (nI_lt h ha), Nat.min_eq_right (by omega)]
  · rw [if_neg (nI_nlt (by omega) hb), Nat.min_eq_left (by omega)]
theorem cl_flat {C : mo_S} {f n j : Nat} {v : Int32} (h : j < n) : (cx_fl C f (fun j => j) v n).1 f j = v := cx_fl_at (e := fun j => j) n j h
theorem cl_adm {C : mo_S} {p : Nat} : cx_X5_isAdmitted C p = decide (C.1 12 p = 1) := by
  unfold cx_X5_isAdmitted
  split <;> simp_all
/-- who is in -/
def cx_I (C : mo_S) (p : Nat) : Bool := decide (C.1 12 p = 1)
theorem cl_I1 {T C : mo_S} {p : Nat} (h : T.1 12 = C.1 12) (c : ¬ mo_b (cx_X5_isAdmitted T p) = 0) : cx_I C p = true := by
  have := mo_b1 c
  rw [cl_adm, h] at this
  exact this
theorem cl_I0 {T C : mo_S} {p : Nat} (h : T.1 12 = C.1 12) (c : mo_b (cx_X5_isAdmitted T p) = 0) : ¬ cx_I C p = true := by
  have := mo_b0 c
  rw [cl_adm, h] at this
  exact this
theorem c_X6_giveLeast {G : ev_G} {W : cw_W} {d : Nat} {C : mo_S} {L : Nat} {f : Nat} (hE : ev_En G) (hd : 3 ≤ d) (hL : L ≤ 200000) (hf : f ≤ 10000) : cw_R G W d 0 0 mX6_giveLeast [.ref (W 9 0), .ref (W 1 0), .int (nI L), .int (nI f)] C (fun o W2 C2 => W2 = W ∧ o = .inl (some (.int (nI (pt_lf f (cx_I C) L (sp_P C))))) ∧ cx_eqX [124] C2 C ∧ ∀ j, j < sp_P C → C2.1 124 j = nI (pt_s f (cx_I C) L j)) := by
  refine cw_startR (lv0 := [some (.ref (W 9 0)), some (.ref (W 1 0)), some (.int (nI L)), some (.int (nI f)), none, none]) (by decide +kernel) rfl (Nat.le_of_ble_eq_true rfl) rfl ?_
  intro K g0 g hT
  have hBP := hT.B.1
  refine ev_aload_n dX6_giveLeast_0 rfl rfl ?_
  refine cw_getf hE hT dX6_giveLeast_1 fX6_9 (k := 9) (i := 0) rfl ob9 rfl ?_
  refine ev_iconst (v := 0) dX6_giveLeast_4 (by decide) ?_
  refine cw_fill (k := 10) (i := 0) (n := 12) (f := 124) (e := fun j => j) hE hT dX6_giveLeast_5 lX6_22 rfl (fun _ => ar10) (by decide) (by decide) (by decide) (fun j hj => rfl) (Nat.le_of_ble_eq_true rfl) (by omega) (fun g hT => ?_)
  refine ev_iload_n dX6_giveLeast_8 rfl rfl ?_
  refine ev_istore dX6_giveLeast_9 (Nat.le_of_ble_eq_true rfl) rfl ?_
  refine ev_iconst (v := 0) dX6_giveLeast_11 (by decide) ?_
  refine ev_istore dX6_giveLeast_12 (Nat.le_of_ble_eq_true rfl) rfl ?_
  have loop : ∀ (n i : Nat), i ≤ (sp_P C) → (sp_P C) < i + n → ∀ (T : mo_S), (cx_eqX [124] T C ∧ ∀ j, j < sp_P C → T.1 124 j = nI (if j < i then pt_s f (cx_I C) L j else 0)) → ∀ g, cw_T G K g0 W g T → ev_V G d 0 0 mX6_giveLeast (fun o g' => ∃ W2 C2, (W2 = W ∧ o = .inl (some (.int (nI (pt_lf f (cx_I C) L (sp_P C))))) ∧ cx_eqX [124] C2 C ∧ ∀ j, j < sp_P C → C2.1 124 j = nI (pt_s f (cx_I C) L j)) ∧ cw_T G K g0 W2 g' C2) g 14 [some (.ref (W 9 0)), some (.ref (W 1 0)), some (.int (nI L)), some (.int (nI f)), some (.int (nI (pt_lf f (cx_I C) L i))), some (.int (nI i))] [] := by
    intro n
    induction n with
    | zero => intro i h1 h2; exact absurd h2 (by omega)
    | succ n ih =>
      intro i h1 h2 T hx g hT
      have hP9 : T.1 1 0 = nI (sp_P C) := by rw [hx.1 1 (by decide)]; exact hBP.1
      have hl9 := pt_lf_le f (cx_I C) L i
      have hs8 : pt_s f (cx_I C) L i ≤ pt_lf f (cx_I C) L i := by unfold pt_s; split <;> omega
      have hs9 := hs8
      refine ev_iload dX6_giveLeast_14 rfl ?_
      refine ev_aload_n dX6_giveLeast_16 rfl rfl ?_
      refine cw_size (l := 0) (v := (T.1 1 0)) hE hT dX6_giveLeast_17 lX6_32 (by decide) (Nat.le_of_ble_eq_true rfl) (by omega) rfl ?_
      refine ev_icmp_ge (tgt := 76) dX6_giveLeast_20 (by decide) (fun c_20 => ?_) (fun c_20 => ?_)
      · have e : i = sp_P C := by have := mo_ige hP9 (by omega) (by omega) c_20; omega
        subst e
        refine ev_iload dX6_giveLeast_76 rfl ?_
        exact ev_iret dX6_giveLeast_78 rfl rfl ⟨W, T, ⟨rfl, rfl, hx.1, fun j hj => by rw [hx.2 j hj, if_pos hj]⟩, hT⟩
      · have hi9 : i < sp_P C := mo_ilt hP9 (by omega) (by omega) c_20
        have hi8 : i < sp_P T := lvP hi9 (hx.1 1 (by decide))
        refine ev_iload dX6_giveLeast_23 rfl ?_
        refine ev_bipush (v := 12) dX6_giveLeast_25 (by decide) ?_
        refine ev_icmp_ge (tgt := 76) dX6_giveLeast_27 (by decide) (fun c_27 => ?_) (fun c_27 => ?_)
        · exact absurd c_27 (nI_ge (b := 12) (by omega) (by decide))
        · refine ev_aload_n dX6_giveLeast_30 rfl rfl ?_
          refine ev_iload dX6_giveLeast_31 rfl ?_
          refine cw_get (l := 0) (q := i) hE hT dX6_giveLeast_33 lX6_38 (by decide) rfl hi8 (Nat.le_of_ble_eq_true rfl) (by omega) ?_
          refine ev_cast hE dX6_giveLeast_36 lkX6_42 ((hT.at (k := 20) (i := i) hi8).1 _ _ ob20) rfl ?_
          refine cw_call0 (d' := d - 1) hE hT dX6_giveLeast_39 rfl kX5_isAdmitted lX6_54 iX5_isAdmitted vX5_isAdmitted (k := 20) (i := i) hi8 ob20 rfl (Nat.le_of_ble_eq_true rfl) (by omega) (c_X5_isAdmitted hE hi8) (fun g hT => ?_)
          refine ev_if_eq (tgt := 70) dX6_giveLeast_42 (by decide) (fun c_42 => ?_) (fun c_42 => ?_)
          · refine ev_iinc (v := (nI (i + 1))) dX6_giveLeast_70 rfl (nI_1 i) rfl ?_
            refine ev_goto (tgt := 14) dX6_giveLeast_73 (by decide) ?_
            rw [show pt_lf f (cx_I C) L i = pt_lf f (cx_I C) L (i + 1) from (if_neg (cl_I0 (hx.1 12 (by decide)) c_42)).symm]
            refine ih (i + 1) (by omega) (by omega) _ ⟨hx.1, fun j hj => ?_⟩ g hT
            rw [hx.2 j hj]
            by_cases e : j = i
            · rw [e, if_neg (by omega), if_pos (by omega)]
              exact congrArg nI (if_neg (cl_I0 (hx.1 12 (by decide)) c_42)).symm
            · by_cases e2 : j < i
              · rw [if_pos e2, if_pos (by omega)]
              · rw [if_neg e2, if_neg (by omega)]
          · refine ev_aload_n dX6_giveLeast_45 rfl rfl ?_
            refine cw_getf hE hT dX6_giveLeast_46 fX6_9 (k := 9) (i := 0) rfl ob9 rfl ?_
            refine ev_iload dX6_giveLeast_49 rfl ?_
            refine ev_iload_n dX6_giveLeast_51 rfl rfl ?_
            refine ev_iload dX6_giveLeast_52 rfl ?_
            refine ev_mmin dX6_giveLeast_54 lX6_48 (Nat.le_of_ble_eq_true rfl) (by omega) ?_
            rw [cl_min (by omega) (by omega), ← show pt_s f (cx_I C) L i = min f (pt_lf f (cx_I C) L i) from if_pos (cl_I1 (hx.1 12 (by decide)) c_42)]
            refine cw_ias (q := i) (f := 124) (ix := i) hE hT dX6_giveLeast_57 (k := 10) (i := 0) rfl ar10 rfl (by omega) (by decide) rfl (by decide) (by decide) (pa10 (i := 0)) (fun g hT => ?_)
            refine ev_iload dX6_giveLeast_58 rfl ?_
            refine ev_aload_n dX6_giveLeast_60 rfl rfl ?_
            refine cw_getf hE hT dX6_giveLeast_61 fX6_9 (k := 9) (i := 0) rfl ob9 rfl ?_
            refine ev_iload dX6_giveLeast_64 rfl ?_
            refine cw_ial (q := i) (v := (nI (pt_s f (cx_I C) L i))) hE hT dX6_giveLeast_66 (k := 10) (i := 0) rfl ar10 rfl (by omega) (by decide) (by rw [mo_up_at]; exact pk_us) ?_
            refine ev_isub dX6_giveLeast_67 ?_
            refine ev_istore dX6_giveLeast_68 (Nat.le_of_ble_eq_true rfl) rfl ?_
            refine ev_iinc (v := (nI (i + 1))) dX6_giveLeast_70 rfl (nI_1 i) rfl ?_
            refine ev_goto (tgt := 14) dX6_giveLeast_73 (by decide) ?_
            rw [show nI (pt_lf f (cx_I C) L i) - nI (pt_s f (cx_I C) L i) = nI (pt_lf f (cx_I C) L (i + 1)) by rw [pt_lf_s, pk_sub hs9]]
            refine ih (i + 1) (by omega) (by omega) _ ⟨hx.1.up (by decide), fun j hj => ?_⟩ g hT
            rw [mo_up_at]
            by_cases e : j = i
            · rw [e, pk_us, if_pos (by omega)]
            · rw [pk_un e, hx.2 j hj]
              by_cases e2 : j < i
              · rw [if_pos e2, if_pos (by omega)]
              · rw [if_neg e2, if_neg (by omega)]
  exact loop ((sp_P C) + 1) 0 (by omega) (by omega) _ ⟨(cx_eqX.r C).fl (by decide), fun j hj => by rw [if_neg (by omega)]; exact cl_flat (by omega)⟩ g hT
/-- the rest of the first with the greatest -/
def pt_gr (R : Nat → Option Nat) (n : Nat) : Option Nat := match pt_top R n with
  | none => none
  | some b => R b
theorem pt_rl_m1 {x : Nat} (h : x < 2 ^ 62) : (-1 : Int64) < lN x := by
  rw [Int64.lt_iff_toInt_lt, pk_lT (by omega)]
  have e : (-1 : Int64).toInt = -1 := by decide
  omega
theorem pt_rl_le {a b : Option Nat} (ha : ∀ x, a = some x → x < 2 ^ 62) (hb : ∀ x, b = some x → x < 2 ^ 62) : pt_rl a ≤ pt_rl b ↔ ∀ x, a = some x → ∃ y, b = some y ∧ x ≤ y := by
  cases a with
  | none =>
    refine ⟨fun _ x h => (by cases h), fun _ => ?_⟩
    cases b with
    | none => exact Int64.le_refl _
    | some y => exact Int64.le_of_lt (pt_rl_m1 (hb y rfl))
  | some x =>
    have hx := ha x rfl
    cases b with
    | none =>
      refine ⟨fun h => absurd h (Int64.not_le.mpr (pt_rl_m1 hx)), fun h => ?_⟩
      obtain ⟨y, h1, _⟩ := h x rfl
      cases h1
    | some y =>
      have hy := hb y rfl
      have e : pt_rl (some x) ≤ pt_rl (some y) ↔ x ≤ y := pk_lLE (by omega) (by omega)
      rw [e]
      refine ⟨fun h z hz => ?_, fun h => ?_⟩
      · cases hz
        exact ⟨y, rfl, h⟩
      · obtain ⟨z, h1, h2⟩ := h x rfl
        cases h1
        exact h2
theorem pt_gr_lt {R : Nat → Option Nat} (hR : ∀ j x, R j = some x → x < 2 ^ 62) (n : Nat) : ∀ x, pt_gr R n = some x → x < 2 ^ 62 := by
  intro x h
  unfold pt_gr at h
  split at h
  · cases h
  · exact hR _ _ h
theorem pt_top_no {R : Nat → Option Nat} {i : Nat} (hR : ∀ j x, R j = some x → x < 2 ^ 62) (c : pt_rl (R i) ≤ pt_rl (pt_gr R i)) : pt_top R (i + 1) = pt_top R i := by
  rw [pt_rl_le (hR i) (pt_gr_lt hR i)] at c
  cases hi : R i with
  | none => exact pt_top_n hi
  | some x =>
    obtain ⟨y, h1, h2⟩ := c x hi
    unfold pt_gr at h1
    cases ht : pt_top R i with
    | none => rw [ht] at h1; cases h1
    | some b =>
      rw [ht] at h1
      exact pt_top_l hi ht h1 (by omega)
theorem pt_top_yes {R : Nat → Option Nat} {i : Nat} (hR : ∀ j x, R j = some x → x < 2 ^ 62) (c : ¬ pt_rl (R i) ≤ pt_rl (pt_gr R i)) : pt_top R (i + 1) = some i := by
  rw [pt_rl_le (hR i) (pt_gr_lt hR i)] at c
  cases hi : R i with
  | none => exact absurd (fun x h => by rw [hi] at h; cases h) c
  | some x =>
    cases ht : pt_top R i with
    | none => exact pt_top_f hi ht
    | some b =>
      obtain ⟨_, y, hy⟩ := pt_top_some ht
      refine pt_top_g hi ht hy (Nat.lt_of_not_le fun q => c fun z hz => ?_)
      rw [hi] at hz
      cases hz
      refine ⟨y, ?_, q⟩
      unfold pt_gr
      rw [ht]
      exact hy
theorem pt_gr_no {R : Nat → Option Nat} {i : Nat} (h : pt_top R (i + 1) = pt_top R i) : pt_gr R (i + 1) = pt_gr R i := by unfold pt_gr; rw [h]
theorem pt_gr_yes {R : Nat → Option Nat} {i : Nat} (h : pt_top R (i + 1) = some i) : pt_gr R (i + 1) = R i := by unfold pt_gr; rw [h]
theorem pt_cnt_le (R : Nat → Option Nat) : ∀ n, pt_cnt R n ≤ n
  | 0 => Nat.le_refl _
  | n + 1 => by
    have := pt_cnt_le R n
    simp only [pt_cnt]
    split <;> omega
theorem pt_giv_R {P : Nat} {sh : Nat → Nat} {R : Nat → Option Nat} {j : Nat} : ∀ k x, (pt_giv P sh R k).2 j = some x → R j = some x
  | 0, _, h => h
  | k + 1, x, h => by
    simp only [pt_giv] at h
    split at h
    · exact pt_giv_R k x h
    · dsimp only [pt_off] at h
      split at h
      · cases h
      · exact pt_giv_R k x h
theorem pt_giv_s {P : Nat} {sh : Nat → Nat} {R : Nat → Option Nat} {k b : Nat} (h : pt_top (pt_giv P sh R k).2 P = some b) : pt_giv P sh R (k + 1) = (fun j => if j = b then (pt_giv P sh R k).1 j + 1 else (pt_giv P sh R k).1 j, pt_off (pt_giv P sh R k).2 b) := by rw [pt_giv, h]
theorem c_X6_giveOver {G : ev_G} {W : cw_W} {d : Nat} {C : mo_S} {v : Nat} {sh : Nat → Nat} {R : Nat → Option Nat} (hE : ev_En G) (hd : 1 ≤ d) (hs : ∀ j, j < sp_P C → C.1 124 j = nI (sh j)) (hR : ∀ j, j < sp_P C → C.2 j = pt_rl (R j)) (hv : v ≤ pt_cnt R (sp_P C)) (hRb : ∀ j x, R j = some x → x < 2 ^ 62) : cw_R G W d 0 0 mX6_giveOver [.ref (W 9 0), .ref (W 1 0), .int (nI v)] C (fun o W2 C2 => W2 = W ∧ o = .inl none ∧ cx_eqX [124] C2 C ∧ ∀ j, j < sp_P C → C2.1 124 j = nI ((pt_giv (sp_P C) sh R v).1 j)) := by
  refine cw_startR (lv0 := [some (.ref (W 9 0)), some (.ref (W 1 0)), some (.int (nI v)), none, none, none, none, none]) (by decide +kernel) rfl (Nat.le_of_ble_eq_true rfl) rfl ?_
  intro K g0 g hT
  have hBP := hT.B.1
  have hc9 := pt_cnt_le R (sp_P C)
  refine ev_iconst (v := 0) dX6_giveOver_0 (by decide) ?_
  refine ev_istore_n dX6_giveOver_1 rfl (Nat.le_of_ble_eq_true rfl) rfl ?_
  have loop : ∀ (n k : Nat), k ≤ v → v < k + n → ∀ (T : mo_S), (cx_eqX [124] T C ∧ (∀ j, j < sp_P C → T.1 124 j = nI ((pt_giv (sp_P C) sh R k).1 j)) ∧ ∀ j, j < sp_P C → T.2 j = pt_rl ((pt_giv (sp_P C) sh R k).2 j)) → ∀ g, cw_T G K g0 W g T → ev_V G d 0 0 mX6_giveOver (fun o g' => ∃ W2 C2, (W2 = W ∧ o = .inl none ∧ cx_eqX [124] C2 C ∧ ∀ j, j < sp_P C → C2.1 124 j = nI ((pt_giv (sp_P C) sh R v).1 j)) ∧ cw_T G K g0 W2 g' C2) g 2 [some (.ref (W 9 0)), some (.ref (W 1 0)), some (.int (nI v)), some (.int (nI k)), none, none, none, none] [] := by
    intro n
    induction n with
    | zero => intro k h1 h2; exact absurd h2 (by omega)
    | succ n ih =>
      intro k h1 h2 T hx g hT
      have hP9 : T.1 1 0 = nI (sp_P C) := by rw [hx.1 1 (by decide)]; exact hBP.1
      refine ev_iload_n dX6_giveOver_2 rfl rfl ?_
      refine ev_iload_n dX6_giveOver_3 rfl rfl ?_
      refine ev_icmp_ge (tgt := 112) dX6_giveOver_4 (by decide) (fun c_4 => ?_) (fun c_4 => ?_)
      · have e : k = v := by have := mo_ige (R := v) rfl (by omega) (by omega) c_4; omega
        subst e
        exact ev_vret dX6_giveOver_112 rfl ⟨W, T, ⟨rfl, rfl, hx.1, hx.2.1⟩, hT⟩
      · have hk9 : k < v := mo_ilt (R := v) rfl (by omega) (by omega) c_4
        have hRk : ∀ j x, (pt_giv (sp_P C) sh R k).2 j = some x → x < 2 ^ 62 := fun j x h => hRb j x (pt_giv_R k x h)
        refine ev_iload_n dX6_giveOver_7 rfl rfl ?_
        refine ev_bipush (v := 12) dX6_giveOver_8 (by decide) ?_
        refine ev_icmp_ge (tgt := 112) dX6_giveOver_10 (by decide) (fun c_10 => ?_) (fun c_10 => ?_)
        · exact absurd c_10 (nI_ge (b := 12) (by omega) (by decide))
        · refine ev_iconst (v := (-1)) dX6_giveOver_13 (by decide) ?_
          refine ev_istore dX6_giveOver_14 (Nat.le_of_ble_eq_true rfl) rfl ?_
          refine ev_ldc2 dX6_giveOver_16 nX6_69 ?_
          refine ev_lstore dX6_giveOver_19 (Nat.le_of_ble_eq_true rfl) rfl ?_
          refine ev_iconst (v := 0) dX6_giveOver_21 (by decide) ?_
          refine ev_istore dX6_giveOver_22 (Nat.le_of_ble_eq_true rfl) rfl ?_
          have loop2 : ∀ (n2 i : Nat), i ≤ (sp_P C) → (sp_P C) < i + n2 → ∀ (nx : Int32) (gr : Int64), (nx = sp_opt (pt_top (pt_giv (sp_P C) sh R k).2 i) ∧ gr = pt_rl (pt_gr (pt_giv (sp_P C) sh R k).2 i)) → ∀ g, cw_T G K g0 W g T → ev_V G d 0 0 mX6_giveOver (fun o g' => ∃ W2 C2, (W2 = W ∧ o = .inl none ∧ cx_eqX [124] C2 C ∧ ∀ j, j < sp_P C → C2.1 124 j = nI ((pt_giv (sp_P C) sh R v).1 j)) ∧ cw_T G K g0 W2 g' C2) g 24 [some (.ref (W 9 0)), some (.ref (W 1 0)), some (.int (nI v)), some (.int (nI k)), some (.int nx), some (.long gr), none, some (.int (nI i))] [] := by
            intro n2
            induction n2 with
            | zero => intro i h12 h22; exact absurd h22 (by omega)
            | succ n2 ih2 =>
              intro i h12 h22 nx gr hx2 g hT
              refine ev_iload dX6_giveOver_24 rfl ?_
              refine ev_aload_n dX6_giveOver_26 rfl rfl ?_
              refine cw_size (l := 0) (v := (T.1 1 0)) hE hT dX6_giveOver_27 lX6_32 (by decide) (Nat.le_of_ble_eq_true rfl) (by omega) rfl ?_
              refine ev_icmp_ge (tgt := 72) dX6_giveOver_30 (by decide) (fun c_30 => ?_) (fun c_30 => ?_)
              · have e : i = sp_P C := by have := mo_ige hP9 (by omega) (by omega) c_30; omega
                subst e
                obtain ⟨b9, x9, t1, t2, t3⟩ := pt_giv_top (P := sp_P C) (sh := sh) (R := R) (k := k) (by omega)
                have hnx : nx = nI b9 := by rw [hx2.1, t1]; rfl
                subst hnx
                refine ev_iload dX6_giveOver_72 rfl ?_
                refine ev_if_lt (tgt := 84) dX6_giveOver_74 (by decide) (fun c_74 => ?_) (fun c_74 => ?_)
                · exact absurd c_74 (nI_pos (by omega))
                · refine ev_iload dX6_giveOver_77 rfl ?_
                  refine ev_bipush (v := 12) dX6_giveOver_79 (by decide) ?_
                  refine ev_icmp_lt (tgt := 85) dX6_giveOver_81 (by decide) (fun c_81 => ?_) (fun c_81 => ?_)
                  · refine ev_aload_n dX6_giveOver_85 rfl rfl ?_
                    refine cw_getf hE hT dX6_giveOver_86 fX6_9 (k := 9) (i := 0) rfl ob9 rfl ?_
                    refine ev_iload dX6_giveOver_89 rfl ?_
                    refine ev_dup2 dX6_giveOver_91 rfl rfl ?_
                    refine cw_ial (q := b9) (v := (nI ((pt_giv (sp_P C) sh R k).1 b9))) hE hT dX6_giveOver_92 (k := 10) (i := 0) rfl ar10 rfl (by omega) (by decide) (hx.2.1 b9 t2) ?_
                    refine ev_iconst (v := 1) dX6_giveOver_93 (by decide) ?_
                    refine ev_iadd dX6_giveOver_94 ?_
                    refine cw_ias (q := b9) (f := 124) (ix := b9) hE hT dX6_giveOver_95 (k := 10) (i := 0) rfl ar10 rfl (by omega) (by decide) rfl (by decide) (by decide) (pa10 (i := 0)) (fun g hT => ?_)
                    refine ev_aload_n dX6_giveOver_96 rfl rfl ?_
                    refine cw_getf hE hT dX6_giveOver_97 fX6_18 (k := 9) (i := 0) rfl ob9 rfl ?_
                    refine ev_iload dX6_giveOver_100 rfl ?_
                    refine ev_ldc2 dX6_giveOver_102 nX6_69 ?_
                    refine cw_las (q := b9) hE hT dX6_giveOver_105 rfl rfl (by omega) (fun g hT => ?_)
                    refine ev_iinc (v := (nI (k + 1))) dX6_giveOver_106 rfl (nI_1 k) rfl ?_
                    refine ev_goto (tgt := 2) dX6_giveOver_109 (by decide) ?_
                    refine ev_none 4 ?_
                    refine ev_none 5 ?_
                    refine ev_none 7 ?_
                    refine ih (k + 1) (by omega) (by omega) _ ⟨(hx.1.up (by decide)).upL, fun j hj => ?_, fun j hj => ?_⟩ g hT
                    · rw [pt_giv_s t1]
                      show (mo_up T 124 b9 (nI ((pt_giv (sp_P C) sh R k).1 b9) + 1)).1 124 j = nI (if j = b9 then (pt_giv (sp_P C) sh R k).1 j + 1 else (pt_giv (sp_P C) sh R k).1 j)
                      rw [mo_up_at]
                      by_cases e : j = b9
                      · rw [e, pk_us, if_pos rfl]
                        exact nI_1 _
                      · rw [pk_un e, if_neg e]
                        exact hx.2.1 j hj
                    · rw [pt_giv_s t1]
                      show (if j = b9 then (-1 : Int64) else T.2 j) = pt_rl (if j = b9 then none else (pt_giv (sp_P C) sh R k).2 j)
                      by_cases e : j = b9
                      · rw [if_pos e, if_pos e]
                        rfl
                      · rw [if_neg e, if_neg e]
                        exact hx.2.2 j hj
                  · exact absurd (nI_lt (b := 12) (by omega) (by decide)) c_81
              · have hi9 : i < sp_P C := mo_ilt hP9 (by omega) (by omega) c_30
                refine ev_iload dX6_giveOver_33 rfl ?_
                refine ev_bipush (v := 12) dX6_giveOver_35 (by decide) ?_
                refine ev_icmp_ge (tgt := 72) dX6_giveOver_37 (by decide) (fun c_37 => ?_) (fun c_37 => ?_)
                · exact absurd c_37 (nI_ge (b := 12) (by omega) (by decide))
                · refine ev_aload_n dX6_giveOver_40 rfl rfl ?_
                  refine cw_getf hE hT dX6_giveOver_41 fX6_18 (k := 9) (i := 0) rfl ob9 rfl ?_
                  refine ev_iload dX6_giveOver_44 rfl ?_
                  refine cw_lal (q := i) hE hT dX6_giveOver_46 rfl rfl (by omega) ?_
                  refine ev_lload dX6_giveOver_47 rfl ?_
                  refine ev_lcmp dX6_giveOver_49 ?_
                  refine ev_if_le (tgt := 66) dX6_giveOver_50 (by decide) (fun c_50 => ?_) (fun c_50 => ?_)
                  · refine ev_iinc (v := (nI (i + 1))) dX6_giveOver_66 rfl (nI_1 i) rfl ?_
                    refine ev_goto (tgt := 24) dX6_giveOver_69 (by decide) ?_
                    have c9 : pt_rl ((pt_giv (sp_P C) sh R k).2 i) ≤ pt_rl (pt_gr (pt_giv (sp_P C) sh R k).2 i) := by rw [← hx.2.2 i hi9, ← hx2.2]; exact (lg_cmp_le _ _).mp c_50
                    have t9 := pt_top_no hRk c9
                    exact ih2 (i + 1) (by omega) (by omega) nx gr ⟨by rw [t9]; exact hx2.1, by rw [pt_gr_no t9]; exact hx2.2⟩ g hT
                  · refine ev_iload dX6_giveOver_53 rfl ?_
                    refine ev_istore dX6_giveOver_55 (Nat.le_of_ble_eq_true rfl) rfl ?_
                    refine ev_aload_n dX6_giveOver_57 rfl rfl ?_
                    refine cw_getf hE hT dX6_giveOver_58 fX6_18 (k := 9) (i := 0) rfl ob9 rfl ?_
                    refine ev_iload dX6_giveOver_61 rfl ?_
                    refine cw_lal (q := i) hE hT dX6_giveOver_63 rfl rfl (by omega) ?_
                    refine ev_lstore dX6_giveOver_64 (Nat.le_of_ble_eq_true rfl) rfl ?_
                    refine ev_iinc (v := (nI (i + 1))) dX6_giveOver_66 rfl (nI_1 i) rfl ?_
                    refine ev_goto (tgt := 24) dX6_giveOver_69 (by decide) ?_
                    have c9 : ¬ pt_rl ((pt_giv (sp_P C) sh R k).2 i) ≤ pt_rl (pt_gr (pt_giv (sp_P C) sh R k).2 i) := by rw [← hx.2.2 i hi9, ← hx2.2]; exact fun q => c_50 ((lg_cmp_le _ _).mpr q)
                    have t9 := pt_top_yes hRk c9
                    exact ih2 (i + 1) (by omega) (by omega) (nI i) (T.2 i) ⟨by rw [t9]; rfl, by rw [pt_gr_yes t9]; exact hx.2.2 i hi9⟩ g hT
          exact loop2 ((sp_P C) + 1) 0 (by omega) (by omega) (-1) (-1) ⟨rfl, rfl⟩ g hT
  exact loop (v + 1) 0 (by omega) (by omega) _ ⟨cx_eqX.r C, hs, hR⟩ g hT
end CM8
