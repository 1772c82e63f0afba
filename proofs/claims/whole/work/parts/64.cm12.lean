section CM12
theorem cx_eqV.x {T C : mo_S} (h : cx_eqV T C) : cx_eqX [123] T C := fun f hf => h.1 f (fun e => hf (by rw [e]; decide))
theorem cx_eqX.cd {X : List Nat} {T C : mo_S} {P Q : cx_Fn} (q : cx_eqX X T C) (h29 : 29 ∉ X) (h110 : 110 ∉ X) (h1 : 111 ∉ X) (h2 : 112 ∉ X) (h3 : 113 ∉ X) (h4 : 114 ∉ X) (h : cx_cd C P Q) : cx_cd T P Q := h.cg (q 29 h29) (q 110 h110) (q 111 h1) (q 112 h2) (q 113 h3) (q 114 h4)
theorem sp_pool_cg {T C : mo_S} (h2 : T.1 22 = C.1 22) (h3 : T.1 23 = C.1 23) : ∀ n, sp_pool T n = sp_pool C n
  | 0 => rfl
  | n + 1 => by simp only [sp_pool]; rw [sp_pool_cg h2 h3 n, h2, h3]
theorem cx_named_cg {T C : mo_S} (h3 : T.1 3 = C.1 3) (h4 : T.1 4 = C.1 4) (h5 : T.1 5 = C.1 5) (h7 : T.1 7 = C.1 7) (h10 : T.1 10 = C.1 10) (h13 : T.1 13 = C.1 13) (x : Int32) (p : Nat) (a b : Int32) : cx_X10_named T x p a b = cx_X10_named C x p a b := by
  unfold cx_X10_named
  rw [h3, h4, h5, h7, h10, h13]
/-- what a formula reads -/
def cx_rd : List Nat := [2, 3, 4, 5, 6, 7, 8, 10, 13]
theorem cx_part_cg {T C : mo_S} {P : cx_Fn} {b p : Nat} (h : ∀ f, f ∈ cx_rd → T.1 f = C.1 f) : cx_part T P b p = cx_part C P b p := by
  unfold cx_part cx_v
  rw [h 6 (by decide), h 2 (by decide)]
  simp only [cx_named_cg (h 3 (by decide)) (h 4 (by decide)) (h 5 (by decide)) (h 7 (by decide)) (h 10 (by decide)) (h 13 (by decide))]
theorem cx_weight_cg {T C : mo_S} {P : cx_Fn} {b p : Nat} {x : Int32} (h : ∀ f, f ∈ cx_rd → T.1 f = C.1 f) : cx_weight T P b p x = cx_weight C P b p x := by
  unfold cx_weight
  rw [cx_part_cg h, h 8 (by decide)]
/-- what each gets -/
def cx_sh (C : mo_S) (w : Nat → Nat) (f L b : Nat) (x : Int32) (j : Nat) : Int32 := if x = 3 then (pt_bA (cx_I C) (C.1 14) (C.1 15) (nI L) (sp_P C) 101).2 j else nI (pt_share f (decide (C.1 108 b = 0)) (cx_I C) w (sp_P C) L j)
/-- what a parting asks -/
def cx_pH (C : mo_S) (Pf Qf : cx_Fn) (w c : Nat → Nat) (f L b : Nat) (x : Int32) : Prop :=
  cx_cd C Pf Qf ∧ (b < sp_O C ∨ b = 10) ∧ (sp_pool C (sp_R C) = nI L ∧ L ≤ 200000) ∧ (C.1 107 b = nI f ∧ f ≤ 10000) ∧ (¬ x = 3 → ∀ p, p < sp_P C → (if cx_I C p = true then cx_weight C Pf b p x else 0) = nI (w p) ∧ w p ≤ 1000000) ∧ (∀ j, j < sp_P C → C.1 15 j = nI (c j) ∧ c j ≤ 100) ∧ ∀ j, j < sp_P C → ∃ a : Nat, C.1 14 j = nI a ∧ a < 2147483648
theorem cx_eqX_rd {X : List Nat} {T C : mo_S} (h : cx_eqX X T C) (hX : ∀ f, f ∈ cx_rd → f ∉ X) : ∀ f, f ∈ cx_rd → T.1 f = C.1 f := fun f hf => h f (hX f hf)
theorem cx_weigh_eq {C : mo_S} {q : Nat} {x : Int32} (hq : q < 12) : cx_X6_weigh C q x = mo_up C 125 q x := by
  unfold cx_X6_weigh
  first
    | rfl
    | (split <;> first | rfl | (exfalso; rename_i h; exact absurd h (nI_pos (by omega))))
theorem cx_weigh_x {T C : mo_S} {q : Nat} {x : Int32} (hq : q < 12) (h : cx_eqX [123, 125] T C) : cx_eqX [123, 125] (cx_X6_weigh T q x) C := by
  rw [cx_weigh_eq hq]
  exact h.up (by decide)
theorem cx_weigh_at {T : mo_S} {q j : Nat} {x : Int32} (hq : q < 12) : (cx_X6_weigh T q x).1 125 j = if j = q then x else T.1 125 j := by
  rw [cx_weigh_eq hq, mo_up_at]
  rfl
theorem c_X11_partPool {G : ev_G} {W : cw_W} {d : Nat} {C : mo_S} {b : Nat} {x1 : Int32} {Pf Qf : cx_Fn} {w c : Nat → Nat} {f L : Nat} (hE : ev_En G) {D0 : Nat} (h4 : ev_En4 G D0) (hd : 7 ≤ d) (hH : cx_pH C Pf Qf w c f L b x1) : cw_R G W d 0 0 mX11_partPool [.ref (W 0 0), .ref (W 28 b), .int x1] C (fun o W2 C2 => W2 = W ∧ o = .inl none ∧ cx_eqX [123, 124, 125] C2 C ∧ ∀ j, j < sp_P C → C2.1 124 j = cx_sh C w f L b x1 j) := by
  refine cw_startR (lv0 := [some (.ref (W 0 0)), some (.ref (W 28 b)), some (.int x1), none, none]) (by decide +kernel) rfl (Nat.le_of_ble_eq_true rfl) rfl ?_
  intro K g0 g hT
  have hBP := hT.B.1
  obtain ⟨hc, hb, hL, hf, hw, hC, hK⟩ := hH
  refine ev_iload_n dX11_partPool_0 rfl rfl ?_
  refine ev_iconst (v := 3) dX11_partPool_1 (by decide) ?_
  refine ev_icmp_ne (tgt := 21) dX11_partPool_2 (by decide) (fun c_2 => ?_) (fun c_2 => ?_)
  · refine ev_iconst (v := 0) dX11_partPool_21 (by decide) ?_
    refine ev_istore_n dX11_partPool_22 rfl (Nat.le_of_ble_eq_true rfl) rfl ?_
    have loop : ∀ (n i : Nat), i ≤ (sp_P C) → (sp_P C) < i + n → ∀ (T : mo_S), (cx_eqX [123, 125] T C ∧ ∀ j, j < i → T.1 125 j = nI (w j)) → ∀ g, cw_T G K g0 W g T → ev_V G d 0 0 mX11_partPool (fun o g' => ∃ W2 C2, (W2 = W ∧ o = .inl none ∧ cx_eqX [123, 124, 125] C2 C ∧ ∀ j, j < sp_P C → C2.1 124 j = cx_sh C w f L b x1 j) ∧ cw_T G K g0 W2 g' C2) g 23 [some (.ref (W 0 0)), some (.ref (W 28 b)), some (.int x1), some (.int (nI i)), none] [] := by
      intro n
      induction n with
      | zero => intro i h1 h2; exact absurd h2 (by omega)
      | succ n ih =>
        intro i h1 h2 T hx g hT
        have hP9 : T.1 1 0 = nI (sp_P C) := by rw [hx.1 1 (by decide)]; exact hBP.1
        have hbT : b < sp_O T ∨ b = 10 := by rw [sp_O_cg (hx.1 29 (by decide))]; exact hb
        have hsP : sp_P T = sp_P C := sp_P_cg (hx.1 1 (by decide))
        have hpl9 : sp_pool T (sp_R T) = nI L := by rw [sp_pool_cg (hx.1 22 (by decide)) (hx.1 23 (by decide)), sp_R_cg (hx.1 21 (by decide))]; exact hL.1
        refine ev_iload_n dX11_partPool_23 rfl rfl ?_
        refine ev_aload_n dX11_partPool_24 rfl rfl ?_
        refine cw_getf hE hT dX11_partPool_25 fX11_10 (k := 0) (i := 0) rfl ob0 rfl ?_
        refine cw_size (l := 0) (v := (T.1 1 0)) hE hT dX11_partPool_28 lX11_89 (by decide) (Nat.le_of_ble_eq_true rfl) (by omega) rfl ?_
        refine ev_icmp_ge (tgt := 81) dX11_partPool_31 (by decide) (fun c_31 => ?_) (fun c_31 => ?_)
        · have e : i = sp_P C := by have := mo_ige hP9 (by omega) (by omega) c_31; omega
          subst e
          refine ev_aload_n dX11_partPool_81 rfl rfl ?_
          refine cw_getf hE hT dX11_partPool_82 fX11_62 (k := 0) (i := 0) rfl ob0 rfl ?_
          refine ev_aload_n dX11_partPool_85 rfl rfl ?_
          refine cw_getf hE hT dX11_partPool_86 fX11_10 (k := 0) (i := 0) rfl ob0 rfl ?_
          refine ev_aload_n dX11_partPool_89 rfl rfl ?_
          refine cw_call0 (d' := d - 1) hE hT dX11_partPool_90 rfl kX11_pool lX11_328 iX11_pool vX11_pool (k := 0) (i := 0) rfl ob0 rfl (Nat.le_of_ble_eq_true rfl) (by omega) (c_X11_pool hE (by omega)) (fun g hT => ?_)
          rw [hpl9]
          refine ev_aload_n dX11_partPool_93 rfl rfl ?_
          refine cw_geti (v2 := nI f) hE hT dX11_partPool_94 fX11_218 (k := 28) (i := b) (cx_olI hbT) ob28 rfl (by rw [hx.1 107 (by decide)]; exact hf.1) ?_
          refine ev_aload_n dX11_partPool_97 rfl rfl ?_
          refine cw_getf hE hT dX11_partPool_98 fX11_385 (k := 28) (i := b) (cx_olI hbT) ob28 rfl ?_
          refine cw_callr4 (d' := d - 1) (b := 0) (n0 := 0) hE hT dX11_partPool_101 rfl kX6_byWeights lX11_389 iX6_byWeights vX6_byWeights (k := 9) (i := 0) rfl ob9 rfl (Nat.le_of_ble_eq_true rfl) (by omega) (c_X6_byWeights (d := d - 1) (w := w) hE (by omega) hL.2 hf.2 (fun j hj => by rw [hsP] at hj; exact ⟨hx.2 j hj, (hw c_2 j hj).2⟩)) (Nat.le_refl _) (Nat.le_refl _) (fun v9 W9 V g q9 hT => ?_) (fun E W2 C2 g q9 _ => by cases q9.2.1)
          obtain ⟨e8, e9, hv1, hv2⟩ := q9
          have e7 := e8.symm
          subst e7
          cases e9
          exact ev_vret dX11_partPool_104 rfl ⟨W, V, ⟨rfl, rfl, (hv1.mono (by decide)).t (hx.1.mono (by decide)), fun j hj => by rw [hv2 j (by rw [hsP]; exact hj)]; unfold cx_sh; rw [if_neg c_2, hsP, hx.1 108 (by decide), show cx_I T = cx_I C by unfold cx_I; rw [hx.1 12 (by decide)]]⟩, hT⟩
        · have hi9 : i < sp_P C := mo_ilt hP9 (by omega) (by omega) c_31
          have hi8 : i < sp_P T := lvP hi9 (hx.1 1 (by decide))
          refine ev_aload_n dX11_partPool_34 rfl rfl ?_
          refine cw_getf hE hT dX11_partPool_35 fX11_10 (k := 0) (i := 0) rfl ob0 rfl ?_
          refine ev_iload_n dX11_partPool_38 rfl rfl ?_
          refine cw_get (l := 0) (q := i) hE hT dX11_partPool_39 lX11_138 (by decide) rfl hi8 (Nat.le_of_ble_eq_true rfl) (by omega) ?_
          refine ev_cast hE dX11_partPool_42 lkX11_100 ((hT.at (k := 20) (i := i) hi8).1 _ _ ob20) rfl ?_
          refine ev_astore dX11_partPool_45 (Nat.le_of_ble_eq_true rfl) rfl ?_
          refine ev_aload_n dX11_partPool_47 rfl rfl ?_
          refine cw_getf hE hT dX11_partPool_48 fX11_62 (k := 0) (i := 0) rfl ob0 rfl ?_
          refine ev_iload_n dX11_partPool_51 rfl rfl ?_
          refine ev_aload dX11_partPool_52 rfl ?_
          refine cw_call0 (d' := d - 1) hE hT dX11_partPool_54 rfl kX5_isAdmitted lX11_224 iX5_isAdmitted vX5_isAdmitted (k := 20) (i := i) hi8 ob20 rfl (Nat.le_of_ble_eq_true rfl) (by omega) (c_X5_isAdmitted hE hi8) (fun g hT => ?_)
          refine ev_if_eq (tgt := 71) dX11_partPool_57 (by decide) (fun c_57 => ?_) (fun c_57 => ?_)
          · refine ev_iconst (v := 0) dX11_partPool_71 (by decide) ?_
            refine cw_call2 (d' := d - 1) hE hT dX11_partPool_72 rfl kX6_weigh lX11_382 iX6_weigh vX6_weigh (k := 9) (i := 0) rfl ob9 rfl (Nat.le_of_ble_eq_true rfl) (by omega) (c_X6_weigh hE (show i < 12 by omega)) (fun g hT => ?_)
            refine ev_iinc (v := (nI (i + 1))) dX11_partPool_75 rfl (nI_1 i) rfl ?_
            refine ev_goto (tgt := 23) dX11_partPool_78 (by decide) ?_
            refine ev_none 4 ?_
            refine ih (i + 1) (by omega) (by omega) _ ⟨cx_weigh_x (by omega) hx.1, fun j hj => ?_⟩ g hT
            rw [cx_weigh_at (by omega)]
            by_cases e : j = i
            · rw [e, if_pos rfl, ← (hw c_2 i hi9).1, if_neg (cl_I0 (hx.1 12 (by decide)) c_57)]
            · rw [if_neg e]
              exact hx.2 j (by omega)
          · refine ev_aload_n dX11_partPool_60 rfl rfl ?_
            refine ev_aload_n dX11_partPool_61 rfl rfl ?_
            refine ev_aload dX11_partPool_62 rfl ?_
            refine ev_iload_n dX11_partPool_64 rfl rfl ?_
            refine cw_callr3 (d' := d - 1) (b := 0) (n0 := 0) hE hT dX11_partPool_65 rfl kX11_weightOf lX11_379 iX11_weightOf vX11_weightOf (k := 0) (i := 0) rfl ob0 rfl (Nat.le_of_ble_eq_true rfl) (by omega) (c_X11_weightOf (d := d - 1) hE h4 (by omega) (hx.1.cd (by decide) (by decide) (by decide) (by decide) (by decide) (by decide) hc) hbT hi8) (Nat.le_refl _) (Nat.le_refl _) (fun v9 W9 V g q9 hT => ?_) (fun E W2 C2 g q9 _ => by cases q9.2.1)
            obtain ⟨e8, e9, hv⟩ := q9
            have e7 := e8.symm
            subst e7
            cases e9
            have hi8 : i < sp_P V := lvP hi8 (hv.1 1 (by decide))
            refine ev_goto (tgt := 72) dX11_partPool_68 (by decide) ?_
            refine cw_call2 (d' := d - 1) hE hT dX11_partPool_72 rfl kX6_weigh lX11_382 iX6_weigh vX6_weigh (k := 9) (i := 0) rfl ob9 rfl (Nat.le_of_ble_eq_true rfl) (by omega) (c_X6_weigh hE (show i < 12 by omega)) (fun g hT => ?_)
            refine ev_iinc (v := (nI (i + 1))) dX11_partPool_75 rfl (nI_1 i) rfl ?_
            refine ev_goto (tgt := 23) dX11_partPool_78 (by decide) ?_
            refine ev_none 4 ?_
            have hv2 : cx_eqX [123, 125] V C := (hv.x.mono (by decide)).t hx.1
            refine ih (i + 1) (by omega) (by omega) _ ⟨cx_weigh_x (by omega) hv2, fun j hj => ?_⟩ g hT
            rw [cx_weigh_at (by omega)]
            by_cases e : j = i
            · rw [e, if_pos rfl, cx_weight_cg (cx_eqX_rd hx.1 (by decide)), ← (hw c_2 i hi9).1, if_pos (cl_I1 (hx.1 12 (by decide)) c_57)]
            · rw [if_neg e, hv.1 125 (by decide)]
              exact hx.2 j (by omega)
    exact loop ((sp_P C) + 1) 0 (by omega) (by omega) C ⟨cx_eqX.r C, fun j h => absurd h (by omega)⟩ g hT
  · refine ev_aload_n dX11_partPool_5 rfl rfl ?_
    refine cw_getf hE hT dX11_partPool_6 fX11_62 (k := 0) (i := 0) rfl ob0 rfl ?_
    refine ev_aload_n dX11_partPool_9 rfl rfl ?_
    refine cw_getf hE hT dX11_partPool_10 fX11_10 (k := 0) (i := 0) rfl ob0 rfl ?_
    refine ev_aload_n dX11_partPool_13 rfl rfl ?_
    refine cw_call0 (d' := d - 1) hE hT dX11_partPool_14 rfl kX11_pool lX11_328 iX11_pool vX11_pool (k := 0) (i := 0) rfl ob0 rfl (Nat.le_of_ble_eq_true rfl) (by omega) (c_X11_pool hE (by omega)) (fun g hT => ?_)
    rw [hL.1]
    refine cw_callr2 (d' := d - 1) (b := 0) (n0 := 0) hE hT dX11_partPool_17 rfl kX6_byBids lX11_375 iX6_byBids vX6_byBids (k := 9) (i := 0) rfl ob9 rfl (Nat.le_of_ble_eq_true rfl) (by omega) (c_X6_byBids (d := d - 1) hE (by omega) hC hK) (Nat.le_refl _) (Nat.le_refl _) (fun v9 W9 V g q9 hT => ?_) (fun E W2 C2 g q9 _ => by cases q9.2.1)
    obtain ⟨e8, e9, hv1, hv2⟩ := q9
    have e7 := e8.symm
    subst e7
    cases e9
    exact ev_vret dX11_partPool_20 rfl ⟨W, V, ⟨rfl, rfl, hv1.mono (by decide), fun j hj => by rw [hv2 j hj]; unfold cx_sh; rw [if_pos c_2]⟩, hT⟩
/-- the scratch -/
def cw_X : List Nat := [121, 123, 124, 125, 127, 128, 129, 130]
def cw_PS (G : ev_G) (W : cw_W) (d mc ms : Nat) (M : ev_M) (As : List Value) (C : mo_S) (u : cx_Out) : Prop := cw_R G W d mc ms M As C (fun o W2 C2 => W2 = W ∧ o = cx_o u.1 ∧ cx_eqX cw_X C2 u.2)
theorem cx_eqX.upB {X : List Nat} {T C : mo_S} {f i : Nat} {v u : Int32} (h : cx_eqX X T C) (e : v = u) : cx_eqX X (mo_up T f i v) (mo_up C f i u) := by
  subst e
  intro k hk
  funext j
  simp only [mo_up]
  split
  · rfl
  · rw [h k hk]
theorem cx_eqX.add {X : List Nat} {T C : mo_S} {p q : Nat} (h : cx_eqX X T C) (h4 : 4 ∉ X) (h5 : 5 ∉ X) (h10 : 10 ∉ X) : cx_eqX X (cx_X5_addSize T p q) (cx_X5_addSize C p q) := by
  unfold cx_X5_addSize
  refine ((h.upB ?_).upB ?_).upB ?_
  · rw [h 4 h4]
  · rw [h 5 h5]
  · rw [h 10 h10]
theorem cx_pH.cg {T C : mo_S} {Pf Qf : cx_Fn} {w c : Nat → Nat} {f L b : Nat} {x : Int32} (q : cx_eqX [123, 124, 125] T C) (h : cx_pH C Pf Qf w c f L b x) : cx_pH T Pf Qf w c f L b x := by
  obtain ⟨hc, hb, hL, hf, hw, hC, hK⟩ := h
  have eP : sp_P T = sp_P C := sp_P_cg (q 1 (by decide))
  have eI : cx_I T = cx_I C := by unfold cx_I; rw [q 12 (by decide)]
  refine ⟨q.cd (by decide) (by decide) (by decide) (by decide) (by decide) (by decide) hc, ?_, ?_, ?_, fun hx p hp => ?_, fun j hj => ?_, fun j hj => ?_⟩
  · rw [sp_O_cg (q 29 (by decide))]; exact hb
  · rw [sp_pool_cg (q 22 (by decide)) (q 23 (by decide)), sp_R_cg (q 21 (by decide))]; exact hL
  · rw [q 107 (by decide)]; exact hf
  · rw [eI, cx_weight_cg (cx_eqX_rd q (by decide))]; exact hw hx p (by rw [← eP]; exact hp)
  · rw [q 15 (by decide)]; exact hC j (by rw [← eP]; exact hj)
  · rw [q 14 (by decide)]; exact hK j (by rw [← eP]; exact hj)
theorem cx_sh_cg {T C : mo_S} {w : Nat → Nat} {f L b : Nat} {x : Int32} {j : Nat} (q : cx_eqX [123, 124, 125] T C) : cx_sh T w f L b x j = cx_sh C w f L b x j := by
  unfold cx_sh
  rw [show cx_I T = cx_I C by unfold cx_I; rw [q 12 (by decide)], q 14 (by decide), q 15 (by decide), q 108 (by decide), sp_P_cg (q 1 (by decide))]
theorem cx_now_cg {T C : mo_S} (h2 : T.1 2 = C.1 2) (h29 : T.1 29 = C.1 29) (h36 : T.1 36 = C.1 36) : cx_now T = cx_now C := by
  have e : ∀ n, sp_force T (T.1 2 0) n = sp_force C (C.1 2 0) n := by
    intro n
    induction n with
    | zero => rfl
    | succ n ih => simp only [sp_force]; rw [ih, h2, h36]
  unfold cx_now sp_now
  rw [e, sp_O_cg h29]
theorem cx_now_b (C : mo_S) : cx_now C < sp_O C ∨ cx_now C = 10 := by
  unfold cx_now
  cases h : sp_now C with
  | none => exact Or.inr rfl
  | some b => exact Or.inl (sp_now_lt h)
def cx_X11_tells (C : mo_S) (Pf : cx_Fn) (Qf : cx_Fn) (x1 : Int32) (x2 : Int32) : cx_Out :=
  (if sp_in x1 0 (C.1 1 0 - 1) = true then (if (mo_b (cx_X11_within x2 0 8)) = 0 then ((.inl "java/lang/IllegalArgumentException"), C) else (if x2 = 0 then ((.inr ((cx_part C Pf (cx_now C) (x1).toNatClampNeg))), C) else (if x2 = 1 then ((.inr ((cx_X4_pagesFor C (cx_now C) (C.1 3 (x1).toNatClampNeg).toNatClampNeg))), C) else (if x2 = 2 then ((.inr ((cx_price C Qf (cx_now C) (x1).toNatClampNeg (C.1 6 (x1).toNatClampNeg)))), C) else (if x2 = 3 then ((.inr ((C.1 103 (cx_now C)))), C) else (if x2 = 4 then ((.inr ((C.1 104 (cx_now C)))), C) else (if x2 = 5 then ((.inr ((C.1 105 (cx_now C)))), C) else (if x2 = 6 then ((.inr ((C.1 106 (cx_now C)))), C) else (if x2 = 7 then ((.inr ((C.1 107 (cx_now C)))), C) else ((.inr ((C.1 109 (cx_now C)))), C)))))))))) else ((.inl "java/lang/IndexOutOfBoundsException"), C))
theorem c_X11_tells {G : ev_G} {W : cw_W} {d D0 : Nat} {C : mo_S} {x1 : Int32} {x2 : Int32} {Pf : cx_Fn} {Qf : cx_Fn} (hE : ev_En G) (h4 : ev_En4 G D0) (hd : 7 ≤ d) (hc : cx_cd C Pf Qf) (hk : ∀ p, p < sp_P C → C.1 3 p = nI (C.1 3 p).toNatClampNeg ∧ (C.1 3 p).toNatClampNeg < 3) : cw_PS G W d 1 8 mX11_tells [.ref (W 0 0), .int x1, .int x2] C (cx_X11_tells C Pf Qf x1 x2) := by
  refine cw_startR (lv0 := [some (.ref (W 0 0)), some (.int x1), some (.int x2), none, none]) (by decide +kernel) rfl (Nat.le_of_ble_eq_true rfl) rfl ?_
  intro K g0 g hT
  have hBP := hT.B.1
  have hBR := hT.B.2.1
  refine ev_aload_n dX11_tells_0 rfl rfl ?_
  refine ev_iload_n dX11_tells_1 rfl rfl ?_
  refine cw_paperAt hE h4 rfl hT dX11_tells_2 lX11_109 (Nat.le_of_ble_eq_true rfl) (by omega) (by decide) (by decide) (fun c_2 g hT => ?_) (fun q9 c_2 e_2 u_2 hP2 g hT => ?_)
  · have e9 : cx_X11_tells C Pf Qf x1 x2 = ((.inl "java/lang/IndexOutOfBoundsException"), C) := by unfold cx_X11_tells; rw [if_neg (cl_nf c_2)]
    exact ⟨W, C, ⟨rfl, by rw [e9]; rfl, by rw [e9]; exact (cx_eqX.r _)⟩, hT⟩
  subst u_2
  refine ev_astore_n dX11_tells_5 rfl (Nat.le_of_ble_eq_true rfl) rfl ?_
  refine ev_iload_n dX11_tells_6 rfl rfl ?_
  refine ev_iconst (v := 0) dX11_tells_7 (by decide) ?_
  refine ev_bipush (v := 8) dX11_tells_8 (by decide) ?_
  refine ev_pS3 (d' := d - 1) dX11_tells_10 rfl kX11_within lX11_80 sX11_within (Nat.le_of_ble_eq_true rfl) (by omega) (c_X11_within) ?_
  refine cw_need hE h4 rfl dX11_tells_13 lX11_85 (Nat.le_of_ble_eq_true rfl) (by omega) (by decide) (by decide) (fun c_13 => ?_) (fun c_13 => ?_)
  · have e9 : cx_X11_tells C Pf Qf x1 x2 = ((.inl "java/lang/IllegalArgumentException"), C) := by unfold cx_X11_tells; rw [if_pos c_2, if_pos c_13]
    exact ⟨W, C, ⟨rfl, by rw [e9]; rfl, by rw [e9]; exact (cx_eqX.r _)⟩, hT⟩
  refine ev_aload_n dX11_tells_16 rfl rfl ?_
  refine cw_call0 (d' := d - 1) hE hT dX11_tells_17 rfl kX11_orderNow lX11_185 iX11_orderNow vX11_orderNow (k := 0) (i := 0) rfl ob0 rfl (Nat.le_of_ble_eq_true rfl) (by omega) (c_X11_orderNow hE (by omega)) (fun g hT => ?_)
  refine ev_astore dX11_tells_20 (Nat.le_of_ble_eq_true rfl) rfl ?_
  refine ev_iload_n dX11_tells_22 rfl rfl ?_
  by_cases c_23_0 : x2 = 0
  · refine ev_tableIn (tgt := 68) (off := 45) dX11_tells_23 (by rw [c_23_0]; decide) (by rw [c_23_0]; decide) (by rw [c_23_0]; rfl) (by decide) ?_
    refine ev_aload_n dX11_tells_68 rfl rfl ?_
    refine ev_aload dX11_tells_69 rfl ?_
    refine ev_aload_n dX11_tells_71 rfl rfl ?_
    refine cw_callr2 (d' := d - 1) (b := 1) (n0 := 8) hE hT dX11_tells_72 rfl kX11_partValue lX11_189 iX11_partValue vX11_partValue (k := 0) (i := 0) rfl ob0 rfl (Nat.le_of_ble_eq_true rfl) (by omega) (c_X11_partValue (d := d - 1) hE h4 (by omega) hc (cx_now_b C) hP2) (Nat.le_refl _) (Nat.le_refl _) (fun v9 W9 V g q9 hT => ?_) (fun E W2 C2 g q9 _ => by cases q9.2.1)
    obtain ⟨e8, e9, hv⟩ := q9
    have e7 := e8.symm
    subst e7
    cases e9
    have e9 : cx_X11_tells C Pf Qf x1 x2 = ((.inr ((cx_part C Pf (cx_now C) (x1).toNatClampNeg))), C) := by unfold cx_X11_tells; rw [if_pos c_2, if_neg c_13, if_pos c_23_0]
    exact ev_iret dX11_tells_75 rfl rfl ⟨W, V, ⟨rfl, by rw [e9]; rfl, by rw [e9]; exact (hv.x.mono (by decide))⟩, hT⟩
  · by_cases c_23_1 : x2 = 1
    · refine ev_tableIn (tgt := 76) (off := 53) dX11_tells_23 (by rw [c_23_1]; decide) (by rw [c_23_1]; decide) (by rw [c_23_1]; rfl) (by decide) ?_
      refine ev_aload dX11_tells_76 rfl ?_
      refine ev_aload_n dX11_tells_78 rfl rfl ?_
      refine cw_getf hE hT dX11_tells_79 fX11_193 (k := 20) (i := (x1).toNatClampNeg) hP2 ob20 rfl ?_
      have k9 := hk _ hP2
      refine cw_call1 (d' := d - 1) hE hT dX11_tells_82 rfl kX4_pagesFor lX11_196 iX4_pagesFor vX4_pagesFor (k := 28) (i := (cx_now C)) (cx_now_ol C) ob28 rfl (Nat.le_of_ble_eq_true rfl) (by omega) (by have w9 := (c_X4_pagesFor (W := W) (d := d - 1) (C := C) (q := (C.1 3 (x1).toNatClampNeg).toNatClampNeg) hE (cx_now_ol C) k9.2); rw [← k9.1] at w9; exact w9) (fun g hT => ?_)
      have e9 : cx_X11_tells C Pf Qf x1 x2 = ((.inr ((cx_X4_pagesFor C (cx_now C) (C.1 3 (x1).toNatClampNeg).toNatClampNeg))), C) := by unfold cx_X11_tells; rw [if_pos c_2, if_neg c_13, if_neg c_23_0, if_pos c_23_1]
      exact ev_iret dX11_tells_85 rfl rfl ⟨W, C, ⟨rfl, by rw [e9]; rfl, by rw [e9]; exact (cx_eqX.r _)⟩, hT⟩
    · by_cases c_23_2 : x2 = 2
      · refine ev_tableIn (tgt := 86) (off := 63) dX11_tells_23 (by rw [c_23_2]; decide) (by rw [c_23_2]; decide) (by rw [c_23_2]; rfl) (by decide) ?_
        refine ev_aload_n dX11_tells_86 rfl rfl ?_
        refine ev_aload dX11_tells_87 rfl ?_
        refine ev_aload_n dX11_tells_89 rfl rfl ?_
        refine ev_aload_n dX11_tells_90 rfl rfl ?_
        refine cw_getf hE hT dX11_tells_91 fX11_199 (k := 20) (i := (x1).toNatClampNeg) hP2 ob20 rfl ?_
        refine cw_callr3 (d' := d - 1) (b := 1) (n0 := 8) hE hT dX11_tells_94 rfl kX11_priceValue lX11_202 iX11_priceValue vX11_priceValue (k := 0) (i := 0) rfl ob0 rfl (Nat.le_of_ble_eq_true rfl) (by omega) (c_X11_priceValue (d := d - 1) hE h4 (by omega) hc (cx_now_b C) hP2) (Nat.le_refl _) (Nat.le_refl _) (fun v9 W9 V g q9 hT => ?_) (fun E W2 C2 g q9 _ => by cases q9.2.1)
        obtain ⟨e8, e9, hv⟩ := q9
        have e7 := e8.symm
        subst e7
        cases e9
        have e9 : cx_X11_tells C Pf Qf x1 x2 = ((.inr ((cx_price C Qf (cx_now C) (x1).toNatClampNeg (C.1 6 (x1).toNatClampNeg)))), C) := by unfold cx_X11_tells; rw [if_pos c_2, if_neg c_13, if_neg c_23_0, if_neg c_23_1, if_pos c_23_2]
        exact ev_iret dX11_tells_97 rfl rfl ⟨W, V, ⟨rfl, by rw [e9]; rfl, by rw [e9]; exact (hv.x.mono (by decide))⟩, hT⟩
      · by_cases c_23_3 : x2 = 3
        · refine ev_tableIn (tgt := 98) (off := 75) dX11_tells_23 (by rw [c_23_3]; decide) (by rw [c_23_3]; decide) (by rw [c_23_3]; rfl) (by decide) ?_
          refine ev_aload dX11_tells_98 rfl ?_
          refine cw_getf hE hT dX11_tells_100 fX11_206 (k := 28) (i := (cx_now C)) (cx_now_ol C) ob28 rfl ?_
          have e9 : cx_X11_tells C Pf Qf x1 x2 = ((.inr ((C.1 103 (cx_now C)))), C) := by unfold cx_X11_tells; rw [if_pos c_2, if_neg c_13, if_neg c_23_0, if_neg c_23_1, if_neg c_23_2, if_pos c_23_3]
          exact ev_iret dX11_tells_103 rfl rfl ⟨W, C, ⟨rfl, by rw [e9]; rfl, by rw [e9]; exact (cx_eqX.r _)⟩, hT⟩
        · by_cases c_23_4 : x2 = 4
          · refine ev_tableIn (tgt := 104) (off := 81) dX11_tells_23 (by rw [c_23_4]; decide) (by rw [c_23_4]; decide) (by rw [c_23_4]; rfl) (by decide) ?_
            refine ev_aload dX11_tells_104 rfl ?_
            refine cw_getf hE hT dX11_tells_106 fX11_209 (k := 28) (i := (cx_now C)) (cx_now_ol C) ob28 rfl ?_
            have e9 : cx_X11_tells C Pf Qf x1 x2 = ((.inr ((C.1 104 (cx_now C)))), C) := by unfold cx_X11_tells; rw [if_pos c_2, if_neg c_13, if_neg c_23_0, if_neg c_23_1, if_neg c_23_2, if_neg c_23_3, if_pos c_23_4]
            exact ev_iret dX11_tells_109 rfl rfl ⟨W, C, ⟨rfl, by rw [e9]; rfl, by rw [e9]; exact (cx_eqX.r _)⟩, hT⟩
          · by_cases c_23_5 : x2 = 5
            · refine ev_tableIn (tgt := 110) (off := 87) dX11_tells_23 (by rw [c_23_5]; decide) (by rw [c_23_5]; decide) (by rw [c_23_5]; rfl) (by decide) ?_
              refine ev_aload dX11_tells_110 rfl ?_
              refine cw_getf hE hT dX11_tells_112 fX11_212 (k := 28) (i := (cx_now C)) (cx_now_ol C) ob28 rfl ?_
              have e9 : cx_X11_tells C Pf Qf x1 x2 = ((.inr ((C.1 105 (cx_now C)))), C) := by unfold cx_X11_tells; rw [if_pos c_2, if_neg c_13, if_neg c_23_0, if_neg c_23_1, if_neg c_23_2, if_neg c_23_3, if_neg c_23_4, if_pos c_23_5]
              exact ev_iret dX11_tells_115 rfl rfl ⟨W, C, ⟨rfl, by rw [e9]; rfl, by rw [e9]; exact (cx_eqX.r _)⟩, hT⟩
            · by_cases c_23_6 : x2 = 6
              · refine ev_tableIn (tgt := 116) (off := 93) dX11_tells_23 (by rw [c_23_6]; decide) (by rw [c_23_6]; decide) (by rw [c_23_6]; rfl) (by decide) ?_
                refine ev_aload dX11_tells_116 rfl ?_
                refine cw_getf hE hT dX11_tells_118 fX11_215 (k := 28) (i := (cx_now C)) (cx_now_ol C) ob28 rfl ?_
                have e9 : cx_X11_tells C Pf Qf x1 x2 = ((.inr ((C.1 106 (cx_now C)))), C) := by unfold cx_X11_tells; rw [if_pos c_2, if_neg c_13, if_neg c_23_0, if_neg c_23_1, if_neg c_23_2, if_neg c_23_3, if_neg c_23_4, if_neg c_23_5, if_pos c_23_6]
                exact ev_iret dX11_tells_121 rfl rfl ⟨W, C, ⟨rfl, by rw [e9]; rfl, by rw [e9]; exact (cx_eqX.r _)⟩, hT⟩
              · by_cases c_23_7 : x2 = 7
                · refine ev_tableIn (tgt := 122) (off := 99) dX11_tells_23 (by rw [c_23_7]; decide) (by rw [c_23_7]; decide) (by rw [c_23_7]; rfl) (by decide) ?_
                  refine ev_aload dX11_tells_122 rfl ?_
                  refine cw_getf hE hT dX11_tells_124 fX11_218 (k := 28) (i := (cx_now C)) (cx_now_ol C) ob28 rfl ?_
                  have e9 : cx_X11_tells C Pf Qf x1 x2 = ((.inr ((C.1 107 (cx_now C)))), C) := by unfold cx_X11_tells; rw [if_pos c_2, if_neg c_13, if_neg c_23_0, if_neg c_23_1, if_neg c_23_2, if_neg c_23_3, if_neg c_23_4, if_neg c_23_5, if_neg c_23_6, if_pos c_23_7]
                  exact ev_iret dX11_tells_127 rfl rfl ⟨W, C, ⟨rfl, by rw [e9]; rfl, by rw [e9]; exact (cx_eqX.r _)⟩, hT⟩
                · refine ev_tableOut (tgt := 128) dX11_tells_23 (by have h0 : (x2 : Int32).toInt ≠ 0 := fun q => c_23_0 (Int32.toInt_inj.mp (by rw [q]; rfl)); have h1 : (x2 : Int32).toInt ≠ 1 := fun q => c_23_1 (Int32.toInt_inj.mp (by rw [q]; rfl)); have h2 : (x2 : Int32).toInt ≠ 2 := fun q => c_23_2 (Int32.toInt_inj.mp (by rw [q]; rfl)); have h3 : (x2 : Int32).toInt ≠ 3 := fun q => c_23_3 (Int32.toInt_inj.mp (by rw [q]; rfl)); have h4 : (x2 : Int32).toInt ≠ 4 := fun q => c_23_4 (Int32.toInt_inj.mp (by rw [q]; rfl)); have h5 : (x2 : Int32).toInt ≠ 5 := fun q => c_23_5 (Int32.toInt_inj.mp (by rw [q]; rfl)); have h6 : (x2 : Int32).toInt ≠ 6 := fun q => c_23_6 (Int32.toInt_inj.mp (by rw [q]; rfl)); have h7 : (x2 : Int32).toInt ≠ 7 := fun q => c_23_7 (Int32.toInt_inj.mp (by rw [q]; rfl)); omega) (by decide) ?_
                  refine ev_aload dX11_tells_128 rfl ?_
                  refine cw_getf hE hT dX11_tells_130 fX11_221 (k := 28) (i := (cx_now C)) (cx_now_ol C) ob28 rfl ?_
                  have e9 : cx_X11_tells C Pf Qf x1 x2 = ((.inr ((C.1 109 (cx_now C)))), C) := by unfold cx_X11_tells; rw [if_pos c_2, if_neg c_13, if_neg c_23_0, if_neg c_23_1, if_neg c_23_2, if_neg c_23_3, if_neg c_23_4, if_neg c_23_5, if_neg c_23_6, if_neg c_23_7]
                  exact ev_iret dX11_tells_133 rfl rfl ⟨W, C, ⟨rfl, by rw [e9]; rfl, by rw [e9]; exact (cx_eqX.r _)⟩, hT⟩
theorem cx_share_eq {C : mo_S} {q : Nat} (hq : q < 12) : cx_X6_shareOf C q = C.1 124 q := by
  unfold cx_X6_shareOf
  rfl
def cx_X11_parted (C : mo_S) (w : Int32 → Nat → Nat) (f : Nat) (L : Nat) (x1 : Int32) (x2 : Int32) : cx_Out :=
  (if sp_in x1 0 (C.1 1 0 - 1) = true then (if (mo_b (if x2 = (-1) then true else (if (mo_b (cx_X11_within x2 0 3)) = 0 then false else true))) = 0 then ((.inl "java/lang/IllegalArgumentException"), C) else (if (mo_b (cx_X5_isAdmitted C (x1).toNatClampNeg)) = 0 then ((.inr (0)), C) else ((.inr ((cx_sh C (w (if x2 = (-1) then (C.1 109 (cx_now C)) else x2)) f L (cx_now C) (if x2 = (-1) then (C.1 109 (cx_now C)) else x2) (x1).toNatClampNeg))), C))) else ((.inl "java/lang/IndexOutOfBoundsException"), C))
theorem c_X11_parted {G : ev_G} {W : cw_W} {d D0 : Nat} {C : mo_S} {x1 : Int32} {x2 : Int32} {w : Int32 → Nat → Nat} {f : Nat} {L : Nat} {Pf Qf : cx_Fn} {c : Nat → Nat} (hE : ev_En G) (h4 : ev_En4 G D0) (hd : 8 ≤ d) (hH : ∀ x, cx_pH C Pf Qf (w x) c f L (cx_now C) x) : cw_PS G W d 1 8 mX11_parted [.ref (W 0 0), .int x1, .int x2] C (cx_X11_parted C w f L x1 x2) := by
  refine cw_startR (lv0 := [some (.ref (W 0 0)), some (.int x1), some (.int x2), none, none]) (by decide +kernel) rfl (Nat.le_of_ble_eq_true rfl) rfl ?_
  intro K g0 g hT
  have hBP := hT.B.1
  have hBR := hT.B.2.1
  refine ev_aload_n dX11_parted_0 rfl rfl ?_
  refine ev_iload_n dX11_parted_1 rfl rfl ?_
  refine cw_paperAt hE h4 rfl hT dX11_parted_2 lX11_109 (Nat.le_of_ble_eq_true rfl) (by omega) (by decide) (by decide) (fun c_2 g hT => ?_) (fun q9 c_2 e_2 u_2 hP2 g hT => ?_)
  · have e9 : cx_X11_parted C w f L x1 x2 = ((.inl "java/lang/IndexOutOfBoundsException"), C) := by unfold cx_X11_parted; rw [if_neg (cl_nf c_2)]
    exact ⟨W, C, ⟨rfl, by rw [e9]; rfl, by rw [e9]; exact (cx_eqX.r _)⟩, hT⟩
  subst u_2
  refine ev_astore_n dX11_parted_5 rfl (Nat.le_of_ble_eq_true rfl) rfl ?_
  refine ev_iload_n dX11_parted_6 rfl rfl ?_
  refine ev_iconst (v := (-1)) dX11_parted_7 (by decide) ?_
  have K_25 : ∀ (g : ev_H) (hT : cw_T G K g0 W g C), ∀ x9 : Int32, x9 = (mo_b (if x2 = (-1) then true else (if (mo_b (cx_X11_within x2 0 3)) = 0 then false else true))) → ev_V G d 1 8 mX11_parted (fun o g' => ∃ W2 C2, (W2 = W ∧ o = cx_o (cx_X11_parted C w f L x1 x2).1 ∧ cx_eqX cw_X C2 (cx_X11_parted C w f L x1 x2).2) ∧ cw_T G K g0 W2 g' C2) g 25 [some (.ref (W 0 0)), some (.int x1), some (.int x2), some (.ref (W 20 (x1).toNatClampNeg)), none] (.int x9 :: []) := by
    intro g hT x9 h9
    subst h9
    refine cw_need hE h4 rfl dX11_parted_25 lX11_85 (Nat.le_of_ble_eq_true rfl) (by omega) (by decide) (by decide) (fun c_25 => ?_) (fun c_25 => ?_)
    · have e9 : cx_X11_parted C w f L x1 x2 = ((.inl "java/lang/IllegalArgumentException"), C) := by unfold cx_X11_parted; rw [if_pos c_2, if_pos c_25]
      exact ⟨W, C, ⟨rfl, by rw [e9]; rfl, by rw [e9]; exact (cx_eqX.r _)⟩, hT⟩
    refine ev_aload_n dX11_parted_28 rfl rfl ?_
    refine cw_call0 (d' := d - 1) hE hT dX11_parted_29 rfl kX5_isAdmitted lX11_224 iX5_isAdmitted vX5_isAdmitted (k := 20) (i := (x1).toNatClampNeg) hP2 ob20 rfl (Nat.le_of_ble_eq_true rfl) (by omega) (c_X5_isAdmitted hE hP2) (fun g hT => ?_)
    refine ev_if_ne (tgt := 37) dX11_parted_32 (by decide) (fun c_32 => ?_) (fun c_32 => ?_)
    · refine ev_aload_n dX11_parted_37 rfl rfl ?_
      refine cw_call0 (d' := d - 1) hE hT dX11_parted_38 rfl kX11_orderNow lX11_185 iX11_orderNow vX11_orderNow (k := 0) (i := 0) rfl ob0 rfl (Nat.le_of_ble_eq_true rfl) (by omega) (c_X11_orderNow hE (by omega)) (fun g hT => ?_)
      refine ev_astore dX11_parted_41 (Nat.le_of_ble_eq_true rfl) rfl ?_
      refine ev_aload_n dX11_parted_43 rfl rfl ?_
      refine ev_aload dX11_parted_44 rfl ?_
      refine ev_iload_n dX11_parted_46 rfl rfl ?_
      refine ev_iconst (v := (-1)) dX11_parted_47 (by decide) ?_
      have K_60 : ∀ (g : ev_H) (hT : cw_T G K g0 W g C), ∀ x9 : Int32, x9 = (if x2 = (-1) then (C.1 109 (cx_now C)) else x2) → ev_V G d 1 8 mX11_parted (fun o g' => ∃ W2 C2, (W2 = W ∧ o = cx_o (cx_X11_parted C w f L x1 x2).1 ∧ cx_eqX cw_X C2 (cx_X11_parted C w f L x1 x2).2) ∧ cw_T G K g0 W2 g' C2) g 60 [some (.ref (W 0 0)), some (.int x1), some (.int x2), some (.ref (W 20 (x1).toNatClampNeg)), some (.ref (W 28 (cx_now C)))] (.int x9 :: .ref (W 28 (cx_now C)) :: .ref (W 0 0) :: []) := by
        intro g hT x9 h9
        subst h9
        refine cw_callr2 (d' := d - 1) (b := 1) (n0 := 8) hE hT dX11_parted_60 rfl kX11_partPool lX11_234 iX11_partPool vX11_partPool (k := 0) (i := 0) rfl ob0 rfl (Nat.le_of_ble_eq_true rfl) (by omega) (c_X11_partPool (d := d - 1) hE h4 (by omega) (hH _)) (Nat.le_refl _) (Nat.le_refl _) (fun v9 W9 V g q9 hT => ?_) (fun E W2 C2 g q9 _ => by cases q9.2.1)
        obtain ⟨e8, e9, hv1, hv2⟩ := q9
        have e7 := e8.symm
        subst e7
        cases e9
        have hp12 : (x1).toNatClampNeg < 12 := by omega
        refine ev_aload_n dX11_parted_63 rfl rfl ?_
        refine cw_getf hE hT dX11_parted_64 fX11_62 (k := 0) (i := 0) rfl ob0 rfl ?_
        refine ev_iload_n dX11_parted_67 rfl rfl ?_
        refine cw_call1 (d' := d - 1) hE hT dX11_parted_68 rfl kX6_shareOf lX11_238 iX6_shareOf vX6_shareOf (k := 9) (i := 0) rfl ob9 rfl (Nat.le_of_ble_eq_true rfl) (by omega) (by have w9 := c_X6_shareOf (G := G) (W := W) (d := d - 1) (C := V) (q := (x1).toNatClampNeg) hE hp12; rw [← e_2] at w9; exact w9) (fun g hT => ?_)
        rw [show cx_X6_shareOf V (x1).toNatClampNeg = cx_sh C (w (if x2 = (-1) then (C.1 109 (cx_now C)) else x2)) f L (cx_now C) (if x2 = (-1) then (C.1 109 (cx_now C)) else x2) (x1).toNatClampNeg by rw [cx_share_eq hp12]; exact hv2 _ hP2]
        have e9 : cx_X11_parted C w f L x1 x2 = ((.inr ((cx_sh C (w (if x2 = (-1) then (C.1 109 (cx_now C)) else x2)) f L (cx_now C) (if x2 = (-1) then (C.1 109 (cx_now C)) else x2) (x1).toNatClampNeg))), C) := by unfold cx_X11_parted; rw [if_pos c_2, if_neg c_25, if_neg c_32]
        exact ev_iret dX11_parted_71 rfl rfl ⟨W, V, ⟨rfl, by rw [e9]; rfl, by rw [e9]; exact (hv1.mono (by decide))⟩, hT⟩
      refine ev_icmp_ne (tgt := 59) dX11_parted_48 (by decide) (fun c_48 => ?_) (fun c_48 => ?_)
      · refine ev_iload_n dX11_parted_59 rfl rfl ?_
        exact K_60 g hT _ (by rw [if_neg c_48])
      · refine ev_aload dX11_parted_51 rfl ?_
        refine cw_getf hE hT dX11_parted_53 fX11_221 (k := 28) (i := (cx_now C)) (cx_now_ol C) ob28 rfl ?_
        refine ev_goto (tgt := 60) dX11_parted_56 (by decide) ?_
        exact K_60 g hT _ (by rw [if_pos c_48])
    · refine ev_iconst (v := 0) dX11_parted_35 (by decide) ?_
      have e9 : cx_X11_parted C w f L x1 x2 = ((.inr (0)), C) := by unfold cx_X11_parted; rw [if_pos c_2, if_neg c_25, if_pos c_32]
      exact ev_iret dX11_parted_36 rfl rfl ⟨W, C, ⟨rfl, by rw [e9]; rfl, by rw [e9]; exact (cx_eqX.r _)⟩, hT⟩
  refine ev_icmp_eq (tgt := 20) dX11_parted_8 (by decide) (fun c_8 => ?_) (fun c_8 => ?_)
  · refine ev_iconst (v := 1) dX11_parted_20 (by decide) ?_
    refine ev_goto (tgt := 25) dX11_parted_21 (by decide) ?_
    exact K_25 g hT _ (by rw [if_pos c_8]; rfl)
  · refine ev_iload_n dX11_parted_11 rfl rfl ?_
    refine ev_iconst (v := 0) dX11_parted_12 (by decide) ?_
    refine ev_iconst (v := 3) dX11_parted_13 (by decide) ?_
    refine ev_pS3 (d' := d - 1) dX11_parted_14 rfl kX11_within lX11_80 sX11_within (Nat.le_of_ble_eq_true rfl) (by omega) (c_X11_within) ?_
    refine ev_if_eq (tgt := 24) dX11_parted_17 (by decide) (fun c_17 => ?_) (fun c_17 => ?_)
    · refine ev_iconst (v := 0) dX11_parted_24 (by decide) ?_
      exact K_25 g hT _ (by rw [if_neg c_8, if_pos c_17]; rfl)
    · refine ev_iconst (v := 1) dX11_parted_20 (by decide) ?_
      refine ev_goto (tgt := 25) dX11_parted_21 (by decide) ?_
      exact K_25 g hT _ (by rw [if_neg c_8, if_neg c_17]; rfl)
end CM12
