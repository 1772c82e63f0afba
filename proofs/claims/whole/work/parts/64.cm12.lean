section CM12
theorem cx_eqV.x {T C : mo_S} (h : cx_eqV T C) : cx_eqX [123] T C := fun f hf => h.1 f (fun e => hf (by rw [e]; decide))
theorem cx_eqX.cd {X : List Nat} {T C : mo_S} {P Q : cx_Fn} (q : cx_eqX X T C) (h29 : 29 ∉ X) (h110 : 110 ∉ X) (h1 : 111 ∉ X) (h2 : 112 ∉ X) (h3 : 113 ∉ X) (h4 : 114 ∉ X) (h : cx_cd C P Q) : cx_cd T P Q := h.cg (q 29 h29) (q 110 h110) (q 111 h1) (q 112 h2) (q 113 h3) (q 114 h4)
theorem sp_pool_cg {T C : mo_S} (h2 : T.1 22 = C.1 22) (h3 : T.1 23 = C.1 23) : ∀ n, sp_pool T n = sp_pool C n
  | 0 => rfl
  | n + 1 => by simp only [sp_pool]; rw [sp_pool_cg h2 h3 n, h2, h3]
theorem cx_named_cg {T C : mo_S} (h3 : T.1 3 = C.1 3) (h4 : T.1 4 = C.1 4) (h5 : T.1 5 = C.1 5) (h7 : T.1 7 = C.1 7) (h10 : T.1 10 = C.1 10) (h13 : T.1 13 = C.1 13) (x : Int32) (p : Nat) (a b : Int32) : cx_X10_named T x p a b = cx_X10_named C x p a b := by
  unfold cx_X10_named
  rw [h3, h4, h5, h7, h10, h13]
/-- what a formula reads -/
def cx_rd : List Nat := [2, 3, 4, 5, 6, 7, 8, 10, 13]
theorem cx_part_cg {T C : mo_S} {P : cx_Fn} {b p : Nat} (h : ∀ f, f ∈ cx_rd → T.1 f = C.1 f) : cx_part T P b p = cx_part C P b p := by
  unfold cx_part cx_v
  rw [h 6 (by decide), h 2 (by decide)]
  simp only [cx_named_cg (h 3 (by decide)) (h 4 (by decide)) (h 5 (by decide)) (h 7 (by decide)) (h 10 (by decide)) (h 13 (by decide))]
theorem cx_weight_cg {T C : mo_S} {P : cx_Fn} {b p : Nat} {x : Int32} (h : ∀ f, f ∈ cx_rd → T.1 f = C.1 f) : cx_weight T P b p x = cx_weight C P b p x := by
  unfold cx_weight
  rw [cx_part_cg h, h 8 (by decide)]
/-- what each gets -/
def cx_sh (C : mo_S) (w : Nat → Nat) (f L b : Nat) (x : Int32) (j : Nat) : Int32 := if x = 3 then (pt_bA (cx_I C) (C.1 14) (C.1 15) (nI L) (sp_P C) 101).2 j else nI (pt_share f (decide (C.1 108 b = 0)) (cx_I C) w (sp_P C) L j)
/-- what a parting asks -/
def cx_pH (C : mo_S) (Pf Qf : cx_Fn) (w c : Nat → Nat) (f L b : Nat) (x : Int32) : Prop :=
  cx_cd C Pf Qf ∧ (b < sp_O C ∨ b = 10) ∧ (sp_pool C (sp_R C) = nI L ∧ L ≤ 200000) ∧ (C.1 107 b = nI f ∧ f ≤ 10000) ∧ (¬ x = 3 → ∀ p, p < sp_P C → (if cx_I C p = true then cx_weight C Pf b p x else 0) = nI (w p) ∧ w p ≤ 1000000) ∧ (∀ j, j < sp_P C → C.1 15 j = nI (c j) ∧ c j ≤ 100) ∧ ∀ j, j < sp_P C → ∃ a : Nat, C.1 14 j = nI a ∧ a < 2147483648
theorem cx_eqX_rd {X : List Nat} {T C : mo_S} (h : cx_eqX X T C) (hX : ∀ f, f ∈ cx_rd → f ∉ X) : ∀ f, f ∈ cx_rd → T.1 f = C.1 f := fun f hf => h f (hX f hf)
theorem cx_weigh_eq {C : mo_S} {q : Nat} {x : Int32} (hq : q < 12) : cx_X6_weigh C q x = mo_up C 125 q x := by
  unfold cx_X6_weigh
  first
    | rfl
    | (split <;> first | rfl | (exfalso; rename_i h; exact absurd h (nI_pos (by omega))))
theorem cx_weigh_x {T C : mo_S} {q : Nat} {x : Int32} (hq : q < 12) (h : cx_eqX [123, 125] T C) : cx_eqX [123, 125] (cx_X6_weigh T q x) C := by
  rw [cx_weigh_eq hq]
  exact h.up (by decide)
theorem cx_weigh_at {T : mo_S} {q j : Nat} {x : Int32} (hq : q < 12) : (cx_X6_weigh T q x).1 125 j = if j = q then x else T.1 125 j := by
  rw [cx_weigh_eq hq, mo_up_at]
  rfl
theorem c_X11_partPool {G : ev_G} {W : cw_W} {d : Nat} {C : mo_S} {b : Nat} {x1 : Int32} {Pf Qf : cx_Fn} {w c : Nat → Nat} {f L : Nat} (hE : ev_En G) {D0 : Nat} (h4 : ev_En4 G D0) (hd : 7 ≤ d) (hH : cx_pH C Pf Qf w c f L b x1) : cw_R G W d 0 0 mX11_partPool [.ref (W 0 0), .ref (W 28 b), .int x1] C (fun o W2 C2 => W2 = W ∧ o = .inl none ∧ cx_eqX [123, 124, 125] C2 C ∧ ∀ j, j < sp_P C → C2.1 124 j = cx_sh C w f L b x1 j) := by
  refine cw_startR (lv0 := [some (.ref (W 0 0)), some (.ref (W 28 b)), some (.int x1), none, none]) (by decide +kernel) rfl (Nat.le_of_ble_eq_true rfl) rfl ?_
  intro K g0 g hT
  have hBP := hT.B.1
  obtain ⟨hc, hb, hL, hf, hw, hC, hK⟩ := hH
  refine ev_iload_n dX11_partPool_0 rfl rfl ?_
  refine ev_iconst (v := 3) dX11_partPool_1 (by decide) ?_
  refine ev_icmp_ne (tgt := 21) dX11_partPool_2 (by decide) (fun c_2 => ?_) (fun c_2 => ?_)
  · refine ev_iconst (v := 0) dX11_partPool_21 (by decide) ?_
    refine ev_istore_n dX11_partPool_22 rfl (Nat.le_of_ble_eq_true rfl) rfl ?_
    have loop : ∀ (n i : Nat), i ≤ (sp_P C) → (sp_P C) < i + n → ∀ (T : mo_S), (cx_eqX [123, 125] T C ∧ ∀ j, j < i → T.1 125 j = nI (w j)) → ∀ g, cw_T G K g0 W g T → ev_V G d 0 0 mX11_partPool (fun o g' => ∃ W2 C2, (W2 = W ∧ o = .inl none ∧ cx_eqX [123, 124, 125] C2 C ∧ ∀ j, j < sp_P C → C2.1 124 j = cx_sh C w f L b x1 j) ∧ cw_T G K g0 W2 g' C2) g 23 [some (.ref (W 0 0)), some (.ref (W 28 b)), some (.int x1), some (.int (nI i)), none] [] := by
      intro n
      induction n with
      | zero => intro i h1 h2; exact absurd h2 (by omega)
      | succ n ih =>
        intro i h1 h2 T hx g hT
        have hP9 : T.1 1 0 = nI (sp_P C) := by rw [hx.1 1 (by decide)]; exact hBP.1
        have hbT : b < sp_O T ∨ b = 10 := by rw [sp_O_cg (hx.1 29 (by decide))]; exact hb
        have hsP : sp_P T = sp_P C := sp_P_cg (hx.1 1 (by decide))
        have hpl9 : sp_pool T (sp_R T) = nI L := by rw [sp_pool_cg (hx.1 22 (by decide)) (hx.1 23 (by decide)), sp_R_cg (hx.1 21 (by decide))]; exact hL.1
        refine ev_iload_n dX11_partPool_23 rfl rfl ?_
        refine ev_aload_n dX11_partPool_24 rfl rfl ?_
        refine cw_getf hE hT dX11_partPool_25 fX11_10 (k := 0) (i := 0) rfl ob0 rfl ?_
        refine cw_size (l := 0) (v := (T.1 1 0)) hE hT dX11_partPool_28 lX11_89 (by decide) (Nat.le_of_ble_eq_true rfl) (by omega) rfl ?_
        refine ev_icmp_ge (tgt := 81) dX11_partPool_31 (by decide) (fun c_31 => ?_) (fun c_31 => ?_)
        · have e : i = sp_P C := by have := mo_ige hP9 (by omega) (by omega) c_31; omega
          subst e
          refine ev_aload_n dX11_partPool_81 rfl rfl ?_
          refine cw_getf hE hT dX11_partPool_82 fX11_62 (k := 0) (i := 0) rfl ob0 rfl ?_
          refine ev_aload_n dX11_partPool_85 rfl rfl ?_
          refine cw_getf hE hT dX11_partPool_86 fX11_10 (k := 0) (i := 0) rfl ob0 rfl ?_
          refine ev_aload_n dX11_partPool_89 rfl rfl ?_
          refine cw_call0 (d' := d - 1) hE hT dX11_partPool_90 rfl kX11_pool lX11_328 iX11_pool vX11_pool (k := 0) (i := 0) rfl ob0 rfl (Nat.le_of_ble_eq_true rfl) (by omega) (c_X11_pool hE (by omega)) (fun g hT => ?_)
          rw [hpl9]
          refine ev_aload_n dX11_partPool_93 rfl rfl ?_
          refine cw_geti (v2 := nI f) hE hT dX11_partPool_94 fX11_218 (k := 28) (i := b) (cx_olI hbT) ob28 rfl (by rw [hx.1 107 (by decide)]; exact hf.1) ?_
          refine ev_aload_n dX11_partPool_97 rfl rfl ?_
          refine cw_getf hE hT dX11_partPool_98 fX11_385 (k := 28) (i := b) (cx_olI hbT) ob28 rfl ?_
          refine cw_callr4 (d' := d - 1) (b := 0) (n0 := 0) hE hT dX11_partPool_101 rfl kX6_byWeights lX11_389 iX6_byWeights vX6_byWeights (k := 9) (i := 0) rfl ob9 rfl (Nat.le_of_ble_eq_true rfl) (by omega) (c_X6_byWeights (d := d - 1) (w := w) hE (by omega) hL.2 hf.2 (fun j hj => by rw [hsP] at hj; exact ⟨hx.2 j hj, (hw c_2 j hj).2⟩)) (Nat.le_refl _) (Nat.le_refl _) (fun v9 W9 V g q9 hT => ?_) (fun E W2 C2 g q9 _ => by cases q9.2.1)
          obtain ⟨e8, e9, hv1, hv2⟩ := q9
          have e7 := e8.symm
          subst e7
          cases e9
          exact ev_vret dX11_partPool_104 rfl ⟨W, V, ⟨rfl, rfl, (hv1.mono (by decide)).t (hx.1.mono (by decide)), fun j hj => by rw [hv2 j (by rw [hsP]; exact hj)]; unfold cx_sh; rw [if_neg c_2, hsP, hx.1 108 (by decide), show cx_I T = cx_I C by unfold cx_I; rw [hx.1 12 (by decide)]]⟩, hT⟩
        · have hi9 : i < sp_P C := mo_ilt hP9 (by omega) (by omega) c_31
          have hi8 : i < sp_P T := lvP hi9 (hx.1 1 (by decide))
          refine ev_aload_n dX11_partPool_34 rfl rfl ?_
          refine cw_getf hE hT dX11_partPool_35 fX11_10 (k := 0) (i := 0) rfl ob0 rfl ?_
          refine ev_iload_n dX11_partPool_38 rfl rfl ?_
          refine cw_get (l := 0) (q := i) hE hT dX11_partPool_39 lX11_138 (by decide) rfl hi8 (Nat.le_of_ble_eq_true rfl) (by omega) ?_
          refine ev_cast hE dX11_partPool_42 lkX11_100 ((hT.at (k := 20) (i := i) hi8).1 _ _ ob20) rfl ?_
          refine ev_astore dX11_partPool_45 (Nat.le_of_ble_eq_true rfl) rfl ?_
          refine ev_aload_n dX11_partPool_47 rfl rfl ?_
          refine cw_getf hE hT dX11_partPool_48 fX11_62 (k := 0) (i := 0) rfl ob0 rfl ?_
          refine ev_iload_n dX11_partPool_51 rfl rfl ?_
          refine ev_aload dX11_partPool_52 rfl ?_
          refine cw_call0 (d' := d - 1) hE hT dX11_partPool_54 rfl kX5_isAdmitted lX11_224 iX5_isAdmitted vX5_isAdmitted (k := 20) (i := i) hi8 ob20 rfl (Nat.le_of_ble_eq_true rfl) (by omega) (c_X5_isAdmitted hE hi8) (fun g hT => ?_)
          refine ev_if_eq (tgt := 71) dX11_partPool_57 (by decide) (fun c_57 => ?_) (fun c_57 => ?_)
          · refine ev_iconst (v := 0) dX11_partPool_71 (by decide) ?_
            refine cw_call2 (d' := d - 1) hE hT dX11_partPool_72 rfl kX6_weigh lX11_382 iX6_weigh vX6_weigh (k := 9) (i := 0) rfl ob9 rfl (Nat.le_of_ble_eq_true rfl) (by omega) (c_X6_weigh hE (show i < 12 by omega)) (fun g hT => ?_)
            refine ev_iinc (v := (nI (i + 1))) dX11_partPool_75 rfl (nI_1 i) rfl ?_
            refine ev_goto (tgt := 23) dX11_partPool_78 (by decide) ?_
            refine ev_none 4 ?_
            refine ih (i + 1) (by omega) (by omega) _ ⟨cx_weigh_x (by omega) hx.1, fun j hj => ?_⟩ g hT
            rw [cx_weigh_at (by omega)]
            by_cases e : j = i
            · rw [e, if_pos rfl, ← (hw c_2 i hi9).1, if_neg (cl_I0 (hx.1 12 (by decide)) c_57)]
            · rw [if_neg e]
              exact hx.2 j (by omega)
          · refine ev_aload_n dX11_partPool_60 rfl rfl ?_
            refine ev_aload_n dX11_partPool_61 rfl rfl ?_
            refine ev_aload dX11_partPool_62 rfl ?_
            refine ev_iload_n dX11_partPool_64 rfl rfl ?_
            refine cw_callr3 (d' := d - 1) (b := 0) (n0 := 0) hE hT dX11_partPool_65 rfl kX11_weightOf lX11_379 iX11_weightOf vX11_weightOf (k := 0) (i := 0) rfl ob0 rfl (Nat.le_of_ble_eq_true rfl) (by omega) (c_X11_weightOf (d := d - 1) hE h4 (by omega) (hx.1.cd (by decide) (by decide) (by decide) (by decide) (by decide) (by decide) hc) hbT hi8) (Nat.le_refl _) (Nat.le_refl _) (fun v9 W9 V g q9 hT => ?_) (fun E W2 C2 g q9 _ => by cases q9.2.1)
            obtain ⟨e8, e9, hv⟩ := q9
            have e7 := e8.symm
            subst e7
            cases e9
            have hi8 : i < sp_P V := lvP hi8 (hv.1 1 (by decide))
            refine ev_goto (tgt := 72) dX11_partPool_68 (by decide) ?_
            refine cw_call2 (d' := d - 1) hE hT dX11_partPool_72 rfl kX6_weigh lX11_382 iX6_weigh vX6_weigh (k := 9) (i := 0) rfl ob9 rfl (Nat.le_of_ble_eq_true rfl) (by omega) (c_X6_weigh hE (show i < 12 by omega)) (fun g hT => ?_)
            refine ev_iinc (v := (nI (i + 1))) dX11_partPool_75 rfl (nI_1 i) rfl ?_
            refine ev_goto (tgt := 23) dX11_partPool_78 (by decide) ?_
            refine ev_none 4 ?_
            have hv2 : cx_eqX [123, 125] V C := (hv.x.mono (by decide)).t hx.1
            refine ih (i + 1) (by omega) (by omega) _ ⟨cx_weigh_x (by omega) hv2, fun j hj => ?_⟩ g hT
            rw [cx_weigh_at (by omega)]
            by_cases e : j = i
            · rw [e, if_pos rfl, cx_weight_cg (cx_eqX_rd hx.1 (by decide)), ← (hw c_2 i hi9).1, if_pos (cl_I1 (hx.1 12 (by decide)) c_57)]
            · rw [if_neg e, hv.1 125 (by decide)]
              exact hx.2 j (by omega)
    exact loop ((sp_P C) + 1) 0 (by omega) (by omega) C ⟨cx_eqX.r C, fun j h => absurd h (by omega)⟩ g hT
  · refine ev_aload_n dX11_partPool_5 rfl rfl ?_
    refine cw_getf hE hT dX11_partPool_6 fX11_62 (k := 0) (i := 0) rfl ob0 rfl ?_
    refine ev_aload_n dX11_partPool_9 rfl rfl ?_
    refine cw_getf hE hT dX11_partPool_10 fX11_10 (k := 0) (i := 0) rfl ob0 rfl ?_
    refine ev_aload_n dX11_partPool_13 rfl rfl ?_
    refine cw_call0 (d' := d - 1) hE hT dX11_partPool_14 rfl kX11_pool lX11_328 iX11_pool vX11_pool (k := 0) (i := 0) rfl ob0 rfl (Nat.le_of_ble_eq_true rfl) (by omega) (c_X11_pool hE (by omega)) (fun g hT => ?_)
    rw [hL.1]
    refine cw_callr2 (d' := d - 1) (b := 0) (n0 := 0) hE hT dX11_partPool_17 rfl kX6_byBids lX11_375 iX6_byBids vX6_byBids (k := 9) (i := 0) rfl ob9 rfl (Nat.le_of_ble_eq_true rfl) (by omega) (c_X6_byBids (d := d - 1) hE (by omega) hC hK) (Nat.le_refl _) (Nat.le_refl _) (fun v9 W9 V g q9 hT => ?_) (fun E W2 C2 g q9 _ => by cases q9.2.1)
    obtain ⟨e8, e9, hv1, hv2⟩ := q9
    have e7 := e8.symm
    subst e7
    cases e9
    exact ev_vret dX11_partPool_20 rfl ⟨W, V, ⟨rfl, rfl, hv1.mono (by decide), fun j hj => by rw [hv2 j hj]; unfold cx_sh; rw [if_pos c_2]⟩, hT⟩
end CM12
