section CM8
/-- the same but for these fields -/
def cx_eqX (X : List Nat) (T C : mo_S) : Prop := ∀ f, f ∉ X → T.1 f = C.1 f
theorem cx_eqX.r {X : List Nat} (C : mo_S) : cx_eqX X C C := fun _ _ => rfl
theorem cx_eqX.up {X : List Nat} {T C : mo_S} {f i : Nat} {v : Int32} (h : cx_eqX X T C) (hf : f ∈ X) : cx_eqX X (mo_up T f i v) C := fun k hk => by rw [mo_up_ne (fun e => hk (by rw [e]; exact hf))]; exact h k hk
theorem cx_eqX.upL {X : List Nat} {T C : mo_S} {i : Nat} {v : Int64} (h : cx_eqX X T C) : cx_eqX X (mo_upL T i v) C := h
theorem cx_eqX.fl {X : List Nat} {T C : mo_S} {f n : Nat} {e : Nat → Nat} {v : Int32} (h : cx_eqX X T C) (hf : f ∈ X) : cx_eqX X (cx_fl T f e v n) C := fun k hk => by rw [cx_fl_ne (fun e => hk (by rw [e]; exact hf))]; exact h k hk
theorem cx_eqX.t {X : List Nat} {U T C : mo_S} (h : cx_eqX X U T) (h2 : cx_eqX X T C) : cx_eqX X U C := fun k hk => (h k hk).trans (h2 k hk)
theorem cx_eqX.mono {X Y : List Nat} {T C : mo_S} (h : cx_eqX X T C) (hs : ∀ k, k ∈ X → k ∈ Y) : cx_eqX Y T C := fun k hk => h k (fun q => hk (hs k q))
theorem cl_min {a b : Nat} (ha : a < 2147483648) (hb : b < 2147483648) : cj_min (nI a) (nI b) = nI (min a b) := by
  unfold cj_min
  by_cases h : b < a
  · rw [if_pos (nI_lt h ha), Nat.min_eq_right (by omega)]
  · rw [if_neg (nI_nlt (by omega) hb), Nat.min_eq_left (by omega)]
theorem cl_flat {C : mo_S} {f n j : Nat} {v : Int32} (h : j < n) : (cx_fl C f (fun j => j) v n).1 f j = v := cx_fl_at (e := fun j => j) n j h
theorem cl_adm {C : mo_S} {p : Nat} : cx_X5_isAdmitted C p = decide (C.1 12 p = 1) := by
  unfold cx_X5_isAdmitted
  split <;> simp_all
/-- who is in -/
def cx_I (C : mo_S) (p : Nat) : Bool := decide (C.1 12 p = 1)
theorem cl_I1 {T C : mo_S} {p : Nat} (h : T.1 12 = C.1 12) (c : ¬ mo_b (cx_X5_isAdmitted T p) = 0) : cx_I C p = true := by
  have := mo_b1 c
  rw [cl_adm, h] at this
  exact this
theorem cl_I0 {T C : mo_S} {p : Nat} (h : T.1 12 = C.1 12) (c : mo_b (cx_X5_isAdmitted T p) = 0) : ¬ cx_I C p = true := by
  have := mo_b0 c
  rw [cl_adm, h] at this
  exact this
theorem c_X6_giveLeast {G : ev_G} {W : cw_W} {d : Nat} {C : mo_S} {L : Nat} {f : Nat} (hE : ev_En G) (hd : 3 ≤ d) (hL : L ≤ 200000) (hf : f ≤ 10000) : cw_R G W d 0 0 mX6_giveLeast [.ref (W 9 0), .ref (W 1 0), .int (nI L), .int (nI f)] C (fun o W2 C2 => W2 = W ∧ o = .inl (some (.int (nI (pt_lf f (cx_I C) L (sp_P C))))) ∧ cx_eqX [124] C2 C ∧ ∀ j, j < sp_P C → C2.1 124 j = nI (pt_s f (cx_I C) L j)) := by
  refine cw_startR (lv0 := [some (.ref (W 9 0)), some (.ref (W 1 0)), some (.int (nI L)), some (.int (nI f)), none, none]) (by decide +kernel) rfl (Nat.le_of_ble_eq_true rfl) rfl ?_
  intro K g0 g hT
  have hBP := hT.B.1
  refine ev_aload_n dX6_giveLeast_0 rfl rfl ?_
  refine cw_getf hE hT dX6_giveLeast_1 fX6_9 (k := 9) (i := 0) rfl ob9 rfl ?_
  refine ev_iconst (v := 0) dX6_giveLeast_4 (by decide) ?_
  refine cw_fill (k := 10) (i := 0) (n := 12) (f := 124) (e := fun j => j) hE hT dX6_giveLeast_5 lX6_22 rfl (fun _ => ar10) (by decide) (by decide) (by decide) (fun j hj => rfl) (Nat.le_of_ble_eq_true rfl) (by omega) (fun g hT => ?_)
  refine ev_iload_n dX6_giveLeast_8 rfl rfl ?_
  refine ev_istore dX6_giveLeast_9 (Nat.le_of_ble_eq_true rfl) rfl ?_
  refine ev_iconst (v := 0) dX6_giveLeast_11 (by decide) ?_
  refine ev_istore dX6_giveLeast_12 (Nat.le_of_ble_eq_true rfl) rfl ?_
  have loop : ∀ (n i : Nat), i ≤ (sp_P C) → (sp_P C) < i + n → ∀ (T : mo_S), (cx_eqX [124] T C ∧ ∀ j, j < sp_P C → T.1 124 j = nI (if j < i then pt_s f (cx_I C) L j else 0)) → ∀ g, cw_T G K g0 W g T → ev_V G d 0 0 mX6_giveLeast (fun o g' => ∃ W2 C2, (W2 = W ∧ o = .inl (some (.int (nI (pt_lf f (cx_I C) L (sp_P C))))) ∧ cx_eqX [124] C2 C ∧ ∀ j, j < sp_P C → C2.1 124 j = nI (pt_s f (cx_I C) L j)) ∧ cw_T G K g0 W2 g' C2) g 14 [some (.ref (W 9 0)), some (.ref (W 1 0)), some (.int (nI L)), some (.int (nI f)), some (.int (nI (pt_lf f (cx_I C) L i))), some (.int (nI i))] [] := by
    intro n
    induction n with
    | zero => intro i h1 h2; exact absurd h2 (by omega)
    | succ n ih =>
      intro i h1 h2 T hx g hT
      have hP9 : T.1 1 0 = nI (sp_P C) := by rw [hx.1 1 (by decide)]; exact hBP.1
      have hl9 := pt_lf_le f (cx_I C) L i
      have hs8 : pt_s f (cx_I C) L i ≤ pt_lf f (cx_I C) L i := by unfold pt_s; split <;> omega
      have hs9 := hs8
      refine ev_iload dX6_giveLeast_14 rfl ?_
      refine ev_aload_n dX6_giveLeast_16 rfl rfl ?_
      refine cw_size (l := 0) (v := (T.1 1 0)) hE hT dX6_giveLeast_17 lX6_32 (by decide) (Nat.le_of_ble_eq_true rfl) (by omega) rfl ?_
      refine ev_icmp_ge (tgt := 76) dX6_giveLeast_20 (by decide) (fun c_20 => ?_) (fun c_20 => ?_)
      · have e : i = sp_P C := by have := mo_ige hP9 (by omega) (by omega) c_20; omega
        subst e
        refine ev_iload dX6_giveLeast_76 rfl ?_
        exact ev_iret dX6_giveLeast_78 rfl rfl ⟨W, T, ⟨rfl, rfl, hx.1, fun j hj => by rw [hx.2 j hj, if_pos hj]⟩, hT⟩
      · have hi9 : i < sp_P C := mo_ilt hP9 (by omega) (by omega) c_20
        have hi8 : i < sp_P T := lvP hi9 (hx.1 1 (by decide))
        refine ev_iload dX6_giveLeast_23 rfl ?_
        refine ev_bipush (v := 12) dX6_giveLeast_25 (by decide) ?_
        refine ev_icmp_ge (tgt := 76) dX6_giveLeast_27 (by decide) (fun c_27 => ?_) (fun c_27 => ?_)
        · exact absurd c_27 (nI_ge (b := 12) (by omega) (by decide))
        · refine ev_aload_n dX6_giveLeast_30 rfl rfl ?_
          refine ev_iload dX6_giveLeast_31 rfl ?_
          refine cw_get (l := 0) (q := i) hE hT dX6_giveLeast_33 lX6_38 (by decide) rfl hi8 (Nat.le_of_ble_eq_true rfl) (by omega) ?_
          refine ev_cast hE dX6_giveLeast_36 lkX6_42 ((hT.at (k := 20) (i := i) hi8).1 _ _ ob20) rfl ?_
          refine cw_call0 (d' := d - 1) hE hT dX6_giveLeast_39 rfl kX5_isAdmitted lX6_54 iX5_isAdmitted vX5_isAdmitted (k := 20) (i := i) hi8 ob20 rfl (Nat.le_of_ble_eq_true rfl) (by omega) (c_X5_isAdmitted hE hi8) (fun g hT => ?_)
          refine ev_if_eq (tgt := 70) dX6_giveLeast_42 (by decide) (fun c_42 => ?_) (fun c_42 => ?_)
          · refine ev_iinc (v := (nI (i + 1))) dX6_giveLeast_70 rfl (nI_1 i) rfl ?_
            refine ev_goto (tgt := 14) dX6_giveLeast_73 (by decide) ?_
            rw [show pt_lf f (cx_I C) L i = pt_lf f (cx_I C) L (i + 1) from (if_neg (cl_I0 (hx.1 12 (by decide)) c_42)).symm]
            refine ih (i + 1) (by omega) (by omega) _ ⟨hx.1, fun j hj => ?_⟩ g hT
            rw [hx.2 j hj]
            by_cases e : j = i
            · rw [e, if_neg (by omega), if_pos (by omega)]
              exact congrArg nI (if_neg (cl_I0 (hx.1 12 (by decide)) c_42)).symm
            · by_cases e2 : j < i
              · rw [if_pos e2, if_pos (by omega)]
              · rw [if_neg e2, if_neg (by omega)]
          · refine ev_aload_n dX6_giveLeast_45 rfl rfl ?_
            refine cw_getf hE hT dX6_giveLeast_46 fX6_9 (k := 9) (i := 0) rfl ob9 rfl ?_
            refine ev_iload dX6_giveLeast_49 rfl ?_
            refine ev_iload_n dX6_giveLeast_51 rfl rfl ?_
            refine ev_iload dX6_giveLeast_52 rfl ?_
            refine ev_mmin dX6_giveLeast_54 lX6_48 (Nat.le_of_ble_eq_true rfl) (by omega) ?_
            rw [cl_min (by omega) (by omega), ← show pt_s f (cx_I C) L i = min f (pt_lf f (cx_I C) L i) from if_pos (cl_I1 (hx.1 12 (by decide)) c_42)]
            refine cw_ias (q := i) (f := 124) (ix := i) hE hT dX6_giveLeast_57 (k := 10) (i := 0) rfl ar10 rfl (by omega) (by decide) rfl (by decide) (by decide) (pa10 (i := 0)) (fun g hT => ?_)
            refine ev_iload dX6_giveLeast_58 rfl ?_
            refine ev_aload_n dX6_giveLeast_60 rfl rfl ?_
            refine cw_getf hE hT dX6_giveLeast_61 fX6_9 (k := 9) (i := 0) rfl ob9 rfl ?_
            refine ev_iload dX6_giveLeast_64 rfl ?_
            refine cw_ial (q := i) (v := (nI (pt_s f (cx_I C) L i))) hE hT dX6_giveLeast_66 (k := 10) (i := 0) rfl ar10 rfl (by omega) (by decide) (by rw [mo_up_at]; exact pk_us) ?_
            refine ev_isub dX6_giveLeast_67 ?_
            refine ev_istore dX6_giveLeast_68 (Nat.le_of_ble_eq_true rfl) rfl ?_
            refine ev_iinc (v := (nI (i + 1))) dX6_giveLeast_70 rfl (nI_1 i) rfl ?_
            refine ev_goto (tgt := 14) dX6_giveLeast_73 (by decide) ?_
            rw [show nI (pt_lf f (cx_I C) L i) - nI (pt_s f (cx_I C) L i) = nI (pt_lf f (cx_I C) L (i + 1)) by rw [pt_lf_s, pk_sub hs9]]
            refine ih (i + 1) (by omega) (by omega) _ ⟨hx.1.up (by decide), fun j hj => ?_⟩ g hT
            rw [mo_up_at]
            by_cases e : j = i
            · rw [e, pk_us, if_pos (by omega)]
            · rw [pk_un e, hx.2 j hj]
              by_cases e2 : j < i
              · rw [if_pos e2, if_pos (by omega)]
              · rw [if_neg e2, if_neg (by omega)]
  exact loop ((sp_P C) + 1) 0 (by omega) (by omega) _ ⟨(cx_eqX.r C).fl (by decide), fun j hj => by rw [if_neg (by omega)]; exact cl_flat (by omega)⟩ g hT
end CM8
