section RI
theorem rd_getD_l {A B : List Int32} {j : Nat} (h : j < A.length) : (A ++ B).getD j 0 = A.getD j 0 := by
  rw [List.getD_eq_getElem?_getD, List.getD_eq_getElem?_getD, List.getElem?_append_left h]
theorem rd_getD_r {A B : List Int32} {j : Nat} (h : A.length ≤ j) : (A ++ B).getD j 0 = B.getD (j - A.length) 0 := by
  rw [List.getD_eq_getElem?_getD, List.getD_eq_getElem?_getD, List.getElem?_append_right h]
def rd_cd (C : mo_S) : Prop := ∃ c : Nat, C.1 122 0 = nI c ∧ c ≤ 300
/-- ready to read at p, c codes are there -/
def rd_P (C : mo_S) (t : Nat → Nat) (n p c : Nat) : Prop := rd_G C t n p ∧ C.1 122 0 = nI c ∧ c ≤ p
def rd_Xs : List Nat := [33, 117, 118, 119, 120, 121, 122]
def rd_Q (C : mo_S) (t : Nat → Nat) (n p c : Nat) (r : ps_R) (T : mo_S) : Prop := match r with
  | .inl (f, pl) => rd_F T t n f pl ∧ rd_cd T ∧ cx_eqX rd_Xs T C
  | .inr (h, _, Cl, _) => rd_G T t n h ∧ cx_eqX [117, 118, 119, 121, 122] T C ∧ T.1 122 0 = nI (c + Cl.length) ∧ p + Cl.length ≤ h ∧ (∀ i, i < c → T.1 121 i = C.1 121 i) ∧ ∀ j, j < Cl.length → T.1 121 (c + j) = Cl.getD j 0
theorem rd_G.le {C : mo_S} {t : Nat → Nat} {n p : Nat} (h : rd_G C t n p) : p ≤ n ∧ n ≤ 300 := ⟨h.2.2.1, h.1.2.1⟩
theorem rd_Q.P {C T : mo_S} {t : Nat → Nat} {n p c h : Nat} {L : List (Int32 × Int32)} {Cl : List Int32} {F : ps_F} (hc : c ≤ p) (q : rd_Q C t n p c (.inr (h, L, Cl, F)) T) : rd_P T t n h (c + Cl.length) := by
  obtain ⟨q1, q2, q3, q4, q5, q6⟩ := q
  exact ⟨q1, q3, by omega⟩
theorem rd_Q.sg {C T T2 : mo_S} {t : Nat → Nat} {n p c h h2 : Nat} {L : List (Int32 × Int32)} {Cl : List Int32} {F : ps_F} (q : rd_Q C t n p c (.inr (h, L, Cl, F)) T) (hx : cx_eqX [117, 118, 119] T2 T) (hG : rd_G T2 t n h2) (hh : h ≤ h2) : rd_Q C t n p c (.inr (h2, L, Cl, F)) T2 := by
  obtain ⟨q1, q2, q3, q4, q5, q6⟩ := q
  exact ⟨hG, (hx.mono (by decide)).t q2, by rw [hx 122 (by decide)]; exact q3, by omega, fun i hi => by rw [hx 121 (by decide)]; exact q5 i hi, fun j hj => by rw [hx 121 (by decide)]; exact q6 j hj⟩
theorem rd_Q.ft {C T T2 : mo_S} {t : Nat → Nat} {n p c h f pl : Nat} {L : List (Int32 × Int32)} {Cl : List Int32} {F : ps_F} (q : rd_Q C t n p c (.inr (h, L, Cl, F)) T) (hc : c ≤ p) (hx : cx_eqX [33, 117, 120] T2 T) (hF : rd_F T2 t n f pl) : rd_Q C t n p c (.inl (f, pl)) T2 := by
  obtain ⟨q1, q2, q3, q4, q5, q6⟩ := q
  have := q1.le
  exact ⟨hF, ⟨c + Cl.length, by rw [hx 122 (by decide)]; exact q3, by omega⟩, (hx.mono (by decide)).t (q2.mono (by decide))⟩
theorem rd_Q.lt {C T T2 : mo_S} {t : Nat → Nat} {n p c h h2 c2 : Nat} {e : Nat × Nat} {L : List (Int32 × Int32)} {Cl : List Int32} {F : ps_F} (q : rd_Q C t n p c (.inr (h, L, Cl, F)) T) (r : rd_Q T t n h2 c2 (.inl e) T2) : rd_Q C t n p c (.inl e) T2 := by
  obtain ⟨q1, q2, q3, q4, q5, q6⟩ := q
  obtain ⟨r1, r2, r3⟩ := r
  exact ⟨r1, r2, r3.t (q2.mono (by decide))⟩
theorem rd_Q.app {C T T2 : mo_S} {t : Nat → Nat} {n p c h h2 : Nat} {L L2 L3 : List (Int32 × Int32)} {Cl Cl2 : List Int32} {F F2 F3 : ps_F} (q : rd_Q C t n p c (.inr (h, L, Cl, F)) T) (r : rd_Q T t n h (c + Cl.length) (.inr (h2, L2, Cl2, F2)) T2) : rd_Q C t n p c (.inr (h2, L3, Cl ++ Cl2, F3)) T2 := by
  obtain ⟨q1, q2, q3, q4, q5, q6⟩ := q
  obtain ⟨r1, r2, r3, r4, r5, r6⟩ := r
  refine ⟨r1, r2.t q2, by rw [List.length_append, r3, Nat.add_assoc], by rw [List.length_append]; omega, fun i hi => by rw [r5 i (by omega)]; exact q5 i hi, fun j hj => ?_⟩
  rw [List.length_append] at hj
  by_cases z : j < Cl.length
  · rw [r5 (c + j) (by omega), q6 j z, rd_getD_l z]
  · rw [rd_getD_r (by omega), ← r6 (j - Cl.length) (by omega), show c + Cl.length + (j - Cl.length) = c + j by omega]
theorem rd_emit_lt {C : mo_S} {c : Nat} {x : Int32} (hc : C.1 122 0 = nI c) (h : c < 300) : cx_X7_emit C c x = mo_up (mo_up C 121 c x) 122 0 (nI (c + 1)) := by
  unfold cx_X7_emit
  first
    | (rw [hc, if_neg (show ¬ (300 : Int32) ≤ nI c from nI_ge (a := c) (b := 300) h (by decide)), nI_1])
    | (rw [if_neg (by rw [hc]; exact nI_ge (a := c) (b := 300) h (by decide)), hc, nI_1])
/-- one code more -/
theorem rd_Q.em {C T : mo_S} {t : Nat → Nat} {n p c h : Nat} {x : Int32} {L L3 : List (Int32 × Int32)} {Cl : List Int32} {F F3 : ps_F} (q : rd_Q C t n p c (.inr (h, L, Cl, F)) T) (hlt : p + Cl.length < h) (hc : c ≤ p) : rd_Q C t n p c (.inr (h, L3, Cl ++ [x], F3)) (cx_X7_emit T (c + Cl.length) x) := by
  obtain ⟨q1, q2, q3, q4, q5, q6⟩ := q
  have hle := q1.le
  rw [rd_emit_lt q3 (by omega)]
  refine ⟨⟨q1.1.cg (by rw [mo_up_ne (by decide), mo_up_ne (by decide)]) (by rw [mo_up_ne (by decide), mo_up_ne (by decide)]), by rw [mo_up_ne (by decide), mo_up_ne (by decide)]; exact q1.2.1, ?_⟩, (q2.up (by decide)).up (by decide), by rw [mo_up_at, pk_us, List.length_append]; rfl, by rw [List.length_append]; show p + (Cl.length + 1) ≤ h; omega, fun i hi => by rw [mo_up_ne (by decide), mo_up_at, pk_un (by omega)]; exact q5 i hi, fun j hj => ?_⟩
  · obtain ⟨a1, a2, a3, a4⟩ := q1.2.2
    exact ⟨a1, by rw [mo_up_ne (by decide), mo_up_ne (by decide)]; exact a2, by rw [mo_up_ne (by decide), mo_up_ne (by decide)]; exact a3, by rw [mo_up_ne (by decide), mo_up_ne (by decide)]; exact a4⟩
  · rw [List.length_append] at hj
    have hj : j < Cl.length + 1 := hj
    rw [mo_up_ne (by decide), mo_up_at]
    by_cases z : j = Cl.length
    · rw [z, pk_us, rd_getD_r (Nat.le_refl _), Nat.sub_self]
      rfl
    · rw [pk_un (by omega), q6 j (by omega), rd_getD_l (by omega)]
theorem rd_P.Q {C : mo_S} {t : Nat → Nat} {n p c : Nat} {L : List (Int32 × Int32)} {F : ps_F} (h : rd_P C t n p c) : rd_Q C t n p c (.inr (p, L, [], F)) C := ⟨h.1, cx_eqX.r C, h.2.1, Nat.le_refl _, fun _ _ => rfl, fun j hj => absurd hj (by simp)⟩
/-- .. where there is a fault: codes may still come -/
theorem rd_F.em {T : mo_S} {t : Nat → Nat} {n f pl c : Nat} {x : Int32} (h : rd_F T t n f pl) (hc : T.1 122 0 = nI c) (hc3 : c ≤ 300) : rd_F (cx_X7_emit T c x) t n f pl ∧ rd_cd (cx_X7_emit T c x) ∧ cx_eqX [121, 122] (cx_X7_emit T c x) T := by
  by_cases z : c < 300
  · rw [rd_emit_lt hc z]
    obtain ⟨h1, h2, h3, h4, h5, h6⟩ := h
    exact ⟨⟨h1.cg (by rw [mo_up_ne (by decide), mo_up_ne (by decide)]) (by rw [mo_up_ne (by decide), mo_up_ne (by decide)]), by rw [mo_up_ne (by decide), mo_up_ne (by decide)]; exact h2, h3, h4, by rw [mo_up_ne (by decide), mo_up_ne (by decide)]; exact h5, by rw [mo_up_ne (by decide), mo_up_ne (by decide)]; exact h6⟩, ⟨c + 1, by rw [mo_up_at, pk_us], by omega⟩, ((cx_eqX.r T).up (by decide)).up (by decide)⟩
  · have e : cx_X7_emit T c x = T := by
      unfold cx_X7_emit
      first
        | (rw [hc, if_pos (show (300 : Int32) ≤ nI c from nI_le (a := 300) (by omega) (by omega))])
        | (rw [if_pos (by rw [hc]; exact nI_le (a := 300) (by omega) (by omega))])
    rw [e]
    exact ⟨h, ⟨c, hc, hc3⟩, cx_eqX.r T⟩
theorem rd_Q.emF {C T : mo_S} {t : Nat → Nat} {n p c c2 : Nat} {e : Nat × Nat} {x : Int32} (q : rd_Q C t n p c (.inl e) T) (hc : T.1 122 0 = nI c2) (hc3 : c2 ≤ 300) : rd_Q C t n p c (.inl e) (cx_X7_emit T c2 x) := by
  obtain ⟨q1, q2, q3⟩ := q
  obtain ⟨r1, r2, r3⟩ := q1.em (x := x) hc hc3
  exact ⟨r1, r2, (r3.mono (by decide)).t q3⟩
theorem c_X7_readNamed_F {G : ev_G} {W : cw_W} {d D0 n f pl : Nat} {C : mo_S} {t : Nat → Nat} {x : Int32} (hE : ev_En G) (h4 : ev_En4 G D0) (hd : 2 ≤ d) (h : rd_F C t n f pl) : cw_C G W d mX7_readNamed [.ref (W 4 0), .int x] C none C := by
  refine cw_start (lv0 := [some (.ref (W 4 0)), some (.int x), none]) (by decide +kernel) rfl (Nat.le_of_ble_eq_true rfl) rfl ?_
  intro K g0 g hT
  refine ev_aload_n dX7_readNamed_0 rfl rfl ?_
  refine ev_ldcS dX7_readNamed_1 (h4.2.2.2.2.2.2.1 (180, rd_L180) (by decide)) (fun a ha => ?_)
  refine cw_call1 (d' := d - 1) hE hT dX7_readNamed_3 rfl kX7_wordAmong lX7_92 iX7_wordAmong vX7_wordAmong (k := 4) (i := 0) rfl ob4 rfl (Nat.le_of_ble_eq_true rfl) (by omega) (c_X7_wordAmong_n hE (by rw [h.2.2.2.2.2]; decide)) (fun g hT => ?_)
  refine ev_istore_n dX7_readNamed_6 rfl (Nat.le_of_ble_eq_true rfl) rfl ?_
  refine ev_iload_n dX7_readNamed_7 rfl rfl ?_
  refine ev_iconst (v := -1) dX7_readNamed_8 (by decide) ?_
  refine ev_icmp_ne (tgt := 18) dX7_readNamed_9 (by decide) (fun c => absurd rfl c) (fun _ => ?_)
  refine ev_aload_n dX7_readNamed_12 rfl rfl ?_
  refine ev_iconst (v := 1) dX7_readNamed_13 (by decide) ?_
  refine cw_call1 (d' := d - 1) hE hT dX7_readNamed_14 rfl kX7_fail lX7_75 iX7_fail vX7_fail (k := 4) (i := 0) rfl ob4 rfl (Nat.le_of_ble_eq_true rfl) (by omega) (c_X7_fail hE) (fun g hT => ?_)
  rw [rd_fail_F h] at hT
  exact ev_vret dX7_readNamed_17 rfl ⟨rfl, hT⟩
theorem c_X7_readUnit_F {G : ev_G} {W : cw_W} {d D0 n f pl : Nat} {C : mo_S} {t : Nat → Nat} {x : Int32} (hE : ev_En G) (h4 : ev_En4 G D0) (hd : 3 ≤ d) (h : rd_F C t n f pl) : cw_C G W d mX7_readUnit [.ref (W 4 0), .int x] C none C := by
  refine cw_start (lv0 := [some (.ref (W 4 0)), some (.int x)]) (by decide +kernel) rfl (Nat.le_of_ble_eq_true rfl) rfl ?_
  intro K g0 g hT
  refine ev_aload_n dX7_readUnit_0 rfl rfl ?_
  refine cw_geti (v2 := -2) hE hT dX7_readUnit_1 fX7_22 (k := 4) (i := 0) rfl ob4 rfl h.2.2.2.2.2 ?_
  refine ev_bipush (v := 48) dX7_readUnit_4 (by decide) ?_
  refine ev_icmp_ne (tgt := 24) dX7_readUnit_6 (by decide) (fun _ => ?_) (fun c => absurd c (by decide))
  refine ev_aload_n dX7_readUnit_24 rfl rfl ?_
  refine cw_geti (v2 := -2) hE hT dX7_readUnit_25 fX7_22 (k := 4) (i := 0) rfl ob4 rfl h.2.2.2.2.2 ?_
  refine ev_bipush (v := 40) dX7_readUnit_28 (by decide) ?_
  refine ev_icmp_ne (tgt := 41) dX7_readUnit_30 (by decide) (fun _ => ?_) (fun c => absurd c (by decide))
  refine ev_aload_n dX7_readUnit_41 rfl rfl ?_
  refine ev_iload_n dX7_readUnit_42 rfl rfl ?_
  refine cw_call1 (d' := d - 1) hE hT dX7_readUnit_43 rfl kX7_readNamed lX7_177 iX7_readNamed vX7_readNamed (k := 4) (i := 0) rfl ob4 rfl (Nat.le_of_ble_eq_true rfl) (by omega) (c_X7_readNamed_F hE h4 (by omega) h) (fun g hT => ?_)
  exact ev_vret dX7_readUnit_46 rfl ⟨rfl, hT⟩
theorem c_X7_readProduct_F {G : ev_G} {W : cw_W} {d D0 n f pl : Nat} {C : mo_S} {t : Nat → Nat} {x : Int32} (hE : ev_En G) (h4 : ev_En4 G D0) (hd : 4 ≤ d) (h : rd_F C t n f pl) : cw_C G W d mX7_readProduct [.ref (W 4 0), .int x] C none C := by
  refine cw_start (lv0 := [some (.ref (W 4 0)), some (.int x), none, none]) (by decide +kernel) rfl (Nat.le_of_ble_eq_true rfl) rfl ?_
  intro K g0 g hT
  refine ev_aload_n dX7_readProduct_0 rfl rfl ?_
  refine ev_iload_n dX7_readProduct_1 rfl rfl ?_
  refine cw_call1 (d' := d - 1) hE hT dX7_readProduct_2 rfl kX7_readUnit lX7_171 iX7_readUnit vX7_readUnit (k := 4) (i := 0) rfl ob4 rfl (Nat.le_of_ble_eq_true rfl) (by omega) (c_X7_readUnit_F hE h4 (by omega) h) (fun g hT => ?_)
  refine ev_iconst (v := 0) dX7_readProduct_5 (by decide) ?_
  refine ev_istore_n dX7_readProduct_6 rfl (Nat.le_of_ble_eq_true rfl) rfl ?_
  refine ev_iload_n dX7_readProduct_7 rfl rfl ?_
  refine ev_aload_n dX7_readProduct_8 rfl rfl ?_
  refine cw_getf hE hT dX7_readProduct_9 fX7_19 (k := 4) (i := 0) rfl ob4 rfl ?_
  refine ev_icmp_ge (tgt := 70) dX7_readProduct_12 (by decide) (fun _ => ev_vret dX7_readProduct_70 rfl ⟨rfl, hT⟩) (fun _ => ?_)
  refine ev_aload_n dX7_readProduct_15 rfl rfl ?_
  refine cw_geti (v2 := -2) hE hT dX7_readProduct_16 fX7_22 (k := 4) (i := 0) rfl ob4 rfl h.2.2.2.2.2 ?_
  refine ev_bipush (v := 42) dX7_readProduct_19 (by decide) ?_
  refine ev_icmp_eq (tgt := 33) dX7_readProduct_21 (by decide) (fun c => absurd c (by decide)) (fun _ => ?_)
  refine ev_aload_n dX7_readProduct_24 rfl rfl ?_
  refine cw_geti (v2 := -2) hE hT dX7_readProduct_25 fX7_22 (k := 4) (i := 0) rfl ob4 rfl h.2.2.2.2.2 ?_
  refine ev_bipush (v := 47) dX7_readProduct_28 (by decide) ?_
  refine ev_icmp_ne (tgt := 70) dX7_readProduct_30 (by decide) (fun _ => ?_) (fun c => absurd c (by decide))
  exact ev_vret dX7_readProduct_70 rfl ⟨rfl, hT⟩
theorem c_X7_readSum_F {G : ev_G} {W : cw_W} {d D0 n f pl : Nat} {C : mo_S} {t : Nat → Nat} {x : Int32} (hE : ev_En G) (h4 : ev_En4 G D0) (hd : 5 ≤ d) (h : rd_F C t n f pl) : cw_C G W d mX7_readSum [.ref (W 4 0), .int x] C none C := by
  refine cw_start (lv0 := [some (.ref (W 4 0)), some (.int x), none, none]) (by decide +kernel) rfl (Nat.le_of_ble_eq_true rfl) rfl ?_
  intro K g0 g hT
  refine ev_aload_n dX7_readSum_0 rfl rfl ?_
  refine ev_iload_n dX7_readSum_1 rfl rfl ?_
  refine cw_call1 (d' := d - 1) hE hT dX7_readSum_2 rfl kX7_readProduct lX7_165 iX7_readProduct vX7_readProduct (k := 4) (i := 0) rfl ob4 rfl (Nat.le_of_ble_eq_true rfl) (by omega) (c_X7_readProduct_F hE h4 (by omega) h) (fun g hT => ?_)
  refine ev_iconst (v := 0) dX7_readSum_5 (by decide) ?_
  refine ev_istore_n dX7_readSum_6 rfl (Nat.le_of_ble_eq_true rfl) rfl ?_
  refine ev_iload_n dX7_readSum_7 rfl rfl ?_
  refine ev_aload_n dX7_readSum_8 rfl rfl ?_
  refine cw_getf hE hT dX7_readSum_9 fX7_19 (k := 4) (i := 0) rfl ob4 rfl ?_
  refine ev_icmp_ge (tgt := 70) dX7_readSum_12 (by decide) (fun _ => ev_vret dX7_readSum_70 rfl ⟨rfl, hT⟩) (fun _ => ?_)
  refine ev_aload_n dX7_readSum_15 rfl rfl ?_
  refine cw_geti (v2 := -2) hE hT dX7_readSum_16 fX7_22 (k := 4) (i := 0) rfl ob4 rfl h.2.2.2.2.2 ?_
  refine ev_bipush (v := 43) dX7_readSum_19 (by decide) ?_
  refine ev_icmp_eq (tgt := 33) dX7_readSum_21 (by decide) (fun c => absurd c (by decide)) (fun _ => ?_)
  refine ev_aload_n dX7_readSum_24 rfl rfl ?_
  refine cw_geti (v2 := -2) hE hT dX7_readSum_25 fX7_22 (k := 4) (i := 0) rfl ob4 rfl h.2.2.2.2.2 ?_
  refine ev_bipush (v := 45) dX7_readSum_28 (by decide) ?_
  refine ev_icmp_ne (tgt := 70) dX7_readSum_30 (by decide) (fun _ => ?_) (fun c => absurd c (by decide))
  exact ev_vret dX7_readSum_70 rfl ⟨rfl, hT⟩
end RI
