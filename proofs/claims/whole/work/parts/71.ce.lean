section CE
section RS
variable {G : ev_G} {d bc bs : Nat} {M : ev_M} {Post : ev_P} {g : ev_H} {pc : Nat} {lv : List (Option Value)} {st : List Value}
theorem ev_astoreN {i : Nat} {lv' : List (Option Value)} (hd : decode M.2.1 pc = .ok (.astore i, 2)) (hn : i < lv.length) (he : ev_s1 lv i .null = lv') (k : ev_V G d bc bs M Post g (pc + 2) lv' st) : ev_V G d bc bs M Post g pc lv (.null :: st) :=
  fun p e s m args below meth c H locs cells slots mc ms ls hC hR hS hc hs hl => lv_astoreN hC.1 hC.2.1 hd hl.has (by rw [← hl.2.2.1]; exact hn) rfl (fun ls' h' => k p e s m args below meth c H locs cells slots mc ms ls' hC hR hS hc hs (he ▸ hl.set1 h'))
end RS
/-- is there a row of this month -/
def cx_hr (C : mo_S) (x : Int32) : Bool := sp_in x 0 (C.1 134 0 - 1)
def cx_rr (C : mo_S) (W : cw_W) (x : Int32) : Value := if cx_hr C x = true then .ref (W 34 x.toNatClampNeg) else .null
theorem c_X2_rowsOf {G : ev_G} {W : cw_W} {d : Nat} {C : mo_S} {x1 : Int32} (hE : ev_En G) : cw_C G W d mX2_rowsOf [.ref (W 13 0), .int x1] C (some (cx_rr C W x1)) C := by
  refine cw_start (lv0 := [some (.ref (W 13 0)), some (.int x1)]) (by decide +kernel) rfl (Nat.le_of_ble_eq_true rfl) rfl ?_
  intro K g0 g hT
  have hBM := hT.B.2.2.2.2.1
  obtain ⟨f, a1, a2⟩ := (hT.at (k := 14) (i := 0) rfl).2.2.2.2 rfl
  refine ev_iload_n dX2_rowsOf_0 rfl rfl ?_
  refine ev_if_lt (tgt := 22) dX2_rowsOf_1 (by decide) (fun c_1 => ?_) (fun c_1 => ?_)
  · refine ev_null dX2_rowsOf_22 ?_
    refine ev_aret dX2_rowsOf_23 rfl (Or.inr ⟨_, rfl⟩) (Or.inl rfl) ⟨?_, hT⟩
    unfold cx_rr cx_hr
    rw [if_neg (fun q => absurd (of_decide_eq_true q).1 (Int32.not_le.mpr c_1))]
  · refine ev_iload_n dX2_rowsOf_4 rfl rfl ?_
    refine ev_aload_n dX2_rowsOf_5 rfl rfl ?_
    refine cw_getf hE hT dX2_rowsOf_6 fX2_11 (k := 13) (i := 0) rfl ob13 rfl ?_
    refine ev_alen (t0 := 5) hE dX2_rowsOf_9 rfl a1 ?_
    refine ev_icmp_ge (tgt := 22) dX2_rowsOf_10 (by decide) (fun c_10 => ?_) (fun c_10 => ?_)
    · refine ev_null dX2_rowsOf_22 ?_
      refine ev_aret dX2_rowsOf_23 rfl (Or.inr ⟨_, rfl⟩) (Or.inl rfl) ⟨?_, hT⟩
      unfold cx_rr cx_hr
      rw [if_neg (fun q => ?_)]
      obtain ⟨e, hn⟩ := cl_in_n hBM.1 hBM.2 (by decide) q
      rw [e] at c_10
      exact nI_ge (a := x1.toNatClampNeg) (b := 600) (by omega) (by decide) c_10
    · obtain ⟨e, hn⟩ := cl_in_n (y := nI 600) (n := 600) (N := 600) rfl (by decide) (by decide) (cl_in_ok (n := 600) (N := 600) rfl (by decide) (by decide) c_1 (Int32.not_le.mp c_10))
      generalize hm : x1.toNatClampNeg = m at e hn
      subst e
      refine ev_aload_n dX2_rowsOf_13 rfl rfl ?_
      refine cw_getf hE hT dX2_rowsOf_14 fX2_11 (k := 13) (i := 0) rfl ob13 rfl ?_
      refine ev_iload_n dX2_rowsOf_17 rfl rfl ?_
      refine ev_galdq hE dX2_rowsOf_18 a1 (vp_in_nI hn (by decide)) ?_
      rw [nI_clamp (by omega), a2 m hn]
      refine ev_goto (tgt := 23) dX2_rowsOf_19 (by decide) ?_
      have ev : cx_rr C W (nI m) = va_rf (if m < cw_M C then some (W 34 m) else none) := by
        unfold cx_rr cx_hr
        by_cases z : m < cw_M C
        · rw [if_pos z, if_pos (cl_in_ok hBM.1 hBM.2 (by decide) c_1 (by rw [hBM.1]; exact nI_lt z (by omega))), nI_clamp (by omega)]
          rfl
        · rw [if_neg z, if_neg (fun q => z ?_)]
          · rfl
          · have := (cl_in_n hBM.1 hBM.2 (by decide) q).2
            rw [nI_clamp (by omega)] at this
            exact this
      rw [ev]
      by_cases z : m < cw_M C
      · rw [if_pos z]
        exact ev_aret dX2_rowsOf_23 rfl (Or.inr ⟨_, rfl⟩) (Or.inr ⟨_, rfl⟩) ⟨rfl, hT⟩
      · rw [if_neg z]
        exact ev_aret dX2_rowsOf_23 rfl (Or.inr ⟨_, rfl⟩) (Or.inl rfl) ⟨rfl, hT⟩
def cx_cell (C : mo_S) (p : Nat) (x : Int32) (v : Nat) : Int32 := if cx_hr C x = true then C.1 126 (48 * x.toNatClampNeg + (4 * p + v)) else -2000000000
theorem cx_i4 (p v : Nat) : nI p * 4 + nI v = nI (4 * p + v) := by
  rw [show nI p * 4 = nI (p * 4) from pk_mul p 4, nI_add, Nat.mul_comm]
theorem c_X2_cell {G : ev_G} {W : cw_W} {d : Nat} {C : mo_S} {p v : Nat} {x2 : Int32} (hE : ev_En G) (hd : 1 ≤ d) (hp : p < 12) (hv : v < 4) : cw_C G W d mX2_cell [.ref (W 13 0), .int (nI p), .int x2, .int (nI v)] C (some (.int (cx_cell C p x2 v))) C := by
  refine cw_start (lv0 := [some (.ref (W 13 0)), some (.int (nI p)), some (.int x2), some (.int (nI v)), none, none]) (by decide +kernel) rfl (Nat.le_of_ble_eq_true rfl) rfl ?_
  intro K g0 g hT
  have hBM := hT.B.2.2.2.2.1
  refine ev_aload_n dX2_cell_0 rfl rfl ?_
  refine ev_iload_n dX2_cell_1 rfl rfl ?_
  refine cw_call1 (d' := d - 1) hE hT dX2_cell_2 rfl kX2_rowsOf lX2_55 iX2_rowsOf vX2_rowsOf (k := 13) (i := 0) rfl ob13 rfl (Nat.le_of_ble_eq_true rfl) (by omega) (c_X2_rowsOf hE) (fun g hT => ?_)
  unfold cx_rr cx_cell
  by_cases z : cx_hr C x2 = true
  · rw [if_pos z, if_pos z]
    obtain ⟨e, hm⟩ := cl_in_n hBM.1 hBM.2 (by decide) z
    refine ev_astore dX2_cell_5 (Nat.le_of_ble_eq_true rfl) rfl ?_
    refine ev_iload_n dX2_cell_7 rfl rfl ?_
    refine ev_iconst (v := 4) dX2_cell_8 (by decide) ?_
    refine ev_imul dX2_cell_9 ?_
    refine ev_iload_n dX2_cell_10 rfl rfl ?_
    refine ev_iadd dX2_cell_11 ?_
    rw [cx_i4]
    refine ev_istore dX2_cell_12 (Nat.le_of_ble_eq_true rfl) rfl ?_
    refine ev_aload dX2_cell_14 rfl ?_
    refine ev_ifnull dX2_cell_16 ?_
    refine ev_iload dX2_cell_19 rfl ?_
    refine ev_if_lt (tgt := 40) dX2_cell_21 (by decide) (fun c => absurd c (nI_pos (by omega))) (fun _ => ?_)
    refine ev_iload dX2_cell_24 rfl ?_
    refine ev_aload dX2_cell_26 rfl ?_
    refine cw_alen (n := 48) hE hT dX2_cell_28 (k := 34) (i := x2.toNatClampNeg) hm ar34 ?_
    refine ev_icmp_ge (tgt := 40) dX2_cell_29 (by decide) (fun c => absurd c (nI_ge (b := 48) (by omega) (by decide))) (fun _ => ?_)
    refine ev_aload dX2_cell_32 rfl ?_
    refine ev_iload dX2_cell_34 rfl ?_
    refine cw_ial (q := 4 * p + v) hE hT dX2_cell_36 (k := 34) (i := x2.toNatClampNeg) hm ar34 rfl (by omega) (by decide) rfl ?_
    refine ev_goto (tgt := 42) dX2_cell_37 (by decide) ?_
    exact ev_iret dX2_cell_42 rfl rfl ⟨rfl, hT⟩
  · rw [if_neg z, if_neg z]
    refine ev_astoreN dX2_cell_5 (Nat.le_of_ble_eq_true rfl) rfl ?_
    refine ev_iload_n dX2_cell_7 rfl rfl ?_
    refine ev_iconst (v := 4) dX2_cell_8 (by decide) ?_
    refine ev_imul dX2_cell_9 ?_
    refine ev_iload_n dX2_cell_10 rfl rfl ?_
    refine ev_iadd dX2_cell_11 ?_
    refine ev_istore dX2_cell_12 (Nat.le_of_ble_eq_true rfl) rfl ?_
    refine ev_aloadN dX2_cell_14 rfl ?_
    refine ev_ifnullN (tgt := 40) dX2_cell_16 (by decide) ?_
    refine ev_ldc dX2_cell_40 nX2_33 ?_
    exact ev_iret dX2_cell_42 rfl rfl ⟨rfl, hT⟩
theorem c_X2_put {G : ev_G} {W : cw_W} {d : Nat} {C : mo_S} {m p v : Nat} {x4 : Int32} (hE : ev_En G) (hd : 1 ≤ d) (hm : m < cw_M C) (hp : p < 12) (hv : v < 4) : cw_C G W d mX2_put [.ref (W 13 0), .int (nI m), .int (nI p), .int (nI v), .int x4] C none (mo_up C 126 (48 * m + (4 * p + v)) x4) := by
  refine cw_start (lv0 := [some (.ref (W 13 0)), some (.int (nI m)), some (.int (nI p)), some (.int (nI v)), some (.int x4), none, none]) (by decide +kernel) rfl (Nat.le_of_ble_eq_true rfl) rfl ?_
  intro K g0 g hT
  have hBM := hT.B.2.2.2.2.1
  have hr : cx_rr C W (nI m) = .ref (W 34 m) := by
    unfold cx_rr cx_hr
    rw [if_pos (cl_in_ok hBM.1 hBM.2 (by decide) (nI_pos (by omega)) (by rw [hBM.1]; exact nI_lt hm (by omega))), nI_clamp (by omega)]
  refine ev_aload_n dX2_put_0 rfl rfl ?_
  refine ev_iload_n dX2_put_1 rfl rfl ?_
  refine cw_call1 (d' := d - 1) hE hT dX2_put_2 rfl kX2_rowsOf lX2_55 iX2_rowsOf vX2_rowsOf (k := 13) (i := 0) rfl ob13 rfl (Nat.le_of_ble_eq_true rfl) (by omega) (c_X2_rowsOf hE) (fun g hT => ?_)
  rw [hr]
  refine ev_astore dX2_put_5 (Nat.le_of_ble_eq_true rfl) rfl ?_
  refine ev_iload_n dX2_put_7 rfl rfl ?_
  refine ev_iconst (v := 4) dX2_put_8 (by decide) ?_
  refine ev_imul dX2_put_9 ?_
  refine ev_iload_n dX2_put_10 rfl rfl ?_
  refine ev_iadd dX2_put_11 ?_
  rw [cx_i4]
  refine ev_istore dX2_put_12 (Nat.le_of_ble_eq_true rfl) rfl ?_
  refine ev_aload dX2_put_14 rfl ?_
  refine ev_ifnull dX2_put_16 ?_
  refine ev_iload dX2_put_19 rfl ?_
  refine ev_if_lt (tgt := 39) dX2_put_21 (by decide) (fun c => absurd c (nI_pos (by omega))) (fun _ => ?_)
  refine ev_iload dX2_put_24 rfl ?_
  refine ev_aload dX2_put_26 rfl ?_
  refine cw_alen (n := 48) hE hT dX2_put_28 (k := 34) (i := m) hm ar34 ?_
  refine ev_icmp_ge (tgt := 39) dX2_put_29 (by decide) (fun c => absurd c (nI_ge (b := 48) (by omega) (by decide))) (fun _ => ?_)
  refine ev_aload dX2_put_32 rfl ?_
  refine ev_iload dX2_put_34 rfl ?_
  refine ev_iload dX2_put_36 rfl ?_
  refine cw_ias (q := 4 * p + v) (f := 126) (ix := 48 * m + (4 * p + v)) hE hT dX2_put_38 (k := 34) (i := m) hm ar34 rfl (by omega) (by decide) (by show (34, (48 * m + (4 * p + v)) / 48) = (34, m); rw [Nat.mul_add_div (by decide), Nat.div_eq_of_lt (by omega)]; rfl) (by decide) (by decide) (pa34 (i := m)) (fun g hT => ?_)
  exact ev_vret dX2_put_39 rfl ⟨rfl, hT⟩
/-- how often was told anew -/
def cx_tn (C : mo_S) : Nat := (C.1 73 0).toNatClampNeg
def cx_uk (C : mo_S) (p : Nat) (m k : Int32) : Nat → Int32
  | 0 => cx_cell C p m 1
  | n + 1 => if C.1 74 n = nI p then (if C.1 75 n = m then (if k < C.1 77 n then cx_uk C p m k n else C.1 76 n) else cx_uk C p m k n) else cx_uk C p m k n
def cx_X2_has (C : mo_S) (p : Nat) (x2 : Int32) : Bool :=
  (if (cx_cell C p x2 0) = (-2000000000) then false else true)
theorem c_X2_has {G : ev_G} {W : cw_W} {d : Nat} {C : mo_S} {p : Nat} {x2 : Int32} (hE : ev_En G) (hd : 2 ≤ d) (hp : p < 12) : cw_C G W d mX2_has [.ref (W 13 0), .int (nI p), .int x2] C (some (.int (mo_b (cx_X2_has C p x2)))) C := by
  refine cw_start (lv0 := [some (.ref (W 13 0)), some (.int (nI p)), some (.int x2)]) (by decide +kernel) rfl (Nat.le_of_ble_eq_true rfl) rfl ?_
  intro K g0 g hT
  refine ev_aload_n dX2_has_0 rfl rfl ?_
  refine ev_iload_n dX2_has_1 rfl rfl ?_
  refine ev_iload_n dX2_has_2 rfl rfl ?_
  refine ev_iconst (v := 0) dX2_has_3 (by decide) ?_
  refine cw_call3 (d' := d - 1) hE hT dX2_has_4 rfl kX2_cell lX2_59 iX2_cell vX2_cell (k := 13) (i := 0) rfl ob13 rfl (Nat.le_of_ble_eq_true rfl) (by omega) (c_X2_cell hE (by omega) hp (by decide)) (fun g hT => ?_)
  refine ev_ldc dX2_has_7 nX2_33 ?_
  have K_17 : ∀ (g : ev_H) (hT : cw_T G K g0 W g C), ∀ x9 : Int32, x9 = (mo_b (if (cx_cell C p x2 0) = (-2000000000) then false else true)) → ev_V G d 0 0 mX2_has (fun o g' => o = .inl (some (.int (mo_b (cx_X2_has C p x2)))) ∧ cw_T G K g0 W g' C) g 17 [some (.ref (W 13 0)), some (.int (nI p)), some (.int x2)] (.int x9 :: []) := by
    intro g hT x9 h9
    subst h9
    have e9 : cx_X2_has C p x2 = (if (cx_cell C p x2 0) = (-2000000000) then false else true) := by unfold cx_X2_has; rfl
    exact ev_iret dX2_has_17 rfl (by first | exact mo_b_nar _ | rfl) ⟨by rw [e9], hT⟩
  refine ev_icmp_eq (tgt := 16) dX2_has_9 (by decide) (fun c_9 => ?_) (fun c_9 => ?_)
  · refine ev_iconst (v := 0) dX2_has_16 (by decide) ?_
    exact K_17 g hT _ (by rw [if_pos c_9]; rfl)
  · refine ev_iconst (v := 1) dX2_has_12 (by decide) ?_
    refine ev_goto (tgt := 17) dX2_has_13 (by decide) ?_
    exact K_17 g hT _ (by rw [if_neg c_9]; rfl)
def cx_X2_tellAnew (C : mo_S) (p : Nat) (x2 : Int32) (x3 : Int32) (x4 : Int32) : Int32 × mo_S :=
  (if (mo_b (cx_X2_has C p x2)) = 0 then ((-1), C) else (if (C.1 73 0) < 60 then (1, (mo_up (mo_up (mo_up (mo_up (mo_up C 74 (cx_tn C) (nI p)) 75 (cx_tn C) x2) 76 (cx_tn C) x3) 77 (cx_tn C) x4) 73 0 ((C.1 73 0) + 1))) else ((-2), C)))
theorem c_X2_tellAnew {G : ev_G} {W : cw_W} {d : Nat} {C : mo_S} {p : Nat} {x2 : Int32} {x3 : Int32} {x4 : Int32} (hE : ev_En G) (hd : 3 ≤ d) (hp : p < 12) (hK : C.1 73 0 = nI (cx_tn C)) (hK2 : cx_tn C ≤ 60) : cw_C G W d mX2_tellAnew [.ref (W 13 0), .int (nI p), .int x2, .int x3, .int x4] C (some (.int (cx_X2_tellAnew C p x2 x3 x4).1)) (cx_X2_tellAnew C p x2 x3 x4).2 := by
  refine cw_start (lv0 := [some (.ref (W 13 0)), some (.int (nI p)), some (.int x2), some (.int x3), some (.int x4)]) (by decide +kernel) rfl (Nat.le_of_ble_eq_true rfl) rfl ?_
  intro K g0 g hT
  refine ev_aload_n dX2_tellAnew_0 rfl rfl ?_
  refine ev_iload_n dX2_tellAnew_1 rfl rfl ?_
  refine ev_iload_n dX2_tellAnew_2 rfl rfl ?_
  refine cw_call2 (d' := d - 1) hE hT dX2_tellAnew_3 rfl kX2_has lX2_63 iX2_has vX2_has (k := 13) (i := 0) rfl ob13 rfl (Nat.le_of_ble_eq_true rfl) (by omega) (c_X2_has hE (by omega) hp) (fun g hT => ?_)
  refine ev_if_ne (tgt := 11) dX2_tellAnew_6 (by decide) (fun c_6 => ?_) (fun c_6 => ?_)
  · refine ev_aload_n dX2_tellAnew_11 rfl rfl ?_
    refine cw_getf hE hT dX2_tellAnew_12 fX2_29 (k := 13) (i := 0) rfl ob13 rfl ?_
    refine ev_if_lt (tgt := 27) dX2_tellAnew_15 (by decide) (fun c_15 => ?_) (fun c_15 => ?_)
    · exact absurd (show nI (cx_tn C) < 0 by rw [← hK]; exact c_15) (nI_pos (by omega))
    · refine ev_aload_n dX2_tellAnew_18 rfl rfl ?_
      refine cw_getf hE hT dX2_tellAnew_19 fX2_29 (k := 13) (i := 0) rfl ob13 rfl ?_
      refine ev_bipush (v := 60) dX2_tellAnew_22 (by decide) ?_
      refine ev_icmp_lt (tgt := 30) dX2_tellAnew_24 (by decide) (fun c_24 => ?_) (fun c_24 => ?_)
      · have h60 : cx_tn C < 60 := Nat.lt_of_not_le fun q => absurd (show nI (cx_tn C) < nI 60 by rw [← hK]; exact c_24) (nI_nlt (a := cx_tn C) (b := 60) q (by omega))
        refine ev_aload_n dX2_tellAnew_30 rfl rfl ?_
        refine cw_getf hE hT dX2_tellAnew_31 fX2_17 (k := 13) (i := 0) rfl ob13 rfl ?_
        refine ev_aload_n dX2_tellAnew_34 rfl rfl ?_
        refine cw_getf hE hT dX2_tellAnew_35 fX2_29 (k := 13) (i := 0) rfl ob13 rfl ?_
        refine ev_iload_n dX2_tellAnew_38 rfl rfl ?_
        refine cw_ias (q := (cx_tn C)) (f := 74) (ix := (cx_tn C)) hE hT dX2_tellAnew_39 (k := 15) (i := 0) rfl ar15 hK h60 (by decide) rfl (by decide) (by decide) (pa15 (i := 0)) (fun g hT => ?_)
        refine ev_aload_n dX2_tellAnew_40 rfl rfl ?_
        refine cw_getf hE hT dX2_tellAnew_41 fX2_20 (k := 13) (i := 0) rfl ob13 rfl ?_
        refine ev_aload_n dX2_tellAnew_44 rfl rfl ?_
        refine cw_geti (v2 := (C.1 73 0)) hE hT dX2_tellAnew_45 fX2_29 (k := 13) (i := 0) rfl ob13 rfl (by simp [mo_up]) ?_
        refine ev_iload_n dX2_tellAnew_48 rfl rfl ?_
        refine cw_ias (q := (cx_tn C)) (f := 75) (ix := (cx_tn C)) hE hT dX2_tellAnew_49 (k := 16) (i := 0) rfl ar16 hK h60 (by decide) rfl (by decide) (by decide) (pa16 (i := 0)) (fun g hT => ?_)
        refine ev_aload_n dX2_tellAnew_50 rfl rfl ?_
        refine cw_getf hE hT dX2_tellAnew_51 fX2_23 (k := 13) (i := 0) rfl ob13 rfl ?_
        refine ev_aload_n dX2_tellAnew_54 rfl rfl ?_
        refine cw_geti (v2 := (C.1 73 0)) hE hT dX2_tellAnew_55 fX2_29 (k := 13) (i := 0) rfl ob13 rfl (by simp [mo_up]) ?_
        refine ev_iload_n dX2_tellAnew_58 rfl rfl ?_
        refine cw_ias (q := (cx_tn C)) (f := 76) (ix := (cx_tn C)) hE hT dX2_tellAnew_59 (k := 17) (i := 0) rfl ar17 hK h60 (by decide) rfl (by decide) (by decide) (pa17 (i := 0)) (fun g hT => ?_)
        refine ev_aload_n dX2_tellAnew_60 rfl rfl ?_
        refine cw_getf hE hT dX2_tellAnew_61 fX2_26 (k := 13) (i := 0) rfl ob13 rfl ?_
        refine ev_aload_n dX2_tellAnew_64 rfl rfl ?_
        refine cw_geti (v2 := (C.1 73 0)) hE hT dX2_tellAnew_65 fX2_29 (k := 13) (i := 0) rfl ob13 rfl (by simp [mo_up]) ?_
        refine ev_iload dX2_tellAnew_68 rfl ?_
        refine cw_ias (q := (cx_tn C)) (f := 77) (ix := (cx_tn C)) hE hT dX2_tellAnew_70 (k := 18) (i := 0) rfl ar18 hK h60 (by decide) rfl (by decide) (by decide) (pa18 (i := 0)) (fun g hT => ?_)
        refine ev_aload_n dX2_tellAnew_71 rfl rfl ?_
        refine ev_dup dX2_tellAnew_72 rfl ?_
        refine cw_geti (v2 := (C.1 73 0)) hE hT dX2_tellAnew_73 fX2_29 (k := 13) (i := 0) rfl ob13 rfl (by simp [mo_up]) ?_
        refine ev_iconst (v := 1) dX2_tellAnew_76 (by decide) ?_
        refine ev_iadd dX2_tellAnew_77 ?_
        refine cw_putf (k := 13) (i := 0) (f := 73) (x := 0) hE hT dX2_tellAnew_78 pX2_29 rfl ob13 (Nat.le_of_ble_eq_true rfl) rfl rfl rfl (by decide) (by decide) pu13_5 (fun g hT => ?_)
        refine ev_iconst (v := 1) dX2_tellAnew_81 (by decide) ?_
        have e9 : cx_X2_tellAnew C p x2 x3 x4 = (1, (mo_up (mo_up (mo_up (mo_up (mo_up C 74 (cx_tn C) (nI p)) 75 (cx_tn C) x2) 76 (cx_tn C) x3) 77 (cx_tn C) x4) 73 0 ((C.1 73 0) + 1))) := by unfold cx_X2_tellAnew; rw [if_neg c_6, if_pos c_24]
        exact ev_iret dX2_tellAnew_82 rfl rfl ⟨by rw [e9], by rw [e9]; exact hT⟩
      · refine ev_bipush (v := (-2)) dX2_tellAnew_27 (by decide) ?_
        have e9 : cx_X2_tellAnew C p x2 x3 x4 = ((-2), C) := by unfold cx_X2_tellAnew; rw [if_neg c_6, if_neg c_24]
        exact ev_iret dX2_tellAnew_29 rfl rfl ⟨by rw [e9], by rw [e9]; exact hT⟩
  · refine ev_iconst (v := (-1)) dX2_tellAnew_9 (by decide) ?_
    have e9 : cx_X2_tellAnew C p x2 x3 x4 = ((-1), C) := by unfold cx_X2_tellAnew; rw [if_pos c_6]
    exact ev_iret dX2_tellAnew_10 rfl rfl ⟨by rw [e9], by rw [e9]; exact hT⟩
def cx_X2_usedAsKnown (C : mo_S) (p : Nat) (x2 : Int32) (x3 : Int32) : Int32 :=
  (cx_uk C p x2 x3 (cx_tn C))
theorem c_X2_usedAsKnown {G : ev_G} {W : cw_W} {d : Nat} {C : mo_S} {p : Nat} {x2 : Int32} {x3 : Int32} (hE : ev_En G) (hd : 2 ≤ d) (hp : p < 12) (hK : C.1 73 0 = nI (cx_tn C)) (hK2 : cx_tn C ≤ 60) : cw_C G W d mX2_usedAsKnown [.ref (W 13 0), .int (nI p), .int x2, .int x3] C (some (.int (cx_X2_usedAsKnown C p x2 x3))) C := by
  refine cw_start (lv0 := [some (.ref (W 13 0)), some (.int (nI p)), some (.int x2), some (.int x3), none, none]) (by decide +kernel) rfl (Nat.le_of_ble_eq_true rfl) rfl ?_
  intro K g0 g hT
  refine ev_aload_n dX2_usedAsKnown_0 rfl rfl ?_
  refine ev_iload_n dX2_usedAsKnown_1 rfl rfl ?_
  refine ev_iload_n dX2_usedAsKnown_2 rfl rfl ?_
  refine ev_iconst (v := 1) dX2_usedAsKnown_3 (by decide) ?_
  refine cw_call3 (d' := d - 1) hE hT dX2_usedAsKnown_4 rfl kX2_cell lX2_59 iX2_cell vX2_cell (k := 13) (i := 0) rfl ob13 rfl (Nat.le_of_ble_eq_true rfl) (by omega) (c_X2_cell hE (by omega) hp (by decide)) (fun g hT => ?_)
  refine ev_istore dX2_usedAsKnown_7 (Nat.le_of_ble_eq_true rfl) rfl ?_
  refine ev_iconst (v := 0) dX2_usedAsKnown_9 (by decide) ?_
  refine ev_istore dX2_usedAsKnown_10 (Nat.le_of_ble_eq_true rfl) rfl ?_
  have loop : ∀ (n i : Nat), i ≤ (cx_tn C) → (cx_tn C) < i + n → ∀ (x : Int32), x = cx_uk C p x2 x3 i → ∀ g, cw_T G K g0 W g C → ev_V G d 0 0 mX2_usedAsKnown (fun o g' => o = .inl (some (.int (cx_X2_usedAsKnown C p x2 x3))) ∧ cw_T G K g0 W g' C) g 12 [some (.ref (W 13 0)), some (.int (nI p)), some (.int x2), some (.int x3), some (.int x), some (.int (nI i))] [] := by
    intro n
    induction n with
    | zero => intro i h1 h2; exact absurd h2 (by omega)
    | succ n ih =>
      intro i h1 h2 x hx g hT
      refine ev_iload dX2_usedAsKnown_12 rfl ?_
      refine ev_aload_n dX2_usedAsKnown_14 rfl rfl ?_
      refine cw_getf hE hT dX2_usedAsKnown_15 fX2_29 (k := 13) (i := 0) rfl ob13 rfl ?_
      refine ev_icmp_ge (tgt := 76) dX2_usedAsKnown_18 (by decide) (fun c_18 => ?_) (fun c_18 => ?_)
      · have e : i = cx_tn C := by
          first
            | (have := mo_ige hK (by omega) (by omega) c_18; omega)
            | (have := mo_ige (R := 60) rfl (by omega) (by omega) c_25; omega)
        subst hx
        subst e
        refine ev_iload dX2_usedAsKnown_76 rfl ?_
        have e9 : cx_X2_usedAsKnown C p x2 x3 = (cx_uk C p x2 x3 (cx_tn C)) := by unfold cx_X2_usedAsKnown; rfl
        exact ev_iret dX2_usedAsKnown_78 rfl rfl ⟨by rw [e9], hT⟩
      · have hi9 : i < cx_tn C := mo_ilt hK (by omega) (by omega) c_18
        refine ev_iload dX2_usedAsKnown_21 rfl ?_
        refine ev_bipush (v := 60) dX2_usedAsKnown_23 (by decide) ?_
        refine ev_icmp_ge (tgt := 76) dX2_usedAsKnown_25 (by decide) (fun c_25 => ?_) (fun c_25 => ?_)
        · have e : i = cx_tn C := by
            first
              | (have := mo_ige hK (by omega) (by omega) c_18; omega)
              | (have := mo_ige (R := 60) rfl (by omega) (by omega) c_25; omega)
          subst hx
          subst e
          refine ev_iload dX2_usedAsKnown_76 rfl ?_
          have e9 : cx_X2_usedAsKnown C p x2 x3 = (cx_uk C p x2 x3 (cx_tn C)) := by unfold cx_X2_usedAsKnown; rfl
          exact ev_iret dX2_usedAsKnown_78 rfl rfl ⟨by rw [e9], hT⟩
        · have hi8 : i < 60 := by omega
          refine ev_aload_n dX2_usedAsKnown_28 rfl rfl ?_
          refine cw_getf hE hT dX2_usedAsKnown_29 fX2_17 (k := 13) (i := 0) rfl ob13 rfl ?_
          refine ev_iload dX2_usedAsKnown_32 rfl ?_
          refine cw_ial (q := i) (v := (C.1 74 i)) hE hT dX2_usedAsKnown_34 (k := 15) (i := 0) rfl ar15 rfl hi8 (by decide) rfl ?_
          refine ev_iload_n dX2_usedAsKnown_35 rfl rfl ?_
          refine ev_icmp_ne (tgt := 70) dX2_usedAsKnown_36 (by decide) (fun c_36 => ?_) (fun c_36 => ?_)
          · refine ev_iinc (v := (nI (i + 1))) dX2_usedAsKnown_70 rfl (nI_1 i) rfl ?_
            refine ev_goto (tgt := 12) dX2_usedAsKnown_73 (by decide) ?_
            exact ih (i + 1) (by omega) (by omega) x (by rw [cx_uk, if_neg c_36]; exact hx) g hT
          · refine ev_aload_n dX2_usedAsKnown_39 rfl rfl ?_
            refine cw_getf hE hT dX2_usedAsKnown_40 fX2_20 (k := 13) (i := 0) rfl ob13 rfl ?_
            refine ev_iload dX2_usedAsKnown_43 rfl ?_
            refine cw_ial (q := i) (v := (C.1 75 i)) hE hT dX2_usedAsKnown_45 (k := 16) (i := 0) rfl ar16 rfl hi8 (by decide) rfl ?_
            refine ev_iload_n dX2_usedAsKnown_46 rfl rfl ?_
            refine ev_icmp_ne (tgt := 70) dX2_usedAsKnown_47 (by decide) (fun c_47 => ?_) (fun c_47 => ?_)
            · refine ev_iinc (v := (nI (i + 1))) dX2_usedAsKnown_70 rfl (nI_1 i) rfl ?_
              refine ev_goto (tgt := 12) dX2_usedAsKnown_73 (by decide) ?_
              exact ih (i + 1) (by omega) (by omega) x (by rw [cx_uk, if_pos c_36, if_neg c_47]; exact hx) g hT
            · refine ev_aload_n dX2_usedAsKnown_50 rfl rfl ?_
              refine cw_getf hE hT dX2_usedAsKnown_51 fX2_26 (k := 13) (i := 0) rfl ob13 rfl ?_
              refine ev_iload dX2_usedAsKnown_54 rfl ?_
              refine cw_ial (q := i) (v := (C.1 77 i)) hE hT dX2_usedAsKnown_56 (k := 18) (i := 0) rfl ar18 rfl hi8 (by decide) rfl ?_
              refine ev_iload_n dX2_usedAsKnown_57 rfl rfl ?_
              refine ev_icmp_gt (tgt := 70) dX2_usedAsKnown_58 (by decide) (fun c_58 => ?_) (fun c_58 => ?_)
              · refine ev_iinc (v := (nI (i + 1))) dX2_usedAsKnown_70 rfl (nI_1 i) rfl ?_
                refine ev_goto (tgt := 12) dX2_usedAsKnown_73 (by decide) ?_
                exact ih (i + 1) (by omega) (by omega) x (by rw [cx_uk, if_pos c_36, if_pos c_47, if_pos c_58]; exact hx) g hT
              · refine ev_aload_n dX2_usedAsKnown_61 rfl rfl ?_
                refine cw_getf hE hT dX2_usedAsKnown_62 fX2_23 (k := 13) (i := 0) rfl ob13 rfl ?_
                refine ev_iload dX2_usedAsKnown_65 rfl ?_
                refine cw_ial (q := i) (v := (C.1 76 i)) hE hT dX2_usedAsKnown_67 (k := 17) (i := 0) rfl ar17 rfl hi8 (by decide) rfl ?_
                refine ev_istore dX2_usedAsKnown_68 (Nat.le_of_ble_eq_true rfl) rfl ?_
                refine ev_iinc (v := (nI (i + 1))) dX2_usedAsKnown_70 rfl (nI_1 i) rfl ?_
                refine ev_goto (tgt := 12) dX2_usedAsKnown_73 (by decide) ?_
                exact ih (i + 1) (by omega) (by omega) (C.1 76 i) (by rw [cx_uk, if_pos c_36, if_pos c_47, if_neg c_58]) g hT
  exact loop ((cx_tn C) + 1) 0 (by omega) (by omega) _ rfl g hT
def cx_X2_write (C : mo_S) (m : Nat) (p : Nat) (x3 : Int32) (q : Nat) : mo_S :=
  (mo_up (mo_up (mo_up (mo_up C 126 (48 * m + (4 * p + 0)) x3) 126 (48 * m + (4 * p + 1)) ((mo_up C 126 (48 * m + (4 * p + 0)) x3).1 13 q)) 126 (48 * m + (4 * p + 2)) ((mo_up (mo_up C 126 (48 * m + (4 * p + 0)) x3) 126 (48 * m + (4 * p + 1)) ((mo_up C 126 (48 * m + (4 * p + 0)) x3).1 13 q)).1 10 q)) 126 (48 * m + (4 * p + 3)) ((mo_up (mo_up (mo_up C 126 (48 * m + (4 * p + 0)) x3) 126 (48 * m + (4 * p + 1)) ((mo_up C 126 (48 * m + (4 * p + 0)) x3).1 13 q)) 126 (48 * m + (4 * p + 2)) ((mo_up (mo_up C 126 (48 * m + (4 * p + 0)) x3) 126 (48 * m + (4 * p + 1)) ((mo_up C 126 (48 * m + (4 * p + 0)) x3).1 13 q)).1 10 q)).1 9 q))
theorem c_X2_write {G : ev_G} {W : cw_W} {d : Nat} {C : mo_S} {m : Nat} {p : Nat} {x3 : Int32} {q : Nat} (hE : ev_En G) (hd : 2 ≤ d) (hm : m < cw_M C) (hp : p < 12) (hq : q < sp_P C) : cw_C G W d mX2_write [.ref (W 13 0), .int (nI m), .int (nI p), .int x3, .ref (W 20 q)] C none (cx_X2_write C m p x3 q) := by
  refine cw_start (lv0 := [some (.ref (W 13 0)), some (.int (nI m)), some (.int (nI p)), some (.int x3), some (.ref (W 20 q))]) (by decide +kernel) rfl (Nat.le_of_ble_eq_true rfl) rfl ?_
  intro K g0 g hT
  refine ev_aload_n dX2_write_0 rfl rfl ?_
  refine ev_iload_n dX2_write_1 rfl rfl ?_
  refine ev_iload_n dX2_write_2 rfl rfl ?_
  refine ev_iconst (v := 0) dX2_write_3 (by decide) ?_
  refine ev_iload_n dX2_write_4 rfl rfl ?_
  refine cw_call4 (d' := d - 1) hE hT dX2_write_5 rfl kX2_put lX2_40 iX2_put vX2_put (k := 13) (i := 0) rfl ob13 rfl (Nat.le_of_ble_eq_true rfl) (by omega) (c_X2_put hE (by omega) hm hp (by decide)) (fun g hT => ?_)
  refine ev_aload_n dX2_write_8 rfl rfl ?_
  refine ev_iload_n dX2_write_9 rfl rfl ?_
  refine ev_iload_n dX2_write_10 rfl rfl ?_
  refine ev_iconst (v := 1) dX2_write_11 (by decide) ?_
  refine ev_aload dX2_write_12 rfl ?_
  refine cw_getf hE hT dX2_write_14 fX2_44 (k := 20) (i := q) hq ob20 rfl ?_
  refine cw_call4 (d' := d - 1) hE hT dX2_write_17 rfl kX2_put lX2_40 iX2_put vX2_put (k := 13) (i := 0) rfl ob13 rfl (Nat.le_of_ble_eq_true rfl) (by omega) (c_X2_put hE (by omega) hm hp (by decide)) (fun g hT => ?_)
  refine ev_aload_n dX2_write_20 rfl rfl ?_
  refine ev_iload_n dX2_write_21 rfl rfl ?_
  refine ev_iload_n dX2_write_22 rfl rfl ?_
  refine ev_iconst (v := 2) dX2_write_23 (by decide) ?_
  refine ev_aload dX2_write_24 rfl ?_
  refine cw_getf hE hT dX2_write_26 fX2_49 (k := 20) (i := q) hq ob20 rfl ?_
  refine cw_call4 (d' := d - 1) hE hT dX2_write_29 rfl kX2_put lX2_40 iX2_put vX2_put (k := 13) (i := 0) rfl ob13 rfl (Nat.le_of_ble_eq_true rfl) (by omega) (c_X2_put hE (by omega) hm hp (by decide)) (fun g hT => ?_)
  refine ev_aload_n dX2_write_32 rfl rfl ?_
  refine ev_iload_n dX2_write_33 rfl rfl ?_
  refine ev_iload_n dX2_write_34 rfl rfl ?_
  refine ev_iconst (v := 3) dX2_write_35 (by decide) ?_
  refine ev_aload dX2_write_36 rfl ?_
  refine cw_getf hE hT dX2_write_38 fX2_52 (k := 20) (i := q) hq ob20 rfl ?_
  refine cw_call4 (d' := d - 1) hE hT dX2_write_41 rfl kX2_put lX2_40 iX2_put vX2_put (k := 13) (i := 0) rfl ob13 rfl (Nat.le_of_ble_eq_true rfl) (by omega) (c_X2_put hE (by omega) hm hp (by decide)) (fun g hT => ?_)
  have e9 : cx_X2_write C m p x3 q = (mo_up (mo_up (mo_up (mo_up C 126 (48 * m + (4 * p + 0)) x3) 126 (48 * m + (4 * p + 1)) ((mo_up C 126 (48 * m + (4 * p + 0)) x3).1 13 q)) 126 (48 * m + (4 * p + 2)) ((mo_up (mo_up C 126 (48 * m + (4 * p + 0)) x3) 126 (48 * m + (4 * p + 1)) ((mo_up C 126 (48 * m + (4 * p + 0)) x3).1 13 q)).1 10 q)) 126 (48 * m + (4 * p + 3)) ((mo_up (mo_up (mo_up C 126 (48 * m + (4 * p + 0)) x3) 126 (48 * m + (4 * p + 1)) ((mo_up C 126 (48 * m + (4 * p + 0)) x3).1 13 q)) 126 (48 * m + (4 * p + 2)) ((mo_up (mo_up C 126 (48 * m + (4 * p + 0)) x3) 126 (48 * m + (4 * p + 1)) ((mo_up C 126 (48 * m + (4 * p + 0)) x3).1 13 q)).1 10 q)).1 9 q)) := by unfold cx_X2_write; rfl
  exact ev_vret dX2_write_44 rfl ⟨rfl, by rw [e9]; exact hT⟩
theorem cx_within_in (x a b : Int32) : cx_X11_within x a b = sp_in x a b := by
  unfold cx_X11_within sp_in
  by_cases h1 : x < a
  · rw [if_pos h1, decide_eq_false (fun q => absurd q.1 (Int32.not_le.mpr h1))]
  · rw [if_neg h1]
    by_cases h2 : b < x
    · rw [if_pos h2, decide_eq_false (fun q => absurd q.2 (Int32.not_le.mpr h2))]
    · rw [if_neg h2, decide_eq_true ⟨Int32.not_lt.mp h1, Int32.not_lt.mp h2⟩]
theorem cl_w4 {x : Int32} (h : ¬ mo_b (cx_X11_within x 0 3) = 0) : x = nI x.toNatClampNeg ∧ x.toNatClampNeg < 4 :=
  cl_in_n (y := 4) (n := 4) (N := 4) rfl (by decide) (by decide) (by rw [← cx_within_in]; exact mo_b1 h)
def cx_X11_row (C : mo_S) (x1 : Int32) (x2 : Int32) (x3 : Int32) (x4 : Int32) : cx_Out :=
  (if sp_in x1 0 (C.1 1 0 - 1) = true then (if (mo_b (cx_X11_within x3 0 3)) = 0 then ((.inl "java/lang/IllegalArgumentException"), C) else (if x4 ≤ x2 then ((.inr ((-2000000000))), C) else (if (mo_b (cx_X2_has C (x1).toNatClampNeg x2)) = 0 then ((.inr ((-2000000000))), C) else ((.inr ((if x3 = 1 then (cx_X2_usedAsKnown C (x1).toNatClampNeg x2 x4) else (cx_cell C (x1).toNatClampNeg x2 (x3).toNatClampNeg)))), C)))) else ((.inl "java/lang/IndexOutOfBoundsException"), C))
theorem c_X11_row {G : ev_G} {W : cw_W} {d D0 : Nat} {C : mo_S} {x1 : Int32} {x2 : Int32} {x3 : Int32} {x4 : Int32}  (hE : ev_En G) (h4 : ev_En4 G D0) (hd : 7 ≤ d) (hS : C.1 73 0 = nI (cx_tn C)) (hS2 : cx_tn C ≤ 60) : cw_P G W d 1 8 mX11_row [.ref (W 0 0), .int x1, .int x2, .int x3, .int x4] C (cx_X11_row C x1 x2 x3 x4) := by
  refine cw_startR (lv0 := [some (.ref (W 0 0)), some (.int x1), some (.int x2), some (.int x3), some (.int x4)]) (by decide +kernel) rfl (Nat.le_of_ble_eq_true rfl) rfl ?_
  intro K g0 g hT
  have hBP := hT.B.1
  have hBR := hT.B.2.1
  have hBA := hT.B.2.2.2.1
  have hK := hS
  have hK2 := hS2
  refine ev_aload_n dX11_row_0 rfl rfl ?_
  refine ev_iload_n dX11_row_1 rfl rfl ?_
  refine cw_paperAt hE h4 rfl hT dX11_row_2 lX11_109 (Nat.le_of_ble_eq_true rfl) (by omega) (by decide) (by decide) (fun c_2 g hT => ?_) (fun q9 c_2 e_2 u_2 hP2 g hT => ?_)
  · have e9 : cx_X11_row C x1 x2 x3 x4 = ((.inl "java/lang/IndexOutOfBoundsException"), C) := by unfold cx_X11_row; rw [if_neg (cl_nf c_2)]
    exact ⟨W, (cx_X11_row C x1 x2 x3 x4).2, ⟨rfl, by rw [e9]; rfl, rfl⟩, by rw [e9]; exact hT⟩
  subst u_2
  refine ev_pop dX11_row_5 rfl ?_
  refine ev_iload_n dX11_row_6 rfl rfl ?_
  refine ev_iconst (v := 0) dX11_row_7 (by decide) ?_
  refine ev_iconst (v := 3) dX11_row_8 (by decide) ?_
  refine ev_pS3 (d' := d - 1) dX11_row_9 rfl kX11_within lX11_80 sX11_within (Nat.le_of_ble_eq_true rfl) (by omega) (c_X11_within) ?_
  refine cw_need hE h4 rfl dX11_row_12 lX11_85 (Nat.le_of_ble_eq_true rfl) (by omega) (by decide) (by decide) (fun c_12 => ?_) (fun c_12 => ?_)
  · have e9 : cx_X11_row C x1 x2 x3 x4 = ((.inl "java/lang/IllegalArgumentException"), C) := by unfold cx_X11_row; rw [if_pos c_2, if_pos c_12]
    exact ⟨W, (cx_X11_row C x1 x2 x3 x4).2, ⟨rfl, by rw [e9]; rfl, rfl⟩, by rw [e9]; exact hT⟩
  obtain ⟨e_w, h_w⟩ := cl_w4 c_12
  refine ev_iload dX11_row_15 rfl ?_
  refine ev_iload_n dX11_row_17 rfl rfl ?_
  refine ev_icmp_le (tgt := 33) dX11_row_18 (by decide) (fun c_18 => ?_) (fun c_18 => ?_)
  · refine ev_ldcw dX11_row_33 nX11_260 ?_
    have e9 : cx_X11_row C x1 x2 x3 x4 = ((.inr ((-2000000000))), C) := by unfold cx_X11_row; rw [if_pos c_2, if_neg c_12, if_pos c_18]
    exact ev_iret dX11_row_36 rfl rfl ⟨W, (cx_X11_row C x1 x2 x3 x4).2, ⟨rfl, by rw [e9]; rfl, rfl⟩, by rw [e9]; exact hT⟩
  · refine ev_aload_n dX11_row_21 rfl rfl ?_
    refine cw_getf hE hT dX11_row_22 fX11_69 (k := 0) (i := 0) rfl ob0 rfl ?_
    refine ev_iload_n dX11_row_25 rfl rfl ?_
    refine ev_iload_n dX11_row_26 rfl rfl ?_
    refine cw_call2 (d' := d - 1) hE hT dX11_row_27 rfl kX2_has lX11_315 iX2_has vX2_has (k := 13) (i := 0) rfl ob13 rfl (Nat.le_of_ble_eq_true rfl) (by omega) (by have w9 := (c_X2_has (W := W) (d := d - 1) (C := C) (p := (x1).toNatClampNeg) (x2 := x2) hE (by omega) (show (x1).toNatClampNeg < 12 by omega)); rw [← e_2] at w9; exact w9) (fun g hT => ?_)
    refine ev_if_ne (tgt := 37) dX11_row_30 (by decide) (fun c_30 => ?_) (fun c_30 => ?_)
    · refine ev_iload_n dX11_row_37 rfl rfl ?_
      refine ev_iconst (v := 1) dX11_row_38 (by decide) ?_
      have K_66 : ∀ (g : ev_H) (hT : cw_T G K g0 W g C), ∀ x9 : Int32, x9 = (if x3 = 1 then (cx_X2_usedAsKnown C (x1).toNatClampNeg x2 x4) else (cx_cell C (x1).toNatClampNeg x2 (x3).toNatClampNeg)) → ev_V G d 1 8 mX11_row (fun o g' => ∃ W2 C2, (W2 = W ∧ o = cx_o (cx_X11_row C x1 x2 x3 x4).1 ∧ C2 = (cx_X11_row C x1 x2 x3 x4).2) ∧ cw_T G K g0 W2 g' C2) g 66 [some (.ref (W 0 0)), some (.int x1), some (.int x2), some (.int x3), some (.int x4)] (.int x9 :: []) := by
        intro g hT x9 h9
        subst h9
        have e9 : cx_X11_row C x1 x2 x3 x4 = ((.inr ((if x3 = 1 then (cx_X2_usedAsKnown C (x1).toNatClampNeg x2 x4) else (cx_cell C (x1).toNatClampNeg x2 (x3).toNatClampNeg)))), C) := by unfold cx_X11_row; rw [if_pos c_2, if_neg c_12, if_neg c_18, if_neg c_30]
        exact ev_iret dX11_row_66 rfl rfl ⟨W, (cx_X11_row C x1 x2 x3 x4).2, ⟨rfl, by rw [e9]; rfl, rfl⟩, by rw [e9]; exact hT⟩
      refine ev_icmp_ne (tgt := 56) dX11_row_39 (by decide) (fun c_39 => ?_) (fun c_39 => ?_)
      · refine ev_aload_n dX11_row_56 rfl rfl ?_
        refine cw_getf hE hT dX11_row_57 fX11_69 (k := 0) (i := 0) rfl ob0 rfl ?_
        refine ev_iload_n dX11_row_60 rfl rfl ?_
        refine ev_iload_n dX11_row_61 rfl rfl ?_
        refine ev_iload_n dX11_row_62 rfl rfl ?_
        refine cw_call3 (d' := d - 1) hE hT dX11_row_63 rfl kX2_cell lX11_322 iX2_cell vX2_cell (k := 13) (i := 0) rfl ob13 rfl (Nat.le_of_ble_eq_true rfl) (by omega) (by have w9 := (c_X2_cell (W := W) (d := d - 1) (C := C) (p := (x1).toNatClampNeg) (x2 := x2) (v := (x3).toNatClampNeg) hE (by omega) (show (x1).toNatClampNeg < 12 by omega) h_w); rw [← e_2] at w9; rw [← e_w] at w9; exact w9) (fun g hT => ?_)
        exact K_66 g hT _ (by rw [if_neg c_39])
      · refine ev_aload_n dX11_row_42 rfl rfl ?_
        refine cw_getf hE hT dX11_row_43 fX11_69 (k := 0) (i := 0) rfl ob0 rfl ?_
        refine ev_iload_n dX11_row_46 rfl rfl ?_
        refine ev_iload_n dX11_row_47 rfl rfl ?_
        refine ev_iload dX11_row_48 rfl ?_
        refine cw_call3 (d' := d - 1) hE hT dX11_row_50 rfl kX2_usedAsKnown lX11_318 iX2_usedAsKnown vX2_usedAsKnown (k := 13) (i := 0) rfl ob13 rfl (Nat.le_of_ble_eq_true rfl) (by omega) (by have w9 := (c_X2_usedAsKnown (W := W) (d := d - 1) (C := C) (p := (x1).toNatClampNeg) (x2 := x2) (x3 := x4) hE (by omega) (show (x1).toNatClampNeg < 12 by omega) hK hK2); rw [← e_2] at w9; exact w9) (fun g hT => ?_)
        refine ev_goto (tgt := 66) dX11_row_53 (by decide) ?_
        exact K_66 g hT _ (by rw [if_pos c_39])
    · refine ev_ldcw dX11_row_33 nX11_260 ?_
      have e9 : cx_X11_row C x1 x2 x3 x4 = ((.inr ((-2000000000))), C) := by unfold cx_X11_row; rw [if_pos c_2, if_neg c_12, if_neg c_18, if_pos c_30]
      exact ev_iret dX11_row_36 rfl rfl ⟨W, (cx_X11_row C x1 x2 x3 x4).2, ⟨rfl, by rw [e9]; rfl, rfl⟩, by rw [e9]; exact hT⟩
def cx_X11_correct (C : mo_S) (x1 : Int32) (x2 : Int32) (x3 : Int32) : cx_Out :=
  (if sp_in x1 0 (C.1 1 0 - 1) = true then (if (mo_b (cx_X11_within x3 0 1000000)) = 0 then ((.inl "java/lang/IllegalArgumentException"), C) else ((.inr ((cx_X2_tellAnew C (x1).toNatClampNeg x2 x3 (C.1 2 0)).1)), (cx_X2_tellAnew C (x1).toNatClampNeg x2 x3 (C.1 2 0)).2)) else ((.inl "java/lang/IndexOutOfBoundsException"), C))
theorem c_X11_correct {G : ev_G} {W : cw_W} {d D0 : Nat} {C : mo_S} {x1 : Int32} {x2 : Int32} {x3 : Int32}  (hE : ev_En G) (h4 : ev_En4 G D0) (hd : 7 ≤ d) (hS : C.1 73 0 = nI (cx_tn C)) (hS2 : cx_tn C ≤ 60) : cw_P G W d 1 8 mX11_correct [.ref (W 0 0), .int x1, .int x2, .int x3] C (cx_X11_correct C x1 x2 x3) := by
  refine cw_startR (lv0 := [some (.ref (W 0 0)), some (.int x1), some (.int x2), some (.int x3)]) (by decide +kernel) rfl (Nat.le_of_ble_eq_true rfl) rfl ?_
  intro K g0 g hT
  have hBP := hT.B.1
  have hBR := hT.B.2.1
  have hBA := hT.B.2.2.2.1
  have hK := hS
  have hK2 := hS2
  refine ev_aload_n dX11_correct_0 rfl rfl ?_
  refine ev_iload_n dX11_correct_1 rfl rfl ?_
  refine cw_paperAt hE h4 rfl hT dX11_correct_2 lX11_109 (Nat.le_of_ble_eq_true rfl) (by omega) (by decide) (by decide) (fun c_2 g hT => ?_) (fun q9 c_2 e_2 u_2 hP2 g hT => ?_)
  · have e9 : cx_X11_correct C x1 x2 x3 = ((.inl "java/lang/IndexOutOfBoundsException"), C) := by unfold cx_X11_correct; rw [if_neg (cl_nf c_2)]
    exact ⟨W, (cx_X11_correct C x1 x2 x3).2, ⟨rfl, by rw [e9]; rfl, rfl⟩, by rw [e9]; exact hT⟩
  subst u_2
  refine ev_pop dX11_correct_5 rfl ?_
  refine ev_iload_n dX11_correct_6 rfl rfl ?_
  refine ev_iconst (v := 0) dX11_correct_7 (by decide) ?_
  refine ev_ldcw dX11_correct_8 nX11_310 ?_
  refine ev_pS3 (d' := d - 1) dX11_correct_11 rfl kX11_within lX11_80 sX11_within (Nat.le_of_ble_eq_true rfl) (by omega) (c_X11_within) ?_
  refine cw_need hE h4 rfl dX11_correct_14 lX11_85 (Nat.le_of_ble_eq_true rfl) (by omega) (by decide) (by decide) (fun c_14 => ?_) (fun c_14 => ?_)
  · have e9 : cx_X11_correct C x1 x2 x3 = ((.inl "java/lang/IllegalArgumentException"), C) := by unfold cx_X11_correct; rw [if_pos c_2, if_pos c_14]
    exact ⟨W, (cx_X11_correct C x1 x2 x3).2, ⟨rfl, by rw [e9]; rfl, rfl⟩, by rw [e9]; exact hT⟩
  refine ev_aload_n dX11_correct_17 rfl rfl ?_
  refine cw_getf hE hT dX11_correct_18 fX11_69 (k := 0) (i := 0) rfl ob0 rfl ?_
  refine ev_iload_n dX11_correct_21 rfl rfl ?_
  refine ev_iload_n dX11_correct_22 rfl rfl ?_
  refine ev_iload_n dX11_correct_23 rfl rfl ?_
  refine ev_aload_n dX11_correct_24 rfl rfl ?_
  refine cw_getf hE hT dX11_correct_25 fX11_33 (k := 0) (i := 0) rfl ob0 rfl ?_
  refine cw_call4 (d' := d - 1) hE hT dX11_correct_28 rfl kX2_tellAnew lX11_311 iX2_tellAnew vX2_tellAnew (k := 13) (i := 0) rfl ob13 rfl (Nat.le_of_ble_eq_true rfl) (by omega) (by have w9 := (c_X2_tellAnew (W := W) (d := d - 1) (C := C) (p := (x1).toNatClampNeg) (x2 := x2) (x3 := x3) (x4 := (C.1 2 0)) hE (by omega) (show (x1).toNatClampNeg < 12 by omega) hK hK2); rw [← e_2] at w9; exact w9) (fun g hT => ?_)
  have e9 : cx_X11_correct C x1 x2 x3 = ((.inr ((cx_X2_tellAnew C (x1).toNatClampNeg x2 x3 (C.1 2 0)).1)), (cx_X2_tellAnew C (x1).toNatClampNeg x2 x3 (C.1 2 0)).2) := by unfold cx_X11_correct; rw [if_pos c_2, if_neg c_14]
  exact ev_iret dX11_correct_31 rfl rfl ⟨W, (cx_X11_correct C x1 x2 x3).2, ⟨rfl, by rw [e9]; rfl, rfl⟩, by rw [e9]; exact hT⟩
def cx_X11_count (C : mo_S) (x1 : Int32) : cx_Out :=
  (if x1 = 0 then ((.inr ((C.1 2 0))), C) else (if x1 = 1 then ((.inr ((C.1 1 0))), C) else (if x1 = 2 then ((.inr ((sp_many C 1 (sp_P C)))), C) else (if x1 = 3 then ((.inr ((sp_many C 0 (sp_P C)))), C) else (if x1 = 4 then ((.inr ((C.1 21 0))), C) else (if x1 = 5 then ((.inr ((sp_pool C (sp_R C)))), C) else (if x1 = 6 then ((.inr ((C.1 29 0))), C) else (if x1 = 7 then ((.inr ((C.1 24 0))), C) else (if x1 = 8 then ((.inr ((C.1 62 0))), C) else (if x1 = 9 then ((.inr ((C.1 73 0))), C) else (if x1 = 10 then ((.inr ((C.1 28 0))), C) else (if x1 = 11 then ((.inr ((sp_stol C (sp_R C)))), C) else ((.inr ((-1))), C)))))))))))))
theorem c_X11_count {G : ev_G} {W : cw_W} {d D0 : Nat} {C : mo_S} {x1 : Int32}  (hE : ev_En G) (h4 : ev_En4 G D0) (hd : 4 ≤ d) : cw_P G W d 1 8 mX11_count [.ref (W 0 0), .int x1] C (cx_X11_count C x1) := by
  refine cw_startR (lv0 := [some (.ref (W 0 0)), some (.int x1)]) (by decide +kernel) rfl (Nat.le_of_ble_eq_true rfl) rfl ?_
  intro K g0 g hT
  have hBP := hT.B.1
  refine ev_iload_n dX11_count_0 rfl rfl ?_
  by_cases c_1_0 : x1 = 0
  · refine ev_tableIn (tgt := 64) (off := 63) dX11_count_1 (by rw [c_1_0]; decide) (by rw [c_1_0]; decide) (by rw [c_1_0]; rfl) (by decide) ?_
    refine ev_aload_n dX11_count_64 rfl rfl ?_
    refine cw_getf hE hT dX11_count_65 fX11_33 (k := 0) (i := 0) rfl ob0 rfl ?_
    have e9 : cx_X11_count C x1 = ((.inr ((C.1 2 0))), C) := by unfold cx_X11_count; rw [if_pos c_1_0]
    exact ev_iret dX11_count_68 rfl rfl ⟨W, (cx_X11_count C x1).2, ⟨rfl, by rw [e9]; rfl, rfl⟩, by rw [e9]; exact hT⟩
  · by_cases c_1_1 : x1 = 1
    · refine ev_tableIn (tgt := 69) (off := 68) dX11_count_1 (by rw [c_1_1]; decide) (by rw [c_1_1]; decide) (by rw [c_1_1]; rfl) (by decide) ?_
      refine ev_aload_n dX11_count_69 rfl rfl ?_
      refine cw_getf hE hT dX11_count_70 fX11_10 (k := 0) (i := 0) rfl ob0 rfl ?_
      refine cw_size (l := 0) (v := (C.1 1 0)) hE hT dX11_count_73 lX11_89 (by decide) (Nat.le_of_ble_eq_true rfl) (by omega) rfl ?_
      have e9 : cx_X11_count C x1 = ((.inr ((C.1 1 0))), C) := by unfold cx_X11_count; rw [if_neg c_1_0, if_pos c_1_1]
      exact ev_iret dX11_count_76 rfl rfl ⟨W, (cx_X11_count C x1).2, ⟨rfl, by rw [e9]; rfl, rfl⟩, by rw [e9]; exact hT⟩
    · by_cases c_1_2 : x1 = 2
      · refine ev_tableIn (tgt := 77) (off := 76) dX11_count_1 (by rw [c_1_2]; decide) (by rw [c_1_2]; decide) (by rw [c_1_2]; rfl) (by decide) ?_
        refine ev_aload_n dX11_count_77 rfl rfl ?_
        refine ev_iconst (v := 1) dX11_count_78 (by decide) ?_
        refine cw_call1 (d' := d - 1) hE hT dX11_count_79 rfl kX11_papersThatAre lX11_325 iX11_papersThatAre vX11_papersThatAre (k := 0) (i := 0) rfl ob0 rfl (Nat.le_of_ble_eq_true rfl) (by omega) (c_X11_papersThatAre hE (by omega)) (fun g hT => ?_)
        have e9 : cx_X11_count C x1 = ((.inr ((sp_many C 1 (sp_P C)))), C) := by unfold cx_X11_count; rw [if_neg c_1_0, if_neg c_1_1, if_pos c_1_2]
        exact ev_iret dX11_count_82 rfl rfl ⟨W, (cx_X11_count C x1).2, ⟨rfl, by rw [e9]; rfl, rfl⟩, by rw [e9]; exact hT⟩
      · by_cases c_1_3 : x1 = 3
        · refine ev_tableIn (tgt := 83) (off := 82) dX11_count_1 (by rw [c_1_3]; decide) (by rw [c_1_3]; decide) (by rw [c_1_3]; rfl) (by decide) ?_
          refine ev_aload_n dX11_count_83 rfl rfl ?_
          refine ev_iconst (v := 0) dX11_count_84 (by decide) ?_
          refine cw_call1 (d' := d - 1) hE hT dX11_count_85 rfl kX11_papersThatAre lX11_325 iX11_papersThatAre vX11_papersThatAre (k := 0) (i := 0) rfl ob0 rfl (Nat.le_of_ble_eq_true rfl) (by omega) (c_X11_papersThatAre hE (by omega)) (fun g hT => ?_)
          have e9 : cx_X11_count C x1 = ((.inr ((sp_many C 0 (sp_P C)))), C) := by unfold cx_X11_count; rw [if_neg c_1_0, if_neg c_1_1, if_neg c_1_2, if_pos c_1_3]
          exact ev_iret dX11_count_88 rfl rfl ⟨W, (cx_X11_count C x1).2, ⟨rfl, by rw [e9]; rfl, rfl⟩, by rw [e9]; exact hT⟩
        · by_cases c_1_4 : x1 = 4
          · refine ev_tableIn (tgt := 89) (off := 88) dX11_count_1 (by rw [c_1_4]; decide) (by rw [c_1_4]; decide) (by rw [c_1_4]; rfl) (by decide) ?_
            refine ev_aload_n dX11_count_89 rfl rfl ?_
            refine cw_getf hE hT dX11_count_90 fX11_16 (k := 0) (i := 0) rfl ob0 rfl ?_
            refine cw_size (l := 1) (v := (C.1 21 0)) hE hT dX11_count_93 lX11_89 (by decide) (Nat.le_of_ble_eq_true rfl) (by omega) rfl ?_
            have e9 : cx_X11_count C x1 = ((.inr ((C.1 21 0))), C) := by unfold cx_X11_count; rw [if_neg c_1_0, if_neg c_1_1, if_neg c_1_2, if_neg c_1_3, if_pos c_1_4]
            exact ev_iret dX11_count_96 rfl rfl ⟨W, (cx_X11_count C x1).2, ⟨rfl, by rw [e9]; rfl, rfl⟩, by rw [e9]; exact hT⟩
          · by_cases c_1_5 : x1 = 5
            · refine ev_tableIn (tgt := 97) (off := 96) dX11_count_1 (by rw [c_1_5]; decide) (by rw [c_1_5]; decide) (by rw [c_1_5]; rfl) (by decide) ?_
              refine ev_aload_n dX11_count_97 rfl rfl ?_
              refine cw_call0 (d' := d - 1) hE hT dX11_count_98 rfl kX11_pool lX11_328 iX11_pool vX11_pool (k := 0) (i := 0) rfl ob0 rfl (Nat.le_of_ble_eq_true rfl) (by omega) (c_X11_pool hE (by omega)) (fun g hT => ?_)
              have e9 : cx_X11_count C x1 = ((.inr ((sp_pool C (sp_R C)))), C) := by unfold cx_X11_count; rw [if_neg c_1_0, if_neg c_1_1, if_neg c_1_2, if_neg c_1_3, if_neg c_1_4, if_pos c_1_5]
              exact ev_iret dX11_count_101 rfl rfl ⟨W, (cx_X11_count C x1).2, ⟨rfl, by rw [e9]; rfl, rfl⟩, by rw [e9]; exact hT⟩
            · by_cases c_1_6 : x1 = 6
              · refine ev_tableIn (tgt := 102) (off := 101) dX11_count_1 (by rw [c_1_6]; decide) (by rw [c_1_6]; decide) (by rw [c_1_6]; rfl) (by decide) ?_
                refine ev_aload_n dX11_count_102 rfl rfl ?_
                refine cw_getf hE hT dX11_count_103 fX11_19 (k := 0) (i := 0) rfl ob0 rfl ?_
                refine cw_size (l := 2) (v := (C.1 29 0)) hE hT dX11_count_106 lX11_89 (by decide) (Nat.le_of_ble_eq_true rfl) (by omega) rfl ?_
                have e9 : cx_X11_count C x1 = ((.inr ((C.1 29 0))), C) := by unfold cx_X11_count; rw [if_neg c_1_0, if_neg c_1_1, if_neg c_1_2, if_neg c_1_3, if_neg c_1_4, if_neg c_1_5, if_pos c_1_6]
                exact ev_iret dX11_count_109 rfl rfl ⟨W, (cx_X11_count C x1).2, ⟨rfl, by rw [e9]; rfl, rfl⟩, by rw [e9]; exact hT⟩
              · by_cases c_1_7 : x1 = 7
                · refine ev_tableIn (tgt := 110) (off := 109) dX11_count_1 (by rw [c_1_7]; decide) (by rw [c_1_7]; decide) (by rw [c_1_7]; rfl) (by decide) ?_
                  refine ev_aload_n dX11_count_110 rfl rfl ?_
                  refine cw_getf hE hT dX11_count_111 fX11_29 (k := 0) (i := 0) rfl ob0 rfl ?_
                  have e9 : cx_X11_count C x1 = ((.inr ((C.1 24 0))), C) := by unfold cx_X11_count; rw [if_neg c_1_0, if_neg c_1_1, if_neg c_1_2, if_neg c_1_3, if_neg c_1_4, if_neg c_1_5, if_neg c_1_6, if_pos c_1_7]
                  exact ev_iret dX11_count_114 rfl rfl ⟨W, (cx_X11_count C x1).2, ⟨rfl, by rw [e9]; rfl, rfl⟩, by rw [e9]; exact hT⟩
                · by_cases c_1_8 : x1 = 8
                  · refine ev_tableIn (tgt := 115) (off := 114) dX11_count_1 (by rw [c_1_8]; decide) (by rw [c_1_8]; decide) (by rw [c_1_8]; rfl) (by decide) ?_
                    refine ev_aload_n dX11_count_115 rfl rfl ?_
                    refine cw_getf hE hT dX11_count_116 fX11_22 (k := 0) (i := 0) rfl ob0 rfl ?_
                    refine cw_size (l := 3) (v := (C.1 62 0)) hE hT dX11_count_119 lX11_89 (by decide) (Nat.le_of_ble_eq_true rfl) (by omega) rfl ?_
                    have e9 : cx_X11_count C x1 = ((.inr ((C.1 62 0))), C) := by unfold cx_X11_count; rw [if_neg c_1_0, if_neg c_1_1, if_neg c_1_2, if_neg c_1_3, if_neg c_1_4, if_neg c_1_5, if_neg c_1_6, if_neg c_1_7, if_pos c_1_8]
                    exact ev_iret dX11_count_122 rfl rfl ⟨W, (cx_X11_count C x1).2, ⟨rfl, by rw [e9]; rfl, rfl⟩, by rw [e9]; exact hT⟩
                  · by_cases c_1_9 : x1 = 9
                    · refine ev_tableIn (tgt := 123) (off := 122) dX11_count_1 (by rw [c_1_9]; decide) (by rw [c_1_9]; decide) (by rw [c_1_9]; rfl) (by decide) ?_
                      refine ev_aload_n dX11_count_123 rfl rfl ?_
                      refine cw_getf hE hT dX11_count_124 fX11_69 (k := 0) (i := 0) rfl ob0 rfl ?_
                      refine cw_getf hE hT dX11_count_127 fX11_331 (k := 13) (i := 0) rfl ob13 rfl ?_
                      have e9 : cx_X11_count C x1 = ((.inr ((C.1 73 0))), C) := by unfold cx_X11_count; rw [if_neg c_1_0, if_neg c_1_1, if_neg c_1_2, if_neg c_1_3, if_neg c_1_4, if_neg c_1_5, if_neg c_1_6, if_neg c_1_7, if_neg c_1_8, if_pos c_1_9]
                      exact ev_iret dX11_count_130 rfl rfl ⟨W, (cx_X11_count C x1).2, ⟨rfl, by rw [e9]; rfl, rfl⟩, by rw [e9]; exact hT⟩
                    · by_cases c_1_10 : x1 = 10
                      · refine ev_tableIn (tgt := 131) (off := 130) dX11_count_1 (by rw [c_1_10]; decide) (by rw [c_1_10]; decide) (by rw [c_1_10]; rfl) (by decide) ?_
                        refine ev_aload_n dX11_count_131 rfl rfl ?_
                        refine cw_getf hE hT dX11_count_132 fX11_48 (k := 0) (i := 0) rfl ob0 rfl ?_
                        refine cw_getf hE hT dX11_count_135 fX11_165 (k := 4) (i := 0) rfl ob4 rfl ?_
                        have e9 : cx_X11_count C x1 = ((.inr ((C.1 28 0))), C) := by unfold cx_X11_count; rw [if_neg c_1_0, if_neg c_1_1, if_neg c_1_2, if_neg c_1_3, if_neg c_1_4, if_neg c_1_5, if_neg c_1_6, if_neg c_1_7, if_neg c_1_8, if_neg c_1_9, if_pos c_1_10]
                        exact ev_iret dX11_count_138 rfl rfl ⟨W, (cx_X11_count C x1).2, ⟨rfl, by rw [e9]; rfl, rfl⟩, by rw [e9]; exact hT⟩
                      · by_cases c_1_11 : x1 = 11
                        · refine ev_tableIn (tgt := 139) (off := 138) dX11_count_1 (by rw [c_1_11]; decide) (by rw [c_1_11]; decide) (by rw [c_1_11]; rfl) (by decide) ?_
                          refine ev_aload_n dX11_count_139 rfl rfl ?_
                          refine cw_call0 (d' := d - 1) hE hT dX11_count_140 rfl kX11_reelsStolen lX11_334 iX11_reelsStolen vX11_reelsStolen (k := 0) (i := 0) rfl ob0 rfl (Nat.le_of_ble_eq_true rfl) (by omega) (c_X11_reelsStolen hE (by omega)) (fun g hT => ?_)
                          have e9 : cx_X11_count C x1 = ((.inr ((sp_stol C (sp_R C)))), C) := by unfold cx_X11_count; rw [if_neg c_1_0, if_neg c_1_1, if_neg c_1_2, if_neg c_1_3, if_neg c_1_4, if_neg c_1_5, if_neg c_1_6, if_neg c_1_7, if_neg c_1_8, if_neg c_1_9, if_neg c_1_10, if_pos c_1_11]
                          exact ev_iret dX11_count_143 rfl rfl ⟨W, (cx_X11_count C x1).2, ⟨rfl, by rw [e9]; rfl, rfl⟩, by rw [e9]; exact hT⟩
                        · refine ev_tableOut (tgt := 144) dX11_count_1 (by have h0 : (x1 : Int32).toInt ≠ 0 := fun q => c_1_0 (Int32.toInt_inj.mp (by rw [q]; rfl)); have h1 : (x1 : Int32).toInt ≠ 1 := fun q => c_1_1 (Int32.toInt_inj.mp (by rw [q]; rfl)); have h2 : (x1 : Int32).toInt ≠ 2 := fun q => c_1_2 (Int32.toInt_inj.mp (by rw [q]; rfl)); have h3 : (x1 : Int32).toInt ≠ 3 := fun q => c_1_3 (Int32.toInt_inj.mp (by rw [q]; rfl)); have h4 : (x1 : Int32).toInt ≠ 4 := fun q => c_1_4 (Int32.toInt_inj.mp (by rw [q]; rfl)); have h5 : (x1 : Int32).toInt ≠ 5 := fun q => c_1_5 (Int32.toInt_inj.mp (by rw [q]; rfl)); have h6 : (x1 : Int32).toInt ≠ 6 := fun q => c_1_6 (Int32.toInt_inj.mp (by rw [q]; rfl)); have h7 : (x1 : Int32).toInt ≠ 7 := fun q => c_1_7 (Int32.toInt_inj.mp (by rw [q]; rfl)); have h8 : (x1 : Int32).toInt ≠ 8 := fun q => c_1_8 (Int32.toInt_inj.mp (by rw [q]; rfl)); have h9 : (x1 : Int32).toInt ≠ 9 := fun q => c_1_9 (Int32.toInt_inj.mp (by rw [q]; rfl)); have h10 : (x1 : Int32).toInt ≠ 10 := fun q => c_1_10 (Int32.toInt_inj.mp (by rw [q]; rfl)); have h11 : (x1 : Int32).toInt ≠ 11 := fun q => c_1_11 (Int32.toInt_inj.mp (by rw [q]; rfl)); omega) (by decide) ?_
                          refine ev_iconst (v := (-1)) dX11_count_144 (by decide) ?_
                          have e9 : cx_X11_count C x1 = ((.inr ((-1))), C) := by unfold cx_X11_count; rw [if_neg c_1_0, if_neg c_1_1, if_neg c_1_2, if_neg c_1_3, if_neg c_1_4, if_neg c_1_5, if_neg c_1_6, if_neg c_1_7, if_neg c_1_8, if_neg c_1_9, if_neg c_1_10, if_neg c_1_11]
                          exact ev_iret dX11_count_145 rfl rfl ⟨W, (cx_X11_count C x1).2, ⟨rfl, by rw [e9]; rfl, rfl⟩, by rw [e9]; exact hT⟩
end CE
