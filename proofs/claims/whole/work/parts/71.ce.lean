section CE
section RS
variable {G : ev_G} {d bc bs : Nat} {M : ev_M} {Post : ev_P} {g : ev_H} {pc : Nat} {lv : List (Option Value)} {st : List Value}
theorem ev_astoreN {i : Nat} {lv' : List (Option Value)} (hd : decode M.2.1 pc = .ok (.astore i, 2)) (hn : i < lv.length) (he : ev_s1 lv i .null = lv') (k : ev_V G d bc bs M Post g (pc + 2) lv' st) : ev_V G d bc bs M Post g pc lv (.null :: st) :=
  fun p e s m args below meth c H locs cells slots mc ms ls hC hR hS hc hs hl => lv_astoreN hC.1 hC.2.1 hd hl.has (by rw [← hl.2.2.1]; exact hn) rfl (fun ls' h' => k p e s m args below meth c H locs cells slots mc ms ls' hC hR hS hc hs (he ▸ hl.set1 h'))
end RS
/-- is there a row of this month -/
def cx_hr (C : mo_S) (x : Int32) : Bool := sp_in x 0 (C.1 134 0 - 1)
def cx_rr (C : mo_S) (W : cw_W) (x : Int32) : Value := if cx_hr C x = true then .ref (W 34 x.toNatClampNeg) else .null
theorem c_X2_rowsOf {G : ev_G} {W : cw_W} {d : Nat} {C : mo_S} {x1 : Int32} (hE : ev_En G) : cw_C G W d mX2_rowsOf [.ref (W 13 0), .int x1] C (some (cx_rr C W x1)) C := by
  refine cw_start (lv0 := [some (.ref (W 13 0)), some (.int x1)]) (by decide +kernel) rfl (Nat.le_of_ble_eq_true rfl) rfl ?_
  intro K g0 g hT
  have hBM := hT.B.2.2.2.2.1
  obtain ⟨f, a1, a2⟩ := (hT.at (k := 14) (i := 0) rfl).2.2.2.2 rfl
  refine ev_iload_n dX2_rowsOf_0 rfl rfl ?_
  refine ev_if_lt (tgt := 22) dX2_rowsOf_1 (by decide) (fun c_1 => ?_) (fun c_1 => ?_)
  · refine ev_null dX2_rowsOf_22 ?_
    refine ev_aret dX2_rowsOf_23 rfl (Or.inr ⟨_, rfl⟩) (Or.inl rfl) ⟨?_, hT⟩
    unfold cx_rr cx_hr
    rw [if_neg (fun q => absurd (of_decide_eq_true q).1 (Int32.not_le.mpr c_1))]
  · refine ev_iload_n dX2_rowsOf_4 rfl rfl ?_
    refine ev_aload_n dX2_rowsOf_5 rfl rfl ?_
    refine cw_getf hE hT dX2_rowsOf_6 fX2_11 (k := 13) (i := 0) rfl ob13 rfl ?_
    refine ev_alen (t0 := 5) hE dX2_rowsOf_9 rfl a1 ?_
    refine ev_icmp_ge (tgt := 22) dX2_rowsOf_10 (by decide) (fun c_10 => ?_) (fun c_10 => ?_)
    · refine ev_null dX2_rowsOf_22 ?_
      refine ev_aret dX2_rowsOf_23 rfl (Or.inr ⟨_, rfl⟩) (Or.inl rfl) ⟨?_, hT⟩
      unfold cx_rr cx_hr
      rw [if_neg (fun q => ?_)]
      obtain ⟨e, hn⟩ := cl_in_n hBM.1 hBM.2 (by decide) q
      rw [e] at c_10
      exact nI_ge (a := x1.toNatClampNeg) (b := 600) (by omega) (by decide) c_10
    · obtain ⟨e, hn⟩ := cl_in_n (y := nI 600) (n := 600) (N := 600) rfl (by decide) (by decide) (cl_in_ok (n := 600) (N := 600) rfl (by decide) (by decide) c_1 (Int32.not_le.mp c_10))
      generalize hm : x1.toNatClampNeg = m at e hn
      subst e
      refine ev_aload_n dX2_rowsOf_13 rfl rfl ?_
      refine cw_getf hE hT dX2_rowsOf_14 fX2_11 (k := 13) (i := 0) rfl ob13 rfl ?_
      refine ev_iload_n dX2_rowsOf_17 rfl rfl ?_
      refine ev_galdq hE dX2_rowsOf_18 a1 (vp_in_nI hn (by decide)) ?_
      rw [nI_clamp (by omega), a2 m hn]
      refine ev_goto (tgt := 23) dX2_rowsOf_19 (by decide) ?_
      have ev : cx_rr C W (nI m) = va_rf (if m < cw_M C then some (W 34 m) else none) := by
        unfold cx_rr cx_hr
        by_cases z : m < cw_M C
        · rw [if_pos z, if_pos (cl_in_ok hBM.1 hBM.2 (by decide) c_1 (by rw [hBM.1]; exact nI_lt z (by omega))), nI_clamp (by omega)]
          rfl
        · rw [if_neg z, if_neg (fun q => z ?_)]
          · rfl
          · have := (cl_in_n hBM.1 hBM.2 (by decide) q).2
            rw [nI_clamp (by omega)] at this
            exact this
      rw [ev]
      by_cases z : m < cw_M C
      · rw [if_pos z]
        exact ev_aret dX2_rowsOf_23 rfl (Or.inr ⟨_, rfl⟩) (Or.inr ⟨_, rfl⟩) ⟨rfl, hT⟩
      · rw [if_neg z]
        exact ev_aret dX2_rowsOf_23 rfl (Or.inr ⟨_, rfl⟩) (Or.inl rfl) ⟨rfl, hT⟩
def cx_cell (C : mo_S) (p : Nat) (x : Int32) (v : Nat) : Int32 := if cx_hr C x = true then C.1 126 (48 * x.toNatClampNeg + (4 * p + v)) else -2000000000
theorem cx_i4 (p v : Nat) : nI p * 4 + nI v = nI (4 * p + v) := by
  rw [show nI p * 4 = nI (p * 4) from pk_mul p 4, nI_add, Nat.mul_comm]
theorem c_X2_cell {G : ev_G} {W : cw_W} {d : Nat} {C : mo_S} {p v : Nat} {x2 : Int32} (hE : ev_En G) (hd : 1 ≤ d) (hp : p < 12) (hv : v < 4) : cw_C G W d mX2_cell [.ref (W 13 0), .int (nI p), .int x2, .int (nI v)] C (some (.int (cx_cell C p x2 v))) C := by
  refine cw_start (lv0 := [some (.ref (W 13 0)), some (.int (nI p)), some (.int x2), some (.int (nI v)), none, none]) (by decide +kernel) rfl (Nat.le_of_ble_eq_true rfl) rfl ?_
  intro K g0 g hT
  have hBM := hT.B.2.2.2.2.1
  refine ev_aload_n dX2_cell_0 rfl rfl ?_
  refine ev_iload_n dX2_cell_1 rfl rfl ?_
  refine cw_call1 (d' := d - 1) hE hT dX2_cell_2 rfl kX2_rowsOf lX2_55 iX2_rowsOf vX2_rowsOf (k := 13) (i := 0) rfl ob13 rfl (Nat.le_of_ble_eq_true rfl) (by omega) (c_X2_rowsOf hE) (fun g hT => ?_)
  unfold cx_rr cx_cell
  by_cases z : cx_hr C x2 = true
  · rw [if_pos z, if_pos z]
    obtain ⟨e, hm⟩ := cl_in_n hBM.1 hBM.2 (by decide) z
    refine ev_astore dX2_cell_5 (Nat.le_of_ble_eq_true rfl) rfl ?_
    refine ev_iload_n dX2_cell_7 rfl rfl ?_
    refine ev_iconst (v := 4) dX2_cell_8 (by decide) ?_
    refine ev_imul dX2_cell_9 ?_
    refine ev_iload_n dX2_cell_10 rfl rfl ?_
    refine ev_iadd dX2_cell_11 ?_
    rw [cx_i4]
    refine ev_istore dX2_cell_12 (Nat.le_of_ble_eq_true rfl) rfl ?_
    refine ev_aload dX2_cell_14 rfl ?_
    refine ev_ifnull dX2_cell_16 ?_
    refine ev_iload dX2_cell_19 rfl ?_
    refine ev_if_lt (tgt := 40) dX2_cell_21 (by decide) (fun c => absurd c (nI_pos (by omega))) (fun _ => ?_)
    refine ev_iload dX2_cell_24 rfl ?_
    refine ev_aload dX2_cell_26 rfl ?_
    refine cw_alen (n := 48) hE hT dX2_cell_28 (k := 34) (i := x2.toNatClampNeg) hm ar34 ?_
    refine ev_icmp_ge (tgt := 40) dX2_cell_29 (by decide) (fun c => absurd c (nI_ge (b := 48) (by omega) (by decide))) (fun _ => ?_)
    refine ev_aload dX2_cell_32 rfl ?_
    refine ev_iload dX2_cell_34 rfl ?_
    refine cw_ial (q := 4 * p + v) hE hT dX2_cell_36 (k := 34) (i := x2.toNatClampNeg) hm ar34 rfl (by omega) (by decide) rfl ?_
    refine ev_goto (tgt := 42) dX2_cell_37 (by decide) ?_
    exact ev_iret dX2_cell_42 rfl rfl ⟨rfl, hT⟩
  · rw [if_neg z, if_neg z]
    refine ev_astoreN dX2_cell_5 (Nat.le_of_ble_eq_true rfl) rfl ?_
    refine ev_iload_n dX2_cell_7 rfl rfl ?_
    refine ev_iconst (v := 4) dX2_cell_8 (by decide) ?_
    refine ev_imul dX2_cell_9 ?_
    refine ev_iload_n dX2_cell_10 rfl rfl ?_
    refine ev_iadd dX2_cell_11 ?_
    refine ev_istore dX2_cell_12 (Nat.le_of_ble_eq_true rfl) rfl ?_
    refine ev_aloadN dX2_cell_14 rfl ?_
    refine ev_ifnullN (tgt := 40) dX2_cell_16 (by decide) ?_
    refine ev_ldc dX2_cell_40 nX2_33 ?_
    exact ev_iret dX2_cell_42 rfl rfl ⟨rfl, hT⟩
theorem c_X2_put {G : ev_G} {W : cw_W} {d : Nat} {C : mo_S} {m p v : Nat} {x4 : Int32} (hE : ev_En G) (hd : 1 ≤ d) (hm : m < cw_M C) (hp : p < 12) (hv : v < 4) : cw_C G W d mX2_put [.ref (W 13 0), .int (nI m), .int (nI p), .int (nI v), .int x4] C none (mo_up C 126 (48 * m + (4 * p + v)) x4) := by
  refine cw_start (lv0 := [some (.ref (W 13 0)), some (.int (nI m)), some (.int (nI p)), some (.int (nI v)), some (.int x4), none, none]) (by decide +kernel) rfl (Nat.le_of_ble_eq_true rfl) rfl ?_
  intro K g0 g hT
  have hBM := hT.B.2.2.2.2.1
  have hr : cx_rr C W (nI m) = .ref (W 34 m) := by
    unfold cx_rr cx_hr
    rw [if_pos (cl_in_ok hBM.1 hBM.2 (by decide) (nI_pos (by omega)) (by rw [hBM.1]; exact nI_lt hm (by omega))), nI_clamp (by omega)]
  refine ev_aload_n dX2_put_0 rfl rfl ?_
  refine ev_iload_n dX2_put_1 rfl rfl ?_
  refine cw_call1 (d' := d - 1) hE hT dX2_put_2 rfl kX2_rowsOf lX2_55 iX2_rowsOf vX2_rowsOf (k := 13) (i := 0) rfl ob13 rfl (Nat.le_of_ble_eq_true rfl) (by omega) (c_X2_rowsOf hE) (fun g hT => ?_)
  rw [hr]
  refine ev_astore dX2_put_5 (Nat.le_of_ble_eq_true rfl) rfl ?_
  refine ev_iload_n dX2_put_7 rfl rfl ?_
  refine ev_iconst (v := 4) dX2_put_8 (by decide) ?_
  refine ev_imul dX2_put_9 ?_
  refine ev_iload_n dX2_put_10 rfl rfl ?_
  refine ev_iadd dX2_put_11 ?_
  rw [cx_i4]
  refine ev_istore dX2_put_12 (Nat.le_of_ble_eq_true rfl) rfl ?_
  refine ev_aload dX2_put_14 rfl ?_
  refine ev_ifnull dX2_put_16 ?_
  refine ev_iload dX2_put_19 rfl ?_
  refine ev_if_lt (tgt := 39) dX2_put_21 (by decide) (fun c => absurd c (nI_pos (by omega))) (fun _ => ?_)
  refine ev_iload dX2_put_24 rfl ?_
  refine ev_aload dX2_put_26 rfl ?_
  refine cw_alen (n := 48) hE hT dX2_put_28 (k := 34) (i := m) hm ar34 ?_
  refine ev_icmp_ge (tgt := 39) dX2_put_29 (by decide) (fun c => absurd c (nI_ge (b := 48) (by omega) (by decide))) (fun _ => ?_)
  refine ev_aload dX2_put_32 rfl ?_
  refine ev_iload dX2_put_34 rfl ?_
  refine ev_iload dX2_put_36 rfl ?_
  refine cw_ias (q := 4 * p + v) (f := 126) (ix := 48 * m + (4 * p + v)) hE hT dX2_put_38 (k := 34) (i := m) hm ar34 rfl (by omega) (by decide) (by show (34, (48 * m + (4 * p + v)) / 48) = (34, m); rw [Nat.mul_add_div (by decide), Nat.div_eq_of_lt (by omega)]; rfl) (by decide) (by decide) (pa34 (i := m)) (fun g hT => ?_)
  exact ev_vret dX2_put_39 rfl ⟨rfl, hT⟩
end CE
