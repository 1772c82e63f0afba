section CM7
/-- n cells hold v -/
def cx_fl (C : mo_S) (f : Nat) (e : Nat → Nat) (v : Int32) : Nat → mo_S
  | 0 => C
  | n + 1 => mo_up (cx_fl C f e v n) f (e n) v
theorem cx_fl_ne {C : mo_S} {f k : Nat} {e : Nat → Nat} {v : Int32} (h : k ≠ f) : ∀ n, (cx_fl C f e v n).1 k = C.1 k
  | 0 => rfl
  | n + 1 => by rw [cx_fl, mo_up_ne h, cx_fl_ne h n]
theorem cx_fl_2 {C : mo_S} {f : Nat} {e : Nat → Nat} {v : Int32} : ∀ n, (cx_fl C f e v n).2 = C.2
  | 0 => rfl
  | n + 1 => cx_fl_2 n
theorem cx_fl_no {C : mo_S} {f x : Nat} {e : Nat → Nat} {v : Int32} : ∀ n, (∀ j, j < n → e j ≠ x) → (cx_fl C f e v n).1 f x = C.1 f x
  | 0, _ => rfl
  | n + 1, h => by
    rw [cx_fl, mo_up_at, pk_un (fun q => h n (by omega) q.symm)]
    exact cx_fl_no n (fun j hj => h j (by omega))
theorem cx_fl_at {C : mo_S} {f : Nat} {e : Nat → Nat} {v : Int32} : ∀ n j, j < n → (cx_fl C f e v n).1 f (e j) = v
  | 0, _, h => absurd h (by omega)
  | n + 1, j, h => by
    rw [cx_fl, mo_up_at]
    by_cases q : e j = e n
    · rw [q, pk_us]
    · rw [pk_un q]
      exact cx_fl_at n j (by
        rcases Nat.lt_or_ge j n with r | r
        · exact r
        · exact absurd (by rw [show j = n by omega]) q)
theorem sp_P_cg {T C : mo_S} (h : T.1 1 = C.1 1) : sp_P T = sp_P C := congrArg (fun z => (z 0).toNatClampNeg) h
theorem sp_R_cg {T C : mo_S} (h : T.1 21 = C.1 21) : sp_R T = sp_R C := congrArg (fun z => (z 0).toNatClampNeg) h
theorem sp_A_cg {T C : mo_S} (h : T.1 62 = C.1 62) : sp_A T = sp_A C := congrArg (fun z => (z 0).toNatClampNeg) h
theorem sp_O_cg {T C : mo_S} (h : T.1 29 = C.1 29) : sp_O T = sp_O C := congrArg (fun z => (z 0).toNatClampNeg) h
theorem lvP {T C : mo_S} {p : Nat} (h : p < sp_P C) (e : T.1 1 = C.1 1) : p < sp_P T := by rw [sp_P_cg e]; exact h
theorem lvR {T C : mo_S} {p : Nat} (h : p < sp_R C) (e : T.1 21 = C.1 21) : p < sp_R T := by rw [sp_R_cg e]; exact h
section RS
variable {G : ev_G} {d bc bs D0 : Nat} {M : ev_M} {Post : ev_P} {g : ev_H} {pc : Nat} {lv : List (Option Value)} {st : List Value}
variable {K : Nat → Prop} {g0 : ev_H} {W : cw_W} {C : mo_S}
theorem cw_fill {index k i n f : Nat} {e : Nat → Nat} {v : Int32} (hE : ev_En G) (hT : cw_T G K g0 W g C) (hd : decode M.2.1 pc = .ok (.invokestatic index, 3)) (hl1 : Cond.methodLink M.1.cls index yJ7_fill_53178 ∈ ev_T) (hl : cw_lv C k i) (ha : ∀ T : mo_S, cw_ar T k i = some (n, fun j => T.1 f (e j))) (hn : n < 1000000) (hA : k ∈ cw_AL) (hf : f ∉ cw_S) (ho : ∀ j, j < n → cw_ow f (e j) = (k, i)) (hr : (st.map fun v => v.category).sum ≤ 8) (hdd : 1 ≤ d) (kk : ∀ g', cw_T G K g0 W g' (cx_fl C f e v n) → ev_V G d bc bs M Post g' (pc + 3) lv st) : ev_V G d bc bs M Post g pc lv (.int v :: .ref (W k i) :: st) := by
  obtain ⟨f0, a1, a2⟩ := (hT.at hl).2.1 _ _ (ha C)
  refine ev_callS (d' := d - 1) (b := bc) (k0 := bs) (ci := 0) (r := 0) (fs := []) (As := [.ref (W k i), .int v]) hd rfl kJ7_fill_53178 rfl hl1 sJ7_fill_53178 hr (by omega) (c_fill hE a1 hn) (Nat.le_refl _) (Nat.le_refl _) (fun v2 g' h => ?_) (fun E g' h => by cases h.1)
  obtain ⟨h1, f', rfl, h2⟩ := h
  cases h1
  refine kk _ (hT.set hl (fun f2 hf2 => cx_fl_ne (fun q => hf (by rw [← q]; exact hf2)) n) (fun f2 x hne => ?_) (fun _ => cx_fl_2 n) (cw_at_ar hA (ha _) ⟨f', ev_up_s _ _ _, fun j hj => ?_⟩))
  · by_cases q : f2 = f
    · subst q
      exact cx_fl_no n (fun j hj hq => hne (by rw [← hq]; exact ho j hj))
    · rw [cx_fl_ne q n]
  · show f' j = (cx_fl C f e v n).1 f (e j)
    rw [h2 j hj, cx_fl_at n j hj]
end RS
def cx_X5_forgetSwaps (C : mo_S) (p : Nat) : mo_S :=
  (cx_fl C 58 (fun j => 12 * p + j) 0 12)
theorem c_X5_forgetSwaps {G : ev_G} {W : cw_W} {d : Nat} {C : mo_S} {p : Nat} (hE : ev_En G) (hd : 1 ≤ d) (hp : p < sp_P C) : cw_C G W d mX5_forgetSwaps [.ref (W 20 p)] C none (cx_X5_forgetSwaps C p) := by
  refine cw_start (lv0 := [some (.ref (W 20 p))]) (by decide +kernel) rfl (Nat.le_of_ble_eq_true rfl) rfl ?_
  intro K g0 g hT
  refine ev_aload_n dX5_forgetSwaps_0 rfl rfl ?_
  refine cw_getf hE hT dX5_forgetSwaps_1 fX5_40 (k := 20) (i := p) hp ob20 rfl ?_
  refine ev_iconst (v := 0) dX5_forgetSwaps_4 (by decide) ?_
  refine cw_fill (k := 22) (i := p) (n := 12) (f := 58) (e := fun j => 12 * p + j) hE hT dX5_forgetSwaps_5 lX5_72 hp (fun _ => ar22) (by decide) (by decide) (by decide) (fun j hj => by show (22, (12 * p + j) / 12) = (22, p); rw [Nat.mul_add_div (by decide), Nat.div_eq_of_lt hj]; rfl) (Nat.le_of_ble_eq_true rfl) (by omega) (fun g hT => ?_)
  have e9 : cx_X5_forgetSwaps C p = (cx_fl C 58 (fun j => 12 * p + j) 0 12) := by unfold cx_X5_forgetSwaps; rfl
  exact ev_vret dX5_forgetSwaps_8 rfl ⟨rfl, by rw [e9]; exact hT⟩
def cx_X5_leave (C : mo_S) (p : Nat) : mo_S :=
  (cx_fl (mo_up (mo_up (mo_up (mo_up (mo_up (mo_up C 12 p 2) 4 p 0) 5 p 0) 10 p 0) 11 p 0) 9 p 0) 26 (fun j => 12 * j + p) 0 5)
theorem c_X5_leave {G : ev_G} {W : cw_W} {d : Nat} {C : mo_S} {p : Nat} (hE : ev_En G) (hd : 1 ≤ d) (hp : p < sp_P C) : cw_C G W d mX5_leave [.ref (W 20 p)] C none (cx_X5_leave C p) := by
  refine cw_start (lv0 := [some (.ref (W 20 p))]) (by decide +kernel) rfl (Nat.le_of_ble_eq_true rfl) rfl ?_
  intro K g0 g hT
  have hp12 : p < 12 := by have := hT.B.1.2; omega
  refine ev_aload_n dX5_leave_0 rfl rfl ?_
  refine ev_iconst (v := 2) dX5_leave_1 (by decide) ?_
  refine cw_putf (k := 20) (i := p) (f := 12) (x := p) hE hT dX5_leave_2 pX5_24 hp ob20 (Nat.le_of_ble_eq_true rfl) rfl rfl rfl (by decide) (by decide) pu20_9 (fun g hT => ?_)
  refine ev_aload_n dX5_leave_5 rfl rfl ?_
  refine ev_iconst (v := 0) dX5_leave_6 (by decide) ?_
  refine cw_putf (k := 20) (i := p) (f := 4) (x := p) hE hT dX5_leave_7 pX5_60 hp ob20 (Nat.le_of_ble_eq_true rfl) rfl rfl rfl (by decide) (by decide) pu20_1 (fun g hT => ?_)
  refine ev_aload_n dX5_leave_10 rfl rfl ?_
  refine ev_iconst (v := 0) dX5_leave_11 (by decide) ?_
  refine cw_putf (k := 20) (i := p) (f := 5) (x := p) hE hT dX5_leave_12 pX5_63 hp ob20 (Nat.le_of_ble_eq_true rfl) rfl rfl rfl (by decide) (by decide) pu20_2 (fun g hT => ?_)
  refine ev_aload_n dX5_leave_15 rfl rfl ?_
  refine ev_iconst (v := 0) dX5_leave_16 (by decide) ?_
  refine cw_putf (k := 20) (i := p) (f := 10) (x := p) hE hT dX5_leave_17 pX5_18 hp ob20 (Nat.le_of_ble_eq_true rfl) rfl rfl rfl (by decide) (by decide) pu20_7 (fun g hT => ?_)
  refine ev_aload_n dX5_leave_20 rfl rfl ?_
  refine ev_iconst (v := 0) dX5_leave_21 (by decide) ?_
  refine cw_putf (k := 20) (i := p) (f := 11) (x := p) hE hT dX5_leave_22 pX5_21 hp ob20 (Nat.le_of_ble_eq_true rfl) rfl rfl rfl (by decide) (by decide) pu20_8 (fun g hT => ?_)
  refine ev_aload_n dX5_leave_25 rfl rfl ?_
  refine ev_iconst (v := 0) dX5_leave_26 (by decide) ?_
  refine cw_putf (k := 20) (i := p) (f := 9) (x := p) hE hT dX5_leave_27 pX5_15 hp ob20 (Nat.le_of_ble_eq_true rfl) rfl rfl rfl (by decide) (by decide) pu20_6 (fun g hT => ?_)
  refine ev_aload_n dX5_leave_30 rfl rfl ?_
  refine cw_getf hE hT dX5_leave_31 fX5_36 (k := 20) (i := p) hp ob20 rfl ?_
  refine ev_iconst (v := 0) dX5_leave_34 (by decide) ?_
  refine cw_fill (k := 21) (i := p) (n := 5) (f := 26) (e := fun j => 12 * j + p) hE hT dX5_leave_35 lX5_72 hp (fun _ => ar21) (by decide) (by decide) (by decide) (fun j hj => by show (21, (12 * j + p) % 12) = (21, p); rw [Nat.mul_add_mod, Nat.mod_eq_of_lt hp12]) (Nat.le_of_ble_eq_true rfl) (by omega) (fun g hT => ?_)
  have e9 : cx_X5_leave C p = (cx_fl (mo_up (mo_up (mo_up (mo_up (mo_up (mo_up C 12 p 2) 4 p 0) 5 p 0) 10 p 0) 11 p 0) 9 p 0) 26 (fun j => 12 * j + p) 0 5) := by unfold cx_X5_leave; rfl
  exact ev_vret dX5_leave_38 rfl ⟨rfl, by rw [e9]; exact hT⟩
theorem cx_addSize_1 {C : mo_S} {p q : Nat} : (cx_X5_addSize C p q).1 1 = C.1 1 := by
  unfold cx_X5_addSize
  simp only [mo_up_ne (show (1 : Nat) ≠ 4 by decide), mo_up_ne (show (1 : Nat) ≠ 5 by decide), mo_up_ne (show (1 : Nat) ≠ 10 by decide)]
def cx_tk (C : mo_S) (p q : Nat) : Nat → mo_S
  | 0 => C
  | n + 1 => mo_up (cx_tk C p q n) 26 (12 * n + p) (cj_min ((cx_tk C p q n).1 26 (12 * n + p) + (cx_tk C p q n).1 26 (12 * n + q)) 100)
theorem cx_tk_ne {C : mo_S} {p q k : Nat} (h : k ≠ 26) : ∀ n, (cx_tk C p q n).1 k = C.1 k
  | 0 => rfl
  | n + 1 => by rw [cx_tk, mo_up_ne h, cx_tk_ne h n]
def cx_X5_takeOver (C : mo_S) (p : Nat) (q : Nat) : mo_S :=
  (cx_X5_leave (cx_tk (mo_up (mo_up (cx_X5_addSize C p q) 11 p (((cx_X5_addSize C p q).1 11 p) + ((cx_X5_addSize C p q).1 11 q))) 9 p (((cx_X5_addSize C p q).1 9 p) + ((cx_X5_addSize C p q).1 9 q))) p q 5) q)
theorem c_X5_takeOver {G : ev_G} {W : cw_W} {d : Nat} {C : mo_S} {p : Nat} {q : Nat} (hE : ev_En G) (hd : 2 ≤ d) (hp : p < sp_P C) (hq : q < sp_P C) : cw_C G W d mX5_takeOver [.ref (W 20 p), .ref (W 20 q)] C none (cx_X5_takeOver C p q) := by
  refine cw_start (lv0 := [some (.ref (W 20 p)), some (.ref (W 20 q)), none]) (by decide +kernel) rfl (Nat.le_of_ble_eq_true rfl) rfl ?_
  intro K g0 g hT
  have hp12 : p < 12 := by have := hT.B.1.2; omega
  refine ev_aload_n dX5_takeOver_0 rfl rfl ?_
  refine ev_aload_n dX5_takeOver_1 rfl rfl ?_
  refine cw_call1 (d' := d - 1) hE hT dX5_takeOver_2 rfl kX5_addSize lX5_85 iX5_addSize vX5_addSize (k := 20) (i := p) hp ob20 rfl (Nat.le_of_ble_eq_true rfl) (by omega) (c_X5_addSize hE (by omega) hp hq) (fun g hT => ?_)
  refine ev_aload_n dX5_takeOver_5 rfl rfl ?_
  refine ev_dup dX5_takeOver_6 rfl ?_
  refine cw_getf hE hT dX5_takeOver_7 fX5_21 (k := 20) (i := p) hp ob20 rfl ?_
  refine ev_aload_n dX5_takeOver_10 rfl rfl ?_
  refine cw_getf hE hT dX5_takeOver_11 fX5_21 (k := 20) (i := q) hq ob20 rfl ?_
  refine ev_iadd dX5_takeOver_14 ?_
  refine cw_putf (k := 20) (i := p) (f := 11) (x := p) hE hT dX5_takeOver_15 pX5_21 hp ob20 (Nat.le_of_ble_eq_true rfl) rfl rfl rfl (by decide) (by decide) pu20_8 (fun g hT => ?_)
  refine ev_aload_n dX5_takeOver_18 rfl rfl ?_
  refine ev_dup dX5_takeOver_19 rfl ?_
  refine cw_geti (v2 := ((cx_X5_addSize C p q).1 9 p)) hE hT dX5_takeOver_20 fX5_15 (k := 20) (i := p) hp ob20 rfl (by rw [mo_up_ne (by decide)]) ?_
  refine ev_aload_n dX5_takeOver_23 rfl rfl ?_
  refine cw_geti (v2 := ((cx_X5_addSize C p q).1 9 q)) hE hT dX5_takeOver_24 fX5_15 (k := 20) (i := q) hq ob20 rfl (by rw [mo_up_ne (by decide)]) ?_
  refine ev_iadd dX5_takeOver_27 ?_
  refine cw_putf (k := 20) (i := p) (f := 9) (x := p) hE hT dX5_takeOver_28 pX5_15 hp ob20 (Nat.le_of_ble_eq_true rfl) rfl rfl rfl (by decide) (by decide) pu20_6 (fun g hT => ?_)
  refine ev_iconst (v := 0) dX5_takeOver_31 (by decide) ?_
  refine ev_istore_n dX5_takeOver_32 rfl (Nat.le_of_ble_eq_true rfl) rfl ?_
  have loop : ∀ (n i : Nat), i ≤ 5 → 5 < i + n → ∀ g, cw_T G K g0 W g (cx_tk (mo_up (mo_up (cx_X5_addSize C p q) 11 p (((cx_X5_addSize C p q).1 11 p) + ((cx_X5_addSize C p q).1 11 q))) 9 p (((cx_X5_addSize C p q).1 9 p) + ((cx_X5_addSize C p q).1 9 q))) p q i) → ev_V G d 0 0 mX5_takeOver (fun o g' => o = .inl none ∧ cw_T G K g0 W g' (cx_X5_takeOver C p q)) g 33 [some (.ref (W 20 p)), some (.ref (W 20 q)), some (.int (nI i))] [] := by
    intro n
    induction n with
    | zero => intro i h1 h2; exact absurd h2 (by omega)
    | succ n ih =>
      intro i h1 h2   g hT
      have hp : p < sp_P (cx_tk (mo_up (mo_up (cx_X5_addSize C p q) 11 p (((cx_X5_addSize C p q).1 11 p) + ((cx_X5_addSize C p q).1 11 q))) 9 p (((cx_X5_addSize C p q).1 9 p) + ((cx_X5_addSize C p q).1 9 q))) p q i) := lvP (C := C) hp (by rw [cx_tk_ne (by decide), mo_up_ne (by decide), mo_up_ne (by decide), cx_addSize_1])
      have hq : q < sp_P (cx_tk (mo_up (mo_up (cx_X5_addSize C p q) 11 p (((cx_X5_addSize C p q).1 11 p) + ((cx_X5_addSize C p q).1 11 q))) 9 p (((cx_X5_addSize C p q).1 9 p) + ((cx_X5_addSize C p q).1 9 q))) p q i) := lvP (C := C) hq (by rw [cx_tk_ne (by decide), mo_up_ne (by decide), mo_up_ne (by decide), cx_addSize_1])
      refine ev_iload_n dX5_takeOver_33 rfl rfl ?_
      refine ev_aload_n dX5_takeOver_34 rfl rfl ?_
      refine cw_getf hE hT dX5_takeOver_35 fX5_36 (k := 20) (i := p) hp ob20 rfl ?_
      refine cw_alenv (n := 5) (v := 5) hE hT dX5_takeOver_38 (k := 21) (i := p) hp ar21 rfl ?_
      refine ev_icmp_ge (tgt := 81) dX5_takeOver_39 (by decide) (fun c_39 => ?_) (fun c_39 => ?_)
      · have e : i = 5 := by have := mo_ige (R := 5) rfl (by omega) (by omega) c_39; omega
        subst e
        refine ev_aload_n dX5_takeOver_81 rfl rfl ?_
        refine cw_call0 (d' := d - 1) hE hT dX5_takeOver_82 rfl kX5_leave lX5_89 iX5_leave vX5_leave (k := 20) (i := q) hq ob20 rfl (Nat.le_of_ble_eq_true rfl) (by omega) (c_X5_leave hE (by omega) hq) (fun g hT => ?_)
        have e9 : cx_X5_takeOver C p q = (cx_X5_leave (cx_tk (mo_up (mo_up (cx_X5_addSize C p q) 11 p (((cx_X5_addSize C p q).1 11 p) + ((cx_X5_addSize C p q).1 11 q))) 9 p (((cx_X5_addSize C p q).1 9 p) + ((cx_X5_addSize C p q).1 9 q))) p q 5) q) := by unfold cx_X5_takeOver; rfl
        exact ev_vret dX5_takeOver_85 rfl ⟨rfl, by rw [e9]; exact hT⟩
      · have hi5 : i < 5 := mo_ilt (R := 5) rfl (by omega) (by omega) c_39
        refine ev_iload_n dX5_takeOver_42 rfl rfl ?_
        refine ev_aload_n dX5_takeOver_43 rfl rfl ?_
        refine cw_getf hE hT dX5_takeOver_44 fX5_36 (k := 20) (i := q) hq ob20 rfl ?_
        refine cw_alenv (n := 5) (v := 5) hE hT dX5_takeOver_47 (k := 21) (i := q) hq ar21 rfl ?_
        refine ev_icmp_ge (tgt := 81) dX5_takeOver_48 (by decide) (fun c_48 => ?_) (fun c_48 => ?_)
        · exact absurd c_48 (nI_ge (b := 5) hi5 (by decide))
        · refine ev_aload_n dX5_takeOver_51 rfl rfl ?_
          refine cw_getf hE hT dX5_takeOver_52 fX5_36 (k := 20) (i := p) hp ob20 rfl ?_
          refine ev_iload_n dX5_takeOver_55 rfl rfl ?_
          refine ev_aload_n dX5_takeOver_56 rfl rfl ?_
          refine cw_getf hE hT dX5_takeOver_57 fX5_36 (k := 20) (i := p) hp ob20 rfl ?_
          refine ev_iload_n dX5_takeOver_60 rfl rfl ?_
          refine cw_ial (q := i) (v := ((cx_tk (mo_up (mo_up (cx_X5_addSize C p q) 11 p (((cx_X5_addSize C p q).1 11 p) + ((cx_X5_addSize C p q).1 11 q))) 9 p (((cx_X5_addSize C p q).1 9 p) + ((cx_X5_addSize C p q).1 9 q))) p q i).1 26 (12 * i + p))) hE hT dX5_takeOver_61 (k := 21) (i := p) hp ar21 rfl hi5 (by decide) rfl ?_
          refine ev_aload_n dX5_takeOver_62 rfl rfl ?_
          refine cw_getf hE hT dX5_takeOver_63 fX5_36 (k := 20) (i := q) hq ob20 rfl ?_
          refine ev_iload_n dX5_takeOver_66 rfl rfl ?_
          refine cw_ial (q := i) (v := ((cx_tk (mo_up (mo_up (cx_X5_addSize C p q) 11 p (((cx_X5_addSize C p q).1 11 p) + ((cx_X5_addSize C p q).1 11 q))) 9 p (((cx_X5_addSize C p q).1 9 p) + ((cx_X5_addSize C p q).1 9 q))) p q i).1 26 (12 * i + q))) hE hT dX5_takeOver_67 (k := 21) (i := q) hq ar21 rfl hi5 (by decide) rfl ?_
          refine ev_iadd dX5_takeOver_68 ?_
          refine ev_bipush (v := 100) dX5_takeOver_69 (by decide) ?_
          refine ev_mmin dX5_takeOver_71 lX5_79 (Nat.le_of_ble_eq_true rfl) (by omega) ?_
          refine cw_ias (q := i) (f := 26) (ix := (12 * i + p)) hE hT dX5_takeOver_74 (k := 21) (i := p) hp ar21 rfl hi5 (by decide) (by show (21, (12 * i + p) % 12) = (21, p); rw [Nat.mul_add_mod, Nat.mod_eq_of_lt hp12]) (by decide) (by decide) (pa21 (i := p)) (fun g hT => ?_)
          refine ev_iinc (v := (nI (i + 1))) dX5_takeOver_75 rfl (nI_1 i) rfl ?_
          refine ev_goto (tgt := 33) dX5_takeOver_78 (by decide) ?_
          exact ih (i + 1) (by omega) (by omega) g hT
  exact loop (5 + 1) 0 (by omega) (by omega)  g hT
end CM7
