section CM7
/-- n cells hold v -/
def cx_fl (C : mo_S) (f : Nat) (e : Nat → Nat) (v : Int32) : Nat → mo_S
  | 0 => C
  | n + 1 => mo_up (cx_fl C f e v n) f (e n) v
theorem cx_fl_ne {C : mo_S} {f k : Nat} {e : Nat → Nat} {v : Int32} (h : k ≠ f) : ∀ n, (cx_fl C f e v n).1 k = C.1 k
  | 0 => rfl
  | n + 1 => by rw [cx_fl, mo_up_ne h, cx_fl_ne h n]
theorem cx_fl_2 {C : mo_S} {f : Nat} {e : Nat → Nat} {v : Int32} : ∀ n, (cx_fl C f e v n).2 = C.2
  | 0 => rfl
  | n + 1 => cx_fl_2 n
theorem cx_fl_no {C : mo_S} {f x : Nat} {e : Nat → Nat} {v : Int32} : ∀ n, (∀ j, j < n → e j ≠ x) → (cx_fl C f e v n).1 f x = C.1 f x
  | 0, _ => rfl
  | n + 1, h => by
    rw [cx_fl, mo_up_at, pk_un (fun q => h n (by omega) q.symm)]
    exact cx_fl_no n (fun j hj => h j (by omega))
theorem cx_fl_at {C : mo_S} {f : Nat} {e : Nat → Nat} {v : Int32} : ∀ n j, j < n → (cx_fl C f e v n).1 f (e j) = v
  | 0, _, h => absurd h (by omega)
  | n + 1, j, h => by
    rw [cx_fl, mo_up_at]
    by_cases q : e j = e n
    · rw [q, pk_us]
    · rw [pk_un q]
      exact cx_fl_at n j (by
        rcases Nat.lt_or_ge j n with r | r
        · exact r
        · exact absurd (by rw [show j = n by omega]) q)
theorem sp_P_cg {T C : mo_S} (h : T.1 1 = C.1 1) : sp_P T = sp_P C := congrArg (fun z => (z 0).toNatClampNeg) h
theorem sp_R_cg {T C : mo_S} (h : T.1 21 = C.1 21) : sp_R T = sp_R C := congrArg (fun z => (z 0).toNatClampNeg) h
theorem sp_A_cg {T C : mo_S} (h : T.1 62 = C.1 62) : sp_A T = sp_A C := congrArg (fun z => (z 0).toNatClampNeg) h
theorem sp_O_cg {T C : mo_S} (h : T.1 29 = C.1 29) : sp_O T = sp_O C := congrArg (fun z => (z 0).toNatClampNeg) h
theorem lvP {T C : mo_S} {p : Nat} (h : p < sp_P C) (e : T.1 1 = C.1 1) : p < sp_P T := by rw [sp_P_cg e]; exact h
theorem lvR {T C : mo_S} {p : Nat} (h : p < sp_R C) (e : T.1 21 = C.1 21) : p < sp_R T := by rw [sp_R_cg e]; exact h
section RS
variable {G : ev_G} {d bc bs D0 : Nat} {M : ev_M} {Post : ev_P} {g : ev_H} {pc : Nat} {lv : List (Option Value)} {st : List Value}
variable {K : Nat → Prop} {g0 : ev_H} {W : cw_W} {C : mo_S}
theorem cw_fill {index k i n f : Nat} {e : Nat → Nat} {v : Int32} (hE : ev_En G) (hT : cw_T G K g0 W g C) (hd : decode M.2.1 pc = .ok (.invokestatic index, 3)) (hl1 : Cond.methodLink M.1.cls index yJ7_fill_53178 ∈ ev_T) (hl : cw_lv C k i) (ha : ∀ T : mo_S, cw_ar T k i = some (n, fun j => T.1 f (e j))) (hn : n < 1000000) (hA : k ∈ cw_AL) (hf : f ∉ cw_S) (ho : ∀ j, j < n → cw_ow f (e j) = (k, i)) (hr : (st.map fun v => v.category).sum ≤ 8) (hdd : 1 ≤ d) (kk : ∀ g', cw_T G K g0 W g' (cx_fl C f e v n) → ev_V G d bc bs M Post g' (pc + 3) lv st) : ev_V G d bc bs M Post g pc lv (.int v :: .ref (W k i) :: st) := by
  obtain ⟨f0, a1, a2⟩ := (hT.at hl).2.1 _ _ (ha C)
  refine ev_callS (d' := d - 1) (b := bc) (k0 := bs) (ci := 0) (r := 0) (fs := []) (As := [.ref (W k i), .int v]) hd rfl kJ7_fill_53178 rfl hl1 sJ7_fill_53178 hr (by omega) (c_fill hE a1 hn) (Nat.le_refl _) (Nat.le_refl _) (fun v2 g' h => ?_) (fun E g' h => by cases h.1)
  obtain ⟨h1, f', rfl, h2⟩ := h
  cases h1
  refine kk _ (hT.set hl (fun f2 hf2 => cx_fl_ne (fun q => hf (by rw [← q]; exact hf2)) n) (fun f2 x hne => ?_) (fun _ => cx_fl_2 n) (cw_at_ar hA (ha _) ⟨f', ev_up_s _ _ _, fun j hj => ?_⟩))
  · by_cases q : f2 = f
    · subst q
      exact cx_fl_no n (fun j hj hq => hne (by rw [← hq]; exact ho j hj))
    · rw [cx_fl_ne q n]
  · show f' j = (cx_fl C f e v n).1 f (e j)
    rw [h2 j hj, cx_fl_at n j hj]
end RS
def cx_X5_forgetSwaps (C : mo_S) (p : Nat) : mo_S :=
  (cx_fl C 58 (fun j => 12 * p + j) 0 12)
theorem c_X5_forgetSwaps {G : ev_G} {W : cw_W} {d : Nat} {C : mo_S} {p : Nat} (hE : ev_En G) (hd : 1 ≤ d) (hp : p < sp_P C) : cw_C G W d mX5_forgetSwaps [.ref (W 20 p)] C none (cx_X5_forgetSwaps C p) := by
  refine cw_start (lv0 := [some (.ref (W 20 p))]) (by decide +kernel) rfl (Nat.le_of_ble_eq_true rfl) rfl ?_
  intro K g0 g hT
  refine ev_aload_n dX5_forgetSwaps_0 rfl rfl ?_
  refine cw_getf hE hT dX5_forgetSwaps_1 fX5_40 (k := 20) (i := p) hp ob20 rfl ?_
  refine ev_iconst (v := 0) dX5_forgetSwaps_4 (by decide) ?_
  refine cw_fill (k := 22) (i := p) (n := 12) (f := 58) (e := fun j => 12 * p + j) hE hT dX5_forgetSwaps_5 lX5_72 hp (fun _ => ar22) (by decide) (by decide) (by decide) (fun j hj => by show (22, (12 * p + j) / 12) = (22, p); rw [Nat.mul_add_div (by decide), Nat.div_eq_of_lt hj]; rfl) (Nat.le_of_ble_eq_true rfl) (by omega) (fun g hT => ?_)
  have e9 : cx_X5_forgetSwaps C p = (cx_fl C 58 (fun j => 12 * p + j) 0 12) := by unfold cx_X5_forgetSwaps; rfl
  exact ev_vret dX5_forgetSwaps_8 rfl ⟨rfl, by rw [e9]; exact hT⟩
def cx_X5_leave (C : mo_S) (p : Nat) : mo_S :=
  (cx_fl (mo_up (mo_up (mo_up (mo_up (mo_up (mo_up C 12 p 2) 4 p 0) 5 p 0) 10 p 0) 11 p 0) 9 p 0) 26 (fun j => 12 * j + p) 0 5)
theorem c_X5_leave {G : ev_G} {W : cw_W} {d : Nat} {C : mo_S} {p : Nat} (hE : ev_En G) (hd : 1 ≤ d) (hp : p < sp_P C) : cw_C G W d mX5_leave [.ref (W 20 p)] C none (cx_X5_leave C p) := by
  refine cw_start (lv0 := [some (.ref (W 20 p))]) (by decide +kernel) rfl (Nat.le_of_ble_eq_true rfl) rfl ?_
  intro K g0 g hT
  have hp12 : p < 12 := by have := hT.B.1.2; omega
  refine ev_aload_n dX5_leave_0 rfl rfl ?_
  refine ev_iconst (v := 2) dX5_leave_1 (by decide) ?_
  refine cw_putf (k := 20) (i := p) (f := 12) (x := p) hE hT dX5_leave_2 pX5_24 hp ob20 (Nat.le_of_ble_eq_true rfl) rfl rfl rfl (by decide) (by decide) pu20_9 (fun g hT => ?_)
  refine ev_aload_n dX5_leave_5 rfl rfl ?_
  refine ev_iconst (v := 0) dX5_leave_6 (by decide) ?_
  refine cw_putf (k := 20) (i := p) (f := 4) (x := p) hE hT dX5_leave_7 pX5_60 hp ob20 (Nat.le_of_ble_eq_true rfl) rfl rfl rfl (by decide) (by decide) pu20_1 (fun g hT => ?_)
  refine ev_aload_n dX5_leave_10 rfl rfl ?_
  refine ev_iconst (v := 0) dX5_leave_11 (by decide) ?_
  refine cw_putf (k := 20) (i := p) (f := 5) (x := p) hE hT dX5_leave_12 pX5_63 hp ob20 (Nat.le_of_ble_eq_true rfl) rfl rfl rfl (by decide) (by decide) pu20_2 (fun g hT => ?_)
  refine ev_aload_n dX5_leave_15 rfl rfl ?_
  refine ev_iconst (v := 0) dX5_leave_16 (by decide) ?_
  refine cw_putf (k := 20) (i := p) (f := 10) (x := p) hE hT dX5_leave_17 pX5_18 hp ob20 (Nat.le_of_ble_eq_true rfl) rfl rfl rfl (by decide) (by decide) pu20_7 (fun g hT => ?_)
  refine ev_aload_n dX5_leave_20 rfl rfl ?_
  refine ev_iconst (v := 0) dX5_leave_21 (by decide) ?_
  refine cw_putf (k := 20) (i := p) (f := 11) (x := p) hE hT dX5_leave_22 pX5_21 hp ob20 (Nat.le_of_ble_eq_true rfl) rfl rfl rfl (by decide) (by decide) pu20_8 (fun g hT => ?_)
  refine ev_aload_n dX5_leave_25 rfl rfl ?_
  refine ev_iconst (v := 0) dX5_leave_26 (by decide) ?_
  refine cw_putf (k := 20) (i := p) (f := 9) (x := p) hE hT dX5_leave_27 pX5_15 hp ob20 (Nat.le_of_ble_eq_true rfl) rfl rfl rfl (by decide) (by decide) pu20_6 (fun g hT => ?_)
  refine ev_aload_n dX5_leave_30 rfl rfl ?_
  refine cw_getf hE hT dX5_leave_31 fX5_36 (k := 20) (i := p) hp ob20 rfl ?_
  refine ev_iconst (v := 0) dX5_leave_34 (by decide) ?_
  refine cw_fill (k := 21) (i := p) (n := 5) (f := 26) (e := fun j => 12 * j + p) hE hT dX5_leave_35 lX5_72 hp (fun _ => ar21) (by decide) (by decide) (by decide) (fun j hj => by show (21, (12 * j + p) % 12) = (21, p); rw [Nat.mul_add_mod, Nat.mod_eq_of_lt hp12]) (Nat.le_of_ble_eq_true rfl) (by omega) (fun g hT => ?_)
  have e9 : cx_X5_leave C p = (cx_fl (mo_up (mo_up (mo_up (mo_up (mo_up (mo_up C 12 p 2) 4 p 0) 5 p 0) 10 p 0) 11 p 0) 9 p 0) 26 (fun j => 12 * j + p) 0 5) := by unfold cx_X5_leave; rfl
  exact ev_vret dX5_leave_38 rfl ⟨rfl, by rw [e9]; exact hT⟩
theorem cx_addSize_1 {C : mo_S} {p q : Nat} : (cx_X5_addSize C p q).1 1 = C.1 1 := by
  unfold cx_X5_addSize
  simp only [mo_up_ne (show (1 : Nat) ≠ 4 by decide), mo_up_ne (show (1 : Nat) ≠ 5 by decide), mo_up_ne (show (1 : Nat) ≠ 10 by decide)]
def cx_tk (C : mo_S) (p q : Nat) : Nat → mo_S
  | 0 => C
  | n + 1 => mo_up (cx_tk C p q n) 26 (12 * n + p) (cj_min ((cx_tk C p q n).1 26 (12 * n + p) + (cx_tk C p q n).1 26 (12 * n + q)) 100)
theorem cx_tk_ne {C : mo_S} {p q k : Nat} (h : k ≠ 26) : ∀ n, (cx_tk C p q n).1 k = C.1 k
  | 0 => rfl
  | n + 1 => by rw [cx_tk, mo_up_ne h, cx_tk_ne h n]
def cx_X5_takeOver (C : mo_S) (p : Nat) (q : Nat) : mo_S :=
  (cx_X5_leave (cx_tk (mo_up (mo_up (cx_X5_addSize C p q) 11 p (((cx_X5_addSize C p q).1 11 p) + ((cx_X5_addSize C p q).1 11 q))) 9 p (((cx_X5_addSize C p q).1 9 p) + ((cx_X5_addSize C p q).1 9 q))) p q 5) q)
theorem c_X5_takeOver {G : ev_G} {W : cw_W} {d : Nat} {C : mo_S} {p : Nat} {q : Nat} (hE : ev_En G) (hd : 2 ≤ d) (hp : p < sp_P C) (hq : q < sp_P C) : cw_C G W d mX5_takeOver [.ref (W 20 p), .ref (W 20 q)] C none (cx_X5_takeOver C p q) := by
  refine cw_start (lv0 := [some (.ref (W 20 p)), some (.ref (W 20 q)), none]) (by decide +kernel) rfl (Nat.le_of_ble_eq_true rfl) rfl ?_
  intro K g0 g hT
  have hp12 : p < 12 := by have := hT.B.1.2; omega
  refine ev_aload_n dX5_takeOver_0 rfl rfl ?_
  refine ev_aload_n dX5_takeOver_1 rfl rfl ?_
  refine cw_call1 (d' := d - 1) hE hT dX5_takeOver_2 rfl kX5_addSize lX5_85 iX5_addSize vX5_addSize (k := 20) (i := p) hp ob20 rfl (Nat.le_of_ble_eq_true rfl) (by omega) (c_X5_addSize hE (by omega) hp hq) (fun g hT => ?_)
  refine ev_aload_n dX5_takeOver_5 rfl rfl ?_
  refine ev_dup dX5_takeOver_6 rfl ?_
  refine cw_getf hE hT dX5_takeOver_7 fX5_21 (k := 20) (i := p) hp ob20 rfl ?_
  refine ev_aload_n dX5_takeOver_10 rfl rfl ?_
  refine cw_getf hE hT dX5_takeOver_11 fX5_21 (k := 20) (i := q) hq ob20 rfl ?_
  refine ev_iadd dX5_takeOver_14 ?_
  refine cw_putf (k := 20) (i := p) (f := 11) (x := p) hE hT dX5_takeOver_15 pX5_21 hp ob20 (Nat.le_of_ble_eq_true rfl) rfl rfl rfl (by decide) (by decide) pu20_8 (fun g hT => ?_)
  refine ev_aload_n dX5_takeOver_18 rfl rfl ?_
  refine ev_dup dX5_takeOver_19 rfl ?_
  refine cw_geti (v2 := ((cx_X5_addSize C p q).1 9 p)) hE hT dX5_takeOver_20 fX5_15 (k := 20) (i := p) hp ob20 rfl (by rw [mo_up_ne (by decide)]) ?_
  refine ev_aload_n dX5_takeOver_23 rfl rfl ?_
  refine cw_geti (v2 := ((cx_X5_addSize C p q).1 9 q)) hE hT dX5_takeOver_24 fX5_15 (k := 20) (i := q) hq ob20 rfl (by rw [mo_up_ne (by decide)]) ?_
  refine ev_iadd dX5_takeOver_27 ?_
  refine cw_putf (k := 20) (i := p) (f := 9) (x := p) hE hT dX5_takeOver_28 pX5_15 hp ob20 (Nat.le_of_ble_eq_true rfl) rfl rfl rfl (by decide) (by decide) pu20_6 (fun g hT => ?_)
  refine ev_iconst (v := 0) dX5_takeOver_31 (by decide) ?_
  refine ev_istore_n dX5_takeOver_32 rfl (Nat.le_of_ble_eq_true rfl) rfl ?_
  have loop : ∀ (n i : Nat), i ≤ 5 → 5 < i + n → ∀ g, cw_T G K g0 W g (cx_tk (mo_up (mo_up (cx_X5_addSize C p q) 11 p (((cx_X5_addSize C p q).1 11 p) + ((cx_X5_addSize C p q).1 11 q))) 9 p (((cx_X5_addSize C p q).1 9 p) + ((cx_X5_addSize C p q).1 9 q))) p q i) → ev_V G d 0 0 mX5_takeOver (fun o g' => o = .inl none ∧ cw_T G K g0 W g' (cx_X5_takeOver C p q)) g 33 [some (.ref (W 20 p)), some (.ref (W 20 q)), some (.int (nI i))] [] := by
    intro n
    induction n with
    | zero => intro i h1 h2; exact absurd h2 (by omega)
    | succ n ih =>
      intro i h1 h2   g hT
      have hp : p < sp_P (cx_tk (mo_up (mo_up (cx_X5_addSize C p q) 11 p (((cx_X5_addSize C p q).1 11 p) + ((cx_X5_addSize C p q).1 11 q))) 9 p (((cx_X5_addSize C p q).1 9 p) + ((cx_X5_addSize C p q).1 9 q))) p q i) := lvP (C := C) hp (by rw [cx_tk_ne (by decide), mo_up_ne (by decide), mo_up_ne (by decide), cx_addSize_1])
      have hq : q < sp_P (cx_tk (mo_up (mo_up (cx_X5_addSize C p q) 11 p (((cx_X5_addSize C p q).1 11 p) + ((cx_X5_addSize C p q).1 11 q))) 9 p (((cx_X5_addSize C p q).1 9 p) + ((cx_X5_addSize C p q).1 9 q))) p q i) := lvP (C := C) hq (by rw [cx_tk_ne (by decide), mo_up_ne (by decide), mo_up_ne (by decide), cx_addSize_1])
      refine ev_iload_n dX5_takeOver_33 rfl rfl ?_
      refine ev_aload_n dX5_takeOver_34 rfl rfl ?_
      refine cw_getf hE hT dX5_takeOver_35 fX5_36 (k := 20) (i := p) hp ob20 rfl ?_
      refine cw_alenv (n := 5) (v := 5) hE hT dX5_takeOver_38 (k := 21) (i := p) hp ar21 rfl ?_
      refine ev_icmp_ge (tgt := 81) dX5_takeOver_39 (by decide) (fun c_39 => ?_) (fun c_39 => ?_)
      · have e : i = 5 := by have := mo_ige (R := 5) rfl (by omega) (by omega) c_39; omega
        subst e
        refine ev_aload_n dX5_takeOver_81 rfl rfl ?_
        refine cw_call0 (d' := d - 1) hE hT dX5_takeOver_82 rfl kX5_leave lX5_89 iX5_leave vX5_leave (k := 20) (i := q) hq ob20 rfl (Nat.le_of_ble_eq_true rfl) (by omega) (c_X5_leave hE (by omega) hq) (fun g hT => ?_)
        have e9 : cx_X5_takeOver C p q = (cx_X5_leave (cx_tk (mo_up (mo_up (cx_X5_addSize C p q) 11 p (((cx_X5_addSize C p q).1 11 p) + ((cx_X5_addSize C p q).1 11 q))) 9 p (((cx_X5_addSize C p q).1 9 p) + ((cx_X5_addSize C p q).1 9 q))) p q 5) q) := by unfold cx_X5_takeOver; rfl
        exact ev_vret dX5_takeOver_85 rfl ⟨rfl, by rw [e9]; exact hT⟩
      · have hi5 : i < 5 := mo_ilt (R := 5) rfl (by omega) (by omega) c_39
        refine ev_iload_n dX5_takeOver_42 rfl rfl ?_
        refine ev_aload_n dX5_takeOver_43 rfl rfl ?_
        refine cw_getf hE hT dX5_takeOver_44 fX5_36 (k := 20) (i := q) hq ob20 rfl ?_
        refine cw_alenv (n := 5) (v := 5) hE hT dX5_takeOver_47 (k := 21) (i := q) hq ar21 rfl ?_
        refine ev_icmp_ge (tgt := 81) dX5_takeOver_48 (by decide) (fun c_48 => ?_) (fun c_48 => ?_)
        · exact absurd c_48 (nI_ge (b := 5) hi5 (by decide))
        · refine ev_aload_n dX5_takeOver_51 rfl rfl ?_
          refine cw_getf hE hT dX5_takeOver_52 fX5_36 (k := 20) (i := p) hp ob20 rfl ?_
          refine ev_iload_n dX5_takeOver_55 rfl rfl ?_
          refine ev_aload_n dX5_takeOver_56 rfl rfl ?_
          refine cw_getf hE hT dX5_takeOver_57 fX5_36 (k := 20) (i := p) hp ob20 rfl ?_
          refine ev_iload_n dX5_takeOver_60 rfl rfl ?_
          refine cw_ial (q := i) (v := ((cx_tk (mo_up (mo_up (cx_X5_addSize C p q) 11 p (((cx_X5_addSize C p q).1 11 p) + ((cx_X5_addSize C p q).1 11 q))) 9 p (((cx_X5_addSize C p q).1 9 p) + ((cx_X5_addSize C p q).1 9 q))) p q i).1 26 (12 * i + p))) hE hT dX5_takeOver_61 (k := 21) (i := p) hp ar21 rfl hi5 (by decide) rfl ?_
          refine ev_aload_n dX5_takeOver_62 rfl rfl ?_
          refine cw_getf hE hT dX5_takeOver_63 fX5_36 (k := 20) (i := q) hq ob20 rfl ?_
          refine ev_iload_n dX5_takeOver_66 rfl rfl ?_
          refine cw_ial (q := i) (v := ((cx_tk (mo_up (mo_up (cx_X5_addSize C p q) 11 p (((cx_X5_addSize C p q).1 11 p) + ((cx_X5_addSize C p q).1 11 q))) 9 p (((cx_X5_addSize C p q).1 9 p) + ((cx_X5_addSize C p q).1 9 q))) p q i).1 26 (12 * i + q))) hE hT dX5_takeOver_67 (k := 21) (i := q) hq ar21 rfl hi5 (by decide) rfl ?_
          refine ev_iadd dX5_takeOver_68 ?_
          refine ev_bipush (v := 100) dX5_takeOver_69 (by decide) ?_
          refine ev_mmin dX5_takeOver_71 lX5_79 (Nat.le_of_ble_eq_true rfl) (by omega) ?_
          refine cw_ias (q := i) (f := 26) (ix := (12 * i + p)) hE hT dX5_takeOver_74 (k := 21) (i := p) hp ar21 rfl hi5 (by decide) (by show (21, (12 * i + p) % 12) = (21, p); rw [Nat.mul_add_mod, Nat.mod_eq_of_lt hp12]) (by decide) (by decide) (pa21 (i := p)) (fun g hT => ?_)
          refine ev_iinc (v := (nI (i + 1))) dX5_takeOver_75 rfl (nI_1 i) rfl ?_
          refine ev_goto (tgt := 33) dX5_takeOver_78 (by decide) ?_
          exact ih (i + 1) (by omega) (by omega) g hT
  exact loop (5 + 1) 0 (by omega) (by omega)  g hT
theorem cx_takeOver_ne {C : mo_S} {p q k : Nat} (h4 : k ≠ 4) (h5 : k ≠ 5) (h9 : k ≠ 9) (h10 : k ≠ 10) (h11 : k ≠ 11) (h12 : k ≠ 12) (h26 : k ≠ 26) : (cx_X5_takeOver C p q).1 k = C.1 k := by
  unfold cx_X5_takeOver cx_X5_leave cx_X5_addSize
  simp only [mo_up_ne h4, mo_up_ne h5, mo_up_ne h9, mo_up_ne h10, mo_up_ne h11, mo_up_ne h12, cx_fl_ne h26, cx_tk_ne h26]
def cx_al (C : mo_S) (a : Nat) : Nat → Int32 × Int32
  | 0 => (-1, 0)
  | n + 1 => if cx_X0_isGranted C n = true then (if (cx_al C a n).1 = -1 then (nI n, cx_X0_farFrom C a n) else if (cx_al C a n).2 < cx_X0_farFrom C a n then cx_al C a n else (nI n, cx_X0_farFrom C a n)) else cx_al C a n
def cx_X11_merge (C : mo_S) (x1 : Int32) (x2 : Int32) : cx_Out :=
  (if sp_in x1 0 (C.1 1 0 - 1) = true then (if sp_in x2 0 (C.1 1 0 - 1) = true then (if (mo_b (cx_X11_areTwoAdmitted C (x1).toNatClampNeg (x2).toNatClampNeg)) = 0 then ((.inr ((-1))), C) else ((.inr (1)), (sp_mgR (cx_X5_takeOver C (x1).toNatClampNeg (x2).toNatClampNeg) (x1).toNatClampNeg (x2).toNatClampNeg (sp_R C)))) else ((.inl "java/lang/IndexOutOfBoundsException"), C)) else ((.inl "java/lang/IndexOutOfBoundsException"), C))
theorem c_X11_merge {G : ev_G} {W : cw_W} {d D0 : Nat} {C : mo_S} {x1 : Int32} {x2 : Int32} (hE : ev_En G) (h4 : ev_En4 G D0) (hd : 7 ≤ d) : cw_P G W d 1 8 mX11_merge [.ref (W 0 0), .int x1, .int x2] C (cx_X11_merge C x1 x2) := by
  refine cw_startR (lv0 := [some (.ref (W 0 0)), some (.int x1), some (.int x2), none, none, none, none]) (by decide +kernel) rfl (Nat.le_of_ble_eq_true rfl) rfl ?_
  intro K g0 g hT
  have hBP := hT.B.1
  have hBR := hT.B.2.1
  have hBA := hT.B.2.2.2.1
  refine ev_aload_n dX11_merge_0 rfl rfl ?_
  refine ev_iload_n dX11_merge_1 rfl rfl ?_
  refine cw_paperAt hE h4 rfl hT dX11_merge_2 lX11_109 (Nat.le_of_ble_eq_true rfl) (by omega) (by decide) (by decide) (fun c_2 g hT => ?_) (fun q9 c_2 e_2 u_2 hP2 g hT => ?_)
  · have e9 : cx_X11_merge C x1 x2 = ((.inl "java/lang/IndexOutOfBoundsException"), C) := by unfold cx_X11_merge; rw [if_neg (cl_nf c_2)]
    exact ⟨W, (cx_X11_merge C x1 x2).2, ⟨rfl, by rw [e9]; rfl, rfl⟩, by rw [e9]; exact hT⟩
  subst u_2
  refine ev_astore_n dX11_merge_5 rfl (Nat.le_of_ble_eq_true rfl) rfl ?_
  refine ev_aload_n dX11_merge_6 rfl rfl ?_
  refine ev_iload_n dX11_merge_7 rfl rfl ?_
  refine cw_paperAt hE h4 rfl hT dX11_merge_8 lX11_109 (Nat.le_of_ble_eq_true rfl) (by omega) (by decide) (by decide) (fun c_8 g hT => ?_) (fun q9 c_8 e_8 u_8 hP8 g hT => ?_)
  · have e9 : cx_X11_merge C x1 x2 = ((.inl "java/lang/IndexOutOfBoundsException"), C) := by unfold cx_X11_merge; rw [if_pos c_2, if_neg (cl_nf c_8)]
    exact ⟨W, (cx_X11_merge C x1 x2).2, ⟨rfl, by rw [e9]; rfl, rfl⟩, by rw [e9]; exact hT⟩
  subst u_8
  refine ev_astore dX11_merge_11 (Nat.le_of_ble_eq_true rfl) rfl ?_
  refine ev_aload_n dX11_merge_13 rfl rfl ?_
  refine ev_iload_n dX11_merge_14 rfl rfl ?_
  refine ev_iload_n dX11_merge_15 rfl rfl ?_
  refine cw_call2 (d' := d - 1) hE hT dX11_merge_16 rfl kX11_areTwoAdmitted lX11_246 iX11_areTwoAdmitted vX11_areTwoAdmitted (k := 0) (i := 0) rfl ob0 rfl (Nat.le_of_ble_eq_true rfl) (by omega) (by have w9 := (c_X11_areTwoAdmitted (W := W) (d := d - 1) (C := C) (p := (x1).toNatClampNeg) (q := (x2).toNatClampNeg) hE (by omega) hP2 hP8); rw [← e_2] at w9; rw [← e_8] at w9; exact w9) (fun g hT => ?_)
  refine ev_if_ne (tgt := 24) dX11_merge_19 (by decide) (fun c_19 => ?_) (fun c_19 => ?_)
  · refine ev_aload_n dX11_merge_24 rfl rfl ?_
    refine ev_aload dX11_merge_25 rfl ?_
    refine cw_call1 (d' := d - 1) hE hT dX11_merge_27 rfl kX5_takeOver lX11_256 iX5_takeOver vX5_takeOver (k := 20) (i := (x1).toNatClampNeg) hP2 ob20 rfl (Nat.le_of_ble_eq_true rfl) (by omega) (c_X5_takeOver hE (by omega) hP2 hP8) (fun g hT => ?_)
    refine ev_iconst (v := 0) dX11_merge_30 (by decide) ?_
    refine ev_istore dX11_merge_31 (Nat.le_of_ble_eq_true rfl) rfl ?_
    have loop : ∀ (n i : Nat), i ≤ (sp_R C) → (sp_R C) < i + n → ∀ g, cw_T G K g0 W g (sp_mgR (cx_X5_takeOver C (x1).toNatClampNeg (x2).toNatClampNeg) (x1).toNatClampNeg (x2).toNatClampNeg i) → ev_V G d 1 8 mX11_merge (fun o g' => ∃ W2 C2, (W2 = W ∧ o = cx_o (cx_X11_merge C x1 x2).1 ∧ C2 = (cx_X11_merge C x1 x2).2) ∧ cw_T G K g0 W2 g' C2) g 33 [some (.ref (W 0 0)), some (.int x1), some (.int x2), some (.ref (W 20 (x1).toNatClampNeg)), some (.ref (W 20 (x2).toNatClampNeg)), some (.int (nI i)), none] [] := by
      intro n
      induction n with
      | zero => intro i h1 h2; exact absurd h2 (by omega)
      | succ n ih =>
        intro i h1 h2   g hT
        have hR9 : (sp_mgR (cx_X5_takeOver C (x1).toNatClampNeg (x2).toNatClampNeg) (x1).toNatClampNeg (x2).toNatClampNeg i).1 21 = C.1 21 := by rw [sp_mgR_ne (by decide), cx_takeOver_ne (by decide) (by decide) (by decide) (by decide) (by decide) (by decide) (by decide)]
        have hR8 : (sp_mgR (cx_X5_takeOver C (x1).toNatClampNeg (x2).toNatClampNeg) (x1).toNatClampNeg (x2).toNatClampNeg i).1 21 0 = nI (sp_R C) := by rw [hR9]; exact hBR.1
        refine ev_iload dX11_merge_33 rfl ?_
        refine ev_aload_n dX11_merge_35 rfl rfl ?_
        refine cw_getf hE hT dX11_merge_36 fX11_16 (k := 0) (i := 0) rfl ob0 rfl ?_
        refine cw_size (l := 1) (v := ((sp_mgR (cx_X5_takeOver C (x1).toNatClampNeg (x2).toNatClampNeg) (x1).toNatClampNeg (x2).toNatClampNeg i).1 21 0)) hE hT dX11_merge_39 lX11_89 (by decide) (Nat.le_of_ble_eq_true rfl) (by omega) rfl ?_
        refine ev_icmp_ge (tgt := 80) dX11_merge_42 (by decide) (fun c_42 => ?_) (fun c_42 => ?_)
        · have e : i = sp_R C := by have := mo_ige hR8 (by omega) (by omega) c_42; omega
          subst e
          refine ev_iconst (v := 1) dX11_merge_80 (by decide) ?_
          have e9 : cx_X11_merge C x1 x2 = ((.inr (1)), (sp_mgR (cx_X5_takeOver C (x1).toNatClampNeg (x2).toNatClampNeg) (x1).toNatClampNeg (x2).toNatClampNeg (sp_R C))) := by unfold cx_X11_merge; rw [if_pos c_2, if_pos c_8, if_neg c_19]
          exact ev_iret dX11_merge_81 rfl rfl ⟨W, (cx_X11_merge C x1 x2).2, ⟨rfl, by rw [e9]; rfl, rfl⟩, by rw [e9]; exact hT⟩
        · have hi9 : i < sp_R C := mo_ilt hR8 (by omega) (by omega) c_42
          have hi8 := lvR hi9 hR9
          refine ev_aload_n dX11_merge_45 rfl rfl ?_
          refine cw_getf hE hT dX11_merge_46 fX11_16 (k := 0) (i := 0) rfl ob0 rfl ?_
          refine ev_iload dX11_merge_49 rfl ?_
          refine cw_get (l := 1) (q := i) hE hT dX11_merge_51 lX11_138 (by decide) rfl hi8 (Nat.le_of_ble_eq_true rfl) (by omega) ?_
          refine ev_cast hE dX11_merge_54 lkX11_128 ((hT.at (k := 27) (i := i) hi8).1 _ _ ob27) rfl ?_
          refine ev_astore dX11_merge_57 (Nat.le_of_ble_eq_true rfl) rfl ?_
          refine ev_aload dX11_merge_59 rfl ?_
          refine cw_getf hE hT dX11_merge_61 fX11_135 (k := 27) (i := i) hi8 ob27 rfl ?_
          refine ev_iload_n dX11_merge_64 rfl rfl ?_
          refine ev_icmp_ne (tgt := 74) dX11_merge_65 (by decide) (fun c_65 => ?_) (fun c_65 => ?_)
          · refine ev_iinc (v := (nI (i + 1))) dX11_merge_74 rfl (nI_1 i) rfl ?_
            refine ev_goto (tgt := 33) dX11_merge_77 (by decide) ?_
            refine ev_none 6 ?_
            first
              | exact ih (i + 1) (by omega) (by omega) g (by rw [sp_mgR, if_pos (c_65.trans e_8), ← e_2]; exact hT)
              | exact ih (i + 1) (by omega) (by omega) g (by rw [sp_mgR, if_neg (fun h => c_65 (h.trans e_8.symm))]; exact hT)
          · refine ev_aload dX11_merge_68 rfl ?_
            refine ev_iload_n dX11_merge_70 rfl rfl ?_
            refine cw_putf (k := 27) (i := i) (f := 23) (x := i) hE hT dX11_merge_71 pX11_135 hi8 ob27 (Nat.le_of_ble_eq_true rfl) rfl rfl rfl (by decide) (by decide) pu27_1 (fun g hT => ?_)
            refine ev_iinc (v := (nI (i + 1))) dX11_merge_74 rfl (nI_1 i) rfl ?_
            refine ev_goto (tgt := 33) dX11_merge_77 (by decide) ?_
            refine ev_none 6 ?_
            first
              | exact ih (i + 1) (by omega) (by omega) g (by rw [sp_mgR, if_pos (c_65.trans e_8), ← e_2]; exact hT)
              | exact ih (i + 1) (by omega) (by omega) g (by rw [sp_mgR, if_neg (fun h => c_65 (h.trans e_8.symm))]; exact hT)
    exact loop ((sp_R C) + 1) 0 (by omega) (by omega)  g hT
  · refine ev_iconst (v := (-1)) dX11_merge_22 (by decide) ?_
    have e9 : cx_X11_merge C x1 x2 = ((.inr ((-1))), C) := by unfold cx_X11_merge; rw [if_pos c_2, if_pos c_8, if_pos c_19]
    exact ev_iret dX11_merge_23 rfl rfl ⟨W, (cx_X11_merge C x1 x2).2, ⟨rfl, by rw [e9]; rfl, rfl⟩, by rw [e9]; exact hT⟩
def cx_X11_alike (C : mo_S) (x1 : Int32) : cx_Out :=
  (if sp_in x1 0 (C.1 62 0 - 1) = true then ((.inr ((cx_al C (x1).toNatClampNeg (x1).toNatClampNeg).1)), C) else ((.inl "java/lang/IndexOutOfBoundsException"), C))
theorem c_X11_alike {G : ev_G} {W : cw_W} {d D0 : Nat} {C : mo_S} {x1 : Int32} (hE : ev_En G) (h4 : ev_En4 G D0) (hd : 7 ≤ d) (hA : ∀ a, a < sp_A C → (C.1 63 a).toNatClampNeg < sp_P C) : cw_P G W d 1 8 mX11_alike [.ref (W 0 0), .int x1] C (cx_X11_alike C x1) := by
  refine cw_startR (lv0 := [some (.ref (W 0 0)), some (.int x1), none, none, none, none, none, none]) (by decide +kernel) rfl (Nat.le_of_ble_eq_true rfl) rfl ?_
  intro K g0 g hT
  have hBP := hT.B.1
  have hBR := hT.B.2.1
  have hBA := hT.B.2.2.2.1
  refine ev_aload_n dX11_alike_0 rfl rfl ?_
  refine ev_iload_n dX11_alike_1 rfl rfl ?_
  refine cw_appealAt hE h4 rfl hT dX11_alike_2 lX11_291 (Nat.le_of_ble_eq_true rfl) (by omega) (by decide) (by decide) (fun c_2 g hT => ?_) (fun q9 c_2 e_2 u_2 hA2 g hT => ?_)
  · have e9 : cx_X11_alike C x1 = ((.inl "java/lang/IndexOutOfBoundsException"), C) := by unfold cx_X11_alike; rw [if_neg (cl_nf c_2)]
    exact ⟨W, (cx_X11_alike C x1).2, ⟨rfl, by rw [e9]; rfl, rfl⟩, by rw [e9]; exact hT⟩
  subst u_2
  refine ev_astore_n dX11_alike_5 rfl (Nat.le_of_ble_eq_true rfl) rfl ?_
  refine ev_iconst (v := (-1)) dX11_alike_6 (by decide) ?_
  refine ev_istore_n dX11_alike_7 rfl (Nat.le_of_ble_eq_true rfl) rfl ?_
  refine ev_iconst (v := 0) dX11_alike_8 (by decide) ?_
  refine ev_istore dX11_alike_9 (Nat.le_of_ble_eq_true rfl) rfl ?_
  refine ev_iconst (v := 0) dX11_alike_11 (by decide) ?_
  refine ev_istore dX11_alike_12 (Nat.le_of_ble_eq_true rfl) rfl ?_
  have loop : ∀ (n i : Nat), i ≤ (x1).toNatClampNeg → (x1).toNatClampNeg < i + n → ∀ (q : Int32 × Int32), q = cx_al C (x1).toNatClampNeg i → ∀ g, cw_T G K g0 W g C → ev_V G d 1 8 mX11_alike (fun o g' => ∃ W2 C2, (W2 = W ∧ o = cx_o (cx_X11_alike C x1).1 ∧ C2 = (cx_X11_alike C x1).2) ∧ cw_T G K g0 W2 g' C2) g 14 [some (.ref (W 0 0)), some (.int x1), some (.ref (W 33 (x1).toNatClampNeg)), some (.int q.1), some (.int q.2), some (.int (nI i)), none, none] [] := by
    intro n
    induction n with
    | zero => intro i h1 h2; exact absurd h2 (by omega)
    | succ n ih =>
      intro i h1 h2 q hx g hT
      refine ev_iload dX11_alike_14 rfl ?_
      refine ev_iload_n dX11_alike_16 rfl rfl ?_
      refine ev_icmp_ge (tgt := 87) dX11_alike_17 (by decide) (fun c_17 => ?_) (fun c_17 => ?_)
      · have e : i = (x1).toNatClampNeg := by have := mo_ige e_2 (by omega) (by omega) c_17; omega
        subst hx
        subst e
        refine ev_iload_n dX11_alike_87 rfl rfl ?_
        have e9 : cx_X11_alike C x1 = ((.inr ((cx_al C (x1).toNatClampNeg (x1).toNatClampNeg).1)), C) := by unfold cx_X11_alike; rw [if_pos c_2]
        exact ev_iret dX11_alike_88 rfl rfl ⟨W, (cx_X11_alike C x1).2, ⟨rfl, by rw [e9]; rfl, rfl⟩, by rw [e9]; exact hT⟩
      · have hi9 : i < (x1).toNatClampNeg := mo_ilt e_2 (by omega) (by omega) c_17
        have hi8 : i < sp_A C := by omega
        refine ev_iload dX11_alike_20 rfl ?_
        refine ev_aload_n dX11_alike_22 rfl rfl ?_
        refine cw_getf hE hT dX11_alike_23 fX11_22 (k := 0) (i := 0) rfl ob0 rfl ?_
        refine cw_size (l := 3) (v := (C.1 62 0)) hE hT dX11_alike_26 lX11_89 (by decide) (Nat.le_of_ble_eq_true rfl) (by omega) rfl ?_
        refine ev_icmp_ge (tgt := 87) dX11_alike_29 (by decide) (fun c_29 => ?_) (fun c_29 => ?_)
        · exact absurd c_29 (cj_le hBA.1 hi8 (by omega))
        · refine ev_aload_n dX11_alike_32 rfl rfl ?_
          refine cw_getf hE hT dX11_alike_33 fX11_22 (k := 0) (i := 0) rfl ob0 rfl ?_
          refine ev_iload dX11_alike_36 rfl ?_
          refine cw_get (l := 3) (q := i) hE hT dX11_alike_38 lX11_138 (by decide) rfl hi8 (Nat.le_of_ble_eq_true rfl) (by omega) ?_
          refine ev_cast hE dX11_alike_41 lkX11_286 ((hT.at (k := 33) (i := i) hi8).1 _ _ ob33) rfl ?_
          refine ev_astore dX11_alike_44 (Nat.le_of_ble_eq_true rfl) rfl ?_
          refine ev_aload_n dX11_alike_46 rfl rfl ?_
          refine ev_aload dX11_alike_47 rfl ?_
          refine cw_call1 (d' := d - 1) hE hT dX11_alike_49 rfl kX0_farFrom lX11_295 iX0_farFrom vX0_farFrom (k := 33) (i := (x1).toNatClampNeg) hA2 ob33 rfl (Nat.le_of_ble_eq_true rfl) (by omega) (c_X0_farFrom hE (by omega) hA2 hi8 (hA _ hA2) (hA _ hi8)) (fun g hT => ?_)
          refine ev_istore dX11_alike_52 (Nat.le_of_ble_eq_true rfl) rfl ?_
          refine ev_aload dX11_alike_54 rfl ?_
          refine cw_call0 (d' := d - 1) hE hT dX11_alike_56 rfl kX0_isGranted lX11_299 iX0_isGranted vX0_isGranted (k := 33) (i := i) hi8 ob33 rfl (Nat.le_of_ble_eq_true rfl) (by omega) (c_X0_isGranted hE hi8) (fun g hT => ?_)
          refine ev_if_eq (tgt := 81) dX11_alike_59 (by decide) (fun c_59 => ?_) (fun c_59 => ?_)
          · refine ev_iinc (v := (nI (i + 1))) dX11_alike_81 rfl (nI_1 i) rfl ?_
            refine ev_goto (tgt := 14) dX11_alike_84 (by decide) ?_
            refine ev_none 6 ?_
            refine ev_none 7 ?_
            exact ih (i + 1) (by omega) (by omega) q (by rw [cx_al, ← hx, if_neg (mo_b0 c_59)]) g hT
          · refine ev_iload_n dX11_alike_62 rfl rfl ?_
            refine ev_iconst (v := (-1)) dX11_alike_63 (by decide) ?_
            refine ev_icmp_eq (tgt := 74) dX11_alike_64 (by decide) (fun c_64 => ?_) (fun c_64 => ?_)
            · refine ev_iload dX11_alike_74 rfl ?_
              refine ev_istore_n dX11_alike_76 rfl (Nat.le_of_ble_eq_true rfl) rfl ?_
              refine ev_iload dX11_alike_77 rfl ?_
              refine ev_istore dX11_alike_79 (Nat.le_of_ble_eq_true rfl) rfl ?_
              refine ev_iinc (v := (nI (i + 1))) dX11_alike_81 rfl (nI_1 i) rfl ?_
              refine ev_goto (tgt := 14) dX11_alike_84 (by decide) ?_
              refine ev_none 6 ?_
              refine ev_none 7 ?_
              exact ih (i + 1) (by omega) (by omega) (nI i, cx_X0_farFrom C (x1).toNatClampNeg i) (by rw [cx_al, ← hx, if_pos (mo_b1 c_59), if_pos c_64]) g hT
            · refine ev_iload dX11_alike_67 rfl ?_
              refine ev_iload dX11_alike_69 rfl ?_
              refine ev_icmp_gt (tgt := 81) dX11_alike_71 (by decide) (fun c_71 => ?_) (fun c_71 => ?_)
              · refine ev_iinc (v := (nI (i + 1))) dX11_alike_81 rfl (nI_1 i) rfl ?_
                refine ev_goto (tgt := 14) dX11_alike_84 (by decide) ?_
                refine ev_none 6 ?_
                refine ev_none 7 ?_
                exact ih (i + 1) (by omega) (by omega) q (by rw [cx_al, ← hx, if_pos (mo_b1 c_59), if_neg c_64, if_pos c_71]) g hT
              · refine ev_iload dX11_alike_74 rfl ?_
                refine ev_istore_n dX11_alike_76 rfl (Nat.le_of_ble_eq_true rfl) rfl ?_
                refine ev_iload dX11_alike_77 rfl ?_
                refine ev_istore dX11_alike_79 (Nat.le_of_ble_eq_true rfl) rfl ?_
                refine ev_iinc (v := (nI (i + 1))) dX11_alike_81 rfl (nI_1 i) rfl ?_
                refine ev_goto (tgt := 14) dX11_alike_84 (by decide) ?_
                refine ev_none 6 ?_
                refine ev_none 7 ?_
                exact ih (i + 1) (by omega) (by omega) (nI i, cx_X0_farFrom C (x1).toNatClampNeg i) (by rw [cx_al, ← hx, if_pos (mo_b1 c_59), if_neg c_64, if_neg c_71]) g hT
  exact loop ((x1).toNatClampNeg + 1) 0 (by omega) (by omega) (-1, 0) rfl g hT
end CM7
