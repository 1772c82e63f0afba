section RN
section RS
variable {G : ev_G} {d bc bs : Nat} {M : ev_M} {Post : ev_P} {g : ev_H} {pc : Nat} {lv : List (Option Value)} {st : List Value}
variable {K : Nat → Prop} {g0 : ev_H} {W : cw_W} {C : mo_S}
theorem cw_putf2 {index k i f x ci j : Nat} {fs : List Value} {v : Int32} {ty : FieldType} (hE : ev_En G) (hT : cw_T G K g0 W g C) (hd : decode M.2.1 pc = .ok (.putfield index, 3)) (hF : ev_F M.1.cls index ci j ty false) (hl : cw_lv C k i) (hk : cw_ob W C k i = some (ci, fs)) (hj : j < fs.length) (hn : narrow ty (.int v) = .int v) (hfit : fits ty (.int v) = true) (ho : cw_ow f x = (k, i)) (hf : f ∉ cw_S) (hO : k ∈ cw_OL) (hk2 : cw_ob W (mo_up C f x v) k i = some (ci, fs.set j (.int v))) (kk : ∀ g', cw_T G K g0 W g' (mo_up C f x v) → (∀ y, g' y = none → g y = none) → ev_V G d bc bs M Post g' (pc + 3) lv st) : ev_V G d bc bs M Post g pc lv (.int v :: .ref (W k i) :: st) := by
  refine ev_put hE hd hF ((hT.at hl).1 _ _ hk) hj hn hfit (kk _ (hT.put hl ho hf (cw_at_ob hO hk2 (ev_up_s _ _ _))) (fun y hy => ?_))
  by_cases e : y = W k i
  · subst e
    rw [ev_up_s] at hy
    cases hy
  · rw [ev_up_n _ _ e] at hy
    exact hy
end RS
theorem c_X7_formula {G : ev_G} {W : cw_W} {d D0 cd : Nat} {C : mo_S} (hE : ev_En G) (h4 : ev_En4 G D0) (hd : 2 ≤ d) (hc : C.1 122 0 = nI cd) (hc3 : cd ≤ 300) (K : Nat → Prop) (g0 g : ev_H) (hT : cw_T G K g0 W g C) : ev_C G d 1 cd mX7_formula [.ref (W 4 0)] g (fun o g' => ∃ (y : Nat) (f : Nat → Int32), o = .inl (some (.ref y)) ∧ g y = none ∧ g' y = some (.inl (G.2.2.2 0, cd, .inl f)) ∧ (∀ j, j < cd → f j = C.1 121 j) ∧ cw_T G K g0 W g' (mo_up C 122 0 0)) := by
  refine ev_start (lv0 := [some (.ref (W 4 0)), none]) (by decide +kernel) rfl (Nat.le_of_ble_eq_true rfl) rfl ?_
  refine ev_aload_n dX7_formula_0 rfl rfl ?_
  refine cw_geti (v2 := nI cd) hE hT dX7_formula_1 fX7_40 (k := 4) (i := 0) rfl ob4 rfl hc ?_
  refine ev_iconst (v := 0) dX7_formula_4 (by decide) ?_
  refine ev_aload_n dX7_formula_5 rfl rfl ?_
  refine cw_getf hE hT dX7_formula_6 fX7_37 (k := 4) (i := 0) rfl ob4 rfl ?_
  refine cw_alen (n := 300) hE hT dX7_formula_9 (k := 6) (i := 0) rfl ar6 ?_
  refine cw_nS3 (d' := d - 1) h4 dX7_formula_10 rfl kX11_within (by decide +kernel) sX11_within (Nat.le_of_ble_eq_true rfl) (by omega) c_X11_within ?_
  have hw : cx_X11_within (nI cd) 0 (nI 300) = true := by
    rw [cx_within_in]
    exact decide_eq_true ⟨Int32.not_lt.mp (nI_pos (by omega)), nI_le hc3 (by decide)⟩
  rw [hw]
  refine ev_if_eq (tgt := 23) dX7_formula_13 (by decide) (fun c => absurd c (by decide)) (fun _ => ?_)
  refine ev_aload_n dX7_formula_16 rfl rfl ?_
  refine cw_geti (v2 := nI cd) hE hT dX7_formula_17 fX7_40 (k := 4) (i := 0) rfl ob4 rfl hc ?_
  refine ev_goto (tgt := 24) dX7_formula_20 (by decide) ?_
  refine ev_istore_n dX7_formula_24 rfl (Nat.le_of_ble_eq_true rfl) rfl ?_
  refine ev_aload_n dX7_formula_25 rfl rfl ?_
  refine ev_iconst (v := 0) dX7_formula_26 (by decide) ?_
  refine cw_putf2 (k := 4) (i := 0) (f := 122) (x := 0) hE hT dX7_formula_27 pX7_40 rfl ob4 (Nat.le_of_ble_eq_true rfl) rfl rfl rfl (by decide) (by decide) pu4_9 (fun g1 hT1 hsm => ?_)
  obtain ⟨f0, a1, a2⟩ := (hT1.at (k := 6) (i := 0) rfl).2.1 _ _ ar6
  refine ev_aload_n dX7_formula_30 rfl rfl ?_
  refine cw_getf hE hT1 dX7_formula_31 fX7_37 (k := 4) (i := 0) rfl ob4 rfl ?_
  refine ev_iload_n dX7_formula_34 rfl rfl ?_
  refine ev_callS (ci := 0) (r := 0) (fs := []) (d' := d - 1) (b := 0) (k0 := 0) (As := [.ref (W 6 0), .int (nI cd)]) dX7_formula_35 rfl kJ7_copyOf_59c91 rfl lX7_159 sJ7_copyOf_59c91 (Nat.le_of_ble_eq_true rfl) (by omega) (c_copyOfI hE h4 (by omega) a1 hc3 (by decide)) (Nat.le_of_eq (by omega)) (by omega) (fun v g' h => ?_) (fun E g' h => by obtain ⟨q, f', h1, -⟩ := h; cases h1)
  obtain ⟨q, f', h1, h2, rfl, h3⟩ := h
  cases h1
  exact ev_aret dX7_formula_38 rfl (Or.inr ⟨_, rfl⟩) (Or.inr ⟨_, rfl⟩) ⟨q, f', rfl, hsm q h2, ev_up_s _ _ _, fun j hj => by rw [h3 j hj]; exact a2 j (by omega), hT1.new h2⟩

end RN
