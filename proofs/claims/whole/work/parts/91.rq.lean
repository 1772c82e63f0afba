section RQ
def od_pst (G : ev_G) (W : cw_W) (K : Nat → Prop) (g0 : ev_H) (C : mo_S) (t : Nat → Nat) (n ci : Nat) (r : od_R) (res : od_B) : ev_P := fun o g' => ∃ W2 C2, (od_W W2 W ∧ o = .inl none ∧ od_eq C2 C ∧ od_pq t n ci r res C2) ∧ cw_T G K g0 W2 g' C2
section QS
variable {G : ev_G} {W : cw_W} {K : Nat → Prop} {g0 g : ev_H} {d D0 n p ci bc bs : Nat} {C T : mo_S} {t : Nat → Nat} {r : od_R}
/-- what is known when the word of a clause has been taken -/
def od_H (G : ev_G) (C T : mo_S) (t : Nat → Nat) (n p : Nat) (r : od_R) : Prop := cx_eqX rd_Xs T C ∧ rd_G T t n p ∧ (T.1 122 0 = 0 ∧ T.1 33 0 = -1) ∧ T.1 133 0 = 1 ∧ od_S T 11 r ∧ ∀ a, a < sp_A T → (T.1 63 a).toNatClampNeg < sp_P T
theorem od_H.ol (h : od_H G C T t n p r) : cw_ol T 11 := Or.inr (Or.inr ⟨rfl, h.2.2.2.1⟩)
theorem od_c3 {v3 : Option Value} (hE : ev_En G) (h4 : ev_En4 G D0) (hd : 61 ≤ d) (H : od_H G C T t n p r) (hT : cw_T G K g0 W g T) : ev_V G d 1 300 mX7_readClause (od_pst G W K g0 C t n ci r (od_num t n (nI 5) 0 9999 p)) g 130 [some (.ref (W 4 0)), some (.ref (W 28 11)), some (.int (nI ci)), v3] [] := by
  obtain ⟨hx0, hG, hc, h133, hS, hA⟩ := id H
  refine ev_aload_n dX7_readClause_130 rfl rfl ?_
  refine ev_aload_n dX7_readClause_131 rfl rfl ?_
  refine ev_iconst (v := nI 0) dX7_readClause_132 (by decide) ?_
  refine ev_sipush (v := nI 9999) dX7_readClause_133 (by decide) ?_
  refine cw_callr2 (d' := d - 1) (b := 1) (n0 := 300) hE hT dX7_readClause_136 rfl kX7_takeNumber lX7_121 iX7_takeNumber vX7_takeNumber (k := 4) (i := 0) rfl ob4 rfl (Nat.le_of_ble_eq_true rfl) (by omega) (c_X7_takeNumber (d := d - 1) (lo := 0) (hi := 9999) hE h4 (by omega) hG (by omega) (by omega)) (Nat.le_refl _) (Nat.le_refl _) (fun v9 W9 T2 g q9 hT => ?_) (fun E W2 C2 g q9 _ => by obtain ⟨_, ⟨_, h9⟩, _⟩ := q9; cases h9)
  obtain ⟨e8, ⟨x9, e9⟩, q9⟩ := q9
  have e7 := e8.symm
  subst e7
  cases e9
  have hx2 : cx_eqX [33, 117, 118, 119, 120] T2 T := by
    split at q9
    · split at q9
      · exact q9.1.mono (by decide)
      · exact q9.2.1.mono (by decide)
    · exact q9.1.mono (by decide)
  have ho : cw_ol T2 11 := Or.inr (Or.inr ⟨rfl, by rw [hx2 133 (by decide)]; exact h133⟩)
  have r9 := od_numQ (ci := ci) (r := r) (w0 := 5) (by decide) (by decide) q9 hc hS
  refine cw_putf (k := 28) (i := 11) (f := 103) (x := 11) hE hT dX7_readClause_139 pX7_124 ho ob28 (Nat.le_of_ble_eq_true rfl) rfl rfl rfl (by decide) (by decide) pu28_6 (fun g hT => ?_)
  refine ev_goto (tgt := 235) dX7_readClause_142 (by decide) ?_
  exact ev_vret dX7_readClause_235 rfl ⟨W, _, ⟨od_W.r W, rfl, r9.1.t (od_eq.of hx0), r9.2⟩, hT⟩
theorem od_c4 {v3 : Option Value} (hE : ev_En G) (h4 : ev_En4 G D0) (hd : 61 ≤ d) (H : od_H G C T t n p r) (hT : cw_T G K g0 W g T) : ev_V G d 1 300 mX7_readClause (od_pst G W K g0 C t n ci r (od_num t n (nI 6) 0 9999 p)) g 145 [some (.ref (W 4 0)), some (.ref (W 28 11)), some (.int (nI ci)), v3] [] := by
  obtain ⟨hx0, hG, hc, h133, hS, hA⟩ := id H
  refine ev_aload_n dX7_readClause_145 rfl rfl ?_
  refine ev_aload_n dX7_readClause_146 rfl rfl ?_
  refine ev_iconst (v := nI 0) dX7_readClause_147 (by decide) ?_
  refine ev_sipush (v := nI 9999) dX7_readClause_148 (by decide) ?_
  refine cw_callr2 (d' := d - 1) (b := 1) (n0 := 300) hE hT dX7_readClause_151 rfl kX7_takeNumber lX7_121 iX7_takeNumber vX7_takeNumber (k := 4) (i := 0) rfl ob4 rfl (Nat.le_of_ble_eq_true rfl) (by omega) (c_X7_takeNumber (d := d - 1) (lo := 0) (hi := 9999) hE h4 (by omega) hG (by omega) (by omega)) (Nat.le_refl _) (Nat.le_refl _) (fun v9 W9 T2 g q9 hT => ?_) (fun E W2 C2 g q9 _ => by obtain ⟨_, ⟨_, h9⟩, _⟩ := q9; cases h9)
  obtain ⟨e8, ⟨x9, e9⟩, q9⟩ := q9
  have e7 := e8.symm
  subst e7
  cases e9
  have hx2 : cx_eqX [33, 117, 118, 119, 120] T2 T := by
    split at q9
    · split at q9
      · exact q9.1.mono (by decide)
      · exact q9.2.1.mono (by decide)
    · exact q9.1.mono (by decide)
  have ho : cw_ol T2 11 := Or.inr (Or.inr ⟨rfl, by rw [hx2 133 (by decide)]; exact h133⟩)
  have r9 := od_numQ (ci := ci) (r := r) (w0 := 6) (by decide) (by decide) q9 hc hS
  refine cw_putf (k := 28) (i := 11) (f := 104) (x := 11) hE hT dX7_readClause_154 pX7_127 ho ob28 (Nat.le_of_ble_eq_true rfl) rfl rfl rfl (by decide) (by decide) pu28_7 (fun g hT => ?_)
  refine ev_goto (tgt := 235) dX7_readClause_157 (by decide) ?_
  exact ev_vret dX7_readClause_235 rfl ⟨W, _, ⟨od_W.r W, rfl, r9.1.t (od_eq.of hx0), r9.2⟩, hT⟩
theorem od_c5 {v3 : Option Value} (hE : ev_En G) (h4 : ev_En4 G D0) (hd : 61 ≤ d) (H : od_H G C T t n p r) (hT : cw_T G K g0 W g T) : ev_V G d 1 300 mX7_readClause (od_pst G W K g0 C t n ci r (od_num t n (nI 7) 0 100 p)) g 160 [some (.ref (W 4 0)), some (.ref (W 28 11)), some (.int (nI ci)), v3] [] := by
  obtain ⟨hx0, hG, hc, h133, hS, hA⟩ := id H
  refine ev_aload_n dX7_readClause_160 rfl rfl ?_
  refine ev_aload_n dX7_readClause_161 rfl rfl ?_
  refine ev_iconst (v := nI 0) dX7_readClause_162 (by decide) ?_
  refine ev_bipush (v := nI 100) dX7_readClause_163 (by decide) ?_
  refine cw_callr2 (d' := d - 1) (b := 1) (n0 := 300) hE hT dX7_readClause_165 rfl kX7_takeNumber lX7_121 iX7_takeNumber vX7_takeNumber (k := 4) (i := 0) rfl ob4 rfl (Nat.le_of_ble_eq_true rfl) (by omega) (c_X7_takeNumber (d := d - 1) (lo := 0) (hi := 100) hE h4 (by omega) hG (by omega) (by omega)) (Nat.le_refl _) (Nat.le_refl _) (fun v9 W9 T2 g q9 hT => ?_) (fun E W2 C2 g q9 _ => by obtain ⟨_, ⟨_, h9⟩, _⟩ := q9; cases h9)
  obtain ⟨e8, ⟨x9, e9⟩, q9⟩ := q9
  have e7 := e8.symm
  subst e7
  cases e9
  have hx2 : cx_eqX [33, 117, 118, 119, 120] T2 T := by
    split at q9
    · split at q9
      · exact q9.1.mono (by decide)
      · exact q9.2.1.mono (by decide)
    · exact q9.1.mono (by decide)
  have ho : cw_ol T2 11 := Or.inr (Or.inr ⟨rfl, by rw [hx2 133 (by decide)]; exact h133⟩)
  have r9 := od_numQ (ci := ci) (r := r) (w0 := 7) (by decide) (by decide) q9 hc hS
  refine cw_putf (k := 28) (i := 11) (f := 105) (x := 11) hE hT dX7_readClause_168 pX7_130 ho ob28 (Nat.le_of_ble_eq_true rfl) rfl rfl rfl (by decide) (by decide) pu28_8 (fun g hT => ?_)
  refine ev_goto (tgt := 235) dX7_readClause_171 (by decide) ?_
  exact ev_vret dX7_readClause_235 rfl ⟨W, _, ⟨od_W.r W, rfl, r9.1.t (od_eq.of hx0), r9.2⟩, hT⟩
theorem od_c6 {v3 : Option Value} (hE : ev_En G) (h4 : ev_En4 G D0) (hd : 61 ≤ d) (H : od_H G C T t n p r) (hT : cw_T G K g0 W g T) : ev_V G d 1 300 mX7_readClause (od_pst G W K g0 C t n ci r (od_num t n (nI 8) 0 100 p)) g 174 [some (.ref (W 4 0)), some (.ref (W 28 11)), some (.int (nI ci)), v3] [] := by
  obtain ⟨hx0, hG, hc, h133, hS, hA⟩ := id H
  refine ev_aload_n dX7_readClause_174 rfl rfl ?_
  refine ev_aload_n dX7_readClause_175 rfl rfl ?_
  refine ev_iconst (v := nI 0) dX7_readClause_176 (by decide) ?_
  refine ev_bipush (v := nI 100) dX7_readClause_177 (by decide) ?_
  refine cw_callr2 (d' := d - 1) (b := 1) (n0 := 300) hE hT dX7_readClause_179 rfl kX7_takeNumber lX7_121 iX7_takeNumber vX7_takeNumber (k := 4) (i := 0) rfl ob4 rfl (Nat.le_of_ble_eq_true rfl) (by omega) (c_X7_takeNumber (d := d - 1) (lo := 0) (hi := 100) hE h4 (by omega) hG (by omega) (by omega)) (Nat.le_refl _) (Nat.le_refl _) (fun v9 W9 T2 g q9 hT => ?_) (fun E W2 C2 g q9 _ => by obtain ⟨_, ⟨_, h9⟩, _⟩ := q9; cases h9)
  obtain ⟨e8, ⟨x9, e9⟩, q9⟩ := q9
  have e7 := e8.symm
  subst e7
  cases e9
  have hx2 : cx_eqX [33, 117, 118, 119, 120] T2 T := by
    split at q9
    · split at q9
      · exact q9.1.mono (by decide)
      · exact q9.2.1.mono (by decide)
    · exact q9.1.mono (by decide)
  have ho : cw_ol T2 11 := Or.inr (Or.inr ⟨rfl, by rw [hx2 133 (by decide)]; exact h133⟩)
  have r9 := od_numQ (ci := ci) (r := r) (w0 := 8) (by decide) (by decide) q9 hc hS
  refine cw_putf (k := 28) (i := 11) (f := 106) (x := 11) hE hT dX7_readClause_182 pX7_133 ho ob28 (Nat.le_of_ble_eq_true rfl) rfl rfl rfl (by decide) (by decide) pu28_9 (fun g hT => ?_)
  refine ev_goto (tgt := 235) dX7_readClause_185 (by decide) ?_
  exact ev_vret dX7_readClause_235 rfl ⟨W, _, ⟨od_W.r W, rfl, r9.1.t (od_eq.of hx0), r9.2⟩, hT⟩
theorem od_c7 {v3 : Option Value} (hE : ev_En G) (h4 : ev_En4 G D0) (hd : 61 ≤ d) (H : od_H G C T t n p r) (hT : cw_T G K g0 W g T) : ev_V G d 1 300 mX7_readClause (od_pst G W K g0 C t n ci r (od_num t n (nI 9) 0 9999 p)) g 188 [some (.ref (W 4 0)), some (.ref (W 28 11)), some (.int (nI ci)), v3] [] := by
  obtain ⟨hx0, hG, hc, h133, hS, hA⟩ := id H
  refine ev_aload_n dX7_readClause_188 rfl rfl ?_
  refine ev_aload_n dX7_readClause_189 rfl rfl ?_
  refine ev_iconst (v := nI 0) dX7_readClause_190 (by decide) ?_
  refine ev_sipush (v := nI 9999) dX7_readClause_191 (by decide) ?_
  refine cw_callr2 (d' := d - 1) (b := 1) (n0 := 300) hE hT dX7_readClause_194 rfl kX7_takeNumber lX7_121 iX7_takeNumber vX7_takeNumber (k := 4) (i := 0) rfl ob4 rfl (Nat.le_of_ble_eq_true rfl) (by omega) (c_X7_takeNumber (d := d - 1) (lo := 0) (hi := 9999) hE h4 (by omega) hG (by omega) (by omega)) (Nat.le_refl _) (Nat.le_refl _) (fun v9 W9 T2 g q9 hT => ?_) (fun E W2 C2 g q9 _ => by obtain ⟨_, ⟨_, h9⟩, _⟩ := q9; cases h9)
  obtain ⟨e8, ⟨x9, e9⟩, q9⟩ := q9
  have e7 := e8.symm
  subst e7
  cases e9
  have hx2 : cx_eqX [33, 117, 118, 119, 120] T2 T := by
    split at q9
    · split at q9
      · exact q9.1.mono (by decide)
      · exact q9.2.1.mono (by decide)
    · exact q9.1.mono (by decide)
  have ho : cw_ol T2 11 := Or.inr (Or.inr ⟨rfl, by rw [hx2 133 (by decide)]; exact h133⟩)
  have r9 := od_numQ (ci := ci) (r := r) (w0 := 9) (by decide) (by decide) q9 hc hS
  refine cw_putf (k := 28) (i := 11) (f := 107) (x := 11) hE hT dX7_readClause_197 pX7_136 ho ob28 (Nat.le_of_ble_eq_true rfl) rfl rfl rfl (by decide) (by decide) pu28_10 (fun g hT => ?_)
  refine ev_goto (tgt := 235) dX7_readClause_200 (by decide) ?_
  exact ev_vret dX7_readClause_235 rfl ⟨W, _, ⟨od_W.r W, rfl, r9.1.t (od_eq.of hx0), r9.2⟩, hT⟩
theorem od_c1 {v3 : Option Value} (hE : ev_En G) (h4 : ev_En4 G D0) (hd : 61 ≤ d) (H : od_H G C T t n p r) (hT : cw_T G K g0 W g T) : ev_V G d 1 300 mX7_readClause (od_pst G W K g0 C t n ci r (od_pgs t n p)) g 100 [some (.ref (W 4 0)), some (.ref (W 28 11)), some (.int (nI ci)), v3] [] := by
  obtain ⟨hx0, hG, hc, h133, hS, hA⟩ := id H
  refine ev_aload_n dX7_readClause_100 rfl rfl ?_
  refine ev_aload_n dX7_readClause_101 rfl rfl ?_
  refine ev_iload_n dX7_readClause_102 rfl rfl ?_
  refine cw_callr2 (d' := d - 1) (b := 1) (n0 := 300) hE hT dX7_readClause_103 rfl kX7_readPages lX7_112 iX7_readPages vX7_readPages (k := 4) (i := 0) rfl ob4 rfl (Nat.le_of_ble_eq_true rfl) (by omega) (c_X7_readPages (d := d - 1) hE h4 (by omega) hG hc h133 hS) (Nat.le_refl _) (Nat.le_refl _) (fun v9 W9 T2 g q9 hT => ?_) (fun E W2 C2 g q9 _ => by obtain ⟨_, h9, _⟩ := q9; cases h9)
  obtain ⟨e8, e9, he, q9⟩ := q9
  have e7 := e8.symm
  subst e7
  cases e9
  refine ev_goto (tgt := 235) dX7_readClause_106 (by decide) ?_
  exact ev_vret dX7_readClause_235 rfl ⟨W, _, ⟨od_W.r W, rfl, he.t (od_eq.of hx0), q9⟩, hT⟩
theorem od_c8 {v3 : Option Value} (hE : ev_En G) (h4 : ev_En4 G D0) (hd : 61 ≤ d) (H : od_H G C T t n p r) (hT : cw_T G K g0 W g T) : ev_V G d 1 300 mX7_readClause (od_pst G W K g0 C t n ci r (od_rst t n p)) g 203 [some (.ref (W 4 0)), some (.ref (W 28 11)), some (.int (nI ci)), v3] [] := by
  obtain ⟨hx0, hG, hc, h133, hS, hA⟩ := id H
  have ht := hG.1.2.2.2
  have hw : rd_wf t n p rd_L139 = ps_fnd t n p rd_W139 2 := rd_wf139 ht
  refine ev_aload_n dX7_readClause_203 rfl rfl ?_
  refine ev_aload_n dX7_readClause_204 rfl rfl ?_
  refine ev_ldcS dX7_readClause_205 (h4.2.2.2.2.2.2.1 (139, rd_L139) (by decide)) (fun a ha => ?_)
  refine cw_callr1 (d' := d - 1) (b := 1) (n0 := 300) hE hT dX7_readClause_207 rfl kX7_takeWord lX7_141 iX7_takeWord vX7_takeWord (k := 4) (i := 0) rfl ob4 rfl (Nat.le_of_ble_eq_true rfl) (by omega) (c_X7_takeWord (d := d - 1) hE h4 (by omega) hG ha (fun x h => by rw [hw] at h; have := (ps_fnd_lt h).1; omega)) (Nat.le_refl _) (Nat.le_refl _) (fun v9 W9 T2 g q9 hT => ?_) (fun E W2 C2 g q9 _ => by obtain ⟨_, h9, _⟩ := q9; cases h9)
  obtain ⟨e8, e9, q9⟩ := q9
  have e7 := e8.symm
  subst e7
  rw [hw] at e9 q9
  cases e9
  have fin : ∀ (v : Int32) (g : ev_H), v = 0 ∨ v = 1 → cw_T G K g0 W g T2 → cw_ol T2 11 → od_eq (mo_up T2 108 11 v) C → od_pq t n ci r (od_rst t n p) (mo_up T2 108 11 v) → ev_V G d 1 300 mX7_readClause (od_pst G W K g0 C t n ci r (od_rst t n p)) g 219 [some (.ref (W 4 0)), some (.ref (W 28 11)), some (.int (nI ci)), v3] [.int v, .ref (W 28 11)] := by
    intro v g hv hT ho h1 h2
    refine cw_putf (k := 28) (i := 11) (f := 108) (x := 11) hE hT dX7_readClause_219 pX7_144 ho ob28 (Nat.le_of_ble_eq_true rfl) (by rcases hv with rfl | rfl <;> rfl) (by rcases hv with rfl | rfl <;> rfl) rfl (by decide) (by decide) pu28_11 (fun g hT => ?_)
    refine ev_goto (tgt := 235) dX7_readClause_222 (by decide) ?_
    exact ev_vret dX7_readClause_235 rfl ⟨W, _, ⟨od_W.r W, rfl, h1, h2⟩, hT⟩
  have hne : ∀ (v : Int32) f y, f = 33 ∨ (115 ≤ f ∧ f ≤ 122) → (mo_up T2 108 11 v).1 f y = T2.1 f y := fun v f y h => cw_up_at (by omega)
  have hat : od_at 11 108 11 := by unfold od_at; omega
  refine ev_iconst (v := 1) dX7_readClause_210 (by decide) ?_
  cases hk : ps_fnd t n p rd_W139 2 with
  | none =>
    rw [hk] at q9
    obtain ⟨hx, hF⟩ := q9
    have ho : cw_ol T2 11 := Or.inr (Or.inr ⟨rfl, by rw [hx 133 (by decide)]; exact h133⟩)
    refine ev_icmp_ne (tgt := 218) dX7_readClause_211 (by decide) (fun _ => ?_) (fun c => absurd c (by decide))
    refine ev_iconst (v := 0) dX7_readClause_218 (by decide) ?_
    exact fin 0 g (Or.inl rfl) hT ho (((od_eq.of (hx.mono (by decide))).t (od_eq.of hx0)).up hat) (by unfold od_rst; rw [hk]; exact hF.cg2 (fun f y h => hne 0 f y (by omega)))
  | some k =>
    obtain ⟨hk2, hkw⟩ := ps_fnd_lt hk
    obtain ⟨hl4, hll⟩ := od_rn_l k hk2
    obtain ⟨hpn, hbh⟩ := rd_wd_bh ht hkw (by omega) hll
    rw [hk] at q9
    obtain ⟨hx, hG2⟩ := q9
    rw [hbh, hl4] at hG2
    have ho : cw_ol T2 11 := Or.inr (Or.inr ⟨rfl, by rw [hx 133 (by decide)]; exact h133⟩)
    have res : od_pq t n ci r (od_rst t n p) (mo_up T2 108 11 (nI k)) := by
      unfold od_rst
      rw [hk]
      refine ⟨hG2.cg2 (fun f y h1 h2 => hne _ f y (by omega)), ⟨by rw [hne _ 122 0 (by omega), hx 122 (by decide)]; exact hc.1, by rw [hne _ 33 0 (by omega), hx 33 (by decide)]; exact hc.2⟩, ?_⟩
      refine (hS.x (hx.mono (by decide))).st (w0 := 10) rfl (by omega) ⟨fun e => absurd e (by decide), fun _ e => absurd e (by decide), fun e => absurd e (by decide), fun _ _ => ?_⟩ (fun w hw e f y hcl => cw_up_at (fun q => ?_))
      · rw [mo_up_at, pk_us]
        show nI k = 1 - (1 - nI k)
        obtain rfl | rfl : k = 0 ∨ k = 1 := by omega
        · decide
        · decide
      · unfold od_cl at hcl
        omega
    have he : od_eq (mo_up T2 108 11 (nI k)) C := ((od_eq.of (hx.mono (by decide))).t (od_eq.of hx0)).up hat
    obtain rfl | rfl : k = 0 ∨ k = 1 := by omega
    · refine ev_icmp_ne (tgt := 218) dX7_readClause_211 (by decide) (fun _ => ?_) (fun c => absurd c (by decide))
      refine ev_iconst (v := 0) dX7_readClause_218 (by decide) ?_
      exact fin 0 g (Or.inl rfl) hT ho he res
    · refine ev_icmp_ne (tgt := 218) dX7_readClause_211 (by decide) (fun c => absurd (by decide) c) (fun _ => ?_)
      refine ev_iconst (v := 1) dX7_readClause_214 (by decide) ?_
      refine ev_goto (tgt := 219) dX7_readClause_215 (by decide) ?_
      exact fin 1 g (Or.inr rfl) hT ho he res
theorem od_c9 {v3 : Option Value} (hE : ev_En G) (h4 : ev_En4 G D0) (hd : 61 ≤ d) (H : od_H G C T t n p r) (hT : cw_T G K g0 W g T) : ev_V G d 1 300 mX7_readClause (od_pst G W K g0 C t n ci r (od_way t n p)) g 225 [some (.ref (W 4 0)), some (.ref (W 28 11)), some (.int (nI ci)), v3] [] := by
  obtain ⟨hx0, hG, hc, h133, hS, hA⟩ := id H
  have ht := hG.1.2.2.2
  have hw : rd_wf t n p rd_L148 = ps_fnd t n p ps_wn 4 := rd_wf148 ht
  refine ev_aload_n dX7_readClause_225 rfl rfl ?_
  refine ev_aload_n dX7_readClause_226 rfl rfl ?_
  refine ev_ldcS dX7_readClause_227 (h4.2.2.2.2.2.2.1 (148, rd_L148) (by decide)) (fun a ha => ?_)
  refine cw_callr1 (d' := d - 1) (b := 1) (n0 := 300) hE hT dX7_readClause_229 rfl kX7_takeWord lX7_141 iX7_takeWord vX7_takeWord (k := 4) (i := 0) rfl ob4 rfl (Nat.le_of_ble_eq_true rfl) (by omega) (c_X7_takeWord (d := d - 1) hE h4 (by omega) hG ha (fun x h => by rw [hw] at h; have := (ps_fnd_lt h).1; omega)) (Nat.le_refl _) (Nat.le_refl _) (fun v9 W9 T2 g q9 hT => ?_) (fun E W2 C2 g q9 _ => by obtain ⟨_, h9, _⟩ := q9; cases h9)
  obtain ⟨e8, e9, q9⟩ := q9
  have e7 := e8.symm
  subst e7
  rw [hw] at e9 q9
  cases e9
  have hne : ∀ (v : Int32) f y, f = 33 ∨ (115 ≤ f ∧ f ≤ 122) → (mo_up T2 109 11 v).1 f y = T2.1 f y := fun v f y h => cw_up_at (by omega)
  have hat : od_at 11 109 11 := by unfold od_at; omega
  cases hk : ps_fnd t n p ps_wn 4 with
  | none =>
    rw [hk] at q9
    obtain ⟨hx, hF⟩ := q9
    have ho : cw_ol T2 11 := Or.inr (Or.inr ⟨rfl, by rw [hx 133 (by decide)]; exact h133⟩)
    refine cw_putf (k := 28) (i := 11) (f := 109) (x := 11) hE hT dX7_readClause_232 pX7_150 ho ob28 (Nat.le_of_ble_eq_true rfl) rfl rfl rfl (by decide) (by decide) pu28_12 (fun g hT => ?_)
    exact ev_vret dX7_readClause_235 rfl ⟨W, _, ⟨od_W.r W, rfl, ((od_eq.of (hx.mono (by decide))).t (od_eq.of hx0)).up hat, by unfold od_way; rw [hk]; exact hF.cg2 (fun f y h => hne _ f y (by omega))⟩, hT⟩
  | some k =>
    obtain ⟨hk4, hkw⟩ := ps_fnd_lt hk
    obtain ⟨hpn, hbh⟩ := rd_wd_bh ht hkw (od_wn_l k hk4).1 (od_wn_l k hk4).2
    rw [hk] at q9
    obtain ⟨hx, hG2⟩ := q9
    rw [hbh] at hG2
    have ho : cw_ol T2 11 := Or.inr (Or.inr ⟨rfl, by rw [hx 133 (by decide)]; exact h133⟩)
    have res : od_pq t n ci r (od_way t n p) (mo_up T2 109 11 (nI k)) := by
      unfold od_way
      rw [hk]
      refine ⟨hG2.cg2 (fun f y h1 h2 => hne _ f y (by omega)), ⟨by rw [hne _ 122 0 (by omega), hx 122 (by decide)]; exact hc.1, by rw [hne _ 33 0 (by omega), hx 33 (by decide)]; exact hc.2⟩, ?_⟩
      refine (hS.x (hx.mono (by decide))).st (w0 := 11) rfl (by omega) ⟨fun e => absurd e (by decide), fun _ e => absurd e (by decide), fun e => absurd e (by decide), fun _ _ => ?_⟩ (fun w hw e f y hcl => cw_up_at (fun q => ?_))
      · rw [mo_up_at, pk_us]
        rfl
      · unfold od_cl at hcl
        omega
    refine cw_putf (k := 28) (i := 11) (f := 109) (x := 11) hE hT dX7_readClause_232 pX7_150 ho ob28 (Nat.le_of_ble_eq_true rfl) rfl rfl rfl (by decide) (by decide) pu28_12 (fun g hT => ?_)
    exact ev_vret dX7_readClause_235 rfl ⟨W, _, ⟨od_W.r W, rfl, ((od_eq.of (hx.mono (by decide))).t (od_eq.of hx0)).up hat, res⟩, hT⟩
theorem od_c0 {v3 : Option Value} (hE : ev_En G) (h4 : ev_En4 G D0) (hd : 61 ≤ d) (H : od_H G C T t n p r) (hT : cw_T G K g0 W g T) : ev_V G d 1 300 mX7_readClause (od_pst G W K g0 C t n ci r (od_frm t n 0 p)) g 84 [some (.ref (W 4 0)), some (.ref (W 28 11)), some (.int (nI ci)), v3] [] := by
  obtain ⟨hx0, hG, hc, h133, hS, hA⟩ := id H
  refine ev_aload_n dX7_readClause_84 rfl rfl ?_
  refine ev_iconst (v := nI 0) dX7_readClause_85 (by decide) ?_
  refine cw_callr1 (d' := d - 1) (b := 1) (n0 := 300) hE hT dX7_readClause_86 rfl kX7_readSum lX7_102 iX7_readSum vX7_readSum (k := 4) (i := 0) rfl ob4 rfl (Nat.le_of_ble_eq_true rfl) (by omega) (rd_sum hE h4 8 0 (d - 1) rfl (by omega) T t n p 0 ⟨hG, hc.1, Nat.zero_le _⟩) (Nat.le_refl _) (Nat.le_refl _) (fun v9 W9 T2 g q9 hT => ?_) (fun E W2 C2 g q9 _ => by obtain ⟨_, h9, _⟩ := q9; cases h9)
  obtain ⟨e8, e9, q9⟩ := q9
  have q9 : rd_Q T t n p 0 (ps_sum t n 8 p) T2 := q9
  have e7 := e8.symm
  subst e7
  cases e9
  have hx2 : cx_eqX rd_Xs T2 T := by
    cases hr : ps_sum t n 8 p with
    | inl e => rw [hr] at q9; exact q9.2.2
    | inr v => rw [hr] at q9; exact q9.2.1.mono (by decide)
  obtain ⟨cd, hcd, hcd3⟩ : rd_cd T2 := by
    cases hr : ps_sum t n 8 p with
    | inl e => rw [hr] at q9; exact q9.2.1
    | inr v =>
      rw [hr] at q9
      have := q9.1.le
      have := q9.2.2.2.1
      exact ⟨_, q9.2.2.1, by omega⟩
  have h133' : (mo_up T2 122 0 0).1 133 0 = 1 := by rw [mo_up_ne (by decide), hx2 133 (by decide)]; exact h133
  have ho : cw_ol T2 11 := Or.inr (Or.inr ⟨rfl, by rw [hx2 133 (by decide)]; exact h133⟩)
  have ho' : cw_ol (mo_up T2 122 0 0) 11 := Or.inr (Or.inr ⟨rfl, h133'⟩)
  have sA : sp_A (mo_up T2 122 0 0) = sp_A T := by show ((mo_up T2 122 0 0).1 62 0).toNatClampNeg = _; rw [mo_up_ne (by decide), hx2 62 (by decide)]; rfl
  have sP : sp_P (mo_up T2 122 0 0) = sp_P T := by show ((mo_up T2 122 0 0).1 1 0).toNatClampNeg = _; rw [mo_up_ne (by decide), hx2 1 (by decide)]; rfl
  have hA' : ∀ a, a < sp_A (mo_up T2 122 0 0) → ((mo_up T2 122 0 0).1 63 a).toNatClampNeg < sp_P (mo_up T2 122 0 0) := fun a ha => by
    rw [sA] at ha
    rw [sP, mo_up_ne (by decide), hx2 63 (by decide)]
    exact hA a ha
  refine ev_aload_n dX7_readClause_89 rfl rfl ?_
  refine ev_aload_n dX7_readClause_90 rfl rfl ?_
  refine ev_callV (d' := d - 1) (b := 0) (k0 := 0) (As := []) hE dX7_readClause_91 rfl kX7_formula rfl lX7_105 iX7_formula vX7_formula ((hT.at (k := 4) (i := 0) rfl).1 _ _ ob4) rfl (Nat.le_of_ble_eq_true rfl) (by omega) (c_X7_formula hE h4 (by omega) hcd hcd3 K g0 g hT) (by omega) (by omega) (fun v g' h => ?_) (fun E g' h => by obtain ⟨_, _, h, _⟩ := h; cases h)
  obtain ⟨y, fa, h1, h2, h3, h5, hT3⟩ := h
  cases h1
  have hny : ∀ k i, cw_lv (mo_up T2 122 0 0) k i → W k i ≠ y := fun k i h => hT.ne0 (show cw_lv T2 k i from h) h2
  have hT4 := hT3.fm29 hA' h133' h3 hcd3 hny (hT.K0 h2)
  refine ev_put hE dX7_readClause_94 pX7_109 ((hT3.at (k := 28) (i := 11) ho').1 _ _ ob28) (Nat.le_of_ble_eq_true rfl) rfl rfl ?_
  have hu : ∀ f y, f = 33 ∨ (115 ≤ f ∧ f ≤ 121) → (od_fm29 (mo_up T2 122 0 0) cd fa).1 f y = T2.1 f y := fun f y h => by
    rw [od_fm29_ne (by omega) (by omega), cw_up_at (by omega)]
  have hq : od_eq (od_fm29 (mo_up T2 122 0 0) cd fa) C := by
    refine od_eq.t (B := (mo_up T2 122 0 0)) ?_ (od_eq.of (((cx_eqX.r T2).up (by decide)).t (hx2.t hx0)))
    exact od_fm29_eq
  have hp : od_pq t n ci r (od_frm t n 0 p) (od_fm29 (mo_up T2 122 0 0) cd fa) := by
    unfold od_frm
    cases hr : ps_sum t n 8 p with
    | inl e =>
      rw [hr] at q9
      exact q9.1.cg2 (fun f y h => hu f y (by omega))
    | inr v =>
      obtain ⟨h, L, Cl, F⟩ := v
      rw [hr] at q9
      obtain ⟨q1, q2, q3, q4, q5, q6⟩ := q9
      have ecd : cd = Cl.length := by
        have e := hcd.symm.trans q3
        have := q1.le
        have := mo_niinj (by omega) (by omega) e
        omega
      subst ecd
      refine ⟨q1.cg2 (fun f y h1 h2 => hu f y (by omega)), ⟨?_, by rw [hu 33 0 (by omega), q2 33 (by decide)]; exact hc.2⟩, ?_⟩
      · rw [od_fm29_ne (by decide) (by decide), mo_up_at, pk_us]
      refine ((hS.x hx2).x ((cx_eqX.r T2).up (by decide)) : od_S (mo_up T2 122 0 0) 11 r).st (w0 := 0) rfl (by decide) ?_ ?_
      · refine ⟨fun _ => ⟨od_fm29_L, hcd3, fun j hj => ?_⟩, fun e => absurd e (by decide), fun e => absurd e (by decide), fun e => absurd e (by decide)⟩
        exact (od_fm29_F (Nat.lt_of_lt_of_le hj hcd3)).trans ((h5 j hj).trans (by have e := q6 j hj; rw [Nat.zero_add] at e; exact e))
      · intro w hw e f y hcl
        rw [od_fm29_ne (fun q => by unfold od_cl at hcl; omega) (fun q => by unfold od_cl at hcl; omega)]
  refine ev_goto (tgt := 235) dX7_readClause_97 (by decide) ?_
  exact ev_vret dX7_readClause_235 rfl ⟨_, _, ⟨cw_wf_W (Or.inl rfl), rfl, hq, hp⟩, hT4⟩
theorem od_c2 {v3 : Option Value} (hE : ev_En G) (h4 : ev_En4 G D0) (hd : 61 ≤ d) (H : od_H G C T t n p r) (hT : cw_T G K g0 W g T) : ev_V G d 1 300 mX7_readClause (od_pst G W K g0 C t n ci r (od_frm t n 4 p)) g 109 [some (.ref (W 4 0)), some (.ref (W 28 11)), some (.int (nI ci)), v3] [] := by
  obtain ⟨hx0, hG, hc, h133, hS, hA⟩ := id H
  refine ev_aload_n dX7_readClause_109 rfl rfl ?_
  refine ev_iconst (v := nI 0) dX7_readClause_110 (by decide) ?_
  refine cw_callr1 (d' := d - 1) (b := 1) (n0 := 300) hE hT dX7_readClause_111 rfl kX7_readSum lX7_102 iX7_readSum vX7_readSum (k := 4) (i := 0) rfl ob4 rfl (Nat.le_of_ble_eq_true rfl) (by omega) (rd_sum hE h4 8 0 (d - 1) rfl (by omega) T t n p 0 ⟨hG, hc.1, Nat.zero_le _⟩) (Nat.le_refl _) (Nat.le_refl _) (fun v9 W9 T2 g q9 hT => ?_) (fun E W2 C2 g q9 _ => by obtain ⟨_, h9, _⟩ := q9; cases h9)
  obtain ⟨e8, e9, q9⟩ := q9
  have q9 : rd_Q T t n p 0 (ps_sum t n 8 p) T2 := q9
  have e7 := e8.symm
  subst e7
  cases e9
  have hx2 : cx_eqX rd_Xs T2 T := by
    cases hr : ps_sum t n 8 p with
    | inl e => rw [hr] at q9; exact q9.2.2
    | inr v => rw [hr] at q9; exact q9.2.1.mono (by decide)
  obtain ⟨cd, hcd, hcd3⟩ : rd_cd T2 := by
    cases hr : ps_sum t n 8 p with
    | inl e => rw [hr] at q9; exact q9.2.1
    | inr v =>
      rw [hr] at q9
      have := q9.1.le
      have := q9.2.2.2.1
      exact ⟨_, q9.2.2.1, by omega⟩
  have h133' : (mo_up T2 122 0 0).1 133 0 = 1 := by rw [mo_up_ne (by decide), hx2 133 (by decide)]; exact h133
  have ho : cw_ol T2 11 := Or.inr (Or.inr ⟨rfl, by rw [hx2 133 (by decide)]; exact h133⟩)
  have ho' : cw_ol (mo_up T2 122 0 0) 11 := Or.inr (Or.inr ⟨rfl, h133'⟩)
  have sA : sp_A (mo_up T2 122 0 0) = sp_A T := by show ((mo_up T2 122 0 0).1 62 0).toNatClampNeg = _; rw [mo_up_ne (by decide), hx2 62 (by decide)]; rfl
  have sP : sp_P (mo_up T2 122 0 0) = sp_P T := by show ((mo_up T2 122 0 0).1 1 0).toNatClampNeg = _; rw [mo_up_ne (by decide), hx2 1 (by decide)]; rfl
  have hA' : ∀ a, a < sp_A (mo_up T2 122 0 0) → ((mo_up T2 122 0 0).1 63 a).toNatClampNeg < sp_P (mo_up T2 122 0 0) := fun a ha => by
    rw [sA] at ha
    rw [sP, mo_up_ne (by decide), hx2 63 (by decide)]
    exact hA a ha
  refine ev_aload_n dX7_readClause_114 rfl rfl ?_
  refine ev_aload_n dX7_readClause_115 rfl rfl ?_
  refine ev_callV (d' := d - 1) (b := 0) (k0 := 0) (As := []) hE dX7_readClause_116 rfl kX7_formula rfl lX7_105 iX7_formula vX7_formula ((hT.at (k := 4) (i := 0) rfl).1 _ _ ob4) rfl (Nat.le_of_ble_eq_true rfl) (by omega) (c_X7_formula hE h4 (by omega) hcd hcd3 K g0 g hT) (by omega) (by omega) (fun v g' h => ?_) (fun E g' h => by obtain ⟨_, _, h, _⟩ := h; cases h)
  obtain ⟨y, fa, h1, h2, h3, h5, hT3⟩ := h
  cases h1
  have hny : ∀ k i, cw_lv (mo_up T2 122 0 0) k i → W k i ≠ y := fun k i h => hT.ne0 (show cw_lv T2 k i from h) h2
  have hT4 := hT3.fm30 hA' h133' h3 hcd3 hny (hT.K0 h2)
  refine ev_put hE dX7_readClause_119 pX7_115 ((hT3.at (k := 28) (i := 11) ho').1 _ _ ob28) (Nat.le_of_ble_eq_true rfl) rfl rfl ?_
  have hu : ∀ f y, f = 33 ∨ (115 ≤ f ∧ f ≤ 121) → (mo_up (od_fm30 (mo_up T2 122 0 0) cd fa) 100 11 (nI ci)).1 f y = T2.1 f y := fun f y h => by
    rw [cw_up_at (by omega), od_fm30_ne (by omega) (by omega) (by omega), cw_up_at (by omega)]
  have hq : od_eq (mo_up (od_fm30 (mo_up T2 122 0 0) cd fa) 100 11 (nI ci)) C := by
    refine od_eq.t (B := (mo_up T2 122 0 0)) ?_ (od_eq.of (((cx_eqX.r T2).up (by decide)).t (hx2.t hx0)))
    exact od_fm30_eq.up (by unfold od_at; omega)
  have hp : od_pq t n ci r (od_frm t n 4 p) (mo_up (od_fm30 (mo_up T2 122 0 0) cd fa) 100 11 (nI ci)) := by
    unfold od_frm
    cases hr : ps_sum t n 8 p with
    | inl e =>
      rw [hr] at q9
      exact q9.1.cg2 (fun f y h => hu f y (by omega))
    | inr v =>
      obtain ⟨h, L, Cl, F⟩ := v
      rw [hr] at q9
      obtain ⟨q1, q2, q3, q4, q5, q6⟩ := q9
      have ecd : cd = Cl.length := by
        have e := hcd.symm.trans q3
        have := q1.le
        have := mo_niinj (by omega) (by omega) e
        omega
      subst ecd
      refine ⟨q1.cg2 (fun f y h1 h2 => hu f y (by omega)), ⟨?_, by rw [hu 33 0 (by omega), q2 33 (by decide)]; exact hc.2⟩, ?_⟩
      · rw [mo_up_ne (by decide), od_fm30_ne (by decide) (by decide) (by decide), mo_up_at, pk_us]
      refine ((hS.x hx2).x ((cx_eqX.r T2).up (by decide)) : od_S (mo_up T2 122 0 0) 11 r).st (w0 := 4) rfl (by decide) ?_ ?_
      · refine ⟨fun e => absurd e (by decide), fun _ e => absurd e (by decide), fun _ => ⟨?_, ?_, fun _ => ⟨?_, hcd3, fun j hj => ?_⟩⟩, fun e => absurd e (by decide)⟩
        · rw [mo_up_ne (by decide), od_fm30_1]; rfl
        · rw [mo_up_at, pk_us]; rfl
        · rw [mo_up_ne (by decide), od_fm30_L]; rfl
        · rw [mo_up_ne (by decide)]
          exact (od_fm30_F (Nat.lt_of_lt_of_le hj hcd3)).trans ((h5 j hj).trans (by have e := q6 j hj; rw [Nat.zero_add] at e; exact e))
      · intro w hw e f y hcl
        rw [cw_up_at (fun q => by unfold od_cl at hcl; omega), od_fm30_ne (fun q => by unfold od_cl at hcl; omega) (fun q => by unfold od_cl at hcl; omega) (fun q => by unfold od_cl at hcl; omega)]
  have e28 : (cw_wf W 30 y) 28 11 = W 28 11 := if_neg (fun q => absurd q.1 (by decide))
  have ho4 : cw_ol (od_fm30 (mo_up T2 122 0 0) cd fa) 11 := Or.inr (Or.inr ⟨rfl, by rw [od_fm30_ne (by decide) (by decide) (by decide)]; exact h133'⟩)
  refine ev_aload_n dX7_readClause_122 rfl rfl ?_
  refine ev_iload_n dX7_readClause_123 rfl rfl ?_
  rw [← e28]
  refine cw_putf (k := 28) (i := 11) (f := 100) (x := 11) hE (by rw [e28]; exact hT4) dX7_readClause_124 pX7_118 ho4 ob28 (Nat.le_of_ble_eq_true rfl) rfl rfl rfl (by decide) (by decide) pu28_3 (fun g hT => ?_)
  refine ev_goto (tgt := 235) dX7_readClause_127 (by decide) ?_
  exact ev_vret dX7_readClause_235 rfl ⟨_, _, ⟨cw_wf_W (Or.inr rfl), rfl, hq, hp⟩, hT⟩
end QS
theorem c_X7_readClause {G : ev_G} {W : cw_W} {d D0 n p ci : Nat} {C : mo_S} {t : Nat → Nat} {r : od_R} (hE : ev_En G) (h4 : ev_En4 G D0) (hd : 61 ≤ d) (hG : rd_G C t n p) (hc : C.1 122 0 = 0 ∧ C.1 33 0 = -1) (h133 : C.1 133 0 = 1) (hA : ∀ a, a < sp_A C → (C.1 63 a).toNatClampNeg < sp_P C) (hci : ci ≤ 12) (hS : od_S C 11 r) : cw_R G W d 1 300 mX7_readClause [.ref (W 4 0), .ref (W 28 11), .int (nI ci)] C (fun o W2 C2 => od_W W2 W ∧ o = .inl none ∧ od_eq C2 C ∧ od_pq t n ci r (od_cc t n p ci) C2) := by
  refine cw_startR (lv0 := [some (.ref (W 4 0)), some (.ref (W 28 11)), some (.int (nI ci)), none]) (by decide +kernel) rfl (Nat.le_of_ble_eq_true rfl) rfl ?_
  intro K g0 g hT
  have ht := hG.1.2.2.2
  have hw : rd_wf t n p rd_L100 = ps_fnd t n p ps_cn 10 := rd_wf100 ht
  refine ev_aload_n dX7_readClause_0 rfl rfl ?_
  refine ev_ldcS dX7_readClause_1 (h4.2.2.2.2.2.2.1 (100, rd_L100) (by decide)) (fun a ha => ?_)
  refine cw_call1 (d' := d - 1) hE hT dX7_readClause_3 rfl kX7_wordAmong lX7_92 iX7_wordAmong vX7_wordAmong (k := 4) (i := 0) rfl ob4 rfl (Nat.le_of_ble_eq_true rfl) (by omega) (c_X7_wordAmong_G hE h4 (by omega) hG ha) (fun g hT => ?_)
  rw [hw]
  refine ev_istore_n dX7_readClause_6 rfl (Nat.le_of_ble_eq_true rfl) rfl ?_
  refine ev_iload_n dX7_readClause_7 rfl rfl ?_
  refine ev_iconst (v := -1) dX7_readClause_8 (by decide) ?_
  cases hk : ps_fnd t n p ps_cn 10 with
  | none =>
    refine ev_icmp_ne (tgt := 18) dX7_readClause_9 (by decide) (fun c => absurd rfl c) (fun _ => ?_)
    refine ev_aload_n dX7_readClause_12 rfl rfl ?_
    refine ev_iconst (v := nI 1) dX7_readClause_13 (by decide) ?_
    refine cw_call1 (d' := d - 1) hE hT dX7_readClause_14 rfl kX7_fail lX7_75 iX7_fail vX7_fail (k := 4) (i := 0) rfl ob4 rfl (Nat.le_of_ble_eq_true rfl) (by omega) (c_X7_fail hE) (fun g hT => ?_)
    have hq := rd_fail_G 1 (by decide) (by decide) hG
    refine ev_vret dX7_readClause_17 rfl ⟨W, _, ⟨od_W.r W, rfl, od_eq.of (hq.2.mono (by decide)), ?_⟩, hT⟩
    unfold od_cc
    by_cases z : ci < 12
    · rw [if_pos z]
      unfold od_cb
      rw [hk]
      exact hq.1
    · rw [if_neg z, hk]
      exact hq.1
  | some k =>
    obtain ⟨hk10, hkw⟩ := ps_fnd_lt hk
    obtain ⟨hpn, hbh⟩ := rd_wd_bh ht hkw (od_cn_l k hk10).1 (od_cn_l k hk10).2
    refine ev_icmp_ne (tgt := 18) dX7_readClause_9 (by decide) (fun _ => ?_) (fun c => absurd c (cj_ne (by omega) (by decide)))
    refine ev_iload_n dX7_readClause_18 rfl rfl ?_
    refine ev_bipush (v := 12) dX7_readClause_19 (by decide) ?_
    by_cases z : ci < 12
    · refine ev_icmp_lt (tgt := 30) dX7_readClause_21 (by decide) (fun _ => ?_) (fun c => absurd (nI_lt (b := 12) z (by decide)) c)
      refine ev_aload_n dX7_readClause_30 rfl rfl ?_
      refine cw_callr0 (d' := d - 1) (b := 1) (n0 := 300) hE hT dX7_readClause_31 rfl kX7_next lX7_48 iX7_next vX7_next (k := 4) (i := 0) rfl ob4 rfl (Nat.le_of_ble_eq_true rfl) (by omega) (c_X7_next (d := d - 1) hE (by omega) hG.1 hG.2.1 (by rw [hG.2.2.2.2.2, hbh]) (by have := (rd_bh_in (t := t) hG.2.2.1).2; omega)) (Nat.le_refl _) (Nat.le_refl _) (fun v9 W9 T g q9 hT => ?_) (fun E W2 C2 g q9 _ => by cases q9.2.1)
      obtain ⟨e8, e9, hx9, hT9⟩ := q9
      have e7 := e8.symm
      subst e7
      cases e9
      have hG1 := rd_next_G hG.1 hG.2.1 hx9 hT9
      have H : od_H G C T t n (ps_skn t n (p + (ps_cn k).length)) r := ⟨hx9.mono (by decide), hG1, ⟨by rw [hx9 122 (by decide)]; exact hc.1, by rw [hx9 33 (by decide)]; exact hc.2⟩, by rw [hx9 133 (by decide)]; exact h133, hS.x (hx9.mono (by decide)), fun a ha => by
        have sA : sp_A T = sp_A C := by show (T.1 62 0).toNatClampNeg = _; rw [hx9 62 (by decide)]; rfl
        have sP : sp_P T = sp_P C := by show (T.1 1 0).toNatClampNeg = _; rw [hx9 1 (by decide)]; rfl
        rw [sA] at ha
        rw [sP, hx9 63 (by decide)]
        exact hA a ha⟩
      refine ev_iload_n dX7_readClause_34 rfl rfl ?_
      show ev_V G d 1 300 mX7_readClause (od_pst G W K g0 C t n ci r (od_cc t n p ci)) _ _ _ _
      have ecc : od_cc t n p ci = od_cb t n p := if_pos z
      rw [ecc]
      unfold od_cb
      rw [hk]
      obtain rfl | rfl | rfl | rfl | rfl | rfl | rfl | rfl | rfl | rfl : k = 0 ∨ k = 1 ∨ k = 2 ∨ k = 3 ∨ k = 4 ∨ k = 5 ∨ k = 6 ∨ k = 7 ∨ k = 8 ∨ k = 9 := by omega
      · refine ev_tableIn (tgt := 84) (off := 49) dX7_readClause_35 (by decide) (by decide) (by rfl) (by decide) ?_
        exact od_c0 hE h4 hd H hT
      · refine ev_tableIn (tgt := 100) (off := 65) dX7_readClause_35 (by decide) (by decide) (by rfl) (by decide) ?_
        exact od_c1 hE h4 hd H hT
      · refine ev_tableIn (tgt := 109) (off := 74) dX7_readClause_35 (by decide) (by decide) (by rfl) (by decide) ?_
        exact od_c2 hE h4 hd H hT
      · refine ev_tableIn (tgt := 130) (off := 95) dX7_readClause_35 (by decide) (by decide) (by rfl) (by decide) ?_
        exact od_c3 hE h4 hd H hT
      · refine ev_tableIn (tgt := 145) (off := 110) dX7_readClause_35 (by decide) (by decide) (by rfl) (by decide) ?_
        exact od_c4 hE h4 hd H hT
      · refine ev_tableIn (tgt := 160) (off := 125) dX7_readClause_35 (by decide) (by decide) (by rfl) (by decide) ?_
        exact od_c5 hE h4 hd H hT
      · refine ev_tableIn (tgt := 174) (off := 139) dX7_readClause_35 (by decide) (by decide) (by rfl) (by decide) ?_
        exact od_c6 hE h4 hd H hT
      · refine ev_tableIn (tgt := 188) (off := 153) dX7_readClause_35 (by decide) (by decide) (by rfl) (by decide) ?_
        exact od_c7 hE h4 hd H hT
      · refine ev_tableIn (tgt := 203) (off := 168) dX7_readClause_35 (by decide) (by decide) (by rfl) (by decide) ?_
        exact od_c8 hE h4 hd H hT
      · refine ev_tableOut (tgt := 225) dX7_readClause_35 (Or.inr (by decide)) (by decide) ?_
        exact od_c9 hE h4 hd H hT
    · refine ev_icmp_lt (tgt := 30) dX7_readClause_21 (by decide) (fun c => absurd c (nI_nlt (a := ci) (b := 12) (by omega) (by omega))) (fun _ => ?_)
      refine ev_aload_n dX7_readClause_24 rfl rfl ?_
      refine ev_iconst (v := nI 3) dX7_readClause_25 (by decide) ?_
      refine cw_call1 (d' := d - 1) hE hT dX7_readClause_26 rfl kX7_fail lX7_75 iX7_fail vX7_fail (k := 4) (i := 0) rfl ob4 rfl (Nat.le_of_ble_eq_true rfl) (by omega) (c_X7_fail hE) (fun g hT => ?_)
      have hq := rd_fail_G 3 (by decide) (by decide) hG
      refine ev_vret dX7_readClause_29 rfl ⟨W, _, ⟨od_W.r W, rfl, od_eq.of (hq.2.mono (by decide)), ?_⟩, hT⟩
      unfold od_cc
      rw [if_neg z, hk]
      exact hq.1
end RQ
