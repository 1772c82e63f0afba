section CI
section RS
variable {G : ev_G} {d bc bs : Nat} {M : ev_M} {Post : ev_P} {g : ev_H} {pc : Nat} {lv : List (Option Value)} {st : List Value}
theorem ev_put2 {index ci j : Nat} {ty : FieldType} {a : Nat} {fs : List Value} {v : Value} (hE : ev_En G) (hd : decode M.2.1 pc = .ok (.putfield index, 3)) (hF : ev_F M.1.cls index ci j ty false) (hg : g a = some (.inr (ci, fs))) (hl0 : j < fs.length) (hn : narrow ty v = v) (hf : fits ty v = true) (k : ∀ g' : ev_H, g' a = some (.inr (ci, fs.set j v)) → (∀ b, b ≠ a → g' b = g b) → ev_V G d bc bs M Post g' (pc + 3) lv st) : ev_V G d bc bs M Post g pc lv (v :: .ref a :: st) :=
  ev_put hE hd hF hg hl0 hn hf (k _ (ev_up_s _ _ _) (fun _ hb => ev_up_n _ _ hb))
theorem ev_putF2 {index ci j : Nat} {ty : FieldType} {a : Nat} {fs : List Value} {v : Value} (hE : ev_En G) (hi : M.1.name = "<init>") (hd : decode M.2.1 pc = .ok (.putfield index, 3)) (hF : ev_F M.1.cls index ci j ty true) (hg : g a = some (.inr (ci, fs))) (hl0 : j < fs.length) (hn : narrow ty v = v) (hf : fits ty v = true) (k : ∀ g' : ev_H, g' a = some (.inr (ci, fs.set j v)) → (∀ b, b ≠ a → g' b = g b) → ev_V G d bc bs M Post g' (pc + 3) lv st) : ev_V G d bc bs M Post g pc lv (v :: .ref a :: st) :=
  ev_putF hE hi hd hF hg hl0 hn hf (k _ (ev_up_s _ _ _) (fun _ hb => ev_up_n _ _ hb))
theorem ev_new2 {index ci b n : Nat} {fs : List Value} (hE : ev_En G) (hd : decode M.2.1 pc = .ok (.new index, 3)) (hN : ev_N M.1.cls index ci fs) (hb : b + 1 ≤ bc) (hn : n + fs.length ≤ bs) (k : ∀ (q : Nat) (g' : ev_H), g q = none → g' q = some (.inr (ci, fs)) → (∀ b, b ≠ q → g' b = g b) → ev_V G d b n M Post g' (pc + 3) lv (.ref q :: st)) : ev_V G d bc bs M Post g pc lv st :=
  ev_new hE hd hN hb hn (fun q hq => k q _ hq (ev_up_s _ _ _) (fun _ hb => ev_up_n _ _ hb))
theorem ev_newa2_int {b n N : Nat} {x : Int32} (hE : ev_En G) (hd : decode M.2.1 pc = .ok (.newarray .int, 2)) (hw : Cond.arrayClass .int ∈ ev_T) (hx : ¬ x < 0) (hN : x.toNatClampNeg = N) (hby : N * componentBytes .int ≤ 536870912) (hb : b + 1 ≤ bc) (hn : n + N ≤ bs) (k : ∀ (q : Nat) (g' : ev_H), g q = none → g' q = some (.inl (G.2.2.2 0, N, .inl (fun _ => 0))) → (∀ b, b ≠ q → g' b = g b) → ev_V G d b n M Post g' (pc + 2) lv (.ref q :: st)) : ev_V G d bc bs M Post g pc lv (.int x :: st) :=
  ev_newa_int hE hd hw hx hN hby hb hn (fun q hq => k q _ hq (ev_up_s _ _ _) (fun _ hb => ev_up_n _ _ hb))
theorem ev_newa2_long {b n N : Nat} {x : Int32} (hE : ev_En G) (hd : decode M.2.1 pc = .ok (.newarray .long, 2)) (hw : Cond.arrayClass .long ∈ ev_T) (hx : ¬ x < 0) (hN : x.toNatClampNeg = N) (hby : N * componentBytes .long ≤ 536870912) (hb : b + 1 ≤ bc) (hn : n + N ≤ bs) (k : ∀ (q : Nat) (g' : ev_H), g q = none → g' q = some (.inl (G.2.2.2 1, N, .inr (.inl (fun _ => 0)))) → (∀ b, b ≠ q → g' b = g b) → ev_V G d b n M Post g' (pc + 2) lv (.ref q :: st)) : ev_V G d bc bs M Post g pc lv (.int x :: st) :=
  ev_newa_long hE hd hw hx hN hby hb hn (fun q hq => k q _ hq (ev_up_s _ _ _) (fun _ hb => ev_up_n _ _ hb))
theorem ev_newg2 {index b n N D0 : Nat} {x : Int32} (hE : ev_En G) (h4 : ev_En4 G D0) (hd : decode M.2.1 pc = .ok (.anewarray index, 3)) (hl0 : Cond.classLink M.1.cls index "[I" ∈ ev_T) (hx : ¬ x < 0) (hN : x.toNatClampNeg = N) (hby : N * 4 ≤ 536870912) (hb : b + 1 ≤ bc) (hn : n + N ≤ bs) (k : ∀ (q : Nat) (g' : ev_H), g q = none → g' q = some (.inl (G.2.2.2 5, N, .inr (.inr (.inr (.inr (fun _ => none)))))) → (∀ b, b ≠ q → g' b = g b) → ev_V G d b n M Post g' (pc + 3) lv (.ref q :: st)) : ev_V G d bc bs M Post g pc lv (.int x :: st) :=
  ev_newg hE h4 hd hl0 hx hN hby hb hn (fun q hq => k q _ hq (ev_up_s _ _ _) (fun _ hb => ev_up_n _ _ hb))
theorem ev_iast2 {i x : Int32} {n a q : Nat} {f : Nat → Int32} (hE : ev_En G) (hd : decode M.2.1 pc = .ok (.iastore, 1)) (hg : g a = some (.inl (G.2.2.2 0, n, .inl f))) (hi : i = nI q) (hq : q < n) (hn : n < 2147483648) (k : ∀ g' : ev_H, g' a = some (.inl (G.2.2.2 0, n, .inl (upd f q x))) → (∀ b, b ≠ a → g' b = g b) → ev_V G d bc bs M Post g' (pc + 1) lv st) : ev_V G d bc bs M Post g pc lv (.int x :: .int i :: .ref a :: st) := by
  subst hi
  refine ev_iast hE hd hg (vp_in_nI hq hn) ?_
  rw [nI_clamp (by omega)]
  exact k _ (ev_up_s _ _ _) (fun _ hb => ev_up_n _ _ hb)
end RS
theorem c_X8_init {G : ev_G} {d D0 : Nat} {g0 : ev_H} {q : Nat} {x1 : Int32} (hE : ev_En G) (h4 : ev_En4 G D0) (hd : 1 ≤ d) (H_q : g0 q = some (.inr (9, [.int 0, .int 0]))) : ev_C G d 0 0 mX8_init [.ref q, .int x1] g0 (fun o g' => o = .inl none ∧ g' q = some (.inr (9, [.int x1, .int (-1)])) ∧ ∀ b e, b ≠ q → g0 b = some e → g' b = some e) := by
  refine ev_start (lv0 := [some (.ref q), some (.int x1)]) (by decide +kernel) rfl (Nat.le_of_ble_eq_true rfl) rfl ?_
  have HO : ∀ b e, b ≠ q → g0 b = some e → g0 b = some e := fun _ _ _ h => h
  refine ev_aload_n dX8_init_0 rfl rfl ?_
  refine ev_objI dX8_init_1 loX8 (Nat.le_of_ble_eq_true rfl) (by omega) ?_
  refine ev_aload_n dX8_init_4 rfl rfl ?_
  refine ev_iconst (v := (-1)) dX8_init_5 (by decide) ?_
  refine ev_put2 hE dX8_init_6 pX8_9 H_q (Nat.le_of_ble_eq_true rfl) rfl rfl (fun g k1 k2 => ?_)
  have H_q : g q = some (.inr (9, [.int 0, .int (-1)])) := k1
  have HO : ∀ b e, b ≠ q → g0 b = some e → g b = some e := fun b e hb h => (k2 b hb).trans (HO b e hb h)
  refine ev_aload_n dX8_init_9 rfl rfl ?_
  refine ev_iload_n dX8_init_10 rfl rfl ?_
  refine ev_putF2 hE rfl dX8_init_11 pX8_15 H_q (Nat.le_of_ble_eq_true rfl) rfl rfl (fun g k1 k2 => ?_)
  have H_q : g q = some (.inr (9, [.int x1, .int (-1)])) := k1
  have HO : ∀ b e, b ≠ q → g0 b = some e → g b = some e := fun b e hb h => (k2 b hb).trans (HO b e hb h)
  exact ev_vret dX8_init_14 rfl ⟨rfl, H_q, HO⟩
theorem c_X1_init {G : ev_G} {d D0 : Nat} {g0 : ev_H} {q : Nat}  (hE : ev_En G) (h4 : ev_En4 G D0) (hd : 1 ≤ d) (H_q : g0 q = some (.inr (2, [.int 0, .int 0, .int 0, .int 0, .int 0]))) : ev_C G d 0 0 mX1_init [.ref q] g0 (fun o g' => o = .inl none ∧ g' q = some (.inr (2, [.int 0, .int (-1), .int 0, .int (-1), .int (-1)])) ∧ ∀ b e, b ≠ q → g0 b = some e → g' b = some e) := by
  refine ev_start (lv0 := [some (.ref q)]) (by decide +kernel) rfl (Nat.le_of_ble_eq_true rfl) rfl ?_
  have HO : ∀ b e, b ≠ q → g0 b = some e → g0 b = some e := fun _ _ _ h => h
  refine ev_aload_n dX1_init_0 rfl rfl ?_
  refine ev_objI dX1_init_1 loX1 (Nat.le_of_ble_eq_true rfl) (by omega) ?_
  refine ev_aload_n dX1_init_4 rfl rfl ?_
  refine ev_iconst (v := 0) dX1_init_5 (by decide) ?_
  refine ev_put2 hE dX1_init_6 pX1_9 H_q (Nat.le_of_ble_eq_true rfl) rfl rfl (fun g k1 k2 => ?_)
  have H_q : g q = some (.inr (2, [.int 0, .int 0, .int 0, .int 0, .int 0])) := k1
  have HO : ∀ b e, b ≠ q → g0 b = some e → g b = some e := fun b e hb h => (k2 b hb).trans (HO b e hb h)
  refine ev_aload_n dX1_init_9 rfl rfl ?_
  refine ev_iconst (v := (-1)) dX1_init_10 (by decide) ?_
  refine ev_put2 hE dX1_init_11 pX1_15 H_q (Nat.le_of_ble_eq_true rfl) rfl rfl (fun g k1 k2 => ?_)
  have H_q : g q = some (.inr (2, [.int 0, .int (-1), .int 0, .int 0, .int 0])) := k1
  have HO : ∀ b e, b ≠ q → g0 b = some e → g b = some e := fun b e hb h => (k2 b hb).trans (HO b e hb h)
  refine ev_aload_n dX1_init_14 rfl rfl ?_
  refine ev_iconst (v := 0) dX1_init_15 (by decide) ?_
  refine ev_put2 hE dX1_init_16 pX1_18 H_q (Nat.le_of_ble_eq_true rfl) rfl rfl (fun g k1 k2 => ?_)
  have H_q : g q = some (.inr (2, [.int 0, .int (-1), .int 0, .int 0, .int 0])) := k1
  have HO : ∀ b e, b ≠ q → g0 b = some e → g b = some e := fun b e hb h => (k2 b hb).trans (HO b e hb h)
  refine ev_aload_n dX1_init_19 rfl rfl ?_
  refine ev_iconst (v := (-1)) dX1_init_20 (by decide) ?_
  refine ev_put2 hE dX1_init_21 pX1_21 H_q (Nat.le_of_ble_eq_true rfl) rfl rfl (fun g k1 k2 => ?_)
  have H_q : g q = some (.inr (2, [.int 0, .int (-1), .int 0, .int (-1), .int 0])) := k1
  have HO : ∀ b e, b ≠ q → g0 b = some e → g b = some e := fun b e hb h => (k2 b hb).trans (HO b e hb h)
  refine ev_aload_n dX1_init_24 rfl rfl ?_
  refine ev_iconst (v := (-1)) dX1_init_25 (by decide) ?_
  refine ev_put2 hE dX1_init_26 pX1_24 H_q (Nat.le_of_ble_eq_true rfl) rfl rfl (fun g k1 k2 => ?_)
  have H_q : g q = some (.inr (2, [.int 0, .int (-1), .int 0, .int (-1), .int (-1)])) := k1
  have HO : ∀ b e, b ≠ q → g0 b = some e → g b = some e := fun b e hb h => (k2 b hb).trans (HO b e hb h)
  exact ev_vret dX1_init_29 rfl ⟨rfl, H_q, HO⟩
theorem c_X9_init {G : ev_G} {d D0 : Nat} {g0 : ev_H} {q : Nat}  (hE : ev_En G) (h4 : ev_En4 G D0) (hd : 1 ≤ d) (H_q : g0 q = some (.inr (10, [.null, .null, .int 0]))) : ev_C G d 2 16 mX9_init [.ref q] g0 (fun o g' => o = .inl none ∧ ∃ a1 a2 : Nat, g' q = some (.inr (10, [.ref a1, .ref a2, .int 0])) ∧ (g0 a1 = none ∧ g' a1 = some (.inl (G.2.2.2 0, 8, .inl (fun _ => 0)))) ∧ (g0 a2 = none ∧ g' a2 = some (.inl (G.2.2.2 0, 8, .inl (fun _ => 0)))) ∧ (a1 ≠ a2) ∧ ∀ b e, b ≠ q → g0 b = some e → g' b = some e) := by
  refine ev_start (lv0 := [some (.ref q)]) (by decide +kernel) rfl (Nat.le_of_ble_eq_true rfl) rfl ?_
  have HO : ∀ b e, b ≠ q → g0 b = some e → g0 b = some e := fun _ _ _ h => h
  refine ev_aload_n dX9_init_0 rfl rfl ?_
  refine ev_objI dX9_init_1 loX9 (Nat.le_of_ble_eq_true rfl) (by omega) ?_
  refine ev_aload_n dX9_init_4 rfl rfl ?_
  refine ev_bipush (v := 8) dX9_init_5 (by decide) ?_
  refine ev_newa2_int (N := 8) (b := 1) (n := 8) hE dX9_init_7 a_int (by decide) (by decide) (by decide) (by decide) (by decide) (fun a1 g k0 k1 k2 => ?_)
  have H_a1 : g a1 = some (.inl (G.2.2.2 0, 8, .inl (fun _ => 0))) := k1
  have N_q_a1 : q ≠ a1 := fun z => by rw [← z, H_q] at k0; cases k0
  have N_a1_q : a1 ≠ q := fun z => N_q_a1 z.symm
  have F_a1 : g0 a1 = none := by
    cases z : g0 a1 with
    | none => rfl
    | some e => rw [HO a1 e N_a1_q z] at k0; cases k0
  have H_q := (k2 _ N_q_a1).trans H_q
  have HO : ∀ b e, b ≠ q → g0 b = some e → g b = some e := fun b e hb h => (k2 b (fun z => by rw [z, F_a1] at h; cases h)).trans (HO b e hb h)
  refine ev_putF2 hE rfl dX9_init_9 pX9_11 H_q (Nat.le_of_ble_eq_true rfl) rfl rfl (fun g k1 k2 => ?_)
  have H_q : g q = some (.inr (10, [.ref a1, .null, .int 0])) := k1
  have H_a1 := (k2 _ N_a1_q).trans H_a1
  have HO : ∀ b e, b ≠ q → g0 b = some e → g b = some e := fun b e hb h => (k2 b hb).trans (HO b e hb h)
  refine ev_aload_n dX9_init_12 rfl rfl ?_
  refine ev_bipush (v := 8) dX9_init_13 (by decide) ?_
  refine ev_newa2_int (N := 8) (b := 0) (n := 0) hE dX9_init_15 a_int (by decide) (by decide) (by decide) (by decide) (by decide) (fun a2 g k0 k1 k2 => ?_)
  have H_a2 : g a2 = some (.inl (G.2.2.2 0, 8, .inl (fun _ => 0))) := k1
  have N_q_a2 : q ≠ a2 := fun z => by rw [← z, H_q] at k0; cases k0
  have N_a2_q : a2 ≠ q := fun z => N_q_a2 z.symm
  have N_a1_a2 : a1 ≠ a2 := fun z => by rw [← z, H_a1] at k0; cases k0
  have N_a2_a1 : a2 ≠ a1 := fun z => N_a1_a2 z.symm
  have F_a2 : g0 a2 = none := by
    cases z : g0 a2 with
    | none => rfl
    | some e => rw [HO a2 e N_a2_q z] at k0; cases k0
  have H_q := (k2 _ N_q_a2).trans H_q
  have H_a1 := (k2 _ N_a1_a2).trans H_a1
  have HO : ∀ b e, b ≠ q → g0 b = some e → g b = some e := fun b e hb h => (k2 b (fun z => by rw [z, F_a2] at h; cases h)).trans (HO b e hb h)
  refine ev_putF2 hE rfl dX9_init_17 pX9_15 H_q (Nat.le_of_ble_eq_true rfl) rfl rfl (fun g k1 k2 => ?_)
  have H_q : g q = some (.inr (10, [.ref a1, .ref a2, .int 0])) := k1
  have H_a1 := (k2 _ N_a1_q).trans H_a1
  have H_a2 := (k2 _ N_a2_q).trans H_a2
  have HO : ∀ b e, b ≠ q → g0 b = some e → g b = some e := fun b e hb h => (k2 b hb).trans (HO b e hb h)
  refine ev_aload_n dX9_init_20 rfl rfl ?_
  refine ev_iconst (v := 0) dX9_init_21 (by decide) ?_
  refine ev_put2 hE dX9_init_22 pX9_18 H_q (Nat.le_of_ble_eq_true rfl) rfl rfl (fun g k1 k2 => ?_)
  have H_q : g q = some (.inr (10, [.ref a1, .ref a2, .int 0])) := k1
  have H_a1 := (k2 _ N_a1_q).trans H_a1
  have H_a2 := (k2 _ N_a2_q).trans H_a2
  have HO : ∀ b e, b ≠ q → g0 b = some e → g b = some e := fun b e hb h => (k2 b hb).trans (HO b e hb h)
  exact ev_vret dX9_init_25 rfl ⟨rfl, a1, a2, H_q, ⟨F_a1, H_a1⟩, ⟨F_a2, H_a2⟩, N_a1_a2, HO⟩
theorem c_X5_init {G : ev_G} {d D0 : Nat} {g0 : ev_H} {q : Nat} {x1 : Int32} {x2 : Int32} {x3 : Int32} {x4 : Int32} {x5 : Int32} (hE : ev_En G) (h4 : ev_En4 G D0) (hd : 2 ≤ d) (H_q : g0 q = some (.inr (6, [.int 0, .int 0, .int 0, .int 0, .int 0, .int 0, .int 0, .int 0, .int 0, .int 0, .int 0, .int 0, .int 0, .null, .null, .null, .null]))) : ev_C G d 6 41 mX5_init [.ref q, .int x1, .int x2, .int x3, .int x4, .int x5] g0 (fun o g' => o = .inl none ∧ ∃ a1 a2 a3 a4 a5 a6 : Nat, g' q = some (.inr (6, [.int x1, .int x2, .int x3, .int x4, .int x5, .int 0, .int 0, .int 0, .int 0, .int 0, .int 0, .int 0, .int 0, .ref a1, .ref a2, .ref a3, .ref a4])) ∧ (g0 a1 = none ∧ g' a1 = some (.inl (G.2.2.2 0, 5, .inl (fun _ => 0)))) ∧ (g0 a2 = none ∧ g' a2 = some (.inl (G.2.2.2 0, 12, .inl (fun _ => 0)))) ∧ (g0 a3 = none ∧ g' a3 = some (.inr (2, [.int 0, .int (-1), .int 0, .int (-1), .int (-1)]))) ∧ (g0 a4 = none ∧ g' a4 = some (.inr (10, [.ref a5, .ref a6, .int 0]))) ∧ (g0 a5 = none ∧ g' a5 = some (.inl (G.2.2.2 0, 8, .inl (fun _ => 0)))) ∧ (g0 a6 = none ∧ g' a6 = some (.inl (G.2.2.2 0, 8, .inl (fun _ => 0)))) ∧ (a1 ≠ a2 ∧ a1 ≠ a3 ∧ a1 ≠ a4 ∧ a1 ≠ a5 ∧ a1 ≠ a6) ∧ (a2 ≠ a3 ∧ a2 ≠ a4 ∧ a2 ≠ a5 ∧ a2 ≠ a6) ∧ (a3 ≠ a4 ∧ a3 ≠ a5 ∧ a3 ≠ a6) ∧ (a4 ≠ a5 ∧ a4 ≠ a6) ∧ (a5 ≠ a6) ∧ ∀ b e, b ≠ q → g0 b = some e → g' b = some e) := by
  refine ev_start (lv0 := [some (.ref q), some (.int x1), some (.int x2), some (.int x3), some (.int x4), some (.int x5)]) (by decide +kernel) rfl (Nat.le_of_ble_eq_true rfl) rfl ?_
  have HO : ∀ b e, b ≠ q → g0 b = some e → g0 b = some e := fun _ _ _ h => h
  refine ev_aload_n dX5_init_0 rfl rfl ?_
  refine ev_objI dX5_init_1 loX5 (Nat.le_of_ble_eq_true rfl) (by omega) ?_
  refine ev_aload_n dX5_init_4 rfl rfl ?_
  refine ev_iconst (v := 0) dX5_init_5 (by decide) ?_
  refine ev_put2 hE dX5_init_6 pX5_9 H_q (Nat.le_of_ble_eq_true rfl) rfl rfl (fun g k1 k2 => ?_)
  have H_q : g q = some (.inr (6, [.int 0, .int 0, .int 0, .int 0, .int 0, .int 0, .int 0, .int 0, .int 0, .int 0, .int 0, .int 0, .int 0, .null, .null, .null, .null])) := k1
  have HO : ∀ b e, b ≠ q → g0 b = some e → g b = some e := fun b e hb h => (k2 b hb).trans (HO b e hb h)
  refine ev_aload_n dX5_init_9 rfl rfl ?_
  refine ev_iconst (v := 0) dX5_init_10 (by decide) ?_
  refine ev_put2 hE dX5_init_11 pX5_15 H_q (Nat.le_of_ble_eq_true rfl) rfl rfl (fun g k1 k2 => ?_)
  have H_q : g q = some (.inr (6, [.int 0, .int 0, .int 0, .int 0, .int 0, .int 0, .int 0, .int 0, .int 0, .int 0, .int 0, .int 0, .int 0, .null, .null, .null, .null])) := k1
  have HO : ∀ b e, b ≠ q → g0 b = some e → g b = some e := fun b e hb h => (k2 b hb).trans (HO b e hb h)
  refine ev_aload_n dX5_init_14 rfl rfl ?_
  refine ev_iconst (v := 0) dX5_init_15 (by decide) ?_
  refine ev_put2 hE dX5_init_16 pX5_18 H_q (Nat.le_of_ble_eq_true rfl) rfl rfl (fun g k1 k2 => ?_)
  have H_q : g q = some (.inr (6, [.int 0, .int 0, .int 0, .int 0, .int 0, .int 0, .int 0, .int 0, .int 0, .int 0, .int 0, .int 0, .int 0, .null, .null, .null, .null])) := k1
  have HO : ∀ b e, b ≠ q → g0 b = some e → g b = some e := fun b e hb h => (k2 b hb).trans (HO b e hb h)
  refine ev_aload_n dX5_init_19 rfl rfl ?_
  refine ev_iconst (v := 0) dX5_init_20 (by decide) ?_
  refine ev_put2 hE dX5_init_21 pX5_21 H_q (Nat.le_of_ble_eq_true rfl) rfl rfl (fun g k1 k2 => ?_)
  have H_q : g q = some (.inr (6, [.int 0, .int 0, .int 0, .int 0, .int 0, .int 0, .int 0, .int 0, .int 0, .int 0, .int 0, .int 0, .int 0, .null, .null, .null, .null])) := k1
  have HO : ∀ b e, b ≠ q → g0 b = some e → g b = some e := fun b e hb h => (k2 b hb).trans (HO b e hb h)
  refine ev_aload_n dX5_init_24 rfl rfl ?_
  refine ev_iconst (v := 0) dX5_init_25 (by decide) ?_
  refine ev_put2 hE dX5_init_26 pX5_24 H_q (Nat.le_of_ble_eq_true rfl) rfl rfl (fun g k1 k2 => ?_)
  have H_q : g q = some (.inr (6, [.int 0, .int 0, .int 0, .int 0, .int 0, .int 0, .int 0, .int 0, .int 0, .int 0, .int 0, .int 0, .int 0, .null, .null, .null, .null])) := k1
  have HO : ∀ b e, b ≠ q → g0 b = some e → g b = some e := fun b e hb h => (k2 b hb).trans (HO b e hb h)
  refine ev_aload_n dX5_init_29 rfl rfl ?_
  refine ev_iconst (v := 0) dX5_init_30 (by decide) ?_
  refine ev_put2 hE dX5_init_31 pX5_27 H_q (Nat.le_of_ble_eq_true rfl) rfl rfl (fun g k1 k2 => ?_)
  have H_q : g q = some (.inr (6, [.int 0, .int 0, .int 0, .int 0, .int 0, .int 0, .int 0, .int 0, .int 0, .int 0, .int 0, .int 0, .int 0, .null, .null, .null, .null])) := k1
  have HO : ∀ b e, b ≠ q → g0 b = some e → g b = some e := fun b e hb h => (k2 b hb).trans (HO b e hb h)
  refine ev_aload_n dX5_init_34 rfl rfl ?_
  refine ev_iconst (v := 0) dX5_init_35 (by decide) ?_
  refine ev_put2 hE dX5_init_36 pX5_30 H_q (Nat.le_of_ble_eq_true rfl) rfl rfl (fun g k1 k2 => ?_)
  have H_q : g q = some (.inr (6, [.int 0, .int 0, .int 0, .int 0, .int 0, .int 0, .int 0, .int 0, .int 0, .int 0, .int 0, .int 0, .int 0, .null, .null, .null, .null])) := k1
  have HO : ∀ b e, b ≠ q → g0 b = some e → g b = some e := fun b e hb h => (k2 b hb).trans (HO b e hb h)
  refine ev_aload_n dX5_init_39 rfl rfl ?_
  refine ev_iconst (v := 0) dX5_init_40 (by decide) ?_
  refine ev_put2 hE dX5_init_41 pX5_33 H_q (Nat.le_of_ble_eq_true rfl) rfl rfl (fun g k1 k2 => ?_)
  have H_q : g q = some (.inr (6, [.int 0, .int 0, .int 0, .int 0, .int 0, .int 0, .int 0, .int 0, .int 0, .int 0, .int 0, .int 0, .int 0, .null, .null, .null, .null])) := k1
  have HO : ∀ b e, b ≠ q → g0 b = some e → g b = some e := fun b e hb h => (k2 b hb).trans (HO b e hb h)
  refine ev_aload_n dX5_init_44 rfl rfl ?_
  refine ev_iconst (v := 5) dX5_init_45 (by decide) ?_
  refine ev_newa2_int (N := 5) (b := 5) (n := 36) hE dX5_init_46 a_int (by decide) (by decide) (by decide) (by decide) (by decide) (fun a1 g k0 k1 k2 => ?_)
  have H_a1 : g a1 = some (.inl (G.2.2.2 0, 5, .inl (fun _ => 0))) := k1
  have N_q_a1 : q ≠ a1 := fun z => by rw [← z, H_q] at k0; cases k0
  have N_a1_q : a1 ≠ q := fun z => N_q_a1 z.symm
  have F_a1 : g0 a1 = none := by
    cases z : g0 a1 with
    | none => rfl
    | some e => rw [HO a1 e N_a1_q z] at k0; cases k0
  have H_q := (k2 _ N_q_a1).trans H_q
  have HO : ∀ b e, b ≠ q → g0 b = some e → g b = some e := fun b e hb h => (k2 b (fun z => by rw [z, F_a1] at h; cases h)).trans (HO b e hb h)
  refine ev_putF2 hE rfl dX5_init_48 pX5_36 H_q (Nat.le_of_ble_eq_true rfl) rfl rfl (fun g k1 k2 => ?_)
  have H_q : g q = some (.inr (6, [.int 0, .int 0, .int 0, .int 0, .int 0, .int 0, .int 0, .int 0, .int 0, .int 0, .int 0, .int 0, .int 0, .ref a1, .null, .null, .null])) := k1
  have H_a1 := (k2 _ N_a1_q).trans H_a1
  have HO : ∀ b e, b ≠ q → g0 b = some e → g b = some e := fun b e hb h => (k2 b hb).trans (HO b e hb h)
  refine ev_aload_n dX5_init_51 rfl rfl ?_
  refine ev_bipush (v := 12) dX5_init_52 (by decide) ?_
  refine ev_newa2_int (N := 12) (b := 4) (n := 24) hE dX5_init_54 a_int (by decide) (by decide) (by decide) (by decide) (by decide) (fun a2 g k0 k1 k2 => ?_)
  have H_a2 : g a2 = some (.inl (G.2.2.2 0, 12, .inl (fun _ => 0))) := k1
  have N_q_a2 : q ≠ a2 := fun z => by rw [← z, H_q] at k0; cases k0
  have N_a2_q : a2 ≠ q := fun z => N_q_a2 z.symm
  have N_a1_a2 : a1 ≠ a2 := fun z => by rw [← z, H_a1] at k0; cases k0
  have N_a2_a1 : a2 ≠ a1 := fun z => N_a1_a2 z.symm
  have F_a2 : g0 a2 = none := by
    cases z : g0 a2 with
    | none => rfl
    | some e => rw [HO a2 e N_a2_q z] at k0; cases k0
  have H_q := (k2 _ N_q_a2).trans H_q
  have H_a1 := (k2 _ N_a1_a2).trans H_a1
  have HO : ∀ b e, b ≠ q → g0 b = some e → g b = some e := fun b e hb h => (k2 b (fun z => by rw [z, F_a2] at h; cases h)).trans (HO b e hb h)
  refine ev_putF2 hE rfl dX5_init_56 pX5_40 H_q (Nat.le_of_ble_eq_true rfl) rfl rfl (fun g k1 k2 => ?_)
  have H_q : g q = some (.inr (6, [.int 0, .int 0, .int 0, .int 0, .int 0, .int 0, .int 0, .int 0, .int 0, .int 0, .int 0, .int 0, .int 0, .ref a1, .ref a2, .null, .null])) := k1
  have H_a1 := (k2 _ N_a1_q).trans H_a1
  have H_a2 := (k2 _ N_a2_q).trans H_a2
  have HO : ∀ b e, b ≠ q → g0 b = some e → g b = some e := fun b e hb h => (k2 b hb).trans (HO b e hb h)
  refine ev_aload_n dX5_init_59 rfl rfl ?_
  refine ev_new2 (b := 3) (n := 19) hE dX5_init_60 wX5_43 (by decide) (by decide) (fun a3 g k0 k1 k2 => ?_)
  have H_a3 : g a3 = some (.inr (2, [.int 0, .int 0, .int 0, .int 0, .int 0])) := k1
  have N_q_a3 : q ≠ a3 := fun z => by rw [← z, H_q] at k0; cases k0
  have N_a3_q : a3 ≠ q := fun z => N_q_a3 z.symm
  have N_a1_a3 : a1 ≠ a3 := fun z => by rw [← z, H_a1] at k0; cases k0
  have N_a3_a1 : a3 ≠ a1 := fun z => N_a1_a3 z.symm
  have N_a2_a3 : a2 ≠ a3 := fun z => by rw [← z, H_a2] at k0; cases k0
  have N_a3_a2 : a3 ≠ a2 := fun z => N_a2_a3 z.symm
  have F_a3 : g0 a3 = none := by
    cases z : g0 a3 with
    | none => rfl
    | some e => rw [HO a3 e N_a3_q z] at k0; cases k0
  have H_q := (k2 _ N_q_a3).trans H_q
  have H_a1 := (k2 _ N_a1_a3).trans H_a1
  have H_a2 := (k2 _ N_a2_a3).trans H_a2
  have HO : ∀ b e, b ≠ q → g0 b = some e → g b = some e := fun b e hb h => (k2 b (fun z => by rw [z, F_a3] at h; cases h)).trans (HO b e hb h)
  refine ev_dup dX5_init_63 rfl ?_
  refine ev_callIN (d' := d - 1) (b := 3) (k0 := 19) (As := []) h4 dX5_init_64 rfl rfl kX1_init rfl rfl (by decide +kernel) iX1_init (Nat.le_of_ble_eq_true rfl) (by omega) (c_X1_init (d := d - 1) hE h4 (by omega) H_a3) (by decide) (by decide) (fun v g h => ?_) (fun E g h => by cases h.1)
  obtain ⟨h1, H9, KO⟩ := h
  cases h1
  have H_q := KO _ _ N_q_a3 H_q
  have H_a1 := KO _ _ N_a1_a3 H_a1
  have H_a2 := KO _ _ N_a2_a3 H_a2
  have H_a3 : g a3 = some (.inr (2, [.int 0, .int (-1), .int 0, .int (-1), .int (-1)])) := H9
  have HO : ∀ b e, b ≠ q → g0 b = some e → g b = some e := fun b e hb h => KO b e (fun y => by rw [y, F_a3] at h; cases h) (HO b e hb h)
  refine ev_putF2 hE rfl dX5_init_67 pX5_46 H_q (Nat.le_of_ble_eq_true rfl) rfl rfl (fun g k1 k2 => ?_)
  have H_q : g q = some (.inr (6, [.int 0, .int 0, .int 0, .int 0, .int 0, .int 0, .int 0, .int 0, .int 0, .int 0, .int 0, .int 0, .int 0, .ref a1, .ref a2, .ref a3, .null])) := k1
  have H_a1 := (k2 _ N_a1_q).trans H_a1
  have H_a2 := (k2 _ N_a2_q).trans H_a2
  have H_a3 := (k2 _ N_a3_q).trans H_a3
  have HO : ∀ b e, b ≠ q → g0 b = some e → g b = some e := fun b e hb h => (k2 b hb).trans (HO b e hb h)
  refine ev_aload_n dX5_init_70 rfl rfl ?_
  refine ev_new2 (b := 2) (n := 16) hE dX5_init_71 wX5_50 (by decide) (by decide) (fun a4 g k0 k1 k2 => ?_)
  have H_a4 : g a4 = some (.inr (10, [.null, .null, .int 0])) := k1
  have N_q_a4 : q ≠ a4 := fun z => by rw [← z, H_q] at k0; cases k0
  have N_a4_q : a4 ≠ q := fun z => N_q_a4 z.symm
  have N_a1_a4 : a1 ≠ a4 := fun z => by rw [← z, H_a1] at k0; cases k0
  have N_a4_a1 : a4 ≠ a1 := fun z => N_a1_a4 z.symm
  have N_a2_a4 : a2 ≠ a4 := fun z => by rw [← z, H_a2] at k0; cases k0
  have N_a4_a2 : a4 ≠ a2 := fun z => N_a2_a4 z.symm
  have N_a3_a4 : a3 ≠ a4 := fun z => by rw [← z, H_a3] at k0; cases k0
  have N_a4_a3 : a4 ≠ a3 := fun z => N_a3_a4 z.symm
  have F_a4 : g0 a4 = none := by
    cases z : g0 a4 with
    | none => rfl
    | some e => rw [HO a4 e N_a4_q z] at k0; cases k0
  have H_q := (k2 _ N_q_a4).trans H_q
  have H_a1 := (k2 _ N_a1_a4).trans H_a1
  have H_a2 := (k2 _ N_a2_a4).trans H_a2
  have H_a3 := (k2 _ N_a3_a4).trans H_a3
  have HO : ∀ b e, b ≠ q → g0 b = some e → g b = some e := fun b e hb h => (k2 b (fun z => by rw [z, F_a4] at h; cases h)).trans (HO b e hb h)
  refine ev_dup dX5_init_74 rfl ?_
  refine ev_callIN (d' := d - 1) (b := 0) (k0 := 0) (As := []) h4 dX5_init_75 rfl rfl kX9_init rfl rfl (by decide +kernel) iX9_init (Nat.le_of_ble_eq_true rfl) (by omega) (c_X9_init (d := d - 1) hE h4 (by omega) H_a4) (by decide) (by decide) (fun v g h => ?_) (fun E g h => by cases h.1)
  obtain ⟨h1, a5, a6, H9, ⟨FF_a5, HH_a5⟩, ⟨FF_a6, HH_a6⟩, NN_a5_a6, KO⟩ := h
  cases h1
  have N_q_a5 : q ≠ a5 := fun y => by rw [← y, H_q] at FF_a5; cases FF_a5
  have N_a5_q : a5 ≠ q := fun y => N_q_a5 y.symm
  have N_a1_a5 : a1 ≠ a5 := fun y => by rw [← y, H_a1] at FF_a5; cases FF_a5
  have N_a5_a1 : a5 ≠ a1 := fun y => N_a1_a5 y.symm
  have N_a2_a5 : a2 ≠ a5 := fun y => by rw [← y, H_a2] at FF_a5; cases FF_a5
  have N_a5_a2 : a5 ≠ a2 := fun y => N_a2_a5 y.symm
  have N_a3_a5 : a3 ≠ a5 := fun y => by rw [← y, H_a3] at FF_a5; cases FF_a5
  have N_a5_a3 : a5 ≠ a3 := fun y => N_a3_a5 y.symm
  have N_a4_a5 : a4 ≠ a5 := fun y => by rw [← y, H_a4] at FF_a5; cases FF_a5
  have N_a5_a4 : a5 ≠ a4 := fun y => N_a4_a5 y.symm
  have F_a5 : g0 a5 = none := by
    cases y : g0 a5 with
    | none => rfl
    | some e => rw [HO a5 e N_a5_q y] at FF_a5; cases FF_a5
  have N_q_a6 : q ≠ a6 := fun y => by rw [← y, H_q] at FF_a6; cases FF_a6
  have N_a6_q : a6 ≠ q := fun y => N_q_a6 y.symm
  have N_a1_a6 : a1 ≠ a6 := fun y => by rw [← y, H_a1] at FF_a6; cases FF_a6
  have N_a6_a1 : a6 ≠ a1 := fun y => N_a1_a6 y.symm
  have N_a2_a6 : a2 ≠ a6 := fun y => by rw [← y, H_a2] at FF_a6; cases FF_a6
  have N_a6_a2 : a6 ≠ a2 := fun y => N_a2_a6 y.symm
  have N_a3_a6 : a3 ≠ a6 := fun y => by rw [← y, H_a3] at FF_a6; cases FF_a6
  have N_a6_a3 : a6 ≠ a3 := fun y => N_a3_a6 y.symm
  have N_a4_a6 : a4 ≠ a6 := fun y => by rw [← y, H_a4] at FF_a6; cases FF_a6
  have N_a6_a4 : a6 ≠ a4 := fun y => N_a4_a6 y.symm
  have F_a6 : g0 a6 = none := by
    cases y : g0 a6 with
    | none => rfl
    | some e => rw [HO a6 e N_a6_q y] at FF_a6; cases FF_a6
  have N_a5_a6 := NN_a5_a6
  have N_a6_a5 : a6 ≠ a5 := fun y => NN_a5_a6 y.symm
  have H_q := KO _ _ N_q_a4 H_q
  have H_a1 := KO _ _ N_a1_a4 H_a1
  have H_a2 := KO _ _ N_a2_a4 H_a2
  have H_a3 := KO _ _ N_a3_a4 H_a3
  have H_a4 : g a4 = some (.inr (10, [.ref a5, .ref a6, .int 0])) := H9
  have HO : ∀ b e, b ≠ q → g0 b = some e → g b = some e := fun b e hb h => KO b e (fun y => by rw [y, F_a4] at h; cases h) (HO b e hb h)
  have H_a5 : g a5 = some (.inl (G.2.2.2 0, 8, .inl (fun _ => 0))) := HH_a5
  have H_a6 : g a6 = some (.inl (G.2.2.2 0, 8, .inl (fun _ => 0))) := HH_a6
  refine ev_putF2 hE rfl dX5_init_78 pX5_53 H_q (Nat.le_of_ble_eq_true rfl) rfl rfl (fun g k1 k2 => ?_)
  have H_q : g q = some (.inr (6, [.int 0, .int 0, .int 0, .int 0, .int 0, .int 0, .int 0, .int 0, .int 0, .int 0, .int 0, .int 0, .int 0, .ref a1, .ref a2, .ref a3, .ref a4])) := k1
  have H_a1 := (k2 _ N_a1_q).trans H_a1
  have H_a2 := (k2 _ N_a2_q).trans H_a2
  have H_a3 := (k2 _ N_a3_q).trans H_a3
  have H_a4 := (k2 _ N_a4_q).trans H_a4
  have H_a5 := (k2 _ N_a5_q).trans H_a5
  have H_a6 := (k2 _ N_a6_q).trans H_a6
  have HO : ∀ b e, b ≠ q → g0 b = some e → g b = some e := fun b e hb h => (k2 b hb).trans (HO b e hb h)
  refine ev_aload_n dX5_init_81 rfl rfl ?_
  refine ev_iload_n dX5_init_82 rfl rfl ?_
  refine ev_putF2 hE rfl dX5_init_83 pX5_57 H_q (Nat.le_of_ble_eq_true rfl) rfl rfl (fun g k1 k2 => ?_)
  have H_q : g q = some (.inr (6, [.int x1, .int 0, .int 0, .int 0, .int 0, .int 0, .int 0, .int 0, .int 0, .int 0, .int 0, .int 0, .int 0, .ref a1, .ref a2, .ref a3, .ref a4])) := k1
  have H_a1 := (k2 _ N_a1_q).trans H_a1
  have H_a2 := (k2 _ N_a2_q).trans H_a2
  have H_a3 := (k2 _ N_a3_q).trans H_a3
  have H_a4 := (k2 _ N_a4_q).trans H_a4
  have H_a5 := (k2 _ N_a5_q).trans H_a5
  have H_a6 := (k2 _ N_a6_q).trans H_a6
  have HO : ∀ b e, b ≠ q → g0 b = some e → g b = some e := fun b e hb h => (k2 b hb).trans (HO b e hb h)
  refine ev_aload_n dX5_init_86 rfl rfl ?_
  refine ev_iload_n dX5_init_87 rfl rfl ?_
  refine ev_put2 hE dX5_init_88 pX5_60 H_q (Nat.le_of_ble_eq_true rfl) rfl rfl (fun g k1 k2 => ?_)
  have H_q : g q = some (.inr (6, [.int x1, .int x2, .int 0, .int 0, .int 0, .int 0, .int 0, .int 0, .int 0, .int 0, .int 0, .int 0, .int 0, .ref a1, .ref a2, .ref a3, .ref a4])) := k1
  have H_a1 := (k2 _ N_a1_q).trans H_a1
  have H_a2 := (k2 _ N_a2_q).trans H_a2
  have H_a3 := (k2 _ N_a3_q).trans H_a3
  have H_a4 := (k2 _ N_a4_q).trans H_a4
  have H_a5 := (k2 _ N_a5_q).trans H_a5
  have H_a6 := (k2 _ N_a6_q).trans H_a6
  have HO : ∀ b e, b ≠ q → g0 b = some e → g b = some e := fun b e hb h => (k2 b hb).trans (HO b e hb h)
  refine ev_aload_n dX5_init_91 rfl rfl ?_
  refine ev_iload_n dX5_init_92 rfl rfl ?_
  refine ev_put2 hE dX5_init_93 pX5_63 H_q (Nat.le_of_ble_eq_true rfl) rfl rfl (fun g k1 k2 => ?_)
  have H_q : g q = some (.inr (6, [.int x1, .int x2, .int x3, .int 0, .int 0, .int 0, .int 0, .int 0, .int 0, .int 0, .int 0, .int 0, .int 0, .ref a1, .ref a2, .ref a3, .ref a4])) := k1
  have H_a1 := (k2 _ N_a1_q).trans H_a1
  have H_a2 := (k2 _ N_a2_q).trans H_a2
  have H_a3 := (k2 _ N_a3_q).trans H_a3
  have H_a4 := (k2 _ N_a4_q).trans H_a4
  have H_a5 := (k2 _ N_a5_q).trans H_a5
  have H_a6 := (k2 _ N_a6_q).trans H_a6
  have HO : ∀ b e, b ≠ q → g0 b = some e → g b = some e := fun b e hb h => (k2 b hb).trans (HO b e hb h)
  refine ev_aload_n dX5_init_96 rfl rfl ?_
  refine ev_iload dX5_init_97 rfl ?_
  refine ev_put2 hE dX5_init_99 pX5_66 H_q (Nat.le_of_ble_eq_true rfl) rfl rfl (fun g k1 k2 => ?_)
  have H_q : g q = some (.inr (6, [.int x1, .int x2, .int x3, .int x4, .int 0, .int 0, .int 0, .int 0, .int 0, .int 0, .int 0, .int 0, .int 0, .ref a1, .ref a2, .ref a3, .ref a4])) := k1
  have H_a1 := (k2 _ N_a1_q).trans H_a1
  have H_a2 := (k2 _ N_a2_q).trans H_a2
  have H_a3 := (k2 _ N_a3_q).trans H_a3
  have H_a4 := (k2 _ N_a4_q).trans H_a4
  have H_a5 := (k2 _ N_a5_q).trans H_a5
  have H_a6 := (k2 _ N_a6_q).trans H_a6
  have HO : ∀ b e, b ≠ q → g0 b = some e → g b = some e := fun b e hb h => (k2 b hb).trans (HO b e hb h)
  refine ev_aload_n dX5_init_102 rfl rfl ?_
  refine ev_iload dX5_init_103 rfl ?_
  refine ev_put2 hE dX5_init_105 pX5_69 H_q (Nat.le_of_ble_eq_true rfl) rfl rfl (fun g k1 k2 => ?_)
  have H_q : g q = some (.inr (6, [.int x1, .int x2, .int x3, .int x4, .int x5, .int 0, .int 0, .int 0, .int 0, .int 0, .int 0, .int 0, .int 0, .ref a1, .ref a2, .ref a3, .ref a4])) := k1
  have H_a1 := (k2 _ N_a1_q).trans H_a1
  have H_a2 := (k2 _ N_a2_q).trans H_a2
  have H_a3 := (k2 _ N_a3_q).trans H_a3
  have H_a4 := (k2 _ N_a4_q).trans H_a4
  have H_a5 := (k2 _ N_a5_q).trans H_a5
  have H_a6 := (k2 _ N_a6_q).trans H_a6
  have HO : ∀ b e, b ≠ q → g0 b = some e → g b = some e := fun b e hb h => (k2 b hb).trans (HO b e hb h)
  exact ev_vret dX5_init_108 rfl ⟨rfl, a1, a2, a3, a4, a5, a6, H_q, ⟨F_a1, H_a1⟩, ⟨F_a2, H_a2⟩, ⟨F_a3, H_a3⟩, ⟨F_a4, H_a4⟩, ⟨F_a5, H_a5⟩, ⟨F_a6, H_a6⟩, ⟨N_a1_a2, N_a1_a3, N_a1_a4, N_a1_a5, N_a1_a6⟩, ⟨N_a2_a3, N_a2_a4, N_a2_a5, N_a2_a6⟩, ⟨N_a3_a4, N_a3_a5, N_a3_a6⟩, ⟨N_a4_a5, N_a4_a6⟩, N_a5_a6, HO⟩
theorem c_X0_init {G : ev_G} {d D0 : Nat} {g0 : ev_H} {q : Nat} {p : Nat} {x1 : Int32} {y0 y1 y2 y3 y4 y5 y6 y7 y8 y9 y10 y11 y12 : Int32} {r0 r1 r2 r3 : Nat} (hE : ev_En G) (h4 : ev_En4 G D0) (hd : 1 ≤ d) (H_q : g0 q = some (.inr (1, [.null, .int 0, .int 0, .int 0, .int 0]))) (H_p : g0 p = some (.inr (6, [.int y0, .int y1, .int y2, .int y3, .int y4, .int y5, .int y6, .int y7, .int y8, .int y9, .int y10, .int y11, .int y12, .ref r0, .ref r1, .ref r2, .ref r3]))) (N_p_q : p ≠ q) (N_q_p : q ≠ p) : ev_C G d 0 0 mX0_init [.ref q, .ref p, .int x1] g0 (fun o g' => o = .inl none ∧ g' q = some (.inr (1, [.ref p, .int x1, .int y1, .int y2, .int (-1)])) ∧ ∀ b e, b ≠ q → g0 b = some e → g' b = some e) := by
  refine ev_start (lv0 := [some (.ref q), some (.ref p), some (.int x1)]) (by decide +kernel) rfl (Nat.le_of_ble_eq_true rfl) rfl ?_
  have HO : ∀ b e, b ≠ q → g0 b = some e → g0 b = some e := fun _ _ _ h => h
  refine ev_aload_n dX0_init_0 rfl rfl ?_
  refine ev_objI dX0_init_1 loX0 (Nat.le_of_ble_eq_true rfl) (by omega) ?_
  refine ev_aload_n dX0_init_4 rfl rfl ?_
  refine ev_iconst (v := (-1)) dX0_init_5 (by decide) ?_
  refine ev_put2 hE dX0_init_6 pX0_9 H_q (Nat.le_of_ble_eq_true rfl) rfl rfl (fun g k1 k2 => ?_)
  have H_q : g q = some (.inr (1, [.null, .int 0, .int 0, .int 0, .int (-1)])) := k1
  have H_p := (k2 _ N_p_q).trans H_p
  have HO : ∀ b e, b ≠ q → g0 b = some e → g b = some e := fun b e hb h => (k2 b hb).trans (HO b e hb h)
  refine ev_aload_n dX0_init_9 rfl rfl ?_
  refine ev_aload_n dX0_init_10 rfl rfl ?_
  refine ev_putF2 hE rfl dX0_init_11 pX0_15 H_q (Nat.le_of_ble_eq_true rfl) rfl rfl (fun g k1 k2 => ?_)
  have H_q : g q = some (.inr (1, [.ref p, .int 0, .int 0, .int 0, .int (-1)])) := k1
  have H_p := (k2 _ N_p_q).trans H_p
  have HO : ∀ b e, b ≠ q → g0 b = some e → g b = some e := fun b e hb h => (k2 b hb).trans (HO b e hb h)
  refine ev_aload_n dX0_init_14 rfl rfl ?_
  refine ev_iload_n dX0_init_15 rfl rfl ?_
  refine ev_putF2 hE rfl dX0_init_16 pX0_19 H_q (Nat.le_of_ble_eq_true rfl) rfl rfl (fun g k1 k2 => ?_)
  have H_q : g q = some (.inr (1, [.ref p, .int x1, .int 0, .int 0, .int (-1)])) := k1
  have H_p := (k2 _ N_p_q).trans H_p
  have HO : ∀ b e, b ≠ q → g0 b = some e → g b = some e := fun b e hb h => (k2 b hb).trans (HO b e hb h)
  refine ev_aload_n dX0_init_19 rfl rfl ?_
  refine ev_aload_n dX0_init_20 rfl rfl ?_
  refine ev_getf hE dX0_init_21 fX0_22 H_p rfl ?_
  refine ev_putF2 hE rfl dX0_init_24 pX0_27 H_q (Nat.le_of_ble_eq_true rfl) rfl rfl (fun g k1 k2 => ?_)
  have H_q : g q = some (.inr (1, [.ref p, .int x1, .int y1, .int 0, .int (-1)])) := k1
  have H_p := (k2 _ N_p_q).trans H_p
  have HO : ∀ b e, b ≠ q → g0 b = some e → g b = some e := fun b e hb h => (k2 b hb).trans (HO b e hb h)
  refine ev_aload_n dX0_init_27 rfl rfl ?_
  refine ev_aload_n dX0_init_28 rfl rfl ?_
  refine ev_getf hE dX0_init_29 fX0_28 H_p rfl ?_
  refine ev_putF2 hE rfl dX0_init_32 pX0_31 H_q (Nat.le_of_ble_eq_true rfl) rfl rfl (fun g k1 k2 => ?_)
  have H_q : g q = some (.inr (1, [.ref p, .int x1, .int y1, .int y2, .int (-1)])) := k1
  have H_p := (k2 _ N_p_q).trans H_p
  have HO : ∀ b e, b ≠ q → g0 b = some e → g b = some e := fun b e hb h => (k2 b hb).trans (HO b e hb h)
  exact ev_vret dX0_init_35 rfl ⟨rfl, H_q, HO⟩
theorem c_X10_init {G : ev_G} {d D0 : Nat} {g0 : ev_H} {q : Nat}  (hE : ev_En G) (h4 : ev_En4 G D0) (hd : 1 ≤ d) (H_q : g0 q = some (.inr (11, [.null]))) : ev_C G d 1 64 mX10_init [.ref q] g0 (fun o g' => o = .inl none ∧ ∃ a1 : Nat, g' q = some (.inr (11, [.ref a1])) ∧ (g0 a1 = none ∧ g' a1 = some (.inl (G.2.2.2 0, 64, .inl (fun _ => 0)))) ∧ ∀ b e, b ≠ q → g0 b = some e → g' b = some e) := by
  refine ev_start (lv0 := [some (.ref q)]) (by decide +kernel) rfl (Nat.le_of_ble_eq_true rfl) rfl ?_
  have HO : ∀ b e, b ≠ q → g0 b = some e → g0 b = some e := fun _ _ _ h => h
  refine ev_aload_n dX10_init_0 rfl rfl ?_
  refine ev_objI dX10_init_1 loX10 (Nat.le_of_ble_eq_true rfl) (by omega) ?_
  refine ev_aload_n dX10_init_4 rfl rfl ?_
  refine ev_bipush (v := 64) dX10_init_5 (by decide) ?_
  refine ev_newa2_int (N := 64) (b := 0) (n := 0) hE dX10_init_7 a_int (by decide) (by decide) (by decide) (by decide) (by decide) (fun a1 g k0 k1 k2 => ?_)
  have H_a1 : g a1 = some (.inl (G.2.2.2 0, 64, .inl (fun _ => 0))) := k1
  have N_q_a1 : q ≠ a1 := fun z => by rw [← z, H_q] at k0; cases k0
  have N_a1_q : a1 ≠ q := fun z => N_q_a1 z.symm
  have F_a1 : g0 a1 = none := by
    cases z : g0 a1 with
    | none => rfl
    | some e => rw [HO a1 e N_a1_q z] at k0; cases k0
  have H_q := (k2 _ N_q_a1).trans H_q
  have HO : ∀ b e, b ≠ q → g0 b = some e → g b = some e := fun b e hb h => (k2 b (fun z => by rw [z, F_a1] at h; cases h)).trans (HO b e hb h)
  refine ev_putF2 hE rfl dX10_init_9 pX10_9 H_q (Nat.le_of_ble_eq_true rfl) rfl rfl (fun g k1 k2 => ?_)
  have H_q : g q = some (.inr (11, [.ref a1])) := k1
  have H_a1 := (k2 _ N_a1_q).trans H_a1
  have HO : ∀ b e, b ≠ q → g0 b = some e → g b = some e := fun b e hb h => (k2 b hb).trans (HO b e hb h)
  exact ev_vret dX10_init_12 rfl ⟨rfl, a1, H_q, ⟨F_a1, H_a1⟩, HO⟩
theorem c_X6_init {G : ev_G} {d D0 : Nat} {g0 : ev_H} {q : Nat}  (hE : ev_En G) (h4 : ev_En4 G D0) (hd : 1 ≤ d) (H_q : g0 q = some (.inr (7, [.null, .null, .null]))) : ev_C G d 3 36 mX6_init [.ref q] g0 (fun o g' => o = .inl none ∧ ∃ a1 a2 a3 : Nat, g' q = some (.inr (7, [.ref a1, .ref a2, .ref a3])) ∧ (g0 a1 = none ∧ g' a1 = some (.inl (G.2.2.2 0, 12, .inl (fun _ => 0)))) ∧ (g0 a2 = none ∧ g' a2 = some (.inl (G.2.2.2 0, 12, .inl (fun _ => 0)))) ∧ (g0 a3 = none ∧ g' a3 = some (.inl (G.2.2.2 1, 12, .inr (.inl (fun _ => 0))))) ∧ (a1 ≠ a2 ∧ a1 ≠ a3) ∧ (a2 ≠ a3) ∧ ∀ b e, b ≠ q → g0 b = some e → g' b = some e) := by
  refine ev_start (lv0 := [some (.ref q)]) (by decide +kernel) rfl (Nat.le_of_ble_eq_true rfl) rfl ?_
  have HO : ∀ b e, b ≠ q → g0 b = some e → g0 b = some e := fun _ _ _ h => h
  refine ev_aload_n dX6_init_0 rfl rfl ?_
  refine ev_objI dX6_init_1 loX6 (Nat.le_of_ble_eq_true rfl) (by omega) ?_
  refine ev_aload_n dX6_init_4 rfl rfl ?_
  refine ev_bipush (v := 12) dX6_init_5 (by decide) ?_
  refine ev_newa2_int (N := 12) (b := 2) (n := 24) hE dX6_init_7 a_int (by decide) (by decide) (by decide) (by decide) (by decide) (fun a1 g k0 k1 k2 => ?_)
  have H_a1 : g a1 = some (.inl (G.2.2.2 0, 12, .inl (fun _ => 0))) := k1
  have N_q_a1 : q ≠ a1 := fun z => by rw [← z, H_q] at k0; cases k0
  have N_a1_q : a1 ≠ q := fun z => N_q_a1 z.symm
  have F_a1 : g0 a1 = none := by
    cases z : g0 a1 with
    | none => rfl
    | some e => rw [HO a1 e N_a1_q z] at k0; cases k0
  have H_q := (k2 _ N_q_a1).trans H_q
  have HO : ∀ b e, b ≠ q → g0 b = some e → g b = some e := fun b e hb h => (k2 b (fun z => by rw [z, F_a1] at h; cases h)).trans (HO b e hb h)
  refine ev_putF2 hE rfl dX6_init_9 pX6_9 H_q (Nat.le_of_ble_eq_true rfl) rfl rfl (fun g k1 k2 => ?_)
  have H_q : g q = some (.inr (7, [.ref a1, .null, .null])) := k1
  have H_a1 := (k2 _ N_a1_q).trans H_a1
  have HO : ∀ b e, b ≠ q → g0 b = some e → g b = some e := fun b e hb h => (k2 b hb).trans (HO b e hb h)
  refine ev_aload_n dX6_init_12 rfl rfl ?_
  refine ev_bipush (v := 12) dX6_init_13 (by decide) ?_
  refine ev_newa2_int (N := 12) (b := 1) (n := 12) hE dX6_init_15 a_int (by decide) (by decide) (by decide) (by decide) (by decide) (fun a2 g k0 k1 k2 => ?_)
  have H_a2 : g a2 = some (.inl (G.2.2.2 0, 12, .inl (fun _ => 0))) := k1
  have N_q_a2 : q ≠ a2 := fun z => by rw [← z, H_q] at k0; cases k0
  have N_a2_q : a2 ≠ q := fun z => N_q_a2 z.symm
  have N_a1_a2 : a1 ≠ a2 := fun z => by rw [← z, H_a1] at k0; cases k0
  have N_a2_a1 : a2 ≠ a1 := fun z => N_a1_a2 z.symm
  have F_a2 : g0 a2 = none := by
    cases z : g0 a2 with
    | none => rfl
    | some e => rw [HO a2 e N_a2_q z] at k0; cases k0
  have H_q := (k2 _ N_q_a2).trans H_q
  have H_a1 := (k2 _ N_a1_a2).trans H_a1
  have HO : ∀ b e, b ≠ q → g0 b = some e → g b = some e := fun b e hb h => (k2 b (fun z => by rw [z, F_a2] at h; cases h)).trans (HO b e hb h)
  refine ev_putF2 hE rfl dX6_init_17 pX6_15 H_q (Nat.le_of_ble_eq_true rfl) rfl rfl (fun g k1 k2 => ?_)
  have H_q : g q = some (.inr (7, [.ref a1, .ref a2, .null])) := k1
  have H_a1 := (k2 _ N_a1_q).trans H_a1
  have H_a2 := (k2 _ N_a2_q).trans H_a2
  have HO : ∀ b e, b ≠ q → g0 b = some e → g b = some e := fun b e hb h => (k2 b hb).trans (HO b e hb h)
  refine ev_aload_n dX6_init_20 rfl rfl ?_
  refine ev_bipush (v := 12) dX6_init_21 (by decide) ?_
  refine ev_newa2_long (N := 12) (b := 0) (n := 0) hE dX6_init_23 a_long (by decide) (by decide) (by decide) (by decide) (by decide) (fun a3 g k0 k1 k2 => ?_)
  have H_a3 : g a3 = some (.inl (G.2.2.2 1, 12, .inr (.inl (fun _ => 0)))) := k1
  have N_q_a3 : q ≠ a3 := fun z => by rw [← z, H_q] at k0; cases k0
  have N_a3_q : a3 ≠ q := fun z => N_q_a3 z.symm
  have N_a1_a3 : a1 ≠ a3 := fun z => by rw [← z, H_a1] at k0; cases k0
  have N_a3_a1 : a3 ≠ a1 := fun z => N_a1_a3 z.symm
  have N_a2_a3 : a2 ≠ a3 := fun z => by rw [← z, H_a2] at k0; cases k0
  have N_a3_a2 : a3 ≠ a2 := fun z => N_a2_a3 z.symm
  have F_a3 : g0 a3 = none := by
    cases z : g0 a3 with
    | none => rfl
    | some e => rw [HO a3 e N_a3_q z] at k0; cases k0
  have H_q := (k2 _ N_q_a3).trans H_q
  have H_a1 := (k2 _ N_a1_a3).trans H_a1
  have H_a2 := (k2 _ N_a2_a3).trans H_a2
  have HO : ∀ b e, b ≠ q → g0 b = some e → g b = some e := fun b e hb h => (k2 b (fun z => by rw [z, F_a3] at h; cases h)).trans (HO b e hb h)
  refine ev_putF2 hE rfl dX6_init_25 pX6_18 H_q (Nat.le_of_ble_eq_true rfl) rfl rfl (fun g k1 k2 => ?_)
  have H_q : g q = some (.inr (7, [.ref a1, .ref a2, .ref a3])) := k1
  have H_a1 := (k2 _ N_a1_q).trans H_a1
  have H_a2 := (k2 _ N_a2_q).trans H_a2
  have H_a3 := (k2 _ N_a3_q).trans H_a3
  have HO : ∀ b e, b ≠ q → g0 b = some e → g b = some e := fun b e hb h => (k2 b hb).trans (HO b e hb h)
  exact ev_vret dX6_init_28 rfl ⟨rfl, a1, a2, a3, H_q, ⟨F_a1, H_a1⟩, ⟨F_a2, H_a2⟩, ⟨F_a3, H_a3⟩, ⟨N_a1_a2, N_a1_a3⟩, N_a2_a3, HO⟩
theorem c_X3_init {G : ev_G} {d D0 : Nat} {g0 : ev_H} {q : Nat}  (hE : ev_En G) (h4 : ev_En4 G D0) (hd : 1 ≤ d) (H_q : g0 q = some (.inr (4, [.int 0, .int 0, .int 0, .int 0]))) : ev_C G d 0 0 mX3_init [.ref q] g0 (fun o g' => o = .inl none ∧ g' q = some (.inr (4, [.int 0, .int 0, .int 0, .int 0])) ∧ ∀ b e, b ≠ q → g0 b = some e → g' b = some e) := by
  refine ev_start (lv0 := [some (.ref q)]) (by decide +kernel) rfl (Nat.le_of_ble_eq_true rfl) rfl ?_
  have HO : ∀ b e, b ≠ q → g0 b = some e → g0 b = some e := fun _ _ _ h => h
  refine ev_aload_n dX3_init_0 rfl rfl ?_
  refine ev_objI dX3_init_1 loX3 (Nat.le_of_ble_eq_true rfl) (by omega) ?_
  refine ev_aload_n dX3_init_4 rfl rfl ?_
  refine ev_iconst (v := 0) dX3_init_5 (by decide) ?_
  refine ev_put2 hE dX3_init_6 pX3_7 H_q (Nat.le_of_ble_eq_true rfl) rfl rfl (fun g k1 k2 => ?_)
  have H_q : g q = some (.inr (4, [.int 0, .int 0, .int 0, .int 0])) := k1
  have HO : ∀ b e, b ≠ q → g0 b = some e → g b = some e := fun b e hb h => (k2 b hb).trans (HO b e hb h)
  refine ev_aload_n dX3_init_9 rfl rfl ?_
  refine ev_iconst (v := 0) dX3_init_10 (by decide) ?_
  refine ev_put2 hE dX3_init_11 pX3_13 H_q (Nat.le_of_ble_eq_true rfl) rfl rfl (fun g k1 k2 => ?_)
  have H_q : g q = some (.inr (4, [.int 0, .int 0, .int 0, .int 0])) := k1
  have HO : ∀ b e, b ≠ q → g0 b = some e → g b = some e := fun b e hb h => (k2 b hb).trans (HO b e hb h)
  refine ev_aload_n dX3_init_14 rfl rfl ?_
  refine ev_iconst (v := 0) dX3_init_15 (by decide) ?_
  refine ev_put2 hE dX3_init_16 pX3_16 H_q (Nat.le_of_ble_eq_true rfl) rfl rfl (fun g k1 k2 => ?_)
  have H_q : g q = some (.inr (4, [.int 0, .int 0, .int 0, .int 0])) := k1
  have HO : ∀ b e, b ≠ q → g0 b = some e → g b = some e := fun b e hb h => (k2 b hb).trans (HO b e hb h)
  refine ev_aload_n dX3_init_19 rfl rfl ?_
  refine ev_iconst (v := 0) dX3_init_20 (by decide) ?_
  refine ev_put2 hE dX3_init_21 pX3_19 H_q (Nat.le_of_ble_eq_true rfl) rfl rfl (fun g k1 k2 => ?_)
  have H_q : g q = some (.inr (4, [.int 0, .int 0, .int 0, .int 0])) := k1
  have HO : ∀ b e, b ≠ q → g0 b = some e → g b = some e := fun b e hb h => (k2 b hb).trans (HO b e hb h)
  exact ev_vret dX3_init_24 rfl ⟨rfl, H_q, HO⟩
theorem c_X2_init {G : ev_G} {d D0 : Nat} {g0 : ev_H} {q : Nat}  (hE : ev_En G) (h4 : ev_En4 G D0) (hd : 1 ≤ d) (H_q : g0 q = some (.inr (3, [.null, .null, .null, .null, .null, .int 0]))) : ev_C G d 5 840 mX2_init [.ref q] g0 (fun o g' => o = .inl none ∧ ∃ a1 a2 a3 a4 a5 : Nat, g' q = some (.inr (3, [.ref a1, .ref a2, .ref a3, .ref a4, .ref a5, .int 0])) ∧ (g0 a1 = none ∧ g' a1 = some (.inl (G.2.2.2 5, 600, .inr (.inr (.inr (.inr (fun _ => none))))))) ∧ (g0 a2 = none ∧ g' a2 = some (.inl (G.2.2.2 0, 60, .inl (fun _ => 0)))) ∧ (g0 a3 = none ∧ g' a3 = some (.inl (G.2.2.2 0, 60, .inl (fun _ => 0)))) ∧ (g0 a4 = none ∧ g' a4 = some (.inl (G.2.2.2 0, 60, .inl (fun _ => 0)))) ∧ (g0 a5 = none ∧ g' a5 = some (.inl (G.2.2.2 0, 60, .inl (fun _ => 0)))) ∧ (a1 ≠ a2 ∧ a1 ≠ a3 ∧ a1 ≠ a4 ∧ a1 ≠ a5) ∧ (a2 ≠ a3 ∧ a2 ≠ a4 ∧ a2 ≠ a5) ∧ (a3 ≠ a4 ∧ a3 ≠ a5) ∧ (a4 ≠ a5) ∧ ∀ b e, b ≠ q → g0 b = some e → g' b = some e) := by
  refine ev_start (lv0 := [some (.ref q)]) (by decide +kernel) rfl (Nat.le_of_ble_eq_true rfl) rfl ?_
  have HO : ∀ b e, b ≠ q → g0 b = some e → g0 b = some e := fun _ _ _ h => h
  refine ev_aload_n dX2_init_0 rfl rfl ?_
  refine ev_objI dX2_init_1 loX2 (Nat.le_of_ble_eq_true rfl) (by omega) ?_
  refine ev_aload_n dX2_init_4 rfl rfl ?_
  refine ev_sipush (v := 600) dX2_init_5 (by decide) ?_
  refine ev_newg2 (N := 600) (b := 4) (n := 240) hE h4 dX2_init_8 lkX2_9 (by decide) (by decide) (by decide) (by decide) (by decide) (fun a1 g k0 k1 k2 => ?_)
  have H_a1 : g a1 = some (.inl (G.2.2.2 5, 600, .inr (.inr (.inr (.inr (fun _ => none)))))) := k1
  have N_q_a1 : q ≠ a1 := fun z => by rw [← z, H_q] at k0; cases k0
  have N_a1_q : a1 ≠ q := fun z => N_q_a1 z.symm
  have F_a1 : g0 a1 = none := by
    cases z : g0 a1 with
    | none => rfl
    | some e => rw [HO a1 e N_a1_q z] at k0; cases k0
  have H_q := (k2 _ N_q_a1).trans H_q
  have HO : ∀ b e, b ≠ q → g0 b = some e → g b = some e := fun b e hb h => (k2 b (fun z => by rw [z, F_a1] at h; cases h)).trans (HO b e hb h)
  refine ev_putF2 hE rfl dX2_init_11 pX2_11 H_q (Nat.le_of_ble_eq_true rfl) rfl rfl (fun g k1 k2 => ?_)
  have H_q : g q = some (.inr (3, [.ref a1, .null, .null, .null, .null, .int 0])) := k1
  have H_a1 := (k2 _ N_a1_q).trans H_a1
  have HO : ∀ b e, b ≠ q → g0 b = some e → g b = some e := fun b e hb h => (k2 b hb).trans (HO b e hb h)
  refine ev_aload_n dX2_init_14 rfl rfl ?_
  refine ev_bipush (v := 60) dX2_init_15 (by decide) ?_
  refine ev_newa2_int (N := 60) (b := 3) (n := 180) hE dX2_init_17 a_int (by decide) (by decide) (by decide) (by decide) (by decide) (fun a2 g k0 k1 k2 => ?_)
  have H_a2 : g a2 = some (.inl (G.2.2.2 0, 60, .inl (fun _ => 0))) := k1
  have N_q_a2 : q ≠ a2 := fun z => by rw [← z, H_q] at k0; cases k0
  have N_a2_q : a2 ≠ q := fun z => N_q_a2 z.symm
  have N_a1_a2 : a1 ≠ a2 := fun z => by rw [← z, H_a1] at k0; cases k0
  have N_a2_a1 : a2 ≠ a1 := fun z => N_a1_a2 z.symm
  have F_a2 : g0 a2 = none := by
    cases z : g0 a2 with
    | none => rfl
    | some e => rw [HO a2 e N_a2_q z] at k0; cases k0
  have H_q := (k2 _ N_q_a2).trans H_q
  have H_a1 := (k2 _ N_a1_a2).trans H_a1
  have HO : ∀ b e, b ≠ q → g0 b = some e → g b = some e := fun b e hb h => (k2 b (fun z => by rw [z, F_a2] at h; cases h)).trans (HO b e hb h)
  refine ev_putF2 hE rfl dX2_init_19 pX2_17 H_q (Nat.le_of_ble_eq_true rfl) rfl rfl (fun g k1 k2 => ?_)
  have H_q : g q = some (.inr (3, [.ref a1, .ref a2, .null, .null, .null, .int 0])) := k1
  have H_a1 := (k2 _ N_a1_q).trans H_a1
  have H_a2 := (k2 _ N_a2_q).trans H_a2
  have HO : ∀ b e, b ≠ q → g0 b = some e → g b = some e := fun b e hb h => (k2 b hb).trans (HO b e hb h)
  refine ev_aload_n dX2_init_22 rfl rfl ?_
  refine ev_bipush (v := 60) dX2_init_23 (by decide) ?_
  refine ev_newa2_int (N := 60) (b := 2) (n := 120) hE dX2_init_25 a_int (by decide) (by decide) (by decide) (by decide) (by decide) (fun a3 g k0 k1 k2 => ?_)
  have H_a3 : g a3 = some (.inl (G.2.2.2 0, 60, .inl (fun _ => 0))) := k1
  have N_q_a3 : q ≠ a3 := fun z => by rw [← z, H_q] at k0; cases k0
  have N_a3_q : a3 ≠ q := fun z => N_q_a3 z.symm
  have N_a1_a3 : a1 ≠ a3 := fun z => by rw [← z, H_a1] at k0; cases k0
  have N_a3_a1 : a3 ≠ a1 := fun z => N_a1_a3 z.symm
  have N_a2_a3 : a2 ≠ a3 := fun z => by rw [← z, H_a2] at k0; cases k0
  have N_a3_a2 : a3 ≠ a2 := fun z => N_a2_a3 z.symm
  have F_a3 : g0 a3 = none := by
    cases z : g0 a3 with
    | none => rfl
    | some e => rw [HO a3 e N_a3_q z] at k0; cases k0
  have H_q := (k2 _ N_q_a3).trans H_q
  have H_a1 := (k2 _ N_a1_a3).trans H_a1
  have H_a2 := (k2 _ N_a2_a3).trans H_a2
  have HO : ∀ b e, b ≠ q → g0 b = some e → g b = some e := fun b e hb h => (k2 b (fun z => by rw [z, F_a3] at h; cases h)).trans (HO b e hb h)
  refine ev_putF2 hE rfl dX2_init_27 pX2_20 H_q (Nat.le_of_ble_eq_true rfl) rfl rfl (fun g k1 k2 => ?_)
  have H_q : g q = some (.inr (3, [.ref a1, .ref a2, .ref a3, .null, .null, .int 0])) := k1
  have H_a1 := (k2 _ N_a1_q).trans H_a1
  have H_a2 := (k2 _ N_a2_q).trans H_a2
  have H_a3 := (k2 _ N_a3_q).trans H_a3
  have HO : ∀ b e, b ≠ q → g0 b = some e → g b = some e := fun b e hb h => (k2 b hb).trans (HO b e hb h)
  refine ev_aload_n dX2_init_30 rfl rfl ?_
  refine ev_bipush (v := 60) dX2_init_31 (by decide) ?_
  refine ev_newa2_int (N := 60) (b := 1) (n := 60) hE dX2_init_33 a_int (by decide) (by decide) (by decide) (by decide) (by decide) (fun a4 g k0 k1 k2 => ?_)
  have H_a4 : g a4 = some (.inl (G.2.2.2 0, 60, .inl (fun _ => 0))) := k1
  have N_q_a4 : q ≠ a4 := fun z => by rw [← z, H_q] at k0; cases k0
  have N_a4_q : a4 ≠ q := fun z => N_q_a4 z.symm
  have N_a1_a4 : a1 ≠ a4 := fun z => by rw [← z, H_a1] at k0; cases k0
  have N_a4_a1 : a4 ≠ a1 := fun z => N_a1_a4 z.symm
  have N_a2_a4 : a2 ≠ a4 := fun z => by rw [← z, H_a2] at k0; cases k0
  have N_a4_a2 : a4 ≠ a2 := fun z => N_a2_a4 z.symm
  have N_a3_a4 : a3 ≠ a4 := fun z => by rw [← z, H_a3] at k0; cases k0
  have N_a4_a3 : a4 ≠ a3 := fun z => N_a3_a4 z.symm
  have F_a4 : g0 a4 = none := by
    cases z : g0 a4 with
    | none => rfl
    | some e => rw [HO a4 e N_a4_q z] at k0; cases k0
  have H_q := (k2 _ N_q_a4).trans H_q
  have H_a1 := (k2 _ N_a1_a4).trans H_a1
  have H_a2 := (k2 _ N_a2_a4).trans H_a2
  have H_a3 := (k2 _ N_a3_a4).trans H_a3
  have HO : ∀ b e, b ≠ q → g0 b = some e → g b = some e := fun b e hb h => (k2 b (fun z => by rw [z, F_a4] at h; cases h)).trans (HO b e hb h)
  refine ev_putF2 hE rfl dX2_init_35 pX2_23 H_q (Nat.le_of_ble_eq_true rfl) rfl rfl (fun g k1 k2 => ?_)
  have H_q : g q = some (.inr (3, [.ref a1, .ref a2, .ref a3, .ref a4, .null, .int 0])) := k1
  have H_a1 := (k2 _ N_a1_q).trans H_a1
  have H_a2 := (k2 _ N_a2_q).trans H_a2
  have H_a3 := (k2 _ N_a3_q).trans H_a3
  have H_a4 := (k2 _ N_a4_q).trans H_a4
  have HO : ∀ b e, b ≠ q → g0 b = some e → g b = some e := fun b e hb h => (k2 b hb).trans (HO b e hb h)
  refine ev_aload_n dX2_init_38 rfl rfl ?_
  refine ev_bipush (v := 60) dX2_init_39 (by decide) ?_
  refine ev_newa2_int (N := 60) (b := 0) (n := 0) hE dX2_init_41 a_int (by decide) (by decide) (by decide) (by decide) (by decide) (fun a5 g k0 k1 k2 => ?_)
  have H_a5 : g a5 = some (.inl (G.2.2.2 0, 60, .inl (fun _ => 0))) := k1
  have N_q_a5 : q ≠ a5 := fun z => by rw [← z, H_q] at k0; cases k0
  have N_a5_q : a5 ≠ q := fun z => N_q_a5 z.symm
  have N_a1_a5 : a1 ≠ a5 := fun z => by rw [← z, H_a1] at k0; cases k0
  have N_a5_a1 : a5 ≠ a1 := fun z => N_a1_a5 z.symm
  have N_a2_a5 : a2 ≠ a5 := fun z => by rw [← z, H_a2] at k0; cases k0
  have N_a5_a2 : a5 ≠ a2 := fun z => N_a2_a5 z.symm
  have N_a3_a5 : a3 ≠ a5 := fun z => by rw [← z, H_a3] at k0; cases k0
  have N_a5_a3 : a5 ≠ a3 := fun z => N_a3_a5 z.symm
  have N_a4_a5 : a4 ≠ a5 := fun z => by rw [← z, H_a4] at k0; cases k0
  have N_a5_a4 : a5 ≠ a4 := fun z => N_a4_a5 z.symm
  have F_a5 : g0 a5 = none := by
    cases z : g0 a5 with
    | none => rfl
    | some e => rw [HO a5 e N_a5_q z] at k0; cases k0
  have H_q := (k2 _ N_q_a5).trans H_q
  have H_a1 := (k2 _ N_a1_a5).trans H_a1
  have H_a2 := (k2 _ N_a2_a5).trans H_a2
  have H_a3 := (k2 _ N_a3_a5).trans H_a3
  have H_a4 := (k2 _ N_a4_a5).trans H_a4
  have HO : ∀ b e, b ≠ q → g0 b = some e → g b = some e := fun b e hb h => (k2 b (fun z => by rw [z, F_a5] at h; cases h)).trans (HO b e hb h)
  refine ev_putF2 hE rfl dX2_init_43 pX2_26 H_q (Nat.le_of_ble_eq_true rfl) rfl rfl (fun g k1 k2 => ?_)
  have H_q : g q = some (.inr (3, [.ref a1, .ref a2, .ref a3, .ref a4, .ref a5, .int 0])) := k1
  have H_a1 := (k2 _ N_a1_q).trans H_a1
  have H_a2 := (k2 _ N_a2_q).trans H_a2
  have H_a3 := (k2 _ N_a3_q).trans H_a3
  have H_a4 := (k2 _ N_a4_q).trans H_a4
  have H_a5 := (k2 _ N_a5_q).trans H_a5
  have HO : ∀ b e, b ≠ q → g0 b = some e → g b = some e := fun b e hb h => (k2 b hb).trans (HO b e hb h)
  refine ev_aload_n dX2_init_46 rfl rfl ?_
  refine ev_iconst (v := 0) dX2_init_47 (by decide) ?_
  refine ev_put2 hE dX2_init_48 pX2_29 H_q (Nat.le_of_ble_eq_true rfl) rfl rfl (fun g k1 k2 => ?_)
  have H_q : g q = some (.inr (3, [.ref a1, .ref a2, .ref a3, .ref a4, .ref a5, .int 0])) := k1
  have H_a1 := (k2 _ N_a1_q).trans H_a1
  have H_a2 := (k2 _ N_a2_q).trans H_a2
  have H_a3 := (k2 _ N_a3_q).trans H_a3
  have H_a4 := (k2 _ N_a4_q).trans H_a4
  have H_a5 := (k2 _ N_a5_q).trans H_a5
  have HO : ∀ b e, b ≠ q → g0 b = some e → g b = some e := fun b e hb h => (k2 b hb).trans (HO b e hb h)
  exact ev_vret dX2_init_51 rfl ⟨rfl, a1, a2, a3, a4, a5, H_q, ⟨F_a1, H_a1⟩, ⟨F_a2, H_a2⟩, ⟨F_a3, H_a3⟩, ⟨F_a4, H_a4⟩, ⟨F_a5, H_a5⟩, ⟨N_a1_a2, N_a1_a3, N_a1_a4, N_a1_a5⟩, ⟨N_a2_a3, N_a2_a4, N_a2_a5⟩, ⟨N_a3_a4, N_a3_a5⟩, N_a4_a5, HO⟩
theorem c_X7_init {G : ev_G} {d D0 : Nat} {g0 : ev_H} {q : Nat}  (hE : ev_En G) (h4 : ev_En4 G D0) (hd : 1 ≤ d) (H_q : g0 q = some (.inr (8, [.null, .int 0, .int 0, .int 0, .int 0, .int 0, .int 0, .int 0, .null, .int 0]))) : ev_C G d 2 600 mX7_init [.ref q] g0 (fun o g' => o = .inl none ∧ ∃ a1 a2 : Nat, g' q = some (.inr (8, [.ref a1, .int 0, .int 0, .int (-1), .int 0, .int 0, .int 0, .int (-1), .ref a2, .int 0])) ∧ (g0 a1 = none ∧ g' a1 = some (.inl (G.2.2.2 0, 300, .inl (fun _ => 0)))) ∧ (g0 a2 = none ∧ g' a2 = some (.inl (G.2.2.2 0, 300, .inl (fun _ => 0)))) ∧ (a1 ≠ a2) ∧ ∀ b e, b ≠ q → g0 b = some e → g' b = some e) := by
  refine ev_start (lv0 := [some (.ref q)]) (by decide +kernel) rfl (Nat.le_of_ble_eq_true rfl) rfl ?_
  have HO : ∀ b e, b ≠ q → g0 b = some e → g0 b = some e := fun _ _ _ h => h
  refine ev_aload_n dX7_init_0 rfl rfl ?_
  refine ev_objI dX7_init_1 loX7 (Nat.le_of_ble_eq_true rfl) (by omega) ?_
  refine ev_aload_n dX7_init_4 rfl rfl ?_
  refine ev_sipush (v := 300) dX7_init_5 (by decide) ?_
  refine ev_newa2_int (N := 300) (b := 1) (n := 300) hE dX7_init_8 a_int (by decide) (by decide) (by decide) (by decide) (by decide) (fun a1 g k0 k1 k2 => ?_)
  have H_a1 : g a1 = some (.inl (G.2.2.2 0, 300, .inl (fun _ => 0))) := k1
  have N_q_a1 : q ≠ a1 := fun z => by rw [← z, H_q] at k0; cases k0
  have N_a1_q : a1 ≠ q := fun z => N_q_a1 z.symm
  have F_a1 : g0 a1 = none := by
    cases z : g0 a1 with
    | none => rfl
    | some e => rw [HO a1 e N_a1_q z] at k0; cases k0
  have H_q := (k2 _ N_q_a1).trans H_q
  have HO : ∀ b e, b ≠ q → g0 b = some e → g b = some e := fun b e hb h => (k2 b (fun z => by rw [z, F_a1] at h; cases h)).trans (HO b e hb h)
  refine ev_putF2 hE rfl dX7_init_10 pX7_9 H_q (Nat.le_of_ble_eq_true rfl) rfl rfl (fun g k1 k2 => ?_)
  have H_q : g q = some (.inr (8, [.ref a1, .int 0, .int 0, .int 0, .int 0, .int 0, .int 0, .int 0, .null, .int 0])) := k1
  have H_a1 := (k2 _ N_a1_q).trans H_a1
  have HO : ∀ b e, b ≠ q → g0 b = some e → g b = some e := fun b e hb h => (k2 b hb).trans (HO b e hb h)
  refine ev_aload_n dX7_init_13 rfl rfl ?_
  refine ev_iconst (v := 0) dX7_init_14 (by decide) ?_
  refine ev_put2 hE dX7_init_15 pX7_15 H_q (Nat.le_of_ble_eq_true rfl) rfl rfl (fun g k1 k2 => ?_)
  have H_q : g q = some (.inr (8, [.ref a1, .int 0, .int 0, .int 0, .int 0, .int 0, .int 0, .int 0, .null, .int 0])) := k1
  have H_a1 := (k2 _ N_a1_q).trans H_a1
  have HO : ∀ b e, b ≠ q → g0 b = some e → g b = some e := fun b e hb h => (k2 b hb).trans (HO b e hb h)
  refine ev_aload_n dX7_init_18 rfl rfl ?_
  refine ev_iconst (v := 0) dX7_init_19 (by decide) ?_
  refine ev_put2 hE dX7_init_20 pX7_19 H_q (Nat.le_of_ble_eq_true rfl) rfl rfl (fun g k1 k2 => ?_)
  have H_q : g q = some (.inr (8, [.ref a1, .int 0, .int 0, .int 0, .int 0, .int 0, .int 0, .int 0, .null, .int 0])) := k1
  have H_a1 := (k2 _ N_a1_q).trans H_a1
  have HO : ∀ b e, b ≠ q → g0 b = some e → g b = some e := fun b e hb h => (k2 b hb).trans (HO b e hb h)
  refine ev_aload_n dX7_init_23 rfl rfl ?_
  refine ev_iconst (v := (-1)) dX7_init_24 (by decide) ?_
  refine ev_put2 hE dX7_init_25 pX7_22 H_q (Nat.le_of_ble_eq_true rfl) rfl rfl (fun g k1 k2 => ?_)
  have H_q : g q = some (.inr (8, [.ref a1, .int 0, .int 0, .int (-1), .int 0, .int 0, .int 0, .int 0, .null, .int 0])) := k1
  have H_a1 := (k2 _ N_a1_q).trans H_a1
  have HO : ∀ b e, b ≠ q → g0 b = some e → g b = some e := fun b e hb h => (k2 b hb).trans (HO b e hb h)
  refine ev_aload_n dX7_init_28 rfl rfl ?_
  refine ev_iconst (v := 0) dX7_init_29 (by decide) ?_
  refine ev_put2 hE dX7_init_30 pX7_25 H_q (Nat.le_of_ble_eq_true rfl) rfl rfl (fun g k1 k2 => ?_)
  have H_q : g q = some (.inr (8, [.ref a1, .int 0, .int 0, .int (-1), .int 0, .int 0, .int 0, .int 0, .null, .int 0])) := k1
  have H_a1 := (k2 _ N_a1_q).trans H_a1
  have HO : ∀ b e, b ≠ q → g0 b = some e → g b = some e := fun b e hb h => (k2 b hb).trans (HO b e hb h)
  refine ev_aload_n dX7_init_33 rfl rfl ?_
  refine ev_iconst (v := 0) dX7_init_34 (by decide) ?_
  refine ev_put2 hE dX7_init_35 pX7_28 H_q (Nat.le_of_ble_eq_true rfl) rfl rfl (fun g k1 k2 => ?_)
  have H_q : g q = some (.inr (8, [.ref a1, .int 0, .int 0, .int (-1), .int 0, .int 0, .int 0, .int 0, .null, .int 0])) := k1
  have H_a1 := (k2 _ N_a1_q).trans H_a1
  have HO : ∀ b e, b ≠ q → g0 b = some e → g b = some e := fun b e hb h => (k2 b hb).trans (HO b e hb h)
  refine ev_aload_n dX7_init_38 rfl rfl ?_
  refine ev_iconst (v := 0) dX7_init_39 (by decide) ?_
  refine ev_put2 hE dX7_init_40 pX7_31 H_q (Nat.le_of_ble_eq_true rfl) rfl rfl (fun g k1 k2 => ?_)
  have H_q : g q = some (.inr (8, [.ref a1, .int 0, .int 0, .int (-1), .int 0, .int 0, .int 0, .int 0, .null, .int 0])) := k1
  have H_a1 := (k2 _ N_a1_q).trans H_a1
  have HO : ∀ b e, b ≠ q → g0 b = some e → g b = some e := fun b e hb h => (k2 b hb).trans (HO b e hb h)
  refine ev_aload_n dX7_init_43 rfl rfl ?_
  refine ev_iconst (v := (-1)) dX7_init_44 (by decide) ?_
  refine ev_put2 hE dX7_init_45 pX7_34 H_q (Nat.le_of_ble_eq_true rfl) rfl rfl (fun g k1 k2 => ?_)
  have H_q : g q = some (.inr (8, [.ref a1, .int 0, .int 0, .int (-1), .int 0, .int 0, .int 0, .int (-1), .null, .int 0])) := k1
  have H_a1 := (k2 _ N_a1_q).trans H_a1
  have HO : ∀ b e, b ≠ q → g0 b = some e → g b = some e := fun b e hb h => (k2 b hb).trans (HO b e hb h)
  refine ev_aload_n dX7_init_48 rfl rfl ?_
  refine ev_sipush (v := 300) dX7_init_49 (by decide) ?_
  refine ev_newa2_int (N := 300) (b := 0) (n := 0) hE dX7_init_52 a_int (by decide) (by decide) (by decide) (by decide) (by decide) (fun a2 g k0 k1 k2 => ?_)
  have H_a2 : g a2 = some (.inl (G.2.2.2 0, 300, .inl (fun _ => 0))) := k1
  have N_q_a2 : q ≠ a2 := fun z => by rw [← z, H_q] at k0; cases k0
  have N_a2_q : a2 ≠ q := fun z => N_q_a2 z.symm
  have N_a1_a2 : a1 ≠ a2 := fun z => by rw [← z, H_a1] at k0; cases k0
  have N_a2_a1 : a2 ≠ a1 := fun z => N_a1_a2 z.symm
  have F_a2 : g0 a2 = none := by
    cases z : g0 a2 with
    | none => rfl
    | some e => rw [HO a2 e N_a2_q z] at k0; cases k0
  have H_q := (k2 _ N_q_a2).trans H_q
  have H_a1 := (k2 _ N_a1_a2).trans H_a1
  have HO : ∀ b e, b ≠ q → g0 b = some e → g b = some e := fun b e hb h => (k2 b (fun z => by rw [z, F_a2] at h; cases h)).trans (HO b e hb h)
  refine ev_putF2 hE rfl dX7_init_54 pX7_37 H_q (Nat.le_of_ble_eq_true rfl) rfl rfl (fun g k1 k2 => ?_)
  have H_q : g q = some (.inr (8, [.ref a1, .int 0, .int 0, .int (-1), .int 0, .int 0, .int 0, .int (-1), .ref a2, .int 0])) := k1
  have H_a1 := (k2 _ N_a1_q).trans H_a1
  have H_a2 := (k2 _ N_a2_q).trans H_a2
  have HO : ∀ b e, b ≠ q → g0 b = some e → g b = some e := fun b e hb h => (k2 b hb).trans (HO b e hb h)
  refine ev_aload_n dX7_init_57 rfl rfl ?_
  refine ev_iconst (v := 0) dX7_init_58 (by decide) ?_
  refine ev_put2 hE dX7_init_59 pX7_40 H_q (Nat.le_of_ble_eq_true rfl) rfl rfl (fun g k1 k2 => ?_)
  have H_q : g q = some (.inr (8, [.ref a1, .int 0, .int 0, .int (-1), .int 0, .int 0, .int 0, .int (-1), .ref a2, .int 0])) := k1
  have H_a1 := (k2 _ N_a1_q).trans H_a1
  have H_a2 := (k2 _ N_a2_q).trans H_a2
  have HO : ∀ b e, b ≠ q → g0 b = some e → g b = some e := fun b e hb h => (k2 b hb).trans (HO b e hb h)
  exact ev_vret dX7_init_62 rfl ⟨rfl, a1, a2, H_q, ⟨F_a1, H_a1⟩, ⟨F_a2, H_a2⟩, N_a1_a2, HO⟩
theorem c_X4_init {G : ev_G} {d D0 : Nat} {g0 : ev_H} {q : Nat} {x1 : Int32} (hE : ev_En G) (h4 : ev_En4 G D0) (hd : 1 ≤ d) (H_q : g0 q = some (.inr (5, [.int 0, .null, .null, .int 0, .null, .null, .int 0, .int 0, .int 0, .int 0, .int 0, .int 0, .int 0]))) : ev_C G d 3 7 mX4_init [.ref q, .int x1] g0 (fun o g' => o = .inl none ∧ ∃ a1 a2 a3 : Nat, g' q = some (.inr (5, [.int x1, .ref a1, .null, .int (-1), .ref a2, .ref a3, .int 10, .int 12, .int 100, .int 0, .int 0, .int 0, .int 0])) ∧ (g0 a1 = none ∧ g' a1 = some (.inl (G.2.2.2 0, 1, .inl (upd (fun _ => 0) 0 (-1))))) ∧ (g0 a2 = none ∧ g' a2 = some (.inl (G.2.2.2 0, 3, .inl (upd (upd (upd (fun _ => 0) 0 64) 1 64) 2 64)))) ∧ (g0 a3 = none ∧ g' a3 = some (.inl (G.2.2.2 0, 3, .inl (upd (upd (upd (fun _ => 0) 0 (-1)) 1 (-1)) 2 (-1))))) ∧ (a1 ≠ a2 ∧ a1 ≠ a3) ∧ (a2 ≠ a3) ∧ ∀ b e, b ≠ q → g0 b = some e → g' b = some e) := by
  refine ev_start (lv0 := [some (.ref q), some (.int x1)]) (by decide +kernel) rfl (Nat.le_of_ble_eq_true rfl) rfl ?_
  have HO : ∀ b e, b ≠ q → g0 b = some e → g0 b = some e := fun _ _ _ h => h
  refine ev_aload_n dX4_init_0 rfl rfl ?_
  refine ev_objI dX4_init_1 loX4 (Nat.le_of_ble_eq_true rfl) (by omega) ?_
  refine ev_aload_n dX4_init_4 rfl rfl ?_
  refine ev_iconst (v := 1) dX4_init_5 (by decide) ?_
  refine ev_newa2_int (N := 1) (b := 2) (n := 6) hE dX4_init_6 a_int (by decide) (by decide) (by decide) (by decide) (by decide) (fun a1 g k0 k1 k2 => ?_)
  have H_a1 : g a1 = some (.inl (G.2.2.2 0, 1, .inl (fun _ => 0))) := k1
  have N_q_a1 : q ≠ a1 := fun z => by rw [← z, H_q] at k0; cases k0
  have N_a1_q : a1 ≠ q := fun z => N_q_a1 z.symm
  have F_a1 : g0 a1 = none := by
    cases z : g0 a1 with
    | none => rfl
    | some e => rw [HO a1 e N_a1_q z] at k0; cases k0
  have H_q := (k2 _ N_q_a1).trans H_q
  have HO : ∀ b e, b ≠ q → g0 b = some e → g b = some e := fun b e hb h => (k2 b (fun z => by rw [z, F_a1] at h; cases h)).trans (HO b e hb h)
  refine ev_dup dX4_init_8 rfl ?_
  refine ev_iconst (v := 0) dX4_init_9 (by decide) ?_
  refine ev_iconst (v := (-1)) dX4_init_10 (by decide) ?_
  refine ev_iast2 (q := 0) hE dX4_init_11 H_a1 rfl (by decide) (by decide) (fun g k1 k2 => ?_)
  have H_a1 : g a1 = some (.inl (G.2.2.2 0, 1, .inl (upd (fun _ => 0) 0 (-1)))) := k1
  have H_q := (k2 _ N_q_a1).trans H_q
  have HO : ∀ b e, b ≠ q → g0 b = some e → g b = some e := fun b e hb h => (k2 b (fun z => by rw [z, F_a1] at h; cases h)).trans (HO b e hb h)
  refine ev_put2 hE dX4_init_12 pX4_9 H_q (Nat.le_of_ble_eq_true rfl) rfl rfl (fun g k1 k2 => ?_)
  have H_q : g q = some (.inr (5, [.int 0, .ref a1, .null, .int 0, .null, .null, .int 0, .int 0, .int 0, .int 0, .int 0, .int 0, .int 0])) := k1
  have H_a1 := (k2 _ N_a1_q).trans H_a1
  have HO : ∀ b e, b ≠ q → g0 b = some e → g b = some e := fun b e hb h => (k2 b hb).trans (HO b e hb h)
  refine ev_aload_n dX4_init_15 rfl rfl ?_
  refine ev_null dX4_init_16 ?_
  refine ev_put2 hE dX4_init_17 pX4_15 H_q (Nat.le_of_ble_eq_true rfl) rfl rfl (fun g k1 k2 => ?_)
  have H_q : g q = some (.inr (5, [.int 0, .ref a1, .null, .int 0, .null, .null, .int 0, .int 0, .int 0, .int 0, .int 0, .int 0, .int 0])) := k1
  have H_a1 := (k2 _ N_a1_q).trans H_a1
  have HO : ∀ b e, b ≠ q → g0 b = some e → g b = some e := fun b e hb h => (k2 b hb).trans (HO b e hb h)
  refine ev_aload_n dX4_init_20 rfl rfl ?_
  refine ev_iconst (v := (-1)) dX4_init_21 (by decide) ?_
  refine ev_put2 hE dX4_init_22 pX4_18 H_q (Nat.le_of_ble_eq_true rfl) rfl rfl (fun g k1 k2 => ?_)
  have H_q : g q = some (.inr (5, [.int 0, .ref a1, .null, .int (-1), .null, .null, .int 0, .int 0, .int 0, .int 0, .int 0, .int 0, .int 0])) := k1
  have H_a1 := (k2 _ N_a1_q).trans H_a1
  have HO : ∀ b e, b ≠ q → g0 b = some e → g b = some e := fun b e hb h => (k2 b hb).trans (HO b e hb h)
  refine ev_aload_n dX4_init_25 rfl rfl ?_
  refine ev_iconst (v := 3) dX4_init_26 (by decide) ?_
  refine ev_newa2_int (N := 3) (b := 1) (n := 3) hE dX4_init_27 a_int (by decide) (by decide) (by decide) (by decide) (by decide) (fun a2 g k0 k1 k2 => ?_)
  have H_a2 : g a2 = some (.inl (G.2.2.2 0, 3, .inl (fun _ => 0))) := k1
  have N_q_a2 : q ≠ a2 := fun z => by rw [← z, H_q] at k0; cases k0
  have N_a2_q : a2 ≠ q := fun z => N_q_a2 z.symm
  have N_a1_a2 : a1 ≠ a2 := fun z => by rw [← z, H_a1] at k0; cases k0
  have N_a2_a1 : a2 ≠ a1 := fun z => N_a1_a2 z.symm
  have F_a2 : g0 a2 = none := by
    cases z : g0 a2 with
    | none => rfl
    | some e => rw [HO a2 e N_a2_q z] at k0; cases k0
  have H_q := (k2 _ N_q_a2).trans H_q
  have H_a1 := (k2 _ N_a1_a2).trans H_a1
  have HO : ∀ b e, b ≠ q → g0 b = some e → g b = some e := fun b e hb h => (k2 b (fun z => by rw [z, F_a2] at h; cases h)).trans (HO b e hb h)
  refine ev_dup dX4_init_29 rfl ?_
  refine ev_iconst (v := 0) dX4_init_30 (by decide) ?_
  refine ev_bipush (v := 64) dX4_init_31 (by decide) ?_
  refine ev_iast2 (q := 0) hE dX4_init_33 H_a2 rfl (by decide) (by decide) (fun g k1 k2 => ?_)
  have H_a2 : g a2 = some (.inl (G.2.2.2 0, 3, .inl (upd (fun _ => 0) 0 64))) := k1
  have H_q := (k2 _ N_q_a2).trans H_q
  have H_a1 := (k2 _ N_a1_a2).trans H_a1
  have HO : ∀ b e, b ≠ q → g0 b = some e → g b = some e := fun b e hb h => (k2 b (fun z => by rw [z, F_a2] at h; cases h)).trans (HO b e hb h)
  refine ev_dup dX4_init_34 rfl ?_
  refine ev_iconst (v := 1) dX4_init_35 (by decide) ?_
  refine ev_bipush (v := 64) dX4_init_36 (by decide) ?_
  refine ev_iast2 (q := 1) hE dX4_init_38 H_a2 rfl (by decide) (by decide) (fun g k1 k2 => ?_)
  have H_a2 : g a2 = some (.inl (G.2.2.2 0, 3, .inl (upd (upd (fun _ => 0) 0 64) 1 64))) := k1
  have H_q := (k2 _ N_q_a2).trans H_q
  have H_a1 := (k2 _ N_a1_a2).trans H_a1
  have HO : ∀ b e, b ≠ q → g0 b = some e → g b = some e := fun b e hb h => (k2 b (fun z => by rw [z, F_a2] at h; cases h)).trans (HO b e hb h)
  refine ev_dup dX4_init_39 rfl ?_
  refine ev_iconst (v := 2) dX4_init_40 (by decide) ?_
  refine ev_bipush (v := 64) dX4_init_41 (by decide) ?_
  refine ev_iast2 (q := 2) hE dX4_init_43 H_a2 rfl (by decide) (by decide) (fun g k1 k2 => ?_)
  have H_a2 : g a2 = some (.inl (G.2.2.2 0, 3, .inl (upd (upd (upd (fun _ => 0) 0 64) 1 64) 2 64))) := k1
  have H_q := (k2 _ N_q_a2).trans H_q
  have H_a1 := (k2 _ N_a1_a2).trans H_a1
  have HO : ∀ b e, b ≠ q → g0 b = some e → g b = some e := fun b e hb h => (k2 b (fun z => by rw [z, F_a2] at h; cases h)).trans (HO b e hb h)
  refine ev_putF2 hE rfl dX4_init_44 pX4_22 H_q (Nat.le_of_ble_eq_true rfl) rfl rfl (fun g k1 k2 => ?_)
  have H_q : g q = some (.inr (5, [.int 0, .ref a1, .null, .int (-1), .ref a2, .null, .int 0, .int 0, .int 0, .int 0, .int 0, .int 0, .int 0])) := k1
  have H_a1 := (k2 _ N_a1_q).trans H_a1
  have H_a2 := (k2 _ N_a2_q).trans H_a2
  have HO : ∀ b e, b ≠ q → g0 b = some e → g b = some e := fun b e hb h => (k2 b hb).trans (HO b e hb h)
  refine ev_aload_n dX4_init_47 rfl rfl ?_
  refine ev_iconst (v := 3) dX4_init_48 (by decide) ?_
  refine ev_newa2_int (N := 3) (b := 0) (n := 0) hE dX4_init_49 a_int (by decide) (by decide) (by decide) (by decide) (by decide) (fun a3 g k0 k1 k2 => ?_)
  have H_a3 : g a3 = some (.inl (G.2.2.2 0, 3, .inl (fun _ => 0))) := k1
  have N_q_a3 : q ≠ a3 := fun z => by rw [← z, H_q] at k0; cases k0
  have N_a3_q : a3 ≠ q := fun z => N_q_a3 z.symm
  have N_a1_a3 : a1 ≠ a3 := fun z => by rw [← z, H_a1] at k0; cases k0
  have N_a3_a1 : a3 ≠ a1 := fun z => N_a1_a3 z.symm
  have N_a2_a3 : a2 ≠ a3 := fun z => by rw [← z, H_a2] at k0; cases k0
  have N_a3_a2 : a3 ≠ a2 := fun z => N_a2_a3 z.symm
  have F_a3 : g0 a3 = none := by
    cases z : g0 a3 with
    | none => rfl
    | some e => rw [HO a3 e N_a3_q z] at k0; cases k0
  have H_q := (k2 _ N_q_a3).trans H_q
  have H_a1 := (k2 _ N_a1_a3).trans H_a1
  have H_a2 := (k2 _ N_a2_a3).trans H_a2
  have HO : ∀ b e, b ≠ q → g0 b = some e → g b = some e := fun b e hb h => (k2 b (fun z => by rw [z, F_a3] at h; cases h)).trans (HO b e hb h)
  refine ev_dup dX4_init_51 rfl ?_
  refine ev_iconst (v := 0) dX4_init_52 (by decide) ?_
  refine ev_iconst (v := (-1)) dX4_init_53 (by decide) ?_
  refine ev_iast2 (q := 0) hE dX4_init_54 H_a3 rfl (by decide) (by decide) (fun g k1 k2 => ?_)
  have H_a3 : g a3 = some (.inl (G.2.2.2 0, 3, .inl (upd (fun _ => 0) 0 (-1)))) := k1
  have H_q := (k2 _ N_q_a3).trans H_q
  have H_a1 := (k2 _ N_a1_a3).trans H_a1
  have H_a2 := (k2 _ N_a2_a3).trans H_a2
  have HO : ∀ b e, b ≠ q → g0 b = some e → g b = some e := fun b e hb h => (k2 b (fun z => by rw [z, F_a3] at h; cases h)).trans (HO b e hb h)
  refine ev_dup dX4_init_55 rfl ?_
  refine ev_iconst (v := 1) dX4_init_56 (by decide) ?_
  refine ev_iconst (v := (-1)) dX4_init_57 (by decide) ?_
  refine ev_iast2 (q := 1) hE dX4_init_58 H_a3 rfl (by decide) (by decide) (fun g k1 k2 => ?_)
  have H_a3 : g a3 = some (.inl (G.2.2.2 0, 3, .inl (upd (upd (fun _ => 0) 0 (-1)) 1 (-1)))) := k1
  have H_q := (k2 _ N_q_a3).trans H_q
  have H_a1 := (k2 _ N_a1_a3).trans H_a1
  have H_a2 := (k2 _ N_a2_a3).trans H_a2
  have HO : ∀ b e, b ≠ q → g0 b = some e → g b = some e := fun b e hb h => (k2 b (fun z => by rw [z, F_a3] at h; cases h)).trans (HO b e hb h)
  refine ev_dup dX4_init_59 rfl ?_
  refine ev_iconst (v := 2) dX4_init_60 (by decide) ?_
  refine ev_iconst (v := (-1)) dX4_init_61 (by decide) ?_
  refine ev_iast2 (q := 2) hE dX4_init_62 H_a3 rfl (by decide) (by decide) (fun g k1 k2 => ?_)
  have H_a3 : g a3 = some (.inl (G.2.2.2 0, 3, .inl (upd (upd (upd (fun _ => 0) 0 (-1)) 1 (-1)) 2 (-1)))) := k1
  have H_q := (k2 _ N_q_a3).trans H_q
  have H_a1 := (k2 _ N_a1_a3).trans H_a1
  have H_a2 := (k2 _ N_a2_a3).trans H_a2
  have HO : ∀ b e, b ≠ q → g0 b = some e → g b = some e := fun b e hb h => (k2 b (fun z => by rw [z, F_a3] at h; cases h)).trans (HO b e hb h)
  refine ev_putF2 hE rfl dX4_init_63 pX4_25 H_q (Nat.le_of_ble_eq_true rfl) rfl rfl (fun g k1 k2 => ?_)
  have H_q : g q = some (.inr (5, [.int 0, .ref a1, .null, .int (-1), .ref a2, .ref a3, .int 0, .int 0, .int 0, .int 0, .int 0, .int 0, .int 0])) := k1
  have H_a1 := (k2 _ N_a1_q).trans H_a1
  have H_a2 := (k2 _ N_a2_q).trans H_a2
  have H_a3 := (k2 _ N_a3_q).trans H_a3
  have HO : ∀ b e, b ≠ q → g0 b = some e → g b = some e := fun b e hb h => (k2 b hb).trans (HO b e hb h)
  refine ev_aload_n dX4_init_66 rfl rfl ?_
  refine ev_bipush (v := 10) dX4_init_67 (by decide) ?_
  refine ev_put2 hE dX4_init_69 pX4_28 H_q (Nat.le_of_ble_eq_true rfl) rfl rfl (fun g k1 k2 => ?_)
  have H_q : g q = some (.inr (5, [.int 0, .ref a1, .null, .int (-1), .ref a2, .ref a3, .int 10, .int 0, .int 0, .int 0, .int 0, .int 0, .int 0])) := k1
  have H_a1 := (k2 _ N_a1_q).trans H_a1
  have H_a2 := (k2 _ N_a2_q).trans H_a2
  have H_a3 := (k2 _ N_a3_q).trans H_a3
  have HO : ∀ b e, b ≠ q → g0 b = some e → g b = some e := fun b e hb h => (k2 b hb).trans (HO b e hb h)
  refine ev_aload_n dX4_init_72 rfl rfl ?_
  refine ev_bipush (v := 12) dX4_init_73 (by decide) ?_
  refine ev_put2 hE dX4_init_75 pX4_31 H_q (Nat.le_of_ble_eq_true rfl) rfl rfl (fun g k1 k2 => ?_)
  have H_q : g q = some (.inr (5, [.int 0, .ref a1, .null, .int (-1), .ref a2, .ref a3, .int 10, .int 12, .int 0, .int 0, .int 0, .int 0, .int 0])) := k1
  have H_a1 := (k2 _ N_a1_q).trans H_a1
  have H_a2 := (k2 _ N_a2_q).trans H_a2
  have H_a3 := (k2 _ N_a3_q).trans H_a3
  have HO : ∀ b e, b ≠ q → g0 b = some e → g b = some e := fun b e hb h => (k2 b hb).trans (HO b e hb h)
  refine ev_aload_n dX4_init_78 rfl rfl ?_
  refine ev_bipush (v := 100) dX4_init_79 (by decide) ?_
  refine ev_put2 hE dX4_init_81 pX4_34 H_q (Nat.le_of_ble_eq_true rfl) rfl rfl (fun g k1 k2 => ?_)
  have H_q : g q = some (.inr (5, [.int 0, .ref a1, .null, .int (-1), .ref a2, .ref a3, .int 10, .int 12, .int 100, .int 0, .int 0, .int 0, .int 0])) := k1
  have H_a1 := (k2 _ N_a1_q).trans H_a1
  have H_a2 := (k2 _ N_a2_q).trans H_a2
  have H_a3 := (k2 _ N_a3_q).trans H_a3
  have HO : ∀ b e, b ≠ q → g0 b = some e → g b = some e := fun b e hb h => (k2 b hb).trans (HO b e hb h)
  refine ev_aload_n dX4_init_84 rfl rfl ?_
  refine ev_iconst (v := 0) dX4_init_85 (by decide) ?_
  refine ev_put2 hE dX4_init_86 pX4_37 H_q (Nat.le_of_ble_eq_true rfl) rfl rfl (fun g k1 k2 => ?_)
  have H_q : g q = some (.inr (5, [.int 0, .ref a1, .null, .int (-1), .ref a2, .ref a3, .int 10, .int 12, .int 100, .int 0, .int 0, .int 0, .int 0])) := k1
  have H_a1 := (k2 _ N_a1_q).trans H_a1
  have H_a2 := (k2 _ N_a2_q).trans H_a2
  have H_a3 := (k2 _ N_a3_q).trans H_a3
  have HO : ∀ b e, b ≠ q → g0 b = some e → g b = some e := fun b e hb h => (k2 b hb).trans (HO b e hb h)
  refine ev_aload_n dX4_init_89 rfl rfl ?_
  refine ev_iconst (v := 0) dX4_init_90 (by decide) ?_
  refine ev_put2 hE dX4_init_91 pX4_40 H_q (Nat.le_of_ble_eq_true rfl) rfl rfl (fun g k1 k2 => ?_)
  have H_q : g q = some (.inr (5, [.int 0, .ref a1, .null, .int (-1), .ref a2, .ref a3, .int 10, .int 12, .int 100, .int 0, .int 0, .int 0, .int 0])) := k1
  have H_a1 := (k2 _ N_a1_q).trans H_a1
  have H_a2 := (k2 _ N_a2_q).trans H_a2
  have H_a3 := (k2 _ N_a3_q).trans H_a3
  have HO : ∀ b e, b ≠ q → g0 b = some e → g b = some e := fun b e hb h => (k2 b hb).trans (HO b e hb h)
  refine ev_aload_n dX4_init_94 rfl rfl ?_
  refine ev_iconst (v := 0) dX4_init_95 (by decide) ?_
  refine ev_put2 hE dX4_init_96 pX4_43 H_q (Nat.le_of_ble_eq_true rfl) rfl rfl (fun g k1 k2 => ?_)
  have H_q : g q = some (.inr (5, [.int 0, .ref a1, .null, .int (-1), .ref a2, .ref a3, .int 10, .int 12, .int 100, .int 0, .int 0, .int 0, .int 0])) := k1
  have H_a1 := (k2 _ N_a1_q).trans H_a1
  have H_a2 := (k2 _ N_a2_q).trans H_a2
  have H_a3 := (k2 _ N_a3_q).trans H_a3
  have HO : ∀ b e, b ≠ q → g0 b = some e → g b = some e := fun b e hb h => (k2 b hb).trans (HO b e hb h)
  refine ev_aload_n dX4_init_99 rfl rfl ?_
  refine ev_iconst (v := 0) dX4_init_100 (by decide) ?_
  refine ev_put2 hE dX4_init_101 pX4_47 H_q (Nat.le_of_ble_eq_true rfl) rfl rfl (fun g k1 k2 => ?_)
  have H_q : g q = some (.inr (5, [.int 0, .ref a1, .null, .int (-1), .ref a2, .ref a3, .int 10, .int 12, .int 100, .int 0, .int 0, .int 0, .int 0])) := k1
  have H_a1 := (k2 _ N_a1_q).trans H_a1
  have H_a2 := (k2 _ N_a2_q).trans H_a2
  have H_a3 := (k2 _ N_a3_q).trans H_a3
  have HO : ∀ b e, b ≠ q → g0 b = some e → g b = some e := fun b e hb h => (k2 b hb).trans (HO b e hb h)
  refine ev_aload_n dX4_init_104 rfl rfl ?_
  refine ev_iload_n dX4_init_105 rfl rfl ?_
  refine ev_putF2 hE rfl dX4_init_106 pX4_50 H_q (Nat.le_of_ble_eq_true rfl) rfl rfl (fun g k1 k2 => ?_)
  have H_q : g q = some (.inr (5, [.int x1, .ref a1, .null, .int (-1), .ref a2, .ref a3, .int 10, .int 12, .int 100, .int 0, .int 0, .int 0, .int 0])) := k1
  have H_a1 := (k2 _ N_a1_q).trans H_a1
  have H_a2 := (k2 _ N_a2_q).trans H_a2
  have H_a3 := (k2 _ N_a3_q).trans H_a3
  have HO : ∀ b e, b ≠ q → g0 b = some e → g b = some e := fun b e hb h => (k2 b hb).trans (HO b e hb h)
  exact ev_vret dX4_init_109 rfl ⟨rfl, a1, a2, a3, H_q, ⟨F_a1, H_a1⟩, ⟨F_a2, H_a2⟩, ⟨F_a3, H_a3⟩, ⟨N_a1_a2, N_a1_a3⟩, N_a2_a3, HO⟩
theorem c_X11_init {G : ev_G} {d D0 : Nat} {g0 : ev_H} {q : Nat}  (hE : ev_En G) (h4 : ev_En4 G D0) (hd : 4 ≤ d) (H_q : g0 q = some (.inr (12, [.null, .null, .null, .null, .null, .int 0, .int 0, .null, .null, .null, .null, .null, .null]))) : ev_C G d 25 1601 mX11_init [.ref q] g0 (fun o g' => o = .inl none ∧ ∃ a1 a2 a3 a4 a5 a6 a7 a8 a9 a10 a11 a12 a13 a14 a15 a16 a17 a18 a19 a20 a21 a22 a23 a24 a25 : Nat, g' q = some (.inr (12, [.ref a1, .ref a2, .ref a3, .ref a4, .ref a5, .int 0, .int 0, .ref a6, .ref a10, .ref a13, .ref a15, .ref a19, .ref a25])) ∧ (g0 a1 = none ∧ g' a1 = some (.inr (0, [.int 0, .ref D0, .int 0]))) ∧ (g0 a2 = none ∧ g' a2 = some (.inr (0, [.int 0, .ref D0, .int 0]))) ∧ (g0 a3 = none ∧ g' a3 = some (.inr (0, [.int 0, .ref D0, .int 0]))) ∧ (g0 a4 = none ∧ g' a4 = some (.inr (0, [.int 0, .ref D0, .int 0]))) ∧ (g0 a5 = none ∧ g' a5 = some (.inl (G.2.2.2 0, 5, .inl (fun _ => 0)))) ∧ (g0 a6 = none ∧ g' a6 = some (.inr (5, [.int 0, .ref a7, .null, .int (-1), .ref a8, .ref a9, .int 10, .int 12, .int 100, .int 0, .int 0, .int 0, .int 0]))) ∧ (g0 a7 = none ∧ g' a7 = some (.inl (G.2.2.2 0, 1, .inl (upd (fun _ => 0) 0 (-1))))) ∧ (g0 a8 = none ∧ g' a8 = some (.inl (G.2.2.2 0, 3, .inl (upd (upd (upd (fun _ => 0) 0 64) 1 64) 2 64)))) ∧ (g0 a9 = none ∧ g' a9 = some (.inl (G.2.2.2 0, 3, .inl (upd (upd (upd (fun _ => 0) 0 (-1)) 1 (-1)) 2 (-1))))) ∧ (g0 a10 = none ∧ g' a10 = some (.inr (8, [.ref a11, .int 0, .int 0, .int (-1), .int 0, .int 0, .int 0, .int (-1), .ref a12, .int 0]))) ∧ (g0 a11 = none ∧ g' a11 = some (.inl (G.2.2.2 0, 300, .inl (fun _ => 0)))) ∧ (g0 a12 = none ∧ g' a12 = some (.inl (G.2.2.2 0, 300, .inl (fun _ => 0)))) ∧ (g0 a13 = none ∧ g' a13 = some (.inr (11, [.ref a14]))) ∧ (g0 a14 = none ∧ g' a14 = some (.inl (G.2.2.2 0, 64, .inl (fun _ => 0)))) ∧ (g0 a15 = none ∧ g' a15 = some (.inr (7, [.ref a16, .ref a17, .ref a18]))) ∧ (g0 a16 = none ∧ g' a16 = some (.inl (G.2.2.2 0, 12, .inl (fun _ => 0)))) ∧ (g0 a17 = none ∧ g' a17 = some (.inl (G.2.2.2 0, 12, .inl (fun _ => 0)))) ∧ (g0 a18 = none ∧ g' a18 = some (.inl (G.2.2.2 1, 12, .inr (.inl (fun _ => 0))))) ∧ (g0 a19 = none ∧ g' a19 = some (.inr (3, [.ref a20, .ref a21, .ref a22, .ref a23, .ref a24, .int 0]))) ∧ (g0 a20 = none ∧ g' a20 = some (.inl (G.2.2.2 5, 600, .inr (.inr (.inr (.inr (fun _ => none))))))) ∧ (g0 a21 = none ∧ g' a21 = some (.inl (G.2.2.2 0, 60, .inl (fun _ => 0)))) ∧ (g0 a22 = none ∧ g' a22 = some (.inl (G.2.2.2 0, 60, .inl (fun _ => 0)))) ∧ (g0 a23 = none ∧ g' a23 = some (.inl (G.2.2.2 0, 60, .inl (fun _ => 0)))) ∧ (g0 a24 = none ∧ g' a24 = some (.inl (G.2.2.2 0, 60, .inl (fun _ => 0)))) ∧ (g0 a25 = none ∧ g' a25 = some (.inr (4, [.int 0, .int 0, .int 0, .int 0]))) ∧ (a1 ≠ a2 ∧ a1 ≠ a3 ∧ a1 ≠ a4 ∧ a1 ≠ a5 ∧ a1 ≠ a6 ∧ a1 ≠ a7 ∧ a1 ≠ a8 ∧ a1 ≠ a9 ∧ a1 ≠ a10 ∧ a1 ≠ a11 ∧ a1 ≠ a12 ∧ a1 ≠ a13 ∧ a1 ≠ a14 ∧ a1 ≠ a15 ∧ a1 ≠ a16 ∧ a1 ≠ a17 ∧ a1 ≠ a18 ∧ a1 ≠ a19 ∧ a1 ≠ a20 ∧ a1 ≠ a21 ∧ a1 ≠ a22 ∧ a1 ≠ a23 ∧ a1 ≠ a24 ∧ a1 ≠ a25) ∧ (a2 ≠ a3 ∧ a2 ≠ a4 ∧ a2 ≠ a5 ∧ a2 ≠ a6 ∧ a2 ≠ a7 ∧ a2 ≠ a8 ∧ a2 ≠ a9 ∧ a2 ≠ a10 ∧ a2 ≠ a11 ∧ a2 ≠ a12 ∧ a2 ≠ a13 ∧ a2 ≠ a14 ∧ a2 ≠ a15 ∧ a2 ≠ a16 ∧ a2 ≠ a17 ∧ a2 ≠ a18 ∧ a2 ≠ a19 ∧ a2 ≠ a20 ∧ a2 ≠ a21 ∧ a2 ≠ a22 ∧ a2 ≠ a23 ∧ a2 ≠ a24 ∧ a2 ≠ a25) ∧ (a3 ≠ a4 ∧ a3 ≠ a5 ∧ a3 ≠ a6 ∧ a3 ≠ a7 ∧ a3 ≠ a8 ∧ a3 ≠ a9 ∧ a3 ≠ a10 ∧ a3 ≠ a11 ∧ a3 ≠ a12 ∧ a3 ≠ a13 ∧ a3 ≠ a14 ∧ a3 ≠ a15 ∧ a3 ≠ a16 ∧ a3 ≠ a17 ∧ a3 ≠ a18 ∧ a3 ≠ a19 ∧ a3 ≠ a20 ∧ a3 ≠ a21 ∧ a3 ≠ a22 ∧ a3 ≠ a23 ∧ a3 ≠ a24 ∧ a3 ≠ a25) ∧ (a4 ≠ a5 ∧ a4 ≠ a6 ∧ a4 ≠ a7 ∧ a4 ≠ a8 ∧ a4 ≠ a9 ∧ a4 ≠ a10 ∧ a4 ≠ a11 ∧ a4 ≠ a12 ∧ a4 ≠ a13 ∧ a4 ≠ a14 ∧ a4 ≠ a15 ∧ a4 ≠ a16 ∧ a4 ≠ a17 ∧ a4 ≠ a18 ∧ a4 ≠ a19 ∧ a4 ≠ a20 ∧ a4 ≠ a21 ∧ a4 ≠ a22 ∧ a4 ≠ a23 ∧ a4 ≠ a24 ∧ a4 ≠ a25) ∧ (a5 ≠ a6 ∧ a5 ≠ a7 ∧ a5 ≠ a8 ∧ a5 ≠ a9 ∧ a5 ≠ a10 ∧ a5 ≠ a11 ∧ a5 ≠ a12 ∧ a5 ≠ a13 ∧ a5 ≠ a14 ∧ a5 ≠ a15 ∧ a5 ≠ a16 ∧ a5 ≠ a17 ∧ a5 ≠ a18 ∧ a5 ≠ a19 ∧ a5 ≠ a20 ∧ a5 ≠ a21 ∧ a5 ≠ a22 ∧ a5 ≠ a23 ∧ a5 ≠ a24 ∧ a5 ≠ a25) ∧ (a6 ≠ a7 ∧ a6 ≠ a8 ∧ a6 ≠ a9 ∧ a6 ≠ a10 ∧ a6 ≠ a11 ∧ a6 ≠ a12 ∧ a6 ≠ a13 ∧ a6 ≠ a14 ∧ a6 ≠ a15 ∧ a6 ≠ a16 ∧ a6 ≠ a17 ∧ a6 ≠ a18 ∧ a6 ≠ a19 ∧ a6 ≠ a20 ∧ a6 ≠ a21 ∧ a6 ≠ a22 ∧ a6 ≠ a23 ∧ a6 ≠ a24 ∧ a6 ≠ a25) ∧ (a7 ≠ a8 ∧ a7 ≠ a9 ∧ a7 ≠ a10 ∧ a7 ≠ a11 ∧ a7 ≠ a12 ∧ a7 ≠ a13 ∧ a7 ≠ a14 ∧ a7 ≠ a15 ∧ a7 ≠ a16 ∧ a7 ≠ a17 ∧ a7 ≠ a18 ∧ a7 ≠ a19 ∧ a7 ≠ a20 ∧ a7 ≠ a21 ∧ a7 ≠ a22 ∧ a7 ≠ a23 ∧ a7 ≠ a24 ∧ a7 ≠ a25) ∧ (a8 ≠ a9 ∧ a8 ≠ a10 ∧ a8 ≠ a11 ∧ a8 ≠ a12 ∧ a8 ≠ a13 ∧ a8 ≠ a14 ∧ a8 ≠ a15 ∧ a8 ≠ a16 ∧ a8 ≠ a17 ∧ a8 ≠ a18 ∧ a8 ≠ a19 ∧ a8 ≠ a20 ∧ a8 ≠ a21 ∧ a8 ≠ a22 ∧ a8 ≠ a23 ∧ a8 ≠ a24 ∧ a8 ≠ a25) ∧ (a9 ≠ a10 ∧ a9 ≠ a11 ∧ a9 ≠ a12 ∧ a9 ≠ a13 ∧ a9 ≠ a14 ∧ a9 ≠ a15 ∧ a9 ≠ a16 ∧ a9 ≠ a17 ∧ a9 ≠ a18 ∧ a9 ≠ a19 ∧ a9 ≠ a20 ∧ a9 ≠ a21 ∧ a9 ≠ a22 ∧ a9 ≠ a23 ∧ a9 ≠ a24 ∧ a9 ≠ a25) ∧ (a10 ≠ a11 ∧ a10 ≠ a12 ∧ a10 ≠ a13 ∧ a10 ≠ a14 ∧ a10 ≠ a15 ∧ a10 ≠ a16 ∧ a10 ≠ a17 ∧ a10 ≠ a18 ∧ a10 ≠ a19 ∧ a10 ≠ a20 ∧ a10 ≠ a21 ∧ a10 ≠ a22 ∧ a10 ≠ a23 ∧ a10 ≠ a24 ∧ a10 ≠ a25) ∧ (a11 ≠ a12 ∧ a11 ≠ a13 ∧ a11 ≠ a14 ∧ a11 ≠ a15 ∧ a11 ≠ a16 ∧ a11 ≠ a17 ∧ a11 ≠ a18 ∧ a11 ≠ a19 ∧ a11 ≠ a20 ∧ a11 ≠ a21 ∧ a11 ≠ a22 ∧ a11 ≠ a23 ∧ a11 ≠ a24 ∧ a11 ≠ a25) ∧ (a12 ≠ a13 ∧ a12 ≠ a14 ∧ a12 ≠ a15 ∧ a12 ≠ a16 ∧ a12 ≠ a17 ∧ a12 ≠ a18 ∧ a12 ≠ a19 ∧ a12 ≠ a20 ∧ a12 ≠ a21 ∧ a12 ≠ a22 ∧ a12 ≠ a23 ∧ a12 ≠ a24 ∧ a12 ≠ a25) ∧ (a13 ≠ a14 ∧ a13 ≠ a15 ∧ a13 ≠ a16 ∧ a13 ≠ a17 ∧ a13 ≠ a18 ∧ a13 ≠ a19 ∧ a13 ≠ a20 ∧ a13 ≠ a21 ∧ a13 ≠ a22 ∧ a13 ≠ a23 ∧ a13 ≠ a24 ∧ a13 ≠ a25) ∧ (a14 ≠ a15 ∧ a14 ≠ a16 ∧ a14 ≠ a17 ∧ a14 ≠ a18 ∧ a14 ≠ a19 ∧ a14 ≠ a20 ∧ a14 ≠ a21 ∧ a14 ≠ a22 ∧ a14 ≠ a23 ∧ a14 ≠ a24 ∧ a14 ≠ a25) ∧ (a15 ≠ a16 ∧ a15 ≠ a17 ∧ a15 ≠ a18 ∧ a15 ≠ a19 ∧ a15 ≠ a20 ∧ a15 ≠ a21 ∧ a15 ≠ a22 ∧ a15 ≠ a23 ∧ a15 ≠ a24 ∧ a15 ≠ a25) ∧ (a16 ≠ a17 ∧ a16 ≠ a18 ∧ a16 ≠ a19 ∧ a16 ≠ a20 ∧ a16 ≠ a21 ∧ a16 ≠ a22 ∧ a16 ≠ a23 ∧ a16 ≠ a24 ∧ a16 ≠ a25) ∧ (a17 ≠ a18 ∧ a17 ≠ a19 ∧ a17 ≠ a20 ∧ a17 ≠ a21 ∧ a17 ≠ a22 ∧ a17 ≠ a23 ∧ a17 ≠ a24 ∧ a17 ≠ a25) ∧ (a18 ≠ a19 ∧ a18 ≠ a20 ∧ a18 ≠ a21 ∧ a18 ≠ a22 ∧ a18 ≠ a23 ∧ a18 ≠ a24 ∧ a18 ≠ a25) ∧ (a19 ≠ a20 ∧ a19 ≠ a21 ∧ a19 ≠ a22 ∧ a19 ≠ a23 ∧ a19 ≠ a24 ∧ a19 ≠ a25) ∧ (a20 ≠ a21 ∧ a20 ≠ a22 ∧ a20 ≠ a23 ∧ a20 ≠ a24 ∧ a20 ≠ a25) ∧ (a21 ≠ a22 ∧ a21 ≠ a23 ∧ a21 ≠ a24 ∧ a21 ≠ a25) ∧ (a22 ≠ a23 ∧ a22 ≠ a24 ∧ a22 ≠ a25) ∧ (a23 ≠ a24 ∧ a23 ≠ a25) ∧ (a24 ≠ a25) ∧ ∀ b e, b ≠ q → g0 b = some e → g' b = some e) := by
  refine ev_start (lv0 := [some (.ref q)]) (by decide +kernel) rfl (Nat.le_of_ble_eq_true rfl) rfl ?_
  have HO : ∀ b e, b ≠ q → g0 b = some e → g0 b = some e := fun _ _ _ h => h
  refine ev_aload_n dX11_init_0 rfl rfl ?_
  refine ev_objI dX11_init_1 loX11 (Nat.le_of_ble_eq_true rfl) (by omega) ?_
  refine ev_aload_n dX11_init_4 rfl rfl ?_
  refine ev_new2 (b := 24) (n := 1598) hE dX11_init_5 wX11_7 (by decide) (by decide) (fun a1 g k0 k1 k2 => ?_)
  have H_a1 : g a1 = some (.inr (0, [.int 0, .null, .int 0])) := k1
  have N_q_a1 : q ≠ a1 := fun z => by rw [← z, H_q] at k0; cases k0
  have N_a1_q : a1 ≠ q := fun z => N_q_a1 z.symm
  have F_a1 : g0 a1 = none := by
    cases z : g0 a1 with
    | none => rfl
    | some e => rw [HO a1 e N_a1_q z] at k0; cases k0
  have H_q := (k2 _ N_q_a1).trans H_q
  have HO : ∀ b e, b ≠ q → g0 b = some e → g b = some e := fun b e hb h => (k2 b (fun z => by rw [z, F_a1] at h; cases h)).trans (HO b e hb h)
  refine ev_dup dX11_init_8 rfl ?_
  refine ev_callI (d' := d - 1) (b := 24) (k0 := 1598) (As := []) dX11_init_9 rfl rfl kJx4a65c_init_da8c8 rfl rfl lX11_9 iJx4a65c_init_da8c8 (Nat.le_of_ble_eq_true rfl) (by omega) (cl_init hE h4 (by omega) H_a1) (Nat.le_refl _) (Nat.le_refl _) (fun v g h => ?_) (fun E g h => by cases h.1)
  obtain ⟨h1, h2⟩ := h
  cases h1
  have k2 := fun b (hb : b ≠ a1) => (congrFun h2 b).trans (ev_up_n _ _ hb)
  have H_a1 : g a1 = some (.inr (0, [.int 0, .ref D0, .int 0])) := (congrFun h2 a1).trans (ev_up_s _ _ _)
  have H_q := (k2 _ N_q_a1).trans H_q
  have HO : ∀ b e, b ≠ q → g0 b = some e → g b = some e := fun b e hb h => (k2 b (fun z => by rw [z, F_a1] at h; cases h)).trans (HO b e hb h)
  refine ev_putF2 hE rfl dX11_init_12 pX11_10 H_q (Nat.le_of_ble_eq_true rfl) rfl rfl (fun g k1 k2 => ?_)
  have H_q : g q = some (.inr (12, [.ref a1, .null, .null, .null, .null, .int 0, .int 0, .null, .null, .null, .null, .null, .null])) := k1
  have H_a1 := (k2 _ N_a1_q).trans H_a1
  have HO : ∀ b e, b ≠ q → g0 b = some e → g b = some e := fun b e hb h => (k2 b hb).trans (HO b e hb h)
  refine ev_aload_n dX11_init_15 rfl rfl ?_
  refine ev_new2 (b := 23) (n := 1595) hE dX11_init_16 wX11_7 (by decide) (by decide) (fun a2 g k0 k1 k2 => ?_)
  have H_a2 : g a2 = some (.inr (0, [.int 0, .null, .int 0])) := k1
  have N_q_a2 : q ≠ a2 := fun z => by rw [← z, H_q] at k0; cases k0
  have N_a2_q : a2 ≠ q := fun z => N_q_a2 z.symm
  have N_a1_a2 : a1 ≠ a2 := fun z => by rw [← z, H_a1] at k0; cases k0
  have N_a2_a1 : a2 ≠ a1 := fun z => N_a1_a2 z.symm
  have F_a2 : g0 a2 = none := by
    cases z : g0 a2 with
    | none => rfl
    | some e => rw [HO a2 e N_a2_q z] at k0; cases k0
  have H_q := (k2 _ N_q_a2).trans H_q
  have H_a1 := (k2 _ N_a1_a2).trans H_a1
  have HO : ∀ b e, b ≠ q → g0 b = some e → g b = some e := fun b e hb h => (k2 b (fun z => by rw [z, F_a2] at h; cases h)).trans (HO b e hb h)
  refine ev_dup dX11_init_19 rfl ?_
  refine ev_callI (d' := d - 1) (b := 23) (k0 := 1595) (As := []) dX11_init_20 rfl rfl kJx4a65c_init_da8c8 rfl rfl lX11_9 iJx4a65c_init_da8c8 (Nat.le_of_ble_eq_true rfl) (by omega) (cl_init hE h4 (by omega) H_a2) (Nat.le_refl _) (Nat.le_refl _) (fun v g h => ?_) (fun E g h => by cases h.1)
  obtain ⟨h1, h2⟩ := h
  cases h1
  have k2 := fun b (hb : b ≠ a2) => (congrFun h2 b).trans (ev_up_n _ _ hb)
  have H_a2 : g a2 = some (.inr (0, [.int 0, .ref D0, .int 0])) := (congrFun h2 a2).trans (ev_up_s _ _ _)
  have H_q := (k2 _ N_q_a2).trans H_q
  have H_a1 := (k2 _ N_a1_a2).trans H_a1
  have HO : ∀ b e, b ≠ q → g0 b = some e → g b = some e := fun b e hb h => (k2 b (fun z => by rw [z, F_a2] at h; cases h)).trans (HO b e hb h)
  refine ev_putF2 hE rfl dX11_init_23 pX11_16 H_q (Nat.le_of_ble_eq_true rfl) rfl rfl (fun g k1 k2 => ?_)
  have H_q : g q = some (.inr (12, [.ref a1, .ref a2, .null, .null, .null, .int 0, .int 0, .null, .null, .null, .null, .null, .null])) := k1
  have H_a1 := (k2 _ N_a1_q).trans H_a1
  have H_a2 := (k2 _ N_a2_q).trans H_a2
  have HO : ∀ b e, b ≠ q → g0 b = some e → g b = some e := fun b e hb h => (k2 b hb).trans (HO b e hb h)
  refine ev_aload_n dX11_init_26 rfl rfl ?_
  refine ev_new2 (b := 22) (n := 1592) hE dX11_init_27 wX11_7 (by decide) (by decide) (fun a3 g k0 k1 k2 => ?_)
  have H_a3 : g a3 = some (.inr (0, [.int 0, .null, .int 0])) := k1
  have N_q_a3 : q ≠ a3 := fun z => by rw [← z, H_q] at k0; cases k0
  have N_a3_q : a3 ≠ q := fun z => N_q_a3 z.symm
  have N_a1_a3 : a1 ≠ a3 := fun z => by rw [← z, H_a1] at k0; cases k0
  have N_a3_a1 : a3 ≠ a1 := fun z => N_a1_a3 z.symm
  have N_a2_a3 : a2 ≠ a3 := fun z => by rw [← z, H_a2] at k0; cases k0
  have N_a3_a2 : a3 ≠ a2 := fun z => N_a2_a3 z.symm
  have F_a3 : g0 a3 = none := by
    cases z : g0 a3 with
    | none => rfl
    | some e => rw [HO a3 e N_a3_q z] at k0; cases k0
  have H_q := (k2 _ N_q_a3).trans H_q
  have H_a1 := (k2 _ N_a1_a3).trans H_a1
  have H_a2 := (k2 _ N_a2_a3).trans H_a2
  have HO : ∀ b e, b ≠ q → g0 b = some e → g b = some e := fun b e hb h => (k2 b (fun z => by rw [z, F_a3] at h; cases h)).trans (HO b e hb h)
  refine ev_dup dX11_init_30 rfl ?_
  refine ev_callI (d' := d - 1) (b := 22) (k0 := 1592) (As := []) dX11_init_31 rfl rfl kJx4a65c_init_da8c8 rfl rfl lX11_9 iJx4a65c_init_da8c8 (Nat.le_of_ble_eq_true rfl) (by omega) (cl_init hE h4 (by omega) H_a3) (Nat.le_refl _) (Nat.le_refl _) (fun v g h => ?_) (fun E g h => by cases h.1)
  obtain ⟨h1, h2⟩ := h
  cases h1
  have k2 := fun b (hb : b ≠ a3) => (congrFun h2 b).trans (ev_up_n _ _ hb)
  have H_a3 : g a3 = some (.inr (0, [.int 0, .ref D0, .int 0])) := (congrFun h2 a3).trans (ev_up_s _ _ _)
  have H_q := (k2 _ N_q_a3).trans H_q
  have H_a1 := (k2 _ N_a1_a3).trans H_a1
  have H_a2 := (k2 _ N_a2_a3).trans H_a2
  have HO : ∀ b e, b ≠ q → g0 b = some e → g b = some e := fun b e hb h => (k2 b (fun z => by rw [z, F_a3] at h; cases h)).trans (HO b e hb h)
  refine ev_putF2 hE rfl dX11_init_34 pX11_19 H_q (Nat.le_of_ble_eq_true rfl) rfl rfl (fun g k1 k2 => ?_)
  have H_q : g q = some (.inr (12, [.ref a1, .ref a2, .ref a3, .null, .null, .int 0, .int 0, .null, .null, .null, .null, .null, .null])) := k1
  have H_a1 := (k2 _ N_a1_q).trans H_a1
  have H_a2 := (k2 _ N_a2_q).trans H_a2
  have H_a3 := (k2 _ N_a3_q).trans H_a3
  have HO : ∀ b e, b ≠ q → g0 b = some e → g b = some e := fun b e hb h => (k2 b hb).trans (HO b e hb h)
  refine ev_aload_n dX11_init_37 rfl rfl ?_
  refine ev_new2 (b := 21) (n := 1589) hE dX11_init_38 wX11_7 (by decide) (by decide) (fun a4 g k0 k1 k2 => ?_)
  have H_a4 : g a4 = some (.inr (0, [.int 0, .null, .int 0])) := k1
  have N_q_a4 : q ≠ a4 := fun z => by rw [← z, H_q] at k0; cases k0
  have N_a4_q : a4 ≠ q := fun z => N_q_a4 z.symm
  have N_a1_a4 : a1 ≠ a4 := fun z => by rw [← z, H_a1] at k0; cases k0
  have N_a4_a1 : a4 ≠ a1 := fun z => N_a1_a4 z.symm
  have N_a2_a4 : a2 ≠ a4 := fun z => by rw [← z, H_a2] at k0; cases k0
  have N_a4_a2 : a4 ≠ a2 := fun z => N_a2_a4 z.symm
  have N_a3_a4 : a3 ≠ a4 := fun z => by rw [← z, H_a3] at k0; cases k0
  have N_a4_a3 : a4 ≠ a3 := fun z => N_a3_a4 z.symm
  have F_a4 : g0 a4 = none := by
    cases z : g0 a4 with
    | none => rfl
    | some e => rw [HO a4 e N_a4_q z] at k0; cases k0
  have H_q := (k2 _ N_q_a4).trans H_q
  have H_a1 := (k2 _ N_a1_a4).trans H_a1
  have H_a2 := (k2 _ N_a2_a4).trans H_a2
  have H_a3 := (k2 _ N_a3_a4).trans H_a3
  have HO : ∀ b e, b ≠ q → g0 b = some e → g b = some e := fun b e hb h => (k2 b (fun z => by rw [z, F_a4] at h; cases h)).trans (HO b e hb h)
  refine ev_dup dX11_init_41 rfl ?_
  refine ev_callI (d' := d - 1) (b := 21) (k0 := 1589) (As := []) dX11_init_42 rfl rfl kJx4a65c_init_da8c8 rfl rfl lX11_9 iJx4a65c_init_da8c8 (Nat.le_of_ble_eq_true rfl) (by omega) (cl_init hE h4 (by omega) H_a4) (Nat.le_refl _) (Nat.le_refl _) (fun v g h => ?_) (fun E g h => by cases h.1)
  obtain ⟨h1, h2⟩ := h
  cases h1
  have k2 := fun b (hb : b ≠ a4) => (congrFun h2 b).trans (ev_up_n _ _ hb)
  have H_a4 : g a4 = some (.inr (0, [.int 0, .ref D0, .int 0])) := (congrFun h2 a4).trans (ev_up_s _ _ _)
  have H_q := (k2 _ N_q_a4).trans H_q
  have H_a1 := (k2 _ N_a1_a4).trans H_a1
  have H_a2 := (k2 _ N_a2_a4).trans H_a2
  have H_a3 := (k2 _ N_a3_a4).trans H_a3
  have HO : ∀ b e, b ≠ q → g0 b = some e → g b = some e := fun b e hb h => (k2 b (fun z => by rw [z, F_a4] at h; cases h)).trans (HO b e hb h)
  refine ev_putF2 hE rfl dX11_init_45 pX11_22 H_q (Nat.le_of_ble_eq_true rfl) rfl rfl (fun g k1 k2 => ?_)
  have H_q : g q = some (.inr (12, [.ref a1, .ref a2, .ref a3, .ref a4, .null, .int 0, .int 0, .null, .null, .null, .null, .null, .null])) := k1
  have H_a1 := (k2 _ N_a1_q).trans H_a1
  have H_a2 := (k2 _ N_a2_q).trans H_a2
  have H_a3 := (k2 _ N_a3_q).trans H_a3
  have H_a4 := (k2 _ N_a4_q).trans H_a4
  have HO : ∀ b e, b ≠ q → g0 b = some e → g b = some e := fun b e hb h => (k2 b hb).trans (HO b e hb h)
  refine ev_aload_n dX11_init_48 rfl rfl ?_
  refine ev_iconst (v := 5) dX11_init_49 (by decide) ?_
  refine ev_newa2_int (N := 5) (b := 20) (n := 1584) hE dX11_init_50 a_int (by decide) (by decide) (by decide) (by decide) (by decide) (fun a5 g k0 k1 k2 => ?_)
  have H_a5 : g a5 = some (.inl (G.2.2.2 0, 5, .inl (fun _ => 0))) := k1
  have N_q_a5 : q ≠ a5 := fun z => by rw [← z, H_q] at k0; cases k0
  have N_a5_q : a5 ≠ q := fun z => N_q_a5 z.symm
  have N_a1_a5 : a1 ≠ a5 := fun z => by rw [← z, H_a1] at k0; cases k0
  have N_a5_a1 : a5 ≠ a1 := fun z => N_a1_a5 z.symm
  have N_a2_a5 : a2 ≠ a5 := fun z => by rw [← z, H_a2] at k0; cases k0
  have N_a5_a2 : a5 ≠ a2 := fun z => N_a2_a5 z.symm
  have N_a3_a5 : a3 ≠ a5 := fun z => by rw [← z, H_a3] at k0; cases k0
  have N_a5_a3 : a5 ≠ a3 := fun z => N_a3_a5 z.symm
  have N_a4_a5 : a4 ≠ a5 := fun z => by rw [← z, H_a4] at k0; cases k0
  have N_a5_a4 : a5 ≠ a4 := fun z => N_a4_a5 z.symm
  have F_a5 : g0 a5 = none := by
    cases z : g0 a5 with
    | none => rfl
    | some e => rw [HO a5 e N_a5_q z] at k0; cases k0
  have H_q := (k2 _ N_q_a5).trans H_q
  have H_a1 := (k2 _ N_a1_a5).trans H_a1
  have H_a2 := (k2 _ N_a2_a5).trans H_a2
  have H_a3 := (k2 _ N_a3_a5).trans H_a3
  have H_a4 := (k2 _ N_a4_a5).trans H_a4
  have HO : ∀ b e, b ≠ q → g0 b = some e → g b = some e := fun b e hb h => (k2 b (fun z => by rw [z, F_a5] at h; cases h)).trans (HO b e hb h)
  refine ev_putF2 hE rfl dX11_init_52 pX11_25 H_q (Nat.le_of_ble_eq_true rfl) rfl rfl (fun g k1 k2 => ?_)
  have H_q : g q = some (.inr (12, [.ref a1, .ref a2, .ref a3, .ref a4, .ref a5, .int 0, .int 0, .null, .null, .null, .null, .null, .null])) := k1
  have H_a1 := (k2 _ N_a1_q).trans H_a1
  have H_a2 := (k2 _ N_a2_q).trans H_a2
  have H_a3 := (k2 _ N_a3_q).trans H_a3
  have H_a4 := (k2 _ N_a4_q).trans H_a4
  have H_a5 := (k2 _ N_a5_q).trans H_a5
  have HO : ∀ b e, b ≠ q → g0 b = some e → g b = some e := fun b e hb h => (k2 b hb).trans (HO b e hb h)
  refine ev_aload_n dX11_init_55 rfl rfl ?_
  refine ev_iconst (v := 0) dX11_init_56 (by decide) ?_
  refine ev_put2 hE dX11_init_57 pX11_29 H_q (Nat.le_of_ble_eq_true rfl) rfl rfl (fun g k1 k2 => ?_)
  have H_q : g q = some (.inr (12, [.ref a1, .ref a2, .ref a3, .ref a4, .ref a5, .int 0, .int 0, .null, .null, .null, .null, .null, .null])) := k1
  have H_a1 := (k2 _ N_a1_q).trans H_a1
  have H_a2 := (k2 _ N_a2_q).trans H_a2
  have H_a3 := (k2 _ N_a3_q).trans H_a3
  have H_a4 := (k2 _ N_a4_q).trans H_a4
  have H_a5 := (k2 _ N_a5_q).trans H_a5
  have HO : ∀ b e, b ≠ q → g0 b = some e → g b = some e := fun b e hb h => (k2 b hb).trans (HO b e hb h)
  refine ev_aload_n dX11_init_60 rfl rfl ?_
  refine ev_iconst (v := 0) dX11_init_61 (by decide) ?_
  refine ev_put2 hE dX11_init_62 pX11_33 H_q (Nat.le_of_ble_eq_true rfl) rfl rfl (fun g k1 k2 => ?_)
  have H_q : g q = some (.inr (12, [.ref a1, .ref a2, .ref a3, .ref a4, .ref a5, .int 0, .int 0, .null, .null, .null, .null, .null, .null])) := k1
  have H_a1 := (k2 _ N_a1_q).trans H_a1
  have H_a2 := (k2 _ N_a2_q).trans H_a2
  have H_a3 := (k2 _ N_a3_q).trans H_a3
  have H_a4 := (k2 _ N_a4_q).trans H_a4
  have H_a5 := (k2 _ N_a5_q).trans H_a5
  have HO : ∀ b e, b ≠ q → g0 b = some e → g b = some e := fun b e hb h => (k2 b hb).trans (HO b e hb h)
  refine ev_aload_n dX11_init_65 rfl rfl ?_
  refine ev_new2 (b := 19) (n := 1571) hE dX11_init_66 wX11_36 (by decide) (by decide) (fun a6 g k0 k1 k2 => ?_)
  have H_a6 : g a6 = some (.inr (5, [.int 0, .null, .null, .int 0, .null, .null, .int 0, .int 0, .int 0, .int 0, .int 0, .int 0, .int 0])) := k1
  have N_q_a6 : q ≠ a6 := fun z => by rw [← z, H_q] at k0; cases k0
  have N_a6_q : a6 ≠ q := fun z => N_q_a6 z.symm
  have N_a1_a6 : a1 ≠ a6 := fun z => by rw [← z, H_a1] at k0; cases k0
  have N_a6_a1 : a6 ≠ a1 := fun z => N_a1_a6 z.symm
  have N_a2_a6 : a2 ≠ a6 := fun z => by rw [← z, H_a2] at k0; cases k0
  have N_a6_a2 : a6 ≠ a2 := fun z => N_a2_a6 z.symm
  have N_a3_a6 : a3 ≠ a6 := fun z => by rw [← z, H_a3] at k0; cases k0
  have N_a6_a3 : a6 ≠ a3 := fun z => N_a3_a6 z.symm
  have N_a4_a6 : a4 ≠ a6 := fun z => by rw [← z, H_a4] at k0; cases k0
  have N_a6_a4 : a6 ≠ a4 := fun z => N_a4_a6 z.symm
  have N_a5_a6 : a5 ≠ a6 := fun z => by rw [← z, H_a5] at k0; cases k0
  have N_a6_a5 : a6 ≠ a5 := fun z => N_a5_a6 z.symm
  have F_a6 : g0 a6 = none := by
    cases z : g0 a6 with
    | none => rfl
    | some e => rw [HO a6 e N_a6_q z] at k0; cases k0
  have H_q := (k2 _ N_q_a6).trans H_q
  have H_a1 := (k2 _ N_a1_a6).trans H_a1
  have H_a2 := (k2 _ N_a2_a6).trans H_a2
  have H_a3 := (k2 _ N_a3_a6).trans H_a3
  have H_a4 := (k2 _ N_a4_a6).trans H_a4
  have H_a5 := (k2 _ N_a5_a6).trans H_a5
  have HO : ∀ b e, b ≠ q → g0 b = some e → g b = some e := fun b e hb h => (k2 b (fun z => by rw [z, F_a6] at h; cases h)).trans (HO b e hb h)
  refine ev_dup dX11_init_69 rfl ?_
  refine ev_iconst (v := 0) dX11_init_70 (by decide) ?_
  refine ev_callI (d' := d - 1) (b := 16) (k0 := 1564) (As := [.int 0]) dX11_init_71 rfl rfl kX4_init rfl rfl lX11_38 iX4_init (Nat.le_of_ble_eq_true rfl) (by omega) (c_X4_init (d := d - 1) hE h4 (by omega) H_a6) (by decide) (by decide) (fun v g h => ?_) (fun E g h => by cases h.1)
  obtain ⟨h1, a7, a8, a9, H9, ⟨FF_a7, HH_a7⟩, ⟨FF_a8, HH_a8⟩, ⟨FF_a9, HH_a9⟩, ⟨NN_a7_a8, NN_a7_a9⟩, NN_a8_a9, KO⟩ := h
  cases h1
  have N_q_a7 : q ≠ a7 := fun y => by rw [← y, H_q] at FF_a7; cases FF_a7
  have N_a7_q : a7 ≠ q := fun y => N_q_a7 y.symm
  have N_a1_a7 : a1 ≠ a7 := fun y => by rw [← y, H_a1] at FF_a7; cases FF_a7
  have N_a7_a1 : a7 ≠ a1 := fun y => N_a1_a7 y.symm
  have N_a2_a7 : a2 ≠ a7 := fun y => by rw [← y, H_a2] at FF_a7; cases FF_a7
  have N_a7_a2 : a7 ≠ a2 := fun y => N_a2_a7 y.symm
  have N_a3_a7 : a3 ≠ a7 := fun y => by rw [← y, H_a3] at FF_a7; cases FF_a7
  have N_a7_a3 : a7 ≠ a3 := fun y => N_a3_a7 y.symm
  have N_a4_a7 : a4 ≠ a7 := fun y => by rw [← y, H_a4] at FF_a7; cases FF_a7
  have N_a7_a4 : a7 ≠ a4 := fun y => N_a4_a7 y.symm
  have N_a5_a7 : a5 ≠ a7 := fun y => by rw [← y, H_a5] at FF_a7; cases FF_a7
  have N_a7_a5 : a7 ≠ a5 := fun y => N_a5_a7 y.symm
  have N_a6_a7 : a6 ≠ a7 := fun y => by rw [← y, H_a6] at FF_a7; cases FF_a7
  have N_a7_a6 : a7 ≠ a6 := fun y => N_a6_a7 y.symm
  have F_a7 : g0 a7 = none := by
    cases y : g0 a7 with
    | none => rfl
    | some e => rw [HO a7 e N_a7_q y] at FF_a7; cases FF_a7
  have N_q_a8 : q ≠ a8 := fun y => by rw [← y, H_q] at FF_a8; cases FF_a8
  have N_a8_q : a8 ≠ q := fun y => N_q_a8 y.symm
  have N_a1_a8 : a1 ≠ a8 := fun y => by rw [← y, H_a1] at FF_a8; cases FF_a8
  have N_a8_a1 : a8 ≠ a1 := fun y => N_a1_a8 y.symm
  have N_a2_a8 : a2 ≠ a8 := fun y => by rw [← y, H_a2] at FF_a8; cases FF_a8
  have N_a8_a2 : a8 ≠ a2 := fun y => N_a2_a8 y.symm
  have N_a3_a8 : a3 ≠ a8 := fun y => by rw [← y, H_a3] at FF_a8; cases FF_a8
  have N_a8_a3 : a8 ≠ a3 := fun y => N_a3_a8 y.symm
  have N_a4_a8 : a4 ≠ a8 := fun y => by rw [← y, H_a4] at FF_a8; cases FF_a8
  have N_a8_a4 : a8 ≠ a4 := fun y => N_a4_a8 y.symm
  have N_a5_a8 : a5 ≠ a8 := fun y => by rw [← y, H_a5] at FF_a8; cases FF_a8
  have N_a8_a5 : a8 ≠ a5 := fun y => N_a5_a8 y.symm
  have N_a6_a8 : a6 ≠ a8 := fun y => by rw [← y, H_a6] at FF_a8; cases FF_a8
  have N_a8_a6 : a8 ≠ a6 := fun y => N_a6_a8 y.symm
  have F_a8 : g0 a8 = none := by
    cases y : g0 a8 with
    | none => rfl
    | some e => rw [HO a8 e N_a8_q y] at FF_a8; cases FF_a8
  have N_q_a9 : q ≠ a9 := fun y => by rw [← y, H_q] at FF_a9; cases FF_a9
  have N_a9_q : a9 ≠ q := fun y => N_q_a9 y.symm
  have N_a1_a9 : a1 ≠ a9 := fun y => by rw [← y, H_a1] at FF_a9; cases FF_a9
  have N_a9_a1 : a9 ≠ a1 := fun y => N_a1_a9 y.symm
  have N_a2_a9 : a2 ≠ a9 := fun y => by rw [← y, H_a2] at FF_a9; cases FF_a9
  have N_a9_a2 : a9 ≠ a2 := fun y => N_a2_a9 y.symm
  have N_a3_a9 : a3 ≠ a9 := fun y => by rw [← y, H_a3] at FF_a9; cases FF_a9
  have N_a9_a3 : a9 ≠ a3 := fun y => N_a3_a9 y.symm
  have N_a4_a9 : a4 ≠ a9 := fun y => by rw [← y, H_a4] at FF_a9; cases FF_a9
  have N_a9_a4 : a9 ≠ a4 := fun y => N_a4_a9 y.symm
  have N_a5_a9 : a5 ≠ a9 := fun y => by rw [← y, H_a5] at FF_a9; cases FF_a9
  have N_a9_a5 : a9 ≠ a5 := fun y => N_a5_a9 y.symm
  have N_a6_a9 : a6 ≠ a9 := fun y => by rw [← y, H_a6] at FF_a9; cases FF_a9
  have N_a9_a6 : a9 ≠ a6 := fun y => N_a6_a9 y.symm
  have F_a9 : g0 a9 = none := by
    cases y : g0 a9 with
    | none => rfl
    | some e => rw [HO a9 e N_a9_q y] at FF_a9; cases FF_a9
  have N_a7_a8 := NN_a7_a8
  have N_a8_a7 : a8 ≠ a7 := fun y => NN_a7_a8 y.symm
  have N_a7_a9 := NN_a7_a9
  have N_a9_a7 : a9 ≠ a7 := fun y => NN_a7_a9 y.symm
  have N_a8_a9 := NN_a8_a9
  have N_a9_a8 : a9 ≠ a8 := fun y => NN_a8_a9 y.symm
  have H_q := KO _ _ N_q_a6 H_q
  have H_a1 := KO _ _ N_a1_a6 H_a1
  have H_a2 := KO _ _ N_a2_a6 H_a2
  have H_a3 := KO _ _ N_a3_a6 H_a3
  have H_a4 := KO _ _ N_a4_a6 H_a4
  have H_a5 := KO _ _ N_a5_a6 H_a5
  have H_a6 : g a6 = some (.inr (5, [.int 0, .ref a7, .null, .int (-1), .ref a8, .ref a9, .int 10, .int 12, .int 100, .int 0, .int 0, .int 0, .int 0])) := H9
  have HO : ∀ b e, b ≠ q → g0 b = some e → g b = some e := fun b e hb h => KO b e (fun y => by rw [y, F_a6] at h; cases h) (HO b e hb h)
  have H_a7 : g a7 = some (.inl (G.2.2.2 0, 1, .inl (upd (fun _ => 0) 0 (-1)))) := HH_a7
  have H_a8 : g a8 = some (.inl (G.2.2.2 0, 3, .inl (upd (upd (upd (fun _ => 0) 0 64) 1 64) 2 64))) := HH_a8
  have H_a9 : g a9 = some (.inl (G.2.2.2 0, 3, .inl (upd (upd (upd (fun _ => 0) 0 (-1)) 1 (-1)) 2 (-1)))) := HH_a9
  refine ev_putF2 hE rfl dX11_init_74 pX11_41 H_q (Nat.le_of_ble_eq_true rfl) rfl rfl (fun g k1 k2 => ?_)
  have H_q : g q = some (.inr (12, [.ref a1, .ref a2, .ref a3, .ref a4, .ref a5, .int 0, .int 0, .ref a6, .null, .null, .null, .null, .null])) := k1
  have H_a1 := (k2 _ N_a1_q).trans H_a1
  have H_a2 := (k2 _ N_a2_q).trans H_a2
  have H_a3 := (k2 _ N_a3_q).trans H_a3
  have H_a4 := (k2 _ N_a4_q).trans H_a4
  have H_a5 := (k2 _ N_a5_q).trans H_a5
  have H_a6 := (k2 _ N_a6_q).trans H_a6
  have H_a7 := (k2 _ N_a7_q).trans H_a7
  have H_a8 := (k2 _ N_a8_q).trans H_a8
  have H_a9 := (k2 _ N_a9_q).trans H_a9
  have HO : ∀ b e, b ≠ q → g0 b = some e → g b = some e := fun b e hb h => (k2 b hb).trans (HO b e hb h)
  refine ev_aload_n dX11_init_77 rfl rfl ?_
  refine ev_new2 (b := 15) (n := 1554) hE dX11_init_78 wX11_45 (by decide) (by decide) (fun a10 g k0 k1 k2 => ?_)
  have H_a10 : g a10 = some (.inr (8, [.null, .int 0, .int 0, .int 0, .int 0, .int 0, .int 0, .int 0, .null, .int 0])) := k1
  have N_q_a10 : q ≠ a10 := fun z => by rw [← z, H_q] at k0; cases k0
  have N_a10_q : a10 ≠ q := fun z => N_q_a10 z.symm
  have N_a1_a10 : a1 ≠ a10 := fun z => by rw [← z, H_a1] at k0; cases k0
  have N_a10_a1 : a10 ≠ a1 := fun z => N_a1_a10 z.symm
  have N_a2_a10 : a2 ≠ a10 := fun z => by rw [← z, H_a2] at k0; cases k0
  have N_a10_a2 : a10 ≠ a2 := fun z => N_a2_a10 z.symm
  have N_a3_a10 : a3 ≠ a10 := fun z => by rw [← z, H_a3] at k0; cases k0
  have N_a10_a3 : a10 ≠ a3 := fun z => N_a3_a10 z.symm
  have N_a4_a10 : a4 ≠ a10 := fun z => by rw [← z, H_a4] at k0; cases k0
  have N_a10_a4 : a10 ≠ a4 := fun z => N_a4_a10 z.symm
  have N_a5_a10 : a5 ≠ a10 := fun z => by rw [← z, H_a5] at k0; cases k0
  have N_a10_a5 : a10 ≠ a5 := fun z => N_a5_a10 z.symm
  have N_a6_a10 : a6 ≠ a10 := fun z => by rw [← z, H_a6] at k0; cases k0
  have N_a10_a6 : a10 ≠ a6 := fun z => N_a6_a10 z.symm
  have N_a7_a10 : a7 ≠ a10 := fun z => by rw [← z, H_a7] at k0; cases k0
  have N_a10_a7 : a10 ≠ a7 := fun z => N_a7_a10 z.symm
  have N_a8_a10 : a8 ≠ a10 := fun z => by rw [← z, H_a8] at k0; cases k0
  have N_a10_a8 : a10 ≠ a8 := fun z => N_a8_a10 z.symm
  have N_a9_a10 : a9 ≠ a10 := fun z => by rw [← z, H_a9] at k0; cases k0
  have N_a10_a9 : a10 ≠ a9 := fun z => N_a9_a10 z.symm
  have F_a10 : g0 a10 = none := by
    cases z : g0 a10 with
    | none => rfl
    | some e => rw [HO a10 e N_a10_q z] at k0; cases k0
  have H_q := (k2 _ N_q_a10).trans H_q
  have H_a1 := (k2 _ N_a1_a10).trans H_a1
  have H_a2 := (k2 _ N_a2_a10).trans H_a2
  have H_a3 := (k2 _ N_a3_a10).trans H_a3
  have H_a4 := (k2 _ N_a4_a10).trans H_a4
  have H_a5 := (k2 _ N_a5_a10).trans H_a5
  have H_a6 := (k2 _ N_a6_a10).trans H_a6
  have H_a7 := (k2 _ N_a7_a10).trans H_a7
  have H_a8 := (k2 _ N_a8_a10).trans H_a8
  have H_a9 := (k2 _ N_a9_a10).trans H_a9
  have HO : ∀ b e, b ≠ q → g0 b = some e → g b = some e := fun b e hb h => (k2 b (fun z => by rw [z, F_a10] at h; cases h)).trans (HO b e hb h)
  refine ev_dup dX11_init_81 rfl ?_
  refine ev_callIN (d' := d - 1) (b := 13) (k0 := 954) (As := []) h4 dX11_init_82 rfl rfl kX7_init rfl rfl (by decide +kernel) iX7_init (Nat.le_of_ble_eq_true rfl) (by omega) (c_X7_init (d := d - 1) hE h4 (by omega) H_a10) (by decide) (by decide) (fun v g h => ?_) (fun E g h => by cases h.1)
  obtain ⟨h1, a11, a12, H9, ⟨FF_a11, HH_a11⟩, ⟨FF_a12, HH_a12⟩, NN_a11_a12, KO⟩ := h
  cases h1
  have N_q_a11 : q ≠ a11 := fun y => by rw [← y, H_q] at FF_a11; cases FF_a11
  have N_a11_q : a11 ≠ q := fun y => N_q_a11 y.symm
  have N_a1_a11 : a1 ≠ a11 := fun y => by rw [← y, H_a1] at FF_a11; cases FF_a11
  have N_a11_a1 : a11 ≠ a1 := fun y => N_a1_a11 y.symm
  have N_a2_a11 : a2 ≠ a11 := fun y => by rw [← y, H_a2] at FF_a11; cases FF_a11
  have N_a11_a2 : a11 ≠ a2 := fun y => N_a2_a11 y.symm
  have N_a3_a11 : a3 ≠ a11 := fun y => by rw [← y, H_a3] at FF_a11; cases FF_a11
  have N_a11_a3 : a11 ≠ a3 := fun y => N_a3_a11 y.symm
  have N_a4_a11 : a4 ≠ a11 := fun y => by rw [← y, H_a4] at FF_a11; cases FF_a11
  have N_a11_a4 : a11 ≠ a4 := fun y => N_a4_a11 y.symm
  have N_a5_a11 : a5 ≠ a11 := fun y => by rw [← y, H_a5] at FF_a11; cases FF_a11
  have N_a11_a5 : a11 ≠ a5 := fun y => N_a5_a11 y.symm
  have N_a6_a11 : a6 ≠ a11 := fun y => by rw [← y, H_a6] at FF_a11; cases FF_a11
  have N_a11_a6 : a11 ≠ a6 := fun y => N_a6_a11 y.symm
  have N_a7_a11 : a7 ≠ a11 := fun y => by rw [← y, H_a7] at FF_a11; cases FF_a11
  have N_a11_a7 : a11 ≠ a7 := fun y => N_a7_a11 y.symm
  have N_a8_a11 : a8 ≠ a11 := fun y => by rw [← y, H_a8] at FF_a11; cases FF_a11
  have N_a11_a8 : a11 ≠ a8 := fun y => N_a8_a11 y.symm
  have N_a9_a11 : a9 ≠ a11 := fun y => by rw [← y, H_a9] at FF_a11; cases FF_a11
  have N_a11_a9 : a11 ≠ a9 := fun y => N_a9_a11 y.symm
  have N_a10_a11 : a10 ≠ a11 := fun y => by rw [← y, H_a10] at FF_a11; cases FF_a11
  have N_a11_a10 : a11 ≠ a10 := fun y => N_a10_a11 y.symm
  have F_a11 : g0 a11 = none := by
    cases y : g0 a11 with
    | none => rfl
    | some e => rw [HO a11 e N_a11_q y] at FF_a11; cases FF_a11
  have N_q_a12 : q ≠ a12 := fun y => by rw [← y, H_q] at FF_a12; cases FF_a12
  have N_a12_q : a12 ≠ q := fun y => N_q_a12 y.symm
  have N_a1_a12 : a1 ≠ a12 := fun y => by rw [← y, H_a1] at FF_a12; cases FF_a12
  have N_a12_a1 : a12 ≠ a1 := fun y => N_a1_a12 y.symm
  have N_a2_a12 : a2 ≠ a12 := fun y => by rw [← y, H_a2] at FF_a12; cases FF_a12
  have N_a12_a2 : a12 ≠ a2 := fun y => N_a2_a12 y.symm
  have N_a3_a12 : a3 ≠ a12 := fun y => by rw [← y, H_a3] at FF_a12; cases FF_a12
  have N_a12_a3 : a12 ≠ a3 := fun y => N_a3_a12 y.symm
  have N_a4_a12 : a4 ≠ a12 := fun y => by rw [← y, H_a4] at FF_a12; cases FF_a12
  have N_a12_a4 : a12 ≠ a4 := fun y => N_a4_a12 y.symm
  have N_a5_a12 : a5 ≠ a12 := fun y => by rw [← y, H_a5] at FF_a12; cases FF_a12
  have N_a12_a5 : a12 ≠ a5 := fun y => N_a5_a12 y.symm
  have N_a6_a12 : a6 ≠ a12 := fun y => by rw [← y, H_a6] at FF_a12; cases FF_a12
  have N_a12_a6 : a12 ≠ a6 := fun y => N_a6_a12 y.symm
  have N_a7_a12 : a7 ≠ a12 := fun y => by rw [← y, H_a7] at FF_a12; cases FF_a12
  have N_a12_a7 : a12 ≠ a7 := fun y => N_a7_a12 y.symm
  have N_a8_a12 : a8 ≠ a12 := fun y => by rw [← y, H_a8] at FF_a12; cases FF_a12
  have N_a12_a8 : a12 ≠ a8 := fun y => N_a8_a12 y.symm
  have N_a9_a12 : a9 ≠ a12 := fun y => by rw [← y, H_a9] at FF_a12; cases FF_a12
  have N_a12_a9 : a12 ≠ a9 := fun y => N_a9_a12 y.symm
  have N_a10_a12 : a10 ≠ a12 := fun y => by rw [← y, H_a10] at FF_a12; cases FF_a12
  have N_a12_a10 : a12 ≠ a10 := fun y => N_a10_a12 y.symm
  have F_a12 : g0 a12 = none := by
    cases y : g0 a12 with
    | none => rfl
    | some e => rw [HO a12 e N_a12_q y] at FF_a12; cases FF_a12
  have N_a11_a12 := NN_a11_a12
  have N_a12_a11 : a12 ≠ a11 := fun y => NN_a11_a12 y.symm
  have H_q := KO _ _ N_q_a10 H_q
  have H_a1 := KO _ _ N_a1_a10 H_a1
  have H_a2 := KO _ _ N_a2_a10 H_a2
  have H_a3 := KO _ _ N_a3_a10 H_a3
  have H_a4 := KO _ _ N_a4_a10 H_a4
  have H_a5 := KO _ _ N_a5_a10 H_a5
  have H_a6 := KO _ _ N_a6_a10 H_a6
  have H_a7 := KO _ _ N_a7_a10 H_a7
  have H_a8 := KO _ _ N_a8_a10 H_a8
  have H_a9 := KO _ _ N_a9_a10 H_a9
  have H_a10 : g a10 = some (.inr (8, [.ref a11, .int 0, .int 0, .int (-1), .int 0, .int 0, .int 0, .int (-1), .ref a12, .int 0])) := H9
  have HO : ∀ b e, b ≠ q → g0 b = some e → g b = some e := fun b e hb h => KO b e (fun y => by rw [y, F_a10] at h; cases h) (HO b e hb h)
  have H_a11 : g a11 = some (.inl (G.2.2.2 0, 300, .inl (fun _ => 0))) := HH_a11
  have H_a12 : g a12 = some (.inl (G.2.2.2 0, 300, .inl (fun _ => 0))) := HH_a12
  refine ev_putF2 hE rfl dX11_init_85 pX11_48 H_q (Nat.le_of_ble_eq_true rfl) rfl rfl (fun g k1 k2 => ?_)
  have H_q : g q = some (.inr (12, [.ref a1, .ref a2, .ref a3, .ref a4, .ref a5, .int 0, .int 0, .ref a6, .ref a10, .null, .null, .null, .null])) := k1
  have H_a1 := (k2 _ N_a1_q).trans H_a1
  have H_a2 := (k2 _ N_a2_q).trans H_a2
  have H_a3 := (k2 _ N_a3_q).trans H_a3
  have H_a4 := (k2 _ N_a4_q).trans H_a4
  have H_a5 := (k2 _ N_a5_q).trans H_a5
  have H_a6 := (k2 _ N_a6_q).trans H_a6
  have H_a7 := (k2 _ N_a7_q).trans H_a7
  have H_a8 := (k2 _ N_a8_q).trans H_a8
  have H_a9 := (k2 _ N_a9_q).trans H_a9
  have H_a10 := (k2 _ N_a10_q).trans H_a10
  have H_a11 := (k2 _ N_a11_q).trans H_a11
  have H_a12 := (k2 _ N_a12_q).trans H_a12
  have HO : ∀ b e, b ≠ q → g0 b = some e → g b = some e := fun b e hb h => (k2 b hb).trans (HO b e hb h)
  refine ev_aload_n dX11_init_88 rfl rfl ?_
  refine ev_new2 (b := 12) (n := 953) hE dX11_init_89 wX11_52 (by decide) (by decide) (fun a13 g k0 k1 k2 => ?_)
  have H_a13 : g a13 = some (.inr (11, [.null])) := k1
  have N_q_a13 : q ≠ a13 := fun z => by rw [← z, H_q] at k0; cases k0
  have N_a13_q : a13 ≠ q := fun z => N_q_a13 z.symm
  have N_a1_a13 : a1 ≠ a13 := fun z => by rw [← z, H_a1] at k0; cases k0
  have N_a13_a1 : a13 ≠ a1 := fun z => N_a1_a13 z.symm
  have N_a2_a13 : a2 ≠ a13 := fun z => by rw [← z, H_a2] at k0; cases k0
  have N_a13_a2 : a13 ≠ a2 := fun z => N_a2_a13 z.symm
  have N_a3_a13 : a3 ≠ a13 := fun z => by rw [← z, H_a3] at k0; cases k0
  have N_a13_a3 : a13 ≠ a3 := fun z => N_a3_a13 z.symm
  have N_a4_a13 : a4 ≠ a13 := fun z => by rw [← z, H_a4] at k0; cases k0
  have N_a13_a4 : a13 ≠ a4 := fun z => N_a4_a13 z.symm
  have N_a5_a13 : a5 ≠ a13 := fun z => by rw [← z, H_a5] at k0; cases k0
  have N_a13_a5 : a13 ≠ a5 := fun z => N_a5_a13 z.symm
  have N_a6_a13 : a6 ≠ a13 := fun z => by rw [← z, H_a6] at k0; cases k0
  have N_a13_a6 : a13 ≠ a6 := fun z => N_a6_a13 z.symm
  have N_a7_a13 : a7 ≠ a13 := fun z => by rw [← z, H_a7] at k0; cases k0
  have N_a13_a7 : a13 ≠ a7 := fun z => N_a7_a13 z.symm
  have N_a8_a13 : a8 ≠ a13 := fun z => by rw [← z, H_a8] at k0; cases k0
  have N_a13_a8 : a13 ≠ a8 := fun z => N_a8_a13 z.symm
  have N_a9_a13 : a9 ≠ a13 := fun z => by rw [← z, H_a9] at k0; cases k0
  have N_a13_a9 : a13 ≠ a9 := fun z => N_a9_a13 z.symm
  have N_a10_a13 : a10 ≠ a13 := fun z => by rw [← z, H_a10] at k0; cases k0
  have N_a13_a10 : a13 ≠ a10 := fun z => N_a10_a13 z.symm
  have N_a11_a13 : a11 ≠ a13 := fun z => by rw [← z, H_a11] at k0; cases k0
  have N_a13_a11 : a13 ≠ a11 := fun z => N_a11_a13 z.symm
  have N_a12_a13 : a12 ≠ a13 := fun z => by rw [← z, H_a12] at k0; cases k0
  have N_a13_a12 : a13 ≠ a12 := fun z => N_a12_a13 z.symm
  have F_a13 : g0 a13 = none := by
    cases z : g0 a13 with
    | none => rfl
    | some e => rw [HO a13 e N_a13_q z] at k0; cases k0
  have H_q := (k2 _ N_q_a13).trans H_q
  have H_a1 := (k2 _ N_a1_a13).trans H_a1
  have H_a2 := (k2 _ N_a2_a13).trans H_a2
  have H_a3 := (k2 _ N_a3_a13).trans H_a3
  have H_a4 := (k2 _ N_a4_a13).trans H_a4
  have H_a5 := (k2 _ N_a5_a13).trans H_a5
  have H_a6 := (k2 _ N_a6_a13).trans H_a6
  have H_a7 := (k2 _ N_a7_a13).trans H_a7
  have H_a8 := (k2 _ N_a8_a13).trans H_a8
  have H_a9 := (k2 _ N_a9_a13).trans H_a9
  have H_a10 := (k2 _ N_a10_a13).trans H_a10
  have H_a11 := (k2 _ N_a11_a13).trans H_a11
  have H_a12 := (k2 _ N_a12_a13).trans H_a12
  have HO : ∀ b e, b ≠ q → g0 b = some e → g b = some e := fun b e hb h => (k2 b (fun z => by rw [z, F_a13] at h; cases h)).trans (HO b e hb h)
  refine ev_dup dX11_init_92 rfl ?_
  refine ev_callIN (d' := d - 1) (b := 11) (k0 := 889) (As := []) h4 dX11_init_93 rfl rfl kX10_init rfl rfl (by decide +kernel) iX10_init (Nat.le_of_ble_eq_true rfl) (by omega) (c_X10_init (d := d - 1) hE h4 (by omega) H_a13) (by decide) (by decide) (fun v g h => ?_) (fun E g h => by cases h.1)
  obtain ⟨h1, a14, H9, ⟨FF_a14, HH_a14⟩, KO⟩ := h
  cases h1
  have N_q_a14 : q ≠ a14 := fun y => by rw [← y, H_q] at FF_a14; cases FF_a14
  have N_a14_q : a14 ≠ q := fun y => N_q_a14 y.symm
  have N_a1_a14 : a1 ≠ a14 := fun y => by rw [← y, H_a1] at FF_a14; cases FF_a14
  have N_a14_a1 : a14 ≠ a1 := fun y => N_a1_a14 y.symm
  have N_a2_a14 : a2 ≠ a14 := fun y => by rw [← y, H_a2] at FF_a14; cases FF_a14
  have N_a14_a2 : a14 ≠ a2 := fun y => N_a2_a14 y.symm
  have N_a3_a14 : a3 ≠ a14 := fun y => by rw [← y, H_a3] at FF_a14; cases FF_a14
  have N_a14_a3 : a14 ≠ a3 := fun y => N_a3_a14 y.symm
  have N_a4_a14 : a4 ≠ a14 := fun y => by rw [← y, H_a4] at FF_a14; cases FF_a14
  have N_a14_a4 : a14 ≠ a4 := fun y => N_a4_a14 y.symm
  have N_a5_a14 : a5 ≠ a14 := fun y => by rw [← y, H_a5] at FF_a14; cases FF_a14
  have N_a14_a5 : a14 ≠ a5 := fun y => N_a5_a14 y.symm
  have N_a6_a14 : a6 ≠ a14 := fun y => by rw [← y, H_a6] at FF_a14; cases FF_a14
  have N_a14_a6 : a14 ≠ a6 := fun y => N_a6_a14 y.symm
  have N_a7_a14 : a7 ≠ a14 := fun y => by rw [← y, H_a7] at FF_a14; cases FF_a14
  have N_a14_a7 : a14 ≠ a7 := fun y => N_a7_a14 y.symm
  have N_a8_a14 : a8 ≠ a14 := fun y => by rw [← y, H_a8] at FF_a14; cases FF_a14
  have N_a14_a8 : a14 ≠ a8 := fun y => N_a8_a14 y.symm
  have N_a9_a14 : a9 ≠ a14 := fun y => by rw [← y, H_a9] at FF_a14; cases FF_a14
  have N_a14_a9 : a14 ≠ a9 := fun y => N_a9_a14 y.symm
  have N_a10_a14 : a10 ≠ a14 := fun y => by rw [← y, H_a10] at FF_a14; cases FF_a14
  have N_a14_a10 : a14 ≠ a10 := fun y => N_a10_a14 y.symm
  have N_a11_a14 : a11 ≠ a14 := fun y => by rw [← y, H_a11] at FF_a14; cases FF_a14
  have N_a14_a11 : a14 ≠ a11 := fun y => N_a11_a14 y.symm
  have N_a12_a14 : a12 ≠ a14 := fun y => by rw [← y, H_a12] at FF_a14; cases FF_a14
  have N_a14_a12 : a14 ≠ a12 := fun y => N_a12_a14 y.symm
  have N_a13_a14 : a13 ≠ a14 := fun y => by rw [← y, H_a13] at FF_a14; cases FF_a14
  have N_a14_a13 : a14 ≠ a13 := fun y => N_a13_a14 y.symm
  have F_a14 : g0 a14 = none := by
    cases y : g0 a14 with
    | none => rfl
    | some e => rw [HO a14 e N_a14_q y] at FF_a14; cases FF_a14
  have H_q := KO _ _ N_q_a13 H_q
  have H_a1 := KO _ _ N_a1_a13 H_a1
  have H_a2 := KO _ _ N_a2_a13 H_a2
  have H_a3 := KO _ _ N_a3_a13 H_a3
  have H_a4 := KO _ _ N_a4_a13 H_a4
  have H_a5 := KO _ _ N_a5_a13 H_a5
  have H_a6 := KO _ _ N_a6_a13 H_a6
  have H_a7 := KO _ _ N_a7_a13 H_a7
  have H_a8 := KO _ _ N_a8_a13 H_a8
  have H_a9 := KO _ _ N_a9_a13 H_a9
  have H_a10 := KO _ _ N_a10_a13 H_a10
  have H_a11 := KO _ _ N_a11_a13 H_a11
  have H_a12 := KO _ _ N_a12_a13 H_a12
  have H_a13 : g a13 = some (.inr (11, [.ref a14])) := H9
  have HO : ∀ b e, b ≠ q → g0 b = some e → g b = some e := fun b e hb h => KO b e (fun y => by rw [y, F_a13] at h; cases h) (HO b e hb h)
  have H_a14 : g a14 = some (.inl (G.2.2.2 0, 64, .inl (fun _ => 0))) := HH_a14
  refine ev_putF2 hE rfl dX11_init_96 pX11_55 H_q (Nat.le_of_ble_eq_true rfl) rfl rfl (fun g k1 k2 => ?_)
  have H_q : g q = some (.inr (12, [.ref a1, .ref a2, .ref a3, .ref a4, .ref a5, .int 0, .int 0, .ref a6, .ref a10, .ref a13, .null, .null, .null])) := k1
  have H_a1 := (k2 _ N_a1_q).trans H_a1
  have H_a2 := (k2 _ N_a2_q).trans H_a2
  have H_a3 := (k2 _ N_a3_q).trans H_a3
  have H_a4 := (k2 _ N_a4_q).trans H_a4
  have H_a5 := (k2 _ N_a5_q).trans H_a5
  have H_a6 := (k2 _ N_a6_q).trans H_a6
  have H_a7 := (k2 _ N_a7_q).trans H_a7
  have H_a8 := (k2 _ N_a8_q).trans H_a8
  have H_a9 := (k2 _ N_a9_q).trans H_a9
  have H_a10 := (k2 _ N_a10_q).trans H_a10
  have H_a11 := (k2 _ N_a11_q).trans H_a11
  have H_a12 := (k2 _ N_a12_q).trans H_a12
  have H_a13 := (k2 _ N_a13_q).trans H_a13
  have H_a14 := (k2 _ N_a14_q).trans H_a14
  have HO : ∀ b e, b ≠ q → g0 b = some e → g b = some e := fun b e hb h => (k2 b hb).trans (HO b e hb h)
  refine ev_aload_n dX11_init_99 rfl rfl ?_
  refine ev_new2 (b := 10) (n := 886) hE dX11_init_100 wX11_59 (by decide) (by decide) (fun a15 g k0 k1 k2 => ?_)
  have H_a15 : g a15 = some (.inr (7, [.null, .null, .null])) := k1
  have N_q_a15 : q ≠ a15 := fun z => by rw [← z, H_q] at k0; cases k0
  have N_a15_q : a15 ≠ q := fun z => N_q_a15 z.symm
  have N_a1_a15 : a1 ≠ a15 := fun z => by rw [← z, H_a1] at k0; cases k0
  have N_a15_a1 : a15 ≠ a1 := fun z => N_a1_a15 z.symm
  have N_a2_a15 : a2 ≠ a15 := fun z => by rw [← z, H_a2] at k0; cases k0
  have N_a15_a2 : a15 ≠ a2 := fun z => N_a2_a15 z.symm
  have N_a3_a15 : a3 ≠ a15 := fun z => by rw [← z, H_a3] at k0; cases k0
  have N_a15_a3 : a15 ≠ a3 := fun z => N_a3_a15 z.symm
  have N_a4_a15 : a4 ≠ a15 := fun z => by rw [← z, H_a4] at k0; cases k0
  have N_a15_a4 : a15 ≠ a4 := fun z => N_a4_a15 z.symm
  have N_a5_a15 : a5 ≠ a15 := fun z => by rw [← z, H_a5] at k0; cases k0
  have N_a15_a5 : a15 ≠ a5 := fun z => N_a5_a15 z.symm
  have N_a6_a15 : a6 ≠ a15 := fun z => by rw [← z, H_a6] at k0; cases k0
  have N_a15_a6 : a15 ≠ a6 := fun z => N_a6_a15 z.symm
  have N_a7_a15 : a7 ≠ a15 := fun z => by rw [← z, H_a7] at k0; cases k0
  have N_a15_a7 : a15 ≠ a7 := fun z => N_a7_a15 z.symm
  have N_a8_a15 : a8 ≠ a15 := fun z => by rw [← z, H_a8] at k0; cases k0
  have N_a15_a8 : a15 ≠ a8 := fun z => N_a8_a15 z.symm
  have N_a9_a15 : a9 ≠ a15 := fun z => by rw [← z, H_a9] at k0; cases k0
  have N_a15_a9 : a15 ≠ a9 := fun z => N_a9_a15 z.symm
  have N_a10_a15 : a10 ≠ a15 := fun z => by rw [← z, H_a10] at k0; cases k0
  have N_a15_a10 : a15 ≠ a10 := fun z => N_a10_a15 z.symm
  have N_a11_a15 : a11 ≠ a15 := fun z => by rw [← z, H_a11] at k0; cases k0
  have N_a15_a11 : a15 ≠ a11 := fun z => N_a11_a15 z.symm
  have N_a12_a15 : a12 ≠ a15 := fun z => by rw [← z, H_a12] at k0; cases k0
  have N_a15_a12 : a15 ≠ a12 := fun z => N_a12_a15 z.symm
  have N_a13_a15 : a13 ≠ a15 := fun z => by rw [← z, H_a13] at k0; cases k0
  have N_a15_a13 : a15 ≠ a13 := fun z => N_a13_a15 z.symm
  have N_a14_a15 : a14 ≠ a15 := fun z => by rw [← z, H_a14] at k0; cases k0
  have N_a15_a14 : a15 ≠ a14 := fun z => N_a14_a15 z.symm
  have F_a15 : g0 a15 = none := by
    cases z : g0 a15 with
    | none => rfl
    | some e => rw [HO a15 e N_a15_q z] at k0; cases k0
  have H_q := (k2 _ N_q_a15).trans H_q
  have H_a1 := (k2 _ N_a1_a15).trans H_a1
  have H_a2 := (k2 _ N_a2_a15).trans H_a2
  have H_a3 := (k2 _ N_a3_a15).trans H_a3
  have H_a4 := (k2 _ N_a4_a15).trans H_a4
  have H_a5 := (k2 _ N_a5_a15).trans H_a5
  have H_a6 := (k2 _ N_a6_a15).trans H_a6
  have H_a7 := (k2 _ N_a7_a15).trans H_a7
  have H_a8 := (k2 _ N_a8_a15).trans H_a8
  have H_a9 := (k2 _ N_a9_a15).trans H_a9
  have H_a10 := (k2 _ N_a10_a15).trans H_a10
  have H_a11 := (k2 _ N_a11_a15).trans H_a11
  have H_a12 := (k2 _ N_a12_a15).trans H_a12
  have H_a13 := (k2 _ N_a13_a15).trans H_a13
  have H_a14 := (k2 _ N_a14_a15).trans H_a14
  have HO : ∀ b e, b ≠ q → g0 b = some e → g b = some e := fun b e hb h => (k2 b (fun z => by rw [z, F_a15] at h; cases h)).trans (HO b e hb h)
  refine ev_dup dX11_init_103 rfl ?_
  refine ev_callIN (d' := d - 1) (b := 7) (k0 := 850) (As := []) h4 dX11_init_104 rfl rfl kX6_init rfl rfl (by decide +kernel) iX6_init (Nat.le_of_ble_eq_true rfl) (by omega) (c_X6_init (d := d - 1) hE h4 (by omega) H_a15) (by decide) (by decide) (fun v g h => ?_) (fun E g h => by cases h.1)
  obtain ⟨h1, a16, a17, a18, H9, ⟨FF_a16, HH_a16⟩, ⟨FF_a17, HH_a17⟩, ⟨FF_a18, HH_a18⟩, ⟨NN_a16_a17, NN_a16_a18⟩, NN_a17_a18, KO⟩ := h
  cases h1
  have N_q_a16 : q ≠ a16 := fun y => by rw [← y, H_q] at FF_a16; cases FF_a16
  have N_a16_q : a16 ≠ q := fun y => N_q_a16 y.symm
  have N_a1_a16 : a1 ≠ a16 := fun y => by rw [← y, H_a1] at FF_a16; cases FF_a16
  have N_a16_a1 : a16 ≠ a1 := fun y => N_a1_a16 y.symm
  have N_a2_a16 : a2 ≠ a16 := fun y => by rw [← y, H_a2] at FF_a16; cases FF_a16
  have N_a16_a2 : a16 ≠ a2 := fun y => N_a2_a16 y.symm
  have N_a3_a16 : a3 ≠ a16 := fun y => by rw [← y, H_a3] at FF_a16; cases FF_a16
  have N_a16_a3 : a16 ≠ a3 := fun y => N_a3_a16 y.symm
  have N_a4_a16 : a4 ≠ a16 := fun y => by rw [← y, H_a4] at FF_a16; cases FF_a16
  have N_a16_a4 : a16 ≠ a4 := fun y => N_a4_a16 y.symm
  have N_a5_a16 : a5 ≠ a16 := fun y => by rw [← y, H_a5] at FF_a16; cases FF_a16
  have N_a16_a5 : a16 ≠ a5 := fun y => N_a5_a16 y.symm
  have N_a6_a16 : a6 ≠ a16 := fun y => by rw [← y, H_a6] at FF_a16; cases FF_a16
  have N_a16_a6 : a16 ≠ a6 := fun y => N_a6_a16 y.symm
  have N_a7_a16 : a7 ≠ a16 := fun y => by rw [← y, H_a7] at FF_a16; cases FF_a16
  have N_a16_a7 : a16 ≠ a7 := fun y => N_a7_a16 y.symm
  have N_a8_a16 : a8 ≠ a16 := fun y => by rw [← y, H_a8] at FF_a16; cases FF_a16
  have N_a16_a8 : a16 ≠ a8 := fun y => N_a8_a16 y.symm
  have N_a9_a16 : a9 ≠ a16 := fun y => by rw [← y, H_a9] at FF_a16; cases FF_a16
  have N_a16_a9 : a16 ≠ a9 := fun y => N_a9_a16 y.symm
  have N_a10_a16 : a10 ≠ a16 := fun y => by rw [← y, H_a10] at FF_a16; cases FF_a16
  have N_a16_a10 : a16 ≠ a10 := fun y => N_a10_a16 y.symm
  have N_a11_a16 : a11 ≠ a16 := fun y => by rw [← y, H_a11] at FF_a16; cases FF_a16
  have N_a16_a11 : a16 ≠ a11 := fun y => N_a11_a16 y.symm
  have N_a12_a16 : a12 ≠ a16 := fun y => by rw [← y, H_a12] at FF_a16; cases FF_a16
  have N_a16_a12 : a16 ≠ a12 := fun y => N_a12_a16 y.symm
  have N_a13_a16 : a13 ≠ a16 := fun y => by rw [← y, H_a13] at FF_a16; cases FF_a16
  have N_a16_a13 : a16 ≠ a13 := fun y => N_a13_a16 y.symm
  have N_a14_a16 : a14 ≠ a16 := fun y => by rw [← y, H_a14] at FF_a16; cases FF_a16
  have N_a16_a14 : a16 ≠ a14 := fun y => N_a14_a16 y.symm
  have N_a15_a16 : a15 ≠ a16 := fun y => by rw [← y, H_a15] at FF_a16; cases FF_a16
  have N_a16_a15 : a16 ≠ a15 := fun y => N_a15_a16 y.symm
  have F_a16 : g0 a16 = none := by
    cases y : g0 a16 with
    | none => rfl
    | some e => rw [HO a16 e N_a16_q y] at FF_a16; cases FF_a16
  have N_q_a17 : q ≠ a17 := fun y => by rw [← y, H_q] at FF_a17; cases FF_a17
  have N_a17_q : a17 ≠ q := fun y => N_q_a17 y.symm
  have N_a1_a17 : a1 ≠ a17 := fun y => by rw [← y, H_a1] at FF_a17; cases FF_a17
  have N_a17_a1 : a17 ≠ a1 := fun y => N_a1_a17 y.symm
  have N_a2_a17 : a2 ≠ a17 := fun y => by rw [← y, H_a2] at FF_a17; cases FF_a17
  have N_a17_a2 : a17 ≠ a2 := fun y => N_a2_a17 y.symm
  have N_a3_a17 : a3 ≠ a17 := fun y => by rw [← y, H_a3] at FF_a17; cases FF_a17
  have N_a17_a3 : a17 ≠ a3 := fun y => N_a3_a17 y.symm
  have N_a4_a17 : a4 ≠ a17 := fun y => by rw [← y, H_a4] at FF_a17; cases FF_a17
  have N_a17_a4 : a17 ≠ a4 := fun y => N_a4_a17 y.symm
  have N_a5_a17 : a5 ≠ a17 := fun y => by rw [← y, H_a5] at FF_a17; cases FF_a17
  have N_a17_a5 : a17 ≠ a5 := fun y => N_a5_a17 y.symm
  have N_a6_a17 : a6 ≠ a17 := fun y => by rw [← y, H_a6] at FF_a17; cases FF_a17
  have N_a17_a6 : a17 ≠ a6 := fun y => N_a6_a17 y.symm
  have N_a7_a17 : a7 ≠ a17 := fun y => by rw [← y, H_a7] at FF_a17; cases FF_a17
  have N_a17_a7 : a17 ≠ a7 := fun y => N_a7_a17 y.symm
  have N_a8_a17 : a8 ≠ a17 := fun y => by rw [← y, H_a8] at FF_a17; cases FF_a17
  have N_a17_a8 : a17 ≠ a8 := fun y => N_a8_a17 y.symm
  have N_a9_a17 : a9 ≠ a17 := fun y => by rw [← y, H_a9] at FF_a17; cases FF_a17
  have N_a17_a9 : a17 ≠ a9 := fun y => N_a9_a17 y.symm
  have N_a10_a17 : a10 ≠ a17 := fun y => by rw [← y, H_a10] at FF_a17; cases FF_a17
  have N_a17_a10 : a17 ≠ a10 := fun y => N_a10_a17 y.symm
  have N_a11_a17 : a11 ≠ a17 := fun y => by rw [← y, H_a11] at FF_a17; cases FF_a17
  have N_a17_a11 : a17 ≠ a11 := fun y => N_a11_a17 y.symm
  have N_a12_a17 : a12 ≠ a17 := fun y => by rw [← y, H_a12] at FF_a17; cases FF_a17
  have N_a17_a12 : a17 ≠ a12 := fun y => N_a12_a17 y.symm
  have N_a13_a17 : a13 ≠ a17 := fun y => by rw [← y, H_a13] at FF_a17; cases FF_a17
  have N_a17_a13 : a17 ≠ a13 := fun y => N_a13_a17 y.symm
  have N_a14_a17 : a14 ≠ a17 := fun y => by rw [← y, H_a14] at FF_a17; cases FF_a17
  have N_a17_a14 : a17 ≠ a14 := fun y => N_a14_a17 y.symm
  have N_a15_a17 : a15 ≠ a17 := fun y => by rw [← y, H_a15] at FF_a17; cases FF_a17
  have N_a17_a15 : a17 ≠ a15 := fun y => N_a15_a17 y.symm
  have F_a17 : g0 a17 = none := by
    cases y : g0 a17 with
    | none => rfl
    | some e => rw [HO a17 e N_a17_q y] at FF_a17; cases FF_a17
  have N_q_a18 : q ≠ a18 := fun y => by rw [← y, H_q] at FF_a18; cases FF_a18
  have N_a18_q : a18 ≠ q := fun y => N_q_a18 y.symm
  have N_a1_a18 : a1 ≠ a18 := fun y => by rw [← y, H_a1] at FF_a18; cases FF_a18
  have N_a18_a1 : a18 ≠ a1 := fun y => N_a1_a18 y.symm
  have N_a2_a18 : a2 ≠ a18 := fun y => by rw [← y, H_a2] at FF_a18; cases FF_a18
  have N_a18_a2 : a18 ≠ a2 := fun y => N_a2_a18 y.symm
  have N_a3_a18 : a3 ≠ a18 := fun y => by rw [← y, H_a3] at FF_a18; cases FF_a18
  have N_a18_a3 : a18 ≠ a3 := fun y => N_a3_a18 y.symm
  have N_a4_a18 : a4 ≠ a18 := fun y => by rw [← y, H_a4] at FF_a18; cases FF_a18
  have N_a18_a4 : a18 ≠ a4 := fun y => N_a4_a18 y.symm
  have N_a5_a18 : a5 ≠ a18 := fun y => by rw [← y, H_a5] at FF_a18; cases FF_a18
  have N_a18_a5 : a18 ≠ a5 := fun y => N_a5_a18 y.symm
  have N_a6_a18 : a6 ≠ a18 := fun y => by rw [← y, H_a6] at FF_a18; cases FF_a18
  have N_a18_a6 : a18 ≠ a6 := fun y => N_a6_a18 y.symm
  have N_a7_a18 : a7 ≠ a18 := fun y => by rw [← y, H_a7] at FF_a18; cases FF_a18
  have N_a18_a7 : a18 ≠ a7 := fun y => N_a7_a18 y.symm
  have N_a8_a18 : a8 ≠ a18 := fun y => by rw [← y, H_a8] at FF_a18; cases FF_a18
  have N_a18_a8 : a18 ≠ a8 := fun y => N_a8_a18 y.symm
  have N_a9_a18 : a9 ≠ a18 := fun y => by rw [← y, H_a9] at FF_a18; cases FF_a18
  have N_a18_a9 : a18 ≠ a9 := fun y => N_a9_a18 y.symm
  have N_a10_a18 : a10 ≠ a18 := fun y => by rw [← y, H_a10] at FF_a18; cases FF_a18
  have N_a18_a10 : a18 ≠ a10 := fun y => N_a10_a18 y.symm
  have N_a11_a18 : a11 ≠ a18 := fun y => by rw [← y, H_a11] at FF_a18; cases FF_a18
  have N_a18_a11 : a18 ≠ a11 := fun y => N_a11_a18 y.symm
  have N_a12_a18 : a12 ≠ a18 := fun y => by rw [← y, H_a12] at FF_a18; cases FF_a18
  have N_a18_a12 : a18 ≠ a12 := fun y => N_a12_a18 y.symm
  have N_a13_a18 : a13 ≠ a18 := fun y => by rw [← y, H_a13] at FF_a18; cases FF_a18
  have N_a18_a13 : a18 ≠ a13 := fun y => N_a13_a18 y.symm
  have N_a14_a18 : a14 ≠ a18 := fun y => by rw [← y, H_a14] at FF_a18; cases FF_a18
  have N_a18_a14 : a18 ≠ a14 := fun y => N_a14_a18 y.symm
  have N_a15_a18 : a15 ≠ a18 := fun y => by rw [← y, H_a15] at FF_a18; cases FF_a18
  have N_a18_a15 : a18 ≠ a15 := fun y => N_a15_a18 y.symm
  have F_a18 : g0 a18 = none := by
    cases y : g0 a18 with
    | none => rfl
    | some e => rw [HO a18 e N_a18_q y] at FF_a18; cases FF_a18
  have N_a16_a17 := NN_a16_a17
  have N_a17_a16 : a17 ≠ a16 := fun y => NN_a16_a17 y.symm
  have N_a16_a18 := NN_a16_a18
  have N_a18_a16 : a18 ≠ a16 := fun y => NN_a16_a18 y.symm
  have N_a17_a18 := NN_a17_a18
  have N_a18_a17 : a18 ≠ a17 := fun y => NN_a17_a18 y.symm
  have H_q := KO _ _ N_q_a15 H_q
  have H_a1 := KO _ _ N_a1_a15 H_a1
  have H_a2 := KO _ _ N_a2_a15 H_a2
  have H_a3 := KO _ _ N_a3_a15 H_a3
  have H_a4 := KO _ _ N_a4_a15 H_a4
  have H_a5 := KO _ _ N_a5_a15 H_a5
  have H_a6 := KO _ _ N_a6_a15 H_a6
  have H_a7 := KO _ _ N_a7_a15 H_a7
  have H_a8 := KO _ _ N_a8_a15 H_a8
  have H_a9 := KO _ _ N_a9_a15 H_a9
  have H_a10 := KO _ _ N_a10_a15 H_a10
  have H_a11 := KO _ _ N_a11_a15 H_a11
  have H_a12 := KO _ _ N_a12_a15 H_a12
  have H_a13 := KO _ _ N_a13_a15 H_a13
  have H_a14 := KO _ _ N_a14_a15 H_a14
  have H_a15 : g a15 = some (.inr (7, [.ref a16, .ref a17, .ref a18])) := H9
  have HO : ∀ b e, b ≠ q → g0 b = some e → g b = some e := fun b e hb h => KO b e (fun y => by rw [y, F_a15] at h; cases h) (HO b e hb h)
  have H_a16 : g a16 = some (.inl (G.2.2.2 0, 12, .inl (fun _ => 0))) := HH_a16
  have H_a17 : g a17 = some (.inl (G.2.2.2 0, 12, .inl (fun _ => 0))) := HH_a17
  have H_a18 : g a18 = some (.inl (G.2.2.2 1, 12, .inr (.inl (fun _ => 0)))) := HH_a18
  refine ev_putF2 hE rfl dX11_init_107 pX11_62 H_q (Nat.le_of_ble_eq_true rfl) rfl rfl (fun g k1 k2 => ?_)
  have H_q : g q = some (.inr (12, [.ref a1, .ref a2, .ref a3, .ref a4, .ref a5, .int 0, .int 0, .ref a6, .ref a10, .ref a13, .ref a15, .null, .null])) := k1
  have H_a1 := (k2 _ N_a1_q).trans H_a1
  have H_a2 := (k2 _ N_a2_q).trans H_a2
  have H_a3 := (k2 _ N_a3_q).trans H_a3
  have H_a4 := (k2 _ N_a4_q).trans H_a4
  have H_a5 := (k2 _ N_a5_q).trans H_a5
  have H_a6 := (k2 _ N_a6_q).trans H_a6
  have H_a7 := (k2 _ N_a7_q).trans H_a7
  have H_a8 := (k2 _ N_a8_q).trans H_a8
  have H_a9 := (k2 _ N_a9_q).trans H_a9
  have H_a10 := (k2 _ N_a10_q).trans H_a10
  have H_a11 := (k2 _ N_a11_q).trans H_a11
  have H_a12 := (k2 _ N_a12_q).trans H_a12
  have H_a13 := (k2 _ N_a13_q).trans H_a13
  have H_a14 := (k2 _ N_a14_q).trans H_a14
  have H_a15 := (k2 _ N_a15_q).trans H_a15
  have H_a16 := (k2 _ N_a16_q).trans H_a16
  have H_a17 := (k2 _ N_a17_q).trans H_a17
  have H_a18 := (k2 _ N_a18_q).trans H_a18
  have HO : ∀ b e, b ≠ q → g0 b = some e → g b = some e := fun b e hb h => (k2 b hb).trans (HO b e hb h)
  refine ev_aload_n dX11_init_110 rfl rfl ?_
  refine ev_new2 (b := 6) (n := 844) hE dX11_init_111 wX11_66 (by decide) (by decide) (fun a19 g k0 k1 k2 => ?_)
  have H_a19 : g a19 = some (.inr (3, [.null, .null, .null, .null, .null, .int 0])) := k1
  have N_q_a19 : q ≠ a19 := fun z => by rw [← z, H_q] at k0; cases k0
  have N_a19_q : a19 ≠ q := fun z => N_q_a19 z.symm
  have N_a1_a19 : a1 ≠ a19 := fun z => by rw [← z, H_a1] at k0; cases k0
  have N_a19_a1 : a19 ≠ a1 := fun z => N_a1_a19 z.symm
  have N_a2_a19 : a2 ≠ a19 := fun z => by rw [← z, H_a2] at k0; cases k0
  have N_a19_a2 : a19 ≠ a2 := fun z => N_a2_a19 z.symm
  have N_a3_a19 : a3 ≠ a19 := fun z => by rw [← z, H_a3] at k0; cases k0
  have N_a19_a3 : a19 ≠ a3 := fun z => N_a3_a19 z.symm
  have N_a4_a19 : a4 ≠ a19 := fun z => by rw [← z, H_a4] at k0; cases k0
  have N_a19_a4 : a19 ≠ a4 := fun z => N_a4_a19 z.symm
  have N_a5_a19 : a5 ≠ a19 := fun z => by rw [← z, H_a5] at k0; cases k0
  have N_a19_a5 : a19 ≠ a5 := fun z => N_a5_a19 z.symm
  have N_a6_a19 : a6 ≠ a19 := fun z => by rw [← z, H_a6] at k0; cases k0
  have N_a19_a6 : a19 ≠ a6 := fun z => N_a6_a19 z.symm
  have N_a7_a19 : a7 ≠ a19 := fun z => by rw [← z, H_a7] at k0; cases k0
  have N_a19_a7 : a19 ≠ a7 := fun z => N_a7_a19 z.symm
  have N_a8_a19 : a8 ≠ a19 := fun z => by rw [← z, H_a8] at k0; cases k0
  have N_a19_a8 : a19 ≠ a8 := fun z => N_a8_a19 z.symm
  have N_a9_a19 : a9 ≠ a19 := fun z => by rw [← z, H_a9] at k0; cases k0
  have N_a19_a9 : a19 ≠ a9 := fun z => N_a9_a19 z.symm
  have N_a10_a19 : a10 ≠ a19 := fun z => by rw [← z, H_a10] at k0; cases k0
  have N_a19_a10 : a19 ≠ a10 := fun z => N_a10_a19 z.symm
  have N_a11_a19 : a11 ≠ a19 := fun z => by rw [← z, H_a11] at k0; cases k0
  have N_a19_a11 : a19 ≠ a11 := fun z => N_a11_a19 z.symm
  have N_a12_a19 : a12 ≠ a19 := fun z => by rw [← z, H_a12] at k0; cases k0
  have N_a19_a12 : a19 ≠ a12 := fun z => N_a12_a19 z.symm
  have N_a13_a19 : a13 ≠ a19 := fun z => by rw [← z, H_a13] at k0; cases k0
  have N_a19_a13 : a19 ≠ a13 := fun z => N_a13_a19 z.symm
  have N_a14_a19 : a14 ≠ a19 := fun z => by rw [← z, H_a14] at k0; cases k0
  have N_a19_a14 : a19 ≠ a14 := fun z => N_a14_a19 z.symm
  have N_a15_a19 : a15 ≠ a19 := fun z => by rw [← z, H_a15] at k0; cases k0
  have N_a19_a15 : a19 ≠ a15 := fun z => N_a15_a19 z.symm
  have N_a16_a19 : a16 ≠ a19 := fun z => by rw [← z, H_a16] at k0; cases k0
  have N_a19_a16 : a19 ≠ a16 := fun z => N_a16_a19 z.symm
  have N_a17_a19 : a17 ≠ a19 := fun z => by rw [← z, H_a17] at k0; cases k0
  have N_a19_a17 : a19 ≠ a17 := fun z => N_a17_a19 z.symm
  have N_a18_a19 : a18 ≠ a19 := fun z => by rw [← z, H_a18] at k0; cases k0
  have N_a19_a18 : a19 ≠ a18 := fun z => N_a18_a19 z.symm
  have F_a19 : g0 a19 = none := by
    cases z : g0 a19 with
    | none => rfl
    | some e => rw [HO a19 e N_a19_q z] at k0; cases k0
  have H_q := (k2 _ N_q_a19).trans H_q
  have H_a1 := (k2 _ N_a1_a19).trans H_a1
  have H_a2 := (k2 _ N_a2_a19).trans H_a2
  have H_a3 := (k2 _ N_a3_a19).trans H_a3
  have H_a4 := (k2 _ N_a4_a19).trans H_a4
  have H_a5 := (k2 _ N_a5_a19).trans H_a5
  have H_a6 := (k2 _ N_a6_a19).trans H_a6
  have H_a7 := (k2 _ N_a7_a19).trans H_a7
  have H_a8 := (k2 _ N_a8_a19).trans H_a8
  have H_a9 := (k2 _ N_a9_a19).trans H_a9
  have H_a10 := (k2 _ N_a10_a19).trans H_a10
  have H_a11 := (k2 _ N_a11_a19).trans H_a11
  have H_a12 := (k2 _ N_a12_a19).trans H_a12
  have H_a13 := (k2 _ N_a13_a19).trans H_a13
  have H_a14 := (k2 _ N_a14_a19).trans H_a14
  have H_a15 := (k2 _ N_a15_a19).trans H_a15
  have H_a16 := (k2 _ N_a16_a19).trans H_a16
  have H_a17 := (k2 _ N_a17_a19).trans H_a17
  have H_a18 := (k2 _ N_a18_a19).trans H_a18
  have HO : ∀ b e, b ≠ q → g0 b = some e → g b = some e := fun b e hb h => (k2 b (fun z => by rw [z, F_a19] at h; cases h)).trans (HO b e hb h)
  refine ev_dup dX11_init_114 rfl ?_
  refine ev_callIN (d' := d - 1) (b := 1) (k0 := 4) (As := []) h4 dX11_init_115 rfl rfl kX2_init rfl rfl (by decide +kernel) iX2_init (Nat.le_of_ble_eq_true rfl) (by omega) (c_X2_init (d := d - 1) hE h4 (by omega) H_a19) (by decide) (by decide) (fun v g h => ?_) (fun E g h => by cases h.1)
  obtain ⟨h1, a20, a21, a22, a23, a24, H9, ⟨FF_a20, HH_a20⟩, ⟨FF_a21, HH_a21⟩, ⟨FF_a22, HH_a22⟩, ⟨FF_a23, HH_a23⟩, ⟨FF_a24, HH_a24⟩, ⟨NN_a20_a21, NN_a20_a22, NN_a20_a23, NN_a20_a24⟩, ⟨NN_a21_a22, NN_a21_a23, NN_a21_a24⟩, ⟨NN_a22_a23, NN_a22_a24⟩, NN_a23_a24, KO⟩ := h
  cases h1
  have N_q_a20 : q ≠ a20 := fun y => by rw [← y, H_q] at FF_a20; cases FF_a20
  have N_a20_q : a20 ≠ q := fun y => N_q_a20 y.symm
  have N_a1_a20 : a1 ≠ a20 := fun y => by rw [← y, H_a1] at FF_a20; cases FF_a20
  have N_a20_a1 : a20 ≠ a1 := fun y => N_a1_a20 y.symm
  have N_a2_a20 : a2 ≠ a20 := fun y => by rw [← y, H_a2] at FF_a20; cases FF_a20
  have N_a20_a2 : a20 ≠ a2 := fun y => N_a2_a20 y.symm
  have N_a3_a20 : a3 ≠ a20 := fun y => by rw [← y, H_a3] at FF_a20; cases FF_a20
  have N_a20_a3 : a20 ≠ a3 := fun y => N_a3_a20 y.symm
  have N_a4_a20 : a4 ≠ a20 := fun y => by rw [← y, H_a4] at FF_a20; cases FF_a20
  have N_a20_a4 : a20 ≠ a4 := fun y => N_a4_a20 y.symm
  have N_a5_a20 : a5 ≠ a20 := fun y => by rw [← y, H_a5] at FF_a20; cases FF_a20
  have N_a20_a5 : a20 ≠ a5 := fun y => N_a5_a20 y.symm
  have N_a6_a20 : a6 ≠ a20 := fun y => by rw [← y, H_a6] at FF_a20; cases FF_a20
  have N_a20_a6 : a20 ≠ a6 := fun y => N_a6_a20 y.symm
  have N_a7_a20 : a7 ≠ a20 := fun y => by rw [← y, H_a7] at FF_a20; cases FF_a20
  have N_a20_a7 : a20 ≠ a7 := fun y => N_a7_a20 y.symm
  have N_a8_a20 : a8 ≠ a20 := fun y => by rw [← y, H_a8] at FF_a20; cases FF_a20
  have N_a20_a8 : a20 ≠ a8 := fun y => N_a8_a20 y.symm
  have N_a9_a20 : a9 ≠ a20 := fun y => by rw [← y, H_a9] at FF_a20; cases FF_a20
  have N_a20_a9 : a20 ≠ a9 := fun y => N_a9_a20 y.symm
  have N_a10_a20 : a10 ≠ a20 := fun y => by rw [← y, H_a10] at FF_a20; cases FF_a20
  have N_a20_a10 : a20 ≠ a10 := fun y => N_a10_a20 y.symm
  have N_a11_a20 : a11 ≠ a20 := fun y => by rw [← y, H_a11] at FF_a20; cases FF_a20
  have N_a20_a11 : a20 ≠ a11 := fun y => N_a11_a20 y.symm
  have N_a12_a20 : a12 ≠ a20 := fun y => by rw [← y, H_a12] at FF_a20; cases FF_a20
  have N_a20_a12 : a20 ≠ a12 := fun y => N_a12_a20 y.symm
  have N_a13_a20 : a13 ≠ a20 := fun y => by rw [← y, H_a13] at FF_a20; cases FF_a20
  have N_a20_a13 : a20 ≠ a13 := fun y => N_a13_a20 y.symm
  have N_a14_a20 : a14 ≠ a20 := fun y => by rw [← y, H_a14] at FF_a20; cases FF_a20
  have N_a20_a14 : a20 ≠ a14 := fun y => N_a14_a20 y.symm
  have N_a15_a20 : a15 ≠ a20 := fun y => by rw [← y, H_a15] at FF_a20; cases FF_a20
  have N_a20_a15 : a20 ≠ a15 := fun y => N_a15_a20 y.symm
  have N_a16_a20 : a16 ≠ a20 := fun y => by rw [← y, H_a16] at FF_a20; cases FF_a20
  have N_a20_a16 : a20 ≠ a16 := fun y => N_a16_a20 y.symm
  have N_a17_a20 : a17 ≠ a20 := fun y => by rw [← y, H_a17] at FF_a20; cases FF_a20
  have N_a20_a17 : a20 ≠ a17 := fun y => N_a17_a20 y.symm
  have N_a18_a20 : a18 ≠ a20 := fun y => by rw [← y, H_a18] at FF_a20; cases FF_a20
  have N_a20_a18 : a20 ≠ a18 := fun y => N_a18_a20 y.symm
  have N_a19_a20 : a19 ≠ a20 := fun y => by rw [← y, H_a19] at FF_a20; cases FF_a20
  have N_a20_a19 : a20 ≠ a19 := fun y => N_a19_a20 y.symm
  have F_a20 : g0 a20 = none := by
    cases y : g0 a20 with
    | none => rfl
    | some e => rw [HO a20 e N_a20_q y] at FF_a20; cases FF_a20
  have N_q_a21 : q ≠ a21 := fun y => by rw [← y, H_q] at FF_a21; cases FF_a21
  have N_a21_q : a21 ≠ q := fun y => N_q_a21 y.symm
  have N_a1_a21 : a1 ≠ a21 := fun y => by rw [← y, H_a1] at FF_a21; cases FF_a21
  have N_a21_a1 : a21 ≠ a1 := fun y => N_a1_a21 y.symm
  have N_a2_a21 : a2 ≠ a21 := fun y => by rw [← y, H_a2] at FF_a21; cases FF_a21
  have N_a21_a2 : a21 ≠ a2 := fun y => N_a2_a21 y.symm
  have N_a3_a21 : a3 ≠ a21 := fun y => by rw [← y, H_a3] at FF_a21; cases FF_a21
  have N_a21_a3 : a21 ≠ a3 := fun y => N_a3_a21 y.symm
  have N_a4_a21 : a4 ≠ a21 := fun y => by rw [← y, H_a4] at FF_a21; cases FF_a21
  have N_a21_a4 : a21 ≠ a4 := fun y => N_a4_a21 y.symm
  have N_a5_a21 : a5 ≠ a21 := fun y => by rw [← y, H_a5] at FF_a21; cases FF_a21
  have N_a21_a5 : a21 ≠ a5 := fun y => N_a5_a21 y.symm
  have N_a6_a21 : a6 ≠ a21 := fun y => by rw [← y, H_a6] at FF_a21; cases FF_a21
  have N_a21_a6 : a21 ≠ a6 := fun y => N_a6_a21 y.symm
  have N_a7_a21 : a7 ≠ a21 := fun y => by rw [← y, H_a7] at FF_a21; cases FF_a21
  have N_a21_a7 : a21 ≠ a7 := fun y => N_a7_a21 y.symm
  have N_a8_a21 : a8 ≠ a21 := fun y => by rw [← y, H_a8] at FF_a21; cases FF_a21
  have N_a21_a8 : a21 ≠ a8 := fun y => N_a8_a21 y.symm
  have N_a9_a21 : a9 ≠ a21 := fun y => by rw [← y, H_a9] at FF_a21; cases FF_a21
  have N_a21_a9 : a21 ≠ a9 := fun y => N_a9_a21 y.symm
  have N_a10_a21 : a10 ≠ a21 := fun y => by rw [← y, H_a10] at FF_a21; cases FF_a21
  have N_a21_a10 : a21 ≠ a10 := fun y => N_a10_a21 y.symm
  have N_a11_a21 : a11 ≠ a21 := fun y => by rw [← y, H_a11] at FF_a21; cases FF_a21
  have N_a21_a11 : a21 ≠ a11 := fun y => N_a11_a21 y.symm
  have N_a12_a21 : a12 ≠ a21 := fun y => by rw [← y, H_a12] at FF_a21; cases FF_a21
  have N_a21_a12 : a21 ≠ a12 := fun y => N_a12_a21 y.symm
  have N_a13_a21 : a13 ≠ a21 := fun y => by rw [← y, H_a13] at FF_a21; cases FF_a21
  have N_a21_a13 : a21 ≠ a13 := fun y => N_a13_a21 y.symm
  have N_a14_a21 : a14 ≠ a21 := fun y => by rw [← y, H_a14] at FF_a21; cases FF_a21
  have N_a21_a14 : a21 ≠ a14 := fun y => N_a14_a21 y.symm
  have N_a15_a21 : a15 ≠ a21 := fun y => by rw [← y, H_a15] at FF_a21; cases FF_a21
  have N_a21_a15 : a21 ≠ a15 := fun y => N_a15_a21 y.symm
  have N_a16_a21 : a16 ≠ a21 := fun y => by rw [← y, H_a16] at FF_a21; cases FF_a21
  have N_a21_a16 : a21 ≠ a16 := fun y => N_a16_a21 y.symm
  have N_a17_a21 : a17 ≠ a21 := fun y => by rw [← y, H_a17] at FF_a21; cases FF_a21
  have N_a21_a17 : a21 ≠ a17 := fun y => N_a17_a21 y.symm
  have N_a18_a21 : a18 ≠ a21 := fun y => by rw [← y, H_a18] at FF_a21; cases FF_a21
  have N_a21_a18 : a21 ≠ a18 := fun y => N_a18_a21 y.symm
  have N_a19_a21 : a19 ≠ a21 := fun y => by rw [← y, H_a19] at FF_a21; cases FF_a21
  have N_a21_a19 : a21 ≠ a19 := fun y => N_a19_a21 y.symm
  have F_a21 : g0 a21 = none := by
    cases y : g0 a21 with
    | none => rfl
    | some e => rw [HO a21 e N_a21_q y] at FF_a21; cases FF_a21
  have N_q_a22 : q ≠ a22 := fun y => by rw [← y, H_q] at FF_a22; cases FF_a22
  have N_a22_q : a22 ≠ q := fun y => N_q_a22 y.symm
  have N_a1_a22 : a1 ≠ a22 := fun y => by rw [← y, H_a1] at FF_a22; cases FF_a22
  have N_a22_a1 : a22 ≠ a1 := fun y => N_a1_a22 y.symm
  have N_a2_a22 : a2 ≠ a22 := fun y => by rw [← y, H_a2] at FF_a22; cases FF_a22
  have N_a22_a2 : a22 ≠ a2 := fun y => N_a2_a22 y.symm
  have N_a3_a22 : a3 ≠ a22 := fun y => by rw [← y, H_a3] at FF_a22; cases FF_a22
  have N_a22_a3 : a22 ≠ a3 := fun y => N_a3_a22 y.symm
  have N_a4_a22 : a4 ≠ a22 := fun y => by rw [← y, H_a4] at FF_a22; cases FF_a22
  have N_a22_a4 : a22 ≠ a4 := fun y => N_a4_a22 y.symm
  have N_a5_a22 : a5 ≠ a22 := fun y => by rw [← y, H_a5] at FF_a22; cases FF_a22
  have N_a22_a5 : a22 ≠ a5 := fun y => N_a5_a22 y.symm
  have N_a6_a22 : a6 ≠ a22 := fun y => by rw [← y, H_a6] at FF_a22; cases FF_a22
  have N_a22_a6 : a22 ≠ a6 := fun y => N_a6_a22 y.symm
  have N_a7_a22 : a7 ≠ a22 := fun y => by rw [← y, H_a7] at FF_a22; cases FF_a22
  have N_a22_a7 : a22 ≠ a7 := fun y => N_a7_a22 y.symm
  have N_a8_a22 : a8 ≠ a22 := fun y => by rw [← y, H_a8] at FF_a22; cases FF_a22
  have N_a22_a8 : a22 ≠ a8 := fun y => N_a8_a22 y.symm
  have N_a9_a22 : a9 ≠ a22 := fun y => by rw [← y, H_a9] at FF_a22; cases FF_a22
  have N_a22_a9 : a22 ≠ a9 := fun y => N_a9_a22 y.symm
  have N_a10_a22 : a10 ≠ a22 := fun y => by rw [← y, H_a10] at FF_a22; cases FF_a22
  have N_a22_a10 : a22 ≠ a10 := fun y => N_a10_a22 y.symm
  have N_a11_a22 : a11 ≠ a22 := fun y => by rw [← y, H_a11] at FF_a22; cases FF_a22
  have N_a22_a11 : a22 ≠ a11 := fun y => N_a11_a22 y.symm
  have N_a12_a22 : a12 ≠ a22 := fun y => by rw [← y, H_a12] at FF_a22; cases FF_a22
  have N_a22_a12 : a22 ≠ a12 := fun y => N_a12_a22 y.symm
  have N_a13_a22 : a13 ≠ a22 := fun y => by rw [← y, H_a13] at FF_a22; cases FF_a22
  have N_a22_a13 : a22 ≠ a13 := fun y => N_a13_a22 y.symm
  have N_a14_a22 : a14 ≠ a22 := fun y => by rw [← y, H_a14] at FF_a22; cases FF_a22
  have N_a22_a14 : a22 ≠ a14 := fun y => N_a14_a22 y.symm
  have N_a15_a22 : a15 ≠ a22 := fun y => by rw [← y, H_a15] at FF_a22; cases FF_a22
  have N_a22_a15 : a22 ≠ a15 := fun y => N_a15_a22 y.symm
  have N_a16_a22 : a16 ≠ a22 := fun y => by rw [← y, H_a16] at FF_a22; cases FF_a22
  have N_a22_a16 : a22 ≠ a16 := fun y => N_a16_a22 y.symm
  have N_a17_a22 : a17 ≠ a22 := fun y => by rw [← y, H_a17] at FF_a22; cases FF_a22
  have N_a22_a17 : a22 ≠ a17 := fun y => N_a17_a22 y.symm
  have N_a18_a22 : a18 ≠ a22 := fun y => by rw [← y, H_a18] at FF_a22; cases FF_a22
  have N_a22_a18 : a22 ≠ a18 := fun y => N_a18_a22 y.symm
  have N_a19_a22 : a19 ≠ a22 := fun y => by rw [← y, H_a19] at FF_a22; cases FF_a22
  have N_a22_a19 : a22 ≠ a19 := fun y => N_a19_a22 y.symm
  have F_a22 : g0 a22 = none := by
    cases y : g0 a22 with
    | none => rfl
    | some e => rw [HO a22 e N_a22_q y] at FF_a22; cases FF_a22
  have N_q_a23 : q ≠ a23 := fun y => by rw [← y, H_q] at FF_a23; cases FF_a23
  have N_a23_q : a23 ≠ q := fun y => N_q_a23 y.symm
  have N_a1_a23 : a1 ≠ a23 := fun y => by rw [← y, H_a1] at FF_a23; cases FF_a23
  have N_a23_a1 : a23 ≠ a1 := fun y => N_a1_a23 y.symm
  have N_a2_a23 : a2 ≠ a23 := fun y => by rw [← y, H_a2] at FF_a23; cases FF_a23
  have N_a23_a2 : a23 ≠ a2 := fun y => N_a2_a23 y.symm
  have N_a3_a23 : a3 ≠ a23 := fun y => by rw [← y, H_a3] at FF_a23; cases FF_a23
  have N_a23_a3 : a23 ≠ a3 := fun y => N_a3_a23 y.symm
  have N_a4_a23 : a4 ≠ a23 := fun y => by rw [← y, H_a4] at FF_a23; cases FF_a23
  have N_a23_a4 : a23 ≠ a4 := fun y => N_a4_a23 y.symm
  have N_a5_a23 : a5 ≠ a23 := fun y => by rw [← y, H_a5] at FF_a23; cases FF_a23
  have N_a23_a5 : a23 ≠ a5 := fun y => N_a5_a23 y.symm
  have N_a6_a23 : a6 ≠ a23 := fun y => by rw [← y, H_a6] at FF_a23; cases FF_a23
  have N_a23_a6 : a23 ≠ a6 := fun y => N_a6_a23 y.symm
  have N_a7_a23 : a7 ≠ a23 := fun y => by rw [← y, H_a7] at FF_a23; cases FF_a23
  have N_a23_a7 : a23 ≠ a7 := fun y => N_a7_a23 y.symm
  have N_a8_a23 : a8 ≠ a23 := fun y => by rw [← y, H_a8] at FF_a23; cases FF_a23
  have N_a23_a8 : a23 ≠ a8 := fun y => N_a8_a23 y.symm
  have N_a9_a23 : a9 ≠ a23 := fun y => by rw [← y, H_a9] at FF_a23; cases FF_a23
  have N_a23_a9 : a23 ≠ a9 := fun y => N_a9_a23 y.symm
  have N_a10_a23 : a10 ≠ a23 := fun y => by rw [← y, H_a10] at FF_a23; cases FF_a23
  have N_a23_a10 : a23 ≠ a10 := fun y => N_a10_a23 y.symm
  have N_a11_a23 : a11 ≠ a23 := fun y => by rw [← y, H_a11] at FF_a23; cases FF_a23
  have N_a23_a11 : a23 ≠ a11 := fun y => N_a11_a23 y.symm
  have N_a12_a23 : a12 ≠ a23 := fun y => by rw [← y, H_a12] at FF_a23; cases FF_a23
  have N_a23_a12 : a23 ≠ a12 := fun y => N_a12_a23 y.symm
  have N_a13_a23 : a13 ≠ a23 := fun y => by rw [← y, H_a13] at FF_a23; cases FF_a23
  have N_a23_a13 : a23 ≠ a13 := fun y => N_a13_a23 y.symm
  have N_a14_a23 : a14 ≠ a23 := fun y => by rw [← y, H_a14] at FF_a23; cases FF_a23
  have N_a23_a14 : a23 ≠ a14 := fun y => N_a14_a23 y.symm
  have N_a15_a23 : a15 ≠ a23 := fun y => by rw [← y, H_a15] at FF_a23; cases FF_a23
  have N_a23_a15 : a23 ≠ a15 := fun y => N_a15_a23 y.symm
  have N_a16_a23 : a16 ≠ a23 := fun y => by rw [← y, H_a16] at FF_a23; cases FF_a23
  have N_a23_a16 : a23 ≠ a16 := fun y => N_a16_a23 y.symm
  have N_a17_a23 : a17 ≠ a23 := fun y => by rw [← y, H_a17] at FF_a23; cases FF_a23
  have N_a23_a17 : a23 ≠ a17 := fun y => N_a17_a23 y.symm
  have N_a18_a23 : a18 ≠ a23 := fun y => by rw [← y, H_a18] at FF_a23; cases FF_a23
  have N_a23_a18 : a23 ≠ a18 := fun y => N_a18_a23 y.symm
  have N_a19_a23 : a19 ≠ a23 := fun y => by rw [← y, H_a19] at FF_a23; cases FF_a23
  have N_a23_a19 : a23 ≠ a19 := fun y => N_a19_a23 y.symm
  have F_a23 : g0 a23 = none := by
    cases y : g0 a23 with
    | none => rfl
    | some e => rw [HO a23 e N_a23_q y] at FF_a23; cases FF_a23
  have N_q_a24 : q ≠ a24 := fun y => by rw [← y, H_q] at FF_a24; cases FF_a24
  have N_a24_q : a24 ≠ q := fun y => N_q_a24 y.symm
  have N_a1_a24 : a1 ≠ a24 := fun y => by rw [← y, H_a1] at FF_a24; cases FF_a24
  have N_a24_a1 : a24 ≠ a1 := fun y => N_a1_a24 y.symm
  have N_a2_a24 : a2 ≠ a24 := fun y => by rw [← y, H_a2] at FF_a24; cases FF_a24
  have N_a24_a2 : a24 ≠ a2 := fun y => N_a2_a24 y.symm
  have N_a3_a24 : a3 ≠ a24 := fun y => by rw [← y, H_a3] at FF_a24; cases FF_a24
  have N_a24_a3 : a24 ≠ a3 := fun y => N_a3_a24 y.symm
  have N_a4_a24 : a4 ≠ a24 := fun y => by rw [← y, H_a4] at FF_a24; cases FF_a24
  have N_a24_a4 : a24 ≠ a4 := fun y => N_a4_a24 y.symm
  have N_a5_a24 : a5 ≠ a24 := fun y => by rw [← y, H_a5] at FF_a24; cases FF_a24
  have N_a24_a5 : a24 ≠ a5 := fun y => N_a5_a24 y.symm
  have N_a6_a24 : a6 ≠ a24 := fun y => by rw [← y, H_a6] at FF_a24; cases FF_a24
  have N_a24_a6 : a24 ≠ a6 := fun y => N_a6_a24 y.symm
  have N_a7_a24 : a7 ≠ a24 := fun y => by rw [← y, H_a7] at FF_a24; cases FF_a24
  have N_a24_a7 : a24 ≠ a7 := fun y => N_a7_a24 y.symm
  have N_a8_a24 : a8 ≠ a24 := fun y => by rw [← y, H_a8] at FF_a24; cases FF_a24
  have N_a24_a8 : a24 ≠ a8 := fun y => N_a8_a24 y.symm
  have N_a9_a24 : a9 ≠ a24 := fun y => by rw [← y, H_a9] at FF_a24; cases FF_a24
  have N_a24_a9 : a24 ≠ a9 := fun y => N_a9_a24 y.symm
  have N_a10_a24 : a10 ≠ a24 := fun y => by rw [← y, H_a10] at FF_a24; cases FF_a24
  have N_a24_a10 : a24 ≠ a10 := fun y => N_a10_a24 y.symm
  have N_a11_a24 : a11 ≠ a24 := fun y => by rw [← y, H_a11] at FF_a24; cases FF_a24
  have N_a24_a11 : a24 ≠ a11 := fun y => N_a11_a24 y.symm
  have N_a12_a24 : a12 ≠ a24 := fun y => by rw [← y, H_a12] at FF_a24; cases FF_a24
  have N_a24_a12 : a24 ≠ a12 := fun y => N_a12_a24 y.symm
  have N_a13_a24 : a13 ≠ a24 := fun y => by rw [← y, H_a13] at FF_a24; cases FF_a24
  have N_a24_a13 : a24 ≠ a13 := fun y => N_a13_a24 y.symm
  have N_a14_a24 : a14 ≠ a24 := fun y => by rw [← y, H_a14] at FF_a24; cases FF_a24
  have N_a24_a14 : a24 ≠ a14 := fun y => N_a14_a24 y.symm
  have N_a15_a24 : a15 ≠ a24 := fun y => by rw [← y, H_a15] at FF_a24; cases FF_a24
  have N_a24_a15 : a24 ≠ a15 := fun y => N_a15_a24 y.symm
  have N_a16_a24 : a16 ≠ a24 := fun y => by rw [← y, H_a16] at FF_a24; cases FF_a24
  have N_a24_a16 : a24 ≠ a16 := fun y => N_a16_a24 y.symm
  have N_a17_a24 : a17 ≠ a24 := fun y => by rw [← y, H_a17] at FF_a24; cases FF_a24
  have N_a24_a17 : a24 ≠ a17 := fun y => N_a17_a24 y.symm
  have N_a18_a24 : a18 ≠ a24 := fun y => by rw [← y, H_a18] at FF_a24; cases FF_a24
  have N_a24_a18 : a24 ≠ a18 := fun y => N_a18_a24 y.symm
  have N_a19_a24 : a19 ≠ a24 := fun y => by rw [← y, H_a19] at FF_a24; cases FF_a24
  have N_a24_a19 : a24 ≠ a19 := fun y => N_a19_a24 y.symm
  have F_a24 : g0 a24 = none := by
    cases y : g0 a24 with
    | none => rfl
    | some e => rw [HO a24 e N_a24_q y] at FF_a24; cases FF_a24
  have N_a20_a21 := NN_a20_a21
  have N_a21_a20 : a21 ≠ a20 := fun y => NN_a20_a21 y.symm
  have N_a20_a22 := NN_a20_a22
  have N_a22_a20 : a22 ≠ a20 := fun y => NN_a20_a22 y.symm
  have N_a20_a23 := NN_a20_a23
  have N_a23_a20 : a23 ≠ a20 := fun y => NN_a20_a23 y.symm
  have N_a20_a24 := NN_a20_a24
  have N_a24_a20 : a24 ≠ a20 := fun y => NN_a20_a24 y.symm
  have N_a21_a22 := NN_a21_a22
  have N_a22_a21 : a22 ≠ a21 := fun y => NN_a21_a22 y.symm
  have N_a21_a23 := NN_a21_a23
  have N_a23_a21 : a23 ≠ a21 := fun y => NN_a21_a23 y.symm
  have N_a21_a24 := NN_a21_a24
  have N_a24_a21 : a24 ≠ a21 := fun y => NN_a21_a24 y.symm
  have N_a22_a23 := NN_a22_a23
  have N_a23_a22 : a23 ≠ a22 := fun y => NN_a22_a23 y.symm
  have N_a22_a24 := NN_a22_a24
  have N_a24_a22 : a24 ≠ a22 := fun y => NN_a22_a24 y.symm
  have N_a23_a24 := NN_a23_a24
  have N_a24_a23 : a24 ≠ a23 := fun y => NN_a23_a24 y.symm
  have H_q := KO _ _ N_q_a19 H_q
  have H_a1 := KO _ _ N_a1_a19 H_a1
  have H_a2 := KO _ _ N_a2_a19 H_a2
  have H_a3 := KO _ _ N_a3_a19 H_a3
  have H_a4 := KO _ _ N_a4_a19 H_a4
  have H_a5 := KO _ _ N_a5_a19 H_a5
  have H_a6 := KO _ _ N_a6_a19 H_a6
  have H_a7 := KO _ _ N_a7_a19 H_a7
  have H_a8 := KO _ _ N_a8_a19 H_a8
  have H_a9 := KO _ _ N_a9_a19 H_a9
  have H_a10 := KO _ _ N_a10_a19 H_a10
  have H_a11 := KO _ _ N_a11_a19 H_a11
  have H_a12 := KO _ _ N_a12_a19 H_a12
  have H_a13 := KO _ _ N_a13_a19 H_a13
  have H_a14 := KO _ _ N_a14_a19 H_a14
  have H_a15 := KO _ _ N_a15_a19 H_a15
  have H_a16 := KO _ _ N_a16_a19 H_a16
  have H_a17 := KO _ _ N_a17_a19 H_a17
  have H_a18 := KO _ _ N_a18_a19 H_a18
  have H_a19 : g a19 = some (.inr (3, [.ref a20, .ref a21, .ref a22, .ref a23, .ref a24, .int 0])) := H9
  have HO : ∀ b e, b ≠ q → g0 b = some e → g b = some e := fun b e hb h => KO b e (fun y => by rw [y, F_a19] at h; cases h) (HO b e hb h)
  have H_a20 : g a20 = some (.inl (G.2.2.2 5, 600, .inr (.inr (.inr (.inr (fun _ => none)))))) := HH_a20
  have H_a21 : g a21 = some (.inl (G.2.2.2 0, 60, .inl (fun _ => 0))) := HH_a21
  have H_a22 : g a22 = some (.inl (G.2.2.2 0, 60, .inl (fun _ => 0))) := HH_a22
  have H_a23 : g a23 = some (.inl (G.2.2.2 0, 60, .inl (fun _ => 0))) := HH_a23
  have H_a24 : g a24 = some (.inl (G.2.2.2 0, 60, .inl (fun _ => 0))) := HH_a24
  refine ev_putF2 hE rfl dX11_init_118 pX11_69 H_q (Nat.le_of_ble_eq_true rfl) rfl rfl (fun g k1 k2 => ?_)
  have H_q : g q = some (.inr (12, [.ref a1, .ref a2, .ref a3, .ref a4, .ref a5, .int 0, .int 0, .ref a6, .ref a10, .ref a13, .ref a15, .ref a19, .null])) := k1
  have H_a1 := (k2 _ N_a1_q).trans H_a1
  have H_a2 := (k2 _ N_a2_q).trans H_a2
  have H_a3 := (k2 _ N_a3_q).trans H_a3
  have H_a4 := (k2 _ N_a4_q).trans H_a4
  have H_a5 := (k2 _ N_a5_q).trans H_a5
  have H_a6 := (k2 _ N_a6_q).trans H_a6
  have H_a7 := (k2 _ N_a7_q).trans H_a7
  have H_a8 := (k2 _ N_a8_q).trans H_a8
  have H_a9 := (k2 _ N_a9_q).trans H_a9
  have H_a10 := (k2 _ N_a10_q).trans H_a10
  have H_a11 := (k2 _ N_a11_q).trans H_a11
  have H_a12 := (k2 _ N_a12_q).trans H_a12
  have H_a13 := (k2 _ N_a13_q).trans H_a13
  have H_a14 := (k2 _ N_a14_q).trans H_a14
  have H_a15 := (k2 _ N_a15_q).trans H_a15
  have H_a16 := (k2 _ N_a16_q).trans H_a16
  have H_a17 := (k2 _ N_a17_q).trans H_a17
  have H_a18 := (k2 _ N_a18_q).trans H_a18
  have H_a19 := (k2 _ N_a19_q).trans H_a19
  have H_a20 := (k2 _ N_a20_q).trans H_a20
  have H_a21 := (k2 _ N_a21_q).trans H_a21
  have H_a22 := (k2 _ N_a22_q).trans H_a22
  have H_a23 := (k2 _ N_a23_q).trans H_a23
  have H_a24 := (k2 _ N_a24_q).trans H_a24
  have HO : ∀ b e, b ≠ q → g0 b = some e → g b = some e := fun b e hb h => (k2 b hb).trans (HO b e hb h)
  refine ev_aload_n dX11_init_121 rfl rfl ?_
  refine ev_new2 (b := 0) (n := 0) hE dX11_init_122 wX11_73 (by decide) (by decide) (fun a25 g k0 k1 k2 => ?_)
  have H_a25 : g a25 = some (.inr (4, [.int 0, .int 0, .int 0, .int 0])) := k1
  have N_q_a25 : q ≠ a25 := fun z => by rw [← z, H_q] at k0; cases k0
  have N_a25_q : a25 ≠ q := fun z => N_q_a25 z.symm
  have N_a1_a25 : a1 ≠ a25 := fun z => by rw [← z, H_a1] at k0; cases k0
  have N_a25_a1 : a25 ≠ a1 := fun z => N_a1_a25 z.symm
  have N_a2_a25 : a2 ≠ a25 := fun z => by rw [← z, H_a2] at k0; cases k0
  have N_a25_a2 : a25 ≠ a2 := fun z => N_a2_a25 z.symm
  have N_a3_a25 : a3 ≠ a25 := fun z => by rw [← z, H_a3] at k0; cases k0
  have N_a25_a3 : a25 ≠ a3 := fun z => N_a3_a25 z.symm
  have N_a4_a25 : a4 ≠ a25 := fun z => by rw [← z, H_a4] at k0; cases k0
  have N_a25_a4 : a25 ≠ a4 := fun z => N_a4_a25 z.symm
  have N_a5_a25 : a5 ≠ a25 := fun z => by rw [← z, H_a5] at k0; cases k0
  have N_a25_a5 : a25 ≠ a5 := fun z => N_a5_a25 z.symm
  have N_a6_a25 : a6 ≠ a25 := fun z => by rw [← z, H_a6] at k0; cases k0
  have N_a25_a6 : a25 ≠ a6 := fun z => N_a6_a25 z.symm
  have N_a7_a25 : a7 ≠ a25 := fun z => by rw [← z, H_a7] at k0; cases k0
  have N_a25_a7 : a25 ≠ a7 := fun z => N_a7_a25 z.symm
  have N_a8_a25 : a8 ≠ a25 := fun z => by rw [← z, H_a8] at k0; cases k0
  have N_a25_a8 : a25 ≠ a8 := fun z => N_a8_a25 z.symm
  have N_a9_a25 : a9 ≠ a25 := fun z => by rw [← z, H_a9] at k0; cases k0
  have N_a25_a9 : a25 ≠ a9 := fun z => N_a9_a25 z.symm
  have N_a10_a25 : a10 ≠ a25 := fun z => by rw [← z, H_a10] at k0; cases k0
  have N_a25_a10 : a25 ≠ a10 := fun z => N_a10_a25 z.symm
  have N_a11_a25 : a11 ≠ a25 := fun z => by rw [← z, H_a11] at k0; cases k0
  have N_a25_a11 : a25 ≠ a11 := fun z => N_a11_a25 z.symm
  have N_a12_a25 : a12 ≠ a25 := fun z => by rw [← z, H_a12] at k0; cases k0
  have N_a25_a12 : a25 ≠ a12 := fun z => N_a12_a25 z.symm
  have N_a13_a25 : a13 ≠ a25 := fun z => by rw [← z, H_a13] at k0; cases k0
  have N_a25_a13 : a25 ≠ a13 := fun z => N_a13_a25 z.symm
  have N_a14_a25 : a14 ≠ a25 := fun z => by rw [← z, H_a14] at k0; cases k0
  have N_a25_a14 : a25 ≠ a14 := fun z => N_a14_a25 z.symm
  have N_a15_a25 : a15 ≠ a25 := fun z => by rw [← z, H_a15] at k0; cases k0
  have N_a25_a15 : a25 ≠ a15 := fun z => N_a15_a25 z.symm
  have N_a16_a25 : a16 ≠ a25 := fun z => by rw [← z, H_a16] at k0; cases k0
  have N_a25_a16 : a25 ≠ a16 := fun z => N_a16_a25 z.symm
  have N_a17_a25 : a17 ≠ a25 := fun z => by rw [← z, H_a17] at k0; cases k0
  have N_a25_a17 : a25 ≠ a17 := fun z => N_a17_a25 z.symm
  have N_a18_a25 : a18 ≠ a25 := fun z => by rw [← z, H_a18] at k0; cases k0
  have N_a25_a18 : a25 ≠ a18 := fun z => N_a18_a25 z.symm
  have N_a19_a25 : a19 ≠ a25 := fun z => by rw [← z, H_a19] at k0; cases k0
  have N_a25_a19 : a25 ≠ a19 := fun z => N_a19_a25 z.symm
  have N_a20_a25 : a20 ≠ a25 := fun z => by rw [← z, H_a20] at k0; cases k0
  have N_a25_a20 : a25 ≠ a20 := fun z => N_a20_a25 z.symm
  have N_a21_a25 : a21 ≠ a25 := fun z => by rw [← z, H_a21] at k0; cases k0
  have N_a25_a21 : a25 ≠ a21 := fun z => N_a21_a25 z.symm
  have N_a22_a25 : a22 ≠ a25 := fun z => by rw [← z, H_a22] at k0; cases k0
  have N_a25_a22 : a25 ≠ a22 := fun z => N_a22_a25 z.symm
  have N_a23_a25 : a23 ≠ a25 := fun z => by rw [← z, H_a23] at k0; cases k0
  have N_a25_a23 : a25 ≠ a23 := fun z => N_a23_a25 z.symm
  have N_a24_a25 : a24 ≠ a25 := fun z => by rw [← z, H_a24] at k0; cases k0
  have N_a25_a24 : a25 ≠ a24 := fun z => N_a24_a25 z.symm
  have F_a25 : g0 a25 = none := by
    cases z : g0 a25 with
    | none => rfl
    | some e => rw [HO a25 e N_a25_q z] at k0; cases k0
  have H_q := (k2 _ N_q_a25).trans H_q
  have H_a1 := (k2 _ N_a1_a25).trans H_a1
  have H_a2 := (k2 _ N_a2_a25).trans H_a2
  have H_a3 := (k2 _ N_a3_a25).trans H_a3
  have H_a4 := (k2 _ N_a4_a25).trans H_a4
  have H_a5 := (k2 _ N_a5_a25).trans H_a5
  have H_a6 := (k2 _ N_a6_a25).trans H_a6
  have H_a7 := (k2 _ N_a7_a25).trans H_a7
  have H_a8 := (k2 _ N_a8_a25).trans H_a8
  have H_a9 := (k2 _ N_a9_a25).trans H_a9
  have H_a10 := (k2 _ N_a10_a25).trans H_a10
  have H_a11 := (k2 _ N_a11_a25).trans H_a11
  have H_a12 := (k2 _ N_a12_a25).trans H_a12
  have H_a13 := (k2 _ N_a13_a25).trans H_a13
  have H_a14 := (k2 _ N_a14_a25).trans H_a14
  have H_a15 := (k2 _ N_a15_a25).trans H_a15
  have H_a16 := (k2 _ N_a16_a25).trans H_a16
  have H_a17 := (k2 _ N_a17_a25).trans H_a17
  have H_a18 := (k2 _ N_a18_a25).trans H_a18
  have H_a19 := (k2 _ N_a19_a25).trans H_a19
  have H_a20 := (k2 _ N_a20_a25).trans H_a20
  have H_a21 := (k2 _ N_a21_a25).trans H_a21
  have H_a22 := (k2 _ N_a22_a25).trans H_a22
  have H_a23 := (k2 _ N_a23_a25).trans H_a23
  have H_a24 := (k2 _ N_a24_a25).trans H_a24
  have HO : ∀ b e, b ≠ q → g0 b = some e → g b = some e := fun b e hb h => (k2 b (fun z => by rw [z, F_a25] at h; cases h)).trans (HO b e hb h)
  refine ev_dup dX11_init_125 rfl ?_
  refine ev_callIN (d' := d - 1) (b := 0) (k0 := 0) (As := []) h4 dX11_init_126 rfl rfl kX3_init rfl rfl (by decide +kernel) iX3_init (Nat.le_of_ble_eq_true rfl) (by omega) (c_X3_init (d := d - 1) hE h4 (by omega) H_a25) (by decide) (by decide) (fun v g h => ?_) (fun E g h => by cases h.1)
  obtain ⟨h1, H9, KO⟩ := h
  cases h1
  have H_q := KO _ _ N_q_a25 H_q
  have H_a1 := KO _ _ N_a1_a25 H_a1
  have H_a2 := KO _ _ N_a2_a25 H_a2
  have H_a3 := KO _ _ N_a3_a25 H_a3
  have H_a4 := KO _ _ N_a4_a25 H_a4
  have H_a5 := KO _ _ N_a5_a25 H_a5
  have H_a6 := KO _ _ N_a6_a25 H_a6
  have H_a7 := KO _ _ N_a7_a25 H_a7
  have H_a8 := KO _ _ N_a8_a25 H_a8
  have H_a9 := KO _ _ N_a9_a25 H_a9
  have H_a10 := KO _ _ N_a10_a25 H_a10
  have H_a11 := KO _ _ N_a11_a25 H_a11
  have H_a12 := KO _ _ N_a12_a25 H_a12
  have H_a13 := KO _ _ N_a13_a25 H_a13
  have H_a14 := KO _ _ N_a14_a25 H_a14
  have H_a15 := KO _ _ N_a15_a25 H_a15
  have H_a16 := KO _ _ N_a16_a25 H_a16
  have H_a17 := KO _ _ N_a17_a25 H_a17
  have H_a18 := KO _ _ N_a18_a25 H_a18
  have H_a19 := KO _ _ N_a19_a25 H_a19
  have H_a20 := KO _ _ N_a20_a25 H_a20
  have H_a21 := KO _ _ N_a21_a25 H_a21
  have H_a22 := KO _ _ N_a22_a25 H_a22
  have H_a23 := KO _ _ N_a23_a25 H_a23
  have H_a24 := KO _ _ N_a24_a25 H_a24
  have H_a25 : g a25 = some (.inr (4, [.int 0, .int 0, .int 0, .int 0])) := H9
  have HO : ∀ b e, b ≠ q → g0 b = some e → g b = some e := fun b e hb h => KO b e (fun y => by rw [y, F_a25] at h; cases h) (HO b e hb h)
  refine ev_putF2 hE rfl dX11_init_129 pX11_76 H_q (Nat.le_of_ble_eq_true rfl) rfl rfl (fun g k1 k2 => ?_)
  have H_q : g q = some (.inr (12, [.ref a1, .ref a2, .ref a3, .ref a4, .ref a5, .int 0, .int 0, .ref a6, .ref a10, .ref a13, .ref a15, .ref a19, .ref a25])) := k1
  have H_a1 := (k2 _ N_a1_q).trans H_a1
  have H_a2 := (k2 _ N_a2_q).trans H_a2
  have H_a3 := (k2 _ N_a3_q).trans H_a3
  have H_a4 := (k2 _ N_a4_q).trans H_a4
  have H_a5 := (k2 _ N_a5_q).trans H_a5
  have H_a6 := (k2 _ N_a6_q).trans H_a6
  have H_a7 := (k2 _ N_a7_q).trans H_a7
  have H_a8 := (k2 _ N_a8_q).trans H_a8
  have H_a9 := (k2 _ N_a9_q).trans H_a9
  have H_a10 := (k2 _ N_a10_q).trans H_a10
  have H_a11 := (k2 _ N_a11_q).trans H_a11
  have H_a12 := (k2 _ N_a12_q).trans H_a12
  have H_a13 := (k2 _ N_a13_q).trans H_a13
  have H_a14 := (k2 _ N_a14_q).trans H_a14
  have H_a15 := (k2 _ N_a15_q).trans H_a15
  have H_a16 := (k2 _ N_a16_q).trans H_a16
  have H_a17 := (k2 _ N_a17_q).trans H_a17
  have H_a18 := (k2 _ N_a18_q).trans H_a18
  have H_a19 := (k2 _ N_a19_q).trans H_a19
  have H_a20 := (k2 _ N_a20_q).trans H_a20
  have H_a21 := (k2 _ N_a21_q).trans H_a21
  have H_a22 := (k2 _ N_a22_q).trans H_a22
  have H_a23 := (k2 _ N_a23_q).trans H_a23
  have H_a24 := (k2 _ N_a24_q).trans H_a24
  have H_a25 := (k2 _ N_a25_q).trans H_a25
  have HO : ∀ b e, b ≠ q → g0 b = some e → g b = some e := fun b e hb h => (k2 b hb).trans (HO b e hb h)
  exact ev_vret dX11_init_132 rfl ⟨rfl, a1, a2, a3, a4, a5, a6, a7, a8, a9, a10, a11, a12, a13, a14, a15, a16, a17, a18, a19, a20, a21, a22, a23, a24, a25, H_q, ⟨F_a1, H_a1⟩, ⟨F_a2, H_a2⟩, ⟨F_a3, H_a3⟩, ⟨F_a4, H_a4⟩, ⟨F_a5, H_a5⟩, ⟨F_a6, H_a6⟩, ⟨F_a7, H_a7⟩, ⟨F_a8, H_a8⟩, ⟨F_a9, H_a9⟩, ⟨F_a10, H_a10⟩, ⟨F_a11, H_a11⟩, ⟨F_a12, H_a12⟩, ⟨F_a13, H_a13⟩, ⟨F_a14, H_a14⟩, ⟨F_a15, H_a15⟩, ⟨F_a16, H_a16⟩, ⟨F_a17, H_a17⟩, ⟨F_a18, H_a18⟩, ⟨F_a19, H_a19⟩, ⟨F_a20, H_a20⟩, ⟨F_a21, H_a21⟩, ⟨F_a22, H_a22⟩, ⟨F_a23, H_a23⟩, ⟨F_a24, H_a24⟩, ⟨F_a25, H_a25⟩, ⟨N_a1_a2, N_a1_a3, N_a1_a4, N_a1_a5, N_a1_a6, N_a1_a7, N_a1_a8, N_a1_a9, N_a1_a10, N_a1_a11, N_a1_a12, N_a1_a13, N_a1_a14, N_a1_a15, N_a1_a16, N_a1_a17, N_a1_a18, N_a1_a19, N_a1_a20, N_a1_a21, N_a1_a22, N_a1_a23, N_a1_a24, N_a1_a25⟩, ⟨N_a2_a3, N_a2_a4, N_a2_a5, N_a2_a6, N_a2_a7, N_a2_a8, N_a2_a9, N_a2_a10, N_a2_a11, N_a2_a12, N_a2_a13, N_a2_a14, N_a2_a15, N_a2_a16, N_a2_a17, N_a2_a18, N_a2_a19, N_a2_a20, N_a2_a21, N_a2_a22, N_a2_a23, N_a2_a24, N_a2_a25⟩, ⟨N_a3_a4, N_a3_a5, N_a3_a6, N_a3_a7, N_a3_a8, N_a3_a9, N_a3_a10, N_a3_a11, N_a3_a12, N_a3_a13, N_a3_a14, N_a3_a15, N_a3_a16, N_a3_a17, N_a3_a18, N_a3_a19, N_a3_a20, N_a3_a21, N_a3_a22, N_a3_a23, N_a3_a24, N_a3_a25⟩, ⟨N_a4_a5, N_a4_a6, N_a4_a7, N_a4_a8, N_a4_a9, N_a4_a10, N_a4_a11, N_a4_a12, N_a4_a13, N_a4_a14, N_a4_a15, N_a4_a16, N_a4_a17, N_a4_a18, N_a4_a19, N_a4_a20, N_a4_a21, N_a4_a22, N_a4_a23, N_a4_a24, N_a4_a25⟩, ⟨N_a5_a6, N_a5_a7, N_a5_a8, N_a5_a9, N_a5_a10, N_a5_a11, N_a5_a12, N_a5_a13, N_a5_a14, N_a5_a15, N_a5_a16, N_a5_a17, N_a5_a18, N_a5_a19, N_a5_a20, N_a5_a21, N_a5_a22, N_a5_a23, N_a5_a24, N_a5_a25⟩, ⟨N_a6_a7, N_a6_a8, N_a6_a9, N_a6_a10, N_a6_a11, N_a6_a12, N_a6_a13, N_a6_a14, N_a6_a15, N_a6_a16, N_a6_a17, N_a6_a18, N_a6_a19, N_a6_a20, N_a6_a21, N_a6_a22, N_a6_a23, N_a6_a24, N_a6_a25⟩, ⟨N_a7_a8, N_a7_a9, N_a7_a10, N_a7_a11, N_a7_a12, N_a7_a13, N_a7_a14, N_a7_a15, N_a7_a16, N_a7_a17, N_a7_a18, N_a7_a19, N_a7_a20, N_a7_a21, N_a7_a22, N_a7_a23, N_a7_a24, N_a7_a25⟩, ⟨N_a8_a9, N_a8_a10, N_a8_a11, N_a8_a12, N_a8_a13, N_a8_a14, N_a8_a15, N_a8_a16, N_a8_a17, N_a8_a18, N_a8_a19, N_a8_a20, N_a8_a21, N_a8_a22, N_a8_a23, N_a8_a24, N_a8_a25⟩, ⟨N_a9_a10, N_a9_a11, N_a9_a12, N_a9_a13, N_a9_a14, N_a9_a15, N_a9_a16, N_a9_a17, N_a9_a18, N_a9_a19, N_a9_a20, N_a9_a21, N_a9_a22, N_a9_a23, N_a9_a24, N_a9_a25⟩, ⟨N_a10_a11, N_a10_a12, N_a10_a13, N_a10_a14, N_a10_a15, N_a10_a16, N_a10_a17, N_a10_a18, N_a10_a19, N_a10_a20, N_a10_a21, N_a10_a22, N_a10_a23, N_a10_a24, N_a10_a25⟩, ⟨N_a11_a12, N_a11_a13, N_a11_a14, N_a11_a15, N_a11_a16, N_a11_a17, N_a11_a18, N_a11_a19, N_a11_a20, N_a11_a21, N_a11_a22, N_a11_a23, N_a11_a24, N_a11_a25⟩, ⟨N_a12_a13, N_a12_a14, N_a12_a15, N_a12_a16, N_a12_a17, N_a12_a18, N_a12_a19, N_a12_a20, N_a12_a21, N_a12_a22, N_a12_a23, N_a12_a24, N_a12_a25⟩, ⟨N_a13_a14, N_a13_a15, N_a13_a16, N_a13_a17, N_a13_a18, N_a13_a19, N_a13_a20, N_a13_a21, N_a13_a22, N_a13_a23, N_a13_a24, N_a13_a25⟩, ⟨N_a14_a15, N_a14_a16, N_a14_a17, N_a14_a18, N_a14_a19, N_a14_a20, N_a14_a21, N_a14_a22, N_a14_a23, N_a14_a24, N_a14_a25⟩, ⟨N_a15_a16, N_a15_a17, N_a15_a18, N_a15_a19, N_a15_a20, N_a15_a21, N_a15_a22, N_a15_a23, N_a15_a24, N_a15_a25⟩, ⟨N_a16_a17, N_a16_a18, N_a16_a19, N_a16_a20, N_a16_a21, N_a16_a22, N_a16_a23, N_a16_a24, N_a16_a25⟩, ⟨N_a17_a18, N_a17_a19, N_a17_a20, N_a17_a21, N_a17_a22, N_a17_a23, N_a17_a24, N_a17_a25⟩, ⟨N_a18_a19, N_a18_a20, N_a18_a21, N_a18_a22, N_a18_a23, N_a18_a24, N_a18_a25⟩, ⟨N_a19_a20, N_a19_a21, N_a19_a22, N_a19_a23, N_a19_a24, N_a19_a25⟩, ⟨N_a20_a21, N_a20_a22, N_a20_a23, N_a20_a24, N_a20_a25⟩, ⟨N_a21_a22, N_a21_a23, N_a21_a24, N_a21_a25⟩, ⟨N_a22_a23, N_a22_a24, N_a22_a25⟩, ⟨N_a23_a24, N_a23_a25⟩, N_a24_a25, HO⟩
end CI
