section CI
section RS
variable {G : ev_G} {d bc bs : Nat} {M : ev_M} {Post : ev_P} {g : ev_H} {pc : Nat} {lv : List (Option Value)} {st : List Value}
theorem ev_put2 {index ci j : Nat} {ty : FieldType} {a : Nat} {fs : List Value} {v : Value} (hE : ev_En G) (hd : decode M.2.1 pc = .ok (.putfield index, 3)) (hF : ev_F M.1.cls index ci j ty false) (hg : g a = some (.inr (ci, fs))) (hl0 : j < fs.length) (hn : narrow ty v = v) (hf : fits ty v = true) (k : ∀ g' : ev_H, g' a = some (.inr (ci, fs.set j v)) → (∀ b, b ≠ a → g' b = g b) → ev_V G d bc bs M Post g' (pc + 3) lv st) : ev_V G d bc bs M Post g pc lv (v :: .ref a :: st) :=
  ev_put hE hd hF hg hl0 hn hf (k _ (ev_up_s _ _ _) (fun _ hb => ev_up_n _ _ hb))
theorem ev_putF2 {index ci j : Nat} {ty : FieldType} {a : Nat} {fs : List Value} {v : Value} (hE : ev_En G) (hi : M.1.name = "<init>") (hd : decode M.2.1 pc = .ok (.putfield index, 3)) (hF : ev_F M.1.cls index ci j ty true) (hg : g a = some (.inr (ci, fs))) (hl0 : j < fs.length) (hn : narrow ty v = v) (hf : fits ty v = true) (k : ∀ g' : ev_H, g' a = some (.inr (ci, fs.set j v)) → (∀ b, b ≠ a → g' b = g b) → ev_V G d bc bs M Post g' (pc + 3) lv st) : ev_V G d bc bs M Post g pc lv (v :: .ref a :: st) :=
  ev_putF hE hi hd hF hg hl0 hn hf (k _ (ev_up_s _ _ _) (fun _ hb => ev_up_n _ _ hb))
theorem ev_new2 {index ci b n : Nat} {fs : List Value} (hE : ev_En G) (hd : decode M.2.1 pc = .ok (.new index, 3)) (hN : ev_N M.1.cls index ci fs) (hb : b + 1 ≤ bc) (hn : n + fs.length ≤ bs) (k : ∀ (q : Nat) (g' : ev_H), g q = none → g' q = some (.inr (ci, fs)) → (∀ b, b ≠ q → g' b = g b) → ev_V G d b n M Post g' (pc + 3) lv (.ref q :: st)) : ev_V G d bc bs M Post g pc lv st :=
  ev_new hE hd hN hb hn (fun q hq => k q _ hq (ev_up_s _ _ _) (fun _ hb => ev_up_n _ _ hb))
theorem ev_newa2_int {b n N : Nat} {x : Int32} (hE : ev_En G) (hd : decode M.2.1 pc = .ok (.newarray .int, 2)) (hw : Cond.arrayClass .int ∈ ev_T) (hx : ¬ x < 0) (hN : x.toNatClampNeg = N) (hby : N * componentBytes .int ≤ 536870912) (hb : b + 1 ≤ bc) (hn : n + N ≤ bs) (k : ∀ (q : Nat) (g' : ev_H), g q = none → g' q = some (.inl (G.2.2.2 0, N, .inl (fun _ => 0))) → (∀ b, b ≠ q → g' b = g b) → ev_V G d b n M Post g' (pc + 2) lv (.ref q :: st)) : ev_V G d bc bs M Post g pc lv (.int x :: st) :=
  ev_newa_int hE hd hw hx hN hby hb hn (fun q hq => k q _ hq (ev_up_s _ _ _) (fun _ hb => ev_up_n _ _ hb))
theorem ev_newa2_long {b n N : Nat} {x : Int32} (hE : ev_En G) (hd : decode M.2.1 pc = .ok (.newarray .long, 2)) (hw : Cond.arrayClass .long ∈ ev_T) (hx : ¬ x < 0) (hN : x.toNatClampNeg = N) (hby : N * componentBytes .long ≤ 536870912) (hb : b + 1 ≤ bc) (hn : n + N ≤ bs) (k : ∀ (q : Nat) (g' : ev_H), g q = none → g' q = some (.inl (G.2.2.2 1, N, .inr (.inl (fun _ => 0)))) → (∀ b, b ≠ q → g' b = g b) → ev_V G d b n M Post g' (pc + 2) lv (.ref q :: st)) : ev_V G d bc bs M Post g pc lv (.int x :: st) :=
  ev_newa_long hE hd hw hx hN hby hb hn (fun q hq => k q _ hq (ev_up_s _ _ _) (fun _ hb => ev_up_n _ _ hb))
theorem ev_newg2 {index b n N D0 : Nat} {x : Int32} (hE : ev_En G) (h4 : ev_En4 G D0) (hd : decode M.2.1 pc = .ok (.anewarray index, 3)) (hl0 : Cond.classLink M.1.cls index "[I" ∈ ev_T) (hx : ¬ x < 0) (hN : x.toNatClampNeg = N) (hby : N * 4 ≤ 536870912) (hb : b + 1 ≤ bc) (hn : n + N ≤ bs) (k : ∀ (q : Nat) (g' : ev_H), g q = none → g' q = some (.inl (G.2.2.2 5, N, .inr (.inr (.inr (.inr (fun _ => none)))))) → (∀ b, b ≠ q → g' b = g b) → ev_V G d b n M Post g' (pc + 3) lv (.ref q :: st)) : ev_V G d bc bs M Post g pc lv (.int x :: st) :=
  ev_newg hE h4 hd hl0 hx hN hby hb hn (fun q hq => k q _ hq (ev_up_s _ _ _) (fun _ hb => ev_up_n _ _ hb))
theorem ev_iast2 {i x : Int32} {n a q : Nat} {f : Nat → Int32} (hE : ev_En G) (hd : decode M.2.1 pc = .ok (.iastore, 1)) (hg : g a = some (.inl (G.2.2.2 0, n, .inl f))) (hi : i = nI q) (hq : q < n) (hn : n < 2147483648) (k : ∀ g' : ev_H, g' a = some (.inl (G.2.2.2 0, n, .inl (upd f q x))) → (∀ b, b ≠ a → g' b = g b) → ev_V G d bc bs M Post g' (pc + 1) lv st) : ev_V G d bc bs M Post g pc lv (.int x :: .int i :: .ref a :: st) := by
  subst hi
  refine ev_iast hE hd hg (vp_in_nI hq hn) ?_
  rw [nI_clamp (by omega)]
  exact k _ (ev_up_s _ _ _) (fun _ hb => ev_up_n _ _ hb)
end RS
theorem c_X8_init {G : ev_G} {d D0 : Nat} {g0 : ev_H} {q : Nat} {x1 : Int32} (hE : ev_En G) (h4 : ev_En4 G D0) (hd : 1 ≤ d) (H_q : g0 q = some (.inr (9, [.int 0, .int 0]))) : ev_C G d 0 0 mX8_init [.ref q, .int x1] g0 (fun o g' => o = .inl none ∧ g' q = some (.inr (9, [.int x1, .int (-1)])) ∧ ∀ b e, b ≠ q → g0 b = some e → g' b = some e) := by
  refine ev_start (lv0 := [some (.ref q), some (.int x1)]) (by decide +kernel) rfl (Nat.le_of_ble_eq_true rfl) rfl ?_
  have HO : ∀ b e, b ≠ q → g0 b = some e → g0 b = some e := fun _ _ _ h => h
  refine ev_aload_n dX8_init_0 rfl rfl ?_
  refine ev_objI dX8_init_1 loX8 (Nat.le_of_ble_eq_true rfl) (by omega) ?_
  refine ev_aload_n dX8_init_4 rfl rfl ?_
  refine ev_iconst (v := (-1)) dX8_init_5 (by decide) ?_
  refine ev_put2 hE dX8_init_6 pX8_9 H_q (Nat.le_of_ble_eq_true rfl) rfl rfl (fun g k1 k2 => ?_)
  have H_q : g q = some (.inr (9, [.int 0, .int (-1)])) := k1
  have HO : ∀ b e, b ≠ q → g0 b = some e → g b = some e := fun b e hb h => (k2 b hb).trans (HO b e hb h)
  refine ev_aload_n dX8_init_9 rfl rfl ?_
  refine ev_iload_n dX8_init_10 rfl rfl ?_
  refine ev_putF2 hE rfl dX8_init_11 pX8_15 H_q (Nat.le_of_ble_eq_true rfl) rfl rfl (fun g k1 k2 => ?_)
  have H_q : g q = some (.inr (9, [.int x1, .int (-1)])) := k1
  have HO : ∀ b e, b ≠ q → g0 b = some e → g b = some e := fun b e hb h => (k2 b hb).trans (HO b e hb h)
  exact ev_vret dX8_init_14 rfl ⟨rfl, H_q, HO⟩
theorem c_X1_init {G : ev_G} {d D0 : Nat} {g0 : ev_H} {q : Nat}  (hE : ev_En G) (h4 : ev_En4 G D0) (hd : 1 ≤ d) (H_q : g0 q = some (.inr (2, [.int 0, .int 0, .int 0, .int 0, .int 0]))) : ev_C G d 0 0 mX1_init [.ref q] g0 (fun o g' => o = .inl none ∧ g' q = some (.inr (2, [.int 0, .int (-1), .int 0, .int (-1), .int (-1)])) ∧ ∀ b e, b ≠ q → g0 b = some e → g' b = some e) := by
  refine ev_start (lv0 := [some (.ref q)]) (by decide +kernel) rfl (Nat.le_of_ble_eq_true rfl) rfl ?_
  have HO : ∀ b e, b ≠ q → g0 b = some e → g0 b = some e := fun _ _ _ h => h
  refine ev_aload_n dX1_init_0 rfl rfl ?_
  refine ev_objI dX1_init_1 loX1 (Nat.le_of_ble_eq_true rfl) (by omega) ?_
  refine ev_aload_n dX1_init_4 rfl rfl ?_
  refine ev_iconst (v := 0) dX1_init_5 (by decide) ?_
  refine ev_put2 hE dX1_init_6 pX1_9 H_q (Nat.le_of_ble_eq_true rfl) rfl rfl (fun g k1 k2 => ?_)
  have H_q : g q = some (.inr (2, [.int 0, .int 0, .int 0, .int 0, .int 0])) := k1
  have HO : ∀ b e, b ≠ q → g0 b = some e → g b = some e := fun b e hb h => (k2 b hb).trans (HO b e hb h)
  refine ev_aload_n dX1_init_9 rfl rfl ?_
  refine ev_iconst (v := (-1)) dX1_init_10 (by decide) ?_
  refine ev_put2 hE dX1_init_11 pX1_15 H_q (Nat.le_of_ble_eq_true rfl) rfl rfl (fun g k1 k2 => ?_)
  have H_q : g q = some (.inr (2, [.int 0, .int (-1), .int 0, .int 0, .int 0])) := k1
  have HO : ∀ b e, b ≠ q → g0 b = some e → g b = some e := fun b e hb h => (k2 b hb).trans (HO b e hb h)
  refine ev_aload_n dX1_init_14 rfl rfl ?_
  refine ev_iconst (v := 0) dX1_init_15 (by decide) ?_
  refine ev_put2 hE dX1_init_16 pX1_18 H_q (Nat.le_of_ble_eq_true rfl) rfl rfl (fun g k1 k2 => ?_)
  have H_q : g q = some (.inr (2, [.int 0, .int (-1), .int 0, .int 0, .int 0])) := k1
  have HO : ∀ b e, b ≠ q → g0 b = some e → g b = some e := fun b e hb h => (k2 b hb).trans (HO b e hb h)
  refine ev_aload_n dX1_init_19 rfl rfl ?_
  refine ev_iconst (v := (-1)) dX1_init_20 (by decide) ?_
  refine ev_put2 hE dX1_init_21 pX1_21 H_q (Nat.le_of_ble_eq_true rfl) rfl rfl (fun g k1 k2 => ?_)
  have H_q : g q = some (.inr (2, [.int 0, .int (-1), .int 0, .int (-1), .int 0])) := k1
  have HO : ∀ b e, b ≠ q → g0 b = some e → g b = some e := fun b e hb h => (k2 b hb).trans (HO b e hb h)
  refine ev_aload_n dX1_init_24 rfl rfl ?_
  refine ev_iconst (v := (-1)) dX1_init_25 (by decide) ?_
  refine ev_put2 hE dX1_init_26 pX1_24 H_q (Nat.le_of_ble_eq_true rfl) rfl rfl (fun g k1 k2 => ?_)
  have H_q : g q = some (.inr (2, [.int 0, .int (-1), .int 0, .int (-1), .int (-1)])) := k1
  have HO : ∀ b e, b ≠ q → g0 b = some e → g b = some e := fun b e hb h => (k2 b hb).trans (HO b e hb h)
  exact ev_vret dX1_init_29 rfl ⟨rfl, H_q, HO⟩
theorem c_X9_init {G : ev_G} {d D0 : Nat} {g0 : ev_H} {q : Nat}  (hE : ev_En G) (h4 : ev_En4 G D0) (hd : 1 ≤ d) (H_q : g0 q = some (.inr (10, [.null, .null, .int 0]))) : ev_C G d 2 16 mX9_init [.ref q] g0 (fun o g' => o = .inl none ∧ ∃ a1 a2 : Nat, g' q = some (.inr (10, [.ref a1, .ref a2, .int 0])) ∧ (g0 a1 = none ∧ g' a1 = some (.inl (G.2.2.2 0, 8, .inl (fun _ => 0)))) ∧ (g0 a2 = none ∧ g' a2 = some (.inl (G.2.2.2 0, 8, .inl (fun _ => 0)))) ∧ a1 ≠ a2 ∧ ∀ b e, b ≠ q → g0 b = some e → g' b = some e) := by
  refine ev_start (lv0 := [some (.ref q)]) (by decide +kernel) rfl (Nat.le_of_ble_eq_true rfl) rfl ?_
  have HO : ∀ b e, b ≠ q → g0 b = some e → g0 b = some e := fun _ _ _ h => h
  refine ev_aload_n dX9_init_0 rfl rfl ?_
  refine ev_objI dX9_init_1 loX9 (Nat.le_of_ble_eq_true rfl) (by omega) ?_
  refine ev_aload_n dX9_init_4 rfl rfl ?_
  refine ev_bipush (v := 8) dX9_init_5 (by decide) ?_
  refine ev_newa2_int (N := 8) (b := 1) (n := 8) hE dX9_init_7 a_int (by decide) (by decide) (by decide) (by decide) (by decide) (fun a1 g k0 k1 k2 => ?_)
  have H_a1 : g a1 = some (.inl (G.2.2.2 0, 8, .inl (fun _ => 0))) := k1
  have N_q_a1 : q ≠ a1 := fun z => by rw [← z, H_q] at k0; cases k0
  have N_a1_q : a1 ≠ q := fun z => N_q_a1 z.symm
  have F_a1 : g0 a1 = none := by
    cases z : g0 a1 with
    | none => rfl
    | some e => rw [HO a1 e N_a1_q z] at k0; cases k0
  have H_q := (k2 _ N_q_a1).trans H_q
  have HO : ∀ b e, b ≠ q → g0 b = some e → g b = some e := fun b e hb h => (k2 b (fun z => by rw [z, F_a1] at h; cases h)).trans (HO b e hb h)
  refine ev_putF2 hE rfl dX9_init_9 pX9_11 H_q (Nat.le_of_ble_eq_true rfl) rfl rfl (fun g k1 k2 => ?_)
  have H_q : g q = some (.inr (10, [.ref a1, .null, .int 0])) := k1
  have H_a1 := (k2 _ N_a1_q).trans H_a1
  have HO : ∀ b e, b ≠ q → g0 b = some e → g b = some e := fun b e hb h => (k2 b hb).trans (HO b e hb h)
  refine ev_aload_n dX9_init_12 rfl rfl ?_
  refine ev_bipush (v := 8) dX9_init_13 (by decide) ?_
  refine ev_newa2_int (N := 8) (b := 0) (n := 0) hE dX9_init_15 a_int (by decide) (by decide) (by decide) (by decide) (by decide) (fun a2 g k0 k1 k2 => ?_)
  have H_a2 : g a2 = some (.inl (G.2.2.2 0, 8, .inl (fun _ => 0))) := k1
  have N_q_a2 : q ≠ a2 := fun z => by rw [← z, H_q] at k0; cases k0
  have N_a2_q : a2 ≠ q := fun z => N_q_a2 z.symm
  have N_a1_a2 : a1 ≠ a2 := fun z => by rw [← z, H_a1] at k0; cases k0
  have N_a2_a1 : a2 ≠ a1 := fun z => N_a1_a2 z.symm
  have F_a2 : g0 a2 = none := by
    cases z : g0 a2 with
    | none => rfl
    | some e => rw [HO a2 e N_a2_q z] at k0; cases k0
  have H_q := (k2 _ N_q_a2).trans H_q
  have H_a1 := (k2 _ N_a1_a2).trans H_a1
  have HO : ∀ b e, b ≠ q → g0 b = some e → g b = some e := fun b e hb h => (k2 b (fun z => by rw [z, F_a2] at h; cases h)).trans (HO b e hb h)
  refine ev_putF2 hE rfl dX9_init_17 pX9_15 H_q (Nat.le_of_ble_eq_true rfl) rfl rfl (fun g k1 k2 => ?_)
  have H_q : g q = some (.inr (10, [.ref a1, .ref a2, .int 0])) := k1
  have H_a1 := (k2 _ N_a1_q).trans H_a1
  have H_a2 := (k2 _ N_a2_q).trans H_a2
  have HO : ∀ b e, b ≠ q → g0 b = some e → g b = some e := fun b e hb h => (k2 b hb).trans (HO b e hb h)
  refine ev_aload_n dX9_init_20 rfl rfl ?_
  refine ev_iconst (v := 0) dX9_init_21 (by decide) ?_
  refine ev_put2 hE dX9_init_22 pX9_18 H_q (Nat.le_of_ble_eq_true rfl) rfl rfl (fun g k1 k2 => ?_)
  have H_q : g q = some (.inr (10, [.ref a1, .ref a2, .int 0])) := k1
  have H_a1 := (k2 _ N_a1_q).trans H_a1
  have H_a2 := (k2 _ N_a2_q).trans H_a2
  have HO : ∀ b e, b ≠ q → g0 b = some e → g b = some e := fun b e hb h => (k2 b hb).trans (HO b e hb h)
  exact ev_vret dX9_init_25 rfl ⟨rfl, a1, a2, H_q, ⟨F_a1, H_a1⟩, ⟨F_a2, H_a2⟩, N_a1_a2, HO⟩
theorem c_X5_init {G : ev_G} {d D0 : Nat} {g0 : ev_H} {q : Nat} {x1 : Int32} {x2 : Int32} {x3 : Int32} {x4 : Int32} {x5 : Int32} (hE : ev_En G) (h4 : ev_En4 G D0) (hd : 2 ≤ d) (H_q : g0 q = some (.inr (6, [.int 0, .int 0, .int 0, .int 0, .int 0, .int 0, .int 0, .int 0, .int 0, .int 0, .int 0, .int 0, .int 0, .null, .null, .null, .null]))) : ev_C G d 6 41 mX5_init [.ref q, .int x1, .int x2, .int x3, .int x4, .int x5] g0 (fun o g' => o = .inl none ∧ ∃ a1 a2 a3 a4 a5 a6 : Nat, g' q = some (.inr (6, [.int x1, .int x2, .int x3, .int x4, .int x5, .int 0, .int 0, .int 0, .int 0, .int 0, .int 0, .int 0, .int 0, .ref a1, .ref a2, .ref a3, .ref a4])) ∧ (g0 a1 = none ∧ g' a1 = some (.inl (G.2.2.2 0, 5, .inl (fun _ => 0)))) ∧ (g0 a2 = none ∧ g' a2 = some (.inl (G.2.2.2 0, 12, .inl (fun _ => 0)))) ∧ (g0 a3 = none ∧ g' a3 = some (.inr (2, [.int 0, .int (-1), .int 0, .int (-1), .int (-1)]))) ∧ (g0 a4 = none ∧ g' a4 = some (.inr (10, [.ref a5, .ref a6, .int 0]))) ∧ (g0 a5 = none ∧ g' a5 = some (.inl (G.2.2.2 0, 8, .inl (fun _ => 0)))) ∧ (g0 a6 = none ∧ g' a6 = some (.inl (G.2.2.2 0, 8, .inl (fun _ => 0)))) ∧ a1 ≠ a2 ∧ a1 ≠ a3 ∧ a1 ≠ a4 ∧ a1 ≠ a5 ∧ a1 ≠ a6 ∧ a2 ≠ a3 ∧ a2 ≠ a4 ∧ a2 ≠ a5 ∧ a2 ≠ a6 ∧ a3 ≠ a4 ∧ a3 ≠ a5 ∧ a3 ≠ a6 ∧ a4 ≠ a5 ∧ a4 ≠ a6 ∧ a5 ≠ a6 ∧ ∀ b e, b ≠ q → g0 b = some e → g' b = some e) := by
  refine ev_start (lv0 := [some (.ref q), some (.int x1), some (.int x2), some (.int x3), some (.int x4), some (.int x5)]) (by decide +kernel) rfl (Nat.le_of_ble_eq_true rfl) rfl ?_
  have HO : ∀ b e, b ≠ q → g0 b = some e → g0 b = some e := fun _ _ _ h => h
  refine ev_aload_n dX5_init_0 rfl rfl ?_
  refine ev_objI dX5_init_1 loX5 (Nat.le_of_ble_eq_true rfl) (by omega) ?_
  refine ev_aload_n dX5_init_4 rfl rfl ?_
  refine ev_iconst (v := 0) dX5_init_5 (by decide) ?_
  refine ev_put2 hE dX5_init_6 pX5_9 H_q (Nat.le_of_ble_eq_true rfl) rfl rfl (fun g k1 k2 => ?_)
  have H_q : g q = some (.inr (6, [.int 0, .int 0, .int 0, .int 0, .int 0, .int 0, .int 0, .int 0, .int 0, .int 0, .int 0, .int 0, .int 0, .null, .null, .null, .null])) := k1
  have HO : ∀ b e, b ≠ q → g0 b = some e → g b = some e := fun b e hb h => (k2 b hb).trans (HO b e hb h)
  refine ev_aload_n dX5_init_9 rfl rfl ?_
  refine ev_iconst (v := 0) dX5_init_10 (by decide) ?_
  refine ev_put2 hE dX5_init_11 pX5_15 H_q (Nat.le_of_ble_eq_true rfl) rfl rfl (fun g k1 k2 => ?_)
  have H_q : g q = some (.inr (6, [.int 0, .int 0, .int 0, .int 0, .int 0, .int 0, .int 0, .int 0, .int 0, .int 0, .int 0, .int 0, .int 0, .null, .null, .null, .null])) := k1
  have HO : ∀ b e, b ≠ q → g0 b = some e → g b = some e := fun b e hb h => (k2 b hb).trans (HO b e hb h)
  refine ev_aload_n dX5_init_14 rfl rfl ?_
  refine ev_iconst (v := 0) dX5_init_15 (by decide) ?_
  refine ev_put2 hE dX5_init_16 pX5_18 H_q (Nat.le_of_ble_eq_true rfl) rfl rfl (fun g k1 k2 => ?_)
  have H_q : g q = some (.inr (6, [.int 0, .int 0, .int 0, .int 0, .int 0, .int 0, .int 0, .int 0, .int 0, .int 0, .int 0, .int 0, .int 0, .null, .null, .null, .null])) := k1
  have HO : ∀ b e, b ≠ q → g0 b = some e → g b = some e := fun b e hb h => (k2 b hb).trans (HO b e hb h)
  refine ev_aload_n dX5_init_19 rfl rfl ?_
  refine ev_iconst (v := 0) dX5_init_20 (by decide) ?_
  refine ev_put2 hE dX5_init_21 pX5_21 H_q (Nat.le_of_ble_eq_true rfl) rfl rfl (fun g k1 k2 => ?_)
  have H_q : g q = some (.inr (6, [.int 0, .int 0, .int 0, .int 0, .int 0, .int 0, .int 0, .int 0, .int 0, .int 0, .int 0, .int 0, .int 0, .null, .null, .null, .null])) := k1
  have HO : ∀ b e, b ≠ q → g0 b = some e → g b = some e := fun b e hb h => (k2 b hb).trans (HO b e hb h)
  refine ev_aload_n dX5_init_24 rfl rfl ?_
  refine ev_iconst (v := 0) dX5_init_25 (by decide) ?_
  refine ev_put2 hE dX5_init_26 pX5_24 H_q (Nat.le_of_ble_eq_true rfl) rfl rfl (fun g k1 k2 => ?_)
  have H_q : g q = some (.inr (6, [.int 0, .int 0, .int 0, .int 0, .int 0, .int 0, .int 0, .int 0, .int 0, .int 0, .int 0, .int 0, .int 0, .null, .null, .null, .null])) := k1
  have HO : ∀ b e, b ≠ q → g0 b = some e → g b = some e := fun b e hb h => (k2 b hb).trans (HO b e hb h)
  refine ev_aload_n dX5_init_29 rfl rfl ?_
  refine ev_iconst (v := 0) dX5_init_30 (by decide) ?_
  refine ev_put2 hE dX5_init_31 pX5_27 H_q (Nat.le_of_ble_eq_true rfl) rfl rfl (fun g k1 k2 => ?_)
  have H_q : g q = some (.inr (6, [.int 0, .int 0, .int 0, .int 0, .int 0, .int 0, .int 0, .int 0, .int 0, .int 0, .int 0, .int 0, .int 0, .null, .null, .null, .null])) := k1
  have HO : ∀ b e, b ≠ q → g0 b = some e → g b = some e := fun b e hb h => (k2 b hb).trans (HO b e hb h)
  refine ev_aload_n dX5_init_34 rfl rfl ?_
  refine ev_iconst (v := 0) dX5_init_35 (by decide) ?_
  refine ev_put2 hE dX5_init_36 pX5_30 H_q (Nat.le_of_ble_eq_true rfl) rfl rfl (fun g k1 k2 => ?_)
  have H_q : g q = some (.inr (6, [.int 0, .int 0, .int 0, .int 0, .int 0, .int 0, .int 0, .int 0, .int 0, .int 0, .int 0, .int 0, .int 0, .null, .null, .null, .null])) := k1
  have HO : ∀ b e, b ≠ q → g0 b = some e → g b = some e := fun b e hb h => (k2 b hb).trans (HO b e hb h)
  refine ev_aload_n dX5_init_39 rfl rfl ?_
  refine ev_iconst (v := 0) dX5_init_40 (by decide) ?_
  refine ev_put2 hE dX5_init_41 pX5_33 H_q (Nat.le_of_ble_eq_true rfl) rfl rfl (fun g k1 k2 => ?_)
  have H_q : g q = some (.inr (6, [.int 0, .int 0, .int 0, .int 0, .int 0, .int 0, .int 0, .int 0, .int 0, .int 0, .int 0, .int 0, .int 0, .null, .null, .null, .null])) := k1
  have HO : ∀ b e, b ≠ q → g0 b = some e → g b = some e := fun b e hb h => (k2 b hb).trans (HO b e hb h)
  refine ev_aload_n dX5_init_44 rfl rfl ?_
  refine ev_iconst (v := 5) dX5_init_45 (by decide) ?_
  refine ev_newa2_int (N := 5) (b := 5) (n := 36) hE dX5_init_46 a_int (by decide) (by decide) (by decide) (by decide) (by decide) (fun a1 g k0 k1 k2 => ?_)
  have H_a1 : g a1 = some (.inl (G.2.2.2 0, 5, .inl (fun _ => 0))) := k1
  have N_q_a1 : q ≠ a1 := fun z => by rw [← z, H_q] at k0; cases k0
  have N_a1_q : a1 ≠ q := fun z => N_q_a1 z.symm
  have F_a1 : g0 a1 = none := by
    cases z : g0 a1 with
    | none => rfl
    | some e => rw [HO a1 e N_a1_q z] at k0; cases k0
  have H_q := (k2 _ N_q_a1).trans H_q
  have HO : ∀ b e, b ≠ q → g0 b = some e → g b = some e := fun b e hb h => (k2 b (fun z => by rw [z, F_a1] at h; cases h)).trans (HO b e hb h)
  refine ev_putF2 hE rfl dX5_init_48 pX5_36 H_q (Nat.le_of_ble_eq_true rfl) rfl rfl (fun g k1 k2 => ?_)
  have H_q : g q = some (.inr (6, [.int 0, .int 0, .int 0, .int 0, .int 0, .int 0, .int 0, .int 0, .int 0, .int 0, .int 0, .int 0, .int 0, .ref a1, .null, .null, .null])) := k1
  have H_a1 := (k2 _ N_a1_q).trans H_a1
  have HO : ∀ b e, b ≠ q → g0 b = some e → g b = some e := fun b e hb h => (k2 b hb).trans (HO b e hb h)
  refine ev_aload_n dX5_init_51 rfl rfl ?_
  refine ev_bipush (v := 12) dX5_init_52 (by decide) ?_
  refine ev_newa2_int (N := 12) (b := 4) (n := 24) hE dX5_init_54 a_int (by decide) (by decide) (by decide) (by decide) (by decide) (fun a2 g k0 k1 k2 => ?_)
  have H_a2 : g a2 = some (.inl (G.2.2.2 0, 12, .inl (fun _ => 0))) := k1
  have N_q_a2 : q ≠ a2 := fun z => by rw [← z, H_q] at k0; cases k0
  have N_a2_q : a2 ≠ q := fun z => N_q_a2 z.symm
  have N_a1_a2 : a1 ≠ a2 := fun z => by rw [← z, H_a1] at k0; cases k0
  have N_a2_a1 : a2 ≠ a1 := fun z => N_a1_a2 z.symm
  have F_a2 : g0 a2 = none := by
    cases z : g0 a2 with
    | none => rfl
    | some e => rw [HO a2 e N_a2_q z] at k0; cases k0
  have H_q := (k2 _ N_q_a2).trans H_q
  have H_a1 := (k2 _ N_a1_a2).trans H_a1
  have HO : ∀ b e, b ≠ q → g0 b = some e → g b = some e := fun b e hb h => (k2 b (fun z => by rw [z, F_a2] at h; cases h)).trans (HO b e hb h)
  refine ev_putF2 hE rfl dX5_init_56 pX5_40 H_q (Nat.le_of_ble_eq_true rfl) rfl rfl (fun g k1 k2 => ?_)
  have H_q : g q = some (.inr (6, [.int 0, .int 0, .int 0, .int 0, .int 0, .int 0, .int 0, .int 0, .int 0, .int 0, .int 0, .int 0, .int 0, .ref a1, .ref a2, .null, .null])) := k1
  have H_a1 := (k2 _ N_a1_q).trans H_a1
  have H_a2 := (k2 _ N_a2_q).trans H_a2
  have HO : ∀ b e, b ≠ q → g0 b = some e → g b = some e := fun b e hb h => (k2 b hb).trans (HO b e hb h)
  refine ev_aload_n dX5_init_59 rfl rfl ?_
  refine ev_new2 (b := 3) (n := 19) hE dX5_init_60 wX5_43 (by decide) (by decide) (fun a3 g k0 k1 k2 => ?_)
  have H_a3 : g a3 = some (.inr (2, [.int 0, .int 0, .int 0, .int 0, .int 0])) := k1
  have N_q_a3 : q ≠ a3 := fun z => by rw [← z, H_q] at k0; cases k0
  have N_a3_q : a3 ≠ q := fun z => N_q_a3 z.symm
  have N_a1_a3 : a1 ≠ a3 := fun z => by rw [← z, H_a1] at k0; cases k0
  have N_a3_a1 : a3 ≠ a1 := fun z => N_a1_a3 z.symm
  have N_a2_a3 : a2 ≠ a3 := fun z => by rw [← z, H_a2] at k0; cases k0
  have N_a3_a2 : a3 ≠ a2 := fun z => N_a2_a3 z.symm
  have F_a3 : g0 a3 = none := by
    cases z : g0 a3 with
    | none => rfl
    | some e => rw [HO a3 e N_a3_q z] at k0; cases k0
  have H_q := (k2 _ N_q_a3).trans H_q
  have H_a1 := (k2 _ N_a1_a3).trans H_a1
  have H_a2 := (k2 _ N_a2_a3).trans H_a2
  have HO : ∀ b e, b ≠ q → g0 b = some e → g b = some e := fun b e hb h => (k2 b (fun z => by rw [z, F_a3] at h; cases h)).trans (HO b e hb h)
  refine ev_dup dX5_init_63 rfl ?_
  refine ev_callIN (d' := d - 1) (b := 3) (k0 := 19) (As := []) h4 dX5_init_64 rfl rfl kX1_init rfl rfl (by decide +kernel) iX1_init (Nat.le_of_ble_eq_true rfl) (by omega) (c_X1_init (d := d - 1) hE h4 (by omega) H_a3) (by decide) (by decide) (fun v g h => ?_) (fun E g h => by cases h.1)
  obtain ⟨h1, H9, KO⟩ := h
  cases h1
  have H_q := KO _ _ N_q_a3 H_q
  have H_a1 := KO _ _ N_a1_a3 H_a1
  have H_a2 := KO _ _ N_a2_a3 H_a2
  have H_a3 : g a3 = some (.inr (2, [.int 0, .int (-1), .int 0, .int (-1), .int (-1)])) := H9
  have HO : ∀ b e, b ≠ q → g0 b = some e → g b = some e := fun b e hb h => KO b e (fun y => by rw [y, F_a3] at h; cases h) (HO b e hb h)
  refine ev_putF2 hE rfl dX5_init_67 pX5_46 H_q (Nat.le_of_ble_eq_true rfl) rfl rfl (fun g k1 k2 => ?_)
  have H_q : g q = some (.inr (6, [.int 0, .int 0, .int 0, .int 0, .int 0, .int 0, .int 0, .int 0, .int 0, .int 0, .int 0, .int 0, .int 0, .ref a1, .ref a2, .ref a3, .null])) := k1
  have H_a1 := (k2 _ N_a1_q).trans H_a1
  have H_a2 := (k2 _ N_a2_q).trans H_a2
  have H_a3 := (k2 _ N_a3_q).trans H_a3
  have HO : ∀ b e, b ≠ q → g0 b = some e → g b = some e := fun b e hb h => (k2 b hb).trans (HO b e hb h)
  refine ev_aload_n dX5_init_70 rfl rfl ?_
  refine ev_new2 (b := 2) (n := 16) hE dX5_init_71 wX5_50 (by decide) (by decide) (fun a4 g k0 k1 k2 => ?_)
  have H_a4 : g a4 = some (.inr (10, [.null, .null, .int 0])) := k1
  have N_q_a4 : q ≠ a4 := fun z => by rw [← z, H_q] at k0; cases k0
  have N_a4_q : a4 ≠ q := fun z => N_q_a4 z.symm
  have N_a1_a4 : a1 ≠ a4 := fun z => by rw [← z, H_a1] at k0; cases k0
  have N_a4_a1 : a4 ≠ a1 := fun z => N_a1_a4 z.symm
  have N_a2_a4 : a2 ≠ a4 := fun z => by rw [← z, H_a2] at k0; cases k0
  have N_a4_a2 : a4 ≠ a2 := fun z => N_a2_a4 z.symm
  have N_a3_a4 : a3 ≠ a4 := fun z => by rw [← z, H_a3] at k0; cases k0
  have N_a4_a3 : a4 ≠ a3 := fun z => N_a3_a4 z.symm
  have F_a4 : g0 a4 = none := by
    cases z : g0 a4 with
    | none => rfl
    | some e => rw [HO a4 e N_a4_q z] at k0; cases k0
  have H_q := (k2 _ N_q_a4).trans H_q
  have H_a1 := (k2 _ N_a1_a4).trans H_a1
  have H_a2 := (k2 _ N_a2_a4).trans H_a2
  have H_a3 := (k2 _ N_a3_a4).trans H_a3
  have HO : ∀ b e, b ≠ q → g0 b = some e → g b = some e := fun b e hb h => (k2 b (fun z => by rw [z, F_a4] at h; cases h)).trans (HO b e hb h)
  refine ev_dup dX5_init_74 rfl ?_
  refine ev_callIN (d' := d - 1) (b := 0) (k0 := 0) (As := []) h4 dX5_init_75 rfl rfl kX9_init rfl rfl (by decide +kernel) iX9_init (Nat.le_of_ble_eq_true rfl) (by omega) (c_X9_init (d := d - 1) hE h4 (by omega) H_a4) (by decide) (by decide) (fun v g h => ?_) (fun E g h => by cases h.1)
  obtain ⟨h1, a5, a6, H9, ⟨FF_a5, HH_a5⟩, ⟨FF_a6, HH_a6⟩, NN_a5_a6, KO⟩ := h
  cases h1
  have N_q_a5 : q ≠ a5 := fun y => by rw [← y, H_q] at FF_a5; cases FF_a5
  have N_a5_q : a5 ≠ q := fun y => N_q_a5 y.symm
  have N_a1_a5 : a1 ≠ a5 := fun y => by rw [← y, H_a1] at FF_a5; cases FF_a5
  have N_a5_a1 : a5 ≠ a1 := fun y => N_a1_a5 y.symm
  have N_a2_a5 : a2 ≠ a5 := fun y => by rw [← y, H_a2] at FF_a5; cases FF_a5
  have N_a5_a2 : a5 ≠ a2 := fun y => N_a2_a5 y.symm
  have N_a3_a5 : a3 ≠ a5 := fun y => by rw [← y, H_a3] at FF_a5; cases FF_a5
  have N_a5_a3 : a5 ≠ a3 := fun y => N_a3_a5 y.symm
  have N_a4_a5 : a4 ≠ a5 := fun y => by rw [← y, H_a4] at FF_a5; cases FF_a5
  have N_a5_a4 : a5 ≠ a4 := fun y => N_a4_a5 y.symm
  have F_a5 : g0 a5 = none := by
    cases y : g0 a5 with
    | none => rfl
    | some e => rw [HO a5 e N_a5_q y] at FF_a5; cases FF_a5
  have N_q_a6 : q ≠ a6 := fun y => by rw [← y, H_q] at FF_a6; cases FF_a6
  have N_a6_q : a6 ≠ q := fun y => N_q_a6 y.symm
  have N_a1_a6 : a1 ≠ a6 := fun y => by rw [← y, H_a1] at FF_a6; cases FF_a6
  have N_a6_a1 : a6 ≠ a1 := fun y => N_a1_a6 y.symm
  have N_a2_a6 : a2 ≠ a6 := fun y => by rw [← y, H_a2] at FF_a6; cases FF_a6
  have N_a6_a2 : a6 ≠ a2 := fun y => N_a2_a6 y.symm
  have N_a3_a6 : a3 ≠ a6 := fun y => by rw [← y, H_a3] at FF_a6; cases FF_a6
  have N_a6_a3 : a6 ≠ a3 := fun y => N_a3_a6 y.symm
  have N_a4_a6 : a4 ≠ a6 := fun y => by rw [← y, H_a4] at FF_a6; cases FF_a6
  have N_a6_a4 : a6 ≠ a4 := fun y => N_a4_a6 y.symm
  have F_a6 : g0 a6 = none := by
    cases y : g0 a6 with
    | none => rfl
    | some e => rw [HO a6 e N_a6_q y] at FF_a6; cases FF_a6
  have N_a5_a6 := NN_a5_a6
  have N_a6_a5 : a6 ≠ a5 := fun y => NN_a5_a6 y.symm
  have H_q := KO _ _ N_q_a4 H_q
  have H_a1 := KO _ _ N_a1_a4 H_a1
  have H_a2 := KO _ _ N_a2_a4 H_a2
  have H_a3 := KO _ _ N_a3_a4 H_a3
  have H_a4 : g a4 = some (.inr (10, [.ref a5, .ref a6, .int 0])) := H9
  have HO : ∀ b e, b ≠ q → g0 b = some e → g b = some e := fun b e hb h => KO b e (fun y => by rw [y, F_a4] at h; cases h) (HO b e hb h)
  have H_a5 : g a5 = some (.inl (G.2.2.2 0, 8, .inl (fun _ => 0))) := HH_a5
  have H_a6 : g a6 = some (.inl (G.2.2.2 0, 8, .inl (fun _ => 0))) := HH_a6
  refine ev_putF2 hE rfl dX5_init_78 pX5_53 H_q (Nat.le_of_ble_eq_true rfl) rfl rfl (fun g k1 k2 => ?_)
  have H_q : g q = some (.inr (6, [.int 0, .int 0, .int 0, .int 0, .int 0, .int 0, .int 0, .int 0, .int 0, .int 0, .int 0, .int 0, .int 0, .ref a1, .ref a2, .ref a3, .ref a4])) := k1
  have H_a1 := (k2 _ N_a1_q).trans H_a1
  have H_a2 := (k2 _ N_a2_q).trans H_a2
  have H_a3 := (k2 _ N_a3_q).trans H_a3
  have H_a4 := (k2 _ N_a4_q).trans H_a4
  have H_a5 := (k2 _ N_a5_q).trans H_a5
  have H_a6 := (k2 _ N_a6_q).trans H_a6
  have HO : ∀ b e, b ≠ q → g0 b = some e → g b = some e := fun b e hb h => (k2 b hb).trans (HO b e hb h)
  refine ev_aload_n dX5_init_81 rfl rfl ?_
  refine ev_iload_n dX5_init_82 rfl rfl ?_
  refine ev_putF2 hE rfl dX5_init_83 pX5_57 H_q (Nat.le_of_ble_eq_true rfl) rfl rfl (fun g k1 k2 => ?_)
  have H_q : g q = some (.inr (6, [.int x1, .int 0, .int 0, .int 0, .int 0, .int 0, .int 0, .int 0, .int 0, .int 0, .int 0, .int 0, .int 0, .ref a1, .ref a2, .ref a3, .ref a4])) := k1
  have H_a1 := (k2 _ N_a1_q).trans H_a1
  have H_a2 := (k2 _ N_a2_q).trans H_a2
  have H_a3 := (k2 _ N_a3_q).trans H_a3
  have H_a4 := (k2 _ N_a4_q).trans H_a4
  have H_a5 := (k2 _ N_a5_q).trans H_a5
  have H_a6 := (k2 _ N_a6_q).trans H_a6
  have HO : ∀ b e, b ≠ q → g0 b = some e → g b = some e := fun b e hb h => (k2 b hb).trans (HO b e hb h)
  refine ev_aload_n dX5_init_86 rfl rfl ?_
  refine ev_iload_n dX5_init_87 rfl rfl ?_
  refine ev_put2 hE dX5_init_88 pX5_60 H_q (Nat.le_of_ble_eq_true rfl) rfl rfl (fun g k1 k2 => ?_)
  have H_q : g q = some (.inr (6, [.int x1, .int x2, .int 0, .int 0, .int 0, .int 0, .int 0, .int 0, .int 0, .int 0, .int 0, .int 0, .int 0, .ref a1, .ref a2, .ref a3, .ref a4])) := k1
  have H_a1 := (k2 _ N_a1_q).trans H_a1
  have H_a2 := (k2 _ N_a2_q).trans H_a2
  have H_a3 := (k2 _ N_a3_q).trans H_a3
  have H_a4 := (k2 _ N_a4_q).trans H_a4
  have H_a5 := (k2 _ N_a5_q).trans H_a5
  have H_a6 := (k2 _ N_a6_q).trans H_a6
  have HO : ∀ b e, b ≠ q → g0 b = some e → g b = some e := fun b e hb h => (k2 b hb).trans (HO b e hb h)
  refine ev_aload_n dX5_init_91 rfl rfl ?_
  refine ev_iload_n dX5_init_92 rfl rfl ?_
  refine ev_put2 hE dX5_init_93 pX5_63 H_q (Nat.le_of_ble_eq_true rfl) rfl rfl (fun g k1 k2 => ?_)
  have H_q : g q = some (.inr (6, [.int x1, .int x2, .int x3, .int 0, .int 0, .int 0, .int 0, .int 0, .int 0, .int 0, .int 0, .int 0, .int 0, .ref a1, .ref a2, .ref a3, .ref a4])) := k1
  have H_a1 := (k2 _ N_a1_q).trans H_a1
  have H_a2 := (k2 _ N_a2_q).trans H_a2
  have H_a3 := (k2 _ N_a3_q).trans H_a3
  have H_a4 := (k2 _ N_a4_q).trans H_a4
  have H_a5 := (k2 _ N_a5_q).trans H_a5
  have H_a6 := (k2 _ N_a6_q).trans H_a6
  have HO : ∀ b e, b ≠ q → g0 b = some e → g b = some e := fun b e hb h => (k2 b hb).trans (HO b e hb h)
  refine ev_aload_n dX5_init_96 rfl rfl ?_
  refine ev_iload dX5_init_97 rfl ?_
  refine ev_put2 hE dX5_init_99 pX5_66 H_q (Nat.le_of_ble_eq_true rfl) rfl rfl (fun g k1 k2 => ?_)
  have H_q : g q = some (.inr (6, [.int x1, .int x2, .int x3, .int x4, .int 0, .int 0, .int 0, .int 0, .int 0, .int 0, .int 0, .int 0, .int 0, .ref a1, .ref a2, .ref a3, .ref a4])) := k1
  have H_a1 := (k2 _ N_a1_q).trans H_a1
  have H_a2 := (k2 _ N_a2_q).trans H_a2
  have H_a3 := (k2 _ N_a3_q).trans H_a3
  have H_a4 := (k2 _ N_a4_q).trans H_a4
  have H_a5 := (k2 _ N_a5_q).trans H_a5
  have H_a6 := (k2 _ N_a6_q).trans H_a6
  have HO : ∀ b e, b ≠ q → g0 b = some e → g b = some e := fun b e hb h => (k2 b hb).trans (HO b e hb h)
  refine ev_aload_n dX5_init_102 rfl rfl ?_
  refine ev_iload dX5_init_103 rfl ?_
  refine ev_put2 hE dX5_init_105 pX5_69 H_q (Nat.le_of_ble_eq_true rfl) rfl rfl (fun g k1 k2 => ?_)
  have H_q : g q = some (.inr (6, [.int x1, .int x2, .int x3, .int x4, .int x5, .int 0, .int 0, .int 0, .int 0, .int 0, .int 0, .int 0, .int 0, .ref a1, .ref a2, .ref a3, .ref a4])) := k1
  have H_a1 := (k2 _ N_a1_q).trans H_a1
  have H_a2 := (k2 _ N_a2_q).trans H_a2
  have H_a3 := (k2 _ N_a3_q).trans H_a3
  have H_a4 := (k2 _ N_a4_q).trans H_a4
  have H_a5 := (k2 _ N_a5_q).trans H_a5
  have H_a6 := (k2 _ N_a6_q).trans H_a6
  have HO : ∀ b e, b ≠ q → g0 b = some e → g b = some e := fun b e hb h => (k2 b hb).trans (HO b e hb h)
  exact ev_vret dX5_init_108 rfl ⟨rfl, a1, a2, a3, a4, a5, a6, H_q, ⟨F_a1, H_a1⟩, ⟨F_a2, H_a2⟩, ⟨F_a3, H_a3⟩, ⟨F_a4, H_a4⟩, ⟨F_a5, H_a5⟩, ⟨F_a6, H_a6⟩, N_a1_a2, N_a1_a3, N_a1_a4, N_a1_a5, N_a1_a6, N_a2_a3, N_a2_a4, N_a2_a5, N_a2_a6, N_a3_a4, N_a3_a5, N_a3_a6, N_a4_a5, N_a4_a6, N_a5_a6, HO⟩
theorem c_X10_init {G : ev_G} {d D0 : Nat} {g0 : ev_H} {q : Nat}  (hE : ev_En G) (h4 : ev_En4 G D0) (hd : 1 ≤ d) (H_q : g0 q = some (.inr (11, [.null]))) : ev_C G d 1 64 mX10_init [.ref q] g0 (fun o g' => o = .inl none ∧ ∃ a1 : Nat, g' q = some (.inr (11, [.ref a1])) ∧ (g0 a1 = none ∧ g' a1 = some (.inl (G.2.2.2 0, 64, .inl (fun _ => 0)))) ∧ ∀ b e, b ≠ q → g0 b = some e → g' b = some e) := by
  refine ev_start (lv0 := [some (.ref q)]) (by decide +kernel) rfl (Nat.le_of_ble_eq_true rfl) rfl ?_
  have HO : ∀ b e, b ≠ q → g0 b = some e → g0 b = some e := fun _ _ _ h => h
  refine ev_aload_n dX10_init_0 rfl rfl ?_
  refine ev_objI dX10_init_1 loX10 (Nat.le_of_ble_eq_true rfl) (by omega) ?_
  refine ev_aload_n dX10_init_4 rfl rfl ?_
  refine ev_bipush (v := 64) dX10_init_5 (by decide) ?_
  refine ev_newa2_int (N := 64) (b := 0) (n := 0) hE dX10_init_7 a_int (by decide) (by decide) (by decide) (by decide) (by decide) (fun a1 g k0 k1 k2 => ?_)
  have H_a1 : g a1 = some (.inl (G.2.2.2 0, 64, .inl (fun _ => 0))) := k1
  have N_q_a1 : q ≠ a1 := fun z => by rw [← z, H_q] at k0; cases k0
  have N_a1_q : a1 ≠ q := fun z => N_q_a1 z.symm
  have F_a1 : g0 a1 = none := by
    cases z : g0 a1 with
    | none => rfl
    | some e => rw [HO a1 e N_a1_q z] at k0; cases k0
  have H_q := (k2 _ N_q_a1).trans H_q
  have HO : ∀ b e, b ≠ q → g0 b = some e → g b = some e := fun b e hb h => (k2 b (fun z => by rw [z, F_a1] at h; cases h)).trans (HO b e hb h)
  refine ev_putF2 hE rfl dX10_init_9 pX10_9 H_q (Nat.le_of_ble_eq_true rfl) rfl rfl (fun g k1 k2 => ?_)
  have H_q : g q = some (.inr (11, [.ref a1])) := k1
  have H_a1 := (k2 _ N_a1_q).trans H_a1
  have HO : ∀ b e, b ≠ q → g0 b = some e → g b = some e := fun b e hb h => (k2 b hb).trans (HO b e hb h)
  exact ev_vret dX10_init_12 rfl ⟨rfl, a1, H_q, ⟨F_a1, H_a1⟩, HO⟩
theorem c_X6_init {G : ev_G} {d D0 : Nat} {g0 : ev_H} {q : Nat}  (hE : ev_En G) (h4 : ev_En4 G D0) (hd : 1 ≤ d) (H_q : g0 q = some (.inr (7, [.null, .null, .null]))) : ev_C G d 3 36 mX6_init [.ref q] g0 (fun o g' => o = .inl none ∧ ∃ a1 a2 a3 : Nat, g' q = some (.inr (7, [.ref a1, .ref a2, .ref a3])) ∧ (g0 a1 = none ∧ g' a1 = some (.inl (G.2.2.2 0, 12, .inl (fun _ => 0)))) ∧ (g0 a2 = none ∧ g' a2 = some (.inl (G.2.2.2 0, 12, .inl (fun _ => 0)))) ∧ (g0 a3 = none ∧ g' a3 = some (.inl (G.2.2.2 1, 12, .inr (.inl (fun _ => 0))))) ∧ a1 ≠ a2 ∧ a1 ≠ a3 ∧ a2 ≠ a3 ∧ ∀ b e, b ≠ q → g0 b = some e → g' b = some e) := by
  refine ev_start (lv0 := [some (.ref q)]) (by decide +kernel) rfl (Nat.le_of_ble_eq_true rfl) rfl ?_
  have HO : ∀ b e, b ≠ q → g0 b = some e → g0 b = some e := fun _ _ _ h => h
  refine ev_aload_n dX6_init_0 rfl rfl ?_
  refine ev_objI dX6_init_1 loX6 (Nat.le_of_ble_eq_true rfl) (by omega) ?_
  refine ev_aload_n dX6_init_4 rfl rfl ?_
  refine ev_bipush (v := 12) dX6_init_5 (by decide) ?_
  refine ev_newa2_int (N := 12) (b := 2) (n := 24) hE dX6_init_7 a_int (by decide) (by decide) (by decide) (by decide) (by decide) (fun a1 g k0 k1 k2 => ?_)
  have H_a1 : g a1 = some (.inl (G.2.2.2 0, 12, .inl (fun _ => 0))) := k1
  have N_q_a1 : q ≠ a1 := fun z => by rw [← z, H_q] at k0; cases k0
  have N_a1_q : a1 ≠ q := fun z => N_q_a1 z.symm
  have F_a1 : g0 a1 = none := by
    cases z : g0 a1 with
    | none => rfl
    | some e => rw [HO a1 e N_a1_q z] at k0; cases k0
  have H_q := (k2 _ N_q_a1).trans H_q
  have HO : ∀ b e, b ≠ q → g0 b = some e → g b = some e := fun b e hb h => (k2 b (fun z => by rw [z, F_a1] at h; cases h)).trans (HO b e hb h)
  refine ev_putF2 hE rfl dX6_init_9 pX6_9 H_q (Nat.le_of_ble_eq_true rfl) rfl rfl (fun g k1 k2 => ?_)
  have H_q : g q = some (.inr (7, [.ref a1, .null, .null])) := k1
  have H_a1 := (k2 _ N_a1_q).trans H_a1
  have HO : ∀ b e, b ≠ q → g0 b = some e → g b = some e := fun b e hb h => (k2 b hb).trans (HO b e hb h)
  refine ev_aload_n dX6_init_12 rfl rfl ?_
  refine ev_bipush (v := 12) dX6_init_13 (by decide) ?_
  refine ev_newa2_int (N := 12) (b := 1) (n := 12) hE dX6_init_15 a_int (by decide) (by decide) (by decide) (by decide) (by decide) (fun a2 g k0 k1 k2 => ?_)
  have H_a2 : g a2 = some (.inl (G.2.2.2 0, 12, .inl (fun _ => 0))) := k1
  have N_q_a2 : q ≠ a2 := fun z => by rw [← z, H_q] at k0; cases k0
  have N_a2_q : a2 ≠ q := fun z => N_q_a2 z.symm
  have N_a1_a2 : a1 ≠ a2 := fun z => by rw [← z, H_a1] at k0; cases k0
  have N_a2_a1 : a2 ≠ a1 := fun z => N_a1_a2 z.symm
  have F_a2 : g0 a2 = none := by
    cases z : g0 a2 with
    | none => rfl
    | some e => rw [HO a2 e N_a2_q z] at k0; cases k0
  have H_q := (k2 _ N_q_a2).trans H_q
  have H_a1 := (k2 _ N_a1_a2).trans H_a1
  have HO : ∀ b e, b ≠ q → g0 b = some e → g b = some e := fun b e hb h => (k2 b (fun z => by rw [z, F_a2] at h; cases h)).trans (HO b e hb h)
  refine ev_putF2 hE rfl dX6_init_17 pX6_15 H_q (Nat.le_of_ble_eq_true rfl) rfl rfl (fun g k1 k2 => ?_)
  have H_q : g q = some (.inr (7, [.ref a1, .ref a2, .null])) := k1
  have H_a1 := (k2 _ N_a1_q).trans H_a1
  have H_a2 := (k2 _ N_a2_q).trans H_a2
  have HO : ∀ b e, b ≠ q → g0 b = some e → g b = some e := fun b e hb h => (k2 b hb).trans (HO b e hb h)
  refine ev_aload_n dX6_init_20 rfl rfl ?_
  refine ev_bipush (v := 12) dX6_init_21 (by decide) ?_
  refine ev_newa2_long (N := 12) (b := 0) (n := 0) hE dX6_init_23 a_long (by decide) (by decide) (by decide) (by decide) (by decide) (fun a3 g k0 k1 k2 => ?_)
  have H_a3 : g a3 = some (.inl (G.2.2.2 1, 12, .inr (.inl (fun _ => 0)))) := k1
  have N_q_a3 : q ≠ a3 := fun z => by rw [← z, H_q] at k0; cases k0
  have N_a3_q : a3 ≠ q := fun z => N_q_a3 z.symm
  have N_a1_a3 : a1 ≠ a3 := fun z => by rw [← z, H_a1] at k0; cases k0
  have N_a3_a1 : a3 ≠ a1 := fun z => N_a1_a3 z.symm
  have N_a2_a3 : a2 ≠ a3 := fun z => by rw [← z, H_a2] at k0; cases k0
  have N_a3_a2 : a3 ≠ a2 := fun z => N_a2_a3 z.symm
  have F_a3 : g0 a3 = none := by
    cases z : g0 a3 with
    | none => rfl
    | some e => rw [HO a3 e N_a3_q z] at k0; cases k0
  have H_q := (k2 _ N_q_a3).trans H_q
  have H_a1 := (k2 _ N_a1_a3).trans H_a1
  have H_a2 := (k2 _ N_a2_a3).trans H_a2
  have HO : ∀ b e, b ≠ q → g0 b = some e → g b = some e := fun b e hb h => (k2 b (fun z => by rw [z, F_a3] at h; cases h)).trans (HO b e hb h)
  refine ev_putF2 hE rfl dX6_init_25 pX6_18 H_q (Nat.le_of_ble_eq_true rfl) rfl rfl (fun g k1 k2 => ?_)
  have H_q : g q = some (.inr (7, [.ref a1, .ref a2, .ref a3])) := k1
  have H_a1 := (k2 _ N_a1_q).trans H_a1
  have H_a2 := (k2 _ N_a2_q).trans H_a2
  have H_a3 := (k2 _ N_a3_q).trans H_a3
  have HO : ∀ b e, b ≠ q → g0 b = some e → g b = some e := fun b e hb h => (k2 b hb).trans (HO b e hb h)
  exact ev_vret dX6_init_28 rfl ⟨rfl, a1, a2, a3, H_q, ⟨F_a1, H_a1⟩, ⟨F_a2, H_a2⟩, ⟨F_a3, H_a3⟩, N_a1_a2, N_a1_a3, N_a2_a3, HO⟩
theorem c_X3_init {G : ev_G} {d D0 : Nat} {g0 : ev_H} {q : Nat}  (hE : ev_En G) (h4 : ev_En4 G D0) (hd : 1 ≤ d) (H_q : g0 q = some (.inr (4, [.int 0, .int 0, .int 0, .int 0]))) : ev_C G d 0 0 mX3_init [.ref q] g0 (fun o g' => o = .inl none ∧ g' q = some (.inr (4, [.int 0, .int 0, .int 0, .int 0])) ∧ ∀ b e, b ≠ q → g0 b = some e → g' b = some e) := by
  refine ev_start (lv0 := [some (.ref q)]) (by decide +kernel) rfl (Nat.le_of_ble_eq_true rfl) rfl ?_
  have HO : ∀ b e, b ≠ q → g0 b = some e → g0 b = some e := fun _ _ _ h => h
  refine ev_aload_n dX3_init_0 rfl rfl ?_
  refine ev_objI dX3_init_1 loX3 (Nat.le_of_ble_eq_true rfl) (by omega) ?_
  refine ev_aload_n dX3_init_4 rfl rfl ?_
  refine ev_iconst (v := 0) dX3_init_5 (by decide) ?_
  refine ev_put2 hE dX3_init_6 pX3_7 H_q (Nat.le_of_ble_eq_true rfl) rfl rfl (fun g k1 k2 => ?_)
  have H_q : g q = some (.inr (4, [.int 0, .int 0, .int 0, .int 0])) := k1
  have HO : ∀ b e, b ≠ q → g0 b = some e → g b = some e := fun b e hb h => (k2 b hb).trans (HO b e hb h)
  refine ev_aload_n dX3_init_9 rfl rfl ?_
  refine ev_iconst (v := 0) dX3_init_10 (by decide) ?_
  refine ev_put2 hE dX3_init_11 pX3_13 H_q (Nat.le_of_ble_eq_true rfl) rfl rfl (fun g k1 k2 => ?_)
  have H_q : g q = some (.inr (4, [.int 0, .int 0, .int 0, .int 0])) := k1
  have HO : ∀ b e, b ≠ q → g0 b = some e → g b = some e := fun b e hb h => (k2 b hb).trans (HO b e hb h)
  refine ev_aload_n dX3_init_14 rfl rfl ?_
  refine ev_iconst (v := 0) dX3_init_15 (by decide) ?_
  refine ev_put2 hE dX3_init_16 pX3_16 H_q (Nat.le_of_ble_eq_true rfl) rfl rfl (fun g k1 k2 => ?_)
  have H_q : g q = some (.inr (4, [.int 0, .int 0, .int 0, .int 0])) := k1
  have HO : ∀ b e, b ≠ q → g0 b = some e → g b = some e := fun b e hb h => (k2 b hb).trans (HO b e hb h)
  refine ev_aload_n dX3_init_19 rfl rfl ?_
  refine ev_iconst (v := 0) dX3_init_20 (by decide) ?_
  refine ev_put2 hE dX3_init_21 pX3_19 H_q (Nat.le_of_ble_eq_true rfl) rfl rfl (fun g k1 k2 => ?_)
  have H_q : g q = some (.inr (4, [.int 0, .int 0, .int 0, .int 0])) := k1
  have HO : ∀ b e, b ≠ q → g0 b = some e → g b = some e := fun b e hb h => (k2 b hb).trans (HO b e hb h)
  exact ev_vret dX3_init_24 rfl ⟨rfl, H_q, HO⟩
theorem c_X2_init {G : ev_G} {d D0 : Nat} {g0 : ev_H} {q : Nat}  (hE : ev_En G) (h4 : ev_En4 G D0) (hd : 1 ≤ d) (H_q : g0 q = some (.inr (3, [.null, .null, .null, .null, .null, .int 0]))) : ev_C G d 5 840 mX2_init [.ref q] g0 (fun o g' => o = .inl none ∧ ∃ a1 a2 a3 a4 a5 : Nat, g' q = some (.inr (3, [.ref a1, .ref a2, .ref a3, .ref a4, .ref a5, .int 0])) ∧ (g0 a1 = none ∧ g' a1 = some (.inl (G.2.2.2 5, 600, .inr (.inr (.inr (.inr (fun _ => none))))))) ∧ (g0 a2 = none ∧ g' a2 = some (.inl (G.2.2.2 0, 60, .inl (fun _ => 0)))) ∧ (g0 a3 = none ∧ g' a3 = some (.inl (G.2.2.2 0, 60, .inl (fun _ => 0)))) ∧ (g0 a4 = none ∧ g' a4 = some (.inl (G.2.2.2 0, 60, .inl (fun _ => 0)))) ∧ (g0 a5 = none ∧ g' a5 = some (.inl (G.2.2.2 0, 60, .inl (fun _ => 0)))) ∧ a1 ≠ a2 ∧ a1 ≠ a3 ∧ a1 ≠ a4 ∧ a1 ≠ a5 ∧ a2 ≠ a3 ∧ a2 ≠ a4 ∧ a2 ≠ a5 ∧ a3 ≠ a4 ∧ a3 ≠ a5 ∧ a4 ≠ a5 ∧ ∀ b e, b ≠ q → g0 b = some e → g' b = some e) := by
  refine ev_start (lv0 := [some (.ref q)]) (by decide +kernel) rfl (Nat.le_of_ble_eq_true rfl) rfl ?_
  have HO : ∀ b e, b ≠ q → g0 b = some e → g0 b = some e := fun _ _ _ h => h
  refine ev_aload_n dX2_init_0 rfl rfl ?_
  refine ev_objI dX2_init_1 loX2 (Nat.le_of_ble_eq_true rfl) (by omega) ?_
  refine ev_aload_n dX2_init_4 rfl rfl ?_
  refine ev_sipush (v := 600) dX2_init_5 (by decide) ?_
  refine ev_newg2 (N := 600) (b := 4) (n := 240) hE h4 dX2_init_8 lkX2_9 (by decide) (by decide) (by decide) (by decide) (by decide) (fun a1 g k0 k1 k2 => ?_)
  have H_a1 : g a1 = some (.inl (G.2.2.2 5, 600, .inr (.inr (.inr (.inr (fun _ => none)))))) := k1
  have N_q_a1 : q ≠ a1 := fun z => by rw [← z, H_q] at k0; cases k0
  have N_a1_q : a1 ≠ q := fun z => N_q_a1 z.symm
  have F_a1 : g0 a1 = none := by
    cases z : g0 a1 with
    | none => rfl
    | some e => rw [HO a1 e N_a1_q z] at k0; cases k0
  have H_q := (k2 _ N_q_a1).trans H_q
  have HO : ∀ b e, b ≠ q → g0 b = some e → g b = some e := fun b e hb h => (k2 b (fun z => by rw [z, F_a1] at h; cases h)).trans (HO b e hb h)
  refine ev_putF2 hE rfl dX2_init_11 pX2_11 H_q (Nat.le_of_ble_eq_true rfl) rfl rfl (fun g k1 k2 => ?_)
  have H_q : g q = some (.inr (3, [.ref a1, .null, .null, .null, .null, .int 0])) := k1
  have H_a1 := (k2 _ N_a1_q).trans H_a1
  have HO : ∀ b e, b ≠ q → g0 b = some e → g b = some e := fun b e hb h => (k2 b hb).trans (HO b e hb h)
  refine ev_aload_n dX2_init_14 rfl rfl ?_
  refine ev_bipush (v := 60) dX2_init_15 (by decide) ?_
  refine ev_newa2_int (N := 60) (b := 3) (n := 180) hE dX2_init_17 a_int (by decide) (by decide) (by decide) (by decide) (by decide) (fun a2 g k0 k1 k2 => ?_)
  have H_a2 : g a2 = some (.inl (G.2.2.2 0, 60, .inl (fun _ => 0))) := k1
  have N_q_a2 : q ≠ a2 := fun z => by rw [← z, H_q] at k0; cases k0
  have N_a2_q : a2 ≠ q := fun z => N_q_a2 z.symm
  have N_a1_a2 : a1 ≠ a2 := fun z => by rw [← z, H_a1] at k0; cases k0
  have N_a2_a1 : a2 ≠ a1 := fun z => N_a1_a2 z.symm
  have F_a2 : g0 a2 = none := by
    cases z : g0 a2 with
    | none => rfl
    | some e => rw [HO a2 e N_a2_q z] at k0; cases k0
  have H_q := (k2 _ N_q_a2).trans H_q
  have H_a1 := (k2 _ N_a1_a2).trans H_a1
  have HO : ∀ b e, b ≠ q → g0 b = some e → g b = some e := fun b e hb h => (k2 b (fun z => by rw [z, F_a2] at h; cases h)).trans (HO b e hb h)
  refine ev_putF2 hE rfl dX2_init_19 pX2_17 H_q (Nat.le_of_ble_eq_true rfl) rfl rfl (fun g k1 k2 => ?_)
  have H_q : g q = some (.inr (3, [.ref a1, .ref a2, .null, .null, .null, .int 0])) := k1
  have H_a1 := (k2 _ N_a1_q).trans H_a1
  have H_a2 := (k2 _ N_a2_q).trans H_a2
  have HO : ∀ b e, b ≠ q → g0 b = some e → g b = some e := fun b e hb h => (k2 b hb).trans (HO b e hb h)
  refine ev_aload_n dX2_init_22 rfl rfl ?_
  refine ev_bipush (v := 60) dX2_init_23 (by decide) ?_
  refine ev_newa2_int (N := 60) (b := 2) (n := 120) hE dX2_init_25 a_int (by decide) (by decide) (by decide) (by decide) (by decide) (fun a3 g k0 k1 k2 => ?_)
  have H_a3 : g a3 = some (.inl (G.2.2.2 0, 60, .inl (fun _ => 0))) := k1
  have N_q_a3 : q ≠ a3 := fun z => by rw [← z, H_q] at k0; cases k0
  have N_a3_q : a3 ≠ q := fun z => N_q_a3 z.symm
  have N_a1_a3 : a1 ≠ a3 := fun z => by rw [← z, H_a1] at k0; cases k0
  have N_a3_a1 : a3 ≠ a1 := fun z => N_a1_a3 z.symm
  have N_a2_a3 : a2 ≠ a3 := fun z => by rw [← z, H_a2] at k0; cases k0
  have N_a3_a2 : a3 ≠ a2 := fun z => N_a2_a3 z.symm
  have F_a3 : g0 a3 = none := by
    cases z : g0 a3 with
    | none => rfl
    | some e => rw [HO a3 e N_a3_q z] at k0; cases k0
  have H_q := (k2 _ N_q_a3).trans H_q
  have H_a1 := (k2 _ N_a1_a3).trans H_a1
  have H_a2 := (k2 _ N_a2_a3).trans H_a2
  have HO : ∀ b e, b ≠ q → g0 b = some e → g b = some e := fun b e hb h => (k2 b (fun z => by rw [z, F_a3] at h; cases h)).trans (HO b e hb h)
  refine ev_putF2 hE rfl dX2_init_27 pX2_20 H_q (Nat.le_of_ble_eq_true rfl) rfl rfl (fun g k1 k2 => ?_)
  have H_q : g q = some (.inr (3, [.ref a1, .ref a2, .ref a3, .null, .null, .int 0])) := k1
  have H_a1 := (k2 _ N_a1_q).trans H_a1
  have H_a2 := (k2 _ N_a2_q).trans H_a2
  have H_a3 := (k2 _ N_a3_q).trans H_a3
  have HO : ∀ b e, b ≠ q → g0 b = some e → g b = some e := fun b e hb h => (k2 b hb).trans (HO b e hb h)
  refine ev_aload_n dX2_init_30 rfl rfl ?_
  refine ev_bipush (v := 60) dX2_init_31 (by decide) ?_
  refine ev_newa2_int (N := 60) (b := 1) (n := 60) hE dX2_init_33 a_int (by decide) (by decide) (by decide) (by decide) (by decide) (fun a4 g k0 k1 k2 => ?_)
  have H_a4 : g a4 = some (.inl (G.2.2.2 0, 60, .inl (fun _ => 0))) := k1
  have N_q_a4 : q ≠ a4 := fun z => by rw [← z, H_q] at k0; cases k0
  have N_a4_q : a4 ≠ q := fun z => N_q_a4 z.symm
  have N_a1_a4 : a1 ≠ a4 := fun z => by rw [← z, H_a1] at k0; cases k0
  have N_a4_a1 : a4 ≠ a1 := fun z => N_a1_a4 z.symm
  have N_a2_a4 : a2 ≠ a4 := fun z => by rw [← z, H_a2] at k0; cases k0
  have N_a4_a2 : a4 ≠ a2 := fun z => N_a2_a4 z.symm
  have N_a3_a4 : a3 ≠ a4 := fun z => by rw [← z, H_a3] at k0; cases k0
  have N_a4_a3 : a4 ≠ a3 := fun z => N_a3_a4 z.symm
  have F_a4 : g0 a4 = none := by
    cases z : g0 a4 with
    | none => rfl
    | some e => rw [HO a4 e N_a4_q z] at k0; cases k0
  have H_q := (k2 _ N_q_a4).trans H_q
  have H_a1 := (k2 _ N_a1_a4).trans H_a1
  have H_a2 := (k2 _ N_a2_a4).trans H_a2
  have H_a3 := (k2 _ N_a3_a4).trans H_a3
  have HO : ∀ b e, b ≠ q → g0 b = some e → g b = some e := fun b e hb h => (k2 b (fun z => by rw [z, F_a4] at h; cases h)).trans (HO b e hb h)
  refine ev_putF2 hE rfl dX2_init_35 pX2_23 H_q (Nat.le_of_ble_eq_true rfl) rfl rfl (fun g k1 k2 => ?_)
  have H_q : g q = some (.inr (3, [.ref a1, .ref a2, .ref a3, .ref a4, .null, .int 0])) := k1
  have H_a1 := (k2 _ N_a1_q).trans H_a1
  have H_a2 := (k2 _ N_a2_q).trans H_a2
  have H_a3 := (k2 _ N_a3_q).trans H_a3
  have H_a4 := (k2 _ N_a4_q).trans H_a4
  have HO : ∀ b e, b ≠ q → g0 b = some e → g b = some e := fun b e hb h => (k2 b hb).trans (HO b e hb h)
  refine ev_aload_n dX2_init_38 rfl rfl ?_
  refine ev_bipush (v := 60) dX2_init_39 (by decide) ?_
  refine ev_newa2_int (N := 60) (b := 0) (n := 0) hE dX2_init_41 a_int (by decide) (by decide) (by decide) (by decide) (by decide) (fun a5 g k0 k1 k2 => ?_)
  have H_a5 : g a5 = some (.inl (G.2.2.2 0, 60, .inl (fun _ => 0))) := k1
  have N_q_a5 : q ≠ a5 := fun z => by rw [← z, H_q] at k0; cases k0
  have N_a5_q : a5 ≠ q := fun z => N_q_a5 z.symm
  have N_a1_a5 : a1 ≠ a5 := fun z => by rw [← z, H_a1] at k0; cases k0
  have N_a5_a1 : a5 ≠ a1 := fun z => N_a1_a5 z.symm
  have N_a2_a5 : a2 ≠ a5 := fun z => by rw [← z, H_a2] at k0; cases k0
  have N_a5_a2 : a5 ≠ a2 := fun z => N_a2_a5 z.symm
  have N_a3_a5 : a3 ≠ a5 := fun z => by rw [← z, H_a3] at k0; cases k0
  have N_a5_a3 : a5 ≠ a3 := fun z => N_a3_a5 z.symm
  have N_a4_a5 : a4 ≠ a5 := fun z => by rw [← z, H_a4] at k0; cases k0
  have N_a5_a4 : a5 ≠ a4 := fun z => N_a4_a5 z.symm
  have F_a5 : g0 a5 = none := by
    cases z : g0 a5 with
    | none => rfl
    | some e => rw [HO a5 e N_a5_q z] at k0; cases k0
  have H_q := (k2 _ N_q_a5).trans H_q
  have H_a1 := (k2 _ N_a1_a5).trans H_a1
  have H_a2 := (k2 _ N_a2_a5).trans H_a2
  have H_a3 := (k2 _ N_a3_a5).trans H_a3
  have H_a4 := (k2 _ N_a4_a5).trans H_a4
  have HO : ∀ b e, b ≠ q → g0 b = some e → g b = some e := fun b e hb h => (k2 b (fun z => by rw [z, F_a5] at h; cases h)).trans (HO b e hb h)
  refine ev_putF2 hE rfl dX2_init_43 pX2_26 H_q (Nat.le_of_ble_eq_true rfl) rfl rfl (fun g k1 k2 => ?_)
  have H_q : g q = some (.inr (3, [.ref a1, .ref a2, .ref a3, .ref a4, .ref a5, .int 0])) := k1
  have H_a1 := (k2 _ N_a1_q).trans H_a1
  have H_a2 := (k2 _ N_a2_q).trans H_a2
  have H_a3 := (k2 _ N_a3_q).trans H_a3
  have H_a4 := (k2 _ N_a4_q).trans H_a4
  have H_a5 := (k2 _ N_a5_q).trans H_a5
  have HO : ∀ b e, b ≠ q → g0 b = some e → g b = some e := fun b e hb h => (k2 b hb).trans (HO b e hb h)
  refine ev_aload_n dX2_init_46 rfl rfl ?_
  refine ev_iconst (v := 0) dX2_init_47 (by decide) ?_
  refine ev_put2 hE dX2_init_48 pX2_29 H_q (Nat.le_of_ble_eq_true rfl) rfl rfl (fun g k1 k2 => ?_)
  have H_q : g q = some (.inr (3, [.ref a1, .ref a2, .ref a3, .ref a4, .ref a5, .int 0])) := k1
  have H_a1 := (k2 _ N_a1_q).trans H_a1
  have H_a2 := (k2 _ N_a2_q).trans H_a2
  have H_a3 := (k2 _ N_a3_q).trans H_a3
  have H_a4 := (k2 _ N_a4_q).trans H_a4
  have H_a5 := (k2 _ N_a5_q).trans H_a5
  have HO : ∀ b e, b ≠ q → g0 b = some e → g b = some e := fun b e hb h => (k2 b hb).trans (HO b e hb h)
  exact ev_vret dX2_init_51 rfl ⟨rfl, a1, a2, a3, a4, a5, H_q, ⟨F_a1, H_a1⟩, ⟨F_a2, H_a2⟩, ⟨F_a3, H_a3⟩, ⟨F_a4, H_a4⟩, ⟨F_a5, H_a5⟩, N_a1_a2, N_a1_a3, N_a1_a4, N_a1_a5, N_a2_a3, N_a2_a4, N_a2_a5, N_a3_a4, N_a3_a5, N_a4_a5, HO⟩
theorem c_X7_init {G : ev_G} {d D0 : Nat} {g0 : ev_H} {q : Nat}  (hE : ev_En G) (h4 : ev_En4 G D0) (hd : 1 ≤ d) (H_q : g0 q = some (.inr (8, [.null, .int 0, .int 0, .int 0, .int 0, .int 0, .int 0, .int 0, .null, .int 0]))) : ev_C G d 2 600 mX7_init [.ref q] g0 (fun o g' => o = .inl none ∧ ∃ a1 a2 : Nat, g' q = some (.inr (8, [.ref a1, .int 0, .int 0, .int (-1), .int 0, .int 0, .int 0, .int (-1), .ref a2, .int 0])) ∧ (g0 a1 = none ∧ g' a1 = some (.inl (G.2.2.2 0, 300, .inl (fun _ => 0)))) ∧ (g0 a2 = none ∧ g' a2 = some (.inl (G.2.2.2 0, 300, .inl (fun _ => 0)))) ∧ a1 ≠ a2 ∧ ∀ b e, b ≠ q → g0 b = some e → g' b = some e) := by
  refine ev_start (lv0 := [some (.ref q)]) (by decide +kernel) rfl (Nat.le_of_ble_eq_true rfl) rfl ?_
  have HO : ∀ b e, b ≠ q → g0 b = some e → g0 b = some e := fun _ _ _ h => h
  refine ev_aload_n dX7_init_0 rfl rfl ?_
  refine ev_objI dX7_init_1 loX7 (Nat.le_of_ble_eq_true rfl) (by omega) ?_
  refine ev_aload_n dX7_init_4 rfl rfl ?_
  refine ev_sipush (v := 300) dX7_init_5 (by decide) ?_
  refine ev_newa2_int (N := 300) (b := 1) (n := 300) hE dX7_init_8 a_int (by decide) (by decide) (by decide) (by decide) (by decide) (fun a1 g k0 k1 k2 => ?_)
  have H_a1 : g a1 = some (.inl (G.2.2.2 0, 300, .inl (fun _ => 0))) := k1
  have N_q_a1 : q ≠ a1 := fun z => by rw [← z, H_q] at k0; cases k0
  have N_a1_q : a1 ≠ q := fun z => N_q_a1 z.symm
  have F_a1 : g0 a1 = none := by
    cases z : g0 a1 with
    | none => rfl
    | some e => rw [HO a1 e N_a1_q z] at k0; cases k0
  have H_q := (k2 _ N_q_a1).trans H_q
  have HO : ∀ b e, b ≠ q → g0 b = some e → g b = some e := fun b e hb h => (k2 b (fun z => by rw [z, F_a1] at h; cases h)).trans (HO b e hb h)
  refine ev_putF2 hE rfl dX7_init_10 pX7_9 H_q (Nat.le_of_ble_eq_true rfl) rfl rfl (fun g k1 k2 => ?_)
  have H_q : g q = some (.inr (8, [.ref a1, .int 0, .int 0, .int 0, .int 0, .int 0, .int 0, .int 0, .null, .int 0])) := k1
  have H_a1 := (k2 _ N_a1_q).trans H_a1
  have HO : ∀ b e, b ≠ q → g0 b = some e → g b = some e := fun b e hb h => (k2 b hb).trans (HO b e hb h)
  refine ev_aload_n dX7_init_13 rfl rfl ?_
  refine ev_iconst (v := 0) dX7_init_14 (by decide) ?_
  refine ev_put2 hE dX7_init_15 pX7_15 H_q (Nat.le_of_ble_eq_true rfl) rfl rfl (fun g k1 k2 => ?_)
  have H_q : g q = some (.inr (8, [.ref a1, .int 0, .int 0, .int 0, .int 0, .int 0, .int 0, .int 0, .null, .int 0])) := k1
  have H_a1 := (k2 _ N_a1_q).trans H_a1
  have HO : ∀ b e, b ≠ q → g0 b = some e → g b = some e := fun b e hb h => (k2 b hb).trans (HO b e hb h)
  refine ev_aload_n dX7_init_18 rfl rfl ?_
  refine ev_iconst (v := 0) dX7_init_19 (by decide) ?_
  refine ev_put2 hE dX7_init_20 pX7_19 H_q (Nat.le_of_ble_eq_true rfl) rfl rfl (fun g k1 k2 => ?_)
  have H_q : g q = some (.inr (8, [.ref a1, .int 0, .int 0, .int 0, .int 0, .int 0, .int 0, .int 0, .null, .int 0])) := k1
  have H_a1 := (k2 _ N_a1_q).trans H_a1
  have HO : ∀ b e, b ≠ q → g0 b = some e → g b = some e := fun b e hb h => (k2 b hb).trans (HO b e hb h)
  refine ev_aload_n dX7_init_23 rfl rfl ?_
  refine ev_iconst (v := (-1)) dX7_init_24 (by decide) ?_
  refine ev_put2 hE dX7_init_25 pX7_22 H_q (Nat.le_of_ble_eq_true rfl) rfl rfl (fun g k1 k2 => ?_)
  have H_q : g q = some (.inr (8, [.ref a1, .int 0, .int 0, .int (-1), .int 0, .int 0, .int 0, .int 0, .null, .int 0])) := k1
  have H_a1 := (k2 _ N_a1_q).trans H_a1
  have HO : ∀ b e, b ≠ q → g0 b = some e → g b = some e := fun b e hb h => (k2 b hb).trans (HO b e hb h)
  refine ev_aload_n dX7_init_28 rfl rfl ?_
  refine ev_iconst (v := 0) dX7_init_29 (by decide) ?_
  refine ev_put2 hE dX7_init_30 pX7_25 H_q (Nat.le_of_ble_eq_true rfl) rfl rfl (fun g k1 k2 => ?_)
  have H_q : g q = some (.inr (8, [.ref a1, .int 0, .int 0, .int (-1), .int 0, .int 0, .int 0, .int 0, .null, .int 0])) := k1
  have H_a1 := (k2 _ N_a1_q).trans H_a1
  have HO : ∀ b e, b ≠ q → g0 b = some e → g b = some e := fun b e hb h => (k2 b hb).trans (HO b e hb h)
  refine ev_aload_n dX7_init_33 rfl rfl ?_
  refine ev_iconst (v := 0) dX7_init_34 (by decide) ?_
  refine ev_put2 hE dX7_init_35 pX7_28 H_q (Nat.le_of_ble_eq_true rfl) rfl rfl (fun g k1 k2 => ?_)
  have H_q : g q = some (.inr (8, [.ref a1, .int 0, .int 0, .int (-1), .int 0, .int 0, .int 0, .int 0, .null, .int 0])) := k1
  have H_a1 := (k2 _ N_a1_q).trans H_a1
  have HO : ∀ b e, b ≠ q → g0 b = some e → g b = some e := fun b e hb h => (k2 b hb).trans (HO b e hb h)
  refine ev_aload_n dX7_init_38 rfl rfl ?_
  refine ev_iconst (v := 0) dX7_init_39 (by decide) ?_
  refine ev_put2 hE dX7_init_40 pX7_31 H_q (Nat.le_of_ble_eq_true rfl) rfl rfl (fun g k1 k2 => ?_)
  have H_q : g q = some (.inr (8, [.ref a1, .int 0, .int 0, .int (-1), .int 0, .int 0, .int 0, .int 0, .null, .int 0])) := k1
  have H_a1 := (k2 _ N_a1_q).trans H_a1
  have HO : ∀ b e, b ≠ q → g0 b = some e → g b = some e := fun b e hb h => (k2 b hb).trans (HO b e hb h)
  refine ev_aload_n dX7_init_43 rfl rfl ?_
  refine ev_iconst (v := (-1)) dX7_init_44 (by decide) ?_
  refine ev_put2 hE dX7_init_45 pX7_34 H_q (Nat.le_of_ble_eq_true rfl) rfl rfl (fun g k1 k2 => ?_)
  have H_q : g q = some (.inr (8, [.ref a1, .int 0, .int 0, .int (-1), .int 0, .int 0, .int 0, .int (-1), .null, .int 0])) := k1
  have H_a1 := (k2 _ N_a1_q).trans H_a1
  have HO : ∀ b e, b ≠ q → g0 b = some e → g b = some e := fun b e hb h => (k2 b hb).trans (HO b e hb h)
  refine ev_aload_n dX7_init_48 rfl rfl ?_
  refine ev_sipush (v := 300) dX7_init_49 (by decide) ?_
  refine ev_newa2_int (N := 300) (b := 0) (n := 0) hE dX7_init_52 a_int (by decide) (by decide) (by decide) (by decide) (by decide) (fun a2 g k0 k1 k2 => ?_)
  have H_a2 : g a2 = some (.inl (G.2.2.2 0, 300, .inl (fun _ => 0))) := k1
  have N_q_a2 : q ≠ a2 := fun z => by rw [← z, H_q] at k0; cases k0
  have N_a2_q : a2 ≠ q := fun z => N_q_a2 z.symm
  have N_a1_a2 : a1 ≠ a2 := fun z => by rw [← z, H_a1] at k0; cases k0
  have N_a2_a1 : a2 ≠ a1 := fun z => N_a1_a2 z.symm
  have F_a2 : g0 a2 = none := by
    cases z : g0 a2 with
    | none => rfl
    | some e => rw [HO a2 e N_a2_q z] at k0; cases k0
  have H_q := (k2 _ N_q_a2).trans H_q
  have H_a1 := (k2 _ N_a1_a2).trans H_a1
  have HO : ∀ b e, b ≠ q → g0 b = some e → g b = some e := fun b e hb h => (k2 b (fun z => by rw [z, F_a2] at h; cases h)).trans (HO b e hb h)
  refine ev_putF2 hE rfl dX7_init_54 pX7_37 H_q (Nat.le_of_ble_eq_true rfl) rfl rfl (fun g k1 k2 => ?_)
  have H_q : g q = some (.inr (8, [.ref a1, .int 0, .int 0, .int (-1), .int 0, .int 0, .int 0, .int (-1), .ref a2, .int 0])) := k1
  have H_a1 := (k2 _ N_a1_q).trans H_a1
  have H_a2 := (k2 _ N_a2_q).trans H_a2
  have HO : ∀ b e, b ≠ q → g0 b = some e → g b = some e := fun b e hb h => (k2 b hb).trans (HO b e hb h)
  refine ev_aload_n dX7_init_57 rfl rfl ?_
  refine ev_iconst (v := 0) dX7_init_58 (by decide) ?_
  refine ev_put2 hE dX7_init_59 pX7_40 H_q (Nat.le_of_ble_eq_true rfl) rfl rfl (fun g k1 k2 => ?_)
  have H_q : g q = some (.inr (8, [.ref a1, .int 0, .int 0, .int (-1), .int 0, .int 0, .int 0, .int (-1), .ref a2, .int 0])) := k1
  have H_a1 := (k2 _ N_a1_q).trans H_a1
  have H_a2 := (k2 _ N_a2_q).trans H_a2
  have HO : ∀ b e, b ≠ q → g0 b = some e → g b = some e := fun b e hb h => (k2 b hb).trans (HO b e hb h)
  exact ev_vret dX7_init_62 rfl ⟨rfl, a1, a2, H_q, ⟨F_a1, H_a1⟩, ⟨F_a2, H_a2⟩, N_a1_a2, HO⟩
theorem c_X4_init {G : ev_G} {d D0 : Nat} {g0 : ev_H} {q : Nat} {x1 : Int32} (hE : ev_En G) (h4 : ev_En4 G D0) (hd : 1 ≤ d) (H_q : g0 q = some (.inr (5, [.int 0, .null, .null, .int 0, .null, .null, .int 0, .int 0, .int 0, .int 0, .int 0, .int 0, .int 0]))) : ev_C G d 3 7 mX4_init [.ref q, .int x1] g0 (fun o g' => o = .inl none ∧ ∃ a1 a2 a3 : Nat, g' q = some (.inr (5, [.int x1, .ref a1, .null, .int (-1), .ref a2, .ref a3, .int 10, .int 12, .int 100, .int 0, .int 0, .int 0, .int 0])) ∧ (g0 a1 = none ∧ g' a1 = some (.inl (G.2.2.2 0, 1, .inl (upd (fun _ => 0) 0 (-1))))) ∧ (g0 a2 = none ∧ g' a2 = some (.inl (G.2.2.2 0, 3, .inl (upd (upd (upd (fun _ => 0) 0 64) 1 64) 2 64)))) ∧ (g0 a3 = none ∧ g' a3 = some (.inl (G.2.2.2 0, 3, .inl (upd (upd (upd (fun _ => 0) 0 (-1)) 1 (-1)) 2 (-1))))) ∧ a1 ≠ a2 ∧ a1 ≠ a3 ∧ a2 ≠ a3 ∧ ∀ b e, b ≠ q → g0 b = some e → g' b = some e) := by
  refine ev_start (lv0 := [some (.ref q), some (.int x1)]) (by decide +kernel) rfl (Nat.le_of_ble_eq_true rfl) rfl ?_
  have HO : ∀ b e, b ≠ q → g0 b = some e → g0 b = some e := fun _ _ _ h => h
  refine ev_aload_n dX4_init_0 rfl rfl ?_
  refine ev_objI dX4_init_1 loX4 (Nat.le_of_ble_eq_true rfl) (by omega) ?_
  refine ev_aload_n dX4_init_4 rfl rfl ?_
  refine ev_iconst (v := 1) dX4_init_5 (by decide) ?_
  refine ev_newa2_int (N := 1) (b := 2) (n := 6) hE dX4_init_6 a_int (by decide) (by decide) (by decide) (by decide) (by decide) (fun a1 g k0 k1 k2 => ?_)
  have H_a1 : g a1 = some (.inl (G.2.2.2 0, 1, .inl (fun _ => 0))) := k1
  have N_q_a1 : q ≠ a1 := fun z => by rw [← z, H_q] at k0; cases k0
  have N_a1_q : a1 ≠ q := fun z => N_q_a1 z.symm
  have F_a1 : g0 a1 = none := by
    cases z : g0 a1 with
    | none => rfl
    | some e => rw [HO a1 e N_a1_q z] at k0; cases k0
  have H_q := (k2 _ N_q_a1).trans H_q
  have HO : ∀ b e, b ≠ q → g0 b = some e → g b = some e := fun b e hb h => (k2 b (fun z => by rw [z, F_a1] at h; cases h)).trans (HO b e hb h)
  refine ev_dup dX4_init_8 rfl ?_
  refine ev_iconst (v := 0) dX4_init_9 (by decide) ?_
  refine ev_iconst (v := (-1)) dX4_init_10 (by decide) ?_
  refine ev_iast2 (q := 0) hE dX4_init_11 H_a1 rfl (by decide) (by decide) (fun g k1 k2 => ?_)
  have H_a1 : g a1 = some (.inl (G.2.2.2 0, 1, .inl (upd (fun _ => 0) 0 (-1)))) := k1
  have H_q := (k2 _ N_q_a1).trans H_q
  have HO : ∀ b e, b ≠ q → g0 b = some e → g b = some e := fun b e hb h => (k2 b (fun z => by rw [z, F_a1] at h; cases h)).trans (HO b e hb h)
  refine ev_put2 hE dX4_init_12 pX4_9 H_q (Nat.le_of_ble_eq_true rfl) rfl rfl (fun g k1 k2 => ?_)
  have H_q : g q = some (.inr (5, [.int 0, .ref a1, .null, .int 0, .null, .null, .int 0, .int 0, .int 0, .int 0, .int 0, .int 0, .int 0])) := k1
  have H_a1 := (k2 _ N_a1_q).trans H_a1
  have HO : ∀ b e, b ≠ q → g0 b = some e → g b = some e := fun b e hb h => (k2 b hb).trans (HO b e hb h)
  refine ev_aload_n dX4_init_15 rfl rfl ?_
  refine ev_null dX4_init_16 ?_
  refine ev_put2 hE dX4_init_17 pX4_15 H_q (Nat.le_of_ble_eq_true rfl) rfl rfl (fun g k1 k2 => ?_)
  have H_q : g q = some (.inr (5, [.int 0, .ref a1, .null, .int 0, .null, .null, .int 0, .int 0, .int 0, .int 0, .int 0, .int 0, .int 0])) := k1
  have H_a1 := (k2 _ N_a1_q).trans H_a1
  have HO : ∀ b e, b ≠ q → g0 b = some e → g b = some e := fun b e hb h => (k2 b hb).trans (HO b e hb h)
  refine ev_aload_n dX4_init_20 rfl rfl ?_
  refine ev_iconst (v := (-1)) dX4_init_21 (by decide) ?_
  refine ev_put2 hE dX4_init_22 pX4_18 H_q (Nat.le_of_ble_eq_true rfl) rfl rfl (fun g k1 k2 => ?_)
  have H_q : g q = some (.inr (5, [.int 0, .ref a1, .null, .int (-1), .null, .null, .int 0, .int 0, .int 0, .int 0, .int 0, .int 0, .int 0])) := k1
  have H_a1 := (k2 _ N_a1_q).trans H_a1
  have HO : ∀ b e, b ≠ q → g0 b = some e → g b = some e := fun b e hb h => (k2 b hb).trans (HO b e hb h)
  refine ev_aload_n dX4_init_25 rfl rfl ?_
  refine ev_iconst (v := 3) dX4_init_26 (by decide) ?_
  refine ev_newa2_int (N := 3) (b := 1) (n := 3) hE dX4_init_27 a_int (by decide) (by decide) (by decide) (by decide) (by decide) (fun a2 g k0 k1 k2 => ?_)
  have H_a2 : g a2 = some (.inl (G.2.2.2 0, 3, .inl (fun _ => 0))) := k1
  have N_q_a2 : q ≠ a2 := fun z => by rw [← z, H_q] at k0; cases k0
  have N_a2_q : a2 ≠ q := fun z => N_q_a2 z.symm
  have N_a1_a2 : a1 ≠ a2 := fun z => by rw [← z, H_a1] at k0; cases k0
  have N_a2_a1 : a2 ≠ a1 := fun z => N_a1_a2 z.symm
  have F_a2 : g0 a2 = none := by
    cases z : g0 a2 with
    | none => rfl
    | some e => rw [HO a2 e N_a2_q z] at k0; cases k0
  have H_q := (k2 _ N_q_a2).trans H_q
  have H_a1 := (k2 _ N_a1_a2).trans H_a1
  have HO : ∀ b e, b ≠ q → g0 b = some e → g b = some e := fun b e hb h => (k2 b (fun z => by rw [z, F_a2] at h; cases h)).trans (HO b e hb h)
  refine ev_dup dX4_init_29 rfl ?_
  refine ev_iconst (v := 0) dX4_init_30 (by decide) ?_
  refine ev_bipush (v := 64) dX4_init_31 (by decide) ?_
  refine ev_iast2 (q := 0) hE dX4_init_33 H_a2 rfl (by decide) (by decide) (fun g k1 k2 => ?_)
  have H_a2 : g a2 = some (.inl (G.2.2.2 0, 3, .inl (upd (fun _ => 0) 0 64))) := k1
  have H_q := (k2 _ N_q_a2).trans H_q
  have H_a1 := (k2 _ N_a1_a2).trans H_a1
  have HO : ∀ b e, b ≠ q → g0 b = some e → g b = some e := fun b e hb h => (k2 b (fun z => by rw [z, F_a2] at h; cases h)).trans (HO b e hb h)
  refine ev_dup dX4_init_34 rfl ?_
  refine ev_iconst (v := 1) dX4_init_35 (by decide) ?_
  refine ev_bipush (v := 64) dX4_init_36 (by decide) ?_
  refine ev_iast2 (q := 1) hE dX4_init_38 H_a2 rfl (by decide) (by decide) (fun g k1 k2 => ?_)
  have H_a2 : g a2 = some (.inl (G.2.2.2 0, 3, .inl (upd (upd (fun _ => 0) 0 64) 1 64))) := k1
  have H_q := (k2 _ N_q_a2).trans H_q
  have H_a1 := (k2 _ N_a1_a2).trans H_a1
  have HO : ∀ b e, b ≠ q → g0 b = some e → g b = some e := fun b e hb h => (k2 b (fun z => by rw [z, F_a2] at h; cases h)).trans (HO b e hb h)
  refine ev_dup dX4_init_39 rfl ?_
  refine ev_iconst (v := 2) dX4_init_40 (by decide) ?_
  refine ev_bipush (v := 64) dX4_init_41 (by decide) ?_
  refine ev_iast2 (q := 2) hE dX4_init_43 H_a2 rfl (by decide) (by decide) (fun g k1 k2 => ?_)
  have H_a2 : g a2 = some (.inl (G.2.2.2 0, 3, .inl (upd (upd (upd (fun _ => 0) 0 64) 1 64) 2 64))) := k1
  have H_q := (k2 _ N_q_a2).trans H_q
  have H_a1 := (k2 _ N_a1_a2).trans H_a1
  have HO : ∀ b e, b ≠ q → g0 b = some e → g b = some e := fun b e hb h => (k2 b (fun z => by rw [z, F_a2] at h; cases h)).trans (HO b e hb h)
  refine ev_putF2 hE rfl dX4_init_44 pX4_22 H_q (Nat.le_of_ble_eq_true rfl) rfl rfl (fun g k1 k2 => ?_)
  have H_q : g q = some (.inr (5, [.int 0, .ref a1, .null, .int (-1), .ref a2, .null, .int 0, .int 0, .int 0, .int 0, .int 0, .int 0, .int 0])) := k1
  have H_a1 := (k2 _ N_a1_q).trans H_a1
  have H_a2 := (k2 _ N_a2_q).trans H_a2
  have HO : ∀ b e, b ≠ q → g0 b = some e → g b = some e := fun b e hb h => (k2 b hb).trans (HO b e hb h)
  refine ev_aload_n dX4_init_47 rfl rfl ?_
  refine ev_iconst (v := 3) dX4_init_48 (by decide) ?_
  refine ev_newa2_int (N := 3) (b := 0) (n := 0) hE dX4_init_49 a_int (by decide) (by decide) (by decide) (by decide) (by decide) (fun a3 g k0 k1 k2 => ?_)
  have H_a3 : g a3 = some (.inl (G.2.2.2 0, 3, .inl (fun _ => 0))) := k1
  have N_q_a3 : q ≠ a3 := fun z => by rw [← z, H_q] at k0; cases k0
  have N_a3_q : a3 ≠ q := fun z => N_q_a3 z.symm
  have N_a1_a3 : a1 ≠ a3 := fun z => by rw [← z, H_a1] at k0; cases k0
  have N_a3_a1 : a3 ≠ a1 := fun z => N_a1_a3 z.symm
  have N_a2_a3 : a2 ≠ a3 := fun z => by rw [← z, H_a2] at k0; cases k0
  have N_a3_a2 : a3 ≠ a2 := fun z => N_a2_a3 z.symm
  have F_a3 : g0 a3 = none := by
    cases z : g0 a3 with
    | none => rfl
    | some e => rw [HO a3 e N_a3_q z] at k0; cases k0
  have H_q := (k2 _ N_q_a3).trans H_q
  have H_a1 := (k2 _ N_a1_a3).trans H_a1
  have H_a2 := (k2 _ N_a2_a3).trans H_a2
  have HO : ∀ b e, b ≠ q → g0 b = some e → g b = some e := fun b e hb h => (k2 b (fun z => by rw [z, F_a3] at h; cases h)).trans (HO b e hb h)
  refine ev_dup dX4_init_51 rfl ?_
  refine ev_iconst (v := 0) dX4_init_52 (by decide) ?_
  refine ev_iconst (v := (-1)) dX4_init_53 (by decide) ?_
  refine ev_iast2 (q := 0) hE dX4_init_54 H_a3 rfl (by decide) (by decide) (fun g k1 k2 => ?_)
  have H_a3 : g a3 = some (.inl (G.2.2.2 0, 3, .inl (upd (fun _ => 0) 0 (-1)))) := k1
  have H_q := (k2 _ N_q_a3).trans H_q
  have H_a1 := (k2 _ N_a1_a3).trans H_a1
  have H_a2 := (k2 _ N_a2_a3).trans H_a2
  have HO : ∀ b e, b ≠ q → g0 b = some e → g b = some e := fun b e hb h => (k2 b (fun z => by rw [z, F_a3] at h; cases h)).trans (HO b e hb h)
  refine ev_dup dX4_init_55 rfl ?_
  refine ev_iconst (v := 1) dX4_init_56 (by decide) ?_
  refine ev_iconst (v := (-1)) dX4_init_57 (by decide) ?_
  refine ev_iast2 (q := 1) hE dX4_init_58 H_a3 rfl (by decide) (by decide) (fun g k1 k2 => ?_)
  have H_a3 : g a3 = some (.inl (G.2.2.2 0, 3, .inl (upd (upd (fun _ => 0) 0 (-1)) 1 (-1)))) := k1
  have H_q := (k2 _ N_q_a3).trans H_q
  have H_a1 := (k2 _ N_a1_a3).trans H_a1
  have H_a2 := (k2 _ N_a2_a3).trans H_a2
  have HO : ∀ b e, b ≠ q → g0 b = some e → g b = some e := fun b e hb h => (k2 b (fun z => by rw [z, F_a3] at h; cases h)).trans (HO b e hb h)
  refine ev_dup dX4_init_59 rfl ?_
  refine ev_iconst (v := 2) dX4_init_60 (by decide) ?_
  refine ev_iconst (v := (-1)) dX4_init_61 (by decide) ?_
  refine ev_iast2 (q := 2) hE dX4_init_62 H_a3 rfl (by decide) (by decide) (fun g k1 k2 => ?_)
  have H_a3 : g a3 = some (.inl (G.2.2.2 0, 3, .inl (upd (upd (upd (fun _ => 0) 0 (-1)) 1 (-1)) 2 (-1)))) := k1
  have H_q := (k2 _ N_q_a3).trans H_q
  have H_a1 := (k2 _ N_a1_a3).trans H_a1
  have H_a2 := (k2 _ N_a2_a3).trans H_a2
  have HO : ∀ b e, b ≠ q → g0 b = some e → g b = some e := fun b e hb h => (k2 b (fun z => by rw [z, F_a3] at h; cases h)).trans (HO b e hb h)
  refine ev_putF2 hE rfl dX4_init_63 pX4_25 H_q (Nat.le_of_ble_eq_true rfl) rfl rfl (fun g k1 k2 => ?_)
  have H_q : g q = some (.inr (5, [.int 0, .ref a1, .null, .int (-1), .ref a2, .ref a3, .int 0, .int 0, .int 0, .int 0, .int 0, .int 0, .int 0])) := k1
  have H_a1 := (k2 _ N_a1_q).trans H_a1
  have H_a2 := (k2 _ N_a2_q).trans H_a2
  have H_a3 := (k2 _ N_a3_q).trans H_a3
  have HO : ∀ b e, b ≠ q → g0 b = some e → g b = some e := fun b e hb h => (k2 b hb).trans (HO b e hb h)
  refine ev_aload_n dX4_init_66 rfl rfl ?_
  refine ev_bipush (v := 10) dX4_init_67 (by decide) ?_
  refine ev_put2 hE dX4_init_69 pX4_28 H_q (Nat.le_of_ble_eq_true rfl) rfl rfl (fun g k1 k2 => ?_)
  have H_q : g q = some (.inr (5, [.int 0, .ref a1, .null, .int (-1), .ref a2, .ref a3, .int 10, .int 0, .int 0, .int 0, .int 0, .int 0, .int 0])) := k1
  have H_a1 := (k2 _ N_a1_q).trans H_a1
  have H_a2 := (k2 _ N_a2_q).trans H_a2
  have H_a3 := (k2 _ N_a3_q).trans H_a3
  have HO : ∀ b e, b ≠ q → g0 b = some e → g b = some e := fun b e hb h => (k2 b hb).trans (HO b e hb h)
  refine ev_aload_n dX4_init_72 rfl rfl ?_
  refine ev_bipush (v := 12) dX4_init_73 (by decide) ?_
  refine ev_put2 hE dX4_init_75 pX4_31 H_q (Nat.le_of_ble_eq_true rfl) rfl rfl (fun g k1 k2 => ?_)
  have H_q : g q = some (.inr (5, [.int 0, .ref a1, .null, .int (-1), .ref a2, .ref a3, .int 10, .int 12, .int 0, .int 0, .int 0, .int 0, .int 0])) := k1
  have H_a1 := (k2 _ N_a1_q).trans H_a1
  have H_a2 := (k2 _ N_a2_q).trans H_a2
  have H_a3 := (k2 _ N_a3_q).trans H_a3
  have HO : ∀ b e, b ≠ q → g0 b = some e → g b = some e := fun b e hb h => (k2 b hb).trans (HO b e hb h)
  refine ev_aload_n dX4_init_78 rfl rfl ?_
  refine ev_bipush (v := 100) dX4_init_79 (by decide) ?_
  refine ev_put2 hE dX4_init_81 pX4_34 H_q (Nat.le_of_ble_eq_true rfl) rfl rfl (fun g k1 k2 => ?_)
  have H_q : g q = some (.inr (5, [.int 0, .ref a1, .null, .int (-1), .ref a2, .ref a3, .int 10, .int 12, .int 100, .int 0, .int 0, .int 0, .int 0])) := k1
  have H_a1 := (k2 _ N_a1_q).trans H_a1
  have H_a2 := (k2 _ N_a2_q).trans H_a2
  have H_a3 := (k2 _ N_a3_q).trans H_a3
  have HO : ∀ b e, b ≠ q → g0 b = some e → g b = some e := fun b e hb h => (k2 b hb).trans (HO b e hb h)
  refine ev_aload_n dX4_init_84 rfl rfl ?_
  refine ev_iconst (v := 0) dX4_init_85 (by decide) ?_
  refine ev_put2 hE dX4_init_86 pX4_37 H_q (Nat.le_of_ble_eq_true rfl) rfl rfl (fun g k1 k2 => ?_)
  have H_q : g q = some (.inr (5, [.int 0, .ref a1, .null, .int (-1), .ref a2, .ref a3, .int 10, .int 12, .int 100, .int 0, .int 0, .int 0, .int 0])) := k1
  have H_a1 := (k2 _ N_a1_q).trans H_a1
  have H_a2 := (k2 _ N_a2_q).trans H_a2
  have H_a3 := (k2 _ N_a3_q).trans H_a3
  have HO : ∀ b e, b ≠ q → g0 b = some e → g b = some e := fun b e hb h => (k2 b hb).trans (HO b e hb h)
  refine ev_aload_n dX4_init_89 rfl rfl ?_
  refine ev_iconst (v := 0) dX4_init_90 (by decide) ?_
  refine ev_put2 hE dX4_init_91 pX4_40 H_q (Nat.le_of_ble_eq_true rfl) rfl rfl (fun g k1 k2 => ?_)
  have H_q : g q = some (.inr (5, [.int 0, .ref a1, .null, .int (-1), .ref a2, .ref a3, .int 10, .int 12, .int 100, .int 0, .int 0, .int 0, .int 0])) := k1
  have H_a1 := (k2 _ N_a1_q).trans H_a1
  have H_a2 := (k2 _ N_a2_q).trans H_a2
  have H_a3 := (k2 _ N_a3_q).trans H_a3
  have HO : ∀ b e, b ≠ q → g0 b = some e → g b = some e := fun b e hb h => (k2 b hb).trans (HO b e hb h)
  refine ev_aload_n dX4_init_94 rfl rfl ?_
  refine ev_iconst (v := 0) dX4_init_95 (by decide) ?_
  refine ev_put2 hE dX4_init_96 pX4_43 H_q (Nat.le_of_ble_eq_true rfl) rfl rfl (fun g k1 k2 => ?_)
  have H_q : g q = some (.inr (5, [.int 0, .ref a1, .null, .int (-1), .ref a2, .ref a3, .int 10, .int 12, .int 100, .int 0, .int 0, .int 0, .int 0])) := k1
  have H_a1 := (k2 _ N_a1_q).trans H_a1
  have H_a2 := (k2 _ N_a2_q).trans H_a2
  have H_a3 := (k2 _ N_a3_q).trans H_a3
  have HO : ∀ b e, b ≠ q → g0 b = some e → g b = some e := fun b e hb h => (k2 b hb).trans (HO b e hb h)
  refine ev_aload_n dX4_init_99 rfl rfl ?_
  refine ev_iconst (v := 0) dX4_init_100 (by decide) ?_
  refine ev_put2 hE dX4_init_101 pX4_47 H_q (Nat.le_of_ble_eq_true rfl) rfl rfl (fun g k1 k2 => ?_)
  have H_q : g q = some (.inr (5, [.int 0, .ref a1, .null, .int (-1), .ref a2, .ref a3, .int 10, .int 12, .int 100, .int 0, .int 0, .int 0, .int 0])) := k1
  have H_a1 := (k2 _ N_a1_q).trans H_a1
  have H_a2 := (k2 _ N_a2_q).trans H_a2
  have H_a3 := (k2 _ N_a3_q).trans H_a3
  have HO : ∀ b e, b ≠ q → g0 b = some e → g b = some e := fun b e hb h => (k2 b hb).trans (HO b e hb h)
  refine ev_aload_n dX4_init_104 rfl rfl ?_
  refine ev_iload_n dX4_init_105 rfl rfl ?_
  refine ev_putF2 hE rfl dX4_init_106 pX4_50 H_q (Nat.le_of_ble_eq_true rfl) rfl rfl (fun g k1 k2 => ?_)
  have H_q : g q = some (.inr (5, [.int x1, .ref a1, .null, .int (-1), .ref a2, .ref a3, .int 10, .int 12, .int 100, .int 0, .int 0, .int 0, .int 0])) := k1
  have H_a1 := (k2 _ N_a1_q).trans H_a1
  have H_a2 := (k2 _ N_a2_q).trans H_a2
  have H_a3 := (k2 _ N_a3_q).trans H_a3
  have HO : ∀ b e, b ≠ q → g0 b = some e → g b = some e := fun b e hb h => (k2 b hb).trans (HO b e hb h)
  exact ev_vret dX4_init_109 rfl ⟨rfl, a1, a2, a3, H_q, ⟨F_a1, H_a1⟩, ⟨F_a2, H_a2⟩, ⟨F_a3, H_a3⟩, N_a1_a2, N_a1_a3, N_a2_a3, HO⟩
end CI
