section R2
variable {G : ev_G} {d bc bs : Nat} {M : ev_M} {Post : ev_P} {g : ev_H} {pc : Nat} {lv : List (Option Value)} {st : List Value}
theorem ev_K.K {s : State} (hE : ev_En G) (h : ev_O G s s.heap) : va_K G.2.2.1 vwCl (ev_tys G) s := va_K.moved h.1 hE.1
theorem ev_ci {ci : Nat} {C : String} (h : (vwCl[ci]?).map (fun q => q.1) = some C) : ∃ x, vwCl[ci]? = some x ∧ x.1 = C := by
  cases hx : vwCl[ci]? with
  | none => rw [hx] at h; cases h
  | some x => rw [hx] at h; exact ⟨x, rfl, Option.some.inj h⟩
theorem ev_cast {index ci a : Nat} {fs : List Value} {C : String} (hE : ev_En G) (hd : decode M.2.1 pc = .ok (.checkcast index, 3)) (hl0 : Cond.classLink M.1.cls index C ∈ ev_T) (hg : g a = some (.inr (ci, fs))) (hci : (vwCl[ci]?).map (fun q => q.1) = some C) (k : ev_V G d bc bs M Post g (pc + 3) lv (.ref a :: st)) : ev_V G d bc bs M Post g pc lv (.ref a :: st) := by
  intro p e s m args below meth c H locs cells slots mc ms ls hC hR hS hc hs hl
  obtain ⟨x, hx, rfl⟩ := ev_ci hci
  obtain ⟨L, f, q, h1, h2, h3, h4, h5, h6⟩ := hR.get hg
  have hK := ev_K.K hE hC.2.2.2.2.2.2.2.1
  exact va_castS hC.1 hC.2.1 hC.2.2.2.2.2.1 (hC.2.2.2.2.2.2.1 _ hl0) (hK.1 ci x hx).2 (va_recv hK h2 hx h4) hd (k p e s m args below meth c H locs cells slots mc ms ls hC hR hS hc hs hl)
theorem ev_castN {index : Nat} (hd : decode M.2.1 pc = .ok (.checkcast index, 3)) (k : ev_V G d bc bs M Post g (pc + 3) lv (.null :: st)) : ev_V G d bc bs M Post g pc lv (.null :: st) := by
  intro p e s m args below meth c H locs cells slots mc ms ls hC hR hS hc hs hl
  exact lv_castN hC.1 hC.2.1 hd (k p e s m args below meth c H locs cells slots mc ms ls hC hR hS hc hs hl)
theorem ev_castI {index a : Nat} {x : vp_A} (hE : ev_En G) (hd : decode M.2.1 pc = .ok (.checkcast index, 3)) (hl0 : Cond.classLink M.1.cls index "[I" ∈ ev_T) (hg : g a = some (.inl (G.2.2.2 0, x))) (k : ev_V G d bc bs M Post g (pc + 3) lv (.ref a :: st)) : ev_V G d bc bs M Post g pc lv (.ref a :: st) := by
  intro p e s m args below meth c H locs cells slots mc ms ls hC hR hS hc hs hl
  obtain ⟨L, f, q, h1, h2, h3, h4, h5, h6⟩ := hR.get hg
  have hK := ev_K.K hE hC.2.2.2.2.2.2.2.1
  exact va_castA hC.1 hC.2.1 hC.2.2.2.2.2.1 (hC.2.2.2.2.2.2.1 _ hl0) h2 q h4 (hK.2 0 _ rfl).2 hd (k p e s m args below meth c H locs cells slots mc ms ls hC hR hS hc hs hl)
theorem ev_RAq {s : State} {c1 c2 : ClassId} {C : String} (h1 : va_RA s c1 (.object C)) (h2 : va_RA s c2 (.object C)) : c1 = c2 := by
  obtain ⟨-, -, -, -, -, a⟩ := h1
  obtain ⟨-, -, -, -, -, b⟩ := h2
  exact Option.some.inj (a.symm.trans b)
theorem ev_newq {index b n N D0 : Nat} {x : Int32} (hE : ev_En G) (h4 : ev_En4 G D0) (hd : decode M.2.1 pc = .ok (.anewarray index, 3)) (hl0 : Cond.classLink M.1.cls index "java/lang/Object" ∈ ev_T) (hx : ¬ x < 0) (hN : x.toNatClampNeg = N) (hby : N * 4 ≤ 536870912) (hb : b + 1 ≤ bc) (hn : n + N ≤ bs) (k : ∀ q : Nat, g q = none → ev_V G d b n M Post (ev_up g q (.inl (G.2.2.2 4, N, .inr (.inr (.inr (.inr (fun _ => none))))))) (pc + 3) lv (.ref q :: st)) : ev_V G d bc bs M Post g pc lv (.int x :: st) := by
  intro p e s m args below meth c H locs cells slots mc ms ls hC hR hS hc hs hl
  obtain ⟨L, f, h1, h2, h3⟩ := hR
  have hK := ev_K.K hE hC.2.2.2.2.2.2.2.1
  refine va_newq hC.1 hC.2.1 hC.2.2.2.2.2.1 (hC.2.2.2.2.2.2.1 _ hl0) (va_AO.moved hC.2.2.2.2.2.2.2.1.1 h4.2.2.2.2.2.2.2.2.2.1) hK h2 h3 hS (fun q hq => Nat.le_trans hC.2.2.2.2.2.2.2.1.2.1 hq) hx hN hby (show cells + 1 ≤ mc by omega) (show slots + N ≤ ms by omega) hd (fun q cA H1 hK1 hP hD hS1 => ?_)
  have hcA : cA = G.2.2.2 4 := ev_RAq (hK1.2 6 (cA, .object "java/lang/Object") rfl).2 (hK.2 4 (G.2.2.2 4, .object "java/lang/Object") rfl).2
  subst hcA
  obtain ⟨e1, e2⟩ := ev_R.push h1 hP hD
  exact k q e1 p e s m args below meth c H1 locs (cells + 1) (slots + N) mc ms ls hC e2 hS1 (by omega) (by omega) hl
/-- what the start knows of int[][] -/
theorem ev_En4.gg {D0 : Nat} {s : State} (hE : ev_En G) (h4 : ev_En4 G D0) (h : ev_O G s s.heap) : ∃ k : Class, s.vm.classes[G.2.2.2 5]? = some k ∧ k.kind = .array (G.2.2.2 0) (.array .int) := by
  obtain ⟨comp, c, k, a1, a2, a3, a4, a5⟩ := arrayOverA_spec (args := #[]) (idx := []) (o := none) h4.2.2.2.2.2.2.2.2.2.2
  have e0 : comp = G.2.2.2 0 := Option.some.inj (a1.symm.trans (hE.1.2 0 (G.2.2.2 0, .int) rfl).2)
  have e5 : c = G.2.2.2 5 := Option.some.inj (a5.symm.trans (hE.1.2 5 (G.2.2.2 5, .array .int) rfl).2)
  subst e0 e5
  obtain ⟨k', hk', he⟩ := h.1.2.2 _ _ a3
  exact ⟨k', hk', by rw [he]; exact a4⟩
theorem ev_newg {index b n N D0 : Nat} {x : Int32} (hE : ev_En G) (h4 : ev_En4 G D0) (hd : decode M.2.1 pc = .ok (.anewarray index, 3)) (hl0 : Cond.classLink M.1.cls index "[I" ∈ ev_T) (hx : ¬ x < 0) (hN : x.toNatClampNeg = N) (hby : N * 4 ≤ 536870912) (hb : b + 1 ≤ bc) (hn : n + N ≤ bs) (k : ∀ q : Nat, g q = none → ev_V G d b n M Post (ev_up g q (.inl (G.2.2.2 5, N, .inr (.inr (.inr (.inr (fun _ => none))))))) (pc + 3) lv (.ref q :: st)) : ev_V G d bc bs M Post g pc lv (.int x :: st) := by
  intro p e s m args below meth c H locs cells slots mc ms ls hC hR hS hc hs hl
  obtain ⟨L, f, h1, hP0, hD0⟩ := hR
  have hO := hC.2.2.2.2.2.2.2.1
  have hK := ev_K.K hE hO
  have hov : (Cond.arrayOver (.array .int)).before args s = true := by
    have h9 := h4.2.2.2.2.2.2.2.2.2.2
    obtain ⟨comp, c, k, a1, a2, a3, a4, a5⟩ := arrayOverA_spec (args := #[]) (idx := []) (o := none) h9
    obtain ⟨k', hk', he⟩ := hO.1.2.2 _ _ a3
    have f1 : s.vm.findClass (FieldType.array .int).toString = some comp := by rw [hO.1.findClass]; exact a1
    have f2 : s.vm.findClass ("[" ++ (FieldType.array .int).toString) = some c := by rw [hO.1.findClass]; exact a5
    have hi : (s.vm.classes.findIdx? fun x => match x.kind with | .array component _ => component == comp | _ => false) = some c := by
      rw [hO.1.findIdx?_eq _ (fun _ => rfl)]; exact a2
    have hkind : k'.kind = .array comp (.array .int) := by rw [he]; exact a4
    unfold Cond.before Cond.holds
    simp only [Cond.value]
    rw [f1, Option.bind_some]
    refine (congrArg (fun o : Option Nat => (o.bind (fun c => (s.vm.classes[c]?).map fun (k : Class) => match k.kind with | .array _ ty => decide (ty = FieldType.array .int) && decide (s.vm.findClass ("[" ++ (FieldType.array .int).toString) = some c) | _ => false) == some true)) hi).trans ?_
    simp [hk', hkind, f2]
  subst hN
  refine W.anewA hC.1 hC.2.1 hC.2.2.2.2.2.1 (hC.2.2.2.2.2.2.1 _ hl0) hov rfl hd rfl hx hby (show cells + 1 ≤ mc by omega) (show slots + x.toNatClampNeg ≤ ms by omega) fun cA kA comp f1 f2 f3 f4 => ?_
  have hcA : cA = G.2.2.2 5 := Option.some.inj (f1.symm.trans (hK.2 5 (G.2.2.2 5, .array .int) rfl).2)
  subst hcA
  generalize hH1 : H.push ({ cls := G.2.2.2 5, slots := Array.replicate x.toNatClampNeg .null, vm := .none } : Cell) = H1
  have z1 : H1.size = H.size + 1 := by rw [← hH1, Array.size_push]
  have e1 : H1[H.size]? = some (arrV (G.2.2.2 5) x.toNatClampNeg (fun _ => .null)) := by rw [← hH1, Array.getElem?_push_size, ← arrV_new]
  have o1 : ∀ q : Nat, q < H.size → H1[q]? = H[q]? := fun q hq => by rw [← hH1, Array.getElem?_push, if_neg (Nat.ne_of_lt hq)]
  have hk : ∀ (k : Nat) (x : Nat × va_E), (va_pl L f)[k]? = some x → H1[x.1]? = H[x.1]? := fun k x hx => o1 x.1 ((hP0 k x hx).lt)
  obtain ⟨e2, e3⟩ := ev_R.push (G := G) (H1 := H1) (q := H.size) (e1 := .inl (G.2.2.2 5, x.toNatClampNeg, .inr (.inr (.inr (.inr (fun _ => none)))))) h1 ((hP0.kept hk).app (fun k y hy => by
    have hz : k < 1 := (List.getElem?_eq_some_iff.mp hy).1
    rw [show k = 0 by omega] at hy
    cases hy
    show H1[H.size]? = some (vp_cell _ _)
    rw [vp_cell_q]
    exact e1)) (hD0.push hP0 rfl (Nat.le_trans hO.2.1 hS.1))
  exact k H.size e2 p e s m args below meth c H1 locs (cells + 1) (slots + x.toNatClampNeg) mc ms ls hC e3 ⟨Nat.le_trans hS.1 (by omega), fun y g1 g2 => (o1 y (Nat.lt_of_lt_of_le g1 hS.1)).trans (hS.2.1 y g1 g2), hS.2.2⟩ (by omega) (by omega) hl
theorem ev_galdq {i : Int32} {n a : Nat} {f : Nat → Option Nat} (hE : ev_En G) (hd : decode M.2.1 pc = .ok (.aaload, 1)) (hg : g a = some (.inl (G.2.2.2 5, n, .inr (.inr (.inr (.inr f)))))) (hi : vp_in i n) (k : ev_V G d bc bs M Post g (pc + 1) lv (va_rf (f i.toNatClampNeg) :: st)) : ev_V G d bc bs M Post g pc lv (.int i :: .ref a :: st) := by
  intro p e s m args below meth c H locs cells slots mc ms ls hC hR hS hc hs hl
  obtain ⟨L, f', q, h1, h2, h3, h4, h5, h6⟩ := hR.get hg
  have hlt : i.toNatClampNeg < n := Nat.not_le.mp fun q => hi (Or.inr q)
  exact W.aald (v := va_rf (f i.toNatClampNeg)) (ty := .array .int) hC.1 hC.2.1 (h2 q _ h4) (((ev_K.K hE hC.2.2.2.2.2.2.2.1).2 5 _ rfl).1 n (fun j => va_rf (f j))) rfl (fun q => by cases q) (by show ¬ (i < 0 ∨ (arrV _ _ _).slots.size ≤ _); rw [arrV_size]; exact hi) (by show (arrV _ _ _).slots[_]? = _; rw [arrV_read _ _ hlt]) rfl rfl hd (k p e s m args below meth c H locs cells slots mc ms ls hC hR hS hc hs hl)
theorem ev_gastq {i : Int32} {n a v m0 D0 : Nat} {h : Nat → Int32} {f : Nat → Option Nat} (hE : ev_En G) (h4 : ev_En4 G D0) (hd : decode M.2.1 pc = .ok (.aastore, 1)) (hg : g a = some (.inl (G.2.2.2 5, n, .inr (.inr (.inr (.inr f)))))) (hv : g v = some (.inl (G.2.2.2 0, m0, .inl h))) (hi : vp_in i n) (k : ev_V G d bc bs M Post (ev_up g a (.inl (G.2.2.2 5, n, .inr (.inr (.inr (.inr (va_up f i.toNatClampNeg (some v)))))))) (pc + 1) lv st) : ev_V G d bc bs M Post g pc lv (.ref v :: .int i :: .ref a :: st) := by
  intro p e s m args below meth c H locs cells slots mc ms ls hC hR hS hc hs hl
  obtain ⟨L, f', q, h1, hP, hD, hq4, h5, h6⟩ := hR.get hg
  obtain ⟨h7, h8⟩ := (h1 v _).mp hv
  obtain ⟨qk, hqk⟩ := va_pl_get (X := []) (f := f') h7
  have hqk : (va_pl L f')[qk]? = some (v, f' v) := hqk
  rw [h8] at hqk
  have hlt : i.toNatClampNeg < n := Nat.not_le.mp fun q => hi (Or.inr q)
  have h0 : ¬ i < 0 := fun q => hi (Or.inl q)
  have hO := hC.2.2.2.2.2.2.2.1
  obtain ⟨k5, hk5, hkind⟩ := h4.gg hE hO
  have hK := ev_K.K hE hO
  obtain ⟨-, k0, hk0, -⟩ := (hK.2 0 (G.2.2.2 0, .int) rfl).1 m0 (fun j => .int (h j))
  refine W.aast hC.1 hC.2.1 (hP q _ hq4) (fun q h => by cases h) (fun h => by cases h) hk5 hkind rfl hk0 ⟨h0, by show _ < (arrV _ _ _).slots.size; rw [arrV_size]; exact hlt⟩ (hP qk _ hqk) (fun q h => by cases h) hk0 (va_asg _ _) rfl rfl hd fun H1 e z oq => ?_
  refine k _ _ _ _ _ _ _ _ H1 _ cells slots mc ms ls hC (ev_R.set h1 hD hq4 h5 h6 (hP.set hD hq4 ?_ oq) (hD.set hq4)) (hS.put z oq (hD.2 q _ hq4)) hc hs hl
  show H1[a]? = some (vp_cell _ _)
  rw [e]
  rw [vp_cell_q, vp_cell_q, arrV_store]
  congr 2
  funext q
  by_cases hq : q = i.toNatClampNeg
  · subst hq
    simp [updV, va_up, va_rf]
  · simp [updV, va_up, hq]
theorem ev_astq {i : Int32} {n a v ci D0 : Nat} {fs : List Value} {C : String} {f : Nat → Option Nat} (hE : ev_En G) (h4 : ev_En4 G D0) (hd : decode M.2.1 pc = .ok (.aastore, 1)) (hg : g a = some (.inl (G.2.2.2 4, n, .inr (.inr (.inr (.inr f)))))) (hv : g v = some (.inr (ci, fs))) (hci : (vwCl[ci]?).map (fun q => q.1) = some C) (hca : Cond.castable C "java/lang/Object" ∈ ev_nw) (hi : vp_in i n) (k : ev_V G d bc bs M Post (ev_up g a (.inl (G.2.2.2 4, n, .inr (.inr (.inr (.inr (va_up f i.toNatClampNeg (some v)))))))) (pc + 1) lv st) : ev_V G d bc bs M Post g pc lv (.ref v :: .int i :: .ref a :: st) := by
  intro p e s m args below meth c H locs cells slots mc ms ls hC hR hS hc hs hl
  obtain ⟨x, hx, rfl⟩ := ev_ci hci
  obtain ⟨L, f', q, h1, hP, hD, hq4, h5, h6⟩ := hR.get hg
  obtain ⟨h7, h8⟩ := (h1 v _).mp hv
  obtain ⟨qk, hqk⟩ := va_pl_get (X := []) (f := f') h7
  have hqk : (va_pl L f')[qk]? = some (v, f' v) := hqk
  rw [h8] at hqk
  have hO := hC.2.2.2.2.2.2.2.1
  exact va_astqO hC.1 hC.2.1 (ev_K.K hE hO) hP hD hS q 4 qk ci hq4 rfl (va_Nw.of rfl (hO.nw (a := args) (h4.2.2.2.1 _ hca))) hqk hx hi hd (fun H1 locs1 hP1 hD1 hS1 => k p e s m args below meth c H1 locs1 cells slots mc ms ls hC (ev_R.set h1 hD hq4 h5 h6 hP1 hD1) hS1 hc hs hl)
def ev_cpw : Prop := Cond.native arraycopyName ∈ ev_T ∧ Cond.static arraycopyName ∈ ev_T ∧ Cond.initialized "java/lang/System" ∈ ev_T ∧ Cond.methodLink RJ7 150 arraycopyName ∈ ev_T
theorem ev_cpw_ok : ev_cpw := ⟨ev_in3 143 rfl rfl, ev_in3 142 rfl rfl, ev_in1 23 rfl rfl, ev_in3 141 rfl rfl⟩
theorem ev_pl2 {L : List Nat} {f' : Nat → va_E} {v : Nat} {e : va_E} (h : v ∈ L ∧ f' v = e) : ∃ k : Nat, (va_pl L f')[k]? = some (v, e) := by
  obtain ⟨h7, h8⟩ := h
  obtain ⟨qk, hqk⟩ := va_pl_get (X := []) (f := f') h7
  have hqk : (va_pl L f')[qk]? = some (v, f' v) := hqk
  rw [h8] at hqk
  exact ⟨qk, hqk⟩
theorem ev_copyi {a0 a n0 n1 : Nat} {f h : Nat → Int32} {sp dp n : Int32} (hE : ev_En G) (hX : M.1.cls = RJ7) (hd : decode M.2.1 pc = .ok (.invokestatic 150, 3)) (hg0 : g a0 = some (.inl (G.2.2.2 0, n0, .inl f))) (hg : g a = some (.inl (G.2.2.2 0, n1, .inl h))) (h1 : ¬ sp < 0) (h2 : ¬ dp < 0) (h3 : ¬ n < 0) (h4 : sp.toNatClampNeg + n.toNatClampNeg ≤ n0) (h5 : dp.toNatClampNeg + n.toNatClampNeg ≤ n1) (hr : (st.map fun v => v.category).sum ≤ 8) (hdd : 1 ≤ d)
    (k : ev_V G d bc bs M Post (ev_up g a (.inl (G.2.2.2 0, n1, .inl (va_cpy f h sp.toNatClampNeg dp.toNatClampNeg n.toNatClampNeg)))) (pc + 3) lv st) : ev_V G d bc bs M Post g pc lv (.int n :: .int dp :: .ref a :: .int sp :: .ref a0 :: st) := by
  intro p e s m args below meth c H locs cells slots mc ms ls hC hR hS hc hs hl
  obtain ⟨L, f', q, e1, hP, hD, e4, e5, e6⟩ := hR.get hg
  obtain ⟨q0, e7⟩ := ev_pl2 ((e1 a0 _).mp hg0)
  have hW := hC.2.2.2.2.2.2.1
  obtain ⟨w1, w2, w3, w4⟩ := ev_cpw_ok
  rw [← hX] at w4
  exact va_copyi hC.1 hC.2.1 (hC.2.2.1.trans hl.1.symm) hC.2.2.2.2.2.1 (hW _ w4) (hW _ w1) (hW _ w2) (hW _ w3) (ev_K.K hE hC.2.2.2.2.2.2.2.1) hP hD hS q0 q 0 0 e7 e4 rfl rfl rfl h1 h2 h3 h4 h5 (fun i hi => rfl) (show 1 ≤ d from hdd) (by show _ + (nativeFrameWords "java/lang/System" "arraycopy" 5 + 11) ≤ 64 * d; have hw : nativeFrameWords "java/lang/System" "arraycopy" 5 ≤ 20 := (by decide); omega) hd (fun H1 locs1 hP1 hD1 hS1 => k p e s m args below meth c H1 locs1 cells slots mc ms ls hC (ev_R.set e1 hD e4 e5 e6 hP1 hD1) hS1 hc hs hl)
theorem ev_copyq {a0 a n0 n1 ci D0 : Nat} {f h : Nat → Option Nat} {C : String} {sp dp n : Int32} (hE : ev_En G) (hF : ev_En4 G D0) (hX : M.1.cls = RJ7) (hd : decode M.2.1 pc = .ok (.invokestatic 150, 3)) (hg0 : g a0 = some (.inl (G.2.2.2 4, n0, .inr (.inr (.inr (.inr f)))))) (hg : g a = some (.inl (G.2.2.2 4, n1, .inr (.inr (.inr (.inr h)))))) (hci : (vwCl[ci]?).map (fun q => q.1) = some C) (hca : Cond.castable C "java/lang/Object" ∈ ev_nw) (hel : ∀ i y, f i = some y → ∃ fs, g y = some (.inr (ci, fs))) (h1 : ¬ sp < 0) (h2 : ¬ dp < 0) (h3 : ¬ n < 0) (h4 : sp.toNatClampNeg + n.toNatClampNeg ≤ n0) (h5 : dp.toNatClampNeg + n.toNatClampNeg ≤ n1) (hr : (st.map fun v => v.category).sum ≤ 8) (hdd : 1 ≤ d)
    (k : ev_V G d bc bs M Post (ev_up g a (.inl (G.2.2.2 4, n1, .inr (.inr (.inr (.inr (va_cpy f h sp.toNatClampNeg dp.toNatClampNeg n.toNatClampNeg))))))) (pc + 3) lv st) : ev_V G d bc bs M Post g pc lv (.int n :: .int dp :: .ref a :: .int sp :: .ref a0 :: st) := by
  intro p e s m args below meth c H locs cells slots mc ms ls hC hR hS hc hs hl
  obtain ⟨x, hx, rfl⟩ := ev_ci hci
  obtain ⟨L, f', q, e1, hP, hD, e4, e5, e6⟩ := hR.get hg
  obtain ⟨q0, e7⟩ := ev_pl2 ((e1 a0 _).mp hg0)
  have hW := hC.2.2.2.2.2.2.1
  have hO := hC.2.2.2.2.2.2.2.1
  have hK := ev_K.K hE hO
  obtain ⟨w1, w2, w3, w4⟩ := ev_cpw_ok
  rw [← hX] at w4
  refine va_copyq (C := x.1) hC.1 hC.2.1 (hC.2.2.1.trans hl.1.symm) hC.2.2.2.2.2.1 (hW _ w4) (hW _ w1) (hW _ w2) (hW _ w3) hK hP hD hS q0 q 4 4 e7 e4 rfl rfl h1 h2 h3 h4 h5 (fun i hi y hy => ?_) (fun comp c0 f1 f2 => ?_) (show 1 ≤ d from hdd) (by show _ + (nativeFrameWords "java/lang/System" "arraycopy" 5 + 11) ≤ 64 * d; have hw : nativeFrameWords "java/lang/System" "arraycopy" 5 ≤ 20 := (by decide); omega) hd (fun H1 locs1 hP1 hD1 hS1 => k p e s m args below meth c H1 locs1 cells slots mc ms ls hC (ev_R.set e1 hD e4 e5 e6 hP1 hD1) hS1 hc hs hl)
  · obtain ⟨fs, hy2⟩ := hel _ y hy
    obtain ⟨q9, e9⟩ := ev_pl2 ((e1 y _).mp hy2)
    exact va_recv hK hP hx e9
  · obtain ⟨c1, c2, g1, g2, g3⟩ := Cond.castable_spec (hO.nw (a := args) (hF.2.2.2.1 _ hca))
    cases f2.symm.trans g1
    cases f1.symm.trans g2
    exact g3
theorem ev_clone {a n b k0 D0 : Nat} {f : Nat → Int32} (hE : ev_En G) (h4 : ev_En4 G D0) (hX : M.1.cls = RJ7) (hd : decode M.2.1 pc = .ok (.invokevirtual 316, 3)) (hg : g a = some (.inl (G.2.2.2 0, n, .inl f))) (hr : (st.map fun v => v.category).sum ≤ 8) (hdd : 1 ≤ d) (hb : b + 1 ≤ bc) (hn : k0 + n ≤ bs)
    (k : ∀ q : Nat, g q = none → ev_V G d b k0 M Post (ev_up g q (.inl (G.2.2.2 0, n, .inl f))) (pc + 3) lv (.ref q :: st)) : ev_V G d bc bs M Post g pc lv (.ref a :: st) := by
  intro p e s m args below meth c H locs cells slots mc ms ls hC hR hS hc hs hl
  obtain ⟨L, f', q, e1, hP, hD, e4, e5, e6⟩ := hR.get hg
  have hW := hC.2.2.2.2.2.2.1
  have hO := hC.2.2.2.2.2.2.2.1
  have hK := ev_K.K hE hO
  have w1 : Cond.methodLink RJ7 316 ⟨"[I", "clone", "()Ljava/lang/Object;"⟩ ∈ ev_T := ev_in4 178 rfl rfl
  have w2 : Cond.sameMethod "[I" "java/lang/Object" "clone" "()Ljava/lang/Object;" ∈ ev_T := ev_in4 179 rfl rfl
  have w3 : Cond.native ⟨"java/lang/Object", "clone", "()Ljava/lang/Object;"⟩ ∈ ev_T := ev_in4 180 rfl rfl
  have w4 : Cond.instanceMethod ⟨"java/lang/Object", "clone", "()Ljava/lang/Object;"⟩ ∈ ev_T := ev_in4 181 rfl rfl
  have w5 : Cond.selects "[I" ⟨"[I", "clone", "()Ljava/lang/Object;"⟩ ⟨"java/lang/Object", "clone", "()Ljava/lang/Object;"⟩ ∈ ev_T := ev_in4 182 rfl rfl
  rw [← hX] at w1
  refine va_clone (x := (n, .inl f)) hC.1 hC.2.1 (hC.2.2.1.trans hl.1.symm) hC.2.2.2.2.2.1 (hW _ w1) (hW _ w2) (hW _ w3) (hW _ w4) (hW _ w5) (va_Nw.of rfl (hO.nw (a := args) (h4.2.2.2.1 _ (List.mem_of_getElem? (i := 7) rfl)))) hK hP hD hS (fun q hq => Nat.le_trans hO.2.1 hq) q 0 e4 rfl (hK.2 0 _ rfl).2 (va_fit (cA := G.2.2.2 0) (n := n) (F := fun j => .int (f j)) (fun i hi => rfl)) (show 1 ≤ d from hdd) (by show _ + 14 ≤ 64 * d; omega) (show cells + 1 ≤ mc by omega) (show slots + n ≤ ms by omega) hd (fun q1 H1 hK1 hP1 hD1 hS1 => ?_)
  obtain ⟨g1, g2⟩ := ev_R.push e1 hP1 hD1
  exact k q1 g1 p e s m args below meth c H1 locs (cells + 1) (slots + n) mc ms ls hC g2 hS1 (by omega) (by omega) hl
theorem ev_getC {a n mi D0 : Nat} {f : Nat → Option Nat} (hE : ev_En G) (h4 : ev_En4 G D0) (hX : M.1.cls = RJ7) (hM : va_Mi "[Ljava/lang/Object;" mi G.2.1) (hd : decode M.2.1 pc = .ok (.invokevirtual 86, 3)) (hg : g a = some (.inl (G.2.2.2 4, n, .inr (.inr (.inr (.inr f)))))) (hr : (st.map fun v => v.category).sum ≤ 8) (hdd : 1 ≤ d)
    (k : ev_V G d bc bs M Post g (pc + 3) lv (.ref mi :: st)) : ev_V G d bc bs M Post g pc lv (.ref a :: st) := by
  intro p e s m args below meth c H locs cells slots mc ms ls hC hR hS hc hs hl
  obtain ⟨L, f', q, e1, hP, hD, e4, e5, e6⟩ := hR.get hg
  have hW := hC.2.2.2.2.2.2.1
  have hO := hC.2.2.2.2.2.2.2.1
  have hK := ev_K.K hE hO
  have w1 : Cond.methodLink RJ7 86 ⟨"java/lang/Object", "getClass", "()Ljava/lang/Class;"⟩ ∈ ev_T := ev_in3 111 rfl rfl
  have w2 : Cond.instanceMethod ⟨"java/lang/Object", "getClass", "()Ljava/lang/Class;"⟩ ∈ ev_T := ev_in3 112 rfl rfl
  have w3 : Cond.selects "[Ljava/lang/Object;" ⟨"java/lang/Object", "getClass", "()Ljava/lang/Class;"⟩ ⟨"java/lang/Object", "getClass", "()Ljava/lang/Class;"⟩ ∈ ev_T := ev_in9 122 rfl rfl
  have w4 : Cond.native ⟨"java/lang/Object", "getClass", "()Ljava/lang/Class;"⟩ ∈ ev_T := ev_in3 131 rfl rfl
  rw [← hX] at w1
  exact va_getC hC.1 hC.2.1 (hC.2.2.1.trans hl.1.symm) hC.2.2.2.2.2.1 (hW _ w1) ((va_Dc.moved hO.1 h4.2.2.2.2.2.2.2.2.1).use) (hW _ w3) (hW _ w2) (hW _ w4) (va_Mi.moved hO.1 hM) ⟨_, hP q _ e4, rfl, va_nmO (hK.2 4 _ rfl).2 (by decide +kernel)⟩ (show 1 ≤ d from hdd) (by show _ + 14 ≤ 64 * d; omega) hd (k p e s m args below meth c H locs cells slots mc ms ls hC hR hS hc hs hl)
theorem ev_ldcM {index mi : Nat} {C : String} (hM : va_Mi C mi G.2.1) (hd : decode M.2.1 pc = .ok (.ldc index, 2)) (hl0 : Cond.classLink M.1.cls index C ∈ ev_T) (k : ev_V G d bc bs M Post g (pc + 2) lv (.ref mi :: st)) : ev_V G d bc bs M Post g pc lv st := by
  intro p e s m args below meth c H locs cells slots mc ms ls hC hR hS hc hs hl
  exact va_ldcM hC.1 hC.2.1 hC.2.2.2.2.2.1 (hC.2.2.2.2.2.2.1 _ hl0) (va_Mi.moved hC.2.2.2.2.2.2.2.1.1 hM) hd (k p e s m args below meth c H locs cells slots mc ms ls hC hR hS hc hs hl)
/-! constructors; nest mates -/
theorem ev_callI {index n d' mc' ms' b k0 r : Nat} {M' : ev_M} {Post' : ev_P} {As rest : List Value} (hd : decode M.2.1 pc = .ok (.invokespecial index, 3)) (hh : M'.2.2.2.2 = []) (hv0 : M'.2.2.2.1 = none) (hK : ev_K M' n) (hn : As.length = n) (hi0 : M'.1.name = "<init>") (hl1 : Cond.methodLink M.1.cls index M'.1 ∈ ev_T) (hl2 : Cond.instanceMethod M'.1 ∈ ev_T) (hr : (rest.map fun v => v.category).sum ≤ 8) (hdd : d' + 1 ≤ d) (hM : ev_C G d' mc' ms' M' (.ref r :: As) g Post') (hb : b + mc' ≤ bc) (hs0 : k0 + ms' ≤ bs)
    (k : ∀ (v : Option Value) (g' : ev_H), Post' (.inl v) g' → ev_V G d b k0 M Post g' (pc + 3) lv (v.toList ++ rest))
    (kx : ∀ (E : String) (g' : ev_H), Post' (.inr E) g' → ev_Vx G d b k0 M Post g' pc lv E) : ev_V G d bc bs M Post g pc lv (As.reverse ++ .ref r :: rest) := by
  obtain ⟨y, cc, ml, rt, tb⟩ := M'
  dsimp only at hh hv0 hi0 hl1 hl2
  subst hh hv0
  refine ev_run (mc' := mc') (ms' := ms') (Post' := Post') (a := (.ref r :: As).toArray) (rest := rest) hb hs0 ?_ k kx
  intro p e s m args below meth c H locs cells slots mc ms ls hC hR hS hc hs hl
  obtain ⟨k1, k2, k3, k4, k5, k6⟩ := hK
  have hts := hC.2.2.2.2.2.2.1
  have hU : ∀ U : State, U.heap = H → s.WarmedH U.vm → ev_Pc G (.ref r :: As) g (.ref r :: As).toArray U := fun U hU hW => ⟨rfl, by rw [hU]; exact hR, by rw [hU]; exact (hC.2.2.2.2.2.2.2.1.of hS).to hW⟩
  exact vx_runI ⟨hC.1, hC.2.1, hC.2.2.1, hC.2.2.2.2.2.1, hts⟩ hM (cwI n hts (ev_wsg k1) rfl rfl rfl (hts _ k2) (hts _ hl1) (hts _ hl2) hi0 ⟨k3, k4, k5⟩ ⟨show d' + 1 ≤ d from hdd, show 8 + (ml + 11) + 64 * d' ≤ 64 * d by have k6 : ml ≤ 45 := k6; omega⟩) ⟨ev_blind _, hU⟩ rfl hn hl rfl (by simpa [JFrame.monitorRoom] using hr) hd ⟨hc, hs⟩
theorem ev_callIN {index n d' mc' ms' b k0 r D0 : Nat} {M' : ev_M} {Post' : ev_P} {As rest : List Value} (h4 : ev_En4 G D0) (hd : decode M.2.1 pc = .ok (.invokespecial index, 3)) (hh : M'.2.2.2.2 = []) (hv0 : M'.2.2.2.1 = none) (hK : ev_K M' n) (hn : As.length = n) (hi0 : M'.1.name = "<init>") (hl1 : (M.1.cls, index, M'.1) ∈ ev_nn) (hl2 : Cond.instanceMethod M'.1 ∈ ev_T) (hr : (rest.map fun v => v.category).sum ≤ 8) (hdd : d' + 1 ≤ d) (hM : ev_C G d' mc' ms' M' (.ref r :: As) g Post') (hb : b + mc' ≤ bc) (hs0 : k0 + ms' ≤ bs)
    (k : ∀ (v : Option Value) (g' : ev_H), Post' (.inl v) g' → ev_V G d b k0 M Post g' (pc + 3) lv (v.toList ++ rest))
    (kx : ∀ (E : String) (g' : ev_H), Post' (.inr E) g' → ev_Vx G d b k0 M Post g' pc lv E) : ev_V G d bc bs M Post g pc lv (As.reverse ++ .ref r :: rest) := by
  have h9 := h4.2.2.2.2.1 _ hl1
  obtain ⟨y, cc, ml, rt, tb⟩ := M'
  dsimp only at hh hv0 hi0 hl1 hl2
  subst hh hv0
  refine ev_run (mc' := mc') (ms' := ms') (Post' := Post') (a := (.ref r :: As).toArray) (rest := rest) hb hs0 ?_ k kx
  intro p e s m args below meth c H locs cells slots mc ms ls hC hR hS hc hs hl
  obtain ⟨k1, k2, k3, k4, k5, k6⟩ := hK
  have hts := hC.2.2.2.2.2.2.1
  have hU : ∀ U : State, U.heap = H → s.WarmedH U.vm → ev_Pc G (.ref r :: As) g (.ref r :: As).toArray U := fun U hU hW => ⟨rfl, by rw [hU]; exact hR, by rw [hU]; exact (hC.2.2.2.2.2.2.2.1.of hS).to hW⟩
  exact vx_runIN ⟨hC.1, hC.2.1, hC.2.2.1, hC.2.2.2.2.2.1, hts⟩ hM ⟨va_cnB n hts (ev_wsg k1) rfl rfl rfl (va_Nw.warmM hC.2.2.2.2.2.2.2.1.2.2.2 h9) (hts _ k2) ⟨k3, k4, k5⟩ ⟨show d' + 1 ≤ d from hdd, show 8 + (ml + 11) + 64 * d' ≤ 64 * d by have k6 : ml ≤ 45 := k6; omega⟩, hi0, hts _ hl2⟩ ⟨ev_blind _, hU⟩ rfl hn hl rfl (by simpa [JFrame.monitorRoom] using hr) hd ⟨hc, hs⟩
theorem ev_callSN {index n d' mc' ms' b k0 D0 : Nat} {M' : ev_M} {Post' : ev_P} {As rest : List Value} (h4 : ev_En4 G D0) (hd : decode M.2.1 pc = .ok (.invokestatic index, 3)) (hh : M'.2.2.2.2 = []) (hK : ev_K M' n) (hn : As.length = n) (hl1 : (M.1.cls, index, M'.1) ∈ ev_nn) (hl2 : Cond.static M'.1 ∈ ev_T) (hr : (rest.map fun v => v.category).sum ≤ 8) (hdd : d' + 1 ≤ d) (hM : ev_C G d' mc' ms' M' As g Post') (hb : b + mc' ≤ bc) (hs0 : k0 + ms' ≤ bs)
    (k : ∀ (v : Option Value) (g' : ev_H), Post' (.inl v) g' → ev_V G d b k0 M Post g' (pc + 3) lv (v.toList ++ rest))
    (kx : ∀ (E : String) (g' : ev_H), Post' (.inr E) g' → ev_Vx G d b k0 M Post g' pc lv E) : ev_V G d bc bs M Post g pc lv (As.reverse ++ rest) := by
  have h9 := h4.2.2.2.2.1 _ hl1
  refine ev_run (mc' := mc') (ms' := ms') (Post' := Post') (a := As.toArray) (rest := rest) hb hs0 ?_ k kx
  intro p e s m args below meth c H locs cells slots mc ms ls hC hR hS hc hs hl
  obtain ⟨k1, k2, k3, k4, k5, k6⟩ := hK
  have hts := hC.2.2.2.2.2.2.1
  have hU : ∀ U : State, U.heap = H → s.WarmedH U.vm → ev_Pc G As g As.toArray U := fun U hU hW => ⟨rfl, by rw [hU]; exact hR, by rw [hU]; exact (hC.2.2.2.2.2.2.2.1.of hS).to hW⟩
  exact vx_runSN ⟨hC.1, hC.2.1, hC.2.2.1, hC.2.2.2.2.2.1, hts⟩ hM ⟨va_cnB n hts (ev_wsg k1) (ev_hd0 hh) rfl rfl (va_Nw.warmM hC.2.2.2.2.2.2.2.1.2.2.2 h9) (hts _ k2) ⟨k3, k4, k5⟩ ⟨show d' + 1 ≤ d from hdd, show 8 + (M'.2.2.1 + 11) + 64 * d' ≤ 64 * d by omega⟩, hts _ hl2, trivial⟩ ⟨ev_blind _, hU⟩ rfl hn hl rfl (by simpa [JFrame.monitorRoom] using hr) hd ⟨hc, hs⟩
theorem ev_objI {index r : Nat} (hd : decode M.2.1 pc = .ok (.invokespecial index, 3)) (hl1 : Cond.methodLink M.1.cls index Lib.objectInit ∈ ev_T) (hr : (st.map fun v => v.category).sum ≤ 8) (hdd : 1 ≤ d) (k : ev_V G d bc bs M Post g (pc + 3) lv st) : ev_V G d bc bs M Post g pc lv (.ref r :: st) := by
  intro p e s m args below meth c H locs cells slots mc ms ls hC hR hS hc hs hl
  have hW := hC.2.2.2.2.2.2.1
  have w2 : Cond.instanceMethod Lib.objectInit ∈ ev_T := ev_in1 39 rfl rfl
  have w3 : Cond.code Lib.objectInit ⟨#[0xb1]⟩ 1 none ∈ ev_T := ev_in1 40 rfl rfl
  exact W.objInit hC.1 hC.2.1 hC.2.2.2.2.2.1 (hW _ hl1) (hW _ w2) (hW _ w3) rfl (hl.1.trans hC.2.2.1.symm) rfl hd (show 1 ≤ d from hdd) (by show 2 * 0 + _ + 12 ≤ 64 * d; omega) (k p e s m args below meth c H locs cells slots mc ms ls hC hR hS hc hs hl)
theorem pJxc12de_7 : ev_F RJxc12de 7 0 0 (.int) false := ⟨RJx4a65c, TJx4a65c, 3, "java/util/AbstractList", tyJx4a65c, rfl, by decide, ev_in1 57 rfl rfl, Or.inl rfl, innJx4a65c, ggJx4a65c, tyJx4a65c_ok, nmJx4a65c, rfl, rfl, fun h => by cases h⟩
theorem lkX2_9 : Cond.classLink RX2 9 "[I" ∈ ev_T := ev_in1 208 rfl rfl
theorem lkX5_43 : Cond.classLink RX5 43 "PaperBoard$Breaches" ∈ ev_T := ev_in2 202 rfl rfl
theorem lkX5_50 : Cond.classLink RX5 50 "PaperBoard$Sources" ∈ ev_T := ev_in2 224 rfl rfl
theorem lkX6_42 : Cond.classLink RX6 42 "PaperBoard$Paper" ∈ ev_T := ev_in5 48 rfl rfl
theorem lkX7_43 : Cond.classLink RX7 43 "PaperBoard$Order" ∈ ev_T := ev_in4 41 rfl rfl
theorem lkX11_100 : Cond.classLink RX11 100 "PaperBoard$Paper" ∈ ev_T := ev_in2 87 rfl rfl
theorem lkX11_128 : Cond.classLink RX11 128 "PaperBoard$Reel" ∈ ev_T := ev_in2 92 rfl rfl
theorem lkX11_156 : Cond.classLink RX11 156 "java/lang/IndexOutOfBoundsException" ∈ ev_T := ev_in3 158 rfl rfl
theorem lkX11_286 : Cond.classLink RX11 286 "PaperBoard$Appeal" ∈ ev_T := ev_in5 95 rfl rfl
theorem lkX11_340 : Cond.classLink RX11 340 "java/lang/IllegalArgumentException" ∈ ev_T := ev_in2 113 rfl rfl
theorem lkX11_36 : Cond.classLink RX11 36 "PaperBoard$Order" ∈ ev_T := ev_in1 67 rfl rfl
theorem lkX11_45 : Cond.classLink RX11 45 "PaperBoard$Reader" ∈ ev_T := ev_in1 135 rfl rfl
theorem lkX11_52 : Cond.classLink RX11 52 "PaperBoard$Values" ∈ ev_T := ev_in1 175 rfl rfl
theorem lkX11_59 : Cond.classLink RX11 59 "PaperBoard$Parting" ∈ ev_T := ev_in1 185 rfl rfl
theorem lkX11_66 : Cond.classLink RX11 66 "PaperBoard$Ledger" ∈ ev_T := ev_in1 202 rfl rfl
theorem lkX11_7 : Cond.classLink RX11 7 "java/util/ArrayList" ∈ ev_T := ev_in1 41 rfl rfl
theorem lkX11_73 : Cond.classLink RX11 73 "PaperBoard$Offer" ∈ ev_T := ev_in1 230 rfl rfl
theorem lkX11_93 : Cond.classLink RX11 93 "java/lang/IllegalStateException" ∈ ev_T := ev_in2 181 rfl rfl
theorem lkL_111 : Cond.classLink RL 111 "PaperBoardModel" ∈ ev_T := ev_in6 169 rfl rfl
theorem lkL_13 : Cond.classLink RL 13 "java/lang/IllegalArgumentException" ∈ ev_T := ev_in2 100 rfl rfl
theorem lkL_15 : Cond.classLink RL 15 "java/lang/IllegalStateException" ∈ ev_T := ev_in2 101 rfl rfl
theorem lkL_21 : Cond.classLink RL 21 "java/lang/IndexOutOfBoundsException" ∈ ev_T := ev_in3 149 rfl rfl
theorem lkL_8 : Cond.classLink RL 8 "PaperBoard" ∈ ev_T := ev_in1 33 rfl rfl
theorem lkJx4a65c_7 : Cond.classLink RJx4a65c 7 "java/lang/Object" ∈ ev_T := ev_in3 145 rfl rfl
theorem lkJ7_110 : Cond.classLink RJ7 110 "[Ljava/lang/Object;" ∈ ev_T := ev_in3 135 rfl rfl
theorem lkJ7_2 : Cond.classLink RJ7 2 "java/lang/Object" ∈ ev_T := ev_in3 137 rfl rfl
theorem lkJ7_317 : Cond.classLink RJ7 317 "[I" ∈ ev_T := ev_in4 184 rfl rfl
theorem ini_IllegalArgumentException : Cond.initialized "java/lang/IllegalArgumentException" ∈ ev_T := ev_in1 15 rfl rfl
theorem ini_IllegalStateException : Cond.initialized "java/lang/IllegalStateException" ∈ ev_T := ev_in1 16 rfl rfl
theorem ini_IndexOutOfBoundsException : Cond.initialized "java/lang/IndexOutOfBoundsException" ∈ ev_T := ev_in1 24 rfl rfl
theorem loX0 : Cond.methodLink RX0 3 Lib.objectInit ∈ ev_T := ev_in6 52 rfl rfl
theorem loX1 : Cond.methodLink RX1 3 Lib.objectInit ∈ ev_T := ev_in2 207 rfl rfl
theorem loX2 : Cond.methodLink RX2 3 Lib.objectInit ∈ ev_T := ev_in1 207 rfl rfl
theorem loX3 : Cond.methodLink RX3 1 Lib.objectInit ∈ ev_T := ev_in1 235 rfl rfl
theorem loX4 : Cond.methodLink RX4 3 Lib.objectInit ∈ ev_T := ev_in1 72 rfl rfl
theorem loX5 : Cond.methodLink RX5 3 Lib.objectInit ∈ ev_T := ev_in2 201 rfl rfl
theorem loX6 : Cond.methodLink RX6 3 Lib.objectInit ∈ ev_T := ev_in1 190 rfl rfl
theorem loX7 : Cond.methodLink RX7 3 Lib.objectInit ∈ ev_T := ev_in1 140 rfl rfl
theorem loX8 : Cond.methodLink RX8 3 Lib.objectInit ∈ ev_T := ev_in3 203 rfl rfl
theorem loX9 : Cond.methodLink RX9 3 Lib.objectInit ∈ ev_T := ev_in2 229 rfl rfl
theorem loX10 : Cond.methodLink RX10 3 Lib.objectInit ∈ ev_T := ev_in1 180 rfl rfl
theorem loX11 : Cond.methodLink RX11 1 Lib.objectInit ∈ ev_T := ev_in1 38 rfl rfl
theorem loX12 : Cond.methodLink RX12 1 Lib.objectInit ∈ ev_T := ev_in6 174 rfl rfl
theorem loJxa1e45 : Cond.methodLink RJxa1e45 1 Lib.objectInit ∈ ev_T := ev_in1 52 rfl rfl
end R2
