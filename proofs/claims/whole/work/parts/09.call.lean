section EW
variable {G : ev_G} {d bc bs : Nat} {M : ev_M} {Post : ev_P} {g : ev_H} {pc : Nat} {lv : List (Option Value)} {st : List Value}
/-- 'new' at this index makes an object of class ci, its fields fs -/
def ev_N (own : String) (idx ci : Nat) (fs : List Value) : Prop := ∃ (C : String) (T : u_T) (N : Nat) (ty0 : Nat → FieldType), vwCl[ci]? = some (C, T, N) ∧ fs.length = N ∧ Cond.classLink own idx C ∈ ev_T ∧ Cond.instantiable C N ∈ ev_T ∧ Cond.initialized C ∈ ev_T ∧ (∀ w ∈ u_ws C T N, w ∈ lw_tbl) ∧ (∀ w ∈ u_ws C T N, goodWord w = true) ∧ (∀ k, k < N → parseFieldDescriptor (T k).2.2.1 = some (ty0 k)) ∧ (∀ k, k < N → defaultValue (ty0 k) = vp_V fs k)
theorem ev_new {index ci b n : Nat} {fs : List Value} (hE : ev_En G) (hd : decode M.2.1 pc = .ok (.new index, 3)) (hN : ev_N M.1.cls index ci fs) (hb : b + 1 ≤ bc) (hn : n + fs.length ≤ bs) (k : ∀ q : Nat, g q = none → ev_V G d b n M Post (ev_up g q (.inr (ci, fs))) (pc + 3) lv (.ref q :: st)) : ev_V G d bc bs M Post g pc lv st := by
  intro p e s m args below meth c H locs cells slots mc ms ls hC hR hS hc hs hl
  obtain ⟨C, T, N, ty0, f1, f2, f3, f4, f5, f6, f7, f8, f9⟩ := hN
  obtain ⟨L, f, h1, h2, h3⟩ := hR
  refine va_new (Ts := ev_T) hC.1 hC.2.1 hC.2.2.2.2.2.2.1 (fun w hw => List.mem_filter.mpr ⟨f6 w hw, f7 w hw⟩) ty0 f8 hC.2.2.2.2.2.1 (hC.2.2.2.2.2.2.1 _ f3) (hC.2.2.2.2.2.2.1 _ f4) (hC.2.2.2.2.2.2.1 _ f5) (va_K.moved hC.2.2.2.2.2.2.2.1.1 hE.1) h2 h3 hS (fun q hq => Nat.le_trans hC.2.2.2.2.2.2.2.1.2.1 hq) f1 f9 (show cells + 1 ≤ mc by omega) (show slots + N ≤ ms by omega) hd (fun q H1 hP hD hS1 => ?_)
  obtain ⟨e1, e2⟩ := ev_R.push h1 hP hD
  exact k q e1 p e s m args below meth c H1 locs (cells + 1) (slots + N) mc ms ls hC e2 hS1 (by omega) (by omega) hl
theorem ev_RA {s : State} {c1 c2 : ClassId} {ty : FieldType} (hp : ∀ C, ty ≠ .object C) (h1 : va_RA s c1 ty) (h2 : va_RA s c2 ty) : c1 = c2 := by
  cases ty with
  | object C => exact absurd rfl (hp C)
  | _ => exact Option.some.inj (h1.symm.trans h2)

theorem ev_newa_int {b n N : Nat} {x : Int32} (hE : ev_En G) (hd : decode M.2.1 pc = .ok (.newarray .int, 2)) (hw : Cond.arrayClass .int ∈ ev_T) (hx : ¬ x < 0) (hN : x.toNatClampNeg = N) (hby : N * componentBytes .int ≤ 536870912) (hb : b + 1 ≤ bc) (hn : n + N ≤ bs) (k : ∀ q : Nat, g q = none → ev_V G d b n M Post (ev_up g q (.inl (G.2.2.2 0, N, .inl (fun _ => 0)))) (pc + 2) lv (.ref q :: st)) : ev_V G d bc bs M Post g pc lv (.int x :: st) := by
  intro p e s m args below meth c H locs cells slots mc ms ls hC hR hS hc hs hl
  obtain ⟨L, f, h1, h2, h3⟩ := hR
  have hK := va_K.moved hC.2.2.2.2.2.2.2.1.1 hE.1
  refine va_newa (atype := .int) (ty := .int) (a0 := (N, .inl (fun _ => 0))) hC.1 hC.2.1 (hC.2.2.2.2.2.2.1 _ hw) rfl hK h2 h3 hS (fun q hq => Nat.le_trans hC.2.2.2.2.2.2.2.1.2.1 hq) (fun _ => rfl) hx hN hby (show cells + 1 ≤ mc by omega) (show slots + N ≤ ms by omega) hd (fun q cA H1 hK1 hP hD hS1 => ?_)
  have hcA : cA = G.2.2.2 0 := ev_RA (fun C h => by cases h) (hK1.2 6 (cA, .int) rfl).2 (hK.2 0 (G.2.2.2 0, .int) rfl).2
  subst hcA
  obtain ⟨e1, e2⟩ := ev_R.push h1 hP hD
  exact k q e1 p e s m args below meth c H1 locs (cells + 1) (slots + N) mc ms ls hC e2 hS1 (by omega) (by omega) hl
theorem ev_newa_long {b n N : Nat} {x : Int32} (hE : ev_En G) (hd : decode M.2.1 pc = .ok (.newarray .long, 2)) (hw : Cond.arrayClass .long ∈ ev_T) (hx : ¬ x < 0) (hN : x.toNatClampNeg = N) (hby : N * componentBytes .long ≤ 536870912) (hb : b + 1 ≤ bc) (hn : n + N ≤ bs) (k : ∀ q : Nat, g q = none → ev_V G d b n M Post (ev_up g q (.inl (G.2.2.2 1, N, .inr (.inl (fun _ => 0))))) (pc + 2) lv (.ref q :: st)) : ev_V G d bc bs M Post g pc lv (.int x :: st) := by
  intro p e s m args below meth c H locs cells slots mc ms ls hC hR hS hc hs hl
  obtain ⟨L, f, h1, h2, h3⟩ := hR
  have hK := va_K.moved hC.2.2.2.2.2.2.2.1.1 hE.1
  refine va_newa (atype := .long) (ty := .long) (a0 := (N, .inr (.inl (fun _ => 0)))) hC.1 hC.2.1 (hC.2.2.2.2.2.2.1 _ hw) rfl hK h2 h3 hS (fun q hq => Nat.le_trans hC.2.2.2.2.2.2.2.1.2.1 hq) (fun _ => rfl) hx hN hby (show cells + 1 ≤ mc by omega) (show slots + N ≤ ms by omega) hd (fun q cA H1 hK1 hP hD hS1 => ?_)
  have hcA : cA = G.2.2.2 1 := ev_RA (fun C h => by cases h) (hK1.2 6 (cA, .long) rfl).2 (hK.2 1 (G.2.2.2 1, .long) rfl).2
  subst hcA
  obtain ⟨e1, e2⟩ := ev_R.push h1 hP hD
  exact k q e1 p e s m args below meth c H1 locs (cells + 1) (slots + N) mc ms ls hC e2 hS1 (by omega) (by omega) hl
theorem ev_newa_byte {b n N : Nat} {x : Int32} (hE : ev_En G) (hd : decode M.2.1 pc = .ok (.newarray .byte, 2)) (hw : Cond.arrayClass .byte ∈ ev_T) (hx : ¬ x < 0) (hN : x.toNatClampNeg = N) (hby : N * componentBytes .byte ≤ 536870912) (hb : b + 1 ≤ bc) (hn : n + N ≤ bs) (k : ∀ q : Nat, g q = none → ev_V G d b n M Post (ev_up g q (.inl (G.2.2.2 2, N, .inl (fun _ => 0)))) (pc + 2) lv (.ref q :: st)) : ev_V G d bc bs M Post g pc lv (.int x :: st) := by
  intro p e s m args below meth c H locs cells slots mc ms ls hC hR hS hc hs hl
  obtain ⟨L, f, h1, h2, h3⟩ := hR
  have hK := va_K.moved hC.2.2.2.2.2.2.2.1.1 hE.1
  refine va_newa (atype := .byte) (ty := .byte) (a0 := (N, .inl (fun _ => 0))) hC.1 hC.2.1 (hC.2.2.2.2.2.2.1 _ hw) rfl hK h2 h3 hS (fun q hq => Nat.le_trans hC.2.2.2.2.2.2.2.1.2.1 hq) (fun _ => rfl) hx hN hby (show cells + 1 ≤ mc by omega) (show slots + N ≤ ms by omega) hd (fun q cA H1 hK1 hP hD hS1 => ?_)
  have hcA : cA = G.2.2.2 2 := ev_RA (fun C h => by cases h) (hK1.2 6 (cA, .byte) rfl).2 (hK.2 2 (G.2.2.2 2, .byte) rfl).2
  subst hcA
  obtain ⟨e1, e2⟩ := ev_R.push h1 hP hD
  exact k q e1 p e s m args below meth c H1 locs (cells + 1) (slots + N) mc ms ls hC e2 hS1 (by omega) (by omega) hl
theorem ev_newa_bool {b n N : Nat} {x : Int32} (hE : ev_En G) (hd : decode M.2.1 pc = .ok (.newarray .boolean, 2)) (hw : Cond.arrayClass .boolean ∈ ev_T) (hx : ¬ x < 0) (hN : x.toNatClampNeg = N) (hby : N * componentBytes .boolean ≤ 536870912) (hb : b + 1 ≤ bc) (hn : n + N ≤ bs) (k : ∀ q : Nat, g q = none → ev_V G d b n M Post (ev_up g q (.inl (G.2.2.2 3, N, .inl (fun _ => 0)))) (pc + 2) lv (.ref q :: st)) : ev_V G d bc bs M Post g pc lv (.int x :: st) := by
  intro p e s m args below meth c H locs cells slots mc ms ls hC hR hS hc hs hl
  obtain ⟨L, f, h1, h2, h3⟩ := hR
  have hK := va_K.moved hC.2.2.2.2.2.2.2.1.1 hE.1
  refine va_newa (atype := .boolean) (ty := .boolean) (a0 := (N, .inl (fun _ => 0))) hC.1 hC.2.1 (hC.2.2.2.2.2.2.1 _ hw) rfl hK h2 h3 hS (fun q hq => Nat.le_trans hC.2.2.2.2.2.2.2.1.2.1 hq) (fun _ => rfl) hx hN hby (show cells + 1 ≤ mc by omega) (show slots + N ≤ ms by omega) hd (fun q cA H1 hK1 hP hD hS1 => ?_)
  have hcA : cA = G.2.2.2 3 := ev_RA (fun C h => by cases h) (hK1.2 6 (cA, .boolean) rfl).2 (hK.2 3 (G.2.2.2 3, .boolean) rfl).2
  subst hcA
  obtain ⟨e1, e2⟩ := ev_R.push h1 hP hD
  exact k q e1 p e s m args below meth c H1 locs (cells + 1) (slots + N) mc ms ls hC e2 hS1 (by omega) (by omega) hl
/-! entry -/
def ev_sl : Slot → Option Value
  | .val v => some v
  | _ => none
def ev_ent (As : List Value) (n : Nat) : List (Option Value) := (lg_sl As ++ List.replicate (n - (lg_sl As).length) Slot.unset).map ev_sl
theorem ev_ent_L (As : List Value) {n : Nat} (h : (lg_sl As).length ≤ n) : ev_L ((lg_sl As ++ List.replicate (n - (lg_sl As).length) Slot.unset).toArray) n (ev_ent As n) := by
  obtain ⟨h1, h2, -⟩ := lv_entry As h
  refine ⟨h1, h2, by rw [ev_ent, List.length_map]; simpa using h1, fun i v hi => ?_⟩
  rw [ev_ent, List.getElem?_map] at hi
  rw [List.getElem?_toArray]
  cases hq : (lg_sl As ++ List.replicate (n - (lg_sl As).length) Slot.unset)[i]? with
  | none => rw [hq] at hi; cases hi
  | some x =>
    rw [hq] at hi
    cases x with
    | val u => simp [ev_sl] at hi; rw [hi]
    | _ => simp [ev_sl] at hi
theorem ev_blind (As : List Value) : FrameBlind (ev_Pc G As g) := fun _ _ _ _ h => h
theorem ev_O.s0 {s : State} {H : Heap} (h : ev_O G s s.heap) (e : H = s.heap) : va_S (ev_A G) s.heap H [] := by
  subst e
  exact va_S.rf
theorem ev_entry {mc ms : Nat} {As : List Value} (hy : plainName M.1.cls = true) (hh : M.2.2.2.2 = []) (hn : (lg_sl As).length ≤ M.2.2.1) (k : ev_V G d mc ms M Post g 0 (ev_ent As M.2.2.1) []) : ev_C G d mc ms M As g Post := by
  obtain ⟨y, cc, ml, rt, tb⟩ := M
  dsimp only at hy hh hn
  subst hh
  refine vx_ofW (cc := cc) (maxL := ml) (ret := rt) hy rfl ?_
  intro p e s m args below meth c s₁ B hml hno hv
  obtain ⟨rfl, hR, hO⟩ := hv
  have hts := atoms_spec (ws := ev_ws (y, cc, ml, rt, [])) B.pre
  rw [lg_entry_eq]
  refine k p e s m As.toArray below meth c s.heap [] 0 0 mc ms _ ⟨B.exec, B.bytes, hml, B.returns, B.notSynchronized, findClass_of_methodNamed B.named, fun w hw => hts w (List.mem_cons_of_mem _ hw), hO, ?_, (name_of_methodNamed B.named B.method).1⟩ hR va_S.rf (by omega) (by omega) (ev_ent_L As hn)
  show c.exceptionTable.toList = []
  cases hq : c.exceptionTable.toList with
  | nil => rfl
  | cons x t => exact (hno x (by rw [hq]; exact List.mem_cons_self)).elim
theorem ev_entryH {mc ms : Nat} {As : List Value} {hh0 : Nat × Nat × Nat × Nat} {tt : List (Nat × Nat × Nat × Nat)} (hy : plainName M.1.cls = true) (hh : M.2.2.2.2 = hh0 :: tt) (hn : (lg_sl As).length ≤ M.2.2.1) (k : ev_V G d mc ms M Post g 0 (ev_ent As M.2.2.1) []) : ev_C G d mc ms M As g Post := by
  obtain ⟨y, cc, ml, rt, tb⟩ := M
  dsimp only at hy hh hn
  subst hh
  refine vx_ofWH (cc := cc) (maxL := ml) (ret := rt) (hh := hh0 :: tt) hy rfl ?_
  intro p e s m args below meth c s₁ B hml hv
  obtain ⟨rfl, hR, hO⟩ := hv
  have hts := atoms_spec (ws := ev_ws (y, cc, ml, rt, hh0 :: tt)) B.pre
  rw [lg_entry_eq]
  exact k p e s m As.toArray below meth c s.heap [] 0 0 mc ms _ ⟨B.exec, B.bytes, hml, B.returns, B.notSynchronized, findClass_of_methodNamed B.named, fun w hw => hts w (List.mem_cons_of_mem _ hw), hO, vx_table (x := y) B (hts _ List.mem_cons_self), (name_of_methodNamed B.named B.method).1⟩ hR va_S.rf (by omega) (by omega) (ev_ent_L As hn)
/-! calls -/
theorem ev_run {d mc' ms' b n : Nat} {Post' : ev_P} {a : Array Value} {st0 rest : List Value} (hb : b + mc' ≤ bc) (hn : n + ms' ≤ bs)
    (hr : ∀ (p : Program) (e : Env) (s : State) (m : MethodId) (args : Array Value) (below : List Frame) (meth : Method) (c : Code) (H : Heap) (locs : List Loc) (cells slots mc ms : Nat) (ls : Array Slot), ev_Cx G M p s m meth c args → ev_R G g H → va_S (ev_A G) s.heap H locs → cells + mc' ≤ mc → slots + ms' ≤ ms → ls.size = M.2.2.1 →
      vx_Run p G.1 e (ev_rm d mc ms) s m args below meth c H locs cells slots mc' ms' (F0 m pc ls st0) rest (ev_Q G Post' a) (ev_X G Post') (ev_A G))
    (k : ∀ (v : Option Value) (g' : ev_H), Post' (.inl v) g' → ev_V G d b n M Post g' (pc + 3) lv (v.toList ++ rest))
    (kx : ∀ (E : String) (g' : ev_H), Post' (.inr E) g' → ev_Vx G d b n M Post g' pc lv E) : ev_V G d bc bs M Post g pc lv st0 := by
  intro p e s m args below meth c H locs cells slots mc ms ls hC hR hS hc hs hl T hT X
  have hkeep : ∀ (T' t : State) (L : List Loc), Stand p G.1 e (ev_rm d mc ms) s m args below meth c T' (locs ++ L) (cells + mc') (slots + ms') → (∀ q ∈ L, ev_A G q.base) → T'.heap = t.heap → ev_O G t t.heap → va_S (ev_A G) s.heap T'.heap (locs ++ L) := by
    intro T' t L X' hL e1 hO
    refine ⟨(vx_frame X'.same).1, fun q hq hnA => ?_, fun q hq => (List.mem_append.mp hq).elim (hS.2.2 q) (hL q)⟩
    have hlt : q < G.2.1.heap.size := Nat.lt_of_not_le hnA
    rw [e1, hO.2.2.1 q hlt, hC.2.2.2.2.2.2.2.1.2.2.1 q hlt]
  rcases hr p e s m args below meth c H locs cells slots mc ms ls hC hR hS (by omega) (by omega) hl.1 T hT X with ⟨v, st₀, t, T', L, h0, X', hL, e1, e2, ⟨v', g', ho, hSt, hPo⟩, goes⟩ | ⟨q, st₀, t, T', L, E, ce, h0, X', hL, e1, e2, ⟨g', hSt, hPo⟩, hq, hv, hcl, goes⟩
  · cases ho
    obtain ⟨t2, a1, b1⟩ := k v g' hPo p e s m args below meth c T'.heap (locs ++ L) (cells + mc') (slots + ms') mc ms ls hC (by rw [e1]; exact hSt.1) (hkeep T' t L X' hL e1 hSt.2) (by omega) (by omega) hl T' rfl X'
    exact ⟨t2, goes t2 a1, b1⟩
  · obtain ⟨t2, a1, b1⟩ := kx E g' hPo p e s m args below meth c T'.heap (locs ++ L) (cells + mc') (slots + ms') mc ms ls rest q ce hC (by rw [e1]; exact hSt.1) (hkeep T' t L X' hL e1 hSt.2) (by omega) (by omega) hl (by rw [e1]; exact hq) hv hcl T' rfl X'
    exact ⟨t2, goes.trans a1, b1⟩
/-- a method's own words: its code is told, it isn't one of the odd classes, n arguments beside the receiver -/
def ev_K (M' : ev_M) (n : Nat) : Prop := ev_hd M' ∈ ev_T ∧ Cond.initialized M'.1.cls ∈ ev_T ∧ M'.1.cls ≠ "java/lang/invoke/MethodHandle" ∧ M'.1.cls ≠ "java/lang/invoke/VarHandle" ∧ (parseMethodDescriptor M'.1.desc).map (fun d => d.parameters.length) = some n ∧ M'.2.2.1 ≤ 45
theorem ev_good {big : List Cond} : GoodIn ev_T ev_T := fun w hw => ⟨hw, good_of_word (List.mem_filter.mp hw).2⟩
theorem ev_good1 {w : Cond} {ws : List Cond} (h : w ∈ ev_T) (hw : GoodIn ev_T ws) : GoodIn ev_T (w :: ws) := fun x hx => (List.mem_cons.mp hx).elim (fun e => by rw [e]; exact ⟨h, good_of_word (List.mem_filter.mp h).2⟩) (hw x)
theorem ev_wsg {M' : ev_M} (h : ev_hd M' ∈ ev_T) : GoodIn ev_T (ev_ws M') := ev_good1 h (ev_good (big := ev_T))
theorem ev_hd0 {M' : ev_M} (h : M'.2.2.2.2 = []) : ev_ws M' = Cond.code M'.1 M'.2.1 M'.2.2.1 M'.2.2.2.1 :: ev_T := by
  obtain ⟨y, cc, ml, rt, tb⟩ := M'
  dsimp only at h
  subst h
  rfl

theorem ev_callV {index n ci d' mc' ms' b k0 : Nat} {M' : ev_M} {Post' : ev_P} {r : Nat} {As rest : List Value} {fs : List Value} (hE : ev_En G) (hd : decode M.2.1 pc = .ok (.invokevirtual index, 3)) (hh : M'.2.2.2.2 = []) (hK : ev_K M' n) (hn : As.length = n) (hl1 : Cond.methodLink M.1.cls index M'.1 ∈ ev_T) (hl2 : Cond.instanceMethod M'.1 ∈ ev_T) (hl3 : Cond.selects M'.1.cls M'.1 M'.1 ∈ ev_T) (hg : g r = some (.inr (ci, fs))) (hci : (vwCl[ci]?).map (fun q => q.1) = some M'.1.cls) (hr : (rest.map fun v => v.category).sum ≤ 8) (hdd : d' + 1 ≤ d) (hM : ev_C G d' mc' ms' M' (.ref r :: As) g Post') (hb : b + mc' ≤ bc) (hs0 : k0 + ms' ≤ bs)
    (k : ∀ (v : Option Value) (g' : ev_H), Post' (.inl v) g' → ev_V G d b k0 M Post g' (pc + 3) lv (v.toList ++ rest))
    (kx : ∀ (E : String) (g' : ev_H), Post' (.inr E) g' → ev_Vx G d b k0 M Post g' pc lv E) : ev_V G d bc bs M Post g pc lv (As.reverse ++ .ref r :: rest) := by
  refine ev_run (mc' := mc') (ms' := ms') (Post' := Post') (a := (.ref r :: As).toArray) (rest := rest) hb hs0 ?_ k kx
  intro p e s m args below meth c H locs cells slots mc ms ls hC hR hS hc hs hl
  obtain ⟨k1, k2, k3, k4, k5, k6⟩ := hK
  have hts := hC.2.2.2.2.2.2.1
  have hU : ∀ U : State, U.heap = H → s.WarmedH U.vm → ev_Pc G (.ref r :: As) g (.ref r :: As).toArray U := fun U hU hW => ⟨rfl, by rw [hU]; exact hR, by rw [hU]; exact (hC.2.2.2.2.2.2.2.1.of hS).to hW⟩
  obtain ⟨L, f, q, h1, h2, h3, h4, h5, h6⟩ := hR.get hg
  obtain ⟨x, hx, hx2⟩ : ∃ x, vwCl[ci]? = some x ∧ x.1 = M'.1.cls := by
    cases hx : vwCl[ci]? with
    | none => rw [hx] at hci; cases hci
    | some x => rw [hx] at hci; exact ⟨x, rfl, Option.some.inj hci⟩
  exact vx_runV ⟨hC.1, hC.2.1, hC.2.2.1, hC.2.2.2.2.2.1, hts⟩ hM (cwV n hts (ev_good1 hl1 (ev_good1 hl2 (ev_good1 hl3 (ev_good1 k2 (ev_wsg k1))))) (ev_hd0 hh) rfl rfl ⟨rfl, k3, k4, k5⟩ ⟨show d' + 1 ≤ d from hdd, show 8 + (M'.2.2.1 + 11) + 64 * d' ≤ 64 * d by omega⟩) ⟨ev_blind _, by rw [← hx2]; exact va_recv (va_K.moved hC.2.2.2.2.2.2.2.1.1 hE.1) h2 hx h4, hU⟩ rfl hn hl rfl (by simpa [JFrame.monitorRoom] using hr) hd ⟨hc, hs⟩
theorem ev_callS {index n ci d' mc' ms' b k0 : Nat} {M' : ev_M} {Post' : ev_P} {r : Nat} {As rest : List Value} {fs : List Value}  (hd : decode M.2.1 pc = .ok (.invokestatic index, 3)) (hh : M'.2.2.2.2 = []) (hK : ev_K M' n) (hn : As.length = n) (hl1 : Cond.methodLink M.1.cls index M'.1 ∈ ev_T) (hl2 : Cond.static M'.1 ∈ ev_T) (hr : (rest.map fun v => v.category).sum ≤ 8) (hdd : d' + 1 ≤ d) (hM : ev_C G d' mc' ms' M' (As) g Post') (hb : b + mc' ≤ bc) (hs0 : k0 + ms' ≤ bs)
    (k : ∀ (v : Option Value) (g' : ev_H), Post' (.inl v) g' → ev_V G d b k0 M Post g' (pc + 3) lv (v.toList ++ rest))
    (kx : ∀ (E : String) (g' : ev_H), Post' (.inr E) g' → ev_Vx G d b k0 M Post g' pc lv E) : ev_V G d bc bs M Post g pc lv (As.reverse ++ rest) := by
  refine ev_run (mc' := mc') (ms' := ms') (Post' := Post') (a := (As).toArray) (rest := rest) hb hs0 ?_ k kx
  intro p e s m args below meth c H locs cells slots mc ms ls hC hR hS hc hs hl
  obtain ⟨k1, k2, k3, k4, k5, k6⟩ := hK
  have hts := hC.2.2.2.2.2.2.1
  have hU : ∀ U : State, U.heap = H → s.WarmedH U.vm → ev_Pc G (As) g (As).toArray U := fun U hU hW => ⟨rfl, by rw [hU]; exact hR, by rw [hU]; exact (hC.2.2.2.2.2.2.2.1.of hS).to hW⟩
  exact vx_runS ⟨hC.1, hC.2.1, hC.2.2.1, hC.2.2.2.2.2.1, hts⟩ hM ⟨callB_of n hts (ev_wsg k1) (ev_hd0 hh) rfl rfl (hts _ k2) (hts _ hl1) ⟨k3, k4, k5⟩ ⟨show d' + 1 ≤ d from hdd, show 8 + (M'.2.2.1 + 11) + 64 * d' ≤ 64 * d by omega⟩, hts _ hl2⟩ ⟨ev_blind _, hU⟩ rfl hn hl rfl (by simpa [JFrame.monitorRoom] using hr) hd ⟨hc, hs⟩
end EW
