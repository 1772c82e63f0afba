section R0
variable {p : Program} {l : Launch} {e : Env} {R : Room} {s : State} {m : MethodId} {args : Array Value} {below : List Frame} {meth : Method} {c : Code} {H : Heap} {locs : List Loc} {cells slots : Nat} {Q : State → Prop}
variable {mc ms : Nat} {free : Addr → Prop} {A0 A1 : Nat → Prop} {H0 : Heap} {a : Array Value} {ls : Array Slot} {st0 rest : List Value}
variable {Qc : Array Value → State → Outcome → State → Prop} {XC : String → State → State → Prop}
/-! vx_throwS, vx_throwSW, with what they leave told by WarmedH -/
theorem vy_throwS {cc : ByteArray} {pc : Nat} (hexec : p.tables.exec = Jvm.exec) (hb : c.code = cc) (hl : l.stackTraces = false) {own cls text : String} {names : List String} {ik is ic mc ms sa : Nat} {A : Nat → Prop}
    (hown : s.vm.findClass own = some m.cls) (hcls : Bundle.fit cls = true) (hnames : ∀ n ∈ names, Bundle.fit n = true)
    (hk : (Cond.classLink own ik cls).before args s = true) (hini : (Cond.initialized cls).before args s = true) (hstr : vk_R own is text sa s) (hat : ∀ w ∈ vx_atS own ic cls names, w.before args s = true)
    (hgood : ∀ w ∈ Cond.classLink own ik cls :: Cond.initialized cls :: vx_atS own ic cls names, vx_ot w = true)
    (hU : vx_Zq Bundle.tN "UNASSIGNED_STACK" Bundle.steD A s s.heap) (hN : vx_Zq Bundle.tN "SUPPRESSED_SENTINEL" Bundle.listD A s s.heap) (hS : va_S A s.heap H locs) (hsize : ls.size = c.maxLocals)
    (d0 : decode cc pc = .ok (.new ik, 3)) (d3 : decode cc (pc + 3) = .ok (.dup, 1)) (d4 : decode cc (pc + 4) = .ok (.ldc is, 2)) (d6 : decode cc (pc + 6) = .ok (.invokespecial ic, 3)) (d9 : decode cc (pc + 9) = .ok (.athrow, 1))
    (hout : ∀ x ∈ c.exceptionTable.toList, covers x (pc + 9) = false)
    (hRframes : names.length + 3 < R.frames) (hRlocals : (rest.map fun v => v.category).sum + (13 * (names.length + 1) + 43) ≤ R.locals) (hRcells : cells + 1 ≤ R.cells) (hRslots : slots + 6 ≤ R.slots) (hlocks : meth.locks = false)
    (hx : ∀ t : State, s.WarmedH t.vm → H.size ≤ t.heap.size → (∀ q : Nat, q < H.size → t.heap[q]? = H[q]?) → XC cls s t)
    (hf : ∀ z ∈ locs, free z.base) (hc : cells + 1 ≤ mc) (hs : slots + 6 ≤ ms) :
    W p l e R s m args below meth c H locs cells slots (vx_MQ below Qc XC args s mc ms free) (F0 m pc ls rest) := by
  intro T hT X
  have htr : e.platform.stackTraces = false := (show e.platform.stackTraces = l.stackTraces by rw [X.admits.platform]).trans hl
  have Y := vx_rebase X (R' := { frames := R.frames, locals := R.locals, cells := 1, slots := 6 }) (Nat.le_refl _) (Nat.le_refl _) hRcells hRslots
  obtain ⟨s', hA⟩ : ∃ z, z = (T.setVm s.vm).setFrames (.invoking m args :: below) := ⟨_, rfl⟩
  rw [← hA] at Y
  have hvm : s'.vm = s.vm := by rw [hA]; rfl
  have hhp : s'.heap = H := by rw [hA]; exact hT
  have hW0 : s.WarmedH s'.vm := by rw [hvm]; exact State.WarmedH.refl s
  have hat' : ∀ w ∈ vx_atS own ic cls names, w.before args s' = true := fun w hw => vx_ot_at hW0 hvm.symm (hgood w (List.mem_cons_of_mem _ (List.mem_cons_of_mem _ hw))) (hat w hw)
  have hk' : (Cond.classLink own ik cls).before args s' = true := vx_ot_at hW0 hvm.symm (hgood _ List.mem_cons_self) hk
  have hini' : (Cond.initialized cls).before args s' = true := vx_ot_at hW0 hvm.symm (hgood _ (List.mem_cons_of_mem _ List.mem_cons_self)) hini
  have hU' : vx_Zq Bundle.tN "UNASSIGNED_STACK" Bundle.steD A s' s'.heap := by rw [hhp]; exact vx_Zq.moved hW0.alike (hU.kept hS.2.1)
  have hN' : vx_Zq Bundle.tN "SUPPRESSED_SENTINEL" Bundle.listD A s' s'.heap := by rw [hhp]; exact vx_Zq.moved hW0.alike (hN.kept hS.2.1)
  have h : ∀ w ∈ Bundle.ownAtoms own ic cls names, w.before args s' = true := vx_own hat' (vx_isRefq hU'.1) (vx_isRefq hN'.1) hU'.2.word hN'.2.word
  have hown' : s'.vm.findClass own = some m.cls := by rw [hvm]; exact hown
  have hins : (Cond.instantiable cls 6).before args s' = true := h _ (by simp [Bundle.ownAtoms])
  obtain ⟨vm₁, cX, kX, hfX, hkX, -, -, X₁, st1⟩ := Y.newCold hexec (own := own) (C := cls) (index := ik) (n := 6) hown' hk' hins hini'
    (g := F0 m pc ls rest) rfl (by rw [hb]; exact d0) (Nat.le_refl _) (Nat.le_refl _)
  generalize hT1 : (T.setVm vm₁).pushCell { cls := cX, slots := kX.instanceTypes.map defaultValue, vm := .none } = T1 at X₁ st1
  have hcat : (Value.ref T.heap.size).category = 1 := rfl
  have hcellA : T1.heap[T.heap.size]? = some (freshCell cX kX) := by rw [← hT1]; exact State.heap_pushCell_size _ _
  have d3' : decode c.code (pc + 3) = .ok (.dup, 1) := by rw [hb]; exact d3
  have d4' : decode c.code (pc + 4) = .ok (.ldc is, 2) := by rw [hb]; exact d4
  have hstr' : vk_R own is text sa s' := vk_R.warm hW0 hstr
  obtain ⟨U, hsteps, hrun, hend, hW, hsame, ce, hce, hO⟩ := X₁.ctorThrowS hexec htr (own := own) (cls := cls) (names := names) (ic := ic) hown' hcls hnames h (fun x hx => nomatch hx) hfX hkX hcellA (by rw [hhp, hT]; exact Nat.le_refl _) (msg := .ref sa) rfl
    (g := { method := m, pc := pc + 6, locals := ls, stack := .ref sa :: .ref T.heap.size :: .ref T.heap.size :: rest, locked := none }) rfl hsize rfl rfl (rest := rest) rfl
    (by rw [hb]; exact d6) (by rw [hb]; exact d9) hout hRframes (by simp only [List.map_cons, List.sum_cons, hcat]; omega) hlocks
  obtain ⟨f1, f2⟩ := vx_frame hsame
  rw [hhp] at f1 f2
  have hWs : s.WarmedH U.vm := State.WarmedH.trans hW0 hW
  have hcl : s.vm.findClass cls = some ce.cls := by
    have h9 := hO.cls
    rw [hvm] at h9
    exact h9
  have hall : s.sameButNew ({ U with vm := s.vm } : State) locs mc ms := by
    subst hA
    obtain ⟨e1, e2⟩ := hsame
    rw [State.setFrames_setFrames] at e1
    have h2 : (T.setVm s.vm).sameButNew ({ U with vm := s.vm } : State) [] (0 + 1) (0 + 6) := ⟨e1, e2⟩
    have h3 := X.same.trans h2
    rw [List.append_nil] at h3
    exact h3.mono hc hs
  refine ⟨U, ?_, .threw T.heap.size, hrun, hend, Or.inr ⟨T.heap.size, rfl, cls, ce, locs, hx U hWs f1 (fun q hq => f2 q hq (fun z hz => nomatch hz)), hce, hO.vm, hcl, hWs, hall, hf⟩⟩
  refine st1 _ ?_
  show Steps p.tables e below (T1.setTop { method := m, pc := pc + 3, locals := ls, stack := .ref T.heap.size :: rest, locked := none }) _
  jvm_step X₁.here [X₁.here.top, hexec, d3', Value.category]
  exact X₁.ldcString hexec (own := own) (text := text) (index := is) (a := sa) hown' hstr'.1 hstr'.2
    (g := { method := m, pc := pc + 4, locals := ls, stack := .ref T.heap.size :: .ref T.heap.size :: rest, locked := none }) rfl d4' _ hsteps
theorem vy_throwSW {cc : ByteArray} {pc : Nat} (hexec : p.tables.exec = Jvm.exec) (hb : c.code = cc) (hl : l.stackTraces = false) {own cls text : String} {names : List String} {ik is ic mc ms sa : Nat} {A : Nat → Prop}
    (hown : s.vm.findClass own = some m.cls) (hcls : Bundle.fit cls = true) (hnames : ∀ n ∈ names, Bundle.fit n = true)
    (hk : (Cond.classLink own ik cls).before args s = true) (hini : (Cond.initialized cls).before args s = true) (hstr : vk_R own is text sa s) (hat : ∀ w ∈ vx_atS own ic cls names, w.before args s = true)
    (hgood : ∀ w ∈ Cond.classLink own ik cls :: Cond.initialized cls :: vx_atS own ic cls names, vx_ot w = true)
    (hU : vx_Zq Bundle.tN "UNASSIGNED_STACK" Bundle.steD A s s.heap) (hN : vx_Zq Bundle.tN "SUPPRESSED_SENTINEL" Bundle.listD A s s.heap) (hS : va_S A s.heap H locs) (hsize : ls.size = c.maxLocals)
    (d0 : decode cc pc = .ok (.new ik, 3)) (d3 : decode cc (pc + 3) = .ok (.dup, 1)) (d4 : decode cc (pc + 4) = .ok (.ldc_w is, 3)) (d7 : decode cc (pc + 7) = .ok (.invokespecial ic, 3)) (d10 : decode cc (pc + 10) = .ok (.athrow, 1))
    (hout : ∀ x ∈ c.exceptionTable.toList, covers x (pc + 10) = false)
    (hRframes : names.length + 3 < R.frames) (hRlocals : (rest.map fun v => v.category).sum + (13 * (names.length + 1) + 43) ≤ R.locals) (hRcells : cells + 1 ≤ R.cells) (hRslots : slots + 6 ≤ R.slots) (hlocks : meth.locks = false)
    (hx : ∀ t : State, s.WarmedH t.vm → H.size ≤ t.heap.size → (∀ q : Nat, q < H.size → t.heap[q]? = H[q]?) → XC cls s t)
    (hf : ∀ z ∈ locs, free z.base) (hc : cells + 1 ≤ mc) (hs : slots + 6 ≤ ms) :
    W p l e R s m args below meth c H locs cells slots (vx_MQ below Qc XC args s mc ms free) (F0 m pc ls rest) := by
  intro T hT X
  have htr : e.platform.stackTraces = false := (show e.platform.stackTraces = l.stackTraces by rw [X.admits.platform]).trans hl
  have Y := vx_rebase X (R' := { frames := R.frames, locals := R.locals, cells := 1, slots := 6 }) (Nat.le_refl _) (Nat.le_refl _) hRcells hRslots
  obtain ⟨s', hA⟩ : ∃ z, z = (T.setVm s.vm).setFrames (.invoking m args :: below) := ⟨_, rfl⟩
  rw [← hA] at Y
  have hvm : s'.vm = s.vm := by rw [hA]; rfl
  have hhp : s'.heap = H := by rw [hA]; exact hT
  have hW0 : s.WarmedH s'.vm := by rw [hvm]; exact State.WarmedH.refl s
  have hat' : ∀ w ∈ vx_atS own ic cls names, w.before args s' = true := fun w hw => vx_ot_at hW0 hvm.symm (hgood w (List.mem_cons_of_mem _ (List.mem_cons_of_mem _ hw))) (hat w hw)
  have hk' : (Cond.classLink own ik cls).before args s' = true := vx_ot_at hW0 hvm.symm (hgood _ List.mem_cons_self) hk
  have hini' : (Cond.initialized cls).before args s' = true := vx_ot_at hW0 hvm.symm (hgood _ (List.mem_cons_of_mem _ List.mem_cons_self)) hini
  have hU' : vx_Zq Bundle.tN "UNASSIGNED_STACK" Bundle.steD A s' s'.heap := by rw [hhp]; exact vx_Zq.moved hW0.alike (hU.kept hS.2.1)
  have hN' : vx_Zq Bundle.tN "SUPPRESSED_SENTINEL" Bundle.listD A s' s'.heap := by rw [hhp]; exact vx_Zq.moved hW0.alike (hN.kept hS.2.1)
  have h : ∀ w ∈ Bundle.ownAtoms own ic cls names, w.before args s' = true := vx_own hat' (vx_isRefq hU'.1) (vx_isRefq hN'.1) hU'.2.word hN'.2.word
  have hown' : s'.vm.findClass own = some m.cls := by rw [hvm]; exact hown
  have hins : (Cond.instantiable cls 6).before args s' = true := h _ (by simp [Bundle.ownAtoms])
  obtain ⟨vm₁, cX, kX, hfX, hkX, -, -, X₁, st1⟩ := Y.newCold hexec (own := own) (C := cls) (index := ik) (n := 6) hown' hk' hins hini'
    (g := F0 m pc ls rest) rfl (by rw [hb]; exact d0) (Nat.le_refl _) (Nat.le_refl _)
  generalize hT1 : (T.setVm vm₁).pushCell { cls := cX, slots := kX.instanceTypes.map defaultValue, vm := .none } = T1 at X₁ st1
  have hcat : (Value.ref T.heap.size).category = 1 := rfl
  have hcellA : T1.heap[T.heap.size]? = some (freshCell cX kX) := by rw [← hT1]; exact State.heap_pushCell_size _ _
  have d3' : decode c.code (pc + 3) = .ok (.dup, 1) := by rw [hb]; exact d3
  have d4' : decode c.code (pc + 4) = .ok (.ldc_w is, 3) := by rw [hb]; exact d4
  have hstr' : vk_R own is text sa s' := vk_R.warm hW0 hstr
  obtain ⟨U, hsteps, hrun, hend, hW, hsame, ce, hce, hO⟩ := X₁.ctorThrowS hexec htr (own := own) (cls := cls) (names := names) (ic := ic) hown' hcls hnames h (fun x hx => nomatch hx) hfX hkX hcellA (by rw [hhp, hT]; exact Nat.le_refl _) (msg := .ref sa) rfl
    (g := { method := m, pc := pc + 7, locals := ls, stack := .ref sa :: .ref T.heap.size :: .ref T.heap.size :: rest, locked := none }) rfl hsize rfl rfl (rest := rest) rfl
    (by rw [hb]; exact d7) (by rw [hb]; exact d10) hout hRframes (by simp only [List.map_cons, List.sum_cons, hcat]; omega) hlocks
  obtain ⟨f1, f2⟩ := vx_frame hsame
  rw [hhp] at f1 f2
  have hWs : s.WarmedH U.vm := State.WarmedH.trans hW0 hW
  have hcl : s.vm.findClass cls = some ce.cls := by
    have h9 := hO.cls
    rw [hvm] at h9
    exact h9
  have hall : s.sameButNew ({ U with vm := s.vm } : State) locs mc ms := by
    subst hA
    obtain ⟨e1, e2⟩ := hsame
    rw [State.setFrames_setFrames] at e1
    have h2 : (T.setVm s.vm).sameButNew ({ U with vm := s.vm } : State) [] (0 + 1) (0 + 6) := ⟨e1, e2⟩
    have h3 := X.same.trans h2
    rw [List.append_nil] at h3
    exact h3.mono hc hs
  refine ⟨U, ?_, .threw T.heap.size, hrun, hend, Or.inr ⟨T.heap.size, rfl, cls, ce, locs, hx U hWs f1 (fun q hq => f2 q hq (fun z hz => nomatch hz)), hce, hO.vm, hcl, hWs, hall, hf⟩⟩
  refine st1 _ ?_
  show Steps p.tables e below (T1.setTop { method := m, pc := pc + 3, locals := ls, stack := .ref T.heap.size :: rest, locked := none }) _
  jvm_step X₁.here [X₁.here.top, hexec, d3', Value.category]
  exact X₁.ldcStringW hexec (own := own) (text := text) (index := is) (a := sa) hown' hstr'.1 hstr'.2
    (g := { method := m, pc := pc + 4, locals := ls, stack := .ref T.heap.size :: .ref T.heap.size :: rest, locked := none }) rfl d4' _ hsteps
end R0
section R1
variable {G : ev_G} {d bc bs : Nat} {M : ev_M} {Post : ev_P} {g : ev_H} {pc : Nat} {lv : List (Option Value)} {st : List Value}
/-- words of the tables that a room is not kept by -/
def ev_nw : List Cond := [.castable "java/lang/IllegalArgumentException" "java/lang/IllegalArgumentException", .castable "java/lang/IllegalStateException" "java/lang/IllegalStateException", .castable "java/lang/IndexOutOfBoundsException" "java/lang/IndexOutOfBoundsException", .castable RX5 "java/lang/Object", .castable RX8 "java/lang/Object", .castable RX4 "java/lang/Object", .castable RX0 "java/lang/Object", .castable "[I" "java/lang/Cloneable", .declares ⟨"java/lang/RuntimeException", "<init>", "(Ljava/lang/String;)V"⟩, .declares ⟨"java/lang/Exception", "<init>", "(Ljava/lang/String;)V"⟩, .declares ⟨"java/lang/Throwable", "<init>", "(Ljava/lang/String;)V"⟩]
def ev_nn : List (String × Nat × MethodName) := [(RX3, 22, yX11_kilogramsFor), (RX5, 45, yX1_init), (RX5, 52, yX9_init), (RX7, 96, yX11_within), (RX11, 47, yX7_init), (RX11, 54, yX10_init), (RX11, 61, yX6_init), (RX11, 68, yX2_init), (RX11, 75, yX3_init)]
def ev_tx : List Nat := [95, 158, 241, 342, 351, 353, 355]
/-- the texts of the class' reader -/
def ev_rl : List (Nat × List Nat) := [(100, [112, 97, 114, 116, 32, 112, 97, 103, 101, 115, 32, 112, 114, 105, 99, 101, 32, 102, 105, 110, 101, 32, 110, 101, 119, 32, 115, 119, 97, 112, 32, 119, 97, 115, 116, 101, 32, 108, 101, 97, 115, 116, 32, 114, 101, 115, 116, 32, 119, 97, 121]), (180, [98, 97, 115, 101, 32, 99, 111, 112, 105, 101, 115, 32, 112, 97, 103, 101, 115, 32, 112, 114, 105, 99, 101, 32, 107, 105, 110, 100, 32, 109, 111, 110, 116, 104, 32, 115, 116, 111, 99, 107, 32, 117, 115, 101, 100, 32, 109, 105, 110, 32, 109, 97, 120, 32, 105, 102]), (153, [100, 97, 105, 108, 121, 32, 119, 101, 101, 107, 108, 121, 32, 112, 97, 114, 116, 121]), (139, [109, 111, 115, 116, 32, 107, 101, 101, 112]), (148, [98, 97, 115, 101, 32, 112, 111, 105, 110, 116, 115, 32, 97, 108, 105, 107, 101, 32, 98, 105, 100, 115])]
/-- what is known of the start, all; D0: the empty array of lists -/
def ev_En4 (G : ev_G) (D0 : Nat) : Prop := ev_En3 G ∧ (vx_Zq Bundle.tN "UNASSIGNED_STACK" Bundle.steD (ev_A G) G.2.1 G.2.1.heap ∧ vx_Zq Bundle.tN "SUPPRESSED_SENTINEL" Bundle.listD (ev_A G) G.2.1 G.2.1.heap) ∧ (va_Z "java/util/ArrayList" "DEFAULTCAPACITY_EMPTY_ELEMENTDATA" "[Ljava/lang/Object;" (.ref D0) (ev_A G) G.2.1 G.2.1.heap ∧ va_T (.object "java/lang/Object") D0 0 (fun _ => .null) (ev_A G) G.2.1 G.2.1.heap) ∧ (∀ w ∈ ev_nw, va_Nw w G.2.1) ∧ (∀ q ∈ ev_nn, va_Nw (.methodLinkNest q.1 q.2.1 q.2.2 RX11) G.2.1) ∧ (∀ i ∈ ev_tx, ∃ (tx : String) (a : Nat), vk_R RX11 i tx a G.2.1) ∧ (∀ q ∈ ev_rl, ev_lit G RX7 q.1 q.2) ∧ (∃ mi, va_Mi "[Ljava/lang/Object;" mi G.2.1) ∧ va_Dc G.2.1 ∧ va_AO "java/lang/Object" G.2.1 ∧ va_Nw (.arrayOver (.array .int)) G.2.1
theorem ev_out {E : String} (hh : M.2.2.2.2 = []) (hP : Post (.inr E) g) : ev_Vx G d bc bs M Post g pc lv E := by
  intro p e s m args below meth c H locs cells slots mc ms ls rest q ce hC hR hS hc hs hl hq hv hcl T hT X
  have hout : ∀ x ∈ c.exceptionTable.toList, covers x pc = false := fun x hx => by
    rw [hC.2.2.2.2.2.2.2.2.1, hh] at hx
    have hx : x ∈ ([] : List ExceptionTableEntry) := hx
    cases hx
  obtain ⟨st1, hrun, hend, hW, hsm⟩ := X.leaveThrown q (g := F0 m pc ls rest) rfl rfl rfl hout hC.2.2.2.2.1
  have hcell9 : (T.setFrames (.throwing q :: below)).heap[q]? = some ce := by
    show T.heap[q]? = some ce
    rw [hT]; exact hq
  have h9 := (hC.2.2.2.2.2.2.2.1.of hS).to hW
  refine ⟨_, st1, .threw q, hrun, hend, Or.inr ⟨q, rfl, E, ce, locs, ⟨g, ⟨?_, ?_⟩, hP⟩, hcell9, hv, hcl, hW, hsm.mono (by omega) (by omega), hS.2.2⟩⟩
  · show ev_R G g T.heap
    rw [hT]; exact hR
  · show ev_O G _ T.heap
    rw [hT]; exact h9
theorem vx_Zq.at {s : State} {C n dd : String} (h : ev_O G s s.heap) (hT : vx_Zq C n dd (ev_A G) G.2.1 G.2.1.heap) : vx_Zq C n dd (ev_A G) s s.heap := (hT.moved h.1).kept (fun a ha _ => h.2.2.1 a ha)
theorem ev_O.nw {s : State} {C T : String} {a : Array Value} (h : ev_O G s s.heap) (hT : va_Nw (.castable C T) G.2.1) : (Cond.castable C T).before a s = true := va_Nw.use rfl (va_Nw.warmC h.2.2.2 hT)
theorem ev_O.nd {s : State} {y : MethodName} {a : Array Value} (h : ev_O G s s.heap) (hT : va_Nw (.declares y) G.2.1) : (Cond.declares y).before a s = true := va_Nw.use rfl (va_Nw.warmD h.2.2.2 hT)
/-- the words of a throw of E at this index -/
def ev_th (ic : Nat) (E : String) : Prop := (∀ w ∈ vx_atS RX11 ic E ["java/lang/RuntimeException", "java/lang/Exception"], vx_ot w = true) ∧ (∀ w ∈ (vx_atS RX11 ic E ["java/lang/RuntimeException", "java/lang/Exception"]).filter goodWord, w ∈ ev_T) ∧ ∀ w ∈ (vx_atS RX11 ic E ["java/lang/RuntimeException", "java/lang/Exception"]).filter (fun w => !goodWord w), w ∈ ([.castable E E, .declares ⟨"java/lang/RuntimeException", "<init>", "(Ljava/lang/String;)V"⟩, .declares ⟨"java/lang/Exception", "<init>", "(Ljava/lang/String;)V"⟩, .declares ⟨"java/lang/Throwable", "<init>", "(Ljava/lang/String;)V"⟩] : List Cond)

theorem ev_th_97 : ev_th 97 "java/lang/IllegalStateException" := by
  refine ⟨by decide +kernel, fun w hw => ?_, by decide +kernel⟩
  have h : ∀ w ∈ (vx_atS RX11 97 "java/lang/IllegalStateException" ["java/lang/RuntimeException", "java/lang/Exception"]).filter goodWord, w ∈ tables_1 := by decide +kernel
  have h2 : ∀ w ∈ (vx_atS RX11 97 "java/lang/IllegalStateException" ["java/lang/RuntimeException", "java/lang/Exception"]).filter goodWord, goodWord w = true := fun w hw => (List.mem_filter.mp hw).2
  exact List.mem_filter.mpr ⟨List.mem_append_right _ (h w hw), h2 w hw⟩
theorem ev_th_160 : ev_th 160 "java/lang/IndexOutOfBoundsException" := by
  refine ⟨by decide +kernel, fun w hw => ?_, by decide +kernel⟩
  have h : ∀ w ∈ (vx_atS RX11 160 "java/lang/IndexOutOfBoundsException" ["java/lang/RuntimeException", "java/lang/Exception"]).filter goodWord, w ∈ tables_1 := by decide +kernel
  have h2 : ∀ w ∈ (vx_atS RX11 160 "java/lang/IndexOutOfBoundsException" ["java/lang/RuntimeException", "java/lang/Exception"]).filter goodWord, goodWord w = true := fun w hw => (List.mem_filter.mp hw).2
  exact List.mem_filter.mpr ⟨List.mem_append_right _ (h w hw), h2 w hw⟩
theorem ev_th_344 : ev_th 344 "java/lang/IllegalArgumentException" := by
  refine ⟨by decide +kernel, fun w hw => ?_, by decide +kernel⟩
  have h : ∀ w ∈ (vx_atS RX11 344 "java/lang/IllegalArgumentException" ["java/lang/RuntimeException", "java/lang/Exception"]).filter goodWord, w ∈ tables_1 := by decide +kernel
  have h2 : ∀ w ∈ (vx_atS RX11 344 "java/lang/IllegalArgumentException" ["java/lang/RuntimeException", "java/lang/Exception"]).filter goodWord, goodWord w = true := fun w hw => (List.mem_filter.mp hw).2
  exact List.mem_filter.mpr ⟨List.mem_append_right _ (h w hw), h2 w hw⟩
theorem ev_throwS {ik is ic D0 : Nat} {E : String} (hE : ev_En G) (h4 : ev_En4 G D0) (hX : M.1.cls = RX11) (hh : M.2.2.2.2 = []) (d0 : decode M.2.1 pc = .ok (.new ik, 3)) (d3 : decode M.2.1 (pc + 3) = .ok (.dup, 1)) (d4 : decode M.2.1 (pc + 4) = .ok (.ldc is, 2)) (d6 : decode M.2.1 (pc + 6) = .ok (.invokespecial ic, 3)) (d9 : decode M.2.1 (pc + 9) = .ok (.athrow, 1)) (his : is ∈ ev_tx) (hk : Cond.classLink RX11 ik E ∈ ev_T) (hi : Cond.initialized E ∈ ev_T) (hth : ev_th ic E) (hce : Cond.castable E E ∈ ev_nw) (hEf : Bundle.fit E = true) (hd : 6 ≤ d) (hst : (st.map fun v => v.category).sum ≤ 8) (hb : 1 ≤ bc) (hs0 : 6 ≤ bs) (hP : Post (.inr E) g) : ev_V G d bc bs M Post g pc lv st := by
  intro p e s m args below meth c H locs cells slots mc ms ls hC hR hS hc hs hl
  obtain ⟨e3, ⟨z1, z2⟩, -, n1, -, tx, -⟩ := h4
  obtain ⟨txt, sa, hsa⟩ := tx is his
  have hO := hC.2.2.2.2.2.2.2.1
  have hW := hC.2.2.2.2.2.2.1
  refine vy_throwS hC.1 hC.2.1 hE.2 (own := RX11) (cls := E) (names := ["java/lang/RuntimeException", "java/lang/Exception"]) (ik := ik) (is := is) (ic := ic) (A := ev_A G) (sa := sa) (text := txt) (by rw [← hX]; exact hC.2.2.2.2.2.1) hEf (by decide +kernel) (hW _ hk) (hW _ hi) (vk_R.warm hO.2.2.2 hsa) ?_ ?_ (vx_Zq.at hO z1) (vx_Zq.at hO z2) hS (hl.1.trans hC.2.2.1.symm) d0 d3 d4 d6 d9 ?_ (show 2 + 3 < d by omega) ?_ (show cells + 1 ≤ mc by omega) (show slots + 6 ≤ ms by omega) hC.2.2.2.2.1 (fun t hWt h1 h2 => ⟨g, ⟨?_, ?_⟩, hP⟩) hS.2.2 (by omega) (by omega)
  · refine vx_hat (B := [.castable E E, .declares ⟨"java/lang/RuntimeException", "<init>", "(Ljava/lang/String;)V"⟩, .declares ⟨"java/lang/Exception", "<init>", "(Ljava/lang/String;)V"⟩, .declares ⟨"java/lang/Throwable", "<init>", "(Ljava/lang/String;)V"⟩]) (fun w hw => hW _ (hth.2.1 w hw)) hth.2.2 (vx_c (hO.nw (n1 _ hce)) (vx_c (hO.nd (n1 _ (List.mem_of_getElem? (i := 8) rfl))) (vx_c (hO.nd (n1 _ (List.mem_of_getElem? (i := 9) rfl))) (vx_c (hO.nd (n1 _ (List.mem_of_getElem? (i := 10) rfl))) vx_n))))
  · intro w hw
    rcases List.mem_cons.mp hw with h | hw
    · rw [h]; rfl
    · rcases List.mem_cons.mp hw with h | hw
      · rw [h]; rfl
      · exact hth.1 w hw
  · intro x hx
    rw [hC.2.2.2.2.2.2.2.2.1, hh] at hx
    have hx : x ∈ ([] : List ExceptionTableEntry) := hx
    cases hx
  · show _ + (13 * (2 + 1) + 43) ≤ 64 * d
    omega
  · obtain ⟨L, f, q1, q2, q3⟩ := hR
    exact ⟨L, f, q1, va_P.kept q2 (fun k x hx => h2 x.1 (q2 k x hx).lt), q3⟩
  · have h9 := hO.of hS
    exact ⟨h9.1.trans hWt.alike, Nat.le_trans h9.2.1 h1, fun q hq => (h2 q (Nat.lt_of_lt_of_le hq h9.2.1)).trans (h9.2.2.1 q hq), State.WarmedH.trans h9.2.2.2 hWt⟩
theorem ev_throwW {ik is ic D0 : Nat} {E : String} (hE : ev_En G) (h4 : ev_En4 G D0) (hX : M.1.cls = RX11) (hh : M.2.2.2.2 = []) (d0 : decode M.2.1 pc = .ok (.new ik, 3)) (d3 : decode M.2.1 (pc + 3) = .ok (.dup, 1)) (d4 : decode M.2.1 (pc + 4) = .ok (.ldc_w is, 3)) (d6 : decode M.2.1 (pc + 7) = .ok (.invokespecial ic, 3)) (d9 : decode M.2.1 (pc + 10) = .ok (.athrow, 1)) (his : is ∈ ev_tx) (hk : Cond.classLink RX11 ik E ∈ ev_T) (hi : Cond.initialized E ∈ ev_T) (hth : ev_th ic E) (hce : Cond.castable E E ∈ ev_nw) (hEf : Bundle.fit E = true) (hd : 6 ≤ d) (hst : (st.map fun v => v.category).sum ≤ 8) (hb : 1 ≤ bc) (hs0 : 6 ≤ bs) (hP : Post (.inr E) g) : ev_V G d bc bs M Post g pc lv st := by
  intro p e s m args below meth c H locs cells slots mc ms ls hC hR hS hc hs hl
  obtain ⟨e3, ⟨z1, z2⟩, -, n1, -, tx, -⟩ := h4
  obtain ⟨txt, sa, hsa⟩ := tx is his
  have hO := hC.2.2.2.2.2.2.2.1
  have hW := hC.2.2.2.2.2.2.1
  refine vy_throwSW hC.1 hC.2.1 hE.2 (own := RX11) (cls := E) (names := ["java/lang/RuntimeException", "java/lang/Exception"]) (ik := ik) (is := is) (ic := ic) (A := ev_A G) (sa := sa) (text := txt) (by rw [← hX]; exact hC.2.2.2.2.2.1) hEf (by decide +kernel) (hW _ hk) (hW _ hi) (vk_R.warm hO.2.2.2 hsa) ?_ ?_ (vx_Zq.at hO z1) (vx_Zq.at hO z2) hS (hl.1.trans hC.2.2.1.symm) d0 d3 d4 d6 d9 ?_ (show 2 + 3 < d by omega) ?_ (show cells + 1 ≤ mc by omega) (show slots + 6 ≤ ms by omega) hC.2.2.2.2.1 (fun t hWt h1 h2 => ⟨g, ⟨?_, ?_⟩, hP⟩) hS.2.2 (by omega) (by omega)
  · refine vx_hat (B := [.castable E E, .declares ⟨"java/lang/RuntimeException", "<init>", "(Ljava/lang/String;)V"⟩, .declares ⟨"java/lang/Exception", "<init>", "(Ljava/lang/String;)V"⟩, .declares ⟨"java/lang/Throwable", "<init>", "(Ljava/lang/String;)V"⟩]) (fun w hw => hW _ (hth.2.1 w hw)) hth.2.2 (vx_c (hO.nw (n1 _ hce)) (vx_c (hO.nd (n1 _ (List.mem_of_getElem? (i := 8) rfl))) (vx_c (hO.nd (n1 _ (List.mem_of_getElem? (i := 9) rfl))) (vx_c (hO.nd (n1 _ (List.mem_of_getElem? (i := 10) rfl))) vx_n))))
  · intro w hw
    rcases List.mem_cons.mp hw with h | hw
    · rw [h]; rfl
    · rcases List.mem_cons.mp hw with h | hw
      · rw [h]; rfl
      · exact hth.1 w hw
  · intro x hx
    rw [hC.2.2.2.2.2.2.2.2.1, hh] at hx
    have hx : x ∈ ([] : List ExceptionTableEntry) := hx
    cases hx
  · show _ + (13 * (2 + 1) + 43) ≤ 64 * d
    omega
  · obtain ⟨L, f, q1, q2, q3⟩ := hR
    exact ⟨L, f, q1, va_P.kept q2 (fun k x hx => h2 x.1 (q2 k x hx).lt), q3⟩
  · have h9 := hO.of hS
    exact ⟨h9.1.trans hWt.alike, Nat.le_trans h9.2.1 h1, fun q hq => (h2 q (Nat.lt_of_lt_of_le hq h9.2.1)).trans (h9.2.2.1 q hq), State.WarmedH.trans h9.2.2.2 hWt⟩
end R1
