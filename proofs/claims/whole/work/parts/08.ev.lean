section EV
/-! A WALK OVER THE HEAP AS A FUNCTION. ev_H: what each live address holds. ev_V: from this frame and this heap the method comes to an end that Post allows. ev_C: a method's contract. -/
abbrev ev_H : Type := Nat → Option va_E
def ev_up (g : ev_H) (a : Nat) (e : va_E) : ev_H := fun b => if b = a then some e else g b
theorem ev_up_s (g : ev_H) (a : Nat) (e : va_E) : ev_up g a e a = some e := by simp [ev_up]
theorem ev_up_n (g : ev_H) {a b : Nat} (e : va_E) (h : b ≠ a) : ev_up g a e b = g b := by simp [ev_up, h]
/-- the launch, the law's start, the numbers of classes and slots, the classes of arrays -/
abbrev ev_G : Type := Launch × State × va_G × (Nat → ClassId)
def ev_tys (G : ev_G) : List (ClassId × FieldType) := [(G.2.2.2 0, .int), (G.2.2.2 1, .long), (G.2.2.2 2, .byte), (G.2.2.2 3, .boolean), (G.2.2.2 4, .object "java/lang/Object"), (G.2.2.2 5, .array .int)]
def ev_A (G : ev_G) : Addr → Prop := fun q => G.2.1.heap.size ≤ q
def ev_R (G : ev_G) (g : ev_H) (H : Heap) : Prop := ∃ (L : List Nat) (f : Nat → va_E), (∀ a e, g a = some e ↔ a ∈ L ∧ f a = e) ∧ va_P G.2.2.1 vwCl (va_pl L f) H ∧ va_D (ev_A G) (va_pl L f)
/-- what is old stays -/
def ev_O (G : ev_G) (U : State) (H : Heap) : Prop := G.2.1.vm.Alike U.vm ∧ G.2.1.heap.size ≤ H.size ∧ (∀ q : Nat, q < G.2.1.heap.size → H[q]? = G.2.1.heap[q]?) ∧ G.2.1.WarmedH U.vm
def ev_S (G : ev_G) (g : ev_H) (U : State) : Prop := ev_R G g U.heap ∧ ev_O G U U.heap
/-- a method: its name, code, locals, answer, handlers -/
abbrev ev_M : Type := MethodName × ByteArray × Nat × Option FieldType × List (Nat × Nat × Nat × Nat)
def ev_T : List Cond := lw_tbl.filter goodWord
def ev_hd (M : ev_M) : Cond := match M.2.2.2.2 with
  | [] => .code M.1 M.2.1 M.2.2.1 M.2.2.2.1
  | h => .codeWith M.1 M.2.1 M.2.2.1 M.2.2.2.1 h
def ev_ws (M : ev_M) : List Cond := ev_hd M :: ev_T
def ev_rm (d mc ms : Nat) : Room := { frames := d, cells := mc, slots := ms, locals := 64 * d }
abbrev ev_P : Type := (Option Value ⊕ String) → ev_H → Prop
def ev_Q (G : ev_G) (Post : ev_P) : Array Value → State → Outcome → State → Prop := fun _ _ o t => ∃ (v : Option Value) (g' : ev_H), o = .returned v ∧ ev_S G g' t ∧ Post (.inl v) g'
def ev_X (G : ev_G) (Post : ev_P) : String → State → State → Prop := fun E _ t => ∃ g' : ev_H, ev_S G g' t ∧ Post (.inr E) g'
def ev_Pc (G : ev_G) (As : List Value) (g : ev_H) : Array Value → State → Prop := fun a U => a = As.toArray ∧ ev_S G g U
/-- the contract: from these arguments and this heap the method ends as Post allows, making at most mc cells of ms slots, at most d frames deep -/
def ev_C (G : ev_G) (d mc ms : Nat) (M : ev_M) (As : List Value) (g : ev_H) (Post : ev_P) : Prop :=
  vx_Met G.1 M.1 (ev_ws M) (ev_rm d mc ms) (ev_Pc G As g) (ev_Q G Post) (ev_X G Post) mc ms (ev_A G)
/-- what holds all through a method's body -/
def ev_Cx (G : ev_G) (M : ev_M) (p : Program) (s : State) (m : MethodId) (meth : Method) (c : Code) (args : Array Value) : Prop :=
  p.tables.exec = Jvm.exec ∧ c.code = M.2.1 ∧ c.maxLocals = M.2.2.1 ∧ meth.sig.returnType = M.2.2.2.1 ∧ meth.locks = false ∧ s.vm.findClass M.1.cls = some m.cls ∧ (∀ w ∈ ev_T, w.before args s = true) ∧ ev_O G s s.heap ∧ c.exceptionTable.toList = tableOf M.2.2.2.2 ∧ meth.name = M.1.name
def ev_L (ls : Array Slot) (nL : Nat) (lv : List (Option Value)) : Prop := ls.size = nL ∧ lv_wf ls ∧ lv.length = nL ∧ ∀ (i : Nat) (v : Value), lv[i]? = some (some v) → ls[i]? = some (.val v)
/-- what is known of the start: numbers of the classes and arrays; stack traces are off -/
def ev_En (G : ev_G) : Prop := va_K G.2.2.1 vwCl (ev_tys G) G.2.1 ∧ G.1.stackTraces = false
def ev_V (G : ev_G) (d bc bs : Nat) (M : ev_M) (Post : ev_P) (g : ev_H) (pc : Nat) (lv : List (Option Value)) (st : List Value) : Prop :=
  ∀ (p : Program) (e : Env) (s : State) (m : MethodId) (args : Array Value) (below : List Frame) (meth : Method) (c : Code) (H : Heap) (locs : List Loc) (cells slots mc ms : Nat) (ls : Array Slot),
    ev_Cx G M p s m meth c args → ev_R G g H → va_S (ev_A G) s.heap H locs → cells + bc ≤ mc → slots + bs ≤ ms → ev_L ls M.2.2.1 lv →
    W p G.1 e (ev_rm d mc ms) s m args below meth c H locs cells slots (vx_MQ below (ev_Q G Post) (ev_X G Post) args s mc ms (ev_A G)) (F0 m pc ls st)
/-- .. with an exception of class E thrown at pc -/
def ev_Vx (G : ev_G) (d bc bs : Nat) (M : ev_M) (Post : ev_P) (g : ev_H) (pc : Nat) (lv : List (Option Value)) (E : String) : Prop :=
  ∀ (p : Program) (e : Env) (s : State) (m : MethodId) (args : Array Value) (below : List Frame) (meth : Method) (c : Code) (H : Heap) (locs : List Loc) (cells slots mc ms : Nat) (ls : Array Slot) (rest : List Value) (q : Addr) (ce : Cell),
    ev_Cx G M p s m meth c args → ev_R G g H → va_S (ev_A G) s.heap H locs → cells + bc ≤ mc → slots + bs ≤ ms → ev_L ls M.2.2.1 lv → H[q]? = some ce → ce.vm = .none → s.vm.findClass E = some ce.cls →
    vx_W p G.1 e (ev_rm d mc ms) s m args below meth c H locs cells slots (vx_MQ below (ev_Q G Post) (ev_X G Post) args s mc ms (ev_A G)) (F0 m pc ls rest) q
section Rules
variable {G : ev_G} {d bc bs : Nat} {M : ev_M} {Post : ev_P} {g : ev_H} {pc : Nat} {lv : List (Option Value)} {st : List Value}
theorem ev_O.of {G : ev_G} {s : State} {H : Heap} {locs : List Loc} (h : ev_O G s s.heap) (hS : va_S (ev_A G) s.heap H locs) : ev_O G s H := ⟨h.1, Nat.le_trans h.2.1 hS.1, fun q hq => by rw [hS.2.1 q (Nat.lt_of_lt_of_le hq h.2.1) (Nat.not_le.mpr hq), h.2.2.1 q hq], h.2.2.2⟩
theorem ev_O.to {G : ev_G} {s U : State} {H : Heap} (h : ev_O G s H) (hvm : s.WarmedH U.vm) : ev_O G U H := ⟨h.1.trans hvm.alike, h.2.1, h.2.2.1, State.WarmedH.trans h.2.2.2 hvm⟩

theorem ev_iadd {x y : Int32} (hd : decode M.2.1 pc = .ok (.iadd, 1))  (k : ev_V G d bc bs M Post g (pc + 1) lv (.int (x + y) :: st)) : ev_V G d bc bs M Post g pc lv (.int y :: .int x :: st) :=
  fun p e s m args below meth c H locs cells slots mc ms ls hC hR hS hc hs hl => lv_iadd hC.1 hC.2.1 hd (k p e s m args below meth c H locs cells slots mc ms ls hC hR hS hc hs hl)
theorem ev_isub {x y : Int32} (hd : decode M.2.1 pc = .ok (.isub, 1))  (k : ev_V G d bc bs M Post g (pc + 1) lv (.int (x - y) :: st)) : ev_V G d bc bs M Post g pc lv (.int y :: .int x :: st) :=
  fun p e s m args below meth c H locs cells slots mc ms ls hC hR hS hc hs hl => lv_isub hC.1 hC.2.1 hd (k p e s m args below meth c H locs cells slots mc ms ls hC hR hS hc hs hl)
theorem ev_imul {x y : Int32} (hd : decode M.2.1 pc = .ok (.imul, 1))  (k : ev_V G d bc bs M Post g (pc + 1) lv (.int (x * y) :: st)) : ev_V G d bc bs M Post g pc lv (.int y :: .int x :: st) :=
  fun p e s m args below meth c H locs cells slots mc ms ls hC hR hS hc hs hl => lv_imul hC.1 hC.2.1 hd (k p e s m args below meth c H locs cells slots mc ms ls hC hR hS hc hs hl)
theorem ev_iand {x y : Int32} (hd : decode M.2.1 pc = .ok (.iand, 1))  (k : ev_V G d bc bs M Post g (pc + 1) lv (.int (x &&& y) :: st)) : ev_V G d bc bs M Post g pc lv (.int y :: .int x :: st) :=
  fun p e s m args below meth c H locs cells slots mc ms ls hC hR hS hc hs hl => lv_iand hC.1 hC.2.1 hd (k p e s m args below meth c H locs cells slots mc ms ls hC hR hS hc hs hl)
theorem ev_ior {x y : Int32} (hd : decode M.2.1 pc = .ok (.ior, 1))  (k : ev_V G d bc bs M Post g (pc + 1) lv (.int (x ||| y) :: st)) : ev_V G d bc bs M Post g pc lv (.int y :: .int x :: st) :=
  fun p e s m args below meth c H locs cells slots mc ms ls hC hR hS hc hs hl => lv_ior hC.1 hC.2.1 hd (k p e s m args below meth c H locs cells slots mc ms ls hC hR hS hc hs hl)
theorem ev_ixor {x y : Int32} (hd : decode M.2.1 pc = .ok (.ixor, 1))  (k : ev_V G d bc bs M Post g (pc + 1) lv (.int (x ^^^ y) :: st)) : ev_V G d bc bs M Post g pc lv (.int y :: .int x :: st) :=
  fun p e s m args below meth c H locs cells slots mc ms ls hC hR hS hc hs hl => lv_ixor hC.1 hC.2.1 hd (k p e s m args below meth c H locs cells slots mc ms ls hC hR hS hc hs hl)
theorem ev_ladd {x y : Int64} (hd : decode M.2.1 pc = .ok (.ladd, 1))  (k : ev_V G d bc bs M Post g (pc + 1) lv (.long (x + y) :: st)) : ev_V G d bc bs M Post g pc lv (.long y :: .long x :: st) :=
  fun p e s m args below meth c H locs cells slots mc ms ls hC hR hS hc hs hl => lv_ladd hC.1 hC.2.1 hd (k p e s m args below meth c H locs cells slots mc ms ls hC hR hS hc hs hl)
theorem ev_lsub {x y : Int64} (hd : decode M.2.1 pc = .ok (.lsub, 1))  (k : ev_V G d bc bs M Post g (pc + 1) lv (.long (x - y) :: st)) : ev_V G d bc bs M Post g pc lv (.long y :: .long x :: st) :=
  fun p e s m args below meth c H locs cells slots mc ms ls hC hR hS hc hs hl => lv_lsub hC.1 hC.2.1 hd (k p e s m args below meth c H locs cells slots mc ms ls hC hR hS hc hs hl)
theorem ev_lmul {x y : Int64} (hd : decode M.2.1 pc = .ok (.lmul, 1))  (k : ev_V G d bc bs M Post g (pc + 1) lv (.long (x * y) :: st)) : ev_V G d bc bs M Post g pc lv (.long y :: .long x :: st) :=
  fun p e s m args below meth c H locs cells slots mc ms ls hC hR hS hc hs hl => lv_lmul hC.1 hC.2.1 hd (k p e s m args below meth c H locs cells slots mc ms ls hC hR hS hc hs hl)
theorem ev_idiv {x y : Int32} (hd : decode M.2.1 pc = .ok (.idiv, 1)) (h : ¬ y = 0) (k : ev_V G d bc bs M Post g (pc + 1) lv (.int (x / y) :: st)) : ev_V G d bc bs M Post g pc lv (.int y :: .int x :: st) :=
  fun p e s m args below meth c H locs cells slots mc ms ls hC hR hS hc hs hl => lv_idiv hC.1 hC.2.1 hd h (k p e s m args below meth c H locs cells slots mc ms ls hC hR hS hc hs hl)
theorem ev_ldiv {x y : Int64} (hd : decode M.2.1 pc = .ok (.ldiv, 1)) (h : ¬ y = 0) (k : ev_V G d bc bs M Post g (pc + 1) lv (.long (x / y) :: st)) : ev_V G d bc bs M Post g pc lv (.long y :: .long x :: st) :=
  fun p e s m args below meth c H locs cells slots mc ms ls hC hR hS hc hs hl => lv_ldiv hC.1 hC.2.1 hd h (k p e s m args below meth c H locs cells slots mc ms ls hC hR hS hc hs hl)
theorem ev_irem {x y : Int32} (hd : decode M.2.1 pc = .ok (.irem, 1)) (h : ¬ y = 0) (k : ev_V G d bc bs M Post g (pc + 1) lv (.int (x - x / y * y) :: st)) : ev_V G d bc bs M Post g pc lv (.int y :: .int x :: st) :=
  fun p e s m args below meth c H locs cells slots mc ms ls hC hR hS hc hs hl => lv_irem hC.1 hC.2.1 hd h (k p e s m args below meth c H locs cells slots mc ms ls hC hR hS hc hs hl)
theorem ev_lrem {x y : Int64} (hd : decode M.2.1 pc = .ok (.lrem, 1)) (h : ¬ y = 0) (k : ev_V G d bc bs M Post g (pc + 1) lv (.long (x - x / y * y) :: st)) : ev_V G d bc bs M Post g pc lv (.long y :: .long x :: st) :=
  fun p e s m args below meth c H locs cells slots mc ms ls hC hR hS hc hs hl => lv_lrem hC.1 hC.2.1 hd h (k p e s m args below meth c H locs cells slots mc ms ls hC hR hS hc hs hl)
theorem ev_ineg {x : Int32} (hd : decode M.2.1 pc = .ok (.ineg, 1))  (k : ev_V G d bc bs M Post g (pc + 1) lv (.int (-x) :: st)) : ev_V G d bc bs M Post g pc lv (.int x :: st) :=
  fun p e s m args below meth c H locs cells slots mc ms ls hC hR hS hc hs hl => lv_ineg hC.1 hC.2.1 hd (k p e s m args below meth c H locs cells slots mc ms ls hC hR hS hc hs hl)
theorem ev_ishl {x y : Int32} (hd : decode M.2.1 pc = .ok (.ishl, 1))  (k : ev_V G d bc bs M Post g (pc + 1) lv (.int (x <<< (y &&& 31)) :: st)) : ev_V G d bc bs M Post g pc lv (.int y :: .int x :: st) :=
  fun p e s m args below meth c H locs cells slots mc ms ls hC hR hS hc hs hl => lv_ishl hC.1 hC.2.1 hd (k p e s m args below meth c H locs cells slots mc ms ls hC hR hS hc hs hl)
theorem ev_ishr {x y : Int32} (hd : decode M.2.1 pc = .ok (.ishr, 1))  (k : ev_V G d bc bs M Post g (pc + 1) lv (.int (x >>> (y &&& 31)) :: st)) : ev_V G d bc bs M Post g pc lv (.int y :: .int x :: st) :=
  fun p e s m args below meth c H locs cells slots mc ms ls hC hR hS hc hs hl => lv_ishr hC.1 hC.2.1 hd (k p e s m args below meth c H locs cells slots mc ms ls hC hR hS hc hs hl)
theorem ev_iushr {x y : Int32} (hd : decode M.2.1 pc = .ok (.iushr, 1))  (k : ev_V G d bc bs M Post g (pc + 1) lv (.int (x.toUInt32 >>> (y.toUInt32 &&& Int32.toUInt32 31)).toInt32 :: st)) : ev_V G d bc bs M Post g pc lv (.int y :: .int x :: st) :=
  fun p e s m args below meth c H locs cells slots mc ms ls hC hR hS hc hs hl => lv_iushr hC.1 hC.2.1 hd rfl (k p e s m args below meth c H locs cells slots mc ms ls hC hR hS hc hs hl)
theorem ev_i2l {x : Int32} (hd : decode M.2.1 pc = .ok (.i2l, 1))  (k : ev_V G d bc bs M Post g (pc + 1) lv (.long x.toInt64 :: st)) : ev_V G d bc bs M Post g pc lv (.int x :: st) :=
  fun p e s m args below meth c H locs cells slots mc ms ls hC hR hS hc hs hl => lv_i2l hC.1 hC.2.1 hd rfl (k p e s m args below meth c H locs cells slots mc ms ls hC hR hS hc hs hl)
theorem ev_l2i {x : Int64} (hd : decode M.2.1 pc = .ok (.l2i, 1))  (k : ev_V G d bc bs M Post g (pc + 1) lv (.int x.toInt32 :: st)) : ev_V G d bc bs M Post g pc lv (.long x :: st) :=
  fun p e s m args below meth c H locs cells slots mc ms ls hC hR hS hc hs hl => lv_l2i hC.1 hC.2.1 hd rfl (k p e s m args below meth c H locs cells slots mc ms ls hC hR hS hc hs hl)
theorem ev_i2b {x : Int32} (hd : decode M.2.1 pc = .ok (.i2b, 1))  (k : ev_V G d bc bs M Post g (pc + 1) lv (.int x.toInt8.toInt32 :: st)) : ev_V G d bc bs M Post g pc lv (.int x :: st) :=
  fun p e s m args below meth c H locs cells slots mc ms ls hC hR hS hc hs hl => lv_i2b hC.1 hC.2.1 hd rfl (k p e s m args below meth c H locs cells slots mc ms ls hC hR hS hc hs hl)
theorem ev_i2c {x : Int32} (hd : decode M.2.1 pc = .ok (.i2c, 1))  (k : ev_V G d bc bs M Post g (pc + 1) lv (.int (x.toUInt32 % 65536).toInt32 :: st)) : ev_V G d bc bs M Post g pc lv (.int x :: st) :=
  fun p e s m args below meth c H locs cells slots mc ms ls hC hR hS hc hs hl => lv_i2c hC.1 hC.2.1 hd rfl (k p e s m args below meth c H locs cells slots mc ms ls hC hR hS hc hs hl)
theorem ev_iconst {n : Int} {v : Int32} (hd : decode M.2.1 pc = .ok (.iconst n, 1)) (h : Int32.ofInt n = v) (k : ev_V G d bc bs M Post g (pc + 1) lv (.int v :: st)) : ev_V G d bc bs M Post g pc lv (st) :=
  fun p e s m args below meth c H locs cells slots mc ms ls hC hR hS hc hs hl => lv_iconst hC.1 hC.2.1 hd h (k p e s m args below meth c H locs cells slots mc ms ls hC hR hS hc hs hl)
theorem ev_lconst {n : Fin 2} {v : Int64} (hd : decode M.2.1 pc = .ok (.lconst n, 1)) (h : Int64.ofNat (n : Nat) = v) (k : ev_V G d bc bs M Post g (pc + 1) lv (.long v :: st)) : ev_V G d bc bs M Post g pc lv (st) :=
  fun p e s m args below meth c H locs cells slots mc ms ls hC hR hS hc hs hl => lv_lconst hC.1 hC.2.1 hd h (k p e s m args below meth c H locs cells slots mc ms ls hC hR hS hc hs hl)
theorem ev_null  (hd : decode M.2.1 pc = .ok (.aconst_null, 1))  (k : ev_V G d bc bs M Post g (pc + 1) lv (.null :: st)) : ev_V G d bc bs M Post g pc lv (st) :=
  fun p e s m args below meth c H locs cells slots mc ms ls hC hR hS hc hs hl => lv_null hC.1 hC.2.1 hd (k p e s m args below meth c H locs cells slots mc ms ls hC hR hS hc hs hl)
theorem ev_dup {v : Value} (hd : decode M.2.1 pc = .ok (.dup, 1)) (h : v.category = 1) (k : ev_V G d bc bs M Post g (pc + 1) lv (v :: v :: st)) : ev_V G d bc bs M Post g pc lv (v :: st) :=
  fun p e s m args below meth c H locs cells slots mc ms ls hC hR hS hc hs hl => lv_dup hC.1 hC.2.1 hd h (k p e s m args below meth c H locs cells slots mc ms ls hC hR hS hc hs hl)
theorem ev_pop {v : Value} (hd : decode M.2.1 pc = .ok (.pop, 1)) (h : v.category = 1) (k : ev_V G d bc bs M Post g (pc + 1) lv (st)) : ev_V G d bc bs M Post g pc lv (v :: st) :=
  fun p e s m args below meth c H locs cells slots mc ms ls hC hR hS hc hs hl => lv_pop hC.1 hC.2.1 hd h (k p e s m args below meth c H locs cells slots mc ms ls hC hR hS hc hs hl)
theorem ev_dupx1 {v u : Value} (hd : decode M.2.1 pc = .ok (.dup_x1, 1)) (h : v.category = 1) (h2 : u.category = 1) (k : ev_V G d bc bs M Post g (pc + 1) lv (v :: u :: v :: st)) : ev_V G d bc bs M Post g pc lv (v :: u :: st) :=
  fun p e s m args below meth c H locs cells slots mc ms ls hC hR hS hc hs hl => lv_dup_x1 hC.1 hC.2.1 hd h h2 (k p e s m args below meth c H locs cells slots mc ms ls hC hR hS hc hs hl)
theorem ev_dup2 {v u : Value} (hd : decode M.2.1 pc = .ok (.dup2, 1)) (h : v.category = 1) (h2 : u.category = 1) (k : ev_V G d bc bs M Post g (pc + 1) lv (v :: u :: v :: u :: st)) : ev_V G d bc bs M Post g pc lv (v :: u :: st) :=
  fun p e s m args below meth c H locs cells slots mc ms ls hC hR hS hc hs hl => lv_dup2_11 hC.1 hC.2.1 hd h h2 (k p e s m args below meth c H locs cells slots mc ms ls hC hR hS hc hs hl)
theorem ev_dup2l {v : Value} (hd : decode M.2.1 pc = .ok (.dup2, 1)) (h : v.category = 2) (k : ev_V G d bc bs M Post g (pc + 1) lv (v :: v :: st)) : ev_V G d bc bs M Post g pc lv (v :: st) :=
  fun p e s m args below meth c H locs cells slots mc ms ls hC hR hS hc hs hl => lv_dup2_2 hC.1 hC.2.1 hd h (k p e s m args below meth c H locs cells slots mc ms ls hC hR hS hc hs hl)
theorem ev_bipush {n : Int} {v : Int32} (hd : decode M.2.1 pc = .ok (.bipush n, 2)) (h : (Int8.ofInt n).toInt32 = v) (k : ev_V G d bc bs M Post g (pc + 2) lv (.int v :: st)) : ev_V G d bc bs M Post g pc lv (st) :=
  fun p e s m args below meth c H locs cells slots mc ms ls hC hR hS hc hs hl => lv_bipush hC.1 hC.2.1 hd h (k p e s m args below meth c H locs cells slots mc ms ls hC hR hS hc hs hl)
theorem ev_sipush {n : Int} {v : Int32} (hd : decode M.2.1 pc = .ok (.sipush n, 3)) (h : (Int16.ofInt n).toInt32 = v) (k : ev_V G d bc bs M Post g (pc + 3) lv (.int v :: st)) : ev_V G d bc bs M Post g pc lv (st) :=
  fun p e s m args below meth c H locs cells slots mc ms ls hC hR hS hc hs hl => lv_sipush hC.1 hC.2.1 hd h (k p e s m args below meth c H locs cells slots mc ms ls hC hR hS hc hs hl)
theorem ev_lcmp {x y : Int64} (hd : decode M.2.1 pc = .ok (.lcmp, 1))  (k : ev_V G d bc bs M Post g (pc + 1) lv (.int (lg_cmp x y) :: st)) : ev_V G d bc bs M Post g pc lv (.long y :: .long x :: st) :=
  fun p e s m args below meth c H locs cells slots mc ms ls hC hR hS hc hs hl => W.lcmp hC.1 hC.2.1 hd (k p e s m args below meth c H locs cells slots mc ms ls hC hR hS hc hs hl)
theorem ev_iload_n {j : Fin 4} {i : Nat} {x : Int32} (hd : decode M.2.1 pc = .ok (.iload_n j, 1)) (hi : (j : Nat) = i) (h : lv[i]? = some (some (.int x))) (k : ev_V G d bc bs M Post g (pc + 1) lv (.int x :: st)) : ev_V G d bc bs M Post g pc lv (st) :=
  fun p e s m args below meth c H locs cells slots mc ms ls hC hR hS hc hs hl => lv_iload_n hC.1 hC.2.1 hd hi (hl.2.2.2 _ _ h) (k p e s m args below meth c H locs cells slots mc ms ls hC hR hS hc hs hl)
theorem ev_iload {i : Nat} {x : Int32} (hd : decode M.2.1 pc = .ok (.iload i, 2)) (h : lv[i]? = some (some (.int x))) (k : ev_V G d bc bs M Post g (pc + 2) lv (.int x :: st)) : ev_V G d bc bs M Post g pc lv (st) :=
  fun p e s m args below meth c H locs cells slots mc ms ls hC hR hS hc hs hl => lv_iload hC.1 hC.2.1 hd (hl.2.2.2 _ _ h) (k p e s m args below meth c H locs cells slots mc ms ls hC hR hS hc hs hl)
theorem ev_lload_n {j : Fin 4} {i : Nat} {x : Int64} (hd : decode M.2.1 pc = .ok (.lload_n j, 1)) (hi : (j : Nat) = i) (h : lv[i]? = some (some (.long x))) (k : ev_V G d bc bs M Post g (pc + 1) lv (.long x :: st)) : ev_V G d bc bs M Post g pc lv (st) :=
  fun p e s m args below meth c H locs cells slots mc ms ls hC hR hS hc hs hl => lv_lload_n hC.1 hC.2.1 hd hi (hl.2.2.2 _ _ h) (k p e s m args below meth c H locs cells slots mc ms ls hC hR hS hc hs hl)
theorem ev_lload {i : Nat} {x : Int64} (hd : decode M.2.1 pc = .ok (.lload i, 2)) (h : lv[i]? = some (some (.long x))) (k : ev_V G d bc bs M Post g (pc + 2) lv (.long x :: st)) : ev_V G d bc bs M Post g pc lv (st) :=
  fun p e s m args below meth c H locs cells slots mc ms ls hC hR hS hc hs hl => lv_lload hC.1 hC.2.1 hd (hl.2.2.2 _ _ h) (k p e s m args below meth c H locs cells slots mc ms ls hC hR hS hc hs hl)
theorem ev_aload_n {j : Fin 4} {i x : Nat} (hd : decode M.2.1 pc = .ok (.aload_n j, 1)) (hi : (j : Nat) = i) (h : lv[i]? = some (some (.ref x))) (k : ev_V G d bc bs M Post g (pc + 1) lv (.ref x :: st)) : ev_V G d bc bs M Post g pc lv (st) :=
  fun p e s m args below meth c H locs cells slots mc ms ls hC hR hS hc hs hl => lv_aload_n hC.1 hC.2.1 hd hi (hl.2.2.2 _ _ h) (k p e s m args below meth c H locs cells slots mc ms ls hC hR hS hc hs hl)
theorem ev_aload {i x : Nat} (hd : decode M.2.1 pc = .ok (.aload i, 2)) (h : lv[i]? = some (some (.ref x))) (k : ev_V G d bc bs M Post g (pc + 2) lv (.ref x :: st)) : ev_V G d bc bs M Post g pc lv (st) :=
  fun p e s m args below meth c H locs cells slots mc ms ls hC hR hS hc hs hl => lv_aload hC.1 hC.2.1 hd (hl.2.2.2 _ _ h) (k p e s m args below meth c H locs cells slots mc ms ls hC hR hS hc hs hl)
theorem ev_aload_nN {j : Fin 4} {i : Nat} (hd : decode M.2.1 pc = .ok (.aload_n j, 1)) (hi : (j : Nat) = i) (h : lv[i]? = some (some .null)) (k : ev_V G d bc bs M Post g (pc + 1) lv (.null :: st)) : ev_V G d bc bs M Post g pc lv (st) :=
  fun p e s m args below meth c H locs cells slots mc ms ls hC hR hS hc hs hl => lv_aload_nN hC.1 hC.2.1 hd hi (hl.2.2.2 _ _ h) (k p e s m args below meth c H locs cells slots mc ms ls hC hR hS hc hs hl)
theorem ev_aloadN {i : Nat} (hd : decode M.2.1 pc = .ok (.aload i, 2)) (h : lv[i]? = some (some .null)) (k : ev_V G d bc bs M Post g (pc + 2) lv (.null :: st)) : ev_V G d bc bs M Post g pc lv (st) :=
  fun p e s m args below meth c H locs cells slots mc ms ls hC hR hS hc hs hl => lv_aloadN hC.1 hC.2.1 hd (hl.2.2.2 _ _ h) (k p e s m args below meth c H locs cells slots mc ms ls hC hR hS hc hs hl)
def ev_clr (lv : List (Option Value)) (i : Nat) : List (Option Value) := match i with
  | 0 => lv
  | k + 1 => match lv[k]? with
    | some (some (.long _)) => lv.set k none
    | some (some (.double _)) => lv.set k none
    | _ => lv
/-- a local of one place is set -/
def ev_s1 (lv : List (Option Value)) (i : Nat) (v : Value) : List (Option Value) := (ev_clr lv i).set i (some v)
/-- a local of two places is set -/
def ev_s2 (lv : List (Option Value)) (i : Nat) (v : Value) : List (Option Value) := ((ev_clr lv i).set i (some v)).set (i + 1) none
def ev_pr (lv : List (Option Value)) : List (Nat × Value) := (List.range lv.length).filterMap fun i => match lv[i]? with
  | some (some v) => some (i, v)
  | _ => none
theorem ev_pr_mem {lv : List (Option Value)} {q : Nat × Value} : q ∈ ev_pr lv ↔ lv[q.1]? = some (some q.2) := by
  unfold ev_pr
  rw [List.mem_filterMap]
  constructor
  · rintro ⟨i, -, h⟩
    split at h
    · rename_i v hv
      cases h
      exact hv
    · cases h
  · intro h
    refine ⟨q.1, List.mem_range.mpr (List.getElem?_eq_some_iff.mp h).1, ?_⟩
    rw [h]
theorem ev_L.has {ls : Array Slot} {n : Nat} {lv : List (Option Value)} (h : ev_L ls n lv) : lv_has ls n (ev_pr lv) := ⟨h.1, h.2.1, fun q hq => h.2.2.2 _ _ (ev_pr_mem.mp hq)⟩
theorem ev_clr_len (lv : List (Option Value)) (i : Nat) : (ev_clr lv i).length = lv.length := by
  unfold ev_clr
  split
  · rfl
  · split <;> simp
theorem ev_clr_get {lv : List (Option Value)} {i j : Nat} {v : Value} (h : (ev_clr lv i)[j]? = some (some v)) : lv[j]? = some (some v) ∧ ¬ (j + 1 = i ∧ v.category = 2) := by
  unfold ev_clr at h
  split at h
  · exact ⟨h, fun q => by omega⟩
  · rename_i k
    by_cases hj : j = k
    · subst hj
      split at h
      · rw [List.getElem?_set] at h; simp at h
      · rw [List.getElem?_set] at h; simp at h
      · rename_i h1 h2
        refine ⟨h, fun q => ?_⟩
        cases v with
        | long x => exact h1 x h
        | double x => exact h2 x h
        | _ => simp [Value.category] at q
    · refine ⟨?_, fun q => hj (by omega)⟩
      split at h
      · rwa [List.getElem?_set_ne (Ne.symm hj)] at h
      · rwa [List.getElem?_set_ne (Ne.symm hj)] at h
      · exact h
theorem ev_L.set1 {ls ls' : Array Slot} {n i : Nat} {lv : List (Option Value)} {v : Value} (h : ev_L ls n lv) (h' : lv_has ls' n ((i, v) :: (ev_pr lv).filter (fun q => !(q.1 == i) && !(q.1 + 1 == i && q.2.category == 2)))) : ev_L ls' n (ev_s1 lv i v) := by
  refine ⟨h'.1, h'.2.1, by rw [ev_s1, List.length_set, ev_clr_len]; exact h.2.2.1, fun j u hj => ?_⟩
  unfold ev_s1 at hj
  by_cases e : j = i
  · subst e
    rw [List.getElem?_set] at hj
    simp at hj
    rw [← hj.2]
    exact h'.2.2 (j, v) List.mem_cons_self
  · rw [List.getElem?_set_ne (Ne.symm e)] at hj
    obtain ⟨h1, h2⟩ := ev_clr_get hj
    refine h'.2.2 (j, u) (List.mem_cons_of_mem _ (List.mem_filter.mpr ⟨ev_pr_mem.mpr h1, ?_⟩))
    simp only [Bool.and_eq_true, Bool.not_eq_true', beq_eq_false_iff_ne, Bool.and_eq_false_iff]
    refine ⟨e, ?_⟩
    by_cases e2 : j + 1 = i
    · exact Or.inr (fun q => h2 ⟨e2, q⟩)
    · exact Or.inl e2
theorem ev_L.set2 {ls ls' : Array Slot} {n i : Nat} {lv : List (Option Value)} {v : Value} (h : ev_L ls n lv) (h' : lv_has ls' n ((i, v) :: (ev_pr lv).filter (fun q => !(q.1 == i) && (!(q.1 == i + 1) && !(q.1 + 1 == i && q.2.category == 2))))) : ev_L ls' n (ev_s2 lv i v) := by
  refine ⟨h'.1, h'.2.1, by rw [ev_s2, List.length_set, List.length_set, ev_clr_len]; exact h.2.2.1, fun j u hj => ?_⟩
  unfold ev_s2 at hj
  by_cases e1 : j = i + 1
  · subst e1
    rw [List.getElem?_set] at hj
    simp at hj
  · rw [List.getElem?_set_ne (Ne.symm e1)] at hj
    by_cases e : j = i
    · subst e
      rw [List.getElem?_set] at hj
      simp at hj
      rw [← hj.2]
      exact h'.2.2 (j, v) List.mem_cons_self
    · rw [List.getElem?_set_ne (Ne.symm e)] at hj
      obtain ⟨h1, h2⟩ := ev_clr_get hj
      refine h'.2.2 (j, u) (List.mem_cons_of_mem _ (List.mem_filter.mpr ⟨ev_pr_mem.mpr h1, ?_⟩))
      simp only [Bool.and_eq_true, Bool.not_eq_true', beq_eq_false_iff_ne, Bool.and_eq_false_iff]
      refine ⟨e, e1, ?_⟩
      by_cases e2 : j + 1 = i
      · exact Or.inr (fun q => h2 ⟨e2, q⟩)
      · exact Or.inl e2
theorem ev_istore_n {j : Fin 4} {i : Nat} {x : Int32} {lv' : List (Option Value)} (hd : decode M.2.1 pc = .ok (.istore_n j, 1)) (hi : (j : Nat) = i) (hn : i < lv.length) (he : ev_s1 lv i (.int x) = lv') (k : ev_V G d bc bs M Post g (pc + 1) lv' st) : ev_V G d bc bs M Post g pc lv (.int x :: st) :=
  fun p e s m args below meth c H locs cells slots mc ms ls hC hR hS hc hs hl => lv_istore_n hC.1 hC.2.1 hd hi hl.has (by rw [← hl.2.2.1]; exact hn) rfl (fun ls' h' => k p e s m args below meth c H locs cells slots mc ms ls' hC hR hS hc hs (he ▸ hl.set1 h'))
theorem ev_istore {i : Nat} {x : Int32} {lv' : List (Option Value)} (hd : decode M.2.1 pc = .ok (.istore i, 2)) (hn : i < lv.length) (he : ev_s1 lv i (.int x) = lv') (k : ev_V G d bc bs M Post g (pc + 2) lv' st) : ev_V G d bc bs M Post g pc lv (.int x :: st) :=
  fun p e s m args below meth c H locs cells slots mc ms ls hC hR hS hc hs hl => lv_istore hC.1 hC.2.1 hd hl.has (by rw [← hl.2.2.1]; exact hn) rfl (fun ls' h' => k p e s m args below meth c H locs cells slots mc ms ls' hC hR hS hc hs (he ▸ hl.set1 h'))
theorem ev_lstore {i : Nat} {x : Int64} {lv' : List (Option Value)} (hd : decode M.2.1 pc = .ok (.lstore i, 2)) (hn : i + 1 < lv.length) (he : ev_s2 lv i (.long x) = lv') (k : ev_V G d bc bs M Post g (pc + 2) lv' st) : ev_V G d bc bs M Post g pc lv (.long x :: st) :=
  fun p e s m args below meth c H locs cells slots mc ms ls hC hR hS hc hs hl => lv_lstore hC.1 hC.2.1 hd hl.has (by rw [← hl.2.2.1]; exact hn) rfl (fun ls' h' => k p e s m args below meth c H locs cells slots mc ms ls' hC hR hS hc hs (he ▸ hl.set2 h'))
theorem ev_astore_n {j : Fin 4} {i : Nat} {x : Nat} {lv' : List (Option Value)} (hd : decode M.2.1 pc = .ok (.astore_n j, 1)) (hi : (j : Nat) = i) (hn : i < lv.length) (he : ev_s1 lv i (.ref x) = lv') (k : ev_V G d bc bs M Post g (pc + 1) lv' st) : ev_V G d bc bs M Post g pc lv (.ref x :: st) :=
  fun p e s m args below meth c H locs cells slots mc ms ls hC hR hS hc hs hl => lv_astore_n hC.1 hC.2.1 hd hi hl.has (by rw [← hl.2.2.1]; exact hn) rfl (fun ls' h' => k p e s m args below meth c H locs cells slots mc ms ls' hC hR hS hc hs (he ▸ hl.set1 h'))
theorem ev_astore {i : Nat} {x : Nat} {lv' : List (Option Value)} (hd : decode M.2.1 pc = .ok (.astore i, 2)) (hn : i < lv.length) (he : ev_s1 lv i (.ref x) = lv') (k : ev_V G d bc bs M Post g (pc + 2) lv' st) : ev_V G d bc bs M Post g pc lv (.ref x :: st) :=
  fun p e s m args below meth c H locs cells slots mc ms ls hC hR hS hc hs hl => lv_astore hC.1 hC.2.1 hd hl.has (by rw [← hl.2.2.1]; exact hn) rfl (fun ls' h' => k p e s m args below meth c H locs cells slots mc ms ls' hC hR hS hc hs (he ▸ hl.set1 h'))
theorem ev_astore_nN {j : Fin 4} {i : Nat} {lv' : List (Option Value)} (hd : decode M.2.1 pc = .ok (.astore_n j, 1)) (hi : (j : Nat) = i) (hn : i < lv.length) (he : ev_s1 lv i .null = lv') (k : ev_V G d bc bs M Post g (pc + 1) lv' st) : ev_V G d bc bs M Post g pc lv (.null :: st) :=
  fun p e s m args below meth c H locs cells slots mc ms ls hC hR hS hc hs hl => lv_astore_nN hC.1 hC.2.1 hd hi hl.has (by rw [← hl.2.2.1]; exact hn) rfl (fun ls' h' => k p e s m args below meth c H locs cells slots mc ms ls' hC hR hS hc hs (he ▸ hl.set1 h'))
theorem ev_iinc {i : Nat} {n : Int} {x v : Int32} {lv' : List (Option Value)} (hd : decode M.2.1 pc = .ok (.iinc i n, 3)) (h : lv[i]? = some (some (.int x))) (hv : x + Int32.ofInt n = v) (he : ev_s1 lv i (.int v) = lv') (k : ev_V G d bc bs M Post g (pc + 3) lv' st) : ev_V G d bc bs M Post g pc lv st := by
  intro p e s m args below meth c H locs cells slots mc ms ls hC hR hS hc hs hl
  obtain ⟨q, hq⟩ := List.getElem?_of_mem (ev_pr_mem (q := (i, .int x)).mpr h)
  exact lv_iinc hC.1 hC.2.1 hd hl.has hq hv (by rw [← hl.2.2.1]; exact (List.getElem?_eq_some_iff.mp h).1) rfl (fun ls' h' => k p e s m args below meth c H locs cells slots mc ms ls' hC hR hS hc hs (he ▸ hl.set1 h'))
theorem ev_icmp_eq {x y : Int32} {off : Int} {tgt : Nat} (hd : decode M.2.1 pc = .ok (.if_icmp .eq off, 3)) (ht : (pc : Int) + off = (tgt : Int)) (kt : x = y → ev_V G d bc bs M Post g tgt lv st) (kf : ¬ x = y → ev_V G d bc bs M Post g (pc + 3) lv st) : ev_V G d bc bs M Post g pc lv (.int y :: .int x :: st) :=
  fun p e s m args below meth c H locs cells slots mc ms ls hC hR hS hc hs hl => lv_icmp_eq hC.1 hC.2.1 hd ht (fun q => kt q p e s m args below meth c H locs cells slots mc ms ls hC hR hS hc hs hl) (fun q => kf q p e s m args below meth c H locs cells slots mc ms ls hC hR hS hc hs hl)
theorem ev_if_eq {x : Int32} {off : Int} {tgt : Nat} (hd : decode M.2.1 pc = .ok (.ifCond .eq off, 3)) (ht : (pc : Int) + off = (tgt : Int)) (kt : x = 0 → ev_V G d bc bs M Post g tgt lv st) (kf : ¬ x = 0 → ev_V G d bc bs M Post g (pc + 3) lv st) : ev_V G d bc bs M Post g pc lv (.int x :: st) :=
  fun p e s m args below meth c H locs cells slots mc ms ls hC hR hS hc hs hl => lv_if_eq hC.1 hC.2.1 hd ht (fun q => kt q p e s m args below meth c H locs cells slots mc ms ls hC hR hS hc hs hl) (fun q => kf q p e s m args below meth c H locs cells slots mc ms ls hC hR hS hc hs hl)
theorem ev_icmp_ne {x y : Int32} {off : Int} {tgt : Nat} (hd : decode M.2.1 pc = .ok (.if_icmp .ne off, 3)) (ht : (pc : Int) + off = (tgt : Int)) (kt : ¬ x = y → ev_V G d bc bs M Post g tgt lv st) (kf : x = y → ev_V G d bc bs M Post g (pc + 3) lv st) : ev_V G d bc bs M Post g pc lv (.int y :: .int x :: st) :=
  fun p e s m args below meth c H locs cells slots mc ms ls hC hR hS hc hs hl => lv_icmp_ne hC.1 hC.2.1 hd ht (fun q => kt q p e s m args below meth c H locs cells slots mc ms ls hC hR hS hc hs hl) (fun q => kf q p e s m args below meth c H locs cells slots mc ms ls hC hR hS hc hs hl)
theorem ev_if_ne {x : Int32} {off : Int} {tgt : Nat} (hd : decode M.2.1 pc = .ok (.ifCond .ne off, 3)) (ht : (pc : Int) + off = (tgt : Int)) (kt : ¬ x = 0 → ev_V G d bc bs M Post g tgt lv st) (kf : x = 0 → ev_V G d bc bs M Post g (pc + 3) lv st) : ev_V G d bc bs M Post g pc lv (.int x :: st) :=
  fun p e s m args below meth c H locs cells slots mc ms ls hC hR hS hc hs hl => lv_if_ne hC.1 hC.2.1 hd ht (fun q => kt q p e s m args below meth c H locs cells slots mc ms ls hC hR hS hc hs hl) (fun q => kf q p e s m args below meth c H locs cells slots mc ms ls hC hR hS hc hs hl)
theorem ev_icmp_lt {x y : Int32} {off : Int} {tgt : Nat} (hd : decode M.2.1 pc = .ok (.if_icmp .lt off, 3)) (ht : (pc : Int) + off = (tgt : Int)) (kt : x < y → ev_V G d bc bs M Post g tgt lv st) (kf : ¬ x < y → ev_V G d bc bs M Post g (pc + 3) lv st) : ev_V G d bc bs M Post g pc lv (.int y :: .int x :: st) :=
  fun p e s m args below meth c H locs cells slots mc ms ls hC hR hS hc hs hl => lv_icmp_lt hC.1 hC.2.1 hd ht (fun q => kt q p e s m args below meth c H locs cells slots mc ms ls hC hR hS hc hs hl) (fun q => kf q p e s m args below meth c H locs cells slots mc ms ls hC hR hS hc hs hl)
theorem ev_if_lt {x : Int32} {off : Int} {tgt : Nat} (hd : decode M.2.1 pc = .ok (.ifCond .lt off, 3)) (ht : (pc : Int) + off = (tgt : Int)) (kt : x < 0 → ev_V G d bc bs M Post g tgt lv st) (kf : ¬ x < 0 → ev_V G d bc bs M Post g (pc + 3) lv st) : ev_V G d bc bs M Post g pc lv (.int x :: st) :=
  fun p e s m args below meth c H locs cells slots mc ms ls hC hR hS hc hs hl => lv_if_lt hC.1 hC.2.1 hd ht (fun q => kt q p e s m args below meth c H locs cells slots mc ms ls hC hR hS hc hs hl) (fun q => kf q p e s m args below meth c H locs cells slots mc ms ls hC hR hS hc hs hl)
theorem ev_icmp_ge {x y : Int32} {off : Int} {tgt : Nat} (hd : decode M.2.1 pc = .ok (.if_icmp .ge off, 3)) (ht : (pc : Int) + off = (tgt : Int)) (kt : y ≤ x → ev_V G d bc bs M Post g tgt lv st) (kf : ¬ y ≤ x → ev_V G d bc bs M Post g (pc + 3) lv st) : ev_V G d bc bs M Post g pc lv (.int y :: .int x :: st) :=
  fun p e s m args below meth c H locs cells slots mc ms ls hC hR hS hc hs hl => lv_icmp_ge hC.1 hC.2.1 hd ht (fun q => kt q p e s m args below meth c H locs cells slots mc ms ls hC hR hS hc hs hl) (fun q => kf q p e s m args below meth c H locs cells slots mc ms ls hC hR hS hc hs hl)
theorem ev_if_ge {x : Int32} {off : Int} {tgt : Nat} (hd : decode M.2.1 pc = .ok (.ifCond .ge off, 3)) (ht : (pc : Int) + off = (tgt : Int)) (kt : 0 ≤ x → ev_V G d bc bs M Post g tgt lv st) (kf : ¬ 0 ≤ x → ev_V G d bc bs M Post g (pc + 3) lv st) : ev_V G d bc bs M Post g pc lv (.int x :: st) :=
  fun p e s m args below meth c H locs cells slots mc ms ls hC hR hS hc hs hl => lv_if_ge hC.1 hC.2.1 hd ht (fun q => kt q p e s m args below meth c H locs cells slots mc ms ls hC hR hS hc hs hl) (fun q => kf q p e s m args below meth c H locs cells slots mc ms ls hC hR hS hc hs hl)
theorem ev_icmp_gt {x y : Int32} {off : Int} {tgt : Nat} (hd : decode M.2.1 pc = .ok (.if_icmp .gt off, 3)) (ht : (pc : Int) + off = (tgt : Int)) (kt : y < x → ev_V G d bc bs M Post g tgt lv st) (kf : ¬ y < x → ev_V G d bc bs M Post g (pc + 3) lv st) : ev_V G d bc bs M Post g pc lv (.int y :: .int x :: st) :=
  fun p e s m args below meth c H locs cells slots mc ms ls hC hR hS hc hs hl => lv_icmp_gt hC.1 hC.2.1 hd ht (fun q => kt q p e s m args below meth c H locs cells slots mc ms ls hC hR hS hc hs hl) (fun q => kf q p e s m args below meth c H locs cells slots mc ms ls hC hR hS hc hs hl)
theorem ev_if_gt {x : Int32} {off : Int} {tgt : Nat} (hd : decode M.2.1 pc = .ok (.ifCond .gt off, 3)) (ht : (pc : Int) + off = (tgt : Int)) (kt : 0 < x → ev_V G d bc bs M Post g tgt lv st) (kf : ¬ 0 < x → ev_V G d bc bs M Post g (pc + 3) lv st) : ev_V G d bc bs M Post g pc lv (.int x :: st) :=
  fun p e s m args below meth c H locs cells slots mc ms ls hC hR hS hc hs hl => lv_if_gt hC.1 hC.2.1 hd ht (fun q => kt q p e s m args below meth c H locs cells slots mc ms ls hC hR hS hc hs hl) (fun q => kf q p e s m args below meth c H locs cells slots mc ms ls hC hR hS hc hs hl)
theorem ev_icmp_le {x y : Int32} {off : Int} {tgt : Nat} (hd : decode M.2.1 pc = .ok (.if_icmp .le off, 3)) (ht : (pc : Int) + off = (tgt : Int)) (kt : x ≤ y → ev_V G d bc bs M Post g tgt lv st) (kf : ¬ x ≤ y → ev_V G d bc bs M Post g (pc + 3) lv st) : ev_V G d bc bs M Post g pc lv (.int y :: .int x :: st) :=
  fun p e s m args below meth c H locs cells slots mc ms ls hC hR hS hc hs hl => lv_icmp_le hC.1 hC.2.1 hd ht (fun q => kt q p e s m args below meth c H locs cells slots mc ms ls hC hR hS hc hs hl) (fun q => kf q p e s m args below meth c H locs cells slots mc ms ls hC hR hS hc hs hl)
theorem ev_if_le {x : Int32} {off : Int} {tgt : Nat} (hd : decode M.2.1 pc = .ok (.ifCond .le off, 3)) (ht : (pc : Int) + off = (tgt : Int)) (kt : x ≤ 0 → ev_V G d bc bs M Post g tgt lv st) (kf : ¬ x ≤ 0 → ev_V G d bc bs M Post g (pc + 3) lv st) : ev_V G d bc bs M Post g pc lv (.int x :: st) :=
  fun p e s m args below meth c H locs cells slots mc ms ls hC hR hS hc hs hl => lv_if_le hC.1 hC.2.1 hd ht (fun q => kt q p e s m args below meth c H locs cells slots mc ms ls hC hR hS hc hs hl) (fun q => kf q p e s m args below meth c H locs cells slots mc ms ls hC hR hS hc hs hl)
theorem ev_acmp_eq {rx ry : Option Nat} {off : Int} {tgt : Nat} (hd : decode M.2.1 pc = .ok (.if_acmp .eq off, 3)) (ht : (pc : Int) + off = (tgt : Int)) (kt : rx = ry → ev_V G d bc bs M Post g tgt lv st) (kf : ¬ rx = ry → ev_V G d bc bs M Post g (pc + 3) lv st) : ev_V G d bc bs M Post g pc lv (va_rf ry :: va_rf rx :: st) :=
  fun p e s m args below meth c H locs cells slots mc ms ls hC hR hS hc hs hl => lv_acmp_eq hC.1 hC.2.1 hd ht (fun q => kt q p e s m args below meth c H locs cells slots mc ms ls hC hR hS hc hs hl) (fun q => kf q p e s m args below meth c H locs cells slots mc ms ls hC hR hS hc hs hl)
theorem ev_acmp_ne {rx ry : Option Nat} {off : Int} {tgt : Nat} (hd : decode M.2.1 pc = .ok (.if_acmp .ne off, 3)) (ht : (pc : Int) + off = (tgt : Int)) (kt : ¬ rx = ry → ev_V G d bc bs M Post g tgt lv st) (kf : rx = ry → ev_V G d bc bs M Post g (pc + 3) lv st) : ev_V G d bc bs M Post g pc lv (va_rf ry :: va_rf rx :: st) :=
  fun p e s m args below meth c H locs cells slots mc ms ls hC hR hS hc hs hl => lv_acmp_ne hC.1 hC.2.1 hd ht (fun q => kt q p e s m args below meth c H locs cells slots mc ms ls hC hR hS hc hs hl) (fun q => kf q p e s m args below meth c H locs cells slots mc ms ls hC hR hS hc hs hl)
theorem ev_goto {off : Int} {tgt : Nat} (hd : decode M.2.1 pc = .ok (.goto off, 3)) (ht : (pc : Int) + off = (tgt : Int)) (k : ev_V G d bc bs M Post g tgt lv st) : ev_V G d bc bs M Post g pc lv st :=
  fun p e s m args below meth c H locs cells slots mc ms ls hC hR hS hc hs hl => lv_goto hC.1 hC.2.1 hd ht (k p e s m args below meth c H locs cells slots mc ms ls hC hR hS hc hs hl)
theorem ev_ifnonnull {x : Nat} {off : Int} {tgt : Nat} (hd : decode M.2.1 pc = .ok (.ifnonnull off, 3)) (ht : (pc : Int) + off = (tgt : Int)) (k : ev_V G d bc bs M Post g tgt lv st) : ev_V G d bc bs M Post g pc lv (.ref x :: st) :=
  fun p e s m args below meth c H locs cells slots mc ms ls hC hR hS hc hs hl => lv_ifnonnull hC.1 hC.2.1 hd ht (k p e s m args below meth c H locs cells slots mc ms ls hC hR hS hc hs hl)
theorem ev_ifnull {x : Nat} {off : Int} (hd : decode M.2.1 pc = .ok (.ifnull off, 3)) (k : ev_V G d bc bs M Post g (pc + 3) lv st) : ev_V G d bc bs M Post g pc lv (.ref x :: st) :=
  fun p e s m args below meth c H locs cells slots mc ms ls hC hR hS hc hs hl => lv_ifnull hC.1 hC.2.1 hd (k p e s m args below meth c H locs cells slots mc ms ls hC hR hS hc hs hl)
theorem ev_ifnullN {off : Int} {tgt : Nat} (hd : decode M.2.1 pc = .ok (.ifnull off, 3)) (ht : (pc : Int) + off = (tgt : Int)) (k : ev_V G d bc bs M Post g tgt lv st) : ev_V G d bc bs M Post g pc lv (.null :: st) :=
  fun p e s m args below meth c H locs cells slots mc ms ls hC hR hS hc hs hl => lv_ifnullN hC.1 hC.2.1 hd ht (k p e s m args below meth c H locs cells slots mc ms ls hC hR hS hc hs hl)
theorem ev_ifnonnullN {off : Int} (hd : decode M.2.1 pc = .ok (.ifnonnull off, 3)) (k : ev_V G d bc bs M Post g (pc + 3) lv st) : ev_V G d bc bs M Post g pc lv (.null :: st) :=
  fun p e s m args below meth c H locs cells slots mc ms ls hC hR hS hc hs hl => lv_ifnonnullN hC.1 hC.2.1 hd (k p e s m args below meth c H locs cells slots mc ms ls hC hR hS hc hs hl)
theorem ev_lookup {dflt : Int} {ps : Array (Int × Int)} {len : Nat} {x : Int32} {off : Int} {tgt : Nat} (hd : decode M.2.1 pc = .ok (.lookupswitch dflt ps, len)) (hp : (ps.toList.zip (ps.toList.drop 1)).all (fun (a, next) => a.1 < next.1) = true) (ho : Op.lookupswitch.offset ps.toList dflt x.toInt = off) (ht : (pc : Int) + off = (tgt : Int)) (k : ev_V G d bc bs M Post g tgt lv st) : ev_V G d bc bs M Post g pc lv (.int x :: st) :=
  fun p e s m args below meth c H locs cells slots mc ms ls hC hR hS hc hs hl => lv_lookup hC.1 hC.2.1 hd hp ho ht (k p e s m args below meth c H locs cells slots mc ms ls hC hR hS hc hs hl)
theorem ev_tableOut {dflt lo hi : Int} {offs : Array Int} {len : Nat} {x : Int32} {tgt : Nat} (hd : decode M.2.1 pc = .ok (.tableswitch dflt lo hi offs, len)) (h : x.toInt < lo ∨ hi < x.toInt) (ht : (pc : Int) + dflt = (tgt : Int)) (k : ev_V G d bc bs M Post g tgt lv st) : ev_V G d bc bs M Post g pc lv (.int x :: st) :=
  fun p e s m args below meth c H locs cells slots mc ms ls hC hR hS hc hs hl => lv_tableOut hC.1 hC.2.1 hd h ht (k p e s m args below meth c H locs cells slots mc ms ls hC hR hS hc hs hl)
theorem ev_tableIn {dflt lo hi : Int} {offs : Array Int} {len : Nat} {x : Int32} {off : Int} {tgt : Nat} (hd : decode M.2.1 pc = .ok (.tableswitch dflt lo hi offs, len)) (h1 : ¬ x.toInt < lo) (h2 : ¬ hi < x.toInt) (ho : offs[(x.toInt - lo).toNat]? = some off) (ht : (pc : Int) + off = (tgt : Int)) (k : ev_V G d bc bs M Post g tgt lv st) : ev_V G d bc bs M Post g pc lv (.int x :: st) :=
  fun p e s m args below meth c H locs cells slots mc ms ls hC hR hS hc hs hl => lv_tableIn hC.1 hC.2.1 hd h1 h2 ho ht (k p e s m args below meth c H locs cells slots mc ms ls hC hR hS hc hs hl)
theorem ev_ldc {index : Nat} {v : Int32} (hd : decode M.2.1 pc = .ok (.ldc index, 2)) (hw : Cond.constant M.1.cls index v ∈ ev_T) (k : ev_V G d bc bs M Post g (pc + 2) lv (.int v :: st)) : ev_V G d bc bs M Post g pc lv st :=
  fun p e s m args below meth c H locs cells slots mc ms ls hC hR hS hc hs hl => lv_ldc hC.1 hC.2.1 hC.2.2.2.2.2.1 (hC.2.2.2.2.2.2.1 _ hw) hd (k p e s m args below meth c H locs cells slots mc ms ls hC hR hS hc hs hl)
theorem ev_ldcw {index : Nat} {v : Int32} (hd : decode M.2.1 pc = .ok (.ldc_w index, 3)) (hw : Cond.constant M.1.cls index v ∈ ev_T) (k : ev_V G d bc bs M Post g (pc + 3) lv (.int v :: st)) : ev_V G d bc bs M Post g pc lv st :=
  fun p e s m args below meth c H locs cells slots mc ms ls hC hR hS hc hs hl => lv_ldcw hC.1 hC.2.1 hC.2.2.2.2.2.1 (hC.2.2.2.2.2.2.1 _ hw) hd (k p e s m args below meth c H locs cells slots mc ms ls hC hR hS hc hs hl)
theorem ev_ldc2 {index : Nat} {v : Int64} (hd : decode M.2.1 pc = .ok (.ldc2_w index, 3)) (hw : Cond.constantLong M.1.cls index v ∈ ev_T) (k : ev_V G d bc bs M Post g (pc + 3) lv (.long v :: st)) : ev_V G d bc bs M Post g pc lv st :=
  fun p e s m args below meth c H locs cells slots mc ms ls hC hR hS hc hs hl => lv_ldc2 hC.1 hC.2.1 hC.2.2.2.2.2.1 (hC.2.2.2.2.2.2.1 _ hw) hd (k p e s m args below meth c H locs cells slots mc ms ls hC hR hS hc hs hl)
/-! the heap -/
theorem ev_R.get {g : ev_H} {H : Heap} {a : Nat} {e : va_E} (hR : ev_R G g H) (h : g a = some e) : ∃ (L : List Nat) (f : Nat → va_E) (k : Nat), (∀ a e, g a = some e ↔ a ∈ L ∧ f a = e) ∧ va_P G.2.2.1 vwCl (va_pl L f) H ∧ va_D (ev_A G) (va_pl L f) ∧ (va_pl L f)[k]? = some (a, e) ∧ a ∈ L ∧ f a = e := by
  obtain ⟨L, f, h1, h2, h3⟩ := hR
  obtain ⟨h4, h5⟩ := (h1 a e).mp h
  obtain ⟨k, hk⟩ := va_pl_get (X := []) (f := f) h4
  exact ⟨L, f, k, h1, h2, h3, by rw [← h5]; exact hk, h4, h5⟩
theorem ev_R.set {g : ev_H} {H1 : Heap} {a k : Nat} {e e1 : va_E} {L : List Nat} {f : Nat → va_E} (h1 : ∀ a e, g a = some e ↔ a ∈ L ∧ f a = e) (h3 : va_D (ev_A G) (va_pl L f)) (hk : (va_pl L f)[k]? = some (a, e)) (ha : a ∈ L) (he : f a = e) (hP : va_P G.2.2.1 vwCl ((va_pl L f).set k (a, e1)) H1) (hD : va_D (ev_A G) ((va_pl L f).set k (a, e1))) : ev_R G (ev_up g a e1) H1 := by
  have e2 : (va_pl L f).set k (a, e1) = va_pl L (va_up f a e1) := va_pl_set (X := []) h3 ha (by rw [he]; exact hk)
  rw [e2] at hP hD
  refine ⟨L, va_up f a e1, fun b x => ?_, hP, hD⟩
  by_cases hb : b = a
  · subst hb
    rw [ev_up_s, va_up_self]
    exact ⟨fun q => ⟨ha, Option.some.inj q⟩, fun q => congrArg some q.2⟩
  · rw [ev_up_n _ _ hb, va_up_ne _ _ hb]
    exact h1 b x
theorem ev_R.push {g : ev_H} {H1 : Heap} {q : Nat} {e1 : va_E} {L : List Nat} {f : Nat → va_E} (h1 : ∀ a e, g a = some e ↔ a ∈ L ∧ f a = e) (hP : va_P G.2.2.1 vwCl (va_pl L f ++ [(q, e1)]) H1) (hD : va_D (ev_A G) (va_pl L f ++ [(q, e1)])) : g q = none ∧ ev_R G (ev_up g q e1) H1 := by
  have hq : q ∉ L := va_pl_fresh2 (X := []) hD
  rw [va_pl_push hq] at hP hD
  refine ⟨?_, L ++ [q], va_up f q e1, fun b x => ?_, hP, hD⟩
  · cases hg : g q with
    | none => rfl
    | some x => exact absurd ((h1 q x).mp hg).1 hq
  by_cases hb : b = q
  · subst hb
    rw [ev_up_s, va_up_self]
    exact ⟨fun z => ⟨by simp, Option.some.inj z⟩, fun z => congrArg some z.2⟩
  · rw [ev_up_n _ _ hb, va_up_ne _ _ hb, h1 b x]
    simp [hb]
/-- the field at this index of the class own is field k of class ci -/
def ev_F (own : String) (idx ci k : Nat) (ty : FieldType) (fin : Bool) : Prop := ∃ (C : String) (T : u_T) (N : Nat) (ref : String) (ty0 : Nat → FieldType), vwCl[ci]? = some (C, T, N) ∧ k < N ∧ Cond.fieldLink own idx ref (T k).2.1 (T k).2.2.1 ∈ ev_T ∧ (ref = (T k).1 ∨ Cond.sameField ref (T k).1 (T k).2.1 (T k).2.2.1 ∈ ev_T) ∧ (∀ w ∈ u_ws C T N, w ∈ lw_tbl) ∧ (∀ w ∈ u_ws C T N, goodWord w = true) ∧ (∀ k, k < N → parseFieldDescriptor (T k).2.2.1 = some (ty0 k)) ∧ (∀ a, a < N → ∀ b, b < N → a ≠ b → (T a).2.1 ≠ (T b).2.1) ∧ (T k).2.2.2 = fin ∧ ty0 k = ty ∧ (fin = true → (T k).1 = own)
theorem ev_same {args : Array Value} {s : State} {ref : String} {T : u_T} {k : Nat} (h : ref = (T k).1 ∨ Cond.sameField ref (T k).1 (T k).2.1 (T k).2.2.1 ∈ ev_T) (ht : ∀ w ∈ ev_T, w.before args s = true) : ∀ x, s.fieldFound? (T k).1 (T k).2.1 (T k).2.2.1 = some x → s.fieldFound? ref (T k).2.1 (T k).2.2.1 = some x := by
  intro x hx
  rcases h with h | h
  · rw [h]; exact hx
  · exact u_same (ht _ h) x hx
theorem ev_get {index ci j : Nat} {ty : FieldType} {fin : Bool} {a : Nat} {fs : List Value} {v : Value} (hE : ev_En G) (hd : decode M.2.1 pc = .ok (.getfield index, 3)) (hF : ev_F M.1.cls index ci j ty fin) (hg : g a = some (.inr (ci, fs))) (hv : fs[j]? = some v) (k : ev_V G d bc bs M Post g (pc + 3) lv (v :: st)) : ev_V G d bc bs M Post g pc lv (.ref a :: st) := by
  intro p e s m args below meth c H locs cells slots mc ms ls hC hR hS hc hs hl
  obtain ⟨C, T, N, ref, ty0, f1, f2, f3, f4, f5, f6, f7, f8, f9, f10, f11⟩ := hF
  obtain ⟨L, f, q, h1, h2, h3, h4, h5, h6⟩ := hR.get hg
  exact va_get (Ts := ev_T) hC.1 hC.2.1 hC.2.2.2.2.2.2.1 (fun w hw => List.mem_filter.mpr ⟨f5 w hw, f6 w hw⟩) hC.2.2.2.2.2.1 (va_K.moved hC.2.2.2.2.2.2.2.1.1 hE.1) h2 q h4 f1 j f2 (hC.2.2.2.2.2.2.1 _ f3) (ev_same f4 hC.2.2.2.2.2.2.1) hv hd (k p e s m args below meth c H locs cells slots mc ms ls hC hR hS hc hs hl)
theorem ev_put {index ci j : Nat} {ty : FieldType} {a : Nat} {fs : List Value} {v : Value} (hE : ev_En G) (hd : decode M.2.1 pc = .ok (.putfield index, 3)) (hF : ev_F M.1.cls index ci j ty false) (hg : g a = some (.inr (ci, fs))) (hl0 : j < fs.length) (hn : narrow ty v = v) (hf : fits ty v = true) (k : ev_V G d bc bs M Post (ev_up g a (.inr (ci, fs.set j v))) (pc + 3) lv st) : ev_V G d bc bs M Post g pc lv (v :: .ref a :: st) := by
  intro p e s m args below meth c H locs cells slots mc ms ls hC hR hS hc hs hl
  obtain ⟨C, T, N, ref, ty0, f1, f2, f3, f4, f5, f6, f7, f8, f9, f10, f11⟩ := hF
  obtain ⟨L, f, q, h1, h2, h3, h4, h5, h6⟩ := hR.get hg
  exact va_put (Ts := ev_T) hC.1 hC.2.1 hC.2.2.2.2.2.2.1 (fun w hw => List.mem_filter.mpr ⟨f5 w hw, f6 w hw⟩) ty0 f7 f8 hC.2.2.2.2.2.1 (va_K.moved hC.2.2.2.2.2.2.2.1.1 hE.1) h2 h3 hS q h4 f1 j f2 (hC.2.2.2.2.2.2.1 _ f3) (ev_same f4 hC.2.2.2.2.2.2.1) f9 (by rw [f7 j f2, f10]) hn hf hl0 hd (fun H1 locs1 hP hD hS1 => k p e s m args below meth c H1 locs1 cells slots mc ms ls hC (ev_R.set h1 h3 h4 h5 h6 hP hD) hS1 hc hs hl)
theorem ev_putF {index ci j : Nat} {ty : FieldType} {a : Nat} {fs : List Value} {v : Value} (hE : ev_En G) (hi : M.1.name = "<init>") (hd : decode M.2.1 pc = .ok (.putfield index, 3)) (hF : ev_F M.1.cls index ci j ty true) (hg : g a = some (.inr (ci, fs))) (hl0 : j < fs.length) (hn : narrow ty v = v) (hf : fits ty v = true) (k : ev_V G d bc bs M Post (ev_up g a (.inr (ci, fs.set j v))) (pc + 3) lv st) : ev_V G d bc bs M Post g pc lv (v :: .ref a :: st) := by
  intro p e s m args below meth c H locs cells slots mc ms ls hC hR hS hc hs hl
  obtain ⟨C, T, N, ref, ty0, f1, f2, f3, f4, f5, f6, f7, f8, f9, f10, f11⟩ := hF
  obtain ⟨L, f, q, h1, h2, h3, h4, h5, h6⟩ := hR.get hg
  exact va_putF (Ts := ev_T) hC.1 hC.2.1 hC.2.2.2.2.2.2.1 (fun w hw => List.mem_filter.mpr ⟨f5 w hw, f6 w hw⟩) ty0 f7 f8 hC.2.2.2.2.2.1 (va_K.moved hC.2.2.2.2.2.2.2.1.1 hE.1) h2 h3 hS q h4 f1 j f2 (hC.2.2.2.2.2.2.1 _ f3) (ev_same f4 hC.2.2.2.2.2.2.1) f9 (by rw [hC.2.2.2.2.2.2.2.2.2]; exact hi) (f11 rfl) (by rw [f7 j f2, f10]) hn hf hl0 hd (fun H1 locs1 hP hD hS1 => k p e s m args below meth c H1 locs1 cells slots mc ms ls hC (ev_R.set h1 h3 h4 h5 h6 hP hD) hS1 hc hs hl)
theorem ev_iald {i : Int32} {n a : Nat} {f : Nat → Int32} (hE : ev_En G) (hd : decode M.2.1 pc = .ok (.iaload, 1)) (hg : g a = some (.inl (G.2.2.2 0, n, .inl f))) (hi : vp_in i n) (k : ev_V G d bc bs M Post g (pc + 1) lv (.int (f i.toNatClampNeg) :: st)) : ev_V G d bc bs M Post g pc lv (.int i :: .ref a :: st) := by
  intro p e s m args below meth c H locs cells slots mc ms ls hC hR hS hc hs hl
  obtain ⟨L, f', q, h1, h2, h3, h4, h5, h6⟩ := hR.get hg
  exact va_iald hC.1 hC.2.1 (va_K.moved hC.2.2.2.2.2.2.2.1.1 hE.1) h2 q 0 h4 rfl hi hd (k p e s m args below meth c H locs cells slots mc ms ls hC hR hS hc hs hl)
theorem ev_lald {i : Int32} {n a : Nat} {f : Nat → Int64} (hE : ev_En G) (hd : decode M.2.1 pc = .ok (.laload, 1)) (hg : g a = some (.inl (G.2.2.2 1, n, .inr (.inl f)))) (hi : vp_in i n) (k : ev_V G d bc bs M Post g (pc + 1) lv (.long (f i.toNatClampNeg) :: st)) : ev_V G d bc bs M Post g pc lv (.int i :: .ref a :: st) := by
  intro p e s m args below meth c H locs cells slots mc ms ls hC hR hS hc hs hl
  obtain ⟨L, f', q, h1, h2, h3, h4, h5, h6⟩ := hR.get hg
  exact va_lald hC.1 hC.2.1 (va_K.moved hC.2.2.2.2.2.2.2.1.1 hE.1) h2 q 1 h4 rfl hi hd (k p e s m args below meth c H locs cells slots mc ms ls hC hR hS hc hs hl)
theorem ev_bald {i : Int32} {n a : Nat} {f : Nat → Int32} (hE : ev_En G) (hd : decode M.2.1 pc = .ok (.baload, 1)) (hg : g a = some (.inl (G.2.2.2 2, n, .inl f))) (hi : vp_in i n) (k : ev_V G d bc bs M Post g (pc + 1) lv (.int (f i.toNatClampNeg) :: st)) : ev_V G d bc bs M Post g pc lv (.int i :: .ref a :: st) := by
  intro p e s m args below meth c H locs cells slots mc ms ls hC hR hS hc hs hl
  obtain ⟨L, f', q, h1, h2, h3, h4, h5, h6⟩ := hR.get hg
  exact va_bald hC.1 hC.2.1 (va_K.moved hC.2.2.2.2.2.2.2.1.1 hE.1) h2 q 2 h4 rfl hi hd (k p e s m args below meth c H locs cells slots mc ms ls hC hR hS hc hs hl)
theorem ev_zald {i : Int32} {n a : Nat} {f : Nat → Int32} (hE : ev_En G) (hd : decode M.2.1 pc = .ok (.baload, 1)) (hg : g a = some (.inl (G.2.2.2 3, n, .inl f))) (hi : vp_in i n) (k : ev_V G d bc bs M Post g (pc + 1) lv (.int (f i.toNatClampNeg) :: st)) : ev_V G d bc bs M Post g pc lv (.int i :: .ref a :: st) := by
  intro p e s m args below meth c H locs cells slots mc ms ls hC hR hS hc hs hl
  obtain ⟨L, f', q, h1, h2, h3, h4, h5, h6⟩ := hR.get hg
  exact va_zald hC.1 hC.2.1 (va_K.moved hC.2.2.2.2.2.2.2.1.1 hE.1) h2 q 3 h4 rfl hi hd (k p e s m args below meth c H locs cells slots mc ms ls hC hR hS hc hs hl)
theorem ev_aald {i : Int32} {n a : Nat} {f : Nat → Option Nat} (hE : ev_En G) (hd : decode M.2.1 pc = .ok (.aaload, 1)) (hg : g a = some (.inl (G.2.2.2 4, n, .inr (.inr (.inr (.inr f)))))) (hi : vp_in i n) (k : ev_V G d bc bs M Post g (pc + 1) lv (va_rf (f i.toNatClampNeg) :: st)) : ev_V G d bc bs M Post g pc lv (.int i :: .ref a :: st) := by
  intro p e s m args below meth c H locs cells slots mc ms ls hC hR hS hc hs hl
  obtain ⟨L, f', q, h1, h2, h3, h4, h5, h6⟩ := hR.get hg
  exact va_aldq hC.1 hC.2.1 (va_K.moved hC.2.2.2.2.2.2.2.1.1 hE.1) h2 q 4 h4 rfl hi hd (k p e s m args below meth c H locs cells slots mc ms ls hC hR hS hc hs hl)
theorem ev_iast {i : Int32} {x : Int32} {n a : Nat} {f : Nat → Int32} (hE : ev_En G) (hd : decode M.2.1 pc = .ok (.iastore, 1)) (hg : g a = some (.inl (G.2.2.2 0, n, .inl f))) (hi : vp_in i n) (k : ev_V G d bc bs M Post (ev_up g a (.inl (G.2.2.2 0, n, .inl (upd f i.toNatClampNeg x)))) (pc + 1) lv st) : ev_V G d bc bs M Post g pc lv (.int x :: .int i :: .ref a :: st) := by
  intro p e s m args below meth c H locs cells slots mc ms ls hC hR hS hc hs hl
  obtain ⟨L, f', q, h1, h2, h3, h4, h5, h6⟩ := hR.get hg
  exact va_iast hC.1 hC.2.1 (va_K.moved hC.2.2.2.2.2.2.2.1.1 hE.1) h2 h3 hS q 0 h4 rfl hi hd (fun H1 locs1 hP hD hS1 => k p e s m args below meth c H1 locs1 cells slots mc ms ls hC (ev_R.set h1 h3 h4 h5 h6 hP hD) hS1 hc hs hl)
theorem ev_bast {i : Int32} {x : Int32} {n a : Nat} {f : Nat → Int32} (hE : ev_En G) (hd : decode M.2.1 pc = .ok (.bastore, 1)) (hg : g a = some (.inl (G.2.2.2 2, n, .inl f))) (hi : vp_in i n) (k : ev_V G d bc bs M Post (ev_up g a (.inl (G.2.2.2 2, n, .inl (upd f i.toNatClampNeg (vp_nar .byte x))))) (pc + 1) lv st) : ev_V G d bc bs M Post g pc lv (.int x :: .int i :: .ref a :: st) := by
  intro p e s m args below meth c H locs cells slots mc ms ls hC hR hS hc hs hl
  obtain ⟨L, f', q, h1, h2, h3, h4, h5, h6⟩ := hR.get hg
  exact va_bast hC.1 hC.2.1 (va_K.moved hC.2.2.2.2.2.2.2.1.1 hE.1) h2 h3 hS q 2 h4 rfl hi hd (fun H1 locs1 hP hD hS1 => k p e s m args below meth c H1 locs1 cells slots mc ms ls hC (ev_R.set h1 h3 h4 h5 h6 hP hD) hS1 hc hs hl)
theorem ev_zast {i : Int32} {x : Int32} {n a : Nat} {f : Nat → Int32} (hE : ev_En G) (hd : decode M.2.1 pc = .ok (.bastore, 1)) (hg : g a = some (.inl (G.2.2.2 3, n, .inl f))) (hi : vp_in i n) (k : ev_V G d bc bs M Post (ev_up g a (.inl (G.2.2.2 3, n, .inl (upd f i.toNatClampNeg (vp_nar .boolean x))))) (pc + 1) lv st) : ev_V G d bc bs M Post g pc lv (.int x :: .int i :: .ref a :: st) := by
  intro p e s m args below meth c H locs cells slots mc ms ls hC hR hS hc hs hl
  obtain ⟨L, f', q, h1, h2, h3, h4, h5, h6⟩ := hR.get hg
  exact va_zast hC.1 hC.2.1 (va_K.moved hC.2.2.2.2.2.2.2.1.1 hE.1) h2 h3 hS q 3 h4 rfl hi hd (fun H1 locs1 hP hD hS1 => k p e s m args below meth c H1 locs1 cells slots mc ms ls hC (ev_R.set h1 h3 h4 h5 h6 hP hD) hS1 hc hs hl)
theorem ev_last {i : Int32} {x : Int64} {n a : Nat} {f : Nat → Int64} (hE : ev_En G) (hd : decode M.2.1 pc = .ok (.lastore, 1)) (hg : g a = some (.inl (G.2.2.2 1, n, .inr (.inl f)))) (hi : vp_in i n) (k : ev_V G d bc bs M Post (ev_up g a (.inl (G.2.2.2 1, n, .inr (.inl (vp_updL f i.toNatClampNeg x))))) (pc + 1) lv st) : ev_V G d bc bs M Post g pc lv (.long x :: .int i :: .ref a :: st) := by
  intro p e s m args below meth c H locs cells slots mc ms ls hC hR hS hc hs hl
  obtain ⟨L, f', q, h1, h2, h3, h4, h5, h6⟩ := hR.get hg
  exact va_last hC.1 hC.2.1 (va_K.moved hC.2.2.2.2.2.2.2.1.1 hE.1) h2 h3 hS q 1 h4 rfl hi hd (fun H1 locs1 hP hD hS1 => k p e s m args below meth c H1 locs1 cells slots mc ms ls hC (ev_R.set h1 h3 h4 h5 h6 hP hD) hS1 hc hs hl)
theorem ev_alen {a t0 n : Nat} {b : (Nat → Int32) ⊕ (Nat → Int64) ⊕ (Nat → UInt32) ⊕ (Nat → UInt64) ⊕ (Nat → Option Nat)} {ty : FieldType} (hE : ev_En G) (hd : decode M.2.1 pc = .ok (.arraylength, 1)) (ht : (ev_tys G)[t0]? = some (G.2.2.2 t0, ty)) (hg : g a = some (.inl (G.2.2.2 t0, n, b))) (k : ev_V G d bc bs M Post g (pc + 1) lv (.int (nI n) :: st)) : ev_V G d bc bs M Post g pc lv (.ref a :: st) := by
  intro p e s m args below meth c H locs cells slots mc ms ls hC hR hS hc hs hl
  obtain ⟨L, f', q, h1, h2, h3, h4, h5, h6⟩ := hR.get hg
  exact va_alen hC.1 hC.2.1 (va_K.moved hC.2.2.2.2.2.2.2.1.1 hE.1) h2 q t0 h4 ht rfl hd (k p e s m args below meth c H locs cells slots mc ms ls hC hR hS hc hs hl)
/-! ends -/
theorem ev_iret {v : Int32} {ty : FieldType} (hd : decode M.2.1 pc = .ok (.ireturn, 1)) (hr : M.2.2.2.1 = some ty) (hn : narrow ty (.int v) = .int v) (hq : Post (.inl (some (.int v))) g) : ev_V G d bc bs M Post g pc lv [.int v] := by
  intro p e s m args below meth c H locs cells slots mc ms ls hC hR hS hc hs hl
  refine W.widen (k := mc) (n := ms) (by omega) (by omega) (vx_ret (W.zret hC.1 hC.2.1 (hC.2.2.2.1.trans hr) hn (fun t ht hW => ⟨_, g, rfl, ⟨by rw [ht]; exact hR, by rw [ht]; exact (hC.2.2.2.2.2.2.2.1.of hS).to hW⟩, hq⟩) hS.2.2 hd hC.2.2.2.2.1))
theorem ev_vret (hd : decode M.2.1 pc = .ok (.return_, 1)) (hr : M.2.2.2.1 = none) (hq : Post (.inl none) g) : ev_V G d bc bs M Post g pc lv [] := by
  intro p e s m args below meth c H locs cells slots mc ms ls hC hR hS hc hs hl
  refine W.widen (k := mc) (n := ms) (by omega) (by omega) (vx_ret (W.vret hC.1 hC.2.1 (hC.2.2.2.1.trans hr) (fun t ht hW => ⟨_, g, rfl, ⟨by rw [ht]; exact hR, by rw [ht]; exact (hC.2.2.2.2.2.2.2.1.of hS).to hW⟩, hq⟩) hS.2.2 hd hC.2.2.2.2.1))
theorem ev_aret {v : Value} {rt : FieldType} (hd : decode M.2.1 pc = .ok (.areturn, 1)) (hr : M.2.2.2.1 = some rt) (hrt : (∃ n, rt = .object n) ∨ ∃ t, rt = .array t) (hv : v = .null ∨ ∃ a, v = .ref a) (hq : Post (.inl (some v)) g) : ev_V G d bc bs M Post g pc lv [v] := by
  intro p e s m args below meth c H locs cells slots mc ms ls hC hR hS hc hs hl
  refine W.widen (k := mc) (n := ms) (by omega) (by omega) (vx_ret (W.aret hC.1 hC.2.1 (hC.2.2.2.1.trans hr) hrt hv (fun t ht hW => ⟨_, g, rfl, ⟨by rw [ht]; exact hR, by rw [ht]; exact (hC.2.2.2.2.2.2.2.1.of hS).to hW⟩, hq⟩) hS.2.2 hd hC.2.2.2.2.1))

end Rules
end EV
