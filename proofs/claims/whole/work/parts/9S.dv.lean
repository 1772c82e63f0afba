section DV
/-! THE LAW: what its walk needs -/
section R
variable {G : ev_G} {d bc bs : Nat} {M : ev_M} {Post : ev_P} {g : ev_H} {pc : Nat} {lv : List (Option Value)} {st : List Value}
/-- the script -/
theorem ev_O.X {s : State} {b L : Nat} {xs : Nat → Int32} (h : ev_O G s s.heap) (hb : b < G.2.1.heap.size) (hX : va_X b L xs G.2.1 G.2.1.heap) : va_X b L xs s s.heap := (hX.moved h.1).kept (h.2.2.1 b hb)
theorem ev_sld {b L : Nat} {xs : Nat → Int32} {i : Int32} (hd : decode M.2.1 pc = .ok (.iaload, 1)) (hb : b < G.2.1.heap.size) (hX : va_X b L xs G.2.1 G.2.1.heap) (hi : vp_in i L) (k : ev_V G d bc bs M Post g (pc + 1) lv (.int (xs i.toNatClampNeg) :: st)) : ev_V G d bc bs M Post g pc lv (.int i :: .ref b :: st) := by
  intro p e s m args below meth c H locs cells slots mc ms ls hC hR hS hc hs hl
  have hO := hC.2.2.2.2.2.2.2.1
  exact va_sld hC.1 hC.2.1 (hO.X hb hX) (Nat.lt_of_lt_of_le hb hO.2.1) (Nat.not_le.mpr hb) hS hi hd (k p e s m args below meth c H locs cells slots mc ms ls hC hR hS hc hs hl)
theorem ev_slen {b L : Nat} {xs : Nat → Int32} (hd : decode M.2.1 pc = .ok (.arraylength, 1)) (hb : b < G.2.1.heap.size) (hX : va_X b L xs G.2.1 G.2.1.heap) (k : ev_V G d bc bs M Post g (pc + 1) lv (.int (nI L) :: st)) : ev_V G d bc bs M Post g pc lv (.ref b :: st) := by
  intro p e s m args below meth c H locs cells slots mc ms ls hC hR hS hc hs hl
  have hO := hC.2.2.2.2.2.2.2.1
  exact va_slen hC.1 hC.2.1 (hO.X hb hX) (Nat.lt_of_lt_of_le hb hO.2.1) (Nat.not_le.mpr hb) hS hd (k p e s m args below meth c H locs cells slots mc ms ls hC hR hS hc hs hl)
/-- a handler takes it -/
theorem ev_catch {E name : String} {pre suf : List (Nat × Nat × Nat × Nat)} {x0 x1 hp ct : Nat} (htab : M.2.2.2.2 = pre ++ (x0, x1, hp, ct) :: suf) (hpass : ∀ z, z ∈ pre → z.2.2.2 ≠ 0 ∧ ∃ nm : String, Cond.classLink M.1.cls z.2.2.2 nm ∈ ev_T ∧ va_Nc E nm G.2.1) (h1 : x0 ≤ pc) (h2 : pc < x1) (h0 : ct ≠ 0) (hlink : Cond.classLink M.1.cls ct name ∈ ev_T) (hcast : va_Nw (.castable E name) G.2.1) (k : ∀ q : Nat, ev_V G d bc bs M Post g hp lv [.ref q]) : ev_Vx G d bc bs M Post g pc lv E := by
  intro p e s m args below meth c H locs cells slots mc ms ls rest q ce hC hR hS hc hs hl hq hv hcl
  have hO := hC.2.2.2.2.2.2.2.1
  have hts := hC.2.2.2.2.2.2.1
  refine vx_catch hC.2.2.2.2.2.1 (tableOf pre) ⟨x0, x1, hp, ct⟩ (tableOf suf) ?_ (fun z hz => ?_) ?_ h0 (hts _ hlink) (hO.nw hcast) hq hv hcl (k q p e s m args below meth c H locs cells slots mc ms ls hC hR hS hc hs hl)
  · rw [hC.2.2.2.2.2.2.2.2.1, htab]
    unfold tableOf
    rw [List.map_append, List.map_cons]
  · obtain ⟨y, hy, rfl⟩ := List.mem_map.mp hz
    obtain ⟨a, nm, b1, b2⟩ := hpass y hy
    exact Or.inr ⟨a, nm, hts _ b1, b2.moved hO.1⟩
  · unfold covers
    simp [h1, h2]
/-- locals that nobody asks for -/
theorem ev_weak {lv' : List (Option Value)} (hn : lv'.length = lv.length) (h : ∀ (i : Nat) (v : Value), lv'[i]? = some (some v) → lv[i]? = some (some v)) (k : ev_V G d bc bs M Post g pc lv' st) : ev_V G d bc bs M Post g pc lv st := fun p e s m args below meth c H locs cells slots mc ms ls hC hR hS hc hs hl => k p e s m args below meth c H locs cells slots mc ms ls hC hR hS hc hs ⟨hl.1, hl.2.1, by rw [hn]; exact hl.2.2.1, fun i v hv => hl.2.2.2 i v (h i v hv)⟩
theorem ev_startH {mc ms : Nat} {As : List Value} {hh0 : Nat × Nat × Nat × Nat} {tt : List (Nat × Nat × Nat × Nat)} {lv0 : List (Option Value)} (hy : plainName M.1.cls = true) (hh : M.2.2.2.2 = hh0 :: tt) (hn : (lg_sl As).length ≤ M.2.2.1) (hlv : ev_ent As M.2.2.1 = lv0) (k : ev_V G d mc ms M Post g 0 lv0 []) : ev_C G d mc ms M As g Post := ev_entryH hy hh hn (hlv ▸ k)
/-- a call of a static method that has handlers -/
theorem ev_hdH {M' : ev_M} {h0 : Nat × Nat × Nat × Nat} {tt : List (Nat × Nat × Nat × Nat)} (h : M'.2.2.2.2 = h0 :: tt) : ev_ws M' = Cond.codeWith M'.1 M'.2.1 M'.2.2.1 M'.2.2.2.1 (h0 :: tt) :: ev_T := by
  obtain ⟨y, cc, ml, rt, tb⟩ := M'
  dsimp only at h
  subst h
  rfl
theorem ev_callSH {index n d' mc' ms' b k0 : Nat} {M' : ev_M} {Post' : ev_P} {As rest : List Value} {hh0 : Nat × Nat × Nat × Nat} {tt : List (Nat × Nat × Nat × Nat)} (hd : decode M.2.1 pc = .ok (.invokestatic index, 3)) (hh : M'.2.2.2.2 = hh0 :: tt) (hK : ev_K M' n) (hn : As.length = n) (hl1 : Cond.methodLink M.1.cls index M'.1 ∈ ev_T) (hl2 : Cond.static M'.1 ∈ ev_T) (hr : (rest.map fun v => v.category).sum ≤ 8) (hdd : d' + 1 ≤ d) (hM : ev_C G d' mc' ms' M' As g Post') (hb : b + mc' ≤ bc) (hs0 : k0 + ms' ≤ bs)
    (k : ∀ (v : Option Value) (g' : ev_H), Post' (.inl v) g' → ev_V G d b k0 M Post g' (pc + 3) lv (v.toList ++ rest))
    (kx : ∀ (E : String) (g' : ev_H), Post' (.inr E) g' → ev_Vx G d b k0 M Post g' pc lv E) : ev_V G d bc bs M Post g pc lv (As.reverse ++ rest) := by
  refine ev_run (mc' := mc') (ms' := ms') (Post' := Post') (a := As.toArray) (rest := rest) hb hs0 ?_ k kx
  intro p e s m args below meth c H locs cells slots mc ms ls hC hR hS hc hs hl
  obtain ⟨k1, k2, k3, k4, k5, k6⟩ := hK
  have hts := hC.2.2.2.2.2.2.1
  have hU : ∀ U : State, U.heap = H → s.WarmedH U.vm → ev_Pc G As g As.toArray U := fun U hU hW => ⟨rfl, by rw [hU]; exact hR, by rw [hU]; exact (hC.2.2.2.2.2.2.2.1.of hS).to hW⟩
  exact vx_runSX (hh := hh0 :: tt) ⟨hC.1, hC.2.1, hC.2.2.1, hC.2.2.2.2.2.1, hts⟩ hM (vx_cwSW n hts (ev_good1 hl1 (ev_good1 hl2 (ev_good1 k2 (ev_wsg k1)))) (ev_hdH hh) rfl rfl ⟨k3, k4, k5⟩ ⟨show d' + 1 ≤ d from hdd, show 8 + (M'.2.2.1 + 11) + 64 * d' ≤ 64 * d by omega⟩) ⟨ev_blind _, hU⟩ rfl hn hl rfl (by simpa [JFrame.monitorRoom] using hr) hd ⟨hc, hs⟩
/-- one argument of a call, read from the script -/
theorem la_arg {b L i jn : Nat} {xs : Nat → Int32} {j : Int} (hb : b < G.2.1.heap.size) (hX : va_X b L xs G.2.1 G.2.1.heap) (hL : L ≤ 3072) (hi : i + 6 ≤ L) (hj : jn < 6) (hv : Int32.ofInt j = nI jn) (d0 : decode M.2.1 pc = .ok (.aload_n 0, 1)) (d1 : decode M.2.1 (pc + 1) = .ok (.iload 4, 2)) (d2 : decode M.2.1 (pc + 1 + 2) = .ok (.iconst j, 1)) (d3 : decode M.2.1 (pc + 1 + 2 + 1) = .ok (.iadd, 1)) (d4 : decode M.2.1 (pc + 1 + 2 + 1 + 1) = .ok (.iaload, 1)) (h0 : lv[0]? = some (some (.ref b))) (h4 : lv[4]? = some (some (.int (nI i)))) (k : ev_V G d bc bs M Post g (pc + 1 + 2 + 1 + 1 + 1) lv (.int (xs (i + jn)) :: st)) : ev_V G d bc bs M Post g pc lv st := by
  refine ev_aload_n d0 rfl h0 ?_
  refine ev_iload d1 h4 ?_
  refine ev_iconst (v := nI jn) d2 hv ?_
  refine ev_iadd d3 ?_
  rw [nI_add]
  refine ev_sld d4 hb hX (vp_in_nI (by omega) (by omega)) ?_
  rw [nI_clamp (by omega)]
  exact k
end R
/-! worlds -/
section T
variable {G : ev_G} {K : Nat → Prop} {g0 g g2 : ev_H} {W : cw_W} {C : mo_S}
theorem cw_T.rb (hT : cw_T G K g0 W g C) (h : ∀ a, ¬ K a → g2 a = g a) (hx : ∀ a, K a → ∃ e, g2 a = some e) : cw_T G K g2 W g2 C := by
  obtain ⟨h1, h2, h3, h4⟩ := hT
  refine ⟨h1, fun a ha => ⟨rfl, hx a ha⟩, fun k i hl => ?_, h4⟩
  obtain ⟨a1, a2⟩ := h3 k i hl
  exact ⟨cw_at_cg h1 hl (fun _ _ => rfl) (fun _ _ _ => rfl) (fun _ => rfl) (h _ a2) a1, a2⟩
end T
/-- what a call of the class leaves to its caller -/
def la_W (W W2 : cw_W) : Prop := W2 99 0 = W 99 0 ∧ W2 0 0 = W 0 0
theorem la_W.t {W W2 W3 : cw_W} (h : la_W W W2) (h2 : la_W W2 W3) : la_W W W3 := ⟨h2.1.trans h.1, h2.2.trans h.2⟩
/-- an answer, or one of these exceptions -/
def la_ok (E : List String) (o : Option Value ⊕ String) : Prop := (∃ v : Int32, o = .inl (some (.int v))) ∨ ∃ (j : Nat) (e : String), E[j]? = some e ∧ o = .inr e
/-- how the law's own method tells it -/
def la_k (E : List String) (o : Option Value ⊕ String) (k : Int32) (f : Nat → Int64) : Prop := (∃ v : Int32, o = .inl (some (.int v)) ∧ k = 0 ∧ f 0 = v.toInt64) ∨ ∃ (j : Nat) (e : String), E[j]? = some e ∧ o = .inr e ∧ k = nI (j + 1)
/-- .. and what it leaves -/
def la_P (G : ev_G) (K : Nat → Prop) (E : List String) (Z : (Option Value ⊕ String) → cw_W → mo_S → Prop) (a : Nat) (g : ev_H) : ev_P := fun r g' => ∃ (o : Option Value ⊕ String) (W2 : cw_W) (C2 : mo_S) (k : Int32) (f : Nat → Int64), r = .inl (some (.int k)) ∧ Z o W2 C2 ∧ la_k E o k f ∧ cw_T G K g' W2 g' C2 ∧ (∀ b, K b → b ≠ a → g' b = g b) ∧ g' a = some (.inl (G.2.2.2 1, 1, .inr (.inl f)))
section P
variable {G : ev_G} {K : Nat → Prop} {g g1 : ev_H} {W2 : cw_W} {C2 : mo_S} {E : List String} {Z : (Option Value ⊕ String) → cw_W → mo_S → Prop} {a : Nat} {f : Nat → Int64}
theorem la_P.ok (hT : cw_T G K g W2 g1 C2) (hK : K a) {y : Int32} (hZ : Z (.inl (some (.int y))) W2 C2) : la_P G K E Z a g (.inl (some (.int 0))) (ev_up g1 a (.inl (G.2.2.2 1, 1, .inr (.inl (vp_updL f (0 : Int32).toNatClampNeg y.toInt64))))) := by
  refine ⟨_, W2, C2, 0, _, rfl, hZ, Or.inl ⟨y, rfl, rfl, pk_uLs⟩, hT.rb (fun b hb => ev_up_n _ _ (fun e => hb (by rw [e]; exact hK))) (fun b hb => ?_), fun b hb hne => ?_, ev_up_s _ _ _⟩
  · by_cases e : b = a
    · rw [e]; exact ⟨_, ev_up_s _ _ _⟩
    · rw [ev_up_n _ _ e, (hT.2.1 b hb).1]; exact (hT.2.1 b hb).2
  · rw [ev_up_n _ _ hne]; exact (hT.2.1 b hb).1
theorem la_P.ex (hT : cw_T G K g W2 g1 C2) (hK : K a) (hg : g a = some (.inl (G.2.2.2 1, 1, .inr (.inl f)))) {j : Nat} {e : String} (hE : E[j]? = some e) (hZ : Z (.inr e) W2 C2) : la_P G K E Z a g (.inl (some (.int (nI (j + 1))))) g1 :=
  ⟨_, W2, C2, nI (j + 1), f, rfl, hZ, Or.inr ⟨j, e, hE, rfl, rfl⟩, hT.rb (fun _ _ => rfl) (fun b hb => by rw [(hT.2.1 b hb).1]; exact (hT.2.1 b hb).2), fun b hb _ => (hT.2.1 b hb).1, by rw [(hT.2.1 a hK).1]; exact hg⟩
end P
theorem la_ok.v {E : List String} {v : Option Value} (h : la_ok E (.inl v)) : ∃ y : Int32, v = some (.int y) := by
  rcases h with ⟨y, h⟩ | ⟨j, e, -, h⟩
  · cases h; exact ⟨y, rfl⟩
  · cases h
theorem la_ok.e1 {E0 e : String} (h : la_ok [E0] (.inr e)) : e = E0 := by
  rcases h with ⟨y, h⟩ | ⟨j, e', hj, h⟩
  · cases h
  · cases h
    match j, hj with
    | 0, hj => exact (Option.some.inj hj).symm
    | j + 1, hj => exact absurd hj (by simp)
theorem la_ok.e2 {E0 E1 e : String} (h : la_ok [E0, E1] (.inr e)) : e = E0 ∨ e = E1 := by
  rcases h with ⟨y, h⟩ | ⟨j, e', hj, h⟩
  · cases h
  · cases h
    match j, hj with
    | 0, hj => exact Or.inl (Option.some.inj hj).symm
    | 1, hj => exact Or.inr (Option.some.inj hj).symm
    | j + 2, hj => exact absurd hj (by simp)
theorem la_ok.e0 {o : Option Value ⊕ String} (h : la_ok [] o) : ∃ y : Int32, o = .inl (some (.int y)) := by
  rcases h with h | ⟨j, e', hj, h⟩
  · exact h
  · exact absurd hj (by simp)
/-- both calls: the class' and the model's, and that they answer alike -/
def la_M (G : ev_G) (W : cw_W) (V : mo_W) (B : Int) (E : List String) (C S : mo_S) (Mc Mm : ev_M) (As : List Value) : Prop := ∃ (Z : (Option Value ⊕ String) → cw_W → mo_S → Prop) (Q : Option Value → mo_S → Prop) (mc ms : Nat), mc ≤ 24 ∧ ms ≤ 4120 ∧ cw_R G W 64 mc ms Mc (.ref (W 0 0) :: As) C Z ∧ mo_Cr G V 64 Mm As S Q ∧ (∀ o W2 C2, Z o W2 C2 → la_W W W2 ∧ la_ok E o) ∧ ∀ o W2 C2 r S2, Z o W2 C2 → Q r S2 → ∃ C3 : mo_S, (∀ f x, ¬ ((f = 28 ∨ f = 33) ∧ x ≠ 0) → C3.1 f x = C2.1 f x) ∧ C3.2 = C2.2 ∧ cl_fin B E o C3 r S2
/-- the two answers, as the law compares them -/
theorem la_eq {B : Int} {E : List String} (hE : E.length ≤ 2) {o : Option Value ⊕ String} {C2 S2 : mo_S} {k v : Int32} {f : Nat → Int64} (hnd : ∀ (i j : Nat) (e : String), E[i]? = some e → E[j]? = some e → i = j) (hk : la_k E o k f) (h : cl_fin B E o C2 (some (.int v)) S2) : S2.1 0 0 = k ∧ (k = 0 → f 0 = v.toInt64) := by
  obtain ⟨v', hv, h2, -⟩ := h
  cases hv
  rcases hk with ⟨y, rfl, rfl, hf⟩ | ⟨j, e, hj, rfl, rfl⟩
  · rcases h2 with ⟨h3, h4⟩ | ⟨j, e, -, h3, -⟩
    · cases h3
      exact ⟨h4, fun _ => hf⟩
    · cases h3
  · rcases h2 with ⟨h3, -⟩ | ⟨j', e', hj', h3, h4⟩
    · cases h3
    · cases h3
      rw [hnd j j' e hj hj']
      refine ⟨h4, fun q => ?_⟩
      exfalso
      have hl : j' < E.length := by
        rcases Nat.lt_or_ge j' E.length with z | z
        · exact z
        · rw [List.getElem?_eq_none z] at hj'; cases hj'
      exact nI_ne0 (n := j' + 1) (by omega) (by omega) q
/-- the exceptions that a handler passes over -/
def la_N (G : ev_G) : Prop := va_Nc cl_IA cl_IO G.2.1 ∧ va_Nc cl_IS cl_IA G.2.1
theorem ev_En4.cA {G : ev_G} {D0 : Nat} (h : ev_En4 G D0) : va_Nw (.castable cl_IA cl_IA) G.2.1 := h.2.2.2.1 _ List.mem_cons_self
theorem ev_En4.cS {G : ev_G} {D0 : Nat} (h : ev_En4 G D0) : va_Nw (.castable cl_IS cl_IS) G.2.1 := h.2.2.2.1 _ (List.mem_cons_of_mem _ List.mem_cons_self)
theorem ev_En4.cO {G : ev_G} {D0 : Nat} (h : ev_En4 G D0) : va_Nw (.castable cl_IO cl_IO) G.2.1 := h.2.2.2.1 _ (List.mem_cons_of_mem _ (List.mem_cons_of_mem _ List.mem_cons_self))
/-- the law's world between two calls: V the model, a the law's own array -/
def la_K (V : mo_W) (a : Nat) : Nat → Prop := fun b => mo_in V b ∨ b = a
def la_O (G : ev_G) (g : ev_H) (a : Nat) : Prop := ∃ f : Nat → Int64, g a = some (.inl (G.2.2.2 1, 1, .inr (.inl f)))
def la_T (G : ev_G) (D0 : Nat) (W : cw_W) (V : mo_W) (a : Nat) (B : Int) (g : ev_H) (C S : mo_S) : Prop := ∃ (F : mo_Fn) (OL : Nat → List od_q), cw_T G (la_K V a) g W g C ∧ mo_D V ∧ mo_R G V g S ∧ ¬ mo_in V a ∧ la_O G g a ∧ W 99 0 = D0 ∧ cl_R B C S F OL
theorem mo_R.cg {G : ev_G} {V : mo_W} {g g2 : ev_H} {S : mo_S} (h : mo_R G V g S) (hh : ∀ b, mo_in V b → g2 b = g b) : mo_R G V g2 S :=
  ⟨(hh _ (Or.inl rfl)).trans h.1, fun k hk hk2 => (hh _ (Or.inr ⟨k, hk, hk2, rfl⟩)).trans (h.2 k hk hk2)⟩
theorem mo_R.ex {G : ev_G} {V : mo_W} {g : ev_H} {S : mo_S} (h : mo_R G V g S) {b : Nat} (hb : mo_in V b) : ∃ e, g b = some e := by
  rcases hb with rfl | ⟨k, hk, hk2, rfl⟩
  · exact ⟨_, h.1⟩
  · exact ⟨_, h.2 k hk hk2⟩
/-- the class' world behind a call of the model -/
theorem cw_T.mdl {G : ev_G} {V : mo_W} {a : Nat} {g0 g g2 : ev_H} {W : cw_W} {C S : mo_S} (hT : cw_T G (la_K V a) g0 W g C) (hR : mo_R G V g2 S) (hF : ∀ b, ¬ mo_in V b → g2 b = g b) (ha : ¬ mo_in V a) (hO : ∃ e, g a = some e) : cw_T G (la_K V a) g2 W g2 C :=
  hT.rb (fun b hb => hF b (fun z => hb (Or.inl z))) (fun b hb => by
    rcases hb with z | rfl
    · exact hR.ex z
    · rw [hF _ ha]; exact hO)
/-- a call of the model -/
theorem la_mc {G : ev_G} {d bc bs : Nat} {M : ev_M} {Post : ev_P} {g : ev_H} {pc : Nat} {lv : List (Option Value)} {index n d' : Nat} {M' : ev_M} {V : mo_W} {S : mo_S} {As rest : List Value} {Q : Option Value → mo_S → Prop} (hE : ev_En G) (hd : decode M.2.1 pc = .ok (.invokevirtual index, 3)) (hh : M'.2.2.2.2 = []) (hK : ev_K M' n) (hn : As.length = n) (hl1 : Cond.methodLink M.1.cls index M'.1 ∈ ev_T) (hl2 : Cond.instanceMethod M'.1 ∈ ev_T) (hl3 : Cond.selects M'.1.cls M'.1 M'.1 ∈ ev_T) (hci : (vwCl[13]?).map (fun q => q.1) = some M'.1.cls) (hr : (rest.map fun v => v.category).sum ≤ 8) (hdd : d' + 1 ≤ d) (hD : mo_D V) (hR : mo_R G V g S) (hm : mo_Cr G V d' M' As S Q) (k : ∀ (g2 : ev_H) (r : Option Value) (S2 : mo_S), Q r S2 → mo_R G V g2 S2 → (∀ b, ¬ mo_in V b → g2 b = g b) → ev_V G d bc bs M Post g2 (pc + 3) lv (r.toList ++ rest)) : ev_V G d bc bs M Post g pc lv (As.reverse ++ .ref V.1 :: rest) :=
  ev_callV (ci := 13) (fs := mo_fs V S) (b := bc) (k0 := bs) hE hd hh hK hn hl1 hl2 hl3 hR.1 hci hr hdd (hm g hD hR) (by omega) (by omega) (fun v g2 h => by
    obtain ⟨r, S2, e, hq, hT⟩ := h
    rw [Sum.inl.inj e]
    exact k g2 r S2 hq hT.2.1 hT.2.2) (fun E g2 h => by
    obtain ⟨r, S2, e, -⟩ := h
    cases e)
theorem lg_same (x : Int64) : lg_cmp x x = 0 := by
  unfold lg_cmp
  rw [if_neg (fun h => by have h := Int64.lt_iff_toInt_lt.mp h; omega), if_pos rfl]
theorem la_d0 : ∀ (i j : Nat) (e : String), ([] : List String)[i]? = some e → ([] : List String)[j]? = some e → i = j := fun i j e h => absurd h (by simp)
theorem la_d1 {E0 : String} : ∀ (i j : Nat) (e : String), [E0][i]? = some e → [E0][j]? = some e → i = j := fun i j e hi hj => by
  match i, j, hi, hj with
  | 0, 0, _, _ => rfl
  | i + 1, _, hi, _ => exact absurd hi (by simp)
  | 0, j + 1, _, hj => exact absurd hj (by simp)
theorem la_d2 {E0 E1 : String} (h : E0 ≠ E1) : ∀ (i j : Nat) (e : String), [E0, E1][i]? = some e → [E0, E1][j]? = some e → i = j := fun i j e hi hj => by
  match i, j, hi, hj with
  | 0, 0, _, _ => rfl
  | 1, 1, _, _ => rfl
  | 0, 1, hi, hj => exact absurd ((Option.some.inj hi).trans (Option.some.inj hj).symm) h
  | 1, 0, hi, hj => exact absurd ((Option.some.inj hj).trans (Option.some.inj hi).symm) h
  | i + 2, _, hi, _ => exact absurd hi (by simp)
  | 0, j + 2, _, hj => exact absurd hj (by simp)
  | 1, j + 2, _, hj => exact absurd hj (by simp)
end DV
