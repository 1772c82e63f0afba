section DW
theorem mo_C.r {G : ev_G} {V : mo_W} {d : Nat} {M : ev_M} {As : List Value} {S S2 : mo_S} {r : Option Value} (h : mo_C G V d M As S r S2) : mo_Cr G V d M As S (fun r' T => r' = r ∧ T = S2) := fun g hD hR => by
  have e : (fun (o : Option Value ⊕ String) (g' : ev_H) => o = .inl r ∧ mo_T G V g g' S2) = (fun o g' => ∃ r' T, o = .inl r' ∧ (r' = r ∧ T = S2) ∧ mo_T G V g g' T) := by
    funext o g'
    refine propext ⟨fun q => ⟨r, S2, q.1, ⟨rfl, rfl⟩, q.2⟩, fun q => ?_⟩
    obtain ⟨r', T, a, ⟨b, c⟩, d⟩ := q
    rw [b] at a
    rw [c] at d
    exact ⟨a, d⟩
  exact e ▸ h g hD hR
theorem cw_C.r {G : ev_G} {W : cw_W} {d : Nat} {M : ev_M} {As : List Value} {C C2 : mo_S} {r : Option Value} (h : cw_C G W d M As C r C2) : cw_R G W d 0 0 M As C (fun o W2 T => W2 = W ∧ o = .inl r ∧ T = C2) := fun K g0 g hT => by
  have e : (fun (o : Option Value ⊕ String) (g' : ev_H) => o = .inl r ∧ cw_T G K g0 W g' C2) = (fun o g' => ∃ W2 T, (W2 = W ∧ o = .inl r ∧ T = C2) ∧ cw_T G K g0 W2 g' T) := by
    funext o g'
    refine propext ⟨fun q => ⟨W, C2, ⟨rfl, q.1, rfl⟩, q.2⟩, fun q => ?_⟩
    obtain ⟨W2, T, ⟨a, b, c⟩, d⟩ := q
    rw [a, c] at d
    exact ⟨b, d⟩
  exact e ▸ h K g0 g hT
/-- answers and exceptions of an outcome -/
def la_u (E : List String) (u : cx_Out) : Prop := la_ok E (cx_o u.1)
theorem la_u.r {E : List String} {x : Int32} {C : mo_S} : la_u E (.inr x, C) := Or.inl ⟨x, rfl⟩
theorem la_u.l {E : List String} {e : String} {C : mo_S} (j : Nat) (h : E[j]? = some e) : la_u E (.inl e, C) := Or.inr ⟨j, e, h, rfl⟩
theorem la_u.ite {E : List String} {c : Prop} [Decidable c] {u v : cx_Out} (h1 : la_u E u) (h2 : la_u E v) : la_u E (if c then u else v) := by
  split
  · exact h1
  · exact h2
theorem cl_st.u {B : Int} {E : List String} {u : cx_Out} {x : Int32 × mo_S} (h : cl_st B E u x) : la_u E u := by
  obtain ⟨h1, -⟩ := h
  obtain ⟨a, C⟩ := u
  cases a with
  | inl e =>
    obtain ⟨k, b, -⟩ := h1
    exact la_u.l k b
  | inr x => exact la_u.r
section M
variable {G : ev_G} {W : cw_W} {V : mo_W} {B : Int} {E : List String} {C S : mo_S} {Mc Mm : ev_M} {As : List Value} {u : cx_Out} {mc ms : Nat}
theorem la_M.gen {Z : (Option Value ⊕ String) → cw_W → mo_S → Prop} {Q : Option Value → mo_S → Prop} (h1 : mc ≤ 24) (h2 : ms ≤ 4120) (hc : cw_R G W 64 mc ms Mc (.ref (W 0 0) :: As) C Z) (hZ : ∀ o W2 C2, Z o W2 C2 → la_W W W2 ∧ o = cx_o u.1 ∧ cx_eqX cw_X C2 u.2) (hm : mo_Cr G V 64 Mm As S Q) (hu : la_u E u) (hst : ∀ r S2, Q r S2 → ∃ v : Int32, r = some (.int v) ∧ cl_st B E u (v, S2)) : la_M G W V B E C S Mc Mm As := by
  refine ⟨Z, Q, mc, ms, h1, h2, hc, hm, fun o W2 C2 hz => ?_, fun o W2 C2 r S2 hz hq => ?_⟩
  · obtain ⟨a, b, -⟩ := hZ o W2 C2 hz
    exact ⟨a, by rw [b]; exact hu⟩
  · obtain ⟨-, b, c⟩ := hZ o W2 C2 hz
    obtain ⟨v, rfl, hs⟩ := hst r S2 hq
    exact ⟨C2, fun _ _ _ => rfl, rfl, by rw [b]; exact hs.fin c⟩
theorem la_M.P (h1 : mc ≤ 24) (h2 : ms ≤ 4120) (hc : cw_P G W 64 mc ms Mc (.ref (W 0 0) :: As) C u) {Q : Option Value → mo_S → Prop} (hm : mo_Cr G V 64 Mm As S Q) (hu : la_u E u) (hst : ∀ r S2, Q r S2 → ∃ v : Int32, r = some (.int v) ∧ cl_st B E u (v, S2)) : la_M G W V B E C S Mc Mm As :=
  la_M.gen h1 h2 hc (fun o W2 C2 hz => ⟨⟨by rw [hz.1], by rw [hz.1]⟩, hz.2.1, by rw [hz.2.2]; exact cx_eqX.r _⟩) hm hu hst
theorem la_M.PS (h1 : mc ≤ 24) (h2 : ms ≤ 4120) (hc : cw_PS G W 64 mc ms Mc (.ref (W 0 0) :: As) C u) {Q : Option Value → mo_S → Prop} (hm : mo_Cr G V 64 Mm As S Q) (hu : la_u E u) (hst : ∀ r S2, Q r S2 → ∃ v : Int32, r = some (.int v) ∧ cl_st B E u (v, S2)) : la_M G W V B E C S Mc Mm As :=
  la_M.gen h1 h2 hc (fun o W2 C2 hz => ⟨⟨by rw [hz.1], by rw [hz.1]⟩, hz.2.1, hz.2.2⟩) hm hu hst
theorem la_M.PF (h1 : mc ≤ 24) (h2 : ms ≤ 4120) (hc : cw_PF G W 64 mc ms Mc (.ref (W 0 0) :: As) C u) {Q : Option Value → mo_S → Prop} (hm : mo_Cr G V 64 Mm As S Q) (hu : la_u E u) (hst : ∀ r S2, Q r S2 → ∃ v : Int32, r = some (.int v) ∧ cl_st B E u (v, S2)) : la_M G W V B E C S Mc Mm As :=
  la_M.gen h1 h2 hc (fun o W2 C2 hz => ⟨⟨hz.1, hz.2.1⟩, hz.2.2.1, hz.2.2.2⟩) hm hu hst
theorem cl_st.x {x : Int32 × mo_S} (h : cl_st B E u x) : ∀ (r : Option Value) (S2 : mo_S), (r = some (.int x.1) ∧ S2 = x.2) → ∃ v : Int32, r = some (.int v) ∧ cl_st B E u (v, S2) := fun r S2 q => ⟨x.1, q.1, by rw [q.2]; exact h⟩
end M
section K
variable {B : Int} {C S : mo_S} {F : mo_Fn} {OL : Nat → List od_q}
theorem cl_R.stl (h : cl_R B C S F OL) : ∀ r, r < sp_R S → ¬ S.1 23 r < 0 → vp_in (S.1 23 r) 12 := fun r hr hn => by
  have hP := h.J.P.2
  have a := h.2.2.1.2.2.1.1 r hr
  obtain ⟨j, hj, e⟩ := nI_of hn
  rw [e, nI_toInt hj] at a
  rw [e]
  exact vp_in_nI (by omega) (by decide)
theorem cl_R.srm (h : cl_R B C S F OL) : ∀ p, p < sp_P S → ∃ k, k ≤ 8 ∧ S.1 59 p = nI k := fun p _ => by
  obtain ⟨a, b⟩ := h.J.N (k := 59) p 8 (by decide)
  exact ⟨_, b, a⟩
theorem cl_R.src (h : cl_R B C S F OL) : ∀ p, p < sp_P C → C.1 59 p = nI (sp_K C p) ∧ sp_K C p ≤ 8 := fun p _ => by
  unfold sp_K
  rw [h.1.k 59 (by decide)]
  exact h.J.N (k := 59) p 8 (by decide)
theorem cl_R.tn (h : cl_R B C S F OL) : C.1 73 0 = nI (cx_tn C) ∧ cx_tn C ≤ 60 := by
  unfold cx_tn
  rw [h.1.k 73 (by decide)]
  exact h.J.N (k := 73) 0 60 (by decide)
theorem cl_R.knd (h : cl_R B C S F OL) : ∀ p, p < sp_P C → C.1 3 p = nI (C.1 3 p).toNatClampNeg ∧ (C.1 3 p).toNatClampNeg < 3 := fun p _ => by
  rw [h.1.k 3 (by decide)]
  obtain ⟨a, b⟩ := h.J.N (k := 3) p 2 (by decide)
  exact ⟨a, by omega⟩
theorem cl_R.tpd (h : cl_R B C S F OL) : C.1 28 0 = nI (sp_t S) ∧ sp_t S ≤ 300 := by
  unfold sp_t
  rw [h.1.k 28 (by decide)]
  exact h.J.N (k := 28) 0 300 (by decide)
theorem cl_R.wo (h : cl_R B C S F OL) : S.1 53 0 = -1 ∧ S.1 54 0 = -1 := h.q.2.2.2
theorem la_one_ne {p q k : Nat} (h : k ∉ [4, 5, 10, 12]) : (cx_one C p q).1 k = C.1 k := by
  simp only [List.mem_cons, List.mem_nil_iff, or_false, not_or] at h
  unfold cx_one cx_X5_addSize
  rw [mo_up_ne (by omega), mo_up_ne (by omega), mo_up_ne (by omega), mo_up_ne (by omega)]
theorem cl_R.bH (h : cl_R B C S F OL) (hB : B ≤ 8000000) {p : Nat} (hp : p < sp_P C) : cx_bH2 C (cl_Pf OL) (cl_Qf OL) (cx_now C) p (cl_bk C p) (cl_bm C p) := by
  have sP := h.1.sz.1
  have hP := h.J.P.2
  have hz := h.J.N (k := 3) p 2 (by decide)
  refine ⟨h.cd, ?_, h.knd p hp, ⟨?_, ?_⟩, ⟨?_, ?_⟩, h.W⟩
  · rw [h.1.sz.2.2.1]; exact h.nb
  · unfold cl_bm cx_X4_pagesFor
    rw [h.1.k 3 (by decide), (h.pg (k := (S.1 3 p).toNatClampNeg) (by omega)).1]
    obtain ⟨f, f1, f2, f3⟩ := h.J.pages (k := (S.1 3 p).toNatClampNeg) hz.2
    rw [f3, nI_clamp (by omega)]
  · unfold cl_bm cx_X4_pagesFor
    rw [h.1.k 3 (by decide), (h.pg (k := (S.1 3 p).toNatClampNeg) (by omega)).1]
    obtain ⟨f, f1, f2, f3⟩ := h.J.pages (k := (S.1 3 p).toNatClampNeg) hz.2
    rw [f3, nI_clamp (by omega)]
    exact f2
  · obtain ⟨k, k1, k2⟩ := h.2.2.have_ hB (p := p) (by omega)
    have e : C.1 10 p + cj_max (C.1 11 p) 0 = nI k := by
      rw [cj_max0, h.1.k 10 (by decide), h.1.k 11 (by decide)]; exact k1
    unfold cl_bk
    rw [e, nI_clamp (by omega)]
  · obtain ⟨k, k1, k2⟩ := h.2.2.have_ hB (p := p) (by omega)
    have e : C.1 10 p + cj_max (C.1 11 p) 0 = nI k := by
      rw [cj_max0, h.1.k 10 (by decide), h.1.k 11 (by decide)]; exact k1
    unfold cl_bk
    rw [e, nI_clamp (by omega)]
    exact k2
end K
theorem la_paper {G : ev_G} {W : cw_W} {V : mo_W} {D0 : Nat} {B : Int} {C S : mo_S} {F : mo_Fn} {OL : Nat → List od_q} (hE : ev_En G) (h4 : ev_En4 G D0) (h99 : W 99 0 = D0) (h : cl_R B C S F OL) (hB : B ≤ 8000000) (x1 x2 x3 x4 x5 : Int32) : la_M G W V B [cl_IA, cl_IS] C S mX11_paper mX12_paper [.int x1, .int x2, .int x3, .int x4, .int x5] := by
  have hs := cl_paper h x1 x2 x3 x4 x5
  exact la_M.PF (by decide) (by decide) (c_X11_paper hE h4 (by decide) h99 h.A) (c_X12_paper hE (by decide) h.J.P.1 h.J.P.2).r hs.u hs.x
theorem la_set {G : ev_G} {W : cw_W} {V : mo_W} {D0 : Nat} {B : Int} {C S : mo_S} {F : mo_Fn} {OL : Nat → List od_q} (hE : ev_En G) (h4 : ev_En4 G D0) (h99 : W 99 0 = D0) (h : cl_R B C S F OL) (hB : B ≤ 8000000) (x1 x2 x3 : Int32) : la_M G W V B [cl_IO, cl_IA] C S mX11_set mX12_set [.int x1, .int x2, .int x3] := by
  have hs := cl_set h x1 x2 x3
  exact la_M.P (by decide) (by decide) (c_X11_set hE h4 (by decide)) (c_X12_set hE (by decide) h.J.P.1 h.J.P.2).r hs.u hs.x
theorem la_told {G : ev_G} {W : cw_W} {V : mo_W} {D0 : Nat} {B : Int} {C S : mo_S} {F : mo_Fn} {OL : Nat → List od_q} (hE : ev_En G) (h4 : ev_En4 G D0) (h99 : W 99 0 = D0) (h : cl_R B C S F OL) (hB : B ≤ 8000000) (x1 x2 : Int32) : la_M G W V B [cl_IO, cl_IA] C S mX11_told mX12_told [.int x1, .int x2] := by
  have hs := cl_told h x1 x2
  exact la_M.P (by decide) (by decide) (c_X11_told hE h4 (by decide)) (c_X12_told hE (by decide) h.J.P.1 h.J.P.2).r hs.u hs.x
theorem la_reel {G : ev_G} {W : cw_W} {V : mo_W} {D0 : Nat} {B : Int} {C S : mo_S} {F : mo_Fn} {OL : Nat → List od_q} (hE : ev_En G) (h4 : ev_En4 G D0) (h99 : W 99 0 = D0) (h : cl_R B C S F OL) (hB : B ≤ 8000000) (x1 x2 : Int32) : la_M G W V B [cl_IA] C S mX11_reel mX12_reel [.int x1, .int x2] := by
  have hs := cl_reel h x1 x2
  exact la_M.PF (by decide) (by decide) (c_X11_reel hE h4 (by decide) h99 h.A) (c_X12_reel hE (by decide) h.J.R.1 h.J.R.2).r hs.u hs.x
theorem la_where {G : ev_G} {W : cw_W} {V : mo_W} {D0 : Nat} {B : Int} {C S : mo_S} {F : mo_Fn} {OL : Nat → List od_q} (hE : ev_En G) (h4 : ev_En4 G D0) (h99 : W 99 0 = D0) (h : cl_R B C S F OL) (hB : B ≤ 8000000) (x1 : Int32) : la_M G W V B [cl_IO] C S mX11_where mX12_where [.int x1] := by
  have hs := cl_where h x1
  exact la_M.P (by decide) (by decide) (c_X11_where hE h4 (by decide)) (c_X12_where hE (by decide) h.J.R.1 h.J.R.2).r hs.u hs.x
theorem la_steal {G : ev_G} {W : cw_W} {V : mo_W} {D0 : Nat} {B : Int} {C S : mo_S} {F : mo_Fn} {OL : Nat → List od_q} (hE : ev_En G) (h4 : ev_En4 G D0) (h99 : W 99 0 = D0) (h : cl_R B C S F OL) (hB : B ≤ 8000000) (x1 : Int32) : la_M G W V B [cl_IO] C S mX11_steal mX12_steal [.int x1] := by
  have hs := cl_steal h x1
  exact la_M.P (by decide) (by decide) (c_X11_steal hE h4 (by decide)) (c_X12_steal hE (by decide) h.J.R.1 h.J.R.2 h.stl).r hs.u hs.x
theorem la_find {G : ev_G} {W : cw_W} {V : mo_W} {D0 : Nat} {B : Int} {C S : mo_S} {F : mo_Fn} {OL : Nat → List od_q} (hE : ev_En G) (h4 : ev_En4 G D0) (h99 : W 99 0 = D0) (h : cl_R B C S F OL) (hB : B ≤ 8000000) (x1 : Int32) : la_M G W V B [cl_IO] C S mX11_find mX12_find [.int x1] := by
  have hs := cl_find h x1
  exact la_M.P (by decide) (by decide) (c_X11_find hE h4 (by decide)) (c_X12_find hE (by decide) h.J.R.1 h.J.R.2).r hs.u hs.x
theorem la_ward {G : ev_G} {W : cw_W} {V : mo_W} {D0 : Nat} {B : Int} {C S : mo_S} {F : mo_Fn} {OL : Nat → List od_q} (hE : ev_En G) (h4 : ev_En4 G D0) (h99 : W 99 0 = D0) (h : cl_R B C S F OL) (hB : B ≤ 8000000) (x1 : Int32) : la_M G W V B [cl_IA] C S mX11_ward mX12_ward [.int x1] := by
  have hs := cl_ward h x1
  exact la_M.P (by decide) (by decide) (c_X11_ward hE h4 (by decide) h.W.1 h.W.2) (c_X12_ward hE (by decide) h.J.W.1 h.J.W.2).r hs.u hs.x
theorem la_loyal {G : ev_G} {W : cw_W} {V : mo_W} {D0 : Nat} {B : Int} {C S : mo_S} {F : mo_Fn} {OL : Nat → List od_q} (hE : ev_En G) (h4 : ev_En4 G D0) (h99 : W 99 0 = D0) (h : cl_R B C S F OL) (hB : B ≤ 8000000) (x1 x2 x3 : Int32) : la_M G W V B [cl_IO, cl_IA] C S mX11_loyal mX12_loyal [.int x1, .int x2, .int x3] := by
  have hs := cl_loyal h x1 x2 x3
  exact la_M.P (by decide) (by decide) (c_X11_loyal hE h4 (by decide) h.W.1 h.W.2) (c_X12_loyal hE (by decide) h.J.P.1 h.J.P.2 h.J.W.1 h.J.W.2).r hs.u hs.x
theorem la_demand {G : ev_G} {W : cw_W} {V : mo_W} {D0 : Nat} {B : Int} {C S : mo_S} {F : mo_Fn} {OL : Nat → List od_q} (hE : ev_En G) (h4 : ev_En4 G D0) (h99 : W 99 0 = D0) (h : cl_R B C S F OL) (hB : B ≤ 8000000) (x1 x2 : Int32) : la_M G W V B [cl_IO, cl_IA] C S mX11_demand mX12_demand [.int x1, .int x2] := by
  have hs := cl_demand h x1 x2
  exact la_M.P (by decide) (by decide) (c_X11_demand hE h4 (by decide) h.W.1 h.W.2) (c_X12_demand hE (by decide) h.J.P.1 h.J.P.2 h.J.W.1 h.J.W.2).r hs.u hs.x
theorem la_force {G : ev_G} {W : cw_W} {V : mo_W} {D0 : Nat} {B : Int} {C S : mo_S} {F : mo_Fn} {OL : Nat → List od_q} (hE : ev_En G) (h4 : ev_En4 G D0) (h99 : W 99 0 = D0) (h : cl_R B C S F OL) (hB : B ≤ 8000000) (x1 : Int32) : la_M G W V B [cl_IA] C S mX11_force mX12_force [.int x1] := by
  have hs := cl_force h x1
  exact la_M.P (by decide) (by decide) (c_X11_force hE h4 (by decide)) (c_X12_force hE (by decide) h.J.O.1 h.J.O.2).r hs.u hs.x
theorem la_bid {G : ev_G} {W : cw_W} {V : mo_W} {D0 : Nat} {B : Int} {C S : mo_S} {F : mo_Fn} {OL : Nat → List od_q} (hE : ev_En G) (h4 : ev_En4 G D0) (h99 : W 99 0 = D0) (h : cl_R B C S F OL) (hB : B ≤ 8000000) (x1 x2 x3 : Int32) : la_M G W V B [cl_IO, cl_IA] C S mX11_bid mX12_bid [.int x1, .int x2, .int x3] := by
  have hs := cl_bid h x1 x2 x3
  exact la_M.P (by decide) (by decide) (c_X11_bid hE h4 (by decide)) (c_X12_bid hE (by decide) h.J.P.1 h.J.P.2).r hs.u hs.x
theorem la_swap {G : ev_G} {W : cw_W} {V : mo_W} {D0 : Nat} {B : Int} {C S : mo_S} {F : mo_Fn} {OL : Nat → List od_q} (hE : ev_En G) (h4 : ev_En4 G D0) (h99 : W 99 0 = D0) (h : cl_R B C S F OL) (hB : B ≤ 8000000) (x1 x2 x3 : Int32) : la_M G W V B [cl_IO, cl_IA] C S mX11_swap mX12_swap [.int x1, .int x2, .int x3] := by
  have hs := cl_swap h (by omega) x1 x2 x3
  exact la_M.P (by decide) (by decide) (c_X11_swap hE h4 (by decide)) (c_X12_swap hE (by decide) h.J.P.1 h.J.P.2 h.J.O.1 h.J.O.2 h.J.C).r hs.u hs.x
theorem la_netted {G : ev_G} {W : cw_W} {V : mo_W} {D0 : Nat} {B : Int} {C S : mo_S} {F : mo_Fn} {OL : Nat → List od_q} (hE : ev_En G) (h4 : ev_En4 G D0) (h99 : W 99 0 = D0) (h : cl_R B C S F OL) (hB : B ≤ 8000000) (x1 x2 : Int32) : la_M G W V B [cl_IO] C S mX11_netted mX12_netted [.int x1, .int x2] := by
  have hs := cl_netted h x1 x2
  exact la_M.P (by decide) (by decide) (c_X11_netted hE h4 (by decide)) (c_X12_netted hE (by decide) h.J.P.1 h.J.P.2).r hs.u hs.x
theorem la_breach {G : ev_G} {W : cw_W} {V : mo_W} {D0 : Nat} {B : Int} {C S : mo_S} {F : mo_Fn} {OL : Nat → List od_q} (hE : ev_En G) (h4 : ev_En4 G D0) (h99 : W 99 0 = D0) (h : cl_R B C S F OL) (hB : B ≤ 8000000) (x1 x2 : Int32) : la_M G W V B [cl_IO, cl_IA] C S mX11_breach mX12_breach [.int x1, .int x2] := by
  have hs := cl_breach h x1 x2
  exact la_M.P (by decide) (by decide) (c_X11_breach hE h4 (by decide)) (c_X12_breach hE (by decide) h.J.P.1 h.J.P.2).r hs.u hs.x
theorem la_source {G : ev_G} {W : cw_W} {V : mo_W} {D0 : Nat} {B : Int} {C S : mo_S} {F : mo_Fn} {OL : Nat → List od_q} (hE : ev_En G) (h4 : ev_En4 G D0) (h99 : W 99 0 = D0) (h : cl_R B C S F OL) (hB : B ≤ 8000000) (x1 x2 x3 : Int32) : la_M G W V B [cl_IO, cl_IA] C S mX11_source mX12_source [.int x1, .int x2, .int x3] := by
  have hs := cl_source h x1 x2 x3
  exact la_M.P (by decide) (by decide) (c_X11_source hE h4 (by decide) h.src) (c_X12_source hE (by decide) h.J.P.1 h.J.P.2 h.srm).r hs.u hs.x
theorem la_appeal {G : ev_G} {W : cw_W} {V : mo_W} {D0 : Nat} {B : Int} {C S : mo_S} {F : mo_Fn} {OL : Nat → List od_q} (hE : ev_En G) (h4 : ev_En4 G D0) (h99 : W 99 0 = D0) (h : cl_R B C S F OL) (hB : B ≤ 8000000) (x1 x2 : Int32) : la_M G W V B [cl_IO, cl_IA] C S mX11_appeal mX12_appeal [.int x1, .int x2] := by
  have hs := cl_appeal h x1 x2
  exact la_M.PF (by decide) (by decide) (c_X11_appeal hE h4 (by decide) h99 h.A) (c_X12_appeal hE (by decide) h.J.P.1 h.J.P.2 h.J.A.1 h.J.A.2).r hs.u hs.x
theorem la_apart {G : ev_G} {W : cw_W} {V : mo_W} {D0 : Nat} {B : Int} {C S : mo_S} {F : mo_Fn} {OL : Nat → List od_q} (hE : ev_En G) (h4 : ev_En4 G D0) (h99 : W 99 0 = D0) (h : cl_R B C S F OL) (hB : B ≤ 8000000) (x1 x2 : Int32) : la_M G W V B [cl_IO] C S mX11_apart mX12_apart [.int x1, .int x2] := by
  have hs := cl_apart h x1 x2
  exact la_M.P (by decide) (by decide) (c_X11_apart hE h4 (by decide) h.A) (c_X12_apart hE (by decide) h.J.A.1 h.J.A.2).r hs.u hs.x
theorem la_grant {G : ev_G} {W : cw_W} {V : mo_W} {D0 : Nat} {B : Int} {C S : mo_S} {F : mo_Fn} {OL : Nat → List od_q} (hE : ev_En G) (h4 : ev_En4 G D0) (h99 : W 99 0 = D0) (h : cl_R B C S F OL) (hB : B ≤ 8000000) (x1 x2 : Int32) : la_M G W V B [cl_IO, cl_IA] C S mX11_grant mX12_grant [.int x1, .int x2] := by
  have hs := cl_grant h x1 x2
  exact la_M.P (by decide) (by decide) (c_X11_grant hE h4 (by decide)) (c_X12_grant hE (by decide) h.J.A.1 h.J.A.2).r hs.u hs.x
theorem la_correct {G : ev_G} {W : cw_W} {V : mo_W} {D0 : Nat} {B : Int} {C S : mo_S} {F : mo_Fn} {OL : Nat → List od_q} (hE : ev_En G) (h4 : ev_En4 G D0) (h99 : W 99 0 = D0) (h : cl_R B C S F OL) (hB : B ≤ 8000000) (x1 x2 x3 : Int32) : la_M G W V B [cl_IO, cl_IA] C S mX11_correct mX12_correct [.int x1, .int x2, .int x3] := by
  have hs := cl_correct h x1 x2 x3
  exact la_M.P (by decide) (by decide) (c_X11_correct hE h4 (by decide) h.tn.1 h.tn.2) (c_X12_correct hE (by decide) h.J.P.1 h.J.P.2 h.J.M.1 h.J.M.2 h.J.Z.1 h.J.Z.2).r hs.u hs.x
theorem la_tells {G : ev_G} {W : cw_W} {V : mo_W} {D0 : Nat} {B : Int} {C S : mo_S} {F : mo_Fn} {OL : Nat → List od_q} (hE : ev_En G) (h4 : ev_En4 G D0) (h99 : W 99 0 = D0) (h : cl_R B C S F OL) (hB : B ≤ 8000000) (x1 x2 : Int32) : la_M G W V B [cl_IO, cl_IA] C S mX11_tells mX12_tells [.int x1, .int x2] := by
  -- tells
  refine la_M.PS (by decide) (by decide) (c_X11_tells hE h4 (by decide) h.cd h.knd) (c_X12_tells hE h.J (by decide)) ?_ (fun r S2 hq => cl_tellsq h x1 x2 hq)
  unfold cx_X11_tells
  repeat' (first | exact la_u.r | exact la_u.l 0 rfl | exact la_u.l 1 rfl | refine la_u.ite ?_ ?_)
theorem la_parted {G : ev_G} {W : cw_W} {V : mo_W} {D0 : Nat} {B : Int} {C S : mo_S} {F : mo_Fn} {OL : Nat → List od_q} (hE : ev_En G) (h4 : ev_En4 G D0) (h99 : W 99 0 = D0) (h : cl_R B C S F OL) (hB : B ≤ 8000000) (x1 x2 : Int32) : la_M G W V B [cl_IO, cl_IA] C S mX11_parted mX12_parted [.int x1, .int x2] := by
  -- parted
  refine la_M.PS (by decide) (by decide) (c_X11_parted hE h4 (by decide) (fun x => cl_pH (T := C) (h.u0 (v := 0)).q (fun _ _ => rfl) x)) (c_X12_parted hE h.J (by decide)) ?_ (fun r S2 hq => cl_partedq h x1 x2 hq)
  unfold cx_X11_parted
  repeat' (first | exact la_u.r | exact la_u.l 0 rfl | exact la_u.l 1 rfl | refine la_u.ite ?_ ?_)
theorem la_merge {G : ev_G} {W : cw_W} {V : mo_W} {D0 : Nat} {B : Int} {C S : mo_S} {F : mo_Fn} {OL : Nat → List od_q} (hE : ev_En G) (h4 : ev_En4 G D0) (h99 : W 99 0 = D0) (h : cl_R B C S F OL) (hB : B ≤ 8000000) (x1 x2 : Int32) : la_M G W V B [cl_IO] C S mX11_merge mX12_merge [.int x1, .int x2] := by
  -- merge
  refine la_M.P (by decide) (by decide) (c_X11_merge hE h4 (by decide)) (c_X12_merge hE h.J (by decide)) ?_ (fun r S2 hq => cl_mergeq h (by omega) x1 x2 hq)
  unfold cx_X11_merge
  repeat' (first | exact la_u.r | exact la_u.l 0 rfl | exact la_u.l 1 rfl | refine la_u.ite ?_ ?_)
theorem la_gain {G : ev_G} {W : cw_W} {V : mo_W} {D0 : Nat} {B : Int} {C S : mo_S} {F : mo_Fn} {OL : Nat → List od_q} (hE : ev_En G) (h4 : ev_En4 G D0) (h99 : W 99 0 = D0) (h : cl_R B C S F OL) (hB : B ≤ 8000000) (x1 x2 : Int32) : la_M G W V B [cl_IO] C S mX11_gain mX12_gain [.int x1, .int x2] := by
  -- gain
  refine la_M.PS (by decide) (by decide) (c_X11_gain hE h4 (by decide) (cl_pH (T := C) (h.u0 (v := 0)).q (fun _ _ => rfl) _) (cl_pH (T := cx_one C x1.toNatClampNeg x2.toNatClampNeg) (h.u0 (v := 0)).q (fun k hk => la_one_ne hk) _)) (c_X12_gain hE h.J h.wo (by decide)) ?_ (fun r S2 hq => cl_gainq h x1 x2 hq)
  unfold cx_X11_gain
  repeat' (first | exact la_u.r | exact la_u.l 0 rfl | exact la_u.l 1 rfl | refine la_u.ite ?_ ?_)
theorem la_borne {G : ev_G} {W : cw_W} {V : mo_W} {D0 : Nat} {B : Int} {C S : mo_S} {F : mo_Fn} {OL : Nat → List od_q} (hE : ev_En G) (h4 : ev_En4 G D0) (h99 : W 99 0 = D0) (h : cl_R B C S F OL) (hB : B ≤ 8000000) (x1 x2 : Int32) : la_M G W V B [cl_IO, cl_IA] C S mX11_borne mX12_borne [.int x1, .int x2] := by
  -- borne
  refine la_M.P (by decide) (by decide) (c_X11_borne hE h4 (by decide) h.src) (c_X12_borne hE h.J (by decide)) ?_ (fun r S2 hq => cl_borneq h x1 x2 hq)
  unfold cx_X11_borne
  repeat' (first | exact la_u.r | exact la_u.l 0 rfl | exact la_u.l 1 rfl | refine la_u.ite ?_ ?_)
theorem la_alike {G : ev_G} {W : cw_W} {V : mo_W} {D0 : Nat} {B : Int} {C S : mo_S} {F : mo_Fn} {OL : Nat → List od_q} (hE : ev_En G) (h4 : ev_En4 G D0) (h99 : W 99 0 = D0) (h : cl_R B C S F OL) (hB : B ≤ 8000000) (x1 : Int32) : la_M G W V B [cl_IO] C S mX11_alike mX12_alike [.int x1] := by
  -- alike
  refine la_M.P (by decide) (by decide) (c_X11_alike hE h4 (by decide) h.A) (c_X12_alike hE h.J (by decide)) ?_ (fun r S2 hq => cl_alikeq h x1 hq)
  unfold cx_X11_alike
  repeat' (first | exact la_u.r | exact la_u.l 0 rfl | exact la_u.l 1 rfl | refine la_u.ite ?_ ?_)
theorem la_best {G : ev_G} {W : cw_W} {V : mo_W} {D0 : Nat} {B : Int} {C S : mo_S} {F : mo_Fn} {OL : Nat → List od_q} (hE : ev_En G) (h4 : ev_En4 G D0) (h99 : W 99 0 = D0) (h : cl_R B C S F OL) (hB : B ≤ 8000000) (x1 x2 : Int32) : la_M G W V B [cl_IO, cl_IA] C S mX11_best mX12_best [.int x1, .int x2] := by
  -- best
  refine la_M.PS (by decide) (by decide) (c_X11_best2 hE h4 (by decide) (fun hp _ => h.bH hB hp)) (c_X12_best hE h.J (by decide)) ?_ (fun r S2 hq => cl_bestq h (by omega) x1 x2 hq)
  unfold cx_X11_best
  repeat' (first | exact la_u.r | exact la_u.l 0 rfl | exact la_u.l 1 rfl | refine la_u.ite ?_ ?_)
theorem la_row {G : ev_G} {W : cw_W} {V : mo_W} {D0 : Nat} {B : Int} {C S : mo_S} {F : mo_Fn} {OL : Nat → List od_q} (hE : ev_En G) (h4 : ev_En4 G D0) (h99 : W 99 0 = D0) (h : cl_R B C S F OL) (hB : B ≤ 8000000) (x1 x2 x3 x4 : Int32) : la_M G W V B [cl_IO, cl_IA] C S mX11_row mX12_row [.int x1, .int x2, .int x3, .int x4] := by
  -- row
  refine la_M.P (by decide) (by decide) (c_X11_row hE h4 (by decide) h.tn.1 h.tn.2) (c_X12_row hE h.J (by decide)) ?_ (fun r S2 hq => cl_rowq h x1 x2 x3 x4 hq)
  unfold cx_X11_row
  repeat' (first | exact la_u.r | exact la_u.l 0 rfl | exact la_u.l 1 rfl | refine la_u.ite ?_ ?_)
theorem la_count {G : ev_G} {W : cw_W} {V : mo_W} {D0 : Nat} {B : Int} {C S : mo_S} {F : mo_Fn} {OL : Nat → List od_q} (hE : ev_En G) (h4 : ev_En4 G D0) (h99 : W 99 0 = D0) (h : cl_R B C S F OL) (hB : B ≤ 8000000) (x1 : Int32) : la_M G W V B [] C S mX11_count mX12_count [.int x1] := by
  -- count
  refine la_M.P (by decide) (by decide) (c_X11_count hE h4 (by decide)) (c_X12_count hE h.J (by decide)) ?_ (fun r S2 hq => cl_countq h x1 hq)
  unfold cx_X11_count
  repeat' (first | exact la_u.r | exact la_u.l 0 rfl | exact la_u.l 1 rfl | refine la_u.ite ?_ ?_)
theorem la_feed {G : ev_G} {W : cw_W} {V : mo_W} {D0 : Nat} {B : Int} {C S : mo_S} {F : mo_Fn} {OL : Nat → List od_q} (hE : ev_En G) (h4 : ev_En4 G D0) (h99 : W 99 0 = D0) (h : cl_R B C S F OL) (hB : B ≤ 8000000) (x1 x2 x3 x4 x5 : Int32) : la_M G W V B [] C S mX11_feed mX12_feed [.int x1, .int x2, .int x3, .int x4, .int x5] := by
  -- feed
  refine la_M.P (by decide) (by decide) (c_X11_feed (t := sp_t S) hE h4 (by decide) h.tpd.1 h.tpd.2) (c_X12_feed hE h.J (by decide)) ?_ (fun r S2 hq => cl_feedq h x1 x2 x3 x4 x5 hq)
  unfold cx_X11_feed
  repeat' (first | exact la_u.r | exact la_u.l 0 rfl | exact la_u.l 1 rfl | refine la_u.ite ?_ ?_)
theorem la_fault {G : ev_G} {W : cw_W} {V : mo_W} {D0 : Nat} {B : Int} {C S : mo_S} {F : mo_Fn} {OL : Nat → List od_q} (hE : ev_En G) (_h4 : ev_En4 G D0) (_h99 : W 99 0 = D0) (h : cl_R B C S F OL) (_hB : B ≤ 8000000) : la_M G W V B [] C S mX11_fault mX12_fault [] := by
  have hs := cl_fault h
  exact la_M.gen (u := (.inr (C.1 33 0), C)) (by decide) (by decide) (c_X11_fault hE).r (fun o W2 C2 hz => ⟨⟨by rw [hz.1], by rw [hz.1]⟩, hz.2.1, by rw [hz.2.2]; exact cx_eqX.r _⟩) (c_X12_fault hE).r hs.u hs.x
theorem od_oq_ok {C C2 : mo_S} {x1 : Int32} {t : Nat → Nat} {n : Nat} {o : Option Value ⊕ String} (h : od_oq C x1 t n o C2) : ∃ v : Int32, o = .inl (some (.int v)) := by
  obtain ⟨-, h⟩ := h
  rcases h with ⟨-, h, -⟩ | ⟨-, h⟩
  · exact ⟨_, h⟩
  · revert h
    split
    · intro h; exact ⟨_, h.2.2.1⟩
    · intro h; exact ⟨_, h.1⟩
theorem la_order {G : ev_G} {W : cw_W} {V : mo_W} {D0 : Nat} {B : Int} {C S : mo_S} {F : mo_Fn} {OL : Nat → List od_q} (hE : ev_En G) (h4 : ev_En4 G D0) (h99 : W 99 0 = D0) (h : cl_R B C S F OL) (_hB : B ≤ 8000000) (x1 x2 : Int32) : la_M G W V B [cl_IA] C S mX11_order mX12_order [.int x1, .int x2] := by
  have t := h.J.N (k := 28) 0 300 (by decide)
  have c28 : C.1 28 0 = S.1 28 0 := by rw [h.1.k 28 (by decide)]
  have hc := c_X11_order (x1 := x1) (x2 := x2) (d := 64) (t := ps_tx S) hE h4 (by decide) h99 (fun j => (ps_tx_is S j).2) h.1.2.2.2.1 (S.1 28 0).toNatClampNeg (c28.trans t.1) t.2 h.1.2.2.2.2.1.2 h.A
  refine ⟨_, _, 18, 4120, by decide, by decide, hc, c_X12_order hE h4.1 (by decide) t.1 t.2 h.J.O.1 h.J.O.2, fun o W2 C2 hz => ?_, fun o W2 C2 r S2 hz hq => ?_⟩
  · obtain ⟨a, b, c, d⟩ := hz
    refine ⟨⟨a, b⟩, ?_⟩
    rcases d with ⟨-, e, -⟩ | ⟨-, n, -, -, e⟩
    · exact Or.inr ⟨0, _, rfl, e⟩
    · exact Or.inl (od_oq_ok e)
  · obtain ⟨a, b, c, d⟩ := hz
    exact cl_order h t.1 t.2 c d hq
theorem sp_goesR_0 {S T : mo_S} {F : mo_Fn} (h : sp_goesR S F T) : T.1 0 = S.1 0 := by
  obtain ⟨T2, T3, q1, q2, q3⟩ := h
  rw [q3 0 (by decide), sp_end_ne (by decide) (by decide), sp_prR_ne (by decide) q2, sp_hand_ne (by decide), q1 0 (by decide), sp_divides_ne (by decide), sp_adm0_ne (by decide)]
theorem sp_goesN_0 {S : mo_S} {F : mo_Fn} (h0 : S.1 0 0 = 0) : ∀ {n : Nat} {T : mo_S}, sp_goesN F S n T → T.1 0 0 = 0
  | 0, T, h => by
    have e : T = S := h
    rw [e]; exact h0
  | n + 1, T, h => by
    obtain ⟨U, hU, hT⟩ := h
    rw [sp_goesR_0 hT]
    exact sp_goesN_0 h0 hU
theorem la_months {G : ev_G} {W : cw_W} {V : mo_W} {D0 : Nat} {B : Int} {C S : mo_S} {F : mo_Fn} {OL : Nat → List od_q} (hE : ev_En G) (h4 : ev_En4 G D0) (_h99 : W 99 0 = D0) (h : cl_R B C S F OL) (hB : B ≤ 8000000) (x1 : Int32) : la_M G W V B [cl_IA, cl_IS] C S mX11_months mX12_months [.int x1] := by
  have c2 : C.1 2 0 = S.1 2 0 := by rw [h.1.k 2 (by decide)]
  have hM := h.J.M
  by_cases c : sp_in x1 0 24 = false ∨ 600 < C.1 2 0 + x1
  · refine ⟨_, _, 1, 8, by decide, by decide, c_X11_months_bad hE h4 (by decide) c, c_X12_months2 hE h.J (by decide), fun o W2 C2 hz => ?_, fun o W2 C2 r S2 hz hq => ⟨C2, fun _ _ _ => rfl, rfl, ?_⟩⟩
    · obtain ⟨a, -, b⟩ := hz
      rw [a]
      refine ⟨⟨rfl, rfl⟩, ?_⟩
      by_cases z : sp_in x1 0 24 = false
      · rw [if_pos z] at b; exact Or.inr ⟨0, _, rfl, b⟩
      · rw [if_neg z] at b; exact Or.inr ⟨1, _, rfl, b⟩
    · obtain ⟨-, rfl, rfl⟩ := hz
      rw [c2] at c
      rcases hq with ⟨rfl, k, hk, rfl⟩ | ⟨a, b, -⟩
      · refine ⟨0, rfl, Or.inr ?_, F, OL, (h.u0.u0).le (by omega)⟩
        have e0 : (mo_up (mo_up S 0 0 0) 0 0 k).1 0 0 = k := by rw [mo_up_at, pk_us]
        rw [e0]
        rcases hk with ⟨rfl, z⟩ | ⟨rfl, z, -⟩
        · rw [if_pos z]; exact ⟨0, _, rfl, rfl, rfl⟩
        · rw [if_neg (by rw [z]; decide)]; exact ⟨1, _, rfl, rfl, rfl⟩
      · rcases c with c | c
        · rw [a] at c; cases c
        · exact absurd b (Int32.not_le.mpr c)
  · have a : sp_in x1 0 24 = true := by
      cases z : sp_in x1 0 24 with
      | true => rfl
      | false => exact absurd (Or.inl z) c
    have b : S.1 2 0 + x1 ≤ 600 := by rw [← c2]; exact Int32.not_lt.mp (fun q => c (Or.inr q))
    obtain ⟨z1, z2⟩ := of_decide_eq_true a
    obtain ⟨n, hn, rfl⟩ := nI_of (Int32.not_lt.mpr z1)
    have hn24 : n ≤ 24 := by
      have q := Int32.le_iff_toInt_le.mp z2
      rw [nI_toInt hn] at q
      have q : (n : Int) ≤ 24 := q
      omega
    have hn600 : sp_M S + n ≤ 600 := by
      rw [hM.1, nI_add] at b
      have q := Int32.le_iff_toInt_le.mp b
      rw [nI_toInt (by omega)] at q
      have q : ((sp_M S + n : Nat) : Int) ≤ 600 := q
      omega
    have cM : cw_M C = sp_M S := h.1.sz.2.2.2.2.2.2.2
    have h0 := h.u0 (v := 0)
    have m0 : sp_M (mo_up S 0 0 0) = sp_M S := by unfold sp_M; rw [mo_up_ne (by decide)]
    refine ⟨_, _, 24, 1152, by decide, by decide, c_X11_months_ok hE h4 (by decide) hn24 ⟨by rw [c2, cM]; exact hM.1, by rw [cM]; exact hn600⟩ (h0.goH (by omega) (by rw [m0]; exact hn600)), c_X12_months2 hE h.J (by decide), fun o W2 C2 hz => ?_, fun o W2 C2 r S2 hz hq => ⟨C2, fun _ _ _ => rfl, rfl, ?_⟩⟩
    · obtain ⟨e, d, -⟩ := hz
      exact ⟨⟨e 99 0 (by decide), e 0 0 (by decide)⟩, Or.inl ⟨_, d⟩⟩
    · obtain ⟨-, rfl, hg⟩ := hz
      rcases hq with ⟨-, k, hk, -⟩ | ⟨-, -, N, hN, hN4, hgo, rfl⟩
      · rcases hk with ⟨-, z⟩ | ⟨-, -, z⟩
        · rw [a] at z; cases z
        · exact absurd b (Int32.not_le.mpr z)
      · have eN : n = N := mo_niinj hn (by omega) hN
        subst eN
        have q := h0.goN (by omega) (by rw [m0]; exact hn600) hg hgo
        have e0 : S2.1 0 0 = 0 := by
          have z := sp_goesN_0 (by rw [mo_up_at, pk_us]) hgo
          exact z
        refine ⟨_, rfl, Or.inl ⟨?_, e0⟩, F, OL, q.le (by omega)⟩
        rw [q.1.k 2 (by decide)]

end DW
