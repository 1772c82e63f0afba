section RS9
def od_new (C : mo_S) (x1 : Int32) : mo_S := (fun f x => if f = 133 ∧ x = 0 then 1 else if f = 36 ∧ x = 11 then x1 else if f = 100 ∧ x = 11 then -1 else if f = 101 ∧ x / 3 = 11 then 64 else if f = 102 ∧ x / 3 = 11 then -1 else if (103 ≤ f ∧ f ≤ 109) ∧ x = 11 then ([10, 12, 100, 0, 0, 0, 0] : List Int32).getD (f - 103) 0 else if f = 110 ∧ x = 11 then 0 else if f = 111 ∧ x = 11 then 1 else if f = 113 ∧ x = 11 then 0 else if f = 112 ∧ x / 300 = 11 then -1 else C.1 f x, C.2)
theorem od_new_sm {C : mo_S} {x1 : Int32} : od_sm (od_new C x1) C := by
  refine ⟨fun f x h1 h2 => ?_, rfl⟩
  unfold od_at at h1
  show (if _ then _ else _) = _
  rw [if_neg (by omega), if_neg (by omega), if_neg (by omega), if_neg (by omega), if_neg (by omega), if_neg (by omega), if_neg (by omega), if_neg (by omega), if_neg (by omega), if_neg (by omega)]
section N
variable {C : mo_S} {x1 : Int32}
theorem od_new_133 : (od_new C x1).1 133 0 = 1 := by
  first | rfl | simp [od_new]
theorem od_new_36 : (od_new C x1).1 36 11 = x1 := by
  first | rfl | simp [od_new]
theorem od_new_100 : (od_new C x1).1 100 11 = -1 := by
  first | rfl | simp [od_new]
theorem od_new_110 : (od_new C x1).1 110 11 = 0 := by
  first | rfl | simp [od_new]
theorem od_new_111 : (od_new C x1).1 111 11 = 1 := by
  first | rfl | simp [od_new]
theorem od_new_113 : (od_new C x1).1 113 11 = 0 := by
  first | rfl | simp [od_new]
theorem od_new_g101 {f x : Nat} (hf : f = 101) (hx : x / 3 = 11) : (od_new C x1).1 f x = 64 := by
  show (if _ then _ else _) = _
  rw [if_neg (by omega), if_neg (by omega), if_neg (by omega), if_pos (by omega)]
theorem od_new_101 {j : Nat} (hj : j < 3) : (od_new C x1).1 101 (3 * 11 + j) = 64 := od_new_g101 rfl (by omega)
theorem od_new_g102 {f x : Nat} (hf : f = 102) (hx : x / 3 = 11) : (od_new C x1).1 f x = -1 := by
  show (if _ then _ else _) = _
  rw [if_neg (by omega), if_neg (by omega), if_neg (by omega), if_neg (by omega), if_pos (by omega)]
theorem od_new_102 {j : Nat} (hj : j < 3) : (od_new C x1).1 102 (3 * 11 + j) = -1 := od_new_g102 rfl (by omega)
theorem od_new_vl {f : Nat} (h1 : 103 ≤ f) (h2 : f ≤ 109) : (od_new C x1).1 f 11 = ([10, 12, 100, 0, 0, 0, 0] : List Int32).getD (f - 103) 0 := by
  show (if _ then _ else _) = _
  rw [if_neg (by omega), if_neg (by omega), if_neg (by omega), if_neg (by omega), if_neg (by omega), if_pos (by omega)]
theorem od_new_g112 {f x : Nat} (hf : f = 112) (hx : x / 300 = 11) : (od_new C x1).1 f x = -1 := by
  show (if _ then _ else _) = _
  rw [if_neg (by omega), if_neg (by omega), if_neg (by omega), if_neg (by omega), if_neg (by omega), if_neg (by omega), if_neg (by omega), if_neg (by omega), if_neg (by omega), if_pos (by omega)]
theorem od_new_112 {j : Nat} (hj : j < 300) : (od_new C x1).1 112 (300 * 11 + j) = -1 := od_new_g112 rfl (by omega)
theorem od_new_S : od_S (od_new C x1) 11 (fun _ => none) := fun w hw => by
  refine ⟨fun _ => ⟨od_new_111, by show 1 ≤ 300; decide, fun j hj => ?_⟩, fun h1 h3 => ⟨od_new_101 (by omega), od_new_102 (by omega)⟩, fun _ => ⟨od_new_110, od_new_100, fun q => by cases q⟩, fun h1 h2 => ?_⟩
  · have hj : j < 1 := hj
    rw [od_new_112 (by omega), show j = 0 by omega]
    rfl
  · rw [od_new_vl (by omega) (by omega), show 98 + w - 103 = w - 5 by omega]
    rfl
end N
def od_Wn (W : cw_W) (y a1 a2 a3 : Nat) : cw_W := fun k i => if k = 28 ∧ i = 11 then y else if k = 29 ∧ i = 11 then a1 else if k = 31 ∧ i = 11 then a2 else if k = 32 ∧ i = 11 then a3 else W k i
section CT
variable {G : ev_G} {K : Nat → Prop} {g0 g : ev_H} {W : cw_W} {C : mo_S}
theorem cw_T.nw {g1 g2 : ev_H} {y a1 a2 a3 : Nat} {x1 : Int32} {f1 f2 f3 : Nat → Int32} (hT : cw_T G K g0 W g C) (h133 : C.1 133 0 = 0) (hA : ∀ a, a < sp_A C → (C.1 63 a).toNatClampNeg < sp_P C) (ky : g y = none) (k1 : ∀ b, b ≠ y → g1 b = g b) (hy1 : ∃ e, g1 y = some e) (hy : g2 y = some (.inr (5, [.int x1, .ref a1, .null, .int (-1), .ref a2, .ref a3, .int 10, .int 12, .int 100, .int 0, .int 0, .int 0, .int 0])))
    (n1 : g1 a1 = none) (p1 : g2 a1 = some (.inl (G.2.2.2 0, 1, .inl f1))) (n2 : g1 a2 = none) (p2 : g2 a2 = some (.inl (G.2.2.2 0, 3, .inl f2))) (n3 : g1 a3 = none) (p3 : g2 a3 = some (.inl (G.2.2.2 0, 3, .inl f3))) (q1 : f1 0 = -1) (q2 : ∀ j, j < 3 → f2 j = 64) (q3 : ∀ j, j < 3 → f3 j = -1) (d12 : a1 ≠ a2) (d13 : a1 ≠ a3) (d23 : a2 ≠ a3) (hO : ∀ b e, b ≠ y → g1 b = some e → g2 b = some e) : cw_T G K g0 (od_Wn W y a1 a2 a3) g2 (od_new C x1) := by
  have ng : ∀ a, g1 a = none → a ≠ y ∧ g a = none := fun a h => by
    have h1 : a ≠ y := fun z => by
      obtain ⟨e, he⟩ := hy1
      rw [z, he] at h
      cases h
    exact ⟨h1, by rw [← k1 a h1]; exact h⟩
  have go : ∀ b e, g b = some e → g2 b = some e := fun b e h => by
    have h1 : b ≠ y := fun z => by rw [z, ky] at h; cases h
    exact hO b e h1 (by rw [k1 b h1]; exact h)
  have m1 := ng a1 n1
  have m2 := ng a2 n2
  have m3 := ng a3 n3
  have w28 : od_Wn W y a1 a2 a3 28 11 = y := if_pos ⟨rfl, rfl⟩
  have w29 : od_Wn W y a1 a2 a3 29 11 = a1 := (if_neg (by decide)).trans (if_pos ⟨rfl, rfl⟩)
  have w31 : od_Wn W y a1 a2 a3 31 11 = a2 := (if_neg (by decide)).trans ((if_neg (by decide)).trans (if_pos ⟨rfl, rfl⟩))
  have w32 : od_Wn W y a1 a2 a3 32 11 = a3 := (if_neg (by decide)).trans ((if_neg (by decide)).trans ((if_neg (by decide)).trans (if_pos ⟨rfl, rfl⟩)))
  have hn : ∀ k i, cw_lv C k i → ∀ a, g a = none → W k i ≠ a := fun k i h a ha => hT.ne0 h ha
  have e110 : (od_new C x1).1 110 11 = 0 := od_new_110
  refine hT.mk h133 hA od_new_sm (by rw [od_new_111]; decide) (by rw [od_new_113]; decide) (fun k i h => ?_) (fun a ha => ?_) (fun k i h => ?_) (fun k k1 k2 hk => ?_) (fun k k' a1' a2' b1 b2 h30 e => ?_)
  · unfold od_Wn
    rw [if_neg (by omega), if_neg (by omega), if_neg (by omega), if_neg (by omega)]
  · obtain ⟨t1, v, t2⟩ := hT.2.1 a ha
    rw [go a v (by rw [t1]; exact t2), t1, t2]
  · obtain ⟨e, he⟩ := hT.ex9 h
    rw [he]; exact go _ _ he
  · obtain rfl | rfl | rfl | rfl | rfl : k = 28 ∨ k = 29 ∨ k = 30 ∨ k = 31 ∨ k = 32 := by omega
    · refine ⟨cw_at_ob (by decide) ob28 ?_, by rw [w28]; exact hT.K0 ky, fun k' i' h => by rw [w28]; exact hn k' i' h y ky⟩
      rw [w28, w29, w31, w32, od_new_36, e110, if_pos rfl, od_new_100, od_new_vl (by decide) (by decide), od_new_vl (by decide) (by decide), od_new_vl (by decide) (by decide), od_new_vl (by decide) (by decide), od_new_vl (by decide) (by decide), od_new_vl (by decide) (by decide), od_new_vl (by decide) (by decide)]
      exact hy
    · refine ⟨cw_at_ar (by decide) ar29 ⟨f1, by rw [od_new_111, w29]; exact p1, fun j hj => ?_⟩, by rw [w29]; exact hT.K0 m1.2, fun k' i' h => by rw [w29]; exact hn k' i' h a1 m1.2⟩
      rw [od_new_111] at hj
      have hj : j < 1 := hj
      show f1 j = (od_new C x1).1 112 (300 * 11 + j)
      rw [od_new_112 (by omega), show j = 0 by omega]
      exact q1
    · exact absurd e110 (hk rfl)
    · refine ⟨cw_at_ar (by decide) ar31 ⟨f2, by rw [w31]; exact p2, fun j hj => ?_⟩, by rw [w31]; exact hT.K0 m2.2, fun k' i' h => by rw [w31]; exact hn k' i' h a2 m2.2⟩
      show f2 j = (od_new C x1).1 101 (3 * 11 + j)
      rw [od_new_101 hj]; exact q2 j hj
    · refine ⟨cw_at_ar (by decide) ar32 ⟨f3, by rw [w32]; exact p3, fun j hj => ?_⟩, by rw [w32]; exact hT.K0 m3.2, fun k' i' h => by rw [w32]; exact hn k' i' h a3 m3.2⟩
      show f3 j = (od_new C x1).1 102 (3 * 11 + j)
      rw [od_new_102 hj]; exact q3 j hj
  · have n30 : k ≠ 30 ∧ k' ≠ 30 := ⟨fun z => h30 (Or.inl z) e110, fun z => h30 (Or.inr z) e110⟩
    obtain rfl | rfl | rfl | rfl : k = 28 ∨ k = 29 ∨ k = 31 ∨ k = 32 := by omega
    all_goals obtain rfl | rfl | rfl | rfl : k' = 28 ∨ k' = 29 ∨ k' = 31 ∨ k' = 32 := by omega
    all_goals simp only [w28, w29, w31, w32] at e
    all_goals first
      | rfl
      | exact absurd e m1.1 | exact absurd e.symm m1.1 | exact absurd e m2.1 | exact absurd e.symm m2.1 | exact absurd e m3.1 | exact absurd e.symm m3.1
      | exact absurd e d12 | exact absurd e.symm d12 | exact absurd e d13 | exact absurd e.symm d13 | exact absurd e d23 | exact absurd e.symm d23
end CT
/-- the clauses, told one behind another -/
def od_rl : Nat → od_R → List od_q → od_R
  | _, r, [] => r
  | i, r, q :: l => od_rl (i + 1) (od_st r i q) l
def od_fo (i : Nat) (r : od_R) (x : (Nat × Nat) ⊕ List od_q) : (Nat × Nat) ⊕ od_R := match x with
  | .inl e => .inl e
  | .inr l => .inr (od_rl i r l)
def od_rq (W0 : cw_W) (C0 : mo_S) (t : Nat → Nat) (n : Nat) (R : (Nat × Nat) ⊕ od_R) (o : Option Value ⊕ String) (W2 : cw_W) (C2 : mo_S) : Prop := od_W W2 W0 ∧ od_eq C2 C0 ∧ match R with
  | .inl (f, pl) => o = .inl (some .null) ∧ rd_F C2 t n f pl
  | .inr r => o = .inl (some (.ref (W2 28 11))) ∧ C2.1 120 0 = 0 ∧ C2.1 33 0 = -1 ∧ od_S C2 11 r
def od_rp (G : ev_G) (K : Nat → Prop) (g0 : ev_H) (W0 : cw_W) (C0 : mo_S) (t : Nat → Nat) (n : Nat) (R : (Nat × Nat) ⊕ od_R) (Post : ev_P) : Prop := ∀ o W2 C2 g', od_rq W0 C0 t n R o W2 C2 → cw_T G K g0 W2 g' C2 → Post o g'
theorem od_A {T C : mo_S} (h : od_eq T C) (hA : ∀ a, a < sp_A C → (C.1 63 a).toNatClampNeg < sp_P C) : ∀ a, a < sp_A T → (T.1 63 a).toNatClampNeg < sp_P T := fun a ha => by
  have k : ∀ f x, f = 1 ∨ f = 62 ∨ f = 63 → T.1 f x = C.1 f x := fun f x hf => h f x (fun q => by simp only [rd_Xs, List.mem_cons, List.mem_nil_iff, or_false] at q; omega) (fun q => by unfold od_at at q; omega)
  have sA : sp_A T = sp_A C := congrArg Int32.toNatClampNeg (k 62 0 (by decide))
  have sP : sp_P T = sp_P C := congrArg Int32.toNatClampNeg (k 1 0 (by decide))
  rw [sA] at ha
  rw [sP, k 63 a (by decide)]
  exact hA a ha
theorem od_133 {T C : mo_S} (h : od_eq T C) : T.1 133 0 = C.1 133 0 := h 133 0 (by decide) (fun q => by unfold od_at at q; omega)
section LP
variable {G : ev_G} {K : Nat → Prop} {g0 : ev_H} {W0 : cw_W} {C0 : mo_S} {t : Nat → Nat} {n d D0 : Nat} {x1 : Int32} {Post : ev_P}
/-- behind a fault -/
theorem od_lF {bc bs : Nat} {i f pl : Nat} {W1 : cw_W} {T : mo_S} {g : ev_H} (hE : ev_En G) (hi : i ≤ 13) (hW : od_W W1 W0) (he : od_eq T C0) (hF : rd_F T t n f pl) (hT : cw_T G K g0 W1 g T) (hP : od_rp G K g0 W0 C0 t n (.inl (f, pl)) Post) : ev_V G d bc bs mX7_read Post g 31 [some (.ref (W1 4 0)), some (.int x1), some (.int (nI n)), some (.ref (W1 28 11)), some (.int (nI i))] [] := by
  have out : ev_V G d bc bs mX7_read Post g 72 [some (.ref (W1 4 0)), some (.int x1), some (.int (nI n)), some (.ref (W1 28 11)), some (.int (nI i))] [] := by
    refine ev_aload_n dX7_read_72 rfl rfl ?_
    refine cw_getf hE hT dX7_read_73 fX7_31 (k := 4) (i := 0) rfl ob4 rfl ?_
    refine ev_if_ne (tgt := 83) dX7_read_76 (by decide) (fun _ => ?_) (fun c => absurd c hF.f0)
    refine ev_null dX7_read_83 ?_
    exact ev_aret dX7_read_84 rfl (Or.inl ⟨_, rfl⟩) (Or.inl rfl) (hP _ W1 T _ ⟨hW, he, rfl, hF⟩ hT)
  refine ev_iload dX7_read_31 rfl ?_
  refine ev_bipush (v := nI 12) dX7_read_33 (by decide) ?_
  refine ev_icmp_gt (tgt := 72) dX7_read_35 (by decide) (fun _ => out) (fun _ => ?_)
  refine ev_aload_n dX7_read_38 rfl rfl ?_
  refine cw_geti (v2 := -2) hE hT dX7_read_39 fX7_22 (k := 4) (i := 0) rfl ob4 rfl hF.2.2.2.2.2 ?_
  refine ev_iconst (v := -1) dX7_read_42 (by decide) ?_
  refine ev_icmp_eq (tgt := 72) dX7_read_43 (by decide) (fun _ => out) (fun _ => ?_)
  refine ev_aload_n dX7_read_46 rfl rfl ?_
  refine cw_getf hE hT dX7_read_47 fX7_31 (k := 4) (i := 0) rfl ob4 rfl ?_
  exact ev_if_ne (tgt := 72) dX7_read_50 (by decide) (fun _ => out) (fun c => absurd c hF.f0)
theorem od_os0 {p i : Nat} {r : od_R} (m : Nat) (h : ¬ p < n) : od_fo i r (ps_os t n m p) = .inr r := by
  cases m with
  | zero => unfold ps_os; rw [if_neg h]; rfl
  | succ m => unfold ps_os; rw [if_neg h]; rfl
theorem od_osF {p i m f pl : Nat} {r : od_R} (hm : i + m = 12) (h : p < n) (hc : od_cc t n p i = .inl (f, pl)) : od_fo i r (ps_os t n m p) = .inl (f, pl) := by
  cases m with
  | zero =>
    unfold ps_os
    rw [if_pos h]
    unfold od_cc at hc
    rw [if_neg (by omega)] at hc
    cases e : ps_fnd t n p ps_cn 10 with
    | none =>
      rw [e] at hc
      cases hc
      rfl
    | some k =>
      rw [e] at hc
      cases hc
      rfl
  | succ m =>
    unfold ps_os
    rw [if_pos h]
    unfold od_cc at hc
    rw [if_pos (by omega)] at hc
    rw [ps_cl_ce, hc]
    rfl
theorem od_osE {p i m h : Nat} {r : od_R} {q : od_q} (hm : i + m = 12) (hp : p < n) (hc : od_cc t n p i = .inr (h, q)) (hs : ¬ (h < n ∧ t h = 59)) : od_fo i r (ps_os t n m p) = .inl (1, h) := by
  cases m with
  | zero =>
    unfold od_cc at hc
    rw [if_neg (by omega)] at hc
    cases hc
  | succ m =>
    unfold ps_os
    rw [if_pos hp]
    unfold od_cc at hc
    rw [if_pos (by omega)] at hc
    rw [ps_cl_ce, hc]
    unfold od_ce
    dsimp only
    rw [if_neg hs]
    rfl
theorem od_osS {p i m h : Nat} {r : od_R} {q : od_q} (hm : i + m = 12) (hp : p < n) (hc : od_cc t n p i = .inr (h, q)) (hs : h < n ∧ t h = 59) : ∃ m', m = m' + 1 ∧ od_fo i r (ps_os t n m p) = od_fo (i + 1) (od_st r i q) (ps_os t n m' (ps_skn t n (h + 1))) := by
  cases m with
  | zero =>
    unfold od_cc at hc
    rw [if_neg (by omega)] at hc
    cases hc
  | succ m =>
    refine ⟨m, rfl, ?_⟩
    rw [show ps_os t n (m + 1) p = if p < n then (match ps_cl t n p with
      | .inl e => .inl e
      | .inr (h, q) => match ps_os t n m h with
        | .inl e => .inl e
        | .inr l => .inr (q :: l)) else .inr [] from rfl]
    rw [if_pos hp]
    unfold od_cc at hc
    rw [if_pos (by omega)] at hc
    rw [ps_cl_ce, hc]
    unfold od_ce
    dsimp only
    rw [if_pos hs]
    dsimp only
    cases ps_os t n m (ps_skn t n (h + 1)) with
    | inl e => rfl
    | inr l => rfl
theorem od_lp (hE : ev_En G) (h4 : ev_En4 G D0) (hd : 62 ≤ d) (hA : ∀ a, a < sp_A C0 → (C0.1 63 a).toNatClampNeg < sp_P C0) (h133 : C0.1 133 0 = 1) : ∀ (m i p : Nat) (W1 : cw_W) (T : mo_S) (r : od_R) (g : ev_H), i + m = 12 → od_W W1 W0 → od_eq T C0 → rd_G T t n p → (T.1 122 0 = 0 ∧ T.1 33 0 = -1) → od_S T 11 r → cw_T G K g0 W1 g T → od_rp G K g0 W0 C0 t n (od_fo i r (ps_os t n m p)) Post → ev_V G d (m + 1) (300 * (m + 1)) mX7_read Post g 31 [some (.ref (W1 4 0)), some (.int x1), some (.int (nI n)), some (.ref (W1 28 11)), some (.int (nI i))] [] := by
  intro m
  induction m with
  | zero =>
    intro i p W1 T r g hm hW he hG hc hS hT hP
    have ht := hG.1.2.2.2
    have h300 := hG.le
    refine ev_iload dX7_read_31 rfl ?_
    refine ev_bipush (v := nI 12) dX7_read_33 (by decide) ?_
    refine ev_icmp_gt (tgt := 72) dX7_read_35 (by decide) (fun c => absurd c (nI_nlt (by omega) (by omega))) (fun _ => ?_)
    refine ev_aload_n dX7_read_38 rfl rfl ?_
    refine cw_geti (v2 := rd_sg t n p) hE hT dX7_read_39 fX7_22 (k := 4) (i := 0) rfl ob4 rfl hG.2.2.2.2.1 ?_
    refine ev_iconst (v := -1) dX7_read_42 (by decide) ?_
    by_cases hp : p < n
    · have hne : ¬ rd_sg t n p = -1 := by
        unfold rd_sg
        rw [if_pos hp]
        have := ht p
        split
        · decide
        · split
          · decide
          · exact cj_ne (by omega) (by decide)
      refine ev_icmp_eq (tgt := 72) dX7_read_43 (by decide) (fun c => absurd c hne) (fun _ => ?_)
      refine ev_aload_n dX7_read_46 rfl rfl ?_
      refine cw_getf hE hT dX7_read_47 fX7_31 (k := 4) (i := 0) rfl ob4 rfl ?_
      refine ev_if_ne (tgt := 72) dX7_read_50 (by decide) (fun c => absurd hG.2.1 c) (fun _ => ?_)
      refine ev_aload_n dX7_read_53 rfl rfl ?_
      refine ev_aload_n dX7_read_54 rfl rfl ?_
      refine ev_iload dX7_read_55 rfl ?_
      refine cw_callr2 (d' := d - 1) (b := 0) (n0 := 300 * 0) hE hT dX7_read_57 rfl kX7_readClause lX7_51 iX7_readClause vX7_readClause (k := 4) (i := 0) rfl ob4 rfl (Nat.le_of_ble_eq_true rfl) (by omega) (c_X7_readClause (d := d - 1) hE h4 (by omega) hG hc ((od_133 he).trans h133) (od_A he hA) (by omega) hS) (by omega) (by omega) (fun v9 W9 T2 g q9 hT => ?_) (fun E W2 C2 g q9 _ => by obtain ⟨_, h9, _⟩ := q9; cases h9)
      obtain ⟨e8, e9, he2, q9⟩ := q9
      cases e9
      have e4 : W1 4 0 = W9 4 0 := (e8 4 0 (by omega)).symm
      have e28 : W1 28 11 = W9 28 11 := (e8 28 11 (by omega)).symm
      rw [e4, e28]
      refine ev_aload_n dX7_read_60 rfl rfl ?_
      refine ev_bipush (v := nI 59) dX7_read_61 (by decide) ?_
      cases hcc : od_cc t n p i with
      | inl e =>
        obtain ⟨f, pl⟩ := e
        rw [hcc] at q9
        have hF : rd_F T2 t n f pl := q9
        refine cw_call1 (d' := d - 1) hE hT dX7_read_63 rfl kX7_take lX7_55 iX7_take vX7_take (k := 4) (i := 0) rfl ob4 rfl (Nat.le_of_ble_eq_true rfl) (by omega) (c_X7_take_F (d := d - 1) hE (by omega) hF (by decide)) (fun g hT => ?_)
        refine ev_iinc (v := nI (i + 1)) dX7_read_66 rfl (nI_1 i) rfl ?_
        refine ev_goto (tgt := 31) dX7_read_69 (by decide) ?_
        rw [od_osF hm hp hcc] at hP
        exact od_lF hE (i := i + 1) (by omega) (e8.t hW) (he2.t he) hF hT hP
      | inr v =>
        obtain ⟨h, q⟩ := v
        rw [hcc] at q9
        obtain ⟨hG2, hc2, hS2⟩ := q9
        refine cw_callr1 (d' := d - 1) (b := 0) (n0 := 300 * 0) hE hT dX7_read_63 rfl kX7_take lX7_55 iX7_take vX7_take (k := 4) (i := 0) rfl ob4 rfl (Nat.le_of_ble_eq_true rfl) (by omega) (c_X7_take (d := d - 1) (c := 59) hE (by omega) hG2 (by decide) (by decide) (by decide)) (Nat.le_refl _) (Nat.le_refl _) (fun v9 W8 T3 g r9 hT => ?_) (fun E W2 C2 g q9 _ => by obtain ⟨_, h9, _⟩ := q9; cases h9)
        obtain ⟨f8, f9, r9⟩ := r9
        have f7 := f8.symm
        subst f7
        cases f9
        refine ev_iinc (v := nI (i + 1)) dX7_read_66 rfl (nI_1 i) rfl ?_
        refine ev_goto (tgt := 31) dX7_read_69 (by decide) ?_
        by_cases hs : h < n ∧ t h = 59
        · rw [if_pos hs] at r9
          obtain ⟨m', hm', ef⟩ := od_osS (r := r) hm hp hcc hs
          omega
        · rw [if_neg hs] at r9
          rw [od_osE hm hp hcc hs] at hP
          exact od_lF hE (i := i + 1) (by omega) (e8.t hW) ((od_eq.of (r9.1.mono (by decide))).t (he2.t he)) r9.2 hT hP
    · have hsg : rd_sg t n p = -1 := by
        unfold rd_sg
        rw [if_neg hp]
      refine ev_icmp_eq (tgt := 72) dX7_read_43 (by decide) (fun _ => ?_) (fun c => absurd hsg c)
      rw [od_os0 _ hp] at hP
      refine ev_aload_n dX7_read_72 rfl rfl ?_
      refine cw_getf hE hT dX7_read_73 fX7_31 (k := 4) (i := 0) rfl ob4 rfl ?_
      refine ev_if_ne (tgt := 83) dX7_read_76 (by decide) (fun c => absurd hG.2.1 c) (fun _ => ?_)
      refine ev_aload_n dX7_read_79 rfl rfl ?_
      refine ev_goto (tgt := 84) dX7_read_80 (by decide) ?_
      exact ev_aret dX7_read_84 rfl (Or.inl ⟨_, rfl⟩) (Or.inr ⟨_, rfl⟩) (hP _ W1 T _ ⟨hW, he, rfl, hG.2.1, hc.2, hS⟩ hT)
  | succ m ih =>
    intro i p W1 T r g hm hW he hG hc hS hT hP
    have ht := hG.1.2.2.2
    have h300 := hG.le
    refine ev_iload dX7_read_31 rfl ?_
    refine ev_bipush (v := nI 12) dX7_read_33 (by decide) ?_
    refine ev_icmp_gt (tgt := 72) dX7_read_35 (by decide) (fun c => absurd c (nI_nlt (by omega) (by omega))) (fun _ => ?_)
    refine ev_aload_n dX7_read_38 rfl rfl ?_
    refine cw_geti (v2 := rd_sg t n p) hE hT dX7_read_39 fX7_22 (k := 4) (i := 0) rfl ob4 rfl hG.2.2.2.2.1 ?_
    refine ev_iconst (v := -1) dX7_read_42 (by decide) ?_
    by_cases hp : p < n
    · have hne : ¬ rd_sg t n p = -1 := by
        unfold rd_sg
        rw [if_pos hp]
        have := ht p
        split
        · decide
        · split
          · decide
          · exact cj_ne (by omega) (by decide)
      refine ev_icmp_eq (tgt := 72) dX7_read_43 (by decide) (fun c => absurd c hne) (fun _ => ?_)
      refine ev_aload_n dX7_read_46 rfl rfl ?_
      refine cw_getf hE hT dX7_read_47 fX7_31 (k := 4) (i := 0) rfl ob4 rfl ?_
      refine ev_if_ne (tgt := 72) dX7_read_50 (by decide) (fun c => absurd hG.2.1 c) (fun _ => ?_)
      refine ev_aload_n dX7_read_53 rfl rfl ?_
      refine ev_aload_n dX7_read_54 rfl rfl ?_
      refine ev_iload dX7_read_55 rfl ?_
      refine cw_callr2 (d' := d - 1) (b := (m + 1)) (n0 := 300 * (m + 1)) hE hT dX7_read_57 rfl kX7_readClause lX7_51 iX7_readClause vX7_readClause (k := 4) (i := 0) rfl ob4 rfl (Nat.le_of_ble_eq_true rfl) (by omega) (c_X7_readClause (d := d - 1) hE h4 (by omega) hG hc ((od_133 he).trans h133) (od_A he hA) (by omega) hS) (by omega) (by omega) (fun v9 W9 T2 g q9 hT => ?_) (fun E W2 C2 g q9 _ => by obtain ⟨_, h9, _⟩ := q9; cases h9)
      obtain ⟨e8, e9, he2, q9⟩ := q9
      cases e9
      have e4 : W1 4 0 = W9 4 0 := (e8 4 0 (by omega)).symm
      have e28 : W1 28 11 = W9 28 11 := (e8 28 11 (by omega)).symm
      rw [e4, e28]
      refine ev_aload_n dX7_read_60 rfl rfl ?_
      refine ev_bipush (v := nI 59) dX7_read_61 (by decide) ?_
      cases hcc : od_cc t n p i with
      | inl e =>
        obtain ⟨f, pl⟩ := e
        rw [hcc] at q9
        have hF : rd_F T2 t n f pl := q9
        refine cw_call1 (d' := d - 1) hE hT dX7_read_63 rfl kX7_take lX7_55 iX7_take vX7_take (k := 4) (i := 0) rfl ob4 rfl (Nat.le_of_ble_eq_true rfl) (by omega) (c_X7_take_F (d := d - 1) hE (by omega) hF (by decide)) (fun g hT => ?_)
        refine ev_iinc (v := nI (i + 1)) dX7_read_66 rfl (nI_1 i) rfl ?_
        refine ev_goto (tgt := 31) dX7_read_69 (by decide) ?_
        rw [od_osF hm hp hcc] at hP
        exact od_lF hE (i := i + 1) (by omega) (e8.t hW) (he2.t he) hF hT hP
      | inr v =>
        obtain ⟨h, q⟩ := v
        rw [hcc] at q9
        obtain ⟨hG2, hc2, hS2⟩ := q9
        refine cw_callr1 (d' := d - 1) (b := (m + 1)) (n0 := 300 * (m + 1)) hE hT dX7_read_63 rfl kX7_take lX7_55 iX7_take vX7_take (k := 4) (i := 0) rfl ob4 rfl (Nat.le_of_ble_eq_true rfl) (by omega) (c_X7_take (d := d - 1) (c := 59) hE (by omega) hG2 (by decide) (by decide) (by decide)) (Nat.le_refl _) (Nat.le_refl _) (fun v9 W8 T3 g r9 hT => ?_) (fun E W2 C2 g q9 _ => by obtain ⟨_, h9, _⟩ := q9; cases h9)
        obtain ⟨f8, f9, r9⟩ := r9
        have f7 := f8.symm
        subst f7
        cases f9
        refine ev_iinc (v := nI (i + 1)) dX7_read_66 rfl (nI_1 i) rfl ?_
        refine ev_goto (tgt := 31) dX7_read_69 (by decide) ?_
        by_cases hs : h < n ∧ t h = 59
        · rw [if_pos hs] at r9
          obtain ⟨m', hm', ef⟩ := od_osS (r := r) hm hp hcc hs
          obtain rfl : m = m' := by omega
          rw [ef] at hP
          have hx := r9.1
          exact ih (i + 1) _ _ T3 _ g (by omega) (e8.t hW) ((od_eq.of (hx.mono (by decide))).t (he2.t he)) r9.2 ⟨by rw [hx 122 (by decide)]; exact hc2.1, by rw [hx 33 (by decide)]; exact hc2.2⟩ (hS2.x (hx.mono (by decide))) hT hP
        · rw [if_neg hs] at r9
          rw [od_osE hm hp hcc hs] at hP
          exact od_lF hE (i := i + 1) (by omega) (e8.t hW) ((od_eq.of (r9.1.mono (by decide))).t (he2.t he)) r9.2 hT hP
    · have hsg : rd_sg t n p = -1 := by
        unfold rd_sg
        rw [if_neg hp]
      refine ev_icmp_eq (tgt := 72) dX7_read_43 (by decide) (fun _ => ?_) (fun c => absurd hsg c)
      rw [od_os0 _ hp] at hP
      refine ev_aload_n dX7_read_72 rfl rfl ?_
      refine cw_getf hE hT dX7_read_73 fX7_31 (k := 4) (i := 0) rfl ob4 rfl ?_
      refine ev_if_ne (tgt := 83) dX7_read_76 (by decide) (fun c => absurd hG.2.1 c) (fun _ => ?_)
      refine ev_aload_n dX7_read_79 rfl rfl ?_
      refine ev_goto (tgt := 84) dX7_read_80 (by decide) ?_
      exact ev_aret dX7_read_84 rfl (Or.inl ⟨_, rfl⟩) (Or.inr ⟨_, rfl⟩) (hP _ W1 T _ ⟨hW, he, rfl, hG.2.1, hc.2, hS⟩ hT)
end LP
/-- what is read: none, where there is a fault -/
def od_rQ (W : cw_W) (C : mo_S) (t : Nat → Nat) (n : Nat) (x1 : Int32) (R : (Nat × Nat) ⊕ od_R) (o : Option Value ⊕ String) (W2 : cw_W) (C2 : mo_S) : Prop := (∀ k i, i ≠ 11 → W2 k i = W k i) ∧ (∀ f x, f ∉ [33, 116, 117, 118, 119, 120, 121, 122, 133] → ¬ od_at 11 f x → C2.1 f x = C.1 f x) ∧ match R with
  | .inl (f, pl) => o = .inl (some .null) ∧ rd_F C2 t n f pl ∧ C2.1 133 0 = 0
  | .inr r => o = .inl (some (.ref (W2 28 11))) ∧ C2.1 120 0 = 0 ∧ C2.1 33 0 = -1 ∧ od_S C2 11 r ∧ C2.1 36 11 = x1 ∧ C2.1 133 0 = 1
theorem c_X7_read {G : ev_G} {W : cw_W} {d D0 n : Nat} {C : mo_S} {t : Nat → Nat} {x1 : Int32} (hE : ev_En G) (h4 : ev_En4 G D0) (hd : 62 ≤ d) (hn : n ≤ 300) (ht : ∀ j, t j < 256) (htp : ∀ j, j < 300 → C.1 115 j = nI (t j)) (h120 : C.1 120 0 = 0) (h33 : C.1 33 0 = -1) (h133 : C.1 133 0 = 0) (hA : ∀ a, a < sp_A C → (C.1 63 a).toNatClampNeg < sp_P C) : cw_R G W d 17 3920 mX7_read [.ref (W 4 0), .int x1, .int (nI n)] C (fun o W2 C2 => od_rQ W C t n x1 (od_fo 0 (fun _ => none) (ps_os t n 12 (ps_skn t n 0))) o W2 C2) := by
  refine cw_startR (lv0 := [some (.ref (W 4 0)), some (.int x1), some (.int (nI n)), none, none]) (by decide +kernel) rfl (Nat.le_of_ble_eq_true rfl) rfl ?_
  intro K g0 g hT
  refine ev_aload_n dX7_read_0 rfl rfl ?_
  refine ev_iload_n dX7_read_1 rfl rfl ?_
  refine cw_putf (k := 4) (i := 0) (f := 116) (x := 0) hE hT dX7_read_2 pX7_19 rfl ob4 (Nat.le_of_ble_eq_true rfl) rfl rfl rfl (by decide) (by decide) pu4_2 (fun g hT => ?_)
  refine ev_aload_n dX7_read_5 rfl rfl ?_
  refine ev_iconst (v := nI 0) dX7_read_6 (by decide) ?_
  refine cw_putf (k := 4) (i := 0) (f := 119) (x := 0) hE hT dX7_read_7 pX7_28 rfl ob4 (Nat.le_of_ble_eq_true rfl) rfl rfl rfl (by decide) (by decide) pu4_5 (fun g hT => ?_)
  refine ev_aload_n dX7_read_10 rfl rfl ?_
  refine ev_iconst (v := 0) dX7_read_11 (by decide) ?_
  refine cw_putf (k := 4) (i := 0) (f := 122) (x := 0) hE hT dX7_read_12 pX7_40 rfl ob4 (Nat.le_of_ble_eq_true rfl) rfl rfl rfl (by decide) (by decide) pu4_9 (fun g hT => ?_)
  have u0 : ∀ f x, f ≠ 116 → f ≠ 119 → f ≠ 122 → (mo_up (mo_up (mo_up C 116 0 (nI n)) 119 0 (nI 0)) 122 0 0).1 f x = C.1 f x := fun f x a b c => by rw [mo_up_ne c, mo_up_ne b, mo_up_ne a]
  have u116 : (mo_up (mo_up (mo_up C 116 0 (nI n)) 119 0 (nI 0)) 122 0 0).1 116 0 = nI n := by rw [mo_up_ne (by decide), mo_up_ne (by decide), mo_up_at, pk_us]
  have u119 : (mo_up (mo_up (mo_up C 116 0 (nI n)) 119 0 (nI 0)) 122 0 0).1 119 0 = nI 0 := by rw [mo_up_ne (by decide), mo_up_at, pk_us]
  have u122 : (mo_up (mo_up (mo_up C 116 0 (nI n)) 119 0 (nI 0)) 122 0 0).1 122 0 = 0 := by rw [mo_up_at, pk_us]
  generalize hU : mo_up (mo_up (mo_up C 116 0 (nI n)) 119 0 (nI 0)) 122 0 0 = U at hT u0 u116 u119 u122
  have hUA : ∀ a, a < sp_A U → (U.1 63 a).toNatClampNeg < sp_P U := fun a ha => by
    have sA : sp_A U = sp_A C := congrArg Int32.toNatClampNeg (u0 62 0 (by decide) (by decide) (by decide))
    have sP : sp_P U = sp_P C := congrArg Int32.toNatClampNeg (u0 1 0 (by decide) (by decide) (by decide))
    rw [sA] at ha
    rw [sP, u0 63 a (by decide) (by decide) (by decide)]
    exact hA a ha
  refine ev_new2 (b := 16) (n := 3907) hE dX7_read_15 wX7_43 (by decide) (by decide) (fun y g1 k0 k1 k2 => ?_)
  refine ev_dup dX7_read_18 rfl ?_
  refine ev_iload_n dX7_read_19 rfl rfl ?_
  refine ev_callI (d' := d - 1) (b := 13) (k0 := 3900) (As := [.int x1]) dX7_read_20 rfl rfl kX4_init rfl rfl lX7_45 iX4_init (Nat.le_of_ble_eq_true rfl) (by omega) (c_X4_init (d := d - 1) hE h4 (by omega) k1) (by decide) (by decide) (fun v g2 h => ?_) (fun E g h => by cases h.1)
  obtain ⟨h1, a1, a2, a3, hy, ⟨n1, p1⟩, ⟨n2, p2⟩, ⟨n3, p3⟩, ⟨d12, d13⟩, d23, hO⟩ := h
  cases h1
  obtain ⟨W2, e28, hWo, hT3⟩ : ∃ W2 : cw_W, W2 28 11 = y ∧ (∀ k i, i ≠ 11 → W2 k i = W k i) ∧ cw_T G K g0 W2 g2 (od_new U x1) := by
    refine ⟨od_Wn W y a1 a2 a3, if_pos ⟨rfl, rfl⟩, fun k i h => ?_, hT.nw (by rw [u0 133 0 (by decide) (by decide) (by decide)]; exact h133) hUA k0 k2 ⟨_, k1⟩ hy n1 p1 n2 p2 n3 p3 rfl (fun j hj => ?_) (fun j hj => ?_) d12 d13 d23 hO⟩
    · unfold od_Wn
      rw [if_neg (by omega), if_neg (by omega), if_neg (by omega), if_neg (by omega)]
    · obtain rfl | rfl | rfl : j = 0 ∨ j = 1 ∨ j = 2 := by omega
      all_goals rfl
    · obtain rfl | rfl | rfl : j = 0 ∨ j = 1 ∨ j = 2 := by omega
      all_goals rfl
  subst e28
  have e4 : W 4 0 = W2 4 0 := (hWo 4 0 (by decide)).symm
  rw [e4]
  have sm := od_new_sm (C := U) (x1 := x1)
  have v0 : ∀ f x, ¬ od_at 11 f x → f ≠ 133 → f ≠ 116 → f ≠ 119 → f ≠ 122 → (od_new U x1).1 f x = C.1 f x := fun f x a b c e h => by rw [sm.1 f x a (fun q => b q.1), u0 f x c e h]
  have hX : rd_X (od_new U x1) t n := ⟨by rw [sm.1 116 0 (by unfold od_at; omega) (by omega)]; exact u116, hn, fun j hj => by rw [v0 115 j (by unfold od_at; omega) (by decide) (by decide) (by decide) (by decide)]; exact htp j hj, ht⟩
  have hf : (od_new U x1).1 120 0 = 0 := by rw [v0 120 0 (by unfold od_at; omega) (by decide) (by decide) (by decide) (by decide)]; exact h120
  refine ev_astore_n dX7_read_23 rfl (Nat.le_of_ble_eq_true rfl) rfl ?_
  refine ev_aload_n dX7_read_24 rfl rfl ?_
  refine cw_callr0 (d' := d - 1) (b := 13) (n0 := 3900) hE hT3 dX7_read_25 rfl kX7_next lX7_48 iX7_next vX7_next (k := 4) (i := 0) rfl ob4 rfl (Nat.le_of_ble_eq_true rfl) (by omega) (c_X7_next (d := d - 1) (h := 0) hE (by omega) hX hf (by rw [sm.1 119 0 (by unfold od_at; omega) (by omega)]; exact u119) (Nat.zero_le _)) (Nat.le_refl _) (Nat.le_refl _) (fun v9 W9 T g q9 hT => ?_) (fun E W2 C2 g q9 _ => by cases q9.2.1)
  obtain ⟨e8, e9, hx9, hT9⟩ := q9
  have e7 := e8.symm
  subst e7
  cases e9
  have hG := rd_next_G hX hf hx9 hT9
  refine ev_iconst (v := nI 0) dX7_read_28 (by decide) ?_
  refine ev_istore dX7_read_29 (Nat.le_of_ble_eq_true rfl) rfl ?_
  have hA2 : ∀ a, a < sp_A (od_new U x1) → ((od_new U x1).1 63 a).toNatClampNeg < sp_P (od_new U x1) := fun a ha => by
    rw [sm.sz.2.2.2.1] at ha
    rw [sm.sz.1, sm.f 63 (by omega) (by omega)]
    exact hUA a ha
  refine od_lp (C0 := od_new U x1) (W0 := W2) hE h4 hd hA2 od_new_133 12 0 (ps_skn t n 0) W2 T (fun _ => none) g (by omega) (od_W.r _) (od_eq.of (hx9.mono (by decide))) hG ⟨by rw [hx9 122 (by decide), sm.1 122 0 (by unfold od_at; omega) (by omega)]; exact u122, by rw [hx9 33 (by decide), v0 33 0 (by unfold od_at; omega) (by decide) (by decide) (by decide) (by decide)]; exact h33⟩ (od_new_S.x (hx9.mono (by decide))) hT (fun o W3 C3 g' q hT4 => ?_)
  obtain ⟨q1, q2, q3⟩ := q
  have hW3 : ∀ k i, i ≠ 11 → W3 k i = W k i := fun k i h => (q1 k i (by omega)).trans (hWo k i h)
  have hC3 : ∀ f x, f ∉ [33, 116, 117, 118, 119, 120, 121, 122, 133] → ¬ od_at 11 f x → C3.1 f x = C.1 f x := fun f x a b => by
    simp only [List.mem_cons, List.mem_nil_iff, or_false, not_or] at a
    rw [q2 f x (fun z => by simp only [rd_Xs, List.mem_cons, List.mem_nil_iff, or_false] at z; omega) (fun z => absurd z b), v0 f x b (by omega) (by omega) (by omega) (by omega)]
  have h3133 : C3.1 133 0 = 1 := (od_133 q2).trans od_new_133
  cases hR : od_fo 0 (fun _ => none) (ps_os t n 12 (ps_skn t n 0)) with
  | inl e =>
    obtain ⟨f, pl⟩ := e
    rw [hR] at q3
    obtain ⟨r1, r2⟩ := q3
    refine ⟨W3, mo_up C3 133 0 0, ⟨hW3, fun f x a b => ?_, r1, r2.cg2 (fun f y h => by rw [mo_up_ne (show f ≠ 133 by omega)]), by rw [mo_up_at, pk_us]⟩, hT4.drop (od_A q2 hA2)⟩
    rw [mo_up_ne (fun z => a (by rw [z]; decide))]
    exact hC3 f x a b
  | inr r =>
    rw [hR] at q3
    obtain ⟨r1, r2, r3, r4⟩ := q3
    exact ⟨W3, C3, ⟨hW3, hC3, r1, r2, r3, r4, (q2 36 11 (by decide) (fun _ => rfl)).trans od_new_36, h3133⟩, hT4⟩
end RS9
