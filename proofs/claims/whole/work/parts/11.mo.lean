section MO
/-! calls by the number of arguments; pure static methods -/
variable {G : ev_G} {d bc bs : Nat} {M : ev_M} {Post : ev_P} {g : ev_H} {pc : Nat} {lv : List (Option Value)} {st : List Value}
theorem ev_start {mc ms : Nat} {As : List Value} {lv0 : List (Option Value)} (hy : plainName M.1.cls = true) (hh : M.2.2.2.2 = []) (hn : (lg_sl As).length ≤ M.2.2.1) (hlv : ev_ent As M.2.2.1 = lv0) (k : ev_V G d mc ms M Post g 0 lv0 []) : ev_C G d mc ms M As g Post := ev_entry hy hh hn (hlv ▸ k)
/-- a method that leaves the heap as it is -/
def ev_Cp (G : ev_G) (d : Nat) (M' : ev_M) (As : List Value) (g : ev_H) (r : Option Value) : Prop := ev_C G d 0 0 M' As g (fun o g' => o = .inl r ∧ g' = g)

theorem ev_pS0 {index d' : Nat} {M' : ev_M} {r : Option Value} {rest : List Value} (hd : decode M.2.1 pc = .ok (.invokestatic index, 3)) (hh : M'.2.2.2.2 = []) (hK : ev_K M' 0) (hl1 : Cond.methodLink M.1.cls index M'.1 ∈ ev_T) (hl2 : Cond.static M'.1 ∈ ev_T) (hr : (rest.map fun v => v.category).sum ≤ 8) (hdd : d' + 1 ≤ d) (hM : ev_Cp G d' M' [] g r) (k : ev_V G d bc bs M Post g (pc + 3) lv (r.toList ++ rest)) : ev_V G d bc bs M Post g pc lv (rest) :=
  ev_callS (ci := 0) (r := 0) (fs := []) (As := []) hd hh hK rfl hl1 hl2 hr hdd hM (b := bc) (k0 := bs) (Nat.le_refl _) (Nat.le_refl _) (fun v g' h => by obtain ⟨h1, rfl⟩ := h; cases h1; exact k) (fun E g' h => by cases h.1)
theorem ev_pS1 {index d' : Nat} {M' : ev_M} {r : Option Value} {a1 : Value} {rest : List Value} (hd : decode M.2.1 pc = .ok (.invokestatic index, 3)) (hh : M'.2.2.2.2 = []) (hK : ev_K M' 1) (hl1 : Cond.methodLink M.1.cls index M'.1 ∈ ev_T) (hl2 : Cond.static M'.1 ∈ ev_T) (hr : (rest.map fun v => v.category).sum ≤ 8) (hdd : d' + 1 ≤ d) (hM : ev_Cp G d' M' [a1] g r) (k : ev_V G d bc bs M Post g (pc + 3) lv (r.toList ++ rest)) : ev_V G d bc bs M Post g pc lv (a1 :: rest) :=
  ev_callS (ci := 0) (r := 0) (fs := []) (As := [a1]) hd hh hK rfl hl1 hl2 hr hdd hM (b := bc) (k0 := bs) (Nat.le_refl _) (Nat.le_refl _) (fun v g' h => by obtain ⟨h1, rfl⟩ := h; cases h1; exact k) (fun E g' h => by cases h.1)
theorem ev_pS2 {index d' : Nat} {M' : ev_M} {r : Option Value} {a1 a2 : Value} {rest : List Value} (hd : decode M.2.1 pc = .ok (.invokestatic index, 3)) (hh : M'.2.2.2.2 = []) (hK : ev_K M' 2) (hl1 : Cond.methodLink M.1.cls index M'.1 ∈ ev_T) (hl2 : Cond.static M'.1 ∈ ev_T) (hr : (rest.map fun v => v.category).sum ≤ 8) (hdd : d' + 1 ≤ d) (hM : ev_Cp G d' M' [a1, a2] g r) (k : ev_V G d bc bs M Post g (pc + 3) lv (r.toList ++ rest)) : ev_V G d bc bs M Post g pc lv (a2 :: a1 :: rest) :=
  ev_callS (ci := 0) (r := 0) (fs := []) (As := [a1, a2]) hd hh hK rfl hl1 hl2 hr hdd hM (b := bc) (k0 := bs) (Nat.le_refl _) (Nat.le_refl _) (fun v g' h => by obtain ⟨h1, rfl⟩ := h; cases h1; exact k) (fun E g' h => by cases h.1)
theorem ev_pS3 {index d' : Nat} {M' : ev_M} {r : Option Value} {a1 a2 a3 : Value} {rest : List Value} (hd : decode M.2.1 pc = .ok (.invokestatic index, 3)) (hh : M'.2.2.2.2 = []) (hK : ev_K M' 3) (hl1 : Cond.methodLink M.1.cls index M'.1 ∈ ev_T) (hl2 : Cond.static M'.1 ∈ ev_T) (hr : (rest.map fun v => v.category).sum ≤ 8) (hdd : d' + 1 ≤ d) (hM : ev_Cp G d' M' [a1, a2, a3] g r) (k : ev_V G d bc bs M Post g (pc + 3) lv (r.toList ++ rest)) : ev_V G d bc bs M Post g pc lv (a3 :: a2 :: a1 :: rest) :=
  ev_callS (ci := 0) (r := 0) (fs := []) (As := [a1, a2, a3]) hd hh hK rfl hl1 hl2 hr hdd hM (b := bc) (k0 := bs) (Nat.le_refl _) (Nat.le_refl _) (fun v g' h => by obtain ⟨h1, rfl⟩ := h; cases h1; exact k) (fun E g' h => by cases h.1)
theorem ev_pS4 {index d' : Nat} {M' : ev_M} {r : Option Value} {a1 a2 a3 a4 : Value} {rest : List Value} (hd : decode M.2.1 pc = .ok (.invokestatic index, 3)) (hh : M'.2.2.2.2 = []) (hK : ev_K M' 4) (hl1 : Cond.methodLink M.1.cls index M'.1 ∈ ev_T) (hl2 : Cond.static M'.1 ∈ ev_T) (hr : (rest.map fun v => v.category).sum ≤ 8) (hdd : d' + 1 ≤ d) (hM : ev_Cp G d' M' [a1, a2, a3, a4] g r) (k : ev_V G d bc bs M Post g (pc + 3) lv (r.toList ++ rest)) : ev_V G d bc bs M Post g pc lv (a4 :: a3 :: a2 :: a1 :: rest) :=
  ev_callS (ci := 0) (r := 0) (fs := []) (As := [a1, a2, a3, a4]) hd hh hK rfl hl1 hl2 hr hdd hM (b := bc) (k0 := bs) (Nat.le_refl _) (Nat.le_refl _) (fun v g' h => by obtain ⟨h1, rfl⟩ := h; cases h1; exact k) (fun E g' h => by cases h.1)
theorem ev_pS5 {index d' : Nat} {M' : ev_M} {r : Option Value} {a1 a2 a3 a4 a5 : Value} {rest : List Value} (hd : decode M.2.1 pc = .ok (.invokestatic index, 3)) (hh : M'.2.2.2.2 = []) (hK : ev_K M' 5) (hl1 : Cond.methodLink M.1.cls index M'.1 ∈ ev_T) (hl2 : Cond.static M'.1 ∈ ev_T) (hr : (rest.map fun v => v.category).sum ≤ 8) (hdd : d' + 1 ≤ d) (hM : ev_Cp G d' M' [a1, a2, a3, a4, a5] g r) (k : ev_V G d bc bs M Post g (pc + 3) lv (r.toList ++ rest)) : ev_V G d bc bs M Post g pc lv (a5 :: a4 :: a3 :: a2 :: a1 :: rest) :=
  ev_callS (ci := 0) (r := 0) (fs := []) (As := [a1, a2, a3, a4, a5]) hd hh hK rfl hl1 hl2 hr hdd hM (b := bc) (k0 := bs) (Nat.le_refl _) (Nat.le_refl _) (fun v g' h => by obtain ⟨h1, rfl⟩ := h; cases h1; exact k) (fun E g' h => by cases h.1)
theorem ev_pS6 {index d' : Nat} {M' : ev_M} {r : Option Value} {a1 a2 a3 a4 a5 a6 : Value} {rest : List Value} (hd : decode M.2.1 pc = .ok (.invokestatic index, 3)) (hh : M'.2.2.2.2 = []) (hK : ev_K M' 6) (hl1 : Cond.methodLink M.1.cls index M'.1 ∈ ev_T) (hl2 : Cond.static M'.1 ∈ ev_T) (hr : (rest.map fun v => v.category).sum ≤ 8) (hdd : d' + 1 ≤ d) (hM : ev_Cp G d' M' [a1, a2, a3, a4, a5, a6] g r) (k : ev_V G d bc bs M Post g (pc + 3) lv (r.toList ++ rest)) : ev_V G d bc bs M Post g pc lv (a6 :: a5 :: a4 :: a3 :: a2 :: a1 :: rest) :=
  ev_callS (ci := 0) (r := 0) (fs := []) (As := [a1, a2, a3, a4, a5, a6]) hd hh hK rfl hl1 hl2 hr hdd hM (b := bc) (k0 := bs) (Nat.le_refl _) (Nat.le_refl _) (fun v g' h => by obtain ⟨h1, rfl⟩ := h; cases h1; exact k) (fun E g' h => by cases h.1)
/-! THE MODEL'S WORLD: one object, its arrays; M.1 k i: what array k holds at i, or (i = 0) the number in field k; M.2: the long array -/
abbrev mo_S : Type := (Nat → Nat → Int32) × (Nat → Int64)
abbrev mo_W : Type := Nat × (Nat → Nat)
def mo_len (k : Nat) : Nat := ([0, 0, 0, 12, 12, 12, 12, 12, 12, 12, 12, 12, 12, 12, 12, 12, 12, 12, 12, 12, 12, 0, 80, 80, 0, 5, 60, 300, 0, 0, 0, 0, 0, 0, 0, 0, 10, 10, 120, 120, 3500, 3500, 0, 0, 0, 0, 0, 0, 0, 350, 12, 12, 12, 0, 0, 28800, 7200, 12, 144, 12, 96, 96, 0, 20, 20, 20, 20, 20, 20, 0, 0, 0, 0, 0, 60, 60, 60, 60] : List Nat).getD k 0
def mo_fs (W : mo_W) (M : mo_S) : List Value := (List.range 78).map fun k => if mo_len k = 0 then .int (M.1 k 0) else .ref (W.2 k)
def mo_cell (G : ev_G) (M : mo_S) (k : Nat) : va_E := if k = 27 then .inl (G.2.2.2 2, mo_len 27, .inl (M.1 27)) else if k = 56 then .inl (G.2.2.2 3, mo_len 56, .inl (M.1 56)) else if k = 52 then .inl (G.2.2.2 1, mo_len 52, .inr (.inl M.2)) else .inl (G.2.2.2 0, mo_len k, .inl (M.1 k))
def mo_R (G : ev_G) (W : mo_W) (g : ev_H) (M : mo_S) : Prop := g W.1 = some (.inr (13, mo_fs W M)) ∧ ∀ k, k < 78 → mo_len k ≠ 0 → g (W.2 k) = some (mo_cell G M k)
def mo_D (W : mo_W) : Prop := (∀ k, k < 78 → mo_len k ≠ 0 → W.2 k ≠ W.1) ∧ ∀ j k, j < 78 → k < 78 → mo_len j ≠ 0 → mo_len k ≠ 0 → W.2 j = W.2 k → j = k
def mo_in (W : mo_W) (a : Nat) : Prop := a = W.1 ∨ ∃ k, k < 78 ∧ mo_len k ≠ 0 ∧ a = W.2 k
def mo_F (W : mo_W) (g g' : ev_H) : Prop := ∀ a, ¬ mo_in W a → g' a = g a
def mo_T (G : ev_G) (W : mo_W) (g0 g : ev_H) (M : mo_S) : Prop := mo_D W ∧ mo_R G W g M ∧ mo_F W g0 g
def mo_up (M : mo_S) (k i : Nat) (v : Int32) : mo_S := (fun a b => if a = k ∧ b = i then v else M.1 a b, M.2)
def mo_upL (M : mo_S) (i : Nat) (v : Int64) : mo_S := (M.1, fun b => if b = i then v else M.2 b)

theorem mo_fs_get {W : mo_W} {M : mo_S} {j : Nat} (h : j < 78) : (mo_fs W M)[j]? = some (if mo_len j = 0 then .int (M.1 j 0) else .ref (W.2 j)) := by
  unfold mo_fs
  rw [List.getElem?_map, List.getElem?_range h]
  rfl
theorem mo_fs_len {W : mo_W} {M : mo_S} : (mo_fs W M).length = 78 := by simp [mo_fs]
theorem mo_fs_set {W : mo_W} {M : mo_S} {j : Nat} {x : Int32} (h : j < 78) (hj : mo_len j = 0) : (mo_fs W M).set j (.int x) = mo_fs W (mo_up M j 0 x) := by
  refine List.ext_getElem? fun i => ?_
  by_cases hi : i < 78
  · rw [mo_fs_get hi, List.getElem?_set]
    by_cases e : j = i
    · subst e
      simp [mo_fs_len, h, hj, mo_up]
    · rw [if_neg e, mo_fs_get hi]
      have e' : ¬ (i = j) := fun q => e q.symm
      simp [mo_up, e']
  · rw [List.getElem?_eq_none (by rw [List.length_set, mo_fs_len]; omega), List.getElem?_eq_none (by rw [mo_fs_len]; omega)]
theorem mo_fs_up {W : mo_W} {M : mo_S} {j i : Nat} {x : Int32} (hj : mo_len j ≠ 0) : mo_fs W (mo_up M j i x) = mo_fs W M := by
  unfold mo_fs
  refine List.map_congr_left fun k _ => ?_
  by_cases e : mo_len k = 0
  · have e' : ¬ (k = j ∧ (0 : Nat) = i) := fun q => hj (q.1 ▸ e)
    simp only [if_pos e, mo_up, if_neg e']
  · simp only [if_neg e]
theorem mo_cell_ne {M : mo_S} {j k i : Nat} {x : Int32} (h : k ≠ j) : mo_cell G (mo_up M j i x) k = mo_cell G M k := by
  have e : ∀ a, a ≠ j → (mo_up M j i x).1 a = M.1 a := fun a ha => funext fun b => by
    have e' : ¬ (a = j ∧ b = i) := fun q => ha q.1
    simp only [mo_up, if_neg e']
  unfold mo_cell
  split
  · rename_i h1; subst h1; rw [e 27 h]
  · split
    · rename_i h1; subst h1; rw [e 56 h]
    · split
      · rfl
      · rw [e k h]
theorem mo_up_at {M : mo_S} {j i : Nat} {x : Int32} : (mo_up M j i x).1 j = upd (M.1 j) i x := by
  funext b
  simp [mo_up, upd]
section MR
variable {W : mo_W} {g0 : ev_H} {S : mo_S}
theorem mo_T.put {j : Nat} {x : Int32} (hT : mo_T G W g0 g S) (h : j < 78) (hj : mo_len j = 0) : mo_T G W g0 (ev_up g W.1 (.inr (13, (mo_fs W S).set j (.int x)))) (mo_up S j 0 x) := by
  obtain ⟨hD, hR, hF⟩ := hT
  refine ⟨hD, ⟨?_, fun k hk hk0 => ?_⟩, fun a ha => ?_⟩
  · rw [ev_up_s, mo_fs_set h hj]
  · rw [ev_up_n _ _ (hD.1 k hk hk0), hR.2 k hk hk0, mo_cell_ne (fun e => hk0 (by rw [e]; exact hj))]
  · rw [ev_up_n _ _ (fun e => ha (Or.inl e)), hF a ha]
theorem mo_T.arr {j i : Nat} {x : Int32} {e : va_E} (hT : mo_T G W g0 g S) (h : j < 78) (hj : mo_len j ≠ 0) (he : e = mo_cell G (mo_up S j i x) j) : mo_T G W g0 (ev_up g (W.2 j) e) (mo_up S j i x) := by
  obtain ⟨hD, hR, hF⟩ := hT
  refine ⟨hD, ⟨?_, fun k hk hk0 => ?_⟩, fun a ha => ?_⟩
  · rw [ev_up_n _ _ (Ne.symm (hD.1 j h hj)), hR.1, mo_fs_up hj]
  · by_cases e1 : k = j
    · subst e1
      rw [ev_up_s, he]
    · rw [ev_up_n _ _ (fun q => e1 (hD.2 k j hk h hk0 hj q)), hR.2 k hk hk0, mo_cell_ne e1]
  · rw [ev_up_n _ _ (fun e => ha (Or.inr ⟨j, h, hj, e⟩)), hF a ha]
theorem mo_T.arrL {i : Nat} {x : Int64} {e : va_E} (hT : mo_T G W g0 g S) (he : e = mo_cell G (mo_upL S i x) 52) : mo_T G W g0 (ev_up g (W.2 52) e) (mo_upL S i x) := by
  obtain ⟨hD, hR, hF⟩ := hT
  have h : 52 < 78 := by decide
  have hj : mo_len 52 ≠ 0 := by decide
  refine ⟨hD, ⟨?_, fun k hk hk0 => ?_⟩, fun a ha => ?_⟩
  · rw [ev_up_n _ _ (Ne.symm (hD.1 52 h hj)), hR.1]; rfl
  · by_cases e1 : k = 52
    · subst e1
      rw [ev_up_s, he]
    · rw [ev_up_n _ _ (fun q => e1 (hD.2 k 52 hk h hk0 hj q)), hR.2 k hk hk0]
      unfold mo_cell
      simp only [if_neg e1]
      rfl
  · rw [ev_up_n _ _ (fun e => ha (Or.inr ⟨52, h, hj, e⟩)), hF a ha]
theorem mo_geti {index j : Nat} (hE : ev_En G) (hT : mo_T G W g0 g S) (hd : decode M.2.1 pc = .ok (.getfield index, 3)) (hF : ev_Fr M.1.cls index 13 j) (hj : j < 78 ∧ mo_len j = 0) (k : ev_V G d bc bs M Post g (pc + 3) lv (.int (S.1 j 0) :: st)) : ev_V G d bc bs M Post g pc lv (.ref W.1 :: st) :=
  ev_getf hE hd hF hT.2.1.1 (by rw [mo_fs_get hj.1, if_pos hj.2]) k
theorem mo_getiE {index j : Nat} {v : Int32} (hE : ev_En G) (hT : mo_T G W g0 g S) (hd : decode M.2.1 pc = .ok (.getfield index, 3)) (hF : ev_Fr M.1.cls index 13 j) (hj : j < 78 ∧ mo_len j = 0) (hv : S.1 j 0 = v) (k : ev_V G d bc bs M Post g (pc + 3) lv (.int v :: st)) : ev_V G d bc bs M Post g pc lv (.ref W.1 :: st) := by
  subst hv
  exact mo_geti hE hT hd hF hj k
theorem mo_geta {index j : Nat} (hE : ev_En G) (hT : mo_T G W g0 g S) (hd : decode M.2.1 pc = .ok (.getfield index, 3)) (hF : ev_Fr M.1.cls index 13 j) (hj : j < 78 ∧ mo_len j ≠ 0) (k : ev_V G d bc bs M Post g (pc + 3) lv (.ref (W.2 j) :: st)) : ev_V G d bc bs M Post g pc lv (.ref W.1 :: st) :=
  ev_getf hE hd hF hT.2.1.1 (by rw [mo_fs_get hj.1, if_neg hj.2]) k
theorem mo_put {index j : Nat} {x : Int32} (hE : ev_En G) (hT : mo_T G W g0 g S) (hd : decode M.2.1 pc = .ok (.putfield index, 3)) (hF : ev_F M.1.cls index 13 j .int false) (hj : j < 78 ∧ mo_len j = 0) (k : ∀ g', mo_T G W g0 g' (mo_up S j 0 x) → ev_V G d bc bs M Post g' (pc + 3) lv st) : ev_V G d bc bs M Post g pc lv (.int x :: .ref W.1 :: st) :=
  ev_put hE hd hF hT.2.1.1 (by rw [mo_fs_len]; exact hj.1) rfl rfl (k _ (hT.put hj.1 hj.2))
abbrev mo_isI (j : Nat) : Prop := j < 78 ∧ mo_len j ≠ 0 ∧ j ≠ 27 ∧ j ≠ 56 ∧ j ≠ 52
theorem mo_len_lt : ∀ k, k < 78 → mo_len k < 2147483648 := by decide
theorem mo_cellI {j : Nat} (hj : mo_isI j) : mo_cell G S j = .inl (G.2.2.2 0, mo_len j, .inl (S.1 j)) := by
  unfold mo_cell
  rw [if_neg hj.2.2.1, if_neg hj.2.2.2.1, if_neg hj.2.2.2.2]
theorem mo_vp {j q : Nat} {i : Int32} (h : j < 78) (hi : i = nI q) (hq : q < mo_len j) : vp_in i (mo_len j) ∧ i.toNatClampNeg = q := by
  have h2 := mo_len_lt j h
  subst hi
  exact ⟨vp_in_nI hq h2, nI_clamp (by omega)⟩
theorem mo_iald {j q : Nat} {i : Int32} (hE : ev_En G) (hT : mo_T G W g0 g S) (hd : decode M.2.1 pc = .ok (.iaload, 1)) (hj : mo_isI j) (hi : i = nI q) (hq : q < mo_len j) (k : ev_V G d bc bs M Post g (pc + 1) lv (.int (S.1 j q) :: st)) : ev_V G d bc bs M Post g pc lv (.int i :: .ref (W.2 j) :: st) := by
  obtain ⟨h1, h2⟩ := mo_vp hj.1 hi hq
  refine ev_iald hE hd (by rw [hT.2.1.2 j hj.1 hj.2.1, mo_cellI hj]) h1 ?_
  rw [h2]
  exact k
theorem mo_ialdV {j : Nat} {i : Int32} (hE : ev_En G) (hT : mo_T G W g0 g S) (hd : decode M.2.1 pc = .ok (.iaload, 1)) (hj : mo_isI j) (hi : vp_in i (mo_len j)) (k : ev_V G d bc bs M Post g (pc + 1) lv (.int (S.1 j i.toNatClampNeg) :: st)) : ev_V G d bc bs M Post g pc lv (.int i :: .ref (W.2 j) :: st) :=
  ev_iald hE hd (by rw [hT.2.1.2 j hj.1 hj.2.1, mo_cellI hj]) hi k
theorem mo_ialdQ {j q : Nat} {i v : Int32} (hE : ev_En G) (hT : mo_T G W g0 g S) (hd : decode M.2.1 pc = .ok (.iaload, 1)) (hj : mo_isI j) (hi : i = nI q) (hq : q < mo_len j) (hv : S.1 j q = v) (k : ev_V G d bc bs M Post g (pc + 1) lv (.int v :: st)) : ev_V G d bc bs M Post g pc lv (.int i :: .ref (W.2 j) :: st) := by
  obtain ⟨h1, h2⟩ := mo_vp hj.1 hi hq
  refine mo_ialdV hE hT hd hj h1 ?_
  rw [h2, hv]
  exact k
theorem mo_ialdE {j : Nat} {i v : Int32} (hE : ev_En G) (hT : mo_T G W g0 g S) (hd : decode M.2.1 pc = .ok (.iaload, 1)) (hj : mo_isI j) (hi : vp_in i (mo_len j)) (hv : S.1 j i.toNatClampNeg = v) (k : ev_V G d bc bs M Post g (pc + 1) lv (.int v :: st)) : ev_V G d bc bs M Post g pc lv (.int i :: .ref (W.2 j) :: st) := by
  subst hv
  exact mo_ialdV hE hT hd hj hi k
theorem mo_iastV {j : Nat} {i x : Int32} (hE : ev_En G) (hT : mo_T G W g0 g S) (hd : decode M.2.1 pc = .ok (.iastore, 1)) (hj : mo_isI j) (hi : vp_in i (mo_len j)) (k : ∀ g', mo_T G W g0 g' (mo_up S j i.toNatClampNeg x) → ev_V G d bc bs M Post g' (pc + 1) lv st) : ev_V G d bc bs M Post g pc lv (.int x :: .int i :: .ref (W.2 j) :: st) := by
  refine ev_iast hE hd (by rw [hT.2.1.2 j hj.1 hj.2.1, mo_cellI hj]) hi (k _ (hT.arr hj.1 hj.2.1 ?_))
  rw [mo_cellI hj, mo_up_at]
theorem mo_zaldV {i : Int32} (hE : ev_En G) (hT : mo_T G W g0 g S) (hd : decode M.2.1 pc = .ok (.baload, 1)) (hi : vp_in i 7200) (k : ev_V G d bc bs M Post g (pc + 1) lv (.int (S.1 56 i.toNatClampNeg) :: st)) : ev_V G d bc bs M Post g pc lv (.int i :: .ref (W.2 56) :: st) :=
  ev_zald hE hd (hT.2.1.2 56 (by decide) (by decide)) hi k
theorem mo_baldV {i : Int32} (hE : ev_En G) (hT : mo_T G W g0 g S) (hd : decode M.2.1 pc = .ok (.baload, 1)) (hi : vp_in i 300) (k : ev_V G d bc bs M Post g (pc + 1) lv (.int (S.1 27 i.toNatClampNeg) :: st)) : ev_V G d bc bs M Post g pc lv (.int i :: .ref (W.2 27) :: st) :=
  ev_bald hE hd (hT.2.1.2 27 (by decide) (by decide)) hi k
theorem mo_bald {q : Nat} {i : Int32} (hE : ev_En G) (hT : mo_T G W g0 g S) (hd : decode M.2.1 pc = .ok (.baload, 1)) (hi : i = nI q) (hq : q < 300) (k : ev_V G d bc bs M Post g (pc + 1) lv (.int (S.1 27 q) :: st)) : ev_V G d bc bs M Post g pc lv (.int i :: .ref (W.2 27) :: st) := by
  obtain ⟨h1, h2⟩ := mo_vp (j := 27) (by decide) hi hq
  refine ev_bald hE hd (hT.2.1.2 27 (by decide) (by decide)) h1 ?_
  rw [h2]
  exact k
theorem mo_zald {q : Nat} {i : Int32} (hE : ev_En G) (hT : mo_T G W g0 g S) (hd : decode M.2.1 pc = .ok (.baload, 1)) (hi : i = nI q) (hq : q < 7200) (k : ev_V G d bc bs M Post g (pc + 1) lv (.int (S.1 56 q) :: st)) : ev_V G d bc bs M Post g pc lv (.int i :: .ref (W.2 56) :: st) := by
  obtain ⟨h1, h2⟩ := mo_vp (j := 56) (by decide) hi hq
  refine ev_zald hE hd (hT.2.1.2 56 (by decide) (by decide)) h1 ?_
  rw [h2]
  exact k
theorem mo_lald {q : Nat} {i : Int32} (hE : ev_En G) (hT : mo_T G W g0 g S) (hd : decode M.2.1 pc = .ok (.laload, 1)) (hi : i = nI q) (hq : q < 12) (k : ev_V G d bc bs M Post g (pc + 1) lv (.long (S.2 q) :: st)) : ev_V G d bc bs M Post g pc lv (.int i :: .ref (W.2 52) :: st) := by
  obtain ⟨h1, h2⟩ := mo_vp (j := 52) (by decide) hi hq
  refine ev_lald hE hd (hT.2.1.2 52 (by decide) (by decide)) h1 ?_
  rw [h2]
  exact k
theorem mo_iast {j q : Nat} {i x : Int32} (hE : ev_En G) (hT : mo_T G W g0 g S) (hd : decode M.2.1 pc = .ok (.iastore, 1)) (hj : mo_isI j) (hi : i = nI q) (hq : q < mo_len j) (k : ∀ g', mo_T G W g0 g' (mo_up S j q x) → ev_V G d bc bs M Post g' (pc + 1) lv st) : ev_V G d bc bs M Post g pc lv (.int x :: .int i :: .ref (W.2 j) :: st) := by
  obtain ⟨h1, h2⟩ := mo_vp hj.1 hi hq
  refine ev_iast hE hd (by rw [hT.2.1.2 j hj.1 hj.2.1, mo_cellI hj]) h1 (k _ (hT.arr hj.1 hj.2.1 ?_))
  rw [h2, mo_cellI hj, mo_up_at]
theorem mo_bast {q : Nat} {i x : Int32} (hE : ev_En G) (hT : mo_T G W g0 g S) (hd : decode M.2.1 pc = .ok (.bastore, 1)) (hi : i = nI q) (hq : q < 300) (k : ∀ g', mo_T G W g0 g' (mo_up S 27 q (vp_nar .byte x)) → ev_V G d bc bs M Post g' (pc + 1) lv st) : ev_V G d bc bs M Post g pc lv (.int x :: .int i :: .ref (W.2 27) :: st) := by
  obtain ⟨h1, h2⟩ := mo_vp (j := 27) (by decide) hi hq
  refine ev_bast hE hd (hT.2.1.2 27 (by decide) (by decide)) h1 (k _ (hT.arr (by decide) (by decide) ?_))
  rw [h2]
  show _ = (Sum.inl (G.2.2.2 2, mo_len 27, .inl ((mo_up S 27 q (vp_nar .byte x)).1 27)) : va_E)
  rw [mo_up_at]
theorem mo_zast {q : Nat} {i x : Int32} (hE : ev_En G) (hT : mo_T G W g0 g S) (hd : decode M.2.1 pc = .ok (.bastore, 1)) (hi : i = nI q) (hq : q < 7200) (k : ∀ g', mo_T G W g0 g' (mo_up S 56 q (vp_nar .boolean x)) → ev_V G d bc bs M Post g' (pc + 1) lv st) : ev_V G d bc bs M Post g pc lv (.int x :: .int i :: .ref (W.2 56) :: st) := by
  obtain ⟨h1, h2⟩ := mo_vp (j := 56) (by decide) hi hq
  refine ev_zast hE hd (hT.2.1.2 56 (by decide) (by decide)) h1 (k _ (hT.arr (by decide) (by decide) ?_))
  rw [h2]
  show _ = (Sum.inl (G.2.2.2 3, mo_len 56, .inl ((mo_up S 56 q (vp_nar .boolean x)).1 56)) : va_E)
  rw [mo_up_at]
theorem mo_last {q : Nat} {i : Int32} {x : Int64} (hE : ev_En G) (hT : mo_T G W g0 g S) (hd : decode M.2.1 pc = .ok (.lastore, 1)) (hi : i = nI q) (hq : q < 12) (k : ∀ g', mo_T G W g0 g' (mo_upL S q x) → ev_V G d bc bs M Post g' (pc + 1) lv st) : ev_V G d bc bs M Post g pc lv (.long x :: .int i :: .ref (W.2 52) :: st) := by
  obtain ⟨h1, h2⟩ := mo_vp (j := 52) (by decide) hi hq
  refine ev_last hE hd (hT.2.1.2 52 (by decide) (by decide)) h1 (k _ (hT.arrL ?_))
  rw [h2]
  show _ = (Sum.inl (G.2.2.2 1, mo_len 52, .inr (.inl ((mo_upL S q x).2))) : va_E)
  rfl
/-- a method of the model: from S it answers r and leaves S2 -/
def mo_C (G : ev_G) (W : mo_W) (d : Nat) (M' : ev_M) (As : List Value) (S : mo_S) (r : Option Value) (S2 : mo_S) : Prop := ∀ g, mo_D W → mo_R G W g S → ev_C G d 0 0 M' (.ref W.1 :: As) g (fun o g' => o = .inl r ∧ mo_T G W g g' S2)
theorem mo_T.trans {g1 : ev_H} {S2 : mo_S} (h : mo_T G W g0 g S) (h2 : mo_T G W g g1 S2) : mo_T G W g0 g1 S2 := ⟨h.1, h2.2.1, fun a ha => (h2.2.2 a ha).trans (h.2.2 a ha)⟩
theorem mo_start {As : List Value} {lv0 : List (Option Value)} {S2 : mo_S} {r : Option Value} (hy : plainName M.1.cls = true) (hh : M.2.2.2.2 = []) (hn : (lg_sl (.ref W.1 :: As)).length ≤ M.2.2.1) (hlv : ev_ent (.ref W.1 :: As) M.2.2.1 = lv0)
    (k : ∀ g0 g, mo_T G W g0 g S → ev_V G d 0 0 M (fun o g' => o = .inl r ∧ mo_T G W g0 g' S2) g 0 lv0 []) : mo_C G W d M As S r S2 :=
  fun g hD hR => ev_start hy hh hn hlv (k g g ⟨hD, hR, fun _ _ => rfl⟩)

theorem mo_call0 {index d' : Nat} {M' : ev_M} {r : Option Value} {S2 : mo_S} {rest : List Value} (hE : ev_En G) (hT : mo_T G W g0 g S) (hd : decode M.2.1 pc = .ok (.invokevirtual index, 3)) (hh : M'.2.2.2.2 = []) (hc : M'.1.cls = RX12) (hK : ev_K M' 0) (hl1 : Cond.methodLink M.1.cls index M'.1 ∈ ev_T) (hl2 : Cond.instanceMethod M'.1 ∈ ev_T) (hl3 : Cond.selects M'.1.cls M'.1 M'.1 ∈ ev_T) (hr : (rest.map fun v => v.category).sum ≤ 8) (hdd : d' + 1 ≤ d) (hM : mo_C G W d' M' [] S r S2) (k : ∀ g', mo_T G W g0 g' S2 → ev_V G d bc bs M Post g' (pc + 3) lv (r.toList ++ rest)) : ev_V G d bc bs M Post g pc lv (.ref W.1 :: rest) :=
  ev_callV (As := []) hE hd hh hK rfl hl1 hl2 hl3 hT.2.1.1 (by rw [hc]; rfl) hr hdd (hM g hT.1 hT.2.1) (b := bc) (k0 := bs) (Nat.le_refl _) (Nat.le_refl _) (fun v g' h => by obtain ⟨h1, h2⟩ := h; cases h1; exact k g' (hT.trans h2)) (fun E g' h => by cases h.1)
theorem mo_call1 {index d' : Nat} {M' : ev_M} {r : Option Value} {S2 : mo_S} {a1 : Value} {rest : List Value} (hE : ev_En G) (hT : mo_T G W g0 g S) (hd : decode M.2.1 pc = .ok (.invokevirtual index, 3)) (hh : M'.2.2.2.2 = []) (hc : M'.1.cls = RX12) (hK : ev_K M' 1) (hl1 : Cond.methodLink M.1.cls index M'.1 ∈ ev_T) (hl2 : Cond.instanceMethod M'.1 ∈ ev_T) (hl3 : Cond.selects M'.1.cls M'.1 M'.1 ∈ ev_T) (hr : (rest.map fun v => v.category).sum ≤ 8) (hdd : d' + 1 ≤ d) (hM : mo_C G W d' M' [a1] S r S2) (k : ∀ g', mo_T G W g0 g' S2 → ev_V G d bc bs M Post g' (pc + 3) lv (r.toList ++ rest)) : ev_V G d bc bs M Post g pc lv (a1 :: .ref W.1 :: rest) :=
  ev_callV (As := [a1]) hE hd hh hK rfl hl1 hl2 hl3 hT.2.1.1 (by rw [hc]; rfl) hr hdd (hM g hT.1 hT.2.1) (b := bc) (k0 := bs) (Nat.le_refl _) (Nat.le_refl _) (fun v g' h => by obtain ⟨h1, h2⟩ := h; cases h1; exact k g' (hT.trans h2)) (fun E g' h => by cases h.1)
theorem mo_call2 {index d' : Nat} {M' : ev_M} {r : Option Value} {S2 : mo_S} {a1 a2 : Value} {rest : List Value} (hE : ev_En G) (hT : mo_T G W g0 g S) (hd : decode M.2.1 pc = .ok (.invokevirtual index, 3)) (hh : M'.2.2.2.2 = []) (hc : M'.1.cls = RX12) (hK : ev_K M' 2) (hl1 : Cond.methodLink M.1.cls index M'.1 ∈ ev_T) (hl2 : Cond.instanceMethod M'.1 ∈ ev_T) (hl3 : Cond.selects M'.1.cls M'.1 M'.1 ∈ ev_T) (hr : (rest.map fun v => v.category).sum ≤ 8) (hdd : d' + 1 ≤ d) (hM : mo_C G W d' M' [a1, a2] S r S2) (k : ∀ g', mo_T G W g0 g' S2 → ev_V G d bc bs M Post g' (pc + 3) lv (r.toList ++ rest)) : ev_V G d bc bs M Post g pc lv (a2 :: a1 :: .ref W.1 :: rest) :=
  ev_callV (As := [a1, a2]) hE hd hh hK rfl hl1 hl2 hl3 hT.2.1.1 (by rw [hc]; rfl) hr hdd (hM g hT.1 hT.2.1) (b := bc) (k0 := bs) (Nat.le_refl _) (Nat.le_refl _) (fun v g' h => by obtain ⟨h1, h2⟩ := h; cases h1; exact k g' (hT.trans h2)) (fun E g' h => by cases h.1)
theorem mo_call3 {index d' : Nat} {M' : ev_M} {r : Option Value} {S2 : mo_S} {a1 a2 a3 : Value} {rest : List Value} (hE : ev_En G) (hT : mo_T G W g0 g S) (hd : decode M.2.1 pc = .ok (.invokevirtual index, 3)) (hh : M'.2.2.2.2 = []) (hc : M'.1.cls = RX12) (hK : ev_K M' 3) (hl1 : Cond.methodLink M.1.cls index M'.1 ∈ ev_T) (hl2 : Cond.instanceMethod M'.1 ∈ ev_T) (hl3 : Cond.selects M'.1.cls M'.1 M'.1 ∈ ev_T) (hr : (rest.map fun v => v.category).sum ≤ 8) (hdd : d' + 1 ≤ d) (hM : mo_C G W d' M' [a1, a2, a3] S r S2) (k : ∀ g', mo_T G W g0 g' S2 → ev_V G d bc bs M Post g' (pc + 3) lv (r.toList ++ rest)) : ev_V G d bc bs M Post g pc lv (a3 :: a2 :: a1 :: .ref W.1 :: rest) :=
  ev_callV (As := [a1, a2, a3]) hE hd hh hK rfl hl1 hl2 hl3 hT.2.1.1 (by rw [hc]; rfl) hr hdd (hM g hT.1 hT.2.1) (b := bc) (k0 := bs) (Nat.le_refl _) (Nat.le_refl _) (fun v g' h => by obtain ⟨h1, h2⟩ := h; cases h1; exact k g' (hT.trans h2)) (fun E g' h => by cases h.1)
theorem mo_call4 {index d' : Nat} {M' : ev_M} {r : Option Value} {S2 : mo_S} {a1 a2 a3 a4 : Value} {rest : List Value} (hE : ev_En G) (hT : mo_T G W g0 g S) (hd : decode M.2.1 pc = .ok (.invokevirtual index, 3)) (hh : M'.2.2.2.2 = []) (hc : M'.1.cls = RX12) (hK : ev_K M' 4) (hl1 : Cond.methodLink M.1.cls index M'.1 ∈ ev_T) (hl2 : Cond.instanceMethod M'.1 ∈ ev_T) (hl3 : Cond.selects M'.1.cls M'.1 M'.1 ∈ ev_T) (hr : (rest.map fun v => v.category).sum ≤ 8) (hdd : d' + 1 ≤ d) (hM : mo_C G W d' M' [a1, a2, a3, a4] S r S2) (k : ∀ g', mo_T G W g0 g' S2 → ev_V G d bc bs M Post g' (pc + 3) lv (r.toList ++ rest)) : ev_V G d bc bs M Post g pc lv (a4 :: a3 :: a2 :: a1 :: .ref W.1 :: rest) :=
  ev_callV (As := [a1, a2, a3, a4]) hE hd hh hK rfl hl1 hl2 hl3 hT.2.1.1 (by rw [hc]; rfl) hr hdd (hM g hT.1 hT.2.1) (b := bc) (k0 := bs) (Nat.le_refl _) (Nat.le_refl _) (fun v g' h => by obtain ⟨h1, h2⟩ := h; cases h1; exact k g' (hT.trans h2)) (fun E g' h => by cases h.1)
theorem mo_call5 {index d' : Nat} {M' : ev_M} {r : Option Value} {S2 : mo_S} {a1 a2 a3 a4 a5 : Value} {rest : List Value} (hE : ev_En G) (hT : mo_T G W g0 g S) (hd : decode M.2.1 pc = .ok (.invokevirtual index, 3)) (hh : M'.2.2.2.2 = []) (hc : M'.1.cls = RX12) (hK : ev_K M' 5) (hl1 : Cond.methodLink M.1.cls index M'.1 ∈ ev_T) (hl2 : Cond.instanceMethod M'.1 ∈ ev_T) (hl3 : Cond.selects M'.1.cls M'.1 M'.1 ∈ ev_T) (hr : (rest.map fun v => v.category).sum ≤ 8) (hdd : d' + 1 ≤ d) (hM : mo_C G W d' M' [a1, a2, a3, a4, a5] S r S2) (k : ∀ g', mo_T G W g0 g' S2 → ev_V G d bc bs M Post g' (pc + 3) lv (r.toList ++ rest)) : ev_V G d bc bs M Post g pc lv (a5 :: a4 :: a3 :: a2 :: a1 :: .ref W.1 :: rest) :=
  ev_callV (As := [a1, a2, a3, a4, a5]) hE hd hh hK rfl hl1 hl2 hl3 hT.2.1.1 (by rw [hc]; rfl) hr hdd (hM g hT.1 hT.2.1) (b := bc) (k0 := bs) (Nat.le_refl _) (Nat.le_refl _) (fun v g' h => by obtain ⟨h1, h2⟩ := h; cases h1; exact k g' (hT.trans h2)) (fun E g' h => by cases h.1)
end MR
end MO
