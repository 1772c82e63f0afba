section CV
theorem od_rl_app (q : od_q) : ∀ (l : List od_q) (i : Nat) (r : od_R), od_rl i r (l ++ [q]) = od_st (od_rl i r l) (i + l.length) q
  | [], i, r => rfl
  | p :: l, i, r => by
    show od_rl (i + 1) (od_st r i p) (l ++ [q]) = od_st (od_rl (i + 1) (od_st r i p) l) (i + (l.length + 1)) q
    rw [od_rl_app q l (i + 1) (od_st r i p), show i + 1 + l.length = i + (l.length + 1) by omega]
def od_no : od_R := fun _ => none
theorem od_rl_tell {S : mo_S} {F : mo_Fn} {b : Nat} {l : List od_q} (h : cl_OL S F b l) (x : Int32) : ∀ n, n ≤ l.length → (sp_tell S b x n = none → od_rl 0 od_no (l.take n) x = none) ∧ ∀ c, sp_tell S b x n = some c → ∃ j q, c = 12 * b + j ∧ j < n ∧ l[j]? = some q ∧ q.1 = x ∧ od_rl 0 od_no (l.take n) x = some (j, q)
  | 0, _ => ⟨fun _ => rfl, fun c e => by cases e⟩
  | n + 1, hn => by
    obtain ⟨i1, i2⟩ := od_rl_tell h x n (by omega)
    have hlt : n < l.length := by omega
    have hq : l[n]? = some l[n] := List.getElem?_eq_getElem hlt
    have h38 := (h.2.2 n l[n] hq).1
    have et : l.take (n + 1) = l.take n ++ [l[n]] := (List.take_append_getElem hlt).symm
    have el : (l.take n).length = n := by rw [List.length_take]; omega
    rw [et, od_rl_app, el]
    unfold sp_tell od_st
    rw [h38]
    by_cases e : l[n].1 = x
    · rw [if_pos e, if_pos e.symm]
      exact ⟨fun z => (by cases z), fun c z => (by cases z; exact ⟨n, l[n], rfl, by omega, hq, e, by rw [Nat.zero_add]⟩)⟩
    · rw [if_neg e, if_neg (fun z => e z.symm)]
      exact ⟨i1, fun c z => by obtain ⟨j, q, a1, a2, a3⟩ := i2 c z; exact ⟨j, q, a1, by omega, a3⟩⟩
/-- what order b tells; the 10th: what holds without one -/
def od_of (OL : Nat → List od_q) (b : Nat) : od_R := if b = 10 then od_no else od_rl 0 od_no (OL b)
def od_F (y : Option (Nat × od_q)) : ps_F := match y with | none => fun v => v 0 | some (_, q) => q.2.2.2.2
def cl_Pf (OL : Nat → List od_q) : cx_Fn := fun b => od_F (od_of OL b 0)
def cl_Qf (OL : Nat → List od_q) : cx_Fn := fun b => od_F (od_of OL b 4)
theorem od_ofS {C S : mo_S} {F : mo_Fn} {OL : Nat → List od_q} (h : cl_O C S F OL) (hO : sp_O S ≤ 10) {b : Nat} (hb : b < sp_O S ∨ b = 10) : od_S C b (od_of OL b) := by
  unfold od_of
  by_cases e : b = 10
  · rw [if_pos e, e]; exact h.1
  · rw [if_neg e]; exact (h.2 b (hb.resolve_right e)).2.1
theorem sp_force_pw {C S : mo_S} {m : Int32} : ∀ n, (∀ b, b < n → C.1 36 b = S.1 36 b) → sp_force C m n = sp_force S m n
  | 0, _ => rfl
  | n + 1, h => by
    simp only [sp_force]
    rw [sp_force_pw n (fun b hb => h b (by omega)), h n (by omega)]
    split
    · rfl
    · split
      · rfl
      · rename_i b e
        rw [h b (by have := sp_force_lt e; omega)]
/-- what holds in the midst of a month too -/
def cl_Q (C S : mo_S) (F : mo_Fn) (OL : Nat → List od_q) : Prop := cl_S C S ∧ cl_O C S F OL ∧ mo_J S F ∧ S.1 53 0 = -1 ∧ S.1 54 0 = -1
theorem cl_Q.J {C S : mo_S} {F : mo_Fn} {OL : Nat → List od_q} (h : cl_Q C S F OL) : mo_J S F := h.2.2.1
theorem cl_R.q {B : Int} {C S : mo_S} {F : mo_Fn} {OL : Nat → List od_q} (h : cl_R B C S F OL) : cl_Q C S F OL := ⟨h.1, h.2.1, h.J, h.2.2.1.2.2.1.2.2.2.2.2.2⟩
section R
variable {C S : mo_S} {F : mo_Fn} {OL : Nat → List od_q}
theorem cl_Q.frc (h : cl_Q C S F OL) (m : Int32) : sp_force C m (sp_O C) = sp_force S m (sp_O S) := by
  rw [h.1.sz.2.2.1]
  exact sp_force_pw _ (fun b hb => (h.2.1.2 b hb).1)
theorem cl_Q.now (h : cl_Q C S F OL) : sp_now C = sp_now S := by
  unfold sp_now
  rw [h.frc, h.1.k 2 (by decide)]
theorem cl_Q.nb (h : cl_Q C S F OL) : cx_now C < sp_O S ∨ cx_now C = 10 := by
  unfold cx_now
  rw [h.now]
  cases e : sp_now S with
  | none => exact Or.inr rfl
  | some b => exact Or.inl (sp_now_lt e)
theorem cl_Q.nS (h : cl_Q C S F OL) : od_S C (cx_now C) (od_of OL (cx_now C)) := od_ofS h.2.1 h.J.O.2 h.nb
theorem cl_Q.tel (h : cl_Q C S F OL) (x : Int32) : (sp_teller S x = none → od_of OL (cx_now C) x = none) ∧ ∀ c, sp_teller S x = some c → ∃ j q, c = 12 * cx_now C + j ∧ j < 12 ∧ cx_now C < sp_O S ∧ (OL (cx_now C))[j]? = some q ∧ q.1 = x ∧ od_of OL (cx_now C) x = some (j, q) := by
  unfold sp_teller cx_now
  rw [h.now]
  cases e : sp_now S with
  | none => exact ⟨fun _ => rfl, fun c z => by cases z⟩
  | some b =>
    have hb := sp_now_lt e
    have hO := h.J.O.2
    have hl := (h.2.1.2 b hb).2.2
    have eo : od_of OL b = od_rl 0 od_no (OL b) := if_neg (by omega)
    have ec : sp_cN S (some b) = (OL b).length := by
      show (S.1 37 b).toNatClampNeg = _
      rw [hl.2.1, nI_clamp (by have := hl.1; omega)]
    dsimp only
    rw [ec, eo]
    obtain ⟨a1, a2⟩ := od_rl_tell hl x (OL b).length (Nat.le_refl _)
    rw [List.take_length] at a1 a2
    exact ⟨a1, fun c z => by obtain ⟨j, q, b1, b2, b3⟩ := a2 c z; exact ⟨j, q, b1, by have := hl.1; omega, hb, b3⟩⟩
theorem cl_Q.much (h : cl_Q C S F OL) {x : Int32} (hx : ¬ (x = 0 ∨ x = 4)) : sp_X12_much S x = match od_of OL (cx_now C) x with | none => sp_X12_without x | some (_, q) => q.2.1 := by
  obtain ⟨a1, a2⟩ := h.tel x
  unfold sp_X12_much
  cases e : sp_teller S x with
  | none =>
    rw [a1 e]
    exact if_neg (show ¬ (0 : Int32) ≤ -1 by decide)
  | some c =>
    obtain ⟨j, q, b1, b2, b3, b4, b5, b6⟩ := a2 c e
    have hO := h.J.O.2
    rw [b6, show sp_opt (some c) = nI c from rfl, if_pos (nI_pos' (by omega)), nI_clamp (by omega), b1]
    exact ((h.2.1.2 _ b3).2.2.2.2 j q b4).2.2.1 (by rw [b5]; exact hx)
theorem cl_Q.vl (h : cl_Q C S F OL) {x : Nat} (h5 : 5 ≤ x) (h11 : x ≤ 11) (h10 : x ≠ 10) : C.1 (98 + x) (cx_now C) = sp_X12_much S (nI x) := by
  have hx : ¬ (nI x = 0 ∨ nI x = 4) := fun q => by
    rcases q with q | q
    · have := mo_niinj (a := x) (b := 0) (by omega) (by decide) q; omega
    · have := mo_niinj (a := x) (b := 4) (by omega) (by decide) q; omega
  rw [(h.nS x (by omega)).2.2.2 h5 h11, h.much hx]
  unfold od_vl
  cases od_of OL (cx_now C) (nI x) with
  | none =>
    obtain rfl | rfl | rfl | rfl | rfl | rfl : x = 5 ∨ x = 6 ∨ x = 7 ∨ x = 8 ∨ x = 9 ∨ x = 11 := by omega
    all_goals rfl
  | some y => exact if_neg h10
theorem cl_Q.keep (h : cl_Q C S F OL) : C.1 108 (cx_now C) = 1 - sp_X12_much S 10 := by
  rw [(h.nS 10 (by omega)).2.2.2 (by omega) (by omega), h.much (by decide)]
  unfold od_vl
  rw [show nI 10 = (10 : Int32) from rfl]
  cases od_of OL (cx_now C) 10 with
  | none => rfl
  | some y => rfl
theorem cl_Q.pg (h : cl_Q C S F OL) {k : Nat} (hk : k < 3) : C.1 101 (3 * cx_now C + k) = sp_X12_much S (1 + nI k) ∧ C.1 102 (3 * cx_now C + k) = od_c (od_of OL (cx_now C) (1 + nI k)) := by
  have e : (1 : Int32) + nI k = nI (k + 1) := by rw [← nI_1, Int32.add_comm]
  have hx : ¬ ((1 : Int32) + nI k = 0 ∨ (1 : Int32) + nI k = 4) := by
    obtain rfl | rfl | rfl : k = 0 ∨ k = 1 ∨ k = 2 := by omega
    all_goals decide
  have q := (h.nS (k + 1) (by omega)).2.1 (by omega) (by omega)
  rw [h.much hx, e]
  rw [Nat.add_sub_cancel] at q
  refine ⟨q.1.trans ?_, q.2⟩
  unfold od_pg
  cases od_of OL (cx_now C) (nI (k + 1)) with
  | none =>
    obtain rfl | rfl | rfl : k = 0 ∨ k = 1 ∨ k = 2 := by omega
    all_goals rfl
  | some y => rfl
theorem od_k_at {l : List Int32} {h : Nat → Int32} (hh : ∀ j, j < l.length → h j = l.getD j 0) : ∀ j, j < l.length → l[j]? = some (h j) := fun j hj => by
  rw [hh j hj, List.getD_eq_getElem?_getD, List.getElem?_eq_getElem hj]
  rfl
theorem od_run {y : Option (Nat × od_q)} (hy : ∀ z, y = some z → (z.2.1 = 0 ∨ z.2.1 = 4) ∧ ps_okC z.2) (v : Int32 → Int32) : ps_crun v (od_k y) [] = some [od_F y v] := by
  cases y with
  | none => rfl
  | some z =>
    obtain ⟨i, q⟩ := z
    obtain ⟨h1, h2⟩ := hy _ rfl
    rcases h2 with ⟨-, L0, -, h3⟩ | ⟨h3, -⟩
    · exact h3.2.2 v [] (by decide)
    · exact absurd h1 h3
theorem od_rl_q {r : od_R} {x : Int32} {z : Nat × od_q} : ∀ (l : List od_q) (i : Nat) (r : od_R), od_rl i r l x = some z → r x = some z ∨ (z.2 ∈ l ∧ z.2.1 = x)
  | [], _, _, h => Or.inl h
  | q :: l, i, r, h => by
    rcases od_rl_q (r := r) l (i + 1) (od_st r i q) h with e | e
    · unfold od_st at e
      by_cases c : x = q.1
      · rw [if_pos c] at e
        cases e
        exact Or.inr ⟨List.mem_cons_self, c.symm⟩
      · rw [if_neg c] at e
        exact Or.inl e
    · exact Or.inr ⟨List.mem_cons_of_mem _ e.1, e.2⟩
theorem cl_Q.cd (h : cl_Q C S F OL) : cx_cd C (cl_Pf OL) (cl_Qf OL) := fun b hb => by
  rw [h.1.sz.2.2.1] at hb
  have hS := od_ofS h.2.1 h.J.O.2 hb
  have hq : ∀ x, (x = 0 ∨ x = 4) → ∀ z, od_of OL b x = some z → (z.2.1 = 0 ∨ z.2.1 = 4) ∧ ps_okC z.2 := fun x hx z e => by
    unfold od_of at e
    by_cases c : b = 10
    · rw [if_pos c] at e; cases e
    · rw [if_neg c] at e
      rcases od_rl_q (r := od_no) _ _ _ e with q | ⟨q, q2⟩
      · cases q
      · obtain ⟨n, hn⟩ := List.getElem?_of_mem q
        exact ⟨by rw [q2]; exact hx, ((h.2.1.2 b (hb.resolve_right c)).2.2.2.2 n _ hn).2.1⟩
  refine ⟨?_, fun n110 => ?_⟩
  · obtain ⟨a1, a2, a3⟩ := (hS 0 (by omega)).1 rfl
    exact ⟨_, _, od_k (od_of OL b 0), by rw [ar29, a1, nI_clamp (by omega)], a2, rfl, od_k_at a3, od_run (hq 0 (Or.inl rfl))⟩
  · obtain ⟨a1, a2, a3⟩ := (hS 4 (by omega)).2.2.1 rfl
    have hsm : (od_of OL b (nI 4)).isSome = true := by
      cases e : (od_of OL b (nI 4)).isSome with
      | true => rfl
      | false => rw [e] at a1; exact absurd a1 n110
    obtain ⟨b1, b2, b3⟩ := a3 hsm
    exact ⟨_, _, od_k (od_of OL b 4), by rw [ar30, b1, nI_clamp (by omega)], b2, rfl, od_k_at b3, od_run (hq 4 (Or.inr rfl))⟩
end R
section RR
variable {B : Int} {C S : mo_S} {F : mo_Fn} {OL : Nat → List od_q}
abbrev cl_R.frc (h : cl_R B C S F OL) (m : Int32) := h.q.frc m
abbrev cl_R.now (h : cl_R B C S F OL) := h.q.now
abbrev cl_R.nb (h : cl_R B C S F OL) := h.q.nb
abbrev cl_R.nS (h : cl_R B C S F OL) := h.q.nS
abbrev cl_R.much (h : cl_R B C S F OL) {x : Int32} (hx : ¬ (x = 0 ∨ x = 4)) := h.q.much hx
abbrev cl_R.vl (h : cl_R B C S F OL) {x : Nat} (h5 : 5 ≤ x) (h11 : x ≤ 11) (h10 : x ≠ 10) := h.q.vl h5 h11 h10
abbrev cl_R.keep (h : cl_R B C S F OL) := h.q.keep
abbrev cl_R.pg (h : cl_R B C S F OL) {k : Nat} (hk : k < 3) := h.q.pg hk
abbrev cl_R.cd (h : cl_R B C S F OL) := h.q.cd
end RR
end CV
