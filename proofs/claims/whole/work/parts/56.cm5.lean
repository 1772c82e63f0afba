section CM5
def cx_lb (f : Nat → Bool) : Nat → Int32
  | 0 => 0
  | n + 1 => cx_lb f n ||| (if f n = true then (1 : Int32) <<< (nI n &&& 31) else 0)
def cx_cnt (f : Nat → Bool) : Nat → Int32
  | 0 => 0
  | n + 1 => if f n = true then cx_cnt f n + 1 else cx_cnt f n
def cx_rj (f : Nat → Bool) : Nat → Int32
  | 0 => 0
  | n + 1 => if f n = true then cx_rj f n else cx_rj f n ||| (1 : Int32) <<< (nI n &&& 31)
theorem cx_lb_cg {f g : Nat → Bool} : ∀ n, (∀ i, i < n → f i = g i) → cx_lb f n = cx_lb g n
  | 0, _ => rfl
  | n + 1, h => by simp only [cx_lb]; rw [cx_lb_cg n (fun i hi => h i (by omega)), h n (by omega)]
theorem cx_cnt_cg {f g : Nat → Bool} : ∀ n, (∀ i, i < n → f i = g i) → cx_cnt f n = cx_cnt g n
  | 0, _ => rfl
  | n + 1, h => by simp only [cx_cnt]; rw [cx_cnt_cg n (fun i hi => h i (by omega)), h n (by omega)]
theorem cx_rj_cg {f g : Nat → Bool} : ∀ n, (∀ i, i < n → f i = g i) → cx_rj f n = cx_rj g n
  | 0, _ => rfl
  | n + 1, h => by simp only [cx_rj]; rw [cx_rj_cg n (fun i hi => h i (by omega)), h n (by omega)]
def cx_fb (a b c d e f g h : Bool) : Nat → Bool
  | 0 => a | 1 => b | 2 => c | 3 => d | 4 => e | 5 => f | 6 => g | 7 => h | _ => false
theorem cx_fb_eq (f : Nat → Bool) : ∀ i, i < 8 → f i = cx_fb (f 0) (f 1) (f 2) (f 3) (f 4) (f 5) (f 6) (f 7) i := by
  intro i hi
  match i, hi with
  | 0, _ => rfl
  | 1, _ => rfl
  | 2, _ => rfl
  | 3, _ => rfl
  | 4, _ => rfl
  | 5, _ => rfl
  | 6, _ => rfl
  | 7, _ => rfl
  | n + 8, h => exact absurd h (by omega)
theorem cx_bits_all : ∀ a b c d e f g h : Bool, ∀ K, K < 9 → (sp_bits (cx_lb (cx_fb a b c d e f g h) K) 8 = cx_cnt (cx_fb a b c d e f g h) K ∧ ((((1 : Int32) <<< (nI K &&& 31)) - 1) &&& (cx_lb (cx_fb a b c d e f g h) K ^^^ -1)) = cx_rj (cx_fb a b c d e f g h) K ∧ ¬ cx_lb (cx_fb a b c d e f g h) K < 0) ∧ ∀ n, n < K → (((cx_lb (cx_fb a b c d e f g h) K >>> (nI n &&& 31)) &&& 1 = 1) = (cx_fb a b c d e f g h n = true)) := by
  intro a b c d e f g h K hK
  refine ⟨?_, fun n hn => propext ?_⟩
  · revert a b c d e f g h K
    decide +kernel
  · have q : ∀ a b c d e f g h : Bool, ∀ K, K < 9 → ∀ n, n < K → ((((cx_lb (cx_fb a b c d e f g h) K >>> (nI n &&& 31)) &&& 1 = 1)) ↔ (cx_fb a b c d e f g h n = true)) := by decide +kernel
    exact q a b c d e f g h K hK n hn
theorem cx_bits (f : Nat → Bool) {K : Nat} (hK : K ≤ 8) : (sp_bits (cx_lb f K) 8 = cx_cnt f K ∧ ((((1 : Int32) <<< (nI K &&& 31)) - 1) &&& (cx_lb f K ^^^ -1)) = cx_rj f K ∧ ¬ cx_lb f K < 0) ∧ ∀ n, n < K → (((cx_lb f K >>> (nI n &&& 31)) &&& 1 = 1) = (f n = true)) := by
  have e := cx_fb_eq f
  have q := cx_bits_all (f 0) (f 1) (f 2) (f 3) (f 4) (f 5) (f 6) (f 7) K (by omega)
  rw [cx_lb_cg K (fun i hi => e i (by omega)), cx_cnt_cg K (fun i hi => e i (by omega)), cx_rj_cg K (fun i hi => e i (by omega))]
  exact ⟨q.1, fun n hn => by rw [q.2 n hn, ← e n (by omega)]⟩
theorem cx_cnt_pos {f : Nat → Bool} {K n : Nat} (hK : K ≤ 8) (hn : n < K) (h : f n = true) : 0 < cx_cnt f K := by
  have q : ∀ a b c d e f g h : Bool, ∀ K, K < 9 → ∀ n, n < K → cx_fb a b c d e f g h n = true → 0 < cx_cnt (cx_fb a b c d e f g h) K := by decide +kernel
  have e := cx_fb_eq f
  rw [cx_cnt_cg K (fun i hi => e i (by omega))]
  exact q _ _ _ _ _ _ _ _ K (by omega) n hn (by rw [← e n (by omega)]; exact h)
/-- source i of p bears v -/
def cx_sb (C : mo_S) (p : Nat) (v : Int32) (i : Nat) : Bool := sp_in v (C.1 60 (8 * p + i)) (C.1 61 (8 * p + i))
theorem cx_lies (C : mo_S) (p : Nat) (v : Int32) : ∀ n, sp_lies C p v n = cx_lb (cx_sb C p v) n
  | 0 => rfl
  | n + 1 => by simp only [sp_lies, cx_lb, cx_lies C p v n]; rfl
def cx_mb (C : mo_S) (p K : Nat) : Nat → Int32 × Int32
  | 0 => (0, 0)
  | n + 1 => if (cx_mb C p K n).2 < cx_cnt (cx_sb C p (C.1 60 (8 * p + n))) K then (C.1 60 (8 * p + n), cx_cnt (cx_sb C p (C.1 60 (8 * p + n))) K)
    else if cx_cnt (cx_sb C p (C.1 60 (8 * p + n))) K = (cx_mb C p K n).2 then (if (cx_mb C p K n).1 ≤ C.1 60 (8 * p + n) then cx_mb C p K n else (C.1 60 (8 * p + n), cx_cnt (cx_sb C p (C.1 60 (8 * p + n))) K)) else cx_mb C p K n
def cx_la (C : mo_S) (p : Nat) (v : Int32) : Nat → Int32
  | 0 => 100000
  | n + 1 => if cx_sb C p v n = true then cj_min (cx_la C p v n) (C.1 61 (8 * p + n)) else cx_la C p v n
theorem cx_mb_eq {C : mo_S} {p K : Nat} (hK : K ≤ 8) (hs : ∀ j, j < K → C.1 60 (8 * p + j) ≤ C.1 61 (8 * p + j)) : ∀ n, n < K → cx_mb C p K (n + 1) = ((sp_brn C p K (n + 1)).2, sp_bits (sp_brn C p K (n + 1)).1 8) ∧ ¬ (sp_brn C p K (n + 1)).1 < 0 := by
  have hb : ∀ v, sp_bits (sp_lies C p v K) 8 = cx_cnt (cx_sb C p v) K := fun v => by rw [cx_lies]; exact (cx_bits _ hK).1.1
  have h0 : ∀ v, ¬ sp_lies C p v K < 0 := fun v => by rw [cx_lies]; exact (cx_bits _ hK).1.2.2
  intro n
  induction n with
  | zero =>
    intro h
    have hp : 0 < cx_cnt (cx_sb C p (C.1 60 (8 * p + 0))) K := cx_cnt_pos hK h (by
      have := hs 0 h
      show decide _ = true
      exact decide_eq_true ⟨Int32.le_refl _, this⟩)
    have e1 : cx_mb C p K 1 = (C.1 60 (8 * p + 0), cx_cnt (cx_sb C p (C.1 60 (8 * p + 0))) K) := by
      show (if (0 : Int32) < _ then _ else _) = _
      rw [if_pos hp]
    have e2 : sp_brn C p K 1 = (sp_lies C p (C.1 60 (8 * p + 0)) K, C.1 60 (8 * p + 0)) := by
      show (if (-1 : Int32) < 0 then _ else _) = _
      rw [if_pos (by decide)]
    rw [e1, e2]
    exact ⟨by rw [hb], h0 _⟩
  | succ n ih =>
    intro h
    obtain ⟨i1, i2⟩ := ih (by omega)
    have e1 : cx_mb C p K (n + 1 + 1) = if (cx_mb C p K (n + 1)).2 < cx_cnt (cx_sb C p (C.1 60 (8 * p + (n + 1)))) K then (C.1 60 (8 * p + (n + 1)), cx_cnt (cx_sb C p (C.1 60 (8 * p + (n + 1)))) K)
    else if cx_cnt (cx_sb C p (C.1 60 (8 * p + (n + 1)))) K = (cx_mb C p K (n + 1)).2 then (if (cx_mb C p K (n + 1)).1 ≤ C.1 60 (8 * p + (n + 1)) then cx_mb C p K (n + 1) else (C.1 60 (8 * p + (n + 1)), cx_cnt (cx_sb C p (C.1 60 (8 * p + (n + 1)))) K)) else cx_mb C p K (n + 1) := rfl
    have e2 : sp_brn C p K (n + 1 + 1) = if (sp_brn C p K (n + 1)).1 < 0 then (sp_lies C p (C.1 60 (8 * p + (n + 1))) K, C.1 60 (8 * p + (n + 1)))
    else if sp_bits (sp_lies C p (C.1 60 (8 * p + (n + 1))) K) 8 < sp_bits (sp_brn C p K (n + 1)).1 8 then sp_brn C p K (n + 1)
    else if sp_bits (sp_lies C p (C.1 60 (8 * p + (n + 1))) K) 8 = sp_bits (sp_brn C p K (n + 1)).1 8 then (if C.1 60 (8 * p + (n + 1)) < (sp_brn C p K (n + 1)).2 then (sp_lies C p (C.1 60 (8 * p + (n + 1))) K, C.1 60 (8 * p + (n + 1))) else sp_brn C p K (n + 1))
    else (sp_lies C p (C.1 60 (8 * p + (n + 1))) K, C.1 60 (8 * p + (n + 1))) := rfl
    rw [if_neg i2] at e2
    rw [i1] at e1
    rw [hb] at e2
    generalize C.1 60 (8 * p + (n + 1)) = fr at e1 e2
    generalize hc : cx_cnt (cx_sb C p fr) K = cn at e1 e2
    generalize hbr : sp_brn C p K (n + 1) = br at e1 e2 i2
    have g1 : sp_bits (sp_lies C p fr K) 8 = cn := by rw [hb]; exact hc
    by_cases q1 : sp_bits br.1 8 < cn
    · rw [if_pos q1] at e1
      rw [if_neg (fun q => Int32.lt_irrefl (Int32.lt_trans q1 q)), if_neg (fun q => by rw [q] at q1; exact Int32.lt_irrefl q1)] at e2
      rw [e1, e2]
      exact ⟨by rw [g1], h0 _⟩
    · rw [if_neg q1] at e1
      by_cases q2 : cn = sp_bits br.1 8
      · rw [if_pos q2] at e1
        rw [if_neg (fun q => by rw [q2] at q; exact Int32.lt_irrefl q), if_pos q2] at e2
        by_cases q3 : fr < br.2
        · rw [if_neg (Int32.not_le.mpr q3)] at e1
          rw [if_pos q3] at e2
          rw [e1, e2]
          exact ⟨by rw [g1], h0 _⟩
        · rw [if_pos (Int32.not_lt.mp q3)] at e1
          rw [if_neg q3] at e2
          rw [e1, e2]
          exact ⟨rfl, i2⟩
      · rw [if_neg q2] at e1
        have q4 : cn < sp_bits br.1 8 := by
          rcases Int32.lt_or_eq_of_le (Int32.not_lt.mp q1) with q | q
          · exact q
          · exact absurd q q2
        rw [if_pos q4] at e2
        rw [e1, e2]
        exact ⟨rfl, i2⟩
theorem cx_la_eq {C : mo_S} {p K : Nat} {v : Int32} (hK : K ≤ 8) : ∀ n, n ≤ K → cx_la C p v n = sp_brt C p (sp_lies C p v K) n
  | 0, _ => rfl
  | n + 1, h => by
    have q := (cx_bits (cx_sb C p v) hK).2 n (by omega)
    simp only [cx_la, sp_brt, cx_lies]
    rw [cx_la_eq hK n (by omega), cx_lies]
    simp only [q]
    by_cases hb : cx_sb C p v n = true
    · rw [if_pos hb, if_pos hb, ← cj_mm]
      unfold sp_least
      by_cases hc : sp_brt C p (cx_lb (cx_sb C p v) K) n < C.1 61 (8 * p + n)
      · rw [if_pos hc, if_neg (Int32.not_le.mpr hc)]
      · rw [if_neg hc, if_pos (Int32.not_lt.mp hc)]
    · rw [if_neg hb, if_neg hb]
def cx_X9_bears (C : mo_S) (p : Nat) (i : Nat) (x1 : Int32) : Bool :=
  (if x1 < (C.1 60 (8 * p + i)) then false else (if (C.1 61 (8 * p + i)) < x1 then false else true))
theorem c_X9_bears {G : ev_G} {W : cw_W} {d : Nat} {C : mo_S} {p : Nat} {i : Nat} {x1 : Int32} (hE : ev_En G) (hp : p < sp_P C) (hi : i < 8) : cw_C G W d mX9_bears [.ref (W 24 p), .int (nI i), .int x1] C (some (.int (mo_b (cx_X9_bears C p i x1)))) C := by
  refine cw_start (lv0 := [some (.ref (W 24 p)), some (.int (nI i)), some (.int x1)]) (by decide +kernel) rfl (Nat.le_of_ble_eq_true rfl) rfl ?_
  intro K g0 g hT
  refine ev_iload_n dX9_bears_0 rfl rfl ?_
  have K_35 : ∀ (g : ev_H) (hT : cw_T G K g0 W g C), ∀ x9 : Int32, x9 = (mo_b (if x1 < (C.1 60 (8 * p + i)) then false else (if (C.1 61 (8 * p + i)) < x1 then false else true))) → ev_V G d 0 0 mX9_bears (fun o g' => o = .inl (some (.int (mo_b (cx_X9_bears C p i x1)))) ∧ cw_T G K g0 W g' C) g 35 [some (.ref (W 24 p)), some (.int (nI i)), some (.int x1)] (.int x9 :: []) := by
    intro g hT x9 h9
    subst h9
    have e9 : cx_X9_bears C p i x1 = (if x1 < (C.1 60 (8 * p + i)) then false else (if (C.1 61 (8 * p + i)) < x1 then false else true)) := by unfold cx_X9_bears; rfl
    exact ev_iret dX9_bears_35 rfl (by first | exact mo_b_nar _ | rfl) ⟨by rw [e9], hT⟩
  refine ev_if_lt (tgt := 34) dX9_bears_1 (by decide) (fun c_1 => ?_) (fun c_1 => ?_)
  · exact absurd c_1 (nI_pos (by omega))
  · refine ev_iload_n dX9_bears_4 rfl rfl ?_
    refine ev_bipush (v := 8) dX9_bears_5 (by decide) ?_
    refine ev_icmp_ge (tgt := 34) dX9_bears_7 (by decide) (fun c_7 => ?_) (fun c_7 => ?_)
    · exact absurd c_7 (nI_ge (b := 8) (by omega) (by decide))
    · refine ev_aload_n dX9_bears_10 rfl rfl ?_
      refine cw_getf hE hT dX9_bears_11 fX9_11 (k := 24) (i := p) hp ob24 rfl ?_
      refine ev_iload_n dX9_bears_14 rfl rfl ?_
      refine cw_ial (q := i) (v := (C.1 60 (8 * p + i))) hE hT dX9_bears_15 (k := 25) (i := p) hp ar25 rfl hi (by decide) rfl ?_
      refine ev_iload_n dX9_bears_16 rfl rfl ?_
      refine ev_icmp_gt (tgt := 34) dX9_bears_17 (by decide) (fun c_17 => ?_) (fun c_17 => ?_)
      · refine ev_iconst (v := 0) dX9_bears_34 (by decide) ?_
        exact K_35 g hT _ (by rw [if_pos c_17]; rfl)
      · refine ev_iload_n dX9_bears_20 rfl rfl ?_
        refine ev_aload_n dX9_bears_21 rfl rfl ?_
        refine cw_getf hE hT dX9_bears_22 fX9_15 (k := 24) (i := p) hp ob24 rfl ?_
        refine ev_iload_n dX9_bears_25 rfl rfl ?_
        refine cw_ial (q := i) (v := (C.1 61 (8 * p + i))) hE hT dX9_bears_26 (k := 26) (i := p) hp ar26 rfl hi (by decide) rfl ?_
        refine ev_icmp_gt (tgt := 34) dX9_bears_27 (by decide) (fun c_27 => ?_) (fun c_27 => ?_)
        · refine ev_iconst (v := 0) dX9_bears_34 (by decide) ?_
          exact K_35 g hT _ (by rw [if_neg c_17, if_pos c_27]; rfl)
        · refine ev_iconst (v := 1) dX9_bears_30 (by decide) ?_
          refine ev_goto (tgt := 35) dX9_bears_31 (by decide) ?_
          exact K_35 g hT _ (by rw [if_neg c_17, if_neg c_27]; rfl)
theorem cx_bears_eq (C : mo_S) (p i : Nat) (v : Int32) : cx_X9_bears C p i v = cx_sb C p v i := by
  unfold cx_X9_bears cx_sb sp_in
  by_cases h1 : C.1 60 (8 * p + i) ≤ v
  · by_cases h2 : v ≤ C.1 61 (8 * p + i)
    · simp [h1, h2, Int32.not_lt.mpr h1, Int32.not_lt.mpr h2]
    · simp [h1, h2, Int32.not_lt.mpr h1, Int32.not_le.mp h2]
  · simp [h1, Int32.not_le.mp h1]
theorem c_X9_bears2 {G : ev_G} {W : cw_W} {d : Nat} {C : mo_S} {p i : Nat} {x1 : Int32} (hE : ev_En G) (hp : p < sp_P C) (hi : i < 8) : cw_C G W d mX9_bears [.ref (W 24 p), .int (nI i), .int x1] C (some (.int (mo_b (cx_sb C p x1 i)))) C := by
  rw [← cx_bears_eq]
  exact c_X9_bears hE hp hi
theorem mo_b0 {b : Bool} (h : mo_b b = 0) : ¬ b = true := by cases b <;> first | (exact absurd h (by decide)) | decide
theorem mo_b1 {b : Bool} (h : ¬ mo_b b = 0) : b = true := by cases b <;> first | rfl | (exact absurd rfl h)
theorem c_X9_bearers {G : ev_G} {W : cw_W} {d : Nat} {C : mo_S} {p : Nat} {x1 : Int32} (hE : ev_En G) (hd : 1 ≤ d) (hp : p < sp_P C) (hK : C.1 59 p = nI (sp_K C p)) (hK2 : sp_K C p ≤ 8) : cw_C G W d mX9_bearers [.ref (W 24 p), .int x1] C (some (.int (cx_cnt (cx_sb C p x1) (sp_K C p)))) C := by
  refine cw_start (lv0 := [some (.ref (W 24 p)), some (.int x1), none, none]) (by decide +kernel) rfl (Nat.le_of_ble_eq_true rfl) rfl ?_
  intro K g0 g hT
  refine ev_iconst (v := 0) dX9_bearers_0 (by decide) ?_
  refine ev_istore_n dX9_bearers_1 rfl (Nat.le_of_ble_eq_true rfl) rfl ?_
  refine ev_iconst (v := 0) dX9_bearers_2 (by decide) ?_
  refine ev_istore_n dX9_bearers_3 rfl (Nat.le_of_ble_eq_true rfl) rfl ?_
  have loop : ∀ (n i : Nat), i ≤ (sp_K C p) → (sp_K C p) < i + n → ∀ (x : Int32), x = cx_cnt (cx_sb C p x1) i → ∀ g, cw_T G K g0 W g C → ev_V G d 0 0 mX9_bearers (fun o g' => o = .inl (some (.int (cx_cnt (cx_sb C p x1) (sp_K C p)))) ∧ cw_T G K g0 W g' C) g 4 [some (.ref (W 24 p)), some (.int x1), some (.int x), some (.int (nI i))] [] := by
    intro n
    induction n with
    | zero => intro i h1 h2; exact absurd h2 (by omega)
    | succ n ih =>
      intro i h1 h2 x hx g hT
      refine ev_iload_n dX9_bearers_4 rfl rfl ?_
      refine ev_aload_n dX9_bearers_5 rfl rfl ?_
      refine cw_getf hE hT dX9_bearers_6 fX9_18 (k := 24) (i := p) hp ob24 rfl ?_
      refine ev_icmp_ge (tgt := 30) dX9_bearers_9 (by decide) (fun c_9 => ?_) (fun c_9 => ?_)
      · have e : i = sp_K C p := by have := mo_ige hK (by omega) (by omega) c_9; omega
        subst hx
        rw [e]
        refine ev_iload_n dX9_bearers_30 rfl rfl ?_
        exact ev_iret dX9_bearers_31 rfl rfl ⟨rfl, hT⟩
      · have hi9 : i < sp_K C p := mo_ilt hK (by omega) (by omega) c_9
        have hi8 : i < 8 := by omega
        refine ev_aload_n dX9_bearers_12 rfl rfl ?_
        refine ev_iload_n dX9_bearers_13 rfl rfl ?_
        refine ev_iload_n dX9_bearers_14 rfl rfl ?_
        refine cw_call2 (d' := d - 1) hE hT dX9_bearers_15 rfl kX9_bears lX9_36 iX9_bears vX9_bears (k := 24) (i := p) hp ob24 rfl (Nat.le_of_ble_eq_true rfl) (by omega) (c_X9_bears2 hE hp hi8) (fun g hT => ?_)
        refine ev_if_eq (tgt := 24) dX9_bearers_18 (by decide) (fun c_18 => ?_) (fun c_18 => ?_)
        · refine ev_iinc (v := (nI (i + 1))) dX9_bearers_24 rfl (nI_1 i) rfl ?_
          refine ev_goto (tgt := 4) dX9_bearers_27 (by decide) ?_
          first
            | exact ih (i + 1) (by omega) (by omega) _ (by subst hx; simp only [cx_cnt]; rw [if_pos (mo_b1 c_18)]; try rfl) g hT
            | exact ih (i + 1) (by omega) (by omega) _ (by subst hx; simp only [cx_cnt]; rw [if_neg (mo_b0 c_18)]; try rfl) g hT
        · refine ev_iinc (v := (x + Int32.ofInt 1)) dX9_bearers_21 rfl rfl rfl ?_
          refine ev_iinc (v := (nI (i + 1))) dX9_bearers_24 rfl (nI_1 i) rfl ?_
          refine ev_goto (tgt := 4) dX9_bearers_27 (by decide) ?_
          first
            | exact ih (i + 1) (by omega) (by omega) _ (by subst hx; simp only [cx_cnt]; rw [if_pos (mo_b1 c_18)]; try rfl) g hT
            | exact ih (i + 1) (by omega) (by omega) _ (by subst hx; simp only [cx_cnt]; rw [if_neg (mo_b0 c_18)]; try rfl) g hT
  exact loop ((sp_K C p) + 1) 0 (by omega) (by omega) 0 rfl g hT
theorem c_X9_lastAlike {G : ev_G} {W : cw_W} {d : Nat} {C : mo_S} {p : Nat} {x1 : Int32} (hE : ev_En G) (hd : 1 ≤ d) (hp : p < sp_P C) (hK : C.1 59 p = nI (sp_K C p)) (hK2 : sp_K C p ≤ 8) : cw_C G W d mX9_lastAlike [.ref (W 24 p), .int x1] C (some (.int (cx_la C p x1 (sp_K C p)))) C := by
  refine cw_start (lv0 := [some (.ref (W 24 p)), some (.int x1), none, none]) (by decide +kernel) rfl (Nat.le_of_ble_eq_true rfl) rfl ?_
  intro K g0 g hT
  refine ev_ldc dX9_lastAlike_0 nX9_40 ?_
  refine ev_istore_n dX9_lastAlike_2 rfl (Nat.le_of_ble_eq_true rfl) rfl ?_
  refine ev_iconst (v := 0) dX9_lastAlike_3 (by decide) ?_
  refine ev_istore_n dX9_lastAlike_4 rfl (Nat.le_of_ble_eq_true rfl) rfl ?_
  have loop : ∀ (n i : Nat), i ≤ (sp_K C p) → (sp_K C p) < i + n → ∀ (x : Int32), x = cx_la C p x1 i → ∀ g, cw_T G K g0 W g C → ev_V G d 0 0 mX9_lastAlike (fun o g' => o = .inl (some (.int (cx_la C p x1 (sp_K C p)))) ∧ cw_T G K g0 W g' C) g 5 [some (.ref (W 24 p)), some (.int x1), some (.int x), some (.int (nI i))] [] := by
    intro n
    induction n with
    | zero => intro i h1 h2; exact absurd h2 (by omega)
    | succ n ih =>
      intro i h1 h2 x hx g hT
      refine ev_iload_n dX9_lastAlike_5 rfl rfl ?_
      refine ev_aload_n dX9_lastAlike_6 rfl rfl ?_
      refine cw_getf hE hT dX9_lastAlike_7 fX9_18 (k := 24) (i := p) hp ob24 rfl ?_
      refine ev_icmp_ge (tgt := 45) dX9_lastAlike_10 (by decide) (fun c_10 => ?_) (fun c_10 => ?_)
      · have e : i = sp_K C p := by
          first
            | (have := mo_ige hK (by omega) (by omega) c_10; omega)
            | (have := mo_ige (R := 8) rfl (by omega) (by omega) c_16; omega)
        subst hx
        rw [e]
        refine ev_iload_n dX9_lastAlike_45 rfl rfl ?_
        exact ev_iret dX9_lastAlike_46 rfl rfl ⟨rfl, hT⟩
      · have hi9 : i < sp_K C p := mo_ilt hK (by omega) (by omega) c_10
        refine ev_iload_n dX9_lastAlike_13 rfl rfl ?_
        refine ev_bipush (v := 8) dX9_lastAlike_14 (by decide) ?_
        refine ev_icmp_ge (tgt := 45) dX9_lastAlike_16 (by decide) (fun c_16 => ?_) (fun c_16 => ?_)
        · have e : i = sp_K C p := by
            first
              | (have := mo_ige hK (by omega) (by omega) c_10; omega)
              | (have := mo_ige (R := 8) rfl (by omega) (by omega) c_16; omega)
          subst hx
          rw [e]
          refine ev_iload_n dX9_lastAlike_45 rfl rfl ?_
          exact ev_iret dX9_lastAlike_46 rfl rfl ⟨rfl, hT⟩
        · have hi8 : i < 8 := by omega
          refine ev_aload_n dX9_lastAlike_19 rfl rfl ?_
          refine ev_iload_n dX9_lastAlike_20 rfl rfl ?_
          refine ev_iload_n dX9_lastAlike_21 rfl rfl ?_
          refine cw_call2 (d' := d - 1) hE hT dX9_lastAlike_22 rfl kX9_bears lX9_36 iX9_bears vX9_bears (k := 24) (i := p) hp ob24 rfl (Nat.le_of_ble_eq_true rfl) (by omega) (c_X9_bears2 hE hp hi8) (fun g hT => ?_)
          refine ev_if_eq (tgt := 39) dX9_lastAlike_25 (by decide) (fun c_25 => ?_) (fun c_25 => ?_)
          · refine ev_iinc (v := (nI (i + 1))) dX9_lastAlike_39 rfl (nI_1 i) rfl ?_
            refine ev_goto (tgt := 5) dX9_lastAlike_42 (by decide) ?_
            first
              | exact ih (i + 1) (by omega) (by omega) _ (by subst hx; simp only [cx_la]; rw [if_pos (mo_b1 c_25)]; try rfl) g hT
              | exact ih (i + 1) (by omega) (by omega) _ (by subst hx; simp only [cx_la]; rw [if_neg (mo_b0 c_25)]; try rfl) g hT
          · refine ev_iload_n dX9_lastAlike_28 rfl rfl ?_
            refine ev_aload_n dX9_lastAlike_29 rfl rfl ?_
            refine cw_getf hE hT dX9_lastAlike_30 fX9_15 (k := 24) (i := p) hp ob24 rfl ?_
            refine ev_iload_n dX9_lastAlike_33 rfl rfl ?_
            refine cw_ial (q := i) (v := (C.1 61 (8 * p + i))) hE hT dX9_lastAlike_34 (k := 26) (i := p) hp ar26 rfl hi8 (by decide) rfl ?_
            refine ev_mmin dX9_lastAlike_35 lX9_41 (Nat.le_of_ble_eq_true rfl) (by omega) ?_
            refine ev_istore_n dX9_lastAlike_38 rfl (Nat.le_of_ble_eq_true rfl) rfl ?_
            refine ev_iinc (v := (nI (i + 1))) dX9_lastAlike_39 rfl (nI_1 i) rfl ?_
            refine ev_goto (tgt := 5) dX9_lastAlike_42 (by decide) ?_
            first
              | exact ih (i + 1) (by omega) (by omega) _ (by subst hx; simp only [cx_la]; rw [if_pos (mo_b1 c_25)]; try rfl) g hT
              | exact ih (i + 1) (by omega) (by omega) _ (by subst hx; simp only [cx_la]; rw [if_neg (mo_b0 c_25)]; try rfl) g hT
  exact loop ((sp_K C p) + 1) 0 (by omega) (by omega) _ rfl g hT
theorem c_X9_rejected {G : ev_G} {W : cw_W} {d : Nat} {C : mo_S} {p : Nat} {x1 : Int32} (hE : ev_En G) (hd : 1 ≤ d) (hp : p < sp_P C) (hK : C.1 59 p = nI (sp_K C p)) (hK2 : sp_K C p ≤ 8) : cw_C G W d mX9_rejected [.ref (W 24 p), .int x1] C (some (.int (cx_rj (cx_sb C p x1) (sp_K C p)))) C := by
  refine cw_start (lv0 := [some (.ref (W 24 p)), some (.int x1), none, none]) (by decide +kernel) rfl (Nat.le_of_ble_eq_true rfl) rfl ?_
  intro K g0 g hT
  refine ev_iconst (v := 0) dX9_rejected_0 (by decide) ?_
  refine ev_istore_n dX9_rejected_1 rfl (Nat.le_of_ble_eq_true rfl) rfl ?_
  refine ev_iconst (v := 0) dX9_rejected_2 (by decide) ?_
  refine ev_istore_n dX9_rejected_3 rfl (Nat.le_of_ble_eq_true rfl) rfl ?_
  have loop : ∀ (n i : Nat), i ≤ (sp_K C p) → (sp_K C p) < i + n → ∀ (x : Int32), x = cx_rj (cx_sb C p x1) i → ∀ g, cw_T G K g0 W g C → ev_V G d 0 0 mX9_rejected (fun o g' => o = .inl (some (.int (cx_rj (cx_sb C p x1) (sp_K C p)))) ∧ cw_T G K g0 W g' C) g 4 [some (.ref (W 24 p)), some (.int x1), some (.int x), some (.int (nI i))] [] := by
    intro n
    induction n with
    | zero => intro i h1 h2; exact absurd h2 (by omega)
    | succ n ih =>
      intro i h1 h2 x hx g hT
      refine ev_iload_n dX9_rejected_4 rfl rfl ?_
      refine ev_aload_n dX9_rejected_5 rfl rfl ?_
      refine cw_getf hE hT dX9_rejected_6 fX9_18 (k := 24) (i := p) hp ob24 rfl ?_
      refine ev_icmp_ge (tgt := 39) dX9_rejected_9 (by decide) (fun c_9 => ?_) (fun c_9 => ?_)
      · have e : i = sp_K C p := by
          first
            | (have := mo_ige hK (by omega) (by omega) c_9; omega)
            | (have := mo_ige (R := 8) rfl (by omega) (by omega) c_15; omega)
        subst hx
        rw [e]
        refine ev_iload_n dX9_rejected_39 rfl rfl ?_
        exact ev_iret dX9_rejected_40 rfl rfl ⟨rfl, hT⟩
      · have hi9 : i < sp_K C p := mo_ilt hK (by omega) (by omega) c_9
        refine ev_iload_n dX9_rejected_12 rfl rfl ?_
        refine ev_bipush (v := 8) dX9_rejected_13 (by decide) ?_
        refine ev_icmp_ge (tgt := 39) dX9_rejected_15 (by decide) (fun c_15 => ?_) (fun c_15 => ?_)
        · have e : i = sp_K C p := by
            first
              | (have := mo_ige hK (by omega) (by omega) c_9; omega)
              | (have := mo_ige (R := 8) rfl (by omega) (by omega) c_15; omega)
          subst hx
          rw [e]
          refine ev_iload_n dX9_rejected_39 rfl rfl ?_
          exact ev_iret dX9_rejected_40 rfl rfl ⟨rfl, hT⟩
        · have hi8 : i < 8 := by omega
          refine ev_aload_n dX9_rejected_18 rfl rfl ?_
          refine ev_iload_n dX9_rejected_19 rfl rfl ?_
          refine ev_iload_n dX9_rejected_20 rfl rfl ?_
          refine cw_call2 (d' := d - 1) hE hT dX9_rejected_21 rfl kX9_bears lX9_36 iX9_bears vX9_bears (k := 24) (i := p) hp ob24 rfl (Nat.le_of_ble_eq_true rfl) (by omega) (c_X9_bears2 hE hp hi8) (fun g hT => ?_)
          refine ev_if_ne (tgt := 33) dX9_rejected_24 (by decide) (fun c_24 => ?_) (fun c_24 => ?_)
          · refine ev_iinc (v := (nI (i + 1))) dX9_rejected_33 rfl (nI_1 i) rfl ?_
            refine ev_goto (tgt := 4) dX9_rejected_36 (by decide) ?_
            first
              | exact ih (i + 1) (by omega) (by omega) _ (by subst hx; simp only [cx_rj]; rw [if_neg (mo_b0 c_24)]; try rfl) g hT
              | exact ih (i + 1) (by omega) (by omega) _ (by subst hx; simp only [cx_rj]; rw [if_pos (mo_b1 c_24)]; try rfl) g hT
          · refine ev_iload_n dX9_rejected_27 rfl rfl ?_
            refine ev_iconst (v := 1) dX9_rejected_28 (by decide) ?_
            refine ev_iload_n dX9_rejected_29 rfl rfl ?_
            refine ev_ishl dX9_rejected_30 ?_
            refine ev_ior dX9_rejected_31 ?_
            refine ev_istore_n dX9_rejected_32 rfl (Nat.le_of_ble_eq_true rfl) rfl ?_
            refine ev_iinc (v := (nI (i + 1))) dX9_rejected_33 rfl (nI_1 i) rfl ?_
            refine ev_goto (tgt := 4) dX9_rejected_36 (by decide) ?_
            first
              | exact ih (i + 1) (by omega) (by omega) _ (by subst hx; simp only [cx_rj]; rw [if_neg (mo_b0 c_24)]; try rfl) g hT
              | exact ih (i + 1) (by omega) (by omega) _ (by subst hx; simp only [cx_rj]; rw [if_pos (mo_b1 c_24)]; try rfl) g hT
  exact loop ((sp_K C p) + 1) 0 (by omega) (by omega) _ rfl g hT
theorem c_X9_mostBorne {G : ev_G} {W : cw_W} {d : Nat} {C : mo_S} {p : Nat} (hE : ev_En G) (hd : 2 ≤ d) (hp : p < sp_P C) (hK : C.1 59 p = nI (sp_K C p)) (hK2 : sp_K C p ≤ 8) : cw_C G W d mX9_mostBorne [.ref (W 24 p)] C (some (.int ((cx_mb C p (sp_K C p) (sp_K C p)).1))) C := by
  refine cw_start (lv0 := [some (.ref (W 24 p)), none, none, none, none]) (by decide +kernel) rfl (Nat.le_of_ble_eq_true rfl) rfl ?_
  intro K g0 g hT
  refine ev_iconst (v := 0) dX9_mostBorne_0 (by decide) ?_
  refine ev_istore_n dX9_mostBorne_1 rfl (Nat.le_of_ble_eq_true rfl) rfl ?_
  refine ev_iconst (v := 0) dX9_mostBorne_2 (by decide) ?_
  refine ev_istore_n dX9_mostBorne_3 rfl (Nat.le_of_ble_eq_true rfl) rfl ?_
  refine ev_iconst (v := 0) dX9_mostBorne_4 (by decide) ?_
  refine ev_istore_n dX9_mostBorne_5 rfl (Nat.le_of_ble_eq_true rfl) rfl ?_
  have loop : ∀ (n i : Nat), i ≤ (sp_K C p) → (sp_K C p) < i + n → ∀ (q : Int32 × Int32), q = cx_mb C p (sp_K C p) i → ∀ g, cw_T G K g0 W g C → ev_V G d 0 0 mX9_mostBorne (fun o g' => o = .inl (some (.int ((cx_mb C p (sp_K C p) (sp_K C p)).1))) ∧ cw_T G K g0 W g' C) g 6 [some (.ref (W 24 p)), some (.int q.1), some (.int q.2), some (.int (nI i)), none] [] := by
    intro n
    induction n with
    | zero => intro i h1 h2; exact absurd h2 (by omega)
    | succ n ih =>
      intro i h1 h2 q hx g hT
      refine ev_iload_n dX9_mostBorne_6 rfl rfl ?_
      refine ev_aload_n dX9_mostBorne_7 rfl rfl ?_
      refine cw_getf hE hT dX9_mostBorne_8 fX9_18 (k := 24) (i := p) hp ob24 rfl ?_
      refine ev_icmp_ge (tgt := 70) dX9_mostBorne_11 (by decide) (fun c_11 => ?_) (fun c_11 => ?_)
      · have e : i = sp_K C p := by
          first
            | (have := mo_ige hK (by omega) (by omega) c_11; omega)
            | (have := mo_ige (R := 8) rfl (by omega) (by omega) c_17; omega)
        subst hx
        rw [e]
        refine ev_iload_n dX9_mostBorne_70 rfl rfl ?_
        exact ev_iret dX9_mostBorne_71 rfl rfl ⟨rfl, hT⟩
      · have hi9 : i < sp_K C p := mo_ilt hK (by omega) (by omega) c_11
        refine ev_iload_n dX9_mostBorne_14 rfl rfl ?_
        refine ev_bipush (v := 8) dX9_mostBorne_15 (by decide) ?_
        refine ev_icmp_ge (tgt := 70) dX9_mostBorne_17 (by decide) (fun c_17 => ?_) (fun c_17 => ?_)
        · have e : i = sp_K C p := by
            first
              | (have := mo_ige hK (by omega) (by omega) c_11; omega)
              | (have := mo_ige (R := 8) rfl (by omega) (by omega) c_17; omega)
          subst hx
          rw [e]
          refine ev_iload_n dX9_mostBorne_70 rfl rfl ?_
          exact ev_iret dX9_mostBorne_71 rfl rfl ⟨rfl, hT⟩
        · have hi8 : i < 8 := by omega
          refine ev_aload_n dX9_mostBorne_20 rfl rfl ?_
          refine ev_aload_n dX9_mostBorne_21 rfl rfl ?_
          refine cw_getf hE hT dX9_mostBorne_22 fX9_11 (k := 24) (i := p) hp ob24 rfl ?_
          refine ev_iload_n dX9_mostBorne_25 rfl rfl ?_
          refine cw_ial (q := i) (v := (C.1 60 (8 * p + i))) hE hT dX9_mostBorne_26 (k := 25) (i := p) hp ar25 rfl hi8 (by decide) rfl ?_
          refine cw_call1 (d' := d - 1) hE hT dX9_mostBorne_27 rfl kX9_bearers lX9_30 iX9_bearers vX9_bearers (k := 24) (i := p) hp ob24 rfl (Nat.le_of_ble_eq_true rfl) (by omega) (c_X9_bearers hE (by omega) hp hK hK2) (fun g hT => ?_)
          refine ev_istore dX9_mostBorne_30 (Nat.le_of_ble_eq_true rfl) rfl ?_
          refine ev_iload dX9_mostBorne_32 rfl ?_
          refine ev_iload_n dX9_mostBorne_34 rfl rfl ?_
          refine ev_icmp_gt (tgt := 54) dX9_mostBorne_35 (by decide) (fun c_35 => ?_) (fun c_35 => ?_)
          · refine ev_aload_n dX9_mostBorne_54 rfl rfl ?_
            refine cw_getf hE hT dX9_mostBorne_55 fX9_11 (k := 24) (i := p) hp ob24 rfl ?_
            refine ev_iload_n dX9_mostBorne_58 rfl rfl ?_
            refine cw_ial (q := i) (v := (C.1 60 (8 * p + i))) hE hT dX9_mostBorne_59 (k := 25) (i := p) hp ar25 rfl hi8 (by decide) rfl ?_
            refine ev_istore_n dX9_mostBorne_60 rfl (Nat.le_of_ble_eq_true rfl) rfl ?_
            refine ev_iload dX9_mostBorne_61 rfl ?_
            refine ev_istore_n dX9_mostBorne_63 rfl (Nat.le_of_ble_eq_true rfl) rfl ?_
            refine ev_iinc (v := (nI (i + 1))) dX9_mostBorne_64 rfl (nI_1 i) rfl ?_
            refine ev_goto (tgt := 6) dX9_mostBorne_67 (by decide) ?_
            refine ev_none 4 ?_
            first
              | exact ih (i + 1) (by omega) (by omega) (C.1 60 (8 * p + i), cx_cnt (cx_sb C p (C.1 60 (8 * p + i))) (sp_K C p)) (by subst hx; rw [cx_mb, if_pos c_35]) g hT
              | exact ih (i + 1) (by omega) (by omega) q (by subst hx; rw [cx_mb, if_neg c_35, if_neg c_41]) g hT
              | exact ih (i + 1) (by omega) (by omega) q (by subst hx; rw [cx_mb, if_neg c_35, if_pos c_41, if_pos c_51]) g hT
              | exact ih (i + 1) (by omega) (by omega) (C.1 60 (8 * p + i), cx_cnt (cx_sb C p (C.1 60 (8 * p + i))) (sp_K C p)) (by subst hx; rw [cx_mb, if_neg c_35, if_pos c_41, if_neg c_51]) g hT
          · refine ev_iload dX9_mostBorne_38 rfl ?_
            refine ev_iload_n dX9_mostBorne_40 rfl rfl ?_
            refine ev_icmp_ne (tgt := 64) dX9_mostBorne_41 (by decide) (fun c_41 => ?_) (fun c_41 => ?_)
            · refine ev_iinc (v := (nI (i + 1))) dX9_mostBorne_64 rfl (nI_1 i) rfl ?_
              refine ev_goto (tgt := 6) dX9_mostBorne_67 (by decide) ?_
              refine ev_none 4 ?_
              first
                | exact ih (i + 1) (by omega) (by omega) (C.1 60 (8 * p + i), cx_cnt (cx_sb C p (C.1 60 (8 * p + i))) (sp_K C p)) (by subst hx; rw [cx_mb, if_pos c_35]) g hT
                | exact ih (i + 1) (by omega) (by omega) q (by subst hx; rw [cx_mb, if_neg c_35, if_neg c_41]) g hT
                | exact ih (i + 1) (by omega) (by omega) q (by subst hx; rw [cx_mb, if_neg c_35, if_pos c_41, if_pos c_51]) g hT
                | exact ih (i + 1) (by omega) (by omega) (C.1 60 (8 * p + i), cx_cnt (cx_sb C p (C.1 60 (8 * p + i))) (sp_K C p)) (by subst hx; rw [cx_mb, if_neg c_35, if_pos c_41, if_neg c_51]) g hT
            · refine ev_aload_n dX9_mostBorne_44 rfl rfl ?_
              refine cw_getf hE hT dX9_mostBorne_45 fX9_11 (k := 24) (i := p) hp ob24 rfl ?_
              refine ev_iload_n dX9_mostBorne_48 rfl rfl ?_
              refine cw_ial (q := i) (v := (C.1 60 (8 * p + i))) hE hT dX9_mostBorne_49 (k := 25) (i := p) hp ar25 rfl hi8 (by decide) rfl ?_
              refine ev_iload_n dX9_mostBorne_50 rfl rfl ?_
              refine ev_icmp_ge (tgt := 64) dX9_mostBorne_51 (by decide) (fun c_51 => ?_) (fun c_51 => ?_)
              · refine ev_iinc (v := (nI (i + 1))) dX9_mostBorne_64 rfl (nI_1 i) rfl ?_
                refine ev_goto (tgt := 6) dX9_mostBorne_67 (by decide) ?_
                refine ev_none 4 ?_
                first
                  | exact ih (i + 1) (by omega) (by omega) (C.1 60 (8 * p + i), cx_cnt (cx_sb C p (C.1 60 (8 * p + i))) (sp_K C p)) (by subst hx; rw [cx_mb, if_pos c_35]) g hT
                  | exact ih (i + 1) (by omega) (by omega) q (by subst hx; rw [cx_mb, if_neg c_35, if_neg c_41]) g hT
                  | exact ih (i + 1) (by omega) (by omega) q (by subst hx; rw [cx_mb, if_neg c_35, if_pos c_41, if_pos c_51]) g hT
                  | exact ih (i + 1) (by omega) (by omega) (C.1 60 (8 * p + i), cx_cnt (cx_sb C p (C.1 60 (8 * p + i))) (sp_K C p)) (by subst hx; rw [cx_mb, if_neg c_35, if_pos c_41, if_neg c_51]) g hT
              · refine ev_aload_n dX9_mostBorne_54 rfl rfl ?_
                refine cw_getf hE hT dX9_mostBorne_55 fX9_11 (k := 24) (i := p) hp ob24 rfl ?_
                refine ev_iload_n dX9_mostBorne_58 rfl rfl ?_
                refine cw_ial (q := i) (v := (C.1 60 (8 * p + i))) hE hT dX9_mostBorne_59 (k := 25) (i := p) hp ar25 rfl hi8 (by decide) rfl ?_
                refine ev_istore_n dX9_mostBorne_60 rfl (Nat.le_of_ble_eq_true rfl) rfl ?_
                refine ev_iload dX9_mostBorne_61 rfl ?_
                refine ev_istore_n dX9_mostBorne_63 rfl (Nat.le_of_ble_eq_true rfl) rfl ?_
                refine ev_iinc (v := (nI (i + 1))) dX9_mostBorne_64 rfl (nI_1 i) rfl ?_
                refine ev_goto (tgt := 6) dX9_mostBorne_67 (by decide) ?_
                refine ev_none 4 ?_
                first
                  | exact ih (i + 1) (by omega) (by omega) (C.1 60 (8 * p + i), cx_cnt (cx_sb C p (C.1 60 (8 * p + i))) (sp_K C p)) (by subst hx; rw [cx_mb, if_pos c_35]) g hT
                  | exact ih (i + 1) (by omega) (by omega) q (by subst hx; rw [cx_mb, if_neg c_35, if_neg c_41]) g hT
                  | exact ih (i + 1) (by omega) (by omega) q (by subst hx; rw [cx_mb, if_neg c_35, if_pos c_41, if_pos c_51]) g hT
                  | exact ih (i + 1) (by omega) (by omega) (C.1 60 (8 * p + i), cx_cnt (cx_sb C p (C.1 60 (8 * p + i))) (sp_K C p)) (by subst hx; rw [cx_mb, if_neg c_35, if_pos c_41, if_neg c_51]) g hT
  exact loop ((sp_K C p) + 1) 0 (by omega) (by omega) (0, 0) rfl g hT
def cx_X9_field (C : mo_S) (p : Nat) (x1 : Int32) : Int32 :=
  (if (C.1 59 p) = 0 then (-1) else (if x1 = 0 then (cx_mb C p (sp_K C p) (sp_K C p)).1 else (if x1 = 1 then (cx_la C p (cx_mb C p (sp_K C p) (sp_K C p)).1 (sp_K C p)) else (if x1 = 2 then (cx_cnt (cx_sb C p (cx_mb C p (sp_K C p) (sp_K C p)).1) (sp_K C p)) else (cx_rj (cx_sb C p (cx_mb C p (sp_K C p) (sp_K C p)).1) (sp_K C p))))))
theorem c_X9_field {G : ev_G} {W : cw_W} {d : Nat} {C : mo_S} {p : Nat} {x1 : Int32} (hE : ev_En G) (hd : 3 ≤ d) (hp : p < sp_P C) (hK : C.1 59 p = nI (sp_K C p)) (hK2 : sp_K C p ≤ 8) : cw_C G W d mX9_field [.ref (W 24 p), .int x1] C (some (.int (cx_X9_field C p x1))) C := by
  refine cw_start (lv0 := [some (.ref (W 24 p)), some (.int x1), none]) (by decide +kernel) rfl (Nat.le_of_ble_eq_true rfl) rfl ?_
  intro K g0 g hT
  refine ev_aload_n dX9_field_0 rfl rfl ?_
  refine cw_getf hE hT dX9_field_1 fX9_18 (k := 24) (i := p) hp ob24 rfl ?_
  refine ev_if_ne (tgt := 9) dX9_field_4 (by decide) (fun c_4 => ?_) (fun c_4 => ?_)
  · refine ev_aload_n dX9_field_9 rfl rfl ?_
    refine cw_call0 (d' := d - 1) hE hT dX9_field_10 rfl kX9_mostBorne lX9_22 iX9_mostBorne vX9_mostBorne (k := 24) (i := p) hp ob24 rfl (Nat.le_of_ble_eq_true rfl) (by omega) (c_X9_mostBorne hE (by omega) hp hK hK2) (fun g hT => ?_)
    refine ev_istore_n dX9_field_13 rfl (Nat.le_of_ble_eq_true rfl) rfl ?_
    refine ev_iload_n dX9_field_14 rfl rfl ?_
    by_cases c_15_0 : x1 = 0
    · refine ev_tableIn (tgt := 40) (off := 25) dX9_field_15 (by rw [c_15_0]; decide) (by rw [c_15_0]; decide) (by rw [c_15_0]; rfl) (by decide) ?_
      refine ev_iload_n dX9_field_40 rfl rfl ?_
      have e9 : cx_X9_field C p x1 = (cx_mb C p (sp_K C p) (sp_K C p)).1 := by unfold cx_X9_field; rw [if_neg c_4, if_pos c_15_0]
      exact ev_iret dX9_field_41 rfl rfl ⟨by rw [e9], hT⟩
    · by_cases c_15_1 : x1 = 1
      · refine ev_tableIn (tgt := 42) (off := 27) dX9_field_15 (by rw [c_15_1]; decide) (by rw [c_15_1]; decide) (by rw [c_15_1]; rfl) (by decide) ?_
        refine ev_aload_n dX9_field_42 rfl rfl ?_
        refine ev_iload_n dX9_field_43 rfl rfl ?_
        refine cw_call1 (d' := d - 1) hE hT dX9_field_44 rfl kX9_lastAlike lX9_26 iX9_lastAlike vX9_lastAlike (k := 24) (i := p) hp ob24 rfl (Nat.le_of_ble_eq_true rfl) (by omega) (c_X9_lastAlike hE (by omega) hp hK hK2) (fun g hT => ?_)
        have e9 : cx_X9_field C p x1 = (cx_la C p (cx_mb C p (sp_K C p) (sp_K C p)).1 (sp_K C p)) := by unfold cx_X9_field; rw [if_neg c_4, if_neg c_15_0, if_pos c_15_1]
        exact ev_iret dX9_field_47 rfl rfl ⟨by rw [e9], hT⟩
      · by_cases c_15_2 : x1 = 2
        · refine ev_tableIn (tgt := 48) (off := 33) dX9_field_15 (by rw [c_15_2]; decide) (by rw [c_15_2]; decide) (by rw [c_15_2]; rfl) (by decide) ?_
          refine ev_aload_n dX9_field_48 rfl rfl ?_
          refine ev_iload_n dX9_field_49 rfl rfl ?_
          refine cw_call1 (d' := d - 1) hE hT dX9_field_50 rfl kX9_bearers lX9_30 iX9_bearers vX9_bearers (k := 24) (i := p) hp ob24 rfl (Nat.le_of_ble_eq_true rfl) (by omega) (c_X9_bearers hE (by omega) hp hK hK2) (fun g hT => ?_)
          have e9 : cx_X9_field C p x1 = (cx_cnt (cx_sb C p (cx_mb C p (sp_K C p) (sp_K C p)).1) (sp_K C p)) := by unfold cx_X9_field; rw [if_neg c_4, if_neg c_15_0, if_neg c_15_1, if_pos c_15_2]
          exact ev_iret dX9_field_53 rfl rfl ⟨by rw [e9], hT⟩
        · refine ev_tableOut (tgt := 54) dX9_field_15 (by have h0 : (x1 : Int32).toInt ≠ 0 := fun q => c_15_0 (Int32.toInt_inj.mp (by rw [q]; rfl)); have h1 : (x1 : Int32).toInt ≠ 1 := fun q => c_15_1 (Int32.toInt_inj.mp (by rw [q]; rfl)); have h2 : (x1 : Int32).toInt ≠ 2 := fun q => c_15_2 (Int32.toInt_inj.mp (by rw [q]; rfl)); omega) (by decide) ?_
          refine ev_aload_n dX9_field_54 rfl rfl ?_
          refine ev_iload_n dX9_field_55 rfl rfl ?_
          refine cw_call1 (d' := d - 1) hE hT dX9_field_56 rfl kX9_rejected lX9_33 iX9_rejected vX9_rejected (k := 24) (i := p) hp ob24 rfl (Nat.le_of_ble_eq_true rfl) (by omega) (c_X9_rejected hE (by omega) hp hK hK2) (fun g hT => ?_)
          have e9 : cx_X9_field C p x1 = (cx_rj (cx_sb C p (cx_mb C p (sp_K C p) (sp_K C p)).1) (sp_K C p)) := by unfold cx_X9_field; rw [if_neg c_4, if_neg c_15_0, if_neg c_15_1, if_neg c_15_2]
          exact ev_iret dX9_field_59 rfl rfl ⟨by rw [e9], hT⟩
  · refine ev_iconst (v := (-1)) dX9_field_7 (by decide) ?_
    have e9 : cx_X9_field C p x1 = (-1) := by unfold cx_X9_field; rw [if_pos c_4]
    exact ev_iret dX9_field_8 rfl rfl ⟨by rw [e9], hT⟩
def cx_X9_add (C : mo_S) (p : Nat) (x1 : Int32) (x2 : Int32) : Int32 × mo_S :=
  (if (C.1 59 p) < 8 then (((C.1 59 p) + 1), (mo_up (mo_up (mo_up C 60 (8 * p + (sp_K C p)) x1) 61 (8 * p + (sp_K C p)) x2) 59 p ((C.1 59 p) + 1))) else ((-1), C))
theorem c_X9_add {G : ev_G} {W : cw_W} {d : Nat} {C : mo_S} {p : Nat} {x1 : Int32} {x2 : Int32} (hE : ev_En G) (hp : p < sp_P C) (hK : C.1 59 p = nI (sp_K C p)) (hK2 : sp_K C p ≤ 8) : cw_C G W d mX9_add [.ref (W 24 p), .int x1, .int x2] C (some (.int (cx_X9_add C p x1 x2).1)) (cx_X9_add C p x1 x2).2 := by
  refine cw_start (lv0 := [some (.ref (W 24 p)), some (.int x1), some (.int x2)]) (by decide +kernel) rfl (Nat.le_of_ble_eq_true rfl) rfl ?_
  intro K g0 g hT
  refine ev_aload_n dX9_add_0 rfl rfl ?_
  refine cw_getf hE hT dX9_add_1 fX9_18 (k := 24) (i := p) hp ob24 rfl ?_
  refine ev_if_lt (tgt := 16) dX9_add_4 (by decide) (fun c_4 => ?_) (fun c_4 => ?_)
  · exact absurd (show nI (sp_K C p) < 0 by rw [← hK]; exact c_4) (nI_pos (by omega))
  · refine ev_aload_n dX9_add_7 rfl rfl ?_
    refine cw_getf hE hT dX9_add_8 fX9_18 (k := 24) (i := p) hp ob24 rfl ?_
    refine ev_bipush (v := 8) dX9_add_11 (by decide) ?_
    refine ev_icmp_lt (tgt := 18) dX9_add_13 (by decide) (fun c_13 => ?_) (fun c_13 => ?_)
    · have hK8 : sp_K C p < 8 := Nat.lt_of_not_le fun q => absurd (show nI (sp_K C p) < nI 8 by rw [← hK]; exact c_13) (nI_nlt (a := sp_K C p) (b := 8) (by omega) (by omega))
      refine ev_aload_n dX9_add_18 rfl rfl ?_
      refine cw_getf hE hT dX9_add_19 fX9_11 (k := 24) (i := p) hp ob24 rfl ?_
      refine ev_aload_n dX9_add_22 rfl rfl ?_
      refine cw_getf hE hT dX9_add_23 fX9_18 (k := 24) (i := p) hp ob24 rfl ?_
      refine ev_iload_n dX9_add_26 rfl rfl ?_
      refine cw_ias (q := (sp_K C p)) (f := 60) (ix := (8 * p + (sp_K C p))) hE hT dX9_add_27 (k := 25) (i := p) hp ar25 hK hK8 (by decide) (by show (25, (8 * p + (sp_K C p)) / 8) = (25, p); rw [Nat.mul_add_div (by decide), Nat.div_eq_of_lt (by omega)]; rfl) (by decide) (by decide) (pa25 (i := p)) (fun g hT => ?_)
      refine ev_aload_n dX9_add_28 rfl rfl ?_
      refine cw_getf hE hT dX9_add_29 fX9_15 (k := 24) (i := p) hp ob24 rfl ?_
      refine ev_aload_n dX9_add_32 rfl rfl ?_
      refine cw_geti (v2 := (C.1 59 p)) hE hT dX9_add_33 fX9_18 (k := 24) (i := p) hp ob24 rfl (by simp [mo_up]) ?_
      refine ev_iload_n dX9_add_36 rfl rfl ?_
      refine cw_ias (q := (sp_K C p)) (f := 61) (ix := (8 * p + (sp_K C p))) hE hT dX9_add_37 (k := 26) (i := p) hp ar26 hK hK8 (by decide) (by show (26, (8 * p + (sp_K C p)) / 8) = (26, p); rw [Nat.mul_add_div (by decide), Nat.div_eq_of_lt (by omega)]; rfl) (by decide) (by decide) (pa26 (i := p)) (fun g hT => ?_)
      refine ev_aload_n dX9_add_38 rfl rfl ?_
      refine ev_dup dX9_add_39 rfl ?_
      refine cw_geti (v2 := (C.1 59 p)) hE hT dX9_add_40 fX9_18 (k := 24) (i := p) hp ob24 rfl (by simp [mo_up]) ?_
      refine ev_iconst (v := 1) dX9_add_43 (by decide) ?_
      refine ev_iadd dX9_add_44 ?_
      refine cw_putf (k := 24) (i := p) (f := 59) (x := p) hE hT dX9_add_45 pX9_18 hp ob24 (Nat.le_of_ble_eq_true rfl) rfl rfl rfl (by decide) (by decide) pu24_2 (fun g hT => ?_)
      refine ev_aload_n dX9_add_48 rfl rfl ?_
      refine cw_geti (v2 := ((C.1 59 p) + 1)) hE hT dX9_add_49 fX9_18 (k := 24) (i := p) hp ob24 rfl (by simp [mo_up]) ?_
      have e9 : cx_X9_add C p x1 x2 = (((C.1 59 p) + 1), (mo_up (mo_up (mo_up C 60 (8 * p + (sp_K C p)) x1) 61 (8 * p + (sp_K C p)) x2) 59 p ((C.1 59 p) + 1))) := by unfold cx_X9_add; rw [if_pos c_13]
      exact ev_iret dX9_add_52 rfl rfl ⟨by rw [e9], by rw [e9]; exact hT⟩
    · refine ev_iconst (v := (-1)) dX9_add_16 (by decide) ?_
      have e9 : cx_X9_add C p x1 x2 = ((-1), C) := by unfold cx_X9_add; rw [if_neg c_13]
      exact ev_iret dX9_add_17 rfl rfl ⟨by rw [e9], by rw [e9]; exact hT⟩
theorem cx_brn_l (C : mo_S) (p K : Nat) : ∀ n, (sp_brn C p K n).1 < 0 ∨ (sp_brn C p K n).1 = sp_lies C p (sp_brn C p K n).2 K
  | 0 => Or.inl (by show (-1 : Int32) < 0; decide)
  | n + 1 => by
    rw [sp_brn]
    by_cases h : (sp_brn C p K n).1 < 0
    · rw [if_pos h]
      exact Or.inr rfl
    · rw [if_neg h]
      have ih := (cx_brn_l C p K n).resolve_left h
      split
      · exact Or.inr ih
      · split
        · split
          · exact Or.inr rfl
          · exact Or.inr ih
        · exact Or.inr rfl
theorem cx_field_eq {C : mo_S} {p : Nat} (x : Int32) (hK : C.1 59 p = nI (sp_K C p)) (hK2 : sp_K C p ≤ 8) (hs : ∀ j, j < sp_K C p → C.1 60 (8 * p + j) ≤ C.1 61 (8 * p + j)) : cx_X9_field C p x = sp_borne C p x := by
  unfold cx_X9_field sp_borne
  by_cases h0 : C.1 59 p = 0
  · rw [if_pos h0, if_pos h0]
  rw [if_neg h0, if_neg h0]
  have hpos : 0 < sp_K C p := by
    rcases Nat.eq_zero_or_pos (sp_K C p) with q | q
    · exact absurd (by rw [hK, q]; rfl) h0
    · exact q
  obtain ⟨n, hn⟩ : ∃ n, sp_K C p = n + 1 := ⟨sp_K C p - 1, by omega⟩
  have q := cx_mb_eq hK2 hs n (by omega)
  rw [← hn] at q
  have ql := (cx_brn_l C p (sp_K C p) (sp_K C p)).resolve_left q.2
  have q1 : (cx_mb C p (sp_K C p) (sp_K C p)).1 = (sp_brn C p (sp_K C p) (sp_K C p)).2 := by rw [q.1]
  rw [q1, hK, ql]
  generalize (sp_brn C p (sp_K C p) (sp_K C p)).2 = v
  rw [cx_la_eq hK2 _ (Nat.le_refl _), ← (cx_bits (cx_sb C p v) hK2).1.1, ← (cx_bits (cx_sb C p v) hK2).1.2.1, cx_lies]
end CM5
