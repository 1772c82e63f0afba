section RL
theorem rd_wd_len {t : Nat → Nat} {n p : Nat} (ht : ∀ j, t j < 256) {k : Nat} (hk : k < 11) (h : ps_wd t n p (rd_W180 k) = true) : p < n ∧ rd_bh t n p = p + (rd_W180 k).length ∧ 0 < (rd_W180 k).length := by
  have a : ∀ k, k < 11 → ∀ j, j < (rd_W180 k).length → rd_L180.getD (rd_S180 k + j) 0 = (rd_W180 k).getD j 0 ∧ ps_let ((rd_W180 k).getD j 0) = true := by decide +kernel
  have b : ∀ k, k < 11 → 0 < (rd_W180 k).length := by decide
  have c := ps_wd_l h (b k hk) (a k hk 0 (b k hk)).2
  have e := rd_isw_wd (s := rd_S180 k) (e := rd_S180 k + (rd_W180 k).length) (L := rd_L180) ht c.1 c.2 (by omega) (fun j hj => (a k hk j hj).1) (fun j hj => (a k hk j hj).2)
  rw [h] at e
  have e2 := (of_decide_eq_true e).1
  have := (rd_bh_in (t := t) (n := n) (p := p) (by omega)).1
  exact ⟨c.1, by omega, b k hk⟩
theorem rd_pk_none {g : Nat → Bool} : ∀ c k, rd_pk g k c = none → ∀ j, k ≤ j → j < k + c → ¬ g j = true
  | 0, k, _, j, h1, h2 => absurd h2 (by omega)
  | c + 1, k, h, j, h1, h2 => by
    unfold rd_pk at h
    by_cases e : g k = true
    · rw [if_pos e] at h; cases h
    · rw [if_neg e] at h
      by_cases z : j = k
      · rw [z]; exact e
      · exact rd_pk_none c (k + 1) h j (by omega) (by omega)
theorem rd_pk_some {g : Nat → Bool} : ∀ c k x, rd_pk g k c = some x → k ≤ x ∧ x < k + c ∧ g x = true ∧ ∀ j, k ≤ j → j < x → ¬ g j = true
  | 0, k, x, h => by cases h
  | c + 1, k, x, h => by
    unfold rd_pk at h
    by_cases e : g k = true
    · rw [if_pos e] at h
      cases h
      exact ⟨Nat.le_refl _, by omega, e, fun j a b => absurd b (by omega)⟩
    · rw [if_neg e] at h
      obtain ⟨a, b, c', d⟩ := rd_pk_some c (k + 1) x h
      refine ⟨by omega, by omega, c', fun j h1 h2 => ?_⟩
      by_cases z : j = k
      · rw [z]; exact e
      · exact d j (by omega) h2
theorem rd_pk_mk {g : Nat → Bool} {x : Nat} (hx : g x = true) : ∀ c k, k ≤ x → x < k + c → (∀ j, k ≤ j → j < x → ¬ g j = true) → rd_pk g k c = some x
  | 0, k, h1, h2, _ => absurd h2 (by omega)
  | c + 1, k, h1, h2, h => by
    unfold rd_pk
    by_cases z : k = x
    · rw [z, if_pos hx]
    · rw [if_neg (h k (Nat.le_refl _) (by omega))]
      exact rd_pk_mk hx c (k + 1) (by omega) (by omega) (fun j a b => h j (by omega) b)
theorem rd_pk_nn {g : Nat → Bool} : ∀ c k, (∀ j, k ≤ j → j < k + c → ¬ g j = true) → rd_pk g k c = none
  | 0, k, _ => rfl
  | c + 1, k, h => by
    unfold rd_pk
    rw [if_neg (h k (Nat.le_refl _) (by omega))]
    exact rd_pk_nn c (k + 1) (fun j a b => h j (by omega) (by omega))
theorem rd_nn8 : ∀ k, k < 8 → rd_W180 k = ps_nn k := by decide
/-- what the names make of a unit -/
theorem rd_unit_n {t : Nat → Nat} {n p : Nat} {i : Option (Nat → ps_R)} (ht : ∀ j, t j < 256) (hd : ¬ ps_dig (ps_bt t n p) = true) : (ps_fnd t n p rd_W180 11 = none → ps_unit t n i p = ps_brk t n i p) ∧ ∀ k, ps_fnd t n p rd_W180 11 = some k → k < 11 ∧ p < n ∧ rd_bh t n p = p + (rd_W180 k).length ∧ 0 < (rd_W180 k).length ∧ ((k < 8 ∧ ps_unit t n i p = .inr (ps_skn t n (rd_bh t n p), [(1, nI k)], [-1 - nI k], fun v => v (nI k))) ∨ (k = 8 ∧ ps_unit t n i p = ps_two t n i true (ps_skn t n (rd_bh t n p))) ∨ (k = 9 ∧ ps_unit t n i p = ps_two t n i false (ps_skn t n (rd_bh t n p))) ∨ (k = 10 ∧ ps_unit t n i p = ps_if t n i (ps_skn t n (rd_bh t n p)))) := by
  have len : ∀ k, k < 11 → ps_wd t n p (rd_W180 k) = true → p < n ∧ rd_bh t n p = p + (rd_W180 k).length ∧ 0 < (rd_W180 k).length := fun k hk h => rd_wd_len ht hk h
  rw [ps_fnd_pk]
  have f8 : ∀ c, c ≤ 8 → rd_pk (fun k => ps_wd t n p (ps_nn k)) 0 c = rd_pk (fun k => ps_wd t n p (ps_nn k)) 0 c := fun _ _ => rfl
  unfold ps_unit
  rw [if_neg hd, ps_fnd_pk]
  refine ⟨fun h => ?_, fun k h => ?_⟩
  · have q := rd_pk_none _ _ h
    have e8 : rd_pk (fun k => ps_wd t n p (ps_nn k)) 0 8 = none := rd_pk_nn _ _ (fun j a b => by rw [← rd_nn8 j (by omega)]; exact q j a (by omega))
    rw [e8]
    dsimp only
    rw [if_neg (show ¬ ps_wd t n p [105, 102] = true from q 10 (by omega) (by omega)), if_neg (show ¬ ps_wd t n p [109, 105, 110] = true from q 8 (by omega) (by omega)), if_neg (show ¬ ps_wd t n p [109, 97, 120] = true from q 9 (by omega) (by omega))]
  · obtain ⟨a, b, c, d⟩ := rd_pk_some _ _ _ h
    have hk : k < 11 := by omega
    obtain ⟨l1, l2, l3⟩ := len k hk c
    refine ⟨hk, l1, l2, l3, ?_⟩
    by_cases z : k < 8
    · refine Or.inl ⟨z, ?_⟩
      have e8 : rd_pk (fun k => ps_wd t n p (ps_nn k)) 0 8 = some k := rd_pk_mk (by rw [← rd_nn8 k z]; exact c) _ _ (by omega) (by omega) (fun j a b => by rw [← rd_nn8 j (by omega)]; exact d j a b)
      rw [e8]
      dsimp only
      rw [l2, rd_nn8 k z]
    · have e8 : rd_pk (fun k => ps_wd t n p (ps_nn k)) 0 8 = none := rd_pk_nn _ _ (fun j a b => by rw [← rd_nn8 j (by omega)]; exact d j a (by omega))
      rw [e8]
      dsimp only
      have w10 : ∀ j, j < 11 → ps_wd t n p (rd_W180 j) = true → (rd_W180 j).length = (rd_W180 k).length := fun j hj hw => by have := (len j hj hw).2.1; omega
      obtain rfl | rfl | rfl : k = 8 ∨ k = 9 ∨ k = 10 := by omega
      · have n10 : ¬ ps_wd t n p [105, 102] = true := fun q => absurd (w10 10 (by decide) q) (by decide)
        rw [if_neg n10, if_pos (show ps_wd t n p [109, 105, 110] = true from c)]
        exact Or.inr (Or.inl ⟨rfl, by rw [l2]; rfl⟩)
      · have n10 : ¬ ps_wd t n p [105, 102] = true := fun q => absurd (w10 10 (by decide) q) (by decide)
        rw [if_neg n10, if_neg (show ¬ ps_wd t n p [109, 105, 110] = true from d 8 (by omega) (by omega)), if_pos (show ps_wd t n p [109, 97, 120] = true from c)]
        exact Or.inr (Or.inr (Or.inl ⟨rfl, by rw [l2]; rfl⟩))
      · rw [if_pos (show ps_wd t n p [105, 102] = true from c)]
        exact Or.inr (Or.inr (Or.inr ⟨rfl, by rw [l2]; rfl⟩))
/-- .. and what joins them -/
theorem rd_two_is {t : Nat → Nat} {n p : Nat} {i : Option (Nat → ps_R)} (low : Bool) : (∀ e, rd_two t n i p = .inl e → ps_two t n i low p = .inl e) ∧ ∀ h L Cl F, rd_two t n i p = .inr (h, L, Cl, F) → ∃ L2 F2, ps_two t n i low p = .inr (h, L2, Cl ++ [if low = true then -13 else -14], F2) := by
  unfold rd_two ps_two ps_op
  by_cases q : p < n ∧ t p = 40
  · rw [if_pos q, if_pos q]
    cases i with
    | none => exact ⟨fun e h => h, fun h L Cl F z => by cases z⟩
    | some s =>
      dsimp only
      cases s (ps_skn t n (p + 1)) with
      | inl e => exact ⟨fun e h => h, fun h L Cl F z => by cases z⟩
      | inr w =>
        obtain ⟨h1, L1, C1, F1⟩ := w
        simp only [ps_bind]
        by_cases q1 : h1 < n ∧ t h1 = 44
        · rw [ps_sg_pos q1, ps_sg_pos q1]
          cases s (ps_skn t n (h1 + 1)) with
          | inl e => exact ⟨fun e h => h, fun h L Cl F z => by cases z⟩
          | inr w =>
            obtain ⟨h2, L2, C2, F2⟩ := w
            simp only [ps_bind]
            by_cases q2 : h2 < n ∧ t h2 = 41
            · rw [ps_sg_pos q2, ps_sg_pos q2]
              exact ⟨fun e h => (by cases h), fun h L Cl F z => by cases z; exact ⟨_, _, rfl⟩⟩
            · rw [ps_sg_neg q2, ps_sg_neg q2]
              exact ⟨fun e h => h, fun h L Cl F z => by cases z⟩
        · rw [ps_sg_neg q1, ps_sg_neg q1]
          exact ⟨fun e h => h, fun h L Cl F z => by cases z⟩
  · rw [if_neg q, if_neg q]
    exact ⟨fun e h => h, fun h L Cl F z => by cases z⟩
theorem rd_two_lt {C T : mo_S} {t : Nat → Nat} {n p c h : Nat} {i : Option (Nat → ps_R)} {L : List (Int32 × Int32)} {Cl : List Int32} {F : ps_F} (q : rd_Q C t n p c (.inr (h, L, Cl, F)) T) : p + Cl.length ≤ h := q.2.2.2.1
theorem c_X7_readNamed {G : ev_G} {W : cw_W} {d D0 op : Nat} {inn : (Nat → Nat) → Nat → Option (Nat → ps_R)} {C : mo_S} {t : Nat → Nat} {n p c : Nat} (hE : ev_En G) (h4 : ev_En4 G D0) (hd : 8 ≤ d) (hI : rd_In G W (d - 1 - 1) op inn) (hP : rd_P C t n p c) (hnd : ¬ ps_dig (ps_bt t n p) = true) (hnb : ¬ (p < n ∧ t p = 40)) : cw_R G W d 0 0 mX7_readNamed [.ref (W 4 0), .int (nI op)] C (fun u W2 C2 => W2 = W ∧ u = .inl none ∧ rd_Q C t n p c (ps_unit t n (inn t n) p) C2) := by
  refine cw_startR (lv0 := [some (.ref (W 4 0)), some (.int (nI op)), none]) (by decide +kernel) rfl (Nat.le_of_ble_eq_true rfl) rfl ?_
  intro K g0 g hT
  have hpn := hP.1.le
  have hcp := hP.2.2
  have ht := hP.1.1.2.2.2
  obtain ⟨u1, u2⟩ := rd_unit_n (i := inn t n) ht hnd
  refine ev_aload_n dX7_readNamed_0 rfl rfl ?_
  refine ev_ldcS dX7_readNamed_1 (h4.2.2.2.2.2.2.1 (180, rd_L180) (by decide)) (fun a ha => ?_)
  refine cw_call1 (d' := d - 1) hE hT dX7_readNamed_3 rfl kX7_wordAmong lX7_92 iX7_wordAmong vX7_wordAmong (k := 4) (i := 0) rfl ob4 rfl (Nat.le_of_ble_eq_true rfl) (by omega) (c_X7_wordAmong_G hE h4 (by omega) hP.1 ha) (fun g hT => ?_)
  rw [rd_wf180 ht]
  refine ev_istore_n dX7_readNamed_6 rfl (Nat.le_of_ble_eq_true rfl) rfl ?_
  refine ev_iload_n dX7_readNamed_7 rfl rfl ?_
  refine ev_iconst (v := -1) dX7_readNamed_8 (by decide) ?_
  cases hw : ps_fnd t n p rd_W180 11 with
  | none =>
    refine ev_icmp_ne (tgt := 18) dX7_readNamed_9 (by decide) (fun c => absurd rfl c) (fun _ => ?_)
    refine ev_aload_n dX7_readNamed_12 rfl rfl ?_
    refine ev_iconst (v := 1) dX7_readNamed_13 (by decide) ?_
    refine cw_call1 (d' := d - 1) hE hT dX7_readNamed_14 rfl kX7_fail lX7_75 iX7_fail vX7_fail (k := 4) (i := 0) rfl ob4 rfl (Nat.le_of_ble_eq_true rfl) (by omega) (c_X7_fail hE) (fun g hT => ?_)
    have hQ := rd_fail_G 1 (by decide) (by decide) hP.1
    refine ev_vret dX7_readNamed_17 rfl ⟨W, _, ⟨rfl, rfl, ?_⟩, hT⟩
    rw [u1 hw, show ps_brk t n (inn t n) p = .inl (1, p) from if_neg hnb]
    exact (hP.Q (L := []) (F := fun _ => 0)).ft hP.2.2 hQ.2 hQ.1
  | some k =>
    obtain ⟨k11, kp, kb, kl, ku⟩ := u2 k hw
    refine ev_icmp_ne (tgt := 18) dX7_readNamed_9 (by decide) (fun _ => ?_) (fun c => absurd c (cj_ne (by omega) (by decide)))
    have hbh := rd_bh_in (t := t) (n := n) (p := p) (by omega)
    have hsk := ps_skn_in (t := t) (n := n) (h := rd_bh t n p) hbh.2
    refine ev_aload_n dX7_readNamed_18 rfl rfl ?_
    refine cw_callr0 (d' := d - 1) (b := 0) (n0 := 0) hE hT dX7_readNamed_19 rfl kX7_next lX7_48 iX7_next vX7_next (k := 4) (i := 0) rfl ob4 rfl (Nat.le_of_ble_eq_true rfl) (by omega) (c_X7_next (d := d - 1) hE (by omega) hP.1.1 hP.1.2.1 hP.1.2.2.2.2.2 hbh.2) (Nat.le_refl _) (Nat.le_refl _) (fun v9 W9 T g q9 hT => ?_) (fun E W2 C2 g q9 _ => by cases q9.2.1)
    obtain ⟨e8, e9, hx9, hT9⟩ := q9
    have e7 := e8.symm
    subst e7
    cases e9
    have hG := rd_next_G hP.1.1 hP.1.2.1 hx9 hT9
    have q0 : rd_Q C t n p c (.inr (ps_skn t n (rd_bh t n p), [], [], fun _ => 0)) T := (hP.Q (F := fun _ => 0)).sg hx9 hG (by omega)
    have hc9 : T.1 122 0 = nI c := by rw [hx9 122 (by decide)]; exact hP.2.1
    refine ev_iload_n dX7_readNamed_22 rfl rfl ?_
    rcases ku with ⟨k8, hu⟩ | ⟨rfl, hu⟩ | ⟨rfl, hu⟩ | ⟨rfl, hu⟩
    · refine ev_tableOut (tgt := 84) dX7_readNamed_23 (by rw [show sp_opt (some k) = nI k from rfl, nI_toInt (by omega)]; omega) (by decide) ?_
      refine ev_aload_n dX7_readNamed_84 rfl rfl ?_
      refine ev_iconst (v := -1) dX7_readNamed_85 (by decide) ?_
      refine ev_iload_n dX7_readNamed_86 rfl rfl ?_
      refine ev_isub dX7_readNamed_87 ?_
      refine cw_call1 (d' := d - 1) hE hT dX7_readNamed_88 rfl kX7_emit lX7_168 iX7_emit vX7_emit (k := 4) (i := 0) rfl ob4 rfl (Nat.le_of_ble_eq_true rfl) (by omega) (c_X7_emit hE hc9 (by omega)) (fun g hT => ?_)
      exact ev_vret dX7_readNamed_91 rfl ⟨W, _, ⟨rfl, rfl, by rw [hu]; exact q0.em (x := -1 - nI k) (L3 := [(1, nI k)]) (F3 := fun v => v (nI k)) (by show p + 0 < _; omega) hP.2.2⟩, hT⟩
    · refine ev_tableIn (tgt := 48) (off := 25) dX7_readNamed_23 (by decide) (by decide) (by rfl) (by decide) ?_
      refine ev_aload_n dX7_readNamed_48 rfl rfl ?_
      refine ev_iload_n dX7_readNamed_49 rfl rfl ?_
      refine cw_callr1 (d' := d - 1) (b := 0) (n0 := 0) hE hT dX7_readNamed_50 rfl kX7_readTwo lX7_182 iX7_readTwo vX7_readTwo (k := 4) (i := 0) rfl ob4 rfl (Nat.le_of_ble_eq_true rfl) (by omega) (c_X7_readTwo (d := d - 1) (inn := inn) hE h4 (by omega) hI T t n (ps_skn t n (rd_bh t n p)) c ⟨hG, hc9, by omega⟩) (Nat.le_refl _) (Nat.le_refl _) (fun v9 W9 T2 g q9 hT => ?_) (fun E W2 C2 g q9 _ => by obtain ⟨_, h9, _⟩ := q9; cases h9)
      obtain ⟨e8, e9, r1⟩ := q9
      have e7 := e8.symm
      subst e7
      cases e9
      have r1 : rd_Q T t n (ps_skn t n (rd_bh t n p)) c (rd_two t n (inn t n) (ps_skn t n (rd_bh t n p))) T2 := r1
      refine ev_aload_n dX7_readNamed_53 rfl rfl ?_
      refine ev_bipush (v := -13) dX7_readNamed_54 (by decide) ?_
      cases hr : rd_two t n (inn t n) (ps_skn t n (rd_bh t n p)) with
      | inl e =>
        rw [hr] at r1
        have r2 := q0.lt r1
        obtain ⟨c2, hc2, h300⟩ := r2.2.1
        refine cw_call1 (d' := d - 1) hE hT dX7_readNamed_56 rfl kX7_emit lX7_168 iX7_emit vX7_emit (k := 4) (i := 0) rfl ob4 rfl (Nat.le_of_ble_eq_true rfl) (by omega) (c_X7_emit hE hc2 (by omega)) (fun g hT => ?_)
        refine ev_goto (tgt := 91) dX7_readNamed_59 (by decide) ?_
        exact ev_vret dX7_readNamed_91 rfl ⟨W, _, ⟨rfl, rfl, by rw [hu, (rd_two_is true).1 e hr]; exact r2.emF hc2 h300⟩, hT⟩
      | inr v =>
        obtain ⟨h, L, Cl, F⟩ := v
        rw [hr] at r1
        have r2 : rd_Q C t n p c (.inr (h, [], [] ++ Cl, fun _ => 0)) T2 := q0.app r1
        have b1 := r1.2.2.2.1
        have l9 := r1.1.le
        obtain ⟨L2, F2, h2⟩ := (rd_two_is true).2 h L Cl F hr
        refine cw_call1 (d' := d - 1) hE hT dX7_readNamed_56 rfl kX7_emit lX7_168 iX7_emit vX7_emit (k := 4) (i := 0) rfl ob4 rfl (Nat.le_of_ble_eq_true rfl) (by omega) (c_X7_emit hE r2.2.2.1 (by have : ([] ++ Cl : List Int32).length = Cl.length := rfl; omega)) (fun g hT => ?_)
        refine ev_goto (tgt := 91) dX7_readNamed_59 (by decide) ?_
        exact ev_vret dX7_readNamed_91 rfl ⟨W, _, ⟨rfl, rfl, by rw [hu, h2]; exact r2.em (x := -13) (L3 := L2) (F3 := F2) (by have : ([] ++ Cl : List Int32).length = Cl.length := rfl; omega) hP.2.2⟩, hT⟩
    · refine ev_tableIn (tgt := 62) (off := 39) dX7_readNamed_23 (by decide) (by decide) (by rfl) (by decide) ?_
      refine ev_aload_n dX7_readNamed_62 rfl rfl ?_
      refine ev_iload_n dX7_readNamed_63 rfl rfl ?_
      refine cw_callr1 (d' := d - 1) (b := 0) (n0 := 0) hE hT dX7_readNamed_64 rfl kX7_readTwo lX7_182 iX7_readTwo vX7_readTwo (k := 4) (i := 0) rfl ob4 rfl (Nat.le_of_ble_eq_true rfl) (by omega) (c_X7_readTwo (d := d - 1) (inn := inn) hE h4 (by omega) hI T t n (ps_skn t n (rd_bh t n p)) c ⟨hG, hc9, by omega⟩) (Nat.le_refl _) (Nat.le_refl _) (fun v9 W9 T2 g q9 hT => ?_) (fun E W2 C2 g q9 _ => by obtain ⟨_, h9, _⟩ := q9; cases h9)
      obtain ⟨e8, e9, r1⟩ := q9
      have e7 := e8.symm
      subst e7
      cases e9
      have r1 : rd_Q T t n (ps_skn t n (rd_bh t n p)) c (rd_two t n (inn t n) (ps_skn t n (rd_bh t n p))) T2 := r1
      refine ev_aload_n dX7_readNamed_67 rfl rfl ?_
      refine ev_bipush (v := -14) dX7_readNamed_68 (by decide) ?_
      cases hr : rd_two t n (inn t n) (ps_skn t n (rd_bh t n p)) with
      | inl e =>
        rw [hr] at r1
        have r2 := q0.lt r1
        obtain ⟨c2, hc2, h300⟩ := r2.2.1
        refine cw_call1 (d' := d - 1) hE hT dX7_readNamed_70 rfl kX7_emit lX7_168 iX7_emit vX7_emit (k := 4) (i := 0) rfl ob4 rfl (Nat.le_of_ble_eq_true rfl) (by omega) (c_X7_emit hE hc2 (by omega)) (fun g hT => ?_)
        refine ev_goto (tgt := 91) dX7_readNamed_73 (by decide) ?_
        exact ev_vret dX7_readNamed_91 rfl ⟨W, _, ⟨rfl, rfl, by rw [hu, (rd_two_is false).1 e hr]; exact r2.emF hc2 h300⟩, hT⟩
      | inr v =>
        obtain ⟨h, L, Cl, F⟩ := v
        rw [hr] at r1
        have r2 : rd_Q C t n p c (.inr (h, [], [] ++ Cl, fun _ => 0)) T2 := q0.app r1
        have b1 := r1.2.2.2.1
        have l9 := r1.1.le
        obtain ⟨L2, F2, h2⟩ := (rd_two_is false).2 h L Cl F hr
        refine cw_call1 (d' := d - 1) hE hT dX7_readNamed_70 rfl kX7_emit lX7_168 iX7_emit vX7_emit (k := 4) (i := 0) rfl ob4 rfl (Nat.le_of_ble_eq_true rfl) (by omega) (c_X7_emit hE r2.2.2.1 (by have : ([] ++ Cl : List Int32).length = Cl.length := rfl; omega)) (fun g hT => ?_)
        refine ev_goto (tgt := 91) dX7_readNamed_73 (by decide) ?_
        exact ev_vret dX7_readNamed_91 rfl ⟨W, _, ⟨rfl, rfl, by rw [hu, h2]; exact r2.em (x := -14) (L3 := L2) (F3 := F2) (by have : ([] ++ Cl : List Int32).length = Cl.length := rfl; omega) hP.2.2⟩, hT⟩
    · refine ev_tableIn (tgt := 76) (off := 53) dX7_readNamed_23 (by decide) (by decide) (by rfl) (by decide) ?_
      refine ev_aload_n dX7_readNamed_76 rfl rfl ?_
      refine ev_iload_n dX7_readNamed_77 rfl rfl ?_
      refine cw_callr1 (d' := d - 1) (b := 0) (n0 := 0) hE hT dX7_readNamed_78 rfl kX7_readIf lX7_185 iX7_readIf vX7_readIf (k := 4) (i := 0) rfl ob4 rfl (Nat.le_of_ble_eq_true rfl) (by omega) (c_X7_readIf (d := d - 1) (inn := inn) hE h4 (by omega) hI T t n (ps_skn t n (rd_bh t n p)) c ⟨hG, hc9, by omega⟩) (Nat.le_refl _) (Nat.le_refl _) (fun v9 W9 T2 g q9 hT => ?_) (fun E W2 C2 g q9 _ => by obtain ⟨_, h9, _⟩ := q9; cases h9)
      obtain ⟨e8, e9, r1⟩ := q9
      have e7 := e8.symm
      subst e7
      cases e9
      have r1 : rd_Q T t n (ps_skn t n (rd_bh t n p)) c (ps_if t n (inn t n) (ps_skn t n (rd_bh t n p))) T2 := r1
      refine ev_goto (tgt := 91) dX7_readNamed_81 (by decide) ?_
      refine ev_vret dX7_readNamed_91 rfl ⟨W, _, ⟨rfl, rfl, ?_⟩, hT⟩
      rw [hu]
      cases hr : ps_if t n (inn t n) (ps_skn t n (rd_bh t n p)) with
      | inl e => rw [hr] at r1; exact q0.lt r1
      | inr v =>
        obtain ⟨h, L, Cl, F⟩ := v
        rw [hr] at r1
        exact q0.app r1
end RL
