section DG
theorem cw_T.sc4 {G : ev_G} {K : Nat → Prop} {g0 g : ev_H} {W : cw_W} {C C3 : mo_S} (hT : cw_T G K g0 W g C) (h : ∀ f x, ¬ ((f = 28 ∨ f = 33) ∧ x ≠ 0) → C3.1 f x = C.1 f x) (h2 : C3.2 = C.2) : cw_T G K g0 W g C3 := by
  have hob := (hT.at (k := 4) (i := 0) rfl).1 _ _ ob4
  have key := hT.set (k := 4) (i := 0) (C2 := C3) (e := .inr (8, [.ref (W 5 0), .int (C.1 28 0), .int (C.1 116 0), .int (C.1 117 0), .int (C.1 118 0), .int (C.1 119 0), .int (C.1 120 0), .int (C.1 33 0), .ref (W 6 0), .int (C.1 122 0)])) rfl (fun f hf => ?_) (fun f x hn => ?_) (fun _ => h2) (cw_at_ob (by decide) ob4 ?_)
  · have e : ev_up g (W 4 0) (.inr (8, [.ref (W 5 0), .int (C.1 28 0), .int (C.1 116 0), .int (C.1 117 0), .int (C.1 118 0), .int (C.1 119 0), .int (C.1 120 0), .int (C.1 33 0), .ref (W 6 0), .int (C.1 122 0)])) = g := by
      funext b
      by_cases q : b = W 4 0
      · rw [q, ev_up_s, hob]
      · rw [ev_up_n _ _ q]
    rw [e] at key
    exact key
  · funext x
    refine h f x (fun q => ?_)
    rcases q.1 with e | e
    · subst e; revert hf; decide
    · subst e; revert hf; decide
  · refine h f x (fun q => hn ?_)
    rcases q.1 with e | e
    · subst e; rfl
    · subst e; rfl
  · rw [h 28 0 (by omega), h 116 0 (by omega), h 117 0 (by omega), h 118 0 (by omega), h 119 0 (by omega), h 120 0 (by omega), h 33 0 (by omega), h 122 0 (by omega)]
    exact ev_up_s _ _ _
theorem cl_ordS {C S C3 S2 : mo_S} (h : cl_S C S) (hk : ∀ k, (k = 28 ∨ k = 29 ∨ k = 33) → C3.1 k = S2.1 k) (hS : ∀ k, k ≠ 0 → k ≠ 28 → k ≠ 29 → ¬ (30 ≤ k ∧ k ≤ 41) → S2.1 k = S.1 k) (hC : ∀ k, (k < 100 ∨ k = 115 ∨ k = 126 ∨ k = 134) → k ≠ 28 → k ≠ 29 → ¬ (30 ≤ k ∧ k ≤ 41) → C3.1 k = C.1 k) (h133 : C3.1 133 0 = 0) : cl_S C3 S2 := by
  obtain ⟨h1, h2, h3, h4, h5, h6, h7⟩ := h
  have q : ∀ k, k ∈ cl_K → k = 33 ∨ (k < 100 ∧ k ≠ 0 ∧ ¬ (30 ≤ k ∧ k ≤ 41)) := by decide
  refine ⟨fun k hk2 => ?_, fun p => ?_, fun p j hp hj => ?_, fun j hj => ?_, ⟨?_, h133⟩, fun m p y hm hp hy => ?_, fun a ha => ?_⟩
  · by_cases e : k = 28 ∨ k = 29 ∨ k = 33
    · exact hk k e
    · have r := (q k hk2).resolve_left (by omega)
      rw [hC k (Or.inl r.1) (by omega) (by omega) r.2.2, hS k r.2.1 (by omega) (by omega) r.2.2]
      exact h1 k hk2
  · rw [hC 14 (by omega) (by omega) (by omega) (by omega), hC 15 (by omega) (by omega) (by omega) (by omega), hS 12 (by omega) (by omega) (by omega) (by omega), hS 14 (by omega) (by omega) (by omega) (by omega), hS 15 (by omega) (by omega) (by omega) (by omega)]; exact h2 p
  · rw [hS 60 (by omega) (by omega) (by omega) (by omega), hS 61 (by omega) (by omega) (by omega) (by omega)]
    exact h3 p j (by unfold sp_P at hp ⊢; rw [hS 1 (by omega) (by omega) (by omega) (by omega)] at hp; exact hp) hj
  · unfold ps_tx
    rw [hC 115 (by omega) (by omega) (by omega) (by omega), hS 27 (by omega) (by omega) (by omega) (by omega)]; exact h4 j hj
  · rw [hC 134 (by omega) (by omega) (by omega) (by omega), hS 2 (by omega) (by omega) (by omega) (by omega)]; exact h5.1
  · unfold cl_row; rw [hC 126 (by omega) (by omega) (by omega) (by omega), hS 56 (by omega) (by omega) (by omega) (by omega), hS 55 (by omega) (by omega) (by omega) (by omega)]
    exact h6 m p y (by unfold sp_M at hm ⊢; rw [hS 2 (by omega) (by omega) (by omega) (by omega)] at hm; exact hm) hp hy
  · rw [hS 67 (by omega) (by omega) (by omega) (by omega), hS 3 (by omega) (by omega) (by omega) (by omega), hS 63 (by omega) (by omega) (by omega) (by omega)]
    exact h7 a (by unfold sp_A at ha ⊢; rw [hS 62 (by omega) (by omega) (by omega) (by omega)] at ha; exact ha)
theorem od_at_X {i f x : Nat} (h : od_at i f x) : f ∉ od_X := fun q => by
  simp only [od_X, List.mem_cons, List.mem_nil_iff, or_false] at q
  unfold od_at at h
  omega
theorem cl_order {B : Int} {C S : mo_S} {F : mo_Fn} {OL : Nat → List od_q} (h : cl_R B C S F OL) {x1 x2 : Int32} {m : Nat} (h28 : S.1 28 0 = nI m) (hm : m ≤ 300) {o : Option Value ⊕ String} {C2 : mo_S} {r : Option Value} {S2 : mo_S} (h133 : C2.1 133 0 = 0) (hc : ((sp_in x1 0 600 && sp_in x2 0 (nI m)) = false ∧ o = .inr "java/lang/IllegalArgumentException" ∧ C2 = C) ∨ (sp_in x1 0 600 = true ∧ ∃ n, x2 = nI n ∧ n ≤ m ∧ od_oq C x1 (ps_tx S) n o C2))
    (hq : (r = some (.int 0) ∧ (sp_in x1 0 600 && sp_in x2 0 (nI m)) = false ∧ S2 = mo_up S 0 0 1) ∨ ((sp_in x1 0 600 && sp_in x2 0 (nI m)) = true ∧ ∃ n, x2 = nI n ∧ n ≤ m ∧ sp_ordQ S (sp_O S) n x1 r S2)) : ∃ C3 : mo_S, (∀ f x, ¬ ((f = 28 ∨ f = 33) ∧ x ≠ 0) → C3.1 f x = C2.1 f x) ∧ C3.2 = C2.2 ∧ cl_fin B [cl_IA] o C3 r S2 := by
  rcases hc with ⟨b1, rfl, rfl⟩ | ⟨a1, n, rfl, hn, hc⟩
  · rcases hq with ⟨rfl, b2, rfl⟩ | ⟨b2, -⟩
    · exact ⟨_, fun _ _ _ => rfl, rfl, 0, rfl, Or.inr ⟨0, _, rfl, rfl, by rw [mo_up_at, pk_us]; rfl⟩, F, OL, h.u0.le (by omega)⟩
    · rw [b1] at b2; cases b2
  · have hin : sp_in (nI n) 0 (nI m) = true := decide_eq_true ⟨nI_pos' (by omega), nI_le hn (by omega)⟩
    rcases hq with ⟨-, b2, -⟩ | ⟨-, n', en, hn', hq⟩
    · rw [a1, hin] at b2; cases b2
    have en' : n = n' := mo_niinj (by omega) (by omega) en
    subst en'
    have sO := h.1.sz.2.2.1
    have hO10 := h.J.O.2
    obtain ⟨c28, hc⟩ := hc
    rw [sO] at hc
    refine ⟨(fun f x => if (f = 28 ∨ f = 33) ∧ x ≠ 0 then S2.1 f x else C2.1 f x, C2.2), fun f x q => if_neg q, rfl, ?_⟩
    generalize hC3 : ((fun f x => if (f = 28 ∨ f = 33) ∧ x ≠ 0 then S2.1 f x else C2.1 f x, C2.2) : mo_S) = C3
    have c3 : ∀ f, f ≠ 28 → f ≠ 33 → C3.1 f = C2.1 f := fun f a b => by
      rw [← hC3]; funext x; exact if_neg (by omega)
    have c3z : ∀ f, (f = 28 ∨ f = 33) → C2.1 f 0 = S2.1 f 0 → C3.1 f = S2.1 f := fun f a b => by
      rw [← hC3]; funext x
      by_cases e : x = 0
      · rw [e]; exact (if_neg (by omega)).trans b
      · exact if_pos ⟨a, e⟩
    have hK := mo_I.order h.2.2.1 h.2.2.2 a1 hq
    rcases hc with ⟨z, rfl, z33, zC⟩ | ⟨z, hR⟩
    · rcases hq with ⟨y, rfl, rfl⟩ | ⟨y, -⟩
      · have eF : sp_ordF S F n = F := if_pos y
        rw [eF] at hK
        refine ⟨-1, rfl, Or.inl ⟨rfl, ?_⟩, F, OL, cl_ordS h.1 (fun k hk => ?_) (fun k k0 k28 k29 k30 => ?_) (fun k hk k28 k29 k30 => ?_) ?_, ?_, hK.imp (fun q => (mo_K.le ⟨q, hK.2⟩ (show B ≤ B + 2000 by omega)).1) id⟩
        · rw [mo_up_ne (by decide), mo_up_ne (by decide), mo_up_at, pk_us]
        · rcases hk with rfl | rfl | rfl
          · refine c3z 28 (Or.inl rfl) ?_
            rw [c28, mo_up_at, pk_us]
          · rw [c3 29 (by decide) (by decide), mo_up_ne (by decide), mo_up_ne (by decide), mo_up_ne (by decide), ← h.1.k 29 (by decide)]
            funext x
            exact zC 29 x (by decide) (by unfold od_at; omega)
          · refine c3z 33 (Or.inr rfl) ?_
            rw [z33, mo_up_ne (by decide), mo_up_ne (by decide), mo_up_ne (by decide)]
            exact (h.2.2.1.2.2.1.2.2.2.2.2.1 y).symm
        · rw [mo_up_ne k28, mo_up_ne (by omega), mo_up_ne k0]
        · rw [c3 k k28 (by omega)]
          funext x
          exact zC k x (fun q => by simp only [od_X, List.mem_cons, List.mem_nil_iff, or_false] at q; omega) (by unfold od_at; omega)
        · rw [c3 133 (by decide) (by decide)]; exact h133
        · have hCo : ∀ f x, f ∉ od_X → ¬ od_at 11 f x → C3.1 f x = C.1 f x := fun f x a b => by
            rw [c3 f (fun e => a (by rw [e]; decide)) (fun e => a (by rw [e]; decide))]; exact zC f x a b
          refine cl_O.s (S := S) ?_ (fun k hk => by rw [mo_up_ne (by omega), mo_up_ne (by omega), mo_up_ne (by omega)])
          refine ⟨h.2.1.1.cg (fun f x q => hCo f x (od_at_X q) (fun q2 => by unfold od_at at q q2; omega)), fun b hb => ?_⟩
          obtain ⟨q1, q2, q3⟩ := h.2.1.2 b hb
          exact ⟨by rw [hCo 36 b (by decide) (by unfold od_at; omega)]; exact q1, q2.cg (fun f x q => hCo f x (od_at_X q) (fun q2 => by unfold od_at at q q2; omega)), q3⟩
      · omega
    · rcases hq with ⟨y, -⟩ | ⟨y, hE, hq⟩
      · omega
      · obtain ⟨E1, E2, E3, E4, E5⟩ := hE
        have S00 : S2.1 0 0 = 0 := by rw [E4, pk_us]
        have S28 : S2.1 28 0 = 0 := by rw [E5, pk_us]
        cases hos : ps_os (ps_tx S) n 12 (ps_skn (ps_tx S) n 0) with
        | inl e =>
          obtain ⟨f, pl⟩ := e
          rw [hos] at hR hq
          obtain ⟨r1, r2, rfl, r33, rC⟩ := hR
          obtain ⟨rfl, s33, s29, s36, s37⟩ := hq
          have eF : sp_ordF S F n = F := by unfold sp_ordF; rw [if_neg (by omega), hos]
          rw [eF] at hK
          have hCo : ∀ f x, f ∉ od_X → ¬ od_at 11 f x → C3.1 f x = C.1 f x := fun f x a b => by
            rw [c3 f (fun e => a (by rw [e]; decide)) (fun e => a (by rw [e]; decide))]; exact rC f x a b
          refine ⟨_, rfl, Or.inl ⟨rfl, S00⟩, F, OL, cl_ordS h.1 (fun k hk => ?_) E1 (fun k hk k28 k29 k30 => ?_) ?_, ?_, mo_K.le hK (by omega)⟩
          · rcases hk with rfl | rfl | rfl
            · exact c3z 28 (Or.inl rfl) (c28.trans S28.symm)
            · rw [s29, ← h.1.k 29 (by decide)]
              funext x
              exact hCo 29 x (by decide) (by unfold od_at; omega)
            · exact c3z 33 (Or.inr rfl) (r33.trans s33.symm)
          · funext x
            exact hCo k x (fun q => by simp only [od_X, List.mem_cons, List.mem_nil_iff, or_false] at q; omega) (by unfold od_at; omega)
          · rw [c3 133 (by decide) (by decide)]; exact h133
          · have eO : sp_O S2 = sp_O S := by unfold sp_O; rw [s29]
            refine ⟨h.2.1.1.cg (fun f x q => hCo f x (od_at_X q) (fun q2 => by unfold od_at at q q2; omega)), fun b hb => ?_⟩
            rw [eO] at hb
            obtain ⟨q1, q2, q3, q4, q5⟩ := h.2.1.2 b hb
            refine ⟨by rw [s36, hCo 36 b (by decide) (by unfold od_at; omega)]; exact q1, q2.cg (fun f x q => hCo f x (od_at_X q) (fun q2 => by unfold od_at at q q2; omega)), q3, by rw [s37]; exact q4, fun i q hi => ?_⟩
            have hi2 : i < (OL b).length := by
              rcases Nat.lt_or_ge i (OL b).length with y | y
              · exact y
              · rw [List.getElem?_eq_none y] at hi; cases hi
            rw [(E2 (12 * b + i) (by omega)).1, (E2 (12 * b + i) (by omega)).2]
            exact q5 i q hi
        | inr l =>
          rw [hos] at hR hq
          obtain ⟨rfl, r33, r29, r36, rS, rC⟩ := hR
          obtain ⟨rfl, s33, s29, s36, s37, sLW⟩ := hq
          have hl12 := ps_os_len hos
          have eF : sp_ordF S F n = mo_F2 F (sp_O S) l := by unfold sp_ordF; rw [if_neg (by omega), hos]
          rw [eF] at hK
          have hCo : ∀ f x, f ∉ od_X → ¬ od_at 11 f x → ¬ od_at (sp_O S) f x → ¬ (f = 29 ∧ x = 0) → C3.1 f x = C.1 f x := fun f x a b c e => by
            rw [c3 f (fun e => a (by rw [e]; decide)) (fun e => a (by rw [e]; decide))]; exact rC f x a b c e
          have hCN : ∀ f x, od_at (sp_O S) f x → C3.1 f x = C2.1 f x := fun f x q => by
            rw [c3 f (fun e => od_at_X q (by rw [e]; decide)) (fun e => od_at_X q (by rw [e]; decide))]
          refine ⟨_, rfl, Or.inl ⟨rfl, S00⟩, mo_F2 F (sp_O S) l, fun b => if b = sp_O S then l else OL b, cl_ordS h.1 (fun k hk => ?_) E1 (fun k hk k28 k29 k30 => ?_) ?_, ?_, mo_K.le hK (by omega)⟩
          · rcases hk with rfl | rfl | rfl
            · exact c3z 28 (Or.inl rfl) (c28.trans S28.symm)
            · rw [s29, c3 29 (by decide) (by decide)]
              funext x
              by_cases e : x = 0
              · rw [e, pk_us]; exact r29
              · rw [pk_un e, ← h.1.k 29 (by decide)]
                exact rC 29 x (by decide) (by unfold od_at; omega) (by unfold od_at; omega) (by omega)
            · exact c3z 33 (Or.inr rfl) (r33.trans s33.symm)
          · funext x
            exact hCo k x (fun q => by simp only [od_X, List.mem_cons, List.mem_nil_iff, or_false] at q; omega) (by unfold od_at; omega) (by unfold od_at; omega) (by omega)
          · rw [c3 133 (by decide) (by decide)]; exact h133
          · have eO : sp_O S2 = sp_O S + 1 := (congrArg Int32.toNatClampNeg (by rw [s29, pk_us])).trans (nI_clamp (n := sp_O S + 1) (by omega))
            have hoth : ∀ b, b ≠ sp_O S → b < 11 → ∀ f x, od_at b f x → C3.1 f x = C.1 f x := fun b b1 b2 f x q => hCo f x (od_at_X q) (fun q2 => by unfold od_at at q q2; omega) (fun q2 => by unfold od_at at q q2; omega) (fun q2 => by unfold od_at at q; omega)
            refine ⟨h.2.1.1.cg (hoth 10 (by omega) (by omega)), fun b hb => ?_⟩
            rw [eO] at hb
            by_cases e : b = sp_O S
            · subst e
              dsimp only
              rw [if_pos rfl]
              refine ⟨by rw [s36, pk_us, hCN 36 _ (by unfold od_at; omega)]; exact r36, rS.cg hCN, hl12, by rw [s37, pk_us], fun i q hi => ?_⟩
              obtain ⟨cn, y1, y2, y3, y4⟩ := ps_LW.at sLW hi
              rw [Nat.zero_add] at y2 y3
              refine ⟨y2, ps_os_ok hos q (List.mem_of_getElem? hi), fun hw => by rw [y3, if_neg hw], fun hw => ?_⟩
              unfold mo_F2
              funext v
              rw [if_pos (by omega), show 12 * sp_O S + i - 12 * sp_O S = i by omega, hi]
            · dsimp only
              rw [if_neg e]
              obtain ⟨q1, q2, q3, q4, q5⟩ := h.2.1.2 b (by omega)
              refine ⟨by rw [s36, pk_un e, hoth b e (by omega) 36 b (by unfold od_at; omega)]; exact q1, q2.cg (hoth b e (by omega)), q3, by rw [s37, pk_un e]; exact q4, fun i q hi => ?_⟩
              have hi2 : i < (OL b).length := by
                rcases Nat.lt_or_ge i (OL b).length with y | y
                · exact y
                · rw [List.getElem?_eq_none y] at hi; cases hi
              obtain ⟨p1, p2, p3, p4⟩ := q5 i q hi
              rw [(E2 (12 * b + i) (by omega)).1, (E2 (12 * b + i) (by omega)).2]
              refine ⟨p1, p2, p3, fun hw => ?_⟩
              rw [← p4 hw]
              unfold mo_F2
              funext v
              rw [if_neg (by omega)]
end DG
