section CM4
theorem cx_m1 (c : Int32) : -1 - (-1 - c) = c := by
  rw [Int32.sub_eq_add_neg (-1) (-1 - c), Int32.neg_sub, Int32.add_comm, Int32.sub_add_cancel]
theorem cx_s1 (n : Nat) : nI (n + 1) - 1 = nI n := pk_sub (a := n + 1) (b := 1) (by omega)
theorem cx_pile_get {f : Nat → Int32} {x : Int32} {r : List Int32} (h : sp_pile f (x :: r)) : f r.length = x := h.1
theorem c_X10_of {G : ev_G} {W : cw_W} {d D0 : Nat} {C : mo_S} {k b p len : Nat} {h : Nat → Int32} {pages month F : Int32} {L : List Int32} (hE : ev_En G) (h4 : ev_En4 G D0) (hd : 2 ≤ d) (hk0 : k = 29 ∨ k = 30) (hl : cw_lv C k b) (ha : cw_ar C k b = some (len, h)) (hlen : len ≤ 300) (hp : p < sp_P C) (hL : L.length = len) (hh : ∀ j, j < len → L[j]? = some (h j)) (hr : ps_crun (cx_v C p pages month) L [] = some [F]) : cw_R G W d 0 0 mX10_of [.ref (W 7 0), .ref (W k b), .ref (W 20 p), .int pages, .int month] C (fun o W2 C2 => W2 = W ∧ o = .inl (some (.int F)) ∧ cx_eqV C2 C) := by
  refine cw_startR (lv0 := [some (.ref (W 7 0)), some (.ref (W k b)), some (.ref (W 20 p)), some (.int pages), some (.int month), none, none, none, none]) (by decide +kernel) rfl (Nat.le_of_ble_eq_true rfl) rfl ?_
  intro K g0 g hT
  refine ev_iconst (v := 0) dX10_of_0 (by decide) ?_
  refine ev_istore dX10_of_1 (Nat.le_of_ble_eq_true rfl) rfl ?_
  refine ev_iconst (v := 0) dX10_of_3 (by decide) ?_
  refine ev_istore dX10_of_4 (Nat.le_of_ble_eq_true rfl) rfl ?_
  have loop : ∀ (n i : Nat), i ≤ len → len < i + n → ∀ (T : mo_S) (st : List Int32) (z1 z2 : Option Value) g, cx_eqV T C → sp_pile (T.1 123) st → st.length ≤ 64 → ps_crun (cx_v C p pages month) (L.drop i) st = some [F] → cw_T G K g0 W g T → ev_V G d 0 0 mX10_of (fun o g' => ∃ W2 C2, (W2 = W ∧ o = .inl (some (.int F)) ∧ cx_eqV C2 C) ∧ cw_T G K g0 W2 g' C2) g 6 [some (.ref (W 7 0)), some (.ref (W k b)), some (.ref (W 20 p)), some (.int pages), some (.int month), some (.int (nI st.length)), some (.int (nI i)), z1, z2] [] := by
    intro n
    induction n with
    | zero => intro i h1 h2; exact absurd h2 (by omega)
    | succ n ih =>
      intro i h1 h2 T st z1 z2 g hq hpl hst hrun hT
      have ha2 : cw_ar T k b = some (len, h) := by rw [hq.ar hk0]; exact ha
      have hl2 : cw_lv T k b := hq.lv.mpr hl
      have hp2 : p < sp_P T := by
        have e : sp_P T = sp_P C := congrArg (fun z => (z 0).toNatClampNeg) (hq.1 1 (by decide))
        omega
      refine ev_iload dX10_of_6 rfl ?_
      refine ev_aload_n dX10_of_8 rfl rfl ?_
      refine cw_alen hE hT dX10_of_9 (k := k) (i := b) hl2 ha2 ?_
      refine ev_icmp_ge (tgt := 190) dX10_of_10 (by decide) (fun c_10 => ?_) (fun c_10 => ?_)
      · have e : i = len := by
          have := Nat.lt_or_ge i len
          rcases this with q | q
          · exact absurd c_10 (nI_ge q (by omega))
          · omega
        rw [e, ← hL, List.drop_length] at hrun
        have e2 : st = [F] := Option.some.inj hrun
        subst e2
        refine ev_iload dX10_of_190 rfl ?_
        refine ev_if_le (tgt := 207) dX10_of_192 (by decide) (fun c => absurd c (show ¬ nI 1 ≤ 0 by decide)) (fun _ => ?_)
        refine ev_aload_n dX10_of_195 rfl rfl ?_
        refine cw_getf hE hT dX10_of_196 fX10_9 (k := 7) (i := 0) rfl ob7 rfl ?_
        refine ev_iload dX10_of_199 rfl ?_
        refine ev_iconst (v := 1) dX10_of_201 (by decide) ?_
        refine ev_isub dX10_of_202 ?_
        refine cw_ial (q := 0) (v := F) hE hT dX10_of_203 (k := 8) (i := 0) rfl ar8 (show nI 1 - 1 = nI 0 by decide) (by decide) (by decide) hpl.1 ?_
        refine ev_goto (tgt := 208) dX10_of_204 (by decide) ?_
        exact ev_iret dX10_of_208 rfl rfl ⟨W, T, ⟨rfl, rfl, hq⟩, hT⟩
      · have hi : i < len := by
          have := Nat.lt_or_ge i len
          rcases this with q | q
          · exact q
          · exact absurd (nI_le (by omega) (by omega)) c_10
        have hLi : L.drop i = h i :: L.drop (i + 1) := by
          have q1 : i < L.length := by omega
          rw [List.drop_eq_getElem_cons q1]
          have q2 := hh i hi
          rw [List.getElem?_eq_getElem q1] at q2
          rw [Option.some.inj q2]
        rw [hLi] at hrun
        generalize hc : h i = c at hrun
        have hrun2 : (ps_cst (cx_v C p pages month) c st).bind (ps_crun (cx_v C p pages month) (L.drop (i + 1))) = some [F] := hrun
        refine ev_aload_n dX10_of_13 rfl rfl ?_
        refine ev_iload dX10_of_14 rfl ?_
        refine cw_ial (q := i) (v := c) hE hT dX10_of_16 (k := k) (i := b) hl2 ha2 rfl hi (by omega) hc ?_
        refine ev_istore dX10_of_17 (Nat.le_of_ble_eq_true rfl) rfl ?_
        refine ev_iload dX10_of_19 rfl ?_
        refine ev_bipush (v := -8) dX10_of_21 (by decide) ?_
        have next : ∀ (T2 : mo_S) (st2 : List Int32) (z2 : Option Value) g, cx_eqV T2 C → sp_pile (T2.1 123) st2 → st2.length ≤ 64 → ps_crun (cx_v C p pages month) (L.drop (i + 1)) st2 = some [F] → cw_T G K g0 W g T2 → ev_V G d 0 0 mX10_of (fun o g' => ∃ W2 C2, (W2 = W ∧ o = .inl (some (.int F)) ∧ cx_eqV C2 C) ∧ cw_T G K g0 W2 g' C2) g 184 [some (.ref (W 7 0)), some (.ref (W k b)), some (.ref (W 20 p)), some (.int pages), some (.int month), some (.int (nI st2.length)), some (.int (nI i)), some (.int c), z2] [] := by
          intro T2 st2 z2 g hq2 hpl2 hst2 hrun3 hT2
          refine ev_iinc (v := nI (i + 1)) dX10_of_184 rfl (nI_1 i) rfl ?_
          refine ev_goto (tgt := 6) dX10_of_187 (by decide) ?_
          exact ih (i + 1) (by omega) (by omega) T2 st2 _ z2 g hq2 hpl2 hst2 hrun3 hT2
        refine ev_icmp_lt (tgt := 68) dX10_of_23 (by decide) (fun c_23 => ?_) (fun c_23 => ?_)
        · have n8 : ¬ (-8 : Int32) ≤ c := Int32.not_le.mpr c_23
          refine ev_iload dX10_of_68 rfl ?_
          refine ev_bipush (v := -14) dX10_of_70 (by decide) ?_
          refine ev_icmp_lt (tgt := 117) dX10_of_72 (by decide) (fun c_72 => ?_) (fun c_72 => ?_)
          · have n14 : ¬ (-14 : Int32) ≤ c := Int32.not_le.mpr c_72
            match st, hst, hpl, hrun2 with
            | [], _, _, hr3 => simp only [ps_cst, if_neg n8, if_neg n14] at hr3; exact absurd hr3 (by simp)
            | [_], _, _, hr3 => simp only [ps_cst, if_neg n8, if_neg n14] at hr3; exact absurd hr3 (by simp)
            | [_, _], _, _, hr3 => simp only [ps_cst, if_neg n8, if_neg n14] at hr3; exact absurd hr3 (by simp)
            | [_, _, _], _, _, hr3 => simp only [ps_cst, if_neg n8, if_neg n14] at hr3; exact absurd hr3 (by simp)
            | z :: y :: b2 :: a :: r, hst, hpl, hr3 =>
              simp only [ps_cst, if_neg n8, if_neg n14] at hr3
              have hr4 : ps_crun (cx_v C p pages month) (L.drop (i + 1)) ((if sp_X12_worked (-6 - c) a b2 = 1 then y else z) :: r) = some [F] := hr3
              have hst2 : r.length + 4 ≤ 64 := hst
              have p1 : T.1 123 (r.length + 3) = z := hpl.1
              have p2 : T.1 123 (r.length + 2) = y := hpl.2.1
              have p3 : T.1 123 (r.length + 1) = b2 := hpl.2.2.1
              have p4 : T.1 123 r.length = a := hpl.2.2.2.1
              show ev_V G d 0 0 mX10_of _ g 117 [some (.ref (W 7 0)), some (.ref (W k b)), some (.ref (W 20 p)), some (.int pages), some (.int month), some (.int (nI (r.length + 4))), some (.int (nI i)), some (.int c), z2] []
              refine ev_iload dX10_of_117 rfl ?_
              refine ev_iconst (v := 4) dX10_of_119 (by decide) ?_
              refine ev_icmp_lt (tgt := 184) dX10_of_120 (by decide) (fun q => absurd q (nI_nlt (a := r.length + 4) (b := 4) (by omega) (by omega))) (fun _ => ?_)
              refine ev_iinc (v := nI (r.length + 1)) dX10_of_123 rfl (cj_m3 _) rfl ?_
              refine ev_iload dX10_of_126 rfl ?_
              refine ev_aload_n dX10_of_128 rfl rfl ?_
              refine cw_getf hE hT dX10_of_129 fX10_9 (k := 7) (i := 0) rfl ob7 rfl ?_
              refine ev_iload dX10_of_132 rfl ?_
              refine ev_iconst (v := 1) dX10_of_134 (by decide) ?_
              refine ev_isub dX10_of_135 ?_
              refine cw_ial (q := r.length) (v := a) hE hT dX10_of_136 (k := 8) (i := 0) rfl ar8 (cx_s1 _) (by omega) (by decide) p4 ?_
              refine ev_aload_n dX10_of_137 rfl rfl ?_
              refine cw_getf hE hT dX10_of_138 fX10_9 (k := 7) (i := 0) rfl ob7 rfl ?_
              refine ev_iload dX10_of_141 rfl ?_
              refine cw_ial (q := r.length + 1) (v := b2) hE hT dX10_of_143 (k := 8) (i := 0) rfl ar8 rfl (by omega) (by decide) p3 ?_
              refine ev_pS3 (d' := d - 1) dX10_of_144 rfl kX10_compared lX10_23 sX10_compared (Nat.le_of_ble_eq_true rfl) (by omega) c_X10_compared ?_
              refine ev_istore dX10_of_147 (Nat.le_of_ble_eq_true rfl) rfl ?_
              refine ev_aload_n dX10_of_149 rfl rfl ?_
              refine cw_getf hE hT dX10_of_150 fX10_9 (k := 7) (i := 0) rfl ob7 rfl ?_
              refine ev_iload dX10_of_153 rfl ?_
              refine ev_iconst (v := 1) dX10_of_155 (by decide) ?_
              refine ev_isub dX10_of_156 ?_
              refine ev_iload dX10_of_157 rfl ?_
              have fin : ∀ v g, v = (if sp_X12_worked (-6 - c) a b2 = 1 then y else z) → cw_T G K g0 W g T → ev_V G d 0 0 mX10_of (fun o g' => ∃ W2 C2, (W2 = W ∧ o = .inl (some (.int F)) ∧ cx_eqV C2 C) ∧ cw_T G K g0 W2 g' C2) g 183 [some (.ref (W 7 0)), some (.ref (W k b)), some (.ref (W 20 p)), some (.int pages), some (.int month), some (.int (nI (r.length + 1))), some (.int (nI i)), some (.int c), some (.int (mo_b (cx_X10_compared c a b2)))] (.int v :: .int (nI (r.length + 1) - 1) :: .ref (W 8 0) :: []) := by
                intro v g hv hT
                rw [hv]
                refine cw_ias (q := r.length) (f := 123) (ix := r.length) hE hT dX10_of_183 (k := 8) (i := 0) rfl ar8 (cx_s1 _) (by omega) (by decide) rfl (by decide) (by decide) (pa8 (i := 0)) (fun g hT => ?_)
                exact next (mo_up T 123 r.length _) ((if sp_X12_worked (-6 - c) a b2 = 1 then y else z) :: r) _ g hq.up ⟨by rw [mo_up_at]; exact pk_us, by rw [mo_up_at]; exact sp_pile_up hpl.2.2.2.2 (Nat.le_refl _)⟩ (by show r.length + 1 ≤ 64; omega) hr4 hT
              have hcmp := cj_compared c_72 a b2
              refine ev_if_eq (tgt := 174) dX10_of_159 (by decide) (fun c_159 => ?_) (fun c_159 => ?_)
              · refine ev_aload_n dX10_of_174 rfl rfl ?_
                refine cw_getf hE hT dX10_of_175 fX10_9 (k := 7) (i := 0) rfl ob7 rfl ?_
                refine ev_iload dX10_of_178 rfl ?_
                refine ev_iconst (v := 2) dX10_of_180 (by decide) ?_
                refine ev_iadd dX10_of_181 ?_
                refine cw_ial (q := r.length + 3) (v := z) hE hT dX10_of_182 (k := 8) (i := 0) rfl ar8 (nI_add _ 2) (by omega) (by decide) p1 ?_
                exact fin z g (by rw [hcmp, c_159]; rfl) hT
              · refine ev_aload_n dX10_of_162 rfl rfl ?_
                refine cw_getf hE hT dX10_of_163 fX10_9 (k := 7) (i := 0) rfl ob7 rfl ?_
                refine ev_iload dX10_of_166 rfl ?_
                refine ev_iconst (v := 1) dX10_of_168 (by decide) ?_
                refine ev_iadd dX10_of_169 ?_
                refine cw_ial (q := r.length + 2) (v := y) hE hT dX10_of_170 (k := 8) (i := 0) rfl ar8 (nI_1 _) (by omega) (by decide) p2 ?_
                refine ev_goto (tgt := 183) dX10_of_171 (by decide) ?_
                exact fin y g (by rw [hcmp]; cases hb : cx_X10_compared c a b2 with
                  | false => rw [hb] at c_159; exact absurd rfl c_159
                  | true => rfl) hT
          · have y14 : (-14 : Int32) ≤ c := Int32.not_lt.mp c_72
            match st, hst, hpl, hrun2 with
            | [], _, _, hr3 => simp only [ps_cst, if_neg n8, if_pos y14] at hr3; exact absurd hr3 (by simp)
            | [_], _, _, hr3 => simp only [ps_cst, if_neg n8, if_pos y14] at hr3; exact absurd hr3 (by simp)
            | y :: x :: r, hst, hpl, hr3 =>
              simp only [ps_cst, if_neg n8, if_pos y14] at hr3
              have hr4 : ps_crun (cx_v C p pages month) (L.drop (i + 1)) (sp_X12_worked (-7 - c) x y :: r) = some [F] := hr3
              have hst2 : r.length + 2 ≤ 64 := hst
              have p1 : T.1 123 (r.length + 1) = y := hpl.1
              have p2 : T.1 123 r.length = x := hpl.2.1
              show ev_V G d 0 0 mX10_of _ g 75 [some (.ref (W 7 0)), some (.ref (W k b)), some (.ref (W 20 p)), some (.int pages), some (.int month), some (.int (nI (r.length + 2))), some (.int (nI i)), some (.int c), z2] []
              refine ev_iload dX10_of_75 rfl ?_
              refine ev_iconst (v := 2) dX10_of_77 (by decide) ?_
              refine ev_icmp_lt (tgt := 184) dX10_of_78 (by decide) (fun q => absurd q (nI_nlt (a := r.length + 2) (b := 2) (by omega) (by omega))) (fun _ => ?_)
              refine ev_iinc (v := nI (r.length + 1)) dX10_of_81 rfl (sp_m1 _) rfl ?_
              refine ev_aload_n dX10_of_84 rfl rfl ?_
              refine cw_getf hE hT dX10_of_85 fX10_9 (k := 7) (i := 0) rfl ob7 rfl ?_
              refine ev_iload dX10_of_88 rfl ?_
              refine ev_iconst (v := 1) dX10_of_90 (by decide) ?_
              refine ev_isub dX10_of_91 ?_
              refine ev_iload dX10_of_92 rfl ?_
              refine ev_aload_n dX10_of_94 rfl rfl ?_
              refine cw_getf hE hT dX10_of_95 fX10_9 (k := 7) (i := 0) rfl ob7 rfl ?_
              refine ev_iload dX10_of_98 rfl ?_
              refine ev_iconst (v := 1) dX10_of_100 (by decide) ?_
              refine ev_isub dX10_of_101 ?_
              refine cw_ial (q := r.length) (v := x) hE hT dX10_of_102 (k := 8) (i := 0) rfl ar8 (cx_s1 _) (by omega) (by decide) p2 ?_
              refine ev_aload_n dX10_of_103 rfl rfl ?_
              refine cw_getf hE hT dX10_of_104 fX10_9 (k := 7) (i := 0) rfl ob7 rfl ?_
              refine ev_iload dX10_of_107 rfl ?_
              refine cw_ial (q := r.length + 1) (v := y) hE hT dX10_of_109 (k := 8) (i := 0) rfl ar8 rfl (by omega) (by decide) p1 ?_
              refine ev_pS3 (d' := d - 1) dX10_of_110 rfl kX10_joined lX10_19 sX10_joined (Nat.le_of_ble_eq_true rfl) (by omega) (c_X10_joined (by omega)) ?_
              rw [cj_joined c_23 c_72]
              refine cw_ias (q := r.length) (f := 123) (ix := r.length) hE hT dX10_of_113 (k := 8) (i := 0) rfl ar8 (cx_s1 _) (by omega) (by decide) rfl (by decide) (by decide) (pa8 (i := 0)) (fun g hT => ?_)
              refine ev_goto (tgt := 184) dX10_of_114 (by decide) ?_
              exact next (mo_up T 123 r.length _) (sp_X12_worked (-7 - c) x y :: r) _ g hq.up ⟨by rw [mo_up_at]; exact pk_us, by rw [mo_up_at]; exact sp_pile_up hpl.2.2 (Nat.le_refl _)⟩ (by show r.length + 1 ≤ 64; omega) hr4 hT
        · have y8 : (-8 : Int32) ≤ c := Int32.not_lt.mp c_23
          simp only [ps_cst, if_pos y8] at hrun2
          have hs64 : st.length < 64 := by
            rcases Nat.lt_or_ge st.length 64 with q | q
            · exact q
            · rw [if_neg (by omega)] at hrun2; exact absurd hrun2 (by simp)
          rw [if_pos hs64] at hrun2
          have hr4 : ps_crun (cx_v C p pages month) (L.drop (i + 1)) ((if 0 ≤ c then c else cx_v C p pages month (-1 - c)) :: st) = some [F] := hrun2
          refine ev_iload dX10_of_26 rfl ?_
          refine ev_aload_n dX10_of_28 rfl rfl ?_
          refine cw_getf hE hT dX10_of_29 fX10_9 (k := 7) (i := 0) rfl ob7 rfl ?_
          refine cw_alen (n := 64) hE hT dX10_of_32 (k := 8) (i := 0) rfl ar8 ?_
          refine ev_icmp_ge (tgt := 184) dX10_of_33 (by decide) (fun q => absurd q (nI_ge hs64 (by decide))) (fun _ => ?_)
          refine ev_aload_n dX10_of_36 rfl rfl ?_
          refine cw_getf hE hT dX10_of_37 fX10_9 (k := 7) (i := 0) rfl ob7 rfl ?_
          refine ev_iload dX10_of_40 rfl ?_
          refine ev_iload dX10_of_42 rfl ?_
          have fin : ∀ v g, v = (if 0 ≤ c then c else cx_v C p pages month (-1 - c)) → cw_T G K g0 W g T → ev_V G d 0 0 mX10_of (fun o g' => ∃ W2 C2, (W2 = W ∧ o = .inl (some (.int F)) ∧ cx_eqV C2 C) ∧ cw_T G K g0 W2 g' C2) g 61 [some (.ref (W 7 0)), some (.ref (W k b)), some (.ref (W 20 p)), some (.int pages), some (.int month), some (.int (nI st.length)), some (.int (nI i)), some (.int c), z2] (.int v :: .int (nI st.length) :: .ref (W 8 0) :: []) := by
            intro v g hv hT
            subst hv
            refine cw_ias (q := st.length) (f := 123) (ix := st.length) hE hT dX10_of_61 (k := 8) (i := 0) rfl ar8 rfl hs64 (by decide) rfl (by decide) (by decide) (pa8 (i := 0)) (fun g hT => ?_)
            refine ev_iinc (v := nI (st.length + 1)) dX10_of_62 rfl (nI_1 _) rfl ?_
            refine ev_goto (tgt := 184) dX10_of_65 (by decide) ?_
            exact next (mo_up T 123 st.length _) ((if 0 ≤ c then c else cx_v C p pages month (-1 - c)) :: st) _ g hq.up ⟨by rw [mo_up_at]; exact pk_us, by rw [mo_up_at]; exact sp_pile_up hpl (Nat.le_refl _)⟩ (by show st.length + 1 ≤ 64; omega) hr4 hT
          refine ev_if_lt (tgt := 52) dX10_of_44 (by decide) (fun c_44 => ?_) (fun c_44 => ?_)
          · refine ev_iload dX10_of_52 rfl ?_
            refine ev_aload_n dX10_of_54 rfl rfl ?_
            refine ev_iload_n dX10_of_55 rfl rfl ?_
            refine ev_iload dX10_of_56 rfl ?_
            refine cw_callS4 (d' := d - 1) hT dX10_of_58 rfl kX10_named lX10_15 sX10_named (Nat.le_of_ble_eq_true rfl) (by omega) (c_X10_named hE hp2) (fun g hT => ?_)
            exact fin _ g (by rw [if_neg (Int32.not_le.mpr c_44), hq.named]; show _ = cx_X10_named C (-1 - (-1 - c)) p pages month; rw [cx_m1]) hT
          · refine ev_iload dX10_of_47 rfl ?_
            refine ev_goto (tgt := 61) dX10_of_49 (by decide) ?_
            exact fin _ g (by rw [if_pos (Int32.not_lt.mp c_44)]) hT
  exact loop (len + 1) 0 (by omega) (by omega) C [] none none g (cx_eqV.r C) trivial (by decide) (by rw [List.drop_zero]; exact hr) hT
/-- the value of a formula, whose codes lie in array k of order b -/
def cx_cf (C : mo_S) (k b : Nat) (F : (Int32 → Int32) → Int32) : Prop := ∃ (len : Nat) (h : Nat → Int32) (L : List Int32), cw_ar C k b = some (len, h) ∧ len ≤ 300 ∧ L.length = len ∧ (∀ j, j < len → L[j]? = some (h j)) ∧ ∀ v, ps_crun v L [] = some [F v]
/-- the values of the orders' formulas -/
abbrev cx_Fn := Nat → (Int32 → Int32) → Int32
def cx_cd (C : mo_S) (P Q : cx_Fn) : Prop := ∀ b, (b < sp_O C ∨ b = 10) → cx_cf C 29 b (P b) ∧ (¬ C.1 110 b = 0 → cx_cf C 30 b (Q b))
theorem cx_cf.cg {T C : mo_S} {k b : Nat} {F : (Int32 → Int32) → Int32} (hk : k = 29 ∨ k = 30) (h1 : T.1 111 = C.1 111) (h2 : T.1 112 = C.1 112) (h3 : T.1 113 = C.1 113) (h4 : T.1 114 = C.1 114) (h : cx_cf C k b F) : cx_cf T k b F := by
  obtain ⟨len, f, L, a, r⟩ := h
  refine ⟨len, f, L, ?_, r⟩
  rw [← a]
  rcases hk with rfl | rfl
  · rw [ar29, ar29, h1, h2]
  · rw [ar30, ar30, h3, h4]
theorem cx_cd.cg {T C : mo_S} {P Q : cx_Fn} (h0 : T.1 29 = C.1 29) (h5 : T.1 110 = C.1 110) (h1 : T.1 111 = C.1 111) (h2 : T.1 112 = C.1 112) (h3 : T.1 113 = C.1 113) (h4 : T.1 114 = C.1 114) (h : cx_cd C P Q) : cx_cd T P Q := by
  intro b hb
  have e : sp_O T = sp_O C := congrArg (fun z => (z 0).toNatClampNeg) h0
  rw [e] at hb
  refine ⟨(h b hb).1.cg (Or.inl rfl) h1 h2 h3 h4, fun q => ((h b hb).2 (by rw [← h5]; exact q)).cg (Or.inr rfl) h1 h2 h3 h4⟩
theorem cx_eqV.cd {T C : mo_S} {P Q : cx_Fn} (q : cx_eqV T C) (h : cx_cd C P Q) : cx_cd T P Q := h.cg (q.1 29 (by decide)) (q.1 110 (by decide)) (q.1 111 (by decide)) (q.1 112 (by decide)) (q.1 113 (by decide)) (q.1 114 (by decide))
theorem cx_eqV.t {S T C : mo_S} (h : cx_eqV S T) (h2 : cx_eqV T C) : cx_eqV S C := ⟨fun f hf => (h.1 f hf).trans (h2.1 f hf), h.2.trans h2.2⟩
theorem cx_olI {C : mo_S} {b : Nat} (h : b < sp_O C ∨ b = 10) : cw_ol C b := by
  rcases h with h | h
  · exact Or.inl h
  · exact Or.inr (Or.inl h)
def cx_part (C : mo_S) (P : cx_Fn) (b p : Nat) : Int32 := cx_X11_bounded (P b (cx_v C p (C.1 6 p) (C.1 2 0))) 0 1000000
def cx_price (C : mo_S) (Q : cx_Fn) (b p : Nat) (g : Int32) : Int32 := if C.1 110 b = 0 then -1 else cx_X11_bounded (Q b (cx_v C p g (C.1 2 0))) 1 100
theorem c_X11_partValue {G : ev_G} {W : cw_W} {d D0 : Nat} {C : mo_S} {b p : Nat} {P Q : cx_Fn} (hE : ev_En G) (h4 : ev_En4 G D0) (hd : 3 ≤ d) (hc : cx_cd C P Q) (hb : b < sp_O C ∨ b = 10) (hp : p < sp_P C) : cw_R G W d 0 0 mX11_partValue [.ref (W 0 0), .ref (W 28 b), .ref (W 20 p)] C (fun o W2 C2 => W2 = W ∧ o = .inl (some (.int (cx_part C P b p))) ∧ cx_eqV C2 C) := by
  refine cw_startR (lv0 := [some (.ref (W 0 0)), some (.ref (W 28 b)), some (.ref (W 20 p))]) (by decide +kernel) rfl (Nat.le_of_ble_eq_true rfl) rfl ?_
  intro K g0 g hT
  obtain ⟨len, h, L, a1, a2, a3, a4, a5⟩ := (hc b hb).1
  refine ev_aload_n dX11_partValue_0 rfl rfl ?_
  refine cw_getf hE hT dX11_partValue_1 fX11_55 (k := 0) (i := 0) rfl ob0 rfl ?_
  refine ev_aload_n dX11_partValue_4 rfl rfl ?_
  refine cw_getf hE hT dX11_partValue_5 fX11_362 (k := 28) (i := b) (cx_olI hb) ob28 rfl ?_
  refine ev_aload_n dX11_partValue_8 rfl rfl ?_
  refine ev_aload_n dX11_partValue_9 rfl rfl ?_
  refine cw_getf hE hT dX11_partValue_10 fX11_199 (k := 20) (i := p) hp ob20 rfl ?_
  refine ev_aload_n dX11_partValue_13 rfl rfl ?_
  refine cw_getf hE hT dX11_partValue_14 fX11_33 (k := 0) (i := 0) rfl ob0 rfl ?_
  refine cw_callr4 (d' := d - 1) (b := 0) (n0 := 0) hE hT dX11_partValue_17 rfl kX10_of lX11_365 iX10_of vX10_of (k := 7) (i := 0) rfl ob7 rfl (Nat.le_of_ble_eq_true rfl) (by omega) (c_X10_of hE h4 (by omega) (Or.inl rfl) (cx_olI hb) a1 a2 hp a3 a4 (a5 _)) (Nat.le_refl _) (Nat.le_refl _) (fun v W2 C2 g hq hT2 => ?_) (fun E W2 C2 g hq _ => by cases hq.2.1)
  obtain ⟨rfl, e, hq⟩ := hq
  cases e
  refine ev_iconst (v := 0) dX11_partValue_20 (by decide) ?_
  refine ev_ldcw dX11_partValue_21 nX11_310 ?_
  refine ev_pS3 (d' := d - 1) dX11_partValue_24 rfl kX11_bounded lX11_369 sX11_bounded (Nat.le_of_ble_eq_true rfl) (by omega) (c_X11_bounded (by omega)) ?_
  exact ev_iret dX11_partValue_27 rfl rfl ⟨_, _, ⟨rfl, rfl, hq⟩, hT2⟩
theorem c_X11_priceValue {G : ev_G} {W : cw_W} {d D0 : Nat} {C : mo_S} {b p : Nat} {g9 : Int32} {P Q : cx_Fn} (hE : ev_En G) (h4 : ev_En4 G D0) (hd : 3 ≤ d) (hc : cx_cd C P Q) (hb : b < sp_O C ∨ b = 10) (hp : p < sp_P C) : cw_R G W d 0 0 mX11_priceValue [.ref (W 0 0), .ref (W 28 b), .ref (W 20 p), .int g9] C (fun o W2 C2 => W2 = W ∧ o = .inl (some (.int (cx_price C Q b p g9))) ∧ cx_eqV C2 C) := by
  refine cw_startR (lv0 := [some (.ref (W 0 0)), some (.ref (W 28 b)), some (.ref (W 20 p)), some (.int g9)]) (by decide +kernel) rfl (Nat.le_of_ble_eq_true rfl) rfl ?_
  intro K g0 g hT
  refine ev_aload_n dX11_priceValue_0 rfl rfl ?_
  refine cw_getf hE hT dX11_priceValue_1 fX11_372 (k := 28) (i := b) (cx_olI hb) ob28 rfl ?_
  by_cases c0 : C.1 110 b = 0
  · rw [if_pos c0]
    refine ev_ifnonnullN dX11_priceValue_4 ?_
    refine ev_iconst (v := -1) dX11_priceValue_7 (by decide) ?_
    exact ev_iret dX11_priceValue_8 rfl rfl ⟨_, _, ⟨rfl, by unfold cx_price; rw [if_pos c0], cx_eqV.r C⟩, hT⟩
  rw [if_neg c0]
  refine ev_ifnonnull (tgt := 9) dX11_priceValue_4 (by decide) ?_
  obtain ⟨len, h, L, a1, a2, a3, a4, a5⟩ := (hc b hb).2 c0
  refine ev_aload_n dX11_priceValue_9 rfl rfl ?_
  refine cw_getf hE hT dX11_priceValue_10 fX11_55 (k := 0) (i := 0) rfl ob0 rfl ?_
  refine ev_aload_n dX11_priceValue_13 rfl rfl ?_
  refine cw_getf (v := .ref (W 30 b)) hE hT dX11_priceValue_14 fX11_372 (k := 28) (i := b) (cx_olI hb) ob28 (by rw [if_neg c0]; rfl) ?_
  refine ev_aload_n dX11_priceValue_17 rfl rfl ?_
  refine ev_iload_n dX11_priceValue_18 rfl rfl ?_
  refine ev_aload_n dX11_priceValue_19 rfl rfl ?_
  refine cw_getf hE hT dX11_priceValue_20 fX11_33 (k := 0) (i := 0) rfl ob0 rfl ?_
  refine cw_callr4 (d' := d - 1) (b := 0) (n0 := 0) hE hT dX11_priceValue_23 rfl kX10_of lX11_365 iX10_of vX10_of (k := 7) (i := 0) rfl ob7 rfl (Nat.le_of_ble_eq_true rfl) (by omega) (c_X10_of hE h4 (by omega) (Or.inr rfl) ⟨cx_olI hb, c0⟩ a1 a2 hp a3 a4 (a5 _)) (Nat.le_refl _) (Nat.le_refl _) (fun v W2 C2 g hq hT2 => ?_) (fun E W2 C2 g hq _ => by cases hq.2.1)
  obtain ⟨rfl, e, hq⟩ := hq
  cases e
  refine ev_iconst (v := 1) dX11_priceValue_26 (by decide) ?_
  refine ev_bipush (v := 100) dX11_priceValue_27 (by decide) ?_
  refine ev_pS3 (d' := d - 1) dX11_priceValue_29 rfl kX11_bounded lX11_369 sX11_bounded (Nat.le_of_ble_eq_true rfl) (by omega) (c_X11_bounded (by omega)) ?_
  exact ev_iret dX11_priceValue_32 rfl rfl ⟨_, _, ⟨rfl, by unfold cx_price; rw [if_neg c0], hq⟩, hT2⟩
def cx_weight (C : mo_S) (P : cx_Fn) (b p : Nat) (by_ : Int32) : Int32 := if by_ = 0 then cx_part C P b p else if by_ = 1 then C.1 8 p else 1
theorem c_X11_weightOf {G : ev_G} {W : cw_W} {d D0 : Nat} {C : mo_S} {b p : Nat} {by_ : Int32} {P Q : cx_Fn} (hE : ev_En G) (h4 : ev_En4 G D0) (hd : 4 ≤ d) (hc : cx_cd C P Q) (hb : b < sp_O C ∨ b = 10) (hp : p < sp_P C) : cw_R G W d 0 0 mX11_weightOf [.ref (W 0 0), .ref (W 28 b), .ref (W 20 p), .int by_] C (fun o W2 C2 => W2 = W ∧ o = .inl (some (.int (cx_weight C P b p by_))) ∧ cx_eqV C2 C) := by
  refine cw_startR (lv0 := [some (.ref (W 0 0)), some (.ref (W 28 b)), some (.ref (W 20 p)), some (.int by_)]) (by decide +kernel) rfl (Nat.le_of_ble_eq_true rfl) rfl ?_
  intro K g0 g hT
  unfold cx_weight
  refine ev_iload_n dX11_weightOf_0 rfl rfl ?_
  refine ev_if_ne (tgt := 11) dX11_weightOf_1 (by decide) (fun c_1 => ?_) (fun c_1 => ?_)
  · rw [if_neg c_1]
    refine ev_iload_n dX11_weightOf_11 rfl rfl ?_
    refine ev_iconst (v := 1) dX11_weightOf_12 (by decide) ?_
    refine ev_icmp_ne (tgt := 23) dX11_weightOf_13 (by decide) (fun c_13 => ?_) (fun c_13 => ?_)
    · rw [if_neg c_13]
      refine ev_iconst (v := 1) dX11_weightOf_23 (by decide) ?_
      exact ev_iret dX11_weightOf_24 rfl rfl ⟨_, _, ⟨rfl, rfl, cx_eqV.r C⟩, hT⟩
    · rw [if_pos c_13]
      refine ev_aload_n dX11_weightOf_16 rfl rfl ?_
      refine cw_getf hE hT dX11_weightOf_17 fX11_393 (k := 20) (i := p) hp ob20 rfl ?_
      refine ev_goto (tgt := 24) dX11_weightOf_20 (by decide) ?_
      exact ev_iret dX11_weightOf_24 rfl rfl ⟨_, _, ⟨rfl, rfl, cx_eqV.r C⟩, hT⟩
  · rw [if_pos c_1]
    refine ev_aload_n dX11_weightOf_4 rfl rfl ?_
    refine ev_aload_n dX11_weightOf_5 rfl rfl ?_
    refine ev_aload_n dX11_weightOf_6 rfl rfl ?_
    refine cw_callr2 (d' := d - 1) (b := 0) (n0 := 0) hE hT dX11_weightOf_7 rfl kX11_partValue lX11_189 iX11_partValue vX11_partValue (k := 0) (i := 0) rfl ob0 rfl (Nat.le_of_ble_eq_true rfl) (by omega) (c_X11_partValue hE h4 (by omega) hc hb hp) (Nat.le_refl _) (Nat.le_refl _) (fun v W2 C2 g hq hT2 => ?_) (fun E W2 C2 g hq _ => by cases hq.2.1)
    obtain ⟨rfl, e, hq⟩ := hq
    cases e
    exact ev_iret dX11_weightOf_10 rfl rfl ⟨_, _, ⟨rfl, rfl, hq⟩, hT2⟩
end CM4
