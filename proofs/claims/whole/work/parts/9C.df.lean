section DF
theorem df_b (x : Int32) : x.toInt8.toInt32 &&& 255 = x &&& 255 := by
  apply Int32.toBitVec_inj.mp
  rw [Int32.toBitVec_and, Int32.toBitVec_and, Int8.toBitVec_toInt32, Int32.toBitVec_toInt8]
  apply BitVec.eq_of_getLsbD_eq
  intro i hi
  rw [BitVec.getLsbD_and, BitVec.getLsbD_and]
  have hm : ∀ i < 32, 8 ≤ i → (255 : Int32).toBitVec.getLsbD i = false := by decide
  rcases Nat.lt_or_ge i 8 with z | z
  · rw [BitVec.getLsbD_signExtend, BitVec.getLsbD_signExtend, if_pos z, if_pos hi]
    simp only [z, hi, decide_true, Bool.true_and]
  · rw [hm i hi z]; simp
theorem df_rng (x : Int32) : -128 ≤ x.toInt8.toInt32.toInt ∧ x.toInt8.toInt32.toInt < 128 := by
  rw [Int8.toInt_toInt32]
  exact ⟨Int8.le_toInt _, Int8.toInt_lt _⟩
/-- a call's end, on both sides -/
def cl_fin (B : Int) (E : List String) (o : Option Value ⊕ String) (C2 : mo_S) (r : Option Value) (S2 : mo_S) : Prop := ∃ v : Int32, r = some (.int v) ∧ ((o = .inl (some (.int v)) ∧ S2.1 0 0 = 0) ∨ ∃ k e, E[k]? = some e ∧ o = .inr e ∧ S2.1 0 0 = nI (k + 1)) ∧ ∃ F OL, cl_R (B + 2000) C2 S2 F OL
theorem cl_st.fin {B : Int} {E : List String} {u : cx_Out} {v : Int32} {S2 C2 : mo_S} (h : cl_st B E u (v, S2)) (hx : cx_eqX cw_X C2 u.2) : cl_fin B E (cx_o u.1) C2 (some (.int v)) S2 := by
  obtain ⟨h1, F, OL, h2⟩ := h
  refine ⟨v, rfl, ?_, F, OL, h2.x hx⟩
  cases hu : u.1 with
  | inl e =>
    rw [hu] at h1
    obtain ⟨k, a, b⟩ := h1
    exact Or.inr ⟨k, e, a, rfl, b⟩
  | inr x =>
    rw [hu] at h1
    obtain ⟨a, b⟩ := h1
    have b : v = x := b
    exact Or.inl ⟨by rw [b]; rfl, a⟩
theorem c_X11_fault {G : ev_G} {W : cw_W} {d : Nat} {C : mo_S} (hE : ev_En G) : cw_C G W d mX11_fault [.ref (W 0 0)] C (some (.int (C.1 33 0))) C := by
  refine cw_start (lv0 := [some (.ref (W 0 0))]) (by decide +kernel) rfl (Nat.le_of_ble_eq_true rfl) rfl ?_
  intro K g0 g hT
  refine ev_aload_n dX11_fault_0 rfl rfl ?_
  refine cw_getf hE hT dX11_fault_1 fX11_48 (k := 0) (i := 0) rfl ob0 rfl ?_
  refine cw_getf hE hT dX11_fault_4 fX11_181 (k := 4) (i := 0) rfl ob4 rfl ?_
  exact ev_iret dX11_fault_7 rfl rfl ⟨rfl, hT⟩
theorem cl_fault {B : Int} {C S : mo_S} {F : mo_Fn} {OL : Nat → List od_q} (h : cl_R B C S F OL) : cl_st B [] (.inr (C.1 33 0), C) (sp_X12_fault S) := by
  unfold sp_X12_fault
  rw [h.1.k 33 (by decide)]
  exact cl_st.ok0 h
/-- a byte comes on the tape -/
theorem cl_byte {B : Int} {C S : mo_S} {F : mo_Fn} {OL : Nat → List od_q} (h : cl_R B C S F OL) {t : Nat} (x : Int32) (ht : t < 300) : cl_R B (mo_up (mo_up C 115 t (x &&& 255)) 28 0 (nI (t + 1))) (sp_put1 S t x.toInt8.toInt32) F OL := by
  obtain ⟨⟨h1, h2, h3, h4, h5, h6, h7⟩, hO, hK⟩ := h
  unfold sp_put1
  have n : ∀ k, k ≠ 27 → k ≠ 28 → (mo_up (mo_up S 27 t (vp_nar .byte x.toInt8.toInt32)) 28 0 (nI (t + 1))).1 k = S.1 k := fun k a b => by rw [mo_up_ne b, mo_up_ne a]
  have c : ∀ k, k ≠ 115 → k ≠ 28 → (mo_up (mo_up C 115 t (x &&& 255)) 28 0 (nI (t + 1))).1 k = C.1 k := fun k a b => by rw [mo_up_ne b, mo_up_ne a]
  have eb : vp_nar .byte x.toInt8.toInt32 = x.toInt8.toInt32 := pk_vb x
  refine ⟨⟨fun k hk => ?_, fun p => ?_, fun p j hp hj => ?_, fun j hj => ?_, ?_, fun m p y hm hp hy => ?_, fun a ha => ?_⟩, hO.cg (fun k hk => c k (by omega) (by omega)) (fun k hk => n k (by omega) (by omega)), ?_⟩
  · by_cases e : k = 28
    · subst e
      rw [mo_up_at, mo_up_at, mo_up_ne (by decide), mo_up_ne (by decide), h1 28 (by decide)]
    · rw [c k (fun z => by subst z; revert hk; decide) e, n k (fun z => by subst z; revert hk; decide) e]; exact h1 k hk
  · rw [c 14 (by decide) (by decide), c 15 (by decide) (by decide), n 12 (by decide) (by decide), n 14 (by decide) (by decide), n 15 (by decide) (by decide)]; exact h2 p
  · rw [n 60 (by decide) (by decide), n 61 (by decide) (by decide)]
    exact h3 p j (by unfold sp_P at hp ⊢; rw [n 1 (by decide) (by decide)] at hp; exact hp) hj
  · unfold ps_tx
    rw [mo_up_ne (by decide), mo_up_at, mo_up_ne (by decide), mo_up_at]
    by_cases e : j = t
    · rw [e, pk_us, pk_us, eb, df_b]
      obtain ⟨y, y1, y2⟩ := pk_andE x (m := 255) 8 (by decide)
      rw [y2, nI_clamp (by omega)]
    · rw [pk_un e, pk_un e]; exact h4 j hj
  · rw [c 134 (by decide) (by decide), c 133 (by decide) (by decide), n 2 (by decide) (by decide)]; exact h5
  · unfold cl_row; rw [c 126 (by decide) (by decide), n 56 (by decide) (by decide), n 55 (by decide) (by decide)]
    exact h6 m p y (by unfold sp_M at hm ⊢; rw [n 2 (by decide) (by decide)] at hm; exact hm) hp hy
  · rw [n 67 (by decide) (by decide), n 3 (by decide) (by decide), n 63 (by decide) (by decide)]
    exact h7 a (by unfold sp_A at ha ⊢; rw [n 62 (by decide) (by decide)] at ha; exact ha)
  · have b := df_rng x
    have k1 : mo_K B (mo_up S 27 t (vp_nar .byte x.toInt8.toInt32)) F := hK.up (by decide) (by rw [eb]; exact ⟨b.1, by show _ ≤ (127 : Int); omega⟩)
    exact k1.up (by decide) ⟨by rw [nI_toInt (by omega)]; show (0 : Int) ≤ _; omega, by rw [nI_toInt (by omega)]; show _ ≤ (300 : Int); omega⟩
theorem cl_num {B : Int} {C S : mo_S} {F : mo_Fn} {OL : Nat → List od_q} (h : cl_R B C S F OL) {t : Nat} (x : Int32) (ht : t + 4 ≤ 300) : cl_R B (cx_X7_tapeNumber C t x) (sp_put4 S t x) F OL := by
  unfold cx_X7_tapeNumber sp_put4
  exact cl_byte (cl_byte (cl_byte (cl_byte h (x >>> (24 &&& 31)) (by omega)) (x >>> (16 &&& 31)) (by omega)) (x >>> (8 &&& 31)) (by omega)) (x >>> (0 &&& 31)) (by omega)
theorem cl_feedq {B : Int} {C S : mo_S} {F : mo_Fn} {OL : Nat → List od_q} (h : cl_R B C S F OL) (x1 x2 x3 x4 x5 : Int32) {r : Option Value} {S2 : mo_S} (hq : (280 < sp_t S ∧ r = some (.int (-1)) ∧ S2 = (mo_up S 0 0 0)) ∨ (sp_t S ≤ 280 ∧ r = some (.int (nI (sp_t S + 20))) ∧ S2 = sp_feed S x1 x2 x3 x4 x5)) : ∃ v : Int32, r = some (.int v) ∧ cl_st B [] (cx_X11_feed C (sp_t S) x1 x2 x3 x4 x5) (v, S2) := by
  have ht := h.J.N (k := 28) 0 300 (by decide)
  have et : (S.1 28 0).toNatClampNeg = sp_t S := rfl
  rw [et] at ht
  unfold cx_X11_feed
  rcases hq with ⟨a, e, rfl⟩ | ⟨a, e, rfl⟩
  · refine ⟨_, e, ?_⟩
    rw [if_neg (show ¬ nI (sp_t S + 20) ≤ 300 from nI_ge (a := 300) (b := sp_t S + 20) (by omega) (by omega))]
    exact cl_st.ok0 h
  · refine ⟨_, e, ?_⟩
    rw [if_pos (show nI (sp_t S + 20) ≤ 300 from nI_le (a := sp_t S + 20) (b := 300) (by omega) (by decide))]
    have h0 := h.u0 (v := 0)
    have hh := cl_num (cl_num (cl_num (cl_num (cl_num h0 (t := sp_t S) x1 (by omega)) (t := sp_t S + 4) x2 (by omega)) (t := sp_t S + 8) x3 (by omega)) (t := sp_t S + 12) x4 (by omega)) (t := sp_t S + 16) x5 (by omega)
    have e28 : (cx_X7_tapeNumber (cx_X7_tapeNumber (cx_X7_tapeNumber (cx_X7_tapeNumber (cx_X7_tapeNumber C (sp_t S) x1) (sp_t S + 4) x2) (sp_t S + 8) x3) (sp_t S + 12) x4) (sp_t S + 16) x5).1 28 0 = nI (sp_t S + 20) := by
      rw [hh.1.k 28 (by decide), sp_put4_28]
    rw [e28]
    refine cl_st.ok (F := F) (OL := OL) ?_ (hh.le (by omega))
    unfold sp_feed sp_put4 sp_put1
    rw [mo_up_ne (by decide), mo_up_ne (by decide), mo_up_ne (by decide), mo_up_ne (by decide), mo_up_ne (by decide), mo_up_ne (by decide), mo_up_ne (by decide), mo_up_ne (by decide), mo_up_ne (by decide), mo_up_ne (by decide), mo_up_ne (by decide), mo_up_ne (by decide), mo_up_ne (by decide), mo_up_ne (by decide), mo_up_ne (by decide), mo_up_ne (by decide), mo_up_ne (by decide), mo_up_ne (by decide), mo_up_ne (by decide), mo_up_ne (by decide), mo_up_ne (by decide), mo_up_ne (by decide), mo_up_ne (by decide), mo_up_ne (by decide), mo_up_ne (by decide), mo_up_ne (by decide), mo_up_ne (by decide), mo_up_ne (by decide), mo_up_ne (by decide), mo_up_ne (by decide), mo_up_ne (by decide), mo_up_ne (by decide), mo_up_ne (by decide), mo_up_ne (by decide), mo_up_ne (by decide), mo_up_ne (by decide), mo_up_ne (by decide), mo_up_ne (by decide), mo_up_ne (by decide), mo_up_ne (by decide), mo_up_at, pk_us]
end DF
