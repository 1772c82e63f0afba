section RH
theorem rd_rn_f (f : Nat → Bool) (t : Nat → Nat) : ∀ m h, (∀ k, h ≤ k → k < rd_rn f t m h → f (t k) = true) ∧ (rd_rn f t m h < h + m → ¬ f (t (rd_rn f t m h)) = true)
  | 0, h => ⟨fun k a b => absurd b (by simp only [rd_rn]; omega), fun q => absurd q (by simp [rd_rn])⟩
  | m + 1, h => by
    simp only [rd_rn]
    by_cases e : f (t h) = true
    · rw [if_pos e]
      obtain ⟨i1, i2⟩ := rd_rn_f f t m (h + 1)
      refine ⟨fun k a b => ?_, fun q => i2 (by omega)⟩
      by_cases z : k = h
      · rw [z]; exact e
      · exact i1 k (by omega) b
    · rw [if_neg e]
      exact ⟨fun k a b => absurd b (by omega), fun _ => e⟩
theorem rd_end_f {f : Nat → Bool} {t : Nat → Nat} {n h : Nat} (hh : h ≤ n) : (∀ k, h ≤ k → k < rd_end f t n h → f (t k) = true) ∧ (rd_end f t n h < n → ¬ f (t (rd_end f t n h)) = true) := by
  obtain ⟨a, b⟩ := rd_rn_f f t (n - h) h
  exact ⟨a, fun q => b (by unfold rd_end at q; omega)⟩
theorem rd_end_u {f : Nat → Bool} {t : Nat → Nat} {n h e : Nat} (hh : h ≤ e) (hn : e ≤ n) (h1 : ∀ k, h ≤ k → k < e → f (t k) = true) (h2 : e < n → ¬ f (t e) = true) : rd_end f t n h = e := by
  obtain ⟨a, b⟩ := rd_end_f (f := f) (t := t) (n := n) (h := h) (by omega)
  have c := rd_end_in (f := f) (t := t) (n := n) (h := h) (by omega)
  rcases Nat.lt_trichotomy (rd_end f t n h) e with q | q | q
  · exact absurd (h1 _ c.1 q) (b (by omega))
  · exact q
  · exact absurd (a e hh q) (h2 (by omega))
theorem rd_let128 {c : Nat} (h : ps_let c = true) : 97 ≤ c ∧ c ≤ 122 := of_decide_eq_true h
/-- a word of letters: as the class finds it and as the grammar does -/
theorem rd_isw_wd {t : Nat → Nat} {n p s e : Nat} {L v : List Nat} (ht : ∀ j, t j < 256) (hp : p < n) (hl : ps_let (t p) = true) (hlen : e - s = v.length) (hv : ∀ k, k < v.length → L.getD (s + k) 0 = v.getD k 0) (hvl : ∀ k, k < v.length → ps_let (v.getD k 0) = true) : rd_isw t n p L s e = ps_wd t n p v := by
  have hb : rd_bh t n p = rd_end ps_let t n p := by
    unfold rd_bh
    rw [if_pos hp, if_pos hl, rd_end_s hp hl]
  obtain ⟨f1, f2⟩ := rd_end_f (f := ps_let) (t := t) (n := n) (h := p) (by omega)
  have fin := rd_end_in (f := ps_let) (t := t) (n := n) (h := p) (by omega)
  unfold rd_isw ps_wd
  rw [hb, hlen]
  have key : (v.length = rd_end ps_let t n p - p ∧ ∀ k, k < v.length → rd_by t n (p + k) = nI (L.getD (s + k) 0)) ↔ ((∀ k, k < v.length → ps_bt t n (p + k) = v.getD k 0) ∧ ¬ ps_let (ps_bt t n (p + v.length)) = true) := by
    constructor
    · rintro ⟨q1, q2⟩
      refine ⟨fun k hk => ?_, ?_⟩
      · have := q2 k hk
        rw [hv k hk] at this
        have hb2 := rd_let128 (hvl k hk)
        unfold rd_by at this
        have hin : p + k < n := by omega
        rw [if_pos hin] at this
        unfold ps_bt
        rw [if_pos hin]
        exact mo_niinj (by have := ht (p + k); omega) (by omega) this
      · unfold ps_bt
        by_cases z : p + v.length < n
        · rw [if_pos z, show p + v.length = rd_end ps_let t n p by omega]
          exact f2 (by omega)
        · rw [if_neg z]; decide
    · rintro ⟨q1, q2⟩
      have hin : ∀ k, k < v.length → p + k < n := fun k hk => by
        have := q1 k hk
        have hb2 := rd_let128 (hvl k hk)
        unfold ps_bt at this
        rcases Nat.lt_or_ge (p + k) n with z | z
        · exact z
        · rw [if_neg (by omega)] at this; omega
      have htk : ∀ k, k < v.length → t (p + k) = v.getD k 0 := fun k hk => by
        have := q1 k hk
        unfold ps_bt at this
        rw [if_pos (hin k hk)] at this
        exact this
      have he : rd_end ps_let t n p = p + v.length := by
        refine rd_end_u (by omega) ?_ (fun k a b => ?_) (fun z y => q2 ?_)
        · rcases Nat.eq_zero_or_pos v.length with z | z
          · omega
          · have := hin (v.length - 1) (by omega); omega
        · have := htk (k - p) (by omega)
          rw [show p + (k - p) = k by omega] at this
          rw [this]
          exact hvl _ (by omega)
        · unfold ps_bt
          rw [if_pos z]
          exact y
      refine ⟨by omega, fun k hk => ?_⟩
      rw [hv k hk]
      unfold rd_by
      rw [if_pos (hin k hk), htk k hk]
  by_cases q : v.length = rd_end ps_let t n p - p ∧ ∀ k, k < v.length → rd_by t n (p + k) = nI (L.getD (s + k) 0)
  · rw [decide_eq_true q, decide_eq_true (key.mp q).1]
    cases y : ps_let (ps_bt t n (p + v.length)) with
    | false => rfl
    | true => exact absurd y (key.mp q).2
  · rw [decide_eq_false q]
    by_cases z : ∀ k, k < v.length → ps_bt t n (p + k) = v.getD k 0
    · rw [decide_eq_true z]
      cases y : ps_let (ps_bt t n (p + v.length)) with
      | false => exact absurd (key.mpr ⟨z, by rw [y]; decide⟩) q
      | true => rfl
    · rw [decide_eq_false z]; rfl
theorem ps_wd_l {t : Nat → Nat} {n p : Nat} {v : List Nat} (h : ps_wd t n p v = true) (h0 : 0 < v.length) (h1 : ps_let (v.getD 0 0) = true) : p < n ∧ ps_let (t p) = true := by
  unfold ps_wd at h
  have h2 := (Bool.and_eq_true_iff.mp h).1
  have h3 := of_decide_eq_true h2 0 h0
  rw [Nat.add_zero] at h3
  unfold ps_bt at h3
  by_cases q : p < n
  · rw [if_pos q] at h3
    exact ⟨q, by rw [h3]; exact h1⟩
  · rw [if_neg q] at h3
    rw [← h3] at h1
    exact absurd h1 (by decide)
/-- the first that holds -/
def rd_pk (g : Nat → Bool) : Nat → Nat → Option Nat
  | _, 0 => none
  | k, c + 1 => if g k = true then some k else rd_pk g (k + 1) c
theorem rd_pk_s (g : Nat → Bool) : ∀ c k, rd_pk g k (c + 1) = match rd_pk g k c with
    | some j => some j
    | none => if g (k + c) = true then some (k + c) else none
  | 0, k => rfl
  | c + 1, k => by
    show (if g k = true then some k else rd_pk g (k + 1) (c + 1)) = _
    rw [rd_pk_s g c (k + 1)]
    show _ = match (if g k = true then some k else rd_pk g (k + 1) c) with
      | some j => some j
      | none => if g (k + (c + 1)) = true then some (k + (c + 1)) else none
    by_cases e : g k = true
    · rw [if_pos e, if_pos e]
    · rw [if_neg e, if_neg e, show k + 1 + c = k + (c + 1) by omega]
theorem ps_fnd_pk (t : Nat → Nat) (n p : Nat) (nm : Nat → List Nat) : ∀ m, ps_fnd t n p nm m = rd_pk (fun k => ps_wd t n p (nm k)) 0 m
  | 0 => rfl
  | m + 1 => by
    rw [rd_pk_s, ps_fnd, ps_fnd_pk t n p nm m, Nat.zero_add]
    rfl
def rd_L100 : List Nat := [112, 97, 114, 116, 32, 112, 97, 103, 101, 115, 32, 112, 114, 105, 99, 101, 32, 102, 105, 110, 101, 32, 110, 101, 119, 32, 115, 119, 97, 112, 32, 119, 97, 115, 116, 101, 32, 108, 101, 97, 115, 116, 32, 114, 101, 115, 116, 32, 119, 97, 121]
def rd_W100 (k : Nat) : List Nat := ([[112, 97, 114, 116], [112, 97, 103, 101, 115], [112, 114, 105, 99, 101], [102, 105, 110, 101], [110, 101, 119], [115, 119, 97, 112], [119, 97, 115, 116, 101], [108, 101, 97, 115, 116], [114, 101, 115, 116], [119, 97, 121]] : List (List Nat)).getD k []
def rd_S100 (k : Nat) : Nat := ([0, 5, 11, 17, 22, 26, 31, 37, 43, 48] : List Nat).getD k 0
theorem rd_wa100 (f : Nat → Nat → Bool) : rd_wa rd_L100 f 52 0 0 0 = (if f 0 4 = true then some 0 else (if f 5 10 = true then some 1 else (if f 11 16 = true then some 2 else (if f 17 21 = true then some 3 else (if f 22 25 = true then some 4 else (if f 26 30 = true then some 5 else (if f 31 36 = true then some 6 else (if f 37 42 = true then some 7 else (if f 43 47 = true then some 8 else (if f 48 51 = true then some 9 else none)))))))))) := rfl
theorem rd_wf100 {t : Nat → Nat} {n p : Nat} (ht : ∀ j, t j < 256) : rd_wf t n p rd_L100 = ps_fnd t n p rd_W100 10 := by
  rw [ps_fnd_pk]
  unfold rd_wf
  by_cases q : p < n ∧ ps_let (t p) = true
  · rw [if_pos q, show rd_L100.length + 1 = 52 from rfl, rd_wa100]
    have key : ∀ k, k < 10 → rd_isw t n p rd_L100 (rd_S100 k) (rd_S100 k + (rd_W100 k).length) = ps_wd t n p (rd_W100 k) := fun k hk => by
      have a : ∀ k, k < 10 → ∀ j, j < (rd_W100 k).length → rd_L100.getD (rd_S100 k + j) 0 = (rd_W100 k).getD j 0 ∧ ps_let ((rd_W100 k).getD j 0) = true := by decide +kernel
      exact rd_isw_wd ht q.1 q.2 (by omega) (fun j hj => (a k hk j hj).1) (fun j hj => (a k hk j hj).2)
    simp only [rd_pk]
    have k0 : rd_isw t n p rd_L100 0 4 = ps_wd t n p (rd_W100 0) := key 0 (by decide)
    have k1 : rd_isw t n p rd_L100 5 10 = ps_wd t n p (rd_W100 1) := key 1 (by decide)
    have k2 : rd_isw t n p rd_L100 11 16 = ps_wd t n p (rd_W100 2) := key 2 (by decide)
    have k3 : rd_isw t n p rd_L100 17 21 = ps_wd t n p (rd_W100 3) := key 3 (by decide)
    have k4 : rd_isw t n p rd_L100 22 25 = ps_wd t n p (rd_W100 4) := key 4 (by decide)
    have k5 : rd_isw t n p rd_L100 26 30 = ps_wd t n p (rd_W100 5) := key 5 (by decide)
    have k6 : rd_isw t n p rd_L100 31 36 = ps_wd t n p (rd_W100 6) := key 6 (by decide)
    have k7 : rd_isw t n p rd_L100 37 42 = ps_wd t n p (rd_W100 7) := key 7 (by decide)
    have k8 : rd_isw t n p rd_L100 43 47 = ps_wd t n p (rd_W100 8) := key 8 (by decide)
    have k9 : rd_isw t n p rd_L100 48 51 = ps_wd t n p (rd_W100 9) := key 9 (by decide)
    rw [k0, k1, k2, k3, k4, k5, k6, k7, k8, k9]
  · rw [if_neg q]
    have no : ∀ k, k < 10 → ¬ ps_wd t n p (rd_W100 k) = true := fun k hk z => q (ps_wd_l z ((show ∀ k, k < 10 → 0 < (rd_W100 k).length by decide) k hk) ((show ∀ k, k < 10 → ps_let ((rd_W100 k).getD 0 0) = true by decide) k hk))
    simp only [rd_pk]
    rw [if_neg (no 0 (by decide)), if_neg (no 1 (by decide)), if_neg (no 2 (by decide)), if_neg (no 3 (by decide)), if_neg (no 4 (by decide)), if_neg (no 5 (by decide)), if_neg (no 6 (by decide)), if_neg (no 7 (by decide)), if_neg (no 8 (by decide)), if_neg (no 9 (by decide))]
def rd_L180 : List Nat := [98, 97, 115, 101, 32, 99, 111, 112, 105, 101, 115, 32, 112, 97, 103, 101, 115, 32, 112, 114, 105, 99, 101, 32, 107, 105, 110, 100, 32, 109, 111, 110, 116, 104, 32, 115, 116, 111, 99, 107, 32, 117, 115, 101, 100, 32, 109, 105, 110, 32, 109, 97, 120, 32, 105, 102]
def rd_W180 (k : Nat) : List Nat := ([[98, 97, 115, 101], [99, 111, 112, 105, 101, 115], [112, 97, 103, 101, 115], [112, 114, 105, 99, 101], [107, 105, 110, 100], [109, 111, 110, 116, 104], [115, 116, 111, 99, 107], [117, 115, 101, 100], [109, 105, 110], [109, 97, 120], [105, 102]] : List (List Nat)).getD k []
def rd_S180 (k : Nat) : Nat := ([0, 5, 12, 18, 24, 29, 35, 41, 46, 50, 54] : List Nat).getD k 0
theorem rd_wa180 (f : Nat → Nat → Bool) : rd_wa rd_L180 f 57 0 0 0 = (if f 0 4 = true then some 0 else (if f 5 11 = true then some 1 else (if f 12 17 = true then some 2 else (if f 18 23 = true then some 3 else (if f 24 28 = true then some 4 else (if f 29 34 = true then some 5 else (if f 35 40 = true then some 6 else (if f 41 45 = true then some 7 else (if f 46 49 = true then some 8 else (if f 50 53 = true then some 9 else (if f 54 56 = true then some 10 else none))))))))))) := rfl
theorem rd_wf180 {t : Nat → Nat} {n p : Nat} (ht : ∀ j, t j < 256) : rd_wf t n p rd_L180 = ps_fnd t n p rd_W180 11 := by
  rw [ps_fnd_pk]
  unfold rd_wf
  by_cases q : p < n ∧ ps_let (t p) = true
  · rw [if_pos q, show rd_L180.length + 1 = 57 from rfl, rd_wa180]
    have key : ∀ k, k < 11 → rd_isw t n p rd_L180 (rd_S180 k) (rd_S180 k + (rd_W180 k).length) = ps_wd t n p (rd_W180 k) := fun k hk => by
      have a : ∀ k, k < 11 → ∀ j, j < (rd_W180 k).length → rd_L180.getD (rd_S180 k + j) 0 = (rd_W180 k).getD j 0 ∧ ps_let ((rd_W180 k).getD j 0) = true := by decide +kernel
      exact rd_isw_wd ht q.1 q.2 (by omega) (fun j hj => (a k hk j hj).1) (fun j hj => (a k hk j hj).2)
    simp only [rd_pk]
    have k0 : rd_isw t n p rd_L180 0 4 = ps_wd t n p (rd_W180 0) := key 0 (by decide)
    have k1 : rd_isw t n p rd_L180 5 11 = ps_wd t n p (rd_W180 1) := key 1 (by decide)
    have k2 : rd_isw t n p rd_L180 12 17 = ps_wd t n p (rd_W180 2) := key 2 (by decide)
    have k3 : rd_isw t n p rd_L180 18 23 = ps_wd t n p (rd_W180 3) := key 3 (by decide)
    have k4 : rd_isw t n p rd_L180 24 28 = ps_wd t n p (rd_W180 4) := key 4 (by decide)
    have k5 : rd_isw t n p rd_L180 29 34 = ps_wd t n p (rd_W180 5) := key 5 (by decide)
    have k6 : rd_isw t n p rd_L180 35 40 = ps_wd t n p (rd_W180 6) := key 6 (by decide)
    have k7 : rd_isw t n p rd_L180 41 45 = ps_wd t n p (rd_W180 7) := key 7 (by decide)
    have k8 : rd_isw t n p rd_L180 46 49 = ps_wd t n p (rd_W180 8) := key 8 (by decide)
    have k9 : rd_isw t n p rd_L180 50 53 = ps_wd t n p (rd_W180 9) := key 9 (by decide)
    have k10 : rd_isw t n p rd_L180 54 56 = ps_wd t n p (rd_W180 10) := key 10 (by decide)
    rw [k0, k1, k2, k3, k4, k5, k6, k7, k8, k9, k10]
  · rw [if_neg q]
    have no : ∀ k, k < 11 → ¬ ps_wd t n p (rd_W180 k) = true := fun k hk z => q (ps_wd_l z ((show ∀ k, k < 11 → 0 < (rd_W180 k).length by decide) k hk) ((show ∀ k, k < 11 → ps_let ((rd_W180 k).getD 0 0) = true by decide) k hk))
    simp only [rd_pk]
    rw [if_neg (no 0 (by decide)), if_neg (no 1 (by decide)), if_neg (no 2 (by decide)), if_neg (no 3 (by decide)), if_neg (no 4 (by decide)), if_neg (no 5 (by decide)), if_neg (no 6 (by decide)), if_neg (no 7 (by decide)), if_neg (no 8 (by decide)), if_neg (no 9 (by decide)), if_neg (no 10 (by decide))]
def rd_L153 : List Nat := [100, 97, 105, 108, 121, 32, 119, 101, 101, 107, 108, 121, 32, 112, 97, 114, 116, 121]
def rd_W153 (k : Nat) : List Nat := ([[100, 97, 105, 108, 121], [119, 101, 101, 107, 108, 121], [112, 97, 114, 116, 121]] : List (List Nat)).getD k []
def rd_S153 (k : Nat) : Nat := ([0, 6, 13] : List Nat).getD k 0
theorem rd_wa153 (f : Nat → Nat → Bool) : rd_wa rd_L153 f 19 0 0 0 = (if f 0 5 = true then some 0 else (if f 6 12 = true then some 1 else (if f 13 18 = true then some 2 else none))) := rfl
theorem rd_wf153 {t : Nat → Nat} {n p : Nat} (ht : ∀ j, t j < 256) : rd_wf t n p rd_L153 = ps_fnd t n p rd_W153 3 := by
  rw [ps_fnd_pk]
  unfold rd_wf
  by_cases q : p < n ∧ ps_let (t p) = true
  · rw [if_pos q, show rd_L153.length + 1 = 19 from rfl, rd_wa153]
    have key : ∀ k, k < 3 → rd_isw t n p rd_L153 (rd_S153 k) (rd_S153 k + (rd_W153 k).length) = ps_wd t n p (rd_W153 k) := fun k hk => by
      have a : ∀ k, k < 3 → ∀ j, j < (rd_W153 k).length → rd_L153.getD (rd_S153 k + j) 0 = (rd_W153 k).getD j 0 ∧ ps_let ((rd_W153 k).getD j 0) = true := by decide +kernel
      exact rd_isw_wd ht q.1 q.2 (by omega) (fun j hj => (a k hk j hj).1) (fun j hj => (a k hk j hj).2)
    simp only [rd_pk]
    have k0 : rd_isw t n p rd_L153 0 5 = ps_wd t n p (rd_W153 0) := key 0 (by decide)
    have k1 : rd_isw t n p rd_L153 6 12 = ps_wd t n p (rd_W153 1) := key 1 (by decide)
    have k2 : rd_isw t n p rd_L153 13 18 = ps_wd t n p (rd_W153 2) := key 2 (by decide)
    rw [k0, k1, k2]
  · rw [if_neg q]
    have no : ∀ k, k < 3 → ¬ ps_wd t n p (rd_W153 k) = true := fun k hk z => q (ps_wd_l z ((show ∀ k, k < 3 → 0 < (rd_W153 k).length by decide) k hk) ((show ∀ k, k < 3 → ps_let ((rd_W153 k).getD 0 0) = true by decide) k hk))
    simp only [rd_pk]
    rw [if_neg (no 0 (by decide)), if_neg (no 1 (by decide)), if_neg (no 2 (by decide))]
def rd_L139 : List Nat := [109, 111, 115, 116, 32, 107, 101, 101, 112]
def rd_W139 (k : Nat) : List Nat := ([[109, 111, 115, 116], [107, 101, 101, 112]] : List (List Nat)).getD k []
def rd_S139 (k : Nat) : Nat := ([0, 5] : List Nat).getD k 0
theorem rd_wa139 (f : Nat → Nat → Bool) : rd_wa rd_L139 f 10 0 0 0 = (if f 0 4 = true then some 0 else (if f 5 9 = true then some 1 else none)) := rfl
theorem rd_wf139 {t : Nat → Nat} {n p : Nat} (ht : ∀ j, t j < 256) : rd_wf t n p rd_L139 = ps_fnd t n p rd_W139 2 := by
  rw [ps_fnd_pk]
  unfold rd_wf
  by_cases q : p < n ∧ ps_let (t p) = true
  · rw [if_pos q, show rd_L139.length + 1 = 10 from rfl, rd_wa139]
    have key : ∀ k, k < 2 → rd_isw t n p rd_L139 (rd_S139 k) (rd_S139 k + (rd_W139 k).length) = ps_wd t n p (rd_W139 k) := fun k hk => by
      have a : ∀ k, k < 2 → ∀ j, j < (rd_W139 k).length → rd_L139.getD (rd_S139 k + j) 0 = (rd_W139 k).getD j 0 ∧ ps_let ((rd_W139 k).getD j 0) = true := by decide +kernel
      exact rd_isw_wd ht q.1 q.2 (by omega) (fun j hj => (a k hk j hj).1) (fun j hj => (a k hk j hj).2)
    simp only [rd_pk]
    have k0 : rd_isw t n p rd_L139 0 4 = ps_wd t n p (rd_W139 0) := key 0 (by decide)
    have k1 : rd_isw t n p rd_L139 5 9 = ps_wd t n p (rd_W139 1) := key 1 (by decide)
    rw [k0, k1]
  · rw [if_neg q]
    have no : ∀ k, k < 2 → ¬ ps_wd t n p (rd_W139 k) = true := fun k hk z => q (ps_wd_l z ((show ∀ k, k < 2 → 0 < (rd_W139 k).length by decide) k hk) ((show ∀ k, k < 2 → ps_let ((rd_W139 k).getD 0 0) = true by decide) k hk))
    simp only [rd_pk]
    rw [if_neg (no 0 (by decide)), if_neg (no 1 (by decide))]
def rd_L148 : List Nat := [98, 97, 115, 101, 32, 112, 111, 105, 110, 116, 115, 32, 97, 108, 105, 107, 101, 32, 98, 105, 100, 115]
def rd_W148 (k : Nat) : List Nat := ([[98, 97, 115, 101], [112, 111, 105, 110, 116, 115], [97, 108, 105, 107, 101], [98, 105, 100, 115]] : List (List Nat)).getD k []
def rd_S148 (k : Nat) : Nat := ([0, 5, 12, 18] : List Nat).getD k 0
theorem rd_wa148 (f : Nat → Nat → Bool) : rd_wa rd_L148 f 23 0 0 0 = (if f 0 4 = true then some 0 else (if f 5 11 = true then some 1 else (if f 12 17 = true then some 2 else (if f 18 22 = true then some 3 else none)))) := rfl
theorem rd_wf148 {t : Nat → Nat} {n p : Nat} (ht : ∀ j, t j < 256) : rd_wf t n p rd_L148 = ps_fnd t n p rd_W148 4 := by
  rw [ps_fnd_pk]
  unfold rd_wf
  by_cases q : p < n ∧ ps_let (t p) = true
  · rw [if_pos q, show rd_L148.length + 1 = 23 from rfl, rd_wa148]
    have key : ∀ k, k < 4 → rd_isw t n p rd_L148 (rd_S148 k) (rd_S148 k + (rd_W148 k).length) = ps_wd t n p (rd_W148 k) := fun k hk => by
      have a : ∀ k, k < 4 → ∀ j, j < (rd_W148 k).length → rd_L148.getD (rd_S148 k + j) 0 = (rd_W148 k).getD j 0 ∧ ps_let ((rd_W148 k).getD j 0) = true := by decide +kernel
      exact rd_isw_wd ht q.1 q.2 (by omega) (fun j hj => (a k hk j hj).1) (fun j hj => (a k hk j hj).2)
    simp only [rd_pk]
    have k0 : rd_isw t n p rd_L148 0 4 = ps_wd t n p (rd_W148 0) := key 0 (by decide)
    have k1 : rd_isw t n p rd_L148 5 11 = ps_wd t n p (rd_W148 1) := key 1 (by decide)
    have k2 : rd_isw t n p rd_L148 12 17 = ps_wd t n p (rd_W148 2) := key 2 (by decide)
    have k3 : rd_isw t n p rd_L148 18 22 = ps_wd t n p (rd_W148 3) := key 3 (by decide)
    rw [k0, k1, k2, k3]
  · rw [if_neg q]
    have no : ∀ k, k < 4 → ¬ ps_wd t n p (rd_W148 k) = true := fun k hk z => q (ps_wd_l z ((show ∀ k, k < 4 → 0 < (rd_W148 k).length by decide) k hk) ((show ∀ k, k < 4 → ps_let ((rd_W148 k).getD 0 0) = true by decide) k hk))
    simp only [rd_pk]
    rw [if_neg (no 0 (by decide)), if_neg (no 1 (by decide)), if_neg (no 2 (by decide)), if_neg (no 3 (by decide))]
end RH
