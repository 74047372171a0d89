/-! THE STATE that both sides hold, and what it is to hold it -/
def sl (P : Nat → Int32) (b : Nat) : Nat → Int32 := fun i => if i < 28 then P (b + i) else 0
abbrev Ss : Type := (Nat × Nat × (Nat → Int32) × (Nat → Int32) × Nat × (Nat → Nat) × Int32) × (Nat → Int32) × (Nat × (Nat → Int32) × Int32) × (Int32 × (Nat → Int32)) × Int32 × (Int32 × Int32) × (Nat × (Nat → Nat → Int32)) × (Nat × (Nat → Nat × (Nat → Nat → Int32)))
abbrev qV (s : Ss) : Nat := s.1.1
abbrev qT (s : Ss) : Nat := s.1.2.1
abbrev qX (s : Ss) : Nat → Int32 := s.1.2.2.1
abbrev qW (s : Ss) : Nat → Int32 := s.1.2.2.2.1
abbrev qn (s : Ss) : Nat := s.1.2.2.2.2.1
abbrev qA (s : Ss) : Nat → Nat := s.1.2.2.2.2.2.1
abbrev qz (s : Ss) : Int32 := s.1.2.2.2.2.2.2
abbrev qR (s : Ss) : Nat → Int32 := s.2.1
abbrev qL (s : Ss) : Nat := s.2.2.1.1
abbrev qB (s : Ss) : Nat → Int32 := s.2.2.1.2.1
abbrev qF (s : Ss) : Int32 := s.2.2.1.2.2
abbrev qbk (s : Ss) : Int32 := s.2.2.2.1.1
abbrev qbl (s : Ss) : Nat → Int32 := s.2.2.2.1.2
abbrev qrs (s : Ss) : Int32 := s.2.2.2.2.1
abbrev qne (s : Ss) : Int32 := s.2.2.2.2.2.1.1
abbrev qwa (s : Ss) : Int32 := s.2.2.2.2.2.1.2
abbrev qw (s : Ss) : Nat := s.2.2.2.2.2.2.1.1
abbrev qP (s : Ss) : Nat → Nat → Int32 := s.2.2.2.2.2.2.1.2
abbrev qc (s : Ss) : Nat := s.2.2.2.2.2.2.2.1
abbrev qG (s : Ss) : Nat → Nat × (Nat → Nat → Int32) := s.2.2.2.2.2.2.2.2
def cI (m : Um) (s : Ss) : Prop := cX m (qV s) (qT s) (qX s) (qW s) (qn s) (qA s) (qz s) ∧ m 24 = qR s ∧ (∀ i, 28 ≤ i → m 26 i = 0) ∧ (m 1 1 = nI (qL s) ∧ (∀ k, k < 600 → m 2 k = qB s k) ∧ m 1 5 = qF s) ∧ (m 18 1 = qbk s ∧ ∀ v, v < 8 → m 19 v = qbl s v) ∧ (m 0 13 = qrs s ∧ m 0 15 = qne s ∧ m 0 16 = qwa s) ∧ (m 27 1 = nI (qw s) ∧ ∀ j, j < qw s → sl (m 28) (28 * j) = qP s j) ∧ (m 0 12 = nI (qc s) ∧ ∀ i, i < qc s → m (30 + 2 * i) 1 = nI (qG s i).1 ∧ ∀ j, j ≤ (qG s i).1 → sl (m (31 + 2 * i)) (28 * j) = (qG s i).2 j)
def rI (m : Um) (s : Ss) : Prop := rX m (qV s) (qT s) (qX s) (qW s) (qn s) (qA s) (qz s) ∧ cv (m 53) = qR s ∧ (m 38 2 = nI (qL s) ∧ (∀ k, k < 600 → m 40 k = qB s k) ∧ m 38 8 = qF s) ∧ (m 38 41 = qbk s ∧ ∀ v, v < 8 → m 57 v = qbl s v) ∧ (m 38 32 = qrs s ∧ m 39 0 = qne s ∧ m 39 1 = qwa s) ∧ (m 38 31 = nI (qw s) ∧ ∀ j, j < qw s → cv (fun i => m 55 (28 * j + i)) = qP s j) ∧ (m 38 48 = nI (qc s) ∧ ∀ i, i < qc s → m 62 (477 * i + 476) = nI (qG s i).1 ∧ cv (fun q => m 62 (477 * i + q)) = (qG s i).2 (qG s i).1 ∧ ∀ j, j < (qG s i).1 → cv (fun q => m 62 (477 * i + 28 + 28 * j + q)) = (qG s i).2 j)
/-- a row of the sky as it may stand: BREATH is 400 at most -/
def vQ (T : Nat) (R : Nat → Int32) : Prop := vR T R ∧ (R 0).toInt ≤ 400
def vI (s : Ss) : Prop := (∀ v, v < qV s → (0 ≤ (qX s v).toInt ∧ (qX s v).toInt ≤ 99) ∧ 0 ≤ (qW s v).toInt ∧ (qW s v).toInt ≤ 60) ∧ vQ (qT s) (qR s) ∧ (qL s ≤ 600 ∧ ∀ k, k < 600 → 0 ≤ (qB s k).toInt ∧ (qB s k).toInt ≤ 255) ∧ (qw s ≤ 16 ∧ ∀ j, j < qw s → vQ (qT s) (qP s j)) ∧ qc s ≤ 3 ∧ ∀ i, i < qc s → (qG s i).1 ≤ 16 ∧ ∀ j, j ≤ (qG s i).1 → vQ (qT s) ((qG s i).2 j)
def uI (m : Um) : Prop := ∃ s : Ss, cI m s ∧ rI m s ∧ vI s
/-- what a question of the class leaves as it was -/
def cK (m m1 : Um) : Prop := (∀ c, c ≠ 0 → c ≠ 16 → c ≠ 17 → c ≠ 26 → c ≠ 36 → c ≠ 37 → m1 c = m c) ∧ (∀ k, k ≠ 14 → m1 0 k = m 0 k) ∧ ∀ i, 28 ≤ i → m1 26 i = 0
def rK (m m2 : Um) : Prop := (∀ c, c ≠ 38 → c ≠ 49 → c ≠ 50 → c ≠ 54 → c ≠ 58 → c ≠ 59 → c ≠ 60 → c ≠ 61 → m2 c = m c) ∧ ∀ k, k ≠ 0 → k ≠ 46 → m2 38 k = m 38 k
theorem cK_rf {m : Um} {s : Ss} (h : cI m s) : cK m m := ⟨fun _ _ _ _ _ _ _ => rfl, fun _ _ => rfl, h.2.2.1⟩
theorem rK_rf (m : Um) : rK m m := ⟨fun _ _ _ _ _ _ _ _ _ => rfl, fun _ _ _ => rfl⟩
theorem rK_tr {m m1 m2 : Um} (h1 : rK m m1) (h2 : rK m1 m2) : rK m m2 := ⟨fun c a b d e f g i j => by rw [h2.1 c a b d e f g i j, h1.1 c a b d e f g i j], fun k a b => by rw [h2.2 k a b, h1.2 k a b]⟩
theorem cK_tr {m m1 m2 : Um} (h1 : cK m m1) (h2 : cK m1 m2) : cK m m2 := ⟨fun c a b d e f g => by rw [h2.1 c a b d e f g, h1.1 c a b d e f g], fun k a => by rw [h2.2.1 k a, h1.2.1 k a], h2.2.2⟩
theorem cI_K {m m1 : Um} {s : Ss} (h : cI m s) (hv : vI s) (k : cK m m1) : cI m1 s := by
  have hc3 := hv.2.2.2.2.1
  obtain ⟨h1, h2, h3, h4, h5, h6, h7, h8⟩ := h
  obtain ⟨k1, k2, k3⟩ := k
  refine ⟨cX_of h1 (fun c hc => k1 c (by omega) (by omega) (by omega) (by omega) (by omega) (by omega)), ?_, k3, ?_, ?_, ?_, ?_, ?_, fun i hi => ?_⟩
  · rw [k1 24 (by omega) (by omega) (by omega) (by omega) (by omega) (by omega)]
    exact h2
  · rw [k1 1 (by omega) (by omega) (by omega) (by omega) (by omega) (by omega), k1 2 (by omega) (by omega) (by omega) (by omega) (by omega) (by omega)]
    exact h4
  · rw [k1 18 (by omega) (by omega) (by omega) (by omega) (by omega) (by omega), k1 19 (by omega) (by omega) (by omega) (by omega) (by omega) (by omega)]
    exact h5
  · rw [k2 13 (by omega), k2 15 (by omega), k2 16 (by omega)]
    exact h6
  · rw [k1 27 (by omega) (by omega) (by omega) (by omega) (by omega) (by omega), k1 28 (by omega) (by omega) (by omega) (by omega) (by omega) (by omega)]
    exact h7
  · rw [k2 12 (by omega)]
    exact h8.1
  · have hc := h8.2 i hi
    rw [k1 (30 + 2 * i) (by omega) (by omega) (by omega) (by omega) (by omega) (by omega), k1 (31 + 2 * i) (by omega) (by omega) (by omega) (by omega) (by omega) (by omega)]
    exact hc
theorem rX_of' {m m' : Um} {V T : Nat} {X W : Nat → Int32} {n : Nat} {A : Nat → Nat} {z : Int32} (h : rX m V T X W n A z) (h38 : ∀ k, k = 17 ∨ k = 18 ∨ k = 19 ∨ k = 26 → m' 38 k = m 38 k) (h1 : ∀ c, c = 43 ∨ c = 47 ∨ c = 48 → m' c = m c) : rX m' V T X W n A z := by
  unfold rX rC rL
  rw [h38 17 (by omega), h38 18 (by omega), h38 19 (by omega), h38 26 (by omega), h1 43 (by omega), h1 47 (by omega), h1 48 (by omega)]
  exact h
theorem rI_K {m m1 : Um} {s : Ss} (h : rI m s) (k : rK m m1) : rI m1 s := by
  obtain ⟨h1, h2, h3, h4, h5, h6, h7⟩ := h
  obtain ⟨k1, k2⟩ := k
  have k3 : ∀ c, c = 39 ∨ c = 40 ∨ c = 43 ∨ c = 47 ∨ c = 48 ∨ c = 53 ∨ c = 55 ∨ c = 57 ∨ c = 62 → m1 c = m c := fun c hc => k1 c (by omega) (by omega) (by omega) (by omega) (by omega) (by omega) (by omega) (by omega)
  unfold rI
  rw [k3 53 (by omega), k3 40 (by omega), k3 57 (by omega), k3 39 (by omega), k3 55 (by omega), k3 62 (by omega), k2 2 (by omega) (by omega), k2 8 (by omega) (by omega), k2 41 (by omega) (by omega), k2 32 (by omega) (by omega), k2 31 (by omega) (by omega), k2 48 (by omega) (by omega)]
  exact ⟨rX_of' h1 (fun k hk => k2 k (by omega) (by omega)) (fun c hc => k3 c (by omega)), h2, h3, h4, h5, h6, h7⟩
theorem rI_of {m m1 : Um} {s : Ss} (h : rI m s) (k : ∀ c, 38 ≤ c → c < 63 → m1 c = m c) : rI m1 s := by
  obtain ⟨h1, h2, h3, h4, h5, h6, h7⟩ := h
  unfold rI
  rw [k 53 (by omega) (by omega), k 40 (by omega) (by omega), k 57 (by omega) (by omega), k 39 (by omega) (by omega), k 55 (by omega) (by omega), k 62 (by omega) (by omega), k 38 (by omega) (by omega)]
  exact ⟨rX_of h1 (fun c hc => k c (by omega) (by omega)), h2, h3, h4, h5, h6, h7⟩
theorem cI_of {m m1 : Um} {s : Ss} (h : cI m s) (hv : vI s) (k : ∀ c, c < 38 → m1 c = m c) : cI m1 s := by
  have hc3 := hv.2.2.2.2.1
  obtain ⟨h1, h2, h3, h4, h5, h6, h7, h8⟩ := h
  unfold cI
  rw [k 24 (by omega), k 26 (by omega), k 1 (by omega), k 2 (by omega), k 18 (by omega), k 19 (by omega), k 0 (by omega), k 27 (by omega), k 28 (by omega)]
  refine ⟨cX_of h1 (fun c hc => k c (by omega)), h2, h3, h4, h5, h6, h7, h8.1, fun i hi => ?_⟩
  rw [k (30 + 2 * i) (by omega), k (31 + 2 * i) (by omega)]
  exact h8.2 i hi
theorem um_L_n {m : Um} {v : Int64} {c : Nat} (h : c ≠ 63) : um_L m v c = m c := um_wa_n h
/-- a question answered by both: all is held as before -/
theorem glueW {m m1 m2 : Um} {s : Ss} {v : Int64} (hc : cI m s) (hr : rI m s) (hv : vI s) (k1 : cK m m1) (k2 : rK (um_L m1 v) m2) : m2 63 = (um_L m1 v) 63 ∧ uI m2 := by
  refine ⟨k2.1 63 (by omega) (by omega) (by omega) (by omega) (by omega) (by omega) (by omega) (by omega), s, ?_, ?_, hv⟩
  · refine cI_of (cI_K hc hv k1) hv (fun c hc => ?_)
    rw [k2.1 c (by omega) (by omega) (by omega) (by omega) (by omega) (by omega) (by omega) (by omega), um_L_n (by omega)]
  · refine rI_K (rI_of hr (fun c h1 h2 => ?_)) k2
    rw [um_L_n (by omega), k1.1 c (by omega) (by omega) (by omega) (by omega) (by omega) (by omega)]
theorem glueR {m m1 : Um} {s : Ss} {v : Int64} (hr : rI m s) (k1 : cK m m1) : rI (um_L m1 v) s := rI_of hr (fun c h1 h2 => by rw [um_L_n (by omega), k1.1 c (by omega) (by omega) (by omega) (by omega) (by omega) (by omega)])
theorem glueA {m m1 m2 : Um} {s : Ss} (hc : cI m s) (hr : rI m s) (hv : vI s) (k1 : cK m m1) (k2 : rK m1 m2) : uI m2 := by
  refine ⟨s, ?_, ?_, hv⟩
  · exact cI_of (cI_K hc hv k1) hv (fun c hc => k2.1 c (by omega) (by omega) (by omega) (by omega) (by omega) (by omega) (by omega) (by omega))
  · exact rI_K (rI_of hr (fun c h1 h2 => k1.1 c (by omega) (by omega) (by omega) (by omega) (by omega) (by omega))) k2
/-! refusals -/
abbrev xIAE : String := "java/lang/IllegalArgumentException"
abbrev xNSE : String := "java/util/NoSuchElementException"
def z0 (m : Um) : Um := um_w m 38 0 0
def tI (m : Um) : Um := um_w m 0 16 (m 0 16 + 1)
def tN (m : Um) : Um := um_w m 0 15 (m 0 15 + 1)
def tR (m : Um) (c : Int32) (k : Nat) : Um := um_w (um_w m 38 0 c) 39 k (m 39 k + 1)
theorem z0_0 (m : Um) : z0 m 38 0 = 0 := by
  unfold z0
  rw [um_w_def, um_wa_s, upd_s]
theorem z0_n {m : Um} {c : Nat} (h : c ≠ 38) : z0 m c = m c := by
  unfold z0
  rw [um_w_def, um_wa_n h]
theorem z0_K (m : Um) : rK m (z0 m) := ⟨fun c h _ _ _ _ _ _ _ => z0_n h, fun k h _ => by
  unfold z0
  rw [um_w_def, um_wa_s, upd_n h]⟩
theorem tR_0 {m : Um} {c : Int32} {k : Nat} : tR m c k 38 0 = c := by
  unfold tR
  rw [um_w_def, um_wa_n (by omega), um_w_def, um_wa_s, upd_s]
theorem throwI {m : Um} {s : Ss} (hc : cI m s) (hr : rI m s) (hv : vI s) (c : Int32) : uI (tR (z0 (tI m)) c 1) := by
  refine ⟨(s.1, s.2.1, s.2.2.1, s.2.2.2.1, s.2.2.2.2.1, (qne s, qwa s + 1), s.2.2.2.2.2.2), ?_, ?_, hv⟩
  · have k : ∀ d, d < 38 → d ≠ 0 → tR (z0 (tI m)) c 1 d = m d := fun d h1 h2 => by
      unfold tR z0 tI
      rw [um_w_def, um_wa_n (by omega), um_w_def, um_wa_n (by omega), um_w_def, um_wa_n (by omega), um_w_def, um_wa_n h2]
    have k0 : ∀ d, d ≠ 16 → tR (z0 (tI m)) c 1 0 d = m 0 d := fun d h1 => by
      unfold tR z0 tI
      rw [um_w_def, um_wa_n (by omega), um_w_def, um_wa_n (by omega), um_w_def, um_wa_n (by omega), um_w_def, um_wa_s, upd_n h1]
    have k16 : tR (z0 (tI m)) c 1 0 16 = m 0 16 + 1 := by
      unfold tR z0 tI
      rw [um_w_def, um_wa_n (by omega), um_w_def, um_wa_n (by omega), um_w_def, um_wa_n (by omega), um_w_def, um_wa_s, upd_s]
    have hc3 := hv.2.2.2.2.1
    obtain ⟨h1, h2, h3, h4, h5, h6, h7, h8⟩ := hc
    unfold cI
    rw [k 24 (by omega) (by omega), k 26 (by omega) (by omega), k 1 (by omega) (by omega), k 2 (by omega) (by omega), k 18 (by omega) (by omega), k 19 (by omega) (by omega), k 27 (by omega) (by omega), k 28 (by omega) (by omega), k0 13 (by omega), k0 15 (by omega), k0 12 (by omega), k16]
    refine ⟨cX_of h1 (fun c hc => k c (by omega) (by omega)), h2, h3, h4, h5, ⟨h6.1, h6.2.1, by rw [h6.2.2]⟩, h7, h8.1, fun i hi => ?_⟩
    rw [k (30 + 2 * i) (by have : i < qc s := hi; omega) (by omega), k (31 + 2 * i) (by have : i < qc s := hi; omega) (by omega)]
    exact h8.2 i hi
  · have k : ∀ d, 38 < d → d ≠ 39 → tR (z0 (tI m)) c 1 d = m d := fun d h1 h2 => by
      unfold tR z0 tI
      rw [um_w_def, um_wa_n h2, um_w_def, um_wa_n (by omega), um_w_def, um_wa_n (by omega), um_w_def, um_wa_n (by omega)]
    have k38 : ∀ d, d ≠ 0 → tR (z0 (tI m)) c 1 38 d = m 38 d := fun d h1 => by
      unfold tR z0 tI
      rw [um_w_def, um_wa_n (by omega), um_w_def, um_wa_s, upd_n h1, um_w_def, um_wa_s, upd_n h1, um_w_def, um_wa_n (by omega)]
    have k390 : tR (z0 (tI m)) c 1 39 0 = m 39 0 := by
      unfold tR z0 tI
      rw [um_w_def, um_wa_s, upd_n (by omega), um_w_def, um_wa_n (by omega), um_w_def, um_wa_n (by omega), um_w_def, um_wa_n (by omega)]
    have k391 : tR (z0 (tI m)) c 1 39 1 = m 39 1 + 1 := by
      unfold tR z0 tI
      rw [um_w_def, um_wa_s, upd_s, um_w_def, um_wa_n (by omega), um_w_def, um_wa_n (by omega)]
    obtain ⟨h1, h2, h3, h4, h5, h6, h7⟩ := hr
    unfold rI
    rw [k 53 (by omega) (by omega), k 40 (by omega) (by omega), k 57 (by omega) (by omega), k 55 (by omega) (by omega), k 62 (by omega) (by omega), k38 2 (by omega), k38 8 (by omega), k38 41 (by omega), k38 32 (by omega), k38 31 (by omega), k38 48 (by omega), k390, k391]
    exact ⟨rX_of' h1 (fun q hq => k38 q (by omega)) (fun c hc => k c (by omega) (by omega)), h2, h3, h4, ⟨h5.1, h5.2.1, by rw [h5.2.2]⟩, h6, h7⟩
theorem throwN {m : Um} {s : Ss} (hc : cI m s) (hr : rI m s) (hv : vI s) (c : Int32) : uI (tR (z0 (tN m)) c 0) := by
  refine ⟨(s.1, s.2.1, s.2.2.1, s.2.2.2.1, s.2.2.2.2.1, (qne s + 1, qwa s), s.2.2.2.2.2.2), ?_, ?_, hv⟩
  · have k : ∀ d, d < 38 → d ≠ 0 → tR (z0 (tN m)) c 0 d = m d := fun d h1 h2 => by
      unfold tR z0 tN
      rw [um_w_def, um_wa_n (by omega), um_w_def, um_wa_n (by omega), um_w_def, um_wa_n (by omega), um_w_def, um_wa_n h2]
    have k0 : ∀ d, d ≠ 15 → tR (z0 (tN m)) c 0 0 d = m 0 d := fun d h1 => by
      unfold tR z0 tN
      rw [um_w_def, um_wa_n (by omega), um_w_def, um_wa_n (by omega), um_w_def, um_wa_n (by omega), um_w_def, um_wa_s, upd_n h1]
    have k16 : tR (z0 (tN m)) c 0 0 15 = m 0 15 + 1 := by
      unfold tR z0 tN
      rw [um_w_def, um_wa_n (by omega), um_w_def, um_wa_n (by omega), um_w_def, um_wa_n (by omega), um_w_def, um_wa_s, upd_s]
    have hc3 := hv.2.2.2.2.1
    obtain ⟨h1, h2, h3, h4, h5, h6, h7, h8⟩ := hc
    unfold cI
    rw [k 24 (by omega) (by omega), k 26 (by omega) (by omega), k 1 (by omega) (by omega), k 2 (by omega) (by omega), k 18 (by omega) (by omega), k 19 (by omega) (by omega), k 27 (by omega) (by omega), k 28 (by omega) (by omega), k0 13 (by omega), k0 16 (by omega), k0 12 (by omega), k16]
    refine ⟨cX_of h1 (fun c hc => k c (by omega) (by omega)), h2, h3, h4, h5, ⟨h6.1, by rw [h6.2.1], h6.2.2⟩, h7, h8.1, fun i hi => ?_⟩
    rw [k (30 + 2 * i) (by have : i < qc s := hi; omega) (by omega), k (31 + 2 * i) (by have : i < qc s := hi; omega) (by omega)]
    exact h8.2 i hi
  · have k : ∀ d, 38 < d → d ≠ 39 → tR (z0 (tN m)) c 0 d = m d := fun d h1 h2 => by
      unfold tR z0 tN
      rw [um_w_def, um_wa_n h2, um_w_def, um_wa_n (by omega), um_w_def, um_wa_n (by omega), um_w_def, um_wa_n (by omega)]
    have k38 : ∀ d, d ≠ 0 → tR (z0 (tN m)) c 0 38 d = m 38 d := fun d h1 => by
      unfold tR z0 tN
      rw [um_w_def, um_wa_n (by omega), um_w_def, um_wa_s, upd_n h1, um_w_def, um_wa_s, upd_n h1, um_w_def, um_wa_n (by omega)]
    have k390 : tR (z0 (tN m)) c 0 39 1 = m 39 1 := by
      unfold tR z0 tN
      rw [um_w_def, um_wa_s, upd_n (by omega), um_w_def, um_wa_n (by omega), um_w_def, um_wa_n (by omega), um_w_def, um_wa_n (by omega)]
    have k391 : tR (z0 (tN m)) c 0 39 0 = m 39 0 + 1 := by
      unfold tR z0 tN
      rw [um_w_def, um_wa_s, upd_s, um_w_def, um_wa_n (by omega), um_w_def, um_wa_n (by omega)]
    obtain ⟨h1, h2, h3, h4, h5, h6, h7⟩ := hr
    unfold rI
    rw [k 53 (by omega) (by omega), k 40 (by omega) (by omega), k 57 (by omega) (by omega), k 55 (by omega) (by omega), k 62 (by omega) (by omega), k38 2 (by omega), k38 8 (by omega), k38 41 (by omega), k38 32 (by omega), k38 31 (by omega), k38 48 (by omega), k390, k391]
    exact ⟨rX_of' h1 (fun q hq => k38 q (by omega)) (fun c hc => k c (by omega) (by omega)), h2, h3, h4, ⟨h5.1, by rw [h5.2.1], h5.2.2⟩, h6, h7⟩
/-! needs and mays -/
theorem e_need_t {m : Um} {x a b : Int32} (h : a ≤ x ∧ x ≤ b) : f_X7_need m x a b = some (m, .inl ()) := by
  unfold f_X7_need
  have : ¬ x < a := by
    have := h.1
    rw [Int32.le_iff_toInt_le] at this
    rw [Int32.lt_iff_toInt_lt]
    omega
  rw [if_neg this, if_pos h.2]
theorem e_need_f {m : Um} {x a b : Int32} (h : ¬ (a ≤ x ∧ x ≤ b)) : f_X7_need m x a b = some (tI m, .inr xIAE) := by
  unfold f_X7_need f_X7_need_b10
  by_cases q : x < a
  · rw [if_pos q]
    rfl
  · have : a ≤ x := by
      rw [Int32.lt_iff_toInt_lt] at q
      rw [Int32.le_iff_toInt_le]
      omega
    rw [if_neg q, if_neg (fun r => h ⟨this, r⟩)]
    rfl
theorem in_nI {x : Int32} {T : Nat} (hT : T < 2 ^ 31) (h0 : ¬ x < 0) (h1 : x < nI T) : ∃ t, t < T ∧ x = nI t := by
  obtain ⟨j, hj, rfl⟩ := nI_of h0
  exact ⟨j, (nI_ltI hj hT).mp h1, rfl⟩
theorem e_ten_t {m : Um} {T t : Nat} (hT : m 3 1 = nI T) (hT5 : T ≤ 8) (h : t < T) : f_X7_needTenant m (nI t) = some (m, .inl ()) := by
  unfold f_X7_needTenant
  rw [if_neg (nI_pos (by omega)), hT, if_pos (nI_lt h (by omega))]
theorem e_ten_f {m : Um} {T : Nat} {x : Int32} (hT : m 3 1 = nI T) (hT5 : T ≤ 8) (h : ¬ ∃ t, t < T ∧ x = nI t) : f_X7_needTenant m x = some (tN m, .inr xNSE) := by
  unfold f_X7_needTenant f_X7_needTenant_b15
  rw [hT]
  by_cases q : x < 0
  · rw [if_pos q]
    rfl
  · rw [if_neg q, if_neg (fun r => h (in_nI (by omega) q r))]
    rfl
theorem e_vie_t {m : Um} {T t : Nat} (hT : m 3 0 = nI T) (hT5 : T ≤ 8) (h : t < T) : f_X7_needView m (nI t) = some (m, .inl ()) := by
  unfold f_X7_needView
  rw [if_neg (nI_pos (by omega)), hT, if_pos (nI_lt h (by omega))]
theorem e_vie_f {m : Um} {T : Nat} {x : Int32} (hT : m 3 0 = nI T) (hT5 : T ≤ 8) (h : ¬ ∃ t, t < T ∧ x = nI t) : f_X7_needView m x = some (tN m, .inr xNSE) := by
  unfold f_X7_needView f_X7_needView_b15
  rw [hT]
  by_cases q : x < 0
  · rw [if_pos q]
    rfl
  · rw [if_neg q, if_neg (fun r => h (in_nI (by omega) q r))]
    rfl
theorem r_may_t {m : Um} (h : m 38 0 = 0) (c k : Int32) : f_X8_may m 1 c k = some (m, 1) := by
  simp only [f_X8_may, f_X8_may_b26, f_X8_may_b38, h, if_true, ub01_1, ugd_t]
  rfl
theorem r_may_f {m : Um} (h : m 38 0 = 0) {c : Int32} (hc : ¬ c = 0) {k : Nat} (hk : k < 2) : f_X8_may m 0 c (nI k) = some (tR m c k, 0) := by
  simp (disch := omega) only [f_X8_may, f_X8_may_b26, f_X8_may_b38, h, if_true, ub01_0, ugd_t, uin_n, nI_clamp, um_w_def, um_wa_n, um_wa_s, upd_s, hc, if_false]
  rfl
theorem r_may_f1 {m : Um} (h : m 38 0 = 0) {c : Int32} (hc : ¬ c = 0) : f_X8_may m 0 c 1 = some (tR m c 1, 0) := r_may_f h hc (k := 1) (by omega)
theorem r_may_f0 {m : Um} (h : m 38 0 = 0) {c : Int32} (hc : ¬ c = 0) : f_X8_may m 0 c 0 = some (tR m c 0, 0) := r_may_f h hc (k := 0) (by omega)
theorem within_nI {x : Int32} {T : Nat} (hT : T ≤ 8) : (0 ≤ x ∧ x ≤ nI T - 1) ↔ ∃ t, t < T ∧ x = nI t := by
  have e1 : (nI T - 1).toInt = (T : Int) - 1 := by
    rw [i_sub (by rw [nI_toInt (by omega), i_1]; omega) (by rw [nI_toInt (by omega), i_1]; omega), nI_toInt (by omega), i_1]
  rw [Int32.le_iff_toInt_le, Int32.le_iff_toInt_le, e1, i_0]
  constructor
  · intro h
    refine in_nI (by omega) ?_ ?_
    · rw [Int32.lt_iff_toInt_lt, i_0]
      omega
    · rw [Int32.lt_iff_toInt_lt, nI_toInt (by omega)]
      omega
  · rintro ⟨t, h, rfl⟩
    rw [nI_toInt (by omega)]
    omega
theorem r_ten_t {m : Um} {T t : Nat} (hT : m 38 18 = nI T) (hT5 : T ≤ 8) (h : t < T) (h0 : m 38 0 = 0) (c : Int32) : f_X8_isTenant m (nI t) c = some (m, 1) := by
  unfold f_X8_isTenant
  rw [hT, r_within, ubi_mk, decide_eq_true ((within_nI hT5).mpr ⟨t, h, rfl⟩), bi_t, r_may_t h0, ubi_mk, ub01_1, ugd_t]
theorem r_ten_f {m : Um} {T : Nat} {x : Int32} (hT : m 38 18 = nI T) (hT5 : T ≤ 8) (h : ¬ ∃ t, t < T ∧ x = nI t) (h0 : m 38 0 = 0) {c : Int32} (hc : ¬ c = 0) : f_X8_isTenant m x c = some (tR m c 0, 0) := by
  unfold f_X8_isTenant
  rw [hT, r_within, ubi_mk, decide_eq_false (fun q => h ((within_nI hT5).mp q)), bi_f, r_may_f0 h0 hc, ubi_mk, ub01_0, ugd_t]
theorem r_vie_t {m : Um} {T t : Nat} (hT : m 38 17 = nI T) (hT5 : T ≤ 8) (h : t < T) (h0 : m 38 0 = 0) (c : Int32) : f_X8_isView m (nI t) c = some (m, 1) := by
  unfold f_X8_isView
  rw [hT, r_within, ubi_mk, decide_eq_true ((within_nI hT5).mpr ⟨t, h, rfl⟩), bi_t, r_may_t h0, ubi_mk, ub01_1, ugd_t]
theorem r_vie_f {m : Um} {T : Nat} {x : Int32} (hT : m 38 17 = nI T) (hT5 : T ≤ 8) (h : ¬ ∃ t, t < T ∧ x = nI t) (h0 : m 38 0 = 0) {c : Int32} (hc : ¬ c = 0) : f_X8_isView m x c = some (tR m c 0, 0) := by
  unfold f_X8_isView
  rw [hT, r_within, ubi_mk, decide_eq_false (fun q => h ((within_nI hT5).mp q)), bi_f, r_may_f0 h0 hc, ubi_mk, ub01_0, ugd_t]
theorem r_wit_t {m : Um} {x a b : Int32} (h : a ≤ x ∧ x ≤ b) : f_X8_within m x a b = some (m, 1) := by
  rw [r_within, decide_eq_true h, bi_t]
theorem r_wit_f {m : Um} {x a b : Int32} (h : ¬ (a ≤ x ∧ x ≤ b)) : f_X8_within m x a b = some (m, 0) := by
  rw [r_within, decide_eq_false h, bi_f]
/-- the reference asked to take its row -/
theorem r_take' {m : Um} {s : Ss} (hr : rI m s) (h0 : m 38 0 = 0) : ∃ m', f_X8_take m = some (m', ()) ∧ rK m m' ∧ cv (m' 54) = qR s ∧ m' 38 0 = 0 := by
  obtain ⟨S, e1, e2⟩ := r_take m
  refine ⟨_, e1, ⟨fun c _ _ _ h _ _ _ _ => um_wa_n h, fun k _ _ => by rw [um_wa_n (by omega)]⟩, ?_, ?_⟩
  · rw [um_wa_s, e2]
    exact hr.2.1
  · rw [um_wa_n (by omega)]
    exact h0
theorem lit_cases {x : Int32} (k : Nat) (hk : k < 2 ^ 31) (h : 0 ≤ x ∧ x ≤ nI k) : ∃ j, j ≤ k ∧ x = nI j := by
  have h0 : ¬ x < 0 := by
    have := h.1
    rw [Int32.le_iff_toInt_le] at this
    rw [Int32.lt_iff_toInt_lt]
    omega
  obtain ⟨j, hj, rfl⟩ := nI_of h0
  exact ⟨j, (nI_leI hj hk).mp h.2, rfl⟩
