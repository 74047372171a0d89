/-! WHAT A TEXT LEAVES, AND FEED -/
abbrev sTx (s : Ss) (F : Int32) : Ss := (s.1, s.2.1, (0, qB s, F), s.2.2.2)
theorem vI_t {s : Ss} (h : vI s) (F : Int32) : vI (sTx s F) := ⟨h.1, h.2.1, ⟨Nat.zero_le _, h.2.2.1.2⟩, h.2.2.2⟩
theorem cI_t {m m1 : Um} {s : Ss} {F : Int32} (h : cI m s) (hv : vI s) (k : ∀ c, c = 0 ∨ c = 2 ∨ c = 3 ∨ c = 4 ∨ c = 5 ∨ c = 14 ∨ c = 18 ∨ c = 19 ∨ c = 24 ∨ c = 26 ∨ c = 27 ∨ c = 28 ∨ (30 ≤ c ∧ c ≤ 35) → m1 c = m c) (k13 : ∀ j, j = 1 ∨ j = 5 → m1 13 j = m 13 j) (h11 : m1 1 1 = 0) (h15 : m1 1 5 = F) : cI m1 (sTx s F) := by
  have hc3 := hv.2.2.2.2.1
  obtain ⟨h1, h2, h3, h4, h5, h6, h7, h8⟩ := h
  unfold cI
  rw [k 24 (by omega), k 26 (by omega), k 2 (by omega), k 18 (by omega), k 19 (by omega), k 0 (by omega), k 27 (by omega), k 28 (by omega)]
  refine ⟨?_, h2, h3, ⟨h11, h4.2.1, h15⟩, h5, h6, h7, h8.1, fun i hi => ?_⟩
  · unfold cX cC cL cM at h1 ⊢
    rw [k 3 (by omega), k 4 (by omega), k 5 (by omega), k 14 (by omega), k13 1 (by omega), k13 5 (by omega)]
    exact h1
  · have hi' : i < qc s := hi
    rw [k (30 + 2 * i) (by omega), k (31 + 2 * i) (by omega)]
    exact h8.2 i hi
theorem rI_t {m m1 : Um} {s : Ss} {F : Int32} (h : rI m s) (k : ∀ c, c = 39 ∨ c = 40 ∨ c = 43 ∨ c = 47 ∨ c = 48 ∨ c = 53 ∨ c = 55 ∨ c = 57 ∨ c = 62 → m1 c = m c) (k38 : ∀ j, j = 17 ∨ j = 18 ∨ j = 19 ∨ j = 26 ∨ j = 31 ∨ j = 32 ∨ j = 41 ∨ j = 48 → m1 38 j = m 38 j) (h2 : m1 38 2 = 0) (h8 : m1 38 8 = F) : rI m1 (sTx s F) := by
  obtain ⟨g1, g2, g3, g4, g5, g6, g7⟩ := h
  unfold rI
  rw [k 53 (by omega), k 40 (by omega), k 57 (by omega), k 39 (by omega), k 55 (by omega), k 62 (by omega), k38 41 (by omega), k38 32 (by omega), k38 31 (by omega), k38 48 (by omega)]
  exact ⟨rX_of' g1 (fun q hq => k38 q (by omega)) (fun c hc => k c (by omega)), g2, ⟨h2, g3.2.1, h8⟩, g4, g5, g6, g7⟩
/-- the bytes as naturals -/
def qb (s : Ss) (k : Nat) : Nat := (qB s k).toInt.toNat
theorem qb_ok {s : Ss} (hv : vI s) {k : Nat} (hk : k < 600) : qb s k < 256 ∧ qB s k = nI (qb s k) := by
  have h := hv.2.2.1.2 k hk
  unfold qb
  refine ⟨by omega, ?_⟩
  apply Int32.toInt_inj.mp
  rw [nI_toInt (by omega)]
  omega
theorem e_begin {m : Um} {s : Ss} (hc : cI m s) (hv : vI s) {N : Nat} (hN : N ≤ 600) : ∃ m', f_X5_begin m (nI N) = some (m', ()) ∧ (∀ c, c ≠ 1 → m' c = m c) ∧ tA (qb s) N m' ∧ m' 1 3 = nI 0 ∧ m' 1 1 = 0 ∧ m' 1 5 = -1 := by
  have e : ummin (nI N) 600 = nI N := by
    rw [show (600 : Int32) = nI 600 from rfl, mn_n (by omega) (by omega), show min N 600 = N by omega]
  refine ⟨_, rfl, fun c h => ?_, ⟨hN, fun k hk => ?_, ?_⟩, ?_, ?_, ?_⟩
  · rw [um_w_c h, um_w_c h, um_w_c h, um_w_c h, um_w_c h]
  · rw [um_w_c (by omega), um_w_c (by omega), um_w_c (by omega), um_w_c (by omega), um_w_c (by omega), hc.2.2.2.1.2.1 k (by omega)]
    exact qb_ok hv (by omega)
  · rw [um_w_k (by omega), um_w_k (by omega), um_w_k (by omega), um_w_s, e]
  · rw [um_w_k (by omega), um_w_k (by omega), um_w_s]; rfl
  · rw [um_w_k (by omega), um_w_k (by omega), um_w_k (by omega), um_w_k (by omega), um_w_s]
  · rw [um_w_s]
theorem r_begin {M : Um} {s : Ss} (hr : rI M s) (hv : vI s) {N : Nat} (hN : N ≤ 600) : ∃ m', f_X8_begins M (nI N) = some (m', ()) ∧ (∀ c, c ≠ 38 → m' c = M c) ∧ (∀ j, j = 0 ∨ 9 ≤ j → m' 38 j = M 38 j) ∧ rA (qb s) N m' ∧ m' 38 2 = 0 ∧ m' 38 4 = nI 0 ∧ m' 38 5 = -1 ∧ m' 38 7 = 0 ∧ m' 38 8 = -1 := by
  refine ⟨_, rfl, fun c h => ?_, fun j h => ?_, ⟨hN, fun k hk => ?_, ?_⟩, ?_, ?_, ?_, ?_, ?_⟩
  · rw [um_w_c h, um_w_c h, um_w_c h, um_w_c h, um_w_c h, um_w_c h]
  · rw [um_w_k (by omega), um_w_k (by omega), um_w_k (by omega), um_w_k (by omega), um_w_k (by omega), um_w_k (by omega)]
  · rw [um_w_c (by omega), um_w_c (by omega), um_w_c (by omega), um_w_c (by omega), um_w_c (by omega), um_w_c (by omega), hr.2.2.1.2.1 k (by omega)]
    exact qb_ok hv (by omega)
  · rw [um_w_k (by omega), um_w_k (by omega), um_w_k (by omega), um_w_s]
  · rw [um_w_k (by omega), um_w_k (by omega), um_w_k (by omega), um_w_k (by omega), um_w_k (by omega), um_w_s]
  · rw [um_w_k (by omega), um_w_k (by omega), um_w_s]; rfl
  · rw [um_w_k (by omega), um_w_s]
  · rw [um_w_s]
  · rw [um_w_k (by omega), um_w_k (by omega), um_w_k (by omega), um_w_k (by omega), um_w_s]
/-- the gate of a text -/
theorem gate_iff {a : Int32} {K L : Nat} (hK : K < 2 ^ 31) (hL : L < 2 ^ 31) : (0 ≤ a ∧ a ≤ nI (min K L)) ↔ (¬ a < 0 ∧ ¬ nI L < a ∧ ¬ nI K < a) := by
  have hm : min K L = K ∨ min K L = L := by omega
  have e1 := nI_toInt (n := min K L) (by omega)
  have e2 := nI_toInt hK
  have e3 := nI_toInt hL
  rw [Int32.le_iff_toInt_le, Int32.le_iff_toInt_le, Int32.lt_iff_toInt_lt, Int32.lt_iff_toInt_lt, Int32.lt_iff_toInt_lt, e1, e2, e3, i_0]
  omega
theorem gate3_t {α : Type} {a : Int32} {K L : Nat} (hK : K < 2 ^ 31) (hL : L < 2 ^ 31) (h : 0 ≤ a ∧ a ≤ nI (min K L)) (X Y : α) : (if a < 0 then X else if nI L < a then X else if nI K < a then X else Y) = Y := by
  obtain ⟨h1, h2, h3⟩ := (gate_iff hK hL).mp h
  rw [if_neg h1, if_neg h2, if_neg h3]
theorem gate3_f {α : Type} {a : Int32} {K L : Nat} (hK : K < 2 ^ 31) (hL : L < 2 ^ 31) (h : ¬ (0 ≤ a ∧ a ≤ nI (min K L))) (X Y : α) : (if a < 0 then X else if nI L < a then X else if nI K < a then X else Y) = X := by
  by_cases h1 : a < 0
  · rw [if_pos h1]
  · by_cases h2 : nI L < a
    · rw [if_neg h1, if_pos h2]
    · by_cases h3 : nI K < a
      · rw [if_neg h1, if_neg h2, if_pos h3]
      · exact absurd ((gate_iff hK hL).mpr ⟨h1, h2, h3⟩) h
theorem gate2_t {α : Type} {a : Int32} {L : Nat} (hL : L < 2 ^ 31) (h : 0 ≤ a ∧ a ≤ nI L) (X Y : α) : (if a < 0 then X else if nI L < a then X else Y) = Y := by
  have h' : 0 ≤ a ∧ a ≤ nI (min L L) := by rw [show min L L = L by omega]; exact h
  obtain ⟨h1, h2, h3⟩ := (gate_iff hL hL).mp h'
  rw [if_neg h1, if_neg h2]
theorem gate2_f {α : Type} {a : Int32} {L : Nat} (hL : L < 2 ^ 31) (h : ¬ (0 ≤ a ∧ a ≤ nI L)) (X Y : α) : (if a < 0 then X else if nI L < a then X else Y) = X := by
  by_cases h1 : a < 0
  · rw [if_pos h1]
  · by_cases h2 : nI L < a
    · rw [if_neg h1, if_pos h2]
    · refine absurd ?_ h
      have := (gate_iff (a := a) hL hL).mpr ⟨h1, h2, h2⟩
      rwa [show min L L = L by omega] at this
/-! feed -/
theorem sr255 (v : BitVec 32) {s : Nat} (hs : s ≤ 24) : (v >>> s) &&& 255#32 = (v.sshiftRight s) &&& 255#32 := by
  apply BitVec.eq_of_getLsbD_eq
  intro i hi
  rw [BitVec.getLsbD_and, BitVec.getLsbD_and, BitVec.getLsbD_ushiftRight, BitVec.getLsbD_sshiftRight]
  by_cases h8 : i < 8
  · have h1 : s + i < 32 := by omega
    have h2 : ¬ 32 ≤ i := by omega
    simp [h1, h2]
  · have h255 : ∀ i, i < 32 → ¬ i < 8 → (255#32).getLsbD i = false := by decide
    rw [h255 i hi h8, Bool.and_false, Bool.and_false]
def bx (x : Int32) (j : Nat) : Int32 := (x >>> (nI (24 - 8 * j) &&& 31)) &&& 255
theorem bx_0 (x : Int32) : (uus x 24) &&& 255 = bx x 0 := Int32.toBitVec_inj.mp (sr255 x.toBitVec (s := 24) (by omega))
theorem bx_1 (x : Int32) : (uus x 16) &&& 255 = bx x 1 := Int32.toBitVec_inj.mp (sr255 x.toBitVec (s := 16) (by omega))
theorem bx_2 (x : Int32) : (uus x 8) &&& 255 = bx x 2 := Int32.toBitVec_inj.mp (sr255 x.toBitVec (s := 8) (by omega))
theorem bx_3 (x : Int32) : (uus x 0) &&& 255 = bx x 3 := Int32.toBitVec_inj.mp (sr255 x.toBitVec (s := 0) (by omega))
theorem bx_rng (x : Int32) (j : Nat) : 0 ≤ (bx x j).toInt ∧ (bx x j).toInt ≤ 255 := by
  have h : (bx x j).toBitVec.toNat ≤ 255 := by
    unfold bx
    rw [Int32.toBitVec_and, BitVec.toNat_and]
    exact Nat.and_le_right
  have h2 : (bx x j).toInt = ((bx x j).toBitVec.toNat : Int) := by
    show (bx x j).toBitVec.toInt = _
    rw [BitVec.toInt_eq_toNat_of_lt (by omega)]
  omega
def pk5 (a b c d e : Int32) (i : Nat) : Int32 := if i = 0 then a else if i = 1 then b else if i = 2 then c else if i = 3 then d else e
def fdS (a b c d e : Int32) (L : Nat) (f : Nat → Int32) : Nat → Nat → Int32
  | 0 => f
  | k + 1 => upd (fdS a b c d e L f k) (L + k) (bx (pk5 a b c d e (k / 4)) (k % 4))
theorem fdS_cong {a b c d e : Int32} {L : Nat} {f g : Nat → Int32} (h : ∀ k, k < 600 → f k = g k) : ∀ k j, j < 600 → fdS a b c d e L f k j = fdS a b c d e L g k j
  | 0, j, hj => h j hj
  | k + 1, j, hj => by
    unfold fdS upd
    by_cases h1 : j = L + k
    · simp [h1]
    · simp only [h1, if_false]
      exact fdS_cong h k j hj
theorem fdS_rng {a b c d e : Int32} {L : Nat} {f : Nat → Int32} (h : ∀ k, k < 600 → 0 ≤ (f k).toInt ∧ (f k).toInt ≤ 255) : ∀ k j, j < 600 → 0 ≤ (fdS a b c d e L f k j).toInt ∧ (fdS a b c d e L f k j).toInt ≤ 255
  | 0, j, hj => h j hj
  | k + 1, j, hj => by
    unfold fdS upd
    by_cases h1 : j = L + k
    · rw [if_pos h1]
      exact bx_rng _ _
    · rw [if_neg h1]
      exact fdS_rng h k j hj
theorem e_add1 {m : Um} {L : Nat} (h : m 1 1 = nI L) (hL : L < 600) (n : Nat) (x s : Int32) (hs : ¬ s < 0) : f_X5_add_b3 (n + 1) m x s = f_X5_add_b3 n (um_w (um_w m 2 L (uus x s &&& 255)) 1 1 (nI (L + 1))) x (s + (-8)) := by
  rw [f_X5_add_b3, if_neg hs, h, if_neg (nle_lit (k := 600) hL (by decide)), uin_n hL (by omega), ugd_t, nI_clamp (by omega), um_w_c (by omega), h, nI_1]
  rfl
/-- four bytes more -/
def ad4 (m m' : Um) (L : Nat) (x : Int32) : Prop := (∀ c, c ≠ 1 → c ≠ 2 → m' c = m c) ∧ (∀ j, j ≠ 1 → m' 1 j = m 1 j) ∧ m' 1 1 = nI (L + 4) ∧ m' 2 = upd (upd (upd (upd (m 2) L (bx x 0)) (L + 1) (bx x 1)) (L + 2) (bx x 2)) (L + 3) (bx x 3)
theorem e_add {m : Um} {L : Nat} (h : m 1 1 = nI L) (hL : L + 4 ≤ 600) (x : Int32) : ∃ m', f_X5_add m x = some (m', ()) ∧ ad4 m m' L x := by
  have hu : UF = 2995 + 1 + 1 + 1 + 1 + 1 := by decide
  unfold f_X5_add
  rw [hu, e_add1 h (by omega) _ x 24 (by decide), show (24 : Int32) + (-8) = 16 by decide, e_add1 (L := L + 1) (um_w_s _ _ _ _) (by omega) _ x 16 (by decide), show (16 : Int32) + (-8) = 8 by decide, e_add1 (L := L + 2) (um_w_s _ _ _ _) (by omega) _ x 8 (by decide), show (8 : Int32) + (-8) = 0 by decide, e_add1 (L := L + 3) (um_w_s _ _ _ _) (by omega) _ x 0 (by decide), show (0 : Int32) + (-8) = -8 by decide, f_X5_add_b3, if_pos (by decide), bx_0, bx_1, bx_2, bx_3]
  refine ⟨_, rfl, fun c h1 h2 => ?_, fun j hj => ?_, um_w_s _ _ _ _, ?_⟩
  · rw [um_w_c h1, um_w_c h2, um_w_c h1, um_w_c h2, um_w_c h1, um_w_c h2, um_w_c h1, um_w_c h2]
  · rw [um_w_k hj, um_w_c (by omega), um_w_k hj, um_w_c (by omega), um_w_k hj, um_w_c (by omega), um_w_k hj, um_w_c (by omega)]
  · simp (disch := omega) only [um_w_c]
    simp (disch := omega) only [um_w_def, um_wa_s, um_wa_n]
theorem r_feed1 {m : Um} {L k : Nat} (h : m 38 2 = nI L) (hL : L < 600) (hk : k < 20) (n : Nat) (a b c d e : Int32) : f_X8_feed_b23 (n + 1) m a b c d e (nI k) = f_X8_feed_b23 n (um_w (um_w m 40 L (bx (pk5 a b c d e (k / 4)) (k % 4))) 38 2 (nI (L + 1))) a b c d e (nI (k + 1)) := by
  have hs : ∀ k, k < 20 → ((24 - (8 * (nI k % 4))) &&& 31 : Int32) = nI (24 - 8 * (k % 4)) &&& 31 := by decide +kernel
  have hb : ∀ y : Int32, f_X8_feed_b76 (f_X8_feed_b23 n) m a b c d e (nI k) y = f_X8_feed_b23 n (um_w (um_w m 40 L (bx y (k % 4))) 38 2 (nI (L + 1))) a b c d e (nI (k + 1)) := by
    intro y
    unfold f_X8_feed_b76
    rw [h, uin_n hL (by omega), ugd_t, nI_clamp (by omega), um_w_c (by omega), h, nI_1, nI_1, hs k hk]
    rfl
  rw [f_X8_feed_b23, if_neg (nle_lit (k := 20) hk (by decide)), hb, hb, hb, hb, hb, ite_p (show (4 ≤ nI k) = (4 ≤ k) from lit_le (k := 4) (by decide) (by omega)), ite_p (show (8 ≤ nI k) = (8 ≤ k) from lit_le (k := 8) (by decide) (by omega)), ite_p (show (12 ≤ nI k) = (12 ≤ k) from lit_le (k := 12) (by decide) (by omega)), ite_p (show (16 ≤ nI k) = (16 ≤ k) from lit_le (k := 16) (by decide) (by omega))]
  unfold pk5
  by_cases h4 : 4 ≤ k
  · by_cases h8 : 8 ≤ k
    · by_cases h12 : 12 ≤ k
      · by_cases h16 : 16 ≤ k
        · rw [if_pos h4, if_pos h8, if_pos h12, if_pos h16, if_neg (by omega), if_neg (by omega), if_neg (by omega), if_neg (by omega)]
        · rw [if_pos h4, if_pos h8, if_pos h12, if_neg h16, if_neg (by omega), if_neg (by omega), if_neg (by omega), if_pos (by omega)]
      · rw [if_pos h4, if_pos h8, if_neg h12, if_neg (by omega), if_neg (by omega), if_pos (by omega)]
    · rw [if_pos h4, if_neg h8, if_neg (by omega), if_pos (by omega)]
  · rw [if_neg h4, if_pos (by omega)]
def rd_ (m m' : Um) (L k : Nat) (a b c d e : Int32) : Prop := (∀ q, q ≠ 38 → q ≠ 40 → m' q = m q) ∧ (∀ j, j ≠ 2 → m' 38 j = m 38 j) ∧ m' 38 2 = nI (L + k) ∧ m' 40 = fdS a b c d e L (m 40) k
theorem r_feedL {m : Um} {L : Nat} (hL : L + 20 ≤ 600) (a b c d e : Int32) : ∀ (r k fuel : Nat) (m1 : Um), k + r = 20 → r < fuel → rd_ m m1 L k a b c d e → ∃ m', f_X8_feed_b23 fuel m1 a b c d e (nI k) = some (m', nI (L + 20)) ∧ rd_ m m' L 20 a b c d e
  | r, k, 0, m1, _, hf, _ => absurd hf (Nat.not_lt_zero _)
  | 0, k, fuel + 1, m1, hk, hf, h => by
    have : k = 20 := by omega
    subst this
    refine ⟨m1, ?_, h⟩
    rw [f_X8_feed_b23, if_pos (by decide), h.2.2.1]
  | r + 1, k, fuel + 1, m1, hk, hf, h => by
    rw [r_feed1 h.2.2.1 (by omega) (by omega)]
    refine r_feedL hL a b c d e r (k + 1) fuel _ (by omega) (by omega) ⟨fun q h1 h2 => ?_, fun j hj => ?_, ?_, ?_⟩
    · rw [um_w_c h1, um_w_c h2, h.1 q h1 h2]
    · rw [um_w_k hj, um_w_c (by omega), h.2.1 j hj]
    · rw [um_w_s]; rfl
    · rw [um_w_c (by omega), um_w_def, um_wa_s, h.2.2.2]; rfl
abbrev sFd (s : Ss) (a b c d e : Int32) : Ss := (s.1, s.2.1, (qL s + 20, fdS a b c d e (qL s) (qB s) 20, qF s), s.2.2.2)
theorem op_feed : uop_feed uI := by
  intro m a b c d e ⟨s, hc, hr, hv⟩
  have hL6 := hv.2.2.1.1
  have hL1 := hc.2.2.2.1.1
  have hle : (nI (qL s) + 20 ≤ 600) = (qL s + 20 ≤ 600) := by
    rw [show nI (qL s) + 20 = nI (qL s + 20) from nI_add (qL s) 20]
    exact nI_le' (b := 600) (by omega) (by omega)
  by_cases h : qL s + 20 ≤ 600
  · have hv' : vI (sFd s a b c d e) := ⟨hv.1, hv.2.1, ⟨h, fun k hk => fdS_rng hv.2.2.1.2 20 k hk⟩, hv.2.2.2⟩
    obtain ⟨m1, e1, k1⟩ := e_add hL1 (by omega) a
    obtain ⟨m2, e2, k2⟩ := e_add k1.2.2.1 (by omega) b
    obtain ⟨m3, e3, k3⟩ := e_add k2.2.2.1 (by omega) c
    obtain ⟨m4, e4, k4⟩ := e_add k3.2.2.1 (by omega) d
    obtain ⟨m5, e5, k5⟩ := e_add k4.2.2.1 (by omega) e
    have kc : ∀ q, q ≠ 1 → q ≠ 2 → m5 q = m q := fun q h1 h2 => by rw [k5.1 q h1 h2, k4.1 q h1 h2, k3.1 q h1 h2, k2.1 q h1 h2, k1.1 q h1 h2]
    have kj : ∀ j, j ≠ 1 → m5 1 j = m 1 j := fun j h1 => by rw [k5.2.1 j h1, k4.2.1 j h1, k3.2.1 j h1, k2.2.1 j h1, k1.2.1 j h1]
    have kt : m5 2 = fdS a b c d e (qL s) (m 2) 20 := by
      rw [k5.2.2.2, k4.2.2.2, k3.2.2.2, k2.2.2.2, k1.2.2.2]
      rfl
    refine wrapS (s' := sFd s a b c d e) (fr := fun M => f_X8_feed M a b c d e) hr hv' ⟨nI (qL s + 20), m5, ?_, ?_, fun q hq => kc q (by omega) (by omega), fun M hM => ?_⟩
    · unfold f_X7_feed
      rw [hL1, ite_p hle, if_pos h, e1, ubi_mk, e2, ubi_mk, e3, ubi_mk, e4, ubi_mk, e5, ubi_mk, k5.2.2.1]
    · have hc3 := hv.2.2.2.2.1
      obtain ⟨h1, h2, h3, h4, h5, h6, h7, h8⟩ := hc
      unfold cI
      rw [kc 24 (by omega) (by omega), kc 26 (by omega) (by omega), kc 18 (by omega) (by omega), kc 19 (by omega) (by omega), kc 0 (by omega) (by omega), kc 27 (by omega) (by omega), kc 28 (by omega) (by omega), kj 5 (by omega), kt]
      refine ⟨cX_of h1 (fun q hq => kc q (by omega) (by omega)), h2, h3, ⟨k5.2.2.1, fun k hk => fdS_cong h4.2.1 20 k hk, h4.2.2⟩, h5, h6, h7, h8.1, fun i hi => ?_⟩
      have hi' : i < qc s := hi
      rw [kc (30 + 2 * i) (by omega) (by omega), kc (31 + 2 * i) (by omega) (by omega)]
      exact h8.2 i hi
    · obtain ⟨g1, g2, g3, g4, g5, g6, g7⟩ := rI_K hM (z0_K M)
      obtain ⟨m', f1, f2⟩ := r_feedL (m := z0 M) h a b c d e 20 0 UF (z0 M) rfl (by decide) ⟨fun _ _ _ => rfl, fun _ _ => rfl, g3.1, rfl⟩
      refine ⟨m', ?_, ?_, fun q hq => by rw [f2.1 q (by omega) (by omega), z0_n (by omega)]⟩
      · show (if z0 M 38 2 + 20 ≤ 600 then f_X8_feed_b23 UF (z0 M) a b c d e 0 else some (z0 M, -1)) = _
        rw [g3.1, ite_p hle, if_pos h]
        exact f1
      · unfold rI
        rw [f2.1 53 (by omega) (by omega), f2.1 57 (by omega) (by omega), f2.1 39 (by omega) (by omega), f2.1 55 (by omega) (by omega), f2.1 62 (by omega) (by omega), f2.2.1 8 (by omega), f2.2.1 41 (by omega), f2.2.1 32 (by omega), f2.2.1 31 (by omega), f2.2.1 48 (by omega), f2.2.2.2]
        exact ⟨rX_of' g1 (fun q hq => f2.2.1 q (by omega)) (fun c hc => f2.1 c (by omega) (by omega)), g2, ⟨f2.2.2.1, fun k hk => fdS_cong g3.2.1 20 k hk, g3.2.2⟩, g4, g5, g6, g7⟩
  · refine wrapA (fr := fun M => f_X8_feed M a b c d e) hc hr hv ⟨-1, m, ?_, cK_rf hc, fun M hM => ⟨z0 M, ?_, z0_K M⟩⟩
    · unfold f_X7_feed
      rw [hL1, ite_p hle, if_neg h]
    · have g3 := (rI_K hM (z0_K M)).2.2.1.1
      show (if z0 M 38 2 + 20 ≤ 600 then f_X8_feed_b23 UF (z0 M) a b c d e 0 else some (z0 M, -1)) = _
      rw [g3, ite_p hle, if_neg h]
