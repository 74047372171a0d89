/-! PAY -/
def gC (v w a b : Int32) : Int32 := if a = 0 then (if b = 0 then v - w else v - 2 * w) else (if b = 0 then v else 0)
def gR (v w a b : Int32) : Int32 := if a = b then (if a = 0 then v - w else 0) else (if a = 0 then v - 2 * w else v)
theorem e_gain (m : Um) (v w a b : Int32) : f_X7_gain m v w a b = some (m, gC v w a b) := by
  unfold f_X7_gain gC f_X7_gain_b19 f_X7_gain_b29
  by_cases h : a = 0 <;> by_cases h2 : b = 0 <;> simp [h, h2]
theorem r_has (m : Um) (v w a b : Int32) : f_X8_hasBy m a b v w = some (m, gR v w a b) := by
  unfold f_X8_hasBy gR f_X8_hasBy_b32
  by_cases h : a = b
  · rw [if_pos h, if_pos h]
    by_cases h2 : a = 0
    · rw [if_pos h2, if_pos h2]
    · rw [if_neg h2, if_neg h2]
  · rw [if_neg h, if_neg h]
    by_cases h2 : a = 0
    · rw [if_pos h2, if_pos h2]
    · rw [if_neg h2, if_neg h2]
theorem e_content (m : Um) (v w a b : Int32) : f_X7_isContent m v w a b = some (m, bi (!decide (gC v w a b < gC v w (1 - a) b))) := by
  unfold f_X7_isContent f_X7_isContent_b24
  rw [e_gain, ubi_mk, e_gain, ubi_mk, ub01_0, ub01_1, ugd_t, ugd_t]
  by_cases h : gC v w a b < gC v w (1 - a) b <;> simp [h, bi]
def okC (v w x : Int32) : Bool := !decide (gC v w (x / 2) (x % 2) < gC v w (1 - x / 2) (x % 2)) && !decide (gC v w (x % 2) (x / 2) < gC v w (1 - x % 2) (x / 2))
def okR (v w x : Int32) : Bool := !decide (gR v w (x / 2) (x % 2) < gR v w (1 - x / 2) (x % 2)) && decide (gR v w (1 - x % 2) (x / 2) ≤ gR v w (x % 2) (x / 2))
def pcS (v w : Int32) (k : Nat) (p : Int32 × Int32 × Int32) : Int32 × Int32 × Int32 := if okC v w (nI k) = true then (p.1 + 1, (if p.1 = 0 then 10 * (nI k / 2) + nI k % 2 else p.2.1), (if p.1 = 0 then gC v w (nI k / 2) (nI k % 2) + gC v w (nI k % 2) (nI k / 2) else p.2.2)) else p
def prS (v w : Int32) (k : Nat) (p : Int32 × Int32) : Int32 × Int32 := if okR v w (nI k) = true then (p.1 + 1, (if p.2 = -1 then 10 * (nI k / 2) + nI k % 2 else p.2)) else p
theorem gCR {v w : Int32} : ∀ {a b : Int32}, (a = 0 ∨ a = 1) → (b = 0 ∨ b = 1) → gC v w a b = gR v w a b := by
  intro a b ha hb
  unfold gC gR
  rcases ha with rfl | rfl <;> rcases hb with rfl | rfl <;> simp (decide := true) only [if_true, if_false]
theorem d01 : ∀ k, k < 4 → (nI k / 2 = 0 ∨ nI k / 2 = 1) ∧ (nI k % 2 = 0 ∨ nI k % 2 = 1) ∧ (1 - nI k / 2 = 0 ∨ 1 - nI k / 2 = 1) ∧ (1 - nI k % 2 = 0 ∨ 1 - nI k % 2 = 1) := by decide +kernel
theorem okCR {v w : Int32} {k : Nat} (hk : k < 4) : okR v w (nI k) = okC v w (nI k) := by
  obtain ⟨h1, h2, h3, h4⟩ := d01 k hk
  unfold okR okC
  rw [gCR h1 h2, gCR h3 h2, gCR h2 h1, gCR h4 h1]
  congr 1
  rw [← decide_not]
  congr 1
  rw [Int32.not_lt]
theorem pay_eq (v w : Int32) : (lp (pcS v w) 4 0 (0, -1, 0)).1 = (lp (prS v w) 4 0 (0, -1)).1 ∧ (lp (pcS v w) 4 0 (0, -1, 0)).2.1 = (lp (prS v w) 4 0 (0, -1)).2 ∧ (lp (pcS v w) 4 0 (0, -1, 0)).2.2 = if (lp (prS v w) 4 0 (0, -1)).2 = -1 then 0 else gR v w ((lp (prS v w) 4 0 (0, -1)).2 / 10) ((lp (prS v w) 4 0 (0, -1)).2 % 10) + gR v w ((lp (prS v w) 4 0 (0, -1)).2 % 10) ((lp (prS v w) 4 0 (0, -1)).2 / 10) := by
  have e0 := okCR (v := v) (w := w) (show 0 < 4 by omega)
  have e1 := okCR (v := v) (w := w) (show 1 < 4 by omega)
  have e2 := okCR (v := v) (w := w) (show 2 < 4 by omega)
  have e3 := okCR (v := v) (w := w) (show 3 < 4 by omega)
  simp only [lp, pcS, prS, Nat.zero_add, Nat.reduceAdd, e0, e1, e2, e3]
  generalize okC v w (nI 0) = c0
  generalize okC v w (nI 1) = c1
  generalize okC v w (nI 2) = c2
  generalize okC v w (nI 3) = c3
  cases c0 <;> cases c1 <;> cases c2 <;> cases c3 <;> simp (decide := true) only [if_true, if_false, gC, gR, and_self]
theorem e_pay (m : Um) (v w y : Int32) : f_X7_pay_b35 UF m v w y 0 (-1) 0 0 = some (m, .inl (if y = 0 then (lp (pcS v w) 4 0 (0, -1, 0)).1 else if y = 1 then (lp (pcS v w) 4 0 (0, -1, 0)).2.1 else (lp (pcS v w) 4 0 (0, -1, 0)).2.2)) := by
  refine lp_run0 (fun f (p : Int32 × Int32 × Int32) k => f_X7_pay_b35 f m v w y p.1 p.2.1 p.2.2 (nI k)) 4 (pcS v w) (fun p => some (m, .inl (if y = 0 then p.1 else if y = 1 then p.2.1 else p.2.2))) ?_ ?_ (0, -1, 0) (by decide)
  · intro f p k hk
    show f_X7_pay_b35 (f + 1) m v w y p.1 p.2.1 p.2.2 (nI k) = f_X7_pay_b35 f m v w y (pcS v w k p).1 (pcS v w k p).2.1 (pcS v w k p).2.2 (nI (k + 1))
    rw [f_X7_pay_b35, if_neg (nle_lit (k := 4) hk (by decide)), e_content, ubi_mk, ite_bi0]
    simp only [f_X7_pay_b116, f_X7_pay_b113, e_content, e_gain, ubi_mk, ite_bi0, nI_1]
    unfold pcS okC
    by_cases h1 : gC v w (nI k / 2) (nI k % 2) < gC v w (1 - nI k / 2) (nI k % 2)
    · simp [h1]
    · by_cases h2 : gC v w (nI k % 2) (nI k / 2) < gC v w (1 - nI k % 2) (nI k / 2)
      · simp [h1, h2]
      · by_cases h3 : p.1 = 0 <;> simp [h1, h2, h3]
  · intro f p
    show f_X7_pay_b35 (f + 1) m v w y p.1 p.2.1 p.2.2 (nI 4) = _
    rw [f_X7_pay_b35, if_pos (by decide)]
    simp only [f_X7_pay_b141]
    split
    · rfl
    · split <;> rfl
theorem r_pay (m : Um) (v w y : Int32) : f_X8_pay_b59 UF m v w y 0 (-1) 0 = some (m, (if y = 0 then (lp (pcS v w) 4 0 (0, -1, 0)).1 else if y = 1 then (lp (pcS v w) 4 0 (0, -1, 0)).2.1 else (lp (pcS v w) 4 0 (0, -1, 0)).2.2)) := by
  obtain ⟨q1, q2, q3⟩ := pay_eq v w
  rw [q1, q2, q3]
  refine lp_run0 (fun f (p : Int32 × Int32) k => f_X8_pay_b59 f m v w y p.1 p.2 (nI k)) 4 (prS v w) (fun p => some (m, (if y = 0 then p.1 else if y = 1 then p.2 else if p.2 = -1 then 0 else gR v w (p.2 / 10) (p.2 % 10) + gR v w (p.2 % 10) (p.2 / 10)))) ?_ ?_ (0, -1) (by decide)
  · intro f p k hk
    show f_X8_pay_b59 (f + 1) m v w y p.1 p.2 (nI k) = f_X8_pay_b59 f m v w y (prS v w k p).1 (prS v w k p).2 (nI (k + 1))
    rw [f_X8_pay_b59, if_neg (nle_lit (k := 4) hk (by decide)), r_has, ubi_mk, r_has, ubi_mk]
    simp only [f_X8_pay_b150, f_X8_pay_b148, r_has, ubi_mk, nI_1]
    unfold prS okR
    by_cases h1 : gR v w (nI k / 2) (nI k % 2) < gR v w (1 - nI k / 2) (nI k % 2)
    · simp [h1]
    · by_cases h2 : gR v w (1 - nI k % 2) (nI k / 2) ≤ gR v w (nI k % 2) (nI k / 2)
      · by_cases h3 : p.2 = -1 <;> simp [h1, h2, h3]
      · simp [h1, h2]
  · intro f p
    show f_X8_pay_b59 (f + 1) m v w y p.1 p.2 (nI 4) = _
    rw [f_X8_pay_b59, if_pos (by decide)]
    simp only [f_X8_pay_b216, r_has, ubi_mk]
    split
    · rfl
    · split
      · rfl
      · split <;> rfl
theorem op_pay : uop_pay uI := by
  intro m a1 a2 a3 ⟨s, hc, hr, hv⟩
  have hT5 := vI_T hc
  have hV8 := vI_V hc
  by_cases h1 : 0 ≤ a1 ∧ a1 ≤ 99
  · skip
    by_cases h2 : 0 ≤ a2 ∧ a2 ≤ 99
    · skip
      by_cases h3 : 0 ≤ a3 ∧ a3 ≤ 2
      · skip
        refine Or.inl (wrapI (fr := fun M => f_X8_pay M a1 a2 a3) hc hr hv ?_)
        refine ⟨(if a3 = 0 then (lp (pcS a1 a2) 4 0 (0, -1, 0)).1 else if a3 = 1 then (lp (pcS a1 a2) 4 0 (0, -1, 0)).2.1 else (lp (pcS a1 a2) 4 0 (0, -1, 0)).2.2), m, ?_, cK_rf hc, fun M hM => ⟨z0 M, ?_, z0_K M, z0_0 M⟩⟩
        · simp (decide := true) (disch := omega) only [f_X7_pay, e_need_t h1, e_need_t h2, e_need_t h3, ubx_l, ubi_mk, if_true, if_false, ugd_t, e_pay]
        · show ubi (f_X8_within (z0 (M)) a1 0 99) _ = _
          simp (decide := true) (disch := omega) only [r_wit_t h1, r_wit_t h2, r_wit_t h3, ubi_mk, r_may_t (z0_0 _), if_true, if_false, ugd_t, f_X8_pay_b40, f_X8_pay_b39, f_X8_pay_b40, r_pay]
      · refine Or.inr ⟨tI m, tR (z0 (tI m)) 1 1, 0, ?_, ?_, tR_0, throwI hc hr hv 1⟩
        · simp only [f_X7_pay, e_need_t h1, e_need_t h2, e_need_f h3, ubx_l, ubx_r]
        · have hm := rI_tI hr
          show ubi (f_X8_within (z0 (tI m)) a1 0 99) _ = _
          simp (decide := true) (disch := omega) only [r_wit_t h1, r_wit_t h2, r_wit_f h3, r_may_f1 (z0_0 _) i1_0, ubi_mk, if_true, if_false, f_X8_pay_b40, f_X8_pay_b39]
    · refine Or.inr ⟨tI m, tR (z0 (tI m)) 1 1, 0, ?_, ?_, tR_0, throwI hc hr hv 1⟩
      · simp only [f_X7_pay, e_need_t h1, e_need_f h2, ubx_l, ubx_r]
      · have hm := rI_tI hr
        show ubi (f_X8_within (z0 (tI m)) a1 0 99) _ = _
        simp (decide := true) (disch := omega) only [r_wit_t h1, r_wit_f h2, r_may_f1 (z0_0 _) i1_0, ubi_mk, if_true, if_false, f_X8_pay_b40, f_X8_pay_b39]
  · refine Or.inr ⟨tI m, tR (z0 (tI m)) 1 1, 0, ?_, ?_, tR_0, throwI hc hr hv 1⟩
    · simp only [f_X7_pay, e_need_f h1, ubx_l, ubx_r]
    · have hm := rI_tI hr
      show ubi (f_X8_within (z0 (tI m)) a1 0 99) _ = _
      simp (decide := true) (disch := omega) only [r_wit_f h1, r_may_f1 (z0_0 _) i1_0, ubi_mk, if_true, if_false, f_X8_pay_b40, f_X8_pay_b39]
/-! TERRACE -/
theorem bits_or {n : Nat} (hn : n ≤ 32) (p q : Nat → Bool) : bits n p ||| bits n q = bits n (fun t => p t || q t) := by
  apply Int32.toBitVec_inj.mp
  apply BitVec.eq_of_getLsbD_eq
  intro i hi
  rw [Int32.toBitVec_or, BitVec.getLsbD_or, bits_get _ hn, bits_get _ hn, bits_get _ hn]
  cases decide (i < n) <;> rfl
theorem bt_bits : ∀ t, t < 5 → bt t = bits 5 (fun u => decide (u = t)) := by decide +kernel
theorem no_bits : (0 : Int32) = bits 5 (fun _ => false) := by decide +kernel
def nbS (R : Nat → Int32) (p : Nat → Bool) (t : Nat) (q : Nat → Bool) : Nat → Bool := if p t = true then fun u => q u || sTouch R t u else q
def nbN (R : Nat → Int32) (p : Nat → Bool) : Nat → Bool := fun u => p u || lp (nbS R p) 5 0 (fun _ => false) u
theorem e_neigh {m : Um} (p : Nat → Bool) : f_X7_neighbours m (bits 5 p) = some (m, bits 5 (lp (nbS (m 24) p) 5 0 (fun _ => false))) := by
  unfold f_X7_neighbours
  have := lp_run0 (fun n (q : Nat → Bool) t => f_X7_neighbours_b4 n m (bits 5 p) (bits 5 q) (nI t)) 5 (nbS (m 24) p) (fun q => some (m, bits 5 q)) ?_ ?_ (fun _ => false) (by decide)
  · rw [← no_bits] at this
    exact this
  · intro n q t ht
    show f_X7_neighbours_b4 (n + 1) m (bits 5 p) (bits 5 q) (nI t) = f_X7_neighbours_b4 n m (bits 5 p) (bits 5 (nbS (m 24) p t q)) (nI (t + 1))
    rw [f_X7_neighbours_b4, if_neg (nle_lit (k := 5) ht (by decide)), bits_bit p (by omega) ht, ite_bi1]
    simp only [f_X7_neighbours_b29, e_touching ht, ubi_mk, nI_1, bits_or (show 5 ≤ 32 by omega)]
    unfold nbS
    cases p t <;> rfl
  · intro n q
    show f_X7_neighbours_b4 (n + 1) m (bits 5 p) (bits 5 q) (nI 5) = _
    rw [f_X7_neighbours_b4, if_pos (by decide)]
theorem e_terr {m : Um} (p : Nat → Bool) : f_X7_terrace_b26 UF m (bits 5 p) 1 = some (m, .inl (bits 5 (lp (fun _ q => nbN (m 24) q) 4 1 p))) := by
  refine lp_run (fun n (q : Nat → Bool) t => f_X7_terrace_b26 n m (bits 5 q) (nI t)) 5 (fun _ q => nbN (m 24) q) (fun _ _ => True) (fun q => some (m, .inl (bits 5 q))) ?_ ?_ 4 1 p UF rfl (by decide) trivial
  · intro n q t ht _
    refine ⟨?_, trivial⟩
    show f_X7_terrace_b26 (n + 1) m (bits 5 q) (nI t) = f_X7_terrace_b26 n m (bits 5 (nbN (m 24) q)) (nI (t + 1))
    rw [f_X7_terrace_b26, if_neg (nle_lit (k := 5) ht (by decide)), e_neigh, ubi_mk, bits_or (by omega), nI_1]
    rfl
  · intro n q _
    show f_X7_terrace_b26 (n + 1) m (bits 5 q) (nI 5) = _
    rw [f_X7_terrace_b26, if_pos (by decide)]
def inS (R : Nat → Int32) (t : Nat) (p : Nat → Bool) : Nat → Bool := if p t = true then fun u => p u || sTouch R t u else p
theorem r_terr {m : Um} {V T : Nat} {X W : Nat → Int32} (hc : rC m V T X W) (hR : vR T (cv (m 54))) (p : Nat → Bool) : f_X8_terrace_b42 UF m (bits 5 p) 0 = some (m, bits 5 (lp (fun _ q => lp (inS (cv (m 54))) T 0 q) 5 0 p)) := by
  have hT := hc.2.1
  refine lp_run0 (fun n (q : Nat → Bool) t => f_X8_terrace_b42 n m (bits 5 q) (nI t)) 5 (fun _ q => lp (inS (cv (m 54))) T 0 q) (fun q => some (m, bits 5 q)) ?_ ?_ p (by decide)
  · intro n q t ht
    show f_X8_terrace_b42 (n + 1) m (bits 5 q) (nI t) = f_X8_terrace_b42 n m (bits 5 (lp (inS (cv (m 54))) T 0 q)) (nI (t + 1))
    rw [f_X8_terrace_b42, if_neg (nle_lit (k := 5) ht (by decide))]
    refine lp_run0 (fun f (q : Nat → Bool) u => f_X8_terrace_b50 (f_X8_terrace_b42 n) f m (bits 5 q) (nI t) (nI u)) T (inS (cv (m 54))) (fun q => f_X8_terrace_b42 n m (bits 5 q) (nI (t + 1))) ?_ ?_ q (by show T < 3000; omega)
    · intro f q u hu
      show f_X8_terrace_b50 (f_X8_terrace_b42 n) (f + 1) m (bits 5 q) (nI t) (nI u) = f_X8_terrace_b50 (f_X8_terrace_b42 n) f m (bits 5 (inS (cv (m 54)) u q)) (nI t) (nI (u + 1))
      rw [f_X8_terrace_b50, hc.2.2.2.1, if_neg (nI_ge (by omega) (by omega)), bits_bit q (by omega) (by omega), ite_bi1]
      simp only [f_X8_terrace_b78, r_touching hc hR (show u < 5 by omega), ubi_mk, nI_1, bits_or (show 5 ≤ 32 by omega)]
      unfold inS
      cases q u <;> rfl
    · intro f q
      show f_X8_terrace_b50 (f_X8_terrace_b42 n) (f + 1) m (bits 5 q) (nI t) (nI T) = _
      rw [f_X8_terrace_b50, hc.2.2.2.1, if_pos (nI_le (Nat.le_refl _) (by omega)), nI_1]
  · intro n q
    show f_X8_terrace_b42 (n + 1) m (bits 5 q) (nI 5) = _
    rw [f_X8_terrace_b42, if_pos (by decide)]
theorem nb_has {R : Nat → Int32} {p : Nat → Bool} {u : Nat} : ∀ k, lp (nbS R p) k 0 (fun _ => false) u = true ↔ ∃ t, t < k ∧ p t = true ∧ sTouch R t u = true := by
  intro k
  induction k with
  | zero =>
    constructor
    · intro h
      cases h
    · rintro ⟨t, ht, _⟩
      exact absurd ht (Nat.not_lt_zero _)
  | succ k ih =>
    rw [lp_succ, Nat.zero_add]
    unfold nbS at ih ⊢
    by_cases hp : p k = true
    · rw [if_pos hp]
      show (_ || sTouch R k u) = true ↔ _
      rw [Bool.or_eq_true, ih]
      constructor
      · rintro (⟨t, h1, h2⟩ | h)
        · exact ⟨t, by omega, h2⟩
        · exact ⟨k, by omega, hp, h⟩
      · rintro ⟨t, h1, h2, h3⟩
        by_cases e : t = k
        · subst e
          exact Or.inr h3
        · exact Or.inl ⟨t, by omega, h2, h3⟩
    · rw [if_neg hp, ih]
      constructor
      · rintro ⟨t, h1, h2⟩
        exact ⟨t, by omega, h2⟩
      · rintro ⟨t, h1, h2, h3⟩
        by_cases e : t = k
        · subst e
          exact absurd h2 hp
        · exact ⟨t, by omega, h2, h3⟩
theorem nbN_has {R : Nat → Int32} {p : Nat → Bool} {u : Nat} : nbN R p u = true ↔ p u = true ∨ ∃ t, t < 5 ∧ p t = true ∧ sTouch R t u = true := by
  unfold nbN
  rw [Bool.or_eq_true, nb_has]
def cnt5 (p : Nat → Bool) : Nat := (p 0).toNat + (p 1).toNat + (p 2).toNat + (p 3).toNat + (p 4).toNat
theorem cnt_le (p : Nat → Bool) : cnt5 p ≤ 5 := by
  unfold cnt5
  have h : ∀ b : Bool, b.toNat ≤ 1 := by decide
  have := h (p 0)
  have := h (p 1)
  have := h (p 2)
  have := h (p 3)
  have := h (p 4)
  omega
theorem cnt_lt {p q : Nat → Bool} (h : ∀ u, u < 5 → p u = true → q u = true) : (∀ u, u < 5 → p u = q u) ∨ cnt5 p < cnt5 q := by
  have h0 := h 0 (by omega)
  have h1 := h 1 (by omega)
  have h2 := h 2 (by omega)
  have h3 := h 3 (by omega)
  have h4 := h 4 (by omega)
  have key : ∀ a0 a1 a2 a3 a4 b0 b1 b2 b3 b4 : Bool, (a0 = true → b0 = true) → (a1 = true → b1 = true) → (a2 = true → b2 = true) → (a3 = true → b3 = true) → (a4 = true → b4 = true) → (a0 = b0 ∧ a1 = b1 ∧ a2 = b2 ∧ a3 = b3 ∧ a4 = b4) ∨ a0.toNat + a1.toNat + a2.toNat + a3.toNat + a4.toNat < b0.toNat + b1.toNat + b2.toNat + b3.toNat + b4.toNat := by decide +kernel
  rcases key _ _ _ _ _ _ _ _ _ _ h0 h1 h2 h3 h4 with ⟨e0, e1, e2, e3, e4⟩ | e
  · refine Or.inl (fun u hu => ?_)
    rcases (show u = 0 ∨ u = 1 ∨ u = 2 ∨ u = 3 ∨ u = 4 by omega) with rfl | rfl | rfl | rfl | rfl <;> assumption
  · exact Or.inr e
theorem nbN_mono {R : Nat → Int32} {p q : Nat → Bool} (h : ∀ u, u < 5 → p u = true → q u = true) : ∀ u, u < 5 → nbN R p u = true → nbN R q u = true := by
  intro u hu hp
  rw [nbN_has] at hp ⊢
  rcases hp with hp | ⟨t, h1, h2, h3⟩
  · exact Or.inl (h u hu hp)
  · exact Or.inr ⟨t, h1, h t h1 h2, h3⟩
theorem nbN_eq {R : Nat → Int32} {p q : Nat → Bool} (h : ∀ u, u < 5 → p u = q u) : ∀ u, u < 5 → nbN R p u = nbN R q u := by
  intro u hu
  have h1 := nbN_mono (R := R) (p := p) (q := q) (fun u hu e => by rw [← h u hu]; exact e) u hu
  have h2 := nbN_mono (R := R) (p := q) (q := p) (fun u hu e => by rw [h u hu]; exact e) u hu
  cases a : nbN R p u <;> cases b : nbN R q u
  · rfl
  · exact (by rw [a] at h2; exact absurd (h2 b) (by decide))
  · exact (by rw [b] at h1; exact absurd (h1 a) (by decide))
  · rfl
/-- after k rounds: closed, or more than k -/
theorem nb_grow {R : Nat → Int32} {p : Nat → Bool} (hp : 1 ≤ cnt5 p) : ∀ k, (∀ u, u < 5 → lp (fun _ q => nbN R q) k 1 p u = nbN R (lp (fun _ q => nbN R q) k 1 p) u) ∨ k + 1 ≤ cnt5 (lp (fun _ q => nbN R q) k 1 p) := by
  intro k
  induction k with
  | zero => exact Or.inr hp
  | succ k ih =>
    rw [lp_succ (f := fun _ q => nbN R q) (k := k)]
    generalize lp (fun _ q => nbN R q) k 1 p = q at ih ⊢
    rcases ih with ih | ih
    · exact Or.inl (nbN_eq ih)
    · rcases cnt_lt (p := q) (q := nbN R q) (fun u hu e => nbN_has.mpr (Or.inl e)) with h | h
      · exact Or.inl (nbN_eq h)
      · exact Or.inr (by omega)
theorem nb_closed {R : Nat → Int32} {p : Nat → Bool} (hp : 1 ≤ cnt5 p) : ∀ u, u < 5 → lp (fun _ q => nbN R q) 4 1 p u = nbN R (lp (fun _ q => nbN R q) 4 1 p) u := by
  rcases nb_grow (R := R) hp 4 with h | h
  · exact h
  · generalize lp (fun _ q => nbN R q) 4 1 p = q at h ⊢
    rcases cnt_lt (p := q) (q := nbN R q) (fun u hu e => nbN_has.mpr (Or.inl e)) with h2 | h2
    · exact h2
    · have := cnt_le (nbN R q)
      omega
theorem in_sound {R : Nat → Int32} {C : Nat → Bool} (hC : ∀ t u, t < 5 → u < 5 → C t = true → sTouch R t u = true → C u = true) {T : Nat} (hT : T ≤ 5) {p : Nat → Bool} (h : ∀ u, u < 5 → p u = true → C u = true) : ∀ u, u < 5 → lp (inS R) T 0 p u = true → C u = true := by
  refine lp_ind0 (f := inS R) (fun _ q => ∀ u, u < 5 → q u = true → C u = true) T p h (fun j q hj hq => ?_)
  intro u hu
  unfold inS
  by_cases hp : q j = true
  · rw [if_pos hp]
    show (q u || sTouch R j u) = true → _
    rw [Bool.or_eq_true]
    rintro (h1 | h1)
    · exact hq u hu h1
    · exact hC j u (by omega) hu (hq j (by omega) hp) h1
  · rw [if_neg hp]
    exact hq u hu
theorem in_mono {R : Nat → Int32} {j u : Nat} {p : Nat → Bool} (h : p u = true) : inS R j p u = true := by
  unfold inS
  by_cases hp : p j = true
  · rw [if_pos hp]
    show (p u || sTouch R j u) = true
    rw [h]
    rfl
  · rw [if_neg hp]
    exact h
theorem in_cover {R : Nat → Int32} {T : Nat} (hT : T ≤ 5) (hR : vR T R) {p : Nat → Bool} (h0 : ∀ u, T ≤ u → u < 5 → p u = false) : ∀ u, u < 5 → nbN R p u = true → lp (inS R) T 0 p u = true := by
  intro u hu hn
  rw [nbN_has] at hn
  have hm : ∀ u, p u = true → lp (inS R) T 0 p u = true := fun u h => lp_ind0 (f := inS R) (fun _ q => q u = true) T p h (fun j q _ hq => in_mono hq)
  rcases hn with h | ⟨t, h1, h2, h3⟩
  · exact hm u h
  · have htT : t < T := by
      refine Nat.lt_of_not_le (fun q => ?_)
      rw [h0 t q h1] at h2
      exact absurd h2 (by decide)
    have := lp_ind0 (f := inS R) (fun k q => (∀ a, p a = true → q a = true) ∧ (t < k → q u = true)) T p ⟨fun a h => h, fun q => absurd q (Nat.not_lt_zero _)⟩ (fun j q hj hq => ⟨fun a ha => in_mono (hq.1 a ha), fun hk => ?_⟩)
    · exact this.2 htT
    · by_cases e : t = j
      · subst e
        unfold inS
        rw [if_pos (hq.1 t h2)]
        show (q u || sTouch R t u) = true
        rw [h3]
        simp
      · exact in_mono (hq.2 (by omega))
theorem in_low {R : Nat → Int32} {T : Nat} (hT : T ≤ 5) (hR : vR T R) {p : Nat → Bool} (h0 : ∀ u, T ≤ u → u < 5 → p u = false) : ∀ u, T ≤ u → u < 5 → lp (inS R) T 0 p u = false := by
  refine lp_ind0 (f := inS R) (fun _ q => ∀ u, T ≤ u → u < 5 → q u = false) T p h0 (fun j q hj hq => ?_)
  intro u h1 h2
  unfold inS
  by_cases hp : q j = true
  · rw [if_pos hp]
    show (q u || sTouch R j u) = false
    rw [hq u h1 h2, touch_cut hR h1 h2]
    rfl
  · rw [if_neg hp]
    exact hq u h1 h2
theorem terr_eq {R : Nat → Int32} {T : Nat} (hT : T ≤ 5) (hR : vR T R) {p : Nat → Bool} (h0 : ∀ u, T ≤ u → u < 5 → p u = false) (hp : 1 ≤ cnt5 p) : bits 5 (lp (fun _ q => nbN R q) 4 1 p) = bits 5 (lp (fun _ q => lp (inS R) T 0 q) 5 0 p) := by
  have hcl := nb_closed (R := R) hp
  have hcov : ∀ k, (∀ u, u < 5 → lp (fun _ q => nbN R q) k 1 p u = true → lp (fun _ q => lp (inS R) T 0 q) k 0 p u = true) ∧ ∀ u, T ≤ u → u < 5 → lp (fun _ q => lp (inS R) T 0 q) k 0 p u = false := by
    intro k
    induction k with
    | zero => exact ⟨fun u _ h => h, h0⟩
    | succ k ih =>
      rw [lp_succ (f := fun _ q => nbN R q) (k := k), lp_succ (f := fun _ q => lp (inS R) T 0 q) (k := k)]
      refine ⟨fun u hu h => ?_, in_low hT hR ih.2⟩
      exact in_cover hT hR ih.2 u hu (nbN_mono ih.1 u hu h)
  have hpc : ∀ k u, u < 5 → p u = true → lp (fun _ q => nbN R q) k 1 p u = true := by
    intro k
    induction k with
    | zero => exact fun u _ h => h
    | succ k ih =>
      rw [lp_succ (f := fun _ q => nbN R q) (k := k)]
      exact fun u hu h => nbN_has.mpr (Or.inl (ih u hu h))
  refine bits_cong (fun u hu => ?_)
  have hC : ∀ t u, t < 5 → u < 5 → lp (fun _ q => nbN R q) 4 1 p t = true → sTouch R t u = true → lp (fun _ q => nbN R q) 4 1 p u = true := by
    intro t u ht hu h1 h2
    rw [hcl u hu]
    exact nbN_has.mpr (Or.inr ⟨t, ht, h1, h2⟩)
  have hs : ∀ k u, u < 5 → lp (fun _ q => lp (inS R) T 0 q) k 0 p u = true → lp (fun _ q => nbN R q) 4 1 p u = true := by
    intro k
    induction k with
    | zero => exact hpc 4
    | succ k ih =>
      rw [lp_succ (f := fun _ q => lp (inS R) T 0 q) (k := k)]
      exact in_sound hC hT ih
  have h1 := hs 5 u hu
  have h2 : lp (fun _ q => nbN R q) 4 1 p u = true → lp (fun _ q => lp (inS R) T 0 q) 5 0 p u = true := by
    intro h
    have h3 : lp (fun _ q => nbN R q) 5 1 p u = true := by
      rw [lp_succ (f := fun _ q => nbN R q) (k := 4), ← hcl u hu]
      exact h
    exact (hcov 5).1 u hu h3
  cases a : lp (fun _ q => nbN R q) 4 1 p u <;> cases b : lp (fun _ q => lp (inS R) T 0 q) 5 0 p u
  · rfl
  · rw [a] at h1
    exact absurd (h1 b) (by decide)
  · rw [b] at h2
    exact absurd (h2 a) (by decide)
  · rfl
theorem terr_none {R : Nat → Int32} {T : Nat} (hT : T ≤ 5) : bits 5 (lp (fun _ q => nbN R q) 4 1 (fun _ => false)) = 0 ∧ bits 5 (lp (fun _ q => lp (inS R) T 0 q) 5 0 (fun _ => false)) = 0 := by
  have e1 : ∀ k, lp (inS R) k 0 (fun _ => false) = (fun _ => false) := fun k => by
    refine lp_ind0 (f := inS R) (fun _ q => q = fun _ => false) k _ rfl (fun j q _ hq => ?_)
    subst hq
    rfl
  have e2 : nbN R (fun _ => false) = (fun _ => false) := by
    have : lp (nbS R (fun _ => false)) 5 0 (fun _ => false) = (fun _ => false) := by
      refine lp_ind0 (f := nbS R (fun _ => false)) (fun _ q => q = fun _ => false) 5 _ rfl (fun j q _ hq => ?_)
      subst hq
      rfl
    unfold nbN
    rw [this]
    rfl
  constructor
  · have : lp (fun _ q => nbN R q) 4 1 (fun _ => false) = fun _ => false := lp_ind (f := fun _ q => nbN R q) (fun _ q => q = fun _ => false) 4 1 _ rfl (fun j q _ _ hq => by
      subst hq
      exact e2)
    rw [this]
    exact no_bits.symm
  · have : lp (fun _ q => lp (inS R) T 0 q) 5 0 (fun _ => false) = fun _ => false := lp_ind0 (f := fun _ q => lp (inS R) T 0 q) (fun _ q => q = fun _ => false) 5 _ rfl (fun j q _ hq => by
      subst hq
      exact e1 T)
    rw [this]
    exact no_bits.symm
theorem cnt_one : ∀ t, t < 5 → 1 ≤ cnt5 (fun u => decide (u = t)) := by decide +kernel
theorem op_terrace : uop_terrace uI := by
  intro m a1 ⟨s, hc, hr, hv⟩
  have hT5 := vI_T hc
  have hV8 := vI_V hc
  by_cases h1 : ∃ v, v < qT s ∧ a1 = nI v
  · obtain ⟨t1, ht1, rfl⟩ := h1
    refine Or.inl (wrapI (fr := fun M => f_X8_terrace M (nI t1)) hc hr hv ?_)
    have ht5 : t1 < 5 := by omega
    cases hh : sHas (qR s) t1
    · refine ⟨0, m, ?_, cK_rf hc, fun M hM => ?_⟩
      · simp (decide := true) (disch := omega) only [f_X7_terrace, e_ten_t hc.1.1.2.2.2.1 (show qT s ≤ 8 by omega) ht1, ubx_l, ubi_mk, if_true, if_false, ugd_t, e_has ht5, hc.2.1, hh, bi_f, f_X7_terrace_b23]
        have e9 := e_terr (m := m) (fun _ => false)
        rw [← no_bits, (terr_none hT5).1] at e9
        exact e9
      · obtain ⟨m2, e, k, hR2, h0⟩ := r_take' (rI_K hM (z0_K M)) (z0_0 M)
        have hM0 := rI_K hM (z0_K M)
        have hm := rI_K hM0 k
        have hv2 : vR (qT s) (cv (m2 54)) := by rw [hR2]; exact hv.2.1.1
        have hs' : qR s (13 + t1) ≤ 0 := by
          unfold sHas at hh
          simpa using hh
        refine ⟨m2, ?_, rK_tr (z0_K M) k, h0⟩
        show ubi (f_X8_isTenant (z0 (M)) (nI t1) 1) _ = _
        simp (decide := true) (disch := omega) only [r_ten_t hM0.1.1.2.2.2.1 (show qT s ≤ 8 by omega) ht1 (z0_0 _), ubi_mk, r_may_t (z0_0 _), if_true, if_false, ugd_t, f_X8_terrace_b39, e, lit_add, uin_n, nI_clamp, c_si m2 ht5, hR2, hs', f_X8_terrace_b39]
        have e9 := r_terr hm.1.1 hv2 (fun _ => false)
        rw [← no_bits, (terr_none hT5).2] at e9
        exact e9
    · refine ⟨bits 5 (lp (fun _ q => nbN (qR s) q) 4 1 (fun u => decide (u = t1))), m, ?_, cK_rf hc, fun M hM => ?_⟩
      · simp (decide := true) (disch := omega) only [f_X7_terrace, e_ten_t hc.1.1.2.2.2.1 (show qT s ≤ 8 by omega) ht1, ubx_l, ubi_mk, if_true, if_false, ugd_t, e_has ht5, hc.2.1, hh, bi_t, f_X7_terrace_b23]
        have e9 := e_terr (m := m) (fun u => decide (u = t1))
        rw [← bt_bits t1 ht5, hc.2.1] at e9
        exact e9
      · obtain ⟨m2, e, k, hR2, h0⟩ := r_take' (rI_K hM (z0_K M)) (z0_0 M)
        have hM0 := rI_K hM (z0_K M)
        have hm := rI_K hM0 k
        have hv2 : vR (qT s) (cv (m2 54)) := by rw [hR2]; exact hv.2.1.1
        have hs' : ¬ qR s (13 + t1) ≤ 0 := by
          unfold sHas at hh
          simpa using hh
        refine ⟨m2, ?_, rK_tr (z0_K M) k, h0⟩
        show ubi (f_X8_isTenant (z0 (M)) (nI t1) 1) _ = _
        simp (decide := true) (disch := omega) only [r_ten_t hM0.1.1.2.2.2.1 (show qT s ≤ 8 by omega) ht1 (z0_0 _), ubi_mk, r_may_t (z0_0 _), if_true, if_false, ugd_t, f_X8_terrace_b39, e, lit_add, uin_n, nI_clamp, c_si m2 ht5, hR2, hs', f_X8_terrace_b39]
        have e9 := r_terr hm.1.1 hv2 (fun u => decide (u = t1))
        rw [← bt_bits t1 ht5, hR2, ← terr_eq hT5 hv.2.1.1 (fun u h1 h2 => decide_eq_false (by omega)) (cnt_one t1 ht5)] at e9
        exact e9
  · refine Or.inr ⟨tN m, tR (z0 (tN m)) 1 0, 0, ?_, ?_, tR_0, throwN hc hr hv 1⟩
    · simp only [f_X7_terrace, e_ten_f hc.1.1.2.2.2.1 (show qT s ≤ 8 by omega) h1, ubx_l, ubx_r]
    · have hm := rI_tN hr
      show ubi (f_X8_isTenant (z0 (tN m)) a1 1) _ = _
      simp (decide := true) (disch := omega) only [r_ten_f hm.1.1.2.2.2.1 (show qT s ≤ 8 by omega) h1 (z0_0 _) i1_0, ubi_mk, if_true, if_false, f_X8_terrace_b39]
