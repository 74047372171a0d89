/-! ints as integers -/
theorem i_add {a b : Int32} (h1 : -2147483648 ≤ a.toInt + b.toInt) (h2 : a.toInt + b.toInt < 2147483648) : (a + b).toInt = a.toInt + b.toInt := by
  rw [Int32.toInt_add, Int.bmod_def]
  split <;> omega
theorem i_sub {a b : Int32} (h1 : -2147483648 ≤ a.toInt - b.toInt) (h2 : a.toInt - b.toInt < 2147483648) : (a - b).toInt = a.toInt - b.toInt := by
  rw [Int32.toInt_sub, Int.bmod_def]
  split <;> omega
theorem i_mul {a b : Int32} (h1 : -2147483648 ≤ a.toInt * b.toInt) (h2 : a.toInt * b.toInt < 2147483648) : (a * b).toInt = a.toInt * b.toInt := by
  rw [Int32.toInt_mul, Int.bmod_def]
  generalize a.toInt * b.toInt = q at h1 h2 ⊢
  split <;> omega
theorem i_rng (a : Int32) : -2147483648 ≤ a.toInt ∧ a.toInt < 2147483648 := by
  have h1 := a.toInt_lt
  have h2 := a.le_toInt
  omega
theorem i_lit (k : Nat) (h : (OfNat.ofNat k : Nat) < 2 ^ 31) : (no_index (OfNat.ofNat k) : Int32).toInt = ((OfNat.ofNat k : Nat) : Int) := nI_toInt h
theorem i_0 : (0 : Int32).toInt = 0 := by decide
theorem i_1 : (1 : Int32).toInt = 1 := by decide
theorem i_m1 : (-1 : Int32).toInt = -1 := by decide
theorem i_5 : (5 : Int32).toInt = 5 := by decide
theorem i_20 : (20 : Int32).toInt = 20 := by decide
theorem i_60 : (60 : Int32).toInt = 60 := by decide
theorem i_99 : (99 : Int32).toInt = 99 := by decide
theorem i_abs {x : Int32} (h : -2147483648 < x.toInt) : (umabs x).toInt = if 0 ≤ x.toInt then x.toInt else -x.toInt := by
  have h2 := i_rng x
  show (if 0 ≤ x then x else 0 - x).toInt = _
  by_cases h0 : 0 ≤ x
  · rw [if_pos h0]
    rw [Int32.le_iff_toInt_le, i_0] at h0
    rw [if_pos h0]
  · rw [if_neg h0]
    rw [Int32.le_iff_toInt_le, i_0] at h0
    rw [if_neg h0, i_sub (by rw [i_0]; omega) (by rw [i_0]; omega), i_0]
    omega
theorem neg_sub0 (x : Int32) : -x = 0 - x := by
  rw [Int32.zero_sub]
/-! THE REFERENCE'S ROW, in the class's layout -/
def cv (S : Nat → Int32) : Nat → Int32 := fun i => if i < 28 then (if i = 0 then S 27 else if i = 1 then S 25 else if i = 2 then S 26 else S (i - 3)) else 0
theorem cv_j (S : Nat → Int32) {i : Nat} (h : 3 ≤ i) (h2 : i < 28) : cv S i = S (i - 3) := by
  unfold cv
  rw [if_pos h2, if_neg (by omega), if_neg (by omega), if_neg (by omega)]
theorem c_pu (m : Um) {t : Nat} (ht : t < 5) : m 54 (0 + t) = cv (m 54) (3 + t) := by
  rw [cv_j _ (by omega) (by omega)]
  congr 1
  omega
theorem c_st (m : Um) {t : Nat} (ht : t < 5) : m 54 (5 + t) = cv (m 54) (8 + t) := by
  rw [cv_j _ (by omega) (by omega)]
  congr 1
  omega
theorem c_si (m : Um) {t : Nat} (ht : t < 5) : m 54 (10 + t) = cv (m 54) (13 + t) := by
  rw [cv_j _ (by omega) (by omega)]
  congr 1
  omega
theorem c_pl (m : Um) {t : Nat} (ht : t < 5) : m 54 (15 + t) = cv (m 54) (18 + t) := by
  rw [cv_j _ (by omega) (by omega)]
  congr 1
  omega
theorem c_ag (m : Um) {t : Nat} (ht : t < 5) : m 54 (20 + t) = cv (m 54) (23 + t) := by
  rw [cv_j _ (by omega) (by omega)]
  congr 1
  omega
theorem c_bl (m : Um) : m 54 25 = cv (m 54) 1 := rfl
theorem c_bu (m : Um) : m 54 26 = cv (m 54) 2 := rfl
theorem c_to (m : Um) : m 54 27 = cv (m 54) 0 := rfl
theorem cv_upd (S : Nat → Int32) {j : Nat} (x : Int32) (h : j < 25) : cv (upd S j x) = upd (cv S) (j + 3) x := by
  funext i
  unfold cv upd
  by_cases h1 : i < 28
  · by_cases h3 : i = j + 3
    · subst h3
      simp [h1]
    · rw [if_pos h1, if_neg h3]
      show _ = if i < 28 then (if i = 0 then S 27 else if i = 1 then S 25 else if i = 2 then S 26 else S (i - 3)) else 0
      rw [if_pos h1]
      by_cases a : i = 0
      · rw [if_pos a, if_pos a, if_neg (by omega)]
      · by_cases b : i = 1
        · rw [if_neg a, if_neg a, if_pos b, if_pos b, if_neg (by omega)]
        · by_cases c : i = 2
          · rw [if_neg a, if_neg a, if_neg b, if_neg b, if_pos c, if_pos c, if_neg (by omega)]
          · rw [if_neg a, if_neg a, if_neg b, if_neg b, if_neg c, if_neg c, if_neg (by omega)]
  · rw [if_neg h1, if_neg (by omega)]
    show 0 = if i < 28 then _ else 0
    rw [if_neg h1]
theorem cv_updB (S : Nat → Int32) (x : Int32) : cv (upd S 25 x) = upd (cv S) 1 x := by
  funext i
  unfold cv upd
  by_cases b : i = 1
  · subst b
    simp
  · by_cases h1 : i < 28
    · by_cases c : i = 0
      · subst c
        simp
      · by_cases d : i = 2
        · subst d
          simp
        · simp only [h1, b, c, d, if_true, if_false]
          rw [if_neg (by omega)]
    · simp [h1, b]
theorem cv_updU (S : Nat → Int32) (x : Int32) : cv (upd S 26 x) = upd (cv S) 2 x := by
  funext i
  unfold cv upd
  by_cases b : i = 2
  · subst b
    simp
  · by_cases h1 : i < 28
    · by_cases c : i = 0
      · subst c
        simp
      · by_cases d : i = 1
        · subst d
          simp
        · simp only [h1, b, c, d, if_true, if_false]
          rw [if_neg (by omega)]
    · simp [h1, b]
theorem cv_updT (S : Nat → Int32) (x : Int32) : cv (upd S 27 x) = upd (cv S) 0 x := by
  funext i
  unfold cv upd
  by_cases b : i = 0
  · subst b
    simp
  · by_cases h1 : i < 28
    · by_cases c : i = 1
      · subst c
        simp
      · by_cases d : i = 2
        · subst d
          simp
        · simp only [h1, b, c, d, if_true, if_false]
          rw [if_neg (by omega)]
    · simp [h1, b]
/-- what a corner tells, as the reference has it -/
def rC (m : Um) (V T : Nat) (X W : Nat → Int32) : Prop := V ≤ 8 ∧ T ≤ 5 ∧ m 38 17 = nI V ∧ m 38 18 = nI T ∧ (∀ v, v < V → m 43 (2 * v) = X v) ∧ ∀ v, v < V → m 43 (2 * v + 1) = W v
theorem rC_of {m m' : Um} {V T : Nat} {X W : Nat → Int32} (h : rC m V T X W) (h3 : m' 38 = m 38) (h4 : m' 43 = m 43) : rC m' V T X W := by
  unfold rC
  rw [h3, h4]
  exact h
/-- a row that can be -/
def vR (T : Nat) (R : Nat → Int32) : Prop := (∀ t, T ≤ t → t < 5 → R (3 + t) = 0 ∧ R (8 + t) = 0 ∧ R (13 + t) = 0 ∧ R (18 + t) = 0 ∧ R (23 + t) = 0) ∧ (∀ t, t < 5 → (0 ≤ (R (13 + t)).toInt ∧ (R (13 + t)).toInt ≤ 20) ∧ (0 ≤ (R (18 + t)).toInt ∧ (R (18 + t)).toInt ≤ 99) ∧ 0 ≤ (R (8 + t)).toInt ∧ (R (8 + t)).toInt ≤ 99) ∧ ∀ i, 28 ≤ i → R i = 0
theorem vR_has {T : Nat} {R : Nat → Int32} (h : vR T R) {t : Nat} (h1 : T ≤ t) (h2 : t < 5) : sHas R t = false := by
  unfold sHas
  rw [(h.1 t h1 h2).2.2.1]
  decide
theorem has_int (R : Nat → Int32) (t : Nat) : sHas R t = decide (0 < (R (13 + t)).toInt) := by
  unfold sHas
  by_cases h : R (13 + t) ≤ 0
  · have h2 := h
    rw [Int32.le_iff_toInt_le, i_0] at h2
    simp [h]
    omega
  · have h2 := h
    rw [Int32.le_iff_toInt_le, i_0] at h2
    simp [h]
    omega
section REF
variable {m : Um} {V T : Nat} {X W : Nat → Int32} {t u v : Nat}
theorem r_size (x : Int32) : f_X8_size m x = some (m, umabs x) := by
  simp only [f_X8_size, f_X8_size_b10, neg_sub0]
  by_cases h : 0 ≤ x <;> simp [h, umabs]
theorem r_within (x a b : Int32) : f_X8_within m x a b = some (m, bi (decide (a ≤ x ∧ x ≤ b))) := by
  simp only [f_X8_within, f_X8_within_b15, f_X8_within_b14, ub01_0, ub01_1, ugd_t]
  by_cases h : x < a
  · have : ¬ a ≤ x := by
      rw [Int32.lt_iff_toInt_lt] at h
      rw [Int32.le_iff_toInt_le]
      omega
    simp [h, this, bi]
  · have : a ≤ x := by
      rw [Int32.lt_iff_toInt_lt] at h
      rw [Int32.le_iff_toInt_le]
      omega
    by_cases h2 : x ≤ b <;> simp [h, this, h2, bi]
theorem r_sees (hc : rC m V T X W) (ht : t < 5) (hv : v < V) : f_X8_isSeen m (nI t) (nI v) = some (m, bi (sSees X (cv (m 54)) t v)) := by
  have hV := hc.1
  simp (disch := omega) only [f_X8_isSeen, f_X8_isSeen_b49, f_X8_isSeen_b50, lit_add, lit_mul, uin_n, nI_clamp, ugd_t, r_size, ubi_mk, ub01_0, ub01_1, c_si m ht, c_pl m ht, hc.2.2.2.2.1 v hv]
  unfold sSees sHas sFar
  by_cases h : cv (m 54) (13 + t) ≤ 0
  · simp [h, bi]
  · by_cases h2 : cv (m 54) (13 + t) < umabs (cv (m 54) (18 + t) - X v) <;> simp only [h, h2, bi] <;> rfl
theorem sees_far {T : Nat} {X R : Nat → Int32} {t v : Nat} (hR : vR T R) (ht : t < 5) (h : sSees X R t v = true) : ¬ (100 : Int32) ≤ sFar X R t v := by
  unfold sSees at h
  simp only [Bool.and_eq_true, Bool.not_eq_true', decide_eq_false_iff_not] at h
  have h1 := ((hR.2.1 t ht).1).2
  have h2 : ¬ R (13 + t) < sFar X R t v := h.2
  have e : (100 : Int32).toInt = 100 := by decide
  rw [Int32.lt_iff_toInt_lt] at h2
  rw [Int32.le_iff_toInt_le, e]
  omega
theorem r_owner (hc : rC m V T X W) (hR : vR T (cv (m 54))) (hv : v < V) : f_X8_ownerOf m (nI v) = some (m, sOwn X (cv (m 54)) v) := by
  have hV := hc.1
  have hT := hc.2.1
  have := lp_run (fun n (s : Int32 × Int32) t => f_X8_ownerOf_b4 n m (nI v) s.1 (nI t)) T (owS X (cv (m 54)) v) (fun _ s => s = (-1, 100) ∨ ∃ t', t' < 5 ∧ s = (nI t', sFar X (cv (m 54)) t' v)) (fun s => some (m, s.1)) ?_ ?_ T 0 (-1, 100) UF (Nat.zero_add T) (by show T < 3000; omega) (Or.inl rfl)
  · have e : sOwn X (cv (m 54)) v = (lp (owS X (cv (m 54)) v) T 0 (-1, 100)).1 := by
      unfold sOwn
      rw [lp_cut (owS X (cv (m 54)) v) hT (-1, 100)]
      intro j h1 h2 s
      unfold owS sSees
      rw [vR_has hR h1 h2]
      rfl
    rw [e]
    exact this
  · intro n s t ht hP
    have ht5 : t < 5 := by omega
    refine ⟨?_, ?_⟩
    · show f_X8_ownerOf_b4 (n + 1) m (nI v) s.1 (nI t) = f_X8_ownerOf_b4 n m (nI v) (owS X (cv (m 54)) v t s).1 (nI (t + 1))
      rw [f_X8_ownerOf_b4, hc.2.2.2.1, if_neg (nI_ge (by omega) (by omega)), r_sees hc ht5 hv, ubi_mk, ite_bi0]
      rcases hP with rfl | ⟨t', h1, rfl⟩
      · simp only [f_X8_ownerOf_b71, f_X8_ownerOf_b73, nI_1, if_true]
        unfold owS
        by_cases a : sSees X (cv (m 54)) t v = true
        · have b := sees_far hR ht5 a
          simp only [a, b, if_true, not_false_eq_true, and_self]
        · simp only [a, if_false, false_and, Bool.false_eq_true]
      · simp (disch := omega) only [f_X8_ownerOf_b71, f_X8_ownerOf_b73, nI_1, nI_ne1, if_false, lit_add, lit_mul, uin_n, nI_clamp, ugd_t, r_size, ubi_mk, c_pl m ht5, c_pl m h1, hc.2.2.2.2.1 v hv]
        unfold owS
        by_cases a : sSees X (cv (m 54)) t v = true
        · by_cases c : sFar X (cv (m 54)) t' v ≤ sFar X (cv (m 54)) t v
          · have c' := c
            unfold sFar at c'
            simp only [a, c, c', if_true, and_false, if_false, not_true_eq_false]
          · have c' := c
            unfold sFar at c'
            simp only [a, c, c', if_true, if_false, not_false_eq_true, and_self]
        · simp only [a, if_false, false_and, Bool.false_eq_true]
    · unfold owS
      by_cases a : sSees X (cv (m 54)) t v = true ∧ ¬ s.2 ≤ sFar X (cv (m 54)) t v
      · rw [if_pos a]
        exact Or.inr ⟨t, ht5, rfl⟩
      · rw [if_neg a]
        exact hP
  · intro n s _
    show f_X8_ownerOf_b4 (n + 1) m (nI v) s.1 (nI T) = some (m, s.1)
    rw [f_X8_ownerOf_b4, hc.2.2.2.1, if_pos (nI_le (Nat.le_refl _) (by omega))]
theorem r_ownedBy (hc : rC m V T X W) (hR : vR T (cv (m 54))) (x : Int32) : f_X8_ownedBy m x = some (m, bits V (fun v => decide (sOwn X (cv (m 54)) v = x))) := by
  have hV := hc.1
  refine lp_run0 (fun n (s : Int32) v => f_X8_ownedBy_b4 n m x s (nI v)) V _ (fun s => some (m, s)) ?_ ?_ 0 (by show V < 3000; omega)
  · intro n s v hv
    show f_X8_ownedBy_b4 (n + 1) m x s (nI v) = f_X8_ownedBy_b4 n m x (if decide (sOwn X (cv (m 54)) v = x) = true then s ||| bt v else s) (nI (v + 1))
    rw [f_X8_ownedBy_b4, hc.2.2.1, if_neg (nI_ge (by omega) (by omega)), r_owner hc hR hv, ubi_mk]
    simp only [f_X8_ownedBy_b29, nI_1]
    by_cases h : sOwn X (cv (m 54)) v = x <;> simp [h, bt]
  · intro n s
    show f_X8_ownedBy_b4 (n + 1) m x s (nI V) = some (m, s)
    rw [f_X8_ownedBy_b4, hc.2.2.1, if_pos (nI_le (Nat.le_refl _) (by omega))]
theorem r_worth (hc : rC m V T X W) (p : Nat → Bool) : f_X8_worthOf m (bits V p) = some (m, sums V (fun v => bi (p v) * W v)) := by
  have hV := hc.1
  refine lp_run0 (fun n (s : Int32) v => f_X8_worthOf_b4 n m (bits V p) s (nI v)) V _ (fun s => some (m, s)) ?_ ?_ 0 (by show V < 3000; omega)
  · intro n s v hv
    show f_X8_worthOf_b4 (n + 1) m (bits V p) s (nI v) = _
    rw [f_X8_worthOf_b4, hc.2.2.1, if_neg (nI_ge (by omega) (by omega)), lit_mul, nI_1, uin_n (by omega) (by omega), ugd_t, bits_bit _ (by omega) hv, nI_clamp (by omega), hc.2.2.2.2.2 v hv, nI_1]
  · intro n s
    show f_X8_worthOf_b4 (n + 1) m (bits V p) s (nI V) = some (m, s)
    rw [f_X8_worthOf_b4, hc.2.2.1, if_pos (nI_le (Nat.le_refl _) (by omega))]
theorem r_all (hc : rC m V T X W) (hR : vR T (cv (m 54))) : f_X8_worthAll m = some (m, sAll X W (cv (m 54)) V) := by
  have hV := hc.1
  refine lp_run0 (fun n (s : Int32) v => f_X8_worthAll_b4 n m s (nI v)) V _ (fun s => some (m, s)) ?_ ?_ 0 (by show V < 3000; omega)
  · intro n s v hv
    show f_X8_worthAll_b4 (n + 1) m s (nI v) = _
    rw [f_X8_worthAll_b4, hc.2.2.1, if_neg (nI_ge (by omega) (by omega)), r_owner hc hR hv, ubi_mk, lit_mul, nI_1, uin_n (by omega) (by omega), ugd_t]
    simp only [f_X8_worthAll_b36, nI_1, nI_clamp (show 2 * v + 1 < 2 ^ 31 by omega), hc.2.2.2.2.2 v hv]
    by_cases h : sOwn X (cv (m 54)) v = -1 <;> simp [h]
  · intro n s
    show f_X8_worthAll_b4 (n + 1) m s (nI V) = some (m, s)
    rw [f_X8_worthAll_b4, hc.2.2.1, if_pos (nI_le (Nat.le_refl _) (by omega))]
theorem r_purses (hc : rC m V T X W) (hR : vR T (cv (m 54))) : f_X8_purses m = some (m, sums 5 (fun t => cv (m 54) (3 + t))) := by
  have hT := hc.2.1
  rw [sums_cut hT (fun j h1 h2 => (hR.1 j h1 h2).1)]
  refine lp_run0 (fun n (s : Int32) t => f_X8_purses_b4 n m s (nI t)) T _ (fun s => some (m, s)) ?_ ?_ 0 (by show T < 3000; omega)
  · intro n s t ht
    show f_X8_purses_b4 (n + 1) m s (nI t) = _
    rw [f_X8_purses_b4, hc.2.2.2.1, if_neg (nI_ge (by omega) (by omega)), lit_add, uin_n (by omega) (by omega), ugd_t, nI_clamp (by omega), nI_1, c_pu m (by omega)]
  · intro n s
    show f_X8_purses_b4 (n + 1) m s (nI T) = some (m, s)
    rw [f_X8_purses_b4, hc.2.2.2.1, if_pos (nI_le (Nat.le_refl _) (by omega))]
theorem over_int {R : Nat → Int32} (hR : vR T R) (ht : t < 5) (hu : u < 5) : (R (13 + t) + R (13 + u) < umabs (R (18 + t) - R (18 + u))) ↔ sOver R t u < 0 := by
  have h1 := (hR.2.1 t ht)
  have h2 := (hR.2.1 u hu)
  have e1 : (R (13 + t) + R (13 + u)).toInt = (R (13 + t)).toInt + (R (13 + u)).toInt := i_add (by omega) (by omega)
  have e2 : (R (18 + t) - R (18 + u)).toInt = (R (18 + t)).toInt - (R (18 + u)).toInt := i_sub (by omega) (by omega)
  have e3 := i_abs (x := R (18 + t) - R (18 + u)) (by omega)
  rw [e2] at e3
  unfold sOver
  rw [Int32.lt_iff_toInt_lt, Int32.lt_iff_toInt_lt, i_0, i_sub (by rw [e1, e3]; split <;> omega) (by rw [e1, e3]; split <;> omega), e1, e3]
  omega
theorem r_touch (hR : vR T (cv (m 54))) (ht : t < 5) (hu : u < 5) : f_X8_areTouching m (nI t) (nI u) = some (m, bi (sTouch (cv (m 54)) t u)) := by
  simp (disch := omega) only [f_X8_areTouching, f_X8_areTouching_b77, f_X8_areTouching_b78, lit_add, uin_n, nI_clamp, ugd_t, r_size, ubi_mk, ub01_0, ub01_1, c_si m ht, c_pl m ht, c_si m hu, c_pl m hu, nI_eq', over_int hR ht hu]
  unfold sTouch sHas
  by_cases h : t = u
  · simp [h, bi]
  · by_cases h1 : cv (m 54) (13 + t) ≤ 0 <;> by_cases h2 : cv (m 54) (13 + u) ≤ 0 <;> by_cases h3 : sOver (cv (m 54)) t u < 0 <;> simp [h, h1, h2, h3, bi]
theorem touch_cut {R : Nat → Int32} (hR : vR T R) {j : Nat} (h1 : T ≤ j) (h2 : j < 5) : sTouch R t j = false := by
  unfold sTouch
  rw [vR_has hR h1 h2]
  simp
theorem r_touching (hc : rC m V T X W) (hR : vR T (cv (m 54))) (ht : t < 5) : f_X8_touchingOf m (nI t) = some (m, bits 5 (sTouch (cv (m 54)) t)) := by
  have hT := hc.2.1
  rw [bits_cut hT (fun j h1 h2 => touch_cut hR h1 h2)]
  refine lp_run0 (fun n (s : Int32) u => f_X8_touchingOf_b4 n m (nI t) s (nI u)) T _ (fun s => some (m, s)) ?_ ?_ 0 (by show T < 3000; omega)
  · intro n s u hu
    show f_X8_touchingOf_b4 (n + 1) m (nI t) s (nI u) = f_X8_touchingOf_b4 n m (nI t) (if sTouch (cv (m 54)) t u = true then s ||| bt u else s) (nI (u + 1))
    rw [f_X8_touchingOf_b4, hc.2.2.2.1, if_neg (nI_ge (by omega) (by omega)), r_touch hR ht (by omega), ubi_mk, ite_bi0]
    simp only [f_X8_touchingOf_b29, nI_1]
    by_cases h : sTouch (cv (m 54)) t u = true <;> simp [h, bt]
  · intro n s
    show f_X8_touchingOf_b4 (n + 1) m (nI t) s (nI T) = some (m, s)
    rw [f_X8_touchingOf_b4, hc.2.2.2.1, if_pos (nI_le (Nat.le_refl _) (by omega))]
theorem r_ones (p : Nat → Bool) : f_X8_ones m (bits 5 p) = some (m, bc5 p) := by
  have := lp_run0 (fun n (s : Int32) t => f_X8_ones_b4 n m (bits 5 p) s (nI t)) 8 (fun t s => s + ((bits 5 p >>> (nI t &&& 31)) &&& 1)) (fun s => some (m, s)) ?_ ?_ 0 (by decide)
  · have e : lp (fun t s => s + ((bits 5 p >>> (nI t &&& 31)) &&& 1)) 8 0 0 = bc5 p := by
      unfold bc5 sums bits
      simp only [lp]
      generalize p 0 = a
      generalize p 1 = b
      generalize p 2 = c
      generalize p 3 = d
      generalize p 4 = e
      revert a b c d e
      decide +kernel
    rw [e] at this
    exact this
  · intro n s t ht
    show f_X8_ones_b4 (n + 1) m (bits 5 p) s (nI t) = _
    rw [f_X8_ones_b4, if_neg (nle_lit (by omega) (by omega)), nI_1]
  · intro n s
    show f_X8_ones_b4 (n + 1) m (bits 5 p) s (nI 8) = _
    rw [f_X8_ones_b4, if_pos (by decide)]
theorem bc5_none {p : Nat → Bool} (h : ∀ t, t < 5 → p t = false) : bc5 p = 0 := by
  unfold bc5
  rw [sums_cong (q := fun _ => 0) (fun t ht => by rw [h t ht]; rfl)]
  decide
theorem r_twos (hc : rC m V T X W) (hR : vR T (cv (m 54))) : f_X8_touchings m = some (m, sums 5 (fun t => bc5 (sTouch (cv (m 54)) t)) / 2) := by
  have hT := hc.2.1
  rw [sums_cut hT (fun j h1 h2 => bc5_none (fun t ht => by unfold sTouch; rw [vR_has hR h1 h2]; simp))]
  refine lp_run0 (fun n (s : Int32) t => f_X8_touchings_b4 n m s (nI t)) T (fun t s => s + bc5 (sTouch (cv (m 54)) t)) (fun s => some (m, s / 2)) ?_ ?_ 0 (by show T < 3000; omega)
  · intro n s t ht
    show f_X8_touchings_b4 (n + 1) m s (nI t) = _
    rw [f_X8_touchings_b4, hc.2.2.2.1, if_neg (nI_ge (by omega) (by omega)), r_touching hc hR (by omega), ubi_mk, r_ones, ubi_mk, nI_1]
  · intro n s
    show f_X8_touchings_b4 (n + 1) m s (nI T) = _
    rw [f_X8_touchings_b4, hc.2.2.2.1, if_pos (nI_le (Nat.le_refl _) (by omega))]
theorem r_holders (hc : rC m V T X W) (hR : vR T (cv (m 54))) : f_X8_withBubbles m = some (m, bits 5 (sHas (cv (m 54)))) := by
  have hT := hc.2.1
  rw [bits_cut hT (fun j h1 h2 => vR_has hR h1 h2)]
  refine lp_run0 (fun n (s : Int32) t => f_X8_withBubbles_b4 n m s (nI t)) T _ (fun s => some (m, s)) ?_ ?_ 0 (by show T < 3000; omega)
  · intro n s t ht
    show f_X8_withBubbles_b4 (n + 1) m s (nI t) = f_X8_withBubbles_b4 n m (if sHas (cv (m 54)) t = true then s ||| bt t else s) (nI (t + 1))
    rw [f_X8_withBubbles_b4, hc.2.2.2.1, if_neg (nI_ge (by omega) (by omega)), lit_add, uin_n (by omega) (by omega), ugd_t, nI_clamp (by omega), c_si m (by omega)]
    simp only [f_X8_withBubbles_b32, nI_1]
    unfold sHas
    by_cases h : cv (m 54) (13 + t) ≤ 0 <;> simp [h, bt]
  · intro n s
    show f_X8_withBubbles_b4 (n + 1) m s (nI T) = some (m, s)
    rw [f_X8_withBubbles_b4, hc.2.2.2.1, if_pos (nI_le (Nat.le_refl _) (by omega))]
theorem r_seenBy (hc : rC m V T X W) (ht : t < 5) : f_X8_seenBy m (nI t) = some (m, bits V (fun v => sSees X (cv (m 54)) t v)) := by
  have hV := hc.1
  refine lp_run0 (fun n (s : Int32) v => f_X8_seenBy_b4 n m (nI t) s (nI v)) V _ (fun s => some (m, s)) ?_ ?_ 0 (by show V < 3000; omega)
  · intro n s v hv
    show f_X8_seenBy_b4 (n + 1) m (nI t) s (nI v) = f_X8_seenBy_b4 n m (nI t) (if sSees X (cv (m 54)) t v = true then s ||| bt v else s) (nI (v + 1))
    rw [f_X8_seenBy_b4, hc.2.2.1, if_neg (nI_ge (by omega) (by omega)), r_sees hc ht hv, ubi_mk, ite_bi0]
    simp only [f_X8_seenBy_b29, nI_1]
    by_cases h : sSees X (cv (m 54)) t v = true <;> simp [h, bt]
  · intro n s
    show f_X8_seenBy_b4 (n + 1) m (nI t) s (nI V) = some (m, s)
    rw [f_X8_seenBy_b4, hc.2.2.1, if_pos (nI_le (Nat.le_refl _) (by omega))]
theorem r_keep (ht : t < 5) : f_X8_mayKeep m (nI t) = some (m, bi (sKeep (cv (m 54)) t)) := by
  simp (disch := omega) only [f_X8_mayKeep, f_X8_mayKeep_b61, f_X8_mayKeep_b62, lit_add, uin_n, nI_clamp, ugd_t, r_size, ubi_mk, ub01_0, ub01_1, c_si m ht, c_pl m ht, c_ag m ht, c_st m ht]
  unfold sKeep sHas
  by_cases h1 : cv (m 54) (13 + t) ≤ 0 <;> by_cases h2 : cv (m 54) (23 + t) ≤ 0 <;> by_cases h3 : cv (m 54) (13 + t) < umabs (cv (m 54) (8 + t) - cv (m 54) (18 + t)) <;> simp only [h1, h2, h3, bi] <;> rfl
theorem r_out (ht : t < 5) (w : Int32) : f_X8_isOut m (nI t) w = some (m, bi (sOut (cv (m 54)) w t)) := by
  simp (disch := omega) only [f_X8_isOut, f_X8_isOut_b36, f_X8_isOut_b37, lit_add, uin_n, nI_clamp, ugd_t, r_within, ubi_mk, ub01_0, ub01_1, c_si m ht, c_pl m ht, ite_bi0]
  unfold sOut sHas
  have e : decide (cv (m 54) (18 + t) + w < 0) = !decide (0 ≤ cv (m 54) (18 + t) + w) := by
    by_cases h : cv (m 54) (18 + t) + w < 0
    · have : ¬ 0 ≤ cv (m 54) (18 + t) + w := by
        rw [Int32.lt_iff_toInt_lt] at h
        rw [Int32.le_iff_toInt_le]
        omega
      simp [h, this]
    · have : 0 ≤ cv (m 54) (18 + t) + w := by
        rw [Int32.lt_iff_toInt_lt] at h
        rw [Int32.le_iff_toInt_le]
        omega
      simp [h, this]
  rw [e]
  by_cases h1 : cv (m 54) (13 + t) ≤ 0 <;> by_cases h2 : 0 ≤ cv (m 54) (18 + t) + w <;> by_cases h3 : cv (m 54) (18 + t) + w ≤ 99 <;> simp [h1, h2, h3, bi]
end REF
