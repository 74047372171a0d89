/-! SUN -/
def gN5 (wn : Nat → Nat) (b : Nat) : Nat := min b (wn 0) + min b (wn 1) + min b (wn 2) + min b (wn 3) + min b (wn 4)
theorem gN5_mono (wn : Nat → Nat) {a b : Nat} (h : a ≤ b) : gN5 wn a ≤ gN5 wn b := by
  unfold gN5
  omega
theorem ummin_n {a b : Nat} (ha : a < 2 ^ 31) (hb : b < 2 ^ 31) : ummin (nI a) (nI b) = nI (min a b) := by
  unfold ummin
  rw [ite_p (nI_lt' hb ha)]
  by_cases h : b < a
  · rw [if_pos h, Nat.min_eq_right (by omega)]
  · rw [if_neg h, Nat.min_eq_left (by omega)]
theorem sums5_n (f : Nat → Nat) (g : Nat → Int32) (h : ∀ t, t < 5 → g t = nI (f t)) : sums 5 g = nI (f 0 + f 1 + f 2 + f 3 + f 4) := by
  unfold sums
  simp only [lp, Nat.zero_add, Nat.reduceAdd]
  rw [h 0 (by omega), h 1 (by omega), h 2 (by omega), h 3 (by omega), h 4 (by omega), Int32.zero_add, nI_add, nI_add, nI_add, nI_add]
theorem e_given {m : Um} {wn : Nat → Nat} (hw : ∀ t, t < 5 → m 37 t = nI (wn t) ∧ wn t ≤ 480) {b : Nat} (hb : b ≤ 1000) : f_X7_sunGiven m (nI b) = some (m, nI (gN5 wn b)) := by
  have : f_X7_sunGiven m (nI b) = some (m, sums 5 (fun t => ummin (nI b) (m 37 t))) := by
    refine lp_run0 (fun n (s : Int32) t => f_X7_sunGiven_b4 n m (nI b) s (nI t)) 5 (fun t s => s + ummin (nI b) (m 37 t)) (fun s => some (m, s)) ?_ ?_ 0 (by decide)
    · intro n s t ht
      show f_X7_sunGiven_b4 (n + 1) m (nI b) s (nI t) = _
      rw [f_X7_sunGiven_b4, if_neg (nle_lit (k := 5) ht (by decide)), uin_n ht (by omega), ugd_t, nI_clamp (by omega), nI_1]
    · intro n s
      show f_X7_sunGiven_b4 (n + 1) m (nI b) s (nI 5) = some (m, s)
      rw [f_X7_sunGiven_b4, if_pos (by decide)]
  rw [this, sums5_n (fun t => min b (wn t)) _ (fun t ht => by
    have := (hw t ht).2
    rw [(hw t ht).1, ummin_n (by omega) (by omega)])]
  rfl
theorem gN5_le (wn : Nat → Nat) (b : Nat) : gN5 wn b ≤ 5 * b := by
  unfold gN5
  omega
/-- the class's bound -/
theorem e_bound {m : Um} {wn : Nat → Nat} (hw : ∀ t, t < 5 → m 37 t = nI (wn t) ∧ wn t ≤ 480) {n : Nat} (hn : n ≤ 999) : ∀ (j fuel bd : Nat), j ≤ 9 → j < fuel → bd + 2 ^ j ≤ 512 → gN5 wn bd ≤ n → (bd + 2 ^ j = 512 ∨ n < gN5 wn (bd + 2 ^ j)) → ∃ B, f_X7_sunBound_b6 fuel m (nI n) (nI bd) (nI (2 ^ j / 2)) = some (m, nI B) ∧ B ≤ 511 ∧ gN5 wn B ≤ n ∧ (B = 511 ∨ n < gN5 wn (B + 1))
  | j, 0, _, _, hf, _, _, _ => absurd hf (Nat.not_lt_zero _)
  | 0, fuel + 1, bd, _, _, h1, h2, h3 => by
    rw [f_X7_sunBound_b6, if_pos (by decide)]
    simp only [Nat.pow_zero] at h1 h3
    exact ⟨bd, rfl, by omega, h2, by omega⟩
  | j + 1, fuel + 1, bd, hj, hf, h1, h2, h3 => by
    have hp : 2 ^ (j + 1) = 2 * 2 ^ j := by rw [Nat.pow_succ]; omega
    have hq : 0 < 2 ^ j := Nat.pow_pos (by omega)
    have hr := gN5_le wn (bd + 2 ^ j)
    rw [hp] at h1 h3
    rw [hp, show 2 * 2 ^ j / 2 = 2 ^ j by omega, f_X7_sunBound_b6, if_neg (nI_nle hq (by omega)), nI_add, e_given hw (by omega), ubi_mk]
    simp only [f_X7_sunBound_b25]
    rw [show nI (2 ^ j) / 2 = nI (2 ^ j / 2) from nI_div (b := 2) (by omega) (by omega) (by omega), ite_p (nI_lt' (by omega) (by omega))]
    by_cases h : n < gN5 wn (bd + 2 ^ j)
    · rw [if_pos h]
      exact e_bound hw hn j fuel bd (by omega) (by omega) (by omega) h2 (Or.inr h)
    · rw [if_neg h]
      exact e_bound hw hn j fuel (bd + 2 ^ j) (by omega) (by omega) (by omega) (by omega) (by rw [show bd + 2 ^ j + 2 ^ j = bd + 2 * 2 ^ j by omega]; exact h3)
/-- the reference's bound -/
def dscB (wn : Nat → Nat) (n : Nat) : Nat → Nat
  | 0 => 0
  | k + 1 => if gN5 wn (k + 1) ≤ n then k + 1 else dscB wn n k
theorem dscB_ok (wn : Nat → Nat) (n : Nat) : ∀ k, dscB wn n k ≤ k ∧ gN5 wn (dscB wn n k) ≤ n ∧ (dscB wn n k = k ∨ n < gN5 wn (dscB wn n k + 1))
  | 0 => by
    refine ⟨Nat.le_refl _, ?_, Or.inl rfl⟩
    show gN5 wn 0 ≤ n
    unfold gN5
    omega
  | k + 1 => by
    unfold dscB
    by_cases h : gN5 wn (k + 1) ≤ n
    · rw [if_pos h]
      exact ⟨Nat.le_refl _, h, Or.inl rfl⟩
    · rw [if_neg h]
      obtain ⟨h1, h2, h3⟩ := dscB_ok wn n k
      refine ⟨by omega, h2, ?_⟩
      rcases h3 with h3 | h3
      · rw [h3]
        exact Or.inr (by omega)
      · exact Or.inr h3
theorem bound_eq {wn : Nat → Nat} {n B t : Nat} (ht : t < 5) (hw : ∀ t, t < 5 → wn t ≤ 480) (h1 : B ≤ 511) (h2 : gN5 wn B ≤ n) (h3 : B = 511 ∨ n < gN5 wn (B + 1)) : min B (wn t) = min (dscB wn n 480) (wn t) := by
  obtain ⟨d1, d2, d3⟩ := dscB_ok wn n 480
  generalize dscB wn n 480 = D at d1 d2 d3
  have hwt := hw t ht
  have hm : ∀ a b, a ≤ b → gN5 wn a ≤ gN5 wn b := fun a b h => gN5_mono wn h
  have hbig : ∀ a, 480 ≤ a → gN5 wn a = gN5 wn 480 := fun a h => by
    unfold gN5
    have := hw 0 (by omega)
    have := hw 1 (by omega)
    have := hw 2 (by omega)
    have := hw 3 (by omega)
    have := hw 4 (by omega)
    omega
  by_cases hD : D = 480
  · have : 480 ≤ B := by
      refine Nat.le_of_not_lt (fun q => ?_)
      rcases h3 with h3 | h3
      · omega
      · have := hm (B + 1) 480 (by omega)
        rw [hD] at d2
        omega
    omega
  · have h4 : n < gN5 wn (D + 1) := by
      rcases d3 with d3 | d3
      · exact absurd d3 hD
      · exact d3
    have h5 : ¬ D + 1 ≤ B := fun q => by
      have := hm (D + 1) B q
      omega
    have h6 : ¬ B + 1 ≤ D := fun q => by
      rcases h3 with h3 | h3
      · omega
      · have := hm (B + 1) D q
        omega
    rw [show B = D by omega]
theorem e_bound9 {m : Um} {wn : Nat → Nat} (hw : ∀ t, t < 5 → m 37 t = nI (wn t) ∧ wn t ≤ 480) {n : Nat} (hn : n ≤ 999) : ∃ B, f_X7_sunBound m (nI n) = some (m, nI B) ∧ B ≤ 511 ∧ gN5 wn B ≤ n ∧ (B = 511 ∨ n < gN5 wn (B + 1)) := by
  have := e_bound hw hn 9 UF 0 (Nat.le_refl _) (by decide) (by decide) (by unfold gN5; omega) (Or.inl (by decide))
  exact this
/-- what the reference gives -/
theorem worth_low {V T : Nat} {X W R : Nat → Int32} (hR : vR T R) {t : Nat} (h1 : T ≤ t) (h2 : t < 5) : sWorth X W R V t = 0 := by
  unfold sWorth
  rw [sums_cong (q := fun _ => 0) (fun v _ => by
    have : decide (sOwn X R v = nI t) = false := by
      refine decide_eq_false (fun h => ?_)
      have h3 := own_sees (X := X) (R := R) (v := v) h2
      rw [h] at h3
      unfold sSees at h3
      rw [vR_has hR h1 h2] at h3
      simp at h3
    rw [this]
    simp [bi])]
  exact sums_cut (T := 0) (Nat.zero_le _) (fun j _ _ => rfl)
theorem r_bounded {m : Um} {V T : Nat} {X W : Nat → Int32} (hc : rC m V T X W) (hR : vR T (cv (m 54))) (hW : ∀ v, v < V → 0 ≤ (W v).toInt ∧ (W v).toInt ≤ 60) {t b : Nat} (hb : b ≤ 480) : f_X8_bounded m (nI t) (nI b) = some (m, nI (min b (sWorth X W (cv (m 54)) V t).toInt.toNat)) := by
  have hr := worth_rng (X := X) (R := cv (m 54)) hc.1 hW t
  have ew := of_toInt hr.1
  unfold f_X8_bounded f_X8_bounded_b20
  rw [r_ownedBy hc hR, ubi_mk, r_worth hc, ubi_mk]
  show (if nI b ≤ sWorth X W (cv (m 54)) V t then some (m, nI b) else some (m, sWorth X W (cv (m 54)) V t)) = _
  generalize sWorth X W (cv (m 54)) V t = w at hr ew
  rw [ew, ite_p (nI_le' (by omega) (by omega)), nI_toInt (by omega)]
  by_cases h : b ≤ w.toInt.toNat
  · rw [if_pos h, Nat.min_eq_left (by omega)]
  · rw [if_neg h, Nat.min_eq_right (by omega)]
    congr 3
theorem bi_mul_n (b : Bool) (w : Nat) : bi b * nI w = nI (if b = true then w else 0) := by
  cases b
  · show (0 : Int32) * nI w = nI 0
    rw [Int32.zero_mul]
    rfl
  · show (1 : Int32) * nI w = nI w
    rw [Int32.one_mul]
theorem r_sunBy {m : Um} {V T : Nat} {X W : Nat → Int32} (hc : rC m V T X W) (hR : vR T (cv (m 54))) (hW : ∀ v, v < V → 0 ≤ (W v).toInt ∧ (W v).toInt ≤ 60) (set : Int32) {wn : Nat → Nat} (hw : ∀ t, t < 5 → wn t = if set.toBitVec.getLsbD t = true then (sWorth X W (cv (m 54)) V t).toInt.toNat else 0) {b : Nat} (hb : b ≤ 480) : f_X8_sunBy m set (nI b) = some (m, nI (gN5 wn b)) := by
  have hT := hc.2.1
  have : f_X8_sunBy m set (nI b) = some (m, sums T (fun t => nI (min b (wn t)))) := by
    refine lp_run0 (fun n (s : Int32) t => f_X8_sunBy_b5 n m set (nI b) s (nI t)) T (fun t s => s + nI (min b (wn t))) (fun s => some (m, s)) ?_ ?_ 0 (by show T < 3000; omega)
    · intro n s t ht
      show f_X8_sunBy_b5 (n + 1) m set (nI b) s (nI t) = _
      rw [f_X8_sunBy_b5, hc.2.2.2.1, if_neg (nI_ge (by omega) (by omega)), r_bounded hc hR hW hb, ubi_mk, bit_get _ (by omega), bi_mul_n, nI_1, hw t (by omega)]
      by_cases h : set.toBitVec.getLsbD t = true
      · rw [if_pos h, if_pos h]
      · rw [if_neg h, if_neg h, Nat.min_eq_right (Nat.zero_le b)]
    · intro n s
      show f_X8_sunBy_b5 (n + 1) m set (nI b) s (nI T) = some (m, s)
      rw [f_X8_sunBy_b5, hc.2.2.2.1, if_pos (nI_le (Nat.le_refl _) (by omega))]
  rw [this, ← sums_cut (N := 5) hT (fun j h1 h2 => by
    rw [hw j h2, worth_low hR h1 h2, i_0]
    simp
    rfl), sums5_n (fun t => min b (wn t)) _ (fun _ _ => rfl)]
  rfl
theorem r_sunL {m : Um} {V T : Nat} {X W : Nat → Int32} (hc : rC m V T X W) (hR : vR T (cv (m 54))) (hW : ∀ v, v < V → 0 ≤ (W v).toInt ∧ (W v).toInt ≤ 60) (set : Int32) {wn : Nat → Nat} (hw : ∀ t, t < 5 → wn t = if set.toBitVec.getLsbD t = true then (sWorth X W (cv (m 54)) V t).toInt.toNat else 0) {t n : Nat} (ht : t < 5) (hn : n ≤ 999) : ∀ k fuel, k < fuel → k ≤ 480 → f_X8_sun_b64 fuel m (nI t) set (nI n) (nI k) = some (m, nI (min (dscB wn n k) (wn t)))
  | k, 0, hf, _ => absurd hf (Nat.not_lt_zero _)
  | k, fuel + 1, hf, hk => by
    have hg := gN5_le wn k
    rw [f_X8_sun_b64, r_sunBy hc hR hW set hw hk, ubi_mk, ite_p (nI_le' (by omega) (by omega)), bit_get _ (by omega), r_bounded hc hR hW hk, ubi_mk, ite_bi0]
    simp only [f_X8_sun_b100]
    have fin : gN5 wn k ≤ n → (if set.toBitVec.getLsbD t = true then some (m, nI (min k (sWorth X W (cv (m 54)) V t).toInt.toNat)) else some (m, 0)) = some (m, nI (min k (wn t))) := fun _ => by
      rw [hw t ht]
      by_cases h : set.toBitVec.getLsbD t = true
      · rw [if_pos h, if_pos h]
      · rw [if_neg h, if_neg h]
        simp
        rfl
    match k, hf, hk, hg, fin with
    | 0, hf, hk, hg, fin =>
      have h0 : gN5 wn 0 ≤ n := by omega
      rw [if_pos h0, fin h0]
      rfl
    | k + 1, hf, hk, hg, fin =>
      unfold dscB
      by_cases h : gN5 wn (k + 1) ≤ n
      · rw [if_pos h, if_pos h, fin h]
      · rw [if_neg h, if_neg h, nI_dec1 (by omega)]
        exact r_sunL hc hR hW set hw ht hn k fuel (by omega) (by omega)
theorem bt_le : ∀ T, T < 6 → ((1 <<< (nI T &&& 31) : Int32) - 1).toInt + 1 = (1 <<< (nI T &&& 31) : Int32).toInt := by decide +kernel
theorem set_rng {T : Nat} (hT : T ≤ 5) (x : Int32) : (0 ≤ x ∧ x ≤ (1 <<< (nI T &&& 31) : Int32) - 1) ↔ ¬ x < 0 ∧ ¬ (1 <<< (nI T &&& 31) : Int32) ≤ x := by
  have h := bt_le T (by omega)
  generalize (1 <<< (nI T &&& 31) : Int32) = y at h
  rw [Int32.le_iff_toInt_le, Int32.le_iff_toInt_le, Int32.le_iff_toInt_le, Int32.lt_iff_toInt_lt, i_0]
  omega
theorem e_sunW {m : Um} {V T : Nat} {X W : Nat → Int32} (hc : cC m V T X W) (set x y : Int32) {f : Um → Option (Um × (Int32 ⊕ String))} (hf : ∀ n M, f_X7_sun_b44 (n + 1) M x set y (nI 5) = f M) : ∃ S, f_X7_sun_b44 UF m x set y 0 = f (um_wa m 37 S) ∧ ∀ t, t < 5 → S t = if set.toBitVec.getLsbD t = true then sWorth X W (m 24) V t else 0 := by
  have key : ∀ (k t fuel : Nat) (S : Nat → Int32), t + k = 5 → k < fuel → (∀ j, j < t → S j = if set.toBitVec.getLsbD j = true then sWorth X W (m 24) V j else 0) → ∃ S', f_X7_sun_b44 fuel (um_wa m 37 S) x set y (nI t) = f (um_wa m 37 S') ∧ ∀ t, t < 5 → S' t = if set.toBitVec.getLsbD t = true then sWorth X W (m 24) V t else 0 := by
    intro k
    induction k with
    | zero =>
      intro t fuel S ht hfu hS
      have : t = 5 := by omega
      subst this
      match fuel, hfu with
      | fuel + 1, _ => exact ⟨S, hf fuel _, hS⟩
    | succ k ih =>
      intro t fuel S ht hfu hS
      match fuel, hfu with
      | fuel + 1, hfu =>
        obtain ⟨S', e1, e2⟩ := ih (t + 1) fuel (upd S t (if set.toBitVec.getLsbD t = true then sWorth X W (m 24) V t else 0)) (by omega) (by omega) (fun j hj => by
          unfold upd
          by_cases q : j = t
          · rw [if_pos q, q]
          · rw [if_neg q]
            exact hS j (by omega))
        refine ⟨S', ?_, e2⟩
        rw [← e1]
        show f_X7_sun_b44 (fuel + 1) (um_wa m 37 S) x set y (nI t) = _
        rw [f_X7_sun_b44, if_neg (nle_lit (k := 5) (show t < 5 by omega) (by decide)), bit_get _ (by omega), ite_bi1, e_worthOf (o := 23) (cC_wa hc S (by omega)) (show t < 5 by omega), ubi_mk]
        simp only [f_X7_sun_b79, uin_n (show t < 5 by omega) (show t < 2 ^ 31 by omega), ugd_t, nI_clamp (show t < 2 ^ 31 by omega), um_w_def, um_wa_s, um_wa_wa, nI_1, um_wa_n (show 23 + 1 ≠ 37 by omega)]
        split <;> rfl
  have := key 5 0 UF (m 37) rfl (by decide) (fun j hj => absurd hj (Nat.not_lt_zero _))
  rw [um_wa_id] at this
  exact this
theorem op_sun : uop_sun uI := by
  intro m a1 a2 a3 ⟨s, hc, hr, hv⟩
  have hT5 := vI_T hc
  have hV8 := vI_V hc
  have hW : ∀ v, v < qV s → 0 ≤ (qW s v).toInt ∧ (qW s v).toInt ≤ 60 := fun v h => (hv.1 v h).2
  by_cases h1 : ∃ v, v < qT s ∧ a1 = nI v
  · obtain ⟨t1, ht1, rfl⟩ := h1
    have ht5 : t1 < 5 := by omega
    by_cases h2 : 0 ≤ a2 ∧ a2 ≤ (1 <<< (nI (qT s) &&& 31) : Int32) - 1
    · obtain ⟨p1, p2⟩ := (set_rng hT5 a2).mp h2
      by_cases h3 : 0 ≤ a3 ∧ a3 ≤ 999
      · obtain ⟨n, hn, rfl⟩ := lit_cases 999 (by omega) h3
        refine Or.inl (wrapI (fr := fun M => f_X8_sun M (nI t1) a2 (nI n)) hc hr hv ?_)
        generalize hwn : (fun t => if a2.toBitVec.getLsbD t = true then (sWorth (qX s) (qW s) (qR s) (qV s) t).toInt.toNat else 0) = wn
        have hwv : ∀ t, wn t = if a2.toBitVec.getLsbD t = true then (sWorth (qX s) (qW s) (qR s) (qV s) t).toInt.toNat else 0 := fun t => by rw [← hwn]
        have hw480 : ∀ t, t < 5 → wn t ≤ 480 := fun t _ => by
          have := worth_rng (X := qX s) (R := qR s) hV8 hW t
          rw [hwv t]
          split <;> omega
        have href : ∀ M, rI M s → ∃ m2, f_X8_sun M (nI t1) a2 (nI n) = some (m2, nI (min (dscB wn n 480) (wn t1))) ∧ rK M m2 ∧ m2 38 0 = 0 := fun M hM => by
          obtain ⟨m2, e, k, hR2, h0⟩ := r_take' (rI_K hM (z0_K M)) (z0_0 M)
          have hM0 := rI_K hM (z0_K M)
          have hm := rI_K hM0 k
          have hv2 : vR (qT s) (cv (m2 54)) := by rw [hR2]; exact hv.2.1.1
          refine ⟨m2, ?_, rK_tr (z0_K M) k, h0⟩
          show ubi (f_X8_isTenant (z0 M) (nI t1) 1) _ = _
          have e9 := r_sunL hm.1.1 hv2 hW a2 (wn := wn) (fun t _ => by rw [hR2]; exact hwv t) ht5 hn 480 UF (by decide) (Nat.le_refl _)
          simp (decide := true) (disch := omega) only [r_ten_t hM0.1.1.2.2.2.1 (by omega) ht1 (z0_0 M), ubi_mk, if_true, if_false, if_neg p1, hM0.1.1.2.2.2.1, if_neg p2, r_wit_t h3, f_X8_sun_b45, r_may_t (z0_0 M), e]
          exact e9
        by_cases hb : a2.toBitVec.getLsbD t1 = true
        · obtain ⟨S, eS, hS⟩ := e_sunW hc.1.1 a2 (nI t1) (nI n) (f := fun M => ubi (f_X7_sunBound M (nI n)) (fun m2 r3 => ugd (uin (nI t1) 5) (some (m2, .inl (ummin r3 (m2 37 (nI t1).toNatClampNeg)))))) (fun f M => by
            rw [f_X7_sun_b44, if_pos (by decide)])
          have hS' : ∀ t, t < 5 → (um_wa m 37 S) 37 t = nI (wn t) ∧ wn t ≤ 480 := fun t ht => by
            refine ⟨?_, hw480 t ht⟩
            have hq := worth_rng (X := qX s) (R := qR s) hV8 hW t
            rw [um_wa_s, hS t ht, hc.2.1, hwv t]
            by_cases q : a2.toBitVec.getLsbD t = true
            · rw [if_pos q, if_pos q]
              exact of_toInt hq.1
            · rw [if_neg q, if_neg q]
              rfl
          obtain ⟨B, eB, b1, b2, b3⟩ := e_bound9 hS' hn
          refine ⟨nI (min (dscB wn n 480) (wn t1)), um_wa m 37 S, ?_, ⟨fun c _ _ _ _ _ h => um_wa_n h, fun k _ => by rw [um_wa_n (by omega)], fun i hi => by rw [um_wa_n (by omega)]; exact hc.2.2.1 i hi⟩, href⟩
          have e6 : ummin (nI B) (nI (wn t1)) = nI (min (dscB wn n 480) (wn t1)) := by
            have := hw480 t1 ht5
            rw [ummin_n (by omega) (by omega), bound_eq ht5 hw480 b1 b2 b3]
          simp (decide := true) (disch := omega) only [f_X7_sun, e_ten_t hc.1.1.2.2.2.1 (show qT s ≤ 8 by omega) ht1, hc.1.1.2.2.2.1, e_need_t h2, e_need_t h3, ubx_l, bit_get, hb, bi_t, if_false, eS, eB, ubi_mk, uin_n, ugd_t, nI_clamp, (hS' t1 ht5).1, e6]
        · refine ⟨nI (min (dscB wn n 480) (wn t1)), m, ?_, cK_rf hc, href⟩
          have hb' : a2.toBitVec.getLsbD t1 = false := by simpa using hb
          have e6 : nI (min (dscB wn n 480) (wn t1)) = 0 := by
            rw [hwv t1, if_neg hb]
            simp
            rfl
          rw [e6]
          simp (decide := true) (disch := omega) only [f_X7_sun, e_ten_t hc.1.1.2.2.2.1 (show qT s ≤ 8 by omega) ht1, hc.1.1.2.2.2.1, e_need_t h2, e_need_t h3, ubx_l, bit_get, hb', bi_f, if_true]
      · refine Or.inr (Or.inr ⟨tI m, tR (z0 (tI m)) 2 1, 0, ?_, ?_, tR_0, throwI hc hr hv 2⟩)
        · simp only [f_X7_sun, e_ten_t hc.1.1.2.2.2.1 (show qT s ≤ 8 by omega) ht1, hc.1.1.2.2.2.1, e_need_t h2, e_need_f h3, ubx_l, ubx_r]
        · have hm := rI_tI hr
          show ubi (f_X8_isTenant (z0 (tI m)) (nI t1) 1) _ = _
          simp (decide := true) (disch := omega) only [r_ten_t hm.1.1.2.2.2.1 (show qT s ≤ 8 by omega) ht1 (z0_0 _), ubi_mk, if_false, if_neg p1, hm.1.1.2.2.2.1, if_neg p2, r_wit_f h3, if_true, f_X8_sun_b44, f_X8_sun_b45, r_may_f1 (z0_0 _) i2_0, f_X8_sun_b53]
    · have hp : ¬ (¬ a2 < 0 ∧ ¬ (1 <<< (nI (qT s) &&& 31) : Int32) ≤ a2) := fun q => h2 ((set_rng hT5 a2).mpr q)
      refine Or.inr (Or.inr ⟨tI m, tR (z0 (tI m)) 2 1, 0, ?_, ?_, tR_0, throwI hc hr hv 2⟩)
      · simp only [f_X7_sun, e_ten_t hc.1.1.2.2.2.1 (show qT s ≤ 8 by omega) ht1, hc.1.1.2.2.2.1, e_need_f h2, ubx_l, ubx_r]
      · have hm := rI_tI hr
        show ubi (f_X8_isTenant (z0 (tI m)) (nI t1) 1) _ = _
        by_cases q1 : a2 < 0
        · simp (decide := true) (disch := omega) only [r_ten_t hm.1.1.2.2.2.1 (show qT s ≤ 8 by omega) ht1 (z0_0 _), ubi_mk, if_false, if_pos q1, if_true, f_X8_sun_b44, f_X8_sun_b45, r_may_f1 (z0_0 _) i2_0, f_X8_sun_b53]
        · have q2 : (1 <<< (nI (qT s) &&& 31) : Int32) ≤ a2 := Classical.byContradiction (fun q => hp ⟨q1, q⟩)
          simp (decide := true) (disch := omega) only [r_ten_t hm.1.1.2.2.2.1 (show qT s ≤ 8 by omega) ht1 (z0_0 _), ubi_mk, if_false, if_neg q1, hm.1.1.2.2.2.1, if_pos q2, if_true, f_X8_sun_b44, f_X8_sun_b45, r_may_f1 (z0_0 _) i2_0, f_X8_sun_b53]
  · refine Or.inr (Or.inl ⟨tN m, tR (z0 (tN m)) 1 0, 0, ?_, ?_, tR_0, throwN hc hr hv 1⟩)
    · simp only [f_X7_sun, e_ten_f hc.1.1.2.2.2.1 (show qT s ≤ 8 by omega) h1, ubx_r]
    · have hm := rI_tN hr
      show ubi (f_X8_isTenant (z0 (tN m)) a1 1) _ = _
      simp (decide := true) (disch := omega) only [r_ten_f hm.1.1.2.2.2.1 (show qT s ≤ 8 by omega) h1 (z0_0 _) i1_0, ubi_mk, if_true, f_X8_sun_b53]
