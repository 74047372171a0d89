/-! WHO BLEW: fits and look -/
def pR (s : Ss) (i : Nat) : Nat → Int32 := rBlow (qR s) (i / 20) (nI (i % 20 + 1))
def owI (s : Ss) (i v : Nat) : Int32 := if sOwn (qX s) (pR s i) v = -1 then 5 else sOwn (qX s) (pR s i) v
def owN (s : Ss) (i v : Nat) : Nat := (owI s i v).toNatClampNeg
theorem owN_ok (s : Ss) (i v : Nat) : owI s i v = nI (owN s i v) ∧ owN s i v ≤ 5 := by
  have h : ∃ t, t ≤ 5 ∧ owI s i v = nI t := by
    unfold owI
    rcases own_cases (qX s) (pR s i) v with h1 | ⟨t, h1, h2, _⟩
    · rw [if_pos h1]
      exact ⟨5, Nat.le_refl _, rfl⟩
    · rw [h2, if_neg (fun e => (nI_ne1 (by omega)).mp e)]
      exact ⟨t, by omega, rfl⟩
  obtain ⟨t, h1, h2⟩ := h
  unfold owN
  rw [h2, nI_clamp (by omega)]
  exact ⟨rfl, h1⟩
def gdF (s : Ss) (i v : Nat) : Bool := decide (qbl s v = -1 ∨ qbl s v = owI s i v)
theorem gd_1 {s : Ss} {i v : Nat} (h : qbl s v = -1) : gdF s i v = true := decide_eq_true (Or.inl h)
theorem gd_2 {s : Ss} {i v : Nat} (h : qbl s v = owI s i v) : gdF s i v = true := decide_eq_true (Or.inr h)
theorem gd_0 {s : Ss} {i v : Nat} (h : ¬ qbl s v = -1) (h2 : ¬ qbl s v = owI s i v) : gdF s i v = false := decide_eq_false (fun q => q.elim h h2)
def allF (g : Nat → Bool) : Nat → Nat → Bool
  | 0, _ => true
  | k + 1, v => g v && allF g k (v + 1)
def fitB (s : Ss) (i : Nat) : Bool := allF (gdF s i) (qV s) 0
theorem pR_at {s : Ss} {t z : Nat} (h1 : 1 ≤ z) (h2 : z ≤ 20) : pR s (20 * t + z - 1) = rBlow (qR s) t (nI z) := by
  unfold pR
  rw [show (20 * t + z - 1) / 20 = t by omega, show (20 * t + z - 1) % 20 + 1 = z by omega]
theorem vR_p {s : Ss} (hv : vI s) (hT : qT s ≤ 5) {t z : Nat} (ht : t < qT s) (h2 : z ≤ 20) : vR (qT s) (rBlow (qR s) t (nI z)) := vR_blow hv.2.1.1 ht hT (by rw [nI_toInt (by omega)]; omega) (by rw [nI_toInt (by omega)]; omega)
section FITS
variable {m : Um} {s : Ss}
theorem e_rightL {m1 : Um} {i : Nat} (hc : cC m1 (qV s) (qT s) (qX s) (qW s)) (hb : ∀ v, v < 8 → m1 19 v = qbl s v) (h26 : m1 26 = pR s i) : ∀ (k v fuel : Nat), v + k = qV s → k < fuel → f_X0_isRight_b2 fuel m1 (nI (qV s)) (nI v) = some (m1, bi (allF (gdF s i) k v))
  | k, v, 0, _, hf => absurd hf (Nat.not_lt_zero _)
  | 0, v, fuel + 1, hk, _ => by
    have hV := hc.1
    rw [f_X0_isRight_b2, if_pos (nI_le (by omega) (by omega))]
    rfl
  | k + 1, v, fuel + 1, hk, hf => by
    have hV := hc.1
    have ih := e_rightL (i := i) hc hb h26 k (v + 1) fuel (by omega) (by omega)
    have ho := e_ownerN (o := 25) (v := v) hc (by omega)
    rw [show (25 + 1 : Nat) = 26 from rfl, h26] at ho
    rw [f_X0_isRight_b2, if_neg (nI_ge (by omega) (by omega)), uin_n (by omega) (by omega), ugd_t, ugd_t, nI_clamp (by omega), hb v (by omega), ho, ubi_mk, allF]
    unfold f_X0_isRight_b33
    rw [nI_1, ih]
    by_cases h1 : qbl s v = -1
    · rw [if_pos h1, gd_1 h1, Bool.true_and]
    · rw [if_neg h1]
      by_cases h2 : qbl s v = owI s i v
      · rw [if_pos (show qbl s v = if sOwn (qX s) (pR s i) v = -1 then 5 else sOwn (qX s) (pR s i) v from h2)]
        rw [gd_2 h2, Bool.true_and]
      · rw [if_neg (show ¬ qbl s v = if sOwn (qX s) (pR s i) v = -1 then 5 else sOwn (qX s) (pR s i) v from h2)]
        rw [gd_0 h1 h2, Bool.false_and]
        rfl
theorem e_try {m1 : Um} (hc : cI m1 s) (hv : vI s) {t z : Nat} (ht : t < qT s) (h1 : 1 ≤ z) (h2 : z ≤ 20) : ∃ m2, f_X7_tryPair m1 (nI t) (nI z) = some (m2, bi (fitB s (20 * t + z - 1))) ∧ cK m1 m2 ∧ m2 36 = m1 36 ∧ m2 26 = pR s (20 * t + z - 1) := by
  have hT := vI_T hc
  obtain ⟨m2, e2, k2⟩ := e_copyT hc hv
  have h26 : (um_wa m2 (25 + 1) (rBlow (m2 (25 + 1)) t (nI z))) 26 = pR s (20 * t + z - 1) := by
    rw [show (25 + 1 : Nat) = 26 from rfl, um_wa_s, k2.2, pR_at h1 h2]
  have kc : ∀ c, c ≠ 16 → c ≠ 17 → c ≠ 26 → (um_wa m2 (25 + 1) (rBlow (m2 (25 + 1)) t (nI z))) c = m1 c := fun c a b d => by rw [um_wa_n d, k2.1 c a b d]
  generalize hm3 : um_wa m2 (25 + 1) (rBlow (m2 (25 + 1)) t (nI z)) = m3 at h26 kc
  have hK : cK m1 m3 := ⟨fun c a b d e _ _ => kc c b d e, fun k _ => by rw [kc 0 (by omega) (by omega) (by omega)], fun i hi => by rw [h26, pR_at h1 h2]; exact (vR_p hv hT ht h2).2.2 i hi⟩
  have hc3 := cI_K hc hv hK
  refine ⟨m3, ?_, hK, kc 36 (by omega) (by omega) (by omega), h26⟩
  unfold f_X7_tryPair f_X0_isRight
  rw [e2, ubi_mk, e_blow (by omega), ubi_mk, hm3, hc3.1.1.2.2.1, show (0 : Int32) = nI 0 from rfl, e_rightL (i := 20 * t + z - 1) hc3.1.1 hc3.2.2.2.2.1.2 h26 (qV s) 0 UF (by omega) (by have := vI_V hc; show qV s < 3000; omega), ubi_mk, ub01_bi, ugd_t]
  rfl
/-- the reference lays who has what -/
def LO (s : Ss) (M M1 : Um) (i : Nat) : Prop := (∀ c, c ≠ 54 → c ≠ 59 → M1 c = M c) ∧ ∀ i' v, i' < i → v < qV s → M1 59 (8 * i' + v) = owI s i' v
theorem LO_K {M M1 : Um} {i : Nat} (h : LO s M M1 i) : rK M M1 := ⟨fun c _ _ _ a _ b _ _ => h.1 c a b, fun k _ _ => by rw [h.1 38 (by omega) (by omega)]⟩
theorem r_lay3 {M : Um} (hr : rI M s) (hV : qV s ≤ 8) {t z : Nat} (ht : t < 5) (h1 : 1 ≤ z) (h2 : z ≤ 20) (hvp : vR (qT s) (pR s (20 * t + z - 1))) (k2 : Um → Int32 → Option (Um × Unit)) (k12 : Um → Int32 → Int32 → Option (Um × Unit)) : ∀ (r v fuel : Nat) (M1 : Um), v + r = qV s → r < fuel → LO s M M1 (20 * t + z - 1) → cv (M1 54) = pR s (20 * t + z - 1) → (∀ v', v' < v → M1 59 (8 * (20 * t + z - 1) + v') = owI s (20 * t + z - 1) v') → ∃ M2, f_X8_laysOwners_b31 k2 k12 fuel M1 (nI t) (nI z) (nI v) = k12 M2 (nI t) (nI (z + 1)) ∧ LO s M M2 (20 * t + z - 1 + 1)
  | r, v, 0, M1, _, hf, _, _, _ => absurd hf (Nat.not_lt_zero _)
  | 0, v, fuel + 1, M1, hk, _, h, h54, h59 => by
    have h17 : M1 38 17 = nI (qV s) := by rw [h.1 38 (by omega) (by omega)]; exact hr.1.1.2.2.1
    refine ⟨M1, ?_, h.1, fun i' v' hi hv' => ?_⟩
    · rw [f_X8_laysOwners_b31, h17, if_pos (nI_le (by omega) (by omega)), nI_1]
    · by_cases hq : i' = 20 * t + z - 1
      · rw [hq]
        exact h59 v' (by omega)
      · exact h.2 i' v' (by omega) hv'
  | r + 1, v, fuel + 1, M1, hk, hf, h, h54, h59 => by
    have h17 : M1 38 17 = nI (qV s) := by rw [h.1 38 (by omega) (by omega)]; exact hr.1.1.2.2.1
    have hrc := (rI_K hr (LO_K h)).1.1
    have ho := r_owner (m := M1) (v := v) hrc (by rw [h54]; exact hvp) (by omega)
    rw [h54] at ho
    have b74 : ∀ y : Int32, y = owI s (20 * t + z - 1) v → ∃ M2, f_X8_laysOwners_b74 k2 k12 (f_X8_laysOwners_b31 k2 k12 fuel) M1 (nI t) (nI z) (nI v) y ((8 * (((20 * nI t) + nI z) - 1)) + nI v) = k12 M2 (nI t) (nI (z + 1)) ∧ LO s M M2 (20 * t + z - 1 + 1) := by
      intro y hy
      unfold f_X8_laysOwners_b74
      rw [lit_mul, nI_add, nI_dec (by show 0 < 20 * t + z; omega), lit_mul, nI_add, uin_n (by show 8 * (20 * t + z - 1) + v < 800; omega) (by show 8 * (20 * t + z - 1) + v < 2 ^ 31; omega), ugd_t, nI_clamp (by show 8 * (20 * t + z - 1) + v < 2 ^ 31; omega), nI_1]
      show ∃ M2, f_X8_laysOwners_b31 k2 k12 fuel (um_w M1 59 (8 * (20 * t + z - 1) + v) y) (nI t) (nI z) (nI (v + 1)) = k12 M2 (nI t) (nI (z + 1)) ∧ LO s M M2 (20 * t + z - 1 + 1)
      refine r_lay3 hr hV ht h1 h2 hvp k2 k12 r (v + 1) fuel _ (by omega) (by omega) ⟨fun c a b => by rw [um_w_c b, h.1 c a b], fun i' v' hi hv' => by rw [um_w_k (by omega)]; exact h.2 i' v' hi hv'⟩ (by rw [um_w_c (by omega)]; exact h54) (fun v' hv' => ?_)
      by_cases hq : v' = v
      · rw [hq, um_w_s, hy]
      · rw [um_w_k (by omega)]
        exact h59 v' (by omega)
    rw [f_X8_laysOwners_b31, h17, if_neg (nI_ge (by omega) (by omega)), ho, ubi_mk, ho, ubi_mk]
    by_cases hq : sOwn (qX s) (pR s (20 * t + z - 1)) v = -1
    · rw [if_pos hq]
      exact b74 5 (by unfold owI; rw [if_pos hq])
    · rw [if_neg hq]
      exact b74 _ (by unfold owI; rw [if_neg hq])
theorem r_lay2 {M : Um} (hr : rI M s) (hv : vI s) (hV : qV s ≤ 8) (hT : qT s ≤ 5) {t : Nat} (ht : t < qT s) (k2 : Um → Int32 → Option (Um × Unit)) : ∀ (r z fuel : Nat) (M1 : Um), z + r = 21 → 1 ≤ z → r < fuel → LO s M M1 (20 * t + z - 1) → ∃ M2, f_X8_laysOwners_b12 k2 fuel M1 (nI t) (nI z) = k2 M2 (nI (t + 1)) ∧ LO s M M2 (20 * (t + 1))
  | r, z, 0, M1, _, _, hf, _ => absurd hf (Nat.not_lt_zero _)
  | 0, z, fuel + 1, M1, hk, _, _, h => by
    refine ⟨M1, ?_, ?_⟩
    · rw [f_X8_laysOwners_b12, if_pos (lit_ltq (k := 20) (by show 20 < z; omega) (by omega)), nI_1]
    · rw [show 20 * (t + 1) = 20 * t + z - 1 by omega]
      exact h
  | r + 1, z, fuel + 1, M1, hk, h1, hf, h => by
    have hr1 := rI_K hr (LO_K h)
    obtain ⟨M2, e2, k2'⟩ := r_takeT hr1
    obtain ⟨S3, g1, g2⟩ := r_blown (m := M2) (t := t) (by omega) (nI z)
    rw [k2'.2, ← pR_at h1 (by omega)] at g2
    have hvp : vR (qT s) (pR s (20 * t + z - 1)) := by rw [pR_at h1 (by omega)]; exact vR_p hv hT ht (by omega)
    have kc : ∀ c, c ≠ 49 → c ≠ 50 → c ≠ 54 → (um_wa M2 54 S3) c = M1 c := fun c a b d => by rw [um_wa_n d, k2'.1 c a b d]
    rw [f_X8_laysOwners_b12, if_neg (lit_nlt (k := 20) (by show z ≤ 20; omega) (by decide)), e2, ubi_mk, g1, ubi_mk]
    obtain ⟨S, e3, _⟩ := r_take M1
    have hM2 : M2 = um_wa M1 54 S := by
      have := e2.symm.trans e3
      exact (Prod.mk.inj (Option.some.inj this)).1
    obtain ⟨M4, i1, i2⟩ := r_lay3 hr hV (by omega) h1 (by omega) hvp k2 (f_X8_laysOwners_b12 k2 fuel) (qV s) 0 UF (um_wa M2 54 S3) (by omega) (by show qV s < 3000; omega) ⟨fun c a b => by rw [um_wa_n a, hM2, um_wa_n a, h.1 c a b], fun i' v' hi hv' => by rw [um_wa_n (by omega), hM2, um_wa_n (by omega)]; exact h.2 i' v' hi hv'⟩ (by rw [um_wa_s]; exact g2) (fun v' hv' => absurd hv' (Nat.not_lt_zero _))
    rw [show (0 : Int32) = nI 0 from rfl, i1]
    exact r_lay2 hr hv hV hT ht k2 r (z + 1) fuel M4 (by omega) (by omega) (by omega) (by rw [show 20 * t + (z + 1) - 1 = 20 * t + z - 1 + 1 by omega]; exact i2)
theorem r_lay1 {M : Um} (hr : rI M s) (hv : vI s) (hV : qV s ≤ 8) (hT : qT s ≤ 5) : ∀ (r t fuel : Nat) (M1 : Um), t + r = qT s → r < fuel → LO s M M1 (20 * t) → ∃ M2, f_X8_laysOwners_b2 fuel M1 (nI t) = some (M2, ()) ∧ LO s M M2 (20 * qT s)
  | r, t, 0, M1, _, hf, _ => absurd hf (Nat.not_lt_zero _)
  | 0, t, fuel + 1, M1, hk, _, h => by
    have h18 : M1 38 18 = nI (qT s) := by rw [h.1 38 (by omega) (by omega)]; exact hr.1.1.2.2.2.1
    refine ⟨M1, ?_, by rw [show 20 * qT s = 20 * t by omega]; exact h⟩
    rw [f_X8_laysOwners_b2, h18, if_pos (nI_le (by omega) (by omega))]
  | r + 1, t, fuel + 1, M1, hk, hf, h => by
    have h18 : M1 38 18 = nI (qT s) := by rw [h.1 38 (by omega) (by omega)]; exact hr.1.1.2.2.2.1
    obtain ⟨M2, e2, k2⟩ := r_lay2 hr hv hV hT (t := t) (by omega) (f_X8_laysOwners_b2 fuel) 20 1 UF M1 (by omega) (by omega) (by decide) (by rw [show 20 * t + 1 - 1 = 20 * t by omega]; exact h)
    rw [f_X8_laysOwners_b2, h18, if_neg (nI_ge (by omega) (by omega)), show (1 : Int32) = nI 1 from rfl, e2]
    exact r_lay1 hr hv hV hT r (t + 1) fuel M2 (by omega) (by omega) k2
theorem r_lay {M : Um} (hr : rI M s) (hv : vI s) (hV : qV s ≤ 8) (hT : qT s ≤ 5) : ∃ M2, f_X8_laysOwners M = some (M2, ()) ∧ LO s M M2 (20 * qT s) :=
  r_lay1 hr hv hV hT (qT s) 0 UF M (by omega) (by show qT s < 3000; omega) ⟨fun _ _ _ => rfl, fun i' v hi => absurd hi (Nat.not_lt_zero _)⟩
theorem r_fitL {M1 : Um} {i : Nat} (hi : i < 100) (hV : qV s ≤ 8) (h17 : M1 38 17 = nI (qV s)) (hb : ∀ v, v < 8 → M1 57 v = qbl s v) (ho : ∀ v, v < qV s → M1 59 (8 * i + v) = owI s i v) : ∀ (k v fuel : Nat) (f : Bool), v + k = qV s → k < fuel → f_X8_isFit_b4 fuel M1 (nI i) (bi f) (nI v) = some (M1, bi (f && allF (gdF s i) k v))
  | k, v, 0, f, _, hf => absurd hf (Nat.not_lt_zero _)
  | 0, v, fuel + 1, f, hk, _ => by
    rw [f_X8_isFit_b4, h17, if_pos (nI_le (by omega) (by omega)), ub01_bi, ugd_t, allF, Bool.and_true]
  | k + 1, v, fuel + 1, f, hk, hf => by
    have ih : ∀ g : Bool, f_X8_isFit_b4 fuel M1 (nI i) (bi g) (nI (v + 1)) = some (M1, bi (g && allF (gdF s i) k (v + 1))) := fun g => r_fitL hi hV h17 hb ho k (v + 1) fuel g (by omega) (by omega)
    rw [f_X8_isFit_b4, h17, if_neg (nI_ge (by omega) (by omega)), ite_bi0, uin_n (by omega) (by omega), ugd_t, ugd_t, lit_mul, nI_add, uin_n (by show 8 * i + v < 800; omega) (by show 8 * i + v < 2 ^ 31; omega), ugd_t, nI_clamp (by omega), nI_clamp (by show 8 * i + v < 2 ^ 31; omega), hb v (by omega), show M1 59 (OfNat.ofNat 8 * i + v) = owI s i v from ho v (by omega), allF]
    unfold f_X8_isFit_b50 f_X8_isFit_b46 f_X8_isFit_b51
    have ih0 : f_X8_isFit_b4 fuel M1 (nI i) 0 (nI (v + 1)) = some (M1, bi false) := ih false
    have ih1 : f_X8_isFit_b4 fuel M1 (nI i) 1 (nI (v + 1)) = some (M1, bi (allF (gdF s i) k (v + 1))) := by
      have := ih true
      rw [Bool.true_and] at this
      exact this
    rw [nI_1, ih0, ih1]
    cases f
    · rw [if_neg (by decide), Bool.false_and]
    · rw [if_pos rfl, Bool.true_and]
      by_cases h1 : qbl s v = -1
      · rw [if_pos h1, gd_1 h1, Bool.true_and]
      · rw [if_neg h1]
        by_cases h2 : qbl s v = owI s i v
        · rw [if_pos h2.symm, gd_2 h2, Bool.true_and]
        · rw [if_neg (fun e => h2 e.symm), gd_0 h1 h2, Bool.false_and]
theorem r_fit {M M1 : Um} {i : Nat} (hr : rI M s) (hT : qT s ≤ 5) (hV : qV s ≤ 8) (hi : i < 20 * qT s) (h : LO s M M1 (20 * qT s)) : f_X8_isFit M1 (nI i) = some (M1, bi (fitB s i)) := by
  have := r_fitL (s := s) (M1 := M1) (i := i) (by omega) hV (by rw [h.1 38 (by omega) (by omega)]; exact hr.1.1.2.2.1) (by rw [h.1 57 (by omega) (by omega)]; exact hr.2.2.2.1.2) (fun v hv => h.2 i v hi hv) (qV s) 0 UF true (by omega) (by show qV s < 3000; omega)
  rw [Bool.true_and] at this
  exact this
/-- a pair counted -/
def fiS (s : Ss) (i : Nat) (p : Nat × Int32) : Nat × Int32 := if fitB s i = true then (p.1 + 1, if p.1 = 0 then nI (100 * (i / 20) + i % 20 + 1) else p.2) else p
def fiI (s : Ss) (i : Nat) : Nat × Int32 := lp (fiS s) i 0 (0, -1)
theorem fiI_succ (s : Ss) (i : Nat) : fiI s (i + 1) = fiS s i (fiI s i) := by
  unfold fiI
  rw [lp_succ, Nat.zero_add]
theorem fiI_ok (s : Ss) : ∀ i, i ≤ 100 → (fiI s i).1 ≤ i ∧ ((fiI s i).2 = -1 ↔ (fiI s i).1 = 0)
  | 0, _ => ⟨Nat.le_refl _, fun _ => rfl, fun _ => rfl⟩
  | i + 1, hi => by
    have ih := fiI_ok s i (by omega)
    rw [fiI_succ]
    unfold fiS
    by_cases h : fitB s i = true
    · rw [if_pos h]
      refine ⟨by show (fiI s i).1 + 1 ≤ i + 1; omega, fun e => ?_, fun e => by
        have e' : (fiI s i).1 + 1 = 0 := e
        omega⟩
      have e' : (if (fiI s i).1 = 0 then nI (100 * (i / 20) + i % 20 + 1) else (fiI s i).2) = -1 := e
      by_cases h0 : (fiI s i).1 = 0
      · rw [if_pos h0] at e'
        exact ((nI_ne1 (by omega)).mp e').elim
      · rw [if_neg h0] at e'
        exact absurd (ih.2.mp e') h0
    · rw [if_neg h]
      exact ⟨by omega, ih.2⟩
theorem e_fits2 (hc : cI m s) (hv : vI s) (y : Int32) {t : Nat} (ht : t < qT s) (k14 : Um → Int32 → Int32 → Int32 → Int32 → Option (Um × (Int32 ⊕ String))) : ∀ (r z fuel : Nat) (m1 : Um), z + r = 21 → 1 ≤ z → r < fuel → cK m m1 → ∃ m2, f_X7_fits_b29 k14 fuel m1 y (nI (fiI s (20 * t + z - 1)).1) (fiI s (20 * t + z - 1)).2 (nI t) (nI z) = k14 m2 y (nI (fiI s (20 * (t + 1))).1) (fiI s (20 * (t + 1))).2 (nI (t + 1)) ∧ cK m m2
  | r, z, 0, m1, _, _, hf, _ => absurd hf (Nat.not_lt_zero _)
  | 0, z, fuel + 1, m1, hk, _, _, h => by
    refine ⟨m1, ?_, h⟩
    rw [f_X7_fits_b29, if_pos (lit_ltq (k := 20) (by show 20 < z; omega) (by omega)), nI_1, show 20 * (t + 1) = 20 * t + z - 1 by omega]
  | r + 1, z, fuel + 1, m1, hk, h1, hf, h => by
    have hT := vI_T hc
    obtain ⟨m2, e2, k2, _, _⟩ := e_try (cI_K hc hv h) hv ht h1 (show z ≤ 20 by omega)
    have hok := fiI_ok s (20 * t + z - 1) (by omega)
    have ih := e_fits2 hc hv y ht k14 r (z + 1) fuel m2 (by omega) (by omega) (by omega) (cK_tr h k2)
    rw [show 20 * t + (z + 1) - 1 = (20 * t + z - 1) + 1 by omega, fiI_succ] at ih
    unfold fiS at ih
    rw [f_X7_fits_b29, if_neg (lit_nlt (k := 20) (by show z ≤ 20; omega) (by decide)), e2, ubi_mk, ite_bi0]
    unfold f_X7_fits_b63 f_X7_fits_b67
    rw [nI_1, nI_1, lit_mul, nI_add]
    by_cases hq : fitB s (20 * t + z - 1) = true
    · rw [if_pos hq]
      rw [if_pos hq] at ih
      by_cases h0 : (fiI s (20 * t + z - 1)).1 = 0
      · rw [if_pos (show nI (fiI s (20 * t + z - 1)).1 = 0 by rw [h0]; rfl)]
        have ih' := ih
        rw [if_pos h0, show (20 * t + z - 1) / 20 = t by omega, show 100 * t + (20 * t + z - 1) % 20 + 1 = 100 * t + z by omega] at ih'
        exact ih'
      · rw [if_neg (nI_ne0 (by omega) (by omega))]
        rw [if_neg h0] at ih
        exact ih
    · rw [if_neg hq]
      rw [if_neg hq] at ih
      exact ih
theorem e_fits1 (hc : cI m s) (hv : vI s) (y : Int32) : ∀ (r t fuel : Nat) (m1 : Um), t + r = qT s → r < fuel → cK m m1 → ∃ m2, f_X7_fits_b14 fuel m1 y (nI (fiI s (20 * t)).1) (fiI s (20 * t)).2 (nI t) = some (m2, .inl (if y = 0 then nI (fiI s (20 * qT s)).1 else (fiI s (20 * qT s)).2)) ∧ cK m m2
  | r, t, 0, m1, _, hf, _ => absurd hf (Nat.not_lt_zero _)
  | 0, t, fuel + 1, m1, hk, _, h => by
    have hT := vI_T hc
    have h31 : m1 3 1 = nI (qT s) := (cI_K hc hv h).1.1.2.2.2.1
    have htq : t = qT s := by omega
    refine ⟨m1, ?_, h⟩
    rw [f_X7_fits_b14, h31, if_pos (nI_le (by omega) (by omega)), htq]
    unfold f_X7_fits_b88
    by_cases h0 : y = 0
    · rw [if_pos h0, if_pos h0]
    · rw [if_neg h0, if_neg h0]
  | r + 1, t, fuel + 1, m1, hk, hf, h => by
    have hT := vI_T hc
    have h31 : m1 3 1 = nI (qT s) := (cI_K hc hv h).1.1.2.2.2.1
    obtain ⟨m2, e2, k2⟩ := e_fits2 hc hv y (t := t) (by omega) (f_X7_fits_b14 fuel) 20 1 UF m1 (by omega) (by omega) (by decide) h
    rw [show 20 * t + 1 - 1 = 20 * t by omega] at e2
    rw [f_X7_fits_b14, h31, if_neg (nI_ge (by omega) (by omega)), show (1 : Int32) = nI 1 from rfl, e2]
    exact e_fits1 hc hv y r (t + 1) fuel m2 (by omega) (by omega) k2
theorem r_fits1 {M M1 : Um} (hr : rI M s) (hT : qT s ≤ 5) (hV : qV s ≤ 8) (h : LO s M M1 (20 * qT s)) (y : Int32) : ∀ (r i fuel : Nat), i + r = 20 * qT s → r < fuel → f_X8_fits_b33 fuel M1 y (nI (fiI s i).1) (fiI s i).2 (nI i) = some (M1, if y = 0 then nI (fiI s (20 * qT s)).1 else (fiI s (20 * qT s)).2)
  | r, i, 0, _, hf => absurd hf (Nat.not_lt_zero _)
  | 0, i, fuel + 1, hk, _ => by
    have h18 : M1 38 18 = nI (qT s) := by rw [h.1 38 (by omega) (by omega)]; exact hr.1.1.2.2.2.1
    have hi : i = 20 * qT s := by omega
    rw [f_X8_fits_b33, h18, lit_mul, if_pos (nI_le (by show 20 * qT s ≤ i; omega) (by omega)), hi]
    unfold f_X8_fits_b101
    by_cases h0 : y = 0
    · rw [if_pos h0, if_pos h0]
    · rw [if_neg h0, if_neg h0]
  | r + 1, i, fuel + 1, hk, hf => by
    have h18 : M1 38 18 = nI (qT s) := by rw [h.1 38 (by omega) (by omega)]; exact hr.1.1.2.2.2.1
    have hok := fiI_ok s i (by omega)
    have ih := r_fits1 hr hT hV h y r (i + 1) fuel (by omega) (by omega)
    rw [fiI_succ] at ih
    unfold fiS at ih
    have ed : nI i / 20 = nI (i / 20) := nI_div (b := 20) (by omega) (by omega) (by omega)
    have em : nI i % 20 = nI (i % 20) := nI_mod (b := 20) (by omega) (by omega)
    rw [f_X8_fits_b33, h18, lit_mul, if_neg (nI_ge (by show i < 20 * qT s; omega) (by show 20 * qT s < 2 ^ 31; omega)), r_fit hr hT hV (by omega) h, ubi_mk, ite_bi0, ed, em, lit_mul, nI_add, nI_1, nI_1]
    unfold f_X8_fits_b85 f_X8_fits_b86
    rw [nI_1]
    by_cases hq : fitB s i = true
    · rw [if_pos hq]
      rw [if_pos hq] at ih
      by_cases h0 : (fiI s i).1 = 0
      · rw [if_pos (hok.2.mpr h0)]
        rw [if_pos h0] at ih
        exact ih
      · rw [if_neg (fun e => h0 (hok.2.mp e))]
        rw [if_neg h0] at ih
        exact ih
    · rw [if_neg hq]
      rw [if_neg hq] at ih
      exact ih
end FITS
theorem op_fits : uop_fits uI := by
  intro m a1 ⟨s, hc, hr, hv⟩
  have hT5 := vI_T hc
  have hV8 := vI_V hc
  have hm := rI_tI hr
  have rs : ∀ M, f_X8_fits M a1 = ubi (f_X8_within (z0 M) a1 0 1) (fun m1 r2 => ubi (f_X8_may m1 r2 1 1) (fun m4 r5 => if r5 = 0 then (some (m4, 0)) else (ubi (f_X8_laysOwners m4) (fun m8 r9 => f_X8_fits_b33 UF m8 a1 0 (-1) 0)))) := fun M => rfl
  by_cases h1 : 0 ≤ a1 ∧ a1 ≤ 1
  · refine Or.inl (wrapI (fr := fun M => f_X8_fits M a1) hc hr hv ?_)
    obtain ⟨m2, e2, k2⟩ := e_fits1 hc hv a1 (qT s) 0 UF m (by omega) (by show qT s < 3000; omega) (cK_rf hc)
    refine ⟨if a1 = 0 then nI (fiI s (20 * qT s)).1 else (fiI s (20 * qT s)).2, m2, ?_, k2, fun M hM => ?_⟩
    · unfold f_X7_fits
      rw [e_need_t h1, ubx_l]
      exact e2
    · have hM0 := rI_K hM (z0_K M)
      obtain ⟨M2, f2, l2⟩ := r_lay hM0 hv hV8 hT5
      refine ⟨M2, ?_, rK_tr (z0_K M) (LO_K l2), by rw [l2.1 38 (by omega) (by omega)]; exact z0_0 M⟩
      show f_X8_fits M a1 = _
      rw [rs, r_wit_t h1, ubi_mk, r_may_t (z0_0 M), ubi_mk, if_neg i1_0, f2, ubi_mk]
      exact r_fits1 hM0 hT5 hV8 l2 a1 (20 * qT s) 0 UF (by omega) (by show 20 * qT s < 3000; omega)
  · refine Or.inr ⟨tI m, tR (z0 (tI m)) 1 1, 0, ?_, ?_, tR_0, throwI hc hr hv 1⟩
    · unfold f_X7_fits
      rw [e_need_f h1, ubx_r]
    · rw [rs, r_wit_f h1, ubi_mk, r_may_f1 (z0_0 _) i1_0, ubi_mk, if_pos rfl]
