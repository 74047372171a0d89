/-! questions played on a copy -/
def cT (m m1 : Um) (R : Nat → Int32) : Prop := (∀ c, c ≠ 16 → c ≠ 17 → c ≠ 26 → m1 c = m c) ∧ m1 26 = R
def rT (m m1 : Um) (R : Nat → Int32) : Prop := (∀ c, c ≠ 49 → c ≠ 50 → c ≠ 54 → m1 c = m c) ∧ cv (m1 54) = R
theorem cT_K {m m1 : Um} {R : Nat → Int32} {T : Nat} (h : cT m m1 R) (hR : vR T R) : cK m m1 := ⟨fun c _ h16 h17 h26 _ _ => h.1 c h16 h17 h26, fun k _ => by rw [h.1 0 (by omega) (by omega) (by omega)], fun i hi => by rw [h.2]; exact hR.2.2 i hi⟩
theorem rT_K {m m1 : Um} {R : Nat → Int32} (h : rT m m1 R) : rK m m1 := ⟨fun c _ h49 h50 h54 _ _ _ _ => h.1 c h49 h50 h54, fun k _ _ => by rw [h.1 38 (by omega) (by omega) (by omega)]⟩
theorem cT_X {m m1 : Um} {R : Nat → Int32} {V T : Nat} {X W : Nat → Int32} {n : Nat} {A : Nat → Nat} {z : Int32} (hx : cX m V T X W n A z) (h : cT m m1 R) : cX m1 V T X W n A z := cX_of hx (fun c hc => h.1 c (by omega) (by omega) (by omega))
theorem rT_X {m m1 : Um} {R : Nat → Int32} {V T : Nat} {X W : Nat → Int32} {n : Nat} {A : Nat → Nat} {z : Int32} (hx : rX m V T X W n A z) (h : rT m m1 R) : rX m1 V T X W n A z := rX_of hx (fun c hc => h.1 c (by omega) (by omega) (by omega))
theorem e_copyT {m : Um} {s : Ss} (hc : cI m s) (hv : vI s) : ∃ m1, f_X4_copyFrom m = some (m1, ()) ∧ cT m m1 (qR s) := by
  refine ⟨_, e_copyS' (fun i hi => by rw [hc.2.1]; exact hv.2.1.1.2.2 i hi) hc.2.2.1, fun c _ _ h => um_wa_n h, ?_⟩
  rw [um_wa_s, hc.2.1]
theorem r_takeT {m : Um} {s : Ss} (hr : rI m s) : ∃ m1, f_X8_take m = some (m1, ()) ∧ rT m m1 (qR s) := by
  obtain ⟨S, e1, e2⟩ := r_take m
  exact ⟨_, e1, fun c _ _ h => um_wa_n h, by rw [um_wa_s, e2]; exact hr.2.1⟩
abbrev sBr (s : Ss) (R : Nat → Int32) : Nat → Int32 := rBreathe (qX s) (qW s) (qV s) (qA s) (qn s) (qz s) R
theorem e_breT {m m1 : Um} {s : Ss} {R : Nat → Int32} (hc : cI m s) (h : cT m m1 R) {b : Int} (hb : (R 0).toInt ≤ b) (hb2 : b < 2147483647) : ∃ m2, f_X4_breathe 25 m1 2147483647 = some (m2, 1) ∧ cT m m2 (sBr s R) := by
  obtain ⟨m2, e1, e2, e3⟩ := e_breathe (o := 25) (x := 2147483647) (Or.inr rfl) (cT_X hc.1 h) (lt_end (show (m1 26 0).toInt ≤ b by rw [h.2]; exact hb) hb2)
  refine ⟨m2, e1, fun c a b d => ?_, ?_⟩
  · rw [e3 c a b d, h.1 c a b d]
  · rw [e2, h.2]
theorem r_pasT {m m1 : Um} {s : Ss} {R : Nat → Int32} (hr : rI m s) (h : rT m m1 R) (hR : vR (qT s) R) : ∃ m2, f_X8_passes m1 = some (m2, ()) ∧ rT m m2 (sBr s R) := by
  have hv1 : vR (qT s) (cv (m1 54)) := by rw [h.2]; exact hR
  obtain ⟨m2, e1, e2, e3⟩ := r_passes (rT_X hr.1 h) hv1 (vR_age hv1)
  refine ⟨m2, e1, fun c a b d => ?_, ?_⟩
  · rw [e3 c a b d, h.1 c a b d]
  · rw [e2, h.2]
def aheadR (s : Ss) (y : Int32) (R : Nat → Int32) : Int32 := if y = 0 then bits 5 (sHas R) else if y = 1 then sAll (qX s) (qW s) R (qV s) else R 2
theorem vR_iter {s : Ss} (k : Nat) {R : Nat → Int32} (h : vR (qT s) R) : vR (qT s) (lp (fun _ R => sBr s R) k 0 R) := lp_ind0 (f := fun _ R => sBr s R) (fun _ S => vR (qT s) S) k R h (fun j S _ hS => vR_breathe hS _ _ _ _ _ _)
theorem vB_iter {s : Ss} {R : Nat → Int32} (h : (R 0).toInt ≤ 400) (k : Nat) (hk : k ≤ 99) : ((lp (fun _ R => sBr s R) k 0 R) 0).toInt ≤ 400 + (k : Int) := lp_ind0 (f := fun _ R => sBr s R) (fun j S => (S 0).toInt ≤ 400 + (j : Int)) k R (by omega) (fun j S hj hS => by
  have := bre_le (X := qX s) (W := qW s) (V := qV s) (A := qA s) (n := qn s) (z := qz s) hS (by omega)
  show (rBreathe (qX s) (qW s) (qV s) (qA s) (qn s) (qz s) S 0).toInt ≤ 400 + ((j + 1 : Nat) : Int)
  omega)
theorem e_ahead {m m0 : Um} {s : Ss} (hc : cI m s) (hv : vI s) (h0 : cT m m0 (qR s)) {N : Nat} (hN : N ≤ 99) (y : Int32) : ∃ m1, f_X7_ahead_b28 UF m0 (nI N) y 0 = some (m1, .inl (aheadR s y (lp (fun _ R => sBr s R) N 0 (qR s)))) ∧ cT m m1 (lp (fun _ R => sBr s R) N 0 (qR s)) := by
  have := lp_rel (fun q (m1 : Um) k => f_X7_ahead_b28 q m1 (nI N) y (nI k)) N (fun k m1 => cT m m1 (lp (fun _ R => sBr s R) k 0 (qR s))) (fun b => b.2 = .inl (aheadR s y (lp (fun _ R => sBr s R) N 0 (qR s))) ∧ cT m b.1 (lp (fun _ R => sBr s R) N 0 (qR s))) ?_ ?_ N 0 m0 UF (Nat.zero_add N) (by show N < 3000; omega) h0
  · obtain ⟨⟨m1, r⟩, h1, h2, h3⟩ := this
    simp only at h2
    subst h2
    exact ⟨m1, h1, h3⟩
  · intro q m1 k hk hP
    obtain ⟨m2, e1, e2⟩ := e_breT hc hP (vB_iter hv.2.1.2 k (by omega)) (by omega)
    refine ⟨m2, ?_, by rw [lp_succ]; exact e2⟩
    show f_X7_ahead_b28 (q + 1) m1 (nI N) y (nI k) = f_X7_ahead_b28 q m2 (nI N) y (nI (k + 1))
    rw [f_X7_ahead_b28, if_neg (nI_ge (by omega) (by omega)), e1, ubi_mk, nI_1]
  · intro q m1 hP
    refine ⟨(m1, .inl (aheadR s y (lp (fun _ R => sBr s R) N 0 (qR s)))), ?_, rfl, hP⟩
    show f_X7_ahead_b28 (q + 1) m1 (nI N) y (nI N) = _
    rw [f_X7_ahead_b28, if_pos (nI_le (Nat.le_refl _) (by omega)), e_holders, e_worthHad (cT_X hc.1 hP).1, ubi_mk, ubi_mk, hP.2]
    unfold aheadR
    split
    · rfl
    · split <;> rfl
theorem r_ahead {m m0 : Um} {s : Ss} (hr : rI m s) (hv : vI s) (h0 : rT m m0 (qR s)) {N : Nat} (hN : N ≤ 99) (y : Int32) : ∃ m1, f_X8_ahead_b46 UF m0 (nI N) y 0 = some (m1, (aheadR s y (lp (fun _ R => sBr s R) N 0 (qR s)))) ∧ rT m m1 (lp (fun _ R => sBr s R) N 0 (qR s)) := by
  have := lp_rel (fun q (m1 : Um) k => f_X8_ahead_b46 q m1 (nI N) y (nI k)) N (fun k m1 => rT m m1 (lp (fun _ R => sBr s R) k 0 (qR s))) (fun b => b.2 = (aheadR s y (lp (fun _ R => sBr s R) N 0 (qR s))) ∧ rT m b.1 (lp (fun _ R => sBr s R) N 0 (qR s))) ?_ ?_ N 0 m0 UF (Nat.zero_add N) (by show N < 3000; omega) h0
  · obtain ⟨⟨m1, r⟩, h1, h2, h3⟩ := this
    simp only at h2
    subst h2
    exact ⟨m1, h1, h3⟩
  · intro q m1 k hk hP
    obtain ⟨m2, e1, e2⟩ := r_pasT hr hP (vR_iter k hv.2.1.1)
    refine ⟨m2, ?_, by rw [lp_succ]; exact e2⟩
    show f_X8_ahead_b46 (q + 1) m1 (nI N) y (nI k) = f_X8_ahead_b46 q m2 (nI N) y (nI (k + 1))
    rw [f_X8_ahead_b46, if_neg (nI_ge (by omega) (by omega)), e1, ubi_mk, nI_1]
  · intro q m1 hP
    have hv1 : vR (qT s) (cv (m1 54)) := by rw [hP.2]; exact vR_iter N hv.2.1.1
    refine ⟨(m1, (aheadR s y (lp (fun _ R => sBr s R) N 0 (qR s)))), ?_, rfl, hP⟩
    show f_X8_ahead_b46 (q + 1) m1 (nI N) y (nI N) = _
    rw [f_X8_ahead_b46, if_pos (nI_le (Nat.le_refl _) (by omega)), r_holders (rT_X hr.1 hP).1 hv1, r_all (rT_X hr.1 hP).1 hv1, ubi_mk, ubi_mk, c_bu m1, hP.2]
    simp only [f_X8_ahead_b91]
    unfold aheadR
    split
    · rfl
    · split <;> rfl
theorem op_ahead : uop_ahead uI := by
  intro m a1 a2 ⟨s, hc, hr, hv⟩
  have hT5 := vI_T hc
  have hV8 := vI_V hc
  by_cases h1 : 0 ≤ a1 ∧ a1 ≤ 99
  · skip
    by_cases h2 : 0 ≤ a2 ∧ a2 ≤ 2
    · skip
      refine Or.inl (wrapI (fr := fun M => f_X8_ahead M a1 a2) hc hr hv ?_)
      obtain ⟨N, hN, rfl⟩ := lit_cases 99 (by omega) h1
      obtain ⟨m0, e0, h0⟩ := e_copyT hc hv
      obtain ⟨m1, e1, k1⟩ := e_ahead hc hv h0 hN a2
      refine ⟨aheadR s a2 (lp (fun _ R => sBr s R) N 0 (qR s)), m1, ?_, cT_K k1 (vR_iter N hv.2.1.1), fun M hM => ?_⟩
      · simp (decide := true) (disch := omega) only [f_X7_ahead, e_need_t h1, e_need_t h2, ubx_l, ubi_mk, if_true, if_false, ugd_t, e0, e1]
      · have hM0 := rI_K hM (z0_K M)
        obtain ⟨m0', e0', h0'⟩ := r_takeT hM0
        obtain ⟨m2, e2, k2⟩ := r_ahead hM0 hv h0' hN a2
        refine ⟨m2, ?_, rK_tr (z0_K M) (rT_K k2), by rw [k2.1 38 (by omega) (by omega) (by omega)]; exact z0_0 M⟩
        show ubi (f_X8_within (z0 M) (nI N) 0 99) _ = _
        simp (decide := true) (disch := omega) only [r_wit_t h1, r_wit_t h2, ubi_mk, r_may_t (z0_0 _), if_true, if_false, ugd_t, f_X8_ahead_b30, f_X8_ahead_b29, e0', e2]
    · refine Or.inr ⟨tI m, tR (z0 (tI m)) 1 1, 0, ?_, ?_, tR_0, throwI hc hr hv 1⟩
      · simp only [f_X7_ahead, e_need_t h1, e_need_f h2, ubx_l, ubx_r]
      · have hm := rI_tI hr
        show ubi (f_X8_within (z0 (tI m)) a1 0 99) _ = _
        simp (decide := true) (disch := omega) only [r_wit_t h1, r_wit_f h2, r_may_f1 (z0_0 _) i1_0, ubi_mk, if_true, if_false, f_X8_ahead_b30, f_X8_ahead_b29]
  · refine Or.inr ⟨tI m, tR (z0 (tI m)) 1 1, 0, ?_, ?_, tR_0, throwI hc hr hv 1⟩
    · simp only [f_X7_ahead, e_need_f h1, ubx_l, ubx_r]
    · have hm := rI_tI hr
      show ubi (f_X8_within (z0 (tI m)) a1 0 99) _ = _
      simp (decide := true) (disch := omega) only [r_wit_f h1, r_may_f1 (z0_0 _) i1_0, ubi_mk, if_true, if_false, f_X8_ahead_b30, f_X8_ahead_b29]
def lsF (s : Ss) (t : Nat) : Nat → Nat → (Nat → Int32) → Int32
  | 0, _, _ => -1
  | j + 1, k, R => if sHas (sBr s R) t = true then lsF s t j (k + 1) (sBr s R) else nI k
theorem e_lasts {m : Um} {s : Ss} (hc : cI m s) {t : Nat} (ht : t < 5) : ∀ (j k fuel : Nat) (m0 : Um) (R : Nat → Int32), k + j = 100 → j < fuel → cT m m0 R → vR (qT s) R → (R 0).toInt ≤ 400 + (k : Int) → ∃ m1 R1, f_X7_lasts_b31 fuel m0 (nI t) (nI k) = some (m1, .inl (lsF s t j k R)) ∧ cT m m1 R1 ∧ vR (qT s) R1
  | 0, k, 0, _, _, _, hf, _, _, _ => absurd hf (Nat.lt_irrefl 0)
  | 0, k, fuel + 1, m0, R, hk, _, h, hR, _ => by
    refine ⟨m0, R, ?_, h, hR⟩
    rw [f_X7_lasts_b31, if_pos (lit_ltq (show 99 < k by omega) (by omega))]
    rfl
  | j + 1, k, 0, _, _, _, hf, _, _, _ => absurd hf (Nat.not_lt_zero _)
  | j + 1, k, fuel + 1, m0, R, hk, hf, h, hR, hb => by
    obtain ⟨m1, e1, k1⟩ := e_breT hc h hb (by omega)
    have hb1 : (sBr s R 0).toInt ≤ 400 + ((k + 1 : Nat) : Int) := by
      have := bre_le (X := qX s) (W := qW s) (V := qV s) (A := qA s) (n := qn s) (z := qz s) hb (by omega)
      have e : sBr s R = rBreathe (qX s) (qW s) (qV s) (qA s) (qn s) (qz s) R := rfl
      rw [e]
      omega
    have hR1 : vR (qT s) (sBr s R) := vR_breathe hR _ _ _ _ _ _
    have e2 : f_X4_has 25 m1 (nI t) = some (m1, bi (sHas (sBr s R) t)) := by
      rw [e_has ht, k1.2]
    cases hh : sHas (sBr s R) t
    · refine ⟨m1, sBr s R, ?_, k1, hR1⟩
      rw [f_X7_lasts_b31, if_neg (lit_nlt (show k ≤ 99 by omega) (by omega)), e1, ubi_mk, e2, ubi_mk, ite_bi0, hh, lsF, hh, if_neg (by decide), if_neg (by decide)]
    · obtain ⟨m2, R2, g1, g2, g3⟩ := e_lasts hc ht j (k + 1) fuel m1 (sBr s R) (by omega) (by omega) k1 hR1 hb1
      refine ⟨m2, R2, ?_, g2, g3⟩
      rw [f_X7_lasts_b31, if_neg (lit_nlt (show k ≤ 99 by omega) (by omega)), e1, ubi_mk, e2, ubi_mk, ite_bi0, hh, lsF, hh, if_pos rfl, if_pos rfl, nI_1, g1]
theorem r_lasts {m : Um} {s : Ss} (hr : rI m s) {t : Nat} (ht : t < 5) : ∀ (j k fuel : Nat) (m0 : Um) (R : Nat → Int32), k + j = 100 → j < fuel → rT m m0 R → vR (qT s) R → sHas R t = true → ∃ m1 R1, f_X8_lasts_b22 fuel m0 (nI t) (nI k) = some (m1, (lsF s t j k R)) ∧ rT m m1 R1
  | 0, k, 0, _, _, _, hf, _, _, _ => absurd hf (Nat.lt_irrefl 0)
  | 0, k, fuel + 1, m0, R, hk, _, h, hR, _ => by
    refine ⟨m0, R, ?_, h⟩
    rw [f_X8_lasts_b22, if_pos (lit_ltq (show 99 < k by omega) (by omega))]
    rfl
  | j + 1, k, 0, _, _, _, hf, _, _, _ => absurd hf (Nat.not_lt_zero _)
  | j + 1, k, fuel + 1, m0, R, hk, hf, h, hR, hs => by
    obtain ⟨m1, e1, k1⟩ := r_pasT hr h hR
    have hR1 : vR (qT s) (sBr s R) := vR_breathe hR _ _ _ _ _ _
    have hz := has_zero hR1 ht
    have hs' : ¬ R (13 + t) ≤ 0 := by
      unfold sHas at hs
      simpa using hs
    have q1 : m0 54 (10 + t) = R (13 + t) := by rw [c_si m0 ht, h.2]
    have q2 : m1 54 (10 + t) = sBr s R (13 + t) := by rw [c_si m1 ht, k1.2]
    cases hh : sHas (sBr s R) t
    · refine ⟨m1, sBr s R, ?_, k1⟩
      rw [f_X8_lasts_b22, if_neg (lit_nlt (show k ≤ 99 by omega) (by omega)), lit_add, uin_n (by omega) (by omega), ugd_t, nI_clamp (by omega), q1, if_neg hs', e1, ubi_mk, ugd_t, q2, if_pos (by rw [hz]; exact hh), lsF, hh, if_neg (by decide)]
    · obtain ⟨m2, R2, g1, g2⟩ := r_lasts hr ht j (k + 1) fuel m1 (sBr s R) (by omega) (by omega) k1 hR1 hh
      refine ⟨m2, R2, ?_, g2⟩
      rw [f_X8_lasts_b22, if_neg (lit_nlt (show k ≤ 99 by omega) (by omega)), lit_add, uin_n (by omega) (by omega), ugd_t, nI_clamp (by omega), q1, if_neg hs', e1, ubi_mk, ugd_t, q2, if_neg (by rw [hz, hh]; decide), lsF, hh, if_pos rfl, nI_1, g1]
theorem op_lasts : uop_lasts uI := by
  intro m a1 ⟨s, hc, hr, hv⟩
  have hT5 := vI_T hc
  have hV8 := vI_V hc
  by_cases h1 : ∃ v, v < qT s ∧ a1 = nI v
  · obtain ⟨t1, ht1, rfl⟩ := h1
    refine Or.inl (wrapI (fr := fun M => f_X8_lasts M (nI t1)) hc hr hv ?_)
    have ht5 : t1 < 5 := by omega
    cases hh : sHas (qR s) t1
    · refine ⟨-1, m, ?_, cK_rf hc, fun M hM => ?_⟩
      · simp (decide := true) (disch := omega) only [f_X7_lasts, e_ten_t hc.1.1.2.2.2.1 (show qT s ≤ 8 by omega) ht1, ubx_l, ubi_mk, if_true, if_false, ugd_t, e_has ht5, hc.2.1, hh, bi_f]
      · have hM0 := rI_K hM (z0_K M)
        obtain ⟨m0', e0', h0'⟩ := r_takeT hM0
        have hs' : qR s (13 + t1) ≤ 0 := by
          unfold sHas at hh
          simpa using hh
        have q1 : m0' 54 (10 + t1) = qR s (13 + t1) := by rw [c_si m0' ht5, h0'.2]
        refine ⟨m0', ?_, rK_tr (z0_K M) (rT_K h0'), by rw [h0'.1 38 (by omega) (by omega) (by omega)]; exact z0_0 M⟩
        show ubi (f_X8_isTenant (z0 (M)) (nI t1) 1) _ = _
        simp (decide := true) (disch := omega) only [r_ten_t hM0.1.1.2.2.2.1 (show qT s ≤ 8 by omega) ht1 (z0_0 _), ubi_mk, r_may_t (z0_0 _), if_true, if_false, ugd_t, f_X8_lasts_b64, e0']
        rw [show UF = 2999 + 1 from rfl, f_X8_lasts_b22, if_neg (by decide), lit_add, uin_n (by omega) (by omega), ugd_t, nI_clamp (by omega), q1, if_pos hs']
        rfl
    · obtain ⟨m0, e0, h0⟩ := e_copyT hc hv
      obtain ⟨m1, R1, e1, k1, v1⟩ := e_lasts hc ht5 99 1 UF m0 (qR s) rfl (by decide) h0 hv.2.1.1 (by have := hv.2.1.2; omega)
      refine ⟨lsF s t1 99 1 (qR s), m1, ?_, cT_K k1 v1, fun M hM => ?_⟩
      · have e1' : f_X7_lasts_b31 UF m0 (nI t1) 1 = some (m1, Sum.inl (lsF s t1 99 1 (qR s))) := e1
        simp (decide := true) (disch := omega) only [f_X7_lasts, e_ten_t hc.1.1.2.2.2.1 (show qT s ≤ 8 by omega) ht1, ubx_l, ubi_mk, if_true, if_false, ugd_t, e_has ht5, hc.2.1, hh, bi_t, e0, e1']
      · have hM0 := rI_K hM (z0_K M)
        obtain ⟨m0', e0', h0'⟩ := r_takeT hM0
        obtain ⟨m2, R2, e2, k2⟩ := r_lasts hM0 ht5 99 1 UF m0' (qR s) rfl (by decide) h0' hv.2.1.1 hh
        have e2' : f_X8_lasts_b22 UF m0' (nI t1) 1 = some (m2, (lsF s t1 99 1 (qR s))) := e2
        refine ⟨m2, ?_, rK_tr (z0_K M) (rT_K k2), by rw [k2.1 38 (by omega) (by omega) (by omega)]; exact z0_0 M⟩
        show ubi (f_X8_isTenant (z0 (M)) (nI t1) 1) _ = _
        simp (decide := true) (disch := omega) only [r_ten_t hM0.1.1.2.2.2.1 (show qT s ≤ 8 by omega) ht1 (z0_0 _), ubi_mk, r_may_t (z0_0 _), if_true, if_false, ugd_t, f_X8_lasts_b64, e0', e2']
  · refine Or.inr ⟨tN m, tR (z0 (tN m)) 1 0, 0, ?_, ?_, tR_0, throwN hc hr hv 1⟩
    · simp only [f_X7_lasts, e_ten_f hc.1.1.2.2.2.1 (show qT s ≤ 8 by omega) h1, ubx_l, ubx_r]
    · have hm := rI_tN hr
      show ubi (f_X8_isTenant (z0 (tN m)) a1 1) _ = _
      simp (decide := true) (disch := omega) only [r_ten_f hm.1.1.2.2.2.1 (show qT s ≤ 8 by omega) h1 (z0_0 _) i1_0, ubi_mk, if_true, if_false, f_X8_lasts_b64]
