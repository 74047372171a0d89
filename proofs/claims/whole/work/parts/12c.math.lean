/-! FRACTIONS -/
def gst : Nat → Int64 → Int64 → Int64 × Int64
  | 0, a, b => (a, b)
  | n + 1, a, b => if b = 0 then (a, b) else gst n b (a - a / b * b)
def gOK (x0 x2 : Int64) : Bool := decide ((gst 100 x2 x0).1 = (gst 100 x0 x2).1) && decide ((gst 100 x0 x2).2 = 0) && decide (¬ (gst 100 x0 x2).1 = 0)
def lrF (x0 x2 : Int64) (x4 : Int32) : Int64 := (if x4 = 0 then x0 else x2) / (gst 100 x0 x2).1
theorem ite_p {α : Type} {p q : Prop} [Decidable p] [Decidable q] (h : p = q) (x y : α) : (if p then x else y) = if q then x else y := by
  by_cases hp : p
  · rw [if_pos hp, if_pos (h ▸ hp)]
  · rw [if_neg hp, if_neg (fun hq => hp (h ▸ hq))]
theorem lg0 (x : Int64) : (lg_cmp x 0 = 0) = (x = 0) := by
  unfold lg_cmp
  by_cases h : x = 0
  · subst h
    simp
  · by_cases h2 : x > 0
    · rw [if_pos h2]
      simp [h]
    · rw [if_neg h2, if_neg h]
      simp [h]
theorem e_ltL (m : Um) (x0 x2 : Int64) (x4 : Int32) : ∀ (k i fuel : Nat) (a b : Int64), i + k = 100 → k < fuel → f_X7_leastTerms_b9 fuel m x0 x2 x4 a b (nI i) = f_X7_leastTerms_b44 m x0 x2 x4 (gst k a b).1
  | k, i, 0, a, b, _, hf => absurd hf (Nat.not_lt_zero _)
  | 0, i, fuel + 1, a, b, h, _ => by
    rw [f_X7_leastTerms_b9, if_pos (lit_leq (k := 100) (by show 100 ≤ i; omega) (by omega))]
    rfl
  | k + 1, i, fuel + 1, a, b, h, hf => by
    rw [f_X7_leastTerms_b9, if_neg (nle_lit (k := 100) (by show i < 100; omega) (by decide)), ite_p (lg0 b), gst]
    by_cases hb : b = 0
    · rw [if_pos hb, if_pos hb]
    · rw [if_neg hb, if_neg hb, show unzl b = true from decide_eq_true hb, ugd_t, nI_1]
      exact e_ltL m x0 x2 x4 k (i + 1) fuel b (a - a / b * b) (by omega) (by omega)
theorem r_ltL (m : Um) (x0 x2 : Int64) (x4 : Int32) : ∀ (k fuel : Nat) (a b : Int64), (gst k a b).2 = 0 → k < fuel → f_X8_least_b6 fuel m x0 x2 x4 a b = if x4 = 0 then f_X8_least_b41 m (gst k a b).1 x0 else f_X8_least_b41 m (gst k a b).1 x2
  | k, 0, a, b, _, hf => absurd hf (Nat.not_lt_zero _)
  | 0, fuel + 1, a, b, h, _ => by
    have hb : b = 0 := h
    rw [f_X8_least_b6, ite_p (lg0 b), if_pos hb]
    rfl
  | k + 1, fuel + 1, a, b, h, hf => by
    rw [gst] at h
    rw [f_X8_least_b6, ite_p (lg0 b), gst]
    by_cases hb : b = 0
    · rw [if_pos hb, if_pos hb]
    · rw [if_neg hb] at h
      rw [if_neg hb, if_neg hb, show unzl b = true from decide_eq_true hb, ugd_t]
      exact r_ltL m x0 x2 x4 k fuel b (a - a / b * b) h (by omega)
theorem gOK_of {x0 x2 : Int64} (h : gOK x0 x2 = true) : (gst 100 x2 x0).1 = (gst 100 x0 x2).1 ∧ (gst 100 x0 x2).2 = 0 ∧ ¬ (gst 100 x0 x2).1 = 0 := by
  unfold gOK at h
  simp only [Bool.and_eq_true, decide_eq_true_eq] at h
  exact ⟨h.1.1, h.1.2, h.2⟩
theorem e_least {m : Um} {x0 x2 : Int64} (x4 : Int32) (h : gOK x0 x2 = true) : f_X7_leastTerms m x0 x2 x4 = some (m, lrF x0 x2 x4) := by
  obtain ⟨h1, h2, h3⟩ := gOK_of h
  unfold f_X7_leastTerms
  rw [show f_X7_leastTerms_b9 UF m x0 x2 x4 x2 x0 0 = _ from e_ltL m x0 x2 x4 100 0 UF x2 x0 rfl (by decide), h1]
  unfold f_X7_leastTerms_b44 f_X7_leastTerms_b65
  rw [ite_p (lg0 _), if_neg h3, show unzl (gst 100 x0 x2).1 = true from decide_eq_true h3, ugd_t, ugd_t]
  unfold lrF
  split <;> rfl
theorem r_least {m : Um} {x0 x2 : Int64} (x4 : Int32) (h : gOK x0 x2 = true) : f_X8_least m x0 x2 x4 = some (m, lrF x0 x2 x4) := by
  obtain ⟨h1, h2, h3⟩ := gOK_of h
  unfold f_X8_least
  rw [r_ltL m x0 x2 x4 100 UF x0 x2 h2 (by decide)]
  unfold f_X8_least_b41
  rw [show unzl (gst 100 x0 x2).1 = true from decide_eq_true h3, ugd_t, ugd_t]
  unfold lrF
  split <;> rfl
def pwL (x : Int64) (n : Nat) : Int64 := lp (fun _ s => s * x) n 0 1
theorem e_power {m : Um} (x : Int64) {n : Nat} (hn : n ≤ 12) : f_X7_power m x (nI n) = some (m, pwL x n) := by
  refine lp_run0 (fun q (s : Int64) t => f_X7_power_b5 q m x (nI n) s (nI t)) n (fun _ s => s * x) (fun s => some (m, s)) ?_ ?_ 1 (by show n < 3000; omega)
  · intro q s t ht
    show f_X7_power_b5 (q + 1) m x (nI n) s (nI t) = _
    rw [f_X7_power_b5, if_neg (nI_ge (by omega) (by omega)), nI_1]
  · intro q s
    show f_X7_power_b5 (q + 1) m x (nI n) s (nI n) = some (m, s)
    rw [f_X7_power_b5, if_pos (nI_le (Nat.le_refl _) (by omega))]
theorem r_power {m : Um} (x : Int32) {n : Nat} (hn : n ≤ 12) : f_X8_numberOf m (nI n) x = some (m, pwL x.toInt64 n) := by
  refine lp_run0 (fun q (s : Int64) t => f_X8_numberOf_b5 q m (nI n) x s (nI t)) n (fun _ s => s * x.toInt64) (fun s => some (m, s)) ?_ ?_ 1 (by show n < 3000; omega)
  · intro q s t ht
    show f_X8_numberOf_b5 (q + 1) m (nI n) x s (nI t) = _
    rw [f_X8_numberOf_b5, if_neg (nI_ge (by omega) (by omega)), nI_1]
  · intro q s
    show f_X8_numberOf_b5 (q + 1) m (nI n) x s (nI n) = some (m, s)
    rw [f_X8_numberOf_b5, if_pos (nI_le (Nat.le_refl _) (by omega))]
theorem i16_64 : (16 : Int32).toInt64 = 16 := by decide
theorem st_fin : ∀ n, n < 13 → ∀ q, q < 17 → gOK (pwL ((16 - nI q).toInt64) n) (pwL 16 n) = true := by decide +kernel
def meanL (q n : Nat) : Int64 := lp (fun i s => s + pwL ((16 - nI q).toInt64) i * pwL 16 (n - i)) n 1 0
theorem me_fin : ∀ n, n < 13 → ∀ q, q < 17 → gOK (meanL q n) (pwL 16 n) = true := by decide +kernel
theorem e_mean {m : Um} {n q : Nat} (hn : n < 13) (hq : q < 17) (y : Int32) : f_X7_mean_b29 UF m (nI n) (nI q) y 0 1 = some (m, .inl (lrF (meanL q n) (pwL 16 n) y)) := by
  refine lp_run (fun f (s : Int64) t => f_X7_mean_b29 f m (nI n) (nI q) y s (nI t)) (n + 1) (fun i s => s + pwL ((16 - nI q).toInt64) i * pwL 16 (n - i)) (fun t s => t ≤ n → True) (fun s => ubi (f_X7_leastTerms m s (pwL 16 n) y) (fun m5 r6 => some (m5, .inl r6))) ?_ ?_ n 1 0 UF (by omega) (by show n < 3000; omega) (fun _ => trivial) |>.trans ?_
  · intro f s t ht _
    refine ⟨?_, fun _ => trivial⟩
    show f_X7_mean_b29 (f + 1) m (nI n) (nI q) y s (nI t) = _
    rw [f_X7_mean_b29, if_neg (nI_nlt (by omega) (by omega)), e_power _ (by omega), ubi_mk, nI_sub (by omega), e_power _ (by omega), ubi_mk, nI_1]
  · intro f s _
    show f_X7_mean_b29 (f + 1) m (nI n) (nI q) y s (nI (n + 1)) = _
    rw [f_X7_mean_b29, if_pos (nI_lt (by omega) (by omega)), e_power _ (by omega), ubi_mk]
  · show ubi (f_X7_leastTerms m (meanL q n) (pwL 16 n) y) (fun m5 r6 => some (m5, (Sum.inl r6 : Int64 ⊕ String))) = _
    rw [e_least y (me_fin n hn q hq), ubi_mk]
theorem r_mean {m : Um} {n q : Nat} (hn : n < 13) (hq : q < 17) (y : Int32) : f_X8_mean_b56 UF m (nI n) (nI q) y 0 1 = some (m, lrF (meanL q n) (pwL 16 n) y) := by
  refine lp_run (fun f (s : Int64) t => f_X8_mean_b56 f m (nI n) (nI q) y s (nI t)) (n + 1) (fun i s => s + pwL ((16 - nI q).toInt64) i * pwL 16 (n - i)) (fun t s => t ≤ n → True) (fun s => ubi (f_X8_least m s (pwL 16 n) y) (fun m5 r6 => some (m5, r6))) ?_ ?_ n 1 0 UF (by omega) (by show n < 3000; omega) (fun _ => trivial) |>.trans ?_
  · intro f s t ht _
    refine ⟨?_, fun _ => trivial⟩
    show f_X8_mean_b56 (f + 1) m (nI n) (nI q) y s (nI t) = _
    rw [f_X8_mean_b56, if_neg (nI_nlt (by omega) (by omega)), r_power _ (by omega), ubi_mk, nI_sub (by omega), r_power _ (by omega), ubi_mk, nI_1, i16_64]
  · intro f s _
    show f_X8_mean_b56 (f + 1) m (nI n) (nI q) y s (nI (n + 1)) = _
    rw [f_X8_mean_b56, if_pos (nI_lt (by omega) (by omega)), r_power _ (by omega), ubi_mk, i16_64]
  · show ubi (f_X8_least m (meanL q n) (pwL 16 n) y) (fun m5 r6 => some (m5, r6)) = _
    rw [r_least y (me_fin n hn q hq), ubi_mk]
theorem op_stands : uop_stands uI := by
  intro m a1 a2 a3 ⟨s, hc, hr, hv⟩
  have hT5 := vI_T hc
  have hV8 := vI_V hc
  by_cases h1 : 0 ≤ a1 ∧ a1 ≤ 12
  · skip
    by_cases h2 : 0 ≤ a2 ∧ a2 ≤ 16
    · skip
      by_cases h3 : 0 ≤ a3 ∧ a3 ≤ 1
      · skip
        refine Or.inl (wrapL (fr := fun M => f_X8_stands M a1 a2 a3) hc hr hv ?_)
        obtain ⟨n, hn, rfl⟩ := lit_cases 12 (by omega) h1
        obtain ⟨q, hq, rfl⟩ := lit_cases 16 (by omega) h2
        have hg := st_fin n (by omega) q (by omega)
        refine ⟨lrF (pwL ((16 - nI q).toInt64) n) (pwL 16 n) a3, m, ?_, cK_rf hc, fun M hM => ⟨z0 M, ?_, z0_K M, z0_0 M⟩⟩
        · simp (decide := true) (disch := omega) only [f_X7_stands, e_need_t h1, e_need_t h2, e_need_t h3, ubx_l, ubi_mk, if_true, if_false, ugd_t, e_power _ hn, e_least a3 hg]
        · show ubi (f_X8_within (z0 M) (nI n) 0 12) _ = _
          simp (decide := true) (disch := omega) only [r_wit_t h1, r_wit_t h2, r_wit_t h3, ubi_mk, r_may_t (z0_0 _), if_true, if_false, ugd_t, f_X8_stands_b40, f_X8_stands_b39, f_X8_stands_b40, r_power _ hn, i16_64, r_least a3 hg]
      · refine Or.inr ⟨tI m, tR (z0 (tI m)) 1 1, 0, ?_, ?_, tR_0, throwI hc hr hv 1⟩
        · simp only [f_X7_stands, e_need_t h1, e_need_t h2, e_need_f h3, ubx_l, ubx_r]
        · have hm := rI_tI hr
          show ubi (f_X8_within (z0 (tI m)) a1 0 12) _ = _
          simp (decide := true) (disch := omega) only [r_wit_t h1, r_wit_t h2, r_wit_f h3, r_may_f1 (z0_0 _) i1_0, ubi_mk, if_true, if_false, f_X8_stands_b40, f_X8_stands_b39]
    · refine Or.inr ⟨tI m, tR (z0 (tI m)) 1 1, 0, ?_, ?_, tR_0, throwI hc hr hv 1⟩
      · simp only [f_X7_stands, e_need_t h1, e_need_f h2, ubx_l, ubx_r]
      · have hm := rI_tI hr
        show ubi (f_X8_within (z0 (tI m)) a1 0 12) _ = _
        simp (decide := true) (disch := omega) only [r_wit_t h1, r_wit_f h2, r_may_f1 (z0_0 _) i1_0, ubi_mk, if_true, if_false, f_X8_stands_b40, f_X8_stands_b39]
  · refine Or.inr ⟨tI m, tR (z0 (tI m)) 1 1, 0, ?_, ?_, tR_0, throwI hc hr hv 1⟩
    · simp only [f_X7_stands, e_need_f h1, ubx_l, ubx_r]
    · have hm := rI_tI hr
      show ubi (f_X8_within (z0 (tI m)) a1 0 12) _ = _
      simp (decide := true) (disch := omega) only [r_wit_f h1, r_may_f1 (z0_0 _) i1_0, ubi_mk, if_true, if_false, f_X8_stands_b40, f_X8_stands_b39]
theorem op_mean : uop_mean uI := by
  intro m a1 a2 a3 ⟨s, hc, hr, hv⟩
  have hT5 := vI_T hc
  have hV8 := vI_V hc
  by_cases h1 : 0 ≤ a1 ∧ a1 ≤ 12
  · skip
    by_cases h2 : 0 ≤ a2 ∧ a2 ≤ 16
    · skip
      by_cases h3 : 0 ≤ a3 ∧ a3 ≤ 1
      · skip
        refine Or.inl (wrapL (fr := fun M => f_X8_mean M a1 a2 a3) hc hr hv ?_)
        obtain ⟨n, hn, rfl⟩ := lit_cases 12 (by omega) h1
        obtain ⟨q, hq, rfl⟩ := lit_cases 16 (by omega) h2
        refine ⟨lrF (meanL q n) (pwL 16 n) a3, m, ?_, cK_rf hc, fun M hM => ⟨z0 M, ?_, z0_K M, z0_0 M⟩⟩
        · simp (decide := true) (disch := omega) only [f_X7_mean, e_need_t h1, e_need_t h2, e_need_t h3, ubx_l, ubi_mk, if_true, if_false, ugd_t, e_mean (show n < 13 by omega) (show q < 17 by omega)]
        · show ubi (f_X8_within (z0 M) (nI n) 0 12) _ = _
          simp (decide := true) (disch := omega) only [r_wit_t h1, r_wit_t h2, r_wit_t h3, ubi_mk, r_may_t (z0_0 _), if_true, if_false, ugd_t, f_X8_mean_b40, f_X8_mean_b39, f_X8_mean_b40, r_mean (show n < 13 by omega) (show q < 17 by omega)]
      · refine Or.inr ⟨tI m, tR (z0 (tI m)) 1 1, 0, ?_, ?_, tR_0, throwI hc hr hv 1⟩
        · simp only [f_X7_mean, e_need_t h1, e_need_t h2, e_need_f h3, ubx_l, ubx_r]
        · have hm := rI_tI hr
          show ubi (f_X8_within (z0 (tI m)) a1 0 12) _ = _
          simp (decide := true) (disch := omega) only [r_wit_t h1, r_wit_t h2, r_wit_f h3, r_may_f1 (z0_0 _) i1_0, ubi_mk, if_true, if_false, f_X8_mean_b40, f_X8_mean_b39]
    · refine Or.inr ⟨tI m, tR (z0 (tI m)) 1 1, 0, ?_, ?_, tR_0, throwI hc hr hv 1⟩
      · simp only [f_X7_mean, e_need_t h1, e_need_f h2, ubx_l, ubx_r]
      · have hm := rI_tI hr
        show ubi (f_X8_within (z0 (tI m)) a1 0 12) _ = _
        simp (decide := true) (disch := omega) only [r_wit_t h1, r_wit_f h2, r_may_f1 (z0_0 _) i1_0, ubi_mk, if_true, if_false, f_X8_mean_b40, f_X8_mean_b39]
  · refine Or.inr ⟨tI m, tR (z0 (tI m)) 1 1, 0, ?_, ?_, tR_0, throwI hc hr hv 1⟩
    · simp only [f_X7_mean, e_need_f h1, ubx_l, ubx_r]
    · have hm := rI_tI hr
      show ubi (f_X8_within (z0 (tI m)) a1 0 12) _ = _
      simp (decide := true) (disch := omega) only [r_wit_f h1, r_may_f1 (z0_0 _) i1_0, ubi_mk, if_true, if_false, f_X8_mean_b40, f_X8_mean_b39]
theorem of_toInt {x : Int32} (h0 : 0 ≤ x.toInt) : x = nI x.toInt.toNat := by
  apply Int32.toInt_inj.mp
  have := i_rng x
  rw [nI_toInt (by omega)]
  omega
theorem wa_fin : ∀ i, i < 21 → ∀ j, j < 21 → 0 < i → 0 < j → i ≠ j → gOK ((nI i * nI j).toInt64) ((umabs (nI i - nI j)).toInt64) = true := by decide +kernel
theorem wa_ok {a b : Int32} (ha : 0 < a.toInt ∧ a.toInt ≤ 20) (hb : 0 < b.toInt ∧ b.toInt ≤ 20) (h : ¬ a = b) : gOK ((a * b).toInt64) ((umabs (a - b)).toInt64) = true := by
  have ea := of_toInt (x := a) (by omega)
  have eb := of_toInt (x := b) (by omega)
  rw [ea, eb]
  refine wa_fin _ (by omega) _ (by omega) (by omega) (by omega) (fun q => h ?_)
  rw [ea, eb, q]
theorem touch_has {R : Nat → Int32} {t u : Nat} (h : sTouch R t u = true) : 0 < (R (13 + t)).toInt ∧ 0 < (R (13 + u)).toInt := by
  unfold sTouch at h
  simp only [Bool.and_eq_true] at h
  have h1 := h.1.1.2
  have h2 := h.1.2
  rw [has_int] at h1 h2
  exact ⟨of_decide_eq_true h1, of_decide_eq_true h2⟩
theorem op_wall : uop_wall uI := by
  intro m a1 a2 a3 ⟨s, hc, hr, hv⟩
  have hT5 := vI_T hc
  have hV8 := vI_V hc
  by_cases h1 : ∃ v, v < qT s ∧ a1 = nI v
  · obtain ⟨t1, ht1, rfl⟩ := h1
    by_cases h2 : ∃ v, v < qT s ∧ a2 = nI v
    · obtain ⟨t2, ht2, rfl⟩ := h2
      by_cases h3 : 0 ≤ a3 ∧ a3 ≤ 1
      · skip
        refine Or.inl (wrapI (fr := fun M => f_X8_wall M (nI t1) (nI t2) a3) hc hr hv ?_)
        have ht5 : t1 < 5 := by omega
        have hu5 : t2 < 5 := by omega
        cases hh : sTouch (qR s) t1 t2
        · refine ⟨-1, m, ?_, cK_rf hc, fun M hM => ?_⟩
          · simp (decide := true) (disch := omega) only [f_X7_wall, e_ten_t hc.1.1.2.2.2.1 (show qT s ≤ 8 by omega) ht1, e_ten_t hc.1.1.2.2.2.1 (show qT s ≤ 8 by omega) ht2, e_need_t h3, ubx_l, ubi_mk, if_true, if_false, ugd_t, e_touching ht5, hc.2.1, bits_bit (sTouch (qR s) t1) (show 5 ≤ 32 by omega) hu5, hh, bi_f]
          · obtain ⟨m2, e, k, hR2, h0⟩ := r_take' (rI_K hM (z0_K M)) (z0_0 M)
            have hM0 := rI_K hM (z0_K M)
            have hm := rI_K hM0 k
            have hv2 : vR (qT s) (cv (m2 54)) := by rw [hR2]; exact hv.2.1.1
            refine ⟨m2, ?_, rK_tr (z0_K M) k, h0⟩
            show ubi (f_X8_isTenant (z0 (M)) (nI t1) 1) _ = _
            simp (decide := true) (disch := omega) only [r_ten_t hM0.1.1.2.2.2.1 (show qT s ≤ 8 by omega) ht1 (z0_0 _), r_ten_t hM0.1.1.2.2.2.1 (show qT s ≤ 8 by omega) ht2 (z0_0 _), r_wit_t h3, ubi_mk, r_may_t (z0_0 _), if_true, if_false, ugd_t, f_X8_wall_b38, e, r_touch hv2 ht5 hu5, hR2, hh, bi_f]
        · obtain ⟨g1, g2⟩ := touch_has hh
          by_cases he : qR s (13 + t1) = qR s (13 + t2)
          · refine ⟨a3, m, ?_, cK_rf hc, fun M hM => ?_⟩
            · simp (decide := true) (disch := omega) only [f_X7_wall, e_ten_t hc.1.1.2.2.2.1 (show qT s ≤ 8 by omega) ht1, e_ten_t hc.1.1.2.2.2.1 (show qT s ≤ 8 by omega) ht2, e_need_t h3, ubx_l, ubi_mk, if_true, if_false, ugd_t, e_touching ht5, hc.2.1, bits_bit (sTouch (qR s) t1) (show 5 ≤ 32 by omega) hu5, hh, bi_t, lit_add, uin_n, nI_clamp, he, f_X7_wall_b93]
            · obtain ⟨m2, e, k, hR2, h0⟩ := r_take' (rI_K hM (z0_K M)) (z0_0 M)
              have hM0 := rI_K hM (z0_K M)
              have hm := rI_K hM0 k
              have hv2 : vR (qT s) (cv (m2 54)) := by rw [hR2]; exact hv.2.1.1
              refine ⟨m2, ?_, rK_tr (z0_K M) k, h0⟩
              show ubi (f_X8_isTenant (z0 (M)) (nI t1) 1) _ = _
              simp (decide := true) (disch := omega) only [r_ten_t hM0.1.1.2.2.2.1 (show qT s ≤ 8 by omega) ht1 (z0_0 _), r_ten_t hM0.1.1.2.2.2.1 (show qT s ≤ 8 by omega) ht2 (z0_0 _), r_wit_t h3, ubi_mk, r_may_t (z0_0 _), if_true, if_false, ugd_t, f_X8_wall_b38, e, r_touch hv2 ht5 hu5, hR2, hh, bi_t, lit_add, uin_n, nI_clamp, c_si m2 ht5, c_si m2 hu5, he, f_X8_wall_b108]
          · have hg := wa_ok ⟨g1, ((hv.2.1.1.2.1 t1 ht5).1).2⟩ ⟨g2, ((hv.2.1.1.2.1 t2 hu5).1).2⟩ he
            refine ⟨(lrF ((qR s (13 + t1) * qR s (13 + t2)).toInt64) ((umabs (qR s (13 + t1) - qR s (13 + t2))).toInt64) a3).toInt32, m, ?_, cK_rf hc, fun M hM => ?_⟩
            · simp (decide := true) (disch := omega) only [f_X7_wall, e_ten_t hc.1.1.2.2.2.1 (show qT s ≤ 8 by omega) ht1, e_ten_t hc.1.1.2.2.2.1 (show qT s ≤ 8 by omega) ht2, e_need_t h3, ubx_l, ubi_mk, if_true, if_false, ugd_t, e_touching ht5, hc.2.1, bits_bit (sTouch (qR s) t1) (show 5 ≤ 32 by omega) hu5, hh, bi_t, lit_add, uin_n, nI_clamp, he, f_X7_wall_b93, e_least a3 hg]
            · obtain ⟨m2, e, k, hR2, h0⟩ := r_take' (rI_K hM (z0_K M)) (z0_0 M)
              have hM0 := rI_K hM (z0_K M)
              have hm := rI_K hM0 k
              have hv2 : vR (qT s) (cv (m2 54)) := by rw [hR2]; exact hv.2.1.1
              refine ⟨m2, ?_, rK_tr (z0_K M) k, h0⟩
              show ubi (f_X8_isTenant (z0 (M)) (nI t1) 1) _ = _
              simp (decide := true) (disch := omega) only [r_ten_t hM0.1.1.2.2.2.1 (show qT s ≤ 8 by omega) ht1 (z0_0 _), r_ten_t hM0.1.1.2.2.2.1 (show qT s ≤ 8 by omega) ht2 (z0_0 _), r_wit_t h3, ubi_mk, r_may_t (z0_0 _), if_true, if_false, ugd_t, f_X8_wall_b38, e, r_touch hv2 ht5 hu5, hR2, hh, bi_t, lit_add, uin_n, nI_clamp, c_si m2 ht5, c_si m2 hu5, he, f_X8_wall_b108, r_size, r_least a3 hg]
      · refine Or.inr (Or.inr ⟨tI m, tR (z0 (tI m)) 2 1, 0, ?_, ?_, tR_0, throwI hc hr hv 2⟩)
        · simp only [f_X7_wall, e_ten_t hc.1.1.2.2.2.1 (show qT s ≤ 8 by omega) ht1, e_ten_t hc.1.1.2.2.2.1 (show qT s ≤ 8 by omega) ht2, e_need_f h3, ubx_l, ubx_r]
        · have hm := rI_tI hr
          show ubi (f_X8_isTenant (z0 (tI m)) (nI t1) 1) _ = _
          simp (decide := true) (disch := omega) only [r_ten_t hm.1.1.2.2.2.1 (show qT s ≤ 8 by omega) ht1 (z0_0 _), r_ten_t hm.1.1.2.2.2.1 (show qT s ≤ 8 by omega) ht2 (z0_0 _), r_wit_f h3, r_may_f1 (z0_0 _) i2_0, ubi_mk, if_true, if_false, f_X8_wall_b38]
    · refine Or.inr (Or.inl ⟨tN m, tR (z0 (tN m)) 1 0, 0, ?_, ?_, tR_0, throwN hc hr hv 1⟩)
      · simp only [f_X7_wall, e_ten_t hc.1.1.2.2.2.1 (show qT s ≤ 8 by omega) ht1, e_ten_f hc.1.1.2.2.2.1 (show qT s ≤ 8 by omega) h2, ubx_l, ubx_r]
      · have hm := rI_tN hr
        show ubi (f_X8_isTenant (z0 (tN m)) (nI t1) 1) _ = _
        simp (decide := true) (disch := omega) only [r_ten_t hm.1.1.2.2.2.1 (show qT s ≤ 8 by omega) ht1 (z0_0 _), r_ten_f hm.1.1.2.2.2.1 (show qT s ≤ 8 by omega) h2 (z0_0 _) i1_0, ubi_mk, if_true, if_false, f_X8_wall_b38]
  · refine Or.inr (Or.inl ⟨tN m, tR (z0 (tN m)) 1 0, 0, ?_, ?_, tR_0, throwN hc hr hv 1⟩)
    · simp only [f_X7_wall, e_ten_f hc.1.1.2.2.2.1 (show qT s ≤ 8 by omega) h1, ubx_l, ubx_r]
    · have hm := rI_tN hr
      show ubi (f_X8_isTenant (z0 (tN m)) a1 1) _ = _
      simp (decide := true) (disch := omega) only [r_ten_f hm.1.1.2.2.2.1 (show qT s ≤ 8 by omega) h1 (z0_0 _) i1_0, ubi_mk, if_true, if_false, f_X8_wall_b38]
/-! SURE -/
def winB (k : Nat) : Bool := decide (k % 7 ≠ 0) && decide (k % 7 ≠ 2)
theorem win_step {k : Nat} (hk : 4 ≤ k) : winB k = (!winB (k - 1) || !winB (k - 3) || !winB (k - 4)) := by
  unfold winB
  rcases (show k % 7 = 0 ∨ k % 7 = 1 ∨ k % 7 = 2 ∨ k % 7 = 3 ∨ k % 7 = 4 ∨ k % 7 = 5 ∨ k % 7 = 6 by omega) with h | h | h | h | h | h | h
  · rw [h, show (k - 1) % 7 = 6 by omega, show (k - 3) % 7 = 4 by omega, show (k - 4) % 7 = 3 by omega]
    decide
  · rw [h, show (k - 1) % 7 = 0 by omega]
    simp
  · rw [h, show (k - 1) % 7 = 1 by omega, show (k - 3) % 7 = 6 by omega, show (k - 4) % 7 = 5 by omega]
    decide
  · rw [h, show (k - 1) % 7 = 2 by omega]
    simp
  · rw [h, show (k - 4) % 7 = 0 by omega]
    simp
  · rw [h, show (k - 3) % 7 = 2 by omega]
    simp
  · rw [h, show (k - 4) % 7 = 2 by omega]
    simp
theorem nI_mod {a b : Nat} (ha : a < 2 ^ 31) (hb : b < 2 ^ 31) : nI a % nI b = nI (a % b) := by
  apply Int32.toInt_inj.mp
  rw [Int32.toInt_mod, nI_toInt ha, nI_toInt hb, nI_toInt (by have := Nat.mod_le a b; omega)]
  exact (Int.ofNat_tmod a b).symm
theorem nI_div {a b : Nat} (ha : a < 2 ^ 31) (hb : b < 2 ^ 31) (h0 : 0 < b) : nI a / nI b = nI (a / b) := by
  apply Int32.toInt_inj.mp
  have h1 : a / b ≤ a := Nat.div_le_self a b
  rw [Int32.toInt_div, nI_toInt ha, nI_toInt hb, nI_toInt (by omega)]
  rw [show (a : Int).tdiv b = ((a / b : Nat) : Int) from (Int.ofNat_tdiv a b).symm]
  generalize a / b = q at h1 ⊢
  exact Int.bmod_eq_of_le (by omega) (by omega)
def sureA (n : Nat) : Int32 := if winB n = true then (if winB (n - 1) = true then (if n ≤ 2 then 4 else if winB (n - 3) = true then 4 else 3) else 1) else -1
theorem r_sure {M : Um} {n : Nat} (hn : n ≤ 999) : ∃ S, f_X8_sure_b26 UF M (nI n) 0 = some (um_wa M 61 S, sureA n) := by
  have := lp_rel (fun f (S : Nat → Int32) k => f_X8_sure_b26 f (um_wa M 61 S) (nI n) (nI k)) (n + 1) (fun k S => ∀ j, j < k → S j = bi (winB j)) (fun b => ∃ S, b = (um_wa M 61 S, sureA n)) ?_ ?_ (n + 1) 0 (M 61) UF (Nat.zero_add _) (by show n + 1 < 3000; omega) (fun j hj => absurd hj (Nat.not_lt_zero _))
  · rw [um_wa_id] at this
    obtain ⟨b, e1, S, e2⟩ := this
    subst e2
    exact ⟨S, e1⟩
  · intro f S k hk hP
    refine ⟨upd S k (bi (winB k)), ?_, fun j hj => ?_⟩
    · show f_X8_sure_b26 (f + 1) (um_wa M 61 S) (nI n) (nI k) = f_X8_sure_b26 f (um_wa M 61 (upd S k (bi (winB k)))) (nI n) (nI (k + 1))
      rw [f_X8_sure_b26, if_neg (nI_nlt (by omega) (by omega))]
      have hin : uin (nI k) 1000 = true := uin_n (by omega) (by omega)
      rcases (show k = 0 ∨ k = 1 ∨ k = 2 ∨ k = 3 ∨ 4 ≤ k by omega) with q | q | q | q | q
      · subst q
        simp (decide := true) (disch := omega) only [if_true, if_false, f_X8_sure_b51, f_X8_sure_b67, f_X8_sure_b87, f_X8_sure_b88, hin, ugd_t, ub01_0, nI_clamp, um_w_def, um_wa_s, um_wa_wa, nI_1]
        rfl
      · subst q
        have h0 := hP 0 (by omega)
        simp (decide := true) (disch := omega) only [if_true, if_false, sub_lit, uin_n, Nat.sub_self, h0, f_X8_sure_b83, f_X8_sure_b88, hin, ugd_t, ub01_1, nI_clamp, um_w_def, um_wa_s, um_wa_wa, nI_1]
        rfl
      · subst q
        have h0 := hP 1 (by omega)
        simp (decide := true) (disch := omega) only [if_true, if_false, sub_lit, uin_n, show 2 - 1 = 1 from rfl, h0, f_X8_sure_b51, f_X8_sure_b67, f_X8_sure_b87, f_X8_sure_b88, hin, ugd_t, ub01_0, nI_clamp, um_w_def, um_wa_s, um_wa_wa, nI_1]
        rfl
      · subst q
        have h0 := hP 2 (by omega)
        simp (decide := true) (disch := omega) only [if_true, if_false, sub_lit, uin_n, show 3 - 1 = 2 from rfl, h0, f_X8_sure_b83, f_X8_sure_b88, hin, ugd_t, ub01_1, nI_clamp, um_w_def, um_wa_s, um_wa_wa, nI_1]
        rfl
      · have g1 := hP (k - 1) (by omega)
        have g3 := hP (k - 3) (by omega)
        have g4 := hP (k - 4) (by omega)
        have p1 : ¬ nI k ≤ 0 := nI_nle (by omega) (by omega)
        have p2 : ¬ nI k ≤ 2 := nI_ge (a := 2) (by omega) (by omega)
        have p3 : ¬ nI k ≤ 3 := nI_ge (a := 3) (by omega) (by omega)
        rw [win_step q]
        simp (disch := omega) only [if_neg p1, if_neg p2, if_neg p3, sub_lit, uin_n, g1, g3, g4, ite_bi0, f_X8_sure_b51, f_X8_sure_b67, f_X8_sure_b83, f_X8_sure_b87, f_X8_sure_b88, hin, ugd_t, ub01_0, ub01_1, nI_clamp, um_w_def, um_wa_s, um_wa_wa, nI_1]
        cases winB (k - 1) <;> cases winB (k - 3) <;> cases winB (k - 4) <;> rfl
    · unfold upd
      by_cases q : j = k
      · rw [if_pos q, q]
      · rw [if_neg q]
        exact hP j (by omega)
  · intro f S hP
    refine ⟨(um_wa M 61 S, sureA n), ?_, S, rfl⟩
    show f_X8_sure_b26 (f + 1) (um_wa M 61 S) (nI n) (nI (n + 1)) = _
    rw [f_X8_sure_b26, if_pos (nI_lt (by omega) (by omega)), uin_n (by omega) (by omega), ugd_t, nI_clamp (by omega), um_wa_s, hP n (by omega), ite_bi0]
    unfold sureA
    by_cases q : winB n = true
    · have hn0 : n ≠ 0 := fun e => by
        rw [e] at q
        revert q
        decide
      rw [if_pos q, if_pos q, sub_lit (k := 1) (by show 1 ≤ n; omega), uin_n (by show n - 1 < 1000; omega) (by show n - 1 < 2 ^ 31; omega), ugd_t, nI_clamp (by show n - 1 < 2 ^ 31; omega)]
      rw [show S (n - 1) = bi (winB (n - 1)) from hP (n - 1) (by omega), ite_bi0]
      by_cases q1 : winB (n - 1) = true
      · rw [if_pos q1, if_pos q1]
        by_cases q2 : n ≤ 2
        · rw [if_pos q2, if_pos (leq_lit (k := 2) q2 (by decide))]
          rfl
        · rw [if_neg q2, if_neg (show ¬ nI n ≤ 2 from nI_ge (a := 2) (b := n) (by omega) (by omega)), sub_lit (k := 3) (by show 3 ≤ n; omega), uin_n (by show n - 3 < 1000; omega) (by show n - 3 < 2 ^ 31; omega), ugd_t, nI_clamp (by show n - 3 < 2 ^ 31; omega)]
          rw [show S (n - 3) = bi (winB (n - 3)) from hP (n - 3) (by omega), ite_bi0]
          split <;> rfl
      · rw [if_neg q1, if_neg q1]
        rfl
    · rw [if_neg q, if_neg q]
theorem sure_eq (n : Nat) : us_half (n % 7) = sureA n := by
  unfold sureA winB
  rcases (show n % 7 = 0 ∨ n % 7 = 1 ∨ n % 7 = 2 ∨ n % 7 = 3 ∨ n % 7 = 4 ∨ n % 7 = 5 ∨ n % 7 = 6 by omega) with h | h | h | h | h | h | h
  · rw [h]
    simp [us_half]
  · rw [h, show (n - 1) % 7 = 0 by omega]
    simp [us_half]
  · rw [h]
    simp [us_half]
  · rw [h, show (n - 1) % 7 = 2 by omega]
    simp [us_half]
  · rw [h, show (n - 1) % 7 = 3 by omega, show (n - 3) % 7 = 1 by omega, if_neg (show ¬ n ≤ 2 by omega)]
    decide
  · rw [h, show (n - 1) % 7 = 4 by omega, show (n - 3) % 7 = 2 by omega, if_neg (show ¬ n ≤ 2 by omega)]
    decide
  · rw [h, show (n - 1) % 7 = 5 by omega, show (n - 3) % 7 = 3 by omega, if_neg (show ¬ n ≤ 2 by omega)]
    decide
theorem op_sure : uop_sure uI := by
  intro m a1 ⟨s, hc, hr, hv⟩
  have hT5 := vI_T hc
  have hV8 := vI_V hc
  by_cases h1 : 0 ≤ a1 ∧ a1 ≤ 999
  · skip
    refine Or.inl (wrapI (fr := fun M => f_X8_sure M a1) hc hr hv ?_)
    obtain ⟨n, hn, rfl⟩ := lit_cases 999 (by omega) h1
    have e7 : nI n % 7 = nI (n % 7) := nI_mod (b := 7) (by omega) (by omega)
    refine ⟨sureA n, m, ?_, cK_rf hc, fun M hM => ?_⟩
    · simp (decide := true) (disch := omega) only [f_X7_sure, e_need_t h1, ubx_l, ubi_mk, if_true, if_false, ugd_t, e7, uin_n, nI_clamp, sure_eq]
    · obtain ⟨S, e1⟩ := r_sure (M := z0 M) hn
      refine ⟨um_wa (z0 M) 61 S, ?_, rK_tr (z0_K M) ⟨fun c _ _ _ _ _ _ _ h => um_wa_n h, fun k _ _ => by rw [um_wa_n (by omega)]⟩, by rw [um_wa_n (by omega)]; exact z0_0 M⟩
      show ubi (f_X8_within (z0 M) (nI n) 0 999) _ = _
      simp (decide := true) (disch := omega) only [r_wit_t h1, ubi_mk, r_may_t (z0_0 _), if_true, if_false, ugd_t, f_X8_sure_b142, e1]
  · refine Or.inr ⟨tI m, tR (z0 (tI m)) 1 1, 0, ?_, ?_, tR_0, throwI hc hr hv 1⟩
    · simp only [f_X7_sure, e_need_f h1, ubx_l, ubx_r]
    · have hm := rI_tI hr
      show ubi (f_X8_within (z0 (tI m)) a1 0 999) _ = _
      simp (decide := true) (disch := omega) only [r_wit_f h1, r_may_f1 (z0_0 _) i1_0, ubi_mk, if_true, if_false, f_X8_sure_b142]
