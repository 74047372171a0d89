/-! SPANS -/
theorem burst_cnt (p : Nat → Bool) (R : Nat → Int32) : ∃ j, j ≤ 5 ∧ rBurst p R 2 = R 2 + nI j := by
  refine lp_ind0 (f := buS p) (fun k S => ∃ j, j ≤ k ∧ S 2 = R 2 + nI j) 5 R ⟨0, Nat.le_refl _, by rw [show nI 0 = 0 from rfl, Int32.add_zero]⟩ ?_
  intro k S hk ⟨j, hj, hS⟩
  unfold buS
  by_cases h : p k = true
  · rw [if_pos h]
    refine ⟨j + 1, by omega, ?_⟩
    unfold burst1
    rw [upd_s, hS, Int32.add_assoc, nI_1]
  · rw [if_neg h]
    exact ⟨j, by omega, hS⟩
theorem move_2 (w : Int32) (R : Nat → Int32) : rMove w R 2 = R 2 := by
  refine lp_ind0 (f := mvS w) (fun _ S => S 2 = R 2) 5 R rfl ?_
  intro k S hk hS
  unfold mvS
  by_cases h : sHas S k = true
  · rw [if_pos h, upd_n (by omega)]
    exact hS
  · rw [if_neg h]
    exact hS
theorem blow_2 (R : Nat → Int32) (t : Nat) (n : Int32) : rBlow R t n 2 = R 2 := by
  unfold rBlow
  by_cases h : sCan R t n = true
  · rw [if_pos h]
    unfold putB
    rw [upd_n (by omega), upd_n (by omega), upd_n (by omega), upd_n (by omega), upd_n (by omega)]
  · rw [if_neg h]
theorem drift_2 (w : Int32) (R : Nat → Int32) : ∃ j, j ≤ 5 ∧ rDrift w R 2 = R 2 + nI j := by
  unfold rDrift
  by_cases h : bits 5 (sHas R) = 0
  · rw [if_pos h]
    exact ⟨0, by omega, by rw [show nI 0 = 0 from rfl, Int32.add_zero]⟩
  · rw [if_neg h, move_2]
    exact burst_cnt _ _
theorem afR_2 (T : Nat) (q : Int32) (p : (Nat → Int32) × Int32) : ∃ j, j ≤ 5 ∧ afR T q p 2 = p.1 2 + nI j := by
  unfold afR
  by_cases h : T = 0
  · rw [if_pos h]
    exact ⟨0, by omega, by rw [show nI 0 = 0 from rfl, Int32.add_zero]⟩
  · rw [if_neg h]
    obtain ⟨j, h1, h2⟩ := drift_2 (if q ≤ nI (dN_ (nx (nx (nx p.2))) % 16) then -(1 + nI (dN_ (nx (nx (nx (nx p.2)))) % 20)) else 1 + nI (dN_ (nx (nx (nx (nx p.2)))) % 20)) (rBlow p.1 (dN_ (nx p.2) % T) (1 + nI (dN_ (nx (nx p.2)) % 20)))
    exact ⟨j, h1, by rw [h2, blow_2]⟩
theorem br_2 (s : Ss) (R : Nat → Int32) : ∃ j, j ≤ 5 ∧ sBr s R 2 = R 2 + nI j := by
  unfold sBr rBreathe
  rw [upd_n (by omega)]
  obtain ⟨j, h1, h2⟩ := burst_cnt (sDead (qX s) (qW s) (qV s) (qA s) (qn s) (qz s) (rAge R)) (rAge R)
  exact ⟨j, h1, by rw [h2, rAge_at R (by omega)]⟩
theorem afS_2 (s : Ss) (q : Int32) (p : (Nat → Int32) × Int32) : ∃ j, j ≤ 10 ∧ (afS s q p).1 2 = p.1 2 + nI j := by
  obtain ⟨i, h1, h2⟩ := afR_2 (qT s) q p
  obtain ⟨j, h3, h4⟩ := br_2 s (afR (qT s) q p)
  have e : (afS s q p).1 = sBr s (afR (qT s) q p) := by rw [afS]
  exact ⟨i + j, by omega, by rw [e, h4, h2, Int32.add_assoc, nI_add]⟩
theorem afI_2 (s : Ss) (q : Int32) : ∀ (k : Nat) (p : (Nat → Int32) × Int32), ∃ j, j ≤ 10 * k ∧ (afI s q k p).1 2 = p.1 2 + nI j
  | 0, p => ⟨0, by omega, by rw [show nI 0 = 0 from rfl, Int32.add_zero, afI]⟩
  | k + 1, p => by
    obtain ⟨i, h1, h2⟩ := afS_2 s q p
    obtain ⟨j, h3, h4⟩ := afI_2 s q k (afS s q p)
    exact ⟨i + j, by omega, by rw [afI, h4, h2, Int32.add_assoc, nI_add]⟩
def vb (s : Ss) (q : Int32) (n : Nat) (x : Int32) : Nat := ((afI s q n (qR s, x)).1 2 - qR s 2).toInt.toNat
theorem vb_ok (s : Ss) (q : Int32) {n : Nat} (hn : n ≤ 48) (x : Int32) : (afI s q n (qR s, x)).1 2 - qR s 2 = nI (vb s q n x) ∧ vb s q n x ≤ 480 := by
  obtain ⟨j, h1, h2⟩ := afI_2 s q n (qR s, x)
  have e : (afI s q n (qR s, x)).1 2 - qR s 2 = nI j := by
    rw [h2]
    show qR s 2 + nI j - qR s 2 = nI j
    rw [Int32.add_comm, Int32.add_sub_cancel]
  unfold vb
  rw [e, nI_toInt (by omega)]
  exact ⟨by congr 1, by omega⟩
def mnF (v : Nat → Nat) : Nat → Nat
  | 0 => 0
  | i + 1 => if i = 0 then v 0 else min (mnF v i) (v i)
def mxF (v : Nat → Nat) : Nat → Nat
  | 0 => 0
  | i + 1 => max (mxF v i) (v i)
def hvF (h : Nat → Bool) : Nat → Nat
  | 0 => 0
  | i + 1 => hvF h i + if h i = true then 1 else 0
theorem mnF_le {v : Nat → Nat} (hv : ∀ i, v i ≤ 480) : ∀ i, mnF v i ≤ 480
  | 0 => Nat.zero_le _
  | i + 1 => by
    have h1 := mnF_le hv i
    have h2 := hv i
    have h3 := hv 0
    rw [mnF]
    split <;> omega
theorem mxF_le {v : Nat → Nat} (hv : ∀ i, v i ≤ 480) : ∀ i, mxF v i ≤ 480
  | 0 => Nat.zero_le _
  | i + 1 => by
    have h1 := mxF_le hv i
    have h2 := hv i
    rw [mxF]
    omega
theorem mxn {a b : Nat} (ha : a < 2 ^ 31) (hb : b < 2 ^ 31) : ummax (nI a) (nI b) = nI (max a b) := ummax_n ha hb
def spA (y : Int32) (a b c : Nat) : Int32 := if y = 0 then nI a else if y = 1 then nI b else nI c
section SPAN
variable {m : Um} {s : Ss} {q : Int32}
theorem e_spanL (hc : cI m s) (hv : vI s) {n N t : Nat} (hn : n ≤ 48) (hN : N ≤ 10) (hN0 : 0 < N) (ht : t < 5) (x y : Int32) : ∀ (j i fuel : Nat) (m1 : Um), i + j = N → j < fuel → cK m m1 → ∃ m2, f_X7_span_b53 fuel m1 x (nI N) q (nI n) y (nI t) (if i = 0 then 2147483647 else nI (mnF (fun k => vb s q n (x + nI k)) i)) (nI (mxF (fun k => vb s q n (x + nI k)) i)) (nI (hvF (fun k => sHas (afI s q n (qR s, x + nI k)).1 t) i)) (nI i) = some (m2, .inl (spA y (mnF (fun k => vb s q n (x + nI k)) N) (mxF (fun k => vb s q n (x + nI k)) N) (hvF (fun k => sHas (afI s q n (qR s, x + nI k)).1 t) N))) ∧ cK m m2
  | j, i, 0, m1, _, hf, _ => absurd hf (Nat.not_lt_zero _)
  | 0, i, fuel + 1, m1, hk, _, h => by
    have hi : i = N := by omega
    subst hi
    refine ⟨m1, ?_, h⟩
    rw [f_X7_span_b53, if_pos (nI_le (Nat.le_refl _) (by omega)), if_neg (show ¬ i = 0 by omega)]
    unfold f_X7_span_b158 spA
    by_cases q0 : y = 0
    · rw [if_pos q0, if_pos q0]
    · rw [if_neg q0, if_neg q0]
      by_cases q1 : y = 1
      · rw [if_pos q1, if_pos q1]
      · rw [if_neg q1, if_neg q1]
  | j + 1, i, fuel + 1, m1, hk, hf, h => by
    obtain ⟨m2, e2, k2, g24, g26⟩ := e_after (q := q) (cI_K hc hv h) hv (x + nI i) hn
    have hv0 := vb_ok s q hn (x + nI i)
    have hle := mnF_le (v := fun k => vb s q n (x + nI k)) (fun k => (vb_ok s q hn (x + nI k)).2) i
    have hle2 := mxF_le (v := fun k => vb s q n (x + nI k)) (fun k => (vb_ok s q hn (x + nI k)).2) i
    have ih := e_spanL hc hv hn hN hN0 ht x y j (i + 1) fuel m2 (by omega) (by omega) (cK_tr h k2)
    have emin : ummin (if i = 0 then 2147483647 else nI (mnF (fun k => vb s q n (x + nI k)) i)) (nI (vb s q n (x + nI i))) = (if i + 1 = 0 then 2147483647 else nI (mnF (fun k => vb s q n (x + nI k)) (i + 1))) := by
      rw [if_neg (show ¬ i + 1 = 0 by omega), mnF]
      by_cases h0 : i = 0
      · subst h0
        rw [if_pos rfl, if_pos rfl, show (2147483647 : Int32) = nI 2147483647 from rfl, mn_n (by omega) (by omega), Nat.min_eq_right (by omega)]
      · rw [if_neg h0, if_neg h0, mn_n (by omega) (by omega)]
    have emax : ummax (nI (mxF (fun k => vb s q n (x + nI k)) i)) (nI (vb s q n (x + nI i))) = nI (mxF (fun k => vb s q n (x + nI k)) (i + 1)) := by
      rw [mxF, mxn (by omega) (by omega)]
    rw [f_X7_span_b53, if_neg (nI_ge (by omega) (by omega)), e2, ubi_mk, e_has ht, ubi_mk, show (25 + 1 : Nat) = 26 from rfl, g24, g26, hv0.1, emin, emax, ite_bi0]
    unfold f_X7_span_b128
    rw [nI_1, nI_1]
    rw [hvF] at ih
    by_cases hh : sHas (afI s q n (qR s, x + nI i)).1 t = true
    · rw [if_pos hh]
      rw [if_pos hh] at ih
      exact ih
    · rw [if_neg hh, Int32.add_zero]
      rw [if_neg hh] at ih
      exact ih
theorem r_spanL (hr : rI m s) (hv : vI s) (hT : qT s ≤ 5) {n N t : Nat} (hn : n ≤ 48) (hN : N ≤ 10) (hN0 : 0 < N) (ht : t < 5) (x y : Int32) : ∀ (j i fuel : Nat) (m1 : Um), i + j = N → j < fuel → rK m m1 → m1 38 0 = m 38 0 → ∃ m2, f_X8_span_b77 fuel m1 x (nI N) q (nI n) y (nI t) (if i = 0 then -1 else nI (mnF (fun k => vb s q n (x + nI k)) i)) (nI (mxF (fun k => vb s q n (x + nI k)) i)) (nI (hvF (fun k => sHas (afI s q n (qR s, x + nI k)).1 t) i)) (nI i) = some (m2, spA y (mnF (fun k => vb s q n (x + nI k)) N) (mxF (fun k => vb s q n (x + nI k)) N) (hvF (fun k => sHas (afI s q n (qR s, x + nI k)).1 t) N)) ∧ rK m m2 ∧ m2 38 0 = m 38 0
  | j, i, 0, m1, _, hf, _, _ => absurd hf (Nat.not_lt_zero _)
  | 0, i, fuel + 1, m1, hk, _, h, h0 => by
    have hi : i = N := by omega
    subst hi
    refine ⟨m1, ?_, h, h0⟩
    rw [f_X8_span_b77, if_pos (nI_le (Nat.le_refl _) (by omega)), if_neg (show ¬ i = 0 by omega)]
    unfold f_X8_span_b201 spA
    by_cases q0 : y = 0
    · rw [if_pos q0, if_pos q0]
    · rw [if_neg q0, if_neg q0]
      by_cases q1 : y = 1
      · rw [if_pos q1, if_pos q1]
      · rw [if_neg q1, if_neg q1]
  | j + 1, i, fuel + 1, m1, hk, hf, h, h0 => by
    obtain ⟨m2, e2, k2, l0, g53, g54⟩ := r_after (q := q) (rI_K hr h) hv hT (x + nI i) hn
    have hv0 := vb_ok s q hn (x + nI i)
    have hle := mnF_le (v := fun k => vb s q n (x + nI k)) (fun k => (vb_ok s q hn (x + nI k)).2) i
    have hle2 := mxF_le (v := fun k => vb s q n (x + nI k)) (fun k => (vb_ok s q hn (x + nI k)).2) i
    have ih := r_spanL hr hv hT hn hN hN0 ht x y j (i + 1) fuel m2 (by omega) (by omega) (rK_tr h k2) (l0.trans h0)
    rw [if_neg (show ¬ i + 1 = 0 by omega)] at ih
    have b147 : ∀ z : Int32, z = nI (mnF (fun k => vb s q n (x + nI k)) (i + 1)) → f_X8_span_b147 (f_X8_span_b77 fuel) m2 x (nI N) q (nI n) y (nI t) z (nI (hvF (fun k => sHas (afI s q n (qR s, x + nI k)).1 t) i)) (nI i) (nI (mxF (fun k => vb s q n (x + nI k)) (i + 1))) = f_X8_span_b77 fuel m2 x (nI N) q (nI n) y (nI t) (nI (mnF (fun k => vb s q n (x + nI k)) (i + 1))) (nI (mxF (fun k => vb s q n (x + nI k)) (i + 1))) (nI (hvF (fun k => sHas (afI s q n (qR s, x + nI k)).1 t) (i + 1))) (nI (i + 1)) := by
      intro z hz
      subst hz
      unfold f_X8_span_b147 f_X8_span_b169
      rw [lit_add, uin_n (by show 10 + t < 28; omega) (by show 10 + t < 2 ^ 31; omega), ugd_t, nI_clamp (by show 10 + t < 2 ^ 31; omega), nI_1, nI_1, Int32.add_zero, hvF]
      rw [show m2 54 (OfNat.ofNat 10 + t) = cv (m2 54) (13 + t) from c_si m2 ht, g54]
      by_cases hh : sHas (afI s q n (qR s, x + nI i)).1 t = true
      · rw [if_pos hh, if_neg (by
          unfold sHas at hh
          simpa using hh)]
      · rw [if_neg hh, if_pos (by
          unfold sHas at hh
          simpa using hh)]
        rfl
    have b131 : ∀ z : Int32, z = nI (mnF (fun k => vb s q n (x + nI k)) (i + 1)) → f_X8_span_b131 (f_X8_span_b77 fuel) m2 x (nI N) q (nI n) y (nI t) (nI (mxF (fun k => vb s q n (x + nI k)) i)) (nI (hvF (fun k => sHas (afI s q n (qR s, x + nI k)).1 t) i)) (nI i) (nI (vb s q n (x + nI i))) z = f_X8_span_b77 fuel m2 x (nI N) q (nI n) y (nI t) (nI (mnF (fun k => vb s q n (x + nI k)) (i + 1))) (nI (mxF (fun k => vb s q n (x + nI k)) (i + 1))) (nI (hvF (fun k => sHas (afI s q n (qR s, x + nI k)).1 t) (i + 1))) (nI (i + 1)) := by
      intro z hz
      rw [← b147 z hz]
      unfold f_X8_span_b131
      rw [ite_p (nI_le' (by omega) (by omega))]
      by_cases hq : vb s q n (x + nI i) ≤ mxF (fun k => vb s q n (x + nI k)) i
      · rw [if_pos hq, show mxF (fun k => vb s q n (x + nI k)) (i + 1) = mxF (fun k => vb s q n (x + nI k)) i by rw [mxF]; omega]
      · rw [if_neg hq, show mxF (fun k => vb s q n (x + nI k)) (i + 1) = vb s q n (x + nI i) by rw [mxF]; omega]
    rw [f_X8_span_b77, if_neg (nI_ge (by omega) (by omega)), e2, ubi_mk, show m2 54 26 = cv (m2 54) 2 from rfl, show m2 53 26 = cv (m2 53) 2 from rfl, g53, g54, hv0.1]
    unfold f_X8_span_b124
    by_cases hi0 : i = 0
    · rw [if_pos hi0, if_pos rfl, b131 _ (by rw [mnF, if_pos hi0, hi0])]
      exact ih
    · rw [if_neg hi0, if_neg (fun e => (nI_ne1 (by omega)).mp e), ite_p (nI_le' (by omega) (by omega))]
      by_cases hq : mnF (fun k => vb s q n (x + nI k)) i ≤ vb s q n (x + nI i)
      · rw [if_pos hq, b131 _ (by rw [mnF, if_neg hi0, Nat.min_eq_left hq])]
        exact ih
      · rw [if_neg hq, b131 _ (by rw [mnF, if_neg hi0, Nat.min_eq_right (by omega)])]
        exact ih
end SPAN
theorem ge0_of1 {a b : Int32} (h : 1 ≤ a ∧ a ≤ b) : 0 ≤ a ∧ a ≤ b := ⟨by
  have := h.1
  rw [Int32.le_iff_toInt_le] at this ⊢
  rw [i_0]
  rw [i_1] at this
  omega, h.2⟩
theorem op_span : uop_span uI := by
  intro m a1 a2 a3 a4 a5 a6 ⟨s, hc, hr, hv⟩
  have hT5 := vI_T hc
  have hm := rI_tI hr
  have rf : f_X8_span_b54 (z0 (tI m)) a1 a2 a3 a4 a5 a6 = some (tR (z0 (tI m)) 1 1, 0) := by
    unfold f_X8_span_b54 f_X8_span_b55
    rw [r_may_f1 (z0_0 _) i1_0, ubi_mk, if_pos rfl]
  have rs : ∀ M, f_X8_span M a1 a2 a3 a4 a5 a6 = ubi (f_X8_within (z0 M) a2 1 10) (fun m1 r2 => if r2 = 0 then (f_X8_span_b54 m1 a1 a2 a3 a4 a5 a6) else (ubi (f_X8_isAfternoon m1 a3 a4) (fun m5 r6 => if r6 = 0 then (f_X8_span_b54 m5 a1 a2 a3 a4 a5 a6) else (ubi (f_X8_within m5 a5 0 2) (fun m9 r10 => if r10 = 0 then (f_X8_span_b54 m9 a1 a2 a3 a4 a5 a6) else (ubi (f_X8_within m9 a6 0 ((m9 38 18) - 1)) (fun m13 r14 => if r14 = 0 then (f_X8_span_b54 m13 a1 a2 a3 a4 a5 a6) else (f_X8_span_b55 m13 a1 a2 a3 a4 a5 a6 1)))))))) := fun M => rfl
  by_cases h2 : 1 ≤ a2 ∧ a2 ≤ 10
  · by_cases h3 : 0 ≤ a3 ∧ a3 ≤ 16
    · by_cases h4 : 1 ≤ a4 ∧ a4 ≤ 48
      · by_cases h5 : 0 ≤ a5 ∧ a5 ≤ 2
        · by_cases h6 : 0 ≤ a6 ∧ a6 ≤ nI (qT s) - 1
          · refine Or.inl (wrapI (fr := fun M => f_X8_span M a1 a2 a3 a4 a5 a6) hc hr hv ?_)
            obtain ⟨N, hN, rfl⟩ := lit_cases (x := a2) 10 (by omega) (ge0_of1 h2)
            obtain ⟨n, hn, rfl⟩ := lit_cases (x := a4) 48 (by omega) (ge0_of1 h4)
            obtain ⟨t, ht, rfl⟩ := (within_nI (by omega)).mp h6
            have hN0 : 0 < N := by
              have := h2.1
              rw [show (1 : Int32) = nI 1 from rfl, nI_le' (by omega) (by omega)] at this
              omega
            obtain ⟨m2, e2, k2⟩ := e_spanL (q := a3) hc hv hn hN hN0 (show t < 5 by omega) a1 a5 N 0 UF m (by omega) (by show N < 3000; omega) (cK_rf hc)
            refine ⟨spA a5 (mnF (fun k => vb s a3 n (a1 + nI k)) N) (mxF (fun k => vb s a3 n (a1 + nI k)) N) (hvF (fun k => sHas (afI s a3 n (qR s, a1 + nI k)).1 t) N), m2, ?_, k2, fun M hM => ?_⟩
            · unfold f_X7_span f_X7_needAfternoon
              rw [e_need_t h2, ubx_l, e_need_t h3, ubx_l, e_need_t h4, ubx_l, ubx_l, e_need_t h5, ubx_l, hc.1.1.2.2.2.1, e_need_t h6, ubx_l]
              exact e2
            · have hM0 := rI_K hM (z0_K M)
              obtain ⟨M2, f2, l2, l0⟩ := r_spanL (q := a3) hM0 hv hT5 hn hN hN0 (show t < 5 by omega) a1 a5 N 0 UF (z0 M) (by omega) (by show N < 3000; omega) (rK_rf _) rfl
              refine ⟨M2, ?_, rK_tr (z0_K M) l2, l0.trans (z0_0 M)⟩
              show f_X8_span M a1 (nI N) a3 (nI n) a5 (nI t) = _
              rw [rs, r_wit_t h2, ubi_mk, if_neg i1_0, r_isAf_t h3 h4, ubi_mk, if_neg i1_0, r_wit_t h5, ubi_mk, if_neg i1_0, hM0.1.1.2.2.2.1, r_wit_t h6, ubi_mk, if_neg i1_0]
              unfold f_X8_span_b55
              rw [r_may_t (z0_0 M), ubi_mk, if_neg i1_0]
              exact f2
          · refine Or.inr ⟨tI m, tR (z0 (tI m)) 1 1, 0, ?_, ?_, tR_0, throwI hc hr hv 1⟩
            · unfold f_X7_span f_X7_needAfternoon
              rw [e_need_t h2, ubx_l, e_need_t h3, ubx_l, e_need_t h4, ubx_l, ubx_l, e_need_t h5, ubx_l, hc.1.1.2.2.2.1, e_need_f h6, ubx_r]
            · rw [rs, r_wit_t h2, ubi_mk, if_neg i1_0, r_isAf_t h3 h4, ubi_mk, if_neg i1_0, r_wit_t h5, ubi_mk, if_neg i1_0, hm.1.1.2.2.2.1, r_wit_f h6, ubi_mk, if_pos rfl, rf]
        · refine Or.inr ⟨tI m, tR (z0 (tI m)) 1 1, 0, ?_, ?_, tR_0, throwI hc hr hv 1⟩
          · unfold f_X7_span f_X7_needAfternoon
            rw [e_need_t h2, ubx_l, e_need_t h3, ubx_l, e_need_t h4, ubx_l, ubx_l, e_need_f h5, ubx_r]
          · rw [rs, r_wit_t h2, ubi_mk, if_neg i1_0, r_isAf_t h3 h4, ubi_mk, if_neg i1_0, r_wit_f h5, ubi_mk, if_pos rfl, rf]
      · refine Or.inr ⟨tI m, tR (z0 (tI m)) 1 1, 0, ?_, ?_, tR_0, throwI hc hr hv 1⟩
        · unfold f_X7_span f_X7_needAfternoon
          rw [e_need_t h2, ubx_l, e_need_t h3, ubx_l, e_need_f h4, ubx_r, ubx_r]
        · rw [rs, r_wit_t h2, ubi_mk, if_neg i1_0, r_isAf_f (fun q => h4 q.2), ubi_mk, if_pos rfl, rf]
    · refine Or.inr ⟨tI m, tR (z0 (tI m)) 1 1, 0, ?_, ?_, tR_0, throwI hc hr hv 1⟩
      · unfold f_X7_span f_X7_needAfternoon
        rw [e_need_t h2, ubx_l, e_need_f h3, ubx_r, ubx_r]
      · rw [rs, r_wit_t h2, ubi_mk, if_neg i1_0, r_isAf_f (fun q => h3 q.1), ubi_mk, if_pos rfl, rf]
  · refine Or.inr ⟨tI m, tR (z0 (tI m)) 1 1, 0, ?_, ?_, tR_0, throwI hc hr hv 1⟩
    · unfold f_X7_span
      rw [e_need_f h2, ubx_r]
    · rw [rs, r_wit_f h2, ubi_mk, if_pos rfl, rf]
