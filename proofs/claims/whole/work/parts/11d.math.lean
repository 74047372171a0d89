theorem op_bubble : uop_bubble uI := by
  intro m a1 a2 ⟨s, hc, hr, hv⟩
  have hT5 := vI_T hc
  have hV8 := vI_V hc
  by_cases h1 : ∃ v, v < qT s ∧ a1 = nI v
  · obtain ⟨t, ht, rfl⟩ := h1
    have ht5 : t < 5 := by omega
    by_cases h2 : 0 ≤ a2 ∧ a2 ≤ 4
    · refine Or.inl (wrapI (fr := fun M => f_X8_bubble M (nI t) a2) hc hr hv ?_)
      cases hh : sHas (qR s) t
      · refine ⟨-1, m, ?_, cK_rf hc, fun M hM => ?_⟩
        · simp (decide := true) (disch := omega) only [f_X7_bubble, e_ten_t hc.1.1.2.2.2.1 (by omega) ht, e_need_t h2, ubx_l, e_has ht5, hc.2.1, hh, bi_f, ubi_mk, if_true]
        · obtain ⟨m2, e, k, hR2, h0⟩ := r_take' (rI_K hM (z0_K M)) (z0_0 M)
          have hM0 := rI_K hM (z0_K M)
          have hz := has_zero hv.2.1.1 ht5
          refine ⟨m2, ?_, rK_tr (z0_K M) k, h0⟩
          show ubi (f_X8_isTenant (z0 M) (nI t) 1) _ = _
          simp (decide := true) (disch := omega) only [r_ten_t hM0.1.1.2.2.2.1 (by omega) ht (z0_0 M), ubi_mk, r_wit_t h2, r_may_t (z0_0 M), e, if_true, if_false, ugd_t, lit_add, uin_n, nI_clamp, c_si m2 ht5, hR2, hz, hh]
      · obtain ⟨j, hj, rfl⟩ := lit_cases 4 (by omega) h2
        have hz := has_zero hv.2.1.1 ht5
        rcases (show j = 0 ∨ j = 1 ∨ j = 2 ∨ j = 3 ∨ j = 4 by omega) with rfl | rfl | rfl | rfl | rfl
        · refine ⟨qR s (13 + t), m, ?_, cK_rf hc, fun M hM => ?_⟩
          · simp (decide := true) (disch := omega) only [f_X7_bubble, e_ten_t hc.1.1.2.2.2.1 (by omega) ht, e_need_t h2, ubx_l, e_has ht5, hc.2.1, hh, bi_t, ubi_mk, if_true, if_false, ugd_t, lit_add, uin_n, nI_clamp]
          · obtain ⟨m2, e, k, hR2, h0⟩ := r_take' (rI_K hM (z0_K M)) (z0_0 M)
            have hM0 := rI_K hM (z0_K M)
            refine ⟨m2, ?_, rK_tr (z0_K M) k, h0⟩
            show ubi (f_X8_isTenant (z0 M) (nI t) 1) _ = _
            simp (decide := true) (disch := omega) only [r_ten_t hM0.1.1.2.2.2.1 (by omega) ht (z0_0 M), ubi_mk, r_wit_t h2, r_may_t (z0_0 M), e, if_true, if_false, ugd_t, lit_add, lit_mul, nI_add, Nat.reduceMul, Nat.reduceAdd, uin_n, nI_clamp, c_si m2 ht5, c_si m2 ht5, hR2, hz, hh, f_X8_bubble_b88]
        · refine ⟨qR s (18 + t), m, ?_, cK_rf hc, fun M hM => ?_⟩
          · simp (decide := true) (disch := omega) only [f_X7_bubble, e_ten_t hc.1.1.2.2.2.1 (by omega) ht, e_need_t h2, ubx_l, e_has ht5, hc.2.1, hh, bi_t, ubi_mk, if_true, if_false, ugd_t, lit_add, uin_n, nI_clamp]
          · obtain ⟨m2, e, k, hR2, h0⟩ := r_take' (rI_K hM (z0_K M)) (z0_0 M)
            have hM0 := rI_K hM (z0_K M)
            refine ⟨m2, ?_, rK_tr (z0_K M) k, h0⟩
            show ubi (f_X8_isTenant (z0 M) (nI t) 1) _ = _
            simp (decide := true) (disch := omega) only [r_ten_t hM0.1.1.2.2.2.1 (by omega) ht (z0_0 M), ubi_mk, r_wit_t h2, r_may_t (z0_0 M), e, if_true, if_false, ugd_t, lit_add, lit_mul, nI_add, Nat.reduceMul, Nat.reduceAdd, uin_n, nI_clamp, c_si m2 ht5, c_pl m2 ht5, hR2, hz, hh, f_X8_bubble_b88]
        · refine ⟨qR s (23 + t), m, ?_, cK_rf hc, fun M hM => ?_⟩
          · simp (decide := true) (disch := omega) only [f_X7_bubble, e_ten_t hc.1.1.2.2.2.1 (by omega) ht, e_need_t h2, ubx_l, e_has ht5, hc.2.1, hh, bi_t, ubi_mk, if_true, if_false, ugd_t, lit_add, uin_n, nI_clamp]
          · obtain ⟨m2, e, k, hR2, h0⟩ := r_take' (rI_K hM (z0_K M)) (z0_0 M)
            have hM0 := rI_K hM (z0_K M)
            refine ⟨m2, ?_, rK_tr (z0_K M) k, h0⟩
            show ubi (f_X8_isTenant (z0 M) (nI t) 1) _ = _
            simp (decide := true) (disch := omega) only [r_ten_t hM0.1.1.2.2.2.1 (by omega) ht (z0_0 M), ubi_mk, r_wit_t h2, r_may_t (z0_0 M), e, if_true, if_false, ugd_t, lit_add, lit_mul, nI_add, Nat.reduceMul, Nat.reduceAdd, uin_n, nI_clamp, c_si m2 ht5, c_ag m2 ht5, hR2, hz, hh, f_X8_bubble_b88]
        · obtain ⟨g, st, el⟩ := e_life (o := 23) (Or.inl rfl) hc.1 ht5
          rw [hc.2.1] at el
          refine ⟨sLife (qX s) (qW s) (qV s) (qA s) (qn s) (qz s) (qR s) t, um_wa (um_wa m 17 g) 16 st, ?_, ?_, fun M hM => ?_⟩
          · simp (decide := true) (disch := omega) only [f_X7_bubble, e_ten_t hc.1.1.2.2.2.1 (by omega) ht, e_need_t h2, ubx_l, e_has ht5, hc.2.1, hh, bi_t, ubi_mk, if_true, if_false, el]
          · exact ⟨fun c _ h16 h17 _ _ _ => by rw [um_wa_n h16, um_wa_n h17], fun k _ => by rw [um_wa_n (by omega), um_wa_n (by omega)], fun i hi => by rw [um_wa_n (by omega), um_wa_n (by omega)]; exact hc.2.2.1 i hi⟩
          · obtain ⟨m2, e, k, hR2, h0⟩ := r_take' (rI_K hM (z0_K M)) (z0_0 M)
            have hM0 := rI_K hM (z0_K M)
            have hm := rI_K hM0 k
            have hv2 : vR (qT s) (cv (m2 54)) := by rw [hR2]; exact hv.2.1.1
            obtain ⟨g2, st2, el2⟩ := r_life hm.1 hv2 ht5
            rw [hR2] at el2
            refine ⟨um_wa (um_wa m2 50 g2) 49 st2, ?_, rK_tr (rK_tr (z0_K M) k) ⟨fun c _ h49 h50 _ _ _ _ _ => by rw [um_wa_n h49, um_wa_n h50], fun k _ _ => by rw [um_wa_n (by omega), um_wa_n (by omega)]⟩, by rw [um_wa_n (by omega), um_wa_n (by omega)]; exact h0⟩
            show ubi (f_X8_isTenant (z0 M) (nI t) 1) _ = _
            simp (decide := true) (disch := omega) only [r_ten_t hM0.1.1.2.2.2.1 (by omega) ht (z0_0 M), ubi_mk, r_wit_t h2, r_may_t (z0_0 M), e, if_true, if_false, ugd_t, lit_add, uin_n, nI_clamp, c_si m2 ht5, hR2, hz, hh, el2, f_X8_bubble_b88]
        · refine ⟨bits (qV s) (fun v => sSees (qX s) (qR s) t v), m, ?_, cK_rf hc, fun M hM => ?_⟩
          · simp (decide := true) (disch := omega) only [f_X7_bubble, e_ten_t hc.1.1.2.2.2.1 (by omega) ht, e_need_t h2, ubx_l, e_has ht5, hc.2.1, hh, bi_t, ubi_mk, if_true, if_false, e_viewsSeen hc.1.1 ht5]
          · obtain ⟨m2, e, k, hR2, h0⟩ := r_take' (rI_K hM (z0_K M)) (z0_0 M)
            have hM0 := rI_K hM (z0_K M)
            have hm := rI_K hM0 k
            refine ⟨m2, ?_, rK_tr (z0_K M) k, h0⟩
            show ubi (f_X8_isTenant (z0 M) (nI t) 1) _ = _
            simp (decide := true) (disch := omega) only [r_ten_t hM0.1.1.2.2.2.1 (by omega) ht (z0_0 M), ubi_mk, r_wit_t h2, r_may_t (z0_0 M), e, if_true, if_false, ugd_t, lit_add, uin_n, nI_clamp, c_si m2 ht5, hR2, hz, hh, r_seenBy hm.1.1 ht5, f_X8_bubble_b88]
    · refine Or.inr (Or.inr ⟨tI m, tR (z0 (tI m)) 2 1, 0, ?_, ?_, tR_0, throwI hc hr hv 2⟩)
      · simp only [f_X7_bubble, e_ten_t hc.1.1.2.2.2.1 (show qT s ≤ 8 by omega) ht, ubx_l, e_need_f h2, ubx_r]
      · have hm := rI_tI hr
        show ubi (f_X8_isTenant (z0 (tI m)) (nI t) 1) _ = _
        simp (decide := true) (disch := omega) only [r_ten_t hm.1.1.2.2.2.1 (by omega) ht (z0_0 _), ubi_mk, r_wit_f h2, r_may_f1 (z0_0 _) i2_0, if_true, if_false, f_X8_bubble_b29]
  · refine Or.inr (Or.inl ⟨tN m, tR (z0 (tN m)) 1 0, 0, ?_, ?_, tR_0, throwN hc hr hv 1⟩)
    · simp only [f_X7_bubble, e_ten_f hc.1.1.2.2.2.1 (show qT s ≤ 8 by omega) h1, ubx_r]
    · have hm := rI_tN hr
      show ubi (f_X8_isTenant (z0 (tN m)) a1 1) _ = _
      simp (decide := true) (disch := omega) only [r_ten_f hm.1.1.2.2.2.1 (show qT s ≤ 8 by omega) h1 (z0_0 _) i1_0, ubi_mk, if_true, f_X8_bubble_b29]
theorem op_fault : uop_fault uI := by
  intro m ⟨s, hc, hr, hv⟩
  refine wrapA (fr := fun M => f_X8_fault M) hc hr hv ⟨qF s, m, ?_, cK_rf hc, fun M hM => ⟨z0 M, ?_, z0_K M⟩⟩
  · simp only [f_X7_fault, hc.2.2.2.1.2.2]
  · show some (z0 M, z0 M 38 8) = _
    rw [(rI_K hM (z0_K M)).2.2.1.2.2]
theorem op_count : uop_count uI := by
  intro m a1 ⟨s, hc, hr, hv⟩
  refine wrapA (fr := fun M => f_X8_count M a1) hc hr hv ⟨if a1 = 0 then nI (qc s) else if a1 = 1 then nI (qL s) else if a1 = 2 then nI (qw s) else -1, m, ?_, cK_rf hc, fun M hM => ⟨z0 M, ?_, z0_K M⟩⟩
  · simp only [f_X7_count, hc.2.2.2.1.1, hc.2.2.2.2.2.2.1.1, hc.2.2.2.2.2.2.2.1]
    split
    · rfl
    · split
      · rfl
      · split <;> rfl
  · have hm := rI_K hM (z0_K M)
    show (if a1 = 0 then f_X8_count_b41 (z0 M) (z0 M 38 48) else if a1 = 1 then f_X8_count_b41 (z0 M) (z0 M 38 2) else if a1 = 2 then f_X8_count_b41 (z0 M) (z0 M 38 31) else f_X8_count_b41 (z0 M) (-1)) = _
    simp only [f_X8_count_b41, hm.2.2.1.1, hm.2.2.2.2.2.1.1, hm.2.2.2.2.2.2.1]
    split
    · rfl
    · split
      · rfl
      · split <;> rfl
theorem op_status : uop_status uI := by
  intro m a1 ⟨s, hc, hr, hv⟩
  refine wrapA (fr := fun M => f_X8_status M a1) hc hr hv ⟨if a1 = 0 then qne s else if a1 = 1 then qwa s else -1, m, ?_, cK_rf hc, fun M hM => ⟨z0 M, ?_, z0_K M⟩⟩
  · simp only [f_X7_status, f_X7_status_b22, hc.2.2.2.2.2.1.2.1, hc.2.2.2.2.2.1.2.2]
    split
    · rfl
    · split <;> rfl
  · have hm := rI_K hM (z0_K M)
    show ubi (f_X8_within (z0 M) a1 0 1) _ = _
    by_cases h1 : 0 ≤ a1 ∧ a1 ≤ 1
    · rw [r_wit_t h1, ubi_mk]
      obtain ⟨j, hj, rfl⟩ := lit_cases 1 (by omega) h1
      rcases (show j = 0 ∨ j = 1 by omega) with rfl | rfl
      · simp (decide := true) (disch := omega) only [uin_n, ugd_t, nI_clamp, f_X8_status_b24, hm.2.2.2.2.1.2.1, if_true, if_false]
      · simp (decide := true) (disch := omega) only [uin_n, ugd_t, nI_clamp, f_X8_status_b24, hm.2.2.2.2.1.2.2, if_true, if_false]
    · rw [r_wit_f h1, ubi_mk, if_pos rfl, if_neg (fun q => h1 (by rw [q]; decide)), if_neg (fun q => h1 (by rw [q]; decide))]
      rfl
theorem own_none (X : Nat → Int32) {T : Nat} {R : Nat → Int32} (hR : vR T R) (v : Nat) : sOwn X R v = -1 ↔ ∀ t, t < 5 → sSees X R t v = false := by
  constructor
  · intro h t ht
    have := lp_ind0 (f := owS X R v) (fun k s => (s.1 = -1 → s = (-1, 100) ∧ ∀ t, t < k → sSees X R t v = false)) 5 (-1, 100) (fun _ => ⟨rfl, fun t ht => absurd ht (Nat.not_lt_zero _)⟩) (fun j s hj hs q => by
      unfold owS at q ⊢
      by_cases a : sSees X R j v = true ∧ ¬ s.2 ≤ sFar X R j v
      · rw [if_pos a] at q
        have : nI j = -1 := q
        rw [nI_ne1 (by omega)] at this
        exact this.elim
      · rw [if_neg a] at q ⊢
        obtain ⟨h1, h2⟩ := hs q
        refine ⟨h1, fun t ht => ?_⟩
        by_cases e : t = j
        · subst e
          by_cases b : sSees X R t v = true
          · exact absurd ⟨b, by rw [h1]; exact sees_far hR hj b⟩ a
          · simpa using b
        · exact h2 t (by omega))
    exact (this h).2 t ht
  · intro h
    rcases own_cases X R v with h1 | ⟨t, h2, h3, h4⟩
    · exact h1
    · rw [h t h2] at h4
      cases h4
theorem own_none_bits (X : Nat → Int32) {T : Nat} {R : Nat → Int32} (hR : vR T R) (v : Nat) : decide (bits 5 (fun t => sSees X R t v) = 0) = decide (sOwn X R v = -1) := by
  have h1 := bits_zero (n := 5) (fun t => sSees X R t v) (by omega)
  have h2 := own_none X hR v
  by_cases q : sOwn X R v = -1
  · rw [decide_eq_true q, decide_eq_true (h1.mpr (h2.mp q))]
  · rw [decide_eq_false q, decide_eq_false (fun r => q (h2.mpr (h1.mp r)))]
theorem op_idle : uop_idle uI := by
  intro m ⟨s, hc, hr, hv⟩
  have hV8 := vI_V hc
  refine wrapA (fr := fun M => f_X8_idle M) hc hr hv ⟨bits (qV s) (fun v => decide (sOwn (qX s) (qR s) v = -1)), m, ?_, cK_rf hc, fun M hM => ?_⟩
  · refine lp_run0 (fun n (a : Int32) v => f_X7_idle_b4 n m a (nI v)) (qV s) _ (fun a => some (m, a)) ?_ ?_ 0 (by show qV s < 3000; omega)
    · intro n a v hv1
      show f_X7_idle_b4 (n + 1) m a (nI v) = f_X7_idle_b4 n m (if decide (sOwn (qX s) (qR s) v = -1) = true then a ||| bt v else a) (nI (v + 1))
      rw [f_X7_idle_b4, hc.1.1.2.2.1, if_neg (nI_ge (by omega) (by omega)), e_seenBy hc.1.1 hv1, ubi_mk, hc.2.1, ← own_none_bits _ hv.2.1.1]
      simp only [f_X7_idle_b32, nI_1]
      by_cases h : bits 5 (fun t => sSees (qX s) (qR s) t v) = 0 <;> simp [h, bt]
    · intro n a
      show f_X7_idle_b4 (n + 1) m a (nI (qV s)) = some (m, a)
      rw [f_X7_idle_b4, hc.1.1.2.2.1, if_pos (nI_le (Nat.le_refl _) (by omega))]
  · obtain ⟨m2, e, k, hR2, h0⟩ := r_take' (rI_K hM (z0_K M)) (z0_0 M)
    have hm := rI_K (rI_K hM (z0_K M)) k
    have hv2 : vR (qT s) (cv (m2 54)) := by rw [hR2]; exact hv.2.1.1
    refine ⟨m2, ?_, rK_tr (z0_K M) k⟩
    show ubi (f_X8_take (z0 M)) _ = _
    rw [e, ubi_mk]
    refine lp_run0 (fun n (a : Int32) v => f_X8_idle_b13 n m2 a (nI v)) (qV s) _ (fun a => some (m2, a)) ?_ ?_ 0 (by show qV s < 3000; omega)
    · intro n a v hv1
      show f_X8_idle_b13 (n + 1) m2 a (nI v) = f_X8_idle_b13 n m2 (if decide (sOwn (qX s) (qR s) v = -1) = true then a ||| bt v else a) (nI (v + 1))
      rw [f_X8_idle_b13, hm.1.1.2.2.1, if_neg (nI_ge (by omega) (by omega)), r_owner hm.1.1 hv2 hv1, ubi_mk, hR2]
      simp only [f_X8_idle_b38, nI_1]
      by_cases h : sOwn (qX s) (qR s) v = -1 <;> simp [h, bt]
    · intro n a
      show f_X8_idle_b13 (n + 1) m2 a (nI (qV s)) = some (m2, a)
      rw [f_X8_idle_b13, hm.1.1.2.2.1, if_pos (nI_le (Nat.le_refl _) (by omega))]
theorem op_under : uop_under uI := by
  intro m ⟨s, hc, hr, hv⟩
  have hT5 := vI_T hc
  refine wrapA (fr := fun M => f_X8_under M) hc hr hv ⟨bits 5 (sKeep (qR s)), m, ?_, cK_rf hc, fun M hM => ?_⟩
  · refine lp_run0 (fun n (a : Int32) t => f_X7_under_b4 n m a (nI t)) 5 _ (fun a => some (m, a)) ?_ ?_ 0 (by decide)
    · intro n a t ht
      show f_X7_under_b4 (n + 1) m a (nI t) = f_X7_under_b4 n m (if sKeep (qR s) t = true then a ||| bt t else a) (nI (t + 1))
      rw [f_X7_under_b4, if_neg (nle_lit (by omega) (by omega)), e_canKeep ht, ubi_mk, hc.2.1, ite_bi0]
      simp only [f_X7_under_b26, nI_1]
      by_cases h : sKeep (qR s) t = true <;> simp [h, bt]
    · intro n a
      show f_X7_under_b4 (n + 1) m a (nI 5) = some (m, a)
      rw [f_X7_under_b4, if_pos (by decide)]
  · obtain ⟨m2, e, k, hR2, h0⟩ := r_take' (rI_K hM (z0_K M)) (z0_0 M)
    have hm := rI_K (rI_K hM (z0_K M)) k
    refine ⟨m2, ?_, rK_tr (z0_K M) k⟩
    show ubi (f_X8_take (z0 M)) _ = _
    rw [e, ubi_mk, bits_cut hT5 (fun j h1 h2 => by unfold sKeep; rw [vR_has hv.2.1.1 h1 h2]; rfl)]
    refine lp_run0 (fun n (a : Int32) t => f_X8_under_b13 n m2 a (nI t)) (qT s) _ (fun a => some (m2, a)) ?_ ?_ 0 (by show qT s < 3000; omega)
    · intro n a t ht
      show f_X8_under_b13 (n + 1) m2 a (nI t) = f_X8_under_b13 n m2 (if sKeep (qR s) t = true then a ||| bt t else a) (nI (t + 1))
      rw [f_X8_under_b13, hm.1.1.2.2.2.1, if_neg (nI_ge (by omega) (by omega)), r_keep (by omega), ubi_mk, hR2, ite_bi0]
      simp only [f_X8_under_b37, nI_1]
      by_cases h : sKeep (qR s) t = true <;> simp [h, bt]
    · intro n a
      show f_X8_under_b13 (n + 1) m2 a (nI (qT s)) = some (m2, a)
      rw [f_X8_under_b13, hm.1.1.2.2.2.1, if_pos (nI_le (Nat.le_refl _) (by omega))]
