theorem has_zero {T : Nat} {R : Nat → Int32} (hR : vR T R) {t : Nat} (ht : t < 5) : (R (13 + t) = 0) = (sHas R t = false) := by
  rw [has_int]
  have := (hR.2.1 t ht).1
  refine propext ⟨fun h => ?_, fun h => ?_⟩
  · rw [h, i_0]
    simp
  · simp only [decide_eq_false_iff_not] at h
    apply Int32.toInt_inj.mp
    rw [i_0]
    omega
theorem cc_pu (f : Nat → Int32) {t : Nat} (ht : t < 5) : f (0 + t) = cv f (3 + t) := by
  rw [cv_j _ (by omega) (by omega)]
  congr 1
  omega
theorem cc_st (f : Nat → Int32) {t : Nat} (ht : t < 5) : f (5 + t) = cv f (8 + t) := by
  rw [cv_j _ (by omega) (by omega)]
  congr 1
  omega
theorem cc_si (f : Nat → Int32) {t : Nat} (ht : t < 5) : f (10 + t) = cv f (13 + t) := by
  rw [cv_j _ (by omega) (by omega)]
  congr 1
  omega
theorem cc_pl (f : Nat → Int32) {t : Nat} (ht : t < 5) : f (15 + t) = cv f (18 + t) := by
  rw [cv_j _ (by omega) (by omega)]
  congr 1
  omega
theorem rI_tI {m : Um} {s : Ss} (hr : rI m s) : rI (z0 (tI m)) s := rI_K (rI_of hr (fun c h1 h2 => by unfold tI; rw [um_w_def, um_wa_n (by omega)])) (z0_K _)
theorem rI_tN {m : Um} {s : Ss} (hr : rI m s) : rI (z0 (tN m)) s := rI_K (rI_of hr (fun c h1 h2 => by unfold tN; rw [um_w_def, um_wa_n (by omega)])) (z0_K _)
theorem i1_0 : ¬ (1 : Int32) = 0 := by decide
theorem i2_0 : ¬ (2 : Int32) = 0 := by decide
theorem vI_T {m : Um} {s : Ss} (hc : cI m s) : qT s ≤ 5 := hc.1.1.2.1
theorem vI_V {m : Um} {s : Ss} (hc : cI m s) : qV s ≤ 8 := hc.1.1.1
theorem r_view3 {m : Um} {V T : Nat} {X W : Nat → Int32} {v : Nat} (hc : rC m V T X W) (hR : vR T (cv (m 54))) (hv : v < V) : f_X8_view_b69 UF m (nI v) 0 0 = some (m, bc5 (fun t => sSees X (cv (m 54)) t v)) := by
  have hT := hc.2.1
  unfold bc5
  rw [sums_cut hT (fun j h1 h2 => by
    show bi (sSees X (cv (m 54)) j v) = 0
    unfold sSees
    rw [vR_has hR h1 h2]
    rfl)]
  refine lp_run0 (fun n (s : Int32) t => f_X8_view_b69 n m (nI v) s (nI t)) T _ (fun s => some (m, s)) ?_ ?_ 0 (by show T < 3000; omega)
  · intro n s t ht
    show f_X8_view_b69 (n + 1) m (nI v) s (nI t) = f_X8_view_b69 n m (nI v) (s + bi (sSees X (cv (m 54)) t v)) (nI (t + 1))
    rw [f_X8_view_b69, hc.2.2.2.1, if_neg (nI_ge (by omega) (by omega)), r_sees hc (by omega) hv, ubi_mk, ite_bi0]
    simp only [f_X8_view_b94, nI_1]
    by_cases h : sSees X (cv (m 54)) t v = true <;> simp [h, bi]
  · intro n s
    show f_X8_view_b69 (n + 1) m (nI v) s (nI T) = some (m, s)
    rw [f_X8_view_b69, hc.2.2.2.1, if_pos (nI_le (Nat.le_refl _) (by omega))]
theorem op_view : uop_view uI := by
  intro m a1 a2 ⟨s, hc, hr, hv⟩
  have hT5 := vI_T hc
  have hV8 := vI_V hc
  by_cases h1 : ∃ v, v < qV s ∧ a1 = nI v
  · obtain ⟨t, ht, rfl⟩ := h1
    by_cases h2 : 0 ≤ a2 ∧ a2 ≤ 3
    · refine Or.inl (wrapI (fr := fun M => f_X8_view M (nI t) a2) hc hr hv ?_)
      obtain ⟨j, hj, rfl⟩ := lit_cases 3 (by omega) h2
      rcases (show j = 0 ∨ j = 1 ∨ j = 2 ∨ j = 3 by omega) with rfl | rfl | rfl | rfl
      · refine ⟨qX s t, m, ?_, cK_rf hc, fun M hM => ?_⟩
        · simp (decide := true) (disch := omega) only [f_X7_view, e_vie_t hc.1.1.2.2.1 (by omega) ht, e_need_t h2, ubx_l, if_true, if_false, ubi_mk, ugd_t, lit_add, uin_n, nI_clamp, hc.1.1.2.2.2.2.1 t ht]
        · obtain ⟨m2, e, k, hR2, h0⟩ := r_take' (rI_K hM (z0_K M)) (z0_0 M)
          have hM0 := rI_K hM (z0_K M)
          have hm := rI_K hM0 k
          have hv2 : vR (qT s) (cv (m2 54)) := by rw [hR2]; exact hv.2.1.1
          refine ⟨m2, ?_, rK_tr (z0_K M) k, h0⟩
          show ubi (f_X8_isView (z0 M) (nI t) 1) _ = _
          simp (decide := true) (disch := omega) only [r_vie_t hM0.1.1.2.2.1 (by omega) ht (z0_0 M), ubi_mk, r_wit_t h2, r_may_t (z0_0 M), e, if_true, if_false, ugd_t, lit_add, lit_mul, nI_add, uin_n, nI_clamp, Nat.add_zero, hm.1.1.2.2.2.2.1 t ht, f_X8_view_b63]
      · refine ⟨qW s t, m, ?_, cK_rf hc, fun M hM => ?_⟩
        · simp (decide := true) (disch := omega) only [f_X7_view, e_vie_t hc.1.1.2.2.1 (by omega) ht, e_need_t h2, ubx_l, if_true, if_false, ubi_mk, ugd_t, lit_add, uin_n, nI_clamp, hc.1.1.2.2.2.2.2 t ht]
        · obtain ⟨m2, e, k, hR2, h0⟩ := r_take' (rI_K hM (z0_K M)) (z0_0 M)
          have hM0 := rI_K hM (z0_K M)
          have hm := rI_K hM0 k
          have hv2 : vR (qT s) (cv (m2 54)) := by rw [hR2]; exact hv.2.1.1
          refine ⟨m2, ?_, rK_tr (z0_K M) k, h0⟩
          show ubi (f_X8_isView (z0 M) (nI t) 1) _ = _
          simp (decide := true) (disch := omega) only [r_vie_t hM0.1.1.2.2.1 (by omega) ht (z0_0 M), ubi_mk, r_wit_t h2, r_may_t (z0_0 M), e, if_true, if_false, ugd_t, lit_add, lit_mul, nI_add, uin_n, nI_clamp, hm.1.1.2.2.2.2.2 t ht, f_X8_view_b63]
      · refine ⟨sOwn (qX s) (qR s) t, m, ?_, cK_rf hc, fun M hM => ?_⟩
        · simp (decide := true) (disch := omega) only [f_X7_view, e_vie_t hc.1.1.2.2.1 (by omega) ht, e_need_t h2, ubx_l, if_true, if_false, ubi_mk, ugd_t, lit_add, uin_n, nI_clamp, e_owner hc.1.1 ht, hc.2.1]
        · obtain ⟨m2, e, k, hR2, h0⟩ := r_take' (rI_K hM (z0_K M)) (z0_0 M)
          have hM0 := rI_K hM (z0_K M)
          have hm := rI_K hM0 k
          have hv2 : vR (qT s) (cv (m2 54)) := by rw [hR2]; exact hv.2.1.1
          refine ⟨m2, ?_, rK_tr (z0_K M) k, h0⟩
          show ubi (f_X8_isView (z0 M) (nI t) 1) _ = _
          simp (decide := true) (disch := omega) only [r_vie_t hM0.1.1.2.2.1 (by omega) ht (z0_0 M), ubi_mk, r_wit_t h2, r_may_t (z0_0 M), e, if_true, if_false, ugd_t, lit_add, lit_mul, nI_add, uin_n, nI_clamp, r_owner hm.1.1 hv2 ht, hR2, f_X8_view_b63]
      · refine ⟨bc5 (fun u => sSees (qX s) (qR s) u t), m, ?_, cK_rf hc, fun M hM => ?_⟩
        · simp (decide := true) (disch := omega) only [f_X7_view, e_vie_t hc.1.1.2.2.1 (by omega) ht, e_need_t h2, ubx_l, if_true, if_false, ubi_mk, ugd_t, lit_add, uin_n, nI_clamp, e_seenBy hc.1.1 ht, e_bitCount, hc.2.1]
        · obtain ⟨m2, e, k, hR2, h0⟩ := r_take' (rI_K hM (z0_K M)) (z0_0 M)
          have hM0 := rI_K hM (z0_K M)
          have hm := rI_K hM0 k
          have hv2 : vR (qT s) (cv (m2 54)) := by rw [hR2]; exact hv.2.1.1
          refine ⟨m2, ?_, rK_tr (z0_K M) k, h0⟩
          show ubi (f_X8_isView (z0 M) (nI t) 1) _ = _
          simp (decide := true) (disch := omega) only [r_vie_t hM0.1.1.2.2.1 (by omega) ht (z0_0 M), ubi_mk, r_wit_t h2, r_may_t (z0_0 M), e, if_true, if_false, ugd_t, lit_add, lit_mul, nI_add, uin_n, nI_clamp, r_view3 hm.1.1 hv2 ht, hR2]
    · refine Or.inr (Or.inr ⟨tI m, tR (z0 (tI m)) 2 1, 0, ?_, ?_, tR_0, throwI hc hr hv 2⟩)
      · simp only [f_X7_view, e_vie_t hc.1.1.2.2.1 (show qV s ≤ 8 by omega) ht, ubx_l, e_need_f h2, ubx_r]
      · have hm := rI_tI hr
        show ubi (f_X8_isView (z0 (tI m)) (nI t) 1) _ = _
        simp (decide := true) (disch := omega) only [r_vie_t hm.1.1.2.2.1 (by omega) ht (z0_0 _), ubi_mk, r_wit_f h2, r_may_f1 (z0_0 _) i2_0, if_true, if_false, f_X8_view_b29]
  · refine Or.inr (Or.inl ⟨tN m, tR (z0 (tN m)) 1 0, 0, ?_, ?_, tR_0, throwN hc hr hv 1⟩)
    · simp only [f_X7_view, e_vie_f hc.1.1.2.2.1 (show qV s ≤ 8 by omega) h1, ubx_r]
    · have hm := rI_tN hr
      show ubi (f_X8_isView (z0 (tN m)) a1 1) _ = _
      simp (decide := true) (disch := omega) only [r_vie_f hm.1.1.2.2.1 (show qV s ≤ 8 by omega) h1 (z0_0 _) i1_0, ubi_mk, if_true, f_X8_view_b29]
theorem op_tenant : uop_tenant uI := by
  intro m a1 a2 ⟨s, hc, hr, hv⟩
  have hT5 := vI_T hc
  have hV8 := vI_V hc
  by_cases h1 : ∃ v, v < qT s ∧ a1 = nI v
  · obtain ⟨t, ht, rfl⟩ := h1
    by_cases h2 : 0 ≤ a2 ∧ a2 ≤ 5
    · refine Or.inl (wrapI (fr := fun M => f_X8_tenant M (nI t) a2) hc hr hv ?_)
      obtain ⟨j, hj, rfl⟩ := lit_cases 5 (by omega) h2
      rcases (show j = 0 ∨ j = 1 ∨ j = 2 ∨ j = 3 ∨ j = 4 ∨ j = 5 by omega) with rfl | rfl | rfl | rfl | rfl | rfl
      · refine ⟨qR s (3 + t), m, ?_, cK_rf hc, fun M hM => ?_⟩
        · simp (decide := true) (disch := omega) only [f_X7_tenant, e_ten_t hc.1.1.2.2.2.1 (by omega) ht, e_need_t h2, ubx_l, if_true, if_false, ubi_mk, ugd_t, lit_add, uin_n, nI_clamp, hc.2.1]
        · obtain ⟨m2, e, k, hR2, h0⟩ := r_take' (rI_K hM (z0_K M)) (z0_0 M)
          have hM0 := rI_K hM (z0_K M)
          have hm := rI_K hM0 k
          have hv2 : vR (qT s) (cv (m2 54)) := by rw [hR2]; exact hv.2.1.1
          refine ⟨m2, ?_, rK_tr (z0_K M) k, h0⟩
          show ubi (f_X8_isTenant (z0 M) (nI t) 1) _ = _
          simp (decide := true) (disch := omega) only [r_ten_t hM0.1.1.2.2.2.1 (by omega) ht (z0_0 M), ubi_mk, r_wit_t h2, r_may_t (z0_0 M), e, if_true, if_false, ugd_t, lit_add, lit_mul, nI_add, uin_n, nI_clamp, f_X8_tenant_b53, c_pu m2 (show t < 5 by omega), hR2]
      · refine ⟨qR s (8 + t), m, ?_, cK_rf hc, fun M hM => ?_⟩
        · simp (decide := true) (disch := omega) only [f_X7_tenant, e_ten_t hc.1.1.2.2.2.1 (by omega) ht, e_need_t h2, ubx_l, if_true, if_false, ubi_mk, ugd_t, lit_add, uin_n, nI_clamp, hc.2.1]
        · obtain ⟨m2, e, k, hR2, h0⟩ := r_take' (rI_K hM (z0_K M)) (z0_0 M)
          have hM0 := rI_K hM (z0_K M)
          have hm := rI_K hM0 k
          have hv2 : vR (qT s) (cv (m2 54)) := by rw [hR2]; exact hv.2.1.1
          refine ⟨m2, ?_, rK_tr (z0_K M) k, h0⟩
          show ubi (f_X8_isTenant (z0 M) (nI t) 1) _ = _
          simp (decide := true) (disch := omega) only [r_ten_t hM0.1.1.2.2.2.1 (by omega) ht (z0_0 M), ubi_mk, r_wit_t h2, r_may_t (z0_0 M), e, if_true, if_false, ugd_t, lit_add, lit_mul, nI_add, uin_n, nI_clamp, f_X8_tenant_b53, c_st m2 (show t < 5 by omega), hR2]
      · refine ⟨bi (sHas (qR s) t), m, ?_, cK_rf hc, fun M hM => ?_⟩
        · simp (decide := true) (disch := omega) only [f_X7_tenant, e_ten_t hc.1.1.2.2.2.1 (by omega) ht, e_need_t h2, ubx_l, if_true, if_false, ubi_mk, ugd_t, lit_add, uin_n, nI_clamp, e_has (show t < 5 by omega), f_X7_tenant_b89, ite_bi0, hc.2.1]
          cases sHas (qR s) t <;> rfl
        · obtain ⟨m2, e, k, hR2, h0⟩ := r_take' (rI_K hM (z0_K M)) (z0_0 M)
          have hM0 := rI_K hM (z0_K M)
          have hm := rI_K hM0 k
          have hv2 : vR (qT s) (cv (m2 54)) := by rw [hR2]; exact hv.2.1.1
          refine ⟨m2, ?_, rK_tr (z0_K M) k, h0⟩
          show ubi (f_X8_isTenant (z0 M) (nI t) 1) _ = _
          simp (decide := true) (disch := omega) only [r_ten_t hM0.1.1.2.2.2.1 (by omega) ht (z0_0 M), ubi_mk, r_wit_t h2, r_may_t (z0_0 M), e, if_true, if_false, ugd_t, lit_add, lit_mul, nI_add, uin_n, nI_clamp, f_X8_tenant_b117, c_si m2 (show t < 5 by omega), hR2]
          unfold sHas
          by_cases q : qR s (13 + t) ≤ 0 <;> simp [q, bi]
      · refine ⟨bits (qV s) (fun v => decide (sOwn (qX s) (qR s) v = nI t)), m, ?_, cK_rf hc, fun M hM => ?_⟩
        · simp (decide := true) (disch := omega) only [f_X7_tenant, e_ten_t hc.1.1.2.2.2.1 (by omega) ht, e_need_t h2, ubx_l, if_true, if_false, ubi_mk, ugd_t, lit_add, uin_n, nI_clamp, e_viewsHad hc.1.1 (show t < 5 by omega), hc.2.1]
        · obtain ⟨m2, e, k, hR2, h0⟩ := r_take' (rI_K hM (z0_K M)) (z0_0 M)
          have hM0 := rI_K hM (z0_K M)
          have hm := rI_K hM0 k
          have hv2 : vR (qT s) (cv (m2 54)) := by rw [hR2]; exact hv.2.1.1
          refine ⟨m2, ?_, rK_tr (z0_K M) k, h0⟩
          show ubi (f_X8_isTenant (z0 M) (nI t) 1) _ = _
          simp (decide := true) (disch := omega) only [r_ten_t hM0.1.1.2.2.2.1 (by omega) ht (z0_0 M), ubi_mk, r_wit_t h2, r_may_t (z0_0 M), e, if_true, if_false, ugd_t, lit_add, lit_mul, nI_add, uin_n, nI_clamp, r_ownedBy hm.1.1 hv2, hR2, f_X8_tenant_b117]
      · refine ⟨sWorth (qX s) (qW s) (qR s) (qV s) t, m, ?_, cK_rf hc, fun M hM => ?_⟩
        · simp (decide := true) (disch := omega) only [f_X7_tenant, e_ten_t hc.1.1.2.2.2.1 (by omega) ht, e_need_t h2, ubx_l, if_true, if_false, ubi_mk, ugd_t, lit_add, uin_n, nI_clamp, e_worthOf hc.1.1 (show t < 5 by omega), hc.2.1]
        · obtain ⟨m2, e, k, hR2, h0⟩ := r_take' (rI_K hM (z0_K M)) (z0_0 M)
          have hM0 := rI_K hM (z0_K M)
          have hm := rI_K hM0 k
          have hv2 : vR (qT s) (cv (m2 54)) := by rw [hR2]; exact hv.2.1.1
          refine ⟨m2, ?_, rK_tr (z0_K M) k, h0⟩
          show ubi (f_X8_isTenant (z0 M) (nI t) 1) _ = _
          simp (decide := true) (disch := omega) only [r_ten_t hM0.1.1.2.2.2.1 (by omega) ht (z0_0 M), ubi_mk, r_wit_t h2, r_may_t (z0_0 M), e, if_true, if_false, ugd_t, lit_add, lit_mul, nI_add, uin_n, nI_clamp, r_ownedBy hm.1.1 hv2, hR2, r_worth hm.1.1, f_X8_tenant_b117]
          rfl
      · refine ⟨bits 5 (sTouch (qR s) t), m, ?_, cK_rf hc, fun M hM => ?_⟩
        · simp (decide := true) (disch := omega) only [f_X7_tenant, e_ten_t hc.1.1.2.2.2.1 (by omega) ht, e_need_t h2, ubx_l, if_true, if_false, ubi_mk, ugd_t, lit_add, uin_n, nI_clamp, e_touching (show t < 5 by omega), hc.2.1]
        · obtain ⟨m2, e, k, hR2, h0⟩ := r_take' (rI_K hM (z0_K M)) (z0_0 M)
          have hM0 := rI_K hM (z0_K M)
          have hm := rI_K hM0 k
          have hv2 : vR (qT s) (cv (m2 54)) := by rw [hR2]; exact hv.2.1.1
          refine ⟨m2, ?_, rK_tr (z0_K M) k, h0⟩
          show ubi (f_X8_isTenant (z0 M) (nI t) 1) _ = _
          simp (decide := true) (disch := omega) only [r_ten_t hM0.1.1.2.2.2.1 (by omega) ht (z0_0 M), ubi_mk, r_wit_t h2, r_may_t (z0_0 M), e, if_true, if_false, ugd_t, lit_add, lit_mul, nI_add, uin_n, nI_clamp, r_touching hm.1.1 hv2 (show t < 5 by omega), hR2, f_X8_tenant_b117]
    · refine Or.inr (Or.inr ⟨tI m, tR (z0 (tI m)) 2 1, 0, ?_, ?_, tR_0, throwI hc hr hv 2⟩)
      · simp only [f_X7_tenant, e_ten_t hc.1.1.2.2.2.1 (show qT s ≤ 8 by omega) ht, ubx_l, e_need_f h2, ubx_r]
      · have hm := rI_tI hr
        show ubi (f_X8_isTenant (z0 (tI m)) (nI t) 1) _ = _
        simp (decide := true) (disch := omega) only [r_ten_t hm.1.1.2.2.2.1 (by omega) ht (z0_0 _), ubi_mk, r_wit_f h2, r_may_f1 (z0_0 _) i2_0, if_true, if_false, f_X8_tenant_b29]
  · refine Or.inr (Or.inl ⟨tN m, tR (z0 (tN m)) 1 0, 0, ?_, ?_, tR_0, throwN hc hr hv 1⟩)
    · simp only [f_X7_tenant, e_ten_f hc.1.1.2.2.2.1 (show qT s ≤ 8 by omega) h1, ubx_r]
    · have hm := rI_tN hr
      show ubi (f_X8_isTenant (z0 (tN m)) a1 1) _ = _
      simp (decide := true) (disch := omega) only [r_ten_f hm.1.1.2.2.2.1 (show qT s ≤ 8 by omega) h1 (z0_0 _) i1_0, ubi_mk, if_true, f_X8_tenant_b29]
