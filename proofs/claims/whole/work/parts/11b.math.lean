/-! QUESTIONS -/
theorem wrapI {m : Um} {s : Ss} {fc : Option (Um × (Int32 ⊕ String))} {fr : Um → Option (Um × Int32)} (hc : cI m s) (hr : rI m s) (hv : vI s) (key : ∃ (r : Int32) (m1 : Um), fc = some (m1, .inl r) ∧ cK m m1 ∧ ∀ M, rI M s → ∃ m2, fr M = some (m2, r) ∧ rK M m2 ∧ m2 38 0 = 0) : ∃ (m1 : Um) (r : Int32) (m2 : Um), fc = some (m1, .inl r) ∧ fr (um_L m1 r.toInt64) = some (m2, r) ∧ m2 38 0 = 0 ∧ m2 63 = (um_L m1 r.toInt64) 63 ∧ uI m2 := by
  obtain ⟨r, m1, e1, k1, h⟩ := key
  obtain ⟨m2, e2, k2, z2⟩ := h _ (glueR hr k1)
  obtain ⟨g1, g2⟩ := glueW hc hr hv k1 k2
  exact ⟨m1, r, m2, e1, e2, z2, g1, g2⟩
theorem wrapL {m : Um} {s : Ss} {fc : Option (Um × (Int64 ⊕ String))} {fr : Um → Option (Um × Int64)} (hc : cI m s) (hr : rI m s) (hv : vI s) (key : ∃ (r : Int64) (m1 : Um), fc = some (m1, .inl r) ∧ cK m m1 ∧ ∀ M, rI M s → ∃ m2, fr M = some (m2, r) ∧ rK M m2 ∧ m2 38 0 = 0) : ∃ (m1 : Um) (r : Int64) (m2 : Um), fc = some (m1, .inl r) ∧ fr (um_L m1 r) = some (m2, r) ∧ m2 38 0 = 0 ∧ m2 63 = (um_L m1 r) 63 ∧ uI m2 := by
  obtain ⟨r, m1, e1, k1, h⟩ := key
  obtain ⟨m2, e2, k2, z2⟩ := h _ (glueR hr k1)
  obtain ⟨g1, g2⟩ := glueW hc hr hv k1 k2
  exact ⟨m1, r, m2, e1, e2, z2, g1, g2⟩
theorem wrapA {m : Um} {s : Ss} {fc : Option (Um × Int32)} {fr : Um → Option (Um × Int32)} (hc : cI m s) (hr : rI m s) (hv : vI s) (key : ∃ (r : Int32) (m1 : Um), fc = some (m1, r) ∧ cK m m1 ∧ ∀ M, rI M s → ∃ m2, fr M = some (m2, r) ∧ rK M m2) : ∃ (m1 : Um) (r : Int32) (m2 : Um), fc = some (m1, r) ∧ fr m1 = some (m2, r) ∧ uI m2 := by
  obtain ⟨r, m1, e1, k1, h⟩ := key
  obtain ⟨m2, e2, k2⟩ := h m1 (rI_of hr (fun c h1 h2 => k1.1 c (by omega) (by omega) (by omega) (by omega) (by omega) (by omega)))
  exact ⟨m1, r, m2, e1, e2, glueA hc hr hv k1 k2⟩
theorem op_told : uop_told uI := by
  intro m a1 ⟨s, hc, hr, hv⟩
  by_cases h1 : 0 ≤ a1 ∧ a1 ≤ 11
  · refine Or.inl (wrapI (fr := fun M => f_X8_told M a1) hc hr hv ?_)
    obtain ⟨j, hj, rfl⟩ := lit_cases 11 (by omega) h1
    rcases (show j = 0 ∨ j = 1 ∨ j = 2 ∨ j = 3 ∨ j = 4 ∨ j = 5 ∨ j = 6 ∨ j = 7 ∨ j = 8 ∨ j = 9 ∨ j = 10 ∨ j = 11 by omega) with rfl | rfl | rfl | rfl | rfl | rfl | rfl | rfl | rfl | rfl | rfl | rfl
    · refine ⟨nI (qV s), m, ?_, cK_rf hc, fun M hM => ?_⟩
      · simp (decide := true) (disch := omega) only [f_X7_told, e_need_t h1, ubx_l, if_true, if_false, e_holders, e_money, e_worthHad hc.1.1, e_twos, ubi_mk, hc.2.1, hc.1.1.2.2.1, hc.1.1.2.2.2.1, hc.1.2.2, hc.2.2.2.2.1.1, hc.2.2.2.2.2.1.1]
      · obtain ⟨m2, e, k, hR2, h0⟩ := r_take' (rI_K hM (z0_K M)) (z0_0 M)
        have hm := rI_K (rI_K hM (z0_K M)) k
        have hv2 : vR (qT s) (cv (m2 54)) := by rw [hR2]; exact hv.2.1.1
        refine ⟨m2, ?_, rK_tr (z0_K M) k, h0⟩
        show ubi (f_X8_within (z0 M) (nI 0) 0 11) _ = _
        simp (decide := true) (disch := omega) only [r_wit_t h1, ubi_mk, r_may_t (z0_0 M), e, if_true, if_false, f_X8_told_b165, f_X8_told_b134, f_X8_told_b110, f_X8_told_b74, hm.1.1.2.2.1]
    · refine ⟨nI (qT s), m, ?_, cK_rf hc, fun M hM => ?_⟩
      · simp (decide := true) (disch := omega) only [f_X7_told, e_need_t h1, ubx_l, if_true, if_false, e_holders, e_money, e_worthHad hc.1.1, e_twos, ubi_mk, hc.2.1, hc.1.1.2.2.1, hc.1.1.2.2.2.1, hc.1.2.2, hc.2.2.2.2.1.1, hc.2.2.2.2.2.1.1]
      · obtain ⟨m2, e, k, hR2, h0⟩ := r_take' (rI_K hM (z0_K M)) (z0_0 M)
        have hm := rI_K (rI_K hM (z0_K M)) k
        have hv2 : vR (qT s) (cv (m2 54)) := by rw [hR2]; exact hv.2.1.1
        refine ⟨m2, ?_, rK_tr (z0_K M) k, h0⟩
        show ubi (f_X8_within (z0 M) (nI 1) 0 11) _ = _
        simp (decide := true) (disch := omega) only [r_wit_t h1, ubi_mk, r_may_t (z0_0 M), e, if_true, if_false, f_X8_told_b165, f_X8_told_b134, f_X8_told_b110, f_X8_told_b74, hm.1.1.2.2.2.1]
    · refine ⟨qz s, m, ?_, cK_rf hc, fun M hM => ?_⟩
      · simp (decide := true) (disch := omega) only [f_X7_told, e_need_t h1, ubx_l, if_true, if_false, e_holders, e_money, e_worthHad hc.1.1, e_twos, ubi_mk, hc.2.1, hc.1.1.2.2.1, hc.1.1.2.2.2.1, hc.1.2.2, hc.2.2.2.2.1.1, hc.2.2.2.2.2.1.1]
      · obtain ⟨m2, e, k, hR2, h0⟩ := r_take' (rI_K hM (z0_K M)) (z0_0 M)
        have hm := rI_K (rI_K hM (z0_K M)) k
        have hv2 : vR (qT s) (cv (m2 54)) := by rw [hR2]; exact hv.2.1.1
        refine ⟨m2, ?_, rK_tr (z0_K M) k, h0⟩
        show ubi (f_X8_within (z0 M) (nI 2) 0 11) _ = _
        simp (decide := true) (disch := omega) only [r_wit_t h1, ubi_mk, r_may_t (z0_0 M), e, if_true, if_false, f_X8_told_b165, f_X8_told_b134, f_X8_told_b110, f_X8_told_b74, hm.1.2.2]
    · refine ⟨qR s 0, m, ?_, cK_rf hc, fun M hM => ?_⟩
      · simp (decide := true) (disch := omega) only [f_X7_told, e_need_t h1, ubx_l, if_true, if_false, e_holders, e_money, e_worthHad hc.1.1, e_twos, ubi_mk, hc.2.1, hc.1.1.2.2.1, hc.1.1.2.2.2.1, hc.1.2.2, hc.2.2.2.2.1.1, hc.2.2.2.2.2.1.1]
      · obtain ⟨m2, e, k, hR2, h0⟩ := r_take' (rI_K hM (z0_K M)) (z0_0 M)
        have hm := rI_K (rI_K hM (z0_K M)) k
        have hv2 : vR (qT s) (cv (m2 54)) := by rw [hR2]; exact hv.2.1.1
        refine ⟨m2, ?_, rK_tr (z0_K M) k, h0⟩
        show ubi (f_X8_within (z0 M) (nI 3) 0 11) _ = _
        simp (decide := true) (disch := omega) only [r_wit_t h1, ubi_mk, r_may_t (z0_0 M), e, if_true, if_false, f_X8_told_b165, f_X8_told_b134, f_X8_told_b110, f_X8_told_b74, c_to m2, hR2]
    · refine ⟨bits 5 (sHas (qR s)), m, ?_, cK_rf hc, fun M hM => ?_⟩
      · simp (decide := true) (disch := omega) only [f_X7_told, e_need_t h1, ubx_l, if_true, if_false, e_holders, e_money, e_worthHad hc.1.1, e_twos, ubi_mk, hc.2.1, hc.1.1.2.2.1, hc.1.1.2.2.2.1, hc.1.2.2, hc.2.2.2.2.1.1, hc.2.2.2.2.2.1.1]
      · obtain ⟨m2, e, k, hR2, h0⟩ := r_take' (rI_K hM (z0_K M)) (z0_0 M)
        have hm := rI_K (rI_K hM (z0_K M)) k
        have hv2 : vR (qT s) (cv (m2 54)) := by rw [hR2]; exact hv.2.1.1
        refine ⟨m2, ?_, rK_tr (z0_K M) k, h0⟩
        show ubi (f_X8_within (z0 M) (nI 4) 0 11) _ = _
        simp (decide := true) (disch := omega) only [r_wit_t h1, ubi_mk, r_may_t (z0_0 M), e, if_true, if_false, f_X8_told_b165, f_X8_told_b134, f_X8_told_b110, f_X8_told_b74, r_holders hm.1.1 hv2, hR2]
    · refine ⟨qR s 1, m, ?_, cK_rf hc, fun M hM => ?_⟩
      · simp (decide := true) (disch := omega) only [f_X7_told, e_need_t h1, ubx_l, if_true, if_false, e_holders, e_money, e_worthHad hc.1.1, e_twos, ubi_mk, hc.2.1, hc.1.1.2.2.1, hc.1.1.2.2.2.1, hc.1.2.2, hc.2.2.2.2.1.1, hc.2.2.2.2.2.1.1]
      · obtain ⟨m2, e, k, hR2, h0⟩ := r_take' (rI_K hM (z0_K M)) (z0_0 M)
        have hm := rI_K (rI_K hM (z0_K M)) k
        have hv2 : vR (qT s) (cv (m2 54)) := by rw [hR2]; exact hv.2.1.1
        refine ⟨m2, ?_, rK_tr (z0_K M) k, h0⟩
        show ubi (f_X8_within (z0 M) (nI 5) 0 11) _ = _
        simp (decide := true) (disch := omega) only [r_wit_t h1, ubi_mk, r_may_t (z0_0 M), e, if_true, if_false, f_X8_told_b165, f_X8_told_b134, f_X8_told_b110, f_X8_told_b74, f_X8_told_b109, show (25 : Int32) = nI 25 from rfl, uin_n, nI_clamp, ugd_t, c_bl m2, hR2]
    · refine ⟨qR s 2, m, ?_, cK_rf hc, fun M hM => ?_⟩
      · simp (decide := true) (disch := omega) only [f_X7_told, e_need_t h1, ubx_l, if_true, if_false, e_holders, e_money, e_worthHad hc.1.1, e_twos, ubi_mk, hc.2.1, hc.1.1.2.2.1, hc.1.1.2.2.2.1, hc.1.2.2, hc.2.2.2.2.1.1, hc.2.2.2.2.2.1.1]
      · obtain ⟨m2, e, k, hR2, h0⟩ := r_take' (rI_K hM (z0_K M)) (z0_0 M)
        have hm := rI_K (rI_K hM (z0_K M)) k
        have hv2 : vR (qT s) (cv (m2 54)) := by rw [hR2]; exact hv.2.1.1
        refine ⟨m2, ?_, rK_tr (z0_K M) k, h0⟩
        show ubi (f_X8_within (z0 M) (nI 6) 0 11) _ = _
        simp (decide := true) (disch := omega) only [r_wit_t h1, ubi_mk, r_may_t (z0_0 M), e, if_true, if_false, f_X8_told_b165, f_X8_told_b134, f_X8_told_b110, f_X8_told_b74, f_X8_told_b109, show (26 : Int32) = nI 26 from rfl, uin_n, nI_clamp, ugd_t, c_bu m2, hR2]
    · refine ⟨sums 5 (fun t => qR s (3 + t)), m, ?_, cK_rf hc, fun M hM => ?_⟩
      · simp (decide := true) (disch := omega) only [f_X7_told, e_need_t h1, ubx_l, if_true, if_false, e_holders, e_money, e_worthHad hc.1.1, e_twos, ubi_mk, hc.2.1, hc.1.1.2.2.1, hc.1.1.2.2.2.1, hc.1.2.2, hc.2.2.2.2.1.1, hc.2.2.2.2.2.1.1]
      · obtain ⟨m2, e, k, hR2, h0⟩ := r_take' (rI_K hM (z0_K M)) (z0_0 M)
        have hm := rI_K (rI_K hM (z0_K M)) k
        have hv2 : vR (qT s) (cv (m2 54)) := by rw [hR2]; exact hv.2.1.1
        refine ⟨m2, ?_, rK_tr (z0_K M) k, h0⟩
        show ubi (f_X8_within (z0 M) (nI 7) 0 11) _ = _
        simp (decide := true) (disch := omega) only [r_wit_t h1, ubi_mk, r_may_t (z0_0 M), e, if_true, if_false, f_X8_told_b165, f_X8_told_b134, f_X8_told_b110, f_X8_told_b74, r_purses hm.1.1 hv2, hR2]
    · refine ⟨sAll (qX s) (qW s) (qR s) (qV s), m, ?_, cK_rf hc, fun M hM => ?_⟩
      · simp (decide := true) (disch := omega) only [f_X7_told, e_need_t h1, ubx_l, if_true, if_false, e_holders, e_money, e_worthHad hc.1.1, e_twos, ubi_mk, hc.2.1, hc.1.1.2.2.1, hc.1.1.2.2.2.1, hc.1.2.2, hc.2.2.2.2.1.1, hc.2.2.2.2.2.1.1]
      · obtain ⟨m2, e, k, hR2, h0⟩ := r_take' (rI_K hM (z0_K M)) (z0_0 M)
        have hm := rI_K (rI_K hM (z0_K M)) k
        have hv2 : vR (qT s) (cv (m2 54)) := by rw [hR2]; exact hv.2.1.1
        refine ⟨m2, ?_, rK_tr (z0_K M) k, h0⟩
        show ubi (f_X8_within (z0 M) (nI 8) 0 11) _ = _
        simp (decide := true) (disch := omega) only [r_wit_t h1, ubi_mk, r_may_t (z0_0 M), e, if_true, if_false, f_X8_told_b165, f_X8_told_b134, f_X8_told_b110, f_X8_told_b74, r_all hm.1.1 hv2, hR2]
    · refine ⟨qbk s, m, ?_, cK_rf hc, fun M hM => ?_⟩
      · simp (decide := true) (disch := omega) only [f_X7_told, e_need_t h1, ubx_l, if_true, if_false, e_holders, e_money, e_worthHad hc.1.1, e_twos, ubi_mk, hc.2.1, hc.1.1.2.2.1, hc.1.1.2.2.2.1, hc.1.2.2, hc.2.2.2.2.1.1, hc.2.2.2.2.2.1.1]
      · obtain ⟨m2, e, k, hR2, h0⟩ := r_take' (rI_K hM (z0_K M)) (z0_0 M)
        have hm := rI_K (rI_K hM (z0_K M)) k
        have hv2 : vR (qT s) (cv (m2 54)) := by rw [hR2]; exact hv.2.1.1
        refine ⟨m2, ?_, rK_tr (z0_K M) k, h0⟩
        show ubi (f_X8_within (z0 M) (nI 9) 0 11) _ = _
        simp (decide := true) (disch := omega) only [r_wit_t h1, ubi_mk, r_may_t (z0_0 M), e, if_true, if_false, f_X8_told_b165, f_X8_told_b134, f_X8_told_b110, f_X8_told_b74, hm.2.2.2.1.1]
    · refine ⟨qrs s, m, ?_, cK_rf hc, fun M hM => ?_⟩
      · simp (decide := true) (disch := omega) only [f_X7_told, e_need_t h1, ubx_l, if_true, if_false, e_holders, e_money, e_worthHad hc.1.1, e_twos, ubi_mk, hc.2.1, hc.1.1.2.2.1, hc.1.1.2.2.2.1, hc.1.2.2, hc.2.2.2.2.1.1, hc.2.2.2.2.2.1.1]
      · obtain ⟨m2, e, k, hR2, h0⟩ := r_take' (rI_K hM (z0_K M)) (z0_0 M)
        have hm := rI_K (rI_K hM (z0_K M)) k
        have hv2 : vR (qT s) (cv (m2 54)) := by rw [hR2]; exact hv.2.1.1
        refine ⟨m2, ?_, rK_tr (z0_K M) k, h0⟩
        show ubi (f_X8_within (z0 M) (nI 10) 0 11) _ = _
        simp (decide := true) (disch := omega) only [r_wit_t h1, ubi_mk, r_may_t (z0_0 M), e, if_true, if_false, f_X8_told_b165, f_X8_told_b134, f_X8_told_b110, f_X8_told_b74, hm.2.2.2.2.1.1]
    · refine ⟨sums 5 (fun t => bc5 (sTouch (qR s) t)) / 2, m, ?_, cK_rf hc, fun M hM => ?_⟩
      · simp (decide := true) (disch := omega) only [f_X7_told, e_need_t h1, ubx_l, if_true, if_false, e_holders, e_money, e_worthHad hc.1.1, e_twos, ubi_mk, hc.2.1, hc.1.1.2.2.1, hc.1.1.2.2.2.1, hc.1.2.2, hc.2.2.2.2.1.1, hc.2.2.2.2.2.1.1]
      · obtain ⟨m2, e, k, hR2, h0⟩ := r_take' (rI_K hM (z0_K M)) (z0_0 M)
        have hm := rI_K (rI_K hM (z0_K M)) k
        have hv2 : vR (qT s) (cv (m2 54)) := by rw [hR2]; exact hv.2.1.1
        refine ⟨m2, ?_, rK_tr (z0_K M) k, h0⟩
        show ubi (f_X8_within (z0 M) (nI 11) 0 11) _ = _
        simp (decide := true) (disch := omega) only [r_wit_t h1, ubi_mk, r_may_t (z0_0 M), e, if_true, if_false, f_X8_told_b165, f_X8_told_b134, f_X8_told_b110, f_X8_told_b74, r_twos hm.1.1 hv2, hR2]
  · refine Or.inr ⟨tI m, tR (z0 (tI m)) 1 1, 0, ?_, ?_, tR_0, throwI hc hr hv 1⟩
    · simp only [f_X7_told, e_need_f h1, ubx_r]
    · show ubi (f_X8_within (z0 (tI m)) a1 0 11) _ = _
      simp (decide := true) (disch := omega) only [r_wit_f h1, ubi_mk, r_may_f1 (z0_0 _) (show ¬ (1 : Int32) = 0 by decide), if_true]
