theorem op_would : uop_would uI := by
  intro m a1 a2 a3 a4 a5 a6 a7 a8 ⟨s, hc, hr, hv⟩
  have hT5 := vI_T hc
  have hV8 := vI_V hc
  by_cases h1 : 1 ≤ a1 ∧ a1 ≤ 20
  · skip
    by_cases h2 : 1 ≤ a2 ∧ a2 ≤ 20
    · skip
      by_cases h3 : 0 ≤ a3 ∧ a3 ≤ 4
      · skip
        by_cases h4 : 0 ≤ a4 ∧ a4 ≤ 99
        · skip
          by_cases h5 : 0 ≤ a5 ∧ a5 ≤ 480
          · skip
            by_cases h6 : 0 ≤ a6 ∧ a6 ≤ 400
            · skip
              by_cases h7 : 0 ≤ a7 ∧ a7 ≤ 999
              · skip
                by_cases h8 : 0 ≤ a8 ∧ a8 ≤ 4
                · skip
                  refine Or.inl (wrapI (fr := fun M => f_X8_would M a1 a2 a3 a4 a5 a6 a7 a8) hc hr hv ?_)
                  have hL : cL (um_wa m 17 (gU (m 17) a1 a2 a3 a4 a5 a6 a7 a8)) (qn s) (qA s) := cL_of hc.1.2.1 (um_wa_n (by omega)) (um_wa_n (by omega))
                  obtain ⟨st, e1⟩ := e_lawLife hL
                  rw [um_wa_s] at e1
                  have e2 : lawLife (qA s) (qn s) (gU (m 17) a1 a2 a3 a4 a5 a6 a7 a8) = lawLife (qA s) (qn s) (gF a1 a2 a3 a4 a5 a6 a7 a8) := lawLife_cong (fun _ => ⟨rfl, rfl, rfl⟩) (fun k hk q1 q2 => gU_at _ _ _ _ _ _ _ _ _ (by
                    have h3 := (hc.1.2.1.2.1 k hk).1
                    unfold okA at h3
                    omega))
                  rw [e2] at e1
                  refine ⟨lawLife (qA s) (qn s) (gF a1 a2 a3 a4 a5 a6 a7 a8), um_wa (um_wa m 17 (gU (m 17) a1 a2 a3 a4 a5 a6 a7 a8)) 16 st, ?_, ?_, fun M hM => ?_⟩
                  · unfold gU at e1 ⊢
                    simp (decide := true) (disch := omega) only [f_X7_would, e_need_t h1, e_need_t h2, e_need_t h3, e_need_t h4, e_need_t h5, e_need_t h6, e_need_t h7, e_need_t h8, ubx_l, ubi_mk, if_true, if_false, ugd_t, um_w_def, um_wa_s, um_wa_wa, e1]
                  · exact ⟨fun c _ h16 h17 _ _ _ => by rw [um_wa_n h16, um_wa_n h17], fun k _ => by rw [um_wa_n (by omega), um_wa_n (by omega)], fun i hi => by rw [um_wa_n (by omega), um_wa_n (by omega)]; exact hc.2.2.1 i hi⟩
                  · have hM0 := rI_K hM (z0_K M)
                    obtain ⟨g, st2, e3⟩ := r_lifeOf hM0.1.2.1 a1 a2 a3 a4 a5 a6 a7 a8
                    refine ⟨um_wa (um_wa (z0 M) 50 g) 49 st2, ?_, rK_tr (z0_K M) ⟨fun c _ h49 h50 _ _ _ _ _ => by rw [um_wa_n h49, um_wa_n h50], fun k _ _ => by rw [um_wa_n (by omega), um_wa_n (by omega)]⟩, by rw [um_wa_n (by omega), um_wa_n (by omega)]; exact z0_0 M⟩
                    show ubi (f_X8_within (z0 (M)) a1 1 20) _ = _
                    simp (decide := true) (disch := omega) only [r_wit_t h1, r_wit_t h2, r_wit_t h3, r_wit_t h4, r_wit_t h5, r_wit_t h6, r_wit_t h7, r_wit_t h8, ubi_mk, r_may_t (z0_0 _), if_true, if_false, ugd_t, f_X8_would_b97, f_X8_would_b96, e3]
                · refine Or.inr ⟨tI m, tR (z0 (tI m)) 1 1, 0, ?_, ?_, tR_0, throwI hc hr hv 1⟩
                  · simp only [f_X7_would, e_need_t h1, e_need_t h2, e_need_t h3, e_need_t h4, e_need_t h5, e_need_t h6, e_need_t h7, e_need_f h8, ubx_l, ubx_r]
                  · have hm := rI_tI hr
                    show ubi (f_X8_within (z0 (tI m)) a1 1 20) _ = _
                    rw [r_wit_t h1, ubi_mk, if_neg (by decide), r_wit_t h2, ubi_mk, if_neg (by decide), r_wit_t h3, ubi_mk, if_neg (by decide), r_wit_t h4, ubi_mk, if_neg (by decide), r_wit_t h5, ubi_mk, if_neg (by decide), r_wit_t h6, ubi_mk, if_neg (by decide), r_wit_t h7, ubi_mk, if_neg (by decide), r_wit_f h8, ubi_mk, if_pos rfl]
                    simp (decide := true) (disch := omega) only [r_may_f1 (z0_0 _) i1_0, ubi_mk, if_true, if_false, f_X8_would_b97, f_X8_would_b96]
              · refine Or.inr ⟨tI m, tR (z0 (tI m)) 1 1, 0, ?_, ?_, tR_0, throwI hc hr hv 1⟩
                · simp only [f_X7_would, e_need_t h1, e_need_t h2, e_need_t h3, e_need_t h4, e_need_t h5, e_need_t h6, e_need_f h7, ubx_l, ubx_r]
                · have hm := rI_tI hr
                  show ubi (f_X8_within (z0 (tI m)) a1 1 20) _ = _
                  rw [r_wit_t h1, ubi_mk, if_neg (by decide), r_wit_t h2, ubi_mk, if_neg (by decide), r_wit_t h3, ubi_mk, if_neg (by decide), r_wit_t h4, ubi_mk, if_neg (by decide), r_wit_t h5, ubi_mk, if_neg (by decide), r_wit_t h6, ubi_mk, if_neg (by decide), r_wit_f h7, ubi_mk, if_pos rfl]
                  simp (decide := true) (disch := omega) only [r_may_f1 (z0_0 _) i1_0, ubi_mk, if_true, if_false, f_X8_would_b97, f_X8_would_b96]
            · refine Or.inr ⟨tI m, tR (z0 (tI m)) 1 1, 0, ?_, ?_, tR_0, throwI hc hr hv 1⟩
              · simp only [f_X7_would, e_need_t h1, e_need_t h2, e_need_t h3, e_need_t h4, e_need_t h5, e_need_f h6, ubx_l, ubx_r]
              · have hm := rI_tI hr
                show ubi (f_X8_within (z0 (tI m)) a1 1 20) _ = _
                rw [r_wit_t h1, ubi_mk, if_neg (by decide), r_wit_t h2, ubi_mk, if_neg (by decide), r_wit_t h3, ubi_mk, if_neg (by decide), r_wit_t h4, ubi_mk, if_neg (by decide), r_wit_t h5, ubi_mk, if_neg (by decide), r_wit_f h6, ubi_mk, if_pos rfl]
                simp (decide := true) (disch := omega) only [r_may_f1 (z0_0 _) i1_0, ubi_mk, if_true, if_false, f_X8_would_b97, f_X8_would_b96]
          · refine Or.inr ⟨tI m, tR (z0 (tI m)) 1 1, 0, ?_, ?_, tR_0, throwI hc hr hv 1⟩
            · simp only [f_X7_would, e_need_t h1, e_need_t h2, e_need_t h3, e_need_t h4, e_need_f h5, ubx_l, ubx_r]
            · have hm := rI_tI hr
              show ubi (f_X8_within (z0 (tI m)) a1 1 20) _ = _
              rw [r_wit_t h1, ubi_mk, if_neg (by decide), r_wit_t h2, ubi_mk, if_neg (by decide), r_wit_t h3, ubi_mk, if_neg (by decide), r_wit_t h4, ubi_mk, if_neg (by decide), r_wit_f h5, ubi_mk, if_pos rfl]
              simp (decide := true) (disch := omega) only [r_may_f1 (z0_0 _) i1_0, ubi_mk, if_true, if_false, f_X8_would_b97, f_X8_would_b96]
        · refine Or.inr ⟨tI m, tR (z0 (tI m)) 1 1, 0, ?_, ?_, tR_0, throwI hc hr hv 1⟩
          · simp only [f_X7_would, e_need_t h1, e_need_t h2, e_need_t h3, e_need_f h4, ubx_l, ubx_r]
          · have hm := rI_tI hr
            show ubi (f_X8_within (z0 (tI m)) a1 1 20) _ = _
            rw [r_wit_t h1, ubi_mk, if_neg (by decide), r_wit_t h2, ubi_mk, if_neg (by decide), r_wit_t h3, ubi_mk, if_neg (by decide), r_wit_f h4, ubi_mk, if_pos rfl]
            simp (decide := true) (disch := omega) only [r_may_f1 (z0_0 _) i1_0, ubi_mk, if_true, if_false, f_X8_would_b97, f_X8_would_b96]
      · refine Or.inr ⟨tI m, tR (z0 (tI m)) 1 1, 0, ?_, ?_, tR_0, throwI hc hr hv 1⟩
        · simp only [f_X7_would, e_need_t h1, e_need_t h2, e_need_f h3, ubx_l, ubx_r]
        · have hm := rI_tI hr
          show ubi (f_X8_within (z0 (tI m)) a1 1 20) _ = _
          rw [r_wit_t h1, ubi_mk, if_neg (by decide), r_wit_t h2, ubi_mk, if_neg (by decide), r_wit_f h3, ubi_mk, if_pos rfl]
          simp (decide := true) (disch := omega) only [r_may_f1 (z0_0 _) i1_0, ubi_mk, if_true, if_false, f_X8_would_b97, f_X8_would_b96]
    · refine Or.inr ⟨tI m, tR (z0 (tI m)) 1 1, 0, ?_, ?_, tR_0, throwI hc hr hv 1⟩
      · simp only [f_X7_would, e_need_t h1, e_need_f h2, ubx_l, ubx_r]
      · have hm := rI_tI hr
        show ubi (f_X8_within (z0 (tI m)) a1 1 20) _ = _
        rw [r_wit_t h1, ubi_mk, if_neg (by decide), r_wit_f h2, ubi_mk, if_pos rfl]
        simp (decide := true) (disch := omega) only [r_may_f1 (z0_0 _) i1_0, ubi_mk, if_true, if_false, f_X8_would_b97, f_X8_would_b96]
  · refine Or.inr ⟨tI m, tR (z0 (tI m)) 1 1, 0, ?_, ?_, tR_0, throwI hc hr hv 1⟩
    · simp only [f_X7_would, e_need_f h1, ubx_l, ubx_r]
    · have hm := rI_tI hr
      show ubi (f_X8_within (z0 (tI m)) a1 1 20) _ = _
      rw [r_wit_f h1, ubi_mk, if_pos rfl]
      simp (decide := true) (disch := omega) only [r_may_f1 (z0_0 _) i1_0, ubi_mk, if_true, if_false, f_X8_would_b97, f_X8_would_b96]
theorem sOwn_cong {X R R' : Nat → Int32} {v : Nat} (h : ∀ u, u < 5 → R (13 + u) = R' (13 + u) ∧ R (18 + u) = R' (18 + u)) : sOwn X R v = sOwn X R' v := by
  unfold sOwn
  rw [lp_cong0 (g := owS X R' v) 5 (-1, 100) (fun j hj p => by
    unfold owS sSees sFar
    rw [sHas_cong (h j hj).1, (h j hj).1, (h j hj).2])]
theorem sWorth_cong {X W R R' : Nat → Int32} {V t : Nat} (h : ∀ u, u < 5 → R (13 + u) = R' (13 + u) ∧ R (18 + u) = R' (18 + u)) : sWorth X W R V t = sWorth X W R' V t := by
  unfold sWorth
  exact sums_cong (fun v _ => by rw [sOwn_cong h])
theorem op_offer : uop_offer uI := by
  intro m a1 a2 ⟨s, hc, hr, hv⟩
  have hT5 := vI_T hc
  have hV8 := vI_V hc
  by_cases h1 : ∃ v, v < qT s ∧ a1 = nI v
  · obtain ⟨t1, ht1, rfl⟩ := h1
    by_cases h2 : 1 ≤ a2 ∧ a2 ≤ 20
    · skip
      refine Or.inl (wrapI (fr := fun M => f_X8_offer M (nI t1) a2) hc hr hv ?_)
      have ht5 : t1 < 5 := by omega
      have hn : 0 ≤ a2.toInt ∧ a2.toInt ≤ 20 := by
        have q1 := h2.1
        have q2 := h2.2
        rw [Int32.le_iff_toInt_le] at q1 q2
        rw [i_1] at q1
        rw [i_20] at q2
        omega
      cases hh : sHas (qR s) t1
      · obtain ⟨m0, e0, h0⟩ := e_copyT hc hv
        have hst := (hv.2.1.1.2.1 t1 ht5).2.2
        have hvp : vR (qT s) (putB (qR s) t1 a2 (qR s (8 + t1)) 0) := vR_put hv.2.1.1 ht5 hn hst (fun q => by omega)
        have k1 : cT m (um_wa m0 26 (putB (m0 26) t1 a2 (qR s (8 + t1)) 0)) (putB (qR s) t1 a2 (qR s (8 + t1)) 0) := ⟨fun c a b d => by rw [um_wa_n d, h0.1 c a b d], by rw [um_wa_s, h0.2]⟩
        have ew : f_X4_worthOf 25 (um_wa m0 26 (putB (m0 26) t1 a2 (qR s (8 + t1)) 0)) (nI t1) = some (um_wa m0 26 (putB (m0 26) t1 a2 (qR s (8 + t1)) 0), sWorth (qX s) (qW s) (putB (qR s) t1 a2 (qR s (8 + t1)) 0) (qV s) t1) := by
          rw [e_worthOf (cT_X hc.1 k1).1 ht5, k1.2]
        refine ⟨sWorth (qX s) (qW s) (putB (qR s) t1 a2 (qR s (8 + t1)) 0) (qV s) t1, um_wa m0 26 (putB (m0 26) t1 a2 (qR s (8 + t1)) 0), ?_, cT_K k1 hvp, fun M hM => ?_⟩
        · simp (decide := true) (disch := omega) only [f_X7_offer, e_ten_t hc.1.1.2.2.2.1 (show qT s ≤ 8 by omega) ht1, e_need_t h2, ubx_l, ubi_mk, if_true, if_false, ugd_t, e_has ht5, hc.2.1, hh, bi_f, e0, lit_add, uin_n, nI_clamp, h0.2, e_put ht5]
          rw [h0.2] at ew
          rw [ew, ubi_mk]
        · obtain ⟨m2, e, k, hR2, h0⟩ := r_take' (rI_K hM (z0_K M)) (z0_0 M)
          have hM0 := rI_K hM (z0_K M)
          have hm := rI_K hM0 k
          have hv2 : vR (qT s) (cv (m2 54)) := by rw [hR2]; exact hv.2.1.1
          have hs' : qR s (13 + t1) ≤ 0 := by
            unfold sHas at hh
            simpa using hh
          have e5 : cv (upd (upd (m2 54) (10 + t1) a2) (15 + t1) (qR s (8 + t1))) = upd (upd (qR s) (13 + t1) a2) (18 + t1) (qR s (8 + t1)) := by
            rw [cv_upd _ _ (by omega), cv_upd _ _ (by omega), hR2, show 10 + t1 + 3 = 13 + t1 by omega, show 15 + t1 + 3 = 18 + t1 by omega]
          have hvq : vR (qT s) (upd (upd (qR s) (13 + t1) a2) (18 + t1) (qR s (8 + t1))) := vR_pl (vR_sz hv.2.1.1 ht5 hn.1 hn.2 (fun q => by omega)) ht5 hst.1 hst.2 (fun q => by omega)
          have hm3 : rI (um_wa m2 54 (upd (upd (m2 54) (10 + t1) a2) (15 + t1) (qR s (8 + t1)))) s := rI_K hm ⟨fun c _ _ _ h _ _ _ _ => um_wa_n h, fun k _ _ => by rw [um_wa_n (by omega)]⟩
          have hv3 : vR (qT s) (cv ((um_wa m2 54 (upd (upd (m2 54) (10 + t1) a2) (15 + t1) (qR s (8 + t1)))) 54)) := by rw [um_wa_s, e5]; exact hvq
          have e6 : sums (qV s) (fun v => bi (decide (sOwn (qX s) (upd (upd (qR s) (13 + t1) a2) (18 + t1) (qR s (8 + t1))) v = nI t1)) * qW s v) = sWorth (qX s) (qW s) (putB (qR s) t1 a2 (qR s (8 + t1)) 0) (qV s) t1 := by
            refine sWorth_cong (t := t1) (fun u hu => ?_)
            unfold putB
            rw [upd_n (k := 23 + t1) (j := 13 + u) (by omega), upd_n (k := 23 + t1) (j := 18 + u) (by omega)]
            exact ⟨rfl, rfl⟩
          refine ⟨um_wa m2 54 (upd (upd (m2 54) (10 + t1) a2) (15 + t1) (qR s (8 + t1))), ?_, rK_tr (rK_tr (z0_K M) k) ⟨fun c _ _ _ h _ _ _ _ => um_wa_n h, fun k _ _ => by rw [um_wa_n (by omega)]⟩, by rw [um_wa_n (by omega)]; exact h0⟩
          show ubi (f_X8_isTenant (z0 (M)) (nI t1) 1) _ = _
          simp (decide := true) (disch := omega) only [r_ten_t hM0.1.1.2.2.2.1 (show qT s ≤ 8 by omega) ht1 (z0_0 _), r_wit_t h2, ubi_mk, r_may_t (z0_0 _), if_true, if_false, ugd_t, f_X8_offer_b30, e, lit_add, uin_n, nI_clamp, c_si m2 ht5, c_st m2 ht5, hR2, hs', um_w_def, um_wa_s, um_wa_wa, upd_n, r_ownedBy hm3.1.1 hv3, r_worth hm3.1.1, e5, e6]
      · refine ⟨-1, m, ?_, cK_rf hc, fun M hM => ?_⟩
        · simp (decide := true) (disch := omega) only [f_X7_offer, e_ten_t hc.1.1.2.2.2.1 (show qT s ≤ 8 by omega) ht1, e_need_t h2, ubx_l, ubi_mk, if_true, if_false, ugd_t, e_has ht5, hc.2.1, hh, bi_t]
        · obtain ⟨m2, e, k, hR2, h0⟩ := r_take' (rI_K hM (z0_K M)) (z0_0 M)
          have hM0 := rI_K hM (z0_K M)
          have hm := rI_K hM0 k
          have hv2 : vR (qT s) (cv (m2 54)) := by rw [hR2]; exact hv.2.1.1
          have hs' : ¬ qR s (13 + t1) ≤ 0 := by
            unfold sHas at hh
            simpa using hh
          refine ⟨m2, ?_, rK_tr (z0_K M) k, h0⟩
          show ubi (f_X8_isTenant (z0 (M)) (nI t1) 1) _ = _
          simp (decide := true) (disch := omega) only [r_ten_t hM0.1.1.2.2.2.1 (show qT s ≤ 8 by omega) ht1 (z0_0 _), r_wit_t h2, ubi_mk, r_may_t (z0_0 _), if_true, if_false, ugd_t, f_X8_offer_b30, e, lit_add, uin_n, nI_clamp, c_si m2 ht5, hR2, hs']
    · refine Or.inr (Or.inr ⟨tI m, tR (z0 (tI m)) 2 1, 0, ?_, ?_, tR_0, throwI hc hr hv 2⟩)
      · simp only [f_X7_offer, e_ten_t hc.1.1.2.2.2.1 (show qT s ≤ 8 by omega) ht1, e_need_f h2, ubx_l, ubx_r]
      · have hm := rI_tI hr
        show ubi (f_X8_isTenant (z0 (tI m)) (nI t1) 1) _ = _
        simp (decide := true) (disch := omega) only [r_ten_t hm.1.1.2.2.2.1 (show qT s ≤ 8 by omega) ht1 (z0_0 _), r_wit_f h2, r_may_f1 (z0_0 _) i2_0, ubi_mk, if_true, if_false, f_X8_offer_b30]
  · refine Or.inr (Or.inl ⟨tN m, tR (z0 (tN m)) 1 0, 0, ?_, ?_, tR_0, throwN hc hr hv 1⟩)
    · simp only [f_X7_offer, e_ten_f hc.1.1.2.2.2.1 (show qT s ≤ 8 by omega) h1, ubx_l, ubx_r]
    · have hm := rI_tN hr
      show ubi (f_X8_isTenant (z0 (tN m)) a1 1) _ = _
      simp (decide := true) (disch := omega) only [r_ten_f hm.1.1.2.2.2.1 (show qT s ≤ 8 by omega) h1 (z0_0 _) i1_0, ubi_mk, if_true, if_false, f_X8_offer_b30]
theorem r_buy {m m0 : Um} {s : Ss} (hr : rI m s) (hv : vI s) (h0 : rK m m0) {t : Nat} (ht : t < 5) (x : Int32) (hT5 : qT s ≤ 5) : ∃ m1, f_X8_buyers_b37 UF m0 (nI t) x 0 0 = some (m1, bits (qT s) (fun u => sSell (qR s) t u x)) ∧ rK m m1 ∧ m1 38 0 = m0 38 0 := by
  have := lp_rel (fun q (p : Um × Int32) u => f_X8_buyers_b37 q p.1 (nI t) x p.2 (nI u)) (qT s) (fun u p => rK m p.1 ∧ p.1 38 0 = m0 38 0 ∧ p.2 = bits u (fun u => sSell (qR s) t u x)) (fun b => rK m b.1 ∧ b.1 38 0 = m0 38 0 ∧ b.2 = bits (qT s) (fun u => sSell (qR s) t u x)) ?_ ?_ (qT s) 0 (m0, 0) UF (Nat.zero_add _) (by show qT s < 3000; omega) ⟨h0, rfl, rfl⟩
  · obtain ⟨⟨m1, r⟩, e1, k1, z1, e2⟩ := this
    simp only at e2
    subst e2
    exact ⟨m1, e1, k1, z1⟩
  · intro q p u hu hP
    obtain ⟨m1, a⟩ := p
    obtain ⟨k1, z1, ha⟩ := hP
    simp only at k1 z1 ha
    have hm := rI_K hr k1
    obtain ⟨S, e1, e2⟩ := r_take m1
    have hR : cv ((um_wa m1 54 S) 54) = qR s := by rw [um_wa_s, e2]; exact hm.2.1
    obtain ⟨S2, e3, e4⟩ := r_sold (m := um_wa m1 54 S) (T := qT s) (by rw [hR]; exact hv.2.1.1) ht (show u < 5 by omega) x
    rw [hR, um_wa_wa] at e3
    refine ⟨(um_wa m1 54 S2, if sSell (qR s) t u x = true then a ||| bt u else a), ?_, ⟨?_, ?_⟩, ?_, ?_⟩
    · show f_X8_buyers_b37 (q + 1) m1 (nI t) x a (nI u) = f_X8_buyers_b37 q (um_wa m1 54 S2) (nI t) x (if sSell (qR s) t u x = true then a ||| bt u else a) (nI (u + 1))
      rw [f_X8_buyers_b37, hm.1.1.2.2.2.1, if_neg (nI_ge (by omega) (by omega)), e1, ubi_mk, e3, ubi_mk, ite_bi0]
      simp only [f_X8_buyers_b70, nI_1]
      by_cases h : sSell (qR s) t u x = true <;> simp [h, bt]
    · intro c a1 a2 a3 a4 a5 a6 a7 a8
      show um_wa m1 54 S2 c = m c
      rw [um_wa_n a4]
      exact k1.1 c a1 a2 a3 a4 a5 a6 a7 a8
    · intro k a1 a2
      show um_wa m1 54 S2 38 k = m 38 k
      rw [um_wa_n (by omega)]
      exact k1.2 k a1 a2
    · show um_wa m1 54 S2 38 0 = m0 38 0
      rw [um_wa_n (by omega)]
      exact z1
    · show _ = bits (u + 1) _
      rw [bits_succ, ha]
  · intro q p hP
    refine ⟨(p.1, p.2), ?_, hP.1, hP.2.1, hP.2.2⟩
    show f_X8_buyers_b37 (q + 1) p.1 (nI t) x p.2 (nI (qT s)) = _
    rw [f_X8_buyers_b37, (rI_K hr hP.1).1.1.2.2.2.1, if_pos (nI_le (Nat.le_refl _) (by omega))]
theorem op_buyers : uop_buyers uI := by
  intro m a1 a2 ⟨s, hc, hr, hv⟩
  have hT5 := vI_T hc
  have hV8 := vI_V hc
  by_cases h1 : ∃ v, v < qT s ∧ a1 = nI v
  · obtain ⟨t1, ht1, rfl⟩ := h1
    by_cases h2 : 0 ≤ a2 ∧ a2 ≤ 99
    · skip
      refine Or.inl (wrapI (fr := fun M => f_X8_buyers M (nI t1) a2) hc hr hv ?_)
      have ht5 : t1 < 5 := by omega
      refine ⟨bits (qT s) (fun u => sSell (qR s) t1 u a2), m, ?_, cK_rf hc, fun M hM => ?_⟩
      · simp (decide := true) (disch := omega) only [f_X7_buyers, e_ten_t hc.1.1.2.2.2.1 (show qT s ≤ 8 by omega) ht1, e_need_t h2, ubx_l, ubi_mk, if_true, if_false, ugd_t]
        refine lp_run0 (fun n (a : Int32) u => f_X7_buyers_b18 n m (nI t1) a2 a (nI u)) (qT s) _ (fun a => some (m, .inl a)) ?_ ?_ 0 (by show qT s < 3000; omega)
        · intro n a u hu
          show f_X7_buyers_b18 (n + 1) m (nI t1) a2 a (nI u) = f_X7_buyers_b18 n m (nI t1) a2 (if sSell (qR s) t1 u a2 = true then a ||| bt u else a) (nI (u + 1))
          rw [f_X7_buyers_b18, hc.1.1.2.2.2.1, if_neg (nI_ge (by omega) (by omega)), e_canSell ht5 (by omega), ubi_mk, hc.2.1, ite_bi0]
          simp only [f_X7_buyers_b51, nI_1]
          by_cases h : sSell (qR s) t1 u a2 = true <;> simp [h, bt]
        · intro n a
          show f_X7_buyers_b18 (n + 1) m (nI t1) a2 a (nI (qT s)) = some (m, .inl a)
          rw [f_X7_buyers_b18, hc.1.1.2.2.2.1, if_pos (nI_le (Nat.le_refl _) (by omega))]
      · have hM0 := rI_K hM (z0_K M)
        obtain ⟨m1, e1, k1, z1⟩ := r_buy hM0 hv (rK_rf _) ht5 a2 hT5
        refine ⟨m1, ?_, rK_tr (z0_K M) k1, by rw [z1]; exact z0_0 M⟩
        show ubi (f_X8_isTenant (z0 (M)) (nI t1) 1) _ = _
        simp (decide := true) (disch := omega) only [r_ten_t hM0.1.1.2.2.2.1 (show qT s ≤ 8 by omega) ht1 (z0_0 _), r_wit_t h2, ubi_mk, r_may_t (z0_0 _), if_true, if_false, ugd_t, f_X8_buyers_b30, e1]
    · refine Or.inr (Or.inr ⟨tI m, tR (z0 (tI m)) 2 1, 0, ?_, ?_, tR_0, throwI hc hr hv 2⟩)
      · simp only [f_X7_buyers, e_ten_t hc.1.1.2.2.2.1 (show qT s ≤ 8 by omega) ht1, e_need_f h2, ubx_l, ubx_r]
      · have hm := rI_tI hr
        show ubi (f_X8_isTenant (z0 (tI m)) (nI t1) 1) _ = _
        simp (decide := true) (disch := omega) only [r_ten_t hm.1.1.2.2.2.1 (show qT s ≤ 8 by omega) ht1 (z0_0 _), r_wit_f h2, r_may_f1 (z0_0 _) i2_0, ubi_mk, if_true, if_false, f_X8_buyers_b30]
  · refine Or.inr (Or.inl ⟨tN m, tR (z0 (tN m)) 1 0, 0, ?_, ?_, tR_0, throwN hc hr hv 1⟩)
    · simp only [f_X7_buyers, e_ten_f hc.1.1.2.2.2.1 (show qT s ≤ 8 by omega) h1, ubx_l, ubx_r]
    · have hm := rI_tN hr
      show ubi (f_X8_isTenant (z0 (tN m)) a1 1) _ = _
      simp (decide := true) (disch := omega) only [r_ten_f hm.1.1.2.2.2.1 (show qT s ≤ 8 by omega) h1 (z0_0 _) i1_0, ubi_mk, if_true, if_false, f_X8_buyers_b30]
def dscF (R : Nat → Int32) (t : Nat) : Nat → Int32
  | 0 => 0
  | k + 1 => if 1 + nI (k + 1) / 5 ≤ R (3 + t) then nI (k + 1) else dscF R t k
theorem r_aff {m : Um} {R : Nat → Int32} {t : Nat} (ht : t < 5) (hR : cv (m 53) = R) : ∀ (k fuel : Nat), k < fuel → k ≤ 20 → f_X8_affords_b33 fuel m (nI t) (nI k) = some (m, dscF R t k)
  | k, 0, hf, _ => absurd hf (Nat.not_lt_zero _)
  | 0, fuel + 1, _, _ => by
    rw [f_X8_affords_b33, if_pos (by decide)]
    rfl
  | k + 1, fuel + 1, hf, hk => by
    rw [f_X8_affords_b33, if_neg (nI_nle (by omega) (by omega)), lit_add, uin_n (by omega) (by omega), ugd_t, nI_clamp (by omega), cc_pu (m 53) ht, hR, nI_dec1 (by omega), show k + 1 - 1 = k by omega, r_aff ht hR k fuel (by omega) (by omega), dscF]
    simp only [f_X8_affords_b59]
    split <;> rfl
def affS (R : Nat → Int32) (t k : Nat) (a : Int32) : Int32 := if sCan R t (nI k) = true then nI k else a
theorem aff_eq {R : Nat → Int32} {t : Nat} (h : sHas R t = false) : ∀ k, lp (affS R t) k 1 0 = dscF R t k
  | 0 => rfl
  | k + 1 => by
    rw [lp_succ, aff_eq h k, dscF, show 1 + k = k + 1 by omega]
    unfold affS sCan
    rw [h]
    have : (1 + nI (k + 1) / 5 ≤ R (3 + t)) = ¬ R (3 + t) < 1 + nI (k + 1) / 5 := propext (by rw [Int32.lt_iff_toInt_lt, Int32.le_iff_toInt_le]; omega)
    by_cases q : R (3 + t) < 1 + nI (k + 1) / 5
    · have q2 : ¬ 1 + nI (k + 1) / 5 ≤ R (3 + t) := by rw [this]; exact not_not_intro q
      simp [q, q2]
    · have q2 : 1 + nI (k + 1) / 5 ≤ R (3 + t) := by rw [this]; exact q
      simp [q, q2]
theorem op_affords : uop_affords uI := by
  intro m a1 ⟨s, hc, hr, hv⟩
  have hT5 := vI_T hc
  have hV8 := vI_V hc
  by_cases h1 : ∃ v, v < qT s ∧ a1 = nI v
  · obtain ⟨t1, ht1, rfl⟩ := h1
    refine Or.inl (wrapI (fr := fun M => f_X8_affords M (nI t1)) hc hr hv ?_)
    have ht5 : t1 < 5 := by omega
    cases hh : sHas (qR s) t1
    · refine ⟨dscF (qR s) t1 20, m, ?_, cK_rf hc, fun M hM => ?_⟩
      · simp (decide := true) (disch := omega) only [f_X7_affords, e_ten_t hc.1.1.2.2.2.1 (show qT s ≤ 8 by omega) ht1, ubx_l, ubi_mk, if_true, if_false, ugd_t, e_has ht5, hc.2.1, hh, bi_f]
        rw [← aff_eq hh 20]
        have := lp_run (fun n (a : Int32) k => f_X7_affords_b22 n m (nI t1) a (nI k)) 21 (affS (qR s) t1) (fun _ _ => True) (fun a => some (m, Sum.inl a)) ?_ ?_ 20 1 0 UF rfl (by decide) trivial
        · exact this
        · intro n a k hk _
          refine ⟨?_, trivial⟩
          show f_X7_affords_b22 (n + 1) m (nI t1) a (nI k) = f_X7_affords_b22 n m (nI t1) (affS (qR s) t1 k a) (nI (k + 1))
          rw [f_X7_affords_b22, if_neg (lit_nlt (show k ≤ 20 by omega) (by omega)), e_canBlow ht5, ubi_mk, hc.2.1, ite_bi0]
          simp only [f_X7_affords_b42, nI_1]
          unfold affS
          by_cases h : sCan (qR s) t1 (nI k) = true <;> simp [h]
        · intro n a _
          show f_X7_affords_b22 (n + 1) m (nI t1) a (nI 21) = _
          rw [f_X7_affords_b22, if_pos (by decide)]
      · have hM0 := rI_K hM (z0_K M)
        have hs' : qR s (13 + t1) ≤ 0 := by
          unfold sHas at hh
          simpa using hh
        refine ⟨z0 M, ?_, z0_K M, z0_0 M⟩
        show ubi (f_X8_isTenant (z0 (M)) (nI t1) 1) _ = _
        simp (decide := true) (disch := omega) only [r_ten_t hM0.1.1.2.2.2.1 (show qT s ≤ 8 by omega) ht1 (z0_0 _), ubi_mk, r_may_t (z0_0 _), if_true, if_false, ugd_t, f_X8_affords_b59, lit_add, uin_n, nI_clamp, cc_si (z0 M 53) ht5, hM0.2.1, hs']
        exact r_aff ht5 hM0.2.1 20 UF (by decide) (by omega)
    · refine ⟨-1, m, ?_, cK_rf hc, fun M hM => ?_⟩
      · simp (decide := true) (disch := omega) only [f_X7_affords, e_ten_t hc.1.1.2.2.2.1 (show qT s ≤ 8 by omega) ht1, ubx_l, ubi_mk, if_true, if_false, ugd_t, e_has ht5, hc.2.1, hh, bi_t]
      · have hM0 := rI_K hM (z0_K M)
        have hs' : ¬ qR s (13 + t1) ≤ 0 := by
          unfold sHas at hh
          simpa using hh
        refine ⟨z0 M, ?_, z0_K M, z0_0 M⟩
        show ubi (f_X8_isTenant (z0 (M)) (nI t1) 1) _ = _
        simp (decide := true) (disch := omega) only [r_ten_t hM0.1.1.2.2.2.1 (show qT s ≤ 8 by omega) ht1 (z0_0 _), ubi_mk, r_may_t (z0_0 _), if_true, if_false, ugd_t, f_X8_affords_b59, lit_add, uin_n, nI_clamp, cc_si (z0 M 53) ht5, hM0.2.1, hs']
  · refine Or.inr ⟨tN m, tR (z0 (tN m)) 1 0, 0, ?_, ?_, tR_0, throwN hc hr hv 1⟩
    · simp only [f_X7_affords, e_ten_f hc.1.1.2.2.2.1 (show qT s ≤ 8 by omega) h1, ubx_l, ubx_r]
    · have hm := rI_tN hr
      show ubi (f_X8_isTenant (z0 (tN m)) a1 1) _ = _
      simp (decide := true) (disch := omega) only [r_ten_f hm.1.1.2.2.2.1 (show qT s ≤ 8 by omega) h1 (z0_0 _) i1_0, ubi_mk, if_true, if_false, f_X8_affords_b59]
def wW (X W : Nat → Int32) (V : Nat) (a b : Int32) : Int32 := sums V (fun v => if a ≤ X v ∧ X v ≤ b then W v else 0)
theorem e_within {m : Um} {V T : Nat} {X W : Nat → Int32} (hc : cC m V T X W) (a b : Int32) : f_X1_worthWithin m a b = some (m, wW X W V a b) := by
  have hV := hc.1
  refine lp_run0 (fun n (p : Int32) v => f_X1_worthWithin_b5 n m a b p (nI v)) V _ (fun p => some (m, p)) ?_ ?_ 0 (by show V < 3000; omega)
  · intro n p v hv
    show f_X1_worthWithin_b5 (n + 1) m a b p (nI v) = f_X1_worthWithin_b5 n m a b (p + if a ≤ X v ∧ X v ≤ b then W v else 0) (nI (v + 1))
    have l1 : (X v < a) = ¬ a ≤ X v := propext (by rw [Int32.lt_iff_toInt_lt, Int32.le_iff_toInt_le]; omega)
    have l2 : (b < X v) = ¬ X v ≤ b := propext (by rw [Int32.lt_iff_toInt_lt, Int32.le_iff_toInt_le]; omega)
    rw [f_X1_worthWithin_b5, hc.2.2.1, if_neg (nI_ge (by omega) (by omega)), uin_n (by omega) (by omega), ugd_t, ugd_t, ugd_t, nI_clamp (by omega), hc.2.2.2.2.1 v hv, hc.2.2.2.2.2 v hv]
    simp only [l1, l2, f_X1_worthWithin_b46, nI_1]
    by_cases q1 : a ≤ X v <;> by_cases q2 : X v ≤ b <;> simp [q1, q2]
  · intro n p
    show f_X1_worthWithin_b5 (n + 1) m a b p (nI V) = _
    rw [f_X1_worthWithin_b5, hc.2.2.1, if_pos (nI_le (Nat.le_refl _) (by omega))]
theorem r_from {m : Um} {V T : Nat} {X W : Nat → Int32} (hc : rC m V T X W) (a b : Int32) : f_X8_worthFrom m a b = some (m, wW X W V a b) := by
  have hV := hc.1
  refine lp_run0 (fun n (p : Int32) v => f_X8_worthFrom_b5 n m a b p (nI v)) V _ (fun p => some (m, p)) ?_ ?_ 0 (by show V < 3000; omega)
  · intro n p v hv
    show f_X8_worthFrom_b5 (n + 1) m a b p (nI v) = f_X8_worthFrom_b5 n m a b (p + if a ≤ X v ∧ X v ≤ b then W v else 0) (nI (v + 1))
    rw [f_X8_worthFrom_b5, hc.2.2.1, if_neg (nI_ge (by omega) (by omega)), lit_mul, uin_n (by omega) (by omega), ugd_t, nI_clamp (by omega), hc.2.2.2.2.1 v hv, r_within, ubi_mk, ite_bi0]
    simp (disch := omega) only [f_X8_worthFrom_b47, nI_1, uin_n, ugd_t, nI_clamp, hc.2.2.2.2.2 v hv]
    by_cases q : a ≤ X v ∧ X v ≤ b <;> simp [q]
  · intro n p
    show f_X8_worthFrom_b5 (n + 1) m a b p (nI V) = _
    rw [f_X8_worthFrom_b5, hc.2.2.1, if_pos (nI_le (Nat.le_refl _) (by omega))]
theorem wW_rng {V : Nat} {X W : Nat → Int32} (hV : V ≤ 8) (hW : ∀ v, v < V → 0 ≤ (W v).toInt ∧ (W v).toInt ≤ 60) (a b : Int32) : 0 ≤ (wW X W V a b).toInt ∧ (wW X W V a b).toInt ≤ 480 := by
  unfold wW
  have := sums_rng (n := V) (w := fun v => if a ≤ X v ∧ X v ≤ b then W v else 0) (b := 60) hV (by omega) (fun v hv => by
    have h1 := hW v hv
    show 0 ≤ (if a ≤ X v ∧ X v ≤ b then W v else 0 : Int32).toInt ∧ (if a ≤ X v ∧ X v ≤ b then W v else 0 : Int32).toInt ≤ 60
    split
    · exact h1
    · rw [i_0]
      omega)
  omega
def piS (X W : Nat → Int32) (V : Nat) (a : Int32) (x : Nat) (p : Int32 × Int32) : Int32 × Int32 := if wW X W V (nI x - a) (nI x + a) ≤ p.2 then p else (nI x, wW X W V (nI x - a) (nI x + a))
theorem e_pit {m : Um} {V T : Nat} {X W : Nat → Int32} (hc : cC m V T X W) (a y : Int32) : f_X7_pitch_b23 UF m a y 0 (-1) 0 = some (m, .inl (if y = 0 then (lp (piS X W V a) 100 0 (0, -1)).1 else (lp (piS X W V a) 100 0 (0, -1)).2)) := by
  refine lp_run0 (fun n (p : Int32 × Int32) x => f_X7_pitch_b23 n m a y p.1 p.2 (nI x)) 100 (piS X W V a) (fun p => some (m, .inl (if y = 0 then p.1 else p.2))) ?_ ?_ (0, -1) (by decide)
  · intro n p x hx
    show f_X7_pitch_b23 (n + 1) m a y p.1 p.2 (nI x) = f_X7_pitch_b23 n m a y (piS X W V a x p).1 (piS X W V a x p).2 (nI (x + 1))
    rw [f_X7_pitch_b23, if_neg (lit_nlt (show x ≤ 99 by omega) (by omega)), e_within hc, ubi_mk]
    simp only [f_X7_pitch_b61, nI_1]
    unfold piS
    by_cases c : wW X W V (nI x - a) (nI x + a) ≤ p.2 <;> simp [c]
  · intro n p
    show f_X7_pitch_b23 (n + 1) m a y p.1 p.2 (nI 100) = _
    rw [f_X7_pitch_b23, if_pos (by decide)]
    simp only [f_X7_pitch_b77]
    split <;> rfl
theorem r_pit {m : Um} {V T : Nat} {X W : Nat → Int32} (hc : rC m V T X W) (a y : Int32) : f_X8_pitch_b45 UF m a y 0 1 = some (m, (if y = 0 then (lp (piS X W V a) 99 1 (0, wW X W V (nI 0 - a) (nI 0 + a))).1 else (lp (piS X W V a) 99 1 (0, wW X W V (nI 0 - a) (nI 0 + a))).2)) := by
  have := lp_run (fun n (p : Int32 × Int32) x => f_X8_pitch_b45 n m a y p.1 (nI x)) 100 (piS X W V a) (fun _ p => p.2 = wW X W V (p.1 - a) (p.1 + a)) (fun p => some (m, (if y = 0 then p.1 else p.2))) ?_ ?_ 99 1 (0, wW X W V (nI 0 - a) (nI 0 + a)) UF rfl (by decide) rfl
  · exact this
  · intro n p x hx hp
    refine ⟨?_, ?_⟩
    · show f_X8_pitch_b45 (n + 1) m a y p.1 (nI x) = f_X8_pitch_b45 n m a y (piS X W V a x p).1 (nI (x + 1))
      rw [f_X8_pitch_b45, if_neg (lit_nlt (show x ≤ 99 by omega) (by omega)), r_from hc, ubi_mk, r_from hc, ubi_mk, ← hp]
      simp only [f_X8_pitch_b80, nI_1]
      unfold piS
      by_cases c : wW X W V (nI x - a) (nI x + a) ≤ p.2 <;> simp [c]
    · unfold piS
      split
      · exact hp
      · rfl
  · intro n p hp
    show f_X8_pitch_b45 (n + 1) m a y p.1 (nI 100) = _
    rw [f_X8_pitch_b45, if_pos (by decide), r_from hc, ubi_mk, ← hp]
    simp only [f_X8_pitch_b104]
    split <;> rfl
theorem op_pitch : uop_pitch uI := by
  intro m a1 a2 ⟨s, hc, hr, hv⟩
  have hT5 := vI_T hc
  have hV8 := vI_V hc
  by_cases h1 : 1 ≤ a1 ∧ a1 ≤ 20
  · skip
    by_cases h2 : 0 ≤ a2 ∧ a2 ≤ 1
    · skip
      refine Or.inl (wrapI (fr := fun M => f_X8_pitch M a1 a2) hc hr hv ?_)
      have e0 : lp (piS (qX s) (qW s) (qV s) a1) 100 0 (0, -1) = lp (piS (qX s) (qW s) (qV s) a1) 99 1 (0, wW (qX s) (qW s) (qV s) (nI 0 - a1) (nI 0 + a1)) := by
        rw [show (100 : Nat) = 1 + 99 from rfl, lp_add]
        have hw := wW_rng (X := qX s) hV8 (fun v hv3 => (hv.1 v hv3).2) (nI 0 - a1) (nI 0 + a1)
        have : lp (piS (qX s) (qW s) (qV s) a1) 1 0 (0, -1) = (0, wW (qX s) (qW s) (qV s) (nI 0 - a1) (nI 0 + a1)) := by
          show piS (qX s) (qW s) (qV s) a1 0 (0, -1) = _
          unfold piS
          rw [if_neg]
          · rfl
          · show ¬ wW (qX s) (qW s) (qV s) (nI 0 - a1) (nI 0 + a1) ≤ -1
            rw [Int32.le_iff_toInt_le, i_m1]
            omega
        rw [this]
      refine ⟨if a2 = 0 then (lp (piS (qX s) (qW s) (qV s) a1) 100 0 (0, -1)).1 else (lp (piS (qX s) (qW s) (qV s) a1) 100 0 (0, -1)).2, m, ?_, cK_rf hc, fun M hM => ?_⟩
      · simp (decide := true) (disch := omega) only [f_X7_pitch, e_need_t h1, e_need_t h2, ubx_l, ubi_mk, if_true, if_false, ugd_t, e_pit hc.1.1]
      · have hM0 := rI_K hM (z0_K M)
        refine ⟨z0 M, ?_, z0_K M, z0_0 M⟩
        show ubi (f_X8_within (z0 (M)) a1 1 20) _ = _
        simp (decide := true) (disch := omega) only [r_wit_t h1, r_wit_t h2, ubi_mk, r_may_t (z0_0 _), if_true, if_false, ugd_t, f_X8_pitch_b30, f_X8_pitch_b29, r_pit hM0.1.1, e0]
    · refine Or.inr ⟨tI m, tR (z0 (tI m)) 1 1, 0, ?_, ?_, tR_0, throwI hc hr hv 1⟩
      · simp only [f_X7_pitch, e_need_t h1, e_need_f h2, ubx_l, ubx_r]
      · have hm := rI_tI hr
        show ubi (f_X8_within (z0 (tI m)) a1 1 20) _ = _
        simp (decide := true) (disch := omega) only [r_wit_t h1, r_wit_f h2, r_may_f1 (z0_0 _) i1_0, ubi_mk, if_true, if_false, f_X8_pitch_b30, f_X8_pitch_b29]
  · refine Or.inr ⟨tI m, tR (z0 (tI m)) 1 1, 0, ?_, ?_, tR_0, throwI hc hr hv 1⟩
    · simp only [f_X7_pitch, e_need_f h1, ubx_l, ubx_r]
    · have hm := rI_tI hr
      show ubi (f_X8_within (z0 (tI m)) a1 1 20) _ = _
      simp (decide := true) (disch := omega) only [r_wit_f h1, r_may_f1 (z0_0 _) i1_0, ubi_mk, if_true, if_false, f_X8_pitch_b30, f_X8_pitch_b29]
