/-! op: work, the whole -/
theorem op_work : uop_work uI := by
  intro m a1 ⟨s, hc, hr, hv⟩
  have hL6 := hv.2.2.1.1
  have hT := vI_T hc
  by_cases h : 0 ≤ a1 ∧ a1 ≤ nI (min 150 (qL s))
  · obtain ⟨N, hN, rfl⟩ := lit_cases (min 150 (qL s)) (by omega) h
    refine Or.inl ?_
    have h27 : m 27 1 = nI (qw s) := hc.2.2.2.2.2.2.1.1
    have hw16 := hv.2.2.2.1.1
    -- how the reference begins
    have hfb : ∀ M, rI M s → ∃ M1, f_X8_work M (nI N) = (if nI (qw s) = 16 then (ubi (f_X8_result M1 0) (fun m9 r10 => some (m9, (-20)))) else (f_X8_work_b68 UF (um_w M1 38 30 0))) ∧ (∀ c, c ≠ 38 → M1 c = M c) ∧ (∀ j, 9 ≤ j → M1 38 j = M 38 j) ∧ rA (qb s) N M1 ∧ M1 38 4 = nI 0 ∧ M1 38 5 = -1 ∧ M1 38 7 = 0 ∧ M1 38 8 = -1 ∧ M1 38 0 = 0 ∧ M1 38 2 = 0 := by
      intro M hM
      have hM0 := rI_K hM (z0_K M)
      obtain ⟨M1, c1, c2, c3, c4, c5, c6, c7, c8, c9⟩ := r_begin hM0 hv (N := N) (by omega)
      have c31 : M1 38 31 = nI (qw s) := by rw [c3 31 (by omega)]; exact hM0.2.2.2.2.2.1.1
      refine ⟨M1, ?_, fun c q1 => by rw [c2 c q1, z0_n q1], fun j q => by rw [c3 j (by omega), z0_j (by omega)], c4, c6, c7, c8, c9, by rw [c3 0 (by omega)]; exact z0_0 M, c5⟩
      show (if nI N < 0 then f_X8_work_b29 (z0 M) (nI N) else if z0 M 38 2 < nI N then f_X8_work_b29 (z0 M) (nI N) else if nI 150 < nI N then f_X8_work_b29 (z0 M) (nI N) else f_X8_work_b30 (z0 M) (nI N) 1) = _
      rw [hM0.2.2.1.1, gate3_t (K := 150) (by omega) (by omega) h]
      unfold f_X8_work_b30
      rw [r_may_t (z0_0 M), ubi_mk, if_neg i1_0, c1, ubi_mk, c31]
    by_cases hw : qw s < 16
    · obtain ⟨m1, b1, b2, b3, b4, b5, b6⟩ := e_begin hc hv (N := N) (by omega)
      have h31 : m1 3 1 = nI (qT s) := by rw [b2 3 (by omega)]; exact hc.1.1.2.2.2.1
      have hpq := pBk_ok (b := qb s) (N := N) (T := qT s) 8 0 (0, 0, fun _ => (0, 0, 0, 0)) (Nat.zero_le _)
      generalize hmZ : um_w (um_w (um_w (um_w m1 21 1 0) 21 2 0) 21 3 0) 21 4 0 = mZ
      have z1 : ∀ c, c ≠ 21 → mZ c = m1 c := fun c q => by
        subst hmZ
        rw [um_w_c q, um_w_c q, um_w_c q, um_w_c q]
      have z2 : mZ 21 1 = 0 ∧ mZ 21 2 = 0 ∧ mZ 21 3 = 0 ∧ mZ 21 4 = 0 := by
        subst hmZ
        exact ⟨by rw [um_w_k (by omega), um_w_k (by omega), um_w_k (by omega), um_w_s], by rw [um_w_k (by omega), um_w_k (by omega), um_w_s], by rw [um_w_k (by omega), um_w_s], um_w_s _ _ _ _⟩
      have hl0 : lW (qb s) N mZ (0, 0, fun _ => (0, 0, 0, 0)) := ⟨⟨b3.1, fun k hk => by rw [z1 2 (by omega)]; exact b3.2.1 k hk, by rw [z1 1 (by omega)]; exact b3.2.2⟩, by rw [z1 1 (by omega)]; exact b4, Nat.zero_le _, Nat.le_refl _, z2.1⟩
      have hcl := e_readSteps (b := qb s) (N := N) (T := qT s) (by omega) hT 8 UD 0 mZ (0, 0, fun _ => (0, 0, 0, 0)) rfl (by omega) (by decide) hl0
      have hfc : f_X7_work m (nI N) = ubi (f_X6_read m1 (nI (qT s))) (fun m9 r10 => if r10 = 0 then (ubi (f_X5_faultAnswer m9) (fun m19 r20 => some (m19, .inl r20))) else (ubi (f_X3_note 27 m9) (fun m13 r14 => ubi (f_X6_performFrom UD (um_w m13 27 1 ((m13 27 1) + 1)) 0 ((um_w m13 27 1 ((m13 27 1) + 1)) 21 1) 0) (fun m16 r17 => some ((um_w m16 0 13 (m16 21 4)), .inl ((um_w m16 0 13 (m16 21 4)) 21 3)))))) := by
        unfold f_X7_work
        rw [e_gate hc hv (K := 150) (x := 150) rfl (by omega) hN, ubx_l, h27, if_pos (show nI (qw s) < 16 from ltq_lit (k := 16) hw (by decide)), b1, ubi_mk, h31]
      have hfr : ∀ M, rI M s → ∃ M1, f_X8_work M (nI N) = f_X8_work_b68 UF M1 ∧ (∀ c, c ≠ 38 → M1 c = M c) ∧ (∀ j, 9 ≤ j → j ≠ 30 → M1 38 j = M 38 j) ∧ lR (qb s) N (qT s) 0 M1 (0, 0, fun _ => (0, 0, 0, 0)) ∧ M1 38 0 = 0 ∧ M1 38 2 = 0 := by
        intro M hM
        obtain ⟨M1, c1, c2, c3, c4, c5, c6, c7, c8, c9, c10⟩ := hfb M hM
        refine ⟨um_w M1 38 30 0, ?_, fun c q1 => by rw [um_w_c q1, c2 c q1], fun j q q1 => by rw [um_w_k q1, c3 j q], ⟨⟨c4.1, fun k hk => by rw [um_w_c (by omega)]; exact c4.2.1 k hk, by rw [um_w_k (by omega)]; exact c4.2.2⟩, by rw [um_w_k (by omega)]; exact c5, by rw [um_w_k (by omega)]; exact c6, Nat.zero_le _, Nat.le_refl _, by rw [um_w_k (by omega)]; exact c7, um_w_s _ _ _ _, by rw [um_w_k (by omega), c3 18 (by omega)]; exact hM.1.1.2.2.2.1⟩, by rw [um_w_k (by omega)]; exact c9, by rw [um_w_k (by omega)]; exact c10⟩
        rw [c1, ite_p (show (nI (qw s) = 16) = (qw s = 16) from nI_eq' (b := 16) (by omega) (by omega)), if_neg (by omega)]
      have hrr : ∀ M1, lR (qb s) N (qT s) 0 M1 (0, 0, fun _ => (0, 0, 0, 0)) → (∀ e, topW (qb s) N (pSt (qb s) N (qT s) (pBk_ (qb s) N (qT s) 7) 0) 160 (0, 0, fun _ => (0, 0, 0, 0)) = .inl e → ∃ M', f_X8_work_b68 UF M1 = f_X8_work_b89 M' ∧ rb Rw Jw M1 M' e) ∧ ∀ st', topW (qb s) N (pSt (qb s) N (qT s) (pBk_ (qb s) N (qT s) 7) 0) 160 (0, 0, fun _ => (0, 0, 0, 0)) = .inr st' → ∃ M', f_X8_work_b68 UF M1 = f_X8_work_b89 M' ∧ rWS M1 M' 0 st' := fun M1 h1 => r_topL (stp := pSt (qb s) N (qT s) (pBk_ (qb s) N (qT s) 7) 0) (by omega) (fun m st hl => r_readStep (by omega) hT 7 UD 0 m st rfl (by omega) (by decide) hl) (fun st hst => pSt_ok (fun _ st hst => pBk_ok 7 1 st hst) hst) (fun st hq => pSt_N hq) 160 UF M1 (0, 0, fun _ => (0, 0, 0, 0)) (by show N - 0 < 160; omega) (by show N - 0 + 1 < 3000; omega) h1
      -- a fault, however it came
      have flt : ∀ (e : Nat × Nat) (m2 : Um), e.2 ≤ N → f_X6_read m1 (nI (qT s)) = some (m2, 0) → tf Cw mZ m2 e → topW (qb s) N (pSt (qb s) N (qT s) (pBk_ (qb s) N (qT s) 7) 0) 160 (0, 0, fun _ => (0, 0, 0, 0)) = .inl e → ∃ (m1 : Um) (r : Int32) (m2 : Um), f_X7_work m (nI N) = some (m1, .inl r) ∧ f_X8_work (um_L m1 r.toInt64) (nI N) = some (m2, r) ∧ m2 38 0 = 0 ∧ m2 63 = (um_L m1 r.toInt64) 63 ∧ uI m2 := by
        intro e m2 hee g1 g2 htw
        have kc : ∀ c, c ≠ 1 → c ≠ 21 → c ≠ 22 → m2 c = m c := fun c q1 q2 q3 => by rw [g2.1.1 c (by show ¬ (c = 21 ∨ c = 22); omega) q1, z1 c q2, b2 c q1]
        refine wrapT (s' := sTx s (nI e.2)) (fr := fun M => f_X8_work M (nI N)) hr (vI_t hv _) ⟨nI e.1 - 10, m2, ?_, ?_, fun c q => kc c (by omega) (by omega) (by omega), fun M hM => ?_⟩
        · rw [hfc, g1, ubi_mk, if_pos rfl]
          unfold f_X5_faultAnswer
          rw [ubi_mk, g2.2.1]
        · exact cI_t hc hv (fun c q => kc c (by omega) (by omega) (by omega)) (fun j hj => by rw [kc 13 (by omega) (by omega) (by omega)]) (by rw [g2.1.2 1 (by omega), z1 1 (by omega)]; exact b5) g2.2.2
        · obtain ⟨M1, d1, d2, d3, d4, d5, d6⟩ := hfr M hM
          obtain ⟨M2, f1, f2⟩ := (hrr M1 d4).1 e htw
          have kj : ∀ j, j < 4 ∨ (9 ≤ j ∧ j ≠ 30) → (um_w M2 38 8 (nI e.2)) 38 j = M1 38 j := fun j q => by rw [um_w_k (by omega), f2.1.2 j (by show ¬ (j = 30); omega) (by omega)]
          have kq : ∀ c, c ≠ 38 → c ≠ 51 → (um_w M2 38 8 (nI e.2)) c = M c := fun c q1 q2 => by rw [um_w_c q1, f2.1.1 c (by show ¬ (c = 51); omega) q1, d2 c q1]
          refine ⟨um_w M2 38 8 (nI e.2), ?_, ?_, fun c q => kq c (by omega) (by omega), by rw [kj 0 (by omega)]; exact d5⟩
          · show f_X8_work M (nI N) = _
            rw [d1, f1]
            unfold f_X8_work_b89
            rw [r_result_f (by omega) f2.2.1 f2.2.2, ubi_mk, um_w_k (by omega), f2.2.1, if_neg (fun q => (nI_ne1 (by omega)).mp q)]
          · exact rI_t hM (fun c q => kq c (by omega) (by omega)) (fun j q => by rw [kj j (by omega), d3 j (by omega) (by omega)]) (by rw [kj 2 (by omega)]; exact d6) (um_w_s _ _ _ _)
      cases hsp : pBk_ (qb s) N (qT s) 8 0 (0, 0, fun _ => (0, 0, 0, 0)) with
      | inl e =>
        obtain ⟨m2, g1, g2⟩ := hcl.1 e hsp
        refine flt e m2 (hpq.1 e hsp) ?_ g2 ?_
        · unfold f_X6_read
          rw [hmZ, show f_X6_readSteps UD mZ (nI (qT s)) 0 = some (m2, 0) from g1, ubi_mk, if_pos rfl]
        · show pb (pBk_ (qb s) N (qT s) 8 0 (0, 0, fun _ => (0, 0, 0, 0))) _ = _
          rw [hsp, pb_l]
      | inr st =>
        obtain ⟨m2, g1, g2⟩ := hcl.2 st hsp
        obtain ⟨a1, a2, a3, a4, a5, a6, a7⟩ := hpq.2 st hsp
        have a3' : 6 * st.2.1 + 0 ≤ 6 * 0 + st.1 := a3
        have hs := sk_le (b := qb s) a2
        have hA2 : tA (qb s) N m2 := tA_g cw2 hl0.1 g2.1.1
        have hrd : f_X6_read m1 (nI (qT s)) = (if bi (decide (sk (qb s) N st.1 < N)) = 0 then (f_X6_read_b47 (um_w m2 1 3 (nI (sk (qb s) N st.1)))) else (ubi (f_X5_failHere (um_w m2 1 3 (nI (sk (qb s) N st.1))) 1) (fun m9 r10 => if r10 = 0 then (f_X6_read_b52 m9 0) else (f_X6_read_b47 m9)))) := by
          unfold f_X6_read
          rw [hmZ, show f_X6_readSteps UD mZ (nI (qT s)) 0 = some (m2, 1) from g1, ubi_mk, if_neg i1_0, e_more hA2 a2 g2.1.2.1, ubi_mk]
        have hk3 : tk Cw mZ (um_w m2 1 3 (nI (sk (qb s) N st.1))) (sk (qb s) N st.1) := tk_tr g2.1 (tk_z (w3_k _))
        by_cases hmo : sk (qb s) N st.1 < N
        · obtain ⟨m3, i1, i2⟩ := e_failH (tA_3 hA2 (sk (qb s) N st.1)) hs (um_w_s _ _ _ _) (k := 1) (x := 1) rfl
          rw [sk_sk] at i2
          refine flt (1, sk (qb s) N st.1) m3 hs ?_ (tf_tr hk3 (tf_0 i2)) ?_
          · rw [hrd, ite_bi0, if_pos (decide_eq_true hmo), i1, ubi_mk, if_pos rfl]
            rfl
          · show pb (pBk_ (qb s) N (qT s) 8 0 (0, 0, fun _ => (0, 0, 0, 0))) _ = _
            rw [hsp, pb_r, if_pos hmo]
        · have htw : topW (qb s) N (pSt (qb s) N (qT s) (pBk_ (qb s) N (qT s) 7) 0) 160 (0, 0, fun _ => (0, 0, 0, 0)) = .inr st := by
            show pb (pBk_ (qb s) N (qT s) 8 0 (0, 0, fun _ => (0, 0, 0, 0))) _ = _
            rw [hsp, pb_r, if_neg hmo]
          have hG : ∀ i, i < st.2.1 → okQ (qT s) (st.2.2 i) := fun i hi => a6 i (Nat.zero_le _) hi
          have hwf : wfW st.2.2 6 0 st.2.1 := a7
          have hn : st.2.1 ≤ 25 := by omega
          have hk31 := hk3.1.1
          obtain ⟨m4, x1, x2, x3⟩ := e_workEnd (m := m) (m9 := um_w m2 1 3 (nI (sk (qb s) N st.1))) (s := s) (G := st.2.2) (n := st.2.1) hc hv hw hn hG hwf (fun c q1 q2 q3 => by rw [hk31 c (by show ¬ (c = 21 ∨ c = 22); omega) q1, z1 c q2, b2 c q1]) (by rw [hk3.1.2 1 (by omega), z1 1 (by omega)]; exact b5) (by rw [hk3.2.2, z1 1 (by omega)]; exact b6) (by rw [um_w_c (by omega)]; exact ⟨g2.2.1.1, by rw [g2.2.1.2 2 (by omega)]; exact z2.2.1, by rw [g2.2.1.2 3 (by omega)]; exact z2.2.2.1, by rw [g2.2.1.2 4 (by omega)]; exact z2.2.2.2⟩) (fun i hi => by rw [um_w_c (by omega)]; exact g2.2.2.2 i (Nat.zero_le _) hi)
          refine wrapT (s' := sWk s (rnF s st.2.2 7 0 st.2.1 (qR s, 0, 0, 0))) (fr := fun M => f_X8_work M (nI N)) hr (vI_w hv hw (rn_ok hT hG 7 _ 0 st.2.1 _ (Nat.le_refl _) hwf ⟨hv.2.1, Nat.zero_le _⟩)) ⟨nI (rnF s st.2.2 7 0 st.2.1 (qR s, 0, 0, 0)).2.2.1, m4, ?_, x2, x3, fun M hM => ?_⟩
          · rw [hfc, hrd, ite_bi0, if_neg (fun q => hmo (of_decide_eq_true q)), show f_X6_read_b47 (um_w m2 1 3 (nI (sk (qb s) N st.1))) = some (um_w m2 1 3 (nI (sk (qb s) N st.1)), 1) from rfl, ubi_mk, if_neg i1_0]
            exact x1
          · obtain ⟨M1, d1, d2, d3, d4, d5, d6⟩ := hfr M hM
            obtain ⟨M2, f1, f2⟩ := (hrr M1 d4).2 st htw
            obtain ⟨M3, y1, y2, y3, y4⟩ := r_workEnd (M := M) (M9 := M2) (s := s) (G := st.2.2) (n := st.2.1) hM hv hT hw hn hG hwf (fun c q1 q2 => by rw [f2.1.1.1 c (by show ¬ (c = 51); omega) q1, d2 c q1]) (fun j q1 q2 => by rw [f2.1.1.2 j (by show ¬ (j = 30); omega) (by omega), d3 j q1 q2]) (by rw [f2.1.1.2 0 (by show ¬ (0 = 30); omega) (by omega)]; exact d5) (by rw [f2.1.1.2 2 (by show ¬ (2 = 30); omega) (by omega)]; exact d6) f2.1.2.2.1 f2.2.1 (fun i hi => f2.2.2.2 i (Nat.zero_le _) hi)
            refine ⟨M3, ?_, y2, y3, y4⟩
            show f_X8_work M (nI N) = _
            rw [d1, f1]
            exact y1
    · obtain ⟨m1, b1, b2, b3, b4, b5, b6⟩ := e_begin hc hv (N := 0) (by omega)
      have hqw : qw s = 16 := by omega
      refine wrapT (s' := sTx s (-1)) (fr := fun M => f_X8_work M (nI N)) hr (vI_t hv _) ⟨-20, m1, ?_, ?_, fun c q => b2 c (by omega), fun M hM => ?_⟩
      · unfold f_X7_work
        rw [e_gate hc hv (K := 150) (x := 150) rfl (by omega) hN, ubx_l, h27, hqw, if_neg (show ¬ nI 16 < 16 by decide), show f_X5_begin m 0 = some (m1, ()) from b1, ubi_mk]
      · exact cI_t hc hv (fun c q => b2 c (by omega)) (fun j hj => by rw [b2 13 (by omega)]) b5 b6
      · obtain ⟨M1, c1, c2, c3, c4, c5, c6, c7, c8, c9, c10⟩ := hfb M hM
        refine ⟨um_w M1 38 8 (-1), ?_, ?_, fun c q => by rw [um_w_c (by omega), c2 c (by omega)], by rw [um_w_k (by omega)]; exact c9⟩
        · show f_X8_work M (nI N) = _
          rw [c1, hqw, if_pos (show nI 16 = 16 from rfl), r_result_t c6, ubi_mk]
        · exact rI_t hM (fun c q => by rw [um_w_c (by omega), c2 c (by omega)]) (fun j q => by rw [um_w_k (by omega), c3 j (by omega)]) (by rw [um_w_k (by omega)]; exact c10) (um_w_s _ _ _ _)
  · refine Or.inr ⟨tI m, tR (z0 (tI m)) 1 1, 0, ?_, ?_, tR_0, throwI hc hr hv 1⟩
    · unfold f_X7_work
      rw [e_gate_f hc hv (K := 150) (x := 150) rfl (by omega) h, ubx_r]
    · have hm := rI_tI hr
      show (if a1 < 0 then f_X8_work_b29 (z0 (tI m)) a1 else if z0 (tI m) 38 2 < a1 then f_X8_work_b29 (z0 (tI m)) a1 else if nI 150 < a1 then f_X8_work_b29 (z0 (tI m)) a1 else f_X8_work_b30 (z0 (tI m)) a1 1) = _
      rw [hm.2.2.1.1, gate3_f (K := 150) (by omega) (by omega) h]
      unfold f_X8_work_b29 f_X8_work_b30
      rw [r_may_f1 (z0_0 _) i1_0, ubi_mk, if_pos rfl]
