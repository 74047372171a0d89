/-! op: law -/
def pLaw (b : Nat → Nat) (N : Nat) : Pr_ Ls := pb (pSu b N 8 0 (0, 0, fun _ => 0)) (fun st => if sk b N st.1 < N then .inl (1, sk b N st.1) else .inr st)
abbrev sLw (s : Ss) (n : Nat) (A : Nat → Nat) : Ss := ((qV s, qT s, qX s, qW s, n, A, qz s), s.2.1, (0, qB s, (-1 : Int32)), s.2.2.2)
theorem vI_l {s : Ss} (h : vI s) (n : Nat) (A : Nat → Nat) : vI (sLw s n A) := ⟨h.1, h.2.1, ⟨Nat.zero_le _, h.2.2.1.2⟩, h.2.2.2⟩
theorem op_law : uop_law uI := by
  intro m a1 ⟨s, hc, hr, hv⟩
  have hL6 := hv.2.2.1.1
  by_cases h : 0 ≤ a1 ∧ a1 ≤ nI (min 150 (qL s))
  · obtain ⟨N, hN, rfl⟩ := lit_cases (min 150 (qL s)) (by omega) h
    refine Or.inl ?_
    obtain ⟨m1, b1, b2, b3, b4, b5, b6⟩ := e_begin hc hv (N := N) (by omega)
    have hpq := pSu_ok (b := qb s) (N := N) 8 0 (0, 0, fun _ => 0) (Nat.zero_le _)
    have hl0 : lS (qb s) N (um_w m1 13 3 0) (0, 0, fun _ => 0) := ⟨⟨b3.1, fun k hk => by rw [um_w_c (by omega)]; exact b3.2.1 k hk, by rw [um_w_c (by omega)]; exact b3.2.2⟩, by rw [um_w_c (by omega)]; exact b4, Nat.zero_le _, Nat.le_refl _, um_w_s _ _ _ _, fun k hk => absurd hk (Nat.not_lt_zero _)⟩
    have hcl := e_readSum (b := qb s) (N := N) (by omega) 8 UD 0 (um_w m1 13 3 0) (0, 0, fun _ => 0) rfl (by omega) (by decide) hl0
    have hfc : f_X7_law m (nI N) = ubi (f_X2_read m1) (fun m8 r9 => if r9 = 0 then (ubi (f_X5_faultAnswer m8) (fun m12 r13 => f_X7_law_b52 m12 r13)) else (f_X7_law_b52 m8 1)) := by
      unfold f_X7_law
      rw [e_gate hc hv (K := 150) (x := 150) rfl (by omega) hN, ubx_l, b1, ubi_mk]
    have hfr : ∀ M, rI M s → ∃ M1, f_X8_law M (nI N) = ubi (f_X8_readSum UD M1) (fun m8 r9 => ubi (f_X8_fine m8) (fun m11 r12 => if r12 = 0 then (f_X8_law_b77 m11) else (ubi (f_X8_isMore m11) (fun m15 r16 => if r16 = 0 then (f_X8_law_b77 m15) else (ubi (f_X8_wrong m15 1 (m15 38 4)) (fun m19 r20 => f_X8_law_b77 m19)))))) ∧ (∀ c, c ≠ 38 → M1 c = M c) ∧ (∀ j, 9 ≤ j → j ≠ 25 → M1 38 j = M 38 j) ∧ rS (qb s) N 0 M1 (0, 0, fun _ => 0) ∧ M1 38 0 = 0 ∧ M1 38 2 = 0 := by
      intro M hM
      have hM0 := rI_K hM (z0_K M)
      obtain ⟨M1, c1, c2, c3, c4, c5, c6, c7, c8, c9⟩ := r_begin hM0 hv (N := N) (by omega)
      refine ⟨um_w M1 38 25 0, ?_, fun c q1 => by rw [um_w_c q1, c2 c q1, z0_n q1], fun j q q1 => by rw [um_w_k q1, c3 j (by omega), z0_j (by omega)], ⟨⟨c4.1, fun k hk => by rw [um_w_c (by omega)]; exact c4.2.1 k hk, by rw [um_w_k (by omega)]; exact c4.2.2⟩, by rw [um_w_k (by omega)]; exact c6, by rw [um_w_k (by omega)]; exact c7, Nat.zero_le _, Nat.le_refl _, by rw [um_w_k (by omega)]; exact c8, um_w_s _ _ _ _, fun k hk => absurd hk (Nat.not_lt_zero _)⟩, by rw [um_w_k (by omega), c3 0 (by omega)]; exact z0_0 M, by rw [um_w_k (by omega)]; exact c5⟩
      show (if nI N < 0 then f_X8_law_b29 (z0 M) (nI N) else if z0 M 38 2 < nI N then f_X8_law_b29 (z0 M) (nI N) else if nI 150 < nI N then f_X8_law_b29 (z0 M) (nI N) else f_X8_law_b30 (z0 M) (nI N) 1) = _
      rw [hM0.2.2.1.1, gate3_t (K := 150) (by omega) (by omega) h]
      unfold f_X8_law_b30
      rw [r_may_t (z0_0 M), ubi_mk, if_neg i1_0, c1, ubi_mk]
    have hrr : ∀ M1, rS (qb s) N 0 M1 (0, 0, fun _ => 0) → jK M1 (f_X8_readSum UD M1) (pSu (qb s) N 8 0 (0, 0, fun _ => 0)) := fun M1 h1 => r_readSum (by omega) 8 UD 0 M1 _ rfl (by omega) (by decide) h1
    -- a fault, however it came
    have flt : ∀ (e : Nat × Nat) (m2 : Um), e.2 ≤ N → f_X2_read m1 = some (m2, 0) → kF (um_w m1 13 3 0) m2 e → (∀ M1, rS (qb s) N 0 M1 (0, 0, fun _ => 0) → ∃ M2, ubi (f_X8_readSum UD M1) (fun m8 r9 => ubi (f_X8_fine m8) (fun m11 r12 => if r12 = 0 then (f_X8_law_b77 m11) else (ubi (f_X8_isMore m11) (fun m15 r16 => if r16 = 0 then (f_X8_law_b77 m15) else (ubi (f_X8_wrong m15 1 (m15 38 4)) (fun m19 r20 => f_X8_law_b77 m19)))))) = f_X8_law_b77 M2 ∧ rb Rl Jl M1 M2 e) → ∃ (m1 : Um) (r : Int32) (m2 : Um), f_X7_law m (nI N) = some (m1, .inl r) ∧ f_X8_law (um_L m1 r.toInt64) (nI N) = some (m2, r) ∧ m2 38 0 = 0 ∧ m2 63 = (um_L m1 r.toInt64) 63 ∧ uI m2 := by
      intro e m2 hee g1 g2 hrf
      have kc : ∀ c, c ≠ 1 → c ≠ 13 → c ≠ 15 → m2 c = m c := fun c q1 q2 q3 => by rw [g2.1.1.1 c (by show ¬ (c = 13 ∨ c = 15); omega) q1, um_w_c q2, b2 c q1]
      refine wrapT (s' := sTx s (nI e.2)) (fr := fun M => f_X8_law M (nI N)) hr (vI_t hv _) ⟨nI e.1 - 10, m2, ?_, ?_, fun c q => kc c (by omega) (by omega) (by omega), fun M hM => ?_⟩
      · rw [hfc, g1, ubi_mk, if_pos rfl]
        unfold f_X5_faultAnswer f_X7_law_b52
        rw [ubi_mk, g2.1.2.1]
      · exact cI_t hc hv (fun c q => kc c (by omega) (by omega) (by omega)) (fun j hj => by rw [g2.2 j (by omega), um_w_k (by omega), b2 13 (by omega)]) (by rw [g2.1.1.2 1 (by omega), um_w_c (by omega)]; exact b5) g2.1.2.2
      · obtain ⟨M1, d1, d2, d3, d4, d5, d6⟩ := hfr M hM
        obtain ⟨M2, f1, f2⟩ := hrf M1 d4
        have kj : ∀ j, j < 4 ∨ (9 ≤ j ∧ j ≠ 25) → (um_w M2 38 8 (nI e.2)) 38 j = M1 38 j := fun j q => by rw [um_w_k (by omega), f2.1.2 j (by show ¬ (j = 25); omega) (by omega)]
        have kq : ∀ c, c ≠ 38 → c ≠ 45 → c ≠ 46 → (um_w M2 38 8 (nI e.2)) c = M c := fun c q1 q2 q3 => by rw [um_w_c q1, f2.1.1 c (by show ¬ (c = 45 ∨ c = 46); omega) q1, d2 c q1]
        refine ⟨um_w M2 38 8 (nI e.2), ?_, ?_, fun c q => kq c (by omega) (by omega) (by omega), by rw [kj 0 (by omega)]; exact d5⟩
        · rw [d1, f1]
          unfold f_X8_law_b77
          rw [r_result_f (by omega) f2.2.1 f2.2.2, ubi_mk, um_w_k (by omega), f2.2.1, if_neg (fun q => (nI_ne1 (by omega)).mp q)]
        · exact rI_t hM (fun c q => kq c (by omega) (by omega) (by omega)) (fun j q => by rw [kj j (by omega), d3 j (by omega) (by omega)]) (by rw [kj 2 (by omega)]; exact d6) (um_w_s _ _ _ _)
    cases hsp : pSu (qb s) N 8 0 (0, 0, fun _ => 0) with
    | inl e =>
      obtain ⟨m2, g1, g2⟩ := hcl.1 e hsp
      have hee := hpq.1 e hsp
      refine flt e m2 hee ?_ g2 (fun M1 hM1 => ?_)
      · unfold f_X2_read
        rw [show f_X2_readSum UD (um_w m1 13 3 0) 0 = some (m2, 0) from g1, ubi_mk, if_pos rfl]
      · obtain ⟨M2, f1, f2⟩ := (hrr M1 hM1).1 e hsp
        refine ⟨M2, ?_, f2⟩
        rw [f1, ubi_mk, r_fine_f (by omega) f2.2.1, ubi_mk, if_pos rfl]
    | inr st =>
      obtain ⟨m2, g1, g2⟩ := hcl.2 st hsp
      obtain ⟨a1, a2, a3, a4, a5⟩ := hpq.2 st hsp
      have a3' : st.2.1 + 0 ≤ 0 + st.1 := a3
      have a4' : 0 < st.2.1 := a4
      obtain ⟨w1, w2⟩ := a5 (fun k hk => absurd hk (Nat.not_lt_zero _))
      have hl2 := kS_l hl0 g2 a2 (by omega)
      have hs := sk_le (b := qb s) a2
      have hrd : f_X2_read m1 = (if bi (decide (sk (qb s) N st.1 < N)) = 0 then (ubi (f_X2_takeDraft (um_w m2 1 3 (nI (sk (qb s) N st.1)))) (fun m9 r10 => some (m9, 1))) else (ubi (f_X5_failHere (um_w m2 1 3 (nI (sk (qb s) N st.1))) 1) (fun m12 r13 => ugd (ub01 r13) (some (m12, r13))))) := by
        unfold f_X2_read
        rw [show f_X2_readSum UD (um_w m1 13 3 0) 0 = some (m2, 1) from g1, ubi_mk, if_neg i1_0, e_more hl2.1 a2 hl2.2.1, ubi_mk]
      have hk3 : kS (um_w m1 13 3 0) (um_w m2 1 3 (nI (sk (qb s) N st.1))) (sk (qb s) N st.1, st.2) := kS_t g2 (w3_k _)
      by_cases hmo : sk (qb s) N st.1 < N
      · obtain ⟨m3, i1, i2⟩ := e_failH (tA_3 hl2.1 (sk (qb s) N st.1)) hs (um_w_s _ _ _ _) (k := 1) (x := 1) rfl
        rw [sk_sk] at i2
        refine flt (1, sk (qb s) N st.1) m3 hs ?_ (kF_t hk3 i2) (fun M1 hM1 => ?_)
        · rw [hrd, ite_bi0, if_pos (decide_eq_true hmo), i1, ubi_mk, ub01_0, ugd_t]
        · obtain ⟨M2, f1, f2⟩ := (hrr M1 hM1).2 st hsp
          have hR2 := jS_l hM1 f2 a2 (by omega)
          have hk := w4_k hR2.2.2.1 (sk (qb s) N st.1)
          obtain ⟨M3, y1, y2, y3, y4⟩ := r_wrong hk.2.2.1 (k := 1) (q := sk (qb s) N st.1) (x := 1) (y := nI (sk (qb s) N st.1)) rfl rfl
          refine ⟨M3, ?_, rb_tr (rg_tr f2.1.1 (rg_0 hk.1)) (rb_0 y2)⟩
          rw [f1, ubi_mk, r_fine_t hR2.2.2.1, ubi_mk, if_neg i1_0, r_more hR2.1 a2 hR2.2.1, ubi_mk, ite_bi0, if_pos (decide_eq_true hmo), um_w_s, y1, ubi_mk]
      · obtain ⟨m3, i1, i2⟩ := e_draft (m := um_w m2 1 3 (nI (sk (qb s) N st.1))) (n := st.2.1) (A := st.2.2) (by omega) hk3.2.2.1 hk3.2.2.2 (fun k hk => (w1 k hk).1)
        have kc : ∀ c, c ≠ 1 → c ≠ 13 → c ≠ 14 → c ≠ 15 → m3 c = m c := fun c q1 q2 q3 q4 => by rw [i2.1 c q2 q3, hk3.1.1.1 c (by show ¬ (c = 13 ∨ c = 15); omega) q1, um_w_c q2, b2 c q1]
        refine wrapT (s' := sLw s st.2.1 st.2.2) (fr := fun M => f_X8_law M (nI N)) hr (vI_l hv _ _) ⟨1, m3, ?_, ?_, fun c q => kc c (by omega) (by omega) (by omega) (by omega), fun M hM => ?_⟩
        · rw [hfc, hrd, ite_bi0, if_neg (fun q => hmo (of_decide_eq_true q)), i1, ubi_mk, ubi_mk, if_neg i1_0]
          rfl
        · have hc3 := hv.2.2.2.2.1
          obtain ⟨h1, h2, h3, h4, h5, h6, h7, h8⟩ := hc
          unfold cI
          rw [kc 24 (by omega) (by omega) (by omega) (by omega), kc 26 (by omega) (by omega) (by omega) (by omega), kc 2 (by omega) (by omega) (by omega) (by omega), kc 18 (by omega) (by omega) (by omega) (by omega), kc 19 (by omega) (by omega) (by omega) (by omega), kc 0 (by omega) (by omega) (by omega) (by omega), kc 27 (by omega) (by omega) (by omega) (by omega), kc 28 (by omega) (by omega) (by omega) (by omega)]
          refine ⟨⟨?_, cL_n (show 0 < st.2.1 by omega) ⟨by show st.2.1 ≤ 150; omega, i2.2.1, i2.2.2.1, w1, i2.2.2.2⟩, ?_⟩, h2, h3, ⟨?_, h4.2.1, ?_⟩, h5, h6, h7, h8.1, fun i hi => ?_⟩
          · exact cC_of h1.1 (kc 3 (by omega) (by omega) (by omega) (by omega)) (kc 4 (by omega) (by omega) (by omega) (by omega)) (kc 5 (by omega) (by omega) (by omega) (by omega))
          · rw [kc 3 (by omega) (by omega) (by omega) (by omega)]
            exact h1.2.2
          · rw [i2.1 1 (by omega) (by omega), hk3.1.1.2 1 (by omega), um_w_c (by omega)]
            exact b5
          · rw [i2.1 1 (by omega) (by omega), hk3.1.2.2, um_w_c (by omega)]
            exact b6
          · have hi' : i < qc s := hi
            rw [kc (30 + 2 * i) (by omega) (by omega) (by omega) (by omega), kc (31 + 2 * i) (by omega) (by omega) (by omega) (by omega)]
            exact h8.2 i hi
        · obtain ⟨M1, d1, d2, d3, d4, d5, d6⟩ := hfr M hM
          obtain ⟨M2, f1, f2⟩ := (hrr M1 d4).2 st hsp
          have hR2 := jS_l d4 f2 a2 (by omega)
          have hk := jS_t f2 (w4_k hR2.2.2.1 (sk (qb s) N st.1))
          generalize hM3 : um_w M2 38 4 (nI (sk (qb s) N st.1)) = M3 at hk
          generalize hM4 : um_w (um_w M3 38 8 (-1)) 38 26 (nI st.2.1) = M4
          have k4 : ∀ c, c ≠ 38 → M4 c = M3 c := fun c q => by
            subst hM4
            rw [um_w_c q, um_w_c q]
          have j4 : ∀ j, j ≠ 8 → j ≠ 26 → M4 38 j = M3 38 j := fun j q1 q2 => by
            subst hM4
            rw [um_w_k q2, um_w_k q1]
          have h425 : M4 38 25 = nI st.2.1 := by rw [j4 25 (by omega) (by omega)]; exact hk.2.1
          have hcp1 := r_copies (m := M4) (a0 := 45) (a1 := 47) (n0 := 150) (n1 := 150) (n := st.2.1) (by omega) (by omega) (by omega) (by omega)
          generalize hM5 : um_wa M4 47 (fun j => if j < st.2.1 then M4 45 j else M4 47 j) = M5 at hcp1
          have k5 : ∀ c, c ≠ 47 → M5 c = M4 c := fun c q => by
            subst hM5
            rw [um_wa_n q]
          have hcp2 := r_copies (m := M5) (a0 := 46) (a1 := 48) (n0 := 150) (n1 := 150) (n := st.2.1) (by omega) (by omega) (by omega) (by omega)
          generalize hM6 : um_wa M5 48 (fun j => if j < st.2.1 then M5 46 j else M5 48 j) = M6 at hcp2
          have k6 : ∀ c, c ≠ 48 → M6 c = M5 c := fun c q => by
            subst hM6
            rw [um_wa_n q]
          have kq : ∀ c, c ≠ 38 → c ≠ 45 → c ≠ 46 → c ≠ 47 → c ≠ 48 → M6 c = M c := fun c q1 q2 q3 q4 q5 => by rw [k6 c q5, k5 c q4, k4 c q1, hk.1.1.1 c (by show ¬ (c = 45 ∨ c = 46); omega) q1, d2 c q1]
          have kj : ∀ j, j ≠ 8 → j ≠ 25 → j ≠ 26 → j < 4 ∨ 7 < j → M6 38 j = M1 38 j := fun j q1 q2 q3 q4 => by rw [k6 38 (by omega), k5 38 (by omega), j4 j q1 q3, hk.1.1.2 j (by show ¬ (j = 25); omega) q4]
          refine ⟨M6, ?_, ?_, fun c q => kq c (by omega) (by omega) (by omega) (by omega) (by omega), by rw [kj 0 (by omega) (by omega) (by omega) (by omega)]; exact d5⟩
          · rw [d1, f1, ubi_mk, r_fine_t hR2.2.2.1, ubi_mk, if_neg i1_0, r_more hR2.1 a2 hR2.2.1, ubi_mk, ite_bi0, if_neg (fun q => hmo (of_decide_eq_true q)), hM3]
            unfold f_X8_law_b77
            rw [r_result_t hk.1.2.2.1, ubi_mk, if_pos (by rw [um_w_k (by omega)]; exact hk.1.2.2.1), um_w_k (show 25 ≠ 8 by omega), hk.2.1, hM4, h425, hcp1, ubi_mk, k5 38 (by omega), h425, hcp2, ubi_mk]
          · obtain ⟨u1, u2, u3, u4, u5, u6, u7⟩ := hM
            unfold rI
            rw [kq 53 (by omega) (by omega) (by omega) (by omega) (by omega), kq 40 (by omega) (by omega) (by omega) (by omega) (by omega), kq 57 (by omega) (by omega) (by omega) (by omega) (by omega), kq 39 (by omega) (by omega) (by omega) (by omega) (by omega), kq 55 (by omega) (by omega) (by omega) (by omega) (by omega), kq 62 (by omega) (by omega) (by omega) (by omega) (by omega), kj 2 (by omega) (by omega) (by omega) (by omega), kj 41 (by omega) (by omega) (by omega) (by omega), kj 32 (by omega) (by omega) (by omega) (by omega), kj 31 (by omega) (by omega) (by omega) (by omega), kj 48 (by omega) (by omega) (by omega) (by omega), d3 41 (by omega) (by omega), d3 32 (by omega) (by omega), d3 31 (by omega) (by omega), d3 48 (by omega) (by omega)]
            refine ⟨⟨⟨u1.1.1, u1.1.2.1, ?_, ?_, ?_⟩, ⟨by show st.2.1 ≤ 150; omega, ?_, w1, fun k hk2 => ?_⟩, ?_⟩, u2, ⟨d6, u3.2.1, ?_⟩, u4, u5, u6, u7⟩
            · rw [kj 17 (by omega) (by omega) (by omega) (by omega), d3 17 (by omega) (by omega)]
              exact u1.1.2.2.1
            · rw [kj 18 (by omega) (by omega) (by omega) (by omega), d3 18 (by omega) (by omega)]
              exact u1.1.2.2.2.1
            · rw [kq 43 (by omega) (by omega) (by omega) (by omega) (by omega)]
              exact u1.1.2.2.2.2
            · rw [k6 38 (by omega), k5 38 (by omega)]
              subst hM4
              exact um_w_s _ _ _ _
            · have hk3 : k < st.2.1 := hk2
              refine ⟨?_, ?_⟩
              · rw [k6 47 (by omega)]
                subst hM5
                rw [um_wa_s, if_pos hk3, k4 45 (by omega)]
                exact (hk.2.2 k hk3).1
              · subst hM6
                rw [um_wa_s, if_pos hk3, k5 46 (by omega), k4 46 (by omega)]
                exact (hk.2.2 k hk3).2
            · rw [kj 19 (by omega) (by omega) (by omega) (by omega), d3 19 (by omega) (by omega)]
              exact u1.2.2
            · rw [k6 38 (by omega), k5 38 (by omega)]
              subst hM4
              rw [um_w_k (by omega), um_w_s]
  · refine Or.inr ⟨tI m, tR (z0 (tI m)) 1 1, 0, ?_, ?_, tR_0, throwI hc hr hv 1⟩
    · unfold f_X7_law
      rw [e_gate_f hc hv (K := 150) (x := 150) rfl (by omega) h, ubx_r]
    · have hm := rI_tI hr
      show (if a1 < 0 then f_X8_law_b29 (z0 (tI m)) a1 else if z0 (tI m) 38 2 < a1 then f_X8_law_b29 (z0 (tI m)) a1 else if nI 150 < a1 then f_X8_law_b29 (z0 (tI m)) a1 else f_X8_law_b30 (z0 (tI m)) a1 1) = _
      rw [hm.2.2.1.1, gate3_f (K := 150) (by omega) (by omega) h]
      unfold f_X8_law_b29 f_X8_law_b30
      rw [r_may_f1 (z0_0 _) i1_0, ubi_mk, if_pos rfl]
