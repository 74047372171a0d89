/-! op: book -/
theorem z0_j {M : Um} {j : Nat} (h : j ≠ 0) : z0 M 38 j = M 38 j := um_w_k h
abbrev sBk (s : Ss) (n : Nat) (D : Nat → Int32) : Ss := (s.1, s.2.1, (0, qB s, (-1 : Int32)), (nI n, D), s.2.2.2.2)
theorem vI_b {s : Ss} (h : vI s) (n : Nat) (D : Nat → Int32) : vI (sBk s n D) := ⟨h.1, h.2.1, ⟨Nat.zero_le _, h.2.2.1.2⟩, h.2.2.2⟩
theorem r_b46L {M : Um} {f : Nat → Int32} : ∀ (r k fuel : Nat), k + r = 8 → r < fuel → f_X8_book_b46 fuel (um_wa M 56 (fun j => if j < k then -1 else f j)) (nI k) = f_X8_book_b67 UF (um_wa M 56 (fun j => if j < 8 then -1 else f j)) 0
  | r, k, 0, _, hf => absurd hf (Nat.not_lt_zero _)
  | 0, k, fuel + 1, hk, _ => by
    rw [f_X8_book_b46, if_pos (lit_leq (k := 8) (by show 8 ≤ k; omega) (by omega)), show k = 8 by omega]
  | r + 1, k, fuel + 1, hk, hf => by
    rw [f_X8_book_b46, if_neg (nle_lit (k := 8) (by show k < 8; omega) (by decide)), uin_n (by omega) (by omega), ugd_t, nI_clamp (by omega), nI_1, um_w_def, um_wa_s, um_wa_wa, fill_step]
    exact r_b46L r (k + 1) fuel (by omega) (by omega)
theorem r_b46 (M : Um) : f_X8_book_b46 UF M 0 = f_X8_book_b67 UF (um_wa M 56 (fun j => if j < 8 then -1 else M 56 j)) 0 := by
  have h := r_b46L (M := M) (f := M 56) 8 0 UF rfl (by decide)
  have e : (um_wa M 56 fun j => if j < 0 then -1 else M 56 j) = M := by
    rw [show (fun j => if j < 0 then (-1 : Int32) else M 56 j) = M 56 from by funext j; simp, um_wa_id]
  rw [e] at h
  exact h
/-- how a text is begun: the class's need, the reference's gate -/
theorem e_gate {m : Um} {s : Ss} (hc : cI m s) (hv : vI s) {K N : Nat} {x : Int32} (hx : x = nI K) (hK : K < 2 ^ 31) (hN : N ≤ min K (qL s)) : f_X7_need m (nI N) 0 (ummin x (m 1 1)) = some (m, .inl ()) := by
  have hL6 := hv.2.2.1.1
  subst hx
  rw [hc.2.2.2.1.1, mn_n hK (by omega)]
  exact e_need_t ⟨nI_le (Nat.zero_le _) (by omega), nI_le hN (by omega)⟩
theorem e_gate_f {m : Um} {s : Ss} (hc : cI m s) (hv : vI s) {K : Nat} {x a : Int32} (hx : x = nI K) (hK : K < 2 ^ 31) (h : ¬ (0 ≤ a ∧ a ≤ nI (min K (qL s)))) : f_X7_need m a 0 (ummin x (m 1 1)) = some (tI m, .inr xIAE) := by
  have hL6 := hv.2.2.1.1
  subst hx
  rw [hc.2.2.2.1.1, mn_n hK (by omega)]
  exact e_need_f h
theorem op_book : uop_book uI := by
  intro m a1 ⟨s, hc, hr, hv⟩
  have hL6 := hv.2.2.1.1
  have hV8 := vI_V hc
  by_cases h : 0 ≤ a1 ∧ a1 ≤ nI (min 60 (qL s))
  · obtain ⟨N, hN, rfl⟩ := lit_cases (min 60 (qL s)) (by omega) h
    refine Or.inl ?_
    obtain ⟨m1, b1, b2, b3, b4, b5, b6⟩ := e_begin hc hv (N := N) (by omega)
    have hf : ∀ c, c ≠ 20 → (um_wa m1 20 (fun j => if j < 8 then -1 else m1 20 j)) c = m1 c := fun c q => um_wa_n q
    have hcl := e_bkL (b := qb s) (N := N) (V := qV s) (m0 := um_wa m1 20 (fun j => if j < 8 then -1 else m1 20 j)) hV8 10 UF 0 0 _ (fun _ => -1) rfl (by decide) ⟨b3.1, fun k hk => by rw [hf 2 (by omega)]; exact b3.2.1 k hk, by rw [hf 1 (by omega)]; exact b3.2.2⟩ (Nat.zero_le _) ⟨tg_rf _ _, by rw [hf 1 (by omega)]; exact b4, rfl⟩ (fun v hv => by rw [um_wa_s, if_pos hv]) (by decide)
    have hfc : f_X7_book m (nI N) = ubi (f_X0_read_b13 UF (um_wa m1 20 (fun j => if j < 8 then -1 else m1 20 j)) (nI (qV s)) (nI 0) (nI 0)) (fun m8 r9 => if r9 = 0 then ubi (f_X5_faultAnswer m8) (fun m12 r13 => f_X7_book_b64 m12 r13) else f_X7_book_b64 m8 (m8 18 1)) := by
      unfold f_X7_book
      rw [e_gate hc hv (K := 60) (x := 60) rfl (by omega) hN, ubx_l, b1, ubi_mk, b2 3 (by omega), hc.1.1.2.2.1]
      unfold f_X0_read
      rw [e_fill (by omega), ubi_mk]
      rfl
    have hfr : ∀ M, rI M s → ∃ M1, f_X8_book M (nI N) = f_X8_book_b67 UF M1 (nI 0) ∧ (∀ c, c ≠ 38 → c ≠ 56 → M1 c = M c) ∧ (∀ j, 9 ≤ j → M1 38 j = M 38 j) ∧ rA (qb s) N M1 ∧ M1 38 0 = 0 ∧ M1 38 2 = 0 ∧ M1 38 4 = nI 0 ∧ M1 38 5 = -1 ∧ (∀ v, v < 8 → M1 56 v = -1) := by
      intro M hM
      have hM0 := rI_K hM (z0_K M)
      obtain ⟨M1, c1, c2, c3, c4, c5, c6, c7, cn8, c9⟩ := r_begin hM0 hv (N := N) (by omega)
      refine ⟨um_wa M1 56 (fun j => if j < 8 then -1 else M1 56 j), ?_, fun c q1 q2 => by rw [um_wa_n q2, c2 c q1, z0_n q1], fun j q => by rw [um_wa_n (by omega), c3 j (by omega), z0_j (by omega)], ⟨c4.1, fun k hk => by rw [um_wa_n (by omega)]; exact c4.2.1 k hk, by rw [um_wa_n (by omega)]; exact c4.2.2⟩, by rw [um_wa_n (by omega), c3 0 (by omega)]; exact z0_0 M, by rw [um_wa_n (by omega)]; exact c5, by rw [um_wa_n (by omega)]; exact c6, by rw [um_wa_n (by omega)]; exact c7, fun v hv => by rw [um_wa_s, if_pos hv]⟩
      show (if nI N < 0 then f_X8_book_b28 (z0 M) (nI N) else if z0 M 38 2 < nI N then f_X8_book_b28 (z0 M) (nI N) else if nI 60 < nI N then f_X8_book_b28 (z0 M) (nI N) else f_X8_book_b29 (z0 M) (nI N) 1) = _
      rw [hM0.2.2.1.1, gate3_t (K := 60) (by omega) (by omega) h]
      unfold f_X8_book_b29
      rw [r_may_t (z0_0 M), ubi_mk, if_neg i1_0, c1, ubi_mk, r_b46]
      rfl
    cases hsp : pBk (qb s) N (qV s) 10 0 0 (fun _ => -1) with
    | inl e =>
      obtain ⟨m2, g1, g2⟩ := hcl.1 e hsp
      have kc : ∀ c, c ≠ 1 → c ≠ 20 → m2 c = m c := fun c q1 q2 => by rw [g2.1.1 c q2 q1, hf c q2, b2 c q1]
      refine wrapT (s' := sTx s (nI e.2)) (fr := fun M => f_X8_book M (nI N)) hr (vI_t hv _) ⟨nI e.1 - 10, m2, ?_, ?_, fun c q => kc c (by omega) (by omega), fun M hM => ?_⟩
      · rw [hfc, g1, ubi_mk, if_pos rfl]
        unfold f_X5_faultAnswer f_X7_book_b64
        rw [ubi_mk, g2.2.1]
      · exact cI_t hc hv (fun c q => kc c (by omega) (by omega)) (fun j _ => by rw [kc 13 (by omega) (by omega)]) (by rw [g2.1.2 1 (by omega), hf 1 (by omega)]; exact b5) g2.2.2
      · obtain ⟨M1, d1, d2, d3, d4, d5, d6, d7, d8, d9⟩ := hfr M hM
        have hcr := r_bkL (M0 := M1) (by omega) hV8 10 UF 0 0 M1 (fun _ => -1) rfl (by decide) d4 (by rw [d3 17 (by omega)]; exact hM.1.1.2.2.1) (Nat.zero_le _) d8 ⟨rg_rf _ _ _, d7, d8, rfl⟩ d9
        obtain ⟨M2, f1, f2, f3⟩ := hcr.1 e hsp
        refine ⟨M2, by rw [d1]; exact f1, ?_, fun c q => by rw [f2.1 c (by omega) (by omega), d2 c (by omega) (by omega)], by rw [f2.2 0 (by omega) (by omega)]; exact d5⟩
        exact rI_t hM (fun c q => by rw [f2.1 c (by omega) (by omega), d2 c (by omega) (by omega)]) (fun j q => by rw [f2.2 j (by omega) (by omega), d3 j (by omega)]) (by rw [f2.2 2 (by omega) (by omega)]; exact d6) f3
    | inr t =>
      obtain ⟨n, D⟩ := t
      obtain ⟨m2, p2, g1, g2, g3, g4⟩ := hcl.2 n D hsp
      have hu : ucp_ok 0 0 8 8 8 = true := ucp_n (a := 0) (b := 0) (n := 8) (by omega) (by omega) (by omega) (by omega)
      have he : um_cp (um_w m2 18 1 (nI n)) 20 0 19 0 8 = um_wa (um_w m2 18 1 (nI n)) 19 (va_cpy ((um_w m2 18 1 (nI n)) 20) ((um_w m2 18 1 (nI n)) 19) 0 0 8) := um_cp_n (a := 0) (b := 0) (n := 8) (by omega) (by omega) (by omega)
      have kc : ∀ c, c ≠ 1 → c ≠ 18 → c ≠ 19 → c ≠ 20 → (um_wa (um_w m2 18 1 (nI n)) 19 (va_cpy ((um_w m2 18 1 (nI n)) 20) ((um_w m2 18 1 (nI n)) 19) 0 0 8)) c = m c := fun c q1 q2 q3 q4 => by rw [um_wa_n q3, um_w_c q2, g2.1.1 c q4 q1, hf c q4, b2 c q1]
      refine wrapT (s' := sBk s n D) (fr := fun M => f_X8_book M (nI N)) hr (vI_b hv n D) ⟨nI n, _, ?_, ?_, fun c q => kc c (by omega) (by omega) (by omega) (by omega), fun M hM => ?_⟩
      · rw [hfc, g1]
        unfold f_X0_read_b47
        rw [hu, ugd_t, he, ubi_mk, if_neg i1_0, um_wa_n (by omega), um_w_s]
        rfl
      · have hc3 := hv.2.2.2.2.1
        obtain ⟨h1, h2, h3, h4, h5, h6, h7, h8⟩ := hc
        unfold cI
        rw [kc 24 (by omega) (by omega) (by omega) (by omega), kc 26 (by omega) (by omega) (by omega) (by omega), kc 2 (by omega) (by omega) (by omega) (by omega), kc 0 (by omega) (by omega) (by omega) (by omega), kc 27 (by omega) (by omega) (by omega) (by omega), kc 28 (by omega) (by omega) (by omega) (by omega)]
        refine ⟨cX_of h1 (fun c q => kc c (by omega) (by omega) (by omega) (by omega)), h2, h3, ⟨?_, h4.2.1, ?_⟩, ⟨?_, fun v hv => ?_⟩, h6, h7, h8.1, fun i hi => ?_⟩
        · rw [um_wa_n (by omega), um_w_c (by omega), g2.1.2 1 (by omega), hf 1 (by omega)]
          exact b5
        · rw [um_wa_n (by omega), um_w_c (by omega), g2.2.2, hf 1 (by omega)]
          exact b6
        · rw [um_wa_n (by omega), um_w_s]
        · rw [um_wa_s]
          unfold va_cpy
          rw [if_pos (by omega), um_w_c (by omega), show 0 + (v - 0) = v by omega]
          exact g3 v hv
        · have hi' : i < qc s := hi
          rw [kc (30 + 2 * i) (by omega) (by omega) (by omega) (by omega), kc (31 + 2 * i) (by omega) (by omega) (by omega) (by omega)]
          exact h8.2 i hi
      · obtain ⟨M1, d1, d2, d3, d4, d5, d6, d7, d8, d9⟩ := hfr M hM
        have hcr := r_bkL (M0 := M1) (by omega) hV8 10 UF 0 0 M1 (fun _ => -1) rfl (by decide) d4 (by rw [d3 17 (by omega)]; exact hM.1.1.2.2.1) (Nat.zero_le _) d8 ⟨rg_rf _ _ _, d7, d8, rfl⟩ d9
        obtain ⟨M2, p3, f1, f2, f3⟩ := hcr.2 n D hsp (by omega)
        have hcp := r_copies (m := um_w (um_w M2 38 8 (-1)) 38 41 (nI n)) (a0 := 56) (a1 := 57) (n0 := 8) (n1 := 8) (n := 8) (by omega) (by omega) (by omega) (by omega)
        have kq : ∀ c, c ≠ 38 → c ≠ 56 → c ≠ 57 → (um_wa (um_w (um_w M2 38 8 (-1)) 38 41 (nI n)) 57 (fun j => if j < 8 then (um_w (um_w M2 38 8 (-1)) 38 41 (nI n)) 56 j else (um_w (um_w M2 38 8 (-1)) 38 41 (nI n)) 57 j)) c = M c := fun c q1 q2 q3 => by rw [um_wa_n q3, um_w_c q1, um_w_c q1, f2.1.1 c q2 q1, d2 c q1 q2]
        have kj : ∀ j, j = 0 ∨ 2 ≤ j → j ≠ 8 → j ≠ 41 → j < 4 ∨ 7 < j → (um_wa (um_w (um_w M2 38 8 (-1)) 38 41 (nI n)) 57 (fun j => if j < 8 then (um_w (um_w M2 38 8 (-1)) 38 41 (nI n)) 56 j else (um_w (um_w M2 38 8 (-1)) 38 41 (nI n)) 57 j)) 38 j = M1 38 j := fun j q0 q1 q2 q3 => by rw [um_wa_n (by omega), um_w_k q2, um_w_k q1, f2.1.2 j (fun h => h) q3]
        refine ⟨_, ?_, ?_, fun c q => kq c (by omega) (by omega) (by omega), by rw [kj 0 (by omega) (by omega) (by omega) (by omega)]; exact d5⟩
        · rw [d1, f1]
          unfold f_X8_book_b167
          rw [r_result_t f2.2.2.1, ubi_mk, if_pos (by rw [um_w_k (by omega)]; exact f2.2.2.1), show (8 : Int32) = nI 8 from rfl, hcp, ubi_mk]
        · obtain ⟨g1', g2', g3', g4', g5', g6', g7'⟩ := hM
          unfold rI
          rw [kq 53 (by omega) (by omega) (by omega), kq 40 (by omega) (by omega) (by omega), kq 39 (by omega) (by omega) (by omega), kq 55 (by omega) (by omega) (by omega), kq 62 (by omega) (by omega) (by omega), kj 2 (by omega) (by omega) (by omega) (by omega), kj 32 (by omega) (by omega) (by omega) (by omega), kj 31 (by omega) (by omega) (by omega) (by omega), kj 48 (by omega) (by omega) (by omega) (by omega), d3 32 (by omega), d3 31 (by omega), d3 48 (by omega)]
          refine ⟨rX_of' g1' (fun q hq => by rw [kj q (by omega) (by omega) (by omega) (by omega), d3 q (by omega)]) (fun c hc => kq c (by omega) (by omega) (by omega)), g2', ⟨d6, g3'.2.1, ?_⟩, ⟨?_, fun v hv => ?_⟩, g5', g6', g7'⟩
          · rw [um_wa_n (by omega), um_w_k (by omega), um_w_s]
          · rw [um_wa_n (by omega), um_w_s]
          · rw [um_wa_s, if_pos hv, um_w_c (by omega), um_w_c (by omega)]
            exact f3 v hv
  · refine Or.inr ⟨tI m, tR (z0 (tI m)) 1 1, 0, ?_, ?_, tR_0, throwI hc hr hv 1⟩
    · unfold f_X7_book
      rw [e_gate_f hc hv (K := 60) (x := 60) rfl (by omega) h, ubx_r]
    · have hm := rI_tI hr
      show (if a1 < 0 then f_X8_book_b28 (z0 (tI m)) a1 else if z0 (tI m) 38 2 < a1 then f_X8_book_b28 (z0 (tI m)) a1 else if nI 60 < a1 then f_X8_book_b28 (z0 (tI m)) a1 else f_X8_book_b29 (z0 (tI m)) a1 1) = _
      rw [hm.2.2.1.1, gate3_f (K := 60) (by omega) (by omega) h]
      unfold f_X8_book_b28 f_X8_book_b29
      rw [r_may_f1 (z0_0 _) i1_0, ubi_mk, if_pos rfl]
