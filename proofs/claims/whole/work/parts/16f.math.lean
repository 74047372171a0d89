/-! op: work -/
section TOP
variable {b : Nat → Nat} {N T : Nat}
def topW (b : Nat → Nat) (N : Nat) (stp : Ws → Pr_ Ws) (f : Nat) (st : Ws) : Pr_ Ws := pb (pBl b N stp f st) (fun s2 => if sk b N s2.1 < N then .inl (1, sk b N s2.1) else .inr s2)
theorem r_top_b {M : Um} {q fuel : Nat} (hq : q < 2 ^ 31) (h : M 38 5 = nI q) : f_X8_work_b68 (fuel + 1) M = f_X8_work_b89 M := by
  rw [f_X8_work_b68, r_fine_f hq h, ubi_mk, if_pos rfl]
theorem r_topL {stp : Ws → Pr_ Ws} (hN : N ≤ 150) (hS : ∀ m st, lR b N T 0 m st → jWK m (f_X8_readStep UD m) st.2.1 (stp st)) (hQ : ∀ st, st.1 ≤ N → wQ N T 0 st (stp st) ∧ ∀ st', stp st = .inr st' → st.1 < st'.1 ∧ st.2.1 < st'.2.1) (hE : ∀ st : Ws, ¬ (sk b N st.1 < N ∧ bL (b (sk b N st.1)) = true) → stp st = .inl (1, sk b N st.1)) : ∀ (f fuel : Nat) (M : Um) (st : Ws), N - st.1 < f → N - st.1 + 1 < fuel → lR b N T 0 M st → (∀ e, topW b N stp f st = .inl e → ∃ M', f_X8_work_b68 fuel M = f_X8_work_b89 M' ∧ rb Rw Jw M M' e) ∧ ∀ st', topW b N stp f st = .inr st' → ∃ M', f_X8_work_b68 fuel M = f_X8_work_b89 M' ∧ rWS M M' st.2.1 st'
  | 0, _, _, _, hf, _, _ => absurd hf (Nat.not_lt_zero _)
  | _, 0, _, _, _, hf, _ => absurd hf (Nat.not_lt_zero _)
  | f + 1, fuel + 1, M, st, hf, hfu, hl => by
    have hA := hl.1
    have hp := hl.2.1
    have hfi := hl.2.2.1
    have hpN := hl.2.2.2.1
    have hnp := hl.2.2.2.2.1
    have hs := sk_le (b := b) hpN
    have hsg := sk_ge b N st.1
    have hk := w4_k hfi (sk b N st.1)
    have k0 : rWS M (um_w M 38 4 (nI (sk b N st.1))) st.2.1 (sk b N st.1, st.2) := ⟨rq_0 hk, by rw [um_w_k (by omega)]; exact hl.2.2.2.2.2.2.1, fun j _ => by rw [um_w_c (by omega)], fun i a b => absurd b (by show ¬ i < st.2.1; omega)⟩
    have hl1 := lR_g hl k0 hs (by show 6 * st.2.1 ≤ sk b N st.1; omega)
    rw [f_X8_work_b68, r_fine_t hfi, ubi_mk, if_neg i1_0, r_more hA hpN hp, ubi_mk, ite_bi0]
    unfold topW
    rw [pBl]
    by_cases hm : sk b N st.1 < N
    · obtain ⟨fu, hfu'⟩ : ∃ fu, fuel = fu + 1 := ⟨fuel - 1, by omega⟩
      have hst := hS _ _ hl1
      rw [if_pos (decide_eq_true hm)]
      by_cases h93 : b (sk b N st.1) = 93
      · have hE1 : stp (sk b N st.1, st.2) = .inl (1, sk b N st.1) := by
          have := hE (sk b N st.1, st.2) (fun q => by
            have q2 := q.2
            rw [show sk b N (sk b N st.1, st.2).1 = sk b N st.1 from sk_sk b N st.1, h93] at q2
            cases q2)
          rw [show sk b N (sk b N st.1, st.2).1 = sk b N st.1 from sk_sk b N st.1] at this
          exact this
        obtain ⟨M2, g1, g2⟩ := hst.1 _ hE1
        rw [if_neg (fun q => q.2 h93), pb_r]
        show (∀ e, (if sk b N (sk b N st.1) < N then _ else _) = _ → _) ∧ ∀ st', (if sk b N (sk b N st.1) < N then _ else _) = _ → _
        rw [sk_sk, if_pos hm, g1, ubi_mk, hfu', r_top_b (q := sk b N st.1) (by omega) g2.2.1]
        refine ⟨fun e' he' => ?_, fun st' he => by cases he⟩
        cases he'
        exact ⟨M2, rfl, rb_tr k0.1.1 g2⟩
      · have hqs := hQ (sk b N st.1, st.2) hs
        rw [if_pos ⟨hm, h93⟩]
        cases q1 : stp (sk b N st.1, st.2) with
        | inl e =>
          obtain ⟨M2, g1, g2⟩ := hst.1 e q1
          have he := hqs.1.1 e q1
          rw [pb_l, pb_l, g1, ubi_mk, hfu', r_top_b (by omega) g2.2.1]
          refine ⟨fun e' he' => ?_, fun st' he => by cases he⟩
          cases he'
          exact ⟨M2, rfl, rb_tr k0.1.1 g2⟩
        | inr s1 =>
          obtain ⟨M2, g1, g2⟩ := hst.2 s1 q1
          obtain ⟨a1, a2, a3, a4, a5, a6, a7⟩ := hqs.1.2 s1 q1
          have hlt := hqs.2 s1 q1
          have hlt1 : sk b N st.1 < s1.1 := hlt.1
          have hlt2 : st.2.1 < s1.2.1 := hlt.2
          have a3' : 6 * s1.2.1 + sk b N st.1 ≤ 6 * st.2.1 + s1.1 := a3
          have k2 : rWS M M2 st.2.1 s1 := ⟨rq_tr k0.1 g2.1, g2.2.1, fun j hj => by rw [g2.2.2.1 j hj, k0.2.2.1 j hj], g2.2.2.2⟩
          have ih := r_topL hN hS hQ hE f fuel M2 s1 (by omega) (by omega) (lR_g hl k2 a2 (by omega))
          have hpb := pBl_ok (b := b) (N := N) (T := T) (o := 0) (fun st hst => (hQ st hst).1) f s1 a2
          rw [pb_r, g1, ubi_mk]
          refine ⟨fun e he => ?_, fun s2 he => ?_⟩
          · obtain ⟨M3, i1, i2⟩ := ih.1 e he
            exact ⟨M3, i1, rb_tr k2.1.1 i2⟩
          · obtain ⟨M3, i1, i2⟩ := ih.2 s2 he
            refine ⟨M3, i1, rWS_tr (by omega) ?_ k2 i2⟩
            cases q2 : pBl b N stp f s1 with
            | inl e => rw [q2, pb_l] at he; cases he
            | inr s3 =>
              rw [q2, pb_r] at he
              by_cases q3 : sk b N s3.1 < N
              · rw [if_pos q3] at he; cases he
              · rw [if_neg q3] at he
                cases he
                exact (hpb.2 _ q2).2.2.2.2.1
    · rw [if_neg (fun q => hm (of_decide_eq_true q)), if_neg (fun q => hm q.1), pb_r]
      show (∀ e, (if sk b N (sk b N st.1) < N then _ else _) = _ → _) ∧ ∀ st', (if sk b N (sk b N st.1) < N then _ else _) = _ → _
      rw [sk_sk, if_neg hm]
      refine ⟨fun e' he' => (by cases he'), fun st' he => ?_⟩
      cases he
      exact ⟨_, rfl, k0⟩
end TOP
theorem r_pastL {M : Um} {w : Nat} (h : M 38 31 = nI w) (hw : w < 16) : ∀ (r k fuel : Nat) (M1 : Um), k + r = 28 → r < fuel → (∀ c, c ≠ 55 → M1 c = M c) → (∀ j, M1 55 j = if 28 * w ≤ j ∧ j < 28 * w + k then M 53 (j - 28 * w) else M 55 j) → ∃ M2 fu, f_X8_work_b123 fuel M1 (nI k) = f_X8_work_b123 (fu + 1) M2 (nI 28) ∧ (∀ c, c ≠ 55 → M2 c = M c) ∧ ∀ j, M2 55 j = if 28 * w ≤ j ∧ j < 28 * w + 28 then M 53 (j - 28 * w) else M 55 j
  | r, k, 0, M1, _, hf, _, _ => absurd hf (Nat.not_lt_zero _)
  | 0, k, fuel + 1, M1, hk, _, h1, h2 => by
    have hk28 : k = 28 := by omega
    subst hk28
    exact ⟨M1, fuel, rfl, h1, h2⟩
  | r + 1, k, fuel + 1, M1, hk, hf, h1, h2 => by
    rw [f_X8_work_b123, if_neg (nle_lit (k := 28) (by show k < 28; omega) (by decide)), uin_n (show k < 28 by omega) (by omega), ugd_t, h1 38 (by omega), h, lit_mul, nI_add, uin_n (by show 28 * w + k < 448; omega) (by show 28 * w + k < 2 ^ 31; omega), ugd_t, nI_clamp (by show 28 * w + k < 2 ^ 31; omega), nI_clamp (show k < 2 ^ 31 by omega), nI_1, h1 53 (by omega)]
    show ∃ M2 fu, f_X8_work_b123 fuel (um_w M1 55 (28 * w + k) (M 53 k)) (nI (k + 1)) = f_X8_work_b123 (fu + 1) M2 (nI 28) ∧ _
    refine r_pastL h hw r (k + 1) fuel _ (by omega) (by omega) (fun c hc => by rw [um_w_c hc, h1 c hc]) (fun j => ?_)
    by_cases hj : j = 28 * w + k
    · rw [hj, um_w_s, if_pos (by omega), show 28 * w + k - 28 * w = k by omega]
    · rw [um_w_k hj, h2 j]
      by_cases hq : 28 * w ≤ j ∧ j < 28 * w + k
      · rw [if_pos hq, if_pos (by omega)]
      · rw [if_neg hq, if_neg (by omega)]
abbrev sWk (s : Ss) (st : Ps) : Ss := (s.1, st.1, (0, qB s, (-1 : Int32)), s.2.2.2.1, nI st.2.2.2, s.2.2.2.2.2.1, (qw s + 1, fun j => if j < qw s then qP s j else qR s), s.2.2.2.2.2.2.2)
theorem vI_w {s : Ss} (h : vI s) (hw : qw s < 16) {st : Ps} (hp : okP s st) : vI (sWk s st) := by
  refine ⟨h.1, hp.1, ⟨Nat.zero_le _, h.2.2.1.2⟩, ⟨by show qw s + 1 ≤ 16; omega, fun j hj => ?_⟩, h.2.2.2.2⟩
  show vQ (qT s) (if j < qw s then qP s j else qR s)
  by_cases hq : j < qw s
  · rw [if_pos hq]
    exact h.2.2.2.1.2 j hq
  · rw [if_neg hq]
    exact h.2.1
/-- the class does what was read -/
theorem e_workEnd {m m9 : Um} {s : Ss} {G : Nat → Wq} {n : Nat} (hc : cI m s) (hv : vI s) (hw : qw s < 16) (hn : n ≤ 25) (hG : ∀ i, i < n → okQ (qT s) (G i)) (hwf : wfW G 6 0 n) (k : ∀ c, c ≠ 1 → c ≠ 21 → c ≠ 22 → m9 c = m c) (h11 : m9 1 1 = 0) (h15 : m9 1 5 = -1) (h21 : m9 21 1 = nI n ∧ m9 21 2 = 0 ∧ m9 21 3 = 0 ∧ m9 21 4 = 0) (hX : ∀ i, i < n → wX (m9 22) 1 (G i) i) : ∃ m', (ubi (f_X3_note 27 m9) (fun m13 r14 => ubi (f_X6_performFrom UD (um_w m13 27 1 ((m13 27 1) + 1)) 0 ((um_w m13 27 1 ((m13 27 1) + 1)) 21 1) 0) (fun m16 r17 => some ((um_w m16 0 13 (m16 21 4)), (Sum.inl ((um_w m16 0 13 (m16 21 4)) 21 3) : Int32 ⊕ String))))) = some (m', .inl (nI (rnF s G 7 0 n (qR s, 0, 0, 0)).2.2.1)) ∧ cI m' (sWk s (rnF s G 7 0 n (qR s, 0, 0, 0))) ∧ ∀ c, 38 ≤ c → m' c = m c := by
  have hT := vI_T hc
  have hc3 := hv.2.2.2.2.1
  obtain ⟨h1, h2, h3, h4, h5, h6, h7, h8⟩ := hc
  have e1 := e_note (o := 27) (m := m9) (w := qw s) (by rw [k 27 (by omega) (by omega) (by omega)]; exact h7.1) (by omega)
  rw [show (27 + 1 : Nat) = 28 from rfl, k 24 (by omega) (by omega) (by omega), k 28 (by omega) (by omega) (by omega), h2] at e1
  generalize hA : um_wa m9 28 (va_cpy (qR s) (m 28) 0 (28 * qw s) 28) = mA at e1
  have a1 : ∀ c, c ≠ 28 → mA c = m9 c := fun c hq => by
    subst hA
    rw [um_wa_n hq]
  have a2 : mA 28 = va_cpy (qR s) (m 28) 0 (28 * qw s) 28 := by
    subst hA
    exact um_wa_s _ _ _
  have a27 : mA 27 1 = nI (qw s) := by rw [a1 27 (by omega), k 27 (by omega) (by omega) (by omega)]; exact h7.1
  generalize hB : um_w mA 27 1 (nI (qw s + 1)) = mB
  have b1 : ∀ c, c ≠ 21 → c ≠ 27 → mB c = mA c := fun c q1 q2 => by
    subst hB
    rw [um_w_c q2]
  have b27 : mB 27 1 = nI (qw s + 1) := by
    subst hB
    rw [um_w_s]
  have b21 : mB 21 1 = nI n ∧ mB 21 2 = 0 ∧ mB 21 3 = 0 ∧ mB 21 4 = 0 := by
    subst hB
    rw [um_w_c (by omega), a1 21 (by omega)]
    exact h21
  have bm : ∀ c, c ≠ 1 → c ≠ 21 → c ≠ 22 → c ≠ 27 → c ≠ 28 → mB c = m c := fun c q1 q2 q3 q4 q5 => by rw [b1 c q2 q4, a1 c q5, k c q1 q2 q3]
  have hP : cP mB mB n (qR s, 0, 0, 0) := ⟨fun _ _ _ _ _ => rfl, by rw [bm 24 (by omega) (by omega) (by omega) (by omega) (by omega)]; exact h2, b21.1, b21.2.1, b21.2.2.1, b21.2.2.2⟩
  obtain ⟨mC, c1, c2⟩ := e_run_ (m := mB) (s := s) (G := G) (n := n) hn hT (cX_of h1 (fun c hc => bm c (by omega) (by omega) (by omega) (by omega) (by omega))) hG (fun i hi => by rw [b1 22 (by omega) (by omega), a1 22 (by omega)]; exact hX i hi) 7 UD 0 0 n mB (qR s, 0, 0, 0) rfl (by omega) (by decide) (by omega) (Nat.le_refl _) hwf hP ⟨hv.2.1, Nat.zero_le _⟩
  generalize hst : rnF s G 7 0 n (qR s, 0, 0, 0) = st at c2
  have cm : ∀ c, c ≠ 1 → c ≠ 16 → c ≠ 17 → c ≠ 21 → c ≠ 22 → c ≠ 24 → c ≠ 27 → c ≠ 28 → mC c = m c := fun c q1 q2 q3 q4 q5 q6 q7 q8 => by rw [c2.1 c q2 q3 q4 q6, bm c q1 q4 q5 q7 q8]
  refine ⟨um_w mC 0 13 (nI st.2.2.2), ?_, ?_, fun c hq => ?_⟩
  · rw [e1, ubi_mk, a27, nI_1]
    rw [hB, b21.1, show (0 : Int32) = nI 0 from rfl, c1, ubi_mk, c2.2.2.2.2.2, um_w_c (by omega), c2.2.2.2.2.1]
  · have kk : ∀ c, c ≠ 0 → (um_w mC 0 13 (nI st.2.2.2)) c = mC c := fun c q => um_w_c q
    have km : ∀ c, c ≠ 0 → c ≠ 1 → c ≠ 16 → c ≠ 17 → c ≠ 21 → c ≠ 22 → c ≠ 24 → c ≠ 27 → c ≠ 28 → (um_w mC 0 13 (nI st.2.2.2)) c = m c := fun c q0 q1 q2 q3 q4 q5 q6 q7 q8 => by rw [kk c q0, cm c q1 q2 q3 q4 q5 q6 q7 q8]
    have k0 : ∀ j, j ≠ 13 → (um_w mC 0 13 (nI st.2.2.2)) 0 j = m 0 j := fun j q => by rw [um_w_k q, cm 0 (by omega) (by omega) (by omega) (by omega) (by omega) (by omega) (by omega) (by omega)]
    have hC1 : mC 1 = m9 1 := by rw [c2.1 1 (by omega) (by omega) (by omega) (by omega), b1 1 (by omega) (by omega), a1 1 (by omega)]
    refine ⟨cX_of h1 (fun c hc => km c (by omega) (by omega) (by omega) (by omega) (by omega) (by omega) (by omega) (by omega) (by omega)), ?_, fun i hi => ?_, ⟨?_, fun i hi => ?_, ?_⟩, ?_, ⟨um_w_s _ _ _ _, ?_, ?_⟩, ⟨?_, fun j hj => ?_⟩, ?_, fun i hi => ?_⟩
    · rw [kk 24 (by omega)]
      exact c2.2.1
    · rw [km 26 (by omega) (by omega) (by omega) (by omega) (by omega) (by omega) (by omega) (by omega) (by omega)]
      exact h3 i hi
    · rw [kk 1 (by omega), hC1]
      exact h11
    · rw [km 2 (by omega) (by omega) (by omega) (by omega) (by omega) (by omega) (by omega) (by omega) (by omega)]
      exact h4.2.1 i hi
    · rw [kk 1 (by omega), hC1]
      exact h15
    · rw [km 18 (by omega) (by omega) (by omega) (by omega) (by omega) (by omega) (by omega) (by omega) (by omega), km 19 (by omega) (by omega) (by omega) (by omega) (by omega) (by omega) (by omega) (by omega) (by omega)]
      exact h5
    · rw [k0 15 (by omega)]
      exact h6.2.1
    · rw [k0 16 (by omega)]
      exact h6.2.2
    · rw [kk 27 (by omega), c2.1 27 (by omega) (by omega) (by omega) (by omega)]
      exact b27
    · have hj' : j < qw s + 1 := hj
      show sl ((um_w mC 0 13 (nI st.2.2.2)) 28) (28 * j) = if j < qw s then qP s j else qR s
      rw [kk 28 (by omega), c2.1 28 (by omega) (by omega) (by omega) (by omega), b1 28 (by omega) (by omega), a2]
      by_cases hq : j < qw s
      · rw [if_pos hq, ← h7.2 j hq]
        refine sl_cong (fun a ha => ?_)
        unfold va_cpy
        rw [if_neg (by omega)]
      · rw [if_neg hq]
        refine Eq.trans (sl_cong (P' := qR s) (b' := 0) (fun a ha => ?_)) (sl_id hv.2.1.1.2.2)
        unfold va_cpy
        rw [if_pos (by omega)]
        congr 1
        omega
    · rw [k0 12 (by omega)]
      exact h8.1
    · have hi' : i < qc s := hi
      rw [km (30 + 2 * i) (by omega) (by omega) (by omega) (by omega) (by omega) (by omega) (by omega) (by omega) (by omega), km (31 + 2 * i) (by omega) (by omega) (by omega) (by omega) (by omega) (by omega) (by omega) (by omega) (by omega)]
      exact h8.2 i hi
  · rw [um_w_c (by omega), cm c (by omega) (by omega) (by omega) (by omega) (by omega) (by omega) (by omega) (by omega)]
/-- the reference does what was read -/
theorem r_workEnd {M M9 : Um} {s : Ss} {G : Nat → Wq} {n : Nat} (hr : rI M s) (hv : vI s) (hT : qT s ≤ 5) (hw : qw s < 16) (hn : n ≤ 25) (hG : ∀ i, i < n → okQ (qT s) (G i)) (hwf : wfW G 6 0 n) (k : ∀ c, c ≠ 38 → c ≠ 51 → M9 c = M c) (kj : ∀ j, 9 ≤ j → j ≠ 30 → M9 38 j = M 38 j) (h0 : M9 38 0 = 0) (h2 : M9 38 2 = 0) (h5 : M9 38 5 = -1) (h30 : M9 38 30 = nI (4 * n)) (hX : ∀ i, i < n → wX (M9 51) 4 (G i) i) : ∃ m', f_X8_work_b89 M9 = some (m', nI (rnF s G 7 0 n (qR s, 0, 0, 0)).2.2.1) ∧ rI m' (sWk s (rnF s G 7 0 n (qR s, 0, 0, 0))) ∧ (∀ c, c < 38 ∨ c = 63 → m' c = M c) ∧ m' 38 0 = 0 := by
  obtain ⟨g1, g2, g3, g4, g5, g6, g7⟩ := hr
  have hcp := r_copies (m := um_w M9 38 8 (-1)) (a0 := 51) (a1 := 52) (n0 := 200) (n1 := 200) (n := 4 * n) (by omega) (by omega) (by omega) (by omega)
  generalize hA : um_wa (um_w M9 38 8 (-1)) 52 (fun j => if j < 4 * n then (um_w M9 38 8 (-1)) 51 j else (um_w M9 38 8 (-1)) 52 j) = MA at hcp
  have a1 : ∀ c, c ≠ 38 → c ≠ 52 → MA c = M9 c := fun c q1 q2 => by
    subst hA
    rw [um_wa_n q2, um_w_c q1]
  have aj : ∀ j, j ≠ 8 → MA 38 j = M9 38 j := fun j q => by
    subst hA
    rw [um_wa_n (by omega), um_w_k q]
  have a8 : MA 38 8 = -1 := by
    subst hA
    rw [um_wa_n (by omega), um_w_s]
  have a52 : ∀ j, j < 4 * n → MA 52 j = M9 51 j := fun j hj => by
    subst hA
    rw [um_wa_s, if_pos hj, um_w_c (by omega)]
  have a31 : MA 38 31 = nI (qw s) := by rw [aj 31 (by omega), kj 31 (by omega) (by omega)]; exact g6.1
  obtain ⟨MB, fu, b0, b1, b2⟩ := r_pastL (M := MA) a31 hw 28 0 UF MA (by omega) (by decide) (fun _ _ => rfl) (fun j => by rw [if_neg (by omega)])
  obtain ⟨S, t1, t2⟩ := r_take (um_w MB 38 31 (nI (qw s + 1)))
  generalize hC : um_w (um_w (um_w (um_wa (um_w MB 38 31 (nI (qw s + 1))) 54 S) 38 33 0) 38 34 0) 38 35 0 = MC
  have c1 : ∀ c, c ≠ 38 → c ≠ 54 → MC c = MB c := fun c q1 q2 => by
    subst hC
    rw [um_w_c q1, um_w_c q1, um_w_c q1, um_wa_n q2, um_w_c q1]
  have cj : ∀ j, j ≠ 31 → j ≠ 33 → j ≠ 34 → j ≠ 35 → MC 38 j = MA 38 j := fun j q1 q2 q3 q4 => by
    subst hC
    rw [um_w_k q4, um_w_k q3, um_w_k q2, um_wa_n (by omega), um_w_k q1, b1 38 (by omega)]
  have c31 : MC 38 31 = nI (qw s + 1) := by
    subst hC
    rw [um_w_k (by omega), um_w_k (by omega), um_w_k (by omega), um_wa_n (by omega), um_w_s]
  have c54 : cv (MC 54) = qR s := by
    subst hC
    rw [um_w_c (by omega), um_w_c (by omega), um_w_c (by omega), um_wa_s, t2, um_w_c (by omega), b1 53 (by omega), a1 53 (by omega) (by omega), k 53 (by omega) (by omega)]
    exact g2
  have c3 : MC 38 33 = 0 ∧ MC 38 34 = 0 ∧ MC 38 35 = 0 := by
    subst hC
    exact ⟨by rw [um_w_k (by omega), um_w_k (by omega), um_w_s], by rw [um_w_k (by omega), um_w_s], um_w_s _ _ _ _⟩
  have cM : ∀ c, c ≠ 38 → c ≠ 51 → c ≠ 52 → c ≠ 54 → c ≠ 55 → MC c = M c := fun c q1 q2 q3 q4 q5 => by rw [c1 c q1 q4, b1 c q5, a1 c q1 q3, k c q1 q2]
  have cJ : ∀ j, 9 ≤ j → j ≠ 30 → j ≠ 31 → j ≠ 33 → j ≠ 34 → j ≠ 35 → MC 38 j = M 38 j := fun j q1 q2 q3 q4 q5 q6 => by rw [cj j q3 q4 q5 q6, aj j (by omega), kj j q1 q2]
  have hP : rP MC MC (qR s, 0, 0, 0) := ⟨fun _ _ _ _ _ => rfl, fun _ _ _ _ => rfl, c54, c3.1, c3.2.1, c3.2.2⟩
  obtain ⟨MD, d0, d1⟩ := r_run_ (m := MC) (s := s) (G := G) (n := n) hn hT (rX_of' g1 (fun q hq => cJ q (by omega) (by omega) (by omega) (by omega) (by omega) (by omega)) (fun c hc => cM c (by omega) (by omega) (by omega) (by omega) (by omega))) hG (fun i hi => wX_cong (fun j q1 q2 => by rw [c1 52 (by omega) (by omega), b1 52 (by omega)]; exact a52 j (by omega)) (hX i hi)) 7 UD 0 0 n MC (qR s, 0, 0, 0) rfl (by omega) (by decide) (by omega) (Nat.le_refl _) hwf hP ⟨hv.2.1, Nat.zero_le _⟩
  generalize hst : rnF s G 7 0 n (qR s, 0, 0, 0) = st at d1
  have hcp2 := r_copies (m := MD) (a0 := 54) (a1 := 53) (n0 := 28) (n1 := 28) (n := 28) (by omega) (by omega) (by omega) (by omega)
  generalize hE : um_wa MD 53 (fun j => if j < 28 then MD 54 j else MD 53 j) = ME at hcp2
  have e1 : ∀ c, c ≠ 53 → ME c = MD c := fun c q => by
    subst hE
    rw [um_wa_n q]
  have e53 : cv (ME 53) = st.1 := by
    subst hE
    rw [um_wa_s, ← d1.2.2.1]
    exact cv_cong (fun j hj => by rw [if_pos hj])
  have kM : ∀ c, c ≠ 38 → c ≠ 49 → c ≠ 50 → c ≠ 51 → c ≠ 52 → c ≠ 53 → c ≠ 54 → c ≠ 55 → (um_w ME 38 32 (nI st.2.2.2)) c = M c := fun c q1 q2 q3 q4 q5 q6 q7 q8 => by rw [um_w_c q1, e1 c q6, d1.1 c q1 q2 q3 q7, cM c q1 q4 q5 q7 q8]
  have kJ : ∀ j, j ≠ 32 → j ≠ 33 → j ≠ 34 → j ≠ 35 → (um_w ME 38 32 (nI st.2.2.2)) 38 j = MC 38 j := fun j q1 q2 q3 q4 => by rw [um_w_k q1, e1 38 (by omega), d1.2.1 j q2 q3 q4]
  refine ⟨um_w ME 38 32 (nI st.2.2.2), ?_, ?_, fun c hc => kM c (by omega) (by omega) (by omega) (by omega) (by omega) (by omega) (by omega) (by omega), ?_⟩
  · unfold f_X8_work_b89
    rw [r_result_t h5, ubi_mk, if_pos (by rw [um_w_k (by omega)]; exact h5), um_w_k (show 30 ≠ 8 by omega), h30, hcp, ubi_mk, show (0 : Int32) = nI 0 from rfl, b0, f_X8_work_b123, if_pos (show (28 : Int32) ≤ nI 28 by decide), show MB 38 31 = nI (qw s) by rw [b1 38 (by omega)]; exact a31, nI_1, t1, ubi_mk, hC]
    rw [show MC 38 30 = nI (4 * n) by rw [cj 30 (by omega) (by omega) (by omega) (by omega), aj 30 (by omega)]; exact h30]
    rw [show f_X8_goesSteps UD MC 0 (nI (4 * n)) = some (MD, ()) from d0, ubi_mk, show (28 : Int32) = nI 28 from rfl, hcp2, ubi_mk, show ME 38 35 = nI st.2.2.2 by rw [e1 38 (by omega)]; exact d1.2.2.2.2.2, um_w_k (show 34 ≠ 32 by omega), show ME 38 34 = nI st.2.2.1 by rw [e1 38 (by omega)]; exact d1.2.2.2.2.1]
  · refine ⟨rX_of' g1 (fun q hq => by rw [kJ q (by omega) (by omega) (by omega) (by omega), cJ q (by omega) (by omega) (by omega) (by omega) (by omega) (by omega)]) (fun c hc => kM c (by omega) (by omega) (by omega) (by omega) (by omega) (by omega) (by omega) (by omega)), ?_, ⟨?_, fun i hi => ?_, ?_⟩, ⟨?_, ?_⟩, ⟨um_w_s _ _ _ _, ?_, ?_⟩, ⟨?_, fun j hj => ?_⟩, ?_, ?_⟩
    · rw [um_w_c (by omega)]
      exact e53
    · rw [kJ 2 (by omega) (by omega) (by omega) (by omega), cj 2 (by omega) (by omega) (by omega) (by omega), aj 2 (by omega)]
      exact h2
    · rw [kM 40 (by omega) (by omega) (by omega) (by omega) (by omega) (by omega) (by omega) (by omega)]
      exact g3.2.1 i hi
    · rw [kJ 8 (by omega) (by omega) (by omega) (by omega), cj 8 (by omega) (by omega) (by omega) (by omega)]
      exact a8
    · rw [kJ 41 (by omega) (by omega) (by omega) (by omega), cJ 41 (by omega) (by omega) (by omega) (by omega) (by omega) (by omega)]
      exact g4.1
    · rw [kM 57 (by omega) (by omega) (by omega) (by omega) (by omega) (by omega) (by omega) (by omega)]
      exact g4.2
    · rw [kM 39 (by omega) (by omega) (by omega) (by omega) (by omega) (by omega) (by omega) (by omega)]
      exact g5.2.1
    · rw [kM 39 (by omega) (by omega) (by omega) (by omega) (by omega) (by omega) (by omega) (by omega)]
      exact g5.2.2
    · rw [kJ 31 (by omega) (by omega) (by omega) (by omega)]
      exact c31
    · have hj' : j < qw s + 1 := hj
      show cv (fun i => (um_w ME 38 32 (nI st.2.2.2)) 55 (28 * j + i)) = if j < qw s then qP s j else qR s
      have h55 : ∀ q, (um_w ME 38 32 (nI st.2.2.2)) 55 q = if 28 * qw s ≤ q ∧ q < 28 * qw s + 28 then MA 53 (q - 28 * qw s) else MA 55 q := fun q => by rw [um_w_c (by omega), e1 55 (by omega), d1.1 55 (by omega) (by omega) (by omega) (by omega), c1 55 (by omega) (by omega), b2 q]
      by_cases hq : j < qw s
      · rw [if_pos hq, ← g6.2 j hq]
        refine cv_cong (fun a ha => ?_)
        rw [h55, if_neg (by omega), a1 55 (by omega) (by omega), k 55 (by omega) (by omega)]
      · rw [if_neg hq, ← g2]
        refine cv_cong (fun a ha => ?_)
        rw [h55, if_pos (by omega), a1 53 (by omega) (by omega), k 53 (by omega) (by omega), show 28 * j + a - 28 * qw s = a by omega]
    · rw [kJ 48 (by omega) (by omega) (by omega) (by omega), cJ 48 (by omega) (by omega) (by omega) (by omega) (by omega) (by omega)]
      exact g7.1
    · rw [kM 62 (by omega) (by omega) (by omega) (by omega) (by omega) (by omega) (by omega) (by omega)]
      exact g7.2
  · rw [kJ 0 (by omega) (by omega) (by omega) (by omega), cj 0 (by omega) (by omega) (by omega) (by omega), aj 0 (by omega)]
    exact h0
