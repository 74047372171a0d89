/-! op: corner -/
theorem pTwo_e {b : Nat → Nat} {N h1 h2 p : Nat} (hpN : p ≤ N) {e : Nat × Nat} (h : pTwo b N h1 h2 p = .inl e) : e.2 ≤ N := by
  unfold pTwo at h
  cases q1 : pNum b N 0 h1 p with
  | inl e1 =>
    rw [q1, pb_l] at h
    cases h
    exact pNum_e hpN q1
  | inr x =>
    rw [q1, pb_r] at h
    have g1 := pNum_pos hpN q1
    cases q2 : pNum b N 0 h2 x.2 with
    | inl e1 =>
      rw [q2, pb_l] at h
      cases h
      exact pNum_e g1.2.1 q2
    | inr y =>
      rw [q2, pb_r] at h
      have g2 := pNum_pos g1.2.1 q2
      cases q3 : pSign b N 59 y.2 with
      | inl e1 =>
        rw [q3, pb_l] at h
        cases h
        exact pSign_e g2.2.1 q3
      | inr p3 => rw [q3, pb_r] at h; cases h
theorem pOne_e {b : Nat → Nat} {N p : Nat} (hpN : p ≤ N) {e : Nat × Nat} (h : pOne b N p = .inl e) : e.2 ≤ N := by
  unfold pOne at h
  cases q1 : pNum b N 1 21 p with
  | inl e1 =>
    rw [q1, pb_l] at h
    cases h
    exact pNum_e hpN q1
  | inr x =>
    rw [q1, pb_r] at h
    have g1 := pNum_pos hpN q1
    cases q3 : pSign b N 59 x.2 with
    | inl e1 =>
      rw [q3, pb_l] at h
      cases h
      exact pSign_e g1.2.1 q3
    | inr p3 => rw [q3, pb_r] at h; cases h
theorem pCl_e {b : Nat → Nat} {N k p : Nat} {c : Cs} (hpN : p ≤ N) {e : Nat × Nat} (h : pCl b N k p c = .inl e) : e.2 ≤ N := by
  have hs := sk_le (b := b) hpN
  have hw := wE_le (b := b) hs
  unfold pCl at h
  split at h
  · split at h
    · cases h; exact hs
    · cases h1 : pTwo b N 100 61 (wE b N (sk b N p)) with
      | inl e1 =>
        rw [h1, pb_l] at h
        cases h
        exact pTwo_e hw h1
      | inr t => rw [h1, pb_r] at h; cases h
  · split at h
    · split at h
      · cases h; exact hs
      · cases h1 : pTwo b N 100 100 (wE b N (sk b N p)) with
        | inl e1 =>
          rw [h1, pb_l] at h
          cases h
          exact pTwo_e hw h1
        | inr t => rw [h1, pb_r] at h; cases h
    · split at h
      · split at h
        · cases h; exact hs
        · cases h1 : pOne b N (wE b N (sk b N p)) with
          | inl e1 =>
            rw [h1, pb_l] at h
            cases h
            exact pOne_e hw h1
          | inr t => rw [h1, pb_r] at h; cases h
      · cases h; exact hs
theorem pCo_e {b : Nat → Nat} {N : Nat} : ∀ (f k p : Nat) (c : Cs), p ≤ N → okK c → ∀ e, pCo b N f k p c = .inl e → e.2 ≤ N
  | 0, k, p, c, hpN, ho, e, h => by cases h
  | f + 1, k, p, c, hpN, ho, e, h => by
    have hs := sk_le (b := b) hpN
    rw [pCo] at h
    split at h
    · cases h1 : pCl b N k (sk b N p) c with
      | inl e1 =>
        rw [h1, pb_l] at h
        cases h
        exact pCl_e hs h1
      | inr t =>
        rw [h1, pb_r] at h
        have := e_clause_ok hs ho h1
        exact pCo_e f (k + 1) t.1 t.2 this.2 this.1 e h
    · cases h
/-- a new row -/
def opR (T : Nat) (Mo Sd : Nat → Int32) : Nat → Int32 := fun i => if 3 ≤ i ∧ i < 3 + T then Mo (i - 3) else if 8 ≤ i ∧ i < 8 + T then Sd (i - 8) else 0
theorem opR_succ {t : Nat} (ht : t < 5) (Mo Sd : Nat → Int32) : upd (upd (opR t Mo Sd) (3 + t) (Mo t)) (8 + t) (Sd t) = opR (t + 1) Mo Sd := by
  funext i
  unfold opR
  by_cases h1 : i = 8 + t
  · subst h1
    rw [upd_s, if_neg (by omega), if_pos (by omega), show 8 + t - 8 = t by omega]
  · rw [upd_n h1]
    by_cases h2 : i = 3 + t
    · subst h2
      rw [upd_s, if_pos (by omega), show 3 + t - 3 = t by omega]
    · rw [upd_n h2]
      by_cases h3 : 3 ≤ i ∧ i < 3 + t
      · rw [if_pos h3, if_pos (by omega)]
      · rw [if_neg h3, if_neg (show ¬ (3 ≤ i ∧ i < 3 + (t + 1)) by omega)]
        by_cases h4 : 8 ≤ i ∧ i < 8 + t
        · rw [if_pos h4, if_pos (by omega)]
        · rw [if_neg h4, if_neg (by omega)]
theorem opR_0 (Mo Sd : Nat → Int32) : opR 0 Mo Sd = fun _ => 0 := by
  funext i
  unfold opR
  rw [if_neg (by omega), if_neg (by omega)]
theorem vR_op {T : Nat} (hT : T ≤ 5) {Mo Sd : Nat → Int32} (h : ∀ t, t < T → 0 ≤ (Sd t).toInt ∧ (Sd t).toInt ≤ 99) : vR T (opR T Mo Sd) := by
  refine ⟨fun t h1 h2 => ?_, fun t ht => ?_, fun i hi => ?_⟩
  · unfold opR
    rw [if_neg (by omega), if_neg (by omega), if_neg (by omega), if_neg (by omega), if_neg (by omega), if_neg (by omega), if_neg (by omega), if_neg (by omega), if_neg (by omega), if_neg (by omega)]
    exact ⟨rfl, rfl, rfl, rfl, rfl⟩
  · unfold opR
    rw [if_neg (show ¬ (3 ≤ 13 + t ∧ 13 + t < 3 + T) by omega), if_neg (show ¬ (8 ≤ 13 + t ∧ 13 + t < 8 + T) by omega), if_neg (show ¬ (3 ≤ 18 + t ∧ 18 + t < 3 + T) by omega), if_neg (show ¬ (8 ≤ 18 + t ∧ 18 + t < 8 + T) by omega), if_neg (show ¬ (3 ≤ 8 + t ∧ 8 + t < 3 + T) by omega), i_0]
    by_cases h3 : t < T
    · rw [if_pos (by omega), show 8 + t - 8 = t by omega]
      have := h t h3
      omega
    · rw [if_neg (by omega), i_0]
      omega
  · unfold opR
    rw [if_neg (by omega), if_neg (by omega)]
theorem e_openL {m : Um} {T : Nat} (hT5 : T ≤ 5) (hT : m 3 1 = nI T) {Mo Sd : Nat → Int32} (hM : ∀ t, t < T → m 6 t = Mo t ∧ m 7 t = Sd t) : ∀ (r t fuel : Nat) (m1 : Um), t + r = T → r < fuel → (∀ c, c ≠ 24 → m1 c = m c) → m1 24 = opR t Mo Sd → ∃ m2, f_X4_open_b10 23 fuel m1 (nI t) = some (m2, ()) ∧ (∀ c, c ≠ 24 → m2 c = m c) ∧ m2 24 = opR T Mo Sd
  | r, t, 0, m1, _, hf, _, _ => absurd hf (Nat.not_lt_zero _)
  | 0, t, fuel + 1, m1, hk, _, h1, h2 => by
    refine ⟨m1, ?_, h1, by rw [h2, show t = T by omega]⟩
    rw [f_X4_open_b10, h1 3 (by omega), hT, if_pos (nI_le (by omega) (by omega))]
  | r + 1, t, fuel + 1, m1, hk, hf, h1, h2 => by
    have ht := hM t (by omega)
    rw [f_X4_open_b10, h1 3 (by omega), hT, if_neg (nI_ge (by omega) (by omega)), uin_n (by omega) (by omega), ugd_t, lit_add, lit_add, uin_n (show 3 + t < 28 by omega) (by omega), ugd_t, ugd_t, uin_n (show 8 + t < 28 by omega) (by omega), ugd_t, nI_clamp (show t < 2 ^ 31 by omega), nI_clamp (show 3 + t < 2 ^ 31 by omega), nI_clamp (show 8 + t < 2 ^ 31 by omega), show (23 + 1 : Nat) = 24 from rfl, um_w_c (show 7 ≠ 24 by omega), h1 6 (by omega), h1 7 (by omega), ht.1, ht.2, nI_1]
    refine e_openL hT5 hT hM r (t + 1) fuel _ (by omega) (by omega) (fun c hc => ?_) ?_
    · rw [um_w_c hc, um_w_c hc, h1 c hc]
    · rw [um_w_def, um_wa_s, um_w_def, um_wa_s, h2]
      exact opR_succ (by omega) Mo Sd
theorem e_copyC (m : Um) : ∃ m', f_X1_copyFrom m = some (m', ()) ∧ (∀ c, c < 3 ∨ 7 < c → m' c = m c) ∧ m' 3 0 = m 8 0 ∧ m' 3 1 = m 8 1 ∧ m' 3 2 = m 8 2 ∧ (∀ v, v < 8 → m' 4 v = m 9 v ∧ m' 5 v = m 10 v) ∧ ∀ t, t < 5 → m' 6 t = m 11 t ∧ m' 7 t = m 12 t := by
  have hu8 : ucp_ok 0 0 8 8 8 = true := ucp_n (a := 0) (b := 0) (n := 8) (by omega) (by omega) (by omega) (by omega)
  have hu5 : ucp_ok 0 0 5 5 5 = true := ucp_n (a := 0) (b := 0) (n := 5) (by omega) (by omega) (by omega) (by omega)
  have h8 : ∀ (q : Um) (a c : Nat), um_cp q a 0 c 0 8 = um_wa q c (va_cpy (q a) (q c) 0 0 8) := fun q a c => um_cp_n (a := 0) (b := 0) (n := 8) (by omega) (by omega) (by omega)
  have h5 : ∀ (q : Um) (a c : Nat), um_cp q a 0 c 0 5 = um_wa q c (va_cpy (q a) (q c) 0 0 5) := fun q a c => um_cp_n (a := 0) (b := 0) (n := 5) (by omega) (by omega) (by omega)
  have v8 : ∀ (f g : Nat → Int32) (v : Nat), v < 8 → va_cpy f g 0 0 8 v = f v := fun f g v hv => by
    unfold va_cpy
    rw [if_pos (by omega), show 0 + (v - 0) = v by omega]
  have v5 : ∀ (f g : Nat → Int32) (v : Nat), v < 5 → va_cpy f g 0 0 5 v = f v := fun f g v hv => by
    unfold va_cpy
    rw [if_pos (by omega), show 0 + (v - 0) = v by omega]
  unfold f_X1_copyFrom
  rw [hu8, hu5, ugd_t, ugd_t, ugd_t, ugd_t, h8, h8, h5, h5]
  refine ⟨_, rfl, fun c hc => ?_, ?_, ?_, ?_, fun v hv => ⟨?_, ?_⟩, fun v hv => ⟨?_, ?_⟩⟩
  · simp (disch := omega) only [um_wa_n, um_w_c]
  · simp (disch := omega) only [um_wa_n, um_w_c, um_w_k, um_w_s]
  · simp (disch := omega) only [um_wa_n, um_w_c, um_w_k, um_w_s]
  · simp (disch := omega) only [um_wa_n, um_w_c, um_w_k, um_w_s]
  · simp (disch := omega) only [um_wa_n, um_w_c, um_wa_s, v8]
  · simp (disch := omega) only [um_wa_n, um_w_c, um_wa_s, v8]
  · simp (disch := omega) only [um_wa_n, um_w_c, um_wa_s, v5]
  · simp (disch := omega) only [um_wa_n, um_w_c, um_wa_s, v5]
theorem r_b79L {M : Um} {f : Nat → Int32} : ∀ (r k fuel : Nat), k + r = 8 → r < fuel → f_X8_sets_b79 fuel (um_wa M 57 (fun j => if j < k then -1 else f j)) (nI k) = f_X8_sets_b100 UF (um_wa M 57 (fun j => if j < 8 then -1 else f j)) 0
  | r, k, 0, _, hf => absurd hf (Nat.not_lt_zero _)
  | 0, k, fuel + 1, hk, _ => by
    rw [f_X8_sets_b79, if_pos (lit_leq (k := 8) (by show 8 ≤ k; omega) (by omega)), show k = 8 by omega]
  | r + 1, k, fuel + 1, hk, hf => by
    rw [f_X8_sets_b79, if_neg (nle_lit (k := 8) (by show k < 8; omega) (by decide)), uin_n (by omega) (by omega), ugd_t, nI_clamp (by omega), nI_1, um_w_def, um_wa_s, um_wa_wa, fill_step]
    exact r_b79L r (k + 1) fuel (by omega) (by omega)
theorem r_b79 (M : Um) : f_X8_sets_b79 UF M 0 = f_X8_sets_b100 UF (um_wa M 57 (fun j => if j < 8 then -1 else M 57 j)) 0 := by
  have h := r_b79L (M := M) (f := M 57) 8 0 UF rfl (by decide)
  have e : (um_wa M 57 fun j => if j < 0 then -1 else M 57 j) = M := by
    rw [show (fun j => if j < 0 then (-1 : Int32) else M 57 j) = M 57 from by funext j; simp, um_wa_id]
  rw [e] at h
  exact h
theorem r_b100L {M : Um} {f : Nat → Int32} : ∀ (r k fuel : Nat), k + r = 28 → r < fuel → f_X8_sets_b100 fuel (um_wa M 53 (fun j => if j < k then 0 else f j)) (nI k) = f_X8_sets_b121 UF (um_wa M 53 (fun j => if j < 28 then 0 else f j)) 0
  | r, k, 0, _, hf => absurd hf (Nat.not_lt_zero _)
  | 0, k, fuel + 1, hk, _ => by
    rw [f_X8_sets_b100, if_pos (lit_leq (k := 28) (by show 28 ≤ k; omega) (by omega)), show k = 28 by omega]
  | r + 1, k, fuel + 1, hk, hf => by
    rw [f_X8_sets_b100, if_neg (nle_lit (k := 28) (by show k < 28; omega) (by decide)), uin_n (by omega) (by omega), ugd_t, nI_clamp (by omega), nI_1, um_w_def, um_wa_s, um_wa_wa, fill_step]
    exact r_b100L r (k + 1) fuel (by omega) (by omega)
theorem r_b100 (M : Um) : f_X8_sets_b100 UF M 0 = f_X8_sets_b121 UF (um_wa M 53 (fun j => if j < 28 then 0 else M 53 j)) 0 := by
  have h := r_b100L (M := M) (f := M 53) 28 0 UF rfl (by decide)
  have e : (um_wa M 53 fun j => if j < 0 then 0 else M 53 j) = M := by
    rw [show (fun j => if j < 0 then (0 : Int32) else M 53 j) = M 53 from by funext j; simp, um_wa_id]
  rw [e] at h
  exact h
theorem r_openL {m : Um} {T : Nat} (hT5 : T ≤ 5) (hT : m 38 18 = nI T) {Mo Sd : Nat → Int32} (hM : ∀ t, t < T → m 44 (2 * t) = Mo t ∧ m 44 (2 * t + 1) = Sd t) : ∀ (r t fuel : Nat) (m1 : Um), t + r = T → r < fuel → (∀ c, c ≠ 53 → m1 c = m c) → cv (m1 53) = opR t Mo Sd → ∃ m2, f_X8_sets_b121 fuel m1 (nI t) = some (m2, ()) ∧ (∀ c, c ≠ 53 → m2 c = m c) ∧ cv (m2 53) = opR T Mo Sd
  | r, t, 0, m1, _, hf, _, _ => absurd hf (Nat.not_lt_zero _)
  | 0, t, fuel + 1, m1, hk, _, h1, h2 => by
    refine ⟨m1, ?_, h1, by rw [h2, show t = T by omega]⟩
    rw [f_X8_sets_b121, h1 38 (by omega), hT, if_pos (nI_le (by omega) (by omega))]
  | r + 1, t, fuel + 1, m1, hk, hf, h1, h2 => by
    have ht := hM t (by omega)
    rw [f_X8_sets_b121, h1 38 (by omega), hT, if_neg (nI_ge (by omega) (by omega)), lit_mul, nI_1, uin_n (show 2 * t < 10 by omega) (by omega), ugd_t, lit_add, uin_n (show 0 + t < 28 by omega) (by omega), ugd_t, uin_n (show 2 * t + 1 < 10 by omega) (by omega), ugd_t, lit_add, uin_n (show 5 + t < 28 by omega) (by omega), ugd_t, nI_clamp (show 0 + t < 2 ^ 31 by omega), nI_clamp (show 2 * t < 2 ^ 31 by omega), nI_clamp (show 5 + t < 2 ^ 31 by omega), nI_clamp (show 2 * t + 1 < 2 ^ 31 by omega), um_w_c (show 44 ≠ 53 by omega), h1 44 (by omega), ht.1, ht.2, nI_1]
    refine r_openL hT5 hT hM r (t + 1) fuel _ (by omega) (by omega) (fun c hc => ?_) ?_
    · rw [um_w_c hc, um_w_c hc, h1 c hc]
    · rw [um_w_def, um_wa_s, um_w_def, um_wa_s, cv_upd _ _ (by omega), cv_upd _ _ (by omega), h2, show 5 + t + 3 = 8 + t by omega, show 0 + t + 3 = 3 + t by omega]
      exact opR_succ (by omega) Mo Sd
theorem r_sets {M : Um} {c : Cs} (hc : rr M c) (ho : okK c) : ∃ M', f_X8_sets M = some (M', ()) ∧ (∀ q, q ≠ 38 → q ≠ 43 → q ≠ 44 → q ≠ 53 → q ≠ 57 → M' q = M q) ∧ (∀ j, j < 17 → M' 38 j = M 38 j) ∧ M' 38 17 = nI c.1.1 ∧ M' 38 18 = nI c.1.2.1 ∧ M' 38 19 = nI c.1.2.2 ∧ M' 38 26 = 0 ∧ M' 38 41 = 0 ∧ M' 38 31 = 0 ∧ M' 38 48 = 0 ∧ M' 38 32 = 0 ∧ (∀ v, v < c.1.1 → M' 43 (2 * v) = c.2.1.1 v ∧ M' 43 (2 * v + 1) = c.2.1.2 v) ∧ (∀ v, v < 8 → M' 57 v = -1) ∧ cv (M' 53) = opR c.1.2.1 c.2.2.1 c.2.2.2 := by
  obtain ⟨c1, c2, c3, c4, c5⟩ := hc
  have ho1 := ho.1
  have ho2 := ho.2.1
  have hk1 := r_copies (m := um_w (um_w (um_w M 38 17 (M 38 14)) 38 18 ((um_w M 38 17 (M 38 14)) 38 15)) 38 19 ((um_w (um_w M 38 17 (M 38 14)) 38 18 ((um_w M 38 17 (M 38 14)) 38 15)) 38 16)) (a0 := 41) (a1 := 43) (n0 := 16) (n1 := 16) (n := 16) (by omega) (by omega) (by omega) (by omega)
  generalize hm1 : um_wa (um_w (um_w (um_w M 38 17 (M 38 14)) 38 18 ((um_w M 38 17 (M 38 14)) 38 15)) 38 19 ((um_w (um_w M 38 17 (M 38 14)) 38 18 ((um_w M 38 17 (M 38 14)) 38 15)) 38 16)) 43 (fun j => if j < 16 then (um_w (um_w (um_w M 38 17 (M 38 14)) 38 18 ((um_w M 38 17 (M 38 14)) 38 15)) 38 19 ((um_w (um_w M 38 17 (M 38 14)) 38 18 ((um_w M 38 17 (M 38 14)) 38 15)) 38 16)) 41 j else (um_w (um_w (um_w M 38 17 (M 38 14)) 38 18 ((um_w M 38 17 (M 38 14)) 38 15)) 38 19 ((um_w (um_w M 38 17 (M 38 14)) 38 18 ((um_w M 38 17 (M 38 14)) 38 15)) 38 16)) 43 j) = m1 at hk1
  have a1 : ∀ q, q ≠ 38 → q ≠ 43 → m1 q = M q := fun q q1 q2 => by
    subst hm1
    rw [um_wa_n q2, um_w_c q1, um_w_c q1, um_w_c q1]
  have a2 : ∀ j, j < 17 ∨ 19 < j → m1 38 j = M 38 j := fun j hj => by
    subst hm1
    rw [um_wa_n (by omega), um_w_k (by omega), um_w_k (by omega), um_w_k (by omega)]
  have a3 : m1 38 17 = nI c.1.1 ∧ m1 38 18 = nI c.1.2.1 ∧ m1 38 19 = nI c.1.2.2 := by
    subst hm1
    refine ⟨?_, ?_, ?_⟩
    · rw [um_wa_n (by omega), um_w_k (by omega), um_w_k (by omega), um_w_s, c1]
    · rw [um_wa_n (by omega), um_w_k (by omega), um_w_s, um_w_k (by omega), c2]
    · rw [um_wa_n (by omega), um_w_s, um_w_k (by omega), um_w_k (by omega), c3]
  have a4 : ∀ j, j < 16 → m1 43 j = M 41 j := fun j hj => by
    subst hm1
    rw [um_wa_s, if_pos hj, um_w_c (by omega), um_w_c (by omega), um_w_c (by omega)]
  have hk2 := r_copies (m := m1) (a0 := 42) (a1 := 44) (n0 := 10) (n1 := 10) (n := 10) (by omega) (by omega) (by omega) (by omega)
  generalize hm2 : um_wa m1 44 (fun j => if j < 10 then m1 42 j else m1 44 j) = m2 at hk2
  have d1 : ∀ q, q ≠ 44 → m2 q = m1 q := fun q q1 => by
    subst hm2
    rw [um_wa_n q1]
  have d2 : ∀ j, j < 10 → m2 44 j = M 42 j := fun j hj => by
    subst hm2
    rw [um_wa_s, if_pos hj, a1 42 (by omega) (by omega)]
  generalize hm3 : um_w (um_w (um_w (um_w (um_w m2 38 26 0) 38 41 0) 38 31 0) 38 48 0) 38 32 0 = m3
  have f1 : ∀ q, q ≠ 38 → m3 q = m2 q := fun q q1 => by
    subst hm3
    rw [um_w_c q1, um_w_c q1, um_w_c q1, um_w_c q1, um_w_c q1]
  have f2 : ∀ j, j < 26 → m3 38 j = m2 38 j := fun j hj => by
    subst hm3
    rw [um_w_k (by omega), um_w_k (by omega), um_w_k (by omega), um_w_k (by omega), um_w_k (by omega)]
  have f3 : m3 38 26 = 0 ∧ m3 38 41 = 0 ∧ m3 38 31 = 0 ∧ m3 38 48 = 0 ∧ m3 38 32 = 0 := by
    subst hm3
    refine ⟨?_, ?_, ?_, ?_, um_w_s _ _ _ _⟩
    · rw [um_w_k (by omega), um_w_k (by omega), um_w_k (by omega), um_w_k (by omega), um_w_s]
    · rw [um_w_k (by omega), um_w_k (by omega), um_w_k (by omega), um_w_s]
    · rw [um_w_k (by omega), um_w_k (by omega), um_w_s]
    · rw [um_w_k (by omega), um_w_s]
  generalize hm4 : um_wa m3 57 (fun j => if j < 8 then -1 else m3 57 j) = m4
  generalize hm5 : um_wa m4 53 (fun j => if j < 28 then 0 else m4 53 j) = m5
  have g1 : ∀ q, q ≠ 53 → q ≠ 57 → m5 q = m3 q := fun q q1 q2 => by
    subst hm5 hm4
    rw [um_wa_n q1, um_wa_n q2]
  have g2 : ∀ v, v < 8 → m5 57 v = -1 := fun v hv => by
    subst hm5 hm4
    rw [um_wa_n (by omega), um_wa_s, if_pos hv]
  have g3 : cv (m5 53) = opR 0 c.2.2.1 c.2.2.2 := by
    subst hm5
    rw [um_wa_s, opR_0]
    have e := cv_cong (S := fun j => if j < 28 then 0 else m4 53 j) (S' := fun _ => 0) (fun j hj => by rw [if_pos hj])
    rw [e]
    funext i
    unfold cv
    split
    · split
      · rfl
      · split
        · rfl
        · split <;> rfl
    · rfl
  obtain ⟨m6, i1, i2, i3⟩ := r_openL (m := m5) (T := c.1.2.1) (Mo := c.2.2.1) (Sd := c.2.2.2) ho2 (by rw [g1 38 (by omega) (by omega), f2 18 (by omega), d1 38 (by omega)]; exact a3.2.1) (fun t ht => by
    rw [g1 44 (by omega) (by omega), f1 44 (by omega), d2 _ (by omega), d2 _ (by omega)]
    exact c5 t ht) c.1.2.1 0 UF m5 (by omega) (by show c.1.2.1 < 3000; omega) (fun _ _ => rfl) g3
  refine ⟨m6, ?_, fun q q1 q2 q3 q4 q5 => ?_, fun j hj => ?_, ?_, ?_, ?_, ?_, ?_, ?_, ?_, ?_, fun v hv => ?_, fun v hv => ?_, i3⟩
  · unfold f_X8_sets
    rw [show (16 : Int32) = nI 16 from rfl, show (10 : Int32) = nI 10 from rfl, hk1, ubi_mk, hk2, ubi_mk, hm3, r_b79, hm4, r_b100, hm5]
    exact i1
  · rw [i2 q q4, g1 q q4 q5, f1 q q1, d1 q q3, a1 q q1 q2]
  · rw [i2 38 (by omega), g1 38 (by omega) (by omega), f2 j (by omega), d1 38 (by omega), a2 j (by omega)]
  · rw [i2 38 (by omega), g1 38 (by omega) (by omega), f2 17 (by omega), d1 38 (by omega)]
    exact a3.1
  · rw [i2 38 (by omega), g1 38 (by omega) (by omega), f2 18 (by omega), d1 38 (by omega)]
    exact a3.2.1
  · rw [i2 38 (by omega), g1 38 (by omega) (by omega), f2 19 (by omega), d1 38 (by omega)]
    exact a3.2.2
  · rw [i2 38 (by omega), g1 38 (by omega) (by omega)]
    exact f3.1
  · rw [i2 38 (by omega), g1 38 (by omega) (by omega)]
    exact f3.2.1
  · rw [i2 38 (by omega), g1 38 (by omega) (by omega)]
    exact f3.2.2.1
  · rw [i2 38 (by omega), g1 38 (by omega) (by omega)]
    exact f3.2.2.2.1
  · rw [i2 38 (by omega), g1 38 (by omega) (by omega)]
    exact f3.2.2.2.2
  · rw [i2 43 (by omega), g1 43 (by omega) (by omega), f1 43 (by omega), d1 43 (by omega), a4 _ (by omega), a4 _ (by omega)]
    exact c4 v hv
  · rw [i2 57 (by omega)]
    exact g2 v hv
