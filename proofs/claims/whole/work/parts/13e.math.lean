/-! BOOKS -/
theorem fill_step {f : Nat → Int32} {k : Nat} {x : Int32} : upd (fun j => if j < k then x else f j) k x = fun j => if j < k + 1 then x else f j := by
  funext j
  unfold upd
  by_cases h : j = k
  · simp [h]
  · simp only [h, if_false]
    by_cases h2 : j < k
    · rw [if_pos h2, if_pos (by omega)]
    · rw [if_neg h2, if_neg (by omega)]
theorem e_fillL {m : Um} {a0 n0 : Nat} {x : Int32} {f : Nat → Int32} (hn : n0 < 3000) : ∀ (r k fuel : Nat), k + r = n0 → r < fuel → f_J7_fill_53178_b5 a0 n0 fuel (um_wa m a0 (fun j => if j < k then x else f j)) x (nI k) (nI n0) = some (um_wa m a0 (fun j => if j < n0 then x else f j), ())
  | r, k, 0, _, hf => absurd hf (Nat.not_lt_zero _)
  | 0, k, fuel + 1, hk, _ => by
    rw [f_J7_fill_53178_b5, if_pos (nI_le (by omega) (by omega)), show k = n0 by omega]
  | r + 1, k, fuel + 1, hk, hf => by
    rw [f_J7_fill_53178_b5, if_neg (nI_ge (by omega) (by omega)), uin_n (by omega) (by omega), ugd_t, nI_clamp (by omega), nI_1, um_w_def, um_wa_s, um_wa_wa, fill_step]
    exact e_fillL hn r (k + 1) fuel (by omega) (by omega)
theorem e_fill {m : Um} {a0 n0 : Nat} (hn : n0 < 3000) (x : Int32) : f_J7_fill_53178 a0 n0 m x = some (um_wa m a0 (fun j => if j < n0 then x else m a0 j), ()) := by
  have h := e_fillL (m := m) (a0 := a0) (x := x) (f := m a0) hn n0 0 UF (by omega) (by show n0 < 3000; omega)
  have e : (um_wa m a0 fun j => if j < 0 then x else m a0 j) = m := by
    rw [show (fun j => if j < 0 then x else m a0 j) = m a0 from by funext j; simp, um_wa_id]
  rw [e] at h
  exact h
theorem r_result_t {M : Um} (h : M 38 5 = -1) (x : Int32) : f_X8_result M x = some (um_w M 38 8 (-1), x) := by
  unfold f_X8_result f_X8_result_b26
  rw [h, r_fine_t (by rw [um_w_k (by omega)]; exact h), ubi_mk, if_neg i1_0]
theorem r_result_f {M : Um} {k q : Nat} (hq : q < 2 ^ 31) (h : M 38 5 = nI q) (h6 : M 38 6 = nI k) (x : Int32) : f_X8_result M x = some (um_w M 38 8 (nI q), nI k - 10) := by
  unfold f_X8_result f_X8_result_b26
  rw [h, r_fine_f hq (by rw [um_w_k (by omega)]; exact h), ubi_mk, if_pos rfl, um_w_k (by omega), h6]
def pLine (b : Nat → Nat) (N V p : Nat) (D : Nat → Int32) : Pr_ (Nat × (Nat → Int32)) := pb (pNum b N 0 V p) (fun v => if D v.1 = -1 then pb (pNum b N 0 6 v.2) (fun w => pb (pSign b N 59 w.2) (fun p3 => .inr (p3, upd D v.1 (nI w.1)))) else .inl (2, sk b N p))
def pBk (b : Nat → Nat) (N V : Nat) : Nat → Nat → Nat → (Nat → Int32) → Pr_ (Nat × (Nat → Int32))
  | 0, _, n, D => .inr (n, D)
  | k + 1, p, n, D => if sk b N p < N then pb (pLine b N V (sk b N p) D) (fun t => pBk b N V k t.1 (n + 1) t.2) else .inr (n, D)
def cn8 (D : Nat → Int32) : Nat := (if D 0 = -1 then 0 else 1) + (if D 1 = -1 then 0 else 1) + (if D 2 = -1 then 0 else 1) + (if D 3 = -1 then 0 else 1) + (if D 4 = -1 then 0 else 1) + (if D 5 = -1 then 0 else 1) + (if D 6 = -1 then 0 else 1) + (if D 7 = -1 then 0 else 1)
theorem c8_le (D : Nat → Int32) : cn8 D ≤ 8 := by
  unfold cn8
  have h : ∀ x : Int32, (if x = -1 then 0 else 1) ≤ 1 := fun x => by split <;> omega
  have h0 := h (D 0)
  have h1 := h (D 1)
  have h2 := h (D 2)
  have h3 := h (D 3)
  have h4 := h (D 4)
  have h5 := h (D 5)
  have h6 := h (D 6)
  have h7 := h (D 7)
  omega
theorem c8_upd {D : Nat → Int32} {v : Nat} {x : Int32} (hv : v < 8) (h : D v = -1) (hx : ¬ x = -1) : cn8 (upd D v x) = cn8 D + 1 := by
  have hc : v = 0 ∨ v = 1 ∨ v = 2 ∨ v = 3 ∨ v = 4 ∨ v = 5 ∨ v = 6 ∨ v = 7 := by omega
  unfold cn8 upd
  rcases hc with rfl | rfl | rfl | rfl | rfl | rfl | rfl | rfl <;> simp [h, hx] <;> omega
section BOOK
variable {b : Nat → Nat} {N V : Nat}
abbrev Cb : Nat → Prop := fun c => c = 20
abbrev Cr : Nat → Prop := fun c => c = 56
theorem e_line {m : Um} {p : Nat} {D : Nat → Int32} (hV : V ≤ 8) (hA : tA b N m) (hpN : p ≤ N) (hp : m 1 3 = nI p) (hD : ∀ v, v < 8 → m 20 v = D v) : (∀ e, pLine b N V p D = .inl e → ∃ m', f_X0_readLine m (nI V) = some (m', 0) ∧ tf Cb m m' e) ∧ ∀ p' D', pLine b N V p D = .inr (p', D') → ∃ m', f_X0_readLine m (nI V) = some (m', 1) ∧ tk Cb m m' p' ∧ (∀ v, v < 8 → m' 20 v = D' v) ∧ p' ≤ N ∧ cn8 D' = cn8 D + 1 := by
  unfold pLine f_X0_readLine
  cases h1 : pNum b N 0 V p with
  | inl e1 =>
    rw [pb_l]
    refine ⟨fun e he => ?_, fun p' D' he => by cases he⟩
    cases he
    obtain ⟨m', g1, g2⟩ := e_num_f hA hpN hp (lo := 0) (hi := V) (x := 0) (y := nI V - 1) rfl rfl (by omega) (by omega) h1
    exact ⟨m', by rw [g1, ubi_mk, if_pos rfl], tf_0 g2⟩
  | inr v =>
    obtain ⟨v, p1⟩ := v
    have hp1 := pNum_pos hpN h1
    obtain ⟨m1, g1, g2, g3, g4⟩ := e_num_t hA hpN hp (lo := 0) (hi := V) (x := 0) (y := nI V - 1) rfl rfl (by omega) (by omega) h1
    have hA1 := tA_g (fun h => h) hA g2.1
    have h20 : m1 20 v = D v := by rw [g2.1.1 20 (fun h => h) (by omega), hD v (by omega)]
    rw [pb_r, g1, ubi_mk, if_neg i1_0, g3, if_neg (nle_lit (k := 8) (by show v < 8; omega) (by decide)), uin_n (by omega) (by omega), ugd_t, nI_clamp (by omega), h20]
    by_cases hDv : D v = -1
    · rw [if_pos hDv, if_pos hDv]
      cases h2 : pNum b N 0 6 p1 with
      | inl e2 =>
        rw [pb_l]
        refine ⟨fun e he => ?_, fun p' D' he => by cases he⟩
        cases he
        obtain ⟨m', q1, q2⟩ := e_num_f hA1 hp1.2.1 g2.2.1 (lo := 0) (hi := 6) (x := 0) (y := 5) rfl rfl (by omega) (by omega) h2
        exact ⟨m', by rw [q1, ubi_mk, if_pos rfl], tf_tr (tk_z g2) (tf_0 q2)⟩
      | inr w =>
        obtain ⟨w, p2⟩ := w
        have hp2 := pNum_pos hp1.2.1 h2
        obtain ⟨m2, q1, q2, q3, q4⟩ := e_num_t hA1 hp1.2.1 g2.2.1 (lo := 0) (hi := 6) (x := 0) (y := 5) rfl rfl (by omega) (by omega) h2
        have k2 : tk Cb m (um_w m2 20 v (nI w)) p2 := tk_w (C := Cb) (c := 20) (tk_tr (tk_z g2) (tk_z q2)) rfl (by omega) v (nI w)
        have hA2 := tA_g (C := Cb) (show ¬ (2 = 20) by omega) hA k2.1
        rw [pb_r, q1, ubi_mk, if_neg i1_0, ugd_t, q3]
        cases h3 : pSign b N 59 p2 with
        | inl e3 =>
          rw [pb_l]
          refine ⟨fun e he => ?_, fun p' D' he => by cases he⟩
          cases he
          obtain ⟨m', r1, r2⟩ := e_sign_f hA2 hp2.2.1 k2.2.1 (c := 59) (x := 59) rfl (by omega) h3
          exact ⟨m', by rw [r1, ubi_mk, ub01_0, ugd_t], tf_tr k2 (tf_0 r2)⟩
        | inr p3 =>
          rw [pb_r]
          refine ⟨fun e he => (by cases he), fun p' D' he => ?_⟩
          cases he
          obtain ⟨m', r1, r2⟩ := e_sign_t hA2 hp2.2.1 k2.2.1 (c := 59) (x := 59) rfl (by omega) h3
          refine ⟨m', by rw [r1, ubi_mk, ub01_1, ugd_t], tk_tr k2 (tk_z r2), fun u hu => ?_, (pSign_pos h3).2, c8_upd (by omega) hDv (by rw [nI_ne1 (by omega)]; exact id)⟩
          rw [r2.1.1 20 (fun h => h) (by omega), um_w_def, um_wa_s, q2.1.1 20 (fun h => h) (by omega), g2.1.1 20 (fun h => h) (by omega)]
          unfold upd
          by_cases huv : u = v
          · rw [if_pos huv, if_pos huv]
          · rw [if_neg huv, if_neg huv, hD u hu]
    · rw [if_neg hDv, if_neg hDv]
      refine ⟨fun e he => ?_, fun p' D' he => by cases he⟩
      cases he
      have hf := fail_f m1 2 (sk b N p)
      refine ⟨_, ?_, tf_tr (tk_z g2) (tf_0 hf.2)⟩
      unfold f_X0_readLine_b34
      rw [g4, show (2 : Int32) = nI 2 from rfl, hf.1, ubi_mk, ub01_0, ugd_t]
theorem e_bkL {m0 : Um} (hV : V ≤ 8) : ∀ (k fuel p n : Nat) (m : Um) (D : Nat → Int32), n + k = 10 → k < fuel → tA b N m → p ≤ N → tk Cb m0 m p → (∀ v, v < 8 → m 20 v = D v) → cn8 D = n → (∀ e, pBk b N V k p n D = .inl e → ∃ m', f_X0_read_b13 fuel m (nI V) (nI n) (nI n) = some (m', 0) ∧ tf Cb m0 m' e) ∧ ∀ n' D', pBk b N V k p n D = .inr (n', D') → ∃ m' p', f_X0_read_b13 fuel m (nI V) (nI n) (nI n) = f_X0_read_b47 m' (nI n') ∧ tk Cb m0 m' p' ∧ (∀ v, v < 8 → m' 20 v = D' v) ∧ n' ≤ 8
  | k, 0, p, n, m, D, _, hf, _, _, _, _, _ => absurd hf (Nat.not_lt_zero _)
  | 0, fuel + 1, p, n, m, D, hk, hf, hA, hpN, h0, hD, hc => by
    have := c8_le D
    omega
  | k + 1, fuel + 1, p, n, m, D, hk, hf, hA, hpN, h0, hD, hc => by
    have hc8 := c8_le D
    have hs := sk_le (b := b) hpN
    have hw := w3_k (m := m) (sk b N p)
    have hA' := tA_3 hA (sk b N p)
    have h0' : tk Cb m0 (um_w m 1 3 (nI (sk b N p))) (sk b N p) := tk_tr h0 (tk_z hw)
    rw [pBk, f_X0_read_b13, if_neg (show ¬ 8 < nI n from lit_nlt (k := 8) (by show n ≤ 8; omega) (by decide)), e_more hA hpN h0.2.1, ubi_mk, ite_bi0]
    by_cases h : sk b N p < N
    · rw [if_pos h, if_pos (decide_eq_true h)]
      have hl := e_line (D := D) hV hA' hs (um_w_s _ _ _ _) (fun v hv => by rw [um_w_c (by omega)]; exact hD v hv)
      cases h1 : pLine b N V (sk b N p) D with
      | inl e1 =>
        obtain ⟨m', g1, g2⟩ := hl.1 e1 h1
        rw [pb_l, g1, ubi_mk, if_pos rfl]
        refine ⟨fun e he => ?_, fun n' D' he => by cases he⟩
        cases he
        exact ⟨m', rfl, tf_tr h0' g2⟩
      | inr t =>
        obtain ⟨p1, D1⟩ := t
        obtain ⟨m1, g1, g2, g3, g4, g5⟩ := hl.2 p1 D1 h1
        rw [pb_r, g1, ubi_mk, if_neg i1_0, nI_1]
        exact e_bkL hV k fuel p1 (n + 1) m1 D1 (by omega) (by omega) (tA_g (C := Cb) (show ¬ (2 = 20) by omega) hA' g2.1) g4 (tk_tr h0' g2) g3 (by omega)
    · rw [if_neg h, if_neg (fun q => h (of_decide_eq_true q))]
      refine ⟨fun e he => (by cases he), fun n' D' he => ?_⟩
      cases he
      exact ⟨_, _, rfl, h0', fun v hv => by rw [um_w_c (by omega)]; exact hD v hv, by omega⟩
theorem r_bad {M M' : Um} {e : Nat × Nat} (hq : e.2 < 2 ^ 31) (h : rb Cr cN0 M M' e) (n : Int32) : f_X8_book_b167 M' n = some (um_w M' 38 8 (nI e.2), nI e.1 - 10) := by
  unfold f_X8_book_b167
  rw [r_result_f hq h.2.1 h.2.2, ubi_mk, um_w_k (by omega), h.2.1, if_neg (fun q => (nI_ne1 hq).mp q)]
theorem r_bad2 {M M' : Um} {e : Nat × Nat} (hq : e.2 < 2 ^ 31) (h : rb Cr cN0 M M' e) (f : Um → Int32 → Option (Um × Int32)) (n v : Int32) : f_X8_book_b128 f M' n v = f_X8_book_b167 M' n := by
  unfold f_X8_book_b128
  rw [r_num_b hq h.2.1, ubi_mk, r_sign_b hq h.2.1, ubi_mk, r_fine_f hq h.2.1, ubi_mk, if_pos rfl]
theorem pNum_e {lo hi p : Nat} {e : Nat × Nat} (hpN : p ≤ N) (h : pNum b N lo hi p = .inl e) : e.2 ≤ N := by
  have hs := sk_le (b := b) hpN
  unfold pNum at h
  by_cases hd : atD b N p = true
  · rw [if_pos hd] at h
    by_cases hr : lo ≤ numV b N (sk b N p) ∧ numV b N (sk b N p) < hi
    · rw [if_pos hr] at h
      cases h
    · rw [if_neg hr] at h
      cases h
      exact hs
  · rw [if_neg hd] at h
    cases h
    exact hs
theorem pSign_e {c p : Nat} {e : Nat × Nat} (hpN : p ≤ N) (h : pSign b N c p = .inl e) : e.2 ≤ N := by
  have hs := sk_le (b := b) hpN
  unfold pSign at h
  by_cases hh : ht_ b N c p = true
  · rw [if_pos hh] at h
    cases h
  · rw [if_neg hh] at h
    cases h
    exact hs
/-- a line, and what is behind it -/
theorem r_line {M : Um} {p : Nat} {D : Nat → Int32} {fuel n : Nat} (hN : N ≤ 600) (hV : V ≤ 8) (h17 : M 38 17 = nI V) (hA : rA b N M) (hpN : p ≤ N) (hp : M 38 4 = nI p) (hf : M 38 5 = -1) (hs : sk b N p < N) (hD : ∀ v, v < 8 → M 56 v = D v) : (∀ e, pLine b N V (sk b N p) D = .inl e → ∃ m', f_X8_book_b67 (fuel + 1) M (nI n) = some (m', nI e.1 - 10) ∧ rg Cr (fun j => j = 8) M m' ∧ m' 38 8 = nI e.2) ∧ ∀ p' D', pLine b N V (sk b N p) D = .inr (p', D') → ∃ m', f_X8_book_b67 (fuel + 1) M (nI n) = f_X8_book_b67 fuel m' (nI (n + 1)) ∧ rq Cr cN0 M m' p' ∧ (∀ v, v < 8 → m' 56 v = D' v) := by
  have hsN := sk_le (b := b) hpN
  have hk := w4_k hf (sk b N p)
  have hA' := rA_4 hA (sk b N p)
  have bad : ∀ (m' : Um) (e : Nat × Nat), e.2 ≤ N → rb Cr cN0 M m' e → ∃ m'', f_X8_book_b167 m' (nI n) = some (m'', nI e.1 - 10) ∧ rg Cr (fun j => j = 8) M m'' ∧ m'' 38 8 = nI e.2 := by
    intro m' e he hb
    refine ⟨_, r_bad (by omega) hb _, ?_, um_w_s _ _ _ _⟩
    refine ⟨fun c h1 h2 => ?_, fun j h1 h2 => ?_⟩
    · rw [um_w_c h2, hb.1.1 c h1 h2]
    · rw [um_w_k h1, hb.1.2 j (fun h => h) h2]
  unfold pLine
  rw [f_X8_book_b67, r_fine_t hf, ubi_mk, if_neg i1_0, r_more hA hpN hp, ubi_mk, ite_bi0, if_pos (decide_eq_true hs), r_here2 hA hpN, ubi_mk, um_w_s, um_w_k (show 17 ≠ 4 by omega), h17]
  cases h1 : pNum b N 0 V (sk b N p) with
  | inl e1 =>
    obtain ⟨m1, g1, g2, g3⟩ := r_num_f hA' hsN (um_w_s _ _ _ _) hk.2.2.1 (lo := 0) (hi := V) (x := 0) (y := nI V - 1) rfl rfl (by omega) (by omega) h1
    have he := pNum_e hsN h1
    rw [pb_l, g1, ubi_mk, r_fine_f (by omega) g2.2.1, ubi_mk, if_pos rfl]
    refine ⟨fun e he' => ?_, fun p' D' he => by cases he⟩
    cases he'
    have hb : rb Cr cN0 M m1 e1 := rb_tr (rg_0 hk.1) (rb_0 g2)
    rw [r_bad2 (by omega) hb]
    exact bad m1 e1 he hb
  | inr v =>
    obtain ⟨v, p1⟩ := v
    have hp1 := pNum_pos hsN h1
    obtain ⟨m1, g1, g2⟩ := r_num_t hA' hsN (um_w_s _ _ _ _) hk.2.2.1 (lo := 0) (hi := V) (x := 0) (y := nI V - 1) rfl rfl (by omega) (by omega) h1
    have k1 := rq_tr hk g2
    have hA1 := rA_g (C := cN0) (J := cN0) (fun h => h) (fun h => h) hA k1.1
    have h56 : m1 56 v = D v := by rw [k1.1.1 56 (fun h => h) (by omega), hD v (by omega)]
    rw [pb_r, g1, ubi_mk, r_fine_t k1.2.2.1, ubi_mk, if_neg i1_0, uin_n (by omega) (by omega), ugd_t, nI_clamp (by omega), h56]
    by_cases hDv : D v = -1
    · rw [if_pos hDv, if_pos hDv]
      cases h2 : pNum b N 0 6 p1 with
      | inl e2 =>
        obtain ⟨m2, q1, q2, q3⟩ := r_num_f hA1 hp1.2.1 k1.2.1 k1.2.2.1 (lo := 0) (hi := 6) (x := 0) (y := 5) rfl rfl (by omega) (by omega) h2
        have he := pNum_e hp1.2.1 h2
        rw [pb_l]
        refine ⟨fun e he' => ?_, fun p' D' he => by cases he⟩
        cases he'
        have hb : rb Cr cN0 M m2 e2 := rb_tr (rg_0 k1.1) (rb_0 q2)
        unfold f_X8_book_b128
        rw [q1, ubi_mk, r_sign_b (by omega) q2.2.1, ubi_mk, r_fine_f (by omega) q2.2.1, ubi_mk, if_pos rfl]
        exact bad m2 e2 he hb
      | inr w =>
        obtain ⟨w, p2⟩ := w
        have hp2 := pNum_pos hp1.2.1 h2
        obtain ⟨m2, q1, q2⟩ := r_num_t hA1 hp1.2.1 k1.2.1 k1.2.2.1 (lo := 0) (hi := 6) (x := 0) (y := 5) rfl rfl (by omega) (by omega) h2
        have k2 := rq_tr k1 q2
        have hA2 := rA_g (C := cN0) (J := cN0) (fun h => h) (fun h => h) hA k2.1
        rw [pb_r]
        unfold f_X8_book_b128
        rw [q1, ubi_mk]
        cases h3 : pSign b N 59 p2 with
        | inl e3 =>
          obtain ⟨m3, r1, r2, r3⟩ := r_sign_f hA2 hp2.2.1 k2.2.1 k2.2.2.1 (c := 59) (x := 59) rfl (by omega) (by omega) h3
          have he := pSign_e hp2.2.1 h3
          rw [pb_l]
          refine ⟨fun e he' => ?_, fun p' D' he => by cases he⟩
          cases he'
          have hb : rb Cr cN0 M m3 e3 := rb_tr (rg_0 k2.1) (rb_0 r2)
          rw [r1, ubi_mk, r_fine_f (by omega) r2.2.1, ubi_mk, if_pos rfl]
          exact bad m3 e3 he hb
        | inr p3 =>
          obtain ⟨m3, r1, r2⟩ := r_sign_t hA2 hp2.2.1 k2.2.1 k2.2.2.1 (c := 59) (x := 59) rfl (by omega) (by omega) h3
          have k3 := rq_tr k2 r2
          rw [pb_r]
          refine ⟨fun e he => (by cases he), fun p' D' he => ?_⟩
          cases he
          refine ⟨um_w m3 56 v (nI w), ?_, rq_w (C := Cr) (J := cN0) (c := 56) (rq_0 k3) rfl (by omega) v (nI w), fun u hu => ?_⟩
          · rw [r1, ubi_mk, r_fine_t k3.2.2.1, ubi_mk, if_neg i1_0, uin_n (by omega) (by omega), ugd_t, nI_clamp (by omega), nI_1]
          · rw [um_w_def, um_wa_s, k3.1.1 56 (fun h => h) (by omega)]
            unfold upd
            by_cases huv : u = v
            · rw [if_pos huv, if_pos huv]
            · rw [if_neg huv, if_neg huv, hD u hu]
    · rw [if_neg hDv, if_neg hDv]
      obtain ⟨m2, q1, q2, q3, q4⟩ := r_wrong k1.2.2.1 (k := 2) (q := sk b N p) (x := 2) (y := nI (sk b N p)) rfl rfl
      rw [q1, ubi_mk]
      refine ⟨fun e he' => ?_, fun p' D' he => by cases he⟩
      have hee : e = (2, sk b N p) := by
        have : (2, sk b N (sk b N p)) = e := Sum.inl.inj he'
        rw [← this]
        unfold sk
        rw [scE_id]
      subst hee
      have hb : rb Cr cN0 M m2 (2, sk b N p) := rb_tr (rg_0 k1.1) (rb_0 q2)
      rw [r_bad2 (by omega) hb]
      exact bad m2 (2, sk b N p) hsN hb
theorem r_bkL {M0 : Um} (hN : N ≤ 600) (hV : V ≤ 8) : ∀ (k fuel p n : Nat) (M : Um) (D : Nat → Int32), n + k = 10 → k < fuel → rA b N M → M 38 17 = nI V → p ≤ N → M 38 5 = -1 → rq Cr cN0 M0 M p → (∀ v, v < 8 → M 56 v = D v) → (∀ e, pBk b N V k p n D = .inl e → ∃ m', f_X8_book_b67 fuel M (nI n) = some (m', nI e.1 - 10) ∧ rg Cr (fun j => j = 8) M0 m' ∧ m' 38 8 = nI e.2) ∧ ∀ n' D', pBk b N V k p n D = .inr (n', D') → n' < 10 → ∃ m' p', f_X8_book_b67 fuel M (nI n) = f_X8_book_b167 m' (nI n') ∧ rq Cr cN0 M0 m' p' ∧ (∀ v, v < 8 → m' 56 v = D' v)
  | k, 0, p, n, M, D, _, hf, _, _, _, _, _, _ => absurd hf (Nat.not_lt_zero _)
  | 0, fuel + 1, p, n, M, D, hk, hf, hA, h17, hpN, h5, h0, hD => by
    rw [pBk]
    refine ⟨fun e he => (by cases he), fun n' D' he hn' => ?_⟩
    cases he
    omega
  | k + 1, fuel + 1, p, n, M, D, hk, hf, hA, h17, hpN, h5, h0, hD => by
    have hs := sk_le (b := b) hpN
    rw [pBk]
    by_cases h : sk b N p < N
    · rw [if_pos h]
      have hl := r_line (D := D) (fuel := fuel) (n := n) hN hV h17 hA hpN h0.2.1 h5 h hD
      cases h1 : pLine b N V (sk b N p) D with
      | inl e1 =>
        obtain ⟨m', g1, g2, g3⟩ := hl.1 e1 h1
        rw [pb_l]
        refine ⟨fun e he => ?_, fun n' D' he => by cases he⟩
        cases he
        refine ⟨m', g1, rg_tr ⟨h0.1.1, fun j a b => h0.1.2 j (fun h => h) b⟩ g2, g3⟩
      | inr t =>
        obtain ⟨p1, D1⟩ := t
        obtain ⟨m1, g1, g2, g3⟩ := hl.2 p1 D1 h1
        have hp1 : p1 ≤ N := by
          unfold pLine at h1
          cases q1 : pNum b N 0 V (sk b N p) with
          | inl e => rw [q1, pb_l] at h1; cases h1
          | inr v =>
            rw [q1, pb_r] at h1
            by_cases q2 : D v.1 = -1
            · rw [if_pos q2] at h1
              cases q3 : pNum b N 0 6 v.2 with
              | inl e => rw [q3, pb_l] at h1; cases h1
              | inr w =>
                rw [q3, pb_r] at h1
                cases q4 : pSign b N 59 w.2 with
                | inl e => rw [q4, pb_l] at h1; cases h1
                | inr p3 =>
                  rw [q4, pb_r] at h1
                  cases h1
                  exact (pSign_pos q4).2
            · rw [if_neg q2] at h1; cases h1
        rw [pb_r, g1]
        exact r_bkL hN hV k fuel p1 (n + 1) m1 D1 (by omega) (by omega) (rA_g (C := Cr) (J := cN0) (show ¬ (40 = 56) by omega) (fun h => h) hA g2.1) (by rw [g2.1.2 17 (fun h => h) (by omega)]; exact h17) hp1 g2.2.2.1 (rq_tr h0 g2) g3
    · rw [if_neg h]
      refine ⟨fun e he => (by cases he), fun n' D' he _ => ?_⟩
      cases he
      refine ⟨_, _, ?_, rq_tr h0 (rq_0 (w4_k h5 (sk b N p))), fun v hv => by rw [um_w_c (by omega)]; exact hD v hv⟩
      rw [f_X8_book_b67, r_fine_t h5, ubi_mk, if_neg i1_0, r_more hA hpN h0.2.1, ubi_mk, ite_bi0, if_neg (fun q => h (of_decide_eq_true q))]
end BOOK
