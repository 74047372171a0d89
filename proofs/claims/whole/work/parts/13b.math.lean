/-! the class's numbers and words -/
theorem le_pred {V h : Nat} (hV : V < 2 ^ 30) (hh : h < 2 ^ 30) : (nI V ≤ nI h - 1) = (V < h) := by
  cases h with
  | zero =>
    refine propext ⟨fun q => ?_, fun q => absurd q (Nat.not_lt_zero _)⟩
    rw [Int32.le_iff_toInt_le, nI_toInt (by omega), show (nI 0 - 1 : Int32).toInt = -1 by decide] at q
    omega
  | succ h => rw [nI_pred, nI_le' (by omega) (by omega)]; exact propext ⟨fun q => by omega, fun q => by omega⟩
theorem mn_n {a b : Nat} (ha : a < 2 ^ 31) (hb : b < 2 ^ 31) : ummin (nI a) (nI b) = nI (min a b) := by
  show (if nI b < nI a then nI b else nI a) = _
  rw [ite_p (nI_lt' hb ha)]
  by_cases h : b < a
  · rw [if_pos h, show min a b = b by omega]
  · rw [if_neg h, show min a b = a by omega]
theorem dV_mono (a : Nat → Nat) (n : Nat) : dV a (n + 1) = 10 * dV a n + (a n - 48) := rfl
section TAPE2
variable {b : Nat → Nat} {N : Nat} {m : Um} {p : Nat}
theorem nL {c : Nat} (h : c < 256) : (nI c < 97 ∨ 122 < nI c) ↔ ¬ bL c = true := by
  rw [show (nI c < 97) = (c < 97) from lt_lit (k := 97) (by decide) (by omega), show (122 < nI c) = (122 < c) from lit_lt (k := 122) (by decide) (by omega)]
  unfold bL
  simp
  omega
theorem nD_ {c : Nat} (h : c < 256) : (nI c < 48 ∨ 57 < nI c) ↔ ¬ bD c = true := by
  rw [show (nI c < 48) = (c < 48) from lt_lit (k := 48) (by decide) (by omega), show (57 < nI c) = (57 < c) from lit_lt (k := 57) (by decide) (by omega)]
  unfold bD
  simp
  omega
theorem e_wordL : ∀ (k fuel p : Nat) (m : Um), N - p = k → k < fuel → tA b N m → p ≤ N → m 1 3 = nI p → f_X5_takeWord_b13 fuel m = some (um_w m 1 3 (nI (wE b N p)), ())
  | k, 0, p, m, _, hf, _, _, _ => absurd hf (Nat.not_lt_zero _)
  | k, fuel + 1, p, m, hk, hf, hA, hpN, hp => by
    have hN := hA.1
    rw [f_X5_takeWord_b13, hA.2.2, hp]
    by_cases h : p < N
    · have hb := hA.2.1 p h
      rw [if_neg (nI_ge h (by omega)), uin_n (by omega) (by omega), ugd_t, ugd_t, nI_clamp (by omega), hb.2]
      by_cases h2 : bL (b p) = true
      · rw [if_neg (fun q => (nL hb.1).mp (Or.inl q) h2), if_neg (fun q => (nL hb.1).mp (Or.inr q) h2), nI_1]
        have := e_wordL (k - 1) fuel (p + 1) (um_w m 1 3 (nI (p + 1))) (by omega) (by omega) (tA_3 hA _) (by omega) (um_w_s _ _ _ _)
        rw [this, um_w_w]
        unfold wE
        rw [scE_step h h2]
      · unfold wE f_X5_takeWord_b65
        rw [scE_stop (fun q => h2 q.2), um_w_id hp]
        rcases (nL hb.1).mpr h2 with h3 | h3
        · rw [if_pos h3]
        · by_cases h4 : nI (b p) < 97
          · rw [if_pos h4]
          · rw [if_neg h4, if_pos h3]
    · unfold wE f_X5_takeWord_b65
      rw [if_pos (nI_le (by omega) (by omega)), scE_stop (fun q => h q.1), um_w_id hp]
theorem e_word (hA : tA b N m) (hpN : p ≤ N) (hp : m 1 3 = nI p) : ∃ m', f_X5_takeWord m = some (m', ()) ∧ tk cN0 m m' (wE b N (sk b N p)) ∧ m' 1 8 = nI (sk b N p) := by
  have hN := hA.1
  have hs := sk_le (b := b) hpN
  have hw : tk cN0 (um_w m 1 3 (nI (sk b N p))) (um_w (um_w m 1 3 (nI (sk b N p))) 1 8 (nI (sk b N p))) (sk b N p) := ⟨⟨fun c _ h => um_w_c h, fun j h => um_w_k (by omega)⟩, by rw [um_w_k (by omega), um_w_s], um_w_k (by omega)⟩
  refine ⟨um_w (um_w (um_w m 1 3 (nI (sk b N p))) 1 8 (nI (sk b N p))) 1 3 (nI (wE b N (sk b N p))), ?_, tk_tr (w3_k (sk b N p)) (tk_tr hw (w3_k _)), by rw [um_w_k (by omega), um_w_s]⟩
  unfold f_X5_takeWord
  rw [e_peek hA hpN hp, ubi_mk, um_w_s]
  exact e_wordL (N - sk b N p) UF (sk b N p) _ rfl (by show N - sk b N p < 3000; omega) (tA_g (fun h => h) (tA_3 hA _) hw.1) hs hw.2.1
theorem e_wIsL {q e w : Nat} (hw : w < 18) (hA : tA b N m) (he : e ≤ N) (h8 : m 1 8 = nI q) (hq : e - q = wln w) : ∀ (k fuel i : Nat), i + k = wln w → k < fuel → f_X5_wordIs_b20 w fuel m (nI i) = some (m, bi (cmpF (fun i => b (q + i)) (wch w) k i))
  | k, 0, i, _, hf => absurd hf (Nat.not_lt_zero _)
  | 0, fuel + 1, i, hk, hf => by
    have := (wch_ok w hw).1
    rw [f_X5_wordIs_b20, if_pos (show us_l w ≤ nI i from nI_le (show wln w ≤ i by omega) (by omega))]
    rfl
  | k + 1, fuel + 1, i, hk, hf => by
    have hN := hA.1
    have hl := wch_ok w hw
    have hl1 := hl.1
    have hl2 := hl.2.1
    have hc := hl.2.2 i (by omega)
    have hb := hA.2.1 (q + i) (by omega)
    rw [f_X5_wordIs_b20, if_neg (show ¬ us_l w ≤ nI i from nI_ge (a := i) (b := wln w) (by omega) (by omega)), h8, nI_add, uin_n (by omega) (by omega), ugd_t, uin_n (show i < us_len.getD w 0 from (show i < wln w by omega)) (by omega), ugd_t, nI_clamp (by omega), hb.2]
    have e1 : us_c w (nI i) = nI (wch w i) := by
      unfold us_c
      rw [nI_clamp (by omega)]
      exact hc.1
    rw [e1, ite_p (nI_eq' (by omega) (by omega)), nI_1, e_wIsL hw hA he h8 hq k fuel (i + 1) (by omega) (by omega), cmpF]
    by_cases h : b (q + i) = wch w i <;> simp [h, bi]
theorem e_wIs {q e w : Nat} (hw : w < 18) (hA : tA b N m) (he : e ≤ N) (hqe : q ≤ e) (h3 : m 1 3 = nI e) (h8 : m 1 8 = nI q) : f_X5_wordIs w m = some (m, bi (wIs b q e w)) := by
  have hN := hA.1
  have hl := wch_ok w hw
  have hl1 := hl.1
  have hl2 := hl.2.1
  unfold f_X5_wordIs wIs
  rw [h3, h8, nI_sub hqe, ite_p (show (nI (e - q) = us_l w) = (e - q = wln w) from nI_eq' (a := e - q) (b := wln w) (by omega) (by omega))]
  by_cases h : e - q = wln w
  · rw [if_pos h]
    have := e_wIsL hw hA he h8 h (wln w) UF 0 (by omega) (by show wln w < 3000; omega)
    rw [show (0 : Int32) = nI 0 from rfl, this]
    simp [h]
  · rw [if_neg h]
    simp [h, bi]
theorem dg {c : Nat} (h : bD c = true) : 48 ≤ c ∧ c ≤ 57 := of_decide_eq_true h
/-- digits, from i on -/
theorem e_numL {q : Nat} {x y : Int32} : ∀ (k fuel i : Nat) (m : Um), N - (q + i) = k → k < fuel → tA b N m → q + i ≤ N → (∀ j, j < i → bD (b (q + j)) = true) → m 1 3 = nI (q + i) → m 1 6 = nI (min 100000 (dV (fun j => b (q + j)) i)) → ∃ m', f_X5_takeNumber_b18 fuel m x y = f_X5_takeNumber_b99 m' x y ∧ tk cN0 m m' (dE b N (q + i)) ∧ m' 1 7 = m 1 7 ∧ m' 1 6 = nI (min 100000 (dV (fun j => b (q + j)) (dE b N (q + i) - q)))
  | k, 0, i, m, _, hf, _, _, _, _, _ => absurd hf (Nat.not_lt_zero _)
  | k, fuel + 1, i, m, hk, hf, hA, hpN, hd, hp, h6 => by
    have hN := hA.1
    have stop : ¬ (q + i < N ∧ bD (b (q + i)) = true) → tk cN0 m m (dE b N (q + i)) ∧ m 1 7 = m 1 7 ∧ m 1 6 = nI (min 100000 (dV (fun j => b (q + j)) (dE b N (q + i) - q))) := by
      intro hs
      unfold dE
      rw [scE_stop hs, show q + i - q = i by omega]
      exact ⟨⟨tg_rf _ _, hp, rfl⟩, rfl, h6⟩
    rw [f_X5_takeNumber_b18, hA.2.2, hp]
    by_cases h : q + i < N
    · have hb := hA.2.1 (q + i) h
      rw [if_neg (nI_ge h (by omega)), uin_n (by omega) (by omega), ugd_t, ugd_t, ugd_t, nI_clamp (by omega), hb.2]
      by_cases h2 : bD (b (q + i)) = true
      · have h48 := dg h2
        rw [if_neg (fun q => (nD_ hb.1).mp (Or.inl q) h2), if_neg (fun q => (nD_ hb.1).mp (Or.inr q) h2), h6, mul_lit, nI_add, sub_lit (by show 48 ≤ _; omega), show (100000 : Int32) = nI 100000 from rfl, mn_n (by omega) (by show _ - 48 < _; omega), um_w_k (by omega), hp, nI_1]
        have hk1 : tk cN0 m (um_w (um_w m 1 6 (nI (min 100000 (min 100000 (dV (fun j => b (q + j)) i) * 10 + b (q + i) - 48)))) 1 3 (nI (q + i + 1))) (q + i + 1) := ⟨⟨fun c _ h => by rw [um_w_c h, um_w_c h], fun j h => by rw [um_w_k (by omega), um_w_k (by omega)]⟩, um_w_s _ _ _ _, by rw [um_w_k (by omega), um_w_k (by omega)]⟩
        obtain ⟨m', g1, g2, g3, g4⟩ := e_numL (q := q) (x := x) (y := y) (k - 1) fuel (i + 1) _ (by omega) (by omega) (tA_g (fun h => h) hA hk1.1) (by omega) (fun j hj => by
          by_cases hji : j = i
          · rw [hji]; exact h2
          · exact hd j (by omega)) hk1.2.1 (by
          rw [um_w_k (by omega), um_w_s, dV_mono]
          congr 1
          omega)
        refine ⟨m', g1, ?_, ?_, ?_⟩
        · unfold dE
          rw [scE_step h h2]
          exact tk_tr hk1 g2
        · rw [g3, um_w_k (by omega), um_w_k (by omega)]
        · unfold dE
          rw [scE_step h h2]
          exact g4
      · refine ⟨m, ?_, stop (fun q => h2 q.2)⟩
        rcases (nD_ hb.1).mpr h2 with h3 | h3
        · rw [if_pos h3]
        · by_cases h4 : nI (b (q + i)) < 48
          · rw [if_pos h4]
          · rw [if_neg h4, if_pos h3]
    · exact ⟨m, by rw [if_pos (nI_le (by omega) (by omega))], stop (fun q => h q.1)⟩
/-- up to the end of the digits -/
theorem e_num1 (hA : tA b N m) (hpN : p ≤ N) (hp : m 1 3 = nI p) (x y : Int32) : ∃ m', f_X5_takeNumber m x y = f_X5_takeNumber_b99 m' x y ∧ tk cN0 m m' (dE b N (sk b N p)) ∧ m' 1 7 = nI (sk b N p) ∧ m' 1 6 = nI (min 100000 (numV b N (sk b N p))) := by
  have hN := hA.1
  have hs := sk_le (b := b) hpN
  have hk1 : tk cN0 m (um_w (um_w (um_w m 1 3 (nI (sk b N p))) 1 7 (nI (sk b N p))) 1 6 0) (sk b N p) := ⟨⟨fun c _ h => by rw [um_w_c h, um_w_c h, um_w_c h], fun j h => by rw [um_w_k (by omega), um_w_k (by omega), um_w_k (by omega)]⟩, by rw [um_w_k (by omega), um_w_k (by omega), um_w_s], by rw [um_w_k (by omega), um_w_k (by omega), um_w_k (by omega)]⟩
  obtain ⟨m', g1, g2, g3, g4⟩ := e_numL (b := b) (N := N) (q := sk b N p) (x := x) (y := y) (N - sk b N p) UF 0 _ rfl (by show N - sk b N p < 3000; omega) (tA_g (fun h => h) hA hk1.1) hs (fun j hj => absurd hj (Nat.not_lt_zero _)) hk1.2.1 (by rw [um_w_s]; rfl)
  refine ⟨m', ?_, tk_tr hk1 g2, ?_, g4⟩
  · unfold f_X5_takeNumber
    rw [e_peek hA hpN hp, ubi_mk, um_w_s]
    exact g1
  · rw [g3, um_w_k (by omega), um_w_s]
theorem dE_ne (hA : tA b N m) (hpN : p ≤ N) (hd : atD b N p = true) : ¬ nI (dE b N (sk b N p)) = nI (sk b N p) := by
  have hN := hA.1
  have hs := of_decide_eq_true hd
  have h1 : sk b N p + 1 ≤ dE b N (sk b N p) := scE_gt hs.1 hs.2
  have h2 : dE b N (sk b N p) ≤ N := dE_le (by omega)
  intro q
  have := (nI_eq (by omega) (by omega)).mp q
  omega
theorem e_num_t (hA : tA b N m) (hpN : p ≤ N) (hp : m 1 3 = nI p) {lo hi V p' : Nat} {x y : Int32} (hx : x = nI lo) (hy : y = nI hi - 1) (hlo : lo ≤ 1) (hhi : hi ≤ 1000) (h : pNum b N lo hi p = .inr (V, p')) : ∃ m', f_X5_takeNumber m x y = some (m', 1) ∧ tk cN0 m m' p' ∧ m' 1 6 = nI V ∧ m' 1 7 = nI (sk b N p) := by
  unfold pNum at h
  by_cases hd : atD b N p = true
  · rw [if_pos hd] at h
    by_cases hr : lo ≤ numV b N (sk b N p) ∧ numV b N (sk b N p) < hi
    · rw [if_pos hr] at h
      cases h
      obtain ⟨m', g1, g2, g3, g4⟩ := e_num1 hA hpN hp x y
      rw [show min 100000 (numV b N (sk b N p)) = numV b N (sk b N p) by omega] at g4
      refine ⟨m', ?_, g2, g4, g3⟩
      have hne := dE_ne hA hpN hd
      rw [g1]
      unfold f_X5_takeNumber_b99 f_X5_takeNumber_b148 f_X5_takeNumber_b153
      rw [g2.2.1, g3, if_neg hne, g4, hx, hy, if_neg (nI_nlt hr.1 (by omega)), if_pos (by rw [le_pred (by omega) (by omega)]; exact hr.2), ub01_1, ugd_t]
    · rw [if_neg hr] at h
      cases h
  · rw [if_neg hd] at h
    cases h
theorem e_num_f (hA : tA b N m) (hpN : p ≤ N) (hp : m 1 3 = nI p) {lo hi : Nat} {e : Nat × Nat} {x y : Int32} (hx : x = nI lo) (hy : y = nI hi - 1) (hlo : lo ≤ 1) (hhi : hi ≤ 1000) (h : pNum b N lo hi p = .inl e) : ∃ m', f_X5_takeNumber m x y = some (m', 0) ∧ tf cN0 m m' e := by
  unfold pNum at h
  by_cases hd : atD b N p = true
  · rw [if_pos hd] at h
    by_cases hr : lo ≤ numV b N (sk b N p) ∧ numV b N (sk b N p) < hi
    · rw [if_pos hr] at h
      cases h
    · rw [if_neg hr] at h
      cases h
      obtain ⟨m', g1, g2, g3, g4⟩ := e_num1 hA hpN hp x y
      have hf := fail_f m' 2 (sk b N p)
      refine ⟨_, ?_, tf_tr g2 hf.2⟩
      have hb : f_X5_takeNumber_b136 m' = some (um_w (um_w m' 1 4 (nI 2)) 1 5 (nI (sk b N p)), 0) := by
        unfold f_X5_takeNumber_b136 f_X5_takeNumber_b153
        rw [g3, show (2 : Int32) = nI 2 from rfl, hf.1, ubi_mk, if_pos rfl, ub01_0, ugd_t]
      rw [g1]
      unfold f_X5_takeNumber_b99
      rw [g2.2.1, g3, if_neg (dE_ne hA hpN hd), g4, hx, hy, hb, ite_p (nI_lt' (by omega) (by omega)), ite_p (le_pred (by omega) (by omega))]
      by_cases h1 : min 100000 (numV b N (sk b N p)) < lo
      · rw [if_pos h1]
      · rw [if_neg h1, if_neg (by omega)]
  · rw [if_neg hd] at h
    cases h
    obtain ⟨m', g1, g2, g3, g4⟩ := e_num1 hA hpN hp x y
    have hE : dE b N (sk b N p) = sk b N p := scE_stop (fun q => hd (decide_eq_true q))
    have hf := fail_f m' 1 (sk b N p)
    refine ⟨_, ?_, tf_tr g2 hf.2⟩
    rw [g1]
    unfold f_X5_takeNumber_b99
    rw [g2.2.1, g3, hE, if_pos rfl, show f_X5_fail m' 1 (nI (sk b N p)) = f_X5_fail m' (nI 1) (nI (sk b N p)) from rfl, hf.1, ubi_mk, ub01_0, ugd_t]
/-! what is read lies further on -/
theorem pNum_pos {lo hi V p' : Nat} (hpN : p ≤ N) (h : pNum b N lo hi p = .inr (V, p')) : p < p' ∧ p' ≤ N ∧ lo ≤ V ∧ V < hi := by
  unfold pNum at h
  by_cases hd : atD b N p = true
  · rw [if_pos hd] at h
    by_cases hr : lo ≤ numV b N (sk b N p) ∧ numV b N (sk b N p) < hi
    · rw [if_pos hr] at h
      cases h
      have h1 := of_decide_eq_true hd
      have h2 := scE_gt h1.1 h1.2
      have h3 := sk_ge b N p
      have h4 := dE_le (b := b) (sk_le (b := b) hpN)
      exact ⟨by show p < scE b bD N (sk b N p); omega, h4, hr⟩
    · rw [if_neg hr] at h
      cases h
  · rw [if_neg hd] at h
    cases h
theorem pSign_pos {c p' : Nat} (h : pSign b N c p = .inr p') : p < p' ∧ p' ≤ N := by
  unfold pSign at h
  by_cases hh : ht_ b N c p = true
  · rw [if_pos hh] at h
    cases h
    have h1 := of_decide_eq_true hh
    have h3 := sk_ge b N p
    exact ⟨by omega, h1.1⟩
  · rw [if_neg hh] at h
    cases h
theorem wIs_pos {w q : Nat} (hw : w < 18) (h : wIs b q (wE b N q) w = true) : q + 3 ≤ wE b N q ∧ wE b N q ≤ q + 6 := by
  have h1 := wIs_len h
  have h2 := wch_ok w hw
  have h3 := wE_ge b N q
  omega
end TAPE2
