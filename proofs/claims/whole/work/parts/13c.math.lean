/-! the reference's reader -/
def rA (b : Nat → Nat) (N : Nat) (M : Um) : Prop := N ≤ 600 ∧ (∀ k, k < N → b k < 256 ∧ M 40 k = nI (b k)) ∧ M 38 3 = nI N
def rg (C J : Nat → Prop) (M M' : Um) : Prop := (∀ c, ¬ C c → c ≠ 38 → M' c = M c) ∧ ∀ j, ¬ J j → j < 4 ∨ 7 < j → M' 38 j = M 38 j
def rq (C J : Nat → Prop) (M M' : Um) (p : Nat) : Prop := rg C J M M' ∧ M' 38 4 = nI p ∧ M' 38 5 = -1 ∧ M' 38 7 = M 38 7
def rb (C J : Nat → Prop) (M M' : Um) (e : Nat × Nat) : Prop := rg C J M M' ∧ M' 38 5 = nI e.2 ∧ M' 38 6 = nI e.1
theorem rg_rf (C J : Nat → Prop) (M : Um) : rg C J M M := ⟨fun _ _ _ => rfl, fun _ _ _ => rfl⟩
theorem rg_tr {C J : Nat → Prop} {m m1 m2 : Um} (h1 : rg C J m m1) (h2 : rg C J m1 m2) : rg C J m m2 := ⟨fun c a b => by rw [h2.1 c a b, h1.1 c a b], fun j a b => by rw [h2.2 j a b, h1.2 j a b]⟩
theorem rg_0 {C J : Nat → Prop} {m m1 : Um} (h1 : rg cN0 cN0 m m1) : rg C J m m1 := ⟨fun c _ b => h1.1 c (fun h => h) b, fun j _ b => h1.2 j (fun h => h) b⟩
theorem rq_0 {C J : Nat → Prop} {m m1 : Um} {p : Nat} (h1 : rq cN0 cN0 m m1 p) : rq C J m m1 p := ⟨rg_0 h1.1, h1.2⟩
theorem rb_0 {C J : Nat → Prop} {m m1 : Um} {e : Nat × Nat} (h1 : rb cN0 cN0 m m1 e) : rb C J m m1 e := ⟨rg_0 h1.1, h1.2⟩
theorem rq_tr {C J : Nat → Prop} {m m1 m2 : Um} {p q : Nat} (h1 : rq C J m m1 p) (h2 : rq C J m1 m2 q) : rq C J m m2 q := ⟨rg_tr h1.1 h2.1, h2.2.1, h2.2.2.1, h2.2.2.2.trans h1.2.2.2⟩
theorem rb_tr {C J : Nat → Prop} {m m1 m2 : Um} {e : Nat × Nat} (h1 : rg C J m m1) (h2 : rb C J m1 m2 e) : rb C J m m2 e := ⟨rg_tr h1 h2.1, h2.2⟩
theorem rg_w {C J : Nat → Prop} {m m1 : Um} (h : rg C J m m1) {c : Nat} (hc : C c) (h1 : c ≠ 38) (k : Nat) (v : Int32) : rg C J m (um_w m1 c k v) :=
  rg_tr h ⟨fun d a _ => um_w_c (fun q => a (q ▸ hc)), fun j _ _ => by rw [um_w_c (Ne.symm h1)]⟩
theorem rg_j {C J : Nat → Prop} {m m1 : Um} (h : rg C J m m1) {k : Nat} (hk : J k) (v : Int32) : rg C J m (um_w m1 38 k v) :=
  rg_tr h ⟨fun d _ a => um_w_c a, fun j a _ => um_w_k (fun q => a (q ▸ hk))⟩
theorem rg_4 {C J : Nat → Prop} {m m1 : Um} (h : rg C J m m1) {k : Nat} (hk : 4 ≤ k ∧ k ≤ 7) (v : Int32) : rg C J m (um_w m1 38 k v) :=
  rg_tr h ⟨fun d _ a => um_w_c a, fun j _ a => um_w_k (by omega)⟩
theorem rq_w {C J : Nat → Prop} {m m1 : Um} {p : Nat} (h : rq C J m m1 p) {c : Nat} (hc : C c) (h1 : c ≠ 38) (k : Nat) (v : Int32) : rq C J m (um_w m1 c k v) p :=
  ⟨rg_w h.1 hc h1 k v, by rw [um_w_c (Ne.symm h1)]; exact h.2.1, by rw [um_w_c (Ne.symm h1)]; exact h.2.2.1, by rw [um_w_c (Ne.symm h1)]; exact h.2.2.2⟩
theorem rq_j {C J : Nat → Prop} {m m1 : Um} {p : Nat} (h : rq C J m m1 p) {k : Nat} (hk : J k) (h7 : k < 4 ∨ 7 < k) (v : Int32) : rq C J m (um_w m1 38 k v) p :=
  ⟨rg_j h.1 hk v, by rw [um_w_k (by omega)]; exact h.2.1, by rw [um_w_k (by omega)]; exact h.2.2.1, by rw [um_w_k (by omega)]; exact h.2.2.2⟩
theorem rb_w {C J : Nat → Prop} {m m1 : Um} {e : Nat × Nat} (h : rb C J m m1 e) {c : Nat} (hc : C c) (h1 : c ≠ 38) (k : Nat) (v : Int32) : rb C J m (um_w m1 c k v) e :=
  ⟨rg_w h.1 hc h1 k v, by rw [um_w_c (Ne.symm h1)]; exact h.2.1, by rw [um_w_c (Ne.symm h1)]; exact h.2.2⟩
theorem rb_j {C J : Nat → Prop} {m m1 : Um} {e : Nat × Nat} (h : rb C J m m1 e) {k : Nat} (hk : J k) (h7 : k < 4 ∨ 7 < k) (v : Int32) : rb C J m (um_w m1 38 k v) e :=
  ⟨rg_j h.1 hk v, by rw [um_w_k (by omega)]; exact h.2.1, by rw [um_w_k (by omega)]; exact h.2.2⟩
theorem rA_g {C J : Nat → Prop} {b : Nat → Nat} {N : Nat} {m m1 : Um} (h2 : ¬ C 40) (h3 : ¬ J 3) (hA : rA b N m) (h : rg C J m m1) : rA b N m1 :=
  ⟨hA.1, fun k hk => by rw [h.1 40 h2 (by omega)]; exact hA.2.1 k hk, by rw [h.2 3 h3 (by omega)]; exact hA.2.2⟩
theorem w4_k {M : Um} (h : M 38 5 = -1) (p : Nat) : rq cN0 cN0 M (um_w M 38 4 (nI p)) p := ⟨⟨fun c _ h => um_w_c h, fun j _ h => um_w_k (by omega)⟩, um_w_s _ _ _ _, by rw [um_w_k (by omega)]; exact h, um_w_k (by omega)⟩
section RTAPE
variable {b : Nat → Nat} {N : Nat} {m : Um} {p : Nat}
def hrc (b : Nat → Nat) (N p : Nat) : Int32 := if sk b N p < N then nI (b (sk b N p)) else 0
theorem rA_4 (hA : rA b N m) (p : Nat) : rA b N (um_w m 38 4 (nI p)) := ⟨hA.1, fun k hk => by rw [um_w_c (by omega)]; exact hA.2.1 k hk, by rw [um_w_k (by omega)]; exact hA.2.2⟩
theorem r_hereL : ∀ (k fuel p : Nat) (m : Um), N - p = k → k < fuel → rA b N m → p ≤ N → m 38 4 = nI p → f_X8_here_b0 fuel m = f_X8_here_b38 (um_w m 38 4 (nI (sk b N p)))
  | k, 0, p, m, _, hf, _, _, _ => absurd hf (Nat.not_lt_zero _)
  | k, fuel + 1, p, m, hk, hf, hA, hpN, hp => by
    have hN := hA.1
    rw [f_X8_here_b0, hA.2.2, hp]
    by_cases h : p < N
    · have hb := hA.2.1 p h
      rw [if_neg (nI_ge h (by omega)), uin_n (by omega) (by omega), ugd_t, nI_clamp (by omega), hb.2]
      by_cases h2 : b p = 32
      · rw [if_pos (show nI (b p) = 32 by rw [h2]; rfl), nI_1]
        have hq : bS (b p) = true := decide_eq_true h2
        have := r_hereL (k - 1) fuel (p + 1) (um_w m 38 4 (nI (p + 1))) (by omega) (by omega) (rA_4 hA _) (by omega) (um_w_s _ _ _ _)
        rw [this, um_w_w]
        unfold sk
        rw [scE_step h hq]
      · rw [if_neg (fun q => h2 (by have : nI (b p) = nI 32 := q; exact (nI_eq (by omega) (by omega)).mp this))]
        unfold sk
        rw [scE_stop (fun q => h2 (of_decide_eq_true q.2)), um_w_id hp]
    · rw [if_pos (nI_le (by omega) (by omega))]
      unfold sk
      rw [scE_stop (fun q => h q.1), um_w_id hp]
theorem r_here (hA : rA b N m) (hpN : p ≤ N) (hp : m 38 4 = nI p) : f_X8_here m = some (um_w m 38 4 (nI (sk b N p)), hrc b N p) := by
  have hN := hA.1
  have e : f_X8_here m = f_X8_here_b0 (UF + 1) m := by rw [f_X8_here_b0]; rfl
  rw [e, r_hereL (N - p) (UF + 1) p m rfl (by show N - p < 3001; omega) hA hpN hp]
  have hA' := rA_4 hA (sk b N p)
  have hs := sk_le (b := b) hpN
  unfold f_X8_here_b38 f_X8_here_b62 hrc
  rw [hA'.2.2, um_w_s]
  by_cases h : sk b N p < N
  · rw [if_neg (nI_ge h (by omega)), uin_n (by omega) (by omega), ugd_t, nI_clamp (by omega), (hA'.2.1 _ h).2, if_pos h]
  · rw [if_pos (nI_le (by omega) (by omega)), if_neg h]
/-- asked again, it stays -/
theorem r_here2 (hA : rA b N m) (hpN : p ≤ N) : f_X8_here (um_w m 38 4 (nI (sk b N p))) = some (um_w m 38 4 (nI (sk b N p)), hrc b N p) := by
  rw [r_here (p := sk b N p) (rA_4 hA _) (sk_le (b := b) hpN) (um_w_s _ _ _ _), um_w_w]
  unfold hrc sk
  rw [scE_id]
theorem hrc_eq (hA : rA b N m) {c : Nat} {x : Int32} (hx : x = nI c) (hc : c < 256) (h0 : 0 < c) : (hrc b N p = x) = (ht_ b N c p = true) := by
  subst hx
  unfold hrc
  by_cases h : sk b N p < N
  · have := (hA.2.1 _ h).1
    rw [if_pos h, nI_eq' (by omega) (by omega)]
    simp [h]
  · rw [if_neg h]
    refine propext ⟨fun q => absurd q.symm (nI_ne0 h0 (by omega)), fun q => absurd (of_decide_eq_true q).1 h⟩
theorem r_more (hA : rA b N m) (hpN : p ≤ N) (hp : m 38 4 = nI p) : f_X8_isMore m = some (um_w m 38 4 (nI (sk b N p)), bi (decide (sk b N p < N))) := by
  have hN := hA.1
  have hs := sk_le (b := b) hpN
  unfold f_X8_isMore f_X8_isMore_b21
  rw [r_here hA hpN hp, ubi_mk, um_w_s, um_w_k (by omega), hA.2.2, ub01_0, ub01_1, ugd_t, ugd_t]
  by_cases h : sk b N p < N
  · rw [if_neg (nI_ge h (by omega))]
    simp [h, bi]
  · rw [if_pos (nI_le (by omega) (by omega))]
    simp [h, bi]
theorem r_fine_t (h : m 38 5 = -1) : f_X8_fine m = some (m, 1) := by
  unfold f_X8_fine f_X8_fine_b13
  rw [if_pos h, ub01_1, ugd_t]
theorem r_fine_f {q : Nat} (hq : q < 2 ^ 31) (h : m 38 5 = nI q) : f_X8_fine m = some (m, 0) := by
  unfold f_X8_fine f_X8_fine_b13
  rw [h, if_neg (fun e => (nI_ne1 hq).mp e), ub01_0, ugd_t]
theorem r_wrong (h : m 38 5 = -1) {k q : Nat} {x y : Int32} (hx : x = nI k) (hy : y = nI q) : ∃ m', f_X8_wrong m x y = some (m', ()) ∧ rb cN0 cN0 m m' (k, q) ∧ m' 38 4 = m 38 4 ∧ m' 38 7 = m 38 7 := by
  subst hx hy
  refine ⟨um_w (um_w m 38 5 (nI q)) 38 6 (nI k), ?_, ⟨⟨fun c _ h => ?_, fun j _ h => ?_⟩, ?_, ?_⟩, ?_, ?_⟩
  · unfold f_X8_wrong
    rw [if_pos h]
  · rw [um_w_c h, um_w_c h]
  · rw [um_w_k (by omega), um_w_k (by omega)]
  · rw [um_w_k (by omega), um_w_s]
  · rw [um_w_s]
  · rw [um_w_k (by omega), um_w_k (by omega)]
  · rw [um_w_k (by omega), um_w_k (by omega)]
theorem r_sign_b {q : Nat} (hq : q < 2 ^ 31) (h : m 38 5 = nI q) (x : Int32) : f_X8_sign m x = some (m, ()) := by
  unfold f_X8_sign f_X8_sign_b24 f_X8_sign_b41
  rw [r_fine_f hq h, ubi_mk, if_pos rfl, r_fine_f hq h, ubi_mk, if_pos rfl]
theorem r_sign_t (hA : rA b N m) (hpN : p ≤ N) (hp : m 38 4 = nI p) (hf : m 38 5 = -1) {c p' : Nat} {x : Int32} (hx : x = nI c) (hc : c < 256) (h0 : 0 < c) (h : pSign b N c p = .inr p') : ∃ m', f_X8_sign m x = some (m', ()) ∧ rq cN0 cN0 m m' p' := by
  unfold pSign at h
  by_cases hh : ht_ b N c p = true
  · rw [if_pos hh] at h
    cases h
    have hk := w4_k hf (sk b N p)
    refine ⟨_, ?_, rq_tr hk (w4_k hk.2.2.1 (sk b N p + 1))⟩
    unfold f_X8_sign f_X8_sign_b24 f_X8_sign_b41
    rw [r_fine_t hf, ubi_mk, if_neg (by decide), r_here hA hpN hp, ubi_mk, ite_p (hrc_eq hA hx hc h0), if_pos hh, r_fine_t hk.2.2.1, ubi_mk, if_neg (by decide), um_w_s, nI_1]
  · rw [if_neg hh] at h
    cases h
theorem r_sign_f (hA : rA b N m) (hpN : p ≤ N) (hp : m 38 4 = nI p) (hf : m 38 5 = -1) {c : Nat} {e : Nat × Nat} {x : Int32} (hx : x = nI c) (hc : c < 256) (h0 : 0 < c) (h : pSign b N c p = .inl e) : ∃ m', f_X8_sign m x = some (m', ()) ∧ rb cN0 cN0 m m' e ∧ m' 38 7 = m 38 7 := by
  unfold pSign at h
  by_cases hh : ht_ b N c p = true
  · rw [if_pos hh] at h
    cases h
  · rw [if_neg hh] at h
    cases h
    have hN := hA.1
    have hs := sk_le (b := b) hpN
    have hk := w4_k hf (sk b N p)
    obtain ⟨m', h1, h2, h3, h4⟩ := r_wrong hk.2.2.1 (k := 1) (q := sk b N p) (x := 1) rfl rfl
    refine ⟨m', ?_, rb_tr hk.1 h2, h4.trans hk.2.2.2⟩
    unfold f_X8_sign f_X8_sign_b24 f_X8_sign_b41
    rw [r_fine_t hf, ubi_mk, if_neg (by decide), r_here hA hpN hp, ubi_mk, ite_p (hrc_eq hA hx hc h0), if_neg hh, um_w_s, h1, ubi_mk, r_fine_f (by omega) h2.2.1, ubi_mk, if_pos rfl]
theorem r_small {c : Nat} (hc : c < 256) : f_X8_isSmall m (nI c) = some (m, bi (bL c)) := by
  unfold f_X8_isSmall f_X8_isSmall_b16 f_X8_isSmall_b17
  rw [ub01_0, ub01_1, ugd_t, ugd_t]
  by_cases h2 : bL c = true
  · rw [if_neg (fun q => (nL hc).mp (Or.inl q) h2), if_neg (fun q => (nL hc).mp (Or.inr q) h2), h2]; rfl
  · rw [Bool.eq_false_iff.mpr h2]
    rcases (nL hc).mpr h2 with h3 | h3
    · rw [if_pos h3]; rfl
    · by_cases h4 : nI c < 97
      · rw [if_pos h4]; rfl
      · rw [if_neg h4, if_pos h3]; rfl
theorem r_digit {c : Nat} (hc : c < 256) : f_X8_isDigit m (nI c) = some (m, bi (bD c)) := by
  unfold f_X8_isDigit f_X8_isDigit_b16 f_X8_isDigit_b17
  rw [ub01_0, ub01_1, ugd_t, ugd_t]
  by_cases h2 : bD c = true
  · rw [if_neg (fun q => (nD_ hc).mp (Or.inl q) h2), if_neg (fun q => (nD_ hc).mp (Or.inr q) h2), h2]; rfl
  · rw [Bool.eq_false_iff.mpr h2]
    rcases (nD_ hc).mpr h2 with h3 | h3
    · rw [if_pos h3]; rfl
    · by_cases h4 : nI c < 48
      · rw [if_pos h4]; rfl
      · rw [if_neg h4, if_pos h3]; rfl
theorem r_digitH (hA : rA b N m) {m1 : Um} : f_X8_isDigit m1 (hrc b N p) = some (m1, bi (atD b N p)) := by
  unfold hrc atD
  by_cases h : sk b N p < N
  · have := (hA.2.1 _ h).1
    rw [if_pos h, r_digit this]
    simp [h]
  · rw [if_neg h]
    simp only [h, false_and, decide_false]
    exact r_digit (c := 0) (by omega)
theorem r_passL : ∀ (k fuel p : Nat) (m : Um), N - p = k → k < fuel → rA b N m → p ≤ N → m 38 4 = nI p → f_X8_pass_b0 fuel m = some (um_w m 38 4 (nI (wE b N p)), ())
  | k, 0, p, m, _, hf, _, _, _ => absurd hf (Nat.not_lt_zero _)
  | k, fuel + 1, p, m, hk, hf, hA, hpN, hp => by
    have hN := hA.1
    rw [f_X8_pass_b0, hA.2.2, hp]
    by_cases h : p < N
    · have hb := hA.2.1 p h
      rw [if_neg (nI_ge h (by omega)), uin_n (by omega) (by omega), ugd_t, nI_clamp (by omega), hb.2, r_small hb.1, ubi_mk, ite_bi0, hp, nI_1]
      by_cases h2 : bL (b p) = true
      · rw [if_pos h2]
        have := r_passL (k - 1) fuel (p + 1) (um_w m 38 4 (nI (p + 1))) (by omega) (by omega) (rA_4 hA _) (by omega) (um_w_s _ _ _ _)
        rw [this, um_w_w]
        unfold wE
        rw [scE_step h h2]
      · rw [if_neg h2]
        unfold wE f_X8_pass_b39
        rw [scE_stop (fun q => h2 q.2), um_w_id hp]
    · unfold wE f_X8_pass_b39
      rw [if_pos (nI_le (by omega) (by omega)), scE_stop (fun q => h q.1), um_w_id hp]
theorem r_pass (hA : rA b N m) (hpN : p ≤ N) (hp : m 38 4 = nI p) : f_X8_pass m = some (um_w m 38 4 (nI (wE b N p)), ()) := by
  have hN := hA.1
  have e : f_X8_pass m = f_X8_pass_b0 (UF + 1) m := by rw [f_X8_pass_b0]; rfl
  rw [e, r_passL (N - p) (UF + 1) p m rfl (by show N - p < 3001; omega) hA hpN hp]
/-! words as numbers -/
def enc (a : Nat → Nat) : Nat → Nat
  | 0 => 0
  | n + 1 => 32 * enc a n + (a n - 96)
theorem enc_lt {a : Nat → Nat} : ∀ n, (∀ i, i < n → 97 ≤ a i ∧ a i ≤ 122) → enc a n < 32 ^ n
  | 0, _ => by
    show 0 < 1
    omega
  | n + 1, h => by
    have h1 := enc_lt n (fun i hi => h i (by omega))
    have h2 := h n (by omega)
    rw [enc, Nat.pow_succ]
    omega
theorem enc_inj {a c : Nat → Nat} : ∀ n k, (∀ i, i < n → 97 ≤ a i ∧ a i ≤ 122) → (∀ i, i < k → 97 ≤ c i ∧ c i ≤ 122) → enc a n = enc c k → n = k ∧ ∀ i, i < n → a i = c i
  | 0, 0, _, _, _ => ⟨rfl, fun i hi => absurd hi (Nat.not_lt_zero _)⟩
  | 0, k + 1, _, h2, h => by
    have := h2 k (by omega)
    rw [enc, enc] at h
    omega
  | n + 1, 0, h1, _, h => by
    have := h1 n (by omega)
    rw [enc, enc] at h
    omega
  | n + 1, k + 1, h1, h2, h => by
    have g1 := h1 n (by omega)
    have g2 := h2 k (by omega)
    rw [enc, enc] at h
    obtain ⟨i1, i2⟩ := enc_inj n k (fun i hi => h1 i (by omega)) (fun i hi => h2 i (by omega)) (by omega)
    subst i1
    refine ⟨rfl, fun i hi => ?_⟩
    by_cases hin : i = n
    · subst hin
      omega
    · exact i2 i (by omega)
theorem enc_step {a d : Nat} (ha : a < 2 ^ 25) (hd : d < 32) : (nI a <<< ((5 : Int32) &&& 31)) ||| nI d = nI (32 * a + d) := by
  apply Int32.toBitVec_inj.mp
  rw [Int32.toBitVec_or]
  have e1 : (nI a <<< ((5 : Int32) &&& 31)).toBitVec = (BitVec.ofNat 32 a) <<< (5 : Nat) := by
    show (nI a).toBitVec <<< (((5 : Int32) &&& 31).toBitVec.smod 32#32) = _
    rw [show (((5 : Int32) &&& 31).toBitVec.smod 32#32) = 5#32 by decide]
    rfl
  rw [e1]
  show (BitVec.ofNat 32 a) <<< (5 : Nat) ||| BitVec.ofNat 32 d = BitVec.ofNat 32 (32 * a + d)
  apply BitVec.eq_of_toNat_eq
  rw [BitVec.toNat_or, BitVec.toNat_shiftLeft, BitVec.toNat_ofNat, BitVec.toNat_ofNat, BitVec.toNat_ofNat, Nat.mod_eq_of_lt (show a < 2 ^ 32 by omega), Nat.mod_eq_of_lt (show d < 2 ^ 32 by omega), Nat.mod_eq_of_lt (show 32 * a + d < 2 ^ 32 by omega), Nat.shiftLeft_eq, Nat.mod_eq_of_lt (show a * 2 ^ 5 < 2 ^ 32 by omega), show a * 2 ^ 5 = 2 ^ 5 * a by omega, ← Nat.two_pow_add_eq_or_of_lt (show d < 2 ^ 5 by omega)]
def wv (b : Nat → Nat) (q e : Nat) : Int32 := if e - q ≤ 6 then nI (enc (fun i => b (q + i)) (e - q)) else 0
theorem lt_ {c : Nat} (h : bL c = true) : 97 ≤ c ∧ c ≤ 122 := of_decide_eq_true h
theorem r_wordL {q : Nat} (hA : rA b N m) : ∀ (k fuel n : Nat), N - (q + n) = k → k < fuel → q + n ≤ N → (∀ i, i < n → bL (b (q + i)) = true) → f_X8_word_b14 fuel m (if n ≤ 6 then nI (enc (fun i => b (q + i)) n) else 0) (nI n) (nI (q + n)) = some (m, wv b q (wE b N (q + n)))
  | k, 0, n, _, hf, _, _ => absurd hf (Nat.not_lt_zero _)
  | k, fuel + 1, n, hk, hf, hpN, hl => by
    have hN := hA.1
    have stop : ¬ (q + n < N ∧ bL (b (q + n)) = true) → f_X8_word_b67 m (if n ≤ 6 then nI (enc (fun i => b (q + i)) n) else 0) (nI n) = some (m, wv b q (wE b N (q + n))) := by
      intro hs
      unfold wE wv f_X8_word_b67 f_X8_word_b78
      rw [scE_stop hs, show q + n - q = n by omega, ite_p (show (nI n ≤ 6) = (n ≤ 6) from le_lit (k := 6) (by decide) (by omega))]
      by_cases h6 : n ≤ 6
      · rw [if_pos h6, if_pos h6]
      · rw [if_neg h6, if_neg h6]
    rw [f_X8_word_b14, hA.2.2]
    by_cases h : q + n < N
    · have hb := hA.2.1 (q + n) h
      rw [if_neg (nI_ge h (by omega)), uin_n (by omega) (by omega), ugd_t, nI_clamp (by omega), hb.2, r_small hb.1, ubi_mk, ugd_t, ite_bi0]
      by_cases h2 : bL (b (q + n)) = true
      · rw [if_pos h2]
        have hl' : ∀ i, i < n + 1 → bL (b (q + i)) = true := fun i hi => by
          by_cases hin : i = n
          · rw [hin]; exact h2
          · exact hl i (by omega)
        have ih := r_wordL hA (q := q) (k - 1) fuel (n + 1) (by omega) (by omega) (by omega) hl'
        rw [show wE b N (q + n) = wE b N (q + (n + 1)) from scE_step h h2, ← ih, ite_p (show (6 ≤ nI n) = (6 ≤ n) from lit_le (k := 6) (by decide) (by omega))]
        unfold f_X8_word_b57
        rw [nI_1, nI_1]
        by_cases h6 : 6 ≤ n
        · rw [if_pos h6, if_neg (show ¬ n + 1 ≤ 6 by omega)]
          rfl
        · have hlt := enc_lt (a := fun i => b (q + i)) n (fun i hi => lt_ (hl i hi))
          have hlt2 : enc (fun i => b (q + i)) n < 2 ^ 25 := Nat.lt_of_lt_of_le hlt (by
            have : 32 ^ n ≤ 32 ^ 5 := Nat.pow_le_pow_right (by omega) (by omega)
            exact this)
          have hc := lt_ h2
          rw [if_neg h6, if_pos (show n ≤ 6 by omega), if_pos (show n + 1 ≤ 6 by omega), hb.2, sub_lit (by show 96 ≤ _; omega), enc_step hlt2 (by show b (q + n) - 96 < 32; omega)]
          rfl
      · rw [if_neg h2]
        exact stop (fun q => h2 q.2)
    · rw [if_pos (nI_le (by omega) (by omega))]
      exact stop (fun q => h q.1)
theorem r_word (hA : rA b N m) (hpN : p ≤ N) (hp : m 38 4 = nI p) : f_X8_word m = some (um_w m 38 4 (nI (sk b N p)), wv b (sk b N p) (wE b N (sk b N p))) := by
  have hN := hA.1
  have hs := sk_le (b := b) hpN
  unfold f_X8_word
  rw [r_here hA hpN hp, ubi_mk, um_w_s]
  exact r_wordL (q := sk b N p) (rA_4 hA _) (N - sk b N p) UF 0 rfl (by show N - sk b N p < 3000; omega) hs (fun i hi => absurd hi (Nat.not_lt_zero _))
theorem r_word2 (hA : rA b N m) (hpN : p ≤ N) : f_X8_word (um_w m 38 4 (nI (sk b N p))) = some (um_w m 38 4 (nI (sk b N p)), wv b (sk b N p) (wE b N (sk b N p))) := by
  rw [r_word (p := sk b N p) (rA_4 hA _) (sk_le (b := b) hpN) (um_w_s _ _ _ _), um_w_w]
  unfold sk
  rw [scE_id]
theorem r_ofL {w : Nat} (hw : w < 18) : ∀ (k fuel i : Nat), i + k = wln w → k < fuel → f_X8_of_b4 w fuel m (nI (enc (wch w) i)) (nI i) = some (m, nI (enc (wch w) (wln w)))
  | k, 0, i, _, hf => absurd hf (Nat.not_lt_zero _)
  | 0, fuel + 1, i, hk, hf => by
    have := (wch_ok w hw).1
    rw [f_X8_of_b4, if_pos (show us_l w ≤ nI i from nI_le (show wln w ≤ i by omega) (by omega)), show i = wln w by omega]
  | k + 1, fuel + 1, i, hk, hf => by
    have hl := wch_ok w hw
    have hl1 := hl.1
    have hl2 := hl.2.1
    have hc := hl.2.2 i (by omega)
    have hlt := enc_lt (a := wch w) i (fun j hj => (hl.2.2 j (by omega)).2)
    have hlt2 : enc (wch w) i < 2 ^ 25 := Nat.lt_of_lt_of_le hlt (by
      have : 32 ^ i ≤ 32 ^ 5 := Nat.pow_le_pow_right (by omega) (by omega)
      exact this)
    have e1 : us_c w (nI i) = nI (wch w i) := by
      unfold us_c
      rw [nI_clamp (by omega)]
      exact hc.1
    rw [f_X8_of_b4, if_neg (show ¬ us_l w ≤ nI i from nI_ge (a := i) (b := wln w) (by omega) (by omega)), uin_n (show i < us_len.getD w 0 from (show i < wln w by omega)) (by omega), ugd_t, e1, sub_lit (by show 96 ≤ _; omega), enc_step hlt2 (by show wch w i - 96 < 32; omega), nI_1]
    exact r_ofL hw k fuel (i + 1) (by omega) (by omega)
theorem r_of {w : Nat} (hw : w < 18) (m : Um) : f_X8_of w m = some (m, nI (enc (wch w) (wln w))) := r_ofL hw (wln w) UF 0 (by omega) (by have := (wch_ok w hw).1; show wln w < 3000; omega)
theorem wv_eq {q w : Nat} (hw : w < 18) (hN : N ≤ 600) : (wv b q (wE b N q) = nI (enc (wch w) (wln w))) = (wIs b q (wE b N q) w = true) := by
  have hl := wch_ok w hw
  have hl1 := hl.1
  have hl2 := hl.2.1
  have hsp := scE_spec (b := b) (q := bL) (N - q) q rfl
  have hlet : ∀ i, i < wE b N q - q → 97 ≤ b (q + i) ∧ b (q + i) ≤ 122 := fun i hi => lt_ (hsp.2.2.2 (q + i) (by omega) (by unfold wE at hi; omega)).2
  have hge := enc_lt (a := wch w) (wln w) (fun j hj => (hl.2.2 j hj).2)
  have hge2 : enc (wch w) (wln w) < 2 ^ 30 := Nat.lt_of_lt_of_le hge (by
    have : 32 ^ wln w ≤ 32 ^ 6 := Nat.pow_le_pow_right (by omega) hl.1
    exact this)
  have hpos : 0 < enc (wch w) (wln w) := by
    obtain ⟨j, hj⟩ : ∃ j, wln w = j + 1 := ⟨wln w - 1, by omega⟩
    have := (hl.2.2 j (by omega)).2
    rw [hj, enc]
    omega
  unfold wIs wv
  refine propext ⟨fun h => ?_, fun h => ?_⟩
  · by_cases h6 : wE b N q - q ≤ 6
    · rw [if_pos h6] at h
      have hlt := enc_lt (a := fun i => b (q + i)) (wE b N q - q) hlet
      have hlt2 : enc (fun i => b (q + i)) (wE b N q - q) < 2 ^ 30 := Nat.lt_of_lt_of_le hlt (by
        have : 32 ^ (wE b N q - q) ≤ 32 ^ 6 := Nat.pow_le_pow_right (by omega) h6
        exact this)
      have h1 := (nI_eq (by omega) (by omega)).mp h
      obtain ⟨i1, i2⟩ := enc_inj _ _ hlet (fun j hj => (hl.2.2 j hj).2) h1
      rw [Bool.and_eq_true]
      refine ⟨decide_eq_true i1, (cmpF_iff _ _ _ _).mpr (fun j _ hj => ?_)⟩
      exact i2 j (by omega)
    · rw [if_neg h6] at h
      exact absurd h.symm (nI_ne0 hpos (by omega))
  · rw [Bool.and_eq_true] at h
    have h1 := of_decide_eq_true h.1
    have h2 := (cmpF_iff _ _ _ _).mp h.2
    rw [if_pos (by omega), h1]
    congr 1
    have : ∀ k, k ≤ wln w → enc (fun i => b (q + i)) k = enc (wch w) k := by
      intro k
      induction k with
      | zero => intro _; rfl
      | succ k ih =>
        intro hk
        have e := h2 k (by omega) (by omega)
        rw [enc, enc, ih (by omega)]
        have e' : b (q + k) = wch w k := e
        rw [e']
    exact this _ (Nat.le_refl _)
theorem r_num_b {q : Nat} (hq : q < 2 ^ 31) (h : m 38 5 = nI q) (x y : Int32) : f_X8_readNumber m x y = some (m, 0) := by
  unfold f_X8_readNumber
  rw [r_fine_f hq h, ubi_mk, if_pos rfl]
def rV (v : Nat) : Nat := if v < 100000 then v else 10000
theorem r_numL {q : Nat} {x y z : Int32} : ∀ (k fuel i : Nat) (m : Um), N - (q + i) = k → k < fuel → rA b N m → q + i ≤ N → m 38 4 = nI (q + i) → f_X8_readNumber_b41 fuel m x y z (nI (rV (dV (fun j => b (q + j)) i))) = f_X8_readNumber_b114 (um_w m 38 4 (nI (dE b N (q + i)))) x y z (nI (rV (dV (fun j => b (q + j)) (dE b N (q + i) - q))))
  | k, 0, i, m, _, hf, _, _, _ => absurd hf (Nat.not_lt_zero _)
  | k, fuel + 1, i, m, hk, hf, hA, hpN, hp => by
    have hN := hA.1
    have stop : ¬ (q + i < N ∧ bD (b (q + i)) = true) → f_X8_readNumber_b114 m x y z (nI (rV (dV (fun j => b (q + j)) i))) = f_X8_readNumber_b114 (um_w m 38 4 (nI (dE b N (q + i)))) x y z (nI (rV (dV (fun j => b (q + j)) (dE b N (q + i) - q)))) := by
      intro hs
      unfold dE
      rw [scE_stop hs, show q + i - q = i by omega, um_w_id hp]
    rw [f_X8_readNumber_b41, hA.2.2, hp]
    by_cases h : q + i < N
    · have hb := hA.2.1 (q + i) h
      rw [if_neg (nI_ge h (by omega)), uin_n (by omega) (by omega), ugd_t, nI_clamp (by omega), hb.2, r_digit hb.1, ubi_mk, ite_bi0]
      by_cases h2 : bD (b (q + i)) = true
      · have h48 := dg h2
        have hr : rV (dV (fun j => b (q + j)) i) < 100000 := by
          unfold rV
          split <;> omega
        rw [if_pos h2, show dE b N (q + i) = dE b N (q + (i + 1)) from scE_step h h2, ite_p (show (nI (rV (dV (fun j => b (q + j)) i)) ≤ 9999) = (rV (dV (fun j => b (q + j)) i) ≤ 9999) from le_lit (k := 9999) (by decide) (by omega)), hp, uin_n (by omega) (by omega), ugd_t, nI_clamp (by omega), hb.2]
        have ih := r_numL (q := q) (x := x) (y := y) (z := z) (k - 1) fuel (i + 1) (um_w m 38 4 (nI (q + i + 1))) (by omega) (by omega) (rA_4 hA _) (by omega) (um_w_s _ _ _ _)
        rw [um_w_w] at ih
        rw [← ih]
        unfold f_X8_readNumber_b99
        rw [hp, nI_1, dV_mono]
        by_cases h9 : rV (dV (fun j => b (q + j)) i) ≤ 9999
        · rw [if_pos h9, lit_mul, nI_add, sub_lit (by show 48 ≤ _; omega)]
          congr 2
          show 10 * rV (dV (fun j => b (q + j)) i) + b (q + i) - 48 = _
          unfold rV at h9 ⊢
          split at h9
          · rw [if_pos (by assumption), if_pos (by omega)]
            omega
          · omega
        · rw [if_neg h9]
          show f_X8_readNumber_b41 _ _ _ _ _ (nI 10000) = _
          congr 2
          unfold rV at h9 ⊢
          rw [if_neg (by split at h9 <;> omega)]
      · rw [if_neg h2]
        exact stop (fun q => h2 q.2)
    · rw [if_pos (nI_le (by omega) (by omega))]
      exact stop (fun q => h q.1)
theorem r_num1 (hA : rA b N m) (hpN : p ≤ N) (hp : m 38 4 = nI p) (hf : m 38 5 = -1) (hd : atD b N p = true) (x y : Int32) : f_X8_readNumber m x y = f_X8_readNumber_b114 (um_w m 38 4 (nI (dE b N (sk b N p)))) x y (nI (sk b N p)) (nI (rV (numV b N (sk b N p)))) := by
  have hN := hA.1
  have hs := sk_le (b := b) hpN
  unfold f_X8_readNumber
  rw [r_fine_t hf, ubi_mk, if_neg (by decide), r_here hA hpN hp, ubi_mk, r_digitH hA, ubi_mk, hd, if_neg (by decide), um_w_s]
  have := r_numL (b := b) (N := N) (q := sk b N p) (x := x) (y := y) (z := nI (sk b N p)) (N - sk b N p) UF 0 (um_w m 38 4 (nI (sk b N p))) rfl (by show N - sk b N p < 3000; omega) (rA_4 hA _) hs (um_w_s _ _ _ _)
  rw [um_w_w] at this
  exact this
theorem r_num_t (hA : rA b N m) (hpN : p ≤ N) (hp : m 38 4 = nI p) (hf : m 38 5 = -1) {lo hi V p' : Nat} {x y : Int32} (hx : x = nI lo) (hy : y = nI hi - 1) (hlo : lo ≤ 1) (hhi : hi ≤ 1000) (h : pNum b N lo hi p = .inr (V, p')) : ∃ m', f_X8_readNumber m x y = some (m', nI V) ∧ rq cN0 cN0 m m' p' := by
  unfold pNum at h
  by_cases hd : atD b N p = true
  · rw [if_pos hd] at h
    by_cases hr : lo ≤ numV b N (sk b N p) ∧ numV b N (sk b N p) < hi
    · rw [if_pos hr] at h
      cases h
      refine ⟨_, ?_, w4_k hf _⟩
      rw [r_num1 hA hpN hp hf hd x y]
      unfold f_X8_readNumber_b114
      rw [show rV (numV b N (sk b N p)) = numV b N (sk b N p) by unfold rV; rw [if_pos (by omega)], hx, hy, if_neg (nI_nlt hr.1 (by omega)), if_pos (by rw [le_pred (by omega) (by omega)]; exact hr.2)]
    · rw [if_neg hr] at h
      cases h
  · rw [if_neg hd] at h
    cases h
theorem r_num_f (hA : rA b N m) (hpN : p ≤ N) (hp : m 38 4 = nI p) (hf : m 38 5 = -1) {lo hi : Nat} {e : Nat × Nat} {x y : Int32} (hx : x = nI lo) (hy : y = nI hi - 1) (hlo : lo ≤ 1) (hhi : hi ≤ 1000) (h : pNum b N lo hi p = .inl e) : ∃ m', f_X8_readNumber m x y = some (m', 0) ∧ rb cN0 cN0 m m' e ∧ m' 38 7 = m 38 7 := by
  unfold pNum at h
  by_cases hd : atD b N p = true
  · rw [if_pos hd] at h
    by_cases hr : lo ≤ numV b N (sk b N p) ∧ numV b N (sk b N p) < hi
    · rw [if_pos hr] at h
      cases h
    · rw [if_neg hr] at h
      cases h
      have hk := w4_k hf (dE b N (sk b N p))
      obtain ⟨m', h1, h2, h3, h4⟩ := r_wrong hk.2.2.1 (k := 2) (q := sk b N p) (x := 2) rfl rfl
      refine ⟨m', ?_, rb_tr hk.1 h2, h4.trans hk.2.2.2⟩
      have hb : f_X8_readNumber_b126 (um_w m 38 4 (nI (dE b N (sk b N p)))) (nI (sk b N p)) = some (m', 0) := by
        unfold f_X8_readNumber_b126
        rw [h1, ubi_mk]
      have hv : rV (numV b N (sk b N p)) < 100000 ∧ ¬ (lo ≤ rV (numV b N (sk b N p)) ∧ rV (numV b N (sk b N p)) < hi) := by
        unfold rV
        split <;> omega
      rw [r_num1 hA hpN hp hf hd x y]
      unfold f_X8_readNumber_b114
      rw [hb, hx, hy, ite_p (nI_lt' (by omega) (by omega)), ite_p (le_pred (by omega) (by omega))]
      by_cases h1 : rV (numV b N (sk b N p)) < lo
      · rw [if_pos h1]
      · rw [if_neg h1, if_neg (by omega)]
  · rw [if_neg hd] at h
    cases h
    have hk := w4_k hf (sk b N p)
    obtain ⟨m', h1, h2, h3, h4⟩ := r_wrong hk.2.2.1 (k := 1) (q := sk b N p) (x := 1) rfl rfl
    refine ⟨m', ?_, rb_tr hk.1 h2, h4.trans hk.2.2.2⟩
    unfold f_X8_readNumber
    rw [r_fine_t hf, ubi_mk, if_neg (by decide), r_here hA hpN hp, ubi_mk, r_digitH hA, ubi_mk, Bool.eq_false_iff.mpr hd, if_pos (by decide), um_w_s, h1, ubi_mk]
end RTAPE
