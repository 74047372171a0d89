/-! THE LAW AS NUMBERS: codes, and what they come to -/
theorem lp_rel {σ β : Type} (F : Nat → σ → Nat → Option β) (N : Nat) (P : Nat → σ → Prop) (Q : β → Prop)
    (h1 : ∀ n s t, t < N → P t s → ∃ s', F (n + 1) s t = F n s' (t + 1) ∧ P (t + 1) s') (h2 : ∀ n s, P N s → ∃ b, F (n + 1) s N = some b ∧ Q b) :
    ∀ k t s n, t + k = N → k < n → P t s → ∃ b, F n s t = some b ∧ Q b
  | 0, t, s, 0, _, hn, _ => absurd hn (Nat.lt_irrefl 0)
  | 0, t, s, n + 1, hk, _, hP => by
    have : t = N := by omega
    subst this
    exact h2 n s hP
  | k + 1, t, s, 0, _, hn, _ => absurd hn (Nat.not_lt_zero _)
  | k + 1, t, s, n + 1, hk, hn, hP => by
    obtain ⟨s', e, hP'⟩ := h1 n s t (by omega) hP
    rw [e]
    exact lp_rel F N P Q h1 h2 k (t + 1) s' n (by omega) (by omega) hP'
def okA (a : Nat) : Prop := a < 1000 ∨ (1000 ≤ a ∧ a < 1008) ∨ (2000 ≤ a ∧ a < 2007)
def rk (a : Nat) : Nat := if a < 1000 then 0 else if a < 2000 then 1 else if a = 2000 then 2 else if a = 2001 then 3 else if a = 2002 then 4 else if a = 2003 then 5 else if a = 2004 then 8 else if a = 2005 then 6 else 7
def ro (a : Nat) : Nat := if a < 1000 then a else if a < 2000 then a - 1000 else 0
def comb (a : Nat) (x y : Int32) : Int32 := if a = 2000 then x + y else if a = 2001 then x - y else if a = 2002 then x * y else if a = 2003 then (if y = 0 then 0 else x / y) else if a = 2004 then (if y = 0 then 0 else x % y) else if a = 2005 then ummin x y else ummax x y
def dep (A : Nat → Nat) : Nat → Nat
  | 0 => 0
  | k + 1 => if A k < 2000 then dep A k + 1 else dep A k - 1
theorem dep_le (A : Nat → Nat) : ∀ k, dep A k ≤ k
  | 0 => Nat.le_refl 0
  | k + 1 => by
    have := dep_le A k
    unfold dep
    split <;> omega
theorem dep_push {A : Nat → Nat} {k : Nat} (h : A k < 2000) : dep A (k + 1) = dep A k + 1 := by
  rw [dep, if_pos h]
theorem dep_op {A : Nat → Nat} {k : Nat} (h : ¬ A k < 2000) : dep A (k + 1) = dep A k - 1 := by
  rw [dep, if_neg h]
def wfA (A : Nat → Nat) (n : Nat) : Prop := ∀ k, k < n → okA (A k) ∧ (2000 ≤ A k → 2 ≤ dep A k)
theorem dep_pos {A : Nat → Nat} {n : Nat} (h : wfA A n) (hn : 0 < n) : 0 < dep A n := by
  obtain ⟨k, rfl⟩ : ∃ k, n = k + 1 := ⟨n - 1, by omega⟩
  have := h k (by omega)
  unfold dep
  split
  · omega
  · have := this.2 (by omega)
    omega
/-- one code: the row of values, by the height before it -/
def vS (A : Nat → Nat) (G : Nat → Int32) (k : Nat) (st : Nat → Int32) : Nat → Int32 := if A k < 1000 then upd st (dep A k) (nI (A k)) else if A k < 2000 then upd st (dep A k) (G (A k - 1000)) else upd st (dep A k - 2) (comb (A k) (st (dep A k - 2)) (st (dep A k - 1)))
def sVal (A : Nat → Nat) (n : Nat) (G : Nat → Int32) : Int32 := lp (vS A G) n 0 (fun _ => 0) 0
theorem vS_agree {A : Nat → Nat} {G : Nat → Int32} {n k : Nat} (hw : wfA A n) (hk : k < n) {s u : Nat → Int32} (h : ∀ j, j < dep A k → s j = u j) : ∀ j, j < dep A (k + 1) → vS A G k s j = vS A G k u j := by
  intro j hj
  have h1 := hw k hk
  unfold vS
  unfold dep at hj
  by_cases a : A k < 1000
  · rw [if_pos a, if_pos a]
    rw [if_pos (by omega)] at hj
    unfold upd
    by_cases b : j = dep A k
    · simp [b]
    · simp only [b, if_false]
      exact h j (by omega)
  · by_cases c : A k < 2000
    · rw [if_neg a, if_neg a, if_pos c, if_pos c]
      rw [if_pos c] at hj
      unfold upd
      by_cases b : j = dep A k
      · simp [b]
      · simp only [b, if_false]
        exact h j (by omega)
    · rw [if_neg a, if_neg a, if_neg c, if_neg c]
      rw [if_neg c] at hj
      have h2 := h1.2 (by omega)
      rw [h (dep A k - 2) (by omega), h (dep A k - 1) (by omega)]
      unfold upd
      by_cases b : j = dep A k - 2
      · simp [b]
      · simp only [b, if_false]
        exact h j (by omega)
theorem sVal_of {A : Nat → Nat} {n : Nat} {G : Nat → Int32} (hw : wfA A n) (hn : 0 < n) (s : Nat → Int32) : lp (vS A G) n 0 s 0 = sVal A n G := by
  unfold sVal
  have : ∀ k, k ≤ n → ∀ j, j < dep A k → lp (vS A G) k 0 s j = lp (vS A G) k 0 (fun _ => 0) j := by
    intro k
    induction k with
    | zero =>
      intro _ j hj
      exact absurd hj (Nat.not_lt_zero _)
    | succ k ih =>
      intro hk
      rw [lp_succ, lp_succ, Nat.zero_add]
      exact vS_agree hw (by omega) (ih (by omega))
  exact this n (Nat.le_refl _) 0 (dep_pos hw hn)
theorem sVal_cong {A : Nat → Nat} {n : Nat} {G H : Nat → Int32} (h : ∀ k, k < n → 1000 ≤ A k → A k < 2000 → G (A k - 1000) = H (A k - 1000)) : sVal A n G = sVal A n H := by
  unfold sVal
  rw [lp_cong0 (g := vS A H) n]
  intro j hj s
  unfold vS
  by_cases a : A j < 1000
  · rw [if_pos a, if_pos a]
  · by_cases c : A j < 2000
    · rw [if_neg a, if_neg a, if_pos c, if_pos c, h j hj (by omega) c]
    · rw [if_neg a, if_neg a, if_neg c, if_neg c]
def lawLife (A : Nat → Nat) (n : Nat) (G : Nat → Int32) : Int32 := ummax 1 (ummin 60 (if n = 0 then G 1 * 2 - G 0 / 2 + G 2 else sVal A n G))
/-- the class's law: without one told, nine codes of its own -/
def plA (k : Nat) : Nat := ([1001, 2, 2002, 1000, 2, 2003, 2001, 1002, 2000] : List Nat).getD k 0
def eN (n : Nat) : Nat := if n = 0 then 9 else n
def eA (n : Nat) (A : Nat → Nat) : Nat → Nat := if n = 0 then plA else A
theorem plA_wf : wfA plA 9 := by
  unfold wfA okA
  decide
theorem sVal_plain (G : Nat → Int32) : sVal plA 9 G = G 1 * 2 - G 0 / 2 + G 2 := rfl
theorem lawLife_e (A : Nat → Nat) (n : Nat) (G : Nat → Int32) : lawLife A n G = ummax 1 (ummin 60 (sVal (eA n A) (eN n) G)) := by
  unfold lawLife eA eN
  by_cases hn : n = 0
  · rw [if_pos hn, if_pos hn, if_pos hn, sVal_plain]
  · rw [if_neg hn, if_neg hn, if_neg hn]
theorem eN_pos (n : Nat) : 0 < eN n := by
  unfold eN
  split <;> omega
def cM (m : Um) (n : Nat) (A : Nat → Nat) : Prop := n ≤ 150 ∧ m 13 1 = nI n ∧ (∀ k, k < n → m 14 k = nI (A k)) ∧ wfA A n ∧ ∀ k, k < n → 1000 ≤ A k → A k < 2000 → (m 13 5).toBitVec.getLsbD (A k - 1000) = true
def cL (m : Um) (n : Nat) (A : Nat → Nat) : Prop := n ≤ 150 ∧ wfA A n ∧ cM m (eN n) (eA n A)
theorem cL_b2 {m : Um} {n : Nat} {A : Nat → Nat} (h : cL m n A) (hn : n = 0) : (m 13 5).toBitVec.getLsbD 2 = true := by
  have := h.2.2.2.2.2.2
  unfold eN eA at this
  rw [if_pos hn, if_pos hn] at this
  exact this 7 (by decide) (by decide) (by decide)
theorem cL_bit {m : Um} {n k : Nat} {A : Nat → Nat} (h : cL m n A) (hk : k < n) (h1 : 1000 ≤ A k) (h2 : A k < 2000) : (m 13 5).toBitVec.getLsbD (A k - 1000) = true := by
  have := h.2.2.2.2.2.2
  unfold eN eA at this
  rw [if_neg (by omega), if_neg (by omega)] at this
  exact this k hk h1 h2
theorem cL_0 {m : Um} (A : Nat → Nat) (h : cM m 9 plA) : cL m 0 A := ⟨Nat.zero_le _, fun k hk => absurd hk (Nat.not_lt_zero _), h⟩
theorem cL_n {m : Um} {n : Nat} {A : Nat → Nat} (hn : 0 < n) (h : cM m n A) : cL m n A := by
  refine ⟨h.1, h.2.2.2.1, ?_⟩
  unfold eN eA
  rw [if_neg (by omega), if_neg (by omega)]
  exact h
def rL (m : Um) (n : Nat) (A : Nat → Nat) : Prop := n ≤ 150 ∧ m 38 26 = nI n ∧ wfA A n ∧ ∀ k, k < n → m 47 k = nI (rk (A k)) ∧ m 48 k = nI (ro (A k))
theorem cL_of {m m' : Um} {n : Nat} {A : Nat → Nat} (h : cL m n A) (h3 : m' 13 = m 13) (h4 : m' 14 = m 14) : cL m' n A := by
  unfold cL cM
  rw [h3, h4]
  exact h
theorem rL_of {m m' : Um} {n : Nat} {A : Nat → Nat} (h : rL m n A) (h3 : m' 38 = m 38) (h4 : m' 47 = m 47) (h5 : m' 48 = m 48) : rL m' n A := by
  unfold rL
  rw [h3, h4, h5]
  exact h
theorem wfA_lt {A : Nat → Nat} {n k : Nat} (h : wfA A n) (hk : k < n) : A k < 2007 := by
  have := (h k hk).1
  unfold okA at this
  omega
theorem nI_dec1 {t : Nat} (h : 1 ≤ t) : nI t + (-1) = nI (t - 1) := by
  have : nI t + (-1) = nI t - nI 1 := by
    rw [Int32.sub_eq_add_neg]
    rfl
  rw [this, nI_sub h]
theorem unz_ne {y : Int32} (h : ¬ y = 0) : unz y = true := decide_eq_true h
theorem e_comb {m : Um} {a : Nat} (h : 2000 ≤ a) (h2 : a < 2007) (x y : Int32) : f_X2_combined m (nI a) x y = some (m, comb a x y) := by
  simp (disch := omega) only [f_X2_combined, f_X2_combined_b63, f_X2_combined_b75, lit_nI 2000, lit_nI 2001, lit_nI 2002, lit_nI 2003, lit_nI 2004, lit_nI 2005, nI_eq']
  unfold comb
  by_cases hy : y = 0
  · simp only [hy, if_true]
    split
    · rfl
    · split
      · rfl
      · split
        · rfl
        · split
          · rfl
          · split
            · rfl
            · split <;> rfl
  · simp only [hy, if_false, unz_ne hy, ugd_t]
    split
    · rfl
    · split
      · rfl
      · split
        · rfl
        · split
          · rfl
          · split
            · rfl
            · split <;> rfl
theorem r_both {m : Um} {a : Nat} (h : 2000 ≤ a) (h2 : a < 2007) (x y : Int32) : f_X8_both m (nI (rk a)) x y = some (m, comb a x y) := by
  have hc : a = 2000 ∨ a = 2001 ∨ a = 2002 ∨ a = 2003 ∨ a = 2004 ∨ a = 2005 ∨ a = 2006 := by omega
  have hxy : x ≤ y ∨ y ≤ x := by
    rw [Int32.le_iff_toInt_le, Int32.le_iff_toInt_le]
    omega
  have hmin : y ≤ x → ¬ x < y := by
    rw [Int32.le_iff_toInt_le, Int32.lt_iff_toInt_lt]
    omega
  have hmax : ¬ y ≤ x → x < y ∧ ¬ y < x := by
    rw [Int32.le_iff_toInt_le, Int32.lt_iff_toInt_lt, Int32.lt_iff_toInt_lt]
    omega
  have heq : y ≤ x → ¬ y < x → y = x := by
    rw [Int32.le_iff_toInt_le, Int32.lt_iff_toInt_lt, ← Int32.toInt_inj]
    omega
  rcases hc with rfl | rfl | rfl | rfl | rfl | rfl | rfl
  · rfl
  · rfl
  · rfl
  · show (f_X8_both_b38 m 5 x y) = _
    unfold f_X8_both_b38 comb
    by_cases hy : y = 0
    · simp only [hy, if_true]; rfl
    · simp only [hy, if_false, unz_ne hy, ugd_t]; rfl
  · show (f_X8_both_b38 m 8 x y) = _
    unfold f_X8_both_b38 comb
    by_cases hy : y = 0
    · simp only [hy, if_true]; rfl
    · simp only [hy, if_false, unz_ne hy, ugd_t]; rfl
  · show (if y ≤ x then f_X8_both_b71 m 6 x y 0 else f_X8_both_b71 m 6 x y 1) = some (m, if y < x then y else x)
    by_cases hq : y ≤ x
    · rw [if_pos hq]
      show some (m, y) = _
      by_cases hp : y < x
      · rw [if_pos hp]
      · rw [if_neg hp, heq hq hp]
    · rw [if_neg hq, if_neg (hmax hq).2]
      rfl
  · show (if y ≤ x then f_X8_both_b71 m 7 x y 0 else f_X8_both_b71 m 7 x y 1) = some (m, if x < y then y else x)
    by_cases hq : y ≤ x
    · rw [if_pos hq, if_neg (hmin hq)]
      rfl
    · rw [if_neg hq, if_pos (hmax hq).1]
      rfl
theorem e_value {m : Um} {n : Nat} {A : Nat → Nat} (h : cM m n A) (hn : 0 < n) : ∃ st, f_X2_life m = some (um_wa m 16 st, ummax 1 (ummin 60 (sVal A n (m 17)))) := by
  have hn150 := h.1
  refine ⟨lp (vS A (m 17)) n 0 (m 16), ?_⟩
  rw [← sVal_of h.2.2.2.1 hn (m 16)]
  have := lp_run (fun q (s : Nat → Int32) k => f_X2_life_b4 q (um_wa m 16 s) (nI (dep A k)) (nI k)) n (vS A (m 17)) (fun _ _ => True) (fun s => some (um_wa m 16 s, ummax 1 (ummin 60 (s 0)))) ?_ ?_ n 0 (m 16) UF (Nat.zero_add n) (by show n < 3000; omega) trivial
  · rw [um_wa_id] at this
    exact this
  · intro q s k hk _
    refine ⟨?_, trivial⟩
    have hd := dep_le A k
    have hA := h.2.2.2.1 k hk
    have hlt := wfA_lt h.2.2.2.1 hk
    show f_X2_life_b4 (q + 1) (um_wa m 16 s) (nI (dep A k)) (nI k) = f_X2_life_b4 q (um_wa m 16 (vS A (m 17) k s)) (nI (dep A (k + 1))) (nI (k + 1))
    have e13 : (um_wa m 16 s) 13 1 = nI n := by rw [um_wa_n (by omega)]; exact h.2.1
    have e14 : (um_wa m 16 s) 14 k = nI (A k) := by rw [um_wa_n (by omega)]; exact h.2.2.1 k hk
    rw [f_X2_life_b4, e13, if_neg (nI_ge (by omega) (by omega)), uin_n (by omega) (by omega), ugd_t, nI_clamp (by omega), e14]
    unfold vS
    by_cases a : A k < 1000
    · rw [if_neg (nle_lit (show A k < 2000 by omega) (by omega)), if_neg (nle_lit (show dep A k < 150 by omega) (by omega)), if_neg (nle_lit (show A k < 1000 by omega) (by omega)), if_pos a]
      simp (disch := omega) only [f_X2_life_b59, f_X2_life_b100, uin_n, ugd_t, nI_clamp, nI_1, um_w_def, um_wa_s, um_wa_wa]
      rw [dep_push (by omega)]
    · by_cases c : A k < 2000
      · have hf : A k < 1008 := by
          have := hA.1
          unfold okA at this
          omega
        rw [if_neg (nle_lit (show A k < 2000 by omega) (by omega)), if_neg (nle_lit (show dep A k < 150 by omega) (by omega)), if_pos (lit_leq (show 1000 ≤ A k by omega) (by omega)), if_neg a, if_pos c]
        simp (disch := omega) only [f_X2_life_b59, f_X2_life_b100, uin_n, ugd_t, nI_clamp, nI_1, um_w_def, um_wa_s, um_wa_wa, sub_lit, um_wa_n]
        rw [dep_push (by omega)]
      · have hd2 := hA.2 (by omega)
        rw [if_pos (lit_leq (show 2000 ≤ A k by omega) (by omega)), if_neg a, if_neg c]
        unfold f_X2_life_b66
        rw [if_neg (nlt_lit (show 2 ≤ dep A k by omega) (by omega)), nI_dec1 (by omega), sub_lit (by omega)]
        simp (disch := omega) only [f_X2_life_b100, uin_n, ugd_t, nI_clamp, nI_1, um_w_def, um_wa_s, um_wa_wa, e_comb, ubi_mk]
        rw [dep_op c, show dep A k - 1 - 1 = dep A k - 2 by omega]
  · intro q s _
    show f_X2_life_b4 (q + 1) (um_wa m 16 s) (nI (dep A n)) (nI n) = _
    have e13 : (um_wa m 16 s) 13 1 = nI n := by rw [um_wa_n (by omega)]; exact h.2.1
    rw [f_X2_life_b4, e13, if_pos (nI_le (Nat.le_refl _) (by omega)), um_wa_s]
theorem r_value {m : Um} {n : Nat} {A : Nat → Nat} (h : rL m n A) (hn : 0 < n) : ∃ st, f_X8_valueNow m = some (um_wa m 49 st, sVal A n (m 50)) := by
  have hn150 := h.1
  refine ⟨lp (vS A (m 50)) n 0 (m 49), ?_⟩
  rw [← sVal_of h.2.2.1 hn (m 49)]
  have := lp_run (fun q (s : Nat → Int32) k => f_X8_valueNow_b4 q (um_wa m 49 s) (nI (dep A k)) (nI k)) n (vS A (m 50)) (fun _ _ => True) (fun s => some (um_wa m 49 s, s 0)) ?_ ?_ n 0 (m 49) UF (Nat.zero_add n) (by show n < 3000; omega) trivial
  · rw [um_wa_id] at this
    exact this
  · intro q s k hk _
    refine ⟨?_, trivial⟩
    have hd := dep_le A k
    have hA := h.2.2.1 k hk
    have hlt := wfA_lt h.2.2.1 hk
    show f_X8_valueNow_b4 (q + 1) (um_wa m 49 s) (nI (dep A k)) (nI k) = f_X8_valueNow_b4 q (um_wa m 49 (vS A (m 50) k s)) (nI (dep A (k + 1))) (nI (k + 1))
    have e38 : (um_wa m 49 s) 38 26 = nI n := by rw [um_wa_n (by omega)]; exact h.2.1
    have e47 : (um_wa m 49 s) 47 k = nI (rk (A k)) := by rw [um_wa_n (by omega)]; exact (h.2.2.2 k hk).1
    have e48 : (um_wa m 49 s) 48 k = nI (ro (A k)) := by rw [um_wa_n (by omega)]; exact (h.2.2.2 k hk).2
    rw [f_X8_valueNow_b4, e38, if_neg (nI_ge (by omega) (by omega)), uin_n (by omega) (by omega), ugd_t, nI_clamp (by omega), e47, e48]
    unfold vS
    by_cases a : A k < 1000
    · have h1 : rk (A k) = 0 := by unfold rk; rw [if_pos a]
      have h2 : ro (A k) = A k := by unfold ro; rw [if_pos a]
      rw [h1, h2, if_neg (by decide), if_pos (by decide), if_pos a]
      simp (disch := omega) only [f_X8_valueNow_b53, f_X8_valueNow_b89, uin_n, ugd_t, nI_clamp, nI_1, um_w_def, um_wa_s, um_wa_wa]
      rw [dep_push (by omega)]
    · by_cases c : A k < 2000
      · have hf : A k < 1008 := by
          have := hA.1
          unfold okA at this
          omega
        have h1 : rk (A k) = 1 := by unfold rk; rw [if_neg a, if_pos c]
        have h2 : ro (A k) = A k - 1000 := by unfold ro; rw [if_neg a, if_pos c]
        rw [h1, h2, if_neg (by decide), if_neg (by decide), if_neg a, if_pos c]
        simp (disch := omega) only [f_X8_valueNow_b53, f_X8_valueNow_b89, uin_n, ugd_t, nI_clamp, nI_1, um_w_def, um_wa_s, um_wa_wa, um_wa_n]
        rw [dep_push (by omega)]
      · have hd2 := hA.2 (by omega)
        have h1 : 1 < rk (A k) ∧ rk (A k) < 100 := by
          unfold rk
          rw [if_neg a, if_neg c]
          split
          · omega
          · split
            · omega
            · split
              · omega
              · split
                · omega
                · split
                  · omega
                  · split <;> omega
        rw [if_pos (lit_ltq (show 1 < rk (A k) by omega) (by omega)), if_neg a, if_neg c, nI_dec1 (by omega), sub_lit (by omega)]
        simp (disch := omega) only [f_X8_valueNow_b89, uin_n, ugd_t, nI_clamp, nI_1, um_w_def, um_wa_s, um_wa_wa, r_both, ubi_mk]
        rw [dep_op c, show dep A k - 1 - 1 = dep A k - 2 by omega]
  · intro q s _
    show f_X8_valueNow_b4 (q + 1) (um_wa m 49 s) (nI (dep A n)) (nI n) = _
    have e38 : (um_wa m 49 s) 38 26 = nI n := by rw [um_wa_n (by omega)]; exact h.2.1
    rw [f_X8_valueNow_b4, e38, if_pos (nI_le (Nat.le_refl _) (by omega)), um_wa_s]
theorem e_lawLife {m : Um} {n : Nat} {A : Nat → Nat} (h : cL m n A) : ∃ st, f_X2_life m = some (um_wa m 16 st, lawLife A n (m 17)) := by
  rw [lawLife_e]
  exact e_value h.2.2 (eN_pos n)
theorem clamp_life (y : Int32) : (if 1 ≤ y then (if y ≤ 60 then y else 60) else 1) = ummax 1 (ummin 60 y) := by
  have h1 : (1 ≤ y) = (1 ≤ y.toInt) := propext (by rw [Int32.le_iff_toInt_le, i_1])
  have h2 : (y ≤ 60) = (y.toInt ≤ 60) := propext (by rw [Int32.le_iff_toInt_le, i_60])
  have h3 : (y < 60) = (y.toInt < 60) := propext (by rw [Int32.lt_iff_toInt_lt, i_60])
  have h4 : (1 < y) = (1 < y.toInt) := propext (by rw [Int32.lt_iff_toInt_lt, i_1])
  show _ = if 1 < (if y < 60 then y else 60) then (if y < 60 then y else 60) else 1
  by_cases a : y.toInt < 60
  · have a3 : y < 60 := by rw [h3]; exact a
    have a2 : y ≤ 60 := by rw [h2]; omega
    rw [if_pos a3, if_pos a2]
    by_cases b : 1 < y.toInt
    · rw [if_pos (show 1 ≤ y by rw [h1]; omega), if_pos (show 1 < y by rw [h4]; exact b)]
    · rw [if_neg (show ¬ 1 < y by rw [h4]; exact b)]
      by_cases c : 1 ≤ y
      · rw [if_pos c]
        rw [h1] at c
        apply Int32.toInt_inj.mp
        rw [i_1]
        omega
      · rw [if_neg c]
  · rw [if_neg (show ¬ y < 60 by rw [h3]; exact a), if_pos (show (1 : Int32) < 60 by decide), if_pos (show 1 ≤ y by rw [h1]; omega)]
    by_cases c : y ≤ 60
    · rw [if_pos c]
      rw [h2] at c
      apply Int32.toInt_inj.mp
      rw [i_60]
      omega
    · rw [if_neg c]
theorem r_lawLife {m : Um} {n : Nat} {A : Nat → Nat} (h : rL m n A) : ∃ st, f_X8_lifeNow m = some (um_wa m 49 st, lawLife A n (m 50)) := by
  have hn150 := h.1
  have hb : ∀ (m' : Um) (y : Int32), f_X8_lifeNow_b38 m' y = some (m', ummax 1 (ummin 60 y)) := by
    intro m' y
    rw [← clamp_life]
    unfold f_X8_lifeNow_b38 f_X8_lifeNow_b60
    split
    · split <;> rfl
    · rfl
  unfold f_X8_lifeNow lawLife
  rw [h.2.1]
  by_cases hn : n = 0
  · subst hn
    refine ⟨m 49, ?_⟩
    rw [if_pos (by decide), um_wa_id, hb, Int32.mul_comm]
    rfl
  · obtain ⟨st, e⟩ := r_value h (by omega)
    refine ⟨st, ?_⟩
    rw [if_neg (nI_ne0 (by omega) (by omega)), e, ubi_mk, if_neg hn, hb]
