theorem sums_rng {n : Nat} {w : Nat → Int32} {b : Int} (hn : n ≤ 8) (hb : b ≤ 1000) (h : ∀ v, v < n → 0 ≤ (w v).toInt ∧ (w v).toInt ≤ b) : 0 ≤ (sums n w).toInt ∧ (sums n w).toInt ≤ n * b := by
  induction n with
  | zero => exact ⟨by have := i_0; show 0 ≤ (0 : Int32).toInt; omega, by show (0 : Int32).toInt ≤ _; rw [i_0]; omega⟩
  | succ n ih =>
    have h1 := ih (by omega) (fun v hv => h v (by omega))
    have h2 := h n (by omega)
    have hb0 : 0 ≤ b := by omega
    have h3 : (n : Int) * b ≤ 8000 := by
      have : (n : Int) * b ≤ 8 * b := Int.mul_le_mul_of_nonneg_right (by omega) hb0
      omega
    have e : ((n + 1 : Nat) : Int) * b = n * b + b := by
      rw [Int.natCast_add, Int.add_mul]
      simp
    rw [sums_succ, i_add (by omega) (by omega), e]
    omega
theorem worth_rng {V : Nat} {X W R : Nat → Int32} (hV : V ≤ 8) (hW : ∀ v, v < V → 0 ≤ (W v).toInt ∧ (W v).toInt ≤ 60) (t : Nat) : 0 ≤ (sWorth X W R V t).toInt ∧ (sWorth X W R V t).toInt ≤ 480 := by
  unfold sWorth
  have := sums_rng (n := V) (w := fun v => bi (decide (sOwn X R v = nI t)) * W v) (b := 60) hV (by omega) (fun v hv => by
    have h1 := hW v hv
    show 0 ≤ (bi (decide (sOwn X R v = nI t)) * W v).toInt ∧ _ ≤ _
    by_cases q : sOwn X R v = nI t
    · rw [decide_eq_true q, bi_t, Int32.one_mul]
      exact h1
    · rw [decide_eq_false q, bi_f, Int32.zero_mul, i_0]
      omega)
  have h2 : (V : Int) * 60 ≤ 480 := by omega
  omega
def riS (X W R : Nat → Int32) (V t : Nat) (p : Int32 × Int32) : Int32 × Int32 := if sHas R t = true ∧ ¬ sWorth X W R V t ≤ p.2 then (nI t, sWorth X W R V t) else p
theorem e_ric {m : Um} {V T : Nat} {X W : Nat → Int32} (hc : cC m V T X W) (y : Int32) : f_X7_richest_b14 UF m y (-1) (-1) 0 = some (m, .inl (if y = 0 then (lp (riS X W (m 24) V) 5 0 (-1, -1)).1 else (lp (riS X W (m 24) V) 5 0 (-1, -1)).2)) := by
  have := lp_run (fun n (p : Int32 × Int32) t => f_X7_richest_b14 n m y p.1 p.2 (nI t)) 5 (riS X W (m 24) V) (fun _ p => -1 ≤ p.2) (fun p => some (m, .inl (if y = 0 then p.1 else p.2))) ?_ ?_ 5 0 (-1, -1) UF rfl (by decide) (by decide)
  · exact this
  · intro n p t ht hp
    refine ⟨?_, ?_⟩
    · show f_X7_richest_b14 (n + 1) m y p.1 p.2 (nI t) = f_X7_richest_b14 n m y (riS X W (m 24) V t p).1 (riS X W (m 24) V t p).2 (nI (t + 1))
      rw [f_X7_richest_b14, if_neg (nle_lit (by omega) (by omega)), e_has ht, ubi_mk, ite_bi0]
      simp only [f_X7_richest_b45, f_X7_richest_b59, e_worthOf hc ht, ubi_mk, nI_1]
      unfold riS
      by_cases a : sHas (m 24) t = true
      · by_cases c : sWorth X W (m 24) V t ≤ p.2 <;> simp [a, c]
      · simp [a, hp]
    · unfold riS
      by_cases q : sHas (m 24) t = true ∧ ¬ sWorth X W (m 24) V t ≤ p.2
      · rw [if_pos q]
        have h2 := q.2
        rw [Int32.le_iff_toInt_le] at h2 hp ⊢
        show (-1 : Int32).toInt ≤ (sWorth X W (m 24) V t).toInt
        omega
      · rw [if_neg q]
        exact hp
  · intro n p _
    show f_X7_richest_b14 (n + 1) m y p.1 p.2 (nI 5) = _
    rw [f_X7_richest_b14, if_pos (by decide)]
    simp only [f_X7_richest_b74]
    split <;> rfl
theorem r_ric {m : Um} {V T : Nat} {X W : Nat → Int32} (hc : rC m V T X W) (hR : vR T (cv (m 54))) (hW : ∀ v, v < V → 0 ≤ (W v).toInt ∧ (W v).toInt ≤ 60) (y : Int32) : f_X8_richest_b30 UF m y (-1) 0 = some (m, (if y = 0 then (lp (riS X W (cv (m 54)) V) 5 0 (-1, -1)).1 else (lp (riS X W (cv (m 54)) V) 5 0 (-1, -1)).2)) := by
  have hT := hc.2.1
  have hV := hc.1
  have hw : ∀ x : Int32, ubi (f_X8_ownedBy m x) (fun a b => ubi (f_X8_worthOf a b) (fun c d => some (c, d))) = some (m, sums V (fun v => bi (decide (sOwn X (cv (m 54)) v = x)) * W v)) := fun x => by
    rw [r_ownedBy hc hR, ubi_mk, r_worth hc, ubi_mk]
  rw [lp_cut (riS X W (cv (m 54)) V) hT (-1, -1) (fun j h1 h2 p => by unfold riS; rw [vR_has hR h1 h2]; rfl)]
  have := lp_run (fun n (p : Int32 × Int32) t => f_X8_richest_b30 n m y p.1 (nI t)) T (riS X W (cv (m 54)) V) (fun _ p => p = (-1, -1) ∨ ∃ t, t < 5 ∧ p = (nI t, sWorth X W (cv (m 54)) V t)) (fun p => some (m, (if y = 0 then p.1 else p.2))) ?_ ?_ T 0 (-1, -1) UF (Nat.zero_add T) (by show T < 3000; omega) (Or.inl rfl)
  · exact this
  · intro n p t ht hp
    have ht5 : t < 5 := by omega
    have hr0 := worth_rng (X := X) (R := cv (m 54)) hV hW t
    refine ⟨?_, ?_⟩
    · show f_X8_richest_b30 (n + 1) m y p.1 (nI t) = f_X8_richest_b30 n m y (riS X W (cv (m 54)) V t p).1 (nI (t + 1))
      rw [f_X8_richest_b30, hc.2.2.2.1, if_neg (nI_ge (by omega) (by omega)), lit_add, uin_n (by omega) (by omega), ugd_t, nI_clamp (by omega), c_si m ht5]
      simp only [f_X8_richest_b78, f_X8_richest_b76, nI_1, r_ownedBy hc hR, r_worth hc, ubi_mk]
      unfold riS
      by_cases a : cv (m 54) (13 + t) ≤ 0
      · have a' : sHas (cv (m 54)) t = false := by unfold sHas; simp [a]
        simp [a, a']
      · have a' : sHas (cv (m 54)) t = true := by unfold sHas; simp [a]
        rcases hp with rfl | ⟨t', ht', rfl⟩
        · have c : ¬ sWorth X W (cv (m 54)) V t ≤ -1 := by
            rw [Int32.le_iff_toInt_le, i_m1]
            omega
          simp only [a, a', c, if_true, if_false, not_false_eq_true, and_self]
        · have e1 : sums V (fun v => bi (decide (sOwn X (cv (m 54)) v = nI t)) * W v) = sWorth X W (cv (m 54)) V t := rfl
          have e2 : sums V (fun v => bi (decide (sOwn X (cv (m 54)) v = nI t')) * W v) = sWorth X W (cv (m 54)) V t' := rfl
          simp only [a, a', if_false, nI_ne1 (show t' < 2 ^ 31 by omega), e1, e2, true_and]
          by_cases c : sWorth X W (cv (m 54)) V t ≤ sWorth X W (cv (m 54)) V t' <;> simp [c]
    · unfold riS
      by_cases q : sHas (cv (m 54)) t = true ∧ ¬ sWorth X W (cv (m 54)) V t ≤ p.2
      · rw [if_pos q]
        exact Or.inr ⟨t, ht5, rfl⟩
      · rw [if_neg q]
        exact hp
  · intro n p hp
    show f_X8_richest_b30 (n + 1) m y p.1 (nI T) = _
    rw [f_X8_richest_b30, hc.2.2.2.1, if_pos (nI_le (Nat.le_refl _) (by omega))]
    simp only [f_X8_richest_b93, f_X8_richest_b106, r_ownedBy hc hR, r_worth hc, ubi_mk]
    by_cases q : y = 0
    · simp [q]
    · rcases hp with rfl | ⟨t', ht', rfl⟩
      · simp [q]
      · simp only [q, if_false, nI_ne1 (show t' < 2 ^ 31 by omega)]
        rfl
theorem op_richest : uop_richest uI := by
  intro m a1 ⟨s, hc, hr, hv⟩
  have hT5 := vI_T hc
  have hV8 := vI_V hc
  by_cases h1 : 0 ≤ a1 ∧ a1 ≤ 1
  · skip
    refine Or.inl (wrapI (fr := fun M => f_X8_richest M a1) hc hr hv ?_)
    refine ⟨if a1 = 0 then (lp (riS (qX s) (qW s) (qR s) (qV s)) 5 0 (-1, -1)).1 else (lp (riS (qX s) (qW s) (qR s) (qV s)) 5 0 (-1, -1)).2, m, ?_, cK_rf hc, fun M hM => ?_⟩
    · simp (decide := true) (disch := omega) only [f_X7_richest, e_need_t h1, ubx_l, ubi_mk, if_true, if_false, ugd_t, e_ric hc.1.1, hc.2.1]
    · obtain ⟨m2, e, k, hR2, h0⟩ := r_take' (rI_K hM (z0_K M)) (z0_0 M)
      have hM0 := rI_K hM (z0_K M)
      have hm := rI_K hM0 k
      have hv2 : vR (qT s) (cv (m2 54)) := by rw [hR2]; exact hv.2.1.1
      refine ⟨m2, ?_, rK_tr (z0_K M) k, h0⟩
      show ubi (f_X8_within (z0 (M)) a1 0 1) _ = _
      simp (decide := true) (disch := omega) only [r_wit_t h1, ubi_mk, r_may_t (z0_0 _), if_true, if_false, ugd_t, f_X8_richest_b106, e, r_ric hm.1.1 hv2 (fun v hv3 => (hv.1 v hv3).2), hR2]
  · refine Or.inr ⟨tI m, tR (z0 (tI m)) 1 1, 0, ?_, ?_, tR_0, throwI hc hr hv 1⟩
    · simp only [f_X7_richest, e_need_f h1, ubx_l, ubx_r]
    · have hm := rI_tI hr
      show ubi (f_X8_within (z0 (tI m)) a1 0 1) _ = _
      simp (decide := true) (disch := omega) only [r_wit_f h1, r_may_f1 (z0_0 _) i1_0, ubi_mk, if_true, if_false, f_X8_richest_b106]
def vaS (X W R : Nat → Int32) (v : Nat) (p : Int32 × Int32) : Int32 × Int32 := if sOwn X R v = -1 ∧ ¬ W v ≤ p.2 then (nI v, W v) else p
theorem e_vac {m : Um} {V T : Nat} {X W : Nat → Int32} (hc : cC m V T X W) (hR : vR T (m 24)) (y : Int32) : f_X7_vacant_b14 UF m y (-1) (-1) 0 = some (m, .inl (if y = 0 then (lp (vaS X W (m 24)) V 0 (-1, -1)).1 else (lp (vaS X W (m 24)) V 0 (-1, -1)).2)) := by
  have hV := hc.1
  refine lp_run0 (fun n (p : Int32 × Int32) v => f_X7_vacant_b14 n m y p.1 p.2 (nI v)) V (vaS X W (m 24)) (fun p => some (m, .inl (if y = 0 then p.1 else p.2))) ?_ ?_ (-1, -1) (by show V < 3000; omega)
  · intro n p v hv
    show f_X7_vacant_b14 (n + 1) m y p.1 p.2 (nI v) = f_X7_vacant_b14 n m y (vaS X W (m 24) v p).1 (vaS X W (m 24) v p).2 (nI (v + 1))
    rw [f_X7_vacant_b14, hc.2.2.1, if_neg (nI_ge (by omega) (by omega)), e_seenBy hc hv, ubi_mk]
    simp (disch := omega) only [f_X7_vacant_b66, uin_n, ugd_t, nI_clamp, nI_1, hc.2.2.2.2.2 v hv]
    unfold vaS
    have h1 := bits_zero (n := 5) (fun t => sSees X (m (23 + 1)) t v) (by omega)
    have h2 := own_none X hR v
    by_cases a : sOwn X (m 24) v = -1
    · rw [if_pos (h1.mpr (h2.mp a))]
      by_cases c : W v ≤ p.2 <;> simp [a, c]
    · rw [if_neg (fun r => a (h2.mpr (h1.mp r)))]
      simp [a]
  · intro n p
    show f_X7_vacant_b14 (n + 1) m y p.1 p.2 (nI V) = _
    rw [f_X7_vacant_b14, hc.2.2.1, if_pos (nI_le (Nat.le_refl _) (by omega))]
    simp only [f_X7_vacant_b81]
    split <;> rfl
theorem r_vac {m : Um} {V T : Nat} {X W : Nat → Int32} (hc : rC m V T X W) (hR : vR T (cv (m 54))) (hW : ∀ v, v < V → 0 ≤ (W v).toInt ∧ (W v).toInt ≤ 60) (y : Int32) : f_X8_vacant_b30 UF m y (-1) 0 = some (m, (if y = 0 then (lp (vaS X W (cv (m 54))) V 0 (-1, -1)).1 else (lp (vaS X W (cv (m 54))) V 0 (-1, -1)).2)) := by
  have hV := hc.1
  have := lp_run (fun n (p : Int32 × Int32) v => f_X8_vacant_b30 n m y p.1 (nI v)) V (vaS X W (cv (m 54))) (fun _ p => p = (-1, -1) ∨ ∃ v, v < V ∧ p = (nI v, W v)) (fun p => some (m, (if y = 0 then p.1 else p.2))) ?_ ?_ V 0 (-1, -1) UF (Nat.zero_add V) (by show V < 3000; omega) (Or.inl rfl)
  · exact this
  · intro n p v hv hp
    have hr0 := hW v hv
    refine ⟨?_, ?_⟩
    · show f_X8_vacant_b30 (n + 1) m y p.1 (nI v) = f_X8_vacant_b30 n m y (vaS X W (cv (m 54)) v p).1 (nI (v + 1))
      rw [f_X8_vacant_b30, hc.2.2.1, if_neg (nI_ge (by omega) (by omega)), r_owner hc hR hv, ubi_mk]
      simp only [f_X8_vacant_b77, f_X8_vacant_b75, nI_1]
      unfold vaS
      by_cases a : sOwn X (cv (m 54)) v = -1
      · rcases hp with rfl | ⟨v', hv', rfl⟩
        · have c : ¬ W v ≤ -1 := by
            rw [Int32.le_iff_toInt_le, i_m1]
            omega
          simp [a, c]
        · simp (disch := omega) only [a, if_true, if_false, nI_ne1, lit_mul, nI_1, uin_n, ugd_t, nI_clamp, hc.2.2.2.2.2 v hv, hc.2.2.2.2.2 v' hv', true_and]
          by_cases c : W v ≤ W v' <;> simp [c]
      · simp [a]
    · unfold vaS
      by_cases q : sOwn X (cv (m 54)) v = -1 ∧ ¬ W v ≤ p.2
      · rw [if_pos q]
        exact Or.inr ⟨v, hv, rfl⟩
      · rw [if_neg q]
        exact hp
  · intro n p hp
    show f_X8_vacant_b30 (n + 1) m y p.1 (nI V) = _
    rw [f_X8_vacant_b30, hc.2.2.1, if_pos (nI_le (Nat.le_refl _) (by omega))]
    simp only [f_X8_vacant_b92, f_X8_vacant_b106]
    by_cases q : y = 0
    · simp [q]
    · rcases hp with rfl | ⟨v', hv', rfl⟩
      · simp [q]
      · simp (disch := omega) only [q, if_false, nI_ne1, lit_mul, nI_1, uin_n, ugd_t, nI_clamp, hc.2.2.2.2.2 v' hv']
theorem op_vacant : uop_vacant uI := by
  intro m a1 ⟨s, hc, hr, hv⟩
  have hT5 := vI_T hc
  have hV8 := vI_V hc
  by_cases h1 : 0 ≤ a1 ∧ a1 ≤ 1
  · skip
    refine Or.inl (wrapI (fr := fun M => f_X8_vacant M a1) hc hr hv ?_)
    refine ⟨if a1 = 0 then (lp (vaS (qX s) (qW s) (qR s)) (qV s) 0 (-1, -1)).1 else (lp (vaS (qX s) (qW s) (qR s)) (qV s) 0 (-1, -1)).2, m, ?_, cK_rf hc, fun M hM => ?_⟩
    · simp (decide := true) (disch := omega) only [f_X7_vacant, e_need_t h1, ubx_l, ubi_mk, if_true, if_false, ugd_t, e_vac hc.1.1 (show vR (qT s) (m 24) by rw [hc.2.1]; exact hv.2.1.1), hc.2.1]
    · obtain ⟨m2, e, k, hR2, h0⟩ := r_take' (rI_K hM (z0_K M)) (z0_0 M)
      have hM0 := rI_K hM (z0_K M)
      have hm := rI_K hM0 k
      have hv2 : vR (qT s) (cv (m2 54)) := by rw [hR2]; exact hv.2.1.1
      refine ⟨m2, ?_, rK_tr (z0_K M) k, h0⟩
      show ubi (f_X8_within (z0 (M)) a1 0 1) _ = _
      simp (decide := true) (disch := omega) only [r_wit_t h1, ubi_mk, r_may_t (z0_0 _), if_true, if_false, ugd_t, f_X8_vacant_b106, e, r_vac hm.1.1 hv2 (fun v hv3 => (hv.1 v hv3).2), hR2]
  · refine Or.inr ⟨tI m, tR (z0 (tI m)) 1 1, 0, ?_, ?_, tR_0, throwI hc hr hv 1⟩
    · simp only [f_X7_vacant, e_need_f h1, ubx_l, ubx_r]
    · have hm := rI_tI hr
      show ubi (f_X8_within (z0 (tI m)) a1 0 1) _ = _
      simp (decide := true) (disch := omega) only [r_wit_f h1, r_may_f1 (z0_0 _) i1_0, ubi_mk, if_true, if_false, f_X8_vacant_b106]
theorem e_fro {m : Um} {V T : Nat} {X W : Nat → Int32} (hc : cC m V T X W) (a b : Int32) {y : Nat} (hy : y ≤ 1) : f_X7_front_b29 UF m a b (nI y) 0 0 = some (m, .inl (sums V (fun v => if (a ≤ X v ∧ X v ≤ b) ∧ (sOwn X (m 24) v = -1 ↔ y = 1) then W v else 0))) := by
  have hV := hc.1
  refine lp_run0 (fun n (p : Int32) v => f_X7_front_b29 n m a b (nI y) p (nI v)) V _ (fun p => some (m, .inl p)) ?_ ?_ 0 (by show V < 3000; omega)
  · intro n p v hv
    show f_X7_front_b29 (n + 1) m a b (nI y) p (nI v) = f_X7_front_b29 n m a b (nI y) (p + if (a ≤ X v ∧ X v ≤ b) ∧ (sOwn X (m 24) v = -1 ↔ y = 1) then W v else 0) (nI (v + 1))
    have l1 : (X v < a) = ¬ a ≤ X v := propext (by rw [Int32.lt_iff_toInt_lt, Int32.le_iff_toInt_le]; omega)
    have l2 : (b < X v) = ¬ X v ≤ b := propext (by rw [Int32.lt_iff_toInt_lt, Int32.le_iff_toInt_le]; omega)
    rw [f_X7_front_b29, hc.2.2.1, if_neg (nI_ge (by omega) (by omega)), uin_n (by omega) (by omega), ugd_t, ugd_t, nI_clamp (by omega), hc.2.2.2.2.1 v hv]
    simp (disch := omega) only [l1, l2, f_X7_front_b73, f_X7_front_b74, f_X7_front_b94, f_X7_front_b112, f_X7_front_b130, e_owner hc hv, ubi_mk, uin_n, ugd_t, nI_clamp, nI_1, hc.2.2.2.2.2 v hv]
    rcases (show y = 0 ∨ y = 1 by omega) with rfl | rfl
    · have z : (nI 0 = 0) = True := by decide
      by_cases q1 : a ≤ X v <;> by_cases q2 : X v ≤ b <;> by_cases q3 : sOwn X (m 24) v = -1 <;> simp [q1, q2, q3, z]
    · have z : (nI 1 = 0) = False := by decide
      by_cases q1 : a ≤ X v <;> by_cases q2 : X v ≤ b <;> by_cases q3 : sOwn X (m 24) v = -1 <;> simp [q1, q2, q3, z]
  · intro n p
    show f_X7_front_b29 (n + 1) m a b (nI y) p (nI V) = _
    rw [f_X7_front_b29, hc.2.2.1, if_pos (nI_le (Nat.le_refl _) (by omega))]
theorem r_fro {m : Um} {V T : Nat} {X W : Nat → Int32} (hc : rC m V T X W) (hR : vR T (cv (m 54))) (a b : Int32) {y : Nat} (hy : y ≤ 1) : f_X8_front_b60 UF m a b (nI y) 0 0 = some (m, (sums V (fun v => if (a ≤ X v ∧ X v ≤ b) ∧ (sOwn X (cv (m 54)) v = -1 ↔ y = 1) then W v else 0))) := by
  have hV := hc.1
  refine lp_run0 (fun n (p : Int32) v => f_X8_front_b60 n m a b (nI y) p (nI v)) V _ (fun p => some (m, p)) ?_ ?_ 0 (by show V < 3000; omega)
  · intro n p v hv
    show f_X8_front_b60 (n + 1) m a b (nI y) p (nI v) = f_X8_front_b60 n m a b (nI y) (p + if (a ≤ X v ∧ X v ≤ b) ∧ (sOwn X (cv (m 54)) v = -1 ↔ y = 1) then W v else 0) (nI (v + 1))
    rw [f_X8_front_b60, hc.2.2.1, if_neg (nI_ge (by omega) (by omega)), lit_mul, uin_n (by omega) (by omega), ugd_t, nI_clamp (by omega), hc.2.2.2.2.1 v hv, r_within, ubi_mk, ite_bi0]
    simp (disch := omega) only [f_X8_front_b121, f_X8_front_b122, f_X8_front_b103, r_owner hc hR hv, ubi_mk, lit_mul, uin_n, ugd_t, nI_clamp, nI_1, hc.2.2.2.2.2 v hv]
    rcases (show y = 0 ∨ y = 1 by omega) with rfl | rfl
    · have z : (1 = nI 0) = False := by decide
      have z1 : (0 = nI 0) = True := by decide
      by_cases q1 : a ≤ X v <;> by_cases q2 : X v ≤ b <;> by_cases q3 : sOwn X (cv (m 54)) v = -1 <;> simp [q1, q2, q3, z, z1]
    · have z : (1 = nI 1) = True := by decide
      have z1 : (0 = nI 1) = False := by decide
      by_cases q1 : a ≤ X v <;> by_cases q2 : X v ≤ b <;> by_cases q3 : sOwn X (cv (m 54)) v = -1 <;> simp [q1, q2, q3, z, z1]
  · intro n p
    show f_X8_front_b60 (n + 1) m a b (nI y) p (nI V) = _
    rw [f_X8_front_b60, hc.2.2.1, if_pos (nI_le (Nat.le_refl _) (by omega))]
theorem op_front : uop_front uI := by
  intro m a1 a2 a3 ⟨s, hc, hr, hv⟩
  have hT5 := vI_T hc
  have hV8 := vI_V hc
  by_cases h1 : 0 ≤ a1 ∧ a1 ≤ 99
  · skip
    by_cases h2 : 0 ≤ a2 ∧ a2 ≤ 99
    · skip
      by_cases h3 : 0 ≤ a3 ∧ a3 ≤ 1
      · skip
        refine Or.inl (wrapI (fr := fun M => f_X8_front M a1 a2 a3) hc hr hv ?_)
        obtain ⟨y, hy, rfl⟩ := lit_cases 1 (by omega) h3
        refine ⟨sums (qV s) (fun v => if (a1 ≤ qX s v ∧ qX s v ≤ a2) ∧ (sOwn (qX s) (qR s) v = -1 ↔ y = 1) then qW s v else 0), m, ?_, cK_rf hc, fun M hM => ?_⟩
        · simp (decide := true) (disch := omega) only [f_X7_front, e_need_t h1, e_need_t h2, e_need_t h3, ubx_l, ubi_mk, if_true, if_false, ugd_t, e_fro hc.1.1 a1 a2 hy, hc.2.1]
        · obtain ⟨m2, e, k, hR2, h0⟩ := r_take' (rI_K hM (z0_K M)) (z0_0 M)
          have hM0 := rI_K hM (z0_K M)
          have hm := rI_K hM0 k
          have hv2 : vR (qT s) (cv (m2 54)) := by rw [hR2]; exact hv.2.1.1
          refine ⟨m2, ?_, rK_tr (z0_K M) k, h0⟩
          show ubi (f_X8_within (z0 (M)) a1 0 99) _ = _
          simp (decide := true) (disch := omega) only [r_wit_t h1, r_wit_t h2, r_wit_t h3, ubi_mk, r_may_t (z0_0 _), if_true, if_false, ugd_t, f_X8_front_b40, f_X8_front_b39, e, r_fro hm.1.1 hv2 a1 a2 hy, hR2]
      · refine Or.inr ⟨tI m, tR (z0 (tI m)) 1 1, 0, ?_, ?_, tR_0, throwI hc hr hv 1⟩
        · simp only [f_X7_front, e_need_t h1, e_need_t h2, e_need_f h3, ubx_l, ubx_r]
        · have hm := rI_tI hr
          show ubi (f_X8_within (z0 (tI m)) a1 0 99) _ = _
          simp (decide := true) (disch := omega) only [r_wit_t h1, r_wit_t h2, r_wit_f h3, r_may_f1 (z0_0 _) i1_0, ubi_mk, if_true, if_false, f_X8_front_b40, f_X8_front_b39]
    · refine Or.inr ⟨tI m, tR (z0 (tI m)) 1 1, 0, ?_, ?_, tR_0, throwI hc hr hv 1⟩
      · simp only [f_X7_front, e_need_t h1, e_need_f h2, ubx_l, ubx_r]
      · have hm := rI_tI hr
        show ubi (f_X8_within (z0 (tI m)) a1 0 99) _ = _
        simp (decide := true) (disch := omega) only [r_wit_t h1, r_wit_f h2, r_may_f1 (z0_0 _) i1_0, ubi_mk, if_true, if_false, f_X8_front_b40, f_X8_front_b39]
  · refine Or.inr ⟨tI m, tR (z0 (tI m)) 1 1, 0, ?_, ?_, tR_0, throwI hc hr hv 1⟩
    · simp only [f_X7_front, e_need_f h1, ubx_l, ubx_r]
    · have hm := rI_tI hr
      show ubi (f_X8_within (z0 (tI m)) a1 0 99) _ = _
      simp (decide := true) (disch := omega) only [r_wit_f h1, r_may_f1 (z0_0 _) i1_0, ubi_mk, if_true, if_false, f_X8_front_b40, f_X8_front_b39]
