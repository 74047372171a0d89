/-! rows that can be stay so -/
theorem vR_upd {T : Nat} {R : Nat → Int32} (h : vR T R) {i : Nat} (x : Int32) (hi : i < 3 ∨ (23 ≤ i ∧ i < 23 + T ∧ i < 28) ∨ (3 ≤ i ∧ i < 3 + T ∧ i < 8)) : vR T (upd R i x) := by
  refine ⟨fun t h1 h2 => ?_, fun t h2 => ?_, fun j hj => ?_⟩
  · rw [upd_n (by omega), upd_n (by omega), upd_n (by omega), upd_n (by omega), upd_n (by omega)]
    exact h.1 t h1 h2
  · rw [upd_n (by omega), upd_n (by omega), upd_n (by omega)]
    exact h.2.1 t h2
  · rw [upd_n (by omega)]
    exact h.2.2 j hj
theorem vR_st {T : Nat} {R : Nat → Int32} (h : vR T R) {t : Nat} {x : Int32} (ht : t < T) (hT : T ≤ 5) (h0 : 0 ≤ x.toInt) (h1 : x.toInt ≤ 99) : vR T (upd R (8 + t) x) := by
  refine ⟨fun u h1 h2 => ?_, fun u h2 => ?_, fun j hj => ?_⟩
  · rw [upd_n (by omega), upd_n (by omega), upd_n (by omega), upd_n (by omega), upd_n (by omega)]
    exact h.1 u h1 h2
  · rw [upd_n (by omega), upd_n (by omega)]
    by_cases q : u = t
    · subst q
      rw [upd_s]
      exact ⟨(h.2.1 u h2).1, (h.2.1 u h2).2.1, h0, h1⟩
    · rw [upd_n (by omega)]
      exact h.2.1 u h2
  · rw [upd_n (by omega)]
    exact h.2.2 j hj
theorem vR_sz {T : Nat} {R : Nat → Int32} (h : vR T R) {t : Nat} {x : Int32} (ht : t < 5) (h0 : 0 ≤ x.toInt) (h1 : x.toInt ≤ 20) (hx : T ≤ t → x = 0) : vR T (upd R (13 + t) x) := by
  refine ⟨fun u q1 h2 => ?_, fun u h2 => ?_, fun j hj => ?_⟩
  · rw [upd_n (j := 3 + u) (by omega), upd_n (j := 8 + u) (by omega), upd_n (j := 18 + u) (by omega), upd_n (j := 23 + u) (by omega)]
    by_cases q : u = t
    · subst q
      rw [upd_s]
      exact ⟨(h.1 u q1 h2).1, (h.1 u q1 h2).2.1, hx q1, (h.1 u q1 h2).2.2.2⟩
    · rw [upd_n (by omega)]
      exact h.1 u q1 h2
  · rw [upd_n (j := 18 + u) (by omega), upd_n (j := 8 + u) (by omega)]
    by_cases q : u = t
    · subst q
      rw [upd_s]
      exact ⟨⟨h0, h1⟩, (h.2.1 u h2).2⟩
    · rw [upd_n (by omega)]
      exact h.2.1 u h2
  · rw [upd_n (by omega)]
    exact h.2.2 j hj
theorem vR_pl {T : Nat} {R : Nat → Int32} (h : vR T R) {t : Nat} {x : Int32} (ht : t < 5) (h0 : 0 ≤ x.toInt) (h1 : x.toInt ≤ 99) (hx : T ≤ t → x = 0) : vR T (upd R (18 + t) x) := by
  refine ⟨fun u q1 h2 => ?_, fun u h2 => ?_, fun j hj => ?_⟩
  · rw [upd_n (j := 3 + u) (by omega), upd_n (j := 8 + u) (by omega), upd_n (j := 13 + u) (by omega), upd_n (j := 23 + u) (by omega)]
    by_cases q : u = t
    · subst q
      rw [upd_s]
      exact ⟨(h.1 u q1 h2).1, (h.1 u q1 h2).2.1, (h.1 u q1 h2).2.2.1, hx q1, (h.1 u q1 h2).2.2.2.2⟩
    · rw [upd_n (by omega)]
      exact h.1 u q1 h2
  · rw [upd_n (j := 13 + u) (by omega), upd_n (j := 8 + u) (by omega)]
    by_cases q : u = t
    · subst q
      rw [upd_s]
      exact ⟨(h.2.1 u h2).1, ⟨h0, h1⟩, (h.2.1 u h2).2.2⟩
    · rw [upd_n (by omega)]
      exact h.2.1 u h2
  · rw [upd_n (by omega)]
    exact h.2.2 j hj
theorem vR_ag {T : Nat} {R : Nat → Int32} (h : vR T R) {t : Nat} {x : Int32} (ht : t < 5) (hx : T ≤ t → x = 0) : vR T (upd R (23 + t) x) := by
  refine ⟨fun u q1 h2 => ?_, fun u h2 => ?_, fun j hj => ?_⟩
  · rw [upd_n (j := 3 + u) (by omega), upd_n (j := 8 + u) (by omega), upd_n (j := 13 + u) (by omega), upd_n (j := 18 + u) (by omega)]
    by_cases q : u = t
    · subst q
      rw [upd_s]
      exact ⟨(h.1 u q1 h2).1, (h.1 u q1 h2).2.1, (h.1 u q1 h2).2.2.1, (h.1 u q1 h2).2.2.2.1, hx q1⟩
    · rw [upd_n (by omega)]
      exact h.1 u q1 h2
  · rw [upd_n (by omega), upd_n (by omega), upd_n (by omega)]
    exact h.2.1 u h2
  · rw [upd_n (by omega)]
    exact h.2.2 j hj
theorem vR_put {T : Nat} {R : Nat → Int32} (h : vR T R) {t : Nat} {a b c : Int32} (ht : t < 5) (ha : 0 ≤ a.toInt ∧ a.toInt ≤ 20) (hb : 0 ≤ b.toInt ∧ b.toInt ≤ 99) (hx : T ≤ t → a = 0 ∧ b = 0 ∧ c = 0) : vR T (putB R t a b c) := by
  unfold putB
  exact vR_ag (vR_pl (vR_sz h ht ha.1 ha.2 (fun q => (hx q).1)) ht hb.1 hb.2 (fun q => (hx q).2.1)) ht (fun q => (hx q).2.2)
theorem vR_burst1 {T : Nat} {R : Nat → Int32} (h : vR T R) {t : Nat} (ht : t < 5) : vR T (burst1 t R) := by
  unfold burst1
  exact vR_upd (vR_put h ht (by rw [i_0]; omega) (by rw [i_0]; omega) (fun _ => ⟨rfl, rfl, rfl⟩)) _ (by omega)
theorem vR_burst {T : Nat} {R : Nat → Int32} (h : vR T R) (p : Nat → Bool) : vR T (rBurst p R) :=
  lp_ind0 (f := buS p) (fun _ S => vR T S) 5 R h (fun j s hj hs => by
    unfold buS
    split
    · exact vR_burst1 hs hj
    · exact hs)
theorem vR_age {T : Nat} {R : Nat → Int32} (h : vR T R) : vR T (rAge R) :=
  lp_ind0 (f := agS) (fun _ S => vR T S) 5 R h (fun j s hj hs => by
    unfold agS
    by_cases q : sHas s j = true
    · rw [if_pos q]
      refine vR_ag hs hj (fun q1 => ?_)
      rw [vR_has hs q1 hj] at q
      cases q
    · rw [if_neg q]
      exact hs)
theorem vR_breathe {T : Nat} {R : Nat → Int32} (h : vR T R) (X W : Nat → Int32) (V : Nat) (A : Nat → Nat) (n : Nat) (z : Int32) : vR T (rBreathe X W V A n z R) := by
  unfold rBreathe
  exact vR_upd (vR_burst (vR_age h) _) _ (by omega)
theorem vR_drift {T : Nat} {R : Nat → Int32} (h : vR T R) (w : Int32) : vR T (rDrift w R) := by
  rw [← drift_eq]
  have := lp_ind0 (f := drS R w) (fun k S => vR T S ∧ ∀ u, k ≤ u → u < 5 → S (13 + u) = R (13 + u)) 5 R ⟨h, fun _ _ _ => rfl⟩ (fun j s hj hs => by
    refine ⟨?_, fun u hu hu5 => by rw [(drift_keep w (show j < u by omega) hu5).1]; exact hs.2 u (by omega) hu5⟩
    unfold drS
    by_cases q : sHas R j = true
    · rw [if_pos q]
      by_cases r : sOut s w j = true
      · rw [if_pos r]
        exact vR_burst1 hs.1 hj
      · rw [if_neg r]
        have hh : sHas s j = true := by rw [sHas_cong (hs.2 j (Nat.le_refl _) hj)]; exact q
        unfold sOut at r
        simp only [hh, Bool.true_and, Bool.or_eq_true, decide_eq_true_eq, Bool.not_eq_true', decide_eq_false_iff_not, not_or, Int32.not_lt, Decidable.not_not] at r
        rw [Int32.le_iff_toInt_le, Int32.le_iff_toInt_le, i_0, i_99] at r
        refine vR_pl hs.1 hj r.1 r.2 (fun q1 => ?_)
        rw [vR_has hs.1 q1 hj] at hh
        cases hh
    · rw [if_neg q]
      exact hs.1)
  exact this.1
theorem vR_blow {T : Nat} {R : Nat → Int32} (h : vR T R) {t : Nat} {k : Int32} (ht : t < T) (hT : T ≤ 5) (h0 : 0 ≤ k.toInt) (h1 : k.toInt ≤ 20) : vR T (rBlow R t k) := by
  unfold rBlow
  split
  · exact vR_put (vR_upd (vR_upd h _ (by omega)) _ (by omega)) (by omega) ⟨h0, h1⟩ (h.2.1 t (by omega)).2.2 (fun q => by omega)
  · exact h
theorem vR_sell {T : Nat} {R : Nat → Int32} (h : vR T R) {t u : Nat} {k : Int32} (ht : t < T) (hu : u < T) (hT : T ≤ 5) : vR T (rSell R t u k) := by
  unfold rSell
  split
  · refine vR_put (vR_put (vR_upd (vR_upd h _ (by omega)) _ (by omega)) (by omega) (h.2.1 t (by omega)).1 (h.2.1 t (by omega)).2.1 (fun q => by omega)) (by omega) (by rw [i_0]; omega) (by rw [i_0]; omega) (fun _ => ⟨rfl, rfl, rfl⟩)
  · exact h
/-! copies -/
theorem r_copies {m : Um} {a0 a1 n0 n1 n : Nat} (ha : a0 ≠ a1) (h0 : n ≤ n0) (h1 : n ≤ n1) (hn : n < 3000) : f_X8_copies a0 a1 n0 n1 m (nI n) = some (um_wa m a1 (fun j => if j < n then m a0 j else m a1 j), ()) := by
  have := lp_rel (fun q (s : Nat → Int32) k => f_X8_copies_b3 a0 a1 n0 n1 q (um_wa m a1 s) (nI n) (nI k)) n (fun k s => s = fun j => if j < k then m a0 j else m a1 j) (fun b => b = (um_wa m a1 (fun j => if j < n then m a0 j else m a1 j), ())) ?_ ?_ n 0 (m a1) UF (Nat.zero_add n) (by show n < 3000; omega) (by funext j; simp)
  · rw [um_wa_id] at this
    obtain ⟨b, e1, e2⟩ := this
    subst e2
    exact e1
  · intro q s k hk hP
    refine ⟨upd s k (m a0 k), ?_, ?_⟩
    · show f_X8_copies_b3 a0 a1 n0 n1 (q + 1) (um_wa m a1 s) (nI n) (nI k) = f_X8_copies_b3 a0 a1 n0 n1 q (um_wa m a1 (upd s k (m a0 k))) (nI n) (nI (k + 1))
      rw [f_X8_copies_b3, if_neg (nI_ge (by omega) (by omega)), uin_n (by omega) (by omega), uin_n (by omega) (by omega), ugd_t, ugd_t, nI_clamp (by omega), nI_1, um_w_def, um_wa_s, um_wa_wa, um_wa_n ha]
    · subst hP
      funext j
      unfold upd
      by_cases q1 : j = k
      · simp [q1]
      · simp only [q1, if_false]
        by_cases q2 : j < k
        · simp [q2, show j < k + 1 by omega]
        · simp [q2, show ¬ j < k + 1 by omega]
  · intro q s hP
    refine ⟨_, ?_, rfl⟩
    show f_X8_copies_b3 a0 a1 n0 n1 (q + 1) (um_wa m a1 s) (nI n) (nI n) = _
    rw [f_X8_copies_b3, if_pos (nI_le (Nat.le_refl _) (by omega)), hP]
theorem cv_cong {S S' : Nat → Int32} (h : ∀ j, j < 28 → S j = S' j) : cv S = cv S' := by
  funext i
  unfold cv
  by_cases h1 : i < 28
  · rw [if_pos h1, if_pos h1, h 27 (by omega), h 25 (by omega), h 26 (by omega), h (i - 3) (by omega)]
  · rw [if_neg h1, if_neg h1]
theorem r_take (m : Um) : ∃ S, f_X8_take m = some (um_wa m 54 S, ()) ∧ cv S = cv (m 53) := by
  refine ⟨fun j => if j < 28 then m 53 j else m 54 j, ?_, ?_⟩
  · unfold f_X8_take
    rw [show (28 : Int32) = nI 28 from rfl, r_copies (by omega) (by omega) (by omega) (by omega), ubi_mk]
  · exact cv_cong (fun j hj => if_pos hj)
theorem e_copyS' {m : Um} (h1 : ∀ i, 28 ≤ i → m 24 i = 0) (h2 : ∀ i, 28 ≤ i → m 26 i = 0) : f_X4_copyFrom m = some (um_wa m 26 (m 24), ()) := by
  rw [e_copyS]
  have : va_cpy (m 24) (m 26) 0 0 28 = m 24 := by
    funext i
    unfold va_cpy
    by_cases q : i < 28
    · rw [if_pos (by omega)]
      congr 1
      omega
    · rw [if_neg (by omega), h1 i (by omega), h2 i (by omega)]
  rw [this]
/-! the BREATH of a row -/
theorem rBurst_0 (p : Nat → Bool) (R : Nat → Int32) : rBurst p R 0 = R 0 := lp_ind0 (f := buS p) (fun _ S => S 0 = R 0) 5 R rfl (fun j S _ h => by
  unfold buS
  by_cases q : p j = true
  · rw [if_pos q]
    unfold burst1 putB
    rw [upd_n (by omega), upd_n (by omega), upd_n (by omega), upd_n (by omega)]
    exact h
  · rw [if_neg q]
    exact h)
theorem rAge_0 (R : Nat → Int32) : rAge R 0 = R 0 := lp_ind0 (f := agS) (fun _ S => S 0 = R 0) 5 R rfl (fun j S _ h => by
  unfold agS
  by_cases q : sHas S j = true
  · rw [if_pos q, upd_n (by omega)]
    exact h
  · rw [if_neg q]
    exact h)
theorem rMove_0 (w : Int32) (R : Nat → Int32) : rMove w R 0 = R 0 := lp_ind0 (f := mvS w) (fun _ S => S 0 = R 0) 5 R rfl (fun j S _ h => by
  unfold mvS
  by_cases q : sHas S j = true
  · rw [if_pos q, upd_n (by omega)]
    exact h
  · rw [if_neg q]
    exact h)
theorem rDrift_0 (w : Int32) (R : Nat → Int32) : rDrift w R 0 = R 0 := by
  unfold rDrift
  split
  · rfl
  · rw [rMove_0, rBurst_0]
theorem rBlow_0 (R : Nat → Int32) (t : Nat) (k : Int32) : rBlow R t k 0 = R 0 := by
  unfold rBlow putB
  split
  · rw [upd_n (by omega), upd_n (by omega), upd_n (by omega), upd_n (by omega), upd_n (by omega)]
  · rfl
theorem rSell_0 (R : Nat → Int32) (t u : Nat) (k : Int32) : rSell R t u k 0 = R 0 := by
  unfold rSell putB
  split
  · rw [upd_n (by omega), upd_n (by omega), upd_n (by omega), upd_n (by omega), upd_n (by omega), upd_n (by omega), upd_n (by omega), upd_n (by omega)]
  · rfl
theorem bre_0 (X W : Nat → Int32) (V : Nat) (A : Nat → Nat) (n : Nat) (z : Int32) (R : Nat → Int32) : rBreathe X W V A n z R 0 = R 0 + 1 := by
  unfold rBreathe
  rw [upd_s, rBurst_0, rAge_0]
theorem bre_le {X W : Nat → Int32} {V : Nat} {A : Nat → Nat} {n : Nat} {z : Int32} {R : Nat → Int32} {b : Int} (h : (R 0).toInt ≤ b) (hb : b < 2147483647) : (rBreathe X W V A n z R 0).toInt ≤ b + 1 := by
  have h1 := i_rng (R 0)
  rw [bre_0, i_add (by rw [i_1]; omega) (by rw [i_1]; omega), i_1]
  omega
theorem lt_end {x : Int32} {b : Int} (h : x.toInt ≤ b) (hb : b < 2147483647) : x < 2147483647 := by
  have e : (2147483647 : Int32).toInt = 2147483647 := by decide
  rw [Int32.lt_iff_toInt_lt, e]
  omega
