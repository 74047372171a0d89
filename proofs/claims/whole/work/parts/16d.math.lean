/-! WORK: what is done -/
abbrev Ps : Type := (Nat → Int32) × Nat × Nat × Nat
def stp1 (s : Ss) (g : Wq) (R : Nat → Int32) : (Nat → Int32) × Bool :=
  if g.1 = 0 then (rBlow R g.2.1 (nI g.2.2.1), sCan R g.2.1 (nI g.2.2.1))
  else if g.1 = 1 then (rDrift (nI g.2.1) R, !decide (bits 5 (sHas R) = 0))
  else if g.1 = 2 then (rDrift (-(nI g.2.1)) R, !decide (bits 5 (sHas R) = 0))
  else if g.1 = 3 then (if R (8 + g.2.1) = nI g.2.2.1 then R else upd R (8 + g.2.1) (nI g.2.2.1), !decide (R (8 + g.2.1) = nI g.2.2.1))
  else if g.1 = 4 then (rSell R g.2.1 g.2.2.1 (nI g.2.2.2), sSell R g.2.1 g.2.2.1 (nI g.2.2.2))
  else if g.1 = 5 then (if sKeep R g.2.1 = true then upd R (23 + g.2.1) 0 else R, sKeep R g.2.1)
  else if R 0 < 400 then (sBr s R, true) else (R, false)
theorem vR_stp {s : Ss} (hT : qT s ≤ 5) {g : Wq} (hg : okQ (qT s) g) (h7 : g.1 ≠ 7) {R : Nat → Int32} (h : vR (qT s) R) : vR (qT s) (stp1 s g R).1 := by
  obtain ⟨g0, g1, g2, g3, g4, g5, g6⟩ := hg
  unfold stp1
  by_cases k0 : g.1 = 0
  · rw [if_pos k0]
    have := g1 k0
    exact vR_blow h this.1 hT (by rw [nI_toInt (by omega)]; omega) (by rw [nI_toInt (by omega)]; omega)
  · rw [if_neg k0]
    by_cases k1 : g.1 = 1
    · rw [if_pos k1]
      exact vR_drift h _
    · rw [if_neg k1]
      by_cases k2 : g.1 = 2
      · rw [if_pos k2]
        exact vR_drift h _
      · rw [if_neg k2]
        by_cases k3 : g.1 = 3
        · rw [if_pos k3]
          have := g3 k3
          show vR (qT s) (if R (8 + g.2.1) = nI g.2.2.1 then R else upd R (8 + g.2.1) (nI g.2.2.1))
          by_cases hq : R (8 + g.2.1) = nI g.2.2.1
          · rw [if_pos hq]
            exact h
          · rw [if_neg hq]
            exact vR_st h this.1 hT (by rw [nI_toInt (by omega)]; omega) (by rw [nI_toInt (by omega)]; omega)
        · rw [if_neg k3]
          by_cases k4 : g.1 = 4
          · rw [if_pos k4]
            have := g4 k4
            exact vR_sell h this.1 this.2.1 hT
          · rw [if_neg k4]
            by_cases k5 : g.1 = 5
            · rw [if_pos k5]
              have := g5 k5
              show vR (qT s) (if sKeep R g.2.1 = true then upd R (23 + g.2.1) 0 else R)
              by_cases hq : sKeep R g.2.1 = true
              · rw [if_pos hq]
                exact vR_ag h (by omega) (fun _ => rfl)
              · rw [if_neg hq]
                exact h
            · rw [if_neg k5]
              by_cases hq : R 0 < 400
              · rw [if_pos hq]
                exact vR_breathe h _ _ _ _ _ _
              · rw [if_neg hq]
                exact h
theorem stp_0 {s : Ss} {g : Wq} {R : Nat → Int32} (h : (R 0).toInt ≤ 400) : ((stp1 s g R).1 0).toInt ≤ 400 := by
  unfold stp1
  by_cases k0 : g.1 = 0
  · rw [if_pos k0]
    show (rBlow R g.2.1 (nI g.2.2.1) 0).toInt ≤ 400
    rw [rBlow_0]
    exact h
  · rw [if_neg k0]
    by_cases k1 : g.1 = 1
    · rw [if_pos k1]
      show (rDrift (nI g.2.1) R 0).toInt ≤ 400
      rw [rDrift_0]
      exact h
    · rw [if_neg k1]
      by_cases k2 : g.1 = 2
      · rw [if_pos k2]
        show (rDrift (-(nI g.2.1)) R 0).toInt ≤ 400
        rw [rDrift_0]
        exact h
      · rw [if_neg k2]
        by_cases k3 : g.1 = 3
        · rw [if_pos k3]
          show ((if R (8 + g.2.1) = nI g.2.2.1 then R else upd R (8 + g.2.1) (nI g.2.2.1)) 0).toInt ≤ 400
          by_cases hq : R (8 + g.2.1) = nI g.2.2.1
          · rw [if_pos hq]
            exact h
          · rw [if_neg hq, upd_n (by omega)]
            exact h
        · rw [if_neg k3]
          by_cases k4 : g.1 = 4
          · rw [if_pos k4]
            show (rSell R g.2.1 g.2.2.1 (nI g.2.2.2) 0).toInt ≤ 400
            rw [rSell_0]
            exact h
          · rw [if_neg k4]
            by_cases k5 : g.1 = 5
            · rw [if_pos k5]
              show ((if sKeep R g.2.1 = true then upd R (23 + g.2.1) 0 else R) 0).toInt ≤ 400
              by_cases hq : sKeep R g.2.1 = true
              · rw [if_pos hq, upd_n (by omega)]
                exact h
              · rw [if_neg hq]
                exact h
            · rw [if_neg k5]
              by_cases hq : R 0 < 400
              · rw [if_pos hq]
                have e : (400 : Int32).toInt = 400 := by decide
                have h1 := hq
                rw [Int32.lt_iff_toInt_lt, e] at h1
                exact bre_le (b := 399) (by omega) (by omega)
              · rw [if_neg hq]
                exact h
theorem vQ_stp {s : Ss} (hT : qT s ≤ 5) {g : Wq} (hg : okQ (qT s) g) (h7 : g.1 ≠ 7) {R : Nat → Int32} (h : vQ (qT s) R) : vQ (qT s) (stp1 s g R).1 := ⟨vR_stp hT hg h7 h.1, stp_0 h.2⟩
section DONE
variable {m : Um} {s : Ss}
theorem e_done {i : Nat} {g : Wq} (hi : i < 25) (hT : qT s ≤ 5) (hx : cX m (qV s) (qT s) (qX s) (qW s) (qn s) (qA s) (qz s)) (hw : wX (m 22) 1 g i) (hg : okQ (qT s) g) (h7 : g.1 ≠ 7) : ∃ m2, f_X6_isDone m (nI (4 * i)) = some (m2, bi (stp1 s g (m 24)).2) ∧ m2 24 = (stp1 s g (m 24)).1 ∧ ∀ c, c ≠ 16 → c ≠ 17 → c ≠ 24 → m2 c = m c := by
  obtain ⟨g0, g1, g2, g3, g4, g5, g6⟩ := hg
  obtain ⟨w0, w1, w2, w3, w4⟩ := hw
  have e1 : nI (4 * i) + 1 = nI (4 * i + 1) := nI_1 _
  have e2 : nI (4 * i) + 2 = nI (4 * i + 2) := nI_add _ 2
  have e3 : nI (4 * i) + 3 = nI (4 * i + 3) := nI_add _ 3
  have kk : ∀ k : Nat, k < 8 → (nI g.1 = nI k) = (g.1 = k) := fun k hk => nI_eq' (by omega) (by omega)
  have kk0 : (nI g.1 = 0) = (g.1 = 0) := kk 0 (by omega)
  have kk1 : (nI g.1 = 1) = (g.1 = 1) := kk 1 (by omega)
  have kk2 : (nI g.1 = 2) = (g.1 = 2) := kk 2 (by omega)
  have kk3 : (nI g.1 = 3) = (g.1 = 3) := kk 3 (by omega)
  have kk4 : (nI g.1 = 4) = (g.1 = 4) := kk 4 (by omega)
  have kk5 : (nI g.1 = 5) = (g.1 = 5) := kk 5 (by omega)
  unfold f_X6_isDone stp1
  rw [e1, e2, e3, uin_n (show 4 * i + 1 < 100 by omega) (by omega), ugd_t, uin_n (show 4 * i + 2 < 100 by omega) (by omega), ugd_t, uin_n (show 4 * i < 100 by omega) (by omega), ugd_t, uin_n (show 4 * i + 3 < 100 by omega) (by omega), ugd_t, nI_clamp (show 4 * i < 2 ^ 31 by omega), nI_clamp (show 4 * i + 1 < 2 ^ 31 by omega), nI_clamp (show 4 * i + 2 < 2 ^ 31 by omega), nI_clamp (show 4 * i + 3 < 2 ^ 31 by omega), w0, ite_p kk0, ite_p kk1, ite_p kk2, ite_p kk3, ite_p kk4, ite_p kk5]
  by_cases k0 : g.1 = 0
  · have := g1 k0
    rw [if_pos k0, if_pos k0, w1 (by omega), w2 (Or.inl k0), e_blow (by omega), ubi_mk, ub01_bi, ugd_t]
    exact ⟨_, rfl, um_wa_s _ _ _, fun c _ _ h => um_wa_n h⟩
  · rw [if_neg k0, if_neg k0]
    by_cases k1 : g.1 = 1
    · rw [if_pos k1, if_pos k1, w1 (by omega), e_drift, ubi_mk, ub01_bi, ugd_t]
      exact ⟨_, rfl, um_wa_s _ _ _, fun c _ _ h => um_wa_n h⟩
    · rw [if_neg k1, if_neg k1]
      by_cases k2 : g.1 = 2
      · rw [if_pos k2, if_pos k2, w1 (by omega), e_drift, ubi_mk, ub01_bi, ugd_t]
        exact ⟨_, rfl, um_wa_s _ _ _, fun c _ _ h => um_wa_n h⟩
      · rw [if_neg k2, if_neg k2]
        by_cases k3 : g.1 = 3
        · have := g3 k3
          rw [if_pos k3, if_pos k3, w1 (by omega), w2 (Or.inr (Or.inl k3)), e_run (by omega), ubi_mk, ub01_bi, ugd_t]
          exact ⟨_, rfl, um_wa_s _ _ _, fun c _ _ h => um_wa_n h⟩
        · rw [if_neg k3, if_neg k3]
          by_cases k4 : g.1 = 4
          · have := g4 k4
            rw [if_pos k4, if_pos k4, w1 (by omega), w2 (Or.inr (Or.inr k4)), w4 k4, e_sell (by omega) (by omega), ubi_mk, ub01_bi, ugd_t]
            exact ⟨_, rfl, um_wa_s _ _ _, fun c _ _ h => um_wa_n h⟩
          · rw [if_neg k4, if_neg k4]
            by_cases k5 : g.1 = 5
            · have := g5 k5
              rw [if_pos k5, if_pos k5, w1 (by omega), e_keep (by omega), ubi_mk, ub01_bi, ugd_t]
              exact ⟨_, rfl, um_wa_s _ _ _, fun c _ _ h => um_wa_n h⟩
            · rw [if_neg k5, if_neg k5]
              by_cases hq : m 24 0 < 400
              · obtain ⟨m2, b1, b2, b3⟩ := e_breathe (o := 23) (m := m) (x := 400) (Or.inl rfl) hx hq
                rw [if_pos hq, b1, ubi_mk, ub01_1, ugd_t]
                exact ⟨m2, rfl, b2, b3⟩
              · have b1 : f_X4_breathe 23 m 400 = some (m, 0) := by
                  unfold f_X4_breathe
                  rw [if_neg (show ¬ m (23 + 1) 0 < 400 from hq)]
                rw [if_neg hq, b1, ubi_mk, ub01_0, ugd_t]
                exact ⟨m, rfl, rfl, fun _ _ _ _ => rfl⟩
theorem r_done {g : Wq} {x y z : Int32} (hT : qT s ≤ 5) (hr : rX m (qV s) (qT s) (qX s) (qW s) (qn s) (qA s) (qz s)) (hR : vR (qT s) (cv (m 54))) (w1 : g.1 ≠ 6 → x = nI g.2.1) (w2 : g.1 = 0 ∨ g.1 = 3 ∨ g.1 = 4 → y = nI g.2.2.1) (w4 : g.1 = 4 → z = nI g.2.2.2) (hg : okQ (qT s) g) (h7 : g.1 ≠ 7) : ∃ m2, f_X8_isDone m (nI g.1) x y z = some (m2, bi (stp1 s g (cv (m 54))).2) ∧ cv (m2 54) = (stp1 s g (cv (m 54))).1 ∧ ∀ c, c ≠ 49 → c ≠ 50 → c ≠ 54 → m2 c = m c := by
  obtain ⟨g0, g1, g2, g3, g4, g5, g6⟩ := hg
  have kk : ∀ k : Nat, k < 8 → (nI g.1 = nI k) = (g.1 = k) := fun k hk => nI_eq' (by omega) (by omega)
  have kk0 : (nI g.1 = 0) = (g.1 = 0) := kk 0 (by omega)
  have kk1 : (nI g.1 = 1) = (g.1 = 1) := kk 1 (by omega)
  have kk2 : (nI g.1 = 2) = (g.1 = 2) := kk 2 (by omega)
  have kk3 : (nI g.1 = 3) = (g.1 = 3) := kk 3 (by omega)
  have kk4 : (nI g.1 = 4) = (g.1 = 4) := kk 4 (by omega)
  have kk5 : (nI g.1 = 5) = (g.1 = 5) := kk 5 (by omega)
  unfold f_X8_isDone f_X8_isDone_b21 f_X8_isDone_b33 stp1
  simp only [kk0, kk1, kk2, kk3, kk4, kk5]
  by_cases k0 : g.1 = 0
  · have := g1 k0
    obtain ⟨S, s1, s2⟩ := r_blown (m := m) (t := g.2.1) (by omega) (nI g.2.2.1)
    rw [if_pos k0, if_pos k0, w1 (by omega), w2 (Or.inl k0), s1, ubi_mk, ub01_bi, ugd_t]
    exact ⟨_, rfl, by rw [um_wa_s]; exact s2, fun c _ _ h => um_wa_n h⟩
  · simp only [if_neg k0]
    by_cases k1 : g.1 = 1
    · obtain ⟨S, s1, s2⟩ := r_driven (m := m) hr.1 hR (nI g.2.1)
      rw [if_pos k1, if_pos k1, if_pos k1, w1 (by omega), s1, ubi_mk, ub01_bi, ugd_t]
      exact ⟨_, rfl, by rw [um_wa_s]; exact s2, fun c _ _ h => um_wa_n h⟩
    · simp only [if_neg k1]
      by_cases k2 : g.1 = 2
      · obtain ⟨S, s1, s2⟩ := r_driven (m := m) hr.1 hR (-(nI g.2.1))
        rw [if_pos k2, if_pos k2, w1 (by omega), s1, ubi_mk, ub01_bi, ugd_t]
        exact ⟨_, rfl, by rw [um_wa_s]; exact s2, fun c _ _ h => um_wa_n h⟩
      · simp only [if_neg k2]
        by_cases k4 : g.1 = 4
        · have := g4 k4
          obtain ⟨S, s1, s2⟩ := r_sold (m := m) hR (t := g.2.1) (u := g.2.2.1) (by omega) (by omega) (nI g.2.2.2)
          rw [if_pos k4, if_neg (show ¬ g.1 = 3 by omega), if_pos k4, w1 (by omega), w2 (Or.inr (Or.inr k4)), w4 k4, s1, ubi_mk, ub01_bi, ugd_t]
          exact ⟨_, rfl, by rw [um_wa_s]; exact s2, fun c _ _ h => um_wa_n h⟩
        · simp only [if_neg k4]
          by_cases k3 : g.1 = 3
          · have := g3 k3
            rw [if_pos k3, if_pos k3, w1 (by omega), w2 (Or.inr (Or.inl k3)), lit_add, uin_n (by show 5 + g.2.1 < 28; omega) (by show 5 + g.2.1 < 2 ^ 31; omega), ugd_t, ugd_t, nI_clamp (by show 5 + g.2.1 < 2 ^ 31; omega), show m 54 (OfNat.ofNat 5 + g.2.1) = cv (m 54) (8 + g.2.1) from c_st m (by omega)]
            by_cases hq : cv (m 54) (8 + g.2.1) = nI g.2.2.1
            · rw [if_pos hq, if_pos hq]
              exact ⟨m, by simp [hq, bi], rfl, fun _ _ _ _ => rfl⟩
            · rw [if_neg hq, if_neg hq]
              refine ⟨um_w m 54 (5 + g.2.1) (nI g.2.2.1), by simp [hq, bi], ?_, fun c _ _ h => um_w_c h⟩
              rw [um_w_def, um_wa_s, cv_upd _ _ (by omega), show 5 + g.2.1 + 3 = 8 + g.2.1 by omega]
          · simp only [if_neg k3]
            by_cases k5 : g.1 = 5
            · have := g5 k5
              rw [if_pos k5, if_pos k5, w1 (by omega), r_keep (by omega), ubi_mk, ite_bi0, lit_add, uin_n (by show 20 + g.2.1 < 28; omega) (by show 20 + g.2.1 < 2 ^ 31; omega), ugd_t, nI_clamp (by show 20 + g.2.1 < 2 ^ 31; omega)]
              by_cases hq : sKeep (cv (m 54)) g.2.1 = true
              · rw [if_pos hq, if_pos hq]
                refine ⟨um_w m 54 (20 + g.2.1) 0, by rw [hq]; rfl, ?_, fun c _ _ h => um_w_c h⟩
                rw [um_w_def, um_wa_s, cv_upd _ _ (by omega), show 20 + g.2.1 + 3 = 23 + g.2.1 by omega]
              · rw [if_neg hq, if_neg hq]
                exact ⟨m, by rw [Bool.eq_false_iff.mpr hq]; rfl, rfl, fun _ _ _ _ => rfl⟩
            · simp only [if_neg k5]
              rw [show m 54 27 = cv (m 54) 0 from rfl]
              obtain ⟨m2, b1, b2, b3⟩ := r_passes hr hR (vR_age hR)
              rw [b1, ubi_mk]
              by_cases hq : cv (m 54) 0 < 400
              · rw [if_pos hq, if_pos hq]
                exact ⟨m2, rfl, b2, b3⟩
              · rw [if_neg hq, if_neg hq]
                exact ⟨m, rfl, rfl, fun _ _ _ _ => rfl⟩
end DONE
/-! runs of steps -/
def step1 (s : Ss) (g : Wq) (st : Ps) : Ps := ((stp1 s g st.1).1, st.2.1 + 1, if (stp1 s g st.1).2 = true then (st.2.2.1 + 1, st.2.2.2) else (st.2.2.1, st.2.2.2 + 1))
def itr (body : Ps → Ps) : Nat → Ps → Ps
  | 0, st => st
  | n + 1, st => itr body n (body st)
def rlF (s : Ss) (G : Nat → Wq) (rec : Nat → Nat → Ps → Ps) : Nat → Nat → Nat → Ps → Ps
  | 0, _, _, st => st
  | f + 1, i, t, st => if t ≤ i ∨ 200 ≤ st.2.1 then st else if (G i).1 = 7 then rlF s G rec f (G i).2.2.1 t (itr (rec (i + 1) (G i).2.2.1) (G i).2.1 (st.1, st.2.1 + 1, st.2.2)) else rlF s G rec f (i + 1) t (step1 s (G i) st)
def rnF (s : Ss) (G : Nat → Wq) : Nat → Nat → Nat → Ps → Ps
  | 0, _, _, st => st
  | d + 1, f, t, st => rlF s G (rnF s G d) 30 f t st
theorem rn_full {s : Ss} {G : Nat → Wq} : ∀ (d f t : Nat) (st : Ps), 200 ≤ st.2.1 → rnF s G d f t st = st
  | 0, _, _, _, _ => rfl
  | d + 1, f, t, st, h => by rw [rnF, rlF, if_pos (Or.inr h)]
theorem itr_full {s : Ss} {G : Nat → Wq} {d f t : Nat} : ∀ (k : Nat) (st : Ps), 200 ≤ st.2.1 → itr (rnF s G d f t) k st = st
  | 0, _, _ => rfl
  | k + 1, st, h => by rw [itr, rn_full d f t st h, itr_full k st h]
/-- a state that can be -/
def okP (s : Ss) (st : Ps) : Prop := vQ (qT s) st.1 ∧ st.2.1 ≤ 200
theorem wfW_sub {G : Nat → Wq} : ∀ {d f f' t : Nat}, f ≤ f' → wfW G d f t → wfW G d f' t
  | 0, f, f', t, h, hw => fun i a b => hw i (by omega) b
  | d + 1, f, f', t, h, hw => fun i a b => hw i (by omega) b
section RUN
variable {s : Ss} {G : Nat → Wq} {n : Nat}
theorem itr_ok {body : Ps → Ps} (hb : ∀ st, okP s st → okP s (body st)) : ∀ (k : Nat) (st : Ps), okP s st → okP s (itr body k st)
  | 0, _, h => h
  | k + 1, st, h => itr_ok hb k (body st) (hb st h)
theorem rl_ok (hT : qT s ≤ 5) (hG : ∀ i, i < n → okQ (qT s) (G i)) {rec : Nat → Nat → Ps → Ps} {d : Nat} (hrec : ∀ d', d = d' + 1 → ∀ f t st, t ≤ n → wfW G d' f t → okP s st → okP s (rec f t st)) : ∀ (k i t : Nat) (st : Ps), t ≤ n → wfW G d i t → okP s st → okP s (rlF s G rec k i t st)
  | 0, _, _, _, _, _, h => h
  | k + 1, i, t, st, htn, hw, h => by
    rw [rlF]
    by_cases h1 : t ≤ i ∨ 200 ≤ st.2.1
    · rw [if_pos h1]
      exact h
    · rw [if_neg h1]
      by_cases h7 : (G i).1 = 7
      · rw [if_pos h7]
        cases d with
        | zero => exact absurd h7 (hw i (Nat.le_refl _) (by omega))
        | succ d =>
          have he := hw i (Nat.le_refl _) (by omega) h7
          exact rl_ok hT hG hrec k _ t _ htn (wfW_sub (by omega) hw) (itr_ok (fun st hs => hrec d rfl _ _ st (by omega) he.2.2 hs) _ _ ⟨h.1, by show st.2.1 + 1 ≤ 200; omega⟩)
      · rw [if_neg h7]
        exact rl_ok hT hG hrec k _ t _ htn (wfW_sub (by omega) hw) ⟨vQ_stp hT (hG i (by omega)) h7 h.1, by show st.2.1 + 1 ≤ 200; omega⟩
theorem rn_ok (hT : qT s ≤ 5) (hG : ∀ i, i < n → okQ (qT s) (G i)) : ∀ (d w f t : Nat) (st : Ps), t ≤ n → wfW G w f t → okP s st → okP s (rnF s G d f t st)
  | 0, _, _, _, _, _, _, h => h
  | d + 1, w, f, t, st, htn, hw, h => by
    rw [rnF]
    exact rl_ok hT hG (fun d' _ f t st h1 h2 h3 => rn_ok hT hG d d' f t st h1 h2 h3) 30 f t st htn hw h
/-- the class -/
def cP (m m1 : Um) (n : Nat) (st : Ps) : Prop := (∀ c, c ≠ 16 → c ≠ 17 → c ≠ 21 → c ≠ 24 → m1 c = m c) ∧ m1 24 = st.1 ∧ m1 21 1 = nI n ∧ m1 21 2 = nI st.2.1 ∧ m1 21 3 = nI st.2.2.1 ∧ m1 21 4 = nI st.2.2.2
def rP (m m1 : Um) (st : Ps) : Prop := (∀ c, c ≠ 38 → c ≠ 49 → c ≠ 50 → c ≠ 54 → m1 c = m c) ∧ (∀ j, j ≠ 33 → j ≠ 34 → j ≠ 35 → m1 38 j = m 38 j) ∧ cv (m1 54) = st.1 ∧ m1 38 33 = nI st.2.1 ∧ m1 38 34 = nI st.2.2.1 ∧ m1 38 35 = nI st.2.2.2
theorem e_times {m : Um} {rec : Um → Int32 → Int32 → Int32 → Option (Um × Unit)} {k3 : Um → Int32 → Int32 → Int32 → Option (Um × Unit)} {body : Ps → Ps} {i t o e a : Nat} (hi : i < 25) (he : i < e) (he2 : e ≤ 25) (ho : o < 6) (ha : a ≤ 30) (h22 : m 22 (4 * i + 1) = nI a) (hb : ∀ m1 st, cP m m1 n st → okP s st → ∃ m2, rec m1 (nI (i + 1)) (nI e) (nI (o + 1)) = some (m2, ()) ∧ cP m m2 n (body st)) (hok : ∀ st, okP s st → okP s (body st)) : ∀ (r q fuel : Nat) (m1 : Um) (st : Ps), q + r = a → r < fuel → cP m m1 n st → okP s st → ∃ m2, f_X6_performFrom_b73 rec k3 fuel m1 (nI t) (nI o) (nI i) (nI e) (nI q) = k3 m2 (nI t) (nI o) (nI e) ∧ cP m m2 n (itr body r st)
  | r, q, 0, m1, st, _, hf, _, _ => absurd hf (Nat.not_lt_zero _)
  | r, q, fuel + 1, m1, st, hq, hf, h, hp => by
    have e1 : nI i * 4 + 1 = nI (4 * i + 1) := by rw [show nI i * 4 = nI (i * 4) from nI_mul i 4, Nat.mul_comm, nI_1]
    have h1 : m1 22 (4 * i + 1) = nI a := by rw [h.1 22 (by omega) (by omega) (by omega) (by omega)]; exact h22
    rw [f_X6_performFrom_b73, e1, uin_n (by omega) (by omega), ugd_t, nI_clamp (by omega), h1]
    cases r with
    | zero =>
      refine ⟨m1, ?_, h⟩
      rw [if_pos (nI_le (by omega) (by omega))]
      unfold f_X6_performFrom_b117 f_X6_performFrom_b161
      rw [nI_dec (by omega), nI_1, show e - 1 + 1 = e by omega]
    | succ r =>
      obtain ⟨m2, g1, g2⟩ := hb m1 st h hp
      rw [if_neg (nI_ge (by omega) (by omega)), if_neg (show ¬ 6 ≤ nI o from nle_lit (k := 6) (by show o < 6; omega) (by decide)), nI_1, nI_1, g1, ubi_mk, nI_1]
      exact e_times hi he he2 ho ha h22 hb hok r (q + 1) fuel m2 (body st) (by omega) (by omega) g2 (hok st hp)
theorem e_runL {m : Um} {rec : Um → Int32 → Int32 → Int32 → Option (Um × Unit)} {recS : Nat → Nat → Ps → Ps} {o t : Nat} (hn : n ≤ 25) (hT : qT s ≤ 5) (ho : o ≤ 6) (htn : t ≤ n) (hx : cX m (qV s) (qT s) (qX s) (qW s) (qn s) (qA s) (qz s)) (hG : ∀ i, i < n → okQ (qT s) (G i)) (hX : ∀ i, i < n → wX (m 22) 1 (G i) i) (hrec : o < 6 → ∀ f e m1 st, f ≤ 25 → e ≤ n → wfW G (6 - (o + 1)) f e → cP m m1 n st → okP s st → ∃ m2, rec m1 (nI f) (nI e) (nI (o + 1)) = some (m2, ()) ∧ cP m m2 n (recS f e st)) (hok : o < 6 → ∀ f t st, t ≤ n → wfW G (6 - (o + 1)) f t → okP s st → okP s (recS f t st)) : ∀ (k i fuel : Nat) (m1 : Um) (st : Ps), t - i < k → t - i < fuel → i ≤ 25 → wfW G (6 - o) i t → cP m m1 n st → okP s st → ∃ m2, f_X6_performFrom_b3 rec fuel m1 (nI t) (nI o) (nI i) = some (m2, ()) ∧ cP m m2 n (rlF s G recS k i t st)
  | 0, _, _, _, _, hk, _, _, _, _, _ => absurd hk (Nat.not_lt_zero _)
  | _, _, 0, _, _, _, hf, _, _, _, _ => absurd hf (Nat.not_lt_zero _)
  | k + 1, i, fuel + 1, m1, st, hk, hf, hi25, hw, h, hp => by
    have e4 : nI i * 4 = nI (4 * i) := by rw [show nI i * 4 = nI (i * 4) from nI_mul i 4, Nat.mul_comm]
    have e2 : nI (4 * i) + 2 = nI (4 * i + 2) := nI_add _ 2
    have hb200 := hp.2
    rw [f_X6_performFrom_b3, rlF, e4, h.2.2.2.1]
    unfold f_X6_performFrom_b167
    by_cases c1 : t ≤ i
    · rw [if_pos (nI_le c1 (by omega)), if_pos (Or.inl c1)]
      exact ⟨m1, rfl, h⟩
    · rw [if_neg (nI_ge (by omega) (by omega))]
      by_cases c2 : 200 ≤ st.2.1
      · rw [if_pos (lit_leq (k := 200) c2 (by omega)), if_pos (Or.inr c2)]
        exact ⟨m1, rfl, h⟩
      · rw [if_neg (nle_lit (k := 200) (by show st.2.1 < 200; omega) (by decide)), if_neg (show ¬ (t ≤ i ∨ 200 ≤ st.2.1) by omega), nI_1]
        have hXi := hX i (by omega)
        have h1 : cP m (um_w m1 21 2 (nI (st.2.1 + 1))) n (st.1, st.2.1 + 1, st.2.2) := ⟨fun c a b d e => by rw [um_w_c d, h.1 c a b d e], by rw [um_w_c (by omega)]; exact h.2.1, by rw [um_w_k (by omega)]; exact h.2.2.1, um_w_s _ _ _ _, by rw [um_w_k (by omega)]; exact h.2.2.2.2.1, by rw [um_w_k (by omega)]; exact h.2.2.2.2.2⟩
        generalize hm2 : um_w m1 21 2 (nI (st.2.1 + 1)) = m2 at h1
        have h22 : m2 22 = m 22 := h1.1 22 (by omega) (by omega) (by omega) (by omega)
        rw [uin_n (show 4 * i < 100 by omega) (by omega), ugd_t, nI_clamp (by omega), h22, hXi.1, ite_p (show (nI (G i).1 = 7) = ((G i).1 = 7) from nI_eq' (b := 7) (by have := (hG i (by omega)).1; omega) (by omega))]
        by_cases h7 : (G i).1 = 7
        · have ho6 : o < 6 := by
            by_cases q : o < 6
            · exact q
            · have e0 : 6 - o = 0 := by omega
              rw [e0] at hw
              exact absurd h7 (hw i (Nat.le_refl _) (by omega))
          have hd : 6 - o = (6 - (o + 1)) + 1 := by omega
          have hwi : i < (G i).2.2.1 ∧ (G i).2.2.1 ≤ t ∧ wfW G (6 - (o + 1)) (i + 1) (G i).2.2.1 := by
            rw [hd] at hw
            exact hw i (Nat.le_refl _) (by omega) h7
          have hend : ummax (nI i + 1) (ummin (nI n) (nI (1 * (G i).2.2.1))) = nI (G i).2.2.1 := by
            rw [nI_1, Nat.one_mul, mn_n (by omega) (by omega), mxn (by omega) (by omega), show max (i + 1) (min n (G i).2.2.1) = (G i).2.2.1 by omega]
          have h30 := (hG i (by omega)).2.2.2.2.2.2 h7
          rw [if_pos h7, if_pos h7, e2, uin_n (show 4 * i + 2 < 100 by omega) (by omega), ugd_t, nI_clamp (by omega), h1.2.2.1, hXi.2.2.2.1 h7, hend]
          obtain ⟨m3, g1, g2⟩ := e_times (s := s) (k3 := f_X6_performFrom_b3 rec fuel) (t := t) (o := o) (body := recS (i + 1) (G i).2.2.1) (m := m) (rec := rec) (by omega) hwi.1 (by omega) ho6 h30 (hXi.2.1 (by omega)) (fun m1 st hc hs => hrec ho6 (i + 1) _ m1 st (by omega) (by omega) hwi.2.2 hc hs) (fun st hs => hok ho6 _ _ st (by omega) hwi.2.2 hs) (G i).2.1 0 UF m2 (st.1, st.2.1 + 1, st.2.2) (by omega) (by show (G i).2.1 < 3000; omega) h1 ⟨hp.1, by show st.2.1 + 1 ≤ 200; omega⟩
          rw [show (0 : Int32) = nI 0 from rfl, g1]
          exact e_runL hn hT ho htn hx hG hX hrec hok k _ fuel m3 _ (by omega) (by omega) (by omega) (wfW_sub (by omega) hw) g2 (itr_ok (fun st hs => hok ho6 _ _ st (by omega) hwi.2.2 hs) _ _ ⟨hp.1, by show st.2.1 + 1 ≤ 200; omega⟩)
        · have hx2 : cX m2 (qV s) (qT s) (qX s) (qW s) (qn s) (qA s) (qz s) := cX_of hx (fun c hc => h1.1 c (by omega) (by omega) (by omega) (by omega))
          obtain ⟨m3, g1, g2, g3⟩ := e_done (m := m2) (i := i) (g := G i) (by omega) hT hx2 (by rw [h22]; exact hXi) (hG i (by omega)) h7
          rw [h1.2.1] at g1 g2
          rw [if_neg h7, if_neg h7, g1, ubi_mk, ite_bi0]
          unfold f_X6_performFrom_b161
          rw [nI_1]
          have h33 : m3 21 = m2 21 := g3 21 (by omega) (by omega) (by omega)
          have nxt : ∀ m4, cP m m4 n (step1 s (G i) st) → ∃ m5, f_X6_performFrom_b3 rec fuel m4 (nI t) (nI o) (nI (i + 1)) = some (m5, ()) ∧ cP m m5 n (rlF s G recS k (i + 1) t (step1 s (G i) st)) := fun m4 h4 => e_runL hn hT ho htn hx hG hX hrec hok k (i + 1) fuel m4 _ (by omega) (by omega) (by omega) (wfW_sub (by omega) hw) h4 ⟨vQ_stp hT (hG i (by omega)) h7 hp.1, by show st.2.1 + 1 ≤ 200; omega⟩
          by_cases hq : (stp1 s (G i) st.1).2 = true
          · rw [if_pos (show (stp1 s (G i) (st.1, st.2.1 + 1, st.2.2).1).2 = true from hq)]
            refine nxt _ ?_
            unfold step1
            rw [if_pos hq]
            refine ⟨fun c a b d e => by rw [um_w_c d, g3 c a b e, h1.1 c a b d e], by rw [um_w_c (by omega)]; exact g2, by rw [um_w_k (by omega), h33]; exact h1.2.2.1, by rw [um_w_k (by omega), h33]; exact h1.2.2.2.1, by rw [um_w_s, h33, h1.2.2.2.2.1, nI_1], by rw [um_w_k (by omega), h33]; exact h1.2.2.2.2.2⟩
          · rw [if_neg (show ¬ (stp1 s (G i) (st.1, st.2.1 + 1, st.2.2).1).2 = true from hq)]
            refine nxt _ ?_
            unfold step1
            rw [if_neg hq]
            refine ⟨fun c a b d e => by rw [um_w_c d, g3 c a b e, h1.1 c a b d e], by rw [um_w_c (by omega)]; exact g2, by rw [um_w_k (by omega), h33]; exact h1.2.2.1, by rw [um_w_k (by omega), h33]; exact h1.2.2.2.1, by rw [um_w_k (by omega), h33]; exact h1.2.2.2.2.1, by rw [um_w_s, h33, h1.2.2.2.2.2, nI_1]⟩
end RUN
