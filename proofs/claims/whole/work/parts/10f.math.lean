/-! winds, sales, breaths of the reference; loops fused -/
theorem lp_past {σ : Type} {h : Nat → σ → σ} {g : σ → σ} : ∀ (k : Nat) (Y : σ), (∀ j Z, j < k → h j (g Z) = g (h j Z)) → lp h k 0 (g Y) = g (lp h k 0 Y) := by
  intro k
  induction k with
  | zero => intro Y _; rfl
  | succ k ih =>
    intro Y hc
    rw [lp_succ, lp_succ, ih Y (fun j Z hj => hc j Z (by omega)), Nat.zero_add]
    exact hc k _ (by omega)
theorem lp_fuse {σ : Type} {h g : Nat → σ → σ} : ∀ (N : Nat) (R : σ), (∀ j k Z, k < j → j < N → h k (g j Z) = g j (h k Z)) → lp h N 0 (lp g N 0 R) = lp (fun t R => h t (g t R)) N 0 R := by
  intro N
  induction N with
  | zero => intro R _; rfl
  | succ N ih =>
    intro R hc
    have e := ih R (fun j k Z h1 h2 => hc j k Z h1 (by omega))
    rw [lp_succ, lp_succ g, lp_succ (fun t R => h t (g t R)), ← e, Nat.zero_add, lp_past N _ (fun j Z hj => hc N j Z hj (by omega))]
theorem burst1_at {R : Nat → Int32} {t i : Nat} (h1 : i ≠ 13 + t) (h2 : i ≠ 18 + t) (h3 : i ≠ 23 + t) (h4 : i ≠ 2) : burst1 t R i = R i := by
  unfold burst1 putB
  rw [upd_n h4, upd_n h3, upd_n h2, upd_n h1]
theorem burst1_sz {R : Nat → Int32} {t : Nat} (ht : t < 5) : burst1 t R (13 + t) = 0 := by
  unfold burst1 putB
  rw [upd_n (by omega), upd_n (by omega), upd_n (by omega), upd_s]
theorem burst1_pl {R : Nat → Int32} {t : Nat} (ht : t < 5) : burst1 t R (18 + t) = 0 := by
  unfold burst1 putB
  rw [upd_n (by omega), upd_n (by omega), upd_s]
theorem burst1_ag {R : Nat → Int32} {t : Nat} : burst1 t R (23 + t) = 0 := by
  unfold burst1 putB
  rw [upd_n (by omega), upd_s]
theorem sHas_cong {R R' : Nat → Int32} {t : Nat} (h : R (13 + t) = R' (13 + t)) : sHas R t = sHas R' t := by
  unfold sHas
  rw [h]
theorem sOut_cong {R R' : Nat → Int32} {w : Int32} {t : Nat} (h : R (13 + t) = R' (13 + t)) (h2 : R (18 + t) = R' (18 + t)) : sOut R w t = sOut R' w t := by
  unfold sOut
  rw [sHas_cong h, h2]
def drS (R0 : Nat → Int32) (w : Int32) (t : Nat) (R : Nat → Int32) : Nat → Int32 := if sHas R0 t = true then (if sOut R w t = true then burst1 t R else upd R (18 + t) (R (18 + t) + w)) else R
theorem mvS_com (w : Int32) (p : Nat → Bool) {j k : Nat} (Z : Nat → Int32) (h1 : k < j) (h2 : j < 5) : mvS w k (buS p j Z) = buS p j (mvS w k Z) := by
  unfold buS
  by_cases hp : p j = true
  · rw [if_pos hp, if_pos hp]
    unfold mvS
    rw [sHas_cong (R := burst1 j Z) (R' := Z) (burst1_at (by omega) (by omega) (by omega) (by omega)), burst1_at (i := 18 + k) (by omega) (by omega) (by omega) (by omega)]
    by_cases hh : sHas Z k = true
    · rw [if_pos hh, if_pos hh]
      unfold burst1 putB
      rw [upd_n (j := 2) (by omega), upd_com (k := 2) (j := 18 + k) (by omega), upd_com (k := 23 + j) (j := 18 + k) (by omega), upd_com (k := 18 + j) (j := 18 + k) (by omega), upd_com (k := 13 + j) (j := 18 + k) (by omega)]
    · rw [if_neg hh, if_neg hh]
  · rw [if_neg hp, if_neg hp]
theorem drift_step {R0 R : Nat → Int32} (w : Int32) {k : Nat} (hk : k < 5) (h1 : R (13 + k) = R0 (13 + k)) (h2 : R (18 + k) = R0 (18 + k)) : drS R0 w k R = mvS w k (buS (sOut R0 w) k R) := by
  have ha : sHas R k = sHas R0 k := sHas_cong h1
  have hb : sOut R w k = sOut R0 w k := sOut_cong h1 h2
  unfold drS buS
  rw [hb]
  by_cases q : sHas R0 k = true
  · rw [if_pos q]
    by_cases r : sOut R0 w k = true
    · rw [if_pos r, if_pos r]
      have hz : sHas (burst1 k R) k = false := by
        unfold sHas
        rw [burst1_sz hk]
        decide
      unfold mvS
      rw [hz, if_neg (by decide)]
    · rw [if_neg r, if_neg r]
      unfold mvS
      rw [ha, if_pos q]
  · rw [if_neg q]
    have r : ¬ sOut R0 w k = true := by
      unfold sOut
      simp only [Bool.not_eq_true] at q
      simp [q]
    rw [if_neg r]
    unfold mvS
    rw [ha, if_neg q]
theorem drift_keep {R0 R : Nat → Int32} (w : Int32) {k u : Nat} (hk : k < u) (hu : u < 5) : drS R0 w k R (13 + u) = R (13 + u) ∧ drS R0 w k R (18 + u) = R (18 + u) := by
  unfold drS
  split
  · split
    · rw [burst1_at (by omega) (by omega) (by omega) (by omega), burst1_at (by omega) (by omega) (by omega) (by omega)]
      exact ⟨rfl, rfl⟩
    · rw [upd_n (by omega), upd_n (by omega)]
      exact ⟨rfl, rfl⟩
  · exact ⟨rfl, rfl⟩
theorem drift_all (R0 : Nat → Int32) (w : Int32) : ∀ k, k ≤ 5 → lp (drS R0 w) k 0 R0 = lp (fun t R => mvS w t (buS (sOut R0 w) t R)) k 0 R0 ∧ ∀ u, k ≤ u → u < 5 → lp (drS R0 w) k 0 R0 (13 + u) = R0 (13 + u) ∧ lp (drS R0 w) k 0 R0 (18 + u) = R0 (18 + u) := by
  intro k
  induction k with
  | zero => intro _; exact ⟨by rw [lp, lp], fun u _ _ => ⟨rfl, rfl⟩⟩
  | succ k ih =>
    intro hk
    obtain ⟨h1, h2⟩ := ih (by omega)
    rw [lp_succ, lp_succ, ← h1, Nat.zero_add]
    generalize lp (drS R0 w) k 0 R0 = R at h1 h2 ⊢
    have hk2 := h2 k (Nat.le_refl _) (by omega)
    refine ⟨drift_step w (by omega) hk2.1 hk2.2, fun u hu hu5 => ?_⟩
    have hu2 := h2 u (by omega) hu5
    have hu3 := drift_keep (R0 := R0) (R := R) w (show k < u by omega) hu5
    rw [hu3.1, hu3.2]
    exact hu2
theorem drift_fuse (R0 : Nat → Int32) (w : Int32) : rMove w (rBurst (sOut R0 w) R0) = lp (fun t R => mvS w t (buS (sOut R0 w) t R)) 5 0 R0 := by
  unfold rMove rBurst
  rw [lp_fuse (h := mvS w) (g := buS (sOut R0 w)) 5 R0 (fun j k Z h1 h2 => mvS_com w _ Z h1 h2)]
theorem drift_none (R0 : Nat → Int32) (w : Int32) (hb : bits 5 (sHas R0) = 0) : lp (drS R0 w) 5 0 R0 = R0 := by
  refine lp_id (drS R0 w) 5 0 R0 (fun j _ h2 s => ?_)
  have hj := (bits_zero (n := 5) (sHas R0) (by omega)).mp hb j (by omega)
  unfold drS
  rw [hj, if_neg (by decide)]
theorem drift_eq {R0 : Nat → Int32} (w : Int32) : lp (drS R0 w) 5 0 R0 = rDrift w R0 := by
  unfold rDrift
  by_cases hb : bits 5 (sHas R0) = 0
  · rw [if_pos hb, drift_none R0 w hb]
  · rw [if_neg hb, drift_fuse, (drift_all R0 w 5 (Nat.le_refl _)).1]
theorem lp_vR_has {T : Nat} {R : Nat → Int32} (h : vR T R) : ∀ t, T ≤ t → t < 5 → sHas R t = false := fun _ h1 h2 => vR_has h h1 h2
section PASS
variable {m : Um} {V T : Nat} {X W : Nat → Int32} {n : Nat} {A : Nat → Nat} {z : Int32} {t u v : Nat}
theorem r_driven (hc : rC m V T X W) (hR : vR T (cv (m 54))) (w : Int32) : ∃ S, f_X8_isDriven m w = some (um_wa m 54 S, bi (!decide (bits 5 (sHas (cv (m 54))) = 0))) ∧ cv S = rDrift w (cv (m 54)) := by
  have hT := hc.2.1
  unfold f_X8_isDriven
  rw [r_holders hc hR, ubi_mk]
  have := lp_rel (fun q (s : Nat → Int32) t => f_X8_isDriven_b7 q (um_wa m 54 s) w (bits 5 (sHas (cv (m 54)))) (nI t)) T (fun t s => cv s = lp (drS (cv (m 54)) w) t 0 (cv (m 54))) (fun b => ∃ S, b = (um_wa m 54 S, bi (!decide (bits 5 (sHas (cv (m 54))) = 0))) ∧ cv S = rDrift w (cv (m 54))) ?_ ?_ T 0 (m 54) UF (Nat.zero_add T) (by show T < 3000; omega) rfl
  · rw [um_wa_id] at this
    obtain ⟨b, h1, S, h2, h3⟩ := this
    subst h2
    exact ⟨S, h1, h3⟩
  · intro q s t ht hP
    have ht5 : t < 5 := by omega
    have e38 : (um_wa m 54 s) 38 18 = nI T := by rw [um_wa_n (by omega)]; exact hc.2.2.2.1
    have hs : (um_wa m 54 s) 54 = s := um_wa_s _ _ _
    by_cases hh : sHas (cv (m 54)) t = true
    · by_cases hq : sOut (cv s) w t = true
      · obtain ⟨S, e1, e2⟩ := r_bursts (m := um_wa m 54 s) ht5
        rw [hs] at e2
        refine ⟨S, ?_, ?_⟩
        · show f_X8_isDriven_b7 (q + 1) (um_wa m 54 s) w (bits 5 (sHas (cv (m 54)))) (nI t) = f_X8_isDriven_b7 q (um_wa m 54 S) w (bits 5 (sHas (cv (m 54)))) (nI (t + 1))
          rw [f_X8_isDriven_b7, e38, if_neg (nI_ge (by omega) (by omega)), bits_bit _ (by omega) ht5, ite_bi0, if_pos hh, r_out ht5, ubi_mk, hs, ite_bi0, if_pos hq, e1, ubi_mk, um_wa_wa]
          simp only [f_X8_isDriven_b56, nI_1]
        · rw [lp_succ, ← hP, e2, Nat.zero_add]
          unfold drS
          rw [if_pos hh, if_pos hq]
      · refine ⟨upd s (15 + t) (s (15 + t) + w), ?_, ?_⟩
        · show f_X8_isDriven_b7 (q + 1) (um_wa m 54 s) w (bits 5 (sHas (cv (m 54)))) (nI t) = f_X8_isDriven_b7 q (um_wa m 54 (upd s (15 + t) (s (15 + t) + w))) w (bits 5 (sHas (cv (m 54)))) (nI (t + 1))
          rw [f_X8_isDriven_b7, e38, if_neg (nI_ge (by omega) (by omega)), bits_bit _ (by omega) ht5, ite_bi0, if_pos hh, r_out ht5, ubi_mk, hs, ite_bi0, if_neg hq, lit_add, uin_n (by omega) (by omega), ugd_t, ugd_t, nI_clamp (by omega)]
          simp only [f_X8_isDriven_b56, nI_1, um_w_def, um_wa_s, um_wa_wa]
        · rw [lp_succ, ← hP, cv_upd _ _ (by omega), Nat.zero_add]
          unfold drS
          rw [if_pos hh, if_neg hq, show 15 + t + 3 = 18 + t by omega, cv_j s (i := 18 + t) (by omega) (by omega), show 18 + t - 3 = 15 + t by omega]
    · refine ⟨s, ?_, ?_⟩
      · show f_X8_isDriven_b7 (q + 1) (um_wa m 54 s) w (bits 5 (sHas (cv (m 54)))) (nI t) = f_X8_isDriven_b7 q (um_wa m 54 s) w (bits 5 (sHas (cv (m 54)))) (nI (t + 1))
        rw [f_X8_isDriven_b7, e38, if_neg (nI_ge (by omega) (by omega)), bits_bit _ (by omega) ht5, ite_bi0, if_neg hh]
        simp only [f_X8_isDriven_b56, nI_1]
      · rw [lp_succ, ← hP, Nat.zero_add]
        unfold drS
        rw [if_neg hh]
  · intro q s hP
    have e38 : (um_wa m 54 s) 38 18 = nI T := by rw [um_wa_n (by omega)]; exact hc.2.2.2.1
    refine ⟨_, ?_, s, rfl, ?_⟩
    · show f_X8_isDriven_b7 (q + 1) (um_wa m 54 s) w (bits 5 (sHas (cv (m 54)))) (nI T) = _
      rw [f_X8_isDriven_b7, e38, if_pos (nI_le (Nat.le_refl _) (by omega))]
      simp only [f_X8_isDriven_b71, ub01_0, ub01_1, ugd_t]
      by_cases hb : bits 5 (sHas (cv (m 54))) = 0 <;> simp [hb, bi]
    · rw [hP, ← drift_eq, lp_cut (drS (cv (m 54)) w) hT (cv (m 54))]
      intro j h1 h2 s
      unfold drS
      rw [vR_has hR h1 h2]
      rfl
theorem UF4 : UF = 2996 + 1 + 1 + 1 + 1 := by decide
theorem r_sold (hR : vR T (cv (m 54))) (ht : t < 5) (hu : u < 5) (k : Int32) : ∃ S, f_X8_isSold m (nI t) (nI u) k = some (um_wa m 54 S, bi (sSell (cv (m 54)) t u k)) ∧ cv S = rSell (cv (m 54)) t u k := by
  have hz : (cv (m 54) (13 + t) = 0) = ¬ sHas (cv (m 54)) t = true := by
    rw [has_int]
    have := (hR.2.1 t ht).1
    refine propext ⟨fun h => ?_, fun h => ?_⟩
    · rw [h, i_0]
      simp
    · simp only [decide_eq_true_eq] at h
      apply Int32.toInt_inj.mp
      rw [i_0]
      omega
  have hz2 : (0 < cv (m 54) (13 + u)) = (sHas (cv (m 54)) u = true) := by
    rw [has_int, Int32.lt_iff_toInt_lt, i_0]
    simp
  have hle : (k ≤ cv (m 54) (3 + u)) = ¬ cv (m 54) (3 + u) < k := propext (by rw [Int32.lt_iff_toInt_lt, Int32.le_iff_toInt_le]; omega)
  by_cases hs : sSell (cv (m 54)) t u k = true
  · have hs' := hs
    unfold sSell at hs'
    simp only [Bool.and_eq_true, Bool.not_eq_true', decide_eq_true_eq, decide_eq_false_iff_not] at hs'
    obtain ⟨⟨⟨h1, h2⟩, h3⟩, h4⟩ := hs'
    have q1 : ¬ nI t = nI u := by rw [nI_eq' (by omega) (by omega)]; exact h1
    have q2 : ¬ cv (m 54) (13 + t) = 0 := by rw [hz, h2]; simp
    have q3 : ¬ 0 < cv (m 54) (13 + u) := by rw [hz2, h3]; simp
    have q4 : k ≤ cv (m 54) (3 + u) := by rw [hle]; exact h4
    refine ⟨upd (upd (upd (upd (upd (upd (upd (upd (m 54) (0 + u) (cv (m 54) (3 + u) - k)) (0 + t) (cv (m 54) (3 + t) + k)) (10 + u) (cv (m 54) (13 + t))) (10 + t) 0) (15 + u) (cv (m 54) (18 + t))) (15 + t) 0) (20 + u) (cv (m 54) (23 + t))) (20 + t) 0, ?_, ?_⟩
    · have step : ∀ (f : Nat → Int32) (d q : Nat), d < 21 → f_X8_isSold_b71 (q + 1) (um_wa m 54 f) (nI t) (nI u) (nI d) = f_X8_isSold_b71 q (um_wa m 54 (upd (upd f (d + u) (f (d + t))) (d + t) 0)) (nI t) (nI u) (nI (d + 5)) := by
        intro f d q hd
        rw [f_X8_isSold_b71, if_neg (lit_nlt (show d ≤ 20 by omega) (by omega)), nI_add, nI_add, uin_n (by omega) (by omega), uin_n (by omega) (by omega), ugd_t, ugd_t, ugd_t, nI_clamp (by omega), nI_clamp (by omega), add_lit]
        simp only [um_w_def, um_wa_s, um_wa_wa]
      have fin : ∀ (f : Nat → Int32) (q : Nat), f_X8_isSold_b71 (q + 1) (um_wa m 54 f) (nI t) (nI u) (nI 25) = some (um_wa m 54 f, 1) := by
        intro f q
        rw [f_X8_isSold_b71, if_pos (by decide)]
      have e10 : (10 : Int32) = nI 10 := rfl
      simp (disch := omega) only [f_X8_isSold, f_X8_isSold_b41, if_neg q1, lit_add, uin_n, nI_clamp, ugd_t, c_si m ht, c_si m hu, c_pu m ht, c_pu m hu, if_neg q2, if_neg q3, if_pos q4, um_w_def, um_wa_s, um_wa_wa, upd_n, hs, bi_t]
      rw [e10, UF4, step _ 10 _ (by omega), step _ 15 _ (by omega), step _ 20 _ (by omega), fin]
      simp (disch := omega) only [upd_n, c_si m ht, c_pl m ht, c_ag m ht]
    · unfold rSell
      rw [if_pos hs, cv_upd _ _ (by omega), cv_upd _ _ (by omega), cv_upd _ _ (by omega), cv_upd _ _ (by omega), cv_upd _ _ (by omega), cv_upd _ _ (by omega), cv_upd _ _ (by omega), cv_upd _ _ (by omega)]
      unfold putB
      rw [show 10 + t + 3 = 13 + t by omega, show 15 + t + 3 = 18 + t by omega, show 20 + t + 3 = 23 + t by omega, show 0 + t + 3 = 3 + t by omega, show 10 + u + 3 = 13 + u by omega, show 15 + u + 3 = 18 + u by omega, show 20 + u + 3 = 23 + u by omega, show 0 + u + 3 = 3 + u by omega]
      rw [upd_com (k := 3 + u) (j := 3 + t) (by omega), upd_com (k := 13 + t) (j := 18 + u) (by omega), upd_com (k := 18 + t) (j := 23 + u) (by omega), upd_com (k := 13 + t) (j := 23 + u) (by omega)]
  · refine ⟨m 54, ?_, ?_⟩
    · simp only [Bool.not_eq_true] at hs
      have hs' := hs
      unfold sSell at hs'
      simp (disch := omega) only [f_X8_isSold, f_X8_isSold_b41, nI_eq', lit_add, uin_n, nI_clamp, ugd_t, c_si m ht, c_si m hu, c_pu m hu, hs, bi_f, um_wa_id, hz, hz2, hle]
      by_cases q1 : t = u
      · simp [q1]
      · by_cases q2 : sHas (cv (m 54)) t = true
        · by_cases q3 : sHas (cv (m 54)) u = true
          · simp [q1, q2, q3]
          · by_cases q4 : cv (m 54) (3 + u) < k
            · simp [q1, q2, q3, q4]
            · simp only [Bool.not_eq_true] at q3
              simp [q1, q2, q3, q4] at hs'
        · simp [q1, q2]
    · unfold rSell
      rw [if_neg hs]
/-- the breath's third part: who is named bursts -/
theorem r_pass3 (hc : rC m V T X W) (p : Nat → Bool) (hp : ∀ t, T ≤ t → t < 5 → p t = false) : ∃ S, f_X8_passes_b104 UF m (bits 5 p) 0 = some (um_wa m 54 S, ()) ∧ cv S = upd (rBurst p (cv (m 54))) 0 (rBurst p (cv (m 54)) 0 + 1) := by
  have hT := hc.2.1
  have := lp_rel (fun q (s : Nat → Int32) t => f_X8_passes_b104 q (um_wa m 54 s) (bits 5 p) (nI t)) T (fun t s => cv s = lp (buS p) t 0 (cv (m 54))) (fun b => ∃ S, b = (um_wa m 54 S, ()) ∧ cv S = upd (rBurst p (cv (m 54))) 0 (rBurst p (cv (m 54)) 0 + 1)) ?_ ?_ T 0 (m 54) UF (Nat.zero_add T) (by show T < 3000; omega) rfl
  · rw [um_wa_id] at this
    obtain ⟨b, h1, S, h2, h3⟩ := this
    subst h2
    exact ⟨S, h1, h3⟩
  · intro q s t ht hP
    have ht5 : t < 5 := by omega
    have e38 : (um_wa m 54 s) 38 18 = nI T := by rw [um_wa_n (by omega)]; exact hc.2.2.2.1
    have hs : (um_wa m 54 s) 54 = s := um_wa_s _ _ _
    by_cases hh : p t = true
    · obtain ⟨S, e1, e2⟩ := r_bursts (m := um_wa m 54 s) ht5
      rw [hs] at e2
      refine ⟨S, ?_, ?_⟩
      · show f_X8_passes_b104 (q + 1) (um_wa m 54 s) (bits 5 p) (nI t) = f_X8_passes_b104 q (um_wa m 54 S) (bits 5 p) (nI (t + 1))
        rw [f_X8_passes_b104, e38, if_neg (nI_ge (by omega) (by omega)), bits_bit _ (by omega) ht5, ite_bi1, if_pos hh, e1, ubi_mk, um_wa_wa]
        simp only [f_X8_passes_b126, nI_1]
      · rw [lp_succ, ← hP, e2, Nat.zero_add]
        unfold buS
        rw [if_pos hh]
    · refine ⟨s, ?_, ?_⟩
      · show f_X8_passes_b104 (q + 1) (um_wa m 54 s) (bits 5 p) (nI t) = f_X8_passes_b104 q (um_wa m 54 s) (bits 5 p) (nI (t + 1))
        rw [f_X8_passes_b104, e38, if_neg (nI_ge (by omega) (by omega)), bits_bit _ (by omega) ht5, ite_bi1, if_neg hh]
        simp only [f_X8_passes_b126, nI_1]
      · rw [lp_succ, ← hP, Nat.zero_add]
        unfold buS
        rw [if_neg hh]
  · intro q s hP
    have e38 : (um_wa m 54 s) 38 18 = nI T := by rw [um_wa_n (by omega)]; exact hc.2.2.2.1
    have e5 : cv s = rBurst p (cv (m 54)) := by
      rw [hP]
      exact (lp_cut (buS p) hT (cv (m 54)) (fun j h1 h2 s => by unfold buS; rw [hp j h1 h2]; rfl)).symm
    refine ⟨_, ?_, upd s 27 (cv s 0 + 1), rfl, ?_⟩
    · show f_X8_passes_b104 (q + 1) (um_wa m 54 s) (bits 5 p) (nI T) = _
      rw [f_X8_passes_b104, e38, if_pos (nI_le (Nat.le_refl _) (by omega)), um_w_def, um_wa_s, um_wa_wa]
      rfl
    · rw [cv_updT, e5]
theorem r_pass2 (hx : rX m V T X W n A z) (hR : vR T (cv (m 54))) : ∃ m', f_X8_passes_b49 UF m 0 0 = some (m', ()) ∧ cv (m' 54) = upd (rBurst (sDead X W V A n z (cv (m 54))) (cv (m 54))) 0 (rBurst (sDead X W V A n z (cv (m 54))) (cv (m 54)) 0 + 1) ∧ ∀ c, c ≠ 49 → c ≠ 50 → c ≠ 54 → m' c = m c := by
  have hT := hx.1.2.1
  have hd : ∀ t, T ≤ t → t < 5 → sDead X W V A n z (cv (m 54)) t = false := fun t h1 h2 => by
    unfold sDead
    rw [vR_has hR h1 h2]
    rfl
  have := lp_rel (fun q (s : Um × Int32) t => f_X8_passes_b49 q s.1 s.2 (nI t)) T (fun t s => (∀ c, c ≠ 49 → c ≠ 50 → s.1 c = m c) ∧ s.2 = bits t (sDead X W V A n z (cv (m 54)))) (fun b => cv (b.1 54) = upd (rBurst (sDead X W V A n z (cv (m 54))) (cv (m 54))) 0 (rBurst (sDead X W V A n z (cv (m 54))) (cv (m 54)) 0 + 1) ∧ ∀ c, c ≠ 49 → c ≠ 50 → c ≠ 54 → b.1 c = m c) ?_ ?_ T 0 (m, 0) UF (Nat.zero_add T) (by show T < 3000; omega) ⟨fun _ _ _ => rfl, rfl⟩
  · obtain ⟨⟨m', r⟩, h1, h2, h3⟩ := this
    exact ⟨m', h1, h2, h3⟩
  · intro q s t ht hP
    obtain ⟨m1, a⟩ := s
    obtain ⟨hm, ha⟩ := hP
    simp only at hm ha
    have ht5 : t < 5 := by omega
    have hx1 : rX m1 V T X W n A z := rX_of hx (fun c hc => hm c (by omega) (by omega))
    have h54 : m1 54 = m 54 := hm _ (by omega) (by omega)
    obtain ⟨g, st, e⟩ := r_life hx1 (by rw [h54]; exact hR) ht5
    rw [h54] at e
    by_cases hh : cv (m 54) (13 + t) ≤ 0
    · have hh' : sHas (cv (m 54)) t = false := by unfold sHas; simp [hh]
      refine ⟨(m1, a), ?_, hm, ?_⟩
      · show f_X8_passes_b49 (q + 1) m1 a (nI t) = f_X8_passes_b49 q m1 a (nI (t + 1))
        rw [f_X8_passes_b49, hx1.1.2.2.2.1, if_neg (nI_ge (by omega) (by omega)), lit_add, uin_n (by omega) (by omega), ugd_t, nI_clamp (by omega), c_si m1 ht5, h54, if_pos hh]
        simp only [f_X8_passes_b93, f_X8_passes_b94, nI_1, Int32.or_zero]
      · show _ = bits (t + 1) _
        rw [bits_succ, ha, if_neg]
        unfold sDead
        simp [hh']
    · have hh' : sHas (cv (m 54)) t = true := by unfold sHas; simp [hh]
      refine ⟨(um_wa (um_wa m1 50 g) 49 st, if sDead X W V A n z (cv (m 54)) t = true then a ||| bt t else a), ?_, ?_, ?_⟩
      · show f_X8_passes_b49 (q + 1) m1 a (nI t) = f_X8_passes_b49 q (um_wa (um_wa m1 50 g) 49 st) (if sDead X W V A n z (cv (m 54)) t = true then a ||| bt t else a) (nI (t + 1))
        rw [f_X8_passes_b49, hx1.1.2.2.2.1, if_neg (nI_ge (by omega) (by omega)), lit_add, uin_n (by omega) (by omega), ugd_t, nI_clamp (by omega), c_si m1 ht5, h54, if_neg hh, lit_add, uin_n (by omega) (by omega), ugd_t, e, ubi_mk, nI_clamp (by omega), c_ag m ht5]
        simp only [f_X8_passes_b93, f_X8_passes_b94, nI_1, Int32.or_zero]
        unfold sDead
        by_cases hl : cv (m 54) (23 + t) < sLife X W V A n z (cv (m 54)) t
        · simp [hl]
        · simp [hl, hh', bt]
      · intro c h1 h2
        show um_wa (um_wa m1 50 g) 49 st c = m c
        rw [um_wa_n h1, um_wa_n h2, hm c h1 h2]
      · show _ = bits (t + 1) _
        rw [bits_succ, ha]
  · intro q s hP
    obtain ⟨m1, a⟩ := s
    obtain ⟨hm, ha⟩ := hP
    simp only at hm ha
    have hx1 : rX m1 V T X W n A z := rX_of hx (fun c hc => hm c (by omega) (by omega))
    have h54 : m1 54 = m 54 := hm _ (by omega) (by omega)
    obtain ⟨S, e1, e2⟩ := r_pass3 hx1.1 (sDead X W V A n z (cv (m 54))) hd
    rw [h54] at e2
    refine ⟨(um_wa m1 54 S, ()), ?_, ?_, ?_⟩
    · show f_X8_passes_b49 (q + 1) m1 a (nI T) = _
      rw [f_X8_passes_b49, hx1.1.2.2.2.1, if_pos (nI_le (Nat.le_refl _) (by omega)), ha, ← bits_cut hT hd, e1]
    · show cv (um_wa m1 54 S 54) = _
      rw [um_wa_s, e2]
    · intro c h1 h2 h3
      show um_wa m1 54 S c = m c
      rw [um_wa_n h3, hm c h1 h2]
theorem rAge_at (R : Nat → Int32) {i : Nat} (h : i < 23 ∨ 28 ≤ i) : rAge R i = R i := by
  unfold rAge
  have := lp_ind0 (f := agS) (fun _ (S : Nat → Int32) => S i = R i) 5 R rfl (fun j s hj hs => by
    show (if sHas s j = true then upd s (23 + j) (s (23 + j) + 1) else s) i = R i
    split
    · rw [upd_n (by omega), hs]
    · exact hs)
  exact this
theorem r_passes (hx : rX m V T X W n A z) (hR : vR T (cv (m 54))) (hR1 : vR T (rAge (cv (m 54)))) : ∃ m', f_X8_passes m = some (m', ()) ∧ cv (m' 54) = rBreathe X W V A n z (cv (m 54)) ∧ ∀ c, c ≠ 49 → c ≠ 50 → c ≠ 54 → m' c = m c := by
  have hT := hx.1.2.1
  have := lp_rel (fun q (s : Nat → Int32) t => f_X8_passes_b4 q (um_wa m 54 s) 0 (nI t)) T (fun t s => cv s = lp agS t 0 (cv (m 54))) (fun b => cv (b.1 54) = rBreathe X W V A n z (cv (m 54)) ∧ ∀ c, c ≠ 49 → c ≠ 50 → c ≠ 54 → b.1 c = m c) ?_ ?_ T 0 (m 54) UF (Nat.zero_add T) (by show T < 3000; omega) rfl
  · rw [um_wa_id] at this
    obtain ⟨⟨m', r⟩, h1, h2, h3⟩ := this
    exact ⟨m', h1, h2, h3⟩
  · intro q s t ht hP
    have ht5 : t < 5 := by omega
    have e38 : (um_wa m 54 s) 38 18 = nI T := by rw [um_wa_n (by omega)]; exact hx.1.2.2.2.1
    have hs : (um_wa m 54 s) 54 = s := um_wa_s _ _ _
    have hsz : s (10 + t) = cv s (13 + t) := by
      rw [cv_j _ (by omega) (by omega)]
      congr 1
      omega
    have hag : s (20 + t) = cv s (23 + t) := by
      rw [cv_j _ (by omega) (by omega)]
      congr 1
      omega
    refine ⟨upd s (20 + t) (s (20 + t) + bi (sHas (cv s) t)), ?_, ?_⟩
    · show f_X8_passes_b4 (q + 1) (um_wa m 54 s) 0 (nI t) = f_X8_passes_b4 q (um_wa m 54 (upd s (20 + t) (s (20 + t) + bi (sHas (cv s) t)))) 0 (nI (t + 1))
      rw [f_X8_passes_b4, e38, if_neg (nI_ge (by omega) (by omega)), lit_add, lit_add, uin_n (by omega) (by omega), uin_n (by omega) (by omega), ugd_t, ugd_t, nI_clamp (by omega), nI_clamp (by omega), hs, hsz]
      simp (disch := omega) only [f_X8_passes_b39, uin_n, ugd_t, nI_clamp, nI_1, um_w_def, um_wa_s, um_wa_wa]
      unfold sHas
      by_cases hh : cv s (13 + t) ≤ 0 <;> simp [hh, bi]
    · rw [lp_succ, ← hP, cv_upd _ _ (by omega), Nat.zero_add, show 20 + t + 3 = 23 + t by omega, hag]
      unfold agS
      by_cases hh : sHas (cv s) t = true
      · rw [if_pos hh, hh]
        rfl
      · rw [if_neg hh]
        simp only [Bool.not_eq_true] at hh
        rw [hh, bi_f, Int32.add_zero, upd_id]
  · intro q s hP
    have e5 : cv s = rAge (cv (m 54)) := by
      rw [hP]
      refine (lp_cutP agS (fun S => ∀ i, i < 23 → S i = cv (m 54) i) hT (cv (m 54)) ?_ (fun j h1 h2 s hs => ?_)).symm
      · exact lp_ind0 (f := agS) (fun _ (S : Nat → Int32) => ∀ i, i < 23 → S i = cv (m 54) i) T (cv (m 54)) (fun _ _ => rfl) (fun j s hj hs i hi => by
          unfold agS
          split
          · rw [upd_n (by omega), hs i hi]
          · exact hs i hi)
      · unfold agS
        rw [sHas_cong (hs (13 + j) (by omega)), vR_has hR h1 h2]
        rfl
    have hx1 : rX (um_wa m 54 s) V T X W n A z := rX_of hx (fun c hc => um_wa_n (by omega))
    have hs : (um_wa m 54 s) 54 = s := um_wa_s _ _ _
    obtain ⟨m', h1, h2, h3⟩ := r_pass2 hx1 (by rw [hs, e5]; exact hR1)
    rw [hs, e5] at h2
    refine ⟨(m', ()), ?_, h2, fun c a b d => ?_⟩
    · show f_X8_passes_b4 (q + 1) (um_wa m 54 s) 0 (nI T) = _
      rw [f_X8_passes_b4, hx1.1.2.2.2.1, if_pos (nI_le (Nat.le_refl _) (by omega)), h1]
    · show m' c = m c
      rw [h3 c a b d, um_wa_n d]
end PASS
