/-! the class takes a draft over; what it has without a law -/
theorem or_bt_t {x : Int32} {t : Nat} (ht : t < 32) : (x ||| bt t).toBitVec.getLsbD t = true := by
  rw [Int32.toBitVec_or, BitVec.getLsbD_or, bt_get t ht, BitVec.getLsbD_shiftLeft, BitVec.getLsbD_one]
  simp [ht]
theorem or_bt_m {x : Int32} {t j : Nat} (h : x.toBitVec.getLsbD j = true) : (x ||| bt t).toBitVec.getLsbD j = true := by
  rw [Int32.toBitVec_or, BitVec.getLsbD_or, h, Bool.true_or]
def tD (m m1 : Um) (A : Nat → Nat) (n i : Nat) : Prop := (∀ c, c ≠ 13 → c ≠ 14 → m1 c = m c) ∧ m1 13 1 = nI n ∧ (∀ k, k < i → m1 14 k = nI (A k)) ∧ ∀ k, k < i → 1000 ≤ A k → A k < 2000 → (m1 13 5).toBitVec.getLsbD (A k - 1000) = true
theorem e_draftL {m : Um} {n : Nat} {A : Nat → Nat} (hn : n ≤ 150) (h15 : ∀ k, k < n → m 15 k = nI (A k)) (hA : ∀ k, k < n → okA (A k)) : ∀ (r i fuel : Nat) (m1 : Um), i + r = n → r < fuel → tD m m1 A n i → ∃ m2, f_X2_takeDraft_b15 fuel m1 (nI i) = some (m2, ()) ∧ tD m m2 A n n
  | r, i, 0, m1, _, hf, _ => absurd hf (Nat.not_lt_zero _)
  | 0, i, fuel + 1, m1, hk, _, h => by
    have hi : i = n := by omega
    subst hi
    refine ⟨m1, ?_, h⟩
    rw [f_X2_takeDraft_b15, h.2.1, if_pos (nI_le (Nat.le_refl _) (by omega))]
  | r + 1, i, fuel + 1, m1, hk, hf, h => by
    have ho := hA i (by omega)
    unfold okA at ho
    have hlt : A i < 2 ^ 31 := by omega
    have e14 : ∀ v : Int32, um_w m1 14 i v 14 i = v := fun v => um_w_s _ _ _ _
    have hst : ∀ m', (∀ c, c ≠ 13 → m' c = (um_w m1 14 i (nI (A i))) c) → m' 13 1 = nI n → (∀ j, (m1 13 5).toBitVec.getLsbD j = true → (m' 13 5).toBitVec.getLsbD j = true) → (1000 ≤ A i → A i < 2000 → (m' 13 5).toBitVec.getLsbD (A i - 1000) = true) → tD m m' A n (i + 1) := by
      intro m' g1 g2 g3 g4
      refine ⟨fun c q1 q2 => by rw [g1 c q1, um_w_c q2, h.1 c q1 q2], g2, fun k hk2 => ?_, fun k hk2 q1 q2 => ?_⟩
      · rw [g1 14 (by omega)]
        by_cases hq : k = i
        · rw [hq, um_w_s]
        · rw [um_w_k hq]
          exact h.2.2.1 k (by omega)
      · by_cases hq : k = i
        · rw [hq] at q1 q2 ⊢
          exact g4 q1 q2
        · exact g3 _ (h.2.2.2 k (by omega) q1 q2)
    rw [f_X2_takeDraft_b15, h.2.1, if_neg (nI_ge (by omega) (by omega)), uin_n (show i < 150 by omega) (by omega), ugd_t, ugd_t, ugd_t, ugd_t, ugd_t, nI_clamp (by omega), h.1 15 (by omega) (by omega), h15 i (by omega), e14]
    unfold f_X2_takeDraft_b80
    rw [nI_1]
    by_cases c1 : A i < 1000
    · rw [if_pos (show nI (A i) < 1000 from ltq_lit (k := 1000) c1 (by decide))]
      exact e_draftL hn h15 hA r (i + 1) fuel _ (by omega) (by omega) (hst _ (fun c _ => rfl) (by rw [um_w_c (by omega)]; exact h.2.1) (fun j hj => by rw [um_w_c (by omega)]; exact hj) (fun q => by omega))
    · rw [if_neg (show ¬ nI (A i) < 1000 from nlt_lit (k := 1000) (by show 1000 ≤ A i; omega) hlt)]
      by_cases c2 : 2000 ≤ A i
      · rw [if_pos (show 2000 ≤ nI (A i) from lit_leq (k := 2000) c2 hlt)]
        exact e_draftL hn h15 hA r (i + 1) fuel _ (by omega) (by omega) (hst _ (fun c _ => rfl) (by rw [um_w_c (by omega)]; exact h.2.1) (fun j hj => by rw [um_w_c (by omega)]; exact hj) (fun _ q => by omega))
      · rw [if_neg (show ¬ 2000 ≤ nI (A i) from nle_lit (k := 2000) (by show A i < 2000; omega) (by decide)), sub_lit (k := 1000) (by show 1000 ≤ A i; omega), um_w_c (show 13 ≠ 14 by omega)]
        refine e_draftL hn h15 hA r (i + 1) fuel _ (by omega) (by omega) (hst _ (fun c q => um_w_c q) (by rw [um_w_k (by omega), um_w_c (by omega)]; exact h.2.1) (fun j hj => ?_) (fun _ _ => ?_))
        · rw [um_w_s]
          exact or_bt_m hj
        · rw [um_w_s]
          exact or_bt_t (t := A i - 1000) (by omega)
theorem e_draft {m : Um} {n : Nat} {A : Nat → Nat} (hn : n ≤ 150) (h3 : m 13 3 = nI n) (h15 : ∀ k, k < n → m 15 k = nI (A k)) (hA : ∀ k, k < n → okA (A k)) : ∃ m2, f_X2_takeDraft m = some (m2, ()) ∧ tD m m2 A n n := by
  unfold f_X2_takeDraft
  rw [um_w_k (show 3 ≠ 5 by omega), h3]
  refine e_draftL hn h15 hA n 0 UF _ (by omega) (by show n < 3000; omega) ⟨fun c q1 q2 => by rw [um_w_c q1, um_w_c q1], um_w_s _ _ _ _, fun k hk => absurd hk (Nat.not_lt_zero _), fun k hk => absurd hk (Nat.not_lt_zero _)⟩
theorem pl_nI : ∀ k, k < 9 → us_plain k = nI (plA k) := by decide
theorem cM_of {m m' : Um} {n : Nat} {A : Nat → Nat} (h : cM m n A) (h3 : m' 13 = m 13) (h4 : m' 14 = m 14) : cM m' n A := by
  unfold cM
  rw [h3, h4]
  exact h
theorem e_forget (m : Um) : ∃ m2, f_X2_forget m = some (m2, ()) ∧ (∀ c, (c ≠ 13 ∧ c ≠ 14 ∧ c ≠ 15) → m2 c = m c) ∧ cM m2 9 plA := by
  obtain ⟨m2, g1, g2⟩ := e_draft (m := um_w (um_pl m 15) 13 3 9) (n := 9) (A := plA) (by omega) (um_w_s _ _ _ _) (fun k hk => by
    rw [um_w_c (by omega)]
    unfold um_pl va_cpy
    rw [um_wa_s, if_pos (by omega), Nat.zero_add, Nat.sub_zero]
    exact pl_nI k hk) (fun k hk => (plA_wf k hk).1)
  refine ⟨m2, ?_, fun c hc => ?_, ⟨by omega, g2.2.1, g2.2.2.1, plA_wf, g2.2.2.2⟩⟩
  · unfold f_X2_forget
    rw [g1, ubi_mk]
  · rw [g2.1 c hc.1 hc.2.1, um_w_c hc.1]
    unfold um_pl
    rw [um_wa_n hc.2.2]
theorem opR_b (T : Nat) (Mo Sd : Nat → Int32) : (opR T Mo Sd 0).toInt ≤ 400 := by
  unfold opR
  rw [if_neg (by omega), if_neg (by omega), i_0]
  omega
abbrev sCo (s : Ss) (c : Cs) : Ss := ((c.1.1, c.1.2.1, c.2.1.1, c.2.1.2, 0, (fun _ => 0), nI c.1.2.2), opR c.1.2.1 c.2.2.1 c.2.2.2, (0, qB s, (-1 : Int32)), ((0 : Int32), fun _ => (-1 : Int32)), (0 : Int32), s.2.2.2.2.2.1, (0, qP s), (0, qG s))
theorem vI_co {s : Ss} (h : vI s) {c : Cs} (ho : okK c) : vI (sCo s c) := ⟨ho.2.2.1, ⟨vR_op ho.2.1 ho.2.2.2, opR_b c.1.2.1 c.2.2.1 c.2.2.2⟩, ⟨Nat.zero_le _, h.2.2.1.2⟩, ⟨Nat.zero_le _, fun j hj => absurd hj (Nat.not_lt_zero _)⟩, Nat.zero_le _, fun i hi => absurd hi (Nat.not_lt_zero _)⟩
abbrev cs0 : Cs := ((0, 0, 8), ((fun _ => 0), fun _ => 0), ((fun _ => 0), fun _ => 0))
theorem ok_cs0 : okK cs0 := ⟨Nat.zero_le _, Nat.zero_le _, fun v hv => absurd hv (Nat.not_lt_zero _), fun v hv => absurd hv (Nat.not_lt_zero _)⟩
/-- the class takes a new corner over -/
theorem e_coEnd {m m0 : Um} {s : Ss} {c : Cs} (hc : cI m0 s) (hv : vI s) (k : ∀ q, q ≠ 1 → ¬ (8 ≤ q ∧ q ≤ 12) → m q = m0 q) (h11 : m 1 1 = 0) (h15 : m 1 5 = -1) (hcr : cr m c) (ho : okK c) : ∃ m', (ubi (f_X1_copyFrom m) (fun m12 r13 => ubi (f_X2_forget m12) (fun m15 r16 => ubi (f_X0_forget m15) (fun m18 r19 => ubi (f_X4_open 23 m18) (fun m21 r22 => some ((um_w (um_w (um_w m21 27 1 0) 0 12 0) 0 13 0), (Sum.inl ((um_w (um_w (um_w m21 27 1 0) 0 12 0) 0 13 0) 3 1) : Int32 ⊕ String)))))) ) = some (m', .inl (nI c.1.2.1)) ∧ cI m' (sCo s c) ∧ ∀ q, 38 ≤ q → m' q = m0 q := by
  have ho1 := ho.1
  have ho2 := ho.2.1
  obtain ⟨h1, h2, h3, h4, h5, h6, h7, h8⟩ := hc
  obtain ⟨c1, c2, c3, c4, c5⟩ := hcr
  obtain ⟨m1, g1, g2, g3, g4, g5, g6, g7⟩ := e_copyC m
  obtain ⟨m2, f0, f1, f2⟩ := e_forget m1
  generalize hm3 : um_w (um_wa m2 19 (fun j => if j < 8 then -1 else m2 19 j)) 18 1 0 = m3
  have i1 : ∀ q, q ≠ 18 → q ≠ 19 → m3 q = m2 q := fun q q1 q2 => by
    subst hm3
    rw [um_w_c q1, um_wa_n q2]
  have i2 : m3 18 1 = 0 := by
    subst hm3
    exact um_w_s _ _ _ _
  have i3 : ∀ v, v < 8 → m3 19 v = -1 := fun v hv => by
    subst hm3
    rw [um_w_c (by omega), um_wa_s, if_pos hv]
  generalize hm4 : um_wa m3 24 (fun j => if j < 28 then 0 else m3 24 j) = m4
  have j1 : ∀ q, q ≠ 24 → m4 q = m3 q := fun q q1 => by
    subst hm4
    rw [um_wa_n q1]
  have j2 : m4 24 = opR 0 c.2.2.1 c.2.2.2 := by
    subst hm4
    rw [um_wa_s, opR_0]
    funext i
    by_cases hi : i < 28
    · rw [if_pos hi]
    · rw [if_neg hi, i1 24 (by omega) (by omega), f1 24 (by omega), g2 24 (by omega), k 24 (by omega) (by omega), h2]
      exact hv.2.1.1.2.2 i (by omega)
  have e3 : m4 3 = m1 3 := by rw [j1 3 (by omega), i1 3 (by omega) (by omega), f1 3 (by omega)]
  obtain ⟨m5, l1, l2, l3⟩ := e_openL (m := m4) (T := c.1.2.1) (Mo := c.2.2.1) (Sd := c.2.2.2) ho2 (by rw [e3, g4, c2]) (fun t ht => by
    rw [j1 6 (by omega), i1 6 (by omega) (by omega), f1 6 (by omega), j1 7 (by omega), i1 7 (by omega) (by omega), f1 7 (by omega), (g7 t (by omega)).1, (g7 t (by omega)).2]
    exact c5 t ht) c.1.2.1 0 UF m4 (by omega) (by show c.1.2.1 < 3000; omega) (fun _ _ => rfl) j2
  have e5 : ∀ q, (q ≠ 13 ∧ q ≠ 14 ∧ q ≠ 15) → q ≠ 18 → q ≠ 19 → q ≠ 24 → m5 q = m1 q := fun q q1 q2 q3 q4 => by rw [l2 q q4, j1 q q4, i1 q q2 q3, f1 q q1]
  refine ⟨um_w (um_w (um_w m5 27 1 0) 0 12 0) 0 13 0, ?_, ?_, fun q hq => ?_⟩
  · rw [g1, ubi_mk]
    rw [f0, ubi_mk]
    unfold f_X0_forget
    rw [e_fill (by omega), ubi_mk, hm3, ubi_mk]
    unfold f_X4_open
    rw [e_fill (by omega), ubi_mk, show 23 + 1 = 24 from rfl, hm4, show (0 : Int32) = nI 0 from rfl, l1, ubi_mk]
    have e : (um_w (um_w (um_w m5 27 1 (nI 0)) 0 12 (nI 0)) 0 13 (nI 0)) 3 1 = nI c.1.2.1 := by
      rw [um_w_c (by omega), um_w_c (by omega), um_w_c (by omega), e5 3 (by omega) (by omega) (by omega) (by omega), g4, c2]
    rw [e]
  · have kk : ∀ q, q ≠ 0 → q ≠ 27 → (um_w (um_w (um_w m5 27 1 0) 0 12 0) 0 13 0) q = m5 q := fun q q1 q2 => by rw [um_w_c q1, um_w_c q1, um_w_c q2]
    have k0 : ∀ q, q ≠ 12 → q ≠ 13 → (um_w (um_w (um_w m5 27 1 0) 0 12 0) 0 13 0) 0 q = m 0 q := fun q q1 q2 => by rw [um_w_k q2, um_w_k q1, um_w_c (by omega), e5 0 (by omega) (by omega) (by omega) (by omega), g2 0 (by omega)]
    have km : ∀ q, q ≠ 1 → q ≠ 3 → q ≠ 4 → q ≠ 5 → q ≠ 6 → q ≠ 7 → ¬ (8 ≤ q ∧ q ≤ 12) → (q ≠ 13 ∧ q ≠ 14 ∧ q ≠ 15) → q ≠ 18 → q ≠ 19 → q ≠ 24 → q ≠ 0 → q ≠ 27 → (um_w (um_w (um_w m5 27 1 0) 0 12 0) 0 13 0) q = m0 q := fun q q1 q2 q3 q4 q5 q6 q7 q8 q9 q10 q11 q12 q13 => by rw [kk q q12 q13, e5 q q8 q9 q10 q11, g2 q (by omega), k q q1 q7]
    refine ⟨⟨⟨ho1, ho2, ?_, ?_, fun v hv => ?_, fun v hv => ?_⟩, cL_0 (fun _ => 0) ?_, ?_⟩, ?_, fun i hi => ?_, ⟨?_, fun i hi => ?_, ?_⟩, ⟨?_, fun v hv => ?_⟩, ⟨um_w_s _ _ _ _, ?_, ?_⟩, ⟨?_, fun j hj => absurd hj (Nat.not_lt_zero _)⟩, ?_, fun i hi => absurd hi (Nat.not_lt_zero _)⟩
    · rw [kk 3 (by omega) (by omega), e5 3 (by omega) (by omega) (by omega) (by omega), g3, c1]
    · rw [kk 3 (by omega) (by omega), e5 3 (by omega) (by omega) (by omega) (by omega), g4, c2]
    · rw [kk 4 (by omega) (by omega), e5 4 (by omega) (by omega) (by omega) (by omega), (g6 v (by have : v < c.1.1 := hv; omega)).1]
      exact (c4 v hv).1
    · rw [kk 5 (by omega) (by omega), e5 5 (by omega) (by omega) (by omega) (by omega), (g6 v (by have : v < c.1.1 := hv; omega)).2]
      exact (c4 v hv).2
    · exact cM_of f2 (by rw [kk 13 (by omega) (by omega), l2 13 (by omega), j1 13 (by omega), i1 13 (by omega) (by omega)]) (by rw [kk 14 (by omega) (by omega), l2 14 (by omega), j1 14 (by omega), i1 14 (by omega) (by omega)])
    · rw [kk 3 (by omega) (by omega), e5 3 (by omega) (by omega) (by omega) (by omega), g5, c3]
    · rw [kk 24 (by omega) (by omega)]
      exact l3
    · rw [km 26 (by omega) (by omega) (by omega) (by omega) (by omega) (by omega) (by omega) (by omega) (by omega) (by omega) (by omega) (by omega) (by omega)]
      exact h3 i hi
    · rw [kk 1 (by omega) (by omega), e5 1 (by omega) (by omega) (by omega) (by omega), g2 1 (by omega)]
      exact h11
    · rw [km 2 (by omega) (by omega) (by omega) (by omega) (by omega) (by omega) (by omega) (by omega) (by omega) (by omega) (by omega) (by omega) (by omega)]
      exact h4.2.1 i hi
    · rw [kk 1 (by omega) (by omega), e5 1 (by omega) (by omega) (by omega) (by omega), g2 1 (by omega)]
      exact h15
    · rw [kk 18 (by omega) (by omega), l2 18 (by omega), j1 18 (by omega)]
      exact i2
    · rw [kk 19 (by omega) (by omega), l2 19 (by omega), j1 19 (by omega)]
      exact i3 v hv
    · rw [k0 15 (by omega) (by omega), k 0 (by omega) (by omega)]
      exact h6.2.1
    · rw [k0 16 (by omega) (by omega), k 0 (by omega) (by omega)]
      exact h6.2.2
    · rw [um_w_c (by omega), um_w_c (by omega), um_w_s]
      rfl
    · rw [um_w_k (by omega), um_w_s]
      rfl
  · rw [um_w_c (by omega), um_w_c (by omega), um_w_c (by omega), e5 q (by omega) (by omega) (by omega) (by omega), g2 q (by omega), k q (by omega) (by omega)]
theorem op_corner : uop_corner uI := by
  intro m a1 ⟨s, hc, hr, hv⟩
  have hL6 := hv.2.2.1.1
  by_cases h : 0 ≤ a1 ∧ a1 ≤ nI (qL s)
  · obtain ⟨N, hN, rfl⟩ := lit_cases (qL s) (by omega) h
    refine Or.inl ?_
    obtain ⟨m1, b1, b2, b3, b4, b5, b6⟩ := e_begin hc hv (N := N) (by omega)
    generalize hmf : um_w (um_w (um_w m1 8 0 0) 8 1 0) 8 2 8 = mf
    have hf : ∀ c, c ≠ 8 → mf c = m1 c := fun c q => by
      subst hmf
      rw [um_w_c q, um_w_c q, um_w_c q]
    have hcr : cr mf cs0 := by
      subst hmf
      exact ⟨by rw [um_w_k (by omega), um_w_k (by omega), um_w_s]; rfl, by rw [um_w_k (by omega), um_w_s]; rfl, by rw [um_w_s]; rfl, fun v hv => absurd hv (Nat.not_lt_zero _), fun v hv => absurd hv (Nat.not_lt_zero _)⟩
    have hcl := e_coL (b := qb s) (N := N) (m0 := mf) 61 UF 0 0 mf cs0 rfl (by decide) (by omega) ⟨b3.1, fun k hk => by rw [hf 2 (by omega)]; exact b3.2.1 k hk, by rw [hf 1 (by omega)]; exact b3.2.2⟩ (Nat.zero_le _) ⟨tg_rf _ _, by rw [hf 1 (by omega)]; exact b4, rfl⟩ hcr ok_cs0
    have hfc : f_X7_corner m (nI N) = ubi (f_X1_read_b18 UF mf (nI 0)) (fun m8 r9 => if r9 = 0 then (ubi (f_X5_faultAnswer m8) (fun m24 r25 => some (m24, .inl r25))) else (ubi (f_X1_copyFrom m8) (fun m12 r13 => ubi (f_X2_forget m12) (fun m15 r16 => ubi (f_X0_forget m15) (fun m18 r19 => ubi (f_X4_open 23 m18) (fun m21 r22 => some ((um_w (um_w (um_w m21 27 1 0) 0 12 0) 0 13 0), .inl ((um_w (um_w (um_w m21 27 1 0) 0 12 0) 0 13 0) 3 1)))))))) := by
      unfold f_X7_corner
      rw [hc.2.2.2.1.1, e_need_t h, ubx_l, b1, ubi_mk]
      unfold f_X1_read
      rw [hmf]
      rfl
    have hfr : ∀ M, rI M s → ∃ M1, f_X8_corner M (nI N) = f_X8_corner_b44 UF M1 (nI 0) ∧ (∀ c, c ≠ 38 → M1 c = M c) ∧ (∀ j, 9 ≤ j → j ≠ 14 → j ≠ 15 → j ≠ 16 → M1 38 j = M 38 j) ∧ rA (qb s) N M1 ∧ M1 38 0 = 0 ∧ M1 38 2 = 0 ∧ M1 38 4 = nI 0 ∧ M1 38 5 = -1 ∧ rr M1 cs0 := by
      intro M hM
      have hM0 := rI_K hM (z0_K M)
      obtain ⟨M1, c1, c2, c3, c4, c5, c6, c7, cn8, c9⟩ := r_begin hM0 hv (N := N) (by omega)
      refine ⟨um_w (um_w (um_w M1 38 14 0) 38 15 0) 38 16 8, ?_, fun c q1 => by rw [um_w_c q1, um_w_c q1, um_w_c q1, c2 c q1, z0_n q1], fun j q q1 q2 q3 => by rw [um_w_k q3, um_w_k q2, um_w_k q1, c3 j (by omega), z0_j (by omega)], ⟨c4.1, fun k hk => by rw [um_w_c (by omega), um_w_c (by omega), um_w_c (by omega)]; exact c4.2.1 k hk, by rw [um_w_k (by omega), um_w_k (by omega), um_w_k (by omega)]; exact c4.2.2⟩, by rw [um_w_k (by omega), um_w_k (by omega), um_w_k (by omega), c3 0 (by omega)]; exact z0_0 M, by rw [um_w_k (by omega), um_w_k (by omega), um_w_k (by omega)]; exact c5, by rw [um_w_k (by omega), um_w_k (by omega), um_w_k (by omega)]; exact c6, by rw [um_w_k (by omega), um_w_k (by omega), um_w_k (by omega)]; exact c7, by rw [um_w_k (by omega), um_w_k (by omega), um_w_s]; rfl, by rw [um_w_k (by omega), um_w_s]; rfl, by rw [um_w_s]; rfl, fun v hv => absurd hv (Nat.not_lt_zero _), fun v hv => absurd hv (Nat.not_lt_zero _)⟩
      show (if nI N < 0 then f_X8_corner_b22 (z0 M) (nI N) else if z0 M 38 2 < nI N then f_X8_corner_b22 (z0 M) (nI N) else f_X8_corner_b23 (z0 M) (nI N) 1) = _
      rw [hM0.2.2.1.1, gate2_t (by omega) h]
      unfold f_X8_corner_b23
      rw [r_may_t (z0_0 M), ubi_mk, if_neg i1_0, c1, ubi_mk]
      unfold f_X8_clears
      rw [ubi_mk]
      rfl
    cases hsp : pCo (qb s) N 61 0 0 cs0 with
    | inl e =>
      have hee := pCo_e 61 0 0 cs0 (Nat.zero_le _) ok_cs0 e hsp
      obtain ⟨m2, g1, g2⟩ := hcl.1 e hsp
      have kc : ∀ c, c ≠ 1 → ¬ (8 ≤ c ∧ c ≤ 12) → m2 c = m c := fun c q1 q2 => by rw [g2.1.1 c q2 q1, hf c (by omega), b2 c q1]
      refine wrapT (s' := sTx s (nI e.2)) (fr := fun M => f_X8_corner M (nI N)) hr (vI_t hv _) ⟨nI e.1 - 10, m2, ?_, ?_, fun c q => kc c (by omega) (by omega), fun M hM => ?_⟩
      · rw [hfc, g1, ubi_mk, if_pos rfl]
        unfold f_X5_faultAnswer
        rw [ubi_mk, g2.2.1]
      · exact cI_t hc hv (fun c q => kc c (by omega) (by omega)) (fun j _ => by rw [kc 13 (by omega) (by omega)]) (by rw [g2.1.2 1 (by omega), hf 1 (by omega)]; exact b5) g2.2.2
      · obtain ⟨M1, d1, d2, d3, d4, d5, d6, d7, d8, d9⟩ := hfr M hM
        obtain ⟨M2, f1, f2⟩ := (r_coL (M0 := M1) 61 UF 0 0 M1 cs0 rfl (by decide) (by omega) d4 (Nat.zero_le _) ⟨rg_rf _ _ _, d7, d8, rfl⟩ d9 ok_cs0).1 e hsp hee
        have kj : ∀ j, j < 4 ∨ (9 ≤ j ∧ j ≠ 14 ∧ j ≠ 15 ∧ j ≠ 16) → (um_w M2 38 8 (nI e.2)) 38 j = M1 38 j := fun j q => by rw [um_w_k (by omega), f2.1.2 j (by show ¬ (j = 14 ∨ j = 15 ∨ j = 16); omega) (by omega)]
        have kq : ∀ c, c ≠ 38 → c ≠ 41 → c ≠ 42 → (um_w M2 38 8 (nI e.2)) c = M c := fun c q1 q2 q3 => by rw [um_w_c q1, f2.1.1 c (by show ¬ (c = 41 ∨ c = 42); omega) q1, d2 c q1]
        refine ⟨um_w M2 38 8 (nI e.2), ?_, ?_, fun c q => kq c (by omega) (by omega) (by omega), by rw [kj 0 (by omega)]; exact d5⟩
        · rw [d1, f1]
          unfold f_X8_corner_b136 f_X8_corner_b157
          rw [r_result_f (by omega) f2.2.1 f2.2.2, ubi_mk, um_w_k (by omega), f2.2.1, if_neg (fun q => (nI_ne1 (by omega)).mp q)]
        · exact rI_t hM (fun c q => kq c (by omega) (by omega) (by omega)) (fun j q => by rw [kj j (by omega), d3 j (by omega) (by omega) (by omega) (by omega)]) (by rw [kj 2 (by omega)]; exact d6) (um_w_s _ _ _ _)
    | inr c =>
      obtain ⟨m2, p2, g1, g2, g3, g4⟩ := hcl.2 c hsp
      have kc : ∀ q, q ≠ 1 → ¬ (8 ≤ q ∧ q ≤ 12) → m2 q = m q := fun q q1 q2 => by rw [g2.1.1 q q2 q1, hf q (by omega), b2 q q1]
      obtain ⟨m3, i1, i2, i3⟩ := e_coEnd hc hv kc (by rw [g2.1.2 1 (by omega), hf 1 (by omega)]; exact b5) (by rw [g2.2.2, hf 1 (by omega)]; exact b6) g3 g4
      refine wrapT (s' := sCo s c) (fr := fun M => f_X8_corner M (nI N)) hr (vI_co hv g4) ⟨nI c.1.2.1, m3, ?_, i2, i3, fun M hM => ?_⟩
      · rw [hfc, g1, ubi_mk, if_neg i1_0]
        exact i1
      · obtain ⟨M1, d1, d2, d3, d4, d5, d6, d7, d8, d9⟩ := hfr M hM
        obtain ⟨M2, p3, f1, f2, f3⟩ := (r_coL (M0 := M1) 61 UF 0 0 M1 cs0 rfl (by decide) (by omega) d4 (Nat.zero_le _) ⟨rg_rf _ _ _, d7, d8, rfl⟩ d9 ok_cs0).2 c hsp
        obtain ⟨M3, t1, t2, t3, t4, t5, t6, t7, t8, t9, t10, t11, t12, t13, t14⟩ := r_sets (M := um_w M2 38 8 (-1)) (c := c) (rr_g f3 (um_w_c (by omega)) (um_w_c (by omega)) (fun j hj => um_w_k (by omega))) g4
        have kq : ∀ q, q ≠ 38 → q ≠ 41 → q ≠ 42 → q ≠ 43 → q ≠ 44 → q ≠ 53 → q ≠ 57 → M3 q = M q := fun q q1 q2 q3 q4 q5 q6 q7 => by rw [t2 q q1 q4 q5 q6 q7, um_w_c q1, f2.1.1 q (by show ¬ (q = 41 ∨ q = 42); omega) q1, d2 q q1]
        refine ⟨M3, ?_, ?_, fun q hq => kq q (by omega) (by omega) (by omega) (by omega) (by omega) (by omega) (by omega), by rw [t3 0 (by omega), um_w_k (by omega), f2.1.2 0 (by show ¬ (0 = 14 ∨ 0 = 15 ∨ 0 = 16); omega) (by omega)]; exact d5⟩
        · rw [d1, f1]
          unfold f_X8_corner_b136 f_X8_corner_b157
          rw [f3.2.1, r_result_t f2.2.2.1, ubi_mk, if_pos (by rw [um_w_k (by omega)]; exact f2.2.2.1), t1, ubi_mk]
        · obtain ⟨u1, u2, u3, u4, u5, u6, u7⟩ := hM
          refine ⟨⟨⟨g4.1, g4.2.1, t4, t5, fun v hv => (t12 v hv).1, fun v hv => (t12 v hv).2⟩, ⟨Nat.zero_le _, t7, fun k hk => absurd hk (Nat.not_lt_zero _), fun k hk => absurd hk (Nat.not_lt_zero _)⟩, t6⟩, t14, ⟨?_, fun i hi => ?_, ?_⟩, ⟨t8, t13⟩, ⟨t11, ?_, ?_⟩, ⟨t9, fun j hj => absurd hj (Nat.not_lt_zero _)⟩, t10, fun i hi => absurd hi (Nat.not_lt_zero _)⟩
          · rw [t3 2 (by omega), um_w_k (by omega), f2.1.2 2 (by show ¬ (2 = 14 ∨ 2 = 15 ∨ 2 = 16); omega) (by omega)]
            exact d6
          · rw [kq 40 (by omega) (by omega) (by omega) (by omega) (by omega) (by omega) (by omega)]
            exact u3.2.1 i hi
          · rw [t3 8 (by omega), um_w_s]
          · rw [kq 39 (by omega) (by omega) (by omega) (by omega) (by omega) (by omega) (by omega)]
            exact u5.2.1
          · rw [kq 39 (by omega) (by omega) (by omega) (by omega) (by omega) (by omega) (by omega)]
            exact u5.2.2
  · refine Or.inr ⟨tI m, tR (z0 (tI m)) 1 1, 0, ?_, ?_, tR_0, throwI hc hr hv 1⟩
    · unfold f_X7_corner
      rw [hc.2.2.2.1.1, e_need_f h, ubx_r]
    · have hm := rI_tI hr
      show (if a1 < 0 then f_X8_corner_b22 (z0 (tI m)) a1 else if z0 (tI m) 38 2 < a1 then f_X8_corner_b22 (z0 (tI m)) a1 else f_X8_corner_b23 (z0 (tI m)) a1 1) = _
      rw [hm.2.2.1.1, gate2_f (by omega) h]
      unfold f_X8_corner_b22 f_X8_corner_b23
      rw [r_may_f1 (z0_0 _) i1_0, ubi_mk, if_pos rfl]
