/-! AFTERNOONS -/
theorem sr32767 (v : BitVec 32) : (v >>> (16 : Nat)) &&& 32767#32 = (v.sshiftRight 16) &&& 32767#32 := by
  apply BitVec.eq_of_getLsbD_eq
  intro i hi
  rw [BitVec.getLsbD_and, BitVec.getLsbD_and, BitVec.getLsbD_ushiftRight, BitVec.getLsbD_sshiftRight]
  by_cases h8 : i < 15
  · have h1 : 16 + i < 32 := by omega
    have h2 : ¬ 32 ≤ i := by omega
    simp [h1, h2]
  · have h255 : ∀ i, i < 32 → ¬ i < 15 → (32767#32).getLsbD i = false := by decide
    rw [h255 i hi h8, Bool.and_false, Bool.and_false]
def dM (x : Int32) : Int32 := (x >>> (16 &&& 31)) &&& 32767
theorem dM_c (x : Int32) : (uus x 16) &&& 32767 = dM x := Int32.toBitVec_inj.mp (sr32767 x.toBitVec)
def dN_ (x : Int32) : Nat := (dM x).toBitVec.toNat
theorem dN_ok (x : Int32) : dM x = nI (dN_ x) ∧ dN_ x ≤ 32767 := by
  have h : (dM x).toBitVec.toNat ≤ 32767 := by
    unfold dM
    rw [Int32.toBitVec_and, BitVec.toNat_and]
    exact Nat.and_le_right
  refine ⟨?_, h⟩
  apply Int32.toInt_inj.mp
  unfold dN_
  rw [nI_toInt (by omega)]
  show (dM x).toBitVec.toInt = _
  rw [BitVec.toInt_eq_toNat_of_lt (by omega)]
def nx (x : Int32) : Int32 := x * 1103515245 + 12345
theorem e_draw {m : Um} {n : Nat} {x : Int32} (hx : x = nI n) (h0 : 0 < n) (hn : n ≤ 20) : f_X7_draw m x = some (um_w m 0 14 (nx (m 0 14)), nI (dN_ (nx (m 0 14)) % n)) := by
  subst hx
  have hd := dN_ok (nx (m 0 14))
  unfold f_X7_draw f_X7_draw_b37
  rw [if_neg (nI_nle h0 (by omega)), unz_ne (nI_ne0 h0 (by omega)), ugd_t, um_w_s]
  show some (um_w m 0 14 (nx (m 0 14)), (uus (nx (m 0 14)) 16 &&& 32767) % nI n) = _
  rw [dM_c, hd.1, nI_mod (by omega) (by omega)]
theorem r_draw {m : Um} {n : Nat} {x : Int32} (hx : x = nI n) (h0 : 0 < n) (hn : n ≤ 20) : f_X8_draws m x = some (um_w m 38 46 (nx (m 38 46)), nI (dN_ (nx (m 38 46)) % n)) := by
  subst hx
  have hd := dN_ok (nx (m 38 46))
  unfold f_X8_draws
  rw [unz_ne (nI_ne0 h0 (by omega)), ugd_t, um_w_s]
  show some (um_w m 38 46 (nx (m 38 46)), dM (nx (m 38 46)) % nI n) = _
  rw [hd.1, nI_mod (by omega) (by omega)]
/-- one breath of an afternoon -/
def afR (T : Nat) (q : Int32) (p : (Nat → Int32) × Int32) : Nat → Int32 := if T = 0 then p.1 else rDrift (if q ≤ nI (dN_ (nx (nx (nx p.2))) % 16) then -(1 + nI (dN_ (nx (nx (nx (nx p.2)))) % 20)) else 1 + nI (dN_ (nx (nx (nx (nx p.2)))) % 20)) (rBlow p.1 (dN_ (nx p.2) % T) (1 + nI (dN_ (nx (nx p.2)) % 20)))
def afS (s : Ss) (q : Int32) (p : (Nat → Int32) × Int32) : (Nat → Int32) × Int32 := (sBr s (afR (qT s) q p), if qT s = 0 then p.2 else nx (nx (nx (nx p.2))))
def afI (s : Ss) (q : Int32) : Nat → (Nat → Int32) × Int32 → (Nat → Int32) × Int32
  | 0, p => p
  | k + 1, p => afI s q k (afS s q p)
theorem sz_ok (x : Nat) : 0 ≤ (1 + nI (x % 20)).toInt ∧ (1 + nI (x % 20)).toInt ≤ 20 := by
  have h : x % 20 < 20 := Nat.mod_lt _ (by omega)
  have e : (1 + nI (x % 20) : Int32) = nI (1 + x % 20) := lit_add 1 (x % 20)
  rw [e, nI_toInt (by omega)]
  omega
theorem vR_afR {T : Nat} (hT : T ≤ 5) (q : Int32) {p : (Nat → Int32) × Int32} (h : vR T p.1) : vR T (afR T q p) := by
  unfold afR
  by_cases h0 : T = 0
  · rw [if_pos h0]
    exact h
  · rw [if_neg h0]
    exact vR_drift (vR_blow h (Nat.mod_lt _ (by omega)) hT (sz_ok _).1 (sz_ok _).2) _
theorem vR_afS {s : Ss} (hT : qT s ≤ 5) (q : Int32) {p : (Nat → Int32) × Int32} (h : vR (qT s) p.1) : vR (qT s) (afS s q p).1 := vR_breathe (vR_afR hT q h) _ _ _ _ _ _
theorem vR_afI {s : Ss} (hT : qT s ≤ 5) (q : Int32) : ∀ (k : Nat) (p : (Nat → Int32) × Int32), vR (qT s) p.1 → vR (qT s) (afI s q k p).1
  | 0, _, h => h
  | k + 1, p, h => vR_afI hT q k (afS s q p) (vR_afS hT q h)
def cTo (m m1 : Um) (R : Nat → Int32) (sd : Int32) : Prop := (∀ c, c ≠ 0 → c ≠ 16 → c ≠ 17 → c ≠ 26 → m1 c = m c) ∧ (∀ k, k ≠ 14 → m1 0 k = m 0 k) ∧ m1 0 14 = sd ∧ m1 26 = R
def rTo (m m1 : Um) (R : Nat → Int32) (sd : Int32) : Prop := (∀ c, c ≠ 38 → c ≠ 49 → c ≠ 50 → c ≠ 54 → m1 c = m c) ∧ (∀ k, k ≠ 46 → m1 38 k = m 38 k) ∧ m1 38 46 = sd ∧ cv (m1 54) = R
theorem cTo_d {m m1 : Um} {R : Nat → Int32} {sd x : Int32} (h : cTo m m1 R sd) : cTo m (um_w m1 0 14 x) R x := ⟨fun c a b d e => by rw [um_w_c a, h.1 c a b d e], fun k a => by rw [um_w_k a, h.2.1 k a], um_w_s _ _ _ _, by rw [um_w_c (by omega)]; exact h.2.2.2⟩
theorem rTo_d {m m1 : Um} {R : Nat → Int32} {sd x : Int32} (h : rTo m m1 R sd) : rTo m (um_w m1 38 46 x) R x := ⟨fun c a b d e => by rw [um_w_c a, h.1 c a b d e], fun k a => by rw [um_w_k a, h.2.1 k a], um_w_s _ _ _ _, by rw [um_w_c (by omega)]; exact h.2.2.2⟩
theorem cTo_r {m m1 : Um} {R R' : Nat → Int32} {sd : Int32} (h : cTo m m1 R sd) : cTo m (um_wa m1 26 R') R' sd := ⟨fun c a b d e => by rw [um_wa_n e, h.1 c a b d e], fun k a => by rw [um_wa_n (by omega), h.2.1 k a], by rw [um_wa_n (by omega)]; exact h.2.2.1, um_wa_s _ _ _⟩
theorem rTo_r {m m1 : Um} {R R' S : Nat → Int32} {sd : Int32} (h : rTo m m1 R sd) (hS : cv S = R') : rTo m (um_wa m1 54 S) R' sd := ⟨fun c a b d e => by rw [um_wa_n e, h.1 c a b d e], fun k a => by rw [um_wa_n (by omega), h.2.1 k a], by rw [um_wa_n (by omega)]; exact h.2.2.1, by rw [um_wa_s]; exact hS⟩
section AFT
variable {m : Um} {s : Ss} {q : Int32}
theorem afR_0 (T : Nat) (q : Int32) (p : (Nat → Int32) × Int32) : afR T q p 0 = p.1 0 := by
  unfold afR
  by_cases h0 : T = 0
  · rw [if_pos h0]
  · rw [if_neg h0, rDrift_0, rBlow_0]
theorem e_breA {m1 : Um} {R : Nat → Int32} {sd : Int32} (hc : cI m s) (h : cTo m m1 R sd) {b : Int} (hb : (R 0).toInt ≤ b) (hb2 : b < 2147483647) : ∃ m2, f_X4_breathe 25 m1 2147483647 = some (m2, 1) ∧ cTo m m2 (sBr s R) sd := by
  obtain ⟨m2, e1, e2, e3⟩ := e_breathe (o := 25) (m := m1) (x := 2147483647) (Or.inr rfl) (cX_of hc.1 (fun c hq => h.1 c (by omega) (by omega) (by omega) (by omega))) (lt_end (show (m1 26 0).toInt ≤ b by rw [h.2.2.2]; exact hb) hb2)
  refine ⟨m2, e1, fun c a b d e => ?_, fun k a => ?_, ?_, ?_⟩
  · rw [e3 c b d e, h.1 c a b d e]
  · rw [e3 0 (by omega) (by omega) (by omega), h.2.1 k a]
  · rw [e3 0 (by omega) (by omega) (by omega)]
    exact h.2.2.1
  · rw [show (26 : Nat) = 25 + 1 from rfl, e2, show (25 + 1 : Nat) = 26 from rfl, h.2.2.2]
theorem rX_To {m1 : Um} {R : Nat → Int32} {sd : Int32} (hr : rI m s) (h : rTo m m1 R sd) : rX m1 (qV s) (qT s) (qX s) (qW s) (qn s) (qA s) (qz s) := rX_of' hr.1 (fun k hk => h.2.1 k (by omega)) (fun c hc => h.1 c (by omega) (by omega) (by omega) (by omega))
theorem r_pasA {m1 : Um} {R : Nat → Int32} {sd : Int32} (hr : rI m s) (h : rTo m m1 R sd) (hR : vR (qT s) R) : ∃ m2, f_X8_passes m1 = some (m2, ()) ∧ rTo m m2 (sBr s R) sd := by
  have hv1 : vR (qT s) (cv (m1 54)) := by rw [h.2.2.2]; exact hR
  obtain ⟨m2, e1, e2, e3⟩ := r_passes (rX_To hr h) hv1 (vR_age hv1)
  refine ⟨m2, e1, fun c a b d e => ?_, fun k a => ?_, ?_, ?_⟩
  · rw [e3 c b d e, h.1 c a b d e]
  · rw [e3 38 (by omega) (by omega) (by omega), h.2.1 k a]
  · rw [e3 38 (by omega) (by omega) (by omega)]
    exact h.2.2.1
  · rw [e2, h.2.2.2]
theorem e_play (hc : cI m s) (hT : qT s ≤ 5) {n : Nat} (hn : n ≤ 48) : ∀ (j i fuel : Nat) (m1 : Um) (p : (Nat → Int32) × Int32), i + j = n → j < fuel → cTo m m1 p.1 p.2 → (p.1 0).toInt ≤ 400 + (i : Int) → ∃ m2, f_X7_playAfternoon_b19 fuel m1 q (nI n) (nI i) = some (m2, ()) ∧ cTo m m2 (afI s q j p).1 (afI s q j p).2
  | j, i, 0, m1, p, _, hf, _, _ => absurd hf (Nat.not_lt_zero _)
  | 0, i, fuel + 1, m1, p, hk, _, h, _ => by
    refine ⟨m1, ?_, h⟩
    rw [f_X7_playAfternoon_b19, if_pos (nI_le (by omega) (by omega))]
  | j + 1, i, fuel + 1, m1, p, hk, hf, h, hb => by
    have hb3 : (afR (qT s) q p 0).toInt ≤ 400 + (i : Int) := by rw [afR_0]; exact hb
    have hb4 : ((afS s q p).1 0).toInt ≤ 400 + ((i + 1 : Nat) : Int) := by
      have := bre_le (X := qX s) (W := qW s) (V := qV s) (A := qA s) (n := qn s) (z := qz s) hb3 (by omega)
      show (rBreathe (qX s) (qW s) (qV s) (qA s) (qn s) (qz s) (afR (qT s) q p) 0).toInt ≤ 400 + ((i + 1 : Nat) : Int)
      omega
    have hT3 : ∀ {mm : Um} {R : Nat → Int32} {sd : Int32}, cTo m mm R sd → mm 3 1 = nI (qT s) := fun g => by rw [g.1 3 (by omega) (by omega) (by omega) (by omega)]; exact hc.1.1.2.2.2.1
    have fin : ∀ m3, cTo m m3 (afR (qT s) q p) (if qT s = 0 then p.2 else nx (nx (nx (nx p.2)))) → ∃ m2, f_X7_playAfternoon_b114 (f_X7_playAfternoon_b19 fuel) m3 q (nI n) (nI i) = some (m2, ()) ∧ cTo m m2 (afI s q (j + 1) p).1 (afI s q (j + 1) p).2 := by
      intro m3 h3
      obtain ⟨m4, e4, h4⟩ := e_breA hc h3 hb3 (by omega)
      unfold f_X7_playAfternoon_b114
      rw [e4, ubi_mk, nI_1]
      exact e_play hc hT hn j (i + 1) fuel m4 (afS s q p) (by omega) (by omega) h4 hb4
    rw [f_X7_playAfternoon_b19, if_neg (nI_ge (by omega) (by omega)), hT3 h]
    by_cases h0 : qT s = 0
    · rw [if_pos (show nI (qT s) ≤ 0 by rw [h0]; decide)]
      refine fin m1 ?_
      unfold afR
      rw [if_pos h0, if_pos h0]
      exact h
    · have ht : dN_ (nx p.2) % qT s < qT s := Nat.mod_lt _ (by omega)
      have h1 := cTo_d (x := nx p.2) h
      have h2 := cTo_d (x := nx (nx p.2)) h1
      have h3 := cTo_r (R' := rBlow p.1 (dN_ (nx p.2) % qT s) (1 + nI (dN_ (nx (nx p.2)) % 20))) h2
      have h4 := cTo_d (x := nx (nx (nx p.2))) h3
      have h5 := cTo_d (x := nx (nx (nx (nx p.2)))) h4
      rw [if_neg (nI_nle (by omega) (by omega)), e_draw rfl (by omega) (by omega), ubi_mk, h.2.2.1, e_draw (n := 20) (x := 20) rfl (by omega) (by omega), ubi_mk, um_w_s, e_blow (by omega), ubi_mk, h2.2.2.2, e_draw (n := 16) (x := 16) rfl (by omega) (by omega), ubi_mk, h3.2.2.1]
      unfold f_X7_playAfternoon_b81 f_X7_playAfternoon_b110
      rw [e_draw (n := 20) (x := 20) rfl (by omega) (by omega), ubi_mk, h4.2.2.1]
      have dr : ∀ w : Int32, w = (if q ≤ nI (dN_ (nx (nx (nx p.2))) % 16) then -(1 + nI (dN_ (nx (nx (nx (nx p.2)))) % 20)) else 1 + nI (dN_ (nx (nx (nx (nx p.2)))) % 20)) → ∃ m2, ubi (f_X4_drift 25 (um_w (um_w (um_wa (um_w (um_w m1 0 14 (nx p.2)) 0 14 (nx (nx p.2))) (25 + 1) (rBlow p.1 (dN_ (nx p.2) % qT s) (1 + nI (dN_ (nx (nx p.2)) % 20)))) 0 14 (nx (nx (nx p.2)))) 0 14 (nx (nx (nx (nx p.2))))) w) (fun m1 r2 => f_X7_playAfternoon_b114 (f_X7_playAfternoon_b19 fuel) m1 q (nI n) (nI i)) = some (m2, ()) ∧ cTo m m2 (afI s q (j + 1) p).1 (afI s q (j + 1) p).2 := by
        intro w hw
        rw [e_drift, ubi_mk, h5.2.2.2]
        refine fin _ ?_
        have h6 := cTo_r (R' := rDrift w (rBlow p.1 (dN_ (nx p.2) % qT s) (1 + nI (dN_ (nx (nx p.2)) % 20)))) h5
        unfold afR
        rw [if_neg h0, if_neg h0, ← hw]
        exact h6
      by_cases hq : q ≤ nI (dN_ (nx (nx (nx p.2))) % 16)
      · rw [if_pos hq, if_pos rfl]
        exact dr _ (by rw [if_pos hq])
      · rw [if_neg hq, ubi_mk, if_neg i1_0]
        exact dr _ (by rw [if_neg hq])
theorem r_play (hr : rI m s) (hT : qT s ≤ 5) {n : Nat} (hn : n ≤ 48) : ∀ (j i fuel : Nat) (m1 : Um) (p : (Nat → Int32) × Int32), i + j = n → j < fuel → vR (qT s) p.1 → rTo m m1 p.1 p.2 → ∃ m2, f_X8_afternoonGoes_b12 fuel m1 q (nI n) (nI i) = some (m2, ()) ∧ rTo m m2 (afI s q j p).1 (afI s q j p).2
  | j, i, 0, m1, p, _, hf, _, _ => absurd hf (Nat.not_lt_zero _)
  | 0, i, fuel + 1, m1, p, hk, _, _, h => by
    refine ⟨m1, ?_, h⟩
    rw [f_X8_afternoonGoes_b12, if_pos (nI_le (by omega) (by omega))]
  | j + 1, i, fuel + 1, m1, p, hk, hf, hv, h => by
    have hT3 : m1 38 18 = nI (qT s) := by rw [h.2.1 18 (by omega)]; exact hr.1.1.2.2.2.1
    have fin : ∀ m3, rTo m m3 (afR (qT s) q p) (if qT s = 0 then p.2 else nx (nx (nx (nx p.2)))) → ∃ m2, f_X8_afternoonGoes_b95 (f_X8_afternoonGoes_b12 fuel) m3 q (nI n) (nI i) = some (m2, ()) ∧ rTo m m2 (afI s q (j + 1) p).1 (afI s q (j + 1) p).2 := by
      intro m3 h3
      obtain ⟨m4, e4, h4⟩ := r_pasA hr h3 (vR_afR hT q hv)
      unfold f_X8_afternoonGoes_b95
      rw [e4, ubi_mk, nI_1]
      exact r_play hr hT hn j (i + 1) fuel m4 (afS s q p) (by omega) (by omega) (vR_afS hT q hv) h4
    rw [f_X8_afternoonGoes_b12, if_neg (nI_ge (by omega) (by omega)), hT3]
    by_cases h0 : qT s = 0
    · rw [if_pos (show nI (qT s) ≤ 0 by rw [h0]; decide)]
      refine fin m1 ?_
      unfold afR
      rw [if_pos h0, if_pos h0]
      exact h
    · have ht : dN_ (nx p.2) % qT s < qT s := Nat.mod_lt _ (by omega)
      have h1 := rTo_d (x := nx p.2) h
      have h2 := rTo_d (x := nx (nx p.2)) h1
      obtain ⟨S3, g1, g2⟩ := r_blown (m := um_w (um_w m1 38 46 (nx p.2)) 38 46 (nx (nx p.2))) (t := dN_ (nx p.2) % qT s) (by omega) (1 + nI (dN_ (nx (nx p.2)) % 20))
      rw [h2.2.2.2] at g2
      have h3 := rTo_r h2 g2
      have h4 := rTo_d (x := nx (nx (nx p.2))) h3
      have h5 := rTo_d (x := nx (nx (nx (nx p.2)))) h4
      rw [if_neg (nI_nle (by omega) (by omega)), r_draw rfl (by omega) (by omega), ubi_mk, h.2.2.1, r_draw (n := 20) (x := 20) rfl (by omega) (by omega), ubi_mk, um_w_s, g1, ubi_mk, r_draw (n := 16) (x := 16) rfl (by omega) (by omega), ubi_mk, h3.2.2.1]
      unfold f_X8_afternoonGoes_b65 f_X8_afternoonGoes_b91
      rw [r_draw (n := 20) (x := 20) rfl (by omega) (by omega), ubi_mk, h4.2.2.1]
      have hv5 : vR (qT s) (rBlow p.1 (dN_ (nx p.2) % qT s) (1 + nI (dN_ (nx (nx p.2)) % 20))) := vR_blow hv ht hT (sz_ok _).1 (sz_ok _).2
      have dr : ∀ w : Int32, w = (if q ≤ nI (dN_ (nx (nx (nx p.2))) % 16) then -(1 + nI (dN_ (nx (nx (nx (nx p.2)))) % 20)) else 1 + nI (dN_ (nx (nx (nx (nx p.2)))) % 20)) → ∃ m2, ubi (f_X8_isDriven (um_w (um_w (um_wa (um_w (um_w m1 38 46 (nx p.2)) 38 46 (nx (nx p.2))) 54 S3) 38 46 (nx (nx (nx p.2)))) 38 46 (nx (nx (nx (nx p.2))))) w) (fun m1 r2 => f_X8_afternoonGoes_b95 (f_X8_afternoonGoes_b12 fuel) m1 q (nI n) (nI i)) = some (m2, ()) ∧ rTo m m2 (afI s q (j + 1) p).1 (afI s q (j + 1) p).2 := by
        intro w hw
        obtain ⟨S6, l1, l2⟩ := r_driven (rX_To hr h5).1 (by rw [h5.2.2.2]; exact hv5) w
        rw [h5.2.2.2] at l2
        rw [l1, ubi_mk]
        refine fin _ ?_
        have h6 := rTo_r h5 l2
        unfold afR
        rw [if_neg h0, if_neg h0, ← hw]
        exact h6
      by_cases hq : q ≤ nI (dN_ (nx (nx (nx p.2))) % 16)
      · rw [if_pos hq, if_pos rfl]
        exact dr _ (by rw [if_pos hq])
      · rw [if_neg hq, ubi_mk, if_neg i1_0]
        exact dr _ (by rw [if_neg hq])
theorem e_after (hc : cI m s) (hv : vI s) (x : Int32) {n : Nat} (hn : n ≤ 48) : ∃ m2, f_X7_playAfternoon m x q (nI n) = some (m2, ()) ∧ cK m m2 ∧ m2 24 = qR s ∧ m2 26 = (afI s q n (qR s, x)).1 := by
  have hT := vI_T hc
  obtain ⟨m1, e1, h1⟩ := e_copyT hc hv
  have h0 : cTo m (um_w m1 0 14 x) (qR s) x := ⟨fun c a b d e => by rw [um_w_c a, h1.1 c b d e], fun k a => by rw [um_w_k a, h1.1 0 (by omega) (by omega) (by omega)], um_w_s _ _ _ _, by rw [um_w_c (by omega)]; exact h1.2⟩
  obtain ⟨m2, e2, h2⟩ := e_play (q := q) hc hT hn n 0 UF _ (qR s, x) (by omega) (by show n < 3000; omega) h0 (by have := hv.2.1.2; show (qR s 0).toInt ≤ 400 + ((0 : Nat) : Int); omega)
  have hvR := vR_afI hT q n (qR s, x) hv.2.1.1
  refine ⟨m2, ?_, ⟨fun c a b d e _ _ => h2.1 c a b d e, h2.2.1, fun i hi => by rw [h2.2.2.2]; exact hvR.2.2 i hi⟩, by rw [h2.1 24 (by omega) (by omega) (by omega) (by omega)]; exact hc.2.1, h2.2.2.2⟩
  unfold f_X7_playAfternoon
  rw [e1, ubi_mk]
  exact e2
theorem r_after (hr : rI m s) (hv : vI s) (hT : qT s ≤ 5) (x : Int32) {n : Nat} (hn : n ≤ 48) : ∃ m2, f_X8_afternoonGoes m x q (nI n) = some (m2, ()) ∧ rK m m2 ∧ m2 38 0 = m 38 0 ∧ cv (m2 53) = qR s ∧ cv (m2 54) = (afI s q n (qR s, x)).1 := by
  obtain ⟨m1, e1, h1⟩ := r_takeT hr
  have h0 : rTo m (um_w m1 38 46 x) (qR s) x := ⟨fun c a b d e => by rw [um_w_c a, h1.1 c b d e], fun k a => by rw [um_w_k a, h1.1 38 (by omega) (by omega) (by omega)], um_w_s _ _ _ _, by rw [um_w_c (by omega)]; exact h1.2⟩
  obtain ⟨m2, e2, h2⟩ := r_play (q := q) hr hT hn n 0 UF _ (qR s, x) (by omega) (by show n < 3000; omega) hv.2.1.1 h0
  refine ⟨m2, ?_, ⟨fun c a b d e _ _ _ _ => h2.1 c a b d e, fun k _ a => h2.2.1 k a⟩, h2.2.1 0 (by omega), by rw [h2.1 53 (by omega) (by omega) (by omega) (by omega)]; exact hr.2.1, h2.2.2.2⟩
  unfold f_X8_afternoonGoes
  rw [e1, ubi_mk]
  exact e2
end AFT
theorem lt_le_i {a b : Int32} : a < b ↔ ¬ b ≤ a := by
  rw [Int32.lt_iff_toInt_lt, Int32.le_iff_toInt_le]
  omega
theorem r_isAf_t {M : Um} {a b : Int32} (h1 : 0 ≤ a ∧ a ≤ 16) (h2 : 1 ≤ b ∧ b ≤ 48) : f_X8_isAfternoon M a b = some (M, 1) := by
  unfold f_X8_isAfternoon f_X8_isAfternoon_b26
  rw [if_neg (fun q => lt_le_i.mp q h1.1), if_neg (fun q => lt_le_i.mp q h1.2), if_neg (fun q => lt_le_i.mp q h2.1), if_neg (fun q => lt_le_i.mp q h2.2), ub01_1, ugd_t]
theorem r_isAf_f {M : Um} {a b : Int32} (h : ¬ ((0 ≤ a ∧ a ≤ 16) ∧ 1 ≤ b ∧ b ≤ 48)) : f_X8_isAfternoon M a b = some (M, 0) := by
  unfold f_X8_isAfternoon f_X8_isAfternoon_b25 f_X8_isAfternoon_b26
  rw [ub01_0, ugd_t]
  by_cases q1 : a < 0
  · rw [if_pos q1]
  · rw [if_neg q1]
    by_cases q2 : 16 < a
    · rw [if_pos q2]
    · rw [if_neg q2]
      by_cases q3 : b < 1
      · rw [if_pos q3]
      · rw [if_neg q3]
        by_cases q4 : 48 < b
        · rw [if_pos q4]
        · refine absurd ?_ h
          rw [lt_le_i, Classical.not_not] at q1 q2 q3 q4
          exact ⟨⟨q1, q2⟩, q3, q4⟩
theorem op_afternoon : uop_afternoon uI := by
  intro m a1 a2 a3 a4 ⟨s, hc, hr, hv⟩
  have hT5 := vI_T hc
  have hV8 := vI_V hc
  have hm := rI_tI hr
  have rf : f_X8_afternoon_b28 (z0 (tI m)) a1 a2 a3 a4 = some (tR (z0 (tI m)) 1 1, 0) := by
    unfold f_X8_afternoon_b28 f_X8_afternoon_b29
    rw [r_may_f1 (z0_0 _) i1_0, ubi_mk, if_pos rfl]
  have rs : ∀ M, f_X8_afternoon M a1 a2 a3 a4 = ubi (f_X8_isAfternoon (z0 M) a2 a3) (fun m1 r2 => if r2 = 0 then (f_X8_afternoon_b28 m1 a1 a2 a3 a4) else (ubi (f_X8_within m1 a4 0 3) (fun m5 r6 => if r6 = 0 then (f_X8_afternoon_b28 m5 a1 a2 a3 a4) else (f_X8_afternoon_b29 m5 a1 a2 a3 a4 1)))) := fun M => rfl
  by_cases h2 : 0 ≤ a2 ∧ a2 ≤ 16
  · by_cases h3 : 1 ≤ a3 ∧ a3 ≤ 48
    · by_cases h4 : 0 ≤ a4 ∧ a4 ≤ 3
      · refine Or.inl (wrapI (fr := fun M => f_X8_afternoon M a1 a2 a3 a4) hc hr hv ?_)
        obtain ⟨n, hn, rfl⟩ := lit_cases (x := a3) 48 (by omega) ⟨by
          have := h3.1
          rw [Int32.le_iff_toInt_le] at this ⊢
          rw [i_0]
          rw [i_1] at this
          omega, h3.2⟩
        obtain ⟨m2, e2, k2, g24, g26⟩ := e_after (q := a2) hc hv a1 hn
        have hc2 := cI_K hc hv k2
        refine ⟨if a4 = 0 then bits 5 (sHas (afI s a2 n (qR s, a1)).1) else if a4 = 1 then (afI s a2 n (qR s, a1)).1 1 - qR s 1 else if a4 = 2 then (afI s a2 n (qR s, a1)).1 2 - qR s 2 else sAll (qX s) (qW s) (afI s a2 n (qR s, a1)).1 (qV s), m2, ?_, k2, fun M hM => ?_⟩
        · unfold f_X7_afternoon f_X7_needAfternoon
          rw [e_need_t h2, ubx_l, e_need_t h3, ubx_l, ubx_l, e_need_t h4, ubx_l, e2, ubi_mk, e_holders, ubi_mk, e_worthHad hc2.1.1, ubi_mk, show (25 + 1 : Nat) = 26 from rfl, g24, g26]
          by_cases q0 : a4 = 0
          · rw [if_pos q0, if_pos q0]
          · rw [if_neg q0, if_neg q0]
            by_cases q1 : a4 = 1
            · rw [if_pos q1, if_pos q1]
            · rw [if_neg q1, if_neg q1]
              by_cases q2 : a4 = 2
              · rw [if_pos q2, if_pos q2]
              · rw [if_neg q2, if_neg q2]
        · have hM0 := rI_K hM (z0_K M)
          obtain ⟨M2, f2, l2, l0, l53, l54⟩ := r_after (q := a2) hM0 hv hT5 a1 hn
          have hM2 := rI_K hM0 l2
          have hvR : vR (qT s) (cv (M2 54)) := by rw [l54]; exact vR_afI hT5 a2 n (qR s, a1) hv.2.1.1
          refine ⟨M2, ?_, rK_tr (z0_K M) l2, l0.trans (z0_0 M)⟩
          show f_X8_afternoon M a1 a2 (nI n) a4 = _
          rw [rs, r_isAf_t h2 h3, ubi_mk, if_neg i1_0, r_wit_t h4, ubi_mk, if_neg i1_0]
          unfold f_X8_afternoon_b29 f_X8_afternoon_b110
          rw [r_may_t (z0_0 M), ubi_mk, if_neg i1_0, f2, ubi_mk, r_holders hM2.1.1 hvR, ubi_mk, r_all hM2.1.1 hvR, ubi_mk, l54, show M2 54 25 = cv (M2 54) 1 from rfl, show M2 53 25 = cv (M2 53) 1 from rfl, show M2 54 26 = cv (M2 54) 2 from rfl, show M2 53 26 = cv (M2 53) 2 from rfl, l53, l54]
          by_cases q0 : a4 = 0
          · rw [if_pos q0, if_pos q0]
          · rw [if_neg q0, if_neg q0]
            by_cases q1 : a4 = 1
            · rw [if_pos q1, if_pos q1]
            · rw [if_neg q1, if_neg q1]
              by_cases q2 : a4 = 2
              · rw [if_pos q2, if_pos q2]
              · rw [if_neg q2, if_neg q2]
      · refine Or.inr ⟨tI m, tR (z0 (tI m)) 1 1, 0, ?_, ?_, tR_0, throwI hc hr hv 1⟩
        · unfold f_X7_afternoon f_X7_needAfternoon
          rw [e_need_t h2, ubx_l, e_need_t h3, ubx_l, ubx_l, e_need_f h4, ubx_r]
        · rw [rs, r_isAf_t h2 h3, ubi_mk, if_neg i1_0, r_wit_f h4, ubi_mk, if_pos rfl, rf]
    · refine Or.inr ⟨tI m, tR (z0 (tI m)) 1 1, 0, ?_, ?_, tR_0, throwI hc hr hv 1⟩
      · unfold f_X7_afternoon f_X7_needAfternoon
        rw [e_need_t h2, ubx_l, e_need_f h3, ubx_r, ubx_r]
      · rw [rs, r_isAf_f (fun q => h3 q.2), ubi_mk, if_pos rfl, rf]
  · refine Or.inr ⟨tI m, tR (z0 (tI m)) 1 1, 0, ?_, ?_, tR_0, throwI hc hr hv 1⟩
    · unfold f_X7_afternoon f_X7_needAfternoon
      rw [e_need_f h2, ubx_r, ubx_r]
    · rw [rs, r_isAf_f (fun q => h2 q.1), ubi_mk, if_pos rfl, rf]
