/-! CALLS THAT CHANGE: both sides go from one state to the next -/
theorem wrapS {m : Um} {s s' : Ss} {fc : Option (Um × Int32)} {fr : Um → Option (Um × Int32)} (hr : rI m s) (hv : vI s') (key : ∃ (r : Int32) (m1 : Um), fc = some (m1, r) ∧ cI m1 s' ∧ (∀ c, 38 ≤ c → m1 c = m c) ∧ ∀ M, rI M s → ∃ m2, fr M = some (m2, r) ∧ rI m2 s' ∧ ∀ c, c < 38 → m2 c = M c) : ∃ (m1 : Um) (r : Int32) (m2 : Um), fc = some (m1, r) ∧ fr m1 = some (m2, r) ∧ uI m2 := by
  obtain ⟨r, m1, e1, k1, k2, h⟩ := key
  obtain ⟨m2, e2, k3, k4⟩ := h m1 (rI_of hr (fun c h1 _ => k2 c h1))
  exact ⟨m1, r, m2, e1, e2, s', cI_of k1 hv k4, k3, hv⟩
theorem wrapT {m : Um} {s s' : Ss} {fc : Option (Um × (Int32 ⊕ String))} {fr : Um → Option (Um × Int32)} (hr : rI m s) (hv : vI s') (key : ∃ (r : Int32) (m1 : Um), fc = some (m1, .inl r) ∧ cI m1 s' ∧ (∀ c, 38 ≤ c → m1 c = m c) ∧ ∀ M, rI M s → ∃ m2, fr M = some (m2, r) ∧ rI m2 s' ∧ (∀ c, c < 38 ∨ c = 63 → m2 c = M c) ∧ m2 38 0 = 0) : ∃ (m1 : Um) (r : Int32) (m2 : Um), fc = some (m1, .inl r) ∧ fr (um_L m1 r.toInt64) = some (m2, r) ∧ m2 38 0 = 0 ∧ m2 63 = (um_L m1 r.toInt64) 63 ∧ uI m2 := by
  obtain ⟨r, m1, e1, k1, k2, h⟩ := key
  obtain ⟨m2, e2, k3, k4, k5⟩ := h (um_L m1 r.toInt64) (rI_of hr (fun c h1 h2 => by rw [um_L_n (by omega), k2 c h1]))
  exact ⟨m1, r, m2, e1, e2, k5, k4 63 (Or.inr rfl), s', cI_of k1 hv (fun c hc => by rw [k4 c (Or.inl hc), um_L_n (by omega)]), k3, hv⟩
theorem ucp_n {a b n l0 l1 : Nat} (h0 : a + n ≤ l0) (h1 : b + n ≤ l1) (g0 : l0 < 2 ^ 31) (g1 : l1 < 2 ^ 31) : ucp_ok (nI a) (nI b) (nI n) l0 l1 = true := by
  unfold ucp_ok
  rw [nI_clamp (by omega), nI_clamp (by omega), nI_clamp (by omega)]
  exact decide_eq_true ⟨nI_pos (by omega), nI_pos (by omega), nI_pos (by omega), h0, h1⟩
theorem um_cp_n {m : Um} {c0 c1 a b n : Nat} (ha : a < 2 ^ 31) (hb : b < 2 ^ 31) (hn : n < 2 ^ 31) : um_cp m c0 (nI a) c1 (nI b) (nI n) = um_wa m c1 (va_cpy (m c0) (m c1) a b n) := by
  unfold um_cp
  rw [nI_clamp ha, nI_clamp hb, nI_clamp hn]
/-! the past -/
theorem e_recall {m : Um} {w : Nat} (h : m 27 1 = nI w) (hw : w ≤ 16) (h24 : ∀ i, 28 ≤ i → m 24 i = 0) : f_X3_recall 27 m = some (um_wa m 24 (sl (m 28) (28 * w)), ()) := by
  have hu : ucp_ok (nI (w * 28)) 0 28 476 28 = true := ucp_n (a := w * 28) (b := 0) (n := 28) (by omega) (by omega) (by omega) (by omega)
  have he : um_cp m 28 (nI (w * 28)) 24 0 28 = um_wa m 24 (sl (m 28) (28 * w)) := by
    have e1 : um_cp m 28 (nI (w * 28)) 24 0 28 = um_wa m 24 (va_cpy (m 28) (m 24) (w * 28) 0 28) := um_cp_n (a := w * 28) (b := 0) (n := 28) (by omega) (by omega) (by omega)
    rw [e1]
    congr 1
    funext i
    unfold va_cpy sl
    by_cases q : i < 28
    · rw [if_pos (by omega), if_pos q]
      congr 1
      omega
    · rw [if_neg (by omega), if_neg q]
      exact h24 i (by omega)
  unfold f_X3_recall f_X3_recall_b34
  rw [h, if_neg (nI_pos (by omega)), if_neg (lit_nlt (k := 16) (by show w ≤ 16; omega) (by decide)), mul_lit, hu, ugd_t]
  exact congrArg (fun q => some (q, ())) he
theorem e_note {o : Nat} {m : Um} {w : Nat} (h : m o 1 = nI w) (hw : w ≤ 16) : f_X3_note o m = some (um_wa m (o + 1) (va_cpy (m 24) (m (o + 1)) 0 (28 * w) 28), ()) := by
  have hu : ucp_ok 0 (nI (w * 28)) 28 28 476 = true := ucp_n (a := 0) (b := w * 28) (n := 28) (by omega) (by omega) (by omega) (by omega)
  have he : um_cp m 24 0 (o + 1) (nI (w * 28)) 28 = um_wa m (o + 1) (va_cpy (m 24) (m (o + 1)) 0 (w * 28) 28) := um_cp_n (a := 0) (b := w * 28) (n := 28) (by omega) (by omega) (by omega)
  unfold f_X3_note f_X3_note_b34
  rw [h, if_neg (nI_pos (by omega)), if_neg (lit_nlt (k := 16) (by show w ≤ 16; omega) (by decide)), mul_lit, hu, ugd_t, show 28 * w = w * 28 by omega]
  exact congrArg (fun q => some (q, ())) he
theorem e_copyP (o o2 : Nat) (m : Um) : f_X3_copyFrom o o2 m = some (um_wa (um_w m o 1 (m o2 1)) (o + 1) (va_cpy ((um_w m o 1 (m o2 1)) (o2 + 1)) ((um_w m o 1 (m o2 1)) (o + 1)) 0 0 476), ()) := by
  have hu : ucp_ok 0 0 476 476 476 = true := ucp_n (a := 0) (b := 0) (n := 476) (by omega) (by omega) (by omega) (by omega)
  unfold f_X3_copyFrom
  rw [hu, ugd_t]
  exact congrArg (fun q => some (q, ())) (um_cp_n (a := 0) (b := 0) (n := 476) (by omega) (by omega) (by omega))
theorem sl_cong {P P' : Nat → Int32} {b b' : Nat} (h : ∀ i, i < 28 → P (b + i) = P' (b' + i)) : sl P b = sl P' b' := by
  funext i
  unfold sl
  by_cases q : i < 28
  · rw [if_pos q, if_pos q, h i q]
  · rw [if_neg q, if_neg q]
theorem sl_id {R : Nat → Int32} (h : ∀ i, 28 ≤ i → R i = 0) : sl R 0 = R := by
  funext i
  unfold sl
  by_cases q : i < 28
  · rw [if_pos q, Nat.zero_add]
  · rw [if_neg q, h i (by omega)]
abbrev sUndo (s : Ss) : Ss := (s.1, qP s (qw s - 1), s.2.2.1, s.2.2.2.1, (0 : Int32), s.2.2.2.2.2.1, (qw s - 1, qP s), s.2.2.2.2.2.2.2)
theorem nI_dec {w : Nat} (h : 0 < w) : nI w - 1 = nI (w - 1) := nI_sub (a := w) (b := 1) h
theorem e_undo {m : Um} {s : Ss} (hc : cI m s) (hv : vI s) (hw : 0 < qw s) : ∃ m1, f_X7_undo m = some (m1, nI (qw s - 1)) ∧ cI m1 (sUndo s) ∧ ∀ c, 38 ≤ c → m1 c = m c := by
  have hw16 := hv.2.2.2.1.1
  have hc3 := hv.2.2.2.2.1
  obtain ⟨h1, h2, h3, h4, h5, h6, h7, h8⟩ := hc
  have e1 : f_X3_recall 27 (um_w m 27 1 (nI (qw s - 1))) = some (um_wa (um_w m 27 1 (nI (qw s - 1))) 24 (sl (m 28) (28 * (qw s - 1))), ()) := by
    rw [e_recall (m := um_w m 27 1 (nI (qw s - 1))) (w := qw s - 1) (by rw [um_w_def, um_wa_s, upd_s]) (by omega) (fun i hi => by
      rw [um_w_def, um_wa_n (by omega), h2]
      exact hv.2.1.1.2.2 i hi)]
    rw [show (um_w m 27 1 (nI (qw s - 1))) 28 = m 28 from um_wa_n (by omega)]
  refine ⟨um_w (um_wa (um_w m 27 1 (nI (qw s - 1))) 24 (sl (m 28) (28 * (qw s - 1)))) 0 13 0, ?_, ?_, fun c hc => ?_⟩
  · unfold f_X7_undo
    rw [h7.1, if_pos (lit_ltq (k := 0) (by show 0 < qw s; omega) (by omega)), nI_dec hw, e1, ubi_mk]
    simp (disch := omega) only [um_w_def, um_wa_n, um_wa_s, upd_s]
  · have k : ∀ c, c ≠ 0 → c ≠ 24 → c ≠ 27 → (um_w (um_wa (um_w m 27 1 (nI (qw s - 1))) 24 (sl (m 28) (28 * (qw s - 1)))) 0 13 0) c = m c := fun c a b d => by
      rw [um_w_def, um_wa_n a, um_wa_n b, um_w_def, um_wa_n d]
    have k0 : ∀ j, j ≠ 13 → (um_w (um_wa (um_w m 27 1 (nI (qw s - 1))) 24 (sl (m 28) (28 * (qw s - 1)))) 0 13 0) 0 j = m 0 j := fun j a => by
      rw [um_w_def, um_wa_s, upd_n a, um_wa_n (by omega), um_w_def, um_wa_n (by omega)]
    unfold cI
    rw [k 26 (by omega) (by omega) (by omega), k 1 (by omega) (by omega) (by omega), k 2 (by omega) (by omega) (by omega), k 18 (by omega) (by omega) (by omega), k 19 (by omega) (by omega) (by omega), k 28 (by omega) (by omega) (by omega), k0 12 (by omega), k0 15 (by omega), k0 16 (by omega)]
    refine ⟨cX_of h1 (fun c hc => k c (by omega) (by omega) (by omega)), ?_, h3, h4, h5, ⟨?_, h6.2.1, h6.2.2⟩, ⟨?_, fun j hj => h7.2 j (by have : j < qw s - 1 := hj; omega)⟩, h8.1, fun i hi => ?_⟩
    · rw [um_w_def, um_wa_n (by omega), um_wa_s]
      exact h7.2 (qw s - 1) (by omega)
    · rw [um_w_def, um_wa_s, upd_s]
    · rw [um_w_def, um_wa_n (by omega), um_wa_n (by omega), um_w_def, um_wa_s, upd_s]
    · have hi' : i < qc s := hi
      rw [k (30 + 2 * i) (by omega) (by omega) (by omega), k (31 + 2 * i) (by omega) (by omega) (by omega)]
      exact h8.2 i hi
  · rw [um_w_def, um_wa_n (by omega), um_wa_n (by omega), um_w_def, um_wa_n (by omega)]
theorem r_undoL {M : Um} {w : Nat} (h : M 38 31 = nI w) (hw : w < 16) : f_X8_undo_b26 UF M 0 = some (um_w (um_wa M 53 (fun j => if j < 28 then M 55 (28 * w + j) else M 53 j)) 38 32 0, nI w) := by
  have := lp_rel (fun q (S : Nat → Int32) k => f_X8_undo_b26 q (um_wa M 53 S) (nI k)) 28 (fun k S => S = fun j => if j < k then M 55 (28 * w + j) else M 53 j) (fun b => b = (um_w (um_wa M 53 (fun j => if j < 28 then M 55 (28 * w + j) else M 53 j)) 38 32 0, nI w)) ?_ ?_ 28 0 (M 53) UF rfl (by decide) (by funext j; simp)
  · rw [um_wa_id] at this
    obtain ⟨b, e1, e2⟩ := this
    subst e2
    exact e1
  · intro q S k hk hP
    refine ⟨upd S k (M 55 (28 * w + k)), ?_, ?_⟩
    · show f_X8_undo_b26 (q + 1) (um_wa M 53 S) (nI k) = f_X8_undo_b26 q (um_wa M 53 (upd S k (M 55 (28 * w + k)))) (nI (k + 1))
      rw [f_X8_undo_b26, if_neg (nle_lit (by show k < 28; omega) (by decide)), um_wa_n (show (38 : Nat) ≠ 53 by omega), h, lit_mul, nI_add, uin_n (by omega) (by omega), uin_n (by omega) (by omega), ugd_t, ugd_t, nI_clamp (by omega), nI_clamp (by omega), nI_1, um_w_def, um_wa_s, um_wa_wa, um_wa_n (by omega)]
    · subst hP
      funext j
      unfold upd
      by_cases q1 : j = k
      · simp [q1]
      · simp only [q1, if_false]
        by_cases q2 : j < k
        · simp [q2, show j < k + 1 by omega]
        · simp [q2, show ¬ j < k + 1 by omega]
  · intro q S hP
    refine ⟨_, ?_, rfl⟩
    show f_X8_undo_b26 (q + 1) (um_wa M 53 S) (nI 28) = _
    rw [f_X8_undo_b26, if_pos (by decide), hP]
    simp (disch := omega) only [um_w_def, um_wa_n, um_wa_s, upd_n, h]
theorem r_undo {M : Um} {s : Ss} (hr : rI M s) (hv : vI s) (hw : 0 < qw s) : ∃ m2, f_X8_undo M = some (m2, nI (qw s - 1)) ∧ rI m2 (sUndo s) ∧ ∀ c, c < 38 → m2 c = M c := by
  have hw16 := hv.2.2.2.1.1
  obtain ⟨h1, h2, h3, h4, h5, h6, h7⟩ := rI_K hr (z0_K M)
  have hL := r_undoL (M := um_w (z0 M) 38 31 (nI (qw s - 1))) (w := qw s - 1) (by rw [um_w_def, um_wa_s, upd_s]) (by omega)
  generalize hS : (fun j => if j < 28 then (um_w (z0 M) 38 31 (nI (qw s - 1))) 55 (28 * (qw s - 1) + j) else (um_w (z0 M) 38 31 (nI (qw s - 1))) 53 j) = S at hL
  refine ⟨um_w (um_wa (um_w (z0 M) 38 31 (nI (qw s - 1))) 53 S) 38 32 0, ?_, ?_, ?_⟩
  rotate_left
  · have k : ∀ c, c ≠ 38 → c ≠ 53 → (um_w (um_wa (um_w (z0 M) 38 31 (nI (qw s - 1))) 53 S) 38 32 0) c = z0 M c := fun c a b => by
      rw [um_w_def, um_wa_n a, um_wa_n b, um_w_def, um_wa_n a]
    have k0 : ∀ j, j ≠ 32 → j ≠ 31 → (um_w (um_wa (um_w (z0 M) 38 31 (nI (qw s - 1))) 53 S) 38 32 0) 38 j = z0 M 38 j := fun j a b => by
      rw [um_w_def, um_wa_s, upd_n a, um_wa_n (by omega), um_w_def, um_wa_s, upd_n b]
    unfold rI
    rw [k 40 (by omega) (by omega), k 57 (by omega) (by omega), k 39 (by omega) (by omega), k 55 (by omega) (by omega), k 62 (by omega) (by omega), k0 2 (by omega) (by omega), k0 8 (by omega) (by omega), k0 41 (by omega) (by omega), k0 48 (by omega) (by omega)]
    refine ⟨rX_of' h1 (fun q hq => k0 q (by omega) (by omega)) (fun c hc => k c (by omega) (by omega)), ?_, h3, h4, ⟨?_, h5.2.1, h5.2.2⟩, ⟨?_, fun j hj => h6.2 j (by have : j < qw s - 1 := hj; omega)⟩, h7⟩
    · rw [um_w_def, um_wa_n (by omega), um_wa_s]
      show cv S = qP s (qw s - 1)
      rw [← h6.2 (qw s - 1) (by omega), ← hS]
      refine cv_cong (fun j hj => ?_)
      show (if j < 28 then (um_w (z0 M) 38 31 (nI (qw s - 1))) 55 (28 * (qw s - 1) + j) else _) = _
      rw [if_pos hj, um_w_def, um_wa_n (by omega)]
    · rw [um_w_def, um_wa_s, upd_s]
    · rw [um_w_def, um_wa_s, upd_n (by omega), um_wa_n (by omega), um_w_def, um_wa_s, upd_s]
  · intro c hc
    rw [um_w_def, um_wa_n (by omega), um_wa_n (by omega), um_w_def, um_wa_n (by omega), z0_n (by omega)]
  · show (if z0 M 38 31 = 0 then some (z0 M, -1) else f_X8_undo_b26 UF (um_w (z0 M) 38 31 (z0 M 38 31 - 1)) 0) = _
    rw [h6.1, if_neg (fun q => by rw [show (0 : Int32) = nI 0 from rfl, nI_eq (by omega) (by omega)] at q; omega), nI_dec hw, hL]
theorem op_undo : uop_undo uI := by
  intro m ⟨s, hc, hr, hv⟩
  by_cases hw : 0 < qw s
  · have hv' : vI (sUndo s) := ⟨hv.1, hv.2.2.2.1.2 (qw s - 1) (by omega), hv.2.2.1, ⟨by have := hv.2.2.2.1.1; show qw s - 1 ≤ 16; omega, fun j hj => hv.2.2.2.1.2 j (by have : j < qw s - 1 := hj; omega)⟩, hv.2.2.2.2⟩
    obtain ⟨m1, e1, k1, k2⟩ := e_undo hc hv hw
    exact wrapS (fr := fun M => f_X8_undo M) hr hv' ⟨nI (qw s - 1), m1, e1, k1, k2, fun M hM => r_undo hM hv hw⟩
  · have hw0 : qw s = 0 := by omega
    refine wrapA (fr := fun M => f_X8_undo M) hc hr hv ⟨-1, m, ?_, cK_rf hc, fun M hM => ⟨z0 M, ?_, z0_K M⟩⟩
    · unfold f_X7_undo
      rw [hc.2.2.2.2.2.2.1.1, hw0, if_neg (by decide)]
    · show (if z0 M 38 31 = 0 then some (z0 M, -1) else _) = _
      rw [(rI_K hM (z0_K M)).2.2.2.2.2.1.1, hw0, if_pos (by decide)]
