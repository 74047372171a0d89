/-! images -/
abbrev sImage (s : Ss) : Ss := (s.1, s.2.1, s.2.2.1, s.2.2.2.1, s.2.2.2.2.1, s.2.2.2.2.2.1, s.2.2.2.2.2.2.1, (qc s + 1, fun i => if i = qc s then (qw s, fun j => if j < qw s then qP s j else qR s) else qG s i))
abbrev sRest (s : Ss) : Ss := (s.1, (qG s (qc s - 1)).2 (qG s (qc s - 1)).1, s.2.2.1, s.2.2.2.1, (0 : Int32), s.2.2.2.2.2.1, qG s (qc s - 1), (qc s - 1, qG s))
theorem e_image {m : Um} {s : Ss} (hc : cI m s) (hv : vI s) (hw : qc s < 3) : ∃ m1, f_X7_image m = some (m1, nI (qc s + 1)) ∧ cI m1 (sImage s) ∧ ∀ c, 38 ≤ c → m1 c = m c := by
  have hw16 := hv.2.2.2.1.1
  obtain ⟨h1, h2, h3, h4, h5, h6, h7, h8⟩ := hc
  generalize hq : qc s = q at *
  have e1 := e_copyP (30 + 2 * q) 27 m
  rw [h7.1] at e1
  generalize hP : va_cpy ((um_w m (30 + 2 * q) 1 (nI (qw s))) (27 + 1)) ((um_w m (30 + 2 * q) 1 (nI (qw s))) (30 + 2 * q + 1)) 0 0 476 = P at e1
  have e2 := e_note (o := 30 + 2 * q) (m := um_wa (um_w m (30 + 2 * q) 1 (nI (qw s))) (30 + 2 * q + 1) P) (w := qw s) (by rw [um_wa_n (by omega), um_w_def, um_wa_s, upd_s]) hw16
  rw [um_wa_s, um_wa_n (show 24 ≠ 30 + 2 * q + 1 by omega), um_w_def, um_wa_n (show 24 ≠ 30 + 2 * q by omega), um_wa_wa, h2] at e2
  generalize hP2 : va_cpy (qR s) P 0 (28 * qw s) 28 = P2 at e2
  refine ⟨um_w (um_wa (um_wa m (30 + 2 * q) (upd (m (30 + 2 * q)) 1 (nI (qw s)))) (30 + 2 * q + 1) P2) 0 12 (nI (q + 1)), ?_, ?_, fun c hc => ?_⟩
  · unfold f_X7_image
    rw [h8.1, if_pos (ltq_lit (k := 3) (by show q < 3; omega) (by decide)), uin_n (by omega) (by omega), ugd_t, nI_clamp (by omega), e1, ubi_mk]
    have e3 : um_wa (um_w m (30 + 2 * q) 1 (nI (qw s))) (30 + 2 * q + 1) P 0 12 = nI q := by
      rw [um_wa_n (by omega), um_w_def, um_wa_n (by omega)]
      exact h8.1
    have e4 : um_wa (um_wa m (30 + 2 * q) (upd (m (30 + 2 * q)) 1 (nI (qw s)))) (30 + 2 * q + 1) P2 0 12 = nI q := by
      rw [um_wa_n (by omega), um_wa_n (by omega)]
      exact h8.1
    rw [e3, uin_n (by omega) (by omega), ugd_t, nI_clamp (by omega), um_w_def, e2, ubi_mk, e4, nI_1, um_w_def, um_wa_s, upd_s]
  · have k : ∀ c, c ≠ 0 → c ≠ 30 + 2 * q → c ≠ 31 + 2 * q → (um_w (um_wa (um_wa m (30 + 2 * q) (upd (m (30 + 2 * q)) 1 (nI (qw s)))) (30 + 2 * q + 1) P2) 0 12 (nI (q + 1))) c = m c := fun c a b d => by
      rw [um_w_def, um_wa_n a, um_wa_n (by omega), um_wa_n b]
    have k0 : ∀ j, j ≠ 12 → (um_w (um_wa (um_wa m (30 + 2 * q) (upd (m (30 + 2 * q)) 1 (nI (qw s)))) (30 + 2 * q + 1) P2) 0 12 (nI (q + 1))) 0 j = m 0 j := fun j a => by
      rw [um_w_def, um_wa_s, upd_n a, um_wa_n (by omega), um_wa_n (by omega)]
    unfold cI
    rw [k 24 (by omega) (by omega) (by omega), k 26 (by omega) (by omega) (by omega), k 1 (by omega) (by omega) (by omega), k 2 (by omega) (by omega) (by omega), k 18 (by omega) (by omega) (by omega), k 19 (by omega) (by omega) (by omega), k 27 (by omega) (by omega) (by omega), k 28 (by omega) (by omega) (by omega), k0 13 (by omega), k0 15 (by omega), k0 16 (by omega)]
    refine ⟨cX_of h1 (fun c hc => k c (by omega) (by omega) (by omega)), h2, h3, h4, h5, h6, h7, ?_, fun i hi => ?_⟩
    · show _ = nI (qc s + 1)
      rw [hq, um_w_def, um_wa_s, upd_s]
    · have hi' : i < qc s + 1 := hi
      rw [hq] at hi'
      show _ = nI (if i = qc s then (qw s, fun j => if j < qw s then qP s j else qR s) else qG s i).1 ∧ ∀ j, j ≤ (if i = qc s then (qw s, fun j => if j < qw s then qP s j else qR s) else qG s i).1 → _ = (if i = qc s then (qw s, fun j => if j < qw s then qP s j else qR s) else qG s i).2 j
      rw [hq]
      by_cases hiq : i = q
      · subst hiq
        simp only [if_true]
        rw [um_w_def, um_wa_n (show 30 + 2 * i ≠ 0 by omega), um_wa_n (show 30 + 2 * i ≠ 30 + 2 * i + 1 by omega), um_wa_s, upd_s]
        refine ⟨rfl, fun j hj => ?_⟩
        rw [um_wa_n (show 31 + 2 * i ≠ 0 by omega), show 31 + 2 * i = 30 + 2 * i + 1 by omega, um_wa_s]
        by_cases hjw : j < qw s
        · rw [if_pos hjw, ← h7.2 j hjw]
          refine sl_cong (fun a ha => ?_)
          rw [← hP2, ← hP]
          unfold va_cpy
          rw [if_neg (by omega), if_pos (by omega), um_w_def, um_wa_n (by omega)]
          congr 1
          omega
        · rw [if_neg hjw]
          refine Eq.trans (sl_cong (P' := qR s) (b' := 0) (fun a ha => ?_)) (sl_id hv.2.1.1.2.2)
          rw [← hP2]
          unfold va_cpy
          rw [if_pos (by omega)]
          congr 1
          omega
      · rw [if_neg hiq, k (30 + 2 * i) (by omega) (by omega) (by omega), k (31 + 2 * i) (by omega) (by omega) (by omega)]
        exact h8.2 i (by omega)
  · rw [um_w_def, um_wa_n (by omega), um_wa_n (by omega), um_wa_n (by omega)]
theorem e_rest {m : Um} {s : Ss} (hc : cI m s) (hv : vI s) (hw : 0 < qc s) : ∃ m1, f_X7_restore m = some (m1, nI (qc s - 1)) ∧ cI m1 (sRest s) ∧ ∀ c, 38 ≤ c → m1 c = m c := by
  have hc3 := hv.2.2.2.2.1
  have hg := hv.2.2.2.2.2 (qc s - 1) (by omega)
  obtain ⟨h1, h2, h3, h4, h5, h6, h7, h8⟩ := hc
  have hgc := h8.2 (qc s - 1) (by omega)
  generalize hq : qc s - 1 = q at *
  have hq1 : qc s = q + 1 := by omega
  have e1 := e_copyP 27 (30 + 2 * q) (um_w m 0 12 (nI q))
  rw [show (um_w m 0 12 (nI q)) (30 + 2 * q) 1 = nI (qG s q).1 by rw [um_w_def, um_wa_n (by omega)]; exact hgc.1] at e1
  generalize hP : va_cpy (um_w (um_w m 0 12 (nI q)) 27 1 (nI (qG s q).1) (30 + 2 * q + 1)) (um_w (um_w m 0 12 (nI q)) 27 1 (nI (qG s q).1) (27 + 1)) 0 0 476 = P at e1
  have e2 := e_recall (m := um_wa (um_w (um_w m 0 12 (nI q)) 27 1 (nI (qG s q).1)) (27 + 1) P) (w := (qG s q).1) (by rw [um_wa_n (by omega), um_w_def, um_wa_s, upd_s]) hg.1 (fun i hi => by
    rw [um_wa_n (by omega), um_w_def, um_wa_n (by omega), um_w_def, um_wa_n (by omega), h2]
    exact hv.2.1.1.2.2 i hi)
  rw [show (um_wa (um_w (um_w m 0 12 (nI q)) 27 1 (nI (qG s q).1)) (27 + 1) P) 28 = P from um_wa_s _ _ _] at e2
  have hrow : ∀ j, j ≤ (qG s q).1 → sl P (28 * j) = (qG s q).2 j := fun j hj => by
    rw [← hgc.2 j hj]
    refine sl_cong (fun a ha => ?_)
    have := hg.1
    rw [← hP]
    unfold va_cpy
    rw [if_pos (by omega), um_w_def, um_wa_n (by omega), um_w_def, um_wa_n (by omega), show 30 + 2 * q + 1 = 31 + 2 * q by omega]
    congr 1
    omega
  rw [hrow _ (Nat.le_refl _)] at e2
  have e3 : ∀ Z, um_w m 0 12 (nI q) 0 12 = nI q ∧ (um_w (um_wa (um_wa (um_w (um_w m 0 12 (nI q)) 27 1 (nI (qG s q).1)) (27 + 1) P) 24 Z) 0 13 0) 0 12 = nI q := fun Z => by
    refine ⟨by rw [um_w_def, um_wa_s, upd_s], ?_⟩
    rw [um_w_def, um_wa_s, upd_n (by omega), um_wa_n (by omega), um_wa_n (by omega), um_w_def, um_wa_n (by omega), um_w_def, um_wa_s, upd_s]
  refine ⟨um_w (um_wa (um_wa (um_w (um_w m 0 12 (nI q)) 27 1 (nI (qG s q).1)) (27 + 1) P) 24 ((qG s q).2 (qG s q).1)) 0 13 0, ?_, ?_, fun c hc => ?_⟩
  · unfold f_X7_restore
    rw [h8.1, if_pos (lit_ltq (k := 0) (by show 0 < qc s; omega) (by omega)), nI_dec hw, hq, (e3 (m 0)).1, uin_n (by omega) (by omega), ugd_t, nI_clamp (by omega), e1, ubi_mk, e2, ubi_mk, (e3 _).2]
  · have k : ∀ c, c ≠ 0 → c ≠ 27 → c ≠ 28 → c ≠ 24 → (um_w (um_wa (um_wa (um_w (um_w m 0 12 (nI q)) 27 1 (nI (qG s q).1)) (27 + 1) P) 24 ((qG s q).2 (qG s q).1)) 0 13 0) c = m c := fun c a b d e => by
      rw [um_w_def, um_wa_n a, um_wa_n e, um_wa_n d, um_w_def, um_wa_n b, um_w_def, um_wa_n a]
    have k0 : ∀ j, j ≠ 12 → j ≠ 13 → (um_w (um_wa (um_wa (um_w (um_w m 0 12 (nI q)) 27 1 (nI (qG s q).1)) (27 + 1) P) 24 ((qG s q).2 (qG s q).1)) 0 13 0) 0 j = m 0 j := fun j a b => by
      rw [um_w_def, um_wa_s, upd_n b, um_wa_n (by omega), um_wa_n (by omega), um_w_def, um_wa_n (by omega), um_w_def, um_wa_s, upd_n a]
    unfold cI
    rw [k 26 (by omega) (by omega) (by omega) (by omega), k 1 (by omega) (by omega) (by omega) (by omega), k 2 (by omega) (by omega) (by omega) (by omega), k 18 (by omega) (by omega) (by omega) (by omega), k 19 (by omega) (by omega) (by omega) (by omega), k0 15 (by omega) (by omega), k0 16 (by omega) (by omega), (e3 _).2]
    refine ⟨cX_of h1 (fun c hc => k c (by omega) (by omega) (by omega) (by omega)), ?_, h3, h4, h5, ⟨?_, h6.2.1, h6.2.2⟩, ⟨?_, fun j hj => ?_⟩, ?_, fun i hi => ?_⟩
    · show _ = (qG s (qc s - 1)).2 (qG s (qc s - 1)).1
      rw [hq, um_w_def, um_wa_n (by omega), um_wa_s]
    · rw [um_w_def, um_wa_s, upd_s]
    · show _ = nI (qG s (qc s - 1)).1
      rw [hq, um_w_def, um_wa_n (by omega), um_wa_n (by omega), um_wa_n (by omega), um_w_def, um_wa_s, upd_s]
    · have hj' : j < (qG s (qc s - 1)).1 := hj
      rw [hq] at hj'
      show _ = (qG s (qc s - 1)).2 j
      rw [hq, um_w_def, um_wa_n (by omega), um_wa_n (by omega), show (28 : Nat) = 27 + 1 by omega, um_wa_s]
      exact hrow j (by omega)
    · show nI q = nI (qc s - 1)
      rw [hq]
    · have hi' : i < qc s - 1 := hi
      rw [k (30 + 2 * i) (by omega) (by omega) (by omega) (by omega), k (31 + 2 * i) (by omega) (by omega) (by omega) (by omega)]
      exact h8.2 i (by omega)
  · rw [um_w_def, um_wa_n (by omega), um_wa_n (by omega), um_wa_n (by omega), um_w_def, um_wa_n (by omega), um_w_def, um_wa_n (by omega)]
/-! the reference's -/
theorem r_keep1 {m : Um} {a0 n0 n q : Nat} (ha : a0 ≠ 62) (hn : n ≤ n0) (hn0 : n0 < 3000) (hq : q + n ≤ 1431) : f_X8_keepsRow a0 n0 m (nI q) (nI n) 1 = some (um_wa m 62 (fun j => if q ≤ j ∧ j < q + n then m a0 (j - q) else m 62 j), nI (q + n)) := by
  have := lp_rel (fun f (S : Nat → Int32) k => f_X8_keepsRow_b3 a0 n0 f (um_wa m 62 S) (nI q) (nI n) 1 (nI k)) n (fun k S => S = fun j => if q ≤ j ∧ j < q + k then m a0 (j - q) else m 62 j) (fun b => b = (um_wa m 62 (fun j => if q ≤ j ∧ j < q + n then m a0 (j - q) else m 62 j), nI (q + n))) ?_ ?_ n 0 (m 62) UF (Nat.zero_add n) (by show n < 3000; omega) (by
    funext j
    rw [if_neg (by omega)])
  · rw [um_wa_id] at this
    obtain ⟨b, e1, e2⟩ := this
    subst e2
    exact e1
  · intro f S k hk hP
    refine ⟨upd S (q + k) (m a0 k), ?_, ?_⟩
    · show f_X8_keepsRow_b3 a0 n0 (f + 1) (um_wa m 62 S) (nI q) (nI n) 1 (nI k) = f_X8_keepsRow_b3 a0 n0 f (um_wa m 62 (upd S (q + k) (m a0 k))) (nI q) (nI n) 1 (nI (k + 1))
      rw [f_X8_keepsRow_b3, if_neg (nI_ge (by omega) (by omega)), if_neg (by decide), nI_add, uin_n (by omega) (by omega), uin_n (by omega) (by omega), ugd_t, ugd_t, nI_clamp (by omega), nI_clamp (by omega), f_X8_keepsRow_b43, nI_1, um_w_def, um_wa_s, um_wa_wa, um_wa_n ha]
    · subst hP
      funext j
      unfold upd
      by_cases q1 : j = q + k
      · rw [if_pos q1, if_pos (by omega), q1]
        congr 1
        omega
      · rw [if_neg q1]
        show (if q ≤ j ∧ j < q + k then m a0 (j - q) else m 62 j) = _
        by_cases q2 : q ≤ j ∧ j < q + k
        · rw [if_pos q2, if_pos (by omega)]
        · rw [if_neg q2, if_neg (by omega)]
  · intro f S hP
    refine ⟨_, ?_, rfl⟩
    show f_X8_keepsRow_b3 a0 n0 (f + 1) (um_wa m 62 S) (nI q) (nI n) 1 (nI n) = _
    rw [f_X8_keepsRow_b3, if_pos (nI_le (Nat.le_refl _) (by omega)), hP, nI_add]
theorem r_keep0 {m : Um} {a0 n0 n q : Nat} (ha : a0 ≠ 62) (hn : n ≤ n0) (hn0 : n0 < 3000) (hq : q + n ≤ 1431) : f_X8_keepsRow a0 n0 m (nI q) (nI n) 0 = some (um_wa m a0 (fun j => if j < n then m 62 (q + j) else m a0 j), nI (q + n)) := by
  have := lp_rel (fun f (S : Nat → Int32) k => f_X8_keepsRow_b3 a0 n0 f (um_wa m a0 S) (nI q) (nI n) 0 (nI k)) n (fun k S => S = fun j => if j < k then m 62 (q + j) else m a0 j) (fun b => b = (um_wa m a0 (fun j => if j < n then m 62 (q + j) else m a0 j), nI (q + n))) ?_ ?_ n 0 (m a0) UF (Nat.zero_add n) (by show n < 3000; omega) (by
    funext j
    rw [if_neg (by omega)])
  · rw [um_wa_id] at this
    obtain ⟨b, e1, e2⟩ := this
    subst e2
    exact e1
  · intro f S k hk hP
    refine ⟨upd S k (m 62 (q + k)), ?_, ?_⟩
    · show f_X8_keepsRow_b3 a0 n0 (f + 1) (um_wa m a0 S) (nI q) (nI n) 0 (nI k) = f_X8_keepsRow_b3 a0 n0 f (um_wa m a0 (upd S k (m 62 (q + k)))) (nI q) (nI n) 0 (nI (k + 1))
      rw [f_X8_keepsRow_b3, if_neg (nI_ge (by omega) (by omega)), if_pos rfl, nI_add, uin_n (by omega) (by omega), uin_n (by omega) (by omega), ugd_t, ugd_t, nI_clamp (by omega), nI_clamp (by omega), f_X8_keepsRow_b43, nI_1, um_w_def, um_wa_s, um_wa_wa, um_wa_n (Ne.symm ha)]
    · subst hP
      funext j
      unfold upd
      by_cases q1 : j = k
      · rw [if_pos q1, if_pos (by omega), q1]
      · rw [if_neg q1]
        show (if j < k then m 62 (q + j) else m a0 j) = _
        by_cases q2 : j < k
        · rw [if_pos q2, if_pos (by omega)]
        · rw [if_neg q2, if_neg (by omega)]
  · intro f S hP
    refine ⟨_, ?_, rfl⟩
    show f_X8_keepsRow_b3 a0 n0 (f + 1) (um_wa m a0 S) (nI q) (nI n) 0 (nI n) = _
    rw [f_X8_keepsRow_b3, if_pos (nI_le (Nat.le_refl _) (by omega)), hP, nI_add]
theorem r_image {M : Um} {s : Ss} (hr : rI M s) (hv : vI s) (hw : qc s < 3) : ∃ m2, f_X8_image M = some (m2, nI (qc s + 1)) ∧ rI m2 (sImage s) ∧ ∀ c, c < 38 → m2 c = M c := by
  have hw16 := hv.2.2.2.1.1
  obtain ⟨h1, h2, h3, h4, h5, h6, h7⟩ := rI_K hr (z0_K M)
  generalize hq : qc s = q at *
  have e1 := r_keep1 (m := z0 M) (a0 := 53) (n0 := 28) (n := 28) (q := 477 * q) (by omega) (by omega) (by omega) (by omega)
  generalize hA : (fun j => if 477 * q ≤ j ∧ j < 477 * q + 28 then z0 M 53 (j - 477 * q) else z0 M 62 j) = A at e1
  have e2 := r_keep1 (m := um_wa (z0 M) 62 A) (a0 := 55) (n0 := 448) (n := 448) (q := 477 * q + 28) (by omega) (by omega) (by omega) (by omega)
  rw [um_wa_wa, um_wa_s] at e2
  generalize hB : (fun j => if 477 * q + 28 ≤ j ∧ j < 477 * q + 28 + 448 then (um_wa (z0 M) 62 A) 55 (j - (477 * q + 28)) else A j) = B at e2
  have hB' : B = fun j => if 477 * q + 28 ≤ j ∧ j < 477 * q + 28 + 448 then z0 M 55 (j - (477 * q + 28)) else A j := by
    rw [← hB]
    funext j
    rw [um_wa_n (show (55 : Nat) ≠ 62 by omega)]
  have e3 : f_X8_keepsAll (z0 M) (nI q) 1 = some (um_w (um_wa (z0 M) 62 B) 62 (477 * q + 476) (nI (qw s)), ()) := by
    unfold f_X8_keepsAll f_X8_keepsAll_b58
    rw [lit_mul]
    rw [show f_X8_keepsRow 53 28 (z0 M) (nI (477 * q)) 28 1 = _ from e1, ubi_mk, show f_X8_keepsRow 55 448 (um_wa (z0 M) 62 A) (nI (477 * q + 28)) 448 1 = _ from e2, ubi_mk, if_neg (by decide), uin_n (by omega) (by omega), ugd_t, nI_clamp (by omega), um_wa_n (show (38 : Nat) ≠ 62 by omega), h6.1, show 477 * q + 28 + 448 = 477 * q + 476 by omega]
  refine ⟨um_w (um_w (um_wa (z0 M) 62 B) 62 (477 * q + 476) (nI (qw s))) 38 48 (nI (q + 1)), ?_, ?_, fun c hc => ?_⟩
  · show (if z0 M 38 48 = 3 then some (z0 M, -1) else ubi (f_X8_keepsAll (z0 M) (z0 M 38 48) 1) _) = _
    rw [h7.1, if_neg (fun e => by rw [show (3 : Int32) = nI 3 from rfl, nI_eq (by omega) (by omega)] at e; omega), e3, ubi_mk]
    have e4 : (um_w (um_wa (z0 M) 62 B) 62 (477 * q + 476) (nI (qw s))) 38 48 = nI q := by
      rw [um_w_def, um_wa_n (by omega), um_wa_n (by omega)]
      exact h7.1
    rw [e4, nI_1, um_w_def, um_wa_s, upd_s]
  · have k : ∀ c, c ≠ 38 → c ≠ 62 → (um_w (um_w (um_wa (z0 M) 62 B) 62 (477 * q + 476) (nI (qw s))) 38 48 (nI (q + 1))) c = z0 M c := fun c a b => by
      rw [um_w_def, um_wa_n a, um_w_def, um_wa_n b, um_wa_n b]
    have k0 : ∀ j, j ≠ 48 → (um_w (um_w (um_wa (z0 M) 62 B) 62 (477 * q + 476) (nI (qw s))) 38 48 (nI (q + 1))) 38 j = z0 M 38 j := fun j a => by
      rw [um_w_def, um_wa_s, upd_n a, um_w_def, um_wa_n (by omega), um_wa_n (by omega)]
    have k62 : (um_w (um_w (um_wa (z0 M) 62 B) 62 (477 * q + 476) (nI (qw s))) 38 48 (nI (q + 1))) 62 = upd B (477 * q + 476) (nI (qw s)) := by
      rw [um_w_def, um_wa_n (by omega), um_w_def, um_wa_s, um_wa_s]
    unfold rI
    rw [k 53 (by omega) (by omega), k 40 (by omega) (by omega), k 57 (by omega) (by omega), k 39 (by omega) (by omega), k 55 (by omega) (by omega), k0 2 (by omega), k0 8 (by omega), k0 41 (by omega), k0 32 (by omega), k0 31 (by omega), k62]
    refine ⟨rX_of' h1 (fun q hq => k0 q (by omega)) (fun c hc => k c (by omega) (by omega)), h2, h3, h4, h5, h6, ?_, fun i hi => ?_⟩
    · show _ = nI (qc s + 1)
      rw [hq, um_w_def, um_wa_s, upd_s]
    · have hi' : i < qc s + 1 := hi
      rw [hq] at hi'
      show _ = nI (if i = qc s then (qw s, fun j => if j < qw s then qP s j else qR s) else qG s i).1 ∧ _ = (if i = qc s then (qw s, fun j => if j < qw s then qP s j else qR s) else qG s i).2 (if i = qc s then (qw s, fun j => if j < qw s then qP s j else qR s) else qG s i).1 ∧ ∀ j, j < (if i = qc s then (qw s, fun j => if j < qw s then qP s j else qR s) else qG s i).1 → _ = (if i = qc s then (qw s, fun j => if j < qw s then qP s j else qR s) else qG s i).2 j
      rw [hq]
      by_cases hiq : i = q
      · subst hiq
        simp only [if_true]
        refine ⟨by rw [upd_s], ?_, fun j hj => ?_⟩
        · rw [if_neg (by omega), ← h2]
          refine cv_cong (fun a ha => ?_)
          rw [upd_n (by omega), hB']
          show (if 477 * i + 28 ≤ 477 * i + a ∧ 477 * i + a < 477 * i + 28 + 448 then _ else A (477 * i + a)) = _
          rw [if_neg (by omega), ← hA]
          show (if 477 * i ≤ 477 * i + a ∧ 477 * i + a < 477 * i + 28 then _ else _) = _
          rw [if_pos (by omega)]
          congr 1
          omega
        · rw [if_pos hj, ← h6.2 j hj]
          refine cv_cong (fun a ha => ?_)
          rw [upd_n (by omega), hB']
          show (if 477 * i + 28 ≤ 477 * i + 28 + 28 * j + a ∧ 477 * i + 28 + 28 * j + a < 477 * i + 28 + 448 then _ else A _) = _
          rw [if_pos (by omega)]
          congr 1
          omega
      · rw [if_neg hiq]
        have hi16 := (hv.2.2.2.2.2 i (by rw [hq]; omega)).1
        have hu : ∀ a, a < 477 → upd B (477 * q + 476) (nI (qw s)) (477 * i + a) = z0 M 62 (477 * i + a) := fun a ha => by
          rw [upd_n (by omega), hB']
          show (if 477 * q + 28 ≤ 477 * i + a ∧ 477 * i + a < 477 * q + 28 + 448 then _ else A (477 * i + a)) = _
          rw [if_neg (by omega), ← hA]
          show (if 477 * q ≤ 477 * i + a ∧ 477 * i + a < 477 * q + 28 then _ else _) = _
          rw [if_neg (by omega)]
        have h7i := h7.2 i (by omega)
        refine ⟨by rw [hu 476 (by omega)]; exact h7i.1, ?_, fun j hj => ?_⟩
        · rw [← h7i.2.1]
          exact cv_cong (fun a ha => hu a (by omega))
        · rw [← h7i.2.2 j hj]
          refine cv_cong (fun a ha => ?_)
          have := hu (28 + 28 * j + a) (by omega)
          rw [show 477 * i + 28 + 28 * j + a = 477 * i + (28 + 28 * j + a) by omega]
          exact this
  · rw [um_w_def, um_wa_n (by omega), um_w_def, um_wa_n (by omega), um_wa_n (by omega), z0_n (by omega)]
theorem r_rest {M : Um} {s : Ss} (hr : rI M s) (hv : vI s) (hw : 0 < qc s) : ∃ m2, f_X8_restore M = some (m2, nI (qc s - 1)) ∧ rI m2 (sRest s) ∧ ∀ c, c < 38 → m2 c = M c := by
  have hc3 := hv.2.2.2.2.1
  have hg := hv.2.2.2.2.2 (qc s - 1) (by omega)
  obtain ⟨h1, h2, h3, h4, h5, h6, h7⟩ := rI_K hr (z0_K M)
  have h7g := h7.2 (qc s - 1) (by omega)
  generalize hq : qc s - 1 = q at *
  have e1 := r_keep0 (m := um_w (z0 M) 38 48 (nI q)) (a0 := 53) (n0 := 28) (n := 28) (q := 477 * q) (by omega) (by omega) (by omega) (by omega)
  generalize hA : (fun j => if j < 28 then (um_w (z0 M) 38 48 (nI q)) 62 (477 * q + j) else (um_w (z0 M) 38 48 (nI q)) 53 j) = A at e1
  have e2 := r_keep0 (m := um_wa (um_w (z0 M) 38 48 (nI q)) 53 A) (a0 := 55) (n0 := 448) (n := 448) (q := 477 * q + 28) (by omega) (by omega) (by omega) (by omega)
  generalize hB : (fun j => if j < 448 then (um_wa (um_w (z0 M) 38 48 (nI q)) 53 A) 62 (477 * q + 28 + j) else (um_wa (um_w (z0 M) 38 48 (nI q)) 53 A) 55 j) = B at e2
  have e3 : f_X8_keepsAll (um_w (z0 M) 38 48 (nI q)) (nI q) 0 = some (um_w (um_wa (um_wa (um_w (z0 M) 38 48 (nI q)) 53 A) 55 B) 38 31 (nI (qG s q).1), ()) := by
    unfold f_X8_keepsAll f_X8_keepsAll_b58
    rw [lit_mul]
    rw [show f_X8_keepsRow 53 28 (um_w (z0 M) 38 48 (nI q)) (nI (477 * q)) 28 0 = _ from e1, ubi_mk, show f_X8_keepsRow 55 448 (um_wa (um_w (z0 M) 38 48 (nI q)) 53 A) (nI (477 * q + 28)) 448 0 = _ from e2, ubi_mk, if_pos rfl, uin_n (by omega) (by omega), ugd_t, nI_clamp (by omega), show (um_wa (um_wa (um_w (z0 M) 38 48 (nI q)) 53 A) 55 B) 62 (477 * q + 28 + 448) = nI (qG s q).1 by
      rw [um_wa_n (by omega), um_wa_n (by omega), um_w_def, um_wa_n (by omega), ← h7g.1]]
  have e5 : ∀ Z : Um, (um_w (um_w (um_wa (um_wa (um_w (z0 M) 38 48 (nI q)) 53 A) 55 B) 38 31 (nI (qG s q).1)) 38 32 0) 38 48 = nI q := fun Z => by
    rw [um_w_def, um_wa_s, upd_n (by omega), um_w_def, um_wa_s, upd_n (by omega), um_wa_n (by omega), um_wa_n (by omega), um_w_def, um_wa_s, upd_s]
  refine ⟨um_w (um_w (um_wa (um_wa (um_w (z0 M) 38 48 (nI q)) 53 A) 55 B) 38 31 (nI (qG s q).1)) 38 32 0, ?_, ?_, fun c hc => ?_⟩
  · show (if z0 M 38 48 = 0 then some (z0 M, -1) else ubi (f_X8_keepsAll (um_w (z0 M) 38 48 (z0 M 38 48 - 1)) ((um_w (z0 M) 38 48 (z0 M 38 48 - 1)) 38 48) 0) _) = _
    rw [h7.1, if_neg (fun e => by rw [show (0 : Int32) = nI 0 from rfl, nI_eq (by omega) (by omega)] at e; omega), nI_dec hw, hq, show (um_w (z0 M) 38 48 (nI q)) 38 48 = nI q by rw [um_w_def, um_wa_s, upd_s], e3, ubi_mk, e5 M]
  · have k : ∀ c, c ≠ 38 → c ≠ 53 → c ≠ 55 → (um_w (um_w (um_wa (um_wa (um_w (z0 M) 38 48 (nI q)) 53 A) 55 B) 38 31 (nI (qG s q).1)) 38 32 0) c = z0 M c := fun c a b d => by
      rw [um_w_def, um_wa_n a, um_w_def, um_wa_n a, um_wa_n d, um_wa_n b, um_w_def, um_wa_n a]
    have k0 : ∀ j, j ≠ 48 → j ≠ 31 → j ≠ 32 → (um_w (um_w (um_wa (um_wa (um_w (z0 M) 38 48 (nI q)) 53 A) 55 B) 38 31 (nI (qG s q).1)) 38 32 0) 38 j = z0 M 38 j := fun j a b d => by
      rw [um_w_def, um_wa_s, upd_n d, um_w_def, um_wa_s, upd_n b, um_wa_n (by omega), um_wa_n (by omega), um_w_def, um_wa_s, upd_n a]
    have hz : ∀ j, (um_w (z0 M) 38 48 (nI q)) 62 j = z0 M 62 j := fun j => by rw [um_w_def, um_wa_n (by omega)]
    unfold rI
    rw [k 40 (by omega) (by omega) (by omega), k 57 (by omega) (by omega) (by omega), k 39 (by omega) (by omega) (by omega), k 62 (by omega) (by omega) (by omega), k0 2 (by omega) (by omega) (by omega), k0 8 (by omega) (by omega) (by omega), k0 41 (by omega) (by omega) (by omega), e5 M]
    refine ⟨rX_of' h1 (fun q hq => k0 q (by omega) (by omega) (by omega)) (fun c hc => k c (by omega) (by omega) (by omega)), ?_, h3, h4, ⟨?_, h5.2.1, h5.2.2⟩, ⟨?_, fun j hj => ?_⟩, ?_, fun i hi => ?_⟩
    · show _ = (qG s (qc s - 1)).2 (qG s (qc s - 1)).1
      rw [hq, um_w_def, um_wa_n (by omega), um_w_def, um_wa_n (by omega), um_wa_n (by omega), um_wa_s, ← h7g.2.1]
      refine cv_cong (fun a ha => ?_)
      rw [← hA]
      show (if a < 28 then _ else _) = _
      rw [if_pos ha, hz]
    · rw [um_w_def, um_wa_s, upd_s]
    · show _ = nI (qG s (qc s - 1)).1
      rw [hq, um_w_def, um_wa_s, upd_n (by omega), um_w_def, um_wa_s, upd_s]
    · have hj' : j < (qG s (qc s - 1)).1 := hj
      rw [hq] at hj'
      have := hg.1
      show _ = (qG s (qc s - 1)).2 j
      rw [hq, ← h7g.2.2 j hj', um_w_def, um_wa_n (by omega), um_w_def, um_wa_n (by omega), um_wa_s]
      refine cv_cong (fun a ha => ?_)
      rw [← hB]
      show (if 28 * j + a < 448 then (um_wa (um_w (z0 M) 38 48 (nI q)) 53 A) 62 (477 * q + 28 + (28 * j + a)) else _) = _
      rw [if_pos (by omega), um_wa_n (by omega), hz]
      congr 1
      omega
    · show nI q = nI (qc s - 1)
      rw [hq]
    · have hi' : i < qc s - 1 := hi
      exact h7.2 i (by omega)
  · rw [um_w_def, um_wa_n (by omega), um_w_def, um_wa_n (by omega), um_wa_n (by omega), um_wa_n (by omega), um_w_def, um_wa_n (by omega), z0_n (by omega)]
theorem op_image : uop_image uI := by
  intro m ⟨s, hc, hr, hv⟩
  by_cases hw : qc s < 3
  · have hv' : vI (sImage s) := by
      refine ⟨hv.1, hv.2.1, hv.2.2.1, hv.2.2.2.1, by show qc s + 1 ≤ 3; omega, fun i hi => ?_⟩
      have hi' : i < qc s + 1 := hi
      show (if i = qc s then (qw s, fun j => if j < qw s then qP s j else qR s) else qG s i).1 ≤ 16 ∧ ∀ j, j ≤ (if i = qc s then (qw s, fun j => if j < qw s then qP s j else qR s) else qG s i).1 → vQ (qT s) ((if i = qc s then (qw s, fun j => if j < qw s then qP s j else qR s) else qG s i).2 j)
      by_cases hiq : i = qc s
      · rw [if_pos hiq]
        refine ⟨hv.2.2.2.1.1, fun j hj => ?_⟩
        show vQ (qT s) (if j < qw s then qP s j else qR s)
        by_cases hj2 : j < qw s
        · rw [if_pos hj2]
          exact hv.2.2.2.1.2 j hj2
        · rw [if_neg hj2]
          exact hv.2.1
      · rw [if_neg hiq]
        exact hv.2.2.2.2.2 i (by omega)
    obtain ⟨m1, e1, k1, k2⟩ := e_image hc hv hw
    exact wrapS (fr := fun M => f_X8_image M) hr hv' ⟨nI (qc s + 1), m1, e1, k1, k2, fun M hM => r_image hM hv hw⟩
  · have hw0 : qc s = 3 := by have := hv.2.2.2.2.1; omega
    refine wrapA (fr := fun M => f_X8_image M) hc hr hv ⟨-1, m, ?_, cK_rf hc, fun M hM => ⟨z0 M, ?_, z0_K M⟩⟩
    · unfold f_X7_image
      rw [hc.2.2.2.2.2.2.2.1, hw0, if_neg (by decide)]
    · show (if z0 M 38 48 = 3 then some (z0 M, -1) else _) = _
      rw [(rI_K hM (z0_K M)).2.2.2.2.2.2.1, hw0, if_pos (by decide)]
theorem op_restore : uop_restore uI := by
  intro m ⟨s, hc, hr, hv⟩
  by_cases hw : 0 < qc s
  · have hg := hv.2.2.2.2.2 (qc s - 1) (by omega)
    have hv' : vI (sRest s) := ⟨hv.1, hg.2 _ (Nat.le_refl _), hv.2.2.1, ⟨hg.1, fun j hj => hg.2 j (Nat.le_of_lt hj)⟩, by have := hv.2.2.2.2.1; show qc s - 1 ≤ 3; omega, fun i hi => hv.2.2.2.2.2 i (by have : i < qc s - 1 := hi; omega)⟩
    obtain ⟨m1, e1, k1, k2⟩ := e_rest hc hv hw
    exact wrapS (fr := fun M => f_X8_restore M) hr hv' ⟨nI (qc s - 1), m1, e1, k1, k2, fun M hM => r_rest hM hv hw⟩
  · have hw0 : qc s = 0 := by omega
    refine wrapA (fr := fun M => f_X8_restore M) hc hr hv ⟨-1, m, ?_, cK_rf hc, fun M hM => ⟨z0 M, ?_, z0_K M⟩⟩
    · unfold f_X7_restore
      rw [hc.2.2.2.2.2.2.2.1, hw0, if_neg (by decide)]
    · show (if z0 M 38 48 = 0 then some (z0 M, -1) else _) = _
      rw [(rI_K hM (z0_K M)).2.2.2.2.2.2.1, hw0, if_pos (by decide)]
