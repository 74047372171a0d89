/-! CORNERS: the reference -/
section RCORNER
variable {b : Nat → Nat} {N : Nat}
theorem e_clause_ok {b : Nat → Nat} {N k p p1 : Nat} {c c1 : Cs} (hpN : p ≤ N) (ho : okK c) (h : pCl b N k p c = .inr (p1, c1)) : okK c1 ∧ p1 ≤ N := by
  have hs := sk_le (b := b) hpN
  have hw := wE_le (b := b) hs
  unfold pCl at h
  by_cases w0 : wIs b (sk b N p) (wE b N (sk b N p)) 0 = true
  · rw [if_pos w0] at h
    by_cases hb : k = 60 ∨ c.1.1 = 8
    · rw [if_pos hb] at h; cases h
    · rw [if_neg hb] at h
      cases h1 : pTwo b N 100 61 (wE b N (sk b N p)) with
      | inl e => rw [h1, pb_l] at h; cases h
      | inr t =>
        rw [h1, pb_r] at h
        cases h
        have hp2 := pTwo_pos hw h1
        exact ⟨ok_addV ho (by have := ho.1; omega) hp2.1 hp2.2.1, hp2.2.2.2⟩
  · rw [if_neg w0] at h
    by_cases w1 : wIs b (sk b N p) (wE b N (sk b N p)) 1 = true
    · rw [if_pos w1] at h
      by_cases hb : k = 60 ∨ c.1.2.1 = 5
      · rw [if_pos hb] at h; cases h
      · rw [if_neg hb] at h
        cases h1 : pTwo b N 100 100 (wE b N (sk b N p)) with
        | inl e => rw [h1, pb_l] at h; cases h
        | inr t =>
          rw [h1, pb_r] at h
          cases h
          have hp2 := pTwo_pos hw h1
          exact ⟨ok_addT ho (by have := ho.2.1; omega) hp2.2.1, hp2.2.2.2⟩
    · rw [if_neg w1] at h
      by_cases w2 : wIs b (sk b N p) (wE b N (sk b N p)) 2 = true
      · rw [if_pos w2] at h
        by_cases hb : k = 60
        · rw [if_pos hb] at h; cases h
        · rw [if_neg hb] at h
          cases h1 : pOne b N (wE b N (sk b N p)) with
          | inl e => rw [h1, pb_l] at h; cases h
          | inr t =>
            rw [h1, pb_r] at h
            cases h
            exact ⟨ho, (pOne_pos hw h1).2⟩
      · rw [if_neg w2] at h; cases h
theorem r_rowV {M : Um} {p : Nat} {c : Cs} {x : Int32} {k : Um → Option (Um × Int32)} (hx : x = nI (enc (wch 0) (wln 0))) (hA : rA b N M) (hpN : p ≤ N) (hp : M 38 4 = nI p) (hf : M 38 5 = -1) (hc : rr M c) (h8 : c.1.1 < 8) : (∀ e, pTwo b N 100 61 p = .inl e → ∃ m', ubi (f_X8_readRow M x) (fun m8 r9 => ubi (f_X8_sign m8 59) (fun m11 r12 => k m11)) = k m' ∧ rb Rc Jc M m' e) ∧ ∀ t, pTwo b N 100 61 p = .inr t → ∃ m', ubi (f_X8_readRow M x) (fun m8 r9 => ubi (f_X8_sign m8 59) (fun m11 r12 => k m11)) = k m' ∧ rq Rc Jc M m' t.2 ∧ rr m' (cAddV c t.1.1 t.1.2) := by
  have hN := hA.1
  have h14 : M 38 14 = nI (c.1.1) := hc.1
  have hRc : Rc 41 := Or.inl rfl
  have hJc : Jc 14 := Or.inl rfl
  unfold pTwo f_X8_readRow f_X8_readRow_b131
  rw [r_of (w := 0) (by omega), ubi_mk, if_pos hx, h14, lit_mul, uin_n (by omega) (by omega)]
  cases h1 : pNum b N 0 100 p with
  | inl e1 =>
    obtain ⟨m1, g1, g2, g3⟩ := r_num_f hA hpN hp hf (lo := 0) (hi := 100) (x := 0) (y := 99) rfl rfl (by omega) (by omega) h1
    have he := pNum_e hpN h1
    have k1 : rb Rc Jc M (um_w m1 41 (2 * c.1.1) 0) e1 := rb_w (rb_0 g2) hRc (by omega) _ _
    have h141 : (um_w m1 41 (2 * c.1.1) 0) 38 14 = nI (c.1.1) := by rw [um_w_c (by omega), g2.1.2 14 (fun h => h) (by omega)]; exact h14
    rw [pb_l, g1, ubi_mk, ugd_t, nI_clamp (by omega), show OfNat.ofNat 2 * c.1.1 = 2 * c.1.1 from rfl, r_num_b (by omega) k1.2.1, ubi_mk, h141, lit_mul, nI_1, uin_n (by omega) (by omega), ugd_t, nI_clamp (by omega)]
    have k2 : rb Rc Jc M (um_w (um_w (um_w m1 41 (2 * c.1.1) 0) 41 (2 * c.1.1 + 1) 0) 38 14 ((um_w (um_w m1 41 (2 * c.1.1) 0) 41 (2 * c.1.1 + 1) 0) 38 14 + 1)) e1 := rb_j (rb_w k1 hRc (by omega) _ _) hJc (by omega) _
    refine ⟨fun e he' => ?_, fun t he => by cases he⟩
    cases he'
    exact ⟨_, by rw [ubi_mk, r_sign_b (by omega) k2.2.1, ubi_mk], k2⟩
  | inr y =>
    obtain ⟨u, p1⟩ := y
    have hp1 := pNum_pos hpN h1
    obtain ⟨m1, g1, g2⟩ := r_num_t hA hpN hp hf (lo := 0) (hi := 100) (x := 0) (y := 99) rfl rfl (by omega) (by omega) h1
    have k1 : rq Rc Jc M (um_w m1 41 (2 * c.1.1) (nI u)) p1 := rq_w (rq_0 g2) hRc (by omega) _ _
    have hA1 := rA_g (C := Rc) (J := Jc) (show ¬ (40 = 41 ∨ 40 = 42) by omega) (show ¬ (3 = 14 ∨ 3 = 15 ∨ 3 = 16) by omega) hA k1.1
    have h141 : (um_w m1 41 (2 * c.1.1) (nI u)) 38 14 = nI (c.1.1) := by rw [um_w_c (by omega), g2.1.2 14 (fun h => h) (by omega)]; exact h14
    rw [pb_r, g1, ubi_mk, ugd_t, nI_clamp (by omega), show OfNat.ofNat 2 * c.1.1 = 2 * c.1.1 from rfl]
    cases h2 : pNum b N 0 61 p1 with
    | inl e2 =>
      obtain ⟨m2, q1, q2, q3⟩ := r_num_f hA1 hp1.2.1 k1.2.1 k1.2.2.1 (lo := 0) (hi := 61) (x := 0) (y := 60) rfl rfl (by omega) (by omega) h2
      have he := pNum_e hp1.2.1 h2
      have k2 : rb Rc Jc M m2 e2 := rb_tr k1.1 (rb_0 q2)
      have k3 : rb Rc Jc M (um_w (um_w m2 41 (2 * c.1.1 + 1) 0) 38 14 ((um_w m2 41 (2 * c.1.1 + 1) 0) 38 14 + 1)) e2 := rb_j (rb_w k2 hRc (by omega) _ _) hJc (by omega) _
      rw [pb_l, q1, ubi_mk, h141, lit_mul, nI_1, uin_n (by omega) (by omega), ugd_t, nI_clamp (by omega)]
      refine ⟨fun e he' => ?_, fun t he => by cases he⟩
      cases he'
      exact ⟨_, by rw [ubi_mk, r_sign_b (by omega) k3.2.1, ubi_mk], k3⟩
    | inr z =>
      obtain ⟨v, p2⟩ := z
      have hp2 := pNum_pos hp1.2.1 h2
      obtain ⟨m2, q1, q2⟩ := r_num_t hA1 hp1.2.1 k1.2.1 k1.2.2.1 (lo := 0) (hi := 61) (x := 0) (y := 60) rfl rfl (by omega) (by omega) h2
      have k2 : rq Rc Jc M m2 p2 := rq_tr k1 (rq_0 q2)
      have h142 : (um_w m2 41 (2 * c.1.1 + 1) (nI v)) 38 14 = nI (c.1.1) := by rw [um_w_c (by omega), q2.1.2 14 (fun h => h) (by omega)]; exact h141
      have k3 : rq Rc Jc M (um_w (um_w m2 41 (2 * c.1.1 + 1) (nI v)) 38 14 (nI (c.1.1 + 1))) p2 := rq_j (rq_w k2 hRc (by omega) _ _) hJc (by omega) _
      have hA3 := rA_g (C := Rc) (J := Jc) (show ¬ (40 = 41 ∨ 40 = 42) by omega) (show ¬ (3 = 14 ∨ 3 = 15 ∨ 3 = 16) by omega) hA k3.1
      rw [pb_r, q1, ubi_mk, h141, lit_mul, nI_1, uin_n (by omega) (by omega), ugd_t, nI_clamp (by omega), show OfNat.ofNat 2 * c.1.1 + 1 = 2 * c.1.1 + 1 from rfl, h142, nI_1]
      cases h3 : pSign b N 59 p2 with
      | inl e3 =>
        obtain ⟨m3, r1, r2, r3⟩ := r_sign_f hA3 hp2.2.1 k3.2.1 k3.2.2.1 (c := 59) (x := 59) rfl (by omega) (by omega) h3
        rw [pb_l]
        refine ⟨fun e he' => ?_, fun t he => by cases he⟩
        cases he'
        exact ⟨m3, by rw [ubi_mk, r1, ubi_mk], rb_tr k3.1 (rb_0 r2)⟩
      | inr p3 =>
        obtain ⟨m3, r1, r2⟩ := r_sign_t hA3 hp2.2.1 k3.2.1 k3.2.2.1 (c := 59) (x := 59) rfl (by omega) (by omega) h3
        rw [pb_r]
        refine ⟨fun e he => (by cases he), fun t he => ?_⟩
        cases he
        refine ⟨m3, by rw [ubi_mk, r1, ubi_mk], rq_tr k3 (rq_0 r2), rr_g (M := um_w (um_w m2 41 (2 * c.1.1 + 1) (nI v)) 38 14 (nI (c.1.1 + 1))) ?_ (r2.1.1 41 (fun h => h) (by omega)) (r2.1.1 42 (fun h => h) (by omega)) (fun j hj => r2.1.2 j (fun h => h) (by omega))⟩
        have hj : ∀ j, 14 ≤ j ∧ j ≤ 16 → m2 38 j = M 38 j := fun j hj => by rw [q2.1.2 j (fun h => h) (by omega), um_w_c (by omega), g2.1.2 j (fun h => h) (by omega)]
        have ho : m2 42 = M 42 := by rw [q2.1.1 42 (fun h => h) (by omega), um_w_c (by omega), g2.1.1 42 (fun h => h) (by omega)]
        have hs : ∀ i, um_w m2 41 (2 * c.1.1 + 1) (nI v) 41 i = upd (upd (M 41) (2 * c.1.1) (nI u)) (2 * c.1.1 + 1) (nI v) i := fun i => by rw [um_w_def, um_wa_s, q2.1.1 41 (fun h => h) (by omega), um_w_def, um_wa_s, g2.1.1 41 (fun h => h) (by omega)]
        obtain ⟨c1, c2, c3, c4, c5⟩ := hc
        refine ⟨um_w_s _ _ _ _, ?_, ?_, fun v' hv => ?_, fun v' hv => ?_⟩
        · rw [um_w_k (by omega), um_w_c (by omega), hj 15 (by omega)]
          exact c2
        · rw [um_w_k (by omega), um_w_c (by omega), hj 16 (by omega)]
          exact c3
        · have hv' : v' < c.1.1 + 1 := hv
          rw [um_w_c (by omega), hs, hs]
          show upd (upd (M 41) (2 * c.1.1) (nI u)) (2 * c.1.1 + 1) (nI v) (2 * v') = upd c.2.1.1 (c.1.1) (nI u) v' ∧ upd (upd (M 41) (2 * c.1.1) (nI u)) (2 * c.1.1 + 1) (nI v) (2 * v' + 1) = upd c.2.1.2 (c.1.1) (nI v) v'
          by_cases hq : v' = c.1.1
          · subst hq
            rw [upd_n (by omega), upd_s, upd_s, upd_s, upd_s]
            exact ⟨rfl, rfl⟩
          · simp (disch := omega) only [upd_n]
            exact c4 v' (by omega)
        · rw [um_w_c (by omega), um_w_c (by omega), ho]
          exact c5 v' hv
theorem r_rowT {M : Um} {p : Nat} {c : Cs} {x : Int32} {k : Um → Option (Um × Int32)} (hx0 : ¬ x = nI (enc (wch 0) (wln 0))) (hx : x = nI (enc (wch 1) (wln 1))) (hA : rA b N M) (hpN : p ≤ N) (hp : M 38 4 = nI p) (hf : M 38 5 = -1) (hc : rr M c) (h8 : c.1.2.1 < 5) : (∀ e, pTwo b N 100 100 p = .inl e → ∃ m', ubi (f_X8_readRow M x) (fun m8 r9 => ubi (f_X8_sign m8 59) (fun m11 r12 => k m11)) = k m' ∧ rb Rc Jc M m' e) ∧ ∀ t, pTwo b N 100 100 p = .inr t → ∃ m', ubi (f_X8_readRow M x) (fun m8 r9 => ubi (f_X8_sign m8 59) (fun m11 r12 => k m11)) = k m' ∧ rq Rc Jc M m' t.2 ∧ rr m' (cAddT c t.1.1 t.1.2) := by
  have hN := hA.1
  have h14 : M 38 15 = nI (c.1.2.1) := hc.2.1
  have hRc : Rc 42 := Or.inr rfl
  have hJc : Jc 15 := Or.inr (Or.inl rfl)
  unfold pTwo f_X8_readRow f_X8_readRow_b131
  rw [r_of (w := 0) (by omega), ubi_mk, if_neg hx0, r_of (w := 1) (by omega), ubi_mk, if_pos hx, h14, lit_mul, uin_n (by omega) (by omega)]
  cases h1 : pNum b N 0 100 p with
  | inl e1 =>
    obtain ⟨m1, g1, g2, g3⟩ := r_num_f hA hpN hp hf (lo := 0) (hi := 100) (x := 0) (y := 99) rfl rfl (by omega) (by omega) h1
    have he := pNum_e hpN h1
    have k1 : rb Rc Jc M (um_w m1 42 (2 * c.1.2.1) 0) e1 := rb_w (rb_0 g2) hRc (by omega) _ _
    have h141 : (um_w m1 42 (2 * c.1.2.1) 0) 38 15 = nI (c.1.2.1) := by rw [um_w_c (by omega), g2.1.2 15 (fun h => h) (by omega)]; exact h14
    rw [pb_l, g1, ubi_mk, ugd_t, nI_clamp (by omega), show OfNat.ofNat 2 * c.1.2.1 = 2 * c.1.2.1 from rfl, r_num_b (by omega) k1.2.1, ubi_mk, h141, lit_mul, nI_1, uin_n (by omega) (by omega), ugd_t, nI_clamp (by omega)]
    have k2 : rb Rc Jc M (um_w (um_w (um_w m1 42 (2 * c.1.2.1) 0) 42 (2 * c.1.2.1 + 1) 0) 38 15 ((um_w (um_w m1 42 (2 * c.1.2.1) 0) 42 (2 * c.1.2.1 + 1) 0) 38 15 + 1)) e1 := rb_j (rb_w k1 hRc (by omega) _ _) hJc (by omega) _
    refine ⟨fun e he' => ?_, fun t he => by cases he⟩
    cases he'
    exact ⟨_, by rw [ubi_mk, r_sign_b (by omega) k2.2.1, ubi_mk], k2⟩
  | inr y =>
    obtain ⟨u, p1⟩ := y
    have hp1 := pNum_pos hpN h1
    obtain ⟨m1, g1, g2⟩ := r_num_t hA hpN hp hf (lo := 0) (hi := 100) (x := 0) (y := 99) rfl rfl (by omega) (by omega) h1
    have k1 : rq Rc Jc M (um_w m1 42 (2 * c.1.2.1) (nI u)) p1 := rq_w (rq_0 g2) hRc (by omega) _ _
    have hA1 := rA_g (C := Rc) (J := Jc) (show ¬ (40 = 41 ∨ 40 = 42) by omega) (show ¬ (3 = 14 ∨ 3 = 15 ∨ 3 = 16) by omega) hA k1.1
    have h141 : (um_w m1 42 (2 * c.1.2.1) (nI u)) 38 15 = nI (c.1.2.1) := by rw [um_w_c (by omega), g2.1.2 15 (fun h => h) (by omega)]; exact h14
    rw [pb_r, g1, ubi_mk, ugd_t, nI_clamp (by omega), show OfNat.ofNat 2 * c.1.2.1 = 2 * c.1.2.1 from rfl]
    cases h2 : pNum b N 0 100 p1 with
    | inl e2 =>
      obtain ⟨m2, q1, q2, q3⟩ := r_num_f hA1 hp1.2.1 k1.2.1 k1.2.2.1 (lo := 0) (hi := 100) (x := 0) (y := 99) rfl rfl (by omega) (by omega) h2
      have he := pNum_e hp1.2.1 h2
      have k2 : rb Rc Jc M m2 e2 := rb_tr k1.1 (rb_0 q2)
      have k3 : rb Rc Jc M (um_w (um_w m2 42 (2 * c.1.2.1 + 1) 0) 38 15 ((um_w m2 42 (2 * c.1.2.1 + 1) 0) 38 15 + 1)) e2 := rb_j (rb_w k2 hRc (by omega) _ _) hJc (by omega) _
      rw [pb_l, q1, ubi_mk, h141, lit_mul, nI_1, uin_n (by omega) (by omega), ugd_t, nI_clamp (by omega)]
      refine ⟨fun e he' => ?_, fun t he => by cases he⟩
      cases he'
      exact ⟨_, by rw [ubi_mk, r_sign_b (by omega) k3.2.1, ubi_mk], k3⟩
    | inr z =>
      obtain ⟨v, p2⟩ := z
      have hp2 := pNum_pos hp1.2.1 h2
      obtain ⟨m2, q1, q2⟩ := r_num_t hA1 hp1.2.1 k1.2.1 k1.2.2.1 (lo := 0) (hi := 100) (x := 0) (y := 99) rfl rfl (by omega) (by omega) h2
      have k2 : rq Rc Jc M m2 p2 := rq_tr k1 (rq_0 q2)
      have h142 : (um_w m2 42 (2 * c.1.2.1 + 1) (nI v)) 38 15 = nI (c.1.2.1) := by rw [um_w_c (by omega), q2.1.2 15 (fun h => h) (by omega)]; exact h141
      have k3 : rq Rc Jc M (um_w (um_w m2 42 (2 * c.1.2.1 + 1) (nI v)) 38 15 (nI (c.1.2.1 + 1))) p2 := rq_j (rq_w k2 hRc (by omega) _ _) hJc (by omega) _
      have hA3 := rA_g (C := Rc) (J := Jc) (show ¬ (40 = 41 ∨ 40 = 42) by omega) (show ¬ (3 = 14 ∨ 3 = 15 ∨ 3 = 16) by omega) hA k3.1
      rw [pb_r, q1, ubi_mk, h141, lit_mul, nI_1, uin_n (by omega) (by omega), ugd_t, nI_clamp (by omega), show OfNat.ofNat 2 * c.1.2.1 + 1 = 2 * c.1.2.1 + 1 from rfl, h142, nI_1]
      cases h3 : pSign b N 59 p2 with
      | inl e3 =>
        obtain ⟨m3, r1, r2, r3⟩ := r_sign_f hA3 hp2.2.1 k3.2.1 k3.2.2.1 (c := 59) (x := 59) rfl (by omega) (by omega) h3
        rw [pb_l]
        refine ⟨fun e he' => ?_, fun t he => by cases he⟩
        cases he'
        exact ⟨m3, by rw [ubi_mk, r1, ubi_mk], rb_tr k3.1 (rb_0 r2)⟩
      | inr p3 =>
        obtain ⟨m3, r1, r2⟩ := r_sign_t hA3 hp2.2.1 k3.2.1 k3.2.2.1 (c := 59) (x := 59) rfl (by omega) (by omega) h3
        rw [pb_r]
        refine ⟨fun e he => (by cases he), fun t he => ?_⟩
        cases he
        refine ⟨m3, by rw [ubi_mk, r1, ubi_mk], rq_tr k3 (rq_0 r2), rr_g (M := um_w (um_w m2 42 (2 * c.1.2.1 + 1) (nI v)) 38 15 (nI (c.1.2.1 + 1))) ?_ (r2.1.1 41 (fun h => h) (by omega)) (r2.1.1 42 (fun h => h) (by omega)) (fun j hj => r2.1.2 j (fun h => h) (by omega))⟩
        have hj : ∀ j, 14 ≤ j ∧ j ≤ 16 → m2 38 j = M 38 j := fun j hj => by rw [q2.1.2 j (fun h => h) (by omega), um_w_c (by omega), g2.1.2 j (fun h => h) (by omega)]
        have ho : m2 41 = M 41 := by rw [q2.1.1 41 (fun h => h) (by omega), um_w_c (by omega), g2.1.1 41 (fun h => h) (by omega)]
        have hs : ∀ i, um_w m2 42 (2 * c.1.2.1 + 1) (nI v) 42 i = upd (upd (M 42) (2 * c.1.2.1) (nI u)) (2 * c.1.2.1 + 1) (nI v) i := fun i => by rw [um_w_def, um_wa_s, q2.1.1 42 (fun h => h) (by omega), um_w_def, um_wa_s, g2.1.1 42 (fun h => h) (by omega)]
        obtain ⟨c1, c2, c3, c4, c5⟩ := hc
        refine ⟨?_, um_w_s _ _ _ _, ?_, fun v' hv => ?_, fun v' hv => ?_⟩
        · rw [um_w_k (by omega), um_w_c (by omega), hj 14 (by omega)]
          exact c1
        · rw [um_w_k (by omega), um_w_c (by omega), hj 16 (by omega)]
          exact c3
        · rw [um_w_c (by omega), um_w_c (by omega), ho]
          exact c4 v' hv
        · have hv' : v' < c.1.2.1 + 1 := hv
          rw [um_w_c (by omega), hs, hs]
          show upd (upd (M 42) (2 * c.1.2.1) (nI u)) (2 * c.1.2.1 + 1) (nI v) (2 * v') = upd c.2.2.1 (c.1.2.1) (nI u) v' ∧ upd (upd (M 42) (2 * c.1.2.1) (nI u)) (2 * c.1.2.1 + 1) (nI v) (2 * v' + 1) = upd c.2.2.2 (c.1.2.1) (nI v) v'
          by_cases hq : v' = c.1.2.1
          · subst hq
            rw [upd_n (by omega), upd_s, upd_s, upd_s, upd_s]
            exact ⟨rfl, rfl⟩
          · simp (disch := omega) only [upd_n]
            exact c5 v' (by omega)
theorem r_rowZ {M : Um} {p : Nat} {c : Cs} {x : Int32} {k : Um → Option (Um × Int32)} (hx0 : ¬ x = nI (enc (wch 0) (wln 0))) (hx1 : ¬ x = nI (enc (wch 1) (wln 1))) (hA : rA b N M) (hpN : p ≤ N) (hp : M 38 4 = nI p) (hf : M 38 5 = -1) (hc : rr M c) : (∀ e, pOne b N p = .inl e → ∃ m', ubi (f_X8_readRow M x) (fun m8 r9 => ubi (f_X8_sign m8 59) (fun m11 r12 => k m11)) = k m' ∧ rb Rc Jc M m' e) ∧ ∀ t, pOne b N p = .inr t → ∃ m', ubi (f_X8_readRow M x) (fun m8 r9 => ubi (f_X8_sign m8 59) (fun m11 r12 => k m11)) = k m' ∧ rq Rc Jc M m' t.2 ∧ rr m' (cAddZ c t.1) := by
  have hN := hA.1
  have hJc : Jc 16 := Or.inr (Or.inr rfl)
  unfold pOne f_X8_readRow f_X8_readRow_b131
  rw [r_of (w := 0) (by omega), ubi_mk, if_neg hx0, r_of (w := 1) (by omega), ubi_mk, if_neg hx1]
  cases h1 : pNum b N 1 21 p with
  | inl e1 =>
    obtain ⟨m1, g1, g2, g3⟩ := r_num_f hA hpN hp hf (lo := 1) (hi := 21) (x := 1) (y := 20) rfl rfl (by omega) (by omega) h1
    have he := pNum_e hpN h1
    have k1 : rb Rc Jc M (um_w m1 38 16 0) e1 := rb_j (rb_0 g2) hJc (by omega) _
    rw [pb_l, g1, ubi_mk]
    refine ⟨fun e he' => ?_, fun t he => by cases he⟩
    cases he'
    exact ⟨_, by rw [ubi_mk, r_sign_b (by omega) k1.2.1, ubi_mk], k1⟩
  | inr y =>
    obtain ⟨u, p1⟩ := y
    have hp1 := pNum_pos hpN h1
    obtain ⟨m1, g1, g2⟩ := r_num_t hA hpN hp hf (lo := 1) (hi := 21) (x := 1) (y := 20) rfl rfl (by omega) (by omega) h1
    have k1 : rq Rc Jc M (um_w m1 38 16 (nI u)) p1 := rq_j (rq_0 g2) hJc (by omega) _
    have hA1 := rA_g (C := Rc) (J := Jc) (show ¬ (40 = 41 ∨ 40 = 42) by omega) (show ¬ (3 = 14 ∨ 3 = 15 ∨ 3 = 16) by omega) hA k1.1
    rw [pb_r, g1, ubi_mk]
    cases h3 : pSign b N 59 p1 with
    | inl e3 =>
      obtain ⟨m3, r1, r2, r3⟩ := r_sign_f hA1 hp1.2.1 k1.2.1 k1.2.2.1 (c := 59) (x := 59) rfl (by omega) (by omega) h3
      rw [pb_l]
      refine ⟨fun e he' => ?_, fun t he => by cases he⟩
      cases he'
      exact ⟨m3, by rw [ubi_mk, r1, ubi_mk], rb_tr k1.1 (rb_0 r2)⟩
    | inr p3 =>
      obtain ⟨m3, r1, r2⟩ := r_sign_t hA1 hp1.2.1 k1.2.1 k1.2.2.1 (c := 59) (x := 59) rfl (by omega) (by omega) h3
      rw [pb_r]
      refine ⟨fun e he => (by cases he), fun t he => ?_⟩
      cases he
      refine ⟨m3, by rw [ubi_mk, r1, ubi_mk], rq_tr k1 (rq_0 r2), rr_g (M := um_w m1 38 16 (nI u)) ?_ (r2.1.1 41 (fun h => h) (by omega)) (r2.1.1 42 (fun h => h) (by omega)) (fun j hj => r2.1.2 j (fun h => h) (by omega))⟩
      obtain ⟨c1, c2, c3, c4, c5⟩ := hc
      refine ⟨?_, ?_, um_w_s _ _ _ _, fun v hv => ?_, fun v hv => ?_⟩
      · rw [um_w_k (by omega), g2.1.2 14 (fun h => h) (by omega)]
        exact c1
      · rw [um_w_k (by omega), g2.1.2 15 (fun h => h) (by omega)]
        exact c2
      · rw [um_w_c (by omega), g2.1.1 41 (fun h => h) (by omega)]
        exact c4 v hv
      · rw [um_w_c (by omega), g2.1.1 42 (fun h => h) (by omega)]
        exact c5 v hv
theorem r_co_end {M : Um} {q fuel : Nat} (hq : q < 2 ^ 31) (h : M 38 5 = nI q) (x : Int32) : f_X8_corner_b44 (fuel + 1) M x = f_X8_corner_b136 M := by
  rw [f_X8_corner_b44, r_fine_f hq h, ubi_mk, if_pos rfl]
theorem r_clause {M : Um} {p k fuel : Nat} {c : Cs} (hk : k ≤ 60) (hA : rA b N M) (hpN : p ≤ N) (hp : M 38 4 = nI p) (hf : M 38 5 = -1) (hs : sk b N p < N) (hc : rr M c) (ho : okK c) : (∀ e, pCl b N k (sk b N p) c = .inl e → e.2 ≤ N → ∃ m', f_X8_corner_b44 (fuel + 2) M (nI k) = f_X8_corner_b136 m' ∧ rb Rc Jc M m' e) ∧ ∀ p' c', pCl b N k (sk b N p) c = .inr (p', c') → ∃ m', f_X8_corner_b44 (fuel + 2) M (nI k) = f_X8_corner_b44 (fuel + 1) m' (nI (k + 1)) ∧ rq Rc Jc M m' p' ∧ rr m' c' := by
  have hN := hA.1
  have hsN := sk_le (b := b) hpN
  have hwN := wE_le (b := b) hsN
  have hk4 := w4_k hf (sk b N p)
  have hA4 := rA_4 hA (sk b N p)
  have hc4 : rr (um_w M 38 4 (nI (sk b N p))) c := rr_g hc (um_w_c (by omega)) (um_w_c (by omega)) (fun j hj => um_w_k (by omega))
  have hpass : f_X8_pass (um_w M 38 4 (nI (sk b N p))) = some (um_w M 38 4 (nI (wE b N (sk b N p))), ()) := by
    rw [r_pass hA4 hsN (um_w_s _ _ _ _), um_w_w]
  have hkE := w4_k hf (wE b N (sk b N p))
  have hAE := rA_4 hA (wE b N (sk b N p))
  have hcE : rr (um_w M 38 4 (nI (wE b N (sk b N p)))) c := rr_g hc (um_w_c (by omega)) (um_w_c (by omega)) (fun j hj => um_w_k (by omega))
  have hii : sk b N (sk b N p) = sk b N p := scE_id b bS N p
  obtain ⟨m3, z1, z2, z3, z4⟩ := r_wrong hk4.2.2.1 (k := 3) (q := sk b N p) (x := 3) (y := nI (sk b N p)) rfl rfl
  obtain ⟨m9, y1, y2, y3, y4⟩ := r_wrong hk4.2.2.1 (k := 1) (q := sk b N p) (x := 1) (y := nI (sk b N p)) rfl rfl
  have hz : rb Rc Jc M m3 (3, sk b N p) := rb_tr (rg_0 hk4.1) (rb_0 z2)
  have hy : rb Rc Jc M m9 (1, sk b N p) := rb_tr (rg_0 hk4.1) (rb_0 y2)
  have b96 : ∀ x, f_X8_corner_b96 (f_X8_corner_b44 (fuel + 1)) (um_w M 38 4 (nI (sk b N p))) (nI k) x = f_X8_corner_b136 m3 := fun x => by
    unfold f_X8_corner_b96 f_X8_corner_b105
    rw [um_w_s, z1, ubi_mk, r_fine_f (by omega) hz.2.1, ubi_mk, if_pos rfl]
  have b105 : ∀ x, f_X8_corner_b105 (f_X8_corner_b44 (fuel + 1)) (um_w M 38 4 (nI (sk b N p))) (nI k) x = ubi (f_X8_readRow (um_w M 38 4 (nI (wE b N (sk b N p)))) x) (fun m8 r9 => ubi (f_X8_sign m8 59) (fun m11 r12 => f_X8_corner_b44 (fuel + 1) m11 (nI (k + 1)))) := fun x => by
    unfold f_X8_corner_b105
    rw [r_fine_t hk4.2.2.1, ubi_mk, if_neg i1_0, hpass, ubi_mk, nI_1]
  have h48 : ∀ m' : Um, f_X8_isFull_b48 m' 0 = some (m', 0) := fun m' => by
    unfold f_X8_isFull_b48
    rw [ub01_0, ugd_t]
  have e0 := wv_eq (b := b) (N := N) (q := sk b N p) (w := 0) (by omega) hN
  have e1 := wv_eq (b := b) (N := N) (q := sk b N p) (w := 1) (by omega) hN
  have e2 := wv_eq (b := b) (N := N) (q := sk b N p) (w := 2) (by omega) hN
  unfold pCl
  rw [hii, show fuel + 2 = (fuel + 1) + 1 from rfl, f_X8_corner_b44, r_fine_t hf, ubi_mk, if_neg i1_0, r_more hA hpN hp, ubi_mk, ite_bi0, if_pos (decide_eq_true hs), r_word2 hA hpN, ubi_mk]
  unfold f_X8_isRow f_X8_isRow_b27 f_X8_isRow_b32 f_X8_isFull f_X8_isFull_b48 f_X8_isFull_b47
  simp only [show (nI k = 60) = (k = 60) from nI_eq' (b := 60) (by omega) (by omega), r_of (w := 0) (by omega), r_of (w := 1) (by omega), r_of (w := 2) (by omega), ubi_mk, ub01_0, ub01_1, ugd_t, e0, e1, e2]
  by_cases w0 : wIs b (sk b N p) (wE b N (sk b N p)) 0 = true
  · have hx0 : wv b (sk b N p) (wE b N (sk b N p)) = nI (enc (wch 0) (wln 0)) := by rw [e0]; exact w0
    simp only [w0, if_true, ubi_mk, b96, b105, hc4.1, show (nI c.1.1 = 8) = (c.1.1 = 8) from nI_eq' (b := 8) (by have := ho.1; omega) (by omega)]
    rw [if_neg (show ¬ (1 : Int32) = 0 by decide)]
    by_cases hb : k = 60 ∨ c.1.1 = 8
    · rw [if_pos hb]
      refine ⟨fun e he hee => ?_, fun p' c' he => by cases he⟩
      cases he
      refine ⟨m3, ?_, hz⟩
      by_cases h60 : k = 60
      · rw [if_pos h60]
      · rw [if_neg h60, if_pos (show c.1.1 = 8 by omega), ubi_mk, if_neg i1_0, b96]
    · have h8 : c.1.1 < 8 := by have := ho.1; omega
      rw [if_neg hb, if_neg (fun q => hb (Or.inl q)), if_neg (show ¬ c.1.1 = 8 by omega), ubi_mk, if_pos rfl, b105]
      have hv := r_rowV (k := fun m11 => f_X8_corner_b44 (fuel + 1) m11 (nI (k + 1))) hx0 hAE hwN (um_w_s _ _ _ _) hkE.2.2.1 hcE h8
      cases h1 : pTwo b N 100 61 (wE b N (sk b N p)) with
      | inl e1 =>
        obtain ⟨m', q1, q2⟩ := hv.1 e1 h1
        rw [pb_l]
        refine ⟨fun e he hee => ?_, fun p' c' he => by cases he⟩
        cases he
        refine ⟨m', ?_, rb_tr (rg_0 hkE.1) q2⟩
        rw [q1, r_co_end (by omega) q2.2.1]
      | inr t =>
        obtain ⟨m', q1, q2, q3⟩ := hv.2 t h1
        rw [pb_r]
        refine ⟨fun e he => (by cases he), fun p' c' he => ?_⟩
        cases he
        exact ⟨m', q1, rq_tr (rq_0 hkE) q2, q3⟩
  · have hx0 : ¬ wv b (sk b N p) (wE b N (sk b N p)) = nI (enc (wch 0) (wln 0)) := by rw [e0]; exact w0
    by_cases w1 : wIs b (sk b N p) (wE b N (sk b N p)) 1 = true
    · have hx1 : wv b (sk b N p) (wE b N (sk b N p)) = nI (enc (wch 1) (wln 1)) := by rw [e1]; exact w1
      simp only [w0, w1, Bool.false_eq_true, if_true, if_false, ubi_mk, b96, b105, hc4.2.1, show (nI c.1.2.1 = 5) = (c.1.2.1 = 5) from nI_eq' (b := 5) (by have := ho.2.1; omega) (by omega)]
      rw [if_neg (show ¬ (1 : Int32) = 0 by decide)]
      by_cases hb : k = 60 ∨ c.1.2.1 = 5
      · rw [if_pos hb]
        refine ⟨fun e he hee => ?_, fun p' c' he => by cases he⟩
        cases he
        refine ⟨m3, ?_, hz⟩
        by_cases h60 : k = 60
        · rw [if_pos h60]
        · rw [if_neg h60, if_pos (show c.1.2.1 = 5 by omega), ubi_mk, if_neg i1_0, b96]
      · have h8 : c.1.2.1 < 5 := by have := ho.2.1; omega
        rw [if_neg hb, if_neg (fun q => hb (Or.inl q)), if_neg (show ¬ c.1.2.1 = 5 by omega), h48, ubi_mk, if_pos rfl, b105]
        have hv := r_rowT (k := fun m11 => f_X8_corner_b44 (fuel + 1) m11 (nI (k + 1))) hx0 hx1 hAE hwN (um_w_s _ _ _ _) hkE.2.2.1 hcE h8
        cases h1 : pTwo b N 100 100 (wE b N (sk b N p)) with
        | inl e1 =>
          obtain ⟨m', q1, q2⟩ := hv.1 e1 h1
          rw [pb_l]
          refine ⟨fun e he hee => ?_, fun p' c' he => by cases he⟩
          cases he
          refine ⟨m', ?_, rb_tr (rg_0 hkE.1) q2⟩
          rw [q1, r_co_end (by omega) q2.2.1]
        | inr t =>
          obtain ⟨m', q1, q2, q3⟩ := hv.2 t h1
          rw [pb_r]
          refine ⟨fun e he => (by cases he), fun p' c' he => ?_⟩
          cases he
          exact ⟨m', q1, rq_tr (rq_0 hkE) q2, q3⟩
    · have hx1 : ¬ wv b (sk b N p) (wE b N (sk b N p)) = nI (enc (wch 1) (wln 1)) := by rw [e1]; exact w1
      by_cases w2 : wIs b (sk b N p) (wE b N (sk b N p)) 2 = true
      · simp only [w0, w1, w2, Bool.false_eq_true, if_true, if_false, ubi_mk, b96, b105]
        rw [if_neg (show ¬ (1 : Int32) = 0 by decide)]
        by_cases hb : k = 60
        · rw [if_pos hb, if_pos hb]
          refine ⟨fun e he hee => ?_, fun p' c' he => by cases he⟩
          cases he
          exact ⟨m3, rfl, hz⟩
        · rw [if_neg hb, if_neg hb]
          have hv := r_rowZ (k := fun m11 => f_X8_corner_b44 (fuel + 1) m11 (nI (k + 1))) hx0 hx1 hAE hwN (um_w_s _ _ _ _) hkE.2.2.1 hcE
          cases h1 : pOne b N (wE b N (sk b N p)) with
          | inl e1 =>
            obtain ⟨m', q1, q2⟩ := hv.1 e1 h1
            rw [pb_l]
            refine ⟨fun e he hee => ?_, fun p' c' he => by cases he⟩
            cases he
            refine ⟨m', ?_, rb_tr (rg_0 hkE.1) q2⟩
            rw [h48, ubi_mk, if_pos rfl, b105, q1, r_co_end (by omega) q2.2.1]
          | inr t =>
            obtain ⟨m', q1, q2, q3⟩ := hv.2 t h1
            rw [pb_r]
            refine ⟨fun e he => (by cases he), fun p' c' he => ?_⟩
            cases he
            refine ⟨m', ?_, rq_tr (rq_0 hkE) q2, q3⟩
            rw [h48, ubi_mk, if_pos rfl, b105, q1]
      · simp only [w0, w1, w2, Bool.false_eq_true, if_true, if_false, ubi_mk]
        refine ⟨fun e he hee => ?_, fun p' c' he => by cases he⟩
        cases he
        refine ⟨m9, ?_, hy⟩
        unfold f_X8_corner_b105
        rw [um_w_s, y1, ubi_mk, r_fine_f (by omega) hy.2.1, ubi_mk, if_pos rfl]
theorem r_coL {M0 : Um} : ∀ (f fuel k p : Nat) (M : Um) (c : Cs), k + f = 61 → f + 1 < fuel → (f = 0 → False) → rA b N M → p ≤ N → rq Rc Jc M0 M p → rr M c → okK c → (∀ e, pCo b N f k p c = .inl e → e.2 ≤ N → ∃ m', f_X8_corner_b44 fuel M (nI k) = f_X8_corner_b136 m' ∧ rb Rc Jc M0 m' e) ∧ ∀ c', pCo b N f k p c = .inr c' → ∃ m' p', f_X8_corner_b44 fuel M (nI k) = f_X8_corner_b136 m' ∧ rq Rc Jc M0 m' p' ∧ rr m' c'
  | f, 0, k, p, M, c, _, hf, _, _, _, _, _, _ => absurd hf (Nat.not_lt_zero _)
  | f, 1, k, p, M, c, _, hf, _, _, _, _, _, _ => by omega
  | 0, fuel + 2, k, p, M, c, hk, hf, h0f, hA, hpN, h0, hc, ho => (h0f rfl).elim
  | f + 1, fuel + 2, k, p, M, c, hk, hf, _, hA, hpN, h0, hc, ho => by
    have hs := sk_le (b := b) hpN
    rw [pCo]
    by_cases h : sk b N p < N
    · rw [if_pos h]
      have hl := r_clause (k := k) (fuel := fuel) (by omega) hA hpN h0.2.1 h0.2.2.1 h hc ho
      cases h1 : pCl b N k (sk b N p) c with
      | inl e1 =>
        rw [pb_l]
        refine ⟨fun e he hee => ?_, fun c' he => by cases he⟩
        cases he
        obtain ⟨m', g1, g2⟩ := hl.1 e1 h1 hee
        exact ⟨m', g1, rb_tr h0.1 g2⟩
      | inr t =>
        obtain ⟨p1, c1⟩ := t
        obtain ⟨m1, g1, g2, g3⟩ := hl.2 p1 c1 h1
        have hcl := (e_clause_ok (k := k) hs ho h1)
        have h60 : k ≠ 60 := by
          intro q
          subst q
          exact pCl_60 h1
        rw [pb_r, g1]
        exact r_coL f (fuel + 1) (k + 1) p1 m1 c1 (by omega) (by omega) (by omega) (rA_g (C := Rc) (J := Jc) (show ¬ (40 = 41 ∨ 40 = 42) by omega) (show ¬ (3 = 14 ∨ 3 = 15 ∨ 3 = 16) by omega) hA g2.1) hcl.2 (rq_tr h0 g2) g3 hcl.1
    · rw [if_neg h]
      refine ⟨fun e he => (by cases he), fun c' he => ?_⟩
      cases he
      refine ⟨_, _, ?_, rq_tr h0 (rq_0 (w4_k h0.2.2.1 (sk b N p))), rr_g hc (um_w_c (by omega)) (um_w_c (by omega)) (fun j hj => um_w_k (by omega))⟩
      rw [show fuel + 2 = (fuel + 1) + 1 from rfl, f_X8_corner_b44, r_fine_t h0.2.2.1, ubi_mk, if_neg i1_0, r_more hA hpN h0.2.1, ubi_mk, ite_bi0, if_neg (fun q => h (of_decide_eq_true q))]
end RCORNER
