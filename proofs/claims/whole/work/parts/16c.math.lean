/-! WORK: the reference reads -/
abbrev Rw : Nat → Prop := fun c => c = 51
abbrev Jw : Nat → Prop := fun j => j = 30
def rWS (M M' : Um) (n : Nat) (st : Ws) : Prop := rq Rw Jw M M' st.1 ∧ M' 38 30 = nI (4 * st.2.1) ∧ (∀ j, j < 4 * n → M' 51 j = M 51 j) ∧ ∀ i, n ≤ i → i < st.2.1 → wX (M' 51) 4 (st.2.2 i) i
def lR (b : Nat → Nat) (N T o : Nat) (M : Um) (st : Ws) : Prop := rA b N M ∧ M 38 4 = nI st.1 ∧ M 38 5 = -1 ∧ st.1 ≤ N ∧ 6 * st.2.1 ≤ st.1 ∧ M 38 7 = nI o ∧ M 38 30 = nI (4 * st.2.1) ∧ M 38 18 = nI T
def jWK (M : Um) (f : Option (Um × Unit)) (n : Nat) (r : Pr_ Ws) : Prop := (∀ e, r = .inl e → ∃ M', f = some (M', ()) ∧ rb Rw Jw M M' e) ∧ ∀ st, r = .inr st → ∃ M', f = some (M', ()) ∧ rWS M M' n st
theorem jWK_f {M M' : Um} {n : Nat} {e : Nat × Nat} {f : Option (Um × Unit)} (h1 : f = some (M', ())) (h2 : rb Rw Jw M M' e) : jWK M f n (.inl e) := ⟨fun e' he => by cases he; exact ⟨M', h1, h2⟩, fun st he => by cases he⟩
theorem jWK_s {M M' : Um} {n : Nat} {st : Ws} {f : Option (Um × Unit)} (h1 : f = some (M', ())) (h2 : rWS M M' n st) : jWK M f n (.inr st) := ⟨fun e he => (by cases he), fun st' he => by cases he; exact ⟨M', h1, h2⟩⟩
theorem rw40 : ¬ Rw 40 := fun h => (by cases h)
theorem jw3 : ¬ Jw 3 := fun h => (by cases h)
theorem rWS_tr {M M1 M2 : Um} {n : Nat} {s1 s2 : Ws} (hn : n ≤ s1.2.1) (hG : ∀ i, i < s1.2.1 → s2.2.2 i = s1.2.2 i) (h1 : rWS M M1 n s1) (h2 : rWS M1 M2 s1.2.1 s2) : rWS M M2 n s2 := by
  refine ⟨rq_tr h1.1 h2.1, h2.2.1, fun j hj => by rw [h2.2.2.1 j (by omega), h1.2.2.1 j hj], fun i a b => ?_⟩
  by_cases h : i < s1.2.1
  · rw [hG i h]
    exact wX_cong (fun j h3 h4 => h2.2.2.1 j (by omega)) (h1.2.2.2 i a h)
  · exact h2.2.2.2 i (by omega) b
section WORKR
variable {b : Nat → Nat} {N T : Nat} {M : Um}
theorem lR_g {o n : Nat} {M1 : Um} {st st' : Ws} (hl : lR b N T o M st) (h : rWS M M1 n st') (h1 : st'.1 ≤ N) (h2 : 6 * st'.2.1 ≤ st'.1) : lR b N T o M1 st' := ⟨rA_g rw40 jw3 hl.1 h.1.1, h.1.2.1, h.1.2.2.1, h1, h2, h.1.2.2.2.trans hl.2.2.2.2.2.1, h.2.1, by rw [h.1.1.2 18 (fun h => by cases h) (by omega)]; exact hl.2.2.2.2.2.2.2⟩
theorem r_tells_b {q : Nat} (hq : q < 2 ^ 31) (h : M 38 5 = nI q) (x y z v : Int32) : f_X8_tellsStep M x y z v = some (M, ()) := by
  unfold f_X8_tellsStep
  rw [r_fine_f hq h, ubi_mk, if_pos rfl]
theorem r_tells_t {n : Nat} (hn : n < 50) (hf : M 38 5 = -1) (h30 : M 38 30 = nI (4 * n)) (x y z v : Int32) : f_X8_tellsStep M x y z v = some (um_w (um_w (um_w (um_w (um_w M 51 (4 * n) x) 51 (4 * n + 1) y) 51 (4 * n + 2) z) 51 (4 * n + 3) v) 38 30 (nI (4 * n + 4)), ()) := by
  have e1 : nI (4 * n) + 1 = nI (4 * n + 1) := nI_1 _
  have e2 : nI (4 * n) + 2 = nI (4 * n + 2) := nI_add _ 2
  have e3 : nI (4 * n) + 3 = nI (4 * n + 3) := nI_add _ 3
  have e4 : nI (4 * n) + 4 = nI (4 * n + 4) := nI_add _ 4
  unfold f_X8_tellsStep
  rw [r_fine_t hf, ubi_mk, if_neg i1_0]
  simp (disch := omega) only [um_w_c, h30, e1, e2, e3, e4, uin_n, nI_clamp, ugd_t]
theorem r_b143_b {recR : Um → Option (Um × Unit)} {q : Nat} (hq : q < 2 ^ 31) (h : M 38 5 = nI q) : f_X8_readStep_b143 recR M = some (M, ()) := by
  unfold f_X8_readStep_b143
  rw [r_sign_b hq h, ubi_mk]
theorem r_b140_b {recR : Um → Option (Um × Unit)} {q : Nat} (hq : q < 2 ^ 31) (h : M 38 5 = nI q) (x y z v : Int32) : f_X8_readStep_b140 recR M x y z v = some (M, ()) := by
  unfold f_X8_readStep_b140
  rw [r_tells_b hq h, ubi_mk, r_b143_b hq h]
theorem r_b119_b {recR : Um → Option (Um × Unit)} {q : Nat} (hq : q < 2 ^ 31) (h : M 38 5 = nI q) (x y z : Int32) : f_X8_readStep_b119 recR M x y z = some (M, ()) := by
  unfold f_X8_readStep_b119
  rw [r_num_b hq h, ubi_mk, r_b140_b hq h]
  split <;> rfl
theorem r_ten_b {q : Nat} (hq : q < 2 ^ 31) (h : M 38 5 = nI q) : f_X8_readTenant M = some (M, 0) := by
  unfold f_X8_readTenant
  rw [r_num_b hq h, ubi_mk]
theorem r_b76_b {recR : Um → Option (Um × Unit)} {q : Nat} (hq : q < 2 ^ 31) (h : M 38 5 = nI q) (x y : Int32) : f_X8_readStep_b76 recR M x y = some (M, ()) := by
  unfold f_X8_readStep_b76
  rw [r_num_b hq h, ubi_mk, r_num_b hq h, ubi_mk, r_ten_b hq h, ubi_mk, r_b119_b hq h]
  repeat' split
  all_goals rfl
theorem r_tenR : f_X8_readTenant M = f_X8_readNumber M 0 ((M 38 18) - 1) := by
  unfold f_X8_readTenant
  cases f_X8_readNumber M 0 ((M 38 18) - 1) with
  | none => rfl
  | some q => rfl
/-- the rest of a step that is no again -/
def stR_ (recR : Um → Option (Um × Unit)) (m9 : Um) (r5 : Int32) : Option (Um × Unit) := if r5 = 6 then (f_X8_readStep_b76 recR m9 r5 0) else (if r5 = 1 then (f_X8_readStep_b62 recR m9 r5) else (if r5 = 2 then (f_X8_readStep_b62 recR m9 r5) else (ubi (f_X8_readTenant m9) (fun m15 r16 => f_X8_readStep_b76 recR m15 r5 r16))))
theorem r_args {recR : Um → Option (Um × Unit)} {p k : Nat} (hk : k ≤ 6) (hT : T ≤ 5) (hA : rA b N M) (hpN : p ≤ N) (hp : M 38 4 = nI p) (hf : M 38 5 = -1) (h18 : M 38 18 = nI T) : (∀ e, pAr b N T k p = .inl e → ∃ m', stR_ recR M (nI k) = some (m', ()) ∧ rb cN0 cN0 M m' e) ∧ ∀ x p', pAr b N T k p = .inr (x, p') → ∃ m', stR_ recR M (nI k) = f_X8_readStep_b140 recR m' (nI x.2.2) (nI x.2.1) (nI x.1) (nI k) ∧ rq cN0 cN0 M m' p' := by
  have hN := hA.1
  have hc : k = 0 ∨ k = 1 ∨ k = 2 ∨ k = 3 ∨ k = 4 ∨ k = 5 ∨ k = 6 := by omega
  unfold stR_ pAr
  rcases hc with rfl | rfl | rfl | rfl | rfl | rfl | rfl
  · rw [if_neg (show ¬ nI 0 = 6 by decide), if_neg (show ¬ nI 0 = 1 by decide), if_neg (show ¬ nI 0 = 2 by decide), if_pos (show 0 = 0 by decide)]
    rw [r_tenR, h18]
    cases q0 : pNum b N 0 T p with
    | inl e1 =>
      obtain ⟨m', g1, g2, g3⟩ := r_num_f hA hpN hp hf (lo := 0) (hi := T) (x := 0) (y := nI T - 1) rfl rfl (by omega) (by omega) q0
      have he1 := pNum_e hpN q0
      rw [pb_l, g1, ubi_mk, r_b76_b (by omega) g2.2.1]
      refine ⟨fun e he => ?_, fun x p' he => by cases he⟩
      cases he
      exact ⟨m', rfl, g2⟩
    | inr v0 =>
      obtain ⟨v0, p0⟩ := v0
      obtain ⟨m0, g01, g02⟩ := r_num_t hA hpN hp hf (lo := 0) (hi := T) (x := 0) (y := nI T - 1) rfl rfl (by omega) (by omega) q0
      have gp0 := pNum_pos hpN q0
      have k0 := g02
      have hA0 := rA_g (C := cN0) (J := cN0) (fun h => h) (fun h => h) hA k0.1
      rw [pb_r, g01, ubi_mk]
      unfold f_X8_readStep_b76
      rw [if_pos (show nI 0 = 0 from rfl)]
      cases q1 : pNum b N 1 21 p0 with
      | inl e1 =>
        obtain ⟨m', g1, g2, g3⟩ := r_num_f hA0 gp0.2.1 k0.2.1 k0.2.2.1 (lo := 1) (hi := 21) (x := 1) (y := 20) rfl rfl (by omega) (by omega) q1
        have he1 := pNum_e gp0.2.1 q1
        rw [pb_l, g1, ubi_mk, r_b119_b (by omega) g2.2.1]
        refine ⟨fun e he => ?_, fun x p' he => by cases he⟩
        cases he
        exact ⟨m', rfl, rb_tr k0.1 g2⟩
      | inr v1 =>
        obtain ⟨v1, p1⟩ := v1
        obtain ⟨m1, g11, g12⟩ := r_num_t hA0 gp0.2.1 k0.2.1 k0.2.2.1 (lo := 1) (hi := 21) (x := 1) (y := 20) rfl rfl (by omega) (by omega) q1
        have gp1 := pNum_pos gp0.2.1 q1
        have k1 := rq_tr k0 g12
        have hA1 := rA_g (C := cN0) (J := cN0) (fun h => h) (fun h => h) hA k1.1
        rw [pb_r, g11, ubi_mk]
        unfold f_X8_readStep_b119
        rw [if_neg (show ¬ nI 0 = 4 by decide)]
        refine ⟨fun e he => (by cases he), fun x p' he => ?_⟩
        cases he
        exact ⟨m1, rfl, k1⟩
  · rw [if_neg (show ¬ nI 1 = 6 by decide), if_pos (show nI 1 = 1 from rfl), if_neg (show ¬ (1 = 0) by decide), if_pos (show 1 = 1 ∨ 1 = 2 by decide)]
    unfold f_X8_readStep_b62
    cases q0 : pNum b N 1 21 p with
    | inl e1 =>
      obtain ⟨m', g1, g2, g3⟩ := r_num_f hA hpN hp hf (lo := 1) (hi := 21) (x := 1) (y := 20) rfl rfl (by omega) (by omega) q0
      have he1 := pNum_e hpN q0
      rw [pb_l, g1, ubi_mk, r_b76_b (by omega) g2.2.1]
      refine ⟨fun e he => ?_, fun x p' he => by cases he⟩
      cases he
      exact ⟨m', rfl, g2⟩
    | inr v0 =>
      obtain ⟨v0, p0⟩ := v0
      obtain ⟨m0, g01, g02⟩ := r_num_t hA hpN hp hf (lo := 1) (hi := 21) (x := 1) (y := 20) rfl rfl (by omega) (by omega) q0
      have gp0 := pNum_pos hpN q0
      have k0 := g02
      have hA0 := rA_g (C := cN0) (J := cN0) (fun h => h) (fun h => h) hA k0.1
      rw [pb_r, g01, ubi_mk]
      unfold f_X8_readStep_b76
      rw [if_neg (show ¬ nI 1 = 0 by decide), if_neg (show ¬ nI 1 = 3 by decide), if_neg (show ¬ nI 1 = 4 by decide)]
      unfold f_X8_readStep_b119
      rw [if_neg (show ¬ nI 1 = 4 by decide)]
      refine ⟨fun e he => (by cases he), fun x p' he => ?_⟩
      cases he
      exact ⟨m0, rfl, k0⟩
  · rw [if_neg (show ¬ nI 2 = 6 by decide), if_neg (show ¬ nI 2 = 1 by decide), if_pos (show nI 2 = 2 from rfl), if_neg (show ¬ (2 = 0) by decide), if_pos (show 2 = 1 ∨ 2 = 2 by decide)]
    unfold f_X8_readStep_b62
    cases q0 : pNum b N 1 21 p with
    | inl e1 =>
      obtain ⟨m', g1, g2, g3⟩ := r_num_f hA hpN hp hf (lo := 1) (hi := 21) (x := 1) (y := 20) rfl rfl (by omega) (by omega) q0
      have he1 := pNum_e hpN q0
      rw [pb_l, g1, ubi_mk, r_b76_b (by omega) g2.2.1]
      refine ⟨fun e he => ?_, fun x p' he => by cases he⟩
      cases he
      exact ⟨m', rfl, g2⟩
    | inr v0 =>
      obtain ⟨v0, p0⟩ := v0
      obtain ⟨m0, g01, g02⟩ := r_num_t hA hpN hp hf (lo := 1) (hi := 21) (x := 1) (y := 20) rfl rfl (by omega) (by omega) q0
      have gp0 := pNum_pos hpN q0
      have k0 := g02
      have hA0 := rA_g (C := cN0) (J := cN0) (fun h => h) (fun h => h) hA k0.1
      rw [pb_r, g01, ubi_mk]
      unfold f_X8_readStep_b76
      rw [if_neg (show ¬ nI 2 = 0 by decide), if_neg (show ¬ nI 2 = 3 by decide), if_neg (show ¬ nI 2 = 4 by decide)]
      unfold f_X8_readStep_b119
      rw [if_neg (show ¬ nI 2 = 4 by decide)]
      refine ⟨fun e he => (by cases he), fun x p' he => ?_⟩
      cases he
      exact ⟨m0, rfl, k0⟩
  · rw [if_neg (show ¬ nI 3 = 6 by decide), if_neg (show ¬ nI 3 = 1 by decide), if_neg (show ¬ nI 3 = 2 by decide), if_neg (show ¬ (3 = 0) by decide), if_neg (show ¬ (3 = 1 ∨ 3 = 2) by decide), if_pos (show 3 = 3 by decide)]
    rw [r_tenR, h18]
    cases q0 : pNum b N 0 T p with
    | inl e1 =>
      obtain ⟨m', g1, g2, g3⟩ := r_num_f hA hpN hp hf (lo := 0) (hi := T) (x := 0) (y := nI T - 1) rfl rfl (by omega) (by omega) q0
      have he1 := pNum_e hpN q0
      rw [pb_l, g1, ubi_mk, r_b76_b (by omega) g2.2.1]
      refine ⟨fun e he => ?_, fun x p' he => by cases he⟩
      cases he
      exact ⟨m', rfl, g2⟩
    | inr v0 =>
      obtain ⟨v0, p0⟩ := v0
      obtain ⟨m0, g01, g02⟩ := r_num_t hA hpN hp hf (lo := 0) (hi := T) (x := 0) (y := nI T - 1) rfl rfl (by omega) (by omega) q0
      have gp0 := pNum_pos hpN q0
      have k0 := g02
      have hA0 := rA_g (C := cN0) (J := cN0) (fun h => h) (fun h => h) hA k0.1
      rw [pb_r, g01, ubi_mk]
      unfold f_X8_readStep_b76
      rw [if_neg (show ¬ nI 3 = 0 by decide), if_pos (show nI 3 = 3 from rfl)]
      cases q1 : pNum b N 0 100 p0 with
      | inl e1 =>
        obtain ⟨m', g1, g2, g3⟩ := r_num_f hA0 gp0.2.1 k0.2.1 k0.2.2.1 (lo := 0) (hi := 100) (x := 0) (y := 99) rfl rfl (by omega) (by omega) q1
        have he1 := pNum_e gp0.2.1 q1
        rw [pb_l, g1, ubi_mk, r_b119_b (by omega) g2.2.1]
        refine ⟨fun e he => ?_, fun x p' he => by cases he⟩
        cases he
        exact ⟨m', rfl, rb_tr k0.1 g2⟩
      | inr v1 =>
        obtain ⟨v1, p1⟩ := v1
        obtain ⟨m1, g11, g12⟩ := r_num_t hA0 gp0.2.1 k0.2.1 k0.2.2.1 (lo := 0) (hi := 100) (x := 0) (y := 99) rfl rfl (by omega) (by omega) q1
        have gp1 := pNum_pos gp0.2.1 q1
        have k1 := rq_tr k0 g12
        have hA1 := rA_g (C := cN0) (J := cN0) (fun h => h) (fun h => h) hA k1.1
        rw [pb_r, g11, ubi_mk]
        unfold f_X8_readStep_b119
        rw [if_neg (show ¬ nI 3 = 4 by decide)]
        refine ⟨fun e he => (by cases he), fun x p' he => ?_⟩
        cases he
        exact ⟨m1, rfl, k1⟩
  · rw [if_neg (show ¬ nI 4 = 6 by decide), if_neg (show ¬ nI 4 = 1 by decide), if_neg (show ¬ nI 4 = 2 by decide), if_neg (show ¬ (4 = 0) by decide), if_neg (show ¬ (4 = 1 ∨ 4 = 2) by decide), if_neg (show ¬ (4 = 3) by decide), if_pos (show 4 = 4 by decide)]
    rw [r_tenR, h18]
    cases q0 : pNum b N 0 T p with
    | inl e1 =>
      obtain ⟨m', g1, g2, g3⟩ := r_num_f hA hpN hp hf (lo := 0) (hi := T) (x := 0) (y := nI T - 1) rfl rfl (by omega) (by omega) q0
      have he1 := pNum_e hpN q0
      rw [pb_l, g1, ubi_mk, r_b76_b (by omega) g2.2.1]
      refine ⟨fun e he => ?_, fun x p' he => by cases he⟩
      cases he
      exact ⟨m', rfl, g2⟩
    | inr v0 =>
      obtain ⟨v0, p0⟩ := v0
      obtain ⟨m0, g01, g02⟩ := r_num_t hA hpN hp hf (lo := 0) (hi := T) (x := 0) (y := nI T - 1) rfl rfl (by omega) (by omega) q0
      have gp0 := pNum_pos hpN q0
      have k0 := g02
      have hA0 := rA_g (C := cN0) (J := cN0) (fun h => h) (fun h => h) hA k0.1
      rw [pb_r, g01, ubi_mk]
      unfold f_X8_readStep_b76
      rw [if_neg (show ¬ nI 4 = 0 by decide), if_neg (show ¬ nI 4 = 3 by decide), if_pos (show nI 4 = 4 from rfl), r_tenR, show m0 38 18 = nI T by rw [k0.1.2 18 (fun h => h) (by omega)]; exact h18]
      cases q1 : pNum b N 0 T p0 with
      | inl e1 =>
        obtain ⟨m', g1, g2, g3⟩ := r_num_f hA0 gp0.2.1 k0.2.1 k0.2.2.1 (lo := 0) (hi := T) (x := 0) (y := nI T - 1) rfl rfl (by omega) (by omega) q1
        have he1 := pNum_e gp0.2.1 q1
        rw [pb_l, g1, ubi_mk, r_b119_b (by omega) g2.2.1]
        refine ⟨fun e he => ?_, fun x p' he => by cases he⟩
        cases he
        exact ⟨m', rfl, rb_tr k0.1 g2⟩
      | inr v1 =>
        obtain ⟨v1, p1⟩ := v1
        obtain ⟨m1, g11, g12⟩ := r_num_t hA0 gp0.2.1 k0.2.1 k0.2.2.1 (lo := 0) (hi := T) (x := 0) (y := nI T - 1) rfl rfl (by omega) (by omega) q1
        have gp1 := pNum_pos gp0.2.1 q1
        have k1 := rq_tr k0 g12
        have hA1 := rA_g (C := cN0) (J := cN0) (fun h => h) (fun h => h) hA k1.1
        rw [pb_r, g11, ubi_mk]
        unfold f_X8_readStep_b119
        rw [if_pos (show nI 4 = 4 from rfl)]
        cases q2 : pNum b N 0 100 p1 with
        | inl e1 =>
          obtain ⟨m', g1, g2, g3⟩ := r_num_f hA1 gp1.2.1 k1.2.1 k1.2.2.1 (lo := 0) (hi := 100) (x := 0) (y := 99) rfl rfl (by omega) (by omega) q2
          have he1 := pNum_e gp1.2.1 q2
          rw [pb_l, g1, ubi_mk, r_b140_b (by omega) g2.2.1]
          refine ⟨fun e he => ?_, fun x p' he => by cases he⟩
          cases he
          exact ⟨m', rfl, rb_tr k1.1 g2⟩
        | inr v2 =>
          obtain ⟨v2, p2⟩ := v2
          obtain ⟨m2, g21, g22⟩ := r_num_t hA1 gp1.2.1 k1.2.1 k1.2.2.1 (lo := 0) (hi := 100) (x := 0) (y := 99) rfl rfl (by omega) (by omega) q2
          have gp2 := pNum_pos gp1.2.1 q2
          have k2 := rq_tr k1 g22
          have hA2 := rA_g (C := cN0) (J := cN0) (fun h => h) (fun h => h) hA k2.1
          rw [pb_r, g21, ubi_mk]
          refine ⟨fun e he => (by cases he), fun x p' he => ?_⟩
          cases he
          exact ⟨m2, rfl, k2⟩
  · rw [if_neg (show ¬ nI 5 = 6 by decide), if_neg (show ¬ nI 5 = 1 by decide), if_neg (show ¬ nI 5 = 2 by decide), if_neg (show ¬ (5 = 0) by decide), if_neg (show ¬ (5 = 1 ∨ 5 = 2) by decide), if_neg (show ¬ (5 = 3) by decide), if_neg (show ¬ (5 = 4) by decide), if_pos (show 5 = 5 by decide)]
    rw [r_tenR, h18]
    cases q0 : pNum b N 0 T p with
    | inl e1 =>
      obtain ⟨m', g1, g2, g3⟩ := r_num_f hA hpN hp hf (lo := 0) (hi := T) (x := 0) (y := nI T - 1) rfl rfl (by omega) (by omega) q0
      have he1 := pNum_e hpN q0
      rw [pb_l, g1, ubi_mk, r_b76_b (by omega) g2.2.1]
      refine ⟨fun e he => ?_, fun x p' he => by cases he⟩
      cases he
      exact ⟨m', rfl, g2⟩
    | inr v0 =>
      obtain ⟨v0, p0⟩ := v0
      obtain ⟨m0, g01, g02⟩ := r_num_t hA hpN hp hf (lo := 0) (hi := T) (x := 0) (y := nI T - 1) rfl rfl (by omega) (by omega) q0
      have gp0 := pNum_pos hpN q0
      have k0 := g02
      have hA0 := rA_g (C := cN0) (J := cN0) (fun h => h) (fun h => h) hA k0.1
      rw [pb_r, g01, ubi_mk]
      unfold f_X8_readStep_b76
      rw [if_neg (show ¬ nI 5 = 0 by decide), if_neg (show ¬ nI 5 = 3 by decide), if_neg (show ¬ nI 5 = 4 by decide)]
      unfold f_X8_readStep_b119
      rw [if_neg (show ¬ nI 5 = 4 by decide)]
      refine ⟨fun e he => (by cases he), fun x p' he => ?_⟩
      cases he
      exact ⟨m0, rfl, k0⟩
  · rw [if_pos (show nI 6 = 6 from rfl), if_neg (show ¬ (6 = 0) by decide), if_neg (show ¬ (6 = 1 ∨ 6 = 2) by decide), if_neg (show ¬ (6 = 3) by decide), if_neg (show ¬ (6 = 4) by decide), if_neg (show ¬ (6 = 5) by decide)]
    refine ⟨fun e he => (by cases he), fun x p' he => ?_⟩
    cases he
    refine ⟨M, ?_, ⟨rg_rf _ _ _, hp, hf, rfl⟩⟩
    unfold f_X8_readStep_b76 f_X8_readStep_b119
    rw [if_neg (show ¬ nI 6 = 0 by decide), if_neg (show ¬ nI 6 = 3 by decide), if_neg (show ¬ nI 6 = 4 by decide), if_neg (show ¬ nI 6 = 4 by decide)]
    rfl
theorem r_kwW {p : Nat} {M1 : Um} (hA : rA b N M) : f_X8_stepOf M1 (wv b (sk b N p) (wE b N (sk b N p))) = some (M1, if kwW b (sk b N p) (wE b N (sk b N p)) = 8 then -1 else nI (kwW b (sk b N p) (wE b N (sk b N p)))) := by
  have hN := hA.1
  have e : ∀ w, w < 18 → (wv b (sk b N p) (wE b N (sk b N p)) = nI (enc (wch w) (wln w))) = (wIs b (sk b N p) (wE b N (sk b N p)) w = true) := fun w hw => wv_eq hw hN
  unfold f_X8_stepOf f_X8_stepOf_b114 kwW
  rw [r_of (w := 11) (by omega), ubi_mk, ite_p (e 11 (by omega)), r_of (w := 12) (by omega), ubi_mk, ite_p (e 12 (by omega)), r_of (w := 13) (by omega), ubi_mk, ite_p (e 13 (by omega)), r_of (w := 14) (by omega), ubi_mk, ite_p (e 14 (by omega)), r_of (w := 15) (by omega), ubi_mk, ite_p (e 15 (by omega)), r_of (w := 16) (by omega), ubi_mk, ite_p (e 16 (by omega)), r_of (w := 9) (by omega), ubi_mk, ite_p (e 9 (by omega)), r_of (w := 17) (by omega), ubi_mk, ite_p (e 17 (by omega))]
  generalize sk b N p = q
  generalize wE b N q = e
  by_cases h0 : wIs b q e 11 = true
  · simp only [h0, if_true]; rfl
  · by_cases h1 : wIs b q e 12 = true
    · simp only [h0, h1, Bool.false_eq_true, if_true, if_false]; rfl
    · by_cases h2 : wIs b q e 13 = true
      · simp only [h0, h1, h2, Bool.false_eq_true, if_true, if_false]; rfl
      · by_cases h3 : wIs b q e 14 = true
        · simp only [h0, h1, h2, h3, Bool.false_eq_true, if_true, if_false]; rfl
        · by_cases h4 : wIs b q e 15 = true
          · simp only [h0, h1, h2, h3, h4, Bool.false_eq_true, if_true, if_false]; rfl
          · by_cases h5 : wIs b q e 16 = true
            · simp only [h0, h1, h2, h3, h4, h5, Bool.false_eq_true, if_true, if_false]; rfl
            · by_cases h6 : wIs b q e 9 = true
              · simp only [h0, h1, h2, h3, h4, h5, h6, Bool.false_eq_true, if_true, if_false]; rfl
              · by_cases h7 : wIs b q e 17 = true
                · simp only [h0, h1, h2, h3, h4, h5, h6, h7, Bool.false_eq_true, if_true, if_false]; rfl
                · simp only [h0, h1, h2, h3, h4, h5, h6, h7, Bool.false_eq_true, if_true, if_false]
/-- no letter: no step -/
theorem kw_none {q : Nat} (h : ¬ (q < N ∧ bL (b q) = true)) : kwW b q (wE b N q) = 8 := by
  have e : wE b N q = q := scE_stop h
  have hk := kwW_ok (b := b) (q := q) (e := wE b N q)
  by_cases h8 : kwW b q (wE b N q) = 8
  · exact h8
  · have := hk.2 (by omega)
    rw [e] at this
    have h3 : 3 ≤ kln (kwW b q q) := by
      unfold kln
      repeat' split
      all_goals omega
    omega
theorem r_end_b {recR : Um → Option (Um × Unit)} {q : Nat} (hq : q < 2 ^ 31) (h : M 38 5 = nI q) (x : Int32) : f_X8_readAgain_b56 recR M x = some (um_w M 38 7 (M 38 7 - 1), ()) := by
  unfold f_X8_readAgain_b56 f_X8_readAgain_b91
  rw [r_sign_b hq h, ubi_mk, r_fine_f hq (by rw [um_w_k (by omega)]; exact h), ubi_mk, if_pos rfl]
theorem r_loop_b {recR : Um → Option (Um × Unit)} {q fuel : Nat} (hq : q < 2 ^ 31) (h : M 38 5 = nI q) (x : Int32) : f_X8_readAgain_b33 recR (fuel + 1) M x = some (um_w M 38 7 (M 38 7 - 1), ()) := by
  rw [f_X8_readAgain_b33, r_fine_f hq h, ubi_mk, if_pos rfl, r_end_b hq h]
def blk9 (b : Nat → Nat) (N : Nat) (stp : Ws → Pr_ Ws) (f : Nat) (st : Ws) : Pr_ Ws := pb (pBl b N stp f st) (fun s2 => pb (pSign b N 93 s2.1) (fun p4 => .inr (p4, s2.2)))
theorem r_loop {recR : Um → Option (Um × Unit)} {stp : Ws → Pr_ Ws} {o n0 : Nat} (hN : N ≤ 150) (hn0 : n0 < 25) (hS : ∀ m st, lR b N T o m st → jWK m (recR m) st.2.1 (stp st)) (hQ : ∀ st, st.1 ≤ N → wQ N T o st (stp st) ∧ ∀ st', stp st = .inr st' → st.1 < st'.1 ∧ st.2.1 < st'.2.1) (hE : ∀ st, st.1 = N → stp st = .inl (1, N)) : ∀ (f fuel : Nat) (M : Um) (st : Ws), N - st.1 < f → N - st.1 + 1 < fuel → lR b N T o M st → (∀ e, blk9 b N stp f st = .inl e → ∃ M', f_X8_readAgain_b33 recR fuel M (nI (4 * n0)) = some (M', ()) ∧ rb Rw Jw M M' e) ∧ ∀ st', blk9 b N stp f st = .inr st' → ∃ M', f_X8_readAgain_b33 recR fuel M (nI (4 * n0)) = some (um_w (um_w M' 38 7 (M' 38 7 - 1)) 51 (4 * n0 + 2) (nI (4 * st'.2.1)), ()) ∧ rWS M M' st.2.1 st'
  | 0, _, _, _, hf, _, _ => absurd hf (Nat.not_lt_zero _)
  | _, 0, _, _, _, hf, _ => absurd hf (Nat.not_lt_zero _)
  | f + 1, fuel + 1, M, st, hf, hfu, hl => by
    have hA := hl.1
    have hp := hl.2.1
    have hfi := hl.2.2.1
    have hpN := hl.2.2.2.1
    have hnp := hl.2.2.2.2.1
    have hs := sk_le (b := b) hpN
    have hsg := sk_ge b N st.1
    have hk := w4_k hfi (sk b N st.1)
    have e2 : nI (4 * n0) + 2 = nI (4 * n0 + 2) := nI_add _ 2
    have k0 : rWS M (um_w M 38 4 (nI (sk b N st.1))) st.2.1 (sk b N st.1, st.2) := ⟨rq_0 hk, by rw [um_w_k (by omega)]; exact hl.2.2.2.2.2.2.1, fun j _ => by rw [um_w_c (by omega)], fun i a b => absurd b (by show ¬ i < st.2.1; omega)⟩
    have hl1 := lR_g hl k0 hs (by show 6 * st.2.1 ≤ sk b N st.1; omega)
    rw [f_X8_readAgain_b33, r_fine_t hfi, ubi_mk, if_neg i1_0, r_here hA hpN hp, ubi_mk, ite_p (hrc_eq hA (c := 93) (x := 93) rfl (by omega) (by omega))]
    unfold blk9
    rw [pBl]
    by_cases h93 : ht_ b N 93 st.1 = true
    · have hh := of_decide_eq_true h93
      have hps : pSign b N 93 (sk b N st.1) = .inr (sk b N st.1 + 1) := by
        rw [pSign_sk]
        unfold pSign
        rw [if_pos h93]
      obtain ⟨M4, j1, j2⟩ := r_sign_t hl1.1 hs hl1.2.1 hl1.2.2.1 (c := 93) (x := 93) rfl (by omega) (by omega) hps
      rw [if_pos h93, if_neg (fun q => q.2 hh.2), pb_r]
      show (∀ e, pb (pSign b N 93 (sk b N st.1)) _ = _ → _) ∧ ∀ st', pb (pSign b N 93 (sk b N st.1)) _ = _ → _
      rw [hps, pb_r]
      refine ⟨fun e he => (by cases he), fun st' he => ?_⟩
      cases he
      have k4 : rq Rw Jw M M4 (sk b N st.1 + 1) := rq_tr (rq_0 hk) (rq_0 j2)
      have h430 : M4 38 30 = nI (4 * st.2.1) := by rw [j2.1.2 30 (fun h => h) (by omega)]; exact hl1.2.2.2.2.2.2.1
      refine ⟨M4, ?_, k4, h430, fun j _ => by rw [j2.1.1 51 (fun h => h) (by omega), um_w_c (by omega)], fun i a b => absurd b (by show ¬ i < st.2.1; omega)⟩
      unfold f_X8_readAgain_b56 f_X8_readAgain_b91
      rw [j1, ubi_mk, r_fine_t (by rw [um_w_k (by omega)]; exact j2.2.2.1), ubi_mk, if_neg i1_0, e2, uin_n (by omega) (by omega), ugd_t, nI_clamp (by omega), um_w_k (show 30 ≠ 7 by omega), h430]
    · rw [if_neg h93]
      by_cases hm : sk b N st.1 < N
      · have h93' : ¬ b (sk b N st.1) = 93 := fun q => h93 (decide_eq_true ⟨hm, q⟩)
        have hst := hS _ _ hl1
        have hqs := hQ (sk b N st.1, st.2) hs
        rw [if_pos ⟨hm, h93'⟩]
        cases q1 : stp (sk b N st.1, st.2) with
        | inl e =>
          obtain ⟨M2, g1, g2⟩ := hst.1 e q1
          have he := hqs.1.1 e q1
          obtain ⟨fu, hfu'⟩ : ∃ fu, fuel = fu + 1 := ⟨fuel - 1, by omega⟩
          rw [pb_l, pb_l, g1, ubi_mk, hfu', r_loop_b (by omega) g2.2.1]
          refine ⟨fun e' he' => ?_, fun st' he => by cases he⟩
          cases he'
          exact ⟨_, rfl, rb_7 (rb_tr k0.1.1 g2) _⟩
        | inr s1 =>
          obtain ⟨M2, g1, g2⟩ := hst.2 s1 q1
          obtain ⟨a1, a2, a3, a4, a5, a6, a7⟩ := hqs.1.2 s1 q1
          have hlt := hqs.2 s1 q1
          have hlt1 : sk b N st.1 < s1.1 := hlt.1
          have hlt2 : st.2.1 < s1.2.1 := hlt.2
          have a3' : 6 * s1.2.1 + sk b N st.1 ≤ 6 * st.2.1 + s1.1 := a3
          have k2 : rWS M M2 st.2.1 s1 := ⟨rq_tr k0.1 g2.1, g2.2.1, fun j hj => by rw [g2.2.2.1 j hj, k0.2.2.1 j hj], g2.2.2.2⟩
          have ih := r_loop hN hn0 hS hQ hE f fuel M2 s1 (by omega) (by omega) (lR_g hl k2 a2 (by omega))
          have hpb := pBl_ok (b := b) (N := N) (T := T) (o := o) (fun st hst => (hQ st hst).1) f s1 a2
          rw [pb_r, g1, ubi_mk]
          refine ⟨fun e he => ?_, fun s2 he => ?_⟩
          · obtain ⟨M3, i1, i2⟩ := ih.1 e he
            exact ⟨M3, i1, rb_tr k2.1.1 i2⟩
          · obtain ⟨M3, i1, i2⟩ := ih.2 s2 he
            refine ⟨M3, i1, rWS_tr (by omega) ?_ k2 i2⟩
            cases q2 : pBl b N stp f s1 with
            | inl e => rw [q2, pb_l] at he; cases he
            | inr s3 =>
              rw [q2, pb_r] at he
              cases q3 : pSign b N 93 s3.1 with
              | inl e => rw [q3, pb_l] at he; cases he
              | inr p4 =>
                rw [q3, pb_r] at he
                cases he
                exact (hpb.2 s3 q2).2.2.2.2.1
      · have hNe : sk b N st.1 = N := by omega
        have hst := hS _ _ hl1
        have hE1 := hE (sk b N st.1, st.2) hNe
        obtain ⟨M2, g1, g2⟩ := hst.1 _ hE1
        obtain ⟨fu, hfu'⟩ : ∃ fu, fuel = fu + 1 := ⟨fuel - 1, by omega⟩
        have hps : pSign b N 93 (sk b N st.1) = .inl (1, N) := by
          rw [pSign_sk]
          unfold pSign
          rw [if_neg h93, hNe]
        rw [if_neg (fun q => hm q.1), pb_r]
        show (∀ e, pb (pSign b N 93 (sk b N st.1)) _ = _ → _) ∧ ∀ st', pb (pSign b N 93 (sk b N st.1)) _ = _ → _
        rw [hps, pb_l, g1, ubi_mk, hfu', r_loop_b (q := N) (by omega) g2.2.1]
        refine ⟨fun e' he' => ?_, fun st' he => by cases he⟩
        cases he'
        exact ⟨_, rfl, rb_7 (rb_tr k0.1.1 g2) _⟩
theorem r_stepE {recR : Um → Option (Um × Unit)} {rec : Nat → Ws → Pr_ Ws} {stp : Ws → Pr_ Ws} {o : Nat} {st : Ws} (hN : N ≤ 150) (hT : T ≤ 5) (ho : o ≤ 6) (hrec : o < 6 → ∀ st, rec (o + 1) st = pBl b N stp 160 st) (hS : o < 6 → ∀ m st, lR b N T (o + 1) m st → jWK m (recR m) st.2.1 (stp st)) (hQ : o < 6 → ∀ st, st.1 ≤ N → wQ N T (o + 1) st (stp st) ∧ ∀ st', stp st = .inr st' → st.1 < st'.1 ∧ st.2.1 < st'.2.1) (hE : o < 6 → ∀ st, st.1 = N → stp st = .inl (1, N)) (hl : lR b N T o M st) : jWK M (f_X8_readStep_e recR M) st.2.1 (pSt b N T rec o st) := by
  obtain ⟨p, n, G⟩ := st
  have hA := hl.1
  have hp : M 38 4 = nI p := hl.2.1
  have hf := hl.2.2.1
  have hpN : p ≤ N := hl.2.2.2.1
  have hnp : 6 * n ≤ p := hl.2.2.2.2.1
  have h7o : M 38 7 = nI o := hl.2.2.2.2.2.1
  have h30 : M 38 30 = nI (4 * n) := hl.2.2.2.2.2.2.1
  have h18 : M 38 18 = nI T := hl.2.2.2.2.2.2.2
  have hs := sk_le (b := b) hpN
  have hsg := sk_ge b N p
  have hw := wE_le (b := b) hs
  have hwg := wE_ge b N (sk b N p)
  have hkw := kwW_ok (b := b) (q := sk b N p) (e := wE b N (sk b N p))
  have hk1 := w4_k hf (sk b N p)
  have hA1 := rA_4 hA (sk b N p)
  have hp1 : (um_w M 38 4 (nI (sk b N p))) 38 4 = nI (sk b N p) := um_w_s _ _ _ _
  unfold f_X8_readStep_e pSt
  rw [r_word hA hpN hp, ubi_mk, r_kwW hA, ubi_mk]
  by_cases h8 : kwW b (sk b N p) (wE b N (sk b N p)) = 8
  · obtain ⟨m3, z1, z2, z3, z4⟩ := r_wrong hk1.2.2.1 (k := 1) (q := sk b N p) (x := 1) (y := nI (sk b N p)) rfl rfl
    rw [if_pos h8, if_pos rfl, if_pos h8]
    refine jWK_f ?_ (rb_tr (rg_0 hk1.1) (rb_0 z2))
    rw [hp1, z1, ubi_mk, r_b143_b (by omega) z2.2.1]
  · have hl3 := hkw.2 (by omega)
    have hl3' : 3 ≤ kln (kwW b (sk b N p) (wE b N (sk b N p))) := by
      unfold kln
      repeat' split
      all_goals omega
    have hn25 : n < 25 := by omega
    rw [if_neg h8, if_neg (fun q => (nI_ne1 (by omega)).mp q), if_neg h8]
    by_cases h7 : kwW b (sk b N p) (wE b N (sk b N p)) = 7
    · rw [if_pos h7, if_pos (show nI (kwW b (sk b N p) (wE b N (sk b N p))) = 7 by rw [h7]; rfl)]
      rw [h7] at hl3
      have hl5 : wE b N (sk b N p) - sk b N p = 5 := hl3
      have h71 : (um_w M 38 4 (nI (sk b N p))) 38 7 = nI o := by rw [um_w_k (by omega)]; exact h7o
      unfold f_X8_readAgain
      -- a fault on the way into the block
      have bad : ∀ (m4 : Um) (e : Nat × Nat) (x : Int32), e.2 ≤ N → rb Rw Jw M m4 e → jWK M (ubi (f_X8_readAgain_b33 recR UF m4 x) (fun m18 r19 => f_X8_readStep_b143 recR m18)) n (.inl e) := by
        intro m4 e x he hb
        refine jWK_f ?_ (rb_7 hb (m4 38 7 - 1))
        rw [UF1, r_loop_b (by omega) hb.2.1, ubi_mk, r_b143_b (q := e.2) (by omega) (by rw [um_w_k (by omega)]; exact hb.2.1)]
      by_cases h6 : 6 ≤ o
      · obtain ⟨m3, z1, z2⟩ := r_open_f (x := 5) hk1.2.2.1 hp1 (by omega) h71 (by omega)
        have hb3 : rb Rw Jw M m3 (3, sk b N p) := rb_tr (rg_0 hk1.1) (rb_0 z2)
        rw [if_pos h6, z1, ubi_mk, r_num_b (by omega) z2.2.1, ubi_mk, r_sign_b (by omega) z2.2.1, ubi_mk, r_tells_b (by omega) z2.2.1, ubi_mk]
        exact bad m3 _ _ hs hb3
      · rw [if_neg h6]
        have hop := r_open_t (x := 5) (k := 5) hk1.2.2.1 hp1 h71 (by omega) rfl
        rw [um_w_w, show sk b N p + 5 = wE b N (sk b N p) by omega] at hop
        generalize hM2 : um_w (um_w M 38 4 (nI (wE b N (sk b N p)))) 38 7 (nI (o + 1)) = M2 at hop
        have hg2 : rg Rw Jw M M2 := by
          subst hM2
          exact rg_4 (rg_4 (rg_rf _ _ _) (by omega) _) (by omega) _
        have hA2 := rA_g rw40 jw3 hA hg2
        have h24 : M2 38 4 = nI (wE b N (sk b N p)) := by
          subst hM2
          rw [um_w_k (by omega), um_w_s]
        have h25 : M2 38 5 = -1 := by
          subst hM2
          rw [um_w_k (by omega), um_w_k (by omega)]
          exact hf
        have h27 : M2 38 7 = nI (o + 1) := by
          subst hM2
          exact um_w_s _ _ _ _
        have h2j : ∀ j, j < 4 ∨ 7 < j → M2 38 j = M 38 j := fun j hj => by
          subst hM2
          rw [um_w_k (by omega), um_w_k (by omega)]
        have h251 : M2 51 = M 51 := by
          subst hM2
          rw [um_w_c (by omega), um_w_c (by omega)]
        rw [hop, ubi_mk]
        cases q1 : pNum b N 0 31 (wE b N (sk b N p)) with
        | inl e =>
          obtain ⟨m3, i1, i2, i3⟩ := r_num_f hA2 hw h24 h25 (lo := 0) (hi := 31) (x := 0) (y := 30) rfl rfl (by omega) (by omega) q1
          have he := pNum_e hw q1
          rw [pb_l, i1, ubi_mk, r_sign_b (by omega) i2.2.1, ubi_mk, r_tells_b (by omega) i2.2.1, ubi_mk]
          exact bad m3 e _ he (rb_tr hg2 (rb_0 i2))
        | inr x =>
          obtain ⟨x, p1⟩ := x
          obtain ⟨m3, i1, i2⟩ := r_num_t hA2 hw h24 h25 (lo := 0) (hi := 31) (x := 0) (y := 30) rfl rfl (by omega) (by omega) q1
          have gx := pNum_pos hw q1
          have hA3 := rA_g (C := cN0) (J := cN0) (fun h => h) (fun h => h) hA2 i2.1
          rw [pb_r, i1, ubi_mk]
          cases q2 : pSign b N 91 p1 with
          | inl e =>
            obtain ⟨m4, j1, j2, j3⟩ := r_sign_f hA3 gx.2.1 i2.2.1 i2.2.2.1 (c := 91) (x := 91) rfl (by omega) (by omega) q2
            have he := pSign_e gx.2.1 q2
            rw [pb_l, j1, ubi_mk, r_tells_b (by omega) j2.2.1, ubi_mk]
            exact bad m4 e _ he (rb_tr (rg_tr hg2 (rg_0 i2.1)) (rb_0 j2))
          | inr p2 =>
            obtain ⟨m4, j1, j2⟩ := r_sign_t hA3 gx.2.1 i2.2.1 i2.2.2.1 (c := 91) (x := 91) rfl (by omega) (by omega) q2
            have gp2 := pSign_pos q2
            have k4 := rq_tr i2 j2
            have h430 : m4 38 30 = nI (4 * n) := by rw [k4.1.2 30 (fun h => h) (by omega), h2j 30 (by omega)]; exact h30
            have h451 : m4 51 = M 51 := by rw [k4.1.1 51 (fun h => h) (by omega)]; exact h251
            have htl := r_tells_t (M := m4) (n := n) (by omega) k4.2.2.1 h430 7 (nI x) 0 0
            generalize hM5 : um_w (um_w (um_w (um_w (um_w m4 51 (4 * n) 7) 51 (4 * n + 1) (nI x)) 51 (4 * n + 2) 0) 51 (4 * n + 3) 0) 38 30 (nI (4 * n + 4)) = M5 at htl
            have hg5 : rg Rw Jw M M5 := by
              have := rg_tr hg2 (rg_0 (C := Rw) (J := Jw) k4.1)
              subst hM5
              exact rg_j (k := 30) (rg_w (c := 51) (rg_w (c := 51) (rg_w (c := 51) (rg_w (c := 51) this rfl (by omega) _ _) rfl (by omega) _ _) rfl (by omega) _ _) rfl (by omega) _ _) rfl _
            have h5j : ∀ j, j ≠ 30 → M5 38 j = m4 38 j := fun j hj => by
              subst hM5
              rw [um_w_k hj, um_w_c (by omega), um_w_c (by omega), um_w_c (by omega), um_w_c (by omega)]
            have h51 : M5 51 = upd (upd (upd (upd (M 51) (4 * n) 7) (4 * n + 1) (nI x)) (4 * n + 2) 0) (4 * n + 3) 0 := by
              subst hM5
              rw [um_w_c (by omega), um_w_def, um_wa_s, um_w_def, um_wa_s, um_w_def, um_wa_s, um_w_def, um_wa_s, h451]
            have h530 : M5 38 30 = nI (4 * (n + 1)) := by
              subst hM5
              rw [um_w_s, show 4 * n + 4 = 4 * (n + 1) by omega]
            have hl5' : lR b N T (o + 1) M5 (p2, n + 1, g4 G n (7, x, 0, 0)) := ⟨rA_g rw40 jw3 hA hg5, by rw [h5j 4 (by omega)]; exact k4.2.1, by rw [h5j 5 (by omega)]; exact k4.2.2.1, gp2.2, by show 6 * (n + 1) ≤ p2; omega, by rw [h5j 7 (by omega), k4.2.2.2]; exact h27, h530, by rw [h5j 18 (by omega), k4.1.2 18 (fun h => h) (by omega), h2j 18 (by omega)]; exact h18⟩
            have hlp := r_loop (n0 := n) hN hn25 (hS (by omega)) (hQ (by omega)) (hE (by omega)) 160 UF M5 _ (by show N - p2 < 160; omega) (by show N - p2 + 1 < 3000; omega) hl5'
            have hpb := pBl_ok (b := b) (N := N) (T := T) (o := o + 1) (fun st hst => (hQ (by omega) st hst).1) 160 (p2, n + 1, g4 G n (7, x, 0, 0)) gp2.2
            rw [pb_r, j1, ubi_mk, htl, ubi_mk, h430, hrec (by omega)]
            unfold blk9 at hlp
            cases q3 : pBl b N stp 160 (p2, n + 1, g4 G n (7, x, 0, 0)) with
            | inl e =>
              rw [q3, pb_l] at hlp
              obtain ⟨m6, l1, l2⟩ := hlp.1 e rfl
              have he := hpb.1 e q3
              rw [pb_l]
              refine jWK_f ?_ (rb_tr hg5 l2)
              rw [l1, ubi_mk, r_b143_b (by omega) l2.2.1]
            | inr s2 =>
              rw [q3, pb_r] at hlp
              obtain ⟨a1, a2, a3, a4, a5, a6, a7⟩ := hpb.2 s2 q3
              have a4' : n + 1 ≤ s2.2.1 := a4
              rw [pb_r]
              cases q4 : pSign b N 93 s2.1 with
              | inl e =>
                rw [q4, pb_l] at hlp
                obtain ⟨m6, l1, l2⟩ := hlp.1 e rfl
                have he := pSign_e a2 q4
                rw [pb_l]
                refine jWK_f ?_ (rb_tr hg5 l2)
                rw [l1, ubi_mk, r_b143_b (by omega) l2.2.1]
              | inr p4 =>
                rw [q4, pb_r] at hlp
                obtain ⟨m6, l1, l2⟩ := hlp.2 _ rfl
                have gp4 := pSign_pos q4
                have l2' : rWS M5 m6 (n + 1) (p4, s2.2) := l2
                generalize hM7 : um_w (um_w m6 38 7 (m6 38 7 - 1)) 51 (4 * n + 2) (nI (4 * s2.2.1)) = M7 at l1
                have l1' : f_X8_readAgain_b33 recR UF M5 (nI (4 * n)) = some (M7, ()) := by rw [← hM7]; exact hM7 ▸ l1
                have h67 : m6 38 7 = nI (o + 1) := by rw [l2'.1.2.2.2, h5j 7 (by omega), k4.2.2.2]; exact h27
                have hk7 : rq Rw Jw M M7 p4 := by
                  subst hM7
                  refine ⟨rg_w (c := 51) (rg_4 (rg_tr hg5 l2'.1.1) (by omega) _) rfl (by omega) _ _, ?_, ?_, ?_⟩
                  · rw [um_w_c (by omega), um_w_k (by omega)]
                    exact l2'.1.2.1
                  · rw [um_w_c (by omega), um_w_k (by omega)]
                    exact l2'.1.2.2.1
                  · rw [um_w_c (by omega), um_w_s, h67, nI_pred, h7o]
                have h730 : M7 38 30 = nI (4 * s2.2.1) := by
                  subst hM7
                  rw [um_w_c (by omega), um_w_k (by omega)]
                  exact l2'.2.1
                have h7x : ∀ j, j ≠ 4 * n + 2 → M7 51 j = m6 51 j := fun j hj => by
                  subst hM7
                  rw [um_w_k hj, um_w_c (by omega)]
                have h7s : M7 51 (4 * n + 2) = nI (4 * s2.2.1) := by
                  subst hM7
                  exact um_w_s _ _ _ _
                have h7l : ∀ j, j < 4 * n + 4 → j ≠ 4 * n + 2 → M7 51 j = upd (upd (upd (upd (M 51) (4 * n) 7) (4 * n + 1) (nI x)) (4 * n + 2) 0) (4 * n + 3) 0 j := fun j hj hj2 => by
                  rw [h7x j hj2, l2'.2.2.1 j (by omega), h51]
                have hA7 := rA_g rw40 jw3 hA hk7.1
                rw [pb_r, l1', ubi_mk]
                unfold f_X8_readStep_b143
                cases q5 : pSign b N 59 p4 with
                | inl e =>
                  obtain ⟨m8, t1, t2, t3⟩ := r_sign_f hA7 gp4.2 hk7.2.1 hk7.2.2.1 (c := 59) (x := 59) rfl (by omega) (by omega) q5
                  rw [pb_l]
                  refine jWK_f ?_ (rb_tr hk7.1 (rb_0 t2))
                  rw [t1, ubi_mk]
                | inr p5 =>
                  obtain ⟨m8, t1, t2⟩ := r_sign_t hA7 gp4.2 hk7.2.1 hk7.2.2.1 (c := 59) (x := 59) rfl (by omega) (by omega) q5
                  have h851 : m8 51 = M7 51 := t2.1.1 51 (fun h => h) (by omega)
                  rw [pb_r]
                  refine jWK_s (by rw [t1, ubi_mk]) ⟨rq_tr hk7 (rq_0 t2), by rw [t2.1.2 30 (fun h => h) (by omega)]; exact h730, fun j hj => ?_, fun i hi1 hi2 => ?_⟩
                  · have hj' : j < 4 * n := hj
                    rw [h851, h7l j (by omega) (by omega), upd_n (by omega), upd_n (by omega), upd_n (by omega), upd_n (by omega)]
                  · have hi1' : n ≤ i := hi1
                    have hi2' : i < s2.2.1 := hi2
                    show wX (m8 51) 4 (g4 s2.2.2 n (7, x, s2.2.1, 0) i) i
                    rw [h851]
                    by_cases hin : i = n
                    · subst hin
                      rw [g4_s]
                      refine ⟨?_, fun _ => ?_, fun h => (by rcases h with h | h | h <;> cases h), fun _ => h7s, fun h => (by cases h)⟩
                      · rw [h7l (4 * i) (by omega) (by omega), upd_n (by omega), upd_n (by omega), upd_n (by omega), upd_s]
                        rfl
                      · rw [h7l (4 * i + 1) (by omega) (by omega), upd_n (by omega), upd_n (by omega), upd_s]
                    · rw [g4_n hin]
                      exact wX_cong (fun j h1 h2 => h7x j (by omega)) (l2'.2.2.2 i (by omega) hi2')
    · have hk6 : kwW b (sk b N p) (wE b N (sk b N p)) ≤ 6 := by omega
      have h7' : ¬ nI (kwW b (sk b N p) (wE b N (sk b N p))) = 7 := fun q => h7 ((nI_eq (b := 7) (by omega) (by omega)).mp q)
      have hpass : f_X8_pass (um_w M 38 4 (nI (sk b N p))) = some (um_w M 38 4 (nI (wE b N (sk b N p))), ()) := by
        rw [r_pass hA1 hs hp1, um_w_w]
      have hkE := w4_k hf (wE b N (sk b N p))
      have hAE := rA_4 hA (wE b N (sk b N p))
      rw [if_neg h7, if_neg h7', hpass, ubi_mk]
      have ha := r_args (T := T) (recR := recR) hk6 hT hAE hw hkE.2.1 hkE.2.2.1 (by rw [um_w_k (by omega)]; exact h18)
      have hpa := pAr_ok (b := b) (N := N) (T := T) hk6 hw
      show jWK M (stR_ recR (um_w M 38 4 (nI (wE b N (sk b N p)))) (nI (kwW b (sk b N p) (wE b N (sk b N p))))) n _
      cases q1 : pAr b N T (kwW b (sk b N p) (wE b N (sk b N p))) (wE b N (sk b N p)) with
      | inl e =>
        obtain ⟨m3, i1, i2⟩ := ha.1 e q1
        rw [pb_l]
        exact jWK_f i1 (rb_tr (rg_0 hkE.1) (rb_0 i2))
      | inr x =>
        obtain ⟨x, p1⟩ := x
        obtain ⟨m3, i1, i2⟩ := ha.2 x p1 q1
        have hp1' := (hpa.2 x p1 q1).1
        have hk3 := rq_tr hkE i2
        have h330 : m3 38 30 = nI (4 * n) := by rw [hk3.1.2 30 (fun h => h) (by omega)]; exact h30
        have h351 : m3 51 = M 51 := hk3.1.1 51 (fun h => h) (by omega)
        have htl := r_tells_t (M := m3) (n := n) (by omega) hk3.2.2.1 h330 (nI (kwW b (sk b N p) (wE b N (sk b N p)))) (nI x.1) (nI x.2.1) (nI x.2.2)
        generalize hM5 : um_w (um_w (um_w (um_w (um_w m3 51 (4 * n) (nI (kwW b (sk b N p) (wE b N (sk b N p))))) 51 (4 * n + 1) (nI x.1)) 51 (4 * n + 2) (nI x.2.1)) 51 (4 * n + 3) (nI x.2.2)) 38 30 (nI (4 * n + 4)) = M5 at htl
        have hk5 : rq Rw Jw M M5 p1 := by
          subst hM5
          exact rq_j (C := Rw) (J := Jw) (k := 30) (rq_w (C := Rw) (J := Jw) (c := 51) (rq_w (C := Rw) (J := Jw) (c := 51) (rq_w (C := Rw) (J := Jw) (c := 51) (rq_w (C := Rw) (J := Jw) (c := 51) (rq_0 hk3) rfl (by omega) _ _) rfl (by omega) _ _) rfl (by omega) _ _) rfl (by omega) _ _) rfl (by omega) _
        have h51 : M5 51 = upd (upd (upd (upd (M 51) (4 * n) (nI (kwW b (sk b N p) (wE b N (sk b N p))))) (4 * n + 1) (nI x.1)) (4 * n + 2) (nI x.2.1)) (4 * n + 3) (nI x.2.2) := by
          subst hM5
          rw [um_w_c (by omega), um_w_def, um_wa_s, um_w_def, um_wa_s, um_w_def, um_wa_s, um_w_def, um_wa_s, h351]
        have h530 : M5 38 30 = nI (4 * (n + 1)) := by
          subst hM5
          rw [um_w_s, show 4 * n + 4 = 4 * (n + 1) by omega]
        have hA5 := rA_g rw40 jw3 hA hk5.1
        rw [pb_r, i1]
        unfold f_X8_readStep_b140 f_X8_readStep_b143
        rw [htl, ubi_mk]
        cases q2 : pSign b N 59 p1 with
        | inl e =>
          obtain ⟨m8, t1, t2, t3⟩ := r_sign_f hA5 hp1' hk5.2.1 hk5.2.2.1 (c := 59) (x := 59) rfl (by omega) (by omega) q2
          rw [pb_l]
          refine jWK_f ?_ (rb_tr hk5.1 (rb_0 t2))
          rw [t1, ubi_mk]
        | inr p2 =>
          obtain ⟨m8, t1, t2⟩ := r_sign_t hA5 hp1' hk5.2.1 hk5.2.2.1 (c := 59) (x := 59) rfl (by omega) (by omega) q2
          have h851 : m8 51 = M5 51 := t2.1.1 51 (fun h => h) (by omega)
          rw [pb_r]
          refine jWK_s (by rw [t1, ubi_mk]) ⟨rq_tr hk5 (rq_0 t2), by rw [t2.1.2 30 (fun h => h) (by omega)]; exact h530, fun j hj => ?_, fun i hi1 hi2 => ?_⟩
          · have hj' : j < 4 * n := hj
            rw [h851, h51, upd_n (by omega), upd_n (by omega), upd_n (by omega), upd_n (by omega)]
          · have hi1' : n ≤ i := hi1
            have hi2' : i < n + 1 := hi2
            have hin : i = n := by omega
            subst hin
            show wX (m8 51) 4 (g4 G i (kwW b (sk b N p) (wE b N (sk b N p)), x) i) i
            rw [h851, h51, g4_s]
            refine ⟨?_, fun _ => ?_, fun _ => ?_, fun h => absurd h h7, fun _ => ?_⟩
            · rw [upd_n (by omega), upd_n (by omega), upd_n (by omega), upd_s]
            · rw [upd_n (by omega), upd_n (by omega), upd_s]
            · rw [upd_n (by omega), upd_s]
            · rw [upd_s]
theorem pSt_N {rec : Nat → Ws → Pr_ Ws} {o : Nat} {st : Ws} (h : ¬ (sk b N st.1 < N ∧ bL (b (sk b N st.1)) = true)) : pSt b N T rec o st = .inl (1, sk b N st.1) := by
  unfold pSt
  rw [if_pos (kw_none h)]
theorem sk_N : sk b N N = N := scE_stop (fun q => absurd q.1 (Nat.lt_irrefl _))
theorem r_readStep (hN : N ≤ 150) (hT : T ≤ 5) : ∀ (d D o : Nat) (m : Um) (st : Ws), d + o = 7 → o ≤ 6 → d ≤ D → lR b N T o m st → jWK m (f_X8_readStep D m) st.2.1 (pSt b N T (pBk_ b N T d) o st)
  | 0, D, o, m, st, h, ho, _, _ => by omega
  | d + 1, 0, o, m, st, h, ho, hD, _ => by omega
  | d + 1, D + 1, o, m, st, h, ho, hD, hl => by
    rw [f_X8_readStep]
    refine r_stepE (stp := pSt b N T (pBk_ b N T d) (o + 1)) hN hT ho (fun _ st => rfl) (fun ho6 m st hl => r_readStep hN hT d D (o + 1) m st (by omega) (by omega) (by omega) hl) (fun ho6 st hst => pSt_ok (fun _ st hst => pBk_ok d (o + 1 + 1) st hst) hst) (fun _ st hst => ?_) hl
    have e : sk b N st.1 = N := by rw [hst, sk_N]
    rw [pSt_N (fun q => by omega), e]
end WORKR
