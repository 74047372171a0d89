/-! WORK: the class reads -/
abbrev Cw : Nat → Prop := fun c => c = 21 ∨ c = 22
def wX (f : Nat → Int32) (mu : Nat) (g : Wq) (i : Nat) : Prop := f (4 * i) = nI g.1 ∧ (g.1 ≠ 6 → f (4 * i + 1) = nI g.2.1) ∧ (g.1 = 0 ∨ g.1 = 3 ∨ g.1 = 4 → f (4 * i + 2) = nI g.2.2.1) ∧ (g.1 = 7 → f (4 * i + 2) = nI (mu * g.2.2.1)) ∧ (g.1 = 4 → f (4 * i + 3) = nI g.2.2.2)
theorem wX_cong {f f' : Nat → Int32} {mu i : Nat} {g : Wq} (h : ∀ j, 4 * i ≤ j → j < 4 * i + 4 → f' j = f j) (hx : wX f mu g i) : wX f' mu g i := by
  unfold wX
  rw [h (4 * i) (by omega) (by omega), h (4 * i + 1) (by omega) (by omega), h (4 * i + 2) (by omega) (by omega), h (4 * i + 3) (by omega) (by omega)]
  exact hx
def kWS (m m' : Um) (n : Nat) (st : Ws) : Prop := tk Cw m m' st.1 ∧ (m' 21 1 = nI st.2.1 ∧ ∀ j, j ≠ 1 → m' 21 j = m 21 j) ∧ (∀ j, j < 4 * n → m' 22 j = m 22 j) ∧ ∀ i, n ≤ i → i < st.2.1 → wX (m' 22) 1 (st.2.2 i) i
def lW (b : Nat → Nat) (N : Nat) (m : Um) (st : Ws) : Prop := tA b N m ∧ m 1 3 = nI st.1 ∧ st.1 ≤ N ∧ 6 * st.2.1 ≤ st.1 ∧ m 21 1 = nI st.2.1
def eWK (m : Um) (f : Option (Um × Int32)) (n : Nat) (r : Pr_ Ws) : Prop := (∀ e, r = .inl e → ∃ m', f = some (m', 0) ∧ tf Cw m m' e) ∧ ∀ st, r = .inr st → ∃ m', f = some (m', 1) ∧ kWS m m' n st
theorem eWK_f {m m' : Um} {n : Nat} {e : Nat × Nat} {f : Option (Um × Int32)} (h1 : f = some (m', 0)) (h2 : tf Cw m m' e) : eWK m f n (.inl e) := ⟨fun e' he => by cases he; exact ⟨m', h1, h2⟩, fun st he => by cases he⟩
theorem eWK_s {m m' : Um} {n : Nat} {st : Ws} {f : Option (Um × Int32)} (h1 : f = some (m', 1)) (h2 : kWS m m' n st) : eWK m f n (.inr st) := ⟨fun e he => (by cases he), fun st' he => by cases he; exact ⟨m', h1, h2⟩⟩
theorem cw2 : ¬ Cw 2 := fun h => (by rcases h with h | h <;> cases h)
section WORKC
variable {b : Nat → Nat} {N T : Nat} {m : Um}
theorem e_rn {p lo hi j : Nat} {x y : Int32} (hj : j < 100) (hA : tA b N m) (hpN : p ≤ N) (hp : m 1 3 = nI p) (hx : x = nI lo) (hy : y = nI hi - 1) (hlo : lo ≤ 1) (hhi : hi ≤ 1000) : (∀ e, pNum b N lo hi p = .inl e → ∃ m', f_X6_readNumber m (nI j) x y = some (m', 0) ∧ tf Cw m m' e) ∧ ∀ V p', pNum b N lo hi p = .inr (V, p') → ∃ m', f_X6_readNumber m (nI j) x y = some (m', 1) ∧ tk Cw m m' p' ∧ m' 21 = m 21 ∧ m' 22 = upd (m 22) j (nI V) ∧ p' ≤ N ∧ tA b N m' := by
  unfold f_X6_readNumber
  refine ⟨fun e he => ?_, fun V p' he => ?_⟩
  · obtain ⟨m', g1, g2⟩ := e_num_f hA hpN hp hx hy hlo hhi he
    exact ⟨m', by rw [g1, ubi_mk, if_pos rfl], tf_0 g2⟩
  · obtain ⟨m', g1, g2, g3, g4⟩ := e_num_t hA hpN hp hx hy hlo hhi he
    have k1 : tk Cw m (um_w m' 22 j (nI V)) p' := tk_w (C := Cw) (c := 22) (tk_z g2) (Or.inr rfl) (by omega) _ _
    refine ⟨um_w m' 22 j (nI V), ?_, k1, ?_, ?_, (pNum_pos hpN he).2.1, tA_g cw2 hA k1.1⟩
    · rw [g1, ubi_mk, if_neg i1_0, uin_n hj (by omega), ugd_t, nI_clamp (by omega), g3]
    · rw [um_w_c (by omega), g2.1.1 21 (fun h => h) (by omega)]
    · rw [um_w_def, um_wa_s, g2.1.1 22 (fun h => h) (by omega)]
theorem e_args {p k j : Nat} (hk : k ≤ 6) (hj : j + 3 < 100) (hT : T ≤ 5) (hA : tA b N m) (hpN : p ≤ N) (hp : m 1 3 = nI p) : (∀ e, pAr b N T k p = .inl e → ∃ m', f_X6_readNumbers m (nI j) (nI k) (nI T - 1) = some (m', 0) ∧ tf Cw m m' e) ∧ ∀ x p', pAr b N T k p = .inr (x, p') → ∃ m', f_X6_readNumbers m (nI j) (nI k) (nI T - 1) = some (m', 1) ∧ tk Cw m m' p' ∧ m' 21 = m 21 ∧ (∀ i, i ≠ j + 1 → i ≠ j + 2 → i ≠ j + 3 → m' 22 i = m 22 i) ∧ (k ≠ 6 → m' 22 (j + 1) = nI x.1) ∧ (k = 0 ∨ k = 3 ∨ k = 4 → m' 22 (j + 2) = nI x.2.1) ∧ (k = 4 → m' 22 (j + 3) = nI x.2.2) := by
  have e1 : nI j + 1 = nI (j + 1) := nI_1 j
  have e2 : nI j + 2 = nI (j + 2) := nI_add j 2
  have e3 : nI j + 3 = nI (j + 3) := nI_add j 3
  have hc : k = 0 ∨ k = 1 ∨ k = 2 ∨ k = 3 ∨ k = 4 ∨ k = 5 ∨ k = 6 := by omega
  unfold f_X6_readNumbers pAr
  rw [e1, e2, e3]
  rcases hc with rfl | rfl | rfl | rfl | rfl | rfl | rfl
  · rw [if_pos (show nI 0 = 0 from rfl), if_pos (show 0 = 0 by decide)]
    unfold f_X6_readNumbers_b72 f_X6_readNumbers_b73
    have hr0 := e_rn (b := b) (N := N) (lo := 0) (hi := T) (j := j + 1) (x := 0) (y := nI T - 1) (by omega) hA hpN hp rfl rfl (by omega) (by omega)
    cases q0 : pNum b N 0 T p with
    | inl e1 =>
      obtain ⟨m', g1, g2⟩ := hr0.1 e1 q0
      rw [pb_l, g1, ubi_mk, if_pos rfl, ub01_0, ugd_t]
      refine ⟨fun e he => ?_, fun x p' he => by cases he⟩
      cases he
      exact ⟨m', rfl, g2⟩
    | inr v0 =>
      obtain ⟨v0, p0⟩ := v0
      obtain ⟨m0, g01, g02, g03, g04, g05, g06⟩ := hr0.2 v0 p0 q0
      have k0 := g02
      rw [pb_r, g01, ubi_mk, if_neg i1_0]
      have hr1 := e_rn (b := b) (N := N) (lo := 1) (hi := 21) (j := j + 2) (x := 1) (y := 20) (by omega) g06 g05 g02.2.1 rfl rfl (by omega) (by omega)
      cases q1 : pNum b N 1 21 p0 with
      | inl e1 =>
        obtain ⟨m', g1, g2⟩ := hr1.1 e1 q1
        rw [pb_l, g1, ubi_mk, if_pos rfl, ub01_0, ugd_t]
        refine ⟨fun e he => ?_, fun x p' he => by cases he⟩
        cases he
        exact ⟨m', rfl, tf_tr k0 g2⟩
      | inr v1 =>
        obtain ⟨v1, p1⟩ := v1
        obtain ⟨m1, g11, g12, g13, g14, g15, g16⟩ := hr1.2 v1 p1 q1
        have k1 := tk_tr k0 g12
        rw [pb_r, g11, ubi_mk, if_neg i1_0, ub01_1, ugd_t]
        refine ⟨fun e he => (by cases he), fun x p' he => ?_⟩
        cases he
        exact ⟨m1, rfl, k1, by rw [g13, g03], fun i h1 h2 h3 => (by rw [g14, g04, upd_n (by omega), upd_n (by omega)]), fun _ => (by rw [g14, g04, upd_n (by omega), upd_s]), fun _ => (by rw [g14, g04, upd_s]), fun h => (by cases h)⟩
  · rw [if_neg (show ¬ nI 1 = 0 by decide), if_pos (show nI 1 = 1 from rfl), if_neg (show ¬ (1 = 0) by decide), if_pos (show 1 = 1 ∨ 1 = 2 by decide)]
    have hr0 := e_rn (b := b) (N := N) (lo := 1) (hi := 21) (j := j + 1) (x := 1) (y := 20) (by omega) hA hpN hp rfl rfl (by omega) (by omega)
    cases q0 : pNum b N 1 21 p with
    | inl e1 =>
      obtain ⟨m', g1, g2⟩ := hr0.1 e1 q0
      rw [pb_l, g1, ubi_mk, ub01_0, ugd_t]
      refine ⟨fun e he => ?_, fun x p' he => by cases he⟩
      cases he
      exact ⟨m', rfl, g2⟩
    | inr v0 =>
      obtain ⟨v0, p0⟩ := v0
      obtain ⟨m0, g01, g02, g03, g04, g05, g06⟩ := hr0.2 v0 p0 q0
      have k0 := g02
      rw [pb_r, g01, ubi_mk, ub01_1, ugd_t]
      refine ⟨fun e he => (by cases he), fun x p' he => ?_⟩
      cases he
      exact ⟨m0, rfl, k0, by rw [g03], fun i h1 h2 h3 => (by rw [g04, upd_n (by omega)]), fun _ => (by rw [g04, upd_s]), fun h => (by rcases h with h | h | h <;> cases h), fun h => (by cases h)⟩
  · rw [if_neg (show ¬ nI 2 = 0 by decide), if_neg (show ¬ nI 2 = 1 by decide), if_pos (show nI 2 = 2 from rfl), if_neg (show ¬ (2 = 0) by decide), if_pos (show 2 = 1 ∨ 2 = 2 by decide)]
    have hr0 := e_rn (b := b) (N := N) (lo := 1) (hi := 21) (j := j + 1) (x := 1) (y := 20) (by omega) hA hpN hp rfl rfl (by omega) (by omega)
    cases q0 : pNum b N 1 21 p with
    | inl e1 =>
      obtain ⟨m', g1, g2⟩ := hr0.1 e1 q0
      rw [pb_l, g1, ubi_mk, ub01_0, ugd_t]
      refine ⟨fun e he => ?_, fun x p' he => by cases he⟩
      cases he
      exact ⟨m', rfl, g2⟩
    | inr v0 =>
      obtain ⟨v0, p0⟩ := v0
      obtain ⟨m0, g01, g02, g03, g04, g05, g06⟩ := hr0.2 v0 p0 q0
      have k0 := g02
      rw [pb_r, g01, ubi_mk, ub01_1, ugd_t]
      refine ⟨fun e he => (by cases he), fun x p' he => ?_⟩
      cases he
      exact ⟨m0, rfl, k0, by rw [g03], fun i h1 h2 h3 => (by rw [g04, upd_n (by omega)]), fun _ => (by rw [g04, upd_s]), fun h => (by rcases h with h | h | h <;> cases h), fun h => (by cases h)⟩
  · rw [if_neg (show ¬ nI 3 = 0 by decide), if_neg (show ¬ nI 3 = 1 by decide), if_neg (show ¬ nI 3 = 2 by decide), if_pos (show nI 3 = 3 from rfl), if_neg (show ¬ (3 = 0) by decide), if_neg (show ¬ (3 = 1 ∨ 3 = 2) by decide), if_pos (show 3 = 3 by decide)]
    unfold f_X6_readNumbers_b118 f_X6_readNumbers_b119
    have hr0 := e_rn (b := b) (N := N) (lo := 0) (hi := T) (j := j + 1) (x := 0) (y := nI T - 1) (by omega) hA hpN hp rfl rfl (by omega) (by omega)
    cases q0 : pNum b N 0 T p with
    | inl e1 =>
      obtain ⟨m', g1, g2⟩ := hr0.1 e1 q0
      rw [pb_l, g1, ubi_mk, if_pos rfl, ub01_0, ugd_t]
      refine ⟨fun e he => ?_, fun x p' he => by cases he⟩
      cases he
      exact ⟨m', rfl, g2⟩
    | inr v0 =>
      obtain ⟨v0, p0⟩ := v0
      obtain ⟨m0, g01, g02, g03, g04, g05, g06⟩ := hr0.2 v0 p0 q0
      have k0 := g02
      rw [pb_r, g01, ubi_mk, if_neg i1_0]
      have hr1 := e_rn (b := b) (N := N) (lo := 0) (hi := 100) (j := j + 2) (x := 0) (y := 99) (by omega) g06 g05 g02.2.1 rfl rfl (by omega) (by omega)
      cases q1 : pNum b N 0 100 p0 with
      | inl e1 =>
        obtain ⟨m', g1, g2⟩ := hr1.1 e1 q1
        rw [pb_l, g1, ubi_mk, if_pos rfl, ub01_0, ugd_t]
        refine ⟨fun e he => ?_, fun x p' he => by cases he⟩
        cases he
        exact ⟨m', rfl, tf_tr k0 g2⟩
      | inr v1 =>
        obtain ⟨v1, p1⟩ := v1
        obtain ⟨m1, g11, g12, g13, g14, g15, g16⟩ := hr1.2 v1 p1 q1
        have k1 := tk_tr k0 g12
        rw [pb_r, g11, ubi_mk, if_neg i1_0, ub01_1, ugd_t]
        refine ⟨fun e he => (by cases he), fun x p' he => ?_⟩
        cases he
        exact ⟨m1, rfl, k1, by rw [g13, g03], fun i h1 h2 h3 => (by rw [g14, g04, upd_n (by omega), upd_n (by omega)]), fun _ => (by rw [g14, g04, upd_n (by omega), upd_s]), fun _ => (by rw [g14, g04, upd_s]), fun h => (by cases h)⟩
  · rw [if_neg (show ¬ nI 4 = 0 by decide), if_neg (show ¬ nI 4 = 1 by decide), if_neg (show ¬ nI 4 = 2 by decide), if_neg (show ¬ nI 4 = 3 by decide), if_pos (show nI 4 = 4 from rfl), if_neg (show ¬ (4 = 0) by decide), if_neg (show ¬ (4 = 1 ∨ 4 = 2) by decide), if_neg (show ¬ (4 = 3) by decide), if_pos (show 4 = 4 by decide)]
    unfold f_X6_readNumbers_b166 f_X6_readNumbers_b167
    have hr0 := e_rn (b := b) (N := N) (lo := 0) (hi := T) (j := j + 1) (x := 0) (y := nI T - 1) (by omega) hA hpN hp rfl rfl (by omega) (by omega)
    cases q0 : pNum b N 0 T p with
    | inl e1 =>
      obtain ⟨m', g1, g2⟩ := hr0.1 e1 q0
      rw [pb_l, g1, ubi_mk, if_pos rfl, ub01_0, ugd_t]
      refine ⟨fun e he => ?_, fun x p' he => by cases he⟩
      cases he
      exact ⟨m', rfl, g2⟩
    | inr v0 =>
      obtain ⟨v0, p0⟩ := v0
      obtain ⟨m0, g01, g02, g03, g04, g05, g06⟩ := hr0.2 v0 p0 q0
      have k0 := g02
      rw [pb_r, g01, ubi_mk, if_neg i1_0]
      have hr1 := e_rn (b := b) (N := N) (lo := 0) (hi := T) (j := j + 2) (x := 0) (y := nI T - 1) (by omega) g06 g05 g02.2.1 rfl rfl (by omega) (by omega)
      cases q1 : pNum b N 0 T p0 with
      | inl e1 =>
        obtain ⟨m', g1, g2⟩ := hr1.1 e1 q1
        rw [pb_l, g1, ubi_mk, if_pos rfl, ub01_0, ugd_t]
        refine ⟨fun e he => ?_, fun x p' he => by cases he⟩
        cases he
        exact ⟨m', rfl, tf_tr k0 g2⟩
      | inr v1 =>
        obtain ⟨v1, p1⟩ := v1
        obtain ⟨m1, g11, g12, g13, g14, g15, g16⟩ := hr1.2 v1 p1 q1
        have k1 := tk_tr k0 g12
        rw [pb_r, g11, ubi_mk, if_neg i1_0]
        have hr2 := e_rn (b := b) (N := N) (lo := 0) (hi := 100) (j := j + 3) (x := 0) (y := 99) (by omega) g16 g15 g12.2.1 rfl rfl (by omega) (by omega)
        cases q2 : pNum b N 0 100 p1 with
        | inl e1 =>
          obtain ⟨m', g1, g2⟩ := hr2.1 e1 q2
          rw [pb_l, g1, ubi_mk, if_pos rfl, ub01_0, ugd_t]
          refine ⟨fun e he => ?_, fun x p' he => by cases he⟩
          cases he
          exact ⟨m', rfl, tf_tr k1 g2⟩
        | inr v2 =>
          obtain ⟨v2, p2⟩ := v2
          obtain ⟨m2, g21, g22, g23, g24, g25, g26⟩ := hr2.2 v2 p2 q2
          have k2 := tk_tr k1 g22
          rw [pb_r, g21, ubi_mk, if_neg i1_0, ub01_1, ugd_t]
          refine ⟨fun e he => (by cases he), fun x p' he => ?_⟩
          cases he
          exact ⟨m2, rfl, k2, by rw [g23, g13, g03], fun i h1 h2 h3 => (by rw [g24, g14, g04, upd_n (by omega), upd_n (by omega), upd_n (by omega)]), fun _ => (by rw [g24, g14, g04, upd_n (by omega), upd_n (by omega), upd_s]), fun _ => (by rw [g24, g14, g04, upd_n (by omega), upd_s]), fun _ => (by rw [g24, g14, g04, upd_s])⟩
  · rw [if_neg (show ¬ nI 5 = 0 by decide), if_neg (show ¬ nI 5 = 1 by decide), if_neg (show ¬ nI 5 = 2 by decide), if_neg (show ¬ nI 5 = 3 by decide), if_neg (show ¬ nI 5 = 4 by decide), if_pos (show nI 5 = 5 from rfl), if_neg (show ¬ (5 = 0) by decide), if_neg (show ¬ (5 = 1 ∨ 5 = 2) by decide), if_neg (show ¬ (5 = 3) by decide), if_neg (show ¬ (5 = 4) by decide), if_pos (show 5 = 5 by decide)]
    have hr0 := e_rn (b := b) (N := N) (lo := 0) (hi := T) (j := j + 1) (x := 0) (y := nI T - 1) (by omega) hA hpN hp rfl rfl (by omega) (by omega)
    cases q0 : pNum b N 0 T p with
    | inl e1 =>
      obtain ⟨m', g1, g2⟩ := hr0.1 e1 q0
      rw [pb_l, g1, ubi_mk, ub01_0, ugd_t]
      refine ⟨fun e he => ?_, fun x p' he => by cases he⟩
      cases he
      exact ⟨m', rfl, g2⟩
    | inr v0 =>
      obtain ⟨v0, p0⟩ := v0
      obtain ⟨m0, g01, g02, g03, g04, g05, g06⟩ := hr0.2 v0 p0 q0
      have k0 := g02
      rw [pb_r, g01, ubi_mk, ub01_1, ugd_t]
      refine ⟨fun e he => (by cases he), fun x p' he => ?_⟩
      cases he
      exact ⟨m0, rfl, k0, by rw [g03], fun i h1 h2 h3 => (by rw [g04, upd_n (by omega)]), fun _ => (by rw [g04, upd_s]), fun h => (by rcases h with h | h | h <;> cases h), fun h => (by cases h)⟩
  · rw [if_neg (show ¬ nI 6 = 0 by decide), if_neg (show ¬ nI 6 = 1 by decide), if_neg (show ¬ nI 6 = 2 by decide), if_neg (show ¬ nI 6 = 3 by decide), if_neg (show ¬ nI 6 = 4 by decide), if_neg (show ¬ nI 6 = 5 by decide), if_neg (show ¬ (6 = 0) by decide), if_neg (show ¬ (6 = 1 ∨ 6 = 2) by decide), if_neg (show ¬ (6 = 3) by decide), if_neg (show ¬ (6 = 4) by decide), if_neg (show ¬ (6 = 5) by decide)]
    refine ⟨fun e he => (by cases he), fun x p' he => ?_⟩
    cases he
    exact ⟨m, rfl, ⟨tg_rf _ _, hp, rfl⟩, rfl, fun _ _ _ _ => rfl, fun h => absurd rfl h, fun h => (by rcases h with h | h | h <;> cases h), fun h => (by cases h)⟩
theorem e_kwW {q e : Nat} (hA : tA b N m) (he : e ≤ N) (hqe : q ≤ e) (h3 : m 1 3 = nI e) (h8 : m 1 8 = nI q) : f_X6_stepWord m = some (m, if kwW b q e = 8 then -1 else nI (kwW b q e)) := by
  have wi : ∀ i, i < 18 → f_X5_wordIs i m = some (m, bi (wIs b q e i)) := fun i hi => e_wIs hi hA he hqe h3 h8
  unfold f_X6_stepWord f_X6_stepWord_b93 kwW
  rw [wi 11 (by omega), ubi_mk, ite_bi0, wi 12 (by omega), ubi_mk, ite_bi0, wi 13 (by omega), ubi_mk, ite_bi0, wi 14 (by omega), ubi_mk, ite_bi0, wi 15 (by omega), ubi_mk, ite_bi0, wi 16 (by omega), ubi_mk, ite_bi0, wi 9 (by omega), ubi_mk, ite_bi0, wi 17 (by omega), ubi_mk, ite_bi0]
  by_cases h0 : wIs b q e 11 = true
  · simp only [h0, if_true]; rfl
  · by_cases h1 : wIs b q e 12 = true
    · simp only [h0, h1, Bool.false_eq_true, if_true, if_false]; rfl
    · by_cases h2 : wIs b q e 13 = true
      · simp only [h0, h1, h2, Bool.false_eq_true, if_true, if_false]; rfl
      · by_cases h3 : wIs b q e 14 = true
        · simp only [h0, h1, h2, h3, Bool.false_eq_true, if_true, if_false]; rfl
        · by_cases h4 : wIs b q e 15 = true
          · simp only [h0, h1, h2, h3, h4, Bool.false_eq_true, if_true, if_false]; rfl
          · by_cases h5 : wIs b q e 16 = true
            · simp only [h0, h1, h2, h3, h4, h5, Bool.false_eq_true, if_true, if_false]; rfl
            · by_cases h6 : wIs b q e 9 = true
              · simp only [h0, h1, h2, h3, h4, h5, h6, Bool.false_eq_true, if_true, if_false]; rfl
              · by_cases h7 : wIs b q e 17 = true
                · simp only [h0, h1, h2, h3, h4, h5, h6, h7, Bool.false_eq_true, if_true, if_false]; rfl
                · simp only [h0, h1, h2, h3, h4, h5, h6, h7, Bool.false_eq_true, if_true, if_false]
theorem e_step {recC : Um → Int32 → Int32 → Option (Um × Int32)} {rec : Nat → Ws → Pr_ Ws} {o : Nat} {st : Ws} (hN : N ≤ 150) (hT : T ≤ 5) (ho : o ≤ 6) (hR : o < 6 → ∀ m st, lW b N m st → eWK m (recC m (nI T) (nI (o + 1))) st.2.1 (rec (o + 1) st)) (hQ : o < 6 → ∀ st, st.1 ≤ N → wQ N T (o + 1) st (rec (o + 1) st)) (hl : lW b N m st) : eWK m (f_X6_readStep recC m (nI T) (nI o)) st.2.1 (pSt b N T rec o st) := by
  obtain ⟨p, n, G⟩ := st
  have hA := hl.1
  have hp : m 1 3 = nI p := hl.2.1
  have hpN : p ≤ N := hl.2.2.1
  have hnp : 6 * n ≤ p := hl.2.2.2.1
  have h21 : m 21 1 = nI n := hl.2.2.2.2
  have hs := sk_le (b := b) hpN
  have hsg := sk_ge b N p
  have hw := wE_le (b := b) hs
  have hwg := wE_ge b N (sk b N p)
  have hkw := kwW_ok (b := b) (q := sk b N p) (e := wE b N (sk b N p))
  obtain ⟨m1, g1, g2, g3⟩ := e_word hA hpN hp
  have hA1 := tA_g (fun h => h) hA g2.1
  have h211 : m1 21 1 = nI n := by rw [g2.1.1 21 (fun h => h) (by omega)]; exact h21
  unfold f_X6_readStep pSt f_X6_readStep_b25
  rw [g1, ubi_mk, e_kwW hA1 hw hwg g2.2.1 g3, ubi_mk]
  by_cases h8 : kwW b (sk b N p) (wE b N (sk b N p)) = 8
  · obtain ⟨m2, i1, i2⟩ := e_failW g3 (k := 1) (x := 1) rfl
    rw [if_pos h8, if_pos rfl, if_pos h8]
    refine eWK_f ?_ (tf_tr (tk_z g2) (tf_0 i2))
    rw [i1, ubi_mk, ub01_0, ugd_t]
  · have hl3 := hkw.2 (by omega)
    have hl3' : 3 ≤ kln (kwW b (sk b N p) (wE b N (sk b N p))) := by
      unfold kln
      repeat' split
      all_goals omega
    have hn25 : n < 25 := by omega
    rw [if_neg h8, if_neg (fun q => (nI_ne1 (by omega)).mp q), if_neg h8, h211, if_pos (ltq_lit (k := 25) hn25 (by decide))]
    have e4 : nI n * 4 = nI (4 * n) := by rw [show nI n * 4 = nI (n * 4) from nI_mul n 4, Nat.mul_comm]
    have b50 : ∀ x : Int32, x = nI (kwW b (sk b N p) (wE b N (sk b N p))) → tk Cw m (um_w (um_w m1 21 1 (nI (n + 1))) 22 (4 * n) x) (wE b N (sk b N p)) := fun x _ => tk_w (C := Cw) (c := 22) (tk_w (C := Cw) (c := 21) (tk_z g2) (Or.inl rfl) (by omega) _ _) (Or.inr rfl) (by omega) _ _
    have hk2 := b50 _ rfl
    generalize hm2 : um_w (um_w m1 21 1 (nI (n + 1))) 22 (4 * n) (nI (kwW b (sk b N p) (wE b N (sk b N p)))) = m2 at hk2
    have hA2 := tA_g cw2 hA hk2.1
    have h212 : m2 21 1 = nI (n + 1) := by
      subst hm2
      rw [um_w_c (by omega), um_w_s]
    have h21x : ∀ j, j ≠ 1 → m2 21 j = m 21 j := fun j hj => by
      subst hm2
      rw [um_w_c (by omega), um_w_k hj, g2.1.1 21 (fun h => h) (by omega)]
    have h222 : m2 22 = upd (m 22) (4 * n) (nI (kwW b (sk b N p) (wE b N (sk b N p)))) := by
      subst hm2
      rw [um_w_def, um_wa_s, um_w_c (by omega), g2.1.1 22 (fun h => h) (by omega)]
    have eb50 : f_X6_readStep_b50 recC m1 (nI T) (nI o) (nI (kwW b (sk b N p) (wE b N (sk b N p)))) = (if nI (kwW b (sk b N p) (wE b N (sk b N p))) = 7 then (ubi (f_X6_readAgain recC m2 (nI (4 * n)) (nI T) (nI (o + 1))) (fun m6 r7 => f_X6_readStep_b110 recC m6 r7)) else (ubi (f_X6_readNumbers m2 (nI (4 * n)) (nI (kwW b (sk b N p) (wE b N (sk b N p)))) (nI T - 1)) (fun m3 r4 => f_X6_readStep_b110 recC m3 r4))) := by
      unfold f_X6_readStep_b50
      rw [h211, e4, uin_n (by omega) (by omega), ugd_t, nI_clamp (by omega), nI_1, nI_1, hm2]
    have b110f : ∀ m', f_X6_readStep_b110 recC m' 0 = some (m', 0) := fun m' => by
      unfold f_X6_readStep_b110 f_X6_readStep_b130 f_X6_readStep_b131
      rw [if_pos rfl, ub01_0, ugd_t]
    by_cases h7 : kwW b (sk b N p) (wE b N (sk b N p)) = 7
    · rw [if_pos h7, if_pos (show nI (kwW b (sk b N p) (wE b N (sk b N p))) = 7 by rw [h7]; rfl), ite_p (show (nI o < 6) = (o < 6) from lt_lit (k := 6) (by decide) (by omega))]
      by_cases h6 : 6 ≤ o
      · obtain ⟨m3, i1, i2⟩ := e_failW g3 (k := 3) (x := 3) rfl
        rw [if_pos h6, if_neg (by omega)]
        refine eWK_f ?_ (tf_tr (tk_z g2) (tf_0 i2))
        rw [i1, ubi_mk, ub01_0, ugd_t]
      · rw [if_neg h6, if_pos (show o < 6 by omega), eb50, if_pos (show nI (kwW b (sk b N p) (wE b N (sk b N p))) = 7 by rw [h7]; rfl)]
        unfold f_X6_readAgain f_X6_readAgain_b43
        have e1 : nI (4 * n) + 1 = nI (4 * n + 1) := nI_1 _
        have e2 : nI (4 * n) + 2 = nI (4 * n + 2) := nI_add _ 2
        rw [e1, e2]
        have hr := e_rn (b := b) (N := N) (lo := 0) (hi := 31) (j := 4 * n + 1) (x := 0) (y := 30) (by omega) hA2 hw hk2.2.1 rfl rfl (by omega) (by omega)
        cases q1 : pNum b N 0 31 (wE b N (sk b N p)) with
        | inl e =>
          obtain ⟨m3, i1, i2⟩ := hr.1 e q1
          rw [pb_l]
          refine eWK_f ?_ (tf_tr hk2 i2)
          rw [i1, ubi_mk, if_pos rfl, ubi_mk, b110f]
        | inr x =>
          obtain ⟨x, p1⟩ := x
          obtain ⟨m3, i1, i2, i3, i4, i5, i6⟩ := hr.2 x p1 q1
          have hk3 := tk_tr hk2 i2
          have gx := pNum_pos hw q1
          rw [pb_r, i1, ubi_mk, if_neg i1_0]
          cases q2 : pSign b N 91 p1 with
          | inl e =>
            obtain ⟨m4, j1, j2⟩ := e_sign_f i6 i5 i2.2.1 (c := 91) (x := 91) rfl (by omega) q2
            rw [pb_l]
            refine eWK_f ?_ (tf_tr hk3 (tf_0 j2))
            rw [j1, ubi_mk, if_pos rfl, ubi_mk, b110f]
          | inr p2 =>
            obtain ⟨m4, j1, j2⟩ := e_sign_t i6 i5 i2.2.1 (c := 91) (x := 91) rfl (by omega) q2
            have gp2 := pSign_pos q2
            have hk4 := tk_tr hk3 (tk_z j2)
            have hl4 : lW b N m4 (p2, n + 1, g4 G n (7, x, 0, 0)) := ⟨tA_g (fun h => h) i6 j2.1, j2.2.1, gp2.2, by show 6 * (n + 1) ≤ p2; rw [h7] at hl3; have : wE b N (sk b N p) - sk b N p = 5 := hl3; omega, by rw [j2.1.1 21 (fun h => h) (by omega), i3]; exact h212⟩
            have hrec := hR (by omega) m4 _ hl4
            have hq := hQ (by omega) (p2, n + 1, g4 G n (7, x, 0, 0)) gp2.2
            rw [pb_r, j1, ubi_mk, if_neg i1_0]
            cases q3 : rec (o + 1) (p2, n + 1, g4 G n (7, x, 0, 0)) with
            | inl e =>
              obtain ⟨m5, l1, l2⟩ := hrec.1 e q3
              rw [pb_l]
              refine eWK_f ?_ (tf_tr hk4 l2)
              rw [l1, ubi_mk, if_pos rfl, ubi_mk, b110f]
            | inr s2 =>
              obtain ⟨m5, l1, l2⟩ := hrec.2 s2 q3
              obtain ⟨a1, a2, a3, a4, a5, a6, a7⟩ := hq.2 _ q3
              have a4' : n + 1 ≤ s2.2.1 := a4
              have hk5 := tk_tr hk4 l2.1
              have hA5 := tA_g cw2 hA hk5.1
              rw [pb_r, l1, ubi_mk, if_neg i1_0]
              cases q4 : pSign b N 93 s2.1 with
              | inl e =>
                obtain ⟨m6, r1, r2⟩ := e_sign_f hA5 a2 hk5.2.1 (c := 93) (x := 93) rfl (by omega) q4
                rw [pb_l]
                refine eWK_f ?_ (tf_tr hk5 (tf_0 r2))
                rw [r1, ubi_mk, if_pos rfl, ubi_mk, b110f]
              | inr p4 =>
                obtain ⟨m6, r1, r2⟩ := e_sign_t hA5 a2 hk5.2.1 (c := 93) (x := 93) rfl (by omega) q4
                have gp4 := pSign_pos q4
                have h216 : m6 21 1 = nI s2.2.1 := by rw [r2.1.1 21 (fun h => h) (by omega)]; exact l2.2.1.1
                have h21y : ∀ j, j ≠ 1 → m6 21 j = m 21 j := fun j hj => by rw [r2.1.1 21 (fun h => h) (by omega), l2.2.1.2 j hj, j2.1.1 21 (fun h => h) (by omega), i3]; exact h21x j hj
                have hk7 : tk Cw m (um_w m6 22 (4 * n + 2) (nI s2.2.1)) p4 := tk_w (C := Cw) (c := 22) (tk_tr hk5 (tk_z r2)) (Or.inr rfl) (by omega) _ _
                generalize hm7 : um_w m6 22 (4 * n + 2) (nI s2.2.1) = m7 at hk7
                have h2x : ∀ j, j ≠ 4 * n + 2 → m7 22 j = m5 22 j := fun j hj => by
                  subst hm7
                  rw [um_w_k hj, r2.1.1 22 (fun h => h) (by omega)]
                have h22 : ∀ j, j < 4 * n + 4 → j ≠ 4 * n + 2 → m7 22 j = upd (upd (m 22) (4 * n) (nI (kwW b (sk b N p) (wE b N (sk b N p))))) (4 * n + 1) (nI x) j := fun j hj hj2 => by
                  rw [h2x j hj2, l2.2.2.1 j (by show j < 4 * (n + 1); omega), j2.1.1 22 (fun h => h) (by omega), i4, h222]
                have hs7 : (um_w m6 22 (4 * n + 2) (nI s2.2.1)) 22 (4 * n + 2) = nI s2.2.1 := um_w_s _ _ _ _
                rw [hm7] at hs7
                have h217 : m7 21 1 = nI s2.2.1 ∧ ∀ j, j ≠ 1 → m7 21 j = m 21 j := by
                  subst hm7
                  rw [um_w_c (by omega)]
                  exact ⟨h216, h21y⟩
                have hA7 := tA_g cw2 hA hk7.1
                rw [pb_r, r1, ubi_mk, if_neg i1_0, uin_n (show 4 * n + 2 < 100 by omega) (by omega), ugd_t, nI_clamp (by omega), h216, hm7, ubi_mk]
                unfold f_X6_readStep_b110 f_X6_readStep_b130 f_X6_readStep_b131
                rw [if_neg i1_0]
                cases q5 : pSign b N 59 p4 with
                | inl e =>
                  obtain ⟨m8, t1, t2⟩ := e_sign_f hA7 gp4.2 hk7.2.1 (c := 59) (x := 59) rfl (by omega) q5
                  rw [pb_l]
                  refine eWK_f ?_ (tf_tr hk7 (tf_0 t2))
                  rw [t1, ubi_mk, if_pos rfl, ub01_0, ugd_t]
                | inr p5 =>
                  obtain ⟨m8, t1, t2⟩ := e_sign_t hA7 gp4.2 hk7.2.1 (c := 59) (x := 59) rfl (by omega) q5
                  have h228 : m8 22 = m7 22 := t2.1.1 22 (fun h => h) (by omega)
                  rw [pb_r]
                  refine eWK_s (by rw [t1, ubi_mk, if_neg i1_0, ub01_1, ugd_t]) ⟨tk_tr hk7 (tk_z t2), by rw [t2.1.1 21 (fun h => h) (by omega)]; exact h217, fun j hj => ?_, fun i hi1 hi2 => ?_⟩
                  · have hj' : j < 4 * n := hj
                    rw [h228, h22 j (by omega) (by omega), upd_n (by omega), upd_n (by omega)]
                  · have hi1' : n ≤ i := hi1
                    have hi2' : i < s2.2.1 := hi2
                    show wX (m8 22) 1 (g4 s2.2.2 n (7, x, s2.2.1, 0) i) i
                    rw [h228]
                    by_cases hin : i = n
                    · subst hin
                      rw [g4_s]
                      refine ⟨?_, fun _ => ?_, fun h => (by rcases h with h | h | h <;> cases h), fun _ => ?_, fun h => (by cases h)⟩
                      · rw [h22 (4 * i) (by omega) (by omega), upd_n (by omega), upd_s, h7]
                      · rw [h22 (4 * i + 1) (by omega) (by omega), upd_s]
                      · rw [hs7]
                        show nI s2.2.1 = nI (1 * s2.2.1)
                        rw [Nat.one_mul]
                    · rw [g4_n hin]
                      exact wX_cong (fun j h1 h2 => h2x j (by omega)) (l2.2.2.2 i (by show n + 1 ≤ i; omega) hi2')
    · have hk6 : kwW b (sk b N p) (wE b N (sk b N p)) ≤ 6 := by omega
      have h7' : ¬ nI (kwW b (sk b N p) (wE b N (sk b N p))) = 7 := fun q => h7 ((nI_eq (b := 7) (by omega) (by omega)).mp q)
      rw [if_neg h7, if_neg h7', eb50, if_neg h7']
      have ha := e_args (T := T) (p := wE b N (sk b N p)) (j := 4 * n) hk6 (by omega) hT hA2 hw hk2.2.1
      have hpa := pAr_ok (b := b) (N := N) (T := T) hk6 hw
      cases q1 : pAr b N T (kwW b (sk b N p) (wE b N (sk b N p))) (wE b N (sk b N p)) with
      | inl e =>
        obtain ⟨m3, i1, i2⟩ := ha.1 e q1
        rw [pb_l]
        refine eWK_f ?_ (tf_tr hk2 i2)
        rw [i1, ubi_mk, b110f]
      | inr x =>
        obtain ⟨x, p1⟩ := x
        obtain ⟨m3, i1, i2, i3, i4, i5, i6, i7⟩ := ha.2 x p1 q1
        have hp1 := (hpa.2 x p1 q1).1
        have hk3 := tk_tr hk2 i2
        have hA3 := tA_g cw2 hA hk3.1
        rw [pb_r, i1, ubi_mk]
        unfold f_X6_readStep_b110 f_X6_readStep_b130 f_X6_readStep_b131
        rw [if_neg i1_0]
        cases q2 : pSign b N 59 p1 with
        | inl e =>
          obtain ⟨m8, t1, t2⟩ := e_sign_f hA3 hp1 hk3.2.1 (c := 59) (x := 59) rfl (by omega) q2
          rw [pb_l]
          refine eWK_f ?_ (tf_tr hk3 (tf_0 t2))
          rw [t1, ubi_mk, if_pos rfl, ub01_0, ugd_t]
        | inr p2 =>
          obtain ⟨m8, t1, t2⟩ := e_sign_t hA3 hp1 hk3.2.1 (c := 59) (x := 59) rfl (by omega) q2
          have h228 : m8 22 = m3 22 := t2.1.1 22 (fun h => h) (by omega)
          rw [pb_r]
          refine eWK_s (by rw [t1, ubi_mk, if_neg i1_0, ub01_1, ugd_t]) ⟨tk_tr hk3 (tk_z t2), by rw [t2.1.1 21 (fun h => h) (by omega), i3]; exact ⟨h212, h21x⟩, fun j hj => ?_, fun i hi1 hi2 => ?_⟩
          · have hj' : j < 4 * n := hj
            rw [h228, i4 j (by omega) (by omega) (by omega), h222, upd_n (by omega)]
          · have hi1' : n ≤ i := hi1
            have hi2' : i < n + 1 := hi2
            have hin : i = n := by omega
            subst hin
            show wX (m8 22) 1 (g4 G i (kwW b (sk b N p) (wE b N (sk b N p)), x) i) i
            rw [h228, g4_s]
            exact ⟨by rw [i4 (4 * i) (by omega) (by omega) (by omega), h222, upd_s], i5, i6, fun h => absurd h h7, i7⟩
theorem kWS_tr {m m1 m2 : Um} {n : Nat} {s1 s2 : Ws} (hn : n ≤ s1.2.1) (hG : ∀ i, i < s1.2.1 → s2.2.2 i = s1.2.2 i) (h1 : kWS m m1 n s1) (h2 : kWS m1 m2 s1.2.1 s2) : kWS m m2 n s2 := by
  refine ⟨tk_tr h1.1 h2.1, ⟨h2.2.1.1, fun j hj => by rw [h2.2.1.2 j hj, h1.2.1.2 j hj]⟩, fun j hj => by rw [h2.2.2.1 j (by omega), h1.2.2.1 j hj], fun i a b => ?_⟩
  by_cases h : i < s1.2.1
  · rw [hG i h]
    exact wX_cong (fun j h3 h4 => h2.2.2.1 j (by omega)) (h1.2.2.2 i a h)
  · exact h2.2.2.2 i (by omega) b
theorem e_block {recC : Um → Int32 → Int32 → Option (Um × Int32)} {rec : Nat → Ws → Pr_ Ws} {o : Nat} (hN : N ≤ 150) (hT : T ≤ 5) (ho : o ≤ 6) (hR : o < 6 → ∀ m st, lW b N m st → eWK m (recC m (nI T) (nI (o + 1))) st.2.1 (rec (o + 1) st)) (hQ : o < 6 → ∀ st, st.1 ≤ N → wQ N T (o + 1) st (rec (o + 1) st)) : ∀ (f fuel i : Nat) (m : Um) (st : Ws), N - st.1 < f → N - st.1 < fuel → i ≤ st.2.1 → lW b N m st → eWK m (f_X6_readSteps_b3 recC fuel m (nI T) (nI o) (nI i)) st.2.1 (pBl b N (pSt b N T rec o) f st)
  | 0, _, _, _, _, hf, _, _, _ => absurd hf (Nat.not_lt_zero _)
  | _, 0, _, _, _, _, hf, _, _ => absurd hf (Nat.not_lt_zero _)
  | f + 1, fuel + 1, i, m, st, hf, hfu, hi, hl => by
    have hA := hl.1
    have hp := hl.2.1
    have hpN := hl.2.2.1
    have hnp := hl.2.2.2.1
    have hs := sk_le (b := b) hpN
    have hsg := sk_ge b N st.1
    have done : ∀ m', tk cN0 m m' (sk b N st.1) → kWS m m' st.2.1 (sk b N st.1, st.2) := fun m' h => ⟨tk_z h, by rw [h.1.1 21 (fun h => h) (by omega)]; exact ⟨hl.2.2.2.2, fun _ _ => rfl⟩, fun j _ => by rw [h.1.1 22 (fun h => h) (by omega)], fun j a b => absurd b (by show ¬ j < st.2.1; omega)⟩
    rw [f_X6_readSteps_b3, pBl]
    unfold f_X6_readSteps_b44
    by_cases h25 : 25 ≤ i
    · have e1 : sk b N st.1 = st.1 := by omega
      rw [if_pos (lit_leq (k := 25) h25 (by omega)), if_neg (fun q => by omega)]
      refine eWK_s rfl (done m ⟨tg_rf _ _, by rw [e1]; exact hp, rfl⟩)
    · rw [if_neg (nle_lit (k := 25) (by show i < 25; omega) (by decide)), e_more hA hpN hp, ubi_mk, ite_bi0]
      have hA1 := tA_3 hA (sk b N st.1)
      have hp1 : (um_w m 1 3 (nI (sk b N st.1))) 1 3 = nI (sk b N st.1) := um_w_s _ _ _ _
      by_cases hm : sk b N st.1 < N
      · rw [if_pos (decide_eq_true hm), e_peek hA1 hs hp1, ubi_mk, um_w_w, sk_sk, pkc_sk, ite_p (pkc_eq hA (c := 93) (x := 93) rfl (by omega))]
        by_cases h93 : b (sk b N st.1) = 93
        · rw [if_pos (show ht_ b N 93 st.1 = true from decide_eq_true ⟨hm, h93⟩), if_neg (fun q => q.2 h93)]
          exact eWK_s rfl (done _ (w3_k _))
        · rw [if_neg (show ¬ ht_ b N 93 st.1 = true from fun q => h93 (of_decide_eq_true q).2), if_pos ⟨hm, h93⟩]
          have hl1 : lW b N (um_w m 1 3 (nI (sk b N st.1))) (sk b N st.1, st.2) := ⟨hA1, hp1, hs, by show 6 * st.2.1 ≤ sk b N st.1; omega, by rw [um_w_c (by omega)]; exact hl.2.2.2.2⟩
          have k0 := done _ (w3_k (sk b N st.1))
          have hst := e_step (b := b) (N := N) (T := T) (o := o) hN hT ho hR hQ hl1
          have hqs := pSt_ok (b := b) (N := N) (T := T) (rec := rec) (o := o) hQ (st := (sk b N st.1, st.2)) hs
          cases q1 : pSt b N T rec o (sk b N st.1, st.2) with
          | inl e =>
            obtain ⟨m2, g1, g2⟩ := hst.1 e q1
            rw [pb_l]
            refine eWK_f ?_ (tf_tr k0.1 g2)
            rw [g1, ubi_mk, if_pos rfl]
          | inr s1 =>
            obtain ⟨m2, g1, g2⟩ := hst.2 s1 q1
            obtain ⟨a1, a2, a3, a4, a5, a6, a7⟩ := hqs.1.2 s1 q1
            have hlt := hqs.2 s1 q1
            have hlt1 : sk b N st.1 < s1.1 := hlt.1
            have hlt2 : st.2.1 < s1.2.1 := hlt.2
            have a3' : 6 * s1.2.1 + sk b N st.1 ≤ 6 * st.2.1 + s1.1 := a3
            have k2 : kWS m m2 st.2.1 s1 := ⟨tk_tr k0.1 g2.1, ⟨g2.2.1.1, fun j hj => by rw [g2.2.1.2 j hj, k0.2.1.2 j hj]⟩, fun j hj => by rw [g2.2.2.1 j hj, k0.2.2.1 j hj], g2.2.2.2⟩
            have hl2 : lW b N m2 s1 := ⟨tA_g cw2 hA k2.1.1, k2.1.2.1, a2, by omega, k2.2.1.1⟩
            have ih := e_block hN hT ho hR hQ f fuel (i + 1) m2 s1 (by omega) (by omega) (by omega) hl2
            have hpb := pBl_ok (b := b) (N := N) (T := T) (o := o) (fun st hst => (pSt_ok (b := b) (rec := rec) hQ hst).1) f s1 a2
            rw [pb_r, g1, ubi_mk, if_neg i1_0, nI_1]
            refine ⟨fun e he => ?_, fun s2 he => ?_⟩
            · obtain ⟨m3, i1, i2⟩ := ih.1 e he
              exact ⟨m3, i1, tf_tr k2.1 i2⟩
            · obtain ⟨m3, i1, i2⟩ := ih.2 s2 he
              exact ⟨m3, i1, kWS_tr (by omega) (hpb.2 s2 he).2.2.2.2.1 k2 i2⟩
      · rw [if_neg (fun q => hm (of_decide_eq_true q)), if_neg (fun q => hm q.1)]
        exact eWK_s rfl (done _ (w3_k _))
theorem e_readSteps (hN : N ≤ 150) (hT : T ≤ 5) : ∀ (d D o : Nat) (m : Um) (st : Ws), d + o = 8 → o ≤ 6 → d ≤ D → lW b N m st → eWK m (f_X6_readSteps D m (nI T) (nI o)) st.2.1 (pBk_ b N T d o st)
  | 0, D, o, m, st, h, ho, _, _ => by omega
  | d + 1, 0, o, m, st, h, ho, hD, _ => by omega
  | d + 1, D + 1, o, m, st, h, ho, hD, hl => by
    rw [f_X6_readSteps, pBk_]
    unfold f_X6_readSteps_e
    exact e_block hN hT ho (fun ho6 m st hl => e_readSteps hN hT d D (o + 1) m st (by omega) (by omega) (by omega) hl) (fun _ st hst => pBk_ok d (o + 1) st hst) 160 UF 0 m st (by omega) (by show N - st.1 < 3000; omega) (Nat.zero_le _) hl
end WORKC
