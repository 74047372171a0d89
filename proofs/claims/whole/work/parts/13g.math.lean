/-! CORNERS -/
abbrev Cs : Type := (Nat × Nat × Nat) × ((Nat → Int32) × (Nat → Int32)) × ((Nat → Int32) × (Nat → Int32))
def pTwo (b : Nat → Nat) (N h1 h2 p : Nat) : Pr_ ((Nat × Nat) × Nat) := pb (pNum b N 0 h1 p) (fun x => pb (pNum b N 0 h2 x.2) (fun y => pb (pSign b N 59 y.2) (fun p3 => .inr ((x.1, y.1), p3))))
def pOne (b : Nat → Nat) (N p : Nat) : Pr_ (Nat × Nat) := pb (pNum b N 1 21 p) (fun x => pb (pSign b N 59 x.2) (fun p3 => .inr (x.1, p3)))
def cAddV (c : Cs) (x y : Nat) : Cs := ((c.1.1 + 1, c.1.2.1, c.1.2.2), (upd c.2.1.1 c.1.1 (nI x), upd c.2.1.2 c.1.1 (nI y)), c.2.2)
def cAddT (c : Cs) (x y : Nat) : Cs := ((c.1.1, c.1.2.1 + 1, c.1.2.2), c.2.1, (upd c.2.2.1 c.1.2.1 (nI x), upd c.2.2.2 c.1.2.1 (nI y)))
def cAddZ (c : Cs) (x : Nat) : Cs := ((c.1.1, c.1.2.1, x), c.2)
def pCl (b : Nat → Nat) (N k p : Nat) (c : Cs) : Pr_ (Nat × Cs) :=
  if wIs b (sk b N p) (wE b N (sk b N p)) 0 = true then (if k = 60 ∨ c.1.1 = 8 then .inl (3, sk b N p) else pb (pTwo b N 100 61 (wE b N (sk b N p))) (fun t => .inr (t.2, cAddV c t.1.1 t.1.2)))
  else if wIs b (sk b N p) (wE b N (sk b N p)) 1 = true then (if k = 60 ∨ c.1.2.1 = 5 then .inl (3, sk b N p) else pb (pTwo b N 100 100 (wE b N (sk b N p))) (fun t => .inr (t.2, cAddT c t.1.1 t.1.2)))
  else if wIs b (sk b N p) (wE b N (sk b N p)) 2 = true then (if k = 60 then .inl (3, sk b N p) else pb (pOne b N (wE b N (sk b N p))) (fun t => .inr (t.2, cAddZ c t.1)))
  else .inl (1, sk b N p)
def pCo (b : Nat → Nat) (N : Nat) : Nat → Nat → Nat → Cs → Pr_ Cs
  | 0, _, _, c => .inr c
  | f + 1, k, p, c => if sk b N p < N then pb (pCl b N k (sk b N p) c) (fun t => pCo b N f (k + 1) t.1 t.2) else .inr c
/-- what can be -/
def okK (c : Cs) : Prop := c.1.1 ≤ 8 ∧ c.1.2.1 ≤ 5 ∧ (∀ v, v < c.1.1 → (0 ≤ (c.2.1.1 v).toInt ∧ (c.2.1.1 v).toInt ≤ 99) ∧ 0 ≤ (c.2.1.2 v).toInt ∧ (c.2.1.2 v).toInt ≤ 60) ∧ ∀ t, t < c.1.2.1 → 0 ≤ (c.2.2.2 t).toInt ∧ (c.2.2.2 t).toInt ≤ 99
theorem ok_addV {c : Cs} (h : okK c) (h8 : c.1.1 < 8) {x y : Nat} (hx : x < 100) (hy : y < 61) : okK (cAddV c x y) := by
  refine ⟨by show c.1.1 + 1 ≤ 8; omega, h.2.1, fun v hv => ?_, h.2.2.2⟩
  have hv' : v < c.1.1 + 1 := hv
  show (0 ≤ (upd c.2.1.1 c.1.1 (nI x) v).toInt ∧ (upd c.2.1.1 c.1.1 (nI x) v).toInt ≤ 99) ∧ 0 ≤ (upd c.2.1.2 c.1.1 (nI y) v).toInt ∧ (upd c.2.1.2 c.1.1 (nI y) v).toInt ≤ 60
  by_cases hq : v = c.1.1
  · subst hq
    rw [upd_s, upd_s, nI_toInt (by omega), nI_toInt (by omega)]
    omega
  · rw [upd_n hq, upd_n hq]
    exact h.2.2.1 v (by omega)
theorem ok_addT {c : Cs} (h : okK c) (h8 : c.1.2.1 < 5) {x y : Nat} (hy : y < 100) : okK (cAddT c x y) := by
  refine ⟨h.1, by show c.1.2.1 + 1 ≤ 5; omega, h.2.2.1, fun v hv => ?_⟩
  have hv' : v < c.1.2.1 + 1 := hv
  show 0 ≤ (upd c.2.2.2 c.1.2.1 (nI y) v).toInt ∧ (upd c.2.2.2 c.1.2.1 (nI y) v).toInt ≤ 99
  by_cases hq : v = c.1.2.1
  · subst hq
    rw [upd_s, nI_toInt (by omega)]
    omega
  · rw [upd_n hq]
    exact h.2.2.2 v (by omega)
def cr (m : Um) (c : Cs) : Prop := m 8 0 = nI c.1.1 ∧ m 8 1 = nI c.1.2.1 ∧ m 8 2 = nI c.1.2.2 ∧ (∀ v, v < c.1.1 → m 9 v = c.2.1.1 v ∧ m 10 v = c.2.1.2 v) ∧ ∀ t, t < c.1.2.1 → m 11 t = c.2.2.1 t ∧ m 12 t = c.2.2.2 t
def rr (M : Um) (c : Cs) : Prop := M 38 14 = nI c.1.1 ∧ M 38 15 = nI c.1.2.1 ∧ M 38 16 = nI c.1.2.2 ∧ (∀ v, v < c.1.1 → M 41 (2 * v) = c.2.1.1 v ∧ M 41 (2 * v + 1) = c.2.1.2 v) ∧ ∀ t, t < c.1.2.1 → M 42 (2 * t) = c.2.2.1 t ∧ M 42 (2 * t + 1) = c.2.2.2 t
theorem cr_g {m m' : Um} {c : Cs} (h : cr m c) (k : ∀ q, 8 ≤ q ∧ q ≤ 12 → m' q = m q) : cr m' c := by
  unfold cr
  rw [k 8 (by omega), k 9 (by omega), k 10 (by omega), k 11 (by omega), k 12 (by omega)]
  exact h
abbrev Cc : Nat → Prop := fun c => 8 ≤ c ∧ c ≤ 12
abbrev Rc : Nat → Prop := fun c => c = 41 ∨ c = 42
abbrev Jc : Nat → Prop := fun j => j = 14 ∨ j = 15 ∨ j = 16
theorem rr_g {M M' : Um} {c : Cs} (h : rr M c) (k : M' 41 = M 41) (k2 : M' 42 = M 42) (k3 : ∀ j, 14 ≤ j ∧ j ≤ 16 → M' 38 j = M 38 j) : rr M' c := by
  unfold rr
  rw [k, k2, k3 14 (by omega), k3 15 (by omega), k3 16 (by omega)]
  exact h
theorem pTwo_pos {b : Nat → Nat} {N h1 h2 p : Nat} (hpN : p ≤ N) {t : (Nat × Nat) × Nat} (h : pTwo b N h1 h2 p = .inr t) : t.1.1 < h1 ∧ t.1.2 < h2 ∧ p < t.2 ∧ t.2 ≤ N := by
  unfold pTwo at h
  cases q1 : pNum b N 0 h1 p with
  | inl e => rw [q1, pb_l] at h; cases h
  | inr x =>
    rw [q1, pb_r] at h
    have g1 := pNum_pos hpN q1
    cases q2 : pNum b N 0 h2 x.2 with
    | inl e => rw [q2, pb_l] at h; cases h
    | inr y =>
      rw [q2, pb_r] at h
      have g2 := pNum_pos g1.2.1 q2
      cases q3 : pSign b N 59 y.2 with
      | inl e => rw [q3, pb_l] at h; cases h
      | inr p3 =>
        rw [q3, pb_r] at h
        cases h
        have g3 := pSign_pos q3
        exact ⟨g1.2.2.2, g2.2.2.2, by show p < p3; omega, g3.2⟩
theorem pOne_pos {b : Nat → Nat} {N p : Nat} (hpN : p ≤ N) {t : Nat × Nat} (h : pOne b N p = .inr t) : p < t.2 ∧ t.2 ≤ N := by
  unfold pOne at h
  cases q1 : pNum b N 1 21 p with
  | inl e => rw [q1, pb_l] at h; cases h
  | inr x =>
    rw [q1, pb_r] at h
    have g1 := pNum_pos hpN q1
    cases q3 : pSign b N 59 x.2 with
    | inl e => rw [q3, pb_l] at h; cases h
    | inr p3 =>
      rw [q3, pb_r] at h
      cases h
      have g3 := pSign_pos q3
      exact ⟨by show p < p3; omega, g3.2⟩
section CORNER
variable {b : Nat → Nat} {N : Nat}
theorem e_readView {m : Um} {p : Nat} {c : Cs} (hA : tA b N m) (hpN : p ≤ N) (hp : m 1 3 = nI p) (hc : cr m c) (h8 : c.1.1 < 8) : (∀ e, pTwo b N 100 61 p = .inl e → ∃ m', f_X1_readView m = some (m', 0) ∧ tf Cc m m' e) ∧ ∀ t, pTwo b N 100 61 p = .inr t → ∃ m', f_X1_readView m = some (m', 1) ∧ tk Cc m m' t.2 ∧ cr m' (cAddV c t.1.1 t.1.2) := by
  unfold pTwo f_X1_readView
  cases h1 : pNum b N 0 100 p with
  | inl e1 =>
    obtain ⟨m', g1, g2⟩ := e_num_f hA hpN hp (lo := 0) (hi := 100) (x := 0) (y := 99) rfl rfl (by omega) (by omega) h1
    rw [pb_l, g1, ubi_mk, if_pos rfl]
    refine ⟨fun e he => ?_, fun t he => by cases he⟩
    cases he
    exact ⟨m', rfl, tf_0 g2⟩
  | inr x =>
    obtain ⟨x, p1⟩ := x
    have hp1 := pNum_pos hpN h1
    obtain ⟨m1, g1, g2, g3, g4⟩ := e_num_t hA hpN hp (lo := 0) (hi := 100) (x := 0) (y := 99) rfl rfl (by omega) (by omega) h1
    have h80 : m1 8 0 = nI (c.1.1) := by rw [g2.1.1 8 (fun h => h) (by omega)]; exact hc.1
    have k1 : tk Cc m (um_w m1 9 (c.1.1) (nI x)) p1 := tk_w (tk_z g2) (show 8 ≤ 9 ∧ 9 ≤ 12 by omega) (by omega) _ _
    have hA1 := tA_g (C := Cc) (show ¬ (8 ≤ 2 ∧ 2 ≤ 12) by omega) hA k1.1
    rw [pb_r, g1, ubi_mk, if_neg i1_0, h80, uin_n h8 (by omega), ugd_t, nI_clamp (by omega), g3]
    cases h2 : pNum b N 0 61 p1 with
    | inl e2 =>
      obtain ⟨m', q1, q2⟩ := e_num_f hA1 hp1.2.1 k1.2.1 (lo := 0) (hi := 61) (x := 0) (y := 60) rfl rfl (by omega) (by omega) h2
      rw [pb_l, q1, ubi_mk, if_pos rfl]
      refine ⟨fun e he => ?_, fun t he => by cases he⟩
      cases he
      exact ⟨m', rfl, tf_tr k1 (tf_0 q2)⟩
    | inr y =>
      obtain ⟨y, p2⟩ := y
      have hp2 := pNum_pos hp1.2.1 h2
      obtain ⟨m2, q1, q2, q3, q4⟩ := e_num_t hA1 hp1.2.1 k1.2.1 (lo := 0) (hi := 61) (x := 0) (y := 60) rfl rfl (by omega) (by omega) h2
      have h82 : m2 8 0 = nI (c.1.1) := by rw [q2.1.1 8 (fun h => h) (by omega), um_w_c (by omega)]; exact h80
      have k2 : tk Cc m (um_w (um_w m2 10 (c.1.1) (nI y)) 8 0 (nI (c.1.1 + 1))) p2 := tk_w (tk_w (tk_tr k1 (tk_z q2)) (show 8 ≤ 10 ∧ 10 ≤ 12 by omega) (by omega) _ _) (show 8 ≤ 8 ∧ 8 ≤ 12 by omega) (by omega) _ _
      have hA2 := tA_g (C := Cc) (show ¬ (8 ≤ 2 ∧ 2 ≤ 12) by omega) hA k2.1
      rw [pb_r, q1, ubi_mk, if_neg i1_0, h82, uin_n h8 (by omega), ugd_t, nI_clamp (by omega), q3, um_w_c (show 8 ≠ 10 by omega), h82, nI_1]
      cases h3 : pSign b N 59 p2 with
      | inl e3 =>
        obtain ⟨m', r1, r2⟩ := e_sign_f hA2 hp2.2.1 k2.2.1 (c := 59) (x := 59) rfl (by omega) h3
        rw [pb_l, r1, ubi_mk, ub01_0, ugd_t]
        refine ⟨fun e he => ?_, fun t he => by cases he⟩
        cases he
        exact ⟨m', rfl, tf_tr k2 (tf_0 r2)⟩
      | inr p3 =>
        obtain ⟨m', r1, r2⟩ := e_sign_t hA2 hp2.2.1 k2.2.1 (c := 59) (x := 59) rfl (by omega) h3
        rw [pb_r, r1, ubi_mk, ub01_1, ugd_t]
        refine ⟨fun e he => (by cases he), fun t he => ?_⟩
        cases he
        refine ⟨m', rfl, tk_tr k2 (tk_z r2), cr_g (m := um_w (um_w m2 10 (c.1.1) (nI y)) 8 0 (nI (c.1.1 + 1))) ?_ (fun q hq => r2.1.1 q (fun h => h) (by omega))⟩
        have hm : ∀ q, 8 ≤ q ∧ q ≤ 12 → m2 q = um_w m1 9 (c.1.1) (nI x) q := fun q hq => q2.1.1 q (fun h => h) (by omega)
        have hm1 : ∀ q, 8 ≤ q ∧ q ≤ 12 → m1 q = m q := fun q hq => g2.1.1 q (fun h => h) (by omega)
        obtain ⟨c1, c2, c3, c4, c5⟩ := hc
        refine ⟨um_w_s _ _ _ _, ?_, ?_, fun v hv => ?_, fun t ht => ?_⟩
        · rw [um_w_k (by omega), um_w_c (by omega), hm 8 (by omega), um_w_c (by omega), hm1 8 (by omega)]
          exact c2
        · rw [um_w_k (by omega), um_w_c (by omega), hm 8 (by omega), um_w_c (by omega), hm1 8 (by omega)]
          exact c3
        · have hv' : v < c.1.1 + 1 := hv
          rw [um_w_c (by omega), um_w_c (by omega), um_w_c (by omega), hm 9 (by omega), um_w_def, um_w_def, um_wa_s, um_wa_s, hm 10 (by omega), um_w_c (by omega), hm1 9 (by omega), hm1 10 (by omega)]
          show upd (m 9) c.1.1 (nI x) v = upd c.2.1.1 c.1.1 (nI x) v ∧ upd (m 10) c.1.1 (nI y) v = upd c.2.1.2 c.1.1 (nI y) v
          by_cases hq : v = c.1.1
          · rw [hq, upd_s, upd_s, upd_s, upd_s]
            exact ⟨rfl, rfl⟩
          · rw [upd_n hq, upd_n hq, upd_n hq, upd_n hq]
            exact c4 v (by omega)
        · rw [um_w_c (by omega), um_w_c (by omega), um_w_c (by omega), um_w_c (by omega), hm 11 (by omega), hm 12 (by omega), um_w_c (by omega), um_w_c (by omega), hm1 11 (by omega), hm1 12 (by omega)]
          exact c5 t ht
theorem e_readTenant {m : Um} {p : Nat} {c : Cs} (hA : tA b N m) (hpN : p ≤ N) (hp : m 1 3 = nI p) (hc : cr m c) (h8 : c.1.2.1 < 5) : (∀ e, pTwo b N 100 100 p = .inl e → ∃ m', f_X1_readTenant m = some (m', 0) ∧ tf Cc m m' e) ∧ ∀ t, pTwo b N 100 100 p = .inr t → ∃ m', f_X1_readTenant m = some (m', 1) ∧ tk Cc m m' t.2 ∧ cr m' (cAddT c t.1.1 t.1.2) := by
  unfold pTwo f_X1_readTenant
  cases h1 : pNum b N 0 100 p with
  | inl e1 =>
    obtain ⟨m', g1, g2⟩ := e_num_f hA hpN hp (lo := 0) (hi := 100) (x := 0) (y := 99) rfl rfl (by omega) (by omega) h1
    rw [pb_l, g1, ubi_mk, if_pos rfl]
    refine ⟨fun e he => ?_, fun t he => by cases he⟩
    cases he
    exact ⟨m', rfl, tf_0 g2⟩
  | inr x =>
    obtain ⟨x, p1⟩ := x
    have hp1 := pNum_pos hpN h1
    obtain ⟨m1, g1, g2, g3, g4⟩ := e_num_t hA hpN hp (lo := 0) (hi := 100) (x := 0) (y := 99) rfl rfl (by omega) (by omega) h1
    have h80 : m1 8 1 = nI (c.1.2.1) := by rw [g2.1.1 8 (fun h => h) (by omega)]; exact hc.2.1
    have k1 : tk Cc m (um_w m1 11 (c.1.2.1) (nI x)) p1 := tk_w (tk_z g2) (show 8 ≤ 11 ∧ 11 ≤ 12 by omega) (by omega) _ _
    have hA1 := tA_g (C := Cc) (show ¬ (8 ≤ 2 ∧ 2 ≤ 12) by omega) hA k1.1
    rw [pb_r, g1, ubi_mk, if_neg i1_0, h80, uin_n h8 (by omega), ugd_t, nI_clamp (by omega), g3]
    cases h2 : pNum b N 0 100 p1 with
    | inl e2 =>
      obtain ⟨m', q1, q2⟩ := e_num_f hA1 hp1.2.1 k1.2.1 (lo := 0) (hi := 100) (x := 0) (y := 99) rfl rfl (by omega) (by omega) h2
      rw [pb_l, q1, ubi_mk, if_pos rfl]
      refine ⟨fun e he => ?_, fun t he => by cases he⟩
      cases he
      exact ⟨m', rfl, tf_tr k1 (tf_0 q2)⟩
    | inr y =>
      obtain ⟨y, p2⟩ := y
      have hp2 := pNum_pos hp1.2.1 h2
      obtain ⟨m2, q1, q2, q3, q4⟩ := e_num_t hA1 hp1.2.1 k1.2.1 (lo := 0) (hi := 100) (x := 0) (y := 99) rfl rfl (by omega) (by omega) h2
      have h82 : m2 8 1 = nI (c.1.2.1) := by rw [q2.1.1 8 (fun h => h) (by omega), um_w_c (by omega)]; exact h80
      have k2 : tk Cc m (um_w (um_w m2 12 (c.1.2.1) (nI y)) 8 1 (nI (c.1.2.1 + 1))) p2 := tk_w (tk_w (tk_tr k1 (tk_z q2)) (show 8 ≤ 12 ∧ 12 ≤ 12 by omega) (by omega) _ _) (show 8 ≤ 8 ∧ 8 ≤ 12 by omega) (by omega) _ _
      have hA2 := tA_g (C := Cc) (show ¬ (8 ≤ 2 ∧ 2 ≤ 12) by omega) hA k2.1
      rw [pb_r, q1, ubi_mk, if_neg i1_0, h82, uin_n h8 (by omega), ugd_t, nI_clamp (by omega), q3, um_w_c (show 8 ≠ 12 by omega), h82, nI_1]
      cases h3 : pSign b N 59 p2 with
      | inl e3 =>
        obtain ⟨m', r1, r2⟩ := e_sign_f hA2 hp2.2.1 k2.2.1 (c := 59) (x := 59) rfl (by omega) h3
        rw [pb_l, r1, ubi_mk, ub01_0, ugd_t]
        refine ⟨fun e he => ?_, fun t he => by cases he⟩
        cases he
        exact ⟨m', rfl, tf_tr k2 (tf_0 r2)⟩
      | inr p3 =>
        obtain ⟨m', r1, r2⟩ := e_sign_t hA2 hp2.2.1 k2.2.1 (c := 59) (x := 59) rfl (by omega) h3
        rw [pb_r, r1, ubi_mk, ub01_1, ugd_t]
        refine ⟨fun e he => (by cases he), fun t he => ?_⟩
        cases he
        refine ⟨m', rfl, tk_tr k2 (tk_z r2), cr_g (m := um_w (um_w m2 12 (c.1.2.1) (nI y)) 8 1 (nI (c.1.2.1 + 1))) ?_ (fun q hq => r2.1.1 q (fun h => h) (by omega))⟩
        have hm : ∀ q, 8 ≤ q ∧ q ≤ 12 → m2 q = um_w m1 11 (c.1.2.1) (nI x) q := fun q hq => q2.1.1 q (fun h => h) (by omega)
        have hm1 : ∀ q, 8 ≤ q ∧ q ≤ 12 → m1 q = m q := fun q hq => g2.1.1 q (fun h => h) (by omega)
        obtain ⟨c1, c2, c3, c4, c5⟩ := hc
        refine ⟨?_, um_w_s _ _ _ _, ?_, fun v hv => ?_, fun t ht => ?_⟩
        · rw [um_w_k (by omega), um_w_c (by omega), hm 8 (by omega), um_w_c (by omega), hm1 8 (by omega)]
          exact c1
        · rw [um_w_k (by omega), um_w_c (by omega), hm 8 (by omega), um_w_c (by omega), hm1 8 (by omega)]
          exact c3
        · rw [um_w_c (by omega), um_w_c (by omega), um_w_c (by omega), um_w_c (by omega), hm 9 (by omega), hm 10 (by omega), um_w_c (by omega), um_w_c (by omega), hm1 9 (by omega), hm1 10 (by omega)]
          exact c4 v hv
        · have ht' : t < c.1.2.1 + 1 := ht
          rw [um_w_c (by omega), um_w_c (by omega), um_w_c (by omega), hm 11 (by omega), um_w_def, um_w_def, um_wa_s, um_wa_s, hm 12 (by omega), um_w_c (by omega), hm1 11 (by omega), hm1 12 (by omega)]
          show upd (m 11) c.1.2.1 (nI x) t = upd c.2.2.1 c.1.2.1 (nI x) t ∧ upd (m 12) c.1.2.1 (nI y) t = upd c.2.2.2 c.1.2.1 (nI y) t
          by_cases hq : t = c.1.2.1
          · rw [hq, upd_s, upd_s, upd_s, upd_s]
            exact ⟨rfl, rfl⟩
          · rw [upd_n hq, upd_n hq, upd_n hq, upd_n hq]
            exact c5 t (by omega)
theorem e_readSoap {m : Um} {p : Nat} {c : Cs} (hA : tA b N m) (hpN : p ≤ N) (hp : m 1 3 = nI p) (hc : cr m c) : (∀ e, pOne b N p = .inl e → ∃ m', f_X1_readSoap m = some (m', 0) ∧ tf Cc m m' e) ∧ ∀ t, pOne b N p = .inr t → ∃ m', f_X1_readSoap m = some (m', 1) ∧ tk Cc m m' t.2 ∧ cr m' (cAddZ c t.1) := by
  unfold pOne f_X1_readSoap
  cases h1 : pNum b N 1 21 p with
  | inl e1 =>
    obtain ⟨m', g1, g2⟩ := e_num_f hA hpN hp (lo := 1) (hi := 21) (x := 1) (y := 20) rfl rfl (by omega) (by omega) h1
    rw [pb_l, g1, ubi_mk, if_pos rfl]
    refine ⟨fun e he => ?_, fun t he => by cases he⟩
    cases he
    exact ⟨m', rfl, tf_0 g2⟩
  | inr x =>
    obtain ⟨x, p1⟩ := x
    have hp1 := pNum_pos hpN h1
    obtain ⟨m1, g1, g2, g3, g4⟩ := e_num_t hA hpN hp (lo := 1) (hi := 21) (x := 1) (y := 20) rfl rfl (by omega) (by omega) h1
    have k1 : tk Cc m (um_w m1 8 2 (nI x)) p1 := tk_w (tk_z g2) (show 8 ≤ 8 ∧ 8 ≤ 12 by omega) (by omega) _ _
    have hA1 := tA_g (C := Cc) (show ¬ (8 ≤ 2 ∧ 2 ≤ 12) by omega) hA k1.1
    rw [pb_r, g1, ubi_mk, if_neg i1_0, g3]
    cases h3 : pSign b N 59 p1 with
    | inl e3 =>
      obtain ⟨m', r1, r2⟩ := e_sign_f hA1 hp1.2.1 k1.2.1 (c := 59) (x := 59) rfl (by omega) h3
      rw [pb_l, r1, ubi_mk, ub01_0, ugd_t]
      refine ⟨fun e he => ?_, fun t he => by cases he⟩
      cases he
      exact ⟨m', rfl, tf_tr k1 (tf_0 r2)⟩
    | inr p3 =>
      obtain ⟨m', r1, r2⟩ := e_sign_t hA1 hp1.2.1 k1.2.1 (c := 59) (x := 59) rfl (by omega) h3
      rw [pb_r, r1, ubi_mk, ub01_1, ugd_t]
      refine ⟨fun e he => (by cases he), fun t he => ?_⟩
      cases he
      refine ⟨m', rfl, tk_tr k1 (tk_z r2), cr_g (m := um_w m1 8 2 (nI x)) ?_ (fun q hq => r2.1.1 q (fun h => h) (by omega))⟩
      have hm1 : ∀ q, 8 ≤ q ∧ q ≤ 12 → m1 q = m q := fun q hq => g2.1.1 q (fun h => h) (by omega)
      obtain ⟨c1, c2, c3, c4, c5⟩ := hc
      refine ⟨?_, ?_, um_w_s _ _ _ _, fun v hv => ?_, fun t ht => ?_⟩
      · rw [um_w_k (by omega), hm1 8 (by omega)]
        exact c1
      · rw [um_w_k (by omega), hm1 8 (by omega)]
        exact c2
      · rw [um_w_c (by omega), um_w_c (by omega), hm1 9 (by omega), hm1 10 (by omega)]
        exact c4 v hv
      · rw [um_w_c (by omega), um_w_c (by omega), hm1 11 (by omega), hm1 12 (by omega)]
        exact c5 t ht
theorem e_clause {m : Um} {p k : Nat} {c : Cs} (hk : k ≤ 60) (hA : tA b N m) (hpN : p ≤ N) (hp : m 1 3 = nI p) (hc : cr m c) (ho : okK c) : (∀ e, pCl b N k p c = .inl e → ∃ m', f_X1_readClause m (bi (decide (k = 60))) = some (m', 0) ∧ tf Cc m m' e) ∧ ∀ p' c', pCl b N k p c = .inr (p', c') → ∃ m', f_X1_readClause m (bi (decide (k = 60))) = some (m', 1) ∧ tk Cc m m' p' ∧ cr m' c' ∧ okK c' ∧ p' ≤ N := by
  obtain ⟨m1, g1, g2, g3⟩ := e_word hA hpN hp
  have hN := hA.1
  have hs := sk_le (b := b) hpN
  have hw := wE_le (b := b) hs
  have hge := wE_ge b N (sk b N p)
  have hA1 := tA_g (fun h => h) hA g2.1
  have hc1 : cr m1 c := cr_g hc (fun q hq => g2.1.1 q (fun h => h) (by omega))
  have wi : ∀ i, i < 18 → f_X5_wordIs i m1 = some (m1, bi (wIs b (sk b N p) (wE b N (sk b N p)) i)) := fun i hi => e_wIs hi hA1 hw hge g2.2.1 g3
  obtain ⟨mf, z1, z2⟩ := e_failW (q := sk b N p) g3 (k := 3) (x := 3) rfl
  obtain ⟨mg, y1, y2⟩ := e_failW (q := sk b N p) g3 (k := 1) (x := 1) rfl
  unfold pCl f_X1_readClause
  rw [g1, ubi_mk, wi 0 (by omega), ubi_mk, ite_bi0]
  by_cases w0 : wIs b (sk b N p) (wE b N (sk b N p)) 0 = true
  · rw [if_pos w0, if_pos w0, ite_bi0, hc1.1, ite_p (show (nI c.1.1 < 8) = (c.1.1 < 8) from lt_lit (k := 8) (by decide) (by have := ho.1; omega))]
    unfold f_X1_readClause_b26 f_X1_readClause_b39
    rw [z1, ubi_mk, ub01_0, ugd_t]
    by_cases hb : k = 60 ∨ c.1.1 = 8
    · rw [if_pos hb]
      refine ⟨fun e he => ?_, fun p' c' he => by cases he⟩
      cases he
      refine ⟨mf, ?_, tf_tr (tk_z g2) (tf_0 z2)⟩
      by_cases h60 : k = 60
      · rw [if_pos (decide_eq_true h60)]
      · rw [if_neg (fun q => h60 (of_decide_eq_true q)), if_neg (by omega)]
    · have h8 : c.1.1 < 8 := by have := ho.1; omega
      rw [if_neg hb, if_neg (fun q => hb (Or.inl (of_decide_eq_true q))), if_pos h8]
      have hv := e_readView hA1 hw g2.2.1 hc1 h8
      cases h1 : pTwo b N 100 61 (wE b N (sk b N p)) with
      | inl e1 =>
        obtain ⟨m', q1, q2⟩ := hv.1 e1 h1
        rw [pb_l, q1, ubi_mk, ub01_0, ugd_t]
        refine ⟨fun e he => ?_, fun p' c' he => by cases he⟩
        cases he
        exact ⟨m', rfl, tf_tr (tk_z g2) q2⟩
      | inr t =>
        obtain ⟨m', q1, q2, q3⟩ := hv.2 t h1
        have hp2 := pTwo_pos hw h1
        rw [pb_r, q1, ubi_mk, ub01_1, ugd_t]
        refine ⟨fun e he => (by cases he), fun p' c' he => ?_⟩
        cases he
        exact ⟨m', rfl, tk_tr (tk_z g2) q2, q3, ok_addV ho h8 hp2.1 hp2.2.1, hp2.2.2.2⟩
  · rw [if_neg w0, if_neg w0, wi 1 (by omega), ubi_mk, ite_bi0]
    by_cases w1 : wIs b (sk b N p) (wE b N (sk b N p)) 1 = true
    · rw [if_pos w1, if_pos w1, ite_bi0, hc1.2.1, ite_p (show (nI c.1.2.1 < 5) = (c.1.2.1 < 5) from lt_lit (k := 5) (by decide) (by have := ho.2.1; omega))]
      unfold f_X1_readClause_b61 f_X1_readClause_b74
      rw [z1, ubi_mk, ub01_0, ugd_t]
      by_cases hb : k = 60 ∨ c.1.2.1 = 5
      · rw [if_pos hb]
        refine ⟨fun e he => ?_, fun p' c' he => by cases he⟩
        cases he
        refine ⟨mf, ?_, tf_tr (tk_z g2) (tf_0 z2)⟩
        by_cases h60 : k = 60
        · rw [if_pos (decide_eq_true h60)]
        · rw [if_neg (fun q => h60 (of_decide_eq_true q)), if_neg (by omega)]
      · have h8 : c.1.2.1 < 5 := by have := ho.2.1; omega
        rw [if_neg hb, if_neg (fun q => hb (Or.inl (of_decide_eq_true q))), if_pos h8]
        have hv := e_readTenant hA1 hw g2.2.1 hc1 h8
        cases h1 : pTwo b N 100 100 (wE b N (sk b N p)) with
        | inl e1 =>
          obtain ⟨m', q1, q2⟩ := hv.1 e1 h1
          rw [pb_l, q1, ubi_mk, ub01_0, ugd_t]
          refine ⟨fun e he => ?_, fun p' c' he => by cases he⟩
          cases he
          exact ⟨m', rfl, tf_tr (tk_z g2) q2⟩
        | inr t =>
          obtain ⟨m', q1, q2, q3⟩ := hv.2 t h1
          have hp2 := pTwo_pos hw h1
          rw [pb_r, q1, ubi_mk, ub01_1, ugd_t]
          refine ⟨fun e he => (by cases he), fun p' c' he => ?_⟩
          cases he
          exact ⟨m', rfl, tk_tr (tk_z g2) q2, q3, ok_addT ho h8 hp2.2.1, hp2.2.2.2⟩
    · rw [if_neg w1, if_neg w1, wi 2 (by omega), ubi_mk, ite_bi0]
      by_cases w2 : wIs b (sk b N p) (wE b N (sk b N p)) 2 = true
      · rw [if_pos w2, if_pos w2, ite_bi0]
        unfold f_X1_readClause_b101
        rw [z1, ubi_mk, ub01_0, ugd_t]
        by_cases hb : k = 60
        · rw [if_pos hb, if_pos (decide_eq_true hb)]
          refine ⟨fun e he => ?_, fun p' c' he => by cases he⟩
          cases he
          exact ⟨mf, rfl, tf_tr (tk_z g2) (tf_0 z2)⟩
        · rw [if_neg hb, if_neg (fun q => hb (of_decide_eq_true q))]
          have hv := e_readSoap hA1 hw g2.2.1 hc1
          cases h1 : pOne b N (wE b N (sk b N p)) with
          | inl e1 =>
            obtain ⟨m', q1, q2⟩ := hv.1 e1 h1
            rw [pb_l, q1, ubi_mk, ub01_0, ugd_t]
            refine ⟨fun e he => ?_, fun p' c' he => by cases he⟩
            cases he
            exact ⟨m', rfl, tf_tr (tk_z g2) q2⟩
          | inr t =>
            obtain ⟨m', q1, q2, q3⟩ := hv.2 t h1
            have hp2 := pOne_pos hw h1
            rw [pb_r, q1, ubi_mk, ub01_1, ugd_t]
            refine ⟨fun e he => (by cases he), fun p' c' he => ?_⟩
            cases he
            exact ⟨m', rfl, tk_tr (tk_z g2) q2, q3, ho, hp2.2⟩
      · rw [if_neg w2, if_neg w2, y1, ubi_mk, ub01_0, ugd_t]
        refine ⟨fun e he => ?_, fun p' c' he => by cases he⟩
        cases he
        exact ⟨mg, rfl, tf_tr (tk_z g2) (tf_0 y2)⟩
theorem pCl_60 {p : Nat} {c : Cs} {t : Nat × Cs} : ¬ pCl b N 60 p c = .inr t := by
  unfold pCl
  intro h
  by_cases w0 : wIs b (sk b N p) (wE b N (sk b N p)) 0 = true
  · rw [if_pos w0, if_pos (Or.inl rfl)] at h
    cases h
  · rw [if_neg w0] at h
    by_cases w1 : wIs b (sk b N p) (wE b N (sk b N p)) 1 = true
    · rw [if_pos w1, if_pos (Or.inl rfl)] at h
      cases h
    · rw [if_neg w1] at h
      by_cases w2 : wIs b (sk b N p) (wE b N (sk b N p)) 2 = true
      · rw [if_pos w2, if_pos rfl] at h
        cases h
      · rw [if_neg w2] at h
        cases h
theorem e_coL {m0 : Um} : ∀ (f fuel k p : Nat) (m : Um) (c : Cs), k + f = 61 → f < fuel → (f = 0 → False) → tA b N m → p ≤ N → tk Cc m0 m p → cr m c → okK c → (∀ e, pCo b N f k p c = .inl e → ∃ m', f_X1_read_b18 fuel m (nI k) = some (m', 0) ∧ tf Cc m0 m' e) ∧ ∀ c', pCo b N f k p c = .inr c' → ∃ m' p', f_X1_read_b18 fuel m (nI k) = some (m', 1) ∧ tk Cc m0 m' p' ∧ cr m' c' ∧ okK c'
  | f, 0, k, p, m, c, _, hf, _, _, _, _, _, _ => absurd hf (Nat.not_lt_zero _)
  | 0, fuel + 1, k, p, m, c, hk, hf, h0f, hA, hpN, h0, hc, ho => (h0f rfl).elim
  | f + 1, fuel + 1, k, p, m, c, hk, hf, _, hA, hpN, h0, hc, ho => by
    have hs := sk_le (b := b) hpN
    have hA' := tA_3 hA (sk b N p)
    have h0' : tk Cc m0 (um_w m 1 3 (nI (sk b N p))) (sk b N p) := tk_tr h0 (tk_z (w3_k _))
    have hc' : cr (um_w m 1 3 (nI (sk b N p))) c := cr_g hc (fun q hq => um_w_c (by omega))
    rw [pCo, f_X1_read_b18, if_neg (show ¬ 60 < nI k from lit_nlt (k := 60) (by show k ≤ 60; omega) (by decide)), e_more hA hpN h0.2.1, ubi_mk, ite_bi0]
    by_cases h : sk b N p < N
    · rw [if_pos h, if_pos (decide_eq_true h)]
      have hl := e_clause (k := k) (by omega) hA' hs (um_w_s _ _ _ _) hc' ho
      have hb : (if nI k = 60 then f_X1_read_b44 (f_X1_read_b18 fuel) (um_w m 1 3 (nI (sk b N p))) (nI k) 1 else f_X1_read_b44 (f_X1_read_b18 fuel) (um_w m 1 3 (nI (sk b N p))) (nI k) 0) = f_X1_read_b44 (f_X1_read_b18 fuel) (um_w m 1 3 (nI (sk b N p))) (nI k) (bi (decide (k = 60))) := by
        rw [ite_p (show (nI k = 60) = (k = 60) from nI_eq' (b := 60) (by omega) (by omega))]
        by_cases h60 : k = 60
        · rw [if_pos h60]
          simp [h60, bi]
        · rw [if_neg h60]
          simp [h60, bi]
      rw [hb]
      unfold f_X1_read_b44
      cases h1 : pCl b N k (sk b N p) c with
      | inl e1 =>
        obtain ⟨m', g1, g2⟩ := hl.1 e1 h1
        rw [pb_l, g1, ubi_mk, if_pos rfl]
        refine ⟨fun e he => ?_, fun c' he => by cases he⟩
        cases he
        exact ⟨m', rfl, tf_tr h0' g2⟩
      | inr t =>
        obtain ⟨p1, c1⟩ := t
        obtain ⟨m1, g1, g2, g3, g4, g5⟩ := hl.2 p1 c1 h1
        have h60 : k ≠ 60 := by
          intro q
          subst q
          exact pCl_60 h1
        rw [pb_r, g1, ubi_mk, if_neg i1_0, nI_1]
        exact e_coL f fuel (k + 1) p1 m1 c1 (by omega) (by omega) (by omega) (tA_g (C := Cc) (show ¬ (8 ≤ 2 ∧ 2 ≤ 12) by omega) hA' g2.1) g5 (tk_tr h0' g2) g3 g4
    · rw [if_neg h, if_neg (fun q => h (of_decide_eq_true q))]
      refine ⟨fun e he => (by cases he), fun c' he => ?_⟩
      cases he
      exact ⟨_, _, rfl, h0', hc', ho⟩
end CORNER
