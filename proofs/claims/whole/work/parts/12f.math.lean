/-! STREET -/
def sumN (n : Nat) (f : Nat → Nat) : Nat := lp (fun t a => a + f t) n 0 0
theorem sumN_succ (n : Nat) (f : Nat → Nat) : sumN (n + 1) f = sumN n f + f n := by
  unfold sumN
  rw [lp_succ, Nat.zero_add]
theorem sums_n : ∀ (n : Nat) (f : Nat → Nat) (g : Nat → Int32), (∀ t, t < n → g t = nI (f t)) → sums n g = nI (sumN n f)
  | 0, _, _, _ => rfl
  | n + 1, f, g, h => by
    rw [sums_succ, sumN_succ, sums_n n f g (fun t ht => h t (by omega)), h n (by omega), nI_add]
theorem sumN_cong : ∀ {n : Nat} {f g : Nat → Nat}, (∀ t, t < n → f t = g t) → sumN n f = sumN n g
  | 0, _, _, _ => rfl
  | n + 1, f, g, h => by
    rw [sumN_succ, sumN_succ, sumN_cong (fun t ht => h t (by omega)), h n (by omega)]
theorem sumN_add : ∀ (n : Nat) (f g : Nat → Nat), sumN n (fun t => f t + g t) = sumN n f + sumN n g
  | 0, _, _ => rfl
  | n + 1, f, g => by
    rw [sumN_succ, sumN_succ, sumN_succ, sumN_add n f g]
    omega
theorem sumN_le : ∀ (n b : Nat) (f : Nat → Nat), (∀ t, t < n → f t ≤ b) → sumN n f ≤ n * b
  | 0, _, _, _ => Nat.zero_le _
  | n + 1, b, f, h => by
    have h1 := sumN_le n b f (fun t ht => h t (by omega))
    have h2 := h n (by omega)
    rw [sumN_succ, Nat.succ_mul]
    omega
theorem sumN_mono : ∀ (n : Nat) (f g : Nat → Nat), (∀ t, t < n → f t ≤ g t) → sumN n f ≤ sumN n g
  | 0, _, _, _ => Nat.le_refl _
  | n + 1, f, g, h => by
    have h1 := sumN_mono n f g (fun t ht => h t (by omega))
    have h2 := h n (by omega)
    rw [sumN_succ, sumN_succ]
    omega
theorem sumN_lt : ∀ (n : Nat) (f g : Nat → Nat), (∀ t, t < n → f t ≤ g t) → ∀ v, v < n → f v < g v → sumN n f < sumN n g
  | 0, _, _, _, v, hv, _ => absurd hv (Nat.not_lt_zero _)
  | n + 1, f, g, h, v, hv, hl => by
    rw [sumN_succ, sumN_succ]
    by_cases e : v = n
    · subst e
      have h1 := sumN_mono v f g (fun t ht => h t (by omega))
      omega
    · have h1 := sumN_lt n f g (fun t ht => h t (by omega)) v (by omega) hl
      have h2 := h n (by omega)
      omega
def wN (V : Nat) (x w : Nat → Nat) (a b : Nat) : Nat := sumN V (fun v => if a ≤ x v ∧ x v ≤ b then w v else 0)
theorem wN_split {V : Nat} {x w : Nat → Nat} {a b c : Nat} (h1 : a ≤ b + 1) (h2 : b ≤ c) : wN V x w a c = wN V x w a b + wN V x w (b + 1) c := by
  unfold wN
  rw [← sumN_add]
  refine sumN_cong (fun v _ => ?_)
  by_cases p : a ≤ x v ∧ x v ≤ b
  · rw [if_pos p, if_pos (by omega), if_neg (by omega)]
    omega
  · rw [if_neg p]
    by_cases q : b + 1 ≤ x v ∧ x v ≤ c
    · rw [if_pos q, if_pos (by omega)]
      omega
    · rw [if_neg q, if_neg (by omega)]
theorem wN_none {V : Nat} {x w : Nat → Nat} {a b : Nat} (h : ∀ v, v < V → ¬ (a ≤ x v ∧ x v ≤ b)) : wN V x w a b = 0 := by
  unfold wN
  rw [sumN_cong (g := fun _ => 0) (fun v hv => if_neg (h v hv))]
  have := sumN_le V 0 (fun _ => 0) (fun _ _ => Nat.le_refl _)
  omega
theorem wN_le {V : Nat} {x w : Nat → Nat} (hV : V ≤ 8) (hw : ∀ v, v < V → w v ≤ 60) (a b : Nat) : wN V x w a b ≤ 480 := by
  have := sumN_le V 60 (fun v => if a ≤ x v ∧ x v ≤ b then w v else 0) (fun v hv => by
    have := hw v hv
    show (if a ≤ x v ∧ x v ≤ b then w v else 0) ≤ 60
    split <;> omega)
  unfold wN
  omega
theorem wW_n {V : Nat} {X W : Nat → Int32} {x w : Nat → Nat} (hx : ∀ v, v < V → X v = nI (x v) ∧ x v ≤ 99 ∧ W v = nI (w v)) {a b : Nat} (ha : a < 2 ^ 31) (hb : b < 2 ^ 31) : wW X W V (nI a) (nI b) = nI (wN V x w a b) := by
  unfold wW wN
  refine sums_n V _ _ (fun v hv => ?_)
  obtain ⟨h1, h2, h3⟩ := hx v hv
  rw [h1, h3, ite_p (show (nI a ≤ nI (x v) ∧ nI (x v) ≤ nI b) = (a ≤ x v ∧ x v ≤ b) by rw [nI_le' ha (by omega), nI_le' (by omega) hb])]
  split <;> rfl
/-- the most worth by k bubbles, from 100 - d on -/
def sDk (g : Nat → Nat → Nat) (r : Nat) (prev : Nat → Nat) : Nat → Nat
  | 0 => 0
  | d + 1 => max (sDk g r prev d) (g (99 - d) (99 - d + r) + prev (d - r))
def sD (g : Nat → Nat → Nat) (r : Nat) : Nat → Nat → Nat
  | 0 => fun _ => 0
  | k + 1 => sDk g r (sD g r k)
def sF (g : Nat → Nat → Nat) (r k x : Nat) : Nat := sD g r k (100 - x)
theorem sF_0 (g : Nat → Nat → Nat) (r x : Nat) : sF g r 0 x = 0 := rfl
theorem sF_hi (g : Nat → Nat → Nat) (r k : Nat) {x : Nat} (h : 100 ≤ x) : sF g r k x = 0 := by
  unfold sF
  rw [show 100 - x = 0 by omega]
  cases k <;> rfl
theorem sF_step (g : Nat → Nat → Nat) (r k : Nat) {x : Nat} (h : x ≤ 99) : sF g r (k + 1) x = max (sF g r (k + 1) (x + 1)) (g x (x + r) + sF g r k (x + r + 1)) := by
  unfold sF
  rw [show 100 - x = (99 - x) + 1 by omega]
  show max (sDk g r (sD g r k) (99 - x)) (g (99 - (99 - x)) (99 - (99 - x) + r) + sD g r k (99 - x - r)) = _
  rw [show 99 - (99 - x) = x by omega, show 100 - (x + 1) = 99 - x by omega, show 100 - (x + r + 1) = 99 - x - r by omega]
  rfl
section STREET
variable {V : Nat} {x w : Nat → Nat} {r : Nat}
theorem sF_le (hV : V ≤ 8) (hw : ∀ v, v < V → w v ≤ 60) : ∀ k y, sF (wN V x w) r k y ≤ 480 * k := by
  intro k
  induction k with
  | zero => exact fun y => Nat.le_refl _
  | succ k ih =>
    have key : ∀ d y, y + d = 100 → sF (wN V x w) r (k + 1) y ≤ 480 * (k + 1) := by
      intro d
      induction d with
      | zero =>
        intro y hy
        rw [sF_hi _ _ _ (by omega)]
        omega
      | succ d ihd =>
        intro y hy
        rw [sF_step _ _ _ (by omega)]
        have h1 := ihd (y + 1) (by omega)
        have h2 := ih (y + r + 1)
        have h3 := wN_le (x := x) hV hw y (y + r)
        omega
    intro y
    by_cases h : y ≤ 100
    · exact key (100 - y) y (by omega)
    · rw [sF_hi _ _ _ (by omega)]
      omega
theorem sF_low (hx : ∀ v, v < V → x v ≤ 99) : ∀ k y, sF (wN V x w) r k y ≤ wN V x w y y + sF (wN V x w) r k (y + 1) := by
  intro k
  induction k with
  | zero => exact fun y => Nat.zero_le _
  | succ k ih =>
    intro y
    by_cases h : y ≤ 99
    · rw [sF_step _ _ _ h]
      have e1 := wN_split (V := V) (x := x) (w := w) (a := y) (b := y) (c := y + r) (by omega) (by omega)
      have e2 := ih (y + r + 1)
      by_cases h9 : y + 1 ≤ 99
      · have e3 := sF_step (wN V x w) r k h9
        have e4 := wN_split (V := V) (x := x) (w := w) (a := y + 1) (b := y + r) (c := y + 1 + r) (by omega) (by omega)
        rw [show y + r + 1 = y + 1 + r by omega] at e2
        rw [show y + r + 1 = y + 1 + r by omega] at e4 ⊢
        omega
      · have e3 : wN V x w (y + 1) (y + r) = 0 := wN_none (fun v hv => by
          have := hx v hv
          omega)
        rw [sF_hi _ _ k (show 100 ≤ y + r + 1 by omega), e1, e3]
        omega
    · rw [sF_hi _ _ _ (by omega)]
      omega
theorem sF_skip (hx : ∀ v, v < V → x v ≤ 99) {y : Nat} (h0 : ∀ v, v < V → x v ≠ y) : ∀ k, sF (wN V x w) r k y = sF (wN V x w) r k (y + 1) := by
  have hy : wN V x w y y = 0 := wN_none (fun v hv => by
    have := h0 v hv
    omega)
  intro k
  by_cases h : y ≤ 99
  · cases k with
    | zero => rfl
    | succ k =>
      have e0 := sF_low (w := w) (r := r) hx (k + 1) y
      rw [sF_step _ _ _ h] at e0 ⊢
      omega
  · rw [sF_hi _ _ _ (by omega), sF_hi _ _ _ (by omega)]
theorem sF_skips (hx : ∀ v, v < V → x v ≤ 99) (k : Nat) : ∀ d y, (∀ v, v < V → x v < y ∨ y + d ≤ x v) → sF (wN V x w) r k y = sF (wN V x w) r k (y + d)
  | 0, y, _ => rfl
  | d + 1, y, h => by
    rw [sF_skip hx (fun v hv => by have := h v hv; omega) k, sF_skips hx k d (y + 1) (fun v hv => by have := h v hv; omega), show y + 1 + d = y + (d + 1) by omega]
end STREET
theorem e_first {m : Um} {V T : Nat} {X W : Nat → Int32} (hc : cC m V T X W) {x : Nat → Nat} (hx : ∀ v, v < V → X v = nI (x v) ∧ x v ≤ 99) {f : Nat} (hf : f < 2 ^ 31) : (f_X1_firstViewX m (nI f) = some (m, -1) ∧ ∀ v, v < V → x v < f) ∨ ∃ y, f_X1_firstViewX m (nI f) = some (m, nI y) ∧ y ≤ 99 ∧ f ≤ y ∧ (∃ v, v < V ∧ x v = y) ∧ ∀ v, v < V → x v < f ∨ y ≤ x v := by
  have hV := hc.1
  have := lp_rel (fun q (s : Int32) v => f_X1_firstViewX_b4 q m (nI f) s (nI v)) V (fun k s => (s = -1 ∧ ∀ v, v < k → x v < f) ∨ ∃ y, s = nI y ∧ y ≤ 99 ∧ f ≤ y ∧ (∃ v, v < k ∧ x v = y) ∧ ∀ v, v < k → x v < f ∨ y ≤ x v) (fun b => b.1 = m ∧ ((b.2 = -1 ∧ ∀ v, v < V → x v < f) ∨ ∃ y, b.2 = nI y ∧ y ≤ 99 ∧ f ≤ y ∧ (∃ v, v < V ∧ x v = y) ∧ ∀ v, v < V → x v < f ∨ y ≤ x v)) ?_ ?_ V 0 (-1) UF (Nat.zero_add _) (by show V < 3000; omega) (Or.inl ⟨rfl, fun v hv => absurd hv (Nat.not_lt_zero _)⟩)
  · obtain ⟨⟨m1, r⟩, e1, rfl, e2⟩ := this
    rcases e2 with ⟨e2, h⟩ | ⟨y, e2, h⟩
    · simp only at e2
      subst e2
      exact Or.inl ⟨e1, h⟩
    · simp only at e2
      subst e2
      exact Or.inr ⟨y, e1, h⟩
  · intro q s v hv hP
    obtain ⟨g1, g2⟩ := hx v hv
    have e0 : f_X1_firstViewX_b4 (q + 1) m (nI f) s (nI v) = if x v < f then f_X1_firstViewX_b4 q m (nI f) s (nI (v + 1)) else if s = -1 then f_X1_firstViewX_b4 q m (nI f) (nI (x v)) (nI (v + 1)) else if s ≤ nI (x v) then f_X1_firstViewX_b4 q m (nI f) s (nI (v + 1)) else f_X1_firstViewX_b4 q m (nI f) (nI (x v)) (nI (v + 1)) := by
      rw [f_X1_firstViewX_b4, hc.2.2.1, if_neg (nI_ge (by omega) (by omega)), uin_n (by omega) (by omega), ugd_t, nI_clamp (by omega), hc.2.2.2.2.1 v hv, g1, ite_p (nI_lt' (by omega) hf)]
      simp only [f_X1_firstViewX_b44, f_X1_firstViewX_b37, uin_n (show v < 8 by omega) (show v < 2 ^ 31 by omega), ugd_t, nI_clamp (show v < 2 ^ 31 by omega), hc.2.2.2.2.1 v hv, g1, nI_1]
    show ∃ s', f_X1_firstViewX_b4 (q + 1) m (nI f) s (nI v) = f_X1_firstViewX_b4 q m (nI f) s' (nI (v + 1)) ∧ _
    rw [e0]
    by_cases c1 : x v < f
    · rw [if_pos c1]
      refine ⟨s, rfl, ?_⟩
      rcases hP with ⟨e, h⟩ | ⟨y, e, h1, h2, ⟨u, hu, hxu⟩, h3⟩
      · exact Or.inl ⟨e, fun u hu => by
          by_cases q : u = v
          · rw [q]; exact c1
          · exact h u (by omega)⟩
      · exact Or.inr ⟨y, e, h1, h2, ⟨u, by omega, hxu⟩, fun u hu => by
          by_cases q : u = v
          · rw [q]; exact Or.inl c1
          · exact h3 u (by omega)⟩
    · rw [if_neg c1]
      rcases hP with ⟨e, h⟩ | ⟨y, e, h1, h2, ⟨u, hu, hxu⟩, h3⟩
      · rw [if_pos e]
        exact ⟨_, rfl, Or.inr ⟨x v, rfl, g2, by omega, ⟨v, by omega, rfl⟩, fun u hu => by
          by_cases q : u = v
          · rw [q]; exact Or.inr (Nat.le_refl _)
          · exact Or.inl (h u (by omega))⟩⟩
      · rw [if_neg (by rw [e, nI_ne1 (by omega)]; exact id)]
        by_cases c2 : s ≤ nI (x v)
        · rw [if_pos c2]
          rw [e, nI_le' (by omega) (by omega)] at c2
          exact ⟨s, rfl, Or.inr ⟨y, e, h1, h2, ⟨u, by omega, hxu⟩, fun u hu => by
            by_cases q : u = v
            · rw [q]; exact Or.inr c2
            · exact h3 u (by omega)⟩⟩
        · rw [if_neg c2]
          rw [e, nI_le' (by omega) (by omega)] at c2
          exact ⟨_, rfl, Or.inr ⟨x v, rfl, g2, by omega, ⟨v, by omega, rfl⟩, fun u hu => by
            by_cases q : u = v
            · rw [q]; exact Or.inr (Nat.le_refl _)
            · have := h3 u (by omega)
              omega⟩⟩
  · intro q s hP
    refine ⟨(m, s), ?_, rfl, hP⟩
    show f_X1_firstViewX_b4 (q + 1) m (nI f) s (nI V) = _
    rw [f_X1_firstViewX_b4, hc.2.2.1, if_pos (nI_le (Nat.le_refl _) (by omega))]
def cntV (V : Nat) (x : Nat → Nat) (f : Nat) : Nat := sumN V (fun v => if f ≤ x v then 1 else 0)
theorem cntV_mono {V : Nat} {x : Nat → Nat} {f g : Nat} (h : f ≤ g) : cntV V x g ≤ cntV V x f := by
  refine sumN_mono V _ _ (fun v _ => ?_)
  show (if g ≤ x v then 1 else 0) ≤ (if f ≤ x v then 1 else 0)
  split
  · rw [if_pos (by omega)]
    omega
  · omega
theorem cntV_lt {V : Nat} {x : Nat → Nat} {f y v : Nat} (h : f ≤ y) (hv : v < V) (e : x v = y) : cntV V x (y + 1) < cntV V x f := by
  refine sumN_lt V _ _ (fun v _ => ?_) v hv ?_
  · show (if y + 1 ≤ x v then 1 else 0) ≤ (if f ≤ x v then 1 else 0)
    split
    · rw [if_pos (by omega)]
      omega
    · omega
  · show (if y + 1 ≤ x v then 1 else 0) < (if f ≤ x v then 1 else 0)
    rw [if_neg (by omega), if_pos (by omega)]
    omega
theorem ummax_n {a b : Nat} (ha : a < 2 ^ 31) (hb : b < 2 ^ 31) : ummax (nI a) (nI b) = nI (max a b) := by
  unfold ummax
  rw [ite_p (nI_lt' ha hb)]
  by_cases h : a < b
  · rw [if_pos h, Nat.max_eq_right (by omega)]
  · rw [if_neg h, Nat.max_eq_left (by omega)]
theorem e_most {m : Um} {V T : Nat} {X W : Nat → Int32} (hc : cC m V T X W) {x w : Nat → Nat} (hx : ∀ v, v < V → X v = nI (x v) ∧ x v ≤ 99 ∧ W v = nI (w v)) (hw : ∀ v, v < V → w v ≤ 60) {r : Nat} (hr : r ≤ 40) : ∀ (d f k : Nat), cntV V x f < d → f ≤ 200 → k ≤ 8 → f_X1_mostWorth d m (nI f) (nI r) (nI k) = some (m, nI (sF (wN V x w) r k f))
  | 0, f, k, hd, _, _ => absurd hd (Nat.not_lt_zero _)
  | d + 1, f, k, hd, hf, hk => by
    have hx9 : ∀ v, v < V → x v ≤ 99 := fun v hv => (hx v hv).2.1
    rw [f_X1_mostWorth]
    unfold f_X1_mostWorth_e f_X1_mostWorth_b13
    cases k with
    | zero =>
      rw [if_pos (by decide), if_pos rfl]
      rfl
    | succ k =>
      rw [if_neg (nI_nle (by omega) (by omega))]
      rcases e_first hc (fun v hv => ⟨(hx v hv).1, (hx v hv).2.1⟩) (f := f) (by omega) with ⟨e1, h⟩ | ⟨y, e1, h1, h2, ⟨v, hv, hxv⟩, h3⟩
      · rw [e1, ubi_mk, if_pos rfl, sF_skips (d := 100) hx9 (k + 1) f (fun v hv => Or.inl (h v hv)), sF_hi _ _ _ (by omega)]
        rfl
      · have c1 := cntV_lt (x := x) h2 hv hxv
        have c2 := cntV_mono (V := V) (x := x) (f := y + 1) (g := y + r + 1) (by omega)
        have b1 := sF_le (x := x) (r := r) hc.1 hw (k + 1) (y + 1)
        have b2 := sF_le (x := x) (r := r) hc.1 hw k (y + r + 1)
        have b3 := wN_le (x := x) hc.1 hw y (y + r)
        have e2 := sF_skips (w := w) (r := r) hx9 (k + 1) (y - f) f (fun v hv => by have := h3 v hv; omega)
        rw [show f + (y - f) = y by omega] at e2
        rw [e1, ubi_mk, if_neg (by rw [nI_ne1 (by omega)]; exact id), nI_1, e_most hc hx hw hr d (y + 1) (k + 1) (by omega) (by omega) hk, ubi_mk, nI_add, e_within hc, ubi_mk, wW_n hx (by omega) (by omega), nI_1, nI_pred, e_most hc hx hw hr d (y + r + 1) k (by omega) (by omega) (by omega), ubi_mk, nI_add, ummax_n (by omega) (by omega), e2, sF_step _ _ _ h1]
/-! the reference's table -/
theorem r_str0 (M : Um) (a b : Int32) : ∃ S, f_X8_street_b43 UF M a b 0 = f_X8_street_b65 UF (um_wa M 58 S) a b 1 ∧ ∀ j, j < 1278 → S j = 0 := by
  have key : ∀ (k t fuel : Nat) (S : Nat → Int32), t + k = 1278 → k < fuel → (∀ j, j < t → S j = 0) → ∃ S', f_X8_street_b43 fuel (um_wa M 58 S) a b (nI t) = f_X8_street_b65 UF (um_wa M 58 S') a b 1 ∧ ∀ j, j < 1278 → S' j = 0 := by
    intro k
    induction k with
    | zero =>
      intro t fuel S ht hf hS
      have : t = 1278 := by omega
      subst this
      match fuel, hf with
      | fuel + 1, _ =>
        refine ⟨S, ?_, hS⟩
        rw [f_X8_street_b43, if_pos (by decide)]
    | succ k ih =>
      intro t fuel S ht hf hS
      match fuel, hf with
      | fuel + 1, hf =>
        obtain ⟨S', e1, e2⟩ := ih (t + 1) fuel (upd S t 0) (by omega) (by omega) (fun j hj => by
          unfold upd
          by_cases q : j = t
          · rw [if_pos q]
          · rw [if_neg q]
            exact hS j (by omega))
        refine ⟨S', ?_, e2⟩
        rw [← e1, f_X8_street_b43, if_neg (nle_lit (k := 1278) (show t < 1278 by omega) (by decide)), uin_n (by omega) (by omega), ugd_t, nI_clamp (by omega), um_w_def, um_wa_s, um_wa_wa, nI_1]
  have := key 1278 0 UF (M 58) rfl (by decide) (fun j hj => absurd hj (Nat.not_lt_zero _))
  rw [um_wa_id] at this
  exact this
theorem r_strX {M : Um} {V T : Nat} {X W : Nat → Int32} (hc : rC M V T X W) {x w : Nat → Nat} (hx : ∀ v, v < V → X v = nI (x v) ∧ x v ≤ 99 ∧ W v = nI (w v)) (hw : ∀ v, v < V → w v ≤ 60) {n k : Nat} (hn : 1 ≤ n ∧ n ≤ 20) (hk : k < 8) (b : Int32) {k65 : Um → Int32 → Int32 → Int32 → Option (Um × Int32)} : ∀ (d fuel : Nat) (S : Nat → Int32), d < fuel → d ≤ 100 → (∀ j, j ≤ k → ∀ y, y < 142 → S (142 * j + y) = nI (sF (wN V x w) (2 * n) j y)) → (∀ y, d ≤ y → y < 142 → S (142 * (k + 1) + y) = nI (sF (wN V x w) (2 * n) (k + 1) y)) → (∀ j, k + 1 < j → j ≤ 8 → ∀ y, y < 142 → S (142 * j + y) = 0) → ∃ S', f_X8_street_b74 k65 fuel (um_wa M 58 S) (nI n) b (nI (k + 1)) (if d = 0 then -1 else nI (d - 1)) = k65 (um_wa M 58 S') (nI n) b (nI (k + 2)) ∧ (∀ j, j ≤ k + 1 → ∀ y, y < 142 → S' (142 * j + y) = nI (sF (wN V x w) (2 * n) j y)) ∧ ∀ j, k + 1 < j → j ≤ 8 → ∀ y, y < 142 → S' (142 * j + y) = 0
  | d, 0, S, hf, _, _, _, _ => absurd hf (Nat.not_lt_zero _)
  | 0, fuel + 1, S, _, _, h1, h2, h3 => by
    refine ⟨S, ?_, fun j hj y hy => ?_, h3⟩
    · rw [if_pos rfl, f_X8_street_b74, if_pos (by decide), nI_1]
    · by_cases q : j = k + 1
      · rw [q]
        exact h2 y (Nat.zero_le _) hy
      · exact h1 j (by omega) y hy
  | d + 1, fuel + 1, S, hf, hd, h1, h2, h3 => by
    have b1 := sF_le (x := x) (r := 2 * n) hc.1 hw (k + 1) (d + 1)
    have b2 := sF_le (x := x) (r := 2 * n) hc.1 hw k (d + 2 * n + 1)
    have b3 := wN_le (x := x) hc.1 hw d (d + 2 * n)
    obtain ⟨S', e1, g1, g2⟩ := r_strX hc hx hw hn hk b (k65 := k65) d fuel (upd S (142 * (k + 1) + d) (nI (sF (wN V x w) (2 * n) (k + 1) d))) (by omega) (by omega) (fun j hj y hy => by
        rw [upd_n (by omega)]
        exact h1 j hj y hy) (fun y hy hy2 => by
        unfold upd
        by_cases q : y = d
        · rw [if_pos (by omega), q]
        · rw [if_neg (by omega)]
          exact h2 y (by omega) hy2) (fun j hj hj2 y hy => by
        rw [upd_n (by omega)]
        exact h3 j hj hj2 y hy)
    refine ⟨S', ?_, g1, g2⟩
    rw [← e1, if_neg (by omega), show d + 1 - 1 = d by omega, f_X8_street_b74, if_neg (nI_pos (by omega)), lit_mul, lit_mul, nI_add, nI_add, nI_1, uin_n (by omega) (by omega), ugd_t, nI_clamp (by omega), um_wa_s]
    rw [r_from (rC_of hc (um_wa_n (by omega)) (um_wa_n (by omega))), ubi_mk, wW_n hx (by omega) (by omega), nI_pred, lit_mul, nI_add, nI_add, nI_1, uin_n (by omega) (by omega), ugd_t, nI_clamp (by omega), um_wa_s]
    have e3 : S (142 * (k + 1) + d + 1) = nI (sF (wN V x w) (2 * n) (k + 1) (d + 1)) := h2 (d + 1) (by omega) (by omega)
    have e4 : S (142 * k + d + 2 * n + 1) = nI (sF (wN V x w) (2 * n) k (d + 2 * n + 1)) := by
      rw [show 142 * k + d + 2 * n + 1 = 142 * k + (d + 2 * n + 1) by omega]
      exact h1 k (Nat.le_refl _) _ (by omega)
    rw [e3, e4, nI_add, ite_p (nI_le' (by omega) (by omega)), sF_step _ _ _ (show d ≤ 99 by omega)]
    simp only [f_X8_street_b158, uin_n (show 142 * (k + 1) + d < 1278 by omega) (show 142 * (k + 1) + d < 2 ^ 31 by omega), ugd_t, nI_clamp (show 142 * (k + 1) + d < 2 ^ 31 by omega), um_w_def, um_wa_s, um_wa_wa]
    have e5 : nI d + (-1) = if d = 0 then -1 else nI (d - 1) := by
      by_cases q : d = 0
      · rw [if_pos q, q]
        decide
      · rw [if_neg q, nI_dec1 (by omega)]
    rw [e5]
    by_cases q : wN V x w d (d + 2 * n) + sF (wN V x w) (2 * n) k (d + 2 * n + 1) ≤ sF (wN V x w) (2 * n) (k + 1) (d + 1)
    · rw [if_pos q, Nat.max_eq_left q]
    · rw [if_neg q, Nat.max_eq_right (by omega)]
theorem r_strK {M : Um} {V T : Nat} {X W : Nat → Int32} (hc : rC M V T X W) {x w : Nat → Nat} (hx : ∀ v, v < V → X v = nI (x v) ∧ x v ≤ 99 ∧ W v = nI (w v)) (hw : ∀ v, v < V → w v ≤ 60) {n N : Nat} (hn : 1 ≤ n ∧ n ≤ 20) (hN : N ≤ 8) : ∀ (d k fuel : Nat) (S : Nat → Int32), k + d = N → d < fuel → (∀ j, j ≤ k → ∀ y, y < 142 → S (142 * j + y) = nI (sF (wN V x w) (2 * n) j y)) → (∀ j, k < j → j ≤ 8 → ∀ y, y < 142 → S (142 * j + y) = 0) → ∃ S', f_X8_street_b65 fuel (um_wa M 58 S) (nI n) (nI N) (nI (k + 1)) = some (um_wa M 58 S', nI (sF (wN V x w) (2 * n) N 0))
  | d, k, 0, S, _, hf, _, _ => absurd hf (Nat.not_lt_zero _)
  | 0, k, fuel + 1, S, hk, _, h1, h2 => by
    have : k = N := by omega
    subst this
    refine ⟨S, ?_⟩
    rw [f_X8_street_b65, if_pos (nI_lt (by omega) (by omega)), lit_mul, uin_n (by omega) (by omega), ugd_t, nI_clamp (by omega), um_wa_s, show S (142 * k) = _ from h1 k (Nat.le_refl _) 0 (by omega)]
  | d + 1, k, fuel + 1, S, hk, hf, h1, h2 => by
    obtain ⟨S', e1, g1, g2⟩ := r_strX hc hx hw hn (show k < 8 by omega) (nI N) (k65 := f_X8_street_b65 fuel) 100 UF S (by decide) (Nat.le_refl _) h1 (fun y hy hy2 => by
      rw [sF_hi _ _ _ hy]
      exact h2 (k + 1) (by omega) (by omega) y hy2) (fun j hj hj2 y hy => h2 j (by omega) hj2 y hy)
    obtain ⟨S2, e2⟩ := r_strK hc hx hw hn hN d (k + 1) fuel S' (by omega) (by omega) g1 g2
    refine ⟨S2, ?_⟩
    rw [← e2, f_X8_street_b65, if_neg (nI_nlt (by omega) (by omega))]
    exact e1
theorem op_street : uop_street uI := by
  intro m a1 a2 ⟨s, hc, hr, hv⟩
  have hT5 := vI_T hc
  have hV8 := vI_V hc
  by_cases h1 : 1 ≤ a1 ∧ a1 ≤ 20
  · skip
    by_cases h2 : 0 ≤ a2 ∧ a2 ≤ 8
    · skip
      refine Or.inl (wrapI (fr := fun M => f_X8_street M a1 a2) hc hr hv ?_)
      obtain ⟨n, hn, rfl⟩ := lit_cases 20 (by omega) ⟨Int32.le_trans (by decide) h1.1, h1.2⟩
      obtain ⟨N, hN, rfl⟩ := lit_cases 8 (by omega) h2
      have hn1 : 1 ≤ n := by
        have := h1.1
        rw [show (1 : Int32) = nI 1 from rfl, nI_le' (by omega) (by omega)] at this
        exact this
      have hx : ∀ v, v < qV s → qX s v = nI ((qX s v).toInt.toNat) ∧ (qX s v).toInt.toNat ≤ 99 ∧ qW s v = nI ((qW s v).toInt.toNat) := fun v h => by
        have := hv.1 v h
        exact ⟨of_toInt (by omega), by omega, of_toInt (by omega)⟩
      have hw : ∀ v, v < qV s → (qW s v).toInt.toNat ≤ 60 := fun v h => by
        have := hv.1 v h
        omega
      refine ⟨nI (sF (wN (qV s) (fun v => (qX s v).toInt.toNat) (fun v => (qW s v).toInt.toNat)) (2 * n) N 0), m, ?_, cK_rf hc, fun M hM => ?_⟩
      · have e9 := e_most hc.1.1 (x := fun v => (qX s v).toInt.toNat) (w := fun v => (qW s v).toInt.toNat) hx hw (r := 2 * n) (by omega) UD 0 N (by
          have := sumN_le (qV s) 1 (fun v => if 0 ≤ (fun v => (qX s v).toInt.toNat) v then 1 else 0) (fun v _ => by
            show (if 0 ≤ (fun v => (qX s v).toInt.toNat) v then 1 else 0) ≤ 1
            split <;> omega)
          unfold cntV
          show _ < 16
          omega) (by omega) hN
        simp (decide := true) (disch := omega) only [f_X7_street, e_need_t h1, e_need_t h2, ubx_l, ubi_mk, if_true, if_false, ugd_t, lit_mul]
        rw [show f_X1_mostWorth UD m 0 (nI (2 * n)) (nI N) = _ from e9, ubi_mk]
      · have hM0 := rI_K hM (z0_K M)
        obtain ⟨S, e1, g1⟩ := r_str0 (z0 M) (nI n) (nI N)
        obtain ⟨S2, e2⟩ := r_strK hM0.1.1 (x := fun v => (qX s v).toInt.toNat) (w := fun v => (qW s v).toInt.toNat) hx hw ⟨hn1, hn⟩ hN N 0 UF S (Nat.zero_add _) (by show N < 3000; omega) (fun j hj y hy => by
          have : j = 0 := by omega
          subst this
          rw [g1 _ (by omega)]
          rfl) (fun j hj hj2 y hy => g1 _ (by omega))
        refine ⟨um_wa (z0 M) 58 S2, ?_, rK_tr (z0_K M) ⟨fun c _ _ _ _ h _ _ _ => um_wa_n h, fun k _ _ => by rw [um_wa_n (by omega)]⟩, by rw [um_wa_n (by omega)]; exact z0_0 M⟩
        show ubi (f_X8_within (z0 M) (nI n) 1 20) _ = _
        simp (decide := true) (disch := omega) only [r_wit_t h1, r_wit_t h2, ubi_mk, r_may_t (z0_0 _), if_true, if_false, ugd_t, f_X8_street_b31, f_X8_street_b30, f_X8_street_b31, e1]
        exact e2
    · refine Or.inr ⟨tI m, tR (z0 (tI m)) 1 1, 0, ?_, ?_, tR_0, throwI hc hr hv 1⟩
      · simp only [f_X7_street, e_need_t h1, e_need_f h2, ubx_l, ubx_r]
      · have hm := rI_tI hr
        show ubi (f_X8_within (z0 (tI m)) a1 1 20) _ = _
        simp (decide := true) (disch := omega) only [r_wit_t h1, r_wit_f h2, r_may_f1 (z0_0 _) i1_0, ubi_mk, if_true, if_false, f_X8_street_b31, f_X8_street_b30]
  · refine Or.inr ⟨tI m, tR (z0 (tI m)) 1 1, 0, ?_, ?_, tR_0, throwI hc hr hv 1⟩
    · simp only [f_X7_street, e_need_f h1, ubx_l, ubx_r]
    · have hm := rI_tI hr
      show ubi (f_X8_within (z0 (tI m)) a1 1 20) _ = _
      simp (decide := true) (disch := omega) only [r_wit_f h1, r_may_f1 (z0_0 _) i1_0, ubi_mk, if_true, if_false, f_X8_street_b31, f_X8_street_b30]
