/-! TEXTS: what is read, over bytes as naturals; the class's reader -/
def bS (c : Nat) : Bool := decide (c = 32)
def bL (c : Nat) : Bool := decide (97 ≤ c ∧ c ≤ 122)
def bD (c : Nat) : Bool := decide (48 ≤ c ∧ c ≤ 57)
def scn (b : Nat → Nat) (q : Nat → Bool) (N : Nat) : Nat → Nat → Nat
  | 0, p => p
  | k + 1, p => if p < N ∧ q (b p) = true then scn b q N k (p + 1) else p
def scE (b : Nat → Nat) (q : Nat → Bool) (N p : Nat) : Nat := scn b q N (N - p) p
theorem scE_step {b : Nat → Nat} {q : Nat → Bool} {N p : Nat} (h : p < N) (hq : q (b p) = true) : scE b q N p = scE b q N (p + 1) := by
  unfold scE
  rw [show N - p = (N - (p + 1)) + 1 by omega, scn, if_pos ⟨h, hq⟩]
theorem scE_stop {b : Nat → Nat} {q : Nat → Bool} {N p : Nat} (h : ¬ (p < N ∧ q (b p) = true)) : scE b q N p = p := by
  unfold scE
  by_cases hp : p < N
  · rw [show N - p = (N - (p + 1)) + 1 by omega, scn, if_neg h]
  · rw [show N - p = 0 by omega, scn]
theorem scE_spec {b : Nat → Nat} {q : Nat → Bool} {N : Nat} : ∀ (d p : Nat), N - p = d → p ≤ scE b q N p ∧ (p ≤ N → scE b q N p ≤ N) ∧ ¬ (scE b q N p < N ∧ q (b (scE b q N p)) = true) ∧ ∀ i, p ≤ i → i < scE b q N p → i < N ∧ q (b i) = true
  | 0, p, h => by
    have e : scE b q N p = p := scE_stop (fun hh => by omega)
    rw [e]
    exact ⟨Nat.le_refl _, fun h => h, fun hh => by omega, fun i h1 h2 => by omega⟩
  | d + 1, p, h => by
    by_cases hc : p < N ∧ q (b p) = true
    · have ih := scE_spec (b := b) (q := q) (N := N) d (p + 1) (by omega)
      rw [scE_step hc.1 hc.2]
      have ih1 := ih.1
      refine ⟨by omega, fun _ => ih.2.1 (by omega), ih.2.2.1, fun i h1 h2 => ?_⟩
      by_cases hi : i = p
      · rw [hi]
        exact hc
      · exact ih.2.2.2 i (by omega) h2
    · rw [scE_stop hc]
      exact ⟨Nat.le_refl _, fun h => h, hc, fun i h1 h2 => by omega⟩
abbrev sk (b : Nat → Nat) (N p : Nat) : Nat := scE b bS N p
abbrev wE (b : Nat → Nat) (N p : Nat) : Nat := scE b bL N p
abbrev dE (b : Nat → Nat) (N p : Nat) : Nat := scE b bD N p
theorem scE_ge (b : Nat → Nat) (q : Nat → Bool) (N p : Nat) : p ≤ scE b q N p := (scE_spec (N - p) p rfl).1
theorem scE_le {b : Nat → Nat} {q : Nat → Bool} {N p : Nat} (h : p ≤ N) : scE b q N p ≤ N := (scE_spec (N - p) p rfl).2.1 h
theorem scE_id (b : Nat → Nat) (q : Nat → Bool) (N p : Nat) : scE b q N (scE b q N p) = scE b q N p := scE_stop (scE_spec (N - p) p rfl).2.2.1
theorem scE_gt {b : Nat → Nat} {q : Nat → Bool} {N p : Nat} (h : p < N) (hq : q (b p) = true) : p + 1 ≤ scE b q N p := by
  rw [scE_step h hq]
  exact scE_ge b q N (p + 1)
theorem sk_le {b : Nat → Nat} {N p : Nat} (h : p ≤ N) : sk b N p ≤ N := scE_le h
theorem wE_le {b : Nat → Nat} {N p : Nat} (h : p ≤ N) : wE b N p ≤ N := scE_le h
theorem dE_le {b : Nat → Nat} {N p : Nat} (h : p ≤ N) : dE b N p ≤ N := scE_le h
theorem sk_ge (b : Nat → Nat) (N p : Nat) : p ≤ sk b N p := scE_ge b bS N p
theorem wE_ge (b : Nat → Nat) (N p : Nat) : p ≤ wE b N p := scE_ge b bL N p
theorem dE_ge (b : Nat → Nat) (N p : Nat) : p ≤ dE b N p := scE_ge b bD N p
/-- an answer: a fault (kind, place), or what was read -/
abbrev Pr_ (α : Type) : Type := (Nat × Nat) ⊕ α
def pb {α β : Type} (x : Pr_ α) (f : α → Pr_ β) : Pr_ β := match x with
  | .inl e => .inl e
  | .inr a => f a
theorem pb_l {α β : Type} (e : Nat × Nat) (f : α → Pr_ β) : pb (.inl e) f = .inl e := rfl
theorem pb_r {α β : Type} (a : α) (f : α → Pr_ β) : pb (.inr a) f = f a := rfl
/-- the value of digits -/
def dV (a : Nat → Nat) : Nat → Nat
  | 0 => 0
  | n + 1 => 10 * dV a n + (a n - 48)
abbrev ht_ (b : Nat → Nat) (N c p : Nat) : Bool := decide (sk b N p < N ∧ b (sk b N p) = c)
def pSign (b : Nat → Nat) (N c p : Nat) : Pr_ Nat := if ht_ b N c p = true then .inr (sk b N p + 1) else .inl (1, sk b N p)
def numV (b : Nat → Nat) (N q : Nat) : Nat := dV (fun i => b (q + i)) (dE b N q - q)
def atD (b : Nat → Nat) (N p : Nat) : Bool := decide (sk b N p < N ∧ bD (b (sk b N p)) = true)
def pNum (b : Nat → Nat) (N lo hi p : Nat) : Pr_ (Nat × Nat) := if atD b N p = true then (if lo ≤ numV b N (sk b N p) ∧ numV b N (sk b N p) < hi then .inr (numV b N (sk b N p), dE b N (sk b N p)) else .inl (2, sk b N p)) else .inl (1, sk b N p)
/-- words -/
def wch (w i : Nat) : Nat := ((us_byt.getD w []).getD i 0).toNatClampNeg
def wln (w : Nat) : Nat := us_len.getD w 0
theorem wch_ok : ∀ w, w < 18 → wln w ≤ 6 ∧ 3 ≤ wln w ∧ ∀ i, i < wln w → (us_byt.getD w []).getD i 0 = nI (wch w i) ∧ 97 ≤ wch w i ∧ wch w i ≤ 122 := by decide +kernel
def cmpF (a c : Nat → Nat) : Nat → Nat → Bool
  | 0, _ => true
  | k + 1, i => decide (a i = c i) && cmpF a c k (i + 1)
theorem cmpF_iff (a c : Nat → Nat) : ∀ k i, cmpF a c k i = true ↔ ∀ j, i ≤ j → j < i + k → a j = c j
  | 0, i => by
    simp only [cmpF, true_iff]
    intro j h1 h2
    omega
  | k + 1, i => by
    simp only [cmpF, Bool.and_eq_true, decide_eq_true_eq, cmpF_iff a c k (i + 1)]
    constructor
    · intro h j h1 h2
      by_cases hj : j = i
      · rw [hj]
        exact h.1
      · exact h.2 j (by omega) (by omega)
    · intro h
      exact ⟨h i (Nat.le_refl _) (by omega), fun j h1 h2 => h j (by omega) (by omega)⟩
def wIs (b : Nat → Nat) (q e w : Nat) : Bool := decide (e - q = wln w) && cmpF (fun i => b (q + i)) (wch w) (wln w) 0
theorem wIs_len {b : Nat → Nat} {q e w : Nat} (h : wIs b q e w = true) : e - q = wln w := by
  unfold wIs at h
  simp only [Bool.and_eq_true, decide_eq_true_eq] at h
  exact h.1
/-! the memory, a slot at a time -/
theorem um_w_id {m : Um} {c k : Nat} {v : Int32} (h : m c k = v) : um_w m c k v = m := by
  subst h
  rw [um_w_def, upd_id, um_wa_id]
theorem um_w_w (m : Um) (c k : Nat) (v w : Int32) : um_w (um_w m c k v) c k w = um_w m c k w := by
  rw [um_w_def, um_w_def, um_w_def, um_wa_s, um_wa_wa, upd_upd]
theorem um_w_s (m : Um) (c k : Nat) (v : Int32) : um_w m c k v c k = v := by
  rw [um_w_def, um_wa_s, upd_s]
theorem um_w_k {m : Um} {c k j : Nat} {v : Int32} (h : j ≠ k) : um_w m c k v c j = m c j := by
  rw [um_w_def, um_wa_s, upd_n h]
theorem um_w_c {m : Um} {c k d : Nat} {v : Int32} (h : d ≠ c) : um_w m c k v d = m d := by
  rw [um_w_def, um_wa_n h]
/-! the class's tape -/
def tA (b : Nat → Nat) (N : Nat) (m : Um) : Prop := N ≤ 600 ∧ (∀ k, k < N → b k < 256 ∧ m 2 k = nI (b k)) ∧ m 1 2 = nI N
def tg (C : Nat → Prop) (m m' : Um) : Prop := (∀ c, ¬ C c → c ≠ 1 → m' c = m c) ∧ ∀ j, j < 3 ∨ 8 < j → m' 1 j = m 1 j
def tk (C : Nat → Prop) (m m' : Um) (p : Nat) : Prop := tg C m m' ∧ m' 1 3 = nI p ∧ m' 1 5 = m 1 5
def tf (C : Nat → Prop) (m m' : Um) (e : Nat × Nat) : Prop := tg C m m' ∧ m' 1 4 = nI e.1 ∧ m' 1 5 = nI e.2
abbrev cN0 : Nat → Prop := fun _ => False
theorem tg_rf (C : Nat → Prop) (m : Um) : tg C m m := ⟨fun _ _ _ => rfl, fun _ _ => rfl⟩
theorem tg_tr {C : Nat → Prop} {m m1 m2 : Um} (h1 : tg C m m1) (h2 : tg C m1 m2) : tg C m m2 := ⟨fun c a b => by rw [h2.1 c a b, h1.1 c a b], fun j a => by rw [h2.2 j a, h1.2 j a]⟩
theorem tg_up {C D : Nat → Prop} {m m1 : Um} (hC : ∀ c, C c → D c) (h1 : tg C m m1) : tg D m m1 := ⟨fun c a b => h1.1 c (fun q => a (hC c q)) b, h1.2⟩
theorem tg_0 {D : Nat → Prop} {m m1 : Um} (h1 : tg cN0 m m1) : tg D m m1 := tg_up (fun _ h => h.elim) h1
theorem tg_w {C : Nat → Prop} {m m1 : Um} (h : tg C m m1) {c : Nat} (hc : C c) (h1 : c ≠ 1) (k : Nat) (v : Int32) : tg C m (um_w m1 c k v) :=
  tg_tr h ⟨fun d a _ => um_w_c (fun q => a (q ▸ hc)), fun j _ => by rw [um_w_c (Ne.symm h1)]⟩
theorem tk_tr {C : Nat → Prop} {m m1 m2 : Um} {p q : Nat} (h1 : tk C m m1 p) (h2 : tk C m1 m2 q) : tk C m m2 q := ⟨tg_tr h1.1 h2.1, h2.2.1, h2.2.2.trans h1.2.2⟩
theorem tf_tr {C : Nat → Prop} {m m1 m2 : Um} {p : Nat} {e : Nat × Nat} (h1 : tk C m m1 p) (h2 : tf C m1 m2 e) : tf C m m2 e := ⟨tg_tr h1.1 h2.1, h2.2.1, h2.2.2⟩
theorem tk_z {D : Nat → Prop} {m m1 : Um} {p : Nat} (h : tk cN0 m m1 p) : tk D m m1 p := ⟨tg_0 h.1, h.2⟩
theorem tf_0 {D : Nat → Prop} {m m1 : Um} {e : Nat × Nat} (h : tf cN0 m m1 e) : tf D m m1 e := ⟨tg_0 h.1, h.2⟩
theorem tk_w {C : Nat → Prop} {m m1 : Um} {p : Nat} (h : tk C m m1 p) {c : Nat} (hc : C c) (h1 : c ≠ 1) (k : Nat) (v : Int32) : tk C m (um_w m1 c k v) p :=
  ⟨tg_w h.1 hc h1 k v, by rw [um_w_c (Ne.symm h1)]; exact h.2.1, by rw [um_w_c (Ne.symm h1)]; exact h.2.2⟩
theorem tA_g {C : Nat → Prop} {b : Nat → Nat} {N : Nat} {m m1 : Um} (h2 : ¬ C 2) (hA : tA b N m) (h : tg C m m1) : tA b N m1 :=
  ⟨hA.1, fun k hk => by rw [h.1 2 h2 (by omega)]; exact hA.2.1 k hk, by rw [h.2 2 (by omega)]; exact hA.2.2⟩
theorem w3_k {m : Um} (p : Nat) : tk cN0 m (um_w m 1 3 (nI p)) p := ⟨⟨fun c _ h => um_w_c h, fun j h => um_w_k (by omega)⟩, um_w_s _ _ _ _, um_w_k (by omega)⟩
section TAPE
variable {b : Nat → Nat} {N : Nat} {m : Um} {p : Nat}
def pkc (b : Nat → Nat) (N p : Nat) : Int32 := if sk b N p < N then nI (b (sk b N p)) else -1
theorem tA_3 (hA : tA b N m) (p : Nat) : tA b N (um_w m 1 3 (nI p)) := tA_g (C := cN0) (fun h => h) hA (w3_k p).1
theorem e_peekL : ∀ (k fuel p : Nat) (m : Um), N - p = k → k < fuel → tA b N m → p ≤ N → m 1 3 = nI p → f_X5_peek_b0 fuel m = f_X5_peek_b38 (um_w m 1 3 (nI (sk b N p)))
  | k, 0, p, m, _, hf, _, _, _ => absurd hf (Nat.not_lt_zero _)
  | k, fuel + 1, p, m, hk, hf, hA, hpN, hp => by
    have hN := hA.1
    rw [f_X5_peek_b0, hA.2.2, hp]
    by_cases h : p < N
    · have hb := hA.2.1 p h
      rw [if_neg (nI_ge h (by omega)), uin_n (by omega) (by omega), ugd_t, nI_clamp (by omega), hb.2]
      by_cases h2 : b p = 32
      · rw [if_pos (show nI (b p) = 32 by rw [h2]; rfl), nI_1]
        have hq : bS (b p) = true := decide_eq_true h2
        have := e_peekL (k - 1) fuel (p + 1) (um_w m 1 3 (nI (p + 1))) (by omega) (by omega) (tA_3 hA _) (by omega) (um_w_s _ _ _ _)
        rw [this, um_w_w]
        unfold sk
        rw [scE_step h hq]
      · rw [if_neg (fun q => h2 (by have : nI (b p) = nI 32 := q; exact (nI_eq (by omega) (by omega)).mp this))]
        unfold sk
        rw [scE_stop (fun q => h2 (of_decide_eq_true q.2)), um_w_id hp]
    · rw [if_pos (nI_le (by omega) (by omega))]
      unfold sk
      rw [scE_stop (fun q => h q.1), um_w_id hp]
theorem e_peek (hA : tA b N m) (hpN : p ≤ N) (hp : m 1 3 = nI p) : f_X5_peek m = some (um_w m 1 3 (nI (sk b N p)), pkc b N p) := by
  have hN := hA.1
  have e : f_X5_peek m = f_X5_peek_b0 (UF + 1) m := by rw [f_X5_peek_b0]; rfl
  rw [e, e_peekL (N - p) (UF + 1) p m rfl (by show N - p < 3001; omega) hA hpN hp]
  have hA' := tA_3 hA (sk b N p)
  have hs := sk_le (b := b) hpN
  unfold f_X5_peek_b38 f_X5_peek_b62 pkc
  rw [hA'.2.2, um_w_s]
  by_cases h : sk b N p < N
  · rw [if_neg (nI_ge h (by omega)), uin_n (by omega) (by omega), ugd_t, nI_clamp (by omega), (hA'.2.1 _ h).2, if_pos h]
  · rw [if_pos (nI_le (by omega) (by omega)), if_neg h]
theorem pkc_ne (hA : tA b N m) : (pkc b N p = -1) = ¬ sk b N p < N := by
  unfold pkc
  by_cases h : sk b N p < N
  · have := (hA.2.1 _ h).1
    rw [if_pos h, nI_ne1 (by omega)]
    simp [h]
  · rw [if_neg h]
    simp [h]
theorem pkc_eq (hA : tA b N m) {c : Nat} {x : Int32} (hx : x = nI c) (hc : c < 256) : (pkc b N p = x) = (ht_ b N c p = true) := by
  subst hx
  unfold pkc
  by_cases h : sk b N p < N
  · have := (hA.2.1 _ h).1
    rw [if_pos h, nI_eq' (by omega) (by omega)]
    simp [h]
  · rw [if_neg h]
    refine propext ⟨fun q => ?_, fun q => absurd (of_decide_eq_true q).1 h⟩
    have := (nI_ne1 (show c < 2 ^ 31 by omega)).mp q.symm
    exact this.elim
theorem e_more (hA : tA b N m) (hpN : p ≤ N) (hp : m 1 3 = nI p) : f_X5_hasMore m = some (um_w m 1 3 (nI (sk b N p)), bi (decide (sk b N p < N))) := by
  unfold f_X5_hasMore f_X5_hasMore_b13
  rw [e_peek hA hpN hp, ubi_mk, ite_p (pkc_ne hA)]
  by_cases h : sk b N p < N <;> simp [h, ub01_0, ub01_1, ugd_t, bi]
theorem e_takeIf (hA : tA b N m) (hpN : p ≤ N) (hp : m 1 3 = nI p) {c : Nat} {x : Int32} (hx : x = nI c) (hc : c < 256) : f_X5_takeIf m x = some (um_w m 1 3 (nI (if ht_ b N c p = true then sk b N p + 1 else sk b N p)), bi (ht_ b N c p)) := by
  unfold f_X5_takeIf
  rw [e_peek hA hpN hp, ubi_mk, ite_p (pkc_eq hA hx hc), um_w_s, nI_1, um_w_w]
  by_cases h : ht_ b N c p = true
  · rw [if_pos h, if_pos h, h]; rfl
  · rw [if_neg h, if_neg h, Bool.eq_false_iff.mpr h]; rfl
theorem fail_f (m : Um) (k q : Nat) : f_X5_fail m (nI k) (nI q) = some (um_w (um_w m 1 4 (nI k)) 1 5 (nI q), 0) ∧ tf cN0 m (um_w (um_w m 1 4 (nI k)) 1 5 (nI q)) (k, q) := by
  refine ⟨rfl, ⟨fun c _ h => ?_, fun j h => ?_⟩, ?_, ?_⟩
  · rw [um_w_c h, um_w_c h]
  · rw [um_w_k (by omega), um_w_k (by omega)]
  · rw [um_w_k (by omega), um_w_s]
  · rw [um_w_s]
theorem e_failH (hA : tA b N m) (hpN : p ≤ N) (hp : m 1 3 = nI p) {k : Nat} {x : Int32} (hx : x = nI k) : ∃ m', f_X5_failHere m x = some (m', 0) ∧ tf cN0 m m' (k, sk b N p) := by
  subst hx
  have h := fail_f (um_w m 1 3 (nI (sk b N p))) k (sk b N p)
  refine ⟨_, ?_, tf_tr (w3_k (sk b N p)) h.2⟩
  unfold f_X5_failHere
  rw [e_peek hA hpN hp, ubi_mk, um_w_s, h.1, ubi_mk, ub01_0, ugd_t]
theorem e_failW {q : Nat} (hq : m 1 8 = nI q) {k : Nat} {x : Int32} (hx : x = nI k) : ∃ m', f_X5_failAtWord m x = some (m', 0) ∧ tf cN0 m m' (k, q) := by
  subst hx
  have h := fail_f m k q
  refine ⟨_, ?_, h.2⟩
  unfold f_X5_failAtWord
  rw [hq, h.1, ubi_mk, ub01_0, ugd_t]
theorem e_sign_t (hA : tA b N m) (hpN : p ≤ N) (hp : m 1 3 = nI p) {c p' : Nat} {x : Int32} (hx : x = nI c) (hc : c < 256) (h : pSign b N c p = .inr p') : ∃ m', f_X5_takeSign m x = some (m', 1) ∧ tk cN0 m m' p' := by
  unfold pSign at h
  by_cases hh : ht_ b N c p = true
  · rw [if_pos hh] at h
    cases h
    refine ⟨_, ?_, w3_k (sk b N p + 1)⟩
    unfold f_X5_takeSign
    rw [e_peek hA hpN hp, ubi_mk, ite_p (pkc_eq hA hx hc), if_pos hh, um_w_s, nI_1, um_w_w]
  · rw [if_neg hh] at h
    cases h
theorem e_sign_f (hA : tA b N m) (hpN : p ≤ N) (hp : m 1 3 = nI p) {c : Nat} {e : Nat × Nat} {x : Int32} (hx : x = nI c) (hc : c < 256) (h : pSign b N c p = .inl e) : ∃ m', f_X5_takeSign m x = some (m', 0) ∧ tf cN0 m m' e := by
  unfold pSign at h
  by_cases hh : ht_ b N c p = true
  · rw [if_pos hh] at h
    cases h
  · rw [if_neg hh] at h
    cases h
    have h1 := fail_f (um_w m 1 3 (nI (sk b N p))) 1 (sk b N p)
    refine ⟨_, ?_, tf_tr (w3_k (sk b N p)) h1.2⟩
    unfold f_X5_takeSign
    rw [e_peek hA hpN hp, ubi_mk, ite_p (pkc_eq hA hx hc), if_neg hh, um_w_s, show f_X5_fail (um_w m 1 3 (nI (sk b N p))) 1 (nI (sk b N p)) = f_X5_fail (um_w m 1 3 (nI (sk b N p))) (nI 1) (nI (sk b N p)) from rfl, h1.1, ubi_mk, ub01_0, ugd_t]
theorem atD_iff (hA : tA b N m) : (pkc b N p < 48 ∨ 57 < pkc b N p) ↔ ¬ atD b N p = true := by
  unfold pkc atD bD
  by_cases h : sk b N p < N
  · have := (hA.2.1 _ h).1
    rw [if_pos h, show (nI (b (sk b N p)) < 48) = (b (sk b N p) < 48) from lt_lit (k := 48) (by decide) (by omega), show (57 < nI (b (sk b N p))) = (57 < b (sk b N p)) from lit_lt (k := 57) (by decide) (by omega)]
    simp [h]
    omega
  · rw [if_neg h]
    simp [h]
theorem e_atD (hA : tA b N m) (hpN : p ≤ N) (hp : m 1 3 = nI p) : f_X5_atDigit m = some (um_w m 1 3 (nI (sk b N p)), bi (atD b N p)) := by
  unfold f_X5_atDigit f_X5_atDigit_b21 f_X5_atDigit_b22
  rw [e_peek hA hpN hp, ubi_mk, ub01_0, ub01_1, ugd_t, ugd_t]
  have hi := atD_iff (p := p) hA
  by_cases h : atD b N p = true
  · have h1 : ¬ pkc b N p < 48 := fun q => hi.mp (Or.inl q) h
    have h2 : ¬ 57 < pkc b N p := fun q => hi.mp (Or.inr q) h
    rw [if_neg h1, if_neg h2, h]; rfl
  · rw [Bool.eq_false_iff.mpr h]
    rcases hi.mpr h with h1 | h1
    · rw [if_pos h1]; rfl
    · by_cases h2 : pkc b N p < 48
      · rw [if_pos h2]; rfl
      · rw [if_neg h2, if_pos h1]; rfl
end TAPE
