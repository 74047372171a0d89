/-! THE VIEW TO LOOK AT -/
def ctF (s : Ss) (v o : Nat) : Nat → Nat
  | 0 => 0
  | i + 1 => ctF s v o i + if fitB s i = true ∧ owN s i v = o then 1 else 0
theorem ctF_le (s : Ss) (v o : Nat) : ∀ i, ctF s v o i ≤ i
  | 0 => Nat.le_refl _
  | i + 1 => by
    have := ctF_le s v o i
    rw [ctF]
    split <;> omega
theorem ctF_no {s : Ss} {v o i : Nat} (h : ¬ fitB s i = true) : ctF s v o (i + 1) = ctF s v o i := by
  rw [ctF, if_neg (fun q => h q.1), Nat.add_zero]
theorem ctF_eq {s : Ss} {v o i : Nat} (h : fitB s i = true) (h2 : owN s i v = o) : ctF s v o (i + 1) = ctF s v o i + 1 := by
  rw [ctF, if_pos ⟨h, h2⟩]
theorem ctF_ne {s : Ss} {v o i : Nat} (h2 : owN s i v ≠ o) : ctF s v o (i + 1) = ctF s v o i := by
  rw [ctF, if_neg (fun q => h2 q.2), Nat.add_zero]
def moF (c : Nat → Nat) : Nat → Nat
  | 0 => 0
  | o + 1 => max (moF c o) (c o)
theorem moF_le {c : Nat → Nat} {b : Nat} (h : ∀ o, c o ≤ b) : ∀ o, moF c o ≤ b
  | 0 => Nat.zero_le _
  | o + 1 => by
    have h1 := moF_le h o
    have h2 := h o
    rw [moF]
    omega
theorem moF_cong {c d : Nat → Nat} : ∀ o, (∀ k, k < o → c k = d k) → moF c o = moF d o
  | 0, _ => rfl
  | o + 1, h => by rw [moF, moF, moF_cong o (fun k hk => h k (by omega)), h o (by omega)]
theorem moF_ge {c : Nat → Nat} : ∀ o k, k < o → c k ≤ moF c o
  | 0, k, hk => absurd hk (Nat.not_lt_zero _)
  | o + 1, k, hk => by
    rw [moF]
    by_cases h : k = o
    · subst h
      omega
    · have := moF_ge (c := c) o k (by omega)
      omega
theorem moF_inc {c d : Nat → Nat} {t : Nat} (h1 : d t = c t + 1) (h2 : ∀ k, k ≠ t → d k = c k) : ∀ o, t < o → moF d o = max (moF c o) (c t + 1)
  | 0, h => absurd h (Nat.not_lt_zero _)
  | o + 1, h => by
    rw [moF, moF]
    by_cases hq : t = o
    · subst hq
      rw [moF_cong t (fun k hk => h2 k (by omega)), h1]
      omega
    · rw [moF_inc h1 h2 o (by omega), h2 o (by omega)]
      omega
def wo (s : Ss) (v : Nat) : Nat := moF (fun o => ctF s v o (20 * qT s)) 6
theorem wo_le (s : Ss) (hT : qT s ≤ 5) (v : Nat) : wo s v ≤ 100 := moF_le (fun o => by have := ctF_le s v o (20 * qT s); omega) 6
section LOOK
variable {m : Um} {s : Ss}
def tl_ (s : Ss) (m1 : Um) (i : Nat) : Prop := ∀ v o, v < qV s → o ≤ 5 → m1 36 (v * 6 + o) = nI (ctF s v o i)
theorem e_talL {m0 : Um} {i : Nat} (hi : i < 100) (hf1 : fitB s i = true) (hc : cC m0 (qV s) (qT s) (qX s) (qW s)) (h26 : m0 26 = pR s i) : ∀ (r v fuel : Nat) (m1 : Um), v + r = qV s → r < fuel → (∀ c, c ≠ 36 → m1 c = m0 c) → (∀ v' o, v' < qV s → o ≤ 5 → m1 36 (v' * 6 + o) = nI (ctF s v' o (if v' < v then i + 1 else i))) → ∃ m2, f_X7_tallyTrial_b2 fuel m1 (nI v) = some (m2, ()) ∧ (∀ c, c ≠ 36 → m2 c = m0 c) ∧ tl_ s m2 (i + 1)
  | r, v, 0, m1, _, hf, _, _ => absurd hf (Nat.not_lt_zero _)
  | 0, v, fuel + 1, m1, hk, _, h1, h2 => by
    have hV := hc.1
    refine ⟨m1, ?_, h1, fun v' o hv' ho => ?_⟩
    · rw [f_X7_tallyTrial_b2, h1 3 (by omega), hc.2.2.1, if_pos (nI_le (by omega) (by omega))]
    · rw [h2 v' o hv' ho, if_pos (by omega)]
  | r + 1, v, fuel + 1, m1, hk, hf, h1, h2 => by
    have hV := hc.1
    have hc1 : cC m1 (qV s) (qT s) (qX s) (qW s) := cC_of hc (h1 3 (by omega)) (h1 4 (by omega)) (h1 5 (by omega))
    have ho := e_ownerN (o := 25) (m := m1) (v := v) hc1 (by omega)
    rw [show (25 + 1 : Nat) = 26 from rfl, h1 26 (by omega), h26] at ho
    have hw := owN_ok s i v
    have ho' : f_X4_ownerOrNobody 25 m1 (nI v) = some (m1, nI (owN s i v)) := by rw [ho, ← hw.1]; rfl
    have hle := ctF_le s v (owN s i v) i
    rw [f_X7_tallyTrial_b2, h1 3 (by omega), hc.2.2.1, if_neg (nI_ge (by omega) (by omega)), ho', ubi_mk, mul_lit, nI_add, uin_n (by show v * 6 + owN s i v < 48; omega) (by show v * 6 + owN s i v < 2 ^ 31; omega), ugd_t, ugd_t, nI_clamp (by show v * 6 + owN s i v < 2 ^ 31; omega), nI_1]
    show ∃ m2, f_X7_tallyTrial_b2 fuel (um_w m1 36 (v * 6 + owN s i v) (m1 36 (v * 6 + owN s i v) + 1)) (nI (v + 1)) = some (m2, ()) ∧ (∀ c, c ≠ 36 → m2 c = m0 c) ∧ tl_ s m2 (i + 1)
    rw [h2 v (owN s i v) (by omega) hw.2, if_neg (by omega), nI_1]
    refine e_talL hi hf1 hc h26 r (v + 1) fuel _ (by omega) (by omega) (fun c hq => by rw [um_w_c hq, h1 c hq]) (fun v' o hv' ho5 => ?_)
    by_cases hvv : v' = v
    · subst hvv
      rw [if_pos (by omega)]
      by_cases hoo : o = owN s i v'
      · subst hoo
        rw [um_w_s, ctF_eq hf1 rfl]
      · rw [um_w_k (by omega), h2 v' o hv' ho5, if_neg (by omega), ctF_ne (fun q => hoo q.symm)]
    · rw [um_w_k (by omega), h2 v' o hv' ho5]
      by_cases hlt : v' < v
      · rw [if_pos hlt, if_pos (by omega)]
      · rw [if_neg hlt, if_neg (by omega)]
theorem e_tal2 (hc : cI m s) (hv : vI s) {t : Nat} (ht : t < qT s) (k10 : Um → Int32 → Option (Um × Unit)) : ∀ (r z fuel : Nat) (m1 : Um), z + r = 21 → 1 ≤ z → r < fuel → cK m m1 → tl_ s m1 (20 * t + z - 1) → ∃ m2, f_X7_tallyOwners_b23 k10 fuel m1 (nI t) (nI z) = k10 m2 (nI (t + 1)) ∧ cK m m2 ∧ tl_ s m2 (20 * (t + 1))
  | r, z, 0, m1, _, _, hf, _, _ => absurd hf (Nat.not_lt_zero _)
  | 0, z, fuel + 1, m1, hk, _, _, h, hl => by
    refine ⟨m1, ?_, h, by rw [show 20 * (t + 1) = 20 * t + z - 1 by omega]; exact hl⟩
    rw [f_X7_tallyOwners_b23, if_pos (lit_ltq (k := 20) (by show 20 < z; omega) (by omega)), nI_1]
  | r + 1, z, fuel + 1, m1, hk, h1, hf, h, hl => by
    have hT := vI_T hc
    have hV := vI_V hc
    obtain ⟨m2, e2, k2, g36, g26⟩ := e_try (cI_K hc hv h) hv ht h1 (show z ≤ 20 by omega)
    have hcm2 := cI_K hc hv (cK_tr h k2)
    rw [f_X7_tallyOwners_b23, if_neg (lit_nlt (k := 20) (by show z ≤ 20; omega) (by decide)), e2, ubi_mk, ite_bi0]
    unfold f_X7_tallyOwners_b42
    by_cases hq : fitB s (20 * t + z - 1) = true
    · obtain ⟨m3, e3, k3, l3⟩ := e_talL (i := 20 * t + z - 1) (by omega) hq hcm2.1.1 g26 (qV s) 0 UF m2 (by omega) (by show qV s < 3000; omega) (fun _ _ => rfl) (fun v' o hv' ho => by rw [if_neg (by omega), g36]; exact hl v' o hv' ho)
      have k4 : cK m m3 := cK_tr (cK_tr h k2) ⟨fun c _ _ _ _ a _ => k3 c a, fun k _ => by rw [k3 0 (by omega)], fun i hi => by rw [k3 26 (by omega)]; exact hcm2.2.2.1 i hi⟩
      have e3' : f_X7_tallyTrial m2 = some (m3, ()) := e3
      rw [if_pos hq, e3', ubi_mk, nI_1]
      exact e_tal2 hc hv ht k10 r (z + 1) fuel m3 (by omega) (by omega) (by omega) k4 (by rw [show 20 * t + (z + 1) - 1 = 20 * t + z - 1 + 1 by omega]; exact l3)
    · rw [if_neg hq, nI_1]
      exact e_tal2 hc hv ht k10 r (z + 1) fuel m2 (by omega) (by omega) (by omega) (cK_tr h k2) (fun v' o hv' ho => by rw [g36, show 20 * t + (z + 1) - 1 = 20 * t + z - 1 + 1 by omega, ctF_no hq]; exact hl v' o hv' ho)
theorem e_tal1 (hc : cI m s) (hv : vI s) : ∀ (r t fuel : Nat) (m1 : Um), t + r = qT s → r < fuel → cK m m1 → tl_ s m1 (20 * t) → ∃ m2, f_X7_tallyOwners_b10 fuel m1 (nI t) = some (m2, ()) ∧ cK m m2 ∧ tl_ s m2 (20 * qT s)
  | r, t, 0, m1, _, hf, _, _ => absurd hf (Nat.not_lt_zero _)
  | 0, t, fuel + 1, m1, hk, _, h, hl => by
    have hT := vI_T hc
    have h31 : m1 3 1 = nI (qT s) := (cI_K hc hv h).1.1.2.2.2.1
    refine ⟨m1, ?_, h, by rw [show 20 * qT s = 20 * t by omega]; exact hl⟩
    rw [f_X7_tallyOwners_b10, h31, if_pos (nI_le (by omega) (by omega))]
  | r + 1, t, fuel + 1, m1, hk, hf, h, hl => by
    have hT := vI_T hc
    have h31 : m1 3 1 = nI (qT s) := (cI_K hc hv h).1.1.2.2.2.1
    obtain ⟨m2, e2, k2, l2⟩ := e_tal2 hc hv (t := t) (by omega) (f_X7_tallyOwners_b10 fuel) 20 1 UF m1 (by omega) (by omega) (by decide) h (by rw [show 20 * t + 1 - 1 = 20 * t by omega]; exact hl)
    rw [f_X7_tallyOwners_b10, h31, if_neg (nI_ge (by omega) (by omega)), show (1 : Int32) = nI 1 from rfl, e2]
    exact e_tal1 hc hv r (t + 1) fuel m2 (by omega) (by omega) k2 l2
theorem e_tal (hc : cI m s) (hv : vI s) : ∃ m2, f_X7_tallyOwners m = some (m2, ()) ∧ cK m m2 ∧ tl_ s m2 (20 * qT s) := by
  have hT := vI_T hc
  have hV := vI_V hc
  unfold f_X7_tallyOwners
  rw [e_fill (by omega), ubi_mk]
  refine e_tal1 hc hv (qT s) 0 UF _ (by omega) (by show qT s < 3000; omega) ⟨fun c _ _ _ _ a _ => um_wa_n a, fun k _ => by rw [um_wa_n (by omega)], fun i hi => by rw [um_wa_n (by omega)]; exact hc.2.2.1 i hi⟩ (fun v o hv' ho => ?_)
  rw [um_wa_s, if_pos (by omega)]
  rfl
theorem e_worstL {m1 : Um} {v : Nat} (hV : qV s ≤ 8) (hT : qT s ≤ 5) (hv : v < qV s) (hl : tl_ s m1 (20 * qT s)) : ∀ (r o fuel : Nat), o + r = 6 → r < fuel → f_X7_worstLeft_b4 fuel m1 (nI v) (nI (moF (fun o => ctF s v o (20 * qT s)) o)) (nI o) = some (m1, nI (wo s v))
  | r, o, 0, _, hf => absurd hf (Nat.not_lt_zero _)
  | 0, o, fuel + 1, hk, _ => by
    rw [f_X7_worstLeft_b4, if_pos (lit_ltq (k := 5) (by show 5 < o; omega) (by omega)), show o = 6 by omega]
    rfl
  | r + 1, o, fuel + 1, hk, hf => by
    have h1 := moF_le (c := fun o => ctF s v o (20 * qT s)) (b := 100) (fun o => by have := ctF_le s v o (20 * qT s); omega) o
    have h2 := ctF_le s v o (20 * qT s)
    rw [f_X7_worstLeft_b4, if_neg (lit_nlt (k := 5) (by show o ≤ 5; omega) (by decide)), mul_lit, nI_add, uin_n (by show v * 6 + o < 48; omega) (by show v * 6 + o < 2 ^ 31; omega), ugd_t, nI_clamp (by show v * 6 + o < 2 ^ 31; omega), show m1 36 (v * OfNat.ofNat 6 + o) = nI (ctF s v o (20 * qT s)) from hl v o hv (by omega), mxn (by omega) (by omega), nI_1]
    exact e_worstL hV hT hv hl r (o + 1) fuel (by omega) (by omega)
def lkS (s : Ss) (v : Nat) (p : Int32 × Int32) : Int32 × Int32 := if qbl s v = -1 ∧ (p.1 = -1 ∨ ¬ p.2 ≤ nI (wo s v)) then (nI v, nI (wo s v)) else p
theorem lkS_t {s : Ss} {v : Nat} {p : Int32 × Int32} (h : qbl s v = -1 ∧ (p.1 = -1 ∨ ¬ p.2 ≤ nI (wo s v))) : lkS s v p = (nI v, nI (wo s v)) := if_pos h
theorem lkS_f {s : Ss} {v : Nat} {p : Int32 × Int32} (h : ¬ (qbl s v = -1 ∧ (p.1 = -1 ∨ ¬ p.2 ≤ nI (wo s v)))) : lkS s v p = p := if_neg h
theorem e_lookL {m1 : Um} (hc : cI m1 s) (hl : tl_ s m1 (20 * qT s)) (y : Int32) : ∀ (r v fuel : Nat) (p : Int32 × Int32), v + r = qV s → r < fuel → f_X7_look_b18 fuel m1 y p.1 p.2 (nI v) = some (m1, .inl (if y = 0 then (lp (lkS s) r v p).1 else (lp (lkS s) r v p).2))
  | r, v, 0, p, _, hf => absurd hf (Nat.not_lt_zero _)
  | 0, v, fuel + 1, p, hk, _ => by
    have hV := vI_V hc
    rw [f_X7_look_b18, hc.1.1.2.2.1, if_pos (nI_le (by omega) (by omega)), lp]
    unfold f_X7_look_b84
    by_cases h0 : y = 0
    · rw [if_pos h0, if_pos h0]
    · rw [if_neg h0, if_neg h0]
  | r + 1, v, fuel + 1, p, hk, hf => by
    have hV := vI_V hc
    have hT := vI_T hc
    have ih := e_lookL hc hl y r (v + 1) fuel (lkS s v p) (by omega) (by omega)
    have ew : f_X7_worstLeft m1 (nI v) = some (m1, nI (wo s v)) := e_worstL hV hT (by omega) hl 6 0 UF (by omega) (by decide)
    rw [f_X7_look_b18, hc.1.1.2.2.1, if_neg (nI_ge (by omega) (by omega)), ew, ubi_mk, uin_n (by omega) (by omega), ugd_t, nI_clamp (by omega), hc.2.2.2.2.1.2 v (by omega), lp, ← ih]
    unfold f_X7_look_b63 f_X7_look_b69 lkS
    rw [nI_1]
    by_cases h1 : qbl s v = -1
    · rw [if_pos h1]
      by_cases h2 : p.1 = -1
      · rw [if_pos h2, if_pos ⟨h1, Or.inl h2⟩]
      · rw [if_neg h2]
        by_cases h3 : p.2 ≤ nI (wo s v)
        · rw [if_pos h3, if_neg (fun q => q.2.elim h2 (fun q => q h3))]
        · rw [if_neg h3, if_pos ⟨h1, Or.inr h3⟩]
    · rw [if_neg h1, if_neg (fun q => h1 q.1)]
/-- the reference's counts for one view -/
def lw_ (s : Ss) (M M1 : Um) : Prop := (∀ c, c ≠ 54 → c ≠ 59 → c ≠ 60 → M1 c = M c) ∧ ∀ i' v, i' < 20 * qT s → v < qV s → M1 59 (8 * i' + v) = owI s i' v
theorem lw_K {M M1 : Um} (h : lw_ s M M1) : rK M M1 := ⟨fun c _ _ _ a _ b d _ => h.1 c a b d, fun k _ _ => by rw [h.1 38 (by omega) (by omega) (by omega)]⟩
theorem r_worstL {M : Um} {v : Nat} (hr : rI M s) (hV : qV s ≤ 8) (hT : qT s ≤ 5) (hv : v < qV s) : ∀ (r i fuel : Nat) (M1 : Um), i + r = 20 * qT s → r < fuel → lw_ s M M1 → (∀ o, o ≤ 5 → M1 60 o = nI (ctF s v o i)) → ∃ M2, f_X8_worstOf_b24 fuel M1 (nI v) (nI (moF (fun o => ctF s v o i) 6)) (nI i) = some (M2, nI (wo s v)) ∧ lw_ s M M2
  | r, i, 0, M1, _, hf, _, _ => absurd hf (Nat.not_lt_zero _)
  | 0, i, fuel + 1, M1, hk, _, h, h60 => by
    have h18 : M1 38 18 = nI (qT s) := by rw [h.1 38 (by omega) (by omega) (by omega)]; exact hr.1.1.2.2.2.1
    have hi : i = 20 * qT s := by omega
    refine ⟨M1, ?_, h⟩
    rw [f_X8_worstOf_b24, h18, lit_mul, if_pos (nI_le (by show 20 * qT s ≤ i; omega) (by omega)), hi]
    rfl
  | r + 1, i, fuel + 1, M1, hk, hf, h, h60 => by
    have h18 : M1 38 18 = nI (qT s) := by rw [h.1 38 (by omega) (by omega) (by omega)]; exact hr.1.1.2.2.2.1
    have hfit : f_X8_isFit M1 (nI i) = some (M1, bi (fitB s i)) := by
      have := r_fitL (s := s) (M1 := M1) (i := i) (by omega) hV (by rw [h.1 38 (by omega) (by omega) (by omega)]; exact hr.1.1.2.2.1) (by rw [h.1 57 (by omega) (by omega) (by omega)]; exact hr.2.2.2.1.2) (fun v hv => h.2 i v (by omega) hv) (qV s) 0 UF true (by omega) (by show qV s < 3000; omega)
      rw [Bool.true_and] at this
      exact this
    have hw := owN_ok s i v
    have h59 : M1 59 (8 * i + v) = nI (owN s i v) := by rw [h.2 i v (by omega) hv, hw.1]
    have hle := ctF_le s v (owN s i v) i
    have hmo := moF_le (c := fun o => ctF s v o i) (b := 100) (fun o => by have := ctF_le s v o i; omega) 6
    rw [f_X8_worstOf_b24, h18, lit_mul, if_neg (nI_ge (by show i < 20 * qT s; omega) (by show 20 * qT s < 2 ^ 31; omega)), hfit, ubi_mk, ite_bi0]
    unfold f_X8_worstOf_b92 f_X8_worstOf_b93
    by_cases hq : fitB s i = true
    · have hinc := moF_inc (c := fun o => ctF s v o i) (d := fun o => ctF s v o (i + 1)) (t := owN s i v) (ctF_eq hq rfl) (fun k hk => ctF_ne (fun e => hk e.symm)) 6 (by omega)
      have fin : ∀ x : Int32, x = nI (max (moF (fun o => ctF s v o i) 6) (ctF s v (owN s i v) i + 1)) → ∃ M2, f_X8_worstOf_b24 fuel (um_w M1 60 (owN s i v) (nI (ctF s v (owN s i v) i + 1))) (nI v) x (nI (i + 1)) = some (M2, nI (wo s v)) ∧ lw_ s M M2 := by
        intro x hx
        subst hx
        rw [← hinc]
        refine r_worstL hr hV hT hv r (i + 1) fuel _ (by omega) (by omega) ⟨fun c a b d => by rw [um_w_c d, h.1 c a b d], fun i' v' hi' hv' => by rw [um_w_c (by omega)]; exact h.2 i' v' hi' hv'⟩ (fun o ho => ?_)
        by_cases hoo : o = owN s i v
        · subst hoo
          rw [um_w_s, ctF_eq hq rfl]
        · rw [um_w_k hoo, h60 o ho, ctF_ne (fun e => hoo e.symm)]
      rw [if_pos hq, lit_mul, nI_add, uin_n (by show 8 * i + v < 800; omega) (by show 8 * i + v < 2 ^ 31; omega), ugd_t, nI_clamp (by show 8 * i + v < 2 ^ 31; omega), show M1 59 (OfNat.ofNat 8 * i + v) = nI (owN s i v) from h59, uin_n (show owN s i v < 6 by omega) (by omega), ugd_t, ugd_t, ugd_t, ugd_t, nI_clamp (by omega), h60 (owN s i v) hw.2, um_w_s, nI_1, nI_1, ite_p (nI_le' (by omega) (by omega))]
      by_cases hc : ctF s v (owN s i v) i + 1 ≤ moF (fun o => ctF s v o i) 6
      · rw [if_pos hc]
        exact fin _ (by rw [Nat.max_eq_left hc])
      · rw [if_neg hc]
        exact fin _ (by rw [Nat.max_eq_right (by omega)])
    · rw [if_neg hq, nI_1]
      have e : moF (fun o => ctF s v o i) 6 = moF (fun o => ctF s v o (i + 1)) 6 := moF_cong 6 (fun k _ => (ctF_no hq).symm)
      rw [e]
      exact r_worstL hr hV hT hv r (i + 1) fuel M1 (by omega) (by omega) h (fun o ho => by rw [h60 o ho, ctF_no hq])
theorem r_worst0 {M1 : Um} {x : Int32} : ∀ (r k fuel : Nat) (M2 : Um), k + r = 6 → r < fuel → (∀ c, c ≠ 60 → M2 c = M1 c) → (∀ o, o < k → M2 60 o = 0) → ∃ M3, f_X8_worstOf_b2 fuel M2 x (nI k) = f_X8_worstOf_b24 UF M3 x 0 0 ∧ (∀ c, c ≠ 60 → M3 c = M1 c) ∧ ∀ o, o ≤ 5 → M3 60 o = 0
  | r, k, 0, M2, _, hf, _, _ => absurd hf (Nat.not_lt_zero _)
  | 0, k, fuel + 1, M2, hk, _, h1, h2 => by
    refine ⟨M2, ?_, h1, fun o ho => h2 o (by omega)⟩
    rw [f_X8_worstOf_b2, if_pos (lit_ltq (k := 5) (by show 5 < k; omega) (by omega))]
  | r + 1, k, fuel + 1, M2, hk, hf, h1, h2 => by
    rw [f_X8_worstOf_b2, if_neg (lit_nlt (k := 5) (by show k ≤ 5; omega) (by decide)), uin_n (by omega) (by omega), ugd_t, nI_clamp (by omega), nI_1]
    refine r_worst0 r (k + 1) fuel _ (by omega) (by omega) (fun c hc => by rw [um_w_c hc, h1 c hc]) (fun o ho => ?_)
    by_cases hq : o = k
    · rw [hq, um_w_s]
    · rw [um_w_k hq]
      exact h2 o (by omega)
theorem r_worst {M M1 : Um} {v : Nat} (hr : rI M s) (hV : qV s ≤ 8) (hT : qT s ≤ 5) (hv : v < qV s) (h : lw_ s M M1) : ∃ M2, f_X8_worstOf M1 (nI v) = some (M2, nI (wo s v)) ∧ lw_ s M M2 := by
  obtain ⟨M3, e3, k3, z3⟩ := r_worst0 (M1 := M1) (x := nI v) 6 0 UF M1 (by omega) (by decide) (fun _ _ => rfl) (fun o ho => absurd ho (Nat.not_lt_zero _))
  obtain ⟨M4, e4, k4⟩ := r_worstL hr hV hT hv (20 * qT s) 0 UF M3 (by omega) (by show 20 * qT s < 3000; omega) ⟨fun c a b d => by rw [k3 c d, h.1 c a b d], fun i' v' hi' hv' => by rw [k3 59 (by omega)]; exact h.2 i' v' hi' hv'⟩ (fun o ho => by rw [z3 o ho]; rfl)
  refine ⟨M4, ?_, k4⟩
  unfold f_X8_worstOf
  rw [show (0 : Int32) = nI 0 from rfl, e3]
  exact e4
theorem r_lookL {M : Um} (hr : rI M s) (hV : qV s ≤ 8) (hT : qT s ≤ 5) (y : Int32) : ∀ (r v fuel : Nat) (p : Int32 × Int32) (M1 : Um), v + r = qV s → r < fuel → lw_ s M M1 → ∃ M2, f_X8_look_b33 fuel M1 y p.1 p.2 (nI v) = some (M2, if y = 0 then (lp (lkS s) r v p).1 else (lp (lkS s) r v p).2) ∧ lw_ s M M2
  | r, v, 0, p, M1, _, hf, _ => absurd hf (Nat.not_lt_zero _)
  | 0, v, fuel + 1, p, M1, hk, _, h => by
    have h17 : M1 38 17 = nI (qV s) := by rw [h.1 38 (by omega) (by omega) (by omega)]; exact hr.1.1.2.2.1
    refine ⟨M1, ?_, h⟩
    rw [f_X8_look_b33, h17, if_pos (nI_le (by omega) (by omega)), lp]
    unfold f_X8_look_b99
    by_cases h0 : y = 0
    · rw [if_pos h0, if_pos h0]
    · rw [if_neg h0, if_neg h0]
  | r + 1, v, fuel + 1, p, M1, hk, hf, h => by
    have h17 : M1 38 17 = nI (qV s) := by rw [h.1 38 (by omega) (by omega) (by omega)]; exact hr.1.1.2.2.1
    have h57 : M1 57 v = qbl s v := by rw [h.1 57 (by omega) (by omega) (by omega)]; exact hr.2.2.2.1.2 v (by omega)
    rw [f_X8_look_b33, h17, if_neg (nI_ge (by omega) (by omega)), uin_n (by omega) (by omega), ugd_t, nI_clamp (by omega), h57, lp]
    unfold f_X8_look_b78 f_X8_look_b84
    rw [nI_1]
    by_cases h1 : qbl s v = -1
    · obtain ⟨M2, e2, k2⟩ := r_worst hr hV hT (show v < qV s by omega) h
      rw [if_pos h1, e2, ubi_mk]
      have ih := r_lookL hr hV hT y r (v + 1) fuel (lkS s v p) M2 (by omega) (by omega) k2
      by_cases h2 : p.1 = -1
      · rw [if_pos h2]
        rw [lkS_t ⟨h1, Or.inl h2⟩] at ih ⊢
        exact ih
      · rw [if_neg h2]
        by_cases h3 : p.2 ≤ nI (wo s v)
        · rw [if_neg (fun q => lt_le_i.mp q h3)]
          rw [lkS_f (fun q => q.2.elim h2 (fun q => q h3))] at ih ⊢
          exact ih
        · rw [if_pos (lt_le_i.mpr h3)]
          rw [lkS_t ⟨h1, Or.inr h3⟩] at ih ⊢
          exact ih
    · rw [if_neg h1]
      have ih := r_lookL hr hV hT y r (v + 1) fuel (lkS s v p) M1 (by omega) (by omega) h
      rw [lkS_f (fun q => h1 q.1)] at ih ⊢
      exact ih
end LOOK
theorem op_look : uop_look uI := by
  intro m a1 ⟨s, hc, hr, hv⟩
  have hT5 := vI_T hc
  have hV8 := vI_V hc
  have hm := rI_tI hr
  have rs : ∀ M, f_X8_look M a1 = ubi (f_X8_within (z0 M) a1 0 1) (fun m1 r2 => ubi (f_X8_may m1 r2 1 1) (fun m4 r5 => if r5 = 0 then (some (m4, 0)) else (ubi (f_X8_laysOwners m4) (fun m8 r9 => f_X8_look_b33 UF m8 a1 (-1) (-1) 0)))) := fun M => rfl
  by_cases h1 : 0 ≤ a1 ∧ a1 ≤ 1
  · refine Or.inl (wrapI (fr := fun M => f_X8_look M a1) hc hr hv ?_)
    obtain ⟨m2, e2, k2, l2⟩ := e_tal hc hv
    have e3 := e_lookL (cI_K hc hv k2) l2 a1 (qV s) 0 UF (-1, -1) (by omega) (by show qV s < 3000; omega)
    refine ⟨if a1 = 0 then (lp (lkS s) (qV s) 0 (-1, -1)).1 else (lp (lkS s) (qV s) 0 (-1, -1)).2, m2, ?_, k2, fun M hM => ?_⟩
    · unfold f_X7_look
      rw [e_need_t h1, ubx_l, e2, ubi_mk]
      exact e3
    · have hM0 := rI_K hM (z0_K M)
      obtain ⟨M2, f2, j2⟩ := r_lay hM0 hv hV8 hT5
      obtain ⟨M3, f3, j3⟩ := r_lookL hM0 hV8 hT5 a1 (qV s) 0 UF (-1, -1) M2 (by omega) (by show qV s < 3000; omega) ⟨fun c a b _ => j2.1 c a b, j2.2⟩
      refine ⟨M3, ?_, rK_tr (z0_K M) (lw_K j3), by rw [j3.1 38 (by omega) (by omega) (by omega)]; exact z0_0 M⟩
      show f_X8_look M a1 = _
      rw [rs, r_wit_t h1, ubi_mk, r_may_t (z0_0 M), ubi_mk, if_neg i1_0, f2, ubi_mk]
      exact f3
  · refine Or.inr ⟨tI m, tR (z0 (tI m)) 1 1, 0, ?_, ?_, tR_0, throwI hc hr hv 1⟩
    · unfold f_X7_look
      rw [e_need_f h1, ubx_r]
    · rw [rs, r_wit_f h1, ubi_mk, r_may_f1 (z0_0 _) i1_0, ubi_mk, if_pos rfl]
