/-! WORK: runs of both sides -/
section RUN2
variable {s : Ss} {G : Nat → Wq} {n : Nat}
theorem e_run_ {m : Um} (hn : n ≤ 25) (hT : qT s ≤ 5) (hx : cX m (qV s) (qT s) (qX s) (qW s) (qn s) (qA s) (qz s)) (hG : ∀ i, i < n → okQ (qT s) (G i)) (hX : ∀ i, i < n → wX (m 22) 1 (G i) i) : ∀ (d D o f t : Nat) (m1 : Um) (st : Ps), d + o = 7 → o ≤ 6 → d ≤ D → f ≤ 25 → t ≤ n → wfW G (6 - o) f t → cP m m1 n st → okP s st → ∃ m2, f_X6_performFrom D m1 (nI f) (nI t) (nI o) = some (m2, ()) ∧ cP m m2 n (rnF s G d f t st)
  | 0, D, o, f, t, m1, st, h, ho, _, _, _, _, _, _ => by omega
  | d + 1, 0, o, f, t, m1, st, h, ho, hD, _, _, _, _, _ => by omega
  | d + 1, D + 1, o, f, t, m1, st, h, ho, hD, hf, ht, hw, hc, hp => by
    rw [f_X6_performFrom, rnF]
    unfold f_X6_performFrom_e
    exact e_runL hn hT ho ht hx hG hX (fun ho6 f e m1 st h1 h2 h3 h4 h5 => e_run_ hn hT hx hG hX d D (o + 1) f e m1 st (by omega) (by omega) (by omega) h1 h2 h3 h4 h5) (fun _ f t st h1 h2 h3 => rn_ok hT hG d _ f t st h1 h2 h3) 30 f UF m1 st (by omega) (by show t - f < 3000; omega) hf hw hc hp
theorem r_times {m : Um} {rec : Um → Int32 → Int32 → Option (Um × Unit)} {k2 : Um → Int32 → Int32 → Option (Um × Unit)} {body : Ps → Ps} {i t e a : Nat} (hi : i < 25) (he : i < e) (he2 : e ≤ 25) (ha : a ≤ 30) (h52 : m 52 (4 * i + 1) = nI a) (hb : ∀ m1 st, rP m m1 st → okP s st → ∃ m2, rec m1 (nI (4 * (i + 1))) (nI (4 * e)) = some (m2, ()) ∧ rP m m2 (body st)) (hok : ∀ st, okP s st → okP s (body st)) (hfull : ∀ k st, 200 ≤ st.2.1 → itr body k st = st) : ∀ (r q fuel : Nat) (m1 : Um) (st : Ps), q + r = a → r < fuel → rP m m1 st → okP s st → ∃ m2, f_X8_goesSteps_b51 rec k2 fuel m1 (nI (4 * t)) (nI (4 * i)) (nI (4 * e)) (nI q) = k2 m2 (nI (4 * t)) (nI (4 * e)) ∧ rP m m2 (itr body r st)
  | r, q, 0, m1, st, _, hf, _, _ => absurd hf (Nat.not_lt_zero _)
  | r, q, fuel + 1, m1, st, hq, hf, h, hp => by
    have hp2 := hp.2
    have h1 : m1 52 (4 * i + 1) = nI a := by rw [h.1 52 (by omega) (by omega) (by omega) (by omega)]; exact h52
    have e4 : nI (4 * i) + 4 = nI (4 * (i + 1)) := by rw [show nI (4 * i) + 4 = nI (4 * i + 4) from nI_add _ 4, show 4 * i + 4 = 4 * (i + 1) by omega]
    rw [f_X8_goesSteps_b51, nI_1, uin_n (by omega) (by omega), ugd_t, nI_clamp (by omega), h1, h.2.2.2.1]
    unfold f_X8_goesSteps_b89
    cases r with
    | zero =>
      refine ⟨m1, ?_, h⟩
      rw [if_pos (nI_le (by omega) (by omega))]
    | succ r =>
      rw [if_neg (nI_ge (by omega) (by omega))]
      by_cases c2 : 200 ≤ st.2.1
      · rw [if_pos (lit_leq (k := 200) c2 (by omega)), hfull _ st c2]
        exact ⟨m1, rfl, h⟩
      · obtain ⟨m2, g1, g2⟩ := hb m1 st h hp
        rw [if_neg (nle_lit (k := 200) (by show st.2.1 < 200; omega) (by decide)), e4, g1, ubi_mk, nI_1]
        exact r_times hi he he2 ha h52 hb hok hfull r (q + 1) fuel m2 (body st) (by omega) (by omega) g2 (hok st hp)
theorem r_runL {m : Um} {rec : Um → Int32 → Int32 → Option (Um × Unit)} {d t o : Nat} (hn : n ≤ 25) (hT : qT s ≤ 5) (ho : o ≤ 6) (htn : t ≤ n) (hx : rX m (qV s) (qT s) (qX s) (qW s) (qn s) (qA s) (qz s)) (hG : ∀ i, i < n → okQ (qT s) (G i)) (hX : ∀ i, i < n → wX (m 52) 4 (G i) i) (hrec : o < 6 → ∀ f e m1 st, f ≤ 25 → e ≤ n → wfW G (6 - (o + 1)) f e → rP m m1 st → okP s st → ∃ m2, rec m1 (nI (4 * f)) (nI (4 * e)) = some (m2, ()) ∧ rP m m2 (rnF s G d f e st)) : ∀ (k i fuel : Nat) (m1 : Um) (st : Ps), t - i < k → t - i < fuel → i ≤ 25 → wfW G (6 - o) i t → rP m m1 st → okP s st → ∃ m2, f_X8_goesSteps_b2 rec fuel m1 (nI (4 * t)) (nI (4 * i)) = some (m2, ()) ∧ rP m m2 (rlF s G (rnF s G d) k i t st)
  | 0, _, _, _, _, hk, _, _, _, _, _ => absurd hk (Nat.not_lt_zero _)
  | _, _, 0, _, _, _, hf, _, _, _, _ => absurd hf (Nat.not_lt_zero _)
  | k + 1, i, fuel + 1, m1, st, hk, hf, hi25, hw, h, hp => by
    have e2 : nI (4 * i) + 2 = nI (4 * i + 2) := nI_add _ 2
    have e3 : nI (4 * i) + 3 = nI (4 * i + 3) := nI_add _ 3
    have e4 : nI (4 * i) + 4 = nI (4 * (i + 1)) := by rw [show nI (4 * i) + 4 = nI (4 * i + 4) from nI_add _ 4, show 4 * i + 4 = 4 * (i + 1) by omega]
    have hb200 := hp.2
    rw [f_X8_goesSteps_b2, rlF, h.2.2.2.1]
    unfold f_X8_goesSteps_b161
    by_cases c1 : t ≤ i
    · rw [if_pos (nI_le (by omega) (by omega)), if_pos (Or.inl c1)]
      exact ⟨m1, rfl, h⟩
    · rw [if_neg (nI_ge (by omega) (by omega))]
      by_cases c2 : 200 ≤ st.2.1
      · rw [if_pos (lit_leq (k := 200) c2 (by omega)), if_pos (Or.inr c2)]
        exact ⟨m1, rfl, h⟩
      · rw [if_neg (nle_lit (k := 200) (by show st.2.1 < 200; omega) (by decide)), if_neg (show ¬ (t ≤ i ∨ 200 ≤ st.2.1) by omega), nI_1]
        have hXi := hX i (by omega)
        have h1 : rP m (um_w m1 38 33 (nI (st.2.1 + 1))) (st.1, st.2.1 + 1, st.2.2) := ⟨fun c a b d e => by rw [um_w_c a, h.1 c a b d e], fun j a b d => by rw [um_w_k a, h.2.1 j a b d], by rw [um_w_c (by omega)]; exact h.2.2.1, um_w_s _ _ _ _, by rw [um_w_k (by omega)]; exact h.2.2.2.2.1, by rw [um_w_k (by omega)]; exact h.2.2.2.2.2⟩
        generalize hm2 : um_w m1 38 33 (nI (st.2.1 + 1)) = m2 at h1
        have h22 : m2 52 = m 52 := h1.1 52 (by omega) (by omega) (by omega) (by omega)
        rw [uin_n (show 4 * i < 200 by omega) (by omega), ugd_t, ugd_t, nI_clamp (show 4 * i < 2 ^ 31 by omega), h22, hXi.1, ite_p (show (nI (G i).1 = 7) = ((G i).1 = 7) from nI_eq' (b := 7) (by have := (hG i (by omega)).1; omega) (by omega))]
        by_cases h7 : (G i).1 = 7
        · have ho6 : o < 6 := by
            by_cases q : o < 6
            · exact q
            · have e0 : 6 - o = 0 := by omega
              rw [e0] at hw
              exact absurd h7 (hw i (Nat.le_refl _) (by omega))
          have hd : 6 - o = (6 - (o + 1)) + 1 := by omega
          have hwi : i < (G i).2.2.1 ∧ (G i).2.2.1 ≤ t ∧ wfW G (6 - (o + 1)) (i + 1) (G i).2.2.1 := by
            rw [hd] at hw
            exact hw i (Nat.le_refl _) (by omega) h7
          have h30 := (hG i (by omega)).2.2.2.2.2.2 h7
          have hok : ∀ st, okP s st → okP s (rnF s G d (i + 1) (G i).2.2.1 st) := fun st hs => rn_ok hT hG d _ _ _ st (by omega) hwi.2.2 hs
          rw [if_pos h7, if_pos h7, e2, uin_n (show 4 * i + 2 < 200 by omega) (by omega), ugd_t, nI_clamp (show 4 * i + 2 < 2 ^ 31 by omega), hXi.2.2.2.1 h7]
          obtain ⟨m3, g1, g2⟩ := r_times (s := s) (k2 := f_X8_goesSteps_b2 rec fuel) (t := t) (body := rnF s G d (i + 1) (G i).2.2.1) (m := m) (rec := rec) (show i < 25 by omega) hwi.1 (by omega) h30 (hXi.2.1 (by omega)) (fun m1 st hc hs => hrec ho6 (i + 1) _ m1 st (by omega) (by omega) hwi.2.2 hc hs) hok (fun k st => itr_full k st) (G i).2.1 0 UF m2 (st.1, st.2.1 + 1, st.2.2) (by omega) (by show (G i).2.1 < 3000; omega) h1 ⟨hp.1, by show st.2.1 + 1 ≤ 200; omega⟩
          rw [show (0 : Int32) = nI 0 from rfl, g1]
          exact r_runL hn hT ho htn hx hG hX hrec k _ fuel m3 _ (by omega) (by omega) (by omega) (wfW_sub (by omega) hw) g2 (itr_ok hok _ _ ⟨hp.1, by show st.2.1 + 1 ≤ 200; omega⟩)
        · have hx2 : rX m2 (qV s) (qT s) (qX s) (qW s) (qn s) (qA s) (qz s) := rX_of' hx (fun q hq => h1.2.1 q (by omega) (by omega) (by omega)) (fun c hc => h1.1 c (by omega) (by omega) (by omega) (by omega))
          obtain ⟨m3, g1, g2, g3⟩ := r_done (m := m2) (s := s) (g := G i) (x := m 52 (4 * i + 1)) (y := m 52 (4 * i + 2)) (z := m 52 (4 * i + 3)) hT hx2 (by rw [h1.2.2.1]; exact hp.1.1) hXi.2.1 hXi.2.2.1 hXi.2.2.2.2 (hG i (by omega)) h7
          rw [h1.2.2.1] at g1 g2
          rw [if_neg h7, if_neg h7, nI_1, e2, e3, uin_n (show 4 * i + 1 < 200 by omega) (by omega), ugd_t, uin_n (show 4 * i + 2 < 200 by omega) (by omega), ugd_t, uin_n (show 4 * i + 3 < 200 by omega) (by omega), ugd_t, nI_clamp (show 4 * i + 1 < 2 ^ 31 by omega), nI_clamp (show 4 * i + 2 < 2 ^ 31 by omega), nI_clamp (show 4 * i + 3 < 2 ^ 31 by omega), g1, ubi_mk, ite_bi0]
          unfold f_X8_goesSteps_b155
          rw [e4]
          have h33 : m3 38 = m2 38 := g3 38 (by omega) (by omega) (by omega)
          have nxt : ∀ m4, rP m m4 (step1 s (G i) st) → ∃ m5, f_X8_goesSteps_b2 rec fuel m4 (nI (4 * t)) (nI (4 * (i + 1))) = some (m5, ()) ∧ rP m m5 (rlF s G (rnF s G d) k (i + 1) t (step1 s (G i) st)) := fun m4 h4 => r_runL hn hT ho htn hx hG hX hrec k (i + 1) fuel m4 _ (by omega) (by omega) (by omega) (wfW_sub (by omega) hw) h4 ⟨vQ_stp hT (hG i (by omega)) h7 hp.1, by show st.2.1 + 1 ≤ 200; omega⟩
          by_cases hq : (stp1 s (G i) st.1).2 = true
          · rw [if_pos (show (stp1 s (G i) (st.1, st.2.1 + 1, st.2.2).1).2 = true from hq)]
            refine nxt _ ?_
            unfold step1
            rw [if_pos hq]
            refine ⟨fun c a b d e => by rw [um_w_c a, g3 c b d e, h1.1 c a b d e], fun j a b d => by rw [um_w_k b, h33, h1.2.1 j a b d], by rw [um_w_c (by omega)]; exact g2, by rw [um_w_k (by omega), h33]; exact h1.2.2.2.1, by rw [um_w_s, h33, h1.2.2.2.2.1, nI_1], by rw [um_w_k (by omega), h33]; exact h1.2.2.2.2.2⟩
          · rw [if_neg (show ¬ (stp1 s (G i) (st.1, st.2.1 + 1, st.2.2).1).2 = true from hq)]
            refine nxt _ ?_
            unfold step1
            rw [if_neg hq]
            refine ⟨fun c a b d e => by rw [um_w_c a, g3 c b d e, h1.1 c a b d e], fun j a b d => by rw [um_w_k d, h33, h1.2.1 j a b d], by rw [um_w_c (by omega)]; exact g2, by rw [um_w_k (by omega), h33]; exact h1.2.2.2.1, by rw [um_w_k (by omega), h33]; exact h1.2.2.2.2.1, by rw [um_w_s, h33, h1.2.2.2.2.2, nI_1]⟩
theorem r_run_ {m : Um} (hn : n ≤ 25) (hT : qT s ≤ 5) (hx : rX m (qV s) (qT s) (qX s) (qW s) (qn s) (qA s) (qz s)) (hG : ∀ i, i < n → okQ (qT s) (G i)) (hX : ∀ i, i < n → wX (m 52) 4 (G i) i) : ∀ (d D o f t : Nat) (m1 : Um) (st : Ps), d + o = 7 → o ≤ 6 → d ≤ D → f ≤ 25 → t ≤ n → wfW G (6 - o) f t → rP m m1 st → okP s st → ∃ m2, f_X8_goesSteps D m1 (nI (4 * f)) (nI (4 * t)) = some (m2, ()) ∧ rP m m2 (rnF s G d f t st)
  | 0, D, o, f, t, m1, st, h, ho, _, _, _, _, _, _ => by omega
  | d + 1, 0, o, f, t, m1, st, h, ho, hD, _, _, _, _, _ => by omega
  | d + 1, D + 1, o, f, t, m1, st, h, ho, hD, hf, ht, hw, hc, hp => by
    rw [f_X8_goesSteps, rnF]
    unfold f_X8_goesSteps_e
    exact r_runL hn hT ho ht hx hG hX (fun ho6 f e m1 st h1 h2 h3 h4 h5 => r_run_ hn hT hx hG hX d D (o + 1) f e m1 st (by omega) (by omega) (by omega) h1 h2 h3 h4 h5) 30 f UF m1 st (by omega) (by show t - f < 3000; omega) hf hw hc hp
end RUN2
