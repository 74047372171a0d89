/-! LAWS: the reference reads -/
abbrev Rl : Nat → Prop := fun c => c = 45 ∨ c = 46
abbrev Jl : Nat → Prop := fun j => j = 25
def jS (M M' : Um) (st : Ls) : Prop := rq Rl Jl M M' st.1 ∧ M' 38 25 = nI st.2.1 ∧ ∀ k, k < st.2.1 → M' 45 k = nI (rk (st.2.2 k)) ∧ M' 46 k = nI (ro (st.2.2 k))
def rS (b : Nat → Nat) (N o : Nat) (M : Um) (st : Ls) : Prop := rA b N M ∧ M 38 4 = nI st.1 ∧ M 38 5 = -1 ∧ st.1 ≤ N ∧ st.2.1 ≤ st.1 ∧ M 38 7 = nI o ∧ M 38 25 = nI st.2.1 ∧ ∀ k, k < st.2.1 → M 45 k = nI (rk (st.2.2 k)) ∧ M 46 k = nI (ro (st.2.2 k))
def jK (M : Um) (f : Option (Um × Unit)) (r : Pr_ Ls) : Prop := (∀ e, r = .inl e → ∃ M', f = some (M', ()) ∧ rb Rl Jl M M' e) ∧ ∀ st, r = .inr st → ∃ M', f = some (M', ()) ∧ jS M M' st
theorem jS_rf {b : Nat → Nat} {N o : Nat} {M : Um} {st : Ls} (h : rS b N o M st) : jS M M st := ⟨⟨rg_rf _ _ _, h.2.1, h.2.2.1, rfl⟩, h.2.2.2.2.2.2.1, h.2.2.2.2.2.2.2⟩
theorem jS_tr {m m1 m2 : Um} {s1 s2 : Ls} (h1 : jS m m1 s1) (h2 : jS m1 m2 s2) : jS m m2 s2 := ⟨rq_tr h1.1 h2.1, h2.2⟩
theorem jK_tr {m m1 : Um} {s1 : Ls} {f : Option (Um × Unit)} {r : Pr_ Ls} (h1 : jS m m1 s1) (h : jK m1 f r) : jK m f r := ⟨fun e he => (h.1 e he).elim (fun m' hm => ⟨m', hm.1, rb_tr h1.1.1 hm.2⟩), fun st he => (h.2 st he).elim (fun m' hm => ⟨m', hm.1, jS_tr h1 hm.2⟩)⟩
theorem jS_t {m m1 m2 : Um} {st : Ls} {p : Nat} (h : jS m m1 st) (h2 : rq cN0 cN0 m1 m2 p) : jS m m2 (p, st.2) := ⟨rq_tr h.1 (rq_0 h2), by rw [h2.1.2 25 (fun h => h) (by omega)]; exact h.2.1, fun k hk => by rw [h2.1.1 45 (fun h => h) (by omega), h2.1.1 46 (fun h => h) (by omega)]; exact h.2.2 k hk⟩
theorem jS_l {b : Nat → Nat} {N o : Nat} {m m1 : Um} {st0 st : Ls} (hl : rS b N o m st0) (hk : jS m m1 st) (h1 : st.1 ≤ N) (h2 : st.2.1 ≤ st.1) : rS b N o m1 st := ⟨rA_g (C := Rl) (J := Jl) (show ¬ (40 = 45 ∨ 40 = 46) by omega) (show ¬ (3 = 25) by omega) hl.1 hk.1.1, hk.1.2.1, hk.1.2.2.1, h1, h2, hk.1.2.2.2.trans hl.2.2.2.2.2.1, hk.2.1, hk.2.2⟩
theorem rb_7 {C J : Nat → Prop} {m m1 : Um} {e : Nat × Nat} (h : rb C J m m1 e) (v : Int32) : rb C J m (um_w m1 38 7 v) e := ⟨rg_4 h.1 (by omega) v, by rw [um_w_k (by omega)]; exact h.2.1, by rw [um_w_k (by omega)]; exact h.2.2⟩
theorem r_emit_b {M : Um} {q : Nat} (hq : q < 2 ^ 31) (h : M 38 5 = nI q) (x y : Int32) : f_X8_emit M x y = some (M, ()) := by
  unfold f_X8_emit
  rw [r_fine_f hq h, ubi_mk, if_pos rfl]
theorem r_emit_t {M M1 : Um} {st : Ls} {a : Nat} {x y : Int32} (hk : jS M M1 st) (hn : st.2.1 < 150) (hx : x = nI (rk a)) (hy : y = nI (ro a)) : ∃ M2, f_X8_emit M1 x y = some (M2, ()) ∧ jS M M2 (st.1, st.2.1 + 1, un_ st.2.2 st.2.1 a) := by
  subst hx hy
  refine ⟨um_w (um_w (um_w M1 45 st.2.1 (nI (rk a))) 46 st.2.1 (nI (ro a))) 38 25 (nI (st.2.1 + 1)), ?_, rq_j (C := Rl) (J := Jl) (k := 25) (rq_w (C := Rl) (J := Jl) (c := 46) (rq_w (C := Rl) (J := Jl) (c := 45) hk.1 (Or.inl rfl) (by omega) _ _) (Or.inr rfl) (by omega) _ _) rfl (by omega) _, um_w_s _ _ _ _, fun k hk2 => ?_⟩
  · unfold f_X8_emit
    rw [r_fine_t hk.1.2.2.1, ubi_mk, if_neg i1_0, hk.2.1, uin_n hn (by omega), ugd_t, nI_clamp (by omega), um_w_c (show 38 ≠ 45 by omega), hk.2.1, uin_n hn (by omega), ugd_t, nI_clamp (by omega), um_w_c (show 38 ≠ 46 by omega), um_w_c (show 38 ≠ 45 by omega), hk.2.1, nI_1]
  · have hk3 : k < st.2.1 + 1 := hk2
    rw [um_w_c (show 45 ≠ 38 by omega), um_w_c (show 45 ≠ 46 by omega), um_w_c (show 46 ≠ 38 by omega)]
    show _ = nI (rk (un_ st.2.2 st.2.1 a k)) ∧ _ = nI (ro (un_ st.2.2 st.2.1 a k))
    by_cases hq : k = st.2.1
    · rw [hq, um_w_s, um_w_s, un_s]
      exact ⟨rfl, rfl⟩
    · rw [um_w_k hq, um_w_k hq, um_w_c (show 46 ≠ 45 by omega), un_n hq]
      exact hk.2.2 k (by omega)
section LAWR
variable {b : Nat → Nat} {N : Nat} {M : Um}
theorem jK_f {m' : Um} {e : Nat × Nat} {f : Option (Um × Unit)} (h1 : f = some (m', ())) (h2 : rb Rl Jl M m' e) : jK M f (.inl e) := ⟨fun e' he => by cases he; exact ⟨m', h1, h2⟩, fun st he => by cases he⟩
theorem jK_s {m' : Um} {st : Ls} {f : Option (Um × Unit)} (h1 : f = some (m', ())) (h2 : jS M m' st) : jK M f (.inr st) := ⟨fun e he => (by cases he), fun st' he => by cases he; exact ⟨m', h1, h2⟩⟩
theorem r_nmW {q : Nat} {M1 : Um} (hA : rA b N M) (hpN : q ≤ N) : f_X8_factHere (um_w M 38 4 (nI (sk b N q))) = some (um_w M 38 4 (nI (sk b N q)), if nmW b (sk b N q) (wE b N (sk b N q)) = 8 then -1 else nI (nmW b (sk b N q) (wE b N (sk b N q)))) := by
  have hN := hA.1
  have e : ∀ w, w < 18 → (wv b (sk b N q) (wE b N (sk b N q)) = nI (enc (wch w) (wln w))) = (wIs b (sk b N q) (wE b N (sk b N q)) w = true) := fun w hw => wv_eq hw hN
  unfold f_X8_factHere f_X8_factHere_b112 nmW
  rw [r_word2 hA hpN, ubi_mk, r_of (w := 5) (by omega), ubi_mk, ite_p (e 5 (by omega)), r_of (w := 2) (by omega), ubi_mk, ite_p (e 2 (by omega)), r_of (w := 6) (by omega), ubi_mk, ite_p (e 6 (by omega)), r_of (w := 7) (by omega), ubi_mk, ite_p (e 7 (by omega)), r_of (w := 8) (by omega), ubi_mk, ite_p (e 8 (by omega)), r_of (w := 9) (by omega), ubi_mk, ite_p (e 9 (by omega)), r_of (w := 10) (by omega), ubi_mk, ite_p (e 10 (by omega)), r_of (w := 1) (by omega), ubi_mk, ite_p (e 1 (by omega))]
  by_cases h5 : wIs b (sk b N q) (wE b N (sk b N q)) 5 = true
  · simp only [h5, if_true]; rfl
  · by_cases h2 : wIs b (sk b N q) (wE b N (sk b N q)) 2 = true
    · simp only [h5, h2, if_true, if_false]; rfl
    · by_cases h6 : wIs b (sk b N q) (wE b N (sk b N q)) 6 = true
      · simp only [h5, h2, h6, if_true, if_false]; rfl
      · by_cases h7 : wIs b (sk b N q) (wE b N (sk b N q)) 7 = true
        · simp only [h5, h2, h6, h7, if_true, if_false]; rfl
        · by_cases h8 : wIs b (sk b N q) (wE b N (sk b N q)) 8 = true
          · simp only [h5, h2, h6, h7, h8, if_true, if_false]; rfl
          · by_cases h9 : wIs b (sk b N q) (wE b N (sk b N q)) 9 = true
            · simp only [h5, h2, h6, h7, h8, h9, if_true, if_false]; rfl
            · by_cases h10 : wIs b (sk b N q) (wE b N (sk b N q)) 10 = true
              · simp only [h5, h2, h6, h7, h8, h9, h10, if_true, if_false]; rfl
              · by_cases h1 : wIs b (sk b N q) (wE b N (sk b N q)) 1 = true
                · simp only [h5, h2, h6, h7, h8, h9, h10, h1, if_true, if_false]; rfl
                · simp only [h5, h2, h6, h7, h8, h9, h10, h1, Bool.false_eq_true, if_true, if_false]
theorem r_unit_b {recR : Um → Option (Um × Unit)} {q : Nat} (hq : q < 2 ^ 31) (h : M 38 5 = nI q) : f_X8_readUnit recR M = some (M, ()) := by
  unfold f_X8_readUnit
  rw [r_fine_f hq h, ubi_mk, if_pos rfl]
/-- one more bracket is open, or one too many -/
theorem r_open_t {o : Nat} {p k : Nat} {x : Int32} (hf : M 38 5 = -1) (hp : M 38 4 = nI p) (ho : M 38 7 = nI o) (ho6 : o < 6) (hx : x = nI k) : f_X8_opensOne M x = some (um_w (um_w M 38 4 (nI (p + k))) 38 7 (nI (o + 1)), ()) := by
  subst hx
  unfold f_X8_opensOne f_X8_opensOne_b25 f_X8_opensOne_b42
  rw [r_fine_t hf, ubi_mk, if_neg i1_0, ho, if_neg (fun q => by have := (nI_eq (a := o) (b := 6) (by omega) (by omega)).mp q; omega), r_fine_t hf, ubi_mk, if_neg i1_0, hp, nI_add, um_w_k (by omega), ho, nI_1]
theorem r_open_f {o p : Nat} {x : Int32} (hf : M 38 5 = -1) (hp : M 38 4 = nI p) (hpN : p < 2 ^ 31) (ho : M 38 7 = nI o) (ho6 : o = 6) : ∃ M', f_X8_opensOne M x = some (M', ()) ∧ rb cN0 cN0 M M' (3, p) := by
  subst ho6
  obtain ⟨m3, z1, z2, z3, z4⟩ := r_wrong hf (k := 3) (q := p) (x := 3) (y := nI p) rfl rfl
  refine ⟨_, ?_, rb_7 z2 (m3 38 7 + 1)⟩
  unfold f_X8_opensOne f_X8_opensOne_b25 f_X8_opensOne_b42
  rw [r_fine_t hf, ubi_mk, if_neg i1_0, ho, if_pos (show nI 6 = 6 from rfl), hp, z1, ubi_mk, r_fine_f hpN z2.2.1, ubi_mk, if_pos rfl]
theorem rk_op {a : Nat} (h : 2000 ≤ a) : ro a = 0 := by
  unfold ro
  rw [if_neg (by omega), if_neg (by omega)]
theorem r_unit {recR : Um → Option (Um × Unit)} {rec : Nat → Ls → Pr_ Ls} {o : Nat} {st : Ls} (hN : N ≤ 150) (ho : o ≤ 6) (hR : o < 6 → ∀ m st, rS b N (o + 1) m st → jK m (recR m) (rec (o + 1) st)) (hB : ∀ m q, q < 2 ^ 31 → m 38 5 = nI q → recR m = some (m, ())) (hQ : ∀ st, st.1 ≤ N → lQ N st (rec (o + 1) st)) (hl : rS b N o M st) : jK M (f_X8_readUnit recR M) (pUn b N rec o st) := by
  obtain ⟨p, n, A⟩ := st
  have hA := hl.1
  have hp : M 38 4 = nI p := hl.2.1
  have hf := hl.2.2.1
  have hpN : p ≤ N := hl.2.2.2.1
  have hnp : n ≤ p := hl.2.2.2.2.1
  have h7 := hl.2.2.2.2.2.1
  have hs := sk_le (b := b) hpN
  have hsg := sk_ge b N p
  have hw := wE_le (b := b) hs
  have hwg := wE_ge b N (sk b N p)
  have hk1 : jS M (um_w M 38 4 (nI (sk b N p))) (sk b N p, n, A) := jS_t (jS_rf hl) (w4_k hf _)
  have hA1 := rA_4 hA (sk b N p)
  have hp1 : (um_w M 38 4 (nI (sk b N p))) 38 4 = nI (sk b N p) := um_w_s _ _ _ _
  have h71 : (um_w M 38 4 (nI (sk b N p))) 38 7 = nI o := by rw [um_w_k (by omega)]; exact h7
  have hf1 := hk1.1.2.2.1
  unfold f_X8_readUnit pUn f_X8_readUnit_b153
  rw [r_fine_t hf, ubi_mk, if_neg i1_0, r_here hA hpN hp, ubi_mk, ite_p (hrc_eq hA (c := 40) (x := 40) rfl (by omega) (by omega))]
  by_cases h2 : ht_ b N 40 p = true
  · have hh := of_decide_eq_true h2
    rw [if_pos h2, if_neg (ht_at h2 (by omega)), if_pos h2]
    by_cases h6 : 6 ≤ o
    · obtain ⟨m3, z1, z2⟩ := r_open_f (x := 1) hf1 hp1 (by omega) h71 (by omega)
      rw [if_pos h6]
      refine jK_f ?_ (rb_7 (rb_tr hk1.1.1 (rb_0 z2)) (m3 38 7 - 1))
      rw [z1, ubi_mk, hB m3 _ (by omega) z2.2.1, ubi_mk, r_sign_b (by omega) z2.2.1, ubi_mk]
    · rw [if_neg h6]
      have hop := r_open_t (x := 1) (k := 1) hf1 hp1 h71 (by omega) rfl
      rw [um_w_w] at hop
      generalize hM2 : um_w (um_w M 38 4 (nI (sk b N p + 1))) 38 7 (nI (o + 1)) = M2 at hop
      have hg2 : rg Rl Jl M M2 := by
        subst hM2
        exact rg_4 (rg_4 (rg_rf _ _ _) (by omega) _) (by omega) _
      have hl2 : rS b N (o + 1) M2 (sk b N p + 1, n, A) := by
        refine ⟨rA_g (C := Rl) (J := Jl) (show ¬ (40 = 45 ∨ 40 = 46) by omega) (show ¬ (3 = 25) by omega) hA hg2, ?_, ?_, by show sk b N p + 1 ≤ N; omega, by show n ≤ sk b N p + 1; omega, ?_, ?_, fun k hk => ?_⟩
        · subst hM2
          rw [um_w_k (by omega), um_w_s]
        · subst hM2
          rw [um_w_k (by omega), um_w_k (by omega)]
          exact hf
        · subst hM2
          exact um_w_s _ _ _ _
        · subst hM2
          rw [um_w_k (by omega), um_w_k (by omega)]
          exact hl.2.2.2.2.2.2.1
        · subst hM2
          rw [um_w_c (by omega), um_w_c (by omega), um_w_c (by omega), um_w_c (by omega)]
          exact hl.2.2.2.2.2.2.2 k hk
      have hr := hR (by omega) M2 _ hl2
      have hq := hQ (sk b N p + 1, n, A) (by show sk b N p + 1 ≤ N; omega)
      rw [hop, ubi_mk]
      cases q1 : rec (o + 1) (sk b N p + 1, n, A) with
      | inl e =>
        obtain ⟨m3, i1, i2⟩ := hr.1 e q1
        have he := hq.1 e q1
        rw [pb_l]
        refine jK_f ?_ (rb_7 (rb_tr hg2 i2) (m3 38 7 - 1))
        rw [i1, ubi_mk, r_sign_b (by omega) i2.2.1, ubi_mk]
      | inr s1 =>
        obtain ⟨m3, i1, i2⟩ := hr.2 s1 q1
        obtain ⟨a1, a2, a3, a4, a5⟩ := hq.2 s1 q1
        have a3' : s1.2.1 + (sk b N p + 1) ≤ n + s1.1 := a3
        have hl3 := jS_l hl2 i2 a2 (by omega)
        rw [pb_r, i1, ubi_mk]
        cases q2 : pSign b N 41 s1.1 with
        | inl e =>
          obtain ⟨m4, j1, j2, j3⟩ := r_sign_f hl3.1 a2 hl3.2.1 hl3.2.2.1 (c := 41) (x := 41) rfl (by omega) (by omega) q2
          rw [pb_l]
          refine jK_f ?_ (rb_7 (rb_tr (rg_tr hg2 i2.1.1) (rb_0 j2)) (m4 38 7 - 1))
          rw [j1, ubi_mk]
        | inr p2 =>
          obtain ⟨m4, j1, j2⟩ := r_sign_t hl3.1 a2 hl3.2.1 hl3.2.2.1 (c := 41) (x := 41) rfl (by omega) (by omega) q2
          have h74 : m4 38 7 = nI (o + 1) := by rw [j2.2.2.2]; exact hl3.2.2.2.2.2.1
          rw [pb_r]
          refine jK_s (m' := um_w m4 38 7 (m4 38 7 - 1)) (by rw [j1, ubi_mk]) ⟨⟨rg_4 (rg_tr (rg_tr hg2 i2.1.1) (rg_0 j2.1)) (by omega) _, ?_, ?_, ?_⟩, ?_, fun k hk => ?_⟩
          · rw [um_w_k (by omega)]
            exact j2.2.1
          · rw [um_w_k (by omega)]
            exact j2.2.2.1
          · rw [um_w_s, h74, nI_pred, h7]
          · rw [um_w_k (by omega), j2.1.2 25 (fun h => h) (by omega)]
            exact i2.2.1
          · rw [um_w_c (by omega), um_w_c (by omega), j2.1.1 45 (fun h => h) (by omega), j2.1.1 46 (fun h => h) (by omega)]
            exact i2.2.2 k hk
  · rw [if_neg h2, r_here2 hA hpN, ubi_mk, r_digitH hA, ubi_mk, ite_bi0]
    by_cases h1 : atD b N p = true
    · rw [if_pos h1, if_pos h1]
      cases q1 : pNum b N 0 1000 p with
      | inl e =>
        obtain ⟨m2, g1, g2, g3⟩ := r_num_f hA1 hs hp1 hf1 (lo := 0) (hi := 1000) (x := 0) (y := 999) rfl rfl (by omega) (by omega) (by rw [pNum_sk]; exact q1)
        have he := pNum_e hpN q1
        rw [pb_l]
        refine jK_f ?_ (rb_tr hk1.1.1 (rb_0 g2))
        rw [g1, ubi_mk, r_emit_b (by omega) g2.2.1, ubi_mk]
      | inr v =>
        obtain ⟨v, p2⟩ := v
        obtain ⟨m2, g1, g2⟩ := r_num_t hA1 hs hp1 hf1 (lo := 0) (hi := 1000) (x := 0) (y := 999) rfl rfl (by omega) (by omega) (by rw [pNum_sk]; exact q1)
        have gp := pNum_pos hpN q1
        obtain ⟨m3, i1, i2⟩ := r_emit_t (a := v) (x := 0) (y := nI v) (jS_t hk1 g2) (by show n < 150; omega) (by unfold rk; rw [if_pos (by omega)]; rfl) (by unfold ro; rw [if_pos (by omega)])
        rw [pb_r]
        refine jK_s ?_ i2
        rw [g1, ubi_mk, i1, ubi_mk]
    · rw [if_neg h1, if_neg h1, if_neg h2, r_word2 hA hpN, ubi_mk, r_of (w := 3) (by omega), ubi_mk, ite_p (wv_eq (w := 3) (by omega) hA.1), r_word2 hA hpN, ubi_mk, r_of (w := 4) (by omega), ubi_mk, ite_p (wv_eq (w := 4) (by omega) hA.1), r_nmW (M1 := M) hA hpN, ubi_mk]
      have how := opW_ok b (sk b N p) (wE b N (sk b N p))
      have two : ∀ (k a : Nat) (x y : Int32), x = nI k → y = nI (rk a) → 2005 ≤ a → a ≤ 2006 → opW b (sk b N p) (wE b N (sk b N p)) = a → sk b N p + k = wE b N (sk b N p) → jK M (ubi (f_X8_readTwo recR (um_w M 38 4 (nI (sk b N p))) x y) (fun m40 r41 => some (m40, ()))) (if opW b (sk b N p) (wE b N (sk b N p)) = 0 then (if nmW b (sk b N p) (wE b N (sk b N p)) = 8 then .inl (1, sk b N p) else .inr (wE b N (sk b N p), n + 1, un_ A n (1000 + nmW b (sk b N p) (wE b N (sk b N p)))))
  else (if 6 ≤ o then .inl (3, sk b N p) else pb (pSign b N 91 (wE b N (sk b N p))) (fun p1 => pb (rec (o + 1) (p1, n, A)) (fun s1 => pb (pSign b N 44 s1.1) (fun p2 => pb (rec (o + 1) (p2, s1.2)) (fun s2 => pb (pSign b N 93 s2.1) (fun p3 => .inr (p3, s2.2.1 + 1, un_ s2.2.2 s2.2.1 (opW b (sk b N p) (wE b N (sk b N p))))))))))) := by
        intro k a x y hx hy ha1 ha2 hoa hke
        rw [if_neg (by omega), hoa]
        unfold f_X8_readTwo
        by_cases h6 : 6 ≤ o
        · obtain ⟨m3, z1, z2⟩ := r_open_f (x := x) hf1 hp1 (by omega) h71 (by omega)
          have z3 : (um_w m3 38 7 (m3 38 7 - 1)) 38 5 = nI (sk b N p) := by rw [um_w_k (by omega)]; exact z2.2.1
          rw [if_pos h6]
          refine jK_f ?_ (rb_7 (rb_tr hk1.1.1 (rb_0 z2)) (m3 38 7 - 1))
          rw [z1, ubi_mk, r_sign_b (by omega) z2.2.1, ubi_mk, hB m3 _ (by omega) z2.2.1, ubi_mk, r_sign_b (by omega) z2.2.1, ubi_mk, hB m3 _ (by omega) z2.2.1, ubi_mk, r_sign_b (by omega) z2.2.1, ubi_mk, r_emit_b (by omega) z3, ubi_mk, ubi_mk]
        · rw [if_neg h6]
          have hop := r_open_t (x := x) (k := k) hf1 hp1 h71 (by omega) hx
          rw [um_w_w, hke] at hop
          generalize hM2 : um_w (um_w M 38 4 (nI (wE b N (sk b N p)))) 38 7 (nI (o + 1)) = M2 at hop
          have hg2 : rg Rl Jl M M2 := by
            subst hM2
            exact rg_4 (rg_4 (rg_rf _ _ _) (by omega) _) (by omega) _
          have hl2 : rS b N (o + 1) M2 (wE b N (sk b N p), n, A) := by
            refine ⟨rA_g (C := Rl) (J := Jl) (show ¬ (40 = 45 ∨ 40 = 46) by omega) (show ¬ (3 = 25) by omega) hA hg2, ?_, ?_, hw, by show n ≤ wE b N (sk b N p); omega, ?_, ?_, fun k hk => ?_⟩
            · subst hM2
              rw [um_w_k (by omega), um_w_s]
            · subst hM2
              rw [um_w_k (by omega), um_w_k (by omega)]
              exact hf
            · subst hM2
              exact um_w_s _ _ _ _
            · subst hM2
              rw [um_w_k (by omega), um_w_k (by omega)]
              exact hl.2.2.2.2.2.2.1
            · subst hM2
              rw [um_w_c (by omega), um_w_c (by omega), um_w_c (by omega), um_w_c (by omega)]
              exact hl.2.2.2.2.2.2.2 k hk
          -- what follows a fault
          have bad : ∀ (m4 : Um) (e : Nat × Nat), e.2 ≤ N → rb Rl Jl M m4 e → jK M (ubi (some (m4, ())) (fun m16 r17 => ubi (f_X8_emit (um_w m16 38 7 ((m16 38 7) - 1)) y 0) (fun m19 r20 => some (m19, ())))) (.inl e) := by
            intro m4 e he hb
            have z3 : (um_w m4 38 7 (m4 38 7 - 1)) 38 5 = nI e.2 := by rw [um_w_k (by omega)]; exact hb.2.1
            refine jK_f ?_ (rb_7 hb (m4 38 7 - 1))
            rw [ubi_mk, r_emit_b (by omega) z3, ubi_mk]
          have flat : ∀ f : Option (Um × Unit), ubi f (fun m40 r41 => some (m40, ())) = f := by
            intro f
            cases f with
            | none => rfl
            | some q => rfl
          rw [flat, hop, ubi_mk]
          cases q1 : pSign b N 91 (wE b N (sk b N p)) with
          | inl e =>
            obtain ⟨m3, i1, i2, i3⟩ := r_sign_f hl2.1 hw hl2.2.1 hl2.2.2.1 (c := 91) (x := 91) rfl (by omega) (by omega) q1
            have he := pSign_e hw q1
            rw [pb_l, i1, ubi_mk, hB m3 _ (by omega) i2.2.1, ubi_mk, r_sign_b (by omega) i2.2.1, ubi_mk, hB m3 _ (by omega) i2.2.1, ubi_mk, r_sign_b (by omega) i2.2.1]
            exact bad m3 e he (rb_tr hg2 (rb_0 i2))
          | inr p1 =>
            obtain ⟨m3, i1, i2⟩ := r_sign_t hl2.1 hw hl2.2.1 hl2.2.2.1 (c := 91) (x := 91) rfl (by omega) (by omega) q1
            have gp1 := pSign_pos q1
            have hk3 : jS M2 m3 (p1, n, A) := jS_t (jS_rf hl2) i2
            have hl3 := jS_l hl2 hk3 gp1.2 (by show n ≤ p1; omega)
            have hr := hR (by omega) m3 _ hl3
            have hq := hQ (p1, n, A) gp1.2
            rw [pb_r, i1, ubi_mk]
            cases q2 : rec (o + 1) (p1, n, A) with
            | inl e =>
              obtain ⟨m4, j1, j2⟩ := hr.1 e q2
              have he := hq.1 e q2
              rw [pb_l, j1, ubi_mk, r_sign_b (by omega) j2.2.1, ubi_mk, hB m4 _ (by omega) j2.2.1, ubi_mk, r_sign_b (by omega) j2.2.1]
              exact bad m4 e he (rb_tr (rg_tr hg2 hk3.1.1) j2)
            | inr s1 =>
              obtain ⟨m4, j1, j2⟩ := hr.2 s1 q2
              have hk4 := jS_tr hk3 j2
              obtain ⟨a1, a2, a3, a4, a5⟩ := hq.2 s1 q2
              have a3' : s1.2.1 + p1 ≤ n + s1.1 := a3
              have a1' : p1 < s1.1 := a1
              have hl4 := jS_l hl2 hk4 a2 (by omega)
              rw [pb_r, j1, ubi_mk]
              cases q3 : pSign b N 44 s1.1 with
              | inl e =>
                obtain ⟨m5, l1, l2, l3⟩ := r_sign_f hl4.1 a2 hl4.2.1 hl4.2.2.1 (c := 44) (x := 44) rfl (by omega) (by omega) q3
                have he := pSign_e a2 q3
                rw [pb_l, l1, ubi_mk, hB m5 _ (by omega) l2.2.1, ubi_mk, r_sign_b (by omega) l2.2.1]
                exact bad m5 e he (rb_tr (rg_tr hg2 hk4.1.1) (rb_0 l2))
              | inr p2 =>
                obtain ⟨m5, l1, l2⟩ := r_sign_t hl4.1 a2 hl4.2.1 hl4.2.2.1 (c := 44) (x := 44) rfl (by omega) (by omega) q3
                have gp2 := pSign_pos q3
                have hk5 := jS_t hk4 l2
                have hl5 := jS_l hl2 hk5 gp2.2 (by show s1.2.1 ≤ p2; omega)
                have hr2 := hR (by omega) m5 _ hl5
                have hq2 := hQ (p2, s1.2) gp2.2
                rw [pb_r, l1, ubi_mk]
                cases q4 : rec (o + 1) (p2, s1.2) with
                | inl e =>
                  obtain ⟨m6, n1, n2⟩ := hr2.1 e q4
                  have he := hq2.1 e q4
                  rw [pb_l, n1, ubi_mk, r_sign_b (by omega) n2.2.1]
                  exact bad m6 e he (rb_tr (rg_tr hg2 hk5.1.1) n2)
                | inr s2 =>
                  obtain ⟨m6, n1, n2⟩ := hr2.2 s2 q4
                  have hk6 := jS_tr hk5 n2
                  obtain ⟨c1, c2, c3, c4, c5⟩ := hq2.2 s2 q4
                  have c3' : s2.2.1 + p2 ≤ s1.2.1 + s2.1 := c3
                  have c1' : p2 < s2.1 := c1
                  have hl6 := jS_l hl2 hk6 c2 (by omega)
                  rw [pb_r, n1, ubi_mk]
                  cases q5 : pSign b N 93 s2.1 with
                  | inl e =>
                    obtain ⟨m7, r1, r2, r3⟩ := r_sign_f hl6.1 c2 hl6.2.1 hl6.2.2.1 (c := 93) (x := 93) rfl (by omega) (by omega) q5
                    have he := pSign_e c2 q5
                    rw [pb_l, r1]
                    exact bad m7 e he (rb_tr (rg_tr hg2 hk6.1.1) (rb_0 r2))
                  | inr p3 =>
                    obtain ⟨m7, r1, r2⟩ := r_sign_t hl6.1 c2 hl6.2.1 hl6.2.2.1 (c := 93) (x := 93) rfl (by omega) (by omega) q5
                    have gp3 := pSign_pos q5
                    have hk7 := jS_t hk6 r2
                    have h77 : m7 38 7 = nI (o + 1) := by rw [r2.2.2.2]; exact hl6.2.2.2.2.2.1
                    have hk8 : jS M (um_w m7 38 7 (m7 38 7 - 1)) (p3, s2.2) := by
                      refine ⟨⟨rg_4 (rg_tr hg2 hk7.1.1) (by omega) _, ?_, ?_, ?_⟩, ?_, fun k hk => ?_⟩
                      · rw [um_w_k (by omega)]
                        exact hk7.1.2.1
                      · rw [um_w_k (by omega)]
                        exact hk7.1.2.2.1
                      · rw [um_w_s, h77, nI_pred, h7]
                      · rw [um_w_k (by omega)]
                        exact hk7.2.1
                      · rw [um_w_c (by omega), um_w_c (by omega)]
                        exact hk7.2.2 k hk
                    obtain ⟨m8, t1, t2⟩ := r_emit_t (a := a) (x := y) (y := 0) hk8 (by show s2.2.1 < 150; omega) hy (by rw [rk_op (by omega)]; rfl)
                    rw [pb_r]
                    refine jK_s ?_ t2
                    rw [r1, ubi_mk, t1, ubi_mk]
      by_cases w3 : wIs b (sk b N p) (wE b N (sk b N p)) 3 = true
      · rw [if_pos w3]
        have hlen : wE b N (sk b N p) - sk b N p = 5 := wIs_len w3
        exact two 5 2005 5 6 rfl rfl (by omega) (by omega) (by unfold opW; rw [if_pos w3]) (by omega)
      · rw [if_neg w3]
        by_cases w4 : wIs b (sk b N p) (wE b N (sk b N p)) 4 = true
        · rw [if_pos w4]
          have hlen : wE b N (sk b N p) - sk b N p = 4 := wIs_len w4
          exact two 4 2006 4 7 rfl rfl (by omega) (by omega) (by unfold opW; rw [if_neg w3, if_pos w4]) (by omega)
        · have h3 : opW b (sk b N p) (wE b N (sk b N p)) = 0 := by
            unfold opW
            rw [if_neg w3, if_neg w4]
          rw [if_neg w4, if_pos h3]
          have hnw := nmW_ok b (sk b N p) (wE b N (sk b N p))
          unfold f_X8_readUnit_b135
          by_cases h4 : nmW b (sk b N p) (wE b N (sk b N p)) = 8
          · obtain ⟨m3, z1, z2, z3, z4⟩ := r_wrong hf1 (k := 1) (q := sk b N p) (x := 1) (y := nI (sk b N p)) rfl rfl
            rw [if_pos h4, if_pos rfl, if_pos h4]
            refine jK_f ?_ (rb_tr hk1.1.1 (rb_0 z2))
            rw [um_w_s, z1, ubi_mk, r_fine_f (by omega) z2.2.1, ubi_mk, if_pos rfl]
          · obtain ⟨w, hw1, hw2⟩ := hnw.2 (by omega)
            have hwp := wIs_pos hw1 hw2
            have hpass : f_X8_pass (um_w M 38 4 (nI (sk b N p))) = some (um_w M 38 4 (nI (wE b N (sk b N p))), ()) := by
              rw [r_pass hA1 hs hp1, um_w_w]
            have hk2 : jS M (um_w M 38 4 (nI (wE b N (sk b N p)))) (wE b N (sk b N p), n, A) := jS_t (jS_rf hl) (w4_k hf _)
            obtain ⟨m3, i1, i2⟩ := r_emit_t (a := 1000 + nmW b (sk b N p) (wE b N (sk b N p))) (x := 1) (y := nI (nmW b (sk b N p) (wE b N (sk b N p)))) hk2 (by show n < 150; omega) (by unfold rk; rw [if_neg (by omega), if_pos (by omega)]; rfl) (by unfold ro; rw [if_neg (by omega), if_pos (by omega), Nat.add_sub_cancel_left])
            rw [if_neg h4, if_neg (fun q => (nI_ne1 (by omega)).mp q), if_neg h4]
            refine jK_s ?_ i2
            rw [r_fine_t hf1, ubi_mk, if_neg i1_0, hpass, ubi_mk, i1, ubi_mk]
            rfl
theorem r_lp {op : Nat → Nat} {unit : Ls → Pr_ Ls} {o : Nat} {unitR : Um → Option (Um × Unit)} {F : Nat → Um → Option (Um × Unit)} (hN : N ≤ 150) (hop : ∀ p, op p = 0 ∨ (2000 ≤ op p ∧ op p ≤ 2004)) (hhit : ∀ p, ¬ op p = 0 → sk b N p < N) (hU : ∀ m st, rS b N o m st → jK m (unitR m) (unit st)) (hQ : ∀ st, st.1 ≤ N → lQ N st (unit st)) (hFb : ∀ fuel m q, q < 2 ^ 31 → m 38 5 = nI q → F (fuel + 1) m = some (m, ())) (hF : ∀ fuel m st, rS b N o m st → F (fuel + 1) m = if op st.1 = 0 then some (um_w m 38 4 (nI (sk b N st.1)), ()) else ubi (unitR (um_w m 38 4 (nI (sk b N st.1 + 1)))) (fun m2 r3 => ubi (f_X8_emit m2 (nI (rk (op st.1))) 0) (fun m6 r7 => F fuel m6))) : ∀ (f fuel : Nat) (m : Um) (st : Ls), N - st.1 < f → N - st.1 < fuel → rS b N o m st → jK m (F fuel m) (pLp b N op unit f st)
  | 0, _, _, _, hf, _, _ => absurd hf (Nat.not_lt_zero _)
  | _, 0, _, _, _, hf, _ => absurd hf (Nat.not_lt_zero _)
  | f + 1, fuel + 1, m, st, hf, hfu, hl => by
    have hpN := hl.2.2.2.1
    have hnp := hl.2.2.2.2.1
    have hsg := sk_ge b N st.1
    have hs := sk_le (b := b) hpN
    rw [hF fuel m st hl, pLp]
    by_cases h0 : op st.1 = 0
    · rw [if_pos h0, if_pos h0]
      exact jK_s rfl (jS_t (jS_rf hl) (w4_k hl.2.2.1 _))
    · rw [if_neg h0, if_neg h0]
      have hh := hhit st.1 h0
      have ho := hop st.1
      have hk1 : jS m (um_w m 38 4 (nI (sk b N st.1 + 1))) (sk b N st.1 + 1, st.2) := jS_t (jS_rf hl) (w4_k hl.2.2.1 _)
      have hl1 := jS_l hl hk1 (by show sk b N st.1 + 1 ≤ N; omega) (by show st.2.1 ≤ sk b N st.1 + 1; omega)
      have hu := hU _ _ hl1
      have hq := hQ (sk b N st.1 + 1, st.2) (by show sk b N st.1 + 1 ≤ N; omega)
      cases q1 : unit (sk b N st.1 + 1, st.2) with
      | inl e =>
        obtain ⟨m2, g1, g2⟩ := hu.1 e q1
        have he := hq.1 e q1
        obtain ⟨fu, hfu'⟩ : ∃ fu, fuel = fu + 1 := ⟨fuel - 1, by omega⟩
        rw [pb_l]
        refine jK_f ?_ (rb_tr hk1.1.1 g2)
        rw [g1, ubi_mk, r_emit_b (by omega) g2.2.1, ubi_mk, hfu', hFb fu m2 _ (by omega) g2.2.1]
      | inr s1 =>
        obtain ⟨m2, g1, g2⟩ := hu.2 s1 q1
        obtain ⟨a1, a2, a3, a4, a5⟩ := hq.2 s1 q1
        have a1' : sk b N st.1 + 1 < s1.1 := a1
        have a3' : s1.2.1 + (sk b N st.1 + 1) ≤ st.2.1 + s1.1 := a3
        have hk2 := jS_tr hk1 g2
        obtain ⟨m3, i1, i2⟩ := r_emit_t (a := op st.1) (x := nI (rk (op st.1))) (y := 0) hk2 (by omega) rfl (by rw [rk_op (by omega)]; rfl)
        have hl3 := jS_l hl i2 a2 (by show s1.2.1 + 1 ≤ s1.1; omega)
        rw [pb_r, g1, ubi_mk, i1, ubi_mk]
        exact jK_tr i2 (r_lp hN hop hhit hU hQ hFb hF f fuel m3 (s1.1, s1.2.1 + 1, un_ s1.2.2 s1.2.1 (op st.1)) (by show N - s1.1 < f; omega) (by show N - s1.1 < fuel; omega) hl3)
theorem r_prodL_b {recR : Um → Option (Um × Unit)} (fuel : Nat) (m : Um) (q : Nat) (hq : q < 2 ^ 31) (h : m 38 5 = nI q) : f_X8_readProduct_b4 recR (fuel + 1) m = some (m, ()) := by
  unfold f_X8_readProduct_b4 f_X8_readProduct_b90
  rw [r_fine_f hq h, ubi_mk, if_pos rfl]
theorem r_sumL_b {recR : Um → Option (Um × Unit)} (fuel : Nat) (m : Um) (q : Nat) (hq : q < 2 ^ 31) (h : m 38 5 = nI q) : f_X8_readSum_b4 recR (fuel + 1) m = some (m, ()) := by
  unfold f_X8_readSum_b4 f_X8_readSum_b67
  rw [r_fine_f hq h, ubi_mk, if_pos rfl]
theorem UF1 : UF = 2999 + 1 := by decide
theorem r_prod {recR : Um → Option (Um × Unit)} {rec : Nat → Ls → Pr_ Ls} {o : Nat} {st : Ls} (hN : N ≤ 150) (ho : o ≤ 6) (hR : o < 6 → ∀ m st, rS b N (o + 1) m st → jK m (recR m) (rec (o + 1) st)) (hB : ∀ m q, q < 2 ^ 31 → m 38 5 = nI q → recR m = some (m, ())) (hQ : ∀ st, st.1 ≤ N → lQ N st (rec (o + 1) st)) (hl : rS b N o M st) : jK M (f_X8_readProduct recR M) (pPr b N rec o st) := by
  unfold f_X8_readProduct pPr
  have hu := r_unit (b := b) hN ho hR hB hQ hl
  have hq := pUn_ok (b := b) (o := o) hQ hl.2.2.2.1
  cases q1 : pUn b N rec o st with
  | inl e =>
    obtain ⟨m2, g1, g2⟩ := hu.1 e q1
    have he := hq.1 e q1
    rw [pb_l]
    refine jK_f ?_ g2
    rw [g1, ubi_mk, UF1, r_prodL_b _ m2 _ (by omega) g2.2.1]
  | inr s1 =>
    obtain ⟨m2, g1, g2⟩ := hu.2 s1 q1
    obtain ⟨a1, a2, a3, a4, a5⟩ := hq.2 s1 q1
    have hnp := hl.2.2.2.2.1
    have hl2 := jS_l hl g2 a2 (by omega)
    rw [pb_r, g1, ubi_mk]
    refine jK_tr g2 (r_lp (F := fun fuel m => f_X8_readProduct_b4 recR fuel m) (unitR := fun m => f_X8_readUnit recR m) (o := o) hN mlO_ok mlO_hit (fun m st h => r_unit hN ho hR hB hQ h) (fun st h => pUn_ok hQ h) (fun fuel m q h1 h2 => r_prodL_b fuel m q h1 h2) ?_ 160 UF m2 s1 (by omega) (by show N - s1.1 < 3000; omega) hl2)
    intro fuel m st hl
    have hpN := hl.2.2.2.1
    have hp := hl.2.1
    show f_X8_readProduct_b4 recR (fuel + 1) m = _
    rw [f_X8_readProduct_b4, r_fine_t hl.2.2.1, ubi_mk, if_neg i1_0, r_here hl.1 hpN hp, ubi_mk, r_here2 hl.1 hpN, ubi_mk, r_here2 hl.1 hpN, ubi_mk, ite_p (hrc_eq hl.1 (c := 42) (x := 42) rfl (by omega) (by omega)), ite_p (hrc_eq hl.1 (c := 47) (x := 47) rfl (by omega) (by omega)), ite_p (hrc_eq hl.1 (c := 37) (x := 37) rfl (by omega) (by omega))]
    unfold mlO f_X8_readProduct_b38 f_X8_readProduct_b66 f_X8_readProduct_b90
    rw [r_here2 hl.1 hpN, ubi_mk, r_here2 hl.1 hpN, ubi_mk, ite_p (hrc_eq hl.1 (c := 42) (x := 42) rfl (by omega) (by omega)), ite_p (hrc_eq hl.1 (c := 47) (x := 47) rfl (by omega) (by omega)), um_w_s, um_w_w, nI_1]
    by_cases h1 : ht_ b N 42 st.1 = true
    · simp only [h1, if_true]
      rw [if_neg (by omega)]
      rfl
    · by_cases h2 : ht_ b N 47 st.1 = true
      · simp only [h1, h2, Bool.false_eq_true, if_true, if_false]
        rw [if_neg (by omega)]
        rfl
      · by_cases h3 : ht_ b N 37 st.1 = true
        · simp only [h1, h2, h3, Bool.false_eq_true, if_true, if_false]
          rw [if_neg (by omega)]
          rfl
        · simp only [h1, h2, h3, Bool.false_eq_true, if_true, if_false]
theorem r_prod_b {recR : Um → Option (Um × Unit)} {q : Nat} (hq : q < 2 ^ 31) (h : M 38 5 = nI q) : f_X8_readProduct recR M = some (M, ()) := by
  unfold f_X8_readProduct
  rw [r_unit_b hq h, ubi_mk, UF1, r_prodL_b _ M _ hq h]
theorem r_sum {recR : Um → Option (Um × Unit)} {rec : Nat → Ls → Pr_ Ls} {o : Nat} {st : Ls} (hN : N ≤ 150) (ho : o ≤ 6) (hR : o < 6 → ∀ m st, rS b N (o + 1) m st → jK m (recR m) (rec (o + 1) st)) (hB : ∀ m q, q < 2 ^ 31 → m 38 5 = nI q → recR m = some (m, ())) (hQ : ∀ st, st.1 ≤ N → lQ N st (rec (o + 1) st)) (hl : rS b N o M st) : jK M (f_X8_readSum_e recR M) (pSuE b N rec o st) := by
  unfold f_X8_readSum_e pSuE
  have hu := r_prod (b := b) hN ho hR hB hQ hl
  have hq := pPr_ok (b := b) (o := o) hQ hl.2.2.2.1
  cases q1 : pPr b N rec o st with
  | inl e =>
    obtain ⟨m2, g1, g2⟩ := hu.1 e q1
    have he := hq.1 e q1
    rw [pb_l]
    refine jK_f ?_ g2
    rw [g1, ubi_mk, UF1, r_sumL_b _ m2 _ (by omega) g2.2.1]
  | inr s1 =>
    obtain ⟨m2, g1, g2⟩ := hu.2 s1 q1
    obtain ⟨a1, a2, a3, a4, a5⟩ := hq.2 s1 q1
    have hnp := hl.2.2.2.2.1
    have hl2 := jS_l hl g2 a2 (by omega)
    rw [pb_r, g1, ubi_mk]
    refine jK_tr g2 (r_lp (F := fun fuel m => f_X8_readSum_b4 recR fuel m) (unitR := fun m => f_X8_readProduct recR m) (o := o) hN adO_ok adO_hit (fun m st h => r_prod hN ho hR hB hQ h) (fun st h => pPr_ok hQ h) (fun fuel m q h1 h2 => r_sumL_b fuel m q h1 h2) ?_ 160 UF m2 s1 (by omega) (by show N - s1.1 < 3000; omega) hl2)
    intro fuel m st hl
    have hpN := hl.2.2.2.1
    have hp := hl.2.1
    show f_X8_readSum_b4 recR (fuel + 1) m = _
    rw [f_X8_readSum_b4, r_fine_t hl.2.2.1, ubi_mk, if_neg i1_0, r_here hl.1 hpN hp, ubi_mk, r_here2 hl.1 hpN, ubi_mk, ite_p (hrc_eq hl.1 (c := 43) (x := 43) rfl (by omega) (by omega)), ite_p (hrc_eq hl.1 (c := 45) (x := 45) rfl (by omega) (by omega))]
    unfold adO f_X8_readSum_b29 f_X8_readSum_b43 f_X8_readSum_b67
    rw [r_here2 hl.1 hpN, ubi_mk, ite_p (hrc_eq hl.1 (c := 43) (x := 43) rfl (by omega) (by omega)), um_w_s, um_w_w, nI_1]
    by_cases h1 : ht_ b N 43 st.1 = true
    · simp only [h1, if_true]
      rw [if_neg (by omega)]
      rfl
    · by_cases h2 : ht_ b N 45 st.1 = true
      · simp only [h1, h2, Bool.false_eq_true, if_true, if_false]
        rw [if_neg (by omega)]
        rfl
      · simp only [h1, h2, Bool.false_eq_true, if_true, if_false]
theorem r_sum_b {D q : Nat} (hq : q < 2 ^ 31) (h : M 38 5 = nI q) : f_X8_readSum (D + 1) M = some (M, ()) := by
  rw [f_X8_readSum]
  unfold f_X8_readSum_e
  rw [r_prod_b hq h, ubi_mk, UF1, r_sumL_b _ M _ hq h]
theorem r_readSum (hN : N ≤ 150) : ∀ (d D o : Nat) (m : Um) (st : Ls), d + o = 8 → o ≤ 6 → d ≤ D → rS b N o m st → jK m (f_X8_readSum D m) (pSu b N d o st)
  | 0, D, o, m, st, h, ho, _, _ => by omega
  | d + 1, 0, o, m, st, h, ho, hD, _ => by omega
  | d + 1, D + 1, o, m, st, h, ho, hD, hl => by
    rw [f_X8_readSum, pSu]
    refine r_sum hN ho (fun ho6 m st hl => r_readSum hN d D (o + 1) m st (by omega) (by omega) (by omega) hl) (fun m q h1 h2 => ?_) (fun st hst => pSu_ok d (o + 1) st hst) hl
    obtain ⟨D', rfl⟩ : ∃ D', D = D' + 1 := ⟨D - 1, by omega⟩
    exact r_sum_b h1 h2
end LAWR
