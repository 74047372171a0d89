/-! LAWS: the class reads -/
theorem sk_sk (b : Nat → Nat) (N p : Nat) : sk b N (sk b N p) = sk b N p := scE_id b bS N p
theorem ht_sk (b : Nat → Nat) (N c p : Nat) : ht_ b N c (sk b N p) = ht_ b N c p := by
  unfold ht_
  rw [sk_sk]
theorem pNum_sk (b : Nat → Nat) (N lo hi p : Nat) : pNum b N lo hi (sk b N p) = pNum b N lo hi p := by
  unfold pNum atD
  rw [sk_sk]
theorem pSign_sk (b : Nat → Nat) (N c p : Nat) : pSign b N c (sk b N p) = pSign b N c p := by
  unfold pSign
  rw [ht_sk, sk_sk]
theorem pkc_sk (b : Nat → Nat) (N p : Nat) : pkc b N (sk b N p) = pkc b N p := by
  unfold pkc
  rw [sk_sk]
theorem ht_at {b : Nat → Nat} {N c p : Nat} (h : ht_ b N c p = true) (hc : c < 48) : ¬ atD b N p = true := by
  have h1 := of_decide_eq_true h
  intro q
  have h2 := dg (of_decide_eq_true q).2
  omega
abbrev Cl : Nat → Prop := fun c => c = 13 ∨ c = 15
def kF (m m' : Um) (e : Nat × Nat) : Prop := tf Cl m m' e ∧ ∀ j, j ≠ 3 → m' 13 j = m 13 j
def kS (m m' : Um) (st : Ls) : Prop := tk Cl m m' st.1 ∧ (∀ j, j ≠ 3 → m' 13 j = m 13 j) ∧ m' 13 3 = nI st.2.1 ∧ ∀ k, k < st.2.1 → m' 15 k = nI (st.2.2 k)
def lS (b : Nat → Nat) (N : Nat) (m : Um) (st : Ls) : Prop := tA b N m ∧ m 1 3 = nI st.1 ∧ st.1 ≤ N ∧ st.2.1 ≤ st.1 ∧ m 13 3 = nI st.2.1 ∧ ∀ k, k < st.2.1 → m 15 k = nI (st.2.2 k)
def eK (m : Um) (f : Option (Um × Int32)) (r : Pr_ Ls) : Prop := (∀ e, r = .inl e → ∃ m', f = some (m', 0) ∧ kF m m' e) ∧ ∀ st, r = .inr st → ∃ m', f = some (m', 1) ∧ kS m m' st
theorem kS_rf {b : Nat → Nat} {N : Nat} {m : Um} {st : Ls} (h : lS b N m st) : kS m m st := ⟨⟨tg_rf _ _, h.2.1, rfl⟩, fun _ _ => rfl, h.2.2.2.2.1, h.2.2.2.2.2⟩
theorem kS_tr {m m1 m2 : Um} {s1 s2 : Ls} (h1 : kS m m1 s1) (h2 : kS m1 m2 s2) : kS m m2 s2 := ⟨tk_tr h1.1 h2.1, fun j hj => by rw [h2.2.1 j hj, h1.2.1 j hj], h2.2.2⟩
theorem kF_tr {m m1 m2 : Um} {s1 : Ls} {e : Nat × Nat} (h1 : kS m m1 s1) (h2 : kF m1 m2 e) : kF m m2 e := ⟨tf_tr h1.1 h2.1, fun j hj => by rw [h2.2 j hj, h1.2.1 j hj]⟩
theorem eK_tr {m m1 : Um} {s1 : Ls} {f : Option (Um × Int32)} {r : Pr_ Ls} (h1 : kS m m1 s1) (h : eK m1 f r) : eK m f r := ⟨fun e he => (h.1 e he).elim (fun m' hm => ⟨m', hm.1, kF_tr h1 hm.2⟩), fun st he => (h.2 st he).elim (fun m' hm => ⟨m', hm.1, kS_tr h1 hm.2⟩)⟩
theorem kS_t {m m1 m2 : Um} {st : Ls} {p : Nat} (h : kS m m1 st) (h2 : tk cN0 m1 m2 p) : kS m m2 (p, st.2) := ⟨tk_tr h.1 (tk_z h2), fun j hj => by rw [h2.1.1 13 (fun h => h) (by omega), h.2.1 j hj], by rw [h2.1.1 13 (fun h => h) (by omega)]; exact h.2.2.1, fun k hk => by rw [h2.1.1 15 (fun h => h) (by omega)]; exact h.2.2.2 k hk⟩
theorem kF_t {m m1 m2 : Um} {st : Ls} {e : Nat × Nat} (h : kS m m1 st) (h2 : tf cN0 m1 m2 e) : kF m m2 e := ⟨tf_tr h.1 (tf_0 h2), fun j hj => by rw [h2.1.1 13 (fun h => h) (by omega), h.2.1 j hj]⟩
theorem kS_l {b : Nat → Nat} {N : Nat} {m m1 : Um} {st0 st : Ls} (hl : lS b N m st0) (hk : kS m m1 st) (h1 : st.1 ≤ N) (h2 : st.2.1 ≤ st.1) : lS b N m1 st := ⟨tA_g (C := Cl) (show ¬ (2 = 13 ∨ 2 = 15) by omega) hl.1 hk.1.1, hk.1.2.1, h1, h2, hk.2.2.1, hk.2.2.2⟩
theorem kS_put {m m1 : Um} {st : Ls} {a : Nat} {x : Int32} (hk : kS m m1 st) (hn : st.2.1 < 150) (hx : x = nI a) : ∃ m2, f_X2_put m1 x = some (m2, 1) ∧ kS m m2 (st.1, st.2.1 + 1, un_ st.2.2 st.2.1 a) := by
  subst hx
  refine ⟨um_w (um_w m1 15 st.2.1 (nI a)) 13 3 (nI (st.2.1 + 1)), ?_, tk_w (C := Cl) (c := 13) (tk_w (C := Cl) (c := 15) hk.1 (Or.inr rfl) (by omega) _ _) (Or.inl rfl) (by omega) _ _, fun j hj => ?_, um_w_s _ _ _ _, fun k hk2 => ?_⟩
  · unfold f_X2_put f_X2_put_b30
    rw [hk.2.2.1, if_neg (nle_lit (k := 150) hn (by decide)), uin_n hn (by omega), ugd_t, nI_clamp (by omega), um_w_c (show 13 ≠ 15 by omega), hk.2.2.1, nI_1]
  · rw [um_w_k hj, um_w_c (by omega), hk.2.1 j hj]
  · have hk3 : k < st.2.1 + 1 := hk2
    rw [um_w_c (by omega)]
    show _ = nI (un_ st.2.2 st.2.1 a k)
    by_cases hq : k = st.2.1
    · rw [hq, um_w_s, un_s]
    · rw [um_w_k hq, un_n hq]
      exact hk.2.2.2 k (by omega)
section LAWC
variable {b : Nat → Nat} {N : Nat} {m : Um}
theorem e_opW {q e : Nat} (hA : tA b N m) (he : e ≤ N) (hqe : q ≤ e) (h3 : m 1 3 = nI e) (h8 : m 1 8 = nI q) : f_X2_operatorWord m = some (m, if opW b q e = 0 then -1 else nI (opW b q e)) := by
  unfold f_X2_operatorWord f_X2_operatorWord_b29 opW
  rw [e_wIs (w := 3) (by omega) hA he hqe h3 h8, ubi_mk, ite_bi0, e_wIs (w := 4) (by omega) hA he hqe h3 h8, ubi_mk, ite_bi0]
  by_cases h1 : wIs b q e 3 = true
  · rw [if_pos h1, if_pos h1, if_neg (by omega)]
    rfl
  · rw [if_neg h1, if_neg h1]
    by_cases h2 : wIs b q e 4 = true
    · rw [if_pos h2, if_pos h2, if_neg (by omega)]
      rfl
    · rw [if_neg h2, if_neg h2, if_pos rfl]
theorem e_nmW {q e : Nat} (hA : tA b N m) (he : e ≤ N) (hqe : q ≤ e) (h3 : m 1 3 = nI e) (h8 : m 1 8 = nI q) : f_X2_nameWord m = some (m, if nmW b q e = 8 then -1 else nI (nmW b q e)) := by
  have wi : ∀ i, i < 18 → f_X5_wordIs i m = some (m, bi (wIs b q e i)) := fun i hi => e_wIs hi hA he hqe h3 h8
  unfold f_X2_nameWord f_X2_nameWord_b93 nmW
  rw [wi 5 (by omega), ubi_mk, ite_bi0, wi 2 (by omega), ubi_mk, ite_bi0, wi 6 (by omega), ubi_mk, ite_bi0, wi 7 (by omega), ubi_mk, ite_bi0, wi 8 (by omega), ubi_mk, ite_bi0, wi 9 (by omega), ubi_mk, ite_bi0, wi 10 (by omega), ubi_mk, ite_bi0, wi 1 (by omega), ubi_mk, ite_bi0]
  by_cases h5 : wIs b q e 5 = true
  · simp only [h5, if_true]; rfl
  · by_cases h2 : wIs b q e 2 = true
    · simp only [h5, h2, if_true, if_false]; rfl
    · by_cases h6 : wIs b q e 6 = true
      · simp only [h5, h2, h6, if_true, if_false]; rfl
      · by_cases h7 : wIs b q e 7 = true
        · simp only [h5, h2, h6, h7, if_true, if_false]; rfl
        · by_cases h8 : wIs b q e 8 = true
          · simp only [h5, h2, h6, h7, h8, if_true, if_false]; rfl
          · by_cases h9 : wIs b q e 9 = true
            · simp only [h5, h2, h6, h7, h8, h9, if_true, if_false]; rfl
            · by_cases h10 : wIs b q e 10 = true
              · simp only [h5, h2, h6, h7, h8, h9, h10, if_true, if_false]; rfl
              · by_cases h1 : wIs b q e 1 = true
                · simp only [h5, h2, h6, h7, h8, h9, h10, h1, if_true, if_false]; rfl
                · simp only [h5, h2, h6, h7, h8, h9, h10, h1, Bool.false_eq_true, if_true, if_false]
theorem eK_f {m' : Um} {e : Nat × Nat} {f : Option (Um × Int32)} (h1 : f = some (m', 0)) (h2 : kF m m' e) : eK m f (.inl e) := ⟨fun e' he => by cases he; exact ⟨m', h1, h2⟩, fun st he => by cases he⟩
theorem eK_s {m' : Um} {st : Ls} {f : Option (Um × Int32)} (h1 : f = some (m', 1)) (h2 : kS m m' st) : eK m f (.inr st) := ⟨fun e he => (by cases he), fun st' he => by cases he; exact ⟨m', h1, h2⟩⟩
theorem e_unit {recC : Um → Int32 → Option (Um × Int32)} {rec : Nat → Ls → Pr_ Ls} {o : Nat} {st : Ls} (hN : N ≤ 150) (ho : o ≤ 6) (hR : o < 6 → ∀ m st, lS b N m st → eK m (recC m (nI (o + 1))) (rec (o + 1) st)) (hQ : ∀ st, st.1 ≤ N → lQ N st (rec (o + 1) st)) (hl : lS b N m st) : eK m (f_X2_readUnit recC m (nI o)) (pUn b N rec o st) := by
  obtain ⟨p, n, A⟩ := st
  have hA := hl.1
  have hp : m 1 3 = nI p := hl.2.1
  have hpN : p ≤ N := hl.2.2.1
  have hnp : n ≤ p := hl.2.2.2.1
  have hs := sk_le (b := b) hpN
  have hsg := sk_ge b N p
  have hw := wE_le (b := b) hs
  have hwg := wE_ge b N (sk b N p)
  have hk0 := kS_rf hl
  have hk1 : kS m (um_w m 1 3 (nI (sk b N p))) (sk b N p, n, A) := kS_t hk0 (w3_k _)
  have hA1 := tA_3 hA (sk b N p)
  have hp1 : (um_w m 1 3 (nI (sk b N p))) 1 3 = nI (sk b N p) := um_w_s _ _ _ _
  unfold f_X2_readUnit pUn
  rw [e_atD hA hpN hp, ubi_mk, ite_bi0]
  by_cases h1 : atD b N p = true
  · rw [if_pos h1, if_pos h1]
    cases q1 : pNum b N 0 1000 p with
    | inl e =>
      obtain ⟨m2, g1, g2⟩ := e_num_f hA1 hs hp1 (lo := 0) (hi := 1000) (x := 0) (y := 999) rfl rfl (by omega) (by omega) (by rw [pNum_sk]; exact q1)
      rw [pb_l]
      refine eK_f ?_ (kF_t hk1 g2)
      rw [g1, ubi_mk, if_pos rfl]
      unfold f_X2_readUnit_b33 f_X2_readUnit_b34
      rw [ub01_0, ugd_t]
    | inr v =>
      obtain ⟨v, p2⟩ := v
      obtain ⟨m2, g1, g2, g3, g4⟩ := e_num_t hA1 hs hp1 (lo := 0) (hi := 1000) (x := 0) (y := 999) rfl rfl (by omega) (by omega) (by rw [pNum_sk]; exact q1)
      have gp := pNum_pos hpN q1
      obtain ⟨m3, i1, i2⟩ := kS_put (kS_t hk1 g2) (by show n < 150; omega) g3
      rw [pb_r]
      refine eK_s ?_ i2
      rw [g1, ubi_mk, if_neg i1_0, i1, ubi_mk, if_neg i1_0]
      unfold f_X2_readUnit_b34
      rw [ub01_1, ugd_t]
  · rw [if_neg h1, if_neg h1, e_peek hA1 hs hp1, ubi_mk, um_w_w, sk_sk, pkc_sk, ite_p (pkc_eq hA (c := 40) (x := 40) rfl (by omega))]
    by_cases h2 : ht_ b N 40 p = true
    · rw [if_pos h2, if_pos h2, ite_p (show (6 ≤ nI o) = (6 ≤ o) from lit_le (k := 6) (by decide) (by omega))]
      have hh := of_decide_eq_true h2
      unfold f_X2_readUnit_b66
      by_cases h6 : 6 ≤ o
      · obtain ⟨m2, g1, g2⟩ := e_failH hA1 hs hp1 (k := 3) (x := 3) rfl
        rw [sk_sk] at g2
        rw [if_pos h6, if_pos h6]
        refine eK_f ?_ (kF_t hk1 g2)
        rw [g1, ubi_mk, ub01_0, ugd_t]
      · rw [if_neg h6, if_neg h6]
        obtain ⟨m2, g1, g2⟩ := e_sign_t hA1 hs hp1 (c := 40) (x := 40) (p' := sk b N p + 1) rfl (by omega) (by rw [pSign_sk]; unfold pSign; rw [if_pos h2])
        have hk2 := kS_t hk1 g2
        have hl2 := kS_l hl hk2 (by show sk b N p + 1 ≤ N; omega) (by show n ≤ sk b N p + 1; omega)
        have hr := hR (by omega) m2 _ hl2
        have hq := hQ (sk b N p + 1, n, A) (by show sk b N p + 1 ≤ N; omega)
        unfold f_X2_readBracket f_X2_readBracket_b31 f_X2_readBracket_b32
        rw [g1, ubi_mk, if_neg i1_0, nI_1]
        cases q1 : rec (o + 1) (sk b N p + 1, n, A) with
        | inl e =>
          obtain ⟨m3, i1, i2⟩ := hr.1 e q1
          rw [pb_l]
          refine eK_f ?_ (kF_tr hk2 i2)
          rw [i1, ubi_mk, if_pos rfl, ub01_0, ugd_t, ubi_mk, ub01_0, ugd_t]
        | inr s1 =>
          obtain ⟨m3, i1, i2⟩ := hr.2 s1 q1
          have hk3 := kS_tr hk2 i2
          obtain ⟨a1, a2, a3, a4, a5⟩ := hq.2 s1 q1
          have a3' : s1.2.1 + (sk b N p + 1) ≤ n + s1.1 := a3
          have hl3 := kS_l hl hk3 a2 (by omega)
          rw [pb_r, i1, ubi_mk, if_neg i1_0]
          cases q2 : pSign b N 41 s1.1 with
          | inl e =>
            obtain ⟨m4, j1, j2⟩ := e_sign_f hl3.1 a2 hk3.1.2.1 (c := 41) (x := 41) rfl (by omega) q2
            rw [pb_l]
            refine eK_f ?_ (kF_t hk3 j2)
            rw [j1, ubi_mk, if_pos rfl, ub01_0, ugd_t, ubi_mk, ub01_0, ugd_t]
          | inr p2 =>
            obtain ⟨m4, j1, j2⟩ := e_sign_t hl3.1 a2 hk3.1.2.1 (c := 41) (x := 41) rfl (by omega) q2
            rw [pb_r]
            refine eK_s ?_ (kS_t hk3 j2)
            rw [j1, ubi_mk, if_neg i1_0, ub01_1, ugd_t, ubi_mk, ub01_1, ugd_t]
    · obtain ⟨m2, g1, g2, g3⟩ := e_word hA1 hs hp1
      rw [sk_sk] at g2 g3
      have hk2 := kS_t hk1 g2
      have hA2 := tA_g (fun h => h) hA1 g2.1
      rw [if_neg h2, if_neg h2, g1, ubi_mk, e_opW hA2 hw hwg g2.2.1 g3, ubi_mk]
      have how := opW_ok b (sk b N p) (wE b N (sk b N p))
      by_cases h3 : opW b (sk b N p) (wE b N (sk b N p)) = 0
      · rw [if_pos h3, if_pos rfl, if_pos h3, e_nmW hA2 hw hwg g2.2.1 g3, ubi_mk]
        have hnw := nmW_ok b (sk b N p) (wE b N (sk b N p))
        unfold f_X2_readUnit_b150
        by_cases h4 : nmW b (sk b N p) (wE b N (sk b N p)) = 8
        · obtain ⟨m3, i1, i2⟩ := e_failW g3 (k := 1) (x := 1) rfl
          rw [if_pos h4, if_pos rfl, if_pos h4]
          refine eK_f ?_ (kF_t hk2 i2)
          rw [i1, ubi_mk, ub01_0, ugd_t]
        · obtain ⟨w, hw1, hw2⟩ := hnw.2 (by omega)
          have hwp := wIs_pos hw1 hw2
          obtain ⟨m3, i1, i2⟩ := kS_put (a := 1000 + nmW b (sk b N p) (wE b N (sk b N p))) hk2 (by show n < 150; omega) (x := 1000 + nI (nmW b (sk b N p) (wE b N (sk b N p)))) (lit_add 1000 _)
          rw [if_neg h4, if_neg (fun q => (nI_ne1 (by omega)).mp q), if_neg h4]
          refine eK_s ?_ i2
          rw [i1, ubi_mk, ub01_1, ugd_t]
      · rw [if_neg h3, if_neg (fun q => (nI_ne1 (by omega)).mp q), if_neg h3, ite_p (show (6 ≤ nI o) = (6 ≤ o) from lit_le (k := 6) (by decide) (by omega))]
        unfold f_X2_readUnit_b119 f_X2_readUnit_b110
        obtain ⟨w, hw1, hw2⟩ := opW_is h3
        have hwp := wIs_pos hw1 hw2
        by_cases h6 : 6 ≤ o
        · obtain ⟨m3, i1, i2⟩ := e_failW g3 (k := 3) (x := 3) rfl
          rw [if_pos h6, if_pos h6]
          refine eK_f ?_ (kF_t hk2 i2)
          rw [i1, ubi_mk, ub01_0, ugd_t]
        · rw [if_neg h6, if_neg h6]
          unfold f_X2_readTwo f_X2_readTwo_b49 f_X2_readTwo_b50 f_X2_readUnit_b119
          rw [nI_1]
          cases q1 : pSign b N 91 (wE b N (sk b N p)) with
          | inl e =>
            obtain ⟨m3, i1, i2⟩ := e_sign_f hA2 hw g2.2.1 (c := 91) (x := 91) rfl (by omega) q1
            rw [pb_l]
            refine eK_f ?_ (kF_t hk2 i2)
            rw [i1, ubi_mk, if_pos rfl, ub01_0, ugd_t, ubi_mk, if_pos rfl, ugd_t]
          | inr p1 =>
            obtain ⟨m3, i1, i2⟩ := e_sign_t hA2 hw g2.2.1 (c := 91) (x := 91) rfl (by omega) q1
            have gp1 := pSign_pos q1
            have hk3 := kS_t hk2 i2
            have hl3 := kS_l hl hk3 gp1.2 (by show n ≤ p1; omega)
            have hr := hR (by omega) m3 _ hl3
            have hq := hQ (p1, n, A) gp1.2
            rw [pb_r, i1, ubi_mk, if_neg i1_0]
            cases q2 : rec (o + 1) (p1, n, A) with
            | inl e =>
              obtain ⟨m4, j1, j2⟩ := hr.1 e q2
              rw [pb_l]
              refine eK_f ?_ (kF_tr hk3 j2)
              rw [j1, ubi_mk, if_pos rfl, ub01_0, ugd_t, ubi_mk, if_pos rfl, ugd_t]
            | inr s1 =>
              obtain ⟨m4, j1, j2⟩ := hr.2 s1 q2
              have hk4 := kS_tr hk3 j2
              obtain ⟨a1, a2, a3, a4, a5⟩ := hq.2 s1 q2
              have a3' : s1.2.1 + p1 ≤ n + s1.1 := a3
              have a1' : p1 < s1.1 := a1
              have hl4 := kS_l hl hk4 a2 (by omega)
              rw [pb_r, j1, ubi_mk, if_neg i1_0]
              cases q3 : pSign b N 44 s1.1 with
              | inl e =>
                obtain ⟨m5, l1, l2⟩ := e_sign_f hl4.1 a2 hk4.1.2.1 (c := 44) (x := 44) rfl (by omega) q3
                rw [pb_l]
                refine eK_f ?_ (kF_t hk4 l2)
                rw [l1, ubi_mk, if_pos rfl, ub01_0, ugd_t, ubi_mk, if_pos rfl, ugd_t]
              | inr p2 =>
                obtain ⟨m5, l1, l2⟩ := e_sign_t hl4.1 a2 hk4.1.2.1 (c := 44) (x := 44) rfl (by omega) q3
                have gp2 := pSign_pos q3
                have hk5 := kS_t hk4 l2
                have hl5 := kS_l hl hk5 gp2.2 (by show s1.2.1 ≤ p2; omega)
                have hr2 := hR (by omega) m5 _ hl5
                have hq2 := hQ (p2, s1.2) gp2.2
                rw [pb_r, l1, ubi_mk, if_neg i1_0]
                cases q4 : rec (o + 1) (p2, s1.2) with
                | inl e =>
                  obtain ⟨m6, n1, n2⟩ := hr2.1 e q4
                  rw [pb_l]
                  refine eK_f ?_ (kF_tr hk5 n2)
                  rw [n1, ubi_mk, if_pos rfl, ub01_0, ugd_t, ubi_mk, if_pos rfl, ugd_t]
                | inr s2 =>
                  obtain ⟨m6, n1, n2⟩ := hr2.2 s2 q4
                  have hk6 := kS_tr hk5 n2
                  obtain ⟨c1, c2, c3, c4, c5⟩ := hq2.2 s2 q4
                  have c3' : s2.2.1 + p2 ≤ s1.2.1 + s2.1 := c3
                  have c1' : p2 < s2.1 := c1
                  have hl6 := kS_l hl hk6 c2 (by omega)
                  rw [pb_r, n1, ubi_mk, if_neg i1_0]
                  cases q5 : pSign b N 93 s2.1 with
                  | inl e =>
                    obtain ⟨m7, r1, r2⟩ := e_sign_f hl6.1 c2 hk6.1.2.1 (c := 93) (x := 93) rfl (by omega) q5
                    rw [pb_l]
                    refine eK_f ?_ (kF_t hk6 r2)
                    rw [r1, ubi_mk, if_pos rfl, ub01_0, ugd_t, ubi_mk, if_pos rfl, ugd_t]
                  | inr p3 =>
                    obtain ⟨m7, r1, r2⟩ := e_sign_t hl6.1 c2 hk6.1.2.1 (c := 93) (x := 93) rfl (by omega) q5
                    have gp3 := pSign_pos q5
                    have hk7 := kS_t hk6 r2
                    obtain ⟨m8, t1, t2⟩ := kS_put (a := opW b (sk b N p) (wE b N (sk b N p))) hk7 (by show s2.2.1 < 150; omega) rfl
                    rw [pb_r]
                    refine eK_s ?_ t2
                    rw [r1, ubi_mk, if_neg i1_0, ub01_1, ugd_t, ubi_mk, if_neg i1_0, t1, ubi_mk, if_neg i1_0, ugd_t]
theorem e_lp {op : Nat → Nat} {unit : Ls → Pr_ Ls} {unitC : Um → Option (Um × Int32)} {F : Nat → Um → Int32 → Option (Um × Int32)} (hN : N ≤ 150) (hhit : ∀ p, ¬ op p = 0 → sk b N p < N) (hU : ∀ m st, lS b N m st → eK m (unitC m) (unit st)) (hQ : ∀ st, st.1 ≤ N → lQ N st (unit st)) (hF : ∀ fuel m st i, lS b N m st → i < 150 → F (fuel + 1) m (nI i) = if op st.1 = 0 then some (um_w m 1 3 (nI (sk b N st.1)), 1) else ubi (unitC (um_w m 1 3 (nI (sk b N st.1 + 1)))) (fun m2 r3 => if r3 = 0 then some (m2, 0) else ubi (f_X2_put m2 (nI (op st.1))) (fun m6 r7 => F fuel m6 (nI (i + 1))))) : ∀ (f fuel i : Nat) (m : Um) (st : Ls), N - st.1 < f → N - st.1 < fuel → i < st.1 → lS b N m st → eK m (F fuel m (nI i)) (pLp b N op unit f st)
  | 0, _, _, _, _, hf, _, _, _ => absurd hf (Nat.not_lt_zero _)
  | _, 0, _, _, _, _, hf, _, _ => absurd hf (Nat.not_lt_zero _)
  | f + 1, fuel + 1, i, m, st, hf, hfu, hi, hl => by
    have hpN := hl.2.2.1
    have hnp := hl.2.2.2.1
    have hsg := sk_ge b N st.1
    have hs := sk_le (b := b) hpN
    rw [hF fuel m st i hl (by omega), pLp]
    by_cases h0 : op st.1 = 0
    · rw [if_pos h0, if_pos h0]
      exact eK_s rfl (kS_t (kS_rf hl) (w3_k _))
    · rw [if_neg h0, if_neg h0]
      have hh := hhit st.1 h0
      have hk1 : kS m (um_w m 1 3 (nI (sk b N st.1 + 1))) (sk b N st.1 + 1, st.2) := kS_t (kS_rf hl) (w3_k _)
      have hl1 := kS_l hl hk1 (by show sk b N st.1 + 1 ≤ N; omega) (by show st.2.1 ≤ sk b N st.1 + 1; omega)
      have hu := hU _ _ hl1
      have hq := hQ (sk b N st.1 + 1, st.2) (by show sk b N st.1 + 1 ≤ N; omega)
      cases q1 : unit (sk b N st.1 + 1, st.2) with
      | inl e =>
        obtain ⟨m2, g1, g2⟩ := hu.1 e q1
        rw [pb_l]
        refine eK_f ?_ (kF_tr hk1 g2)
        rw [g1, ubi_mk, if_pos rfl]
      | inr s1 =>
        obtain ⟨m2, g1, g2⟩ := hu.2 s1 q1
        obtain ⟨a1, a2, a3, a4, a5⟩ := hq.2 s1 q1
        have a1' : sk b N st.1 + 1 < s1.1 := a1
        have a3' : s1.2.1 + (sk b N st.1 + 1) ≤ st.2.1 + s1.1 := a3
        have hk2 := kS_tr hk1 g2
        obtain ⟨m3, i1, i2⟩ := kS_put (a := op st.1) hk2 (by omega) rfl
        have hl3 := kS_l hl i2 a2 (by show s1.2.1 + 1 ≤ s1.1; omega)
        rw [pb_r, g1, ubi_mk, if_neg i1_0, i1, ubi_mk]
        exact eK_tr i2 (e_lp hN hhit hU hQ hF f fuel (i + 1) m3 (s1.1, s1.2.1 + 1, un_ s1.2.2 s1.2.1 (op st.1)) (by show N - s1.1 < f; omega) (by show N - s1.1 < fuel; omega) (by show i + 1 < s1.1; omega) hl3)
theorem e_prod {recC : Um → Int32 → Option (Um × Int32)} {rec : Nat → Ls → Pr_ Ls} {o : Nat} {st : Ls} (hN : N ≤ 150) (ho : o ≤ 6) (hR : o < 6 → ∀ m st, lS b N m st → eK m (recC m (nI (o + 1))) (rec (o + 1) st)) (hQ : ∀ st, st.1 ≤ N → lQ N st (rec (o + 1) st)) (hl : lS b N m st) : eK m (f_X2_readProduct recC m (nI o)) (pPr b N rec o st) := by
  unfold f_X2_readProduct pPr
  have hu := e_unit (b := b) hN ho hR hQ hl
  have hq := pUn_ok (b := b) (o := o) hQ hl.2.2.1
  cases q1 : pUn b N rec o st with
  | inl e =>
    obtain ⟨m2, g1, g2⟩ := hu.1 e q1
    rw [pb_l]
    refine eK_f ?_ g2
    rw [g1, ubi_mk, if_pos rfl]
  | inr s1 =>
    obtain ⟨m2, g1, g2⟩ := hu.2 s1 q1
    obtain ⟨a1, a2, a3, a4, a5⟩ := hq.2 s1 q1
    have hnp := hl.2.2.2.1
    have hl2 := kS_l hl g2 a2 (by omega)
    rw [pb_r, g1, ubi_mk, if_neg i1_0]
    refine eK_tr g2 (e_lp (F := fun fuel m i => f_X2_readProduct_b13 recC fuel m (nI o) i) (unitC := fun m => f_X2_readUnit recC m (nI o)) hN mlO_hit (fun m st h => e_unit hN ho hR hQ h) (fun st h => pUn_ok hQ h) ?_ 160 UF 0 m2 s1 (by omega) (by show N - s1.1 < 3000; omega) (by omega) hl2)
    intro fuel m st i hl hi
    have hpN := hl.2.2.1
    have hp := hl.2.1
    have hs := sk_le (b := b) hpN
    show f_X2_readProduct_b13 recC (fuel + 1) m (nI o) (nI i) = _
    rw [f_X2_readProduct_b13, if_neg (nle_lit (k := 150) hi (by decide)), e_takeIf hl.1 hpN hp (c := 42) (x := 42) rfl (by omega), ubi_mk, ite_bi0]
    unfold mlO f_X2_readProduct_b66
    by_cases h1 : ht_ b N 42 st.1 = true
    · simp only [h1, if_true, nI_1]
      rw [if_neg (by decide), if_neg (by omega)]
      rfl
    · rw [if_neg h1, if_neg h1, if_neg h1, e_takeIf (tA_3 hl.1 _) hs (um_w_s _ _ _ _) (c := 47) (x := 47) rfl (by omega), ubi_mk, ite_bi0, um_w_w, sk_sk, ht_sk]
      by_cases h2 : ht_ b N 47 st.1 = true
      · simp only [h2, if_true, nI_1]
        rw [if_neg (by decide), if_neg (by omega)]
        rfl
      · rw [if_neg h2, if_neg h2, if_neg h2, e_takeIf (tA_3 hl.1 _) hs (um_w_s _ _ _ _) (c := 37) (x := 37) rfl (by omega), ubi_mk, ite_bi0, um_w_w, sk_sk, ht_sk]
        by_cases h3 : ht_ b N 37 st.1 = true
        · simp only [h3, if_true, nI_1]
          rw [if_neg (by decide), if_neg (by omega)]
          rfl
        · rw [if_neg h3, if_neg h3, if_neg h3, if_pos rfl, if_pos rfl]
theorem e_sum {recC : Um → Int32 → Option (Um × Int32)} {rec : Nat → Ls → Pr_ Ls} {o : Nat} {st : Ls} (hN : N ≤ 150) (ho : o ≤ 6) (hR : o < 6 → ∀ m st, lS b N m st → eK m (recC m (nI (o + 1))) (rec (o + 1) st)) (hQ : ∀ st, st.1 ≤ N → lQ N st (rec (o + 1) st)) (hl : lS b N m st) : eK m (f_X2_readSum_e recC m (nI o)) (pSuE b N rec o st) := by
  unfold f_X2_readSum_e pSuE
  have hu := e_prod (b := b) hN ho hR hQ hl
  have hq := pPr_ok (b := b) (o := o) hQ hl.2.2.1
  cases q1 : pPr b N rec o st with
  | inl e =>
    obtain ⟨m2, g1, g2⟩ := hu.1 e q1
    rw [pb_l]
    refine eK_f ?_ g2
    rw [g1, ubi_mk, if_pos rfl]
  | inr s1 =>
    obtain ⟨m2, g1, g2⟩ := hu.2 s1 q1
    obtain ⟨a1, a2, a3, a4, a5⟩ := hq.2 s1 q1
    have hnp := hl.2.2.2.1
    have hl2 := kS_l hl g2 a2 (by omega)
    rw [pb_r, g1, ubi_mk, if_neg i1_0]
    refine eK_tr g2 (e_lp (F := fun fuel m i => f_X2_readSum_b13 recC fuel m (nI o) i) (unitC := fun m => f_X2_readProduct recC m (nI o)) hN adO_hit (fun m st h => e_prod hN ho hR hQ h) (fun st h => pPr_ok hQ h) ?_ 160 UF 0 m2 s1 (by omega) (by show N - s1.1 < 3000; omega) (by omega) hl2)
    intro fuel m st i hl hi
    have hpN := hl.2.2.1
    have hp := hl.2.1
    have hs := sk_le (b := b) hpN
    show f_X2_readSum_b13 recC (fuel + 1) m (nI o) (nI i) = _
    rw [f_X2_readSum_b13, if_neg (nle_lit (k := 150) hi (by decide)), e_takeIf hl.1 hpN hp (c := 43) (x := 43) rfl (by omega), ubi_mk, ite_bi0]
    unfold adO f_X2_readSum_b51
    by_cases h1 : ht_ b N 43 st.1 = true
    · simp only [h1, if_true, nI_1]
      rw [if_neg (by decide), if_neg (by omega)]
      rfl
    · rw [if_neg h1, if_neg h1, if_neg h1, e_takeIf (tA_3 hl.1 _) hs (um_w_s _ _ _ _) (c := 45) (x := 45) rfl (by omega), ubi_mk, ite_bi0, um_w_w, sk_sk, ht_sk]
      by_cases h2 : ht_ b N 45 st.1 = true
      · simp only [h2, if_true, nI_1]
        rw [if_neg (by decide), if_neg (by omega)]
        rfl
      · rw [if_neg h2, if_neg h2, if_neg h2, if_pos rfl, if_pos rfl]
theorem e_readSum (hN : N ≤ 150) : ∀ (d D o : Nat) (m : Um) (st : Ls), d + o = 8 → o ≤ 6 → d ≤ D → lS b N m st → eK m (f_X2_readSum D m (nI o)) (pSu b N d o st)
  | 0, D, o, m, st, h, ho, _, _ => by omega
  | d + 1, 0, o, m, st, h, ho, hD, _ => by omega
  | d + 1, D + 1, o, m, st, h, ho, hD, hl => by
    rw [f_X2_readSum, pSu]
    exact e_sum hN ho (fun ho6 m st hl => e_readSum hN d D (o + 1) m st (by omega) (by omega) (by omega) hl) (fun st hst => pSu_ok d (o + 1) st hst) hl
end LAWC
