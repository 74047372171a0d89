/-! WORK: what is read -/
abbrev Wq : Type := Nat × Nat × Nat × Nat
abbrev Ws : Type := Nat × Nat × (Nat → Wq)
def g4 (G : Nat → Wq) (n : Nat) (x : Wq) : Nat → Wq := fun i => if i = n then x else G i
theorem g4_s (G : Nat → Wq) (n : Nat) (x : Wq) : g4 G n x n = x := if_pos rfl
theorem g4_n {G : Nat → Wq} {n i : Nat} {x : Wq} (h : i ≠ n) : g4 G n x i = G i := if_neg h
def kwW (b : Nat → Nat) (q e : Nat) : Nat := if wIs b q e 11 = true then 0 else if wIs b q e 12 = true then 1 else if wIs b q e 13 = true then 2 else if wIs b q e 14 = true then 3 else if wIs b q e 15 = true then 4 else if wIs b q e 16 = true then 5 else if wIs b q e 9 = true then 6 else if wIs b q e 17 = true then 7 else 8
def kln (k : Nat) : Nat := if k = 3 then 3 else if k = 6 then 6 else if k = 7 then 5 else 4
theorem kwW_ok {b : Nat → Nat} {q e : Nat} : kwW b q e ≤ 8 ∧ (kwW b q e < 8 → e - q = kln (kwW b q e)) := by
  unfold kwW
  by_cases h0 : wIs b q e 11 = true
  · rw [if_pos h0]
    exact ⟨by omega, fun _ => wIs_len h0⟩
  · rw [if_neg h0]
    by_cases h1 : wIs b q e 12 = true
    · rw [if_pos h1]
      exact ⟨by omega, fun _ => wIs_len h1⟩
    · rw [if_neg h1]
      by_cases h2 : wIs b q e 13 = true
      · rw [if_pos h2]
        exact ⟨by omega, fun _ => wIs_len h2⟩
      · rw [if_neg h2]
        by_cases h3 : wIs b q e 14 = true
        · rw [if_pos h3]
          exact ⟨by omega, fun _ => wIs_len h3⟩
        · rw [if_neg h3]
          by_cases h4 : wIs b q e 15 = true
          · rw [if_pos h4]
            exact ⟨by omega, fun _ => wIs_len h4⟩
          · rw [if_neg h4]
            by_cases h5 : wIs b q e 16 = true
            · rw [if_pos h5]
              exact ⟨by omega, fun _ => wIs_len h5⟩
            · rw [if_neg h5]
              by_cases h6 : wIs b q e 9 = true
              · rw [if_pos h6]
                exact ⟨by omega, fun _ => wIs_len h6⟩
              · rw [if_neg h6]
                by_cases h7 : wIs b q e 17 = true
                · rw [if_pos h7]
                  exact ⟨by omega, fun _ => wIs_len h7⟩
                · rw [if_neg h7]
                  exact ⟨by omega, fun h => by omega⟩
/-- the numbers of a step -/
def pAr (b : Nat → Nat) (N T k p : Nat) : Pr_ ((Nat × Nat × Nat) × Nat) :=
  if k = 0 then pb (pNum b N 0 T p) (fun x => pb (pNum b N 1 21 x.2) (fun y => .inr ((x.1, y.1, 0), y.2)))
  else if k = 1 ∨ k = 2 then pb (pNum b N 1 21 p) (fun x => .inr ((x.1, 0, 0), x.2))
  else if k = 3 then pb (pNum b N 0 T p) (fun x => pb (pNum b N 0 100 x.2) (fun y => .inr ((x.1, y.1, 0), y.2)))
  else if k = 4 then pb (pNum b N 0 T p) (fun x => pb (pNum b N 0 T x.2) (fun y => pb (pNum b N 0 100 y.2) (fun z => .inr ((x.1, y.1, z.1), z.2))))
  else if k = 5 then pb (pNum b N 0 T p) (fun x => .inr ((x.1, 0, 0), x.2))
  else .inr ((0, 0, 0), p)
def pSt (b : Nat → Nat) (N T : Nat) (rec : Nat → Ws → Pr_ Ws) (o : Nat) (st : Ws) : Pr_ Ws :=
  if kwW b (sk b N st.1) (wE b N (sk b N st.1)) = 8 then .inl (1, sk b N st.1)
  else if kwW b (sk b N st.1) (wE b N (sk b N st.1)) = 7 then (if 6 ≤ o then .inl (3, sk b N st.1) else pb (pNum b N 0 31 (wE b N (sk b N st.1))) (fun x => pb (pSign b N 91 x.2) (fun p2 => pb (rec (o + 1) (p2, st.2.1 + 1, g4 st.2.2 st.2.1 (7, x.1, 0, 0))) (fun s2 => pb (pSign b N 93 s2.1) (fun p4 => pb (pSign b N 59 p4) (fun p5 => .inr (p5, s2.2.1, g4 s2.2.2 st.2.1 (7, x.1, s2.2.1, 0))))))))
  else pb (pAr b N T (kwW b (sk b N st.1) (wE b N (sk b N st.1))) (wE b N (sk b N st.1))) (fun x => pb (pSign b N 59 x.2) (fun p2 => .inr (p2, st.2.1 + 1, g4 st.2.2 st.2.1 (kwW b (sk b N st.1) (wE b N (sk b N st.1)), x.1))))
def pBl (b : Nat → Nat) (N : Nat) (stp : Ws → Pr_ Ws) : Nat → Ws → Pr_ Ws
  | 0, st => .inr st
  | f + 1, st => if sk b N st.1 < N ∧ ¬ b (sk b N st.1) = 93 then pb (stp (sk b N st.1, st.2)) (fun s1 => pBl b N stp f s1) else .inr (sk b N st.1, st.2)
def pBk_ (b : Nat → Nat) (N T : Nat) : Nat → Nat → Ws → Pr_ Ws
  | 0, _, _ => .inl (0, 0)
  | d + 1, o, st => pBl b N (pSt b N T (pBk_ b N T d) o) 160 st
/-! what is read is well made -/
def okQ (T : Nat) (x : Wq) : Prop := x.1 ≤ 7 ∧ (x.1 = 0 → x.2.1 < T ∧ 1 ≤ x.2.2.1 ∧ x.2.2.1 ≤ 20) ∧ (x.1 = 1 ∨ x.1 = 2 → 1 ≤ x.2.1 ∧ x.2.1 ≤ 20) ∧ (x.1 = 3 → x.2.1 < T ∧ x.2.2.1 ≤ 99) ∧ (x.1 = 4 → x.2.1 < T ∧ x.2.2.1 < T ∧ x.2.2.2 ≤ 99) ∧ (x.1 = 5 → x.2.1 < T) ∧ (x.1 = 7 → x.2.1 ≤ 30)
def wfW (G : Nat → Wq) : Nat → Nat → Nat → Prop
  | 0, f, t => ∀ i, f ≤ i → i < t → (G i).1 ≠ 7
  | d + 1, f, t => ∀ i, f ≤ i → i < t → (G i).1 = 7 → i < (G i).2.2.1 ∧ (G i).2.2.1 ≤ t ∧ wfW G d (i + 1) (G i).2.2.1
theorem wfW_cong {G H : Nat → Wq} : ∀ (d f t : Nat), (∀ i, f ≤ i → i < t → G i = H i) → wfW G d f t → wfW H d f t
  | 0, f, t, h, hw => fun i h1 h2 => by rw [← h i h1 h2]; exact hw i h1 h2
  | d + 1, f, t, h, hw => fun i h1 h2 h3 => by
    rw [← h i h1 h2] at h3 ⊢
    obtain ⟨a1, a2, a3⟩ := hw i h1 h2 h3
    exact ⟨a1, a2, wfW_cong d (i + 1) _ (fun j g1 g2 => h j (by omega) (by omega)) a3⟩
theorem wfW_up {G : Nat → Wq} : ∀ (d f t : Nat), wfW G d f t → wfW G (d + 1) f t
  | 0, f, t, hw => fun i h1 h2 h3 => absurd h3 (hw i h1 h2)
  | d + 1, f, t, hw => fun i h1 h2 h3 => by
    obtain ⟨a1, a2, a3⟩ := hw i h1 h2 h3
    exact ⟨a1, a2, wfW_up d _ _ a3⟩
theorem wfW_cat {G : Nat → Wq} : ∀ (d f k t : Nat), f ≤ k → k ≤ t → wfW G d f k → wfW G d k t → wfW G d f t
  | 0, f, k, t, _, _, h1, h2 => fun i a b => by
    by_cases h : i < k
    · exact h1 i a h
    · exact h2 i (by omega) b
  | d + 1, f, k, t, _, hkt, h1, h2 => fun i a b c => by
    by_cases h : i < k
    · obtain ⟨a1, a2, a3⟩ := h1 i a h c
      exact ⟨a1, by omega, a3⟩
    · exact h2 i (by omega) b c
theorem wfW_nil (G : Nat → Wq) : ∀ (d f : Nat), wfW G d f f
  | 0, f => fun i a b => absurd b (by omega)
  | d + 1, f => fun i a b => absurd b (by omega)
/-- what a block leaves, at level o -/
def wG (N T o : Nat) (st st' : Ws) : Prop := st.1 ≤ st'.1 ∧ st'.1 ≤ N ∧ 6 * st'.2.1 + st.1 ≤ 6 * st.2.1 + st'.1 ∧ st.2.1 ≤ st'.2.1 ∧ (∀ i, i < st.2.1 → st'.2.2 i = st.2.2 i) ∧ (∀ i, st.2.1 ≤ i → i < st'.2.1 → okQ T (st'.2.2 i)) ∧ wfW st'.2.2 (6 - o) st.2.1 st'.2.1
def wQ (N T o : Nat) (st : Ws) (r : Pr_ Ws) : Prop := (∀ e, r = .inl e → e.2 ≤ N) ∧ ∀ st', r = .inr st' → wG N T o st st'
theorem wG_tr {N T o : Nat} {a b c : Ws} (h1 : wG N T o a b) (h2 : wG N T o b c) : wG N T o a c := by
  obtain ⟨a1, a2, a3, a4, a5, a6, a7⟩ := h1
  obtain ⟨b1, b2, b3, b4, b5, b6, b7⟩ := h2
  refine ⟨by omega, b2, by omega, by omega, fun i hi => by rw [b5 i (by omega), a5 i hi], fun i h1 h2 => ?_, ?_⟩
  · by_cases h : i < b.2.1
    · rw [b5 i h]
      exact a6 i h1 h
    · exact b6 i (by omega) h2
  · exact wfW_cat _ _ b.2.1 _ a4 b4 (wfW_cong _ _ _ (fun i _ h => (b5 i h).symm) a7) b7
section WORKP
variable {b : Nat → Nat} {N T : Nat}
theorem pAr_ok {k p : Nat} (hk : k ≤ 6) (hp : p ≤ N) : (∀ e, pAr b N T k p = .inl e → e.2 ≤ N) ∧ ∀ x p', pAr b N T k p = .inr (x, p') → p' ≤ N ∧ p + (if k = 6 then 0 else if k = 3 then 2 else 1) ≤ p' ∧ okQ T (k, x) := by
  unfold pAr
  by_cases k0 : k = 0
  · rw [if_pos k0]
    cases q1 : pNum b N 0 T p with
    | inl e => rw [pb_l]; exact ⟨fun e' he => (by cases he; exact pNum_e hp q1), fun x p' he => by cases he⟩
    | inr x =>
      rw [pb_r]
      have g1 := pNum_pos hp q1
      cases q2 : pNum b N 1 21 x.2 with
      | inl e => rw [pb_l]; exact ⟨fun e' he => (by cases he; exact pNum_e g1.2.1 q2), fun x p' he => by cases he⟩
      | inr y =>
        rw [pb_r]
        have g2 := pNum_pos g1.2.1 q2
        refine ⟨fun e' he => (by cases he), fun x' p' he => ?_⟩
        cases he
        refine ⟨g2.2.1, ?_, ?_⟩
        · rw [if_neg (by omega), if_neg (by omega)]; omega
        · unfold okQ
          subst k0
          exact ⟨by omega, fun _ => ⟨g1.2.2.2, by show 1 ≤ y.1; omega, by show y.1 ≤ 20; omega⟩, fun h => (by omega), fun h => (by omega), fun h => (by omega), fun h => (by omega), fun h => (by omega)⟩
  · rw [if_neg k0]
    by_cases k1 : k = 1 ∨ k = 2
    · rw [if_pos k1]
      cases q1 : pNum b N 1 21 p with
      | inl e => rw [pb_l]; exact ⟨fun e' he => (by cases he; exact pNum_e hp q1), fun x p' he => by cases he⟩
      | inr x =>
        rw [pb_r]
        have g1 := pNum_pos hp q1
        refine ⟨fun e' he => (by cases he), fun x' p' he => ?_⟩
        cases he
        refine ⟨g1.2.1, ?_, ?_⟩
        · rw [if_neg (by omega), if_neg (by omega)]; omega
        · unfold okQ
          exact ⟨by show k ≤ 7; omega, fun h => absurd h k0, fun _ => ⟨by show 1 ≤ x.1; omega, by show x.1 ≤ 20; omega⟩, fun h => (by have h' : k = 3 := h; omega), fun h => (by have h' : k = 4 := h; omega), fun h => (by have h' : k = 5 := h; omega), fun h => (by have h' : k = 7 := h; omega)⟩
    · rw [if_neg k1]
      by_cases k3 : k = 3
      · rw [if_pos k3]
        cases q1 : pNum b N 0 T p with
        | inl e => rw [pb_l]; exact ⟨fun e' he => (by cases he; exact pNum_e hp q1), fun x p' he => by cases he⟩
        | inr x =>
          rw [pb_r]
          have g1 := pNum_pos hp q1
          cases q2 : pNum b N 0 100 x.2 with
          | inl e => rw [pb_l]; exact ⟨fun e' he => (by cases he; exact pNum_e g1.2.1 q2), fun x p' he => by cases he⟩
          | inr y =>
            rw [pb_r]
            have g2 := pNum_pos g1.2.1 q2
            refine ⟨fun e' he => (by cases he), fun x' p' he => ?_⟩
            cases he
            refine ⟨g2.2.1, ?_, ?_⟩
            · rw [if_neg (by omega), if_pos k3]; omega
            · unfold okQ
              subst k3
              exact ⟨by omega, fun h => (by omega), fun h => (by omega), fun _ => ⟨g1.2.2.2, by show y.1 ≤ 99; omega⟩, fun h => (by omega), fun h => (by omega), fun h => (by omega)⟩
      · rw [if_neg k3]
        by_cases k4 : k = 4
        · rw [if_pos k4]
          cases q1 : pNum b N 0 T p with
          | inl e => rw [pb_l]; exact ⟨fun e' he => (by cases he; exact pNum_e hp q1), fun x p' he => by cases he⟩
          | inr x =>
            rw [pb_r]
            have g1 := pNum_pos hp q1
            cases q2 : pNum b N 0 T x.2 with
            | inl e => rw [pb_l]; exact ⟨fun e' he => (by cases he; exact pNum_e g1.2.1 q2), fun x p' he => by cases he⟩
            | inr y =>
              rw [pb_r]
              have g2 := pNum_pos g1.2.1 q2
              cases q3 : pNum b N 0 100 y.2 with
              | inl e => rw [pb_l]; exact ⟨fun e' he => (by cases he; exact pNum_e g2.2.1 q3), fun x p' he => by cases he⟩
              | inr z =>
                rw [pb_r]
                have g3 := pNum_pos g2.2.1 q3
                refine ⟨fun e' he => (by cases he), fun x' p' he => ?_⟩
                cases he
                refine ⟨g3.2.1, ?_, ?_⟩
                · rw [if_neg (by omega), if_neg (by omega)]; omega
                · unfold okQ
                  subst k4
                  exact ⟨by omega, fun h => (by omega), fun h => (by omega), fun h => (by omega), fun _ => ⟨g1.2.2.2, g2.2.2.2, by show z.1 ≤ 99; omega⟩, fun h => (by omega), fun h => (by omega)⟩
        · rw [if_neg k4]
          by_cases k5 : k = 5
          · rw [if_pos k5]
            cases q1 : pNum b N 0 T p with
            | inl e => rw [pb_l]; exact ⟨fun e' he => (by cases he; exact pNum_e hp q1), fun x p' he => by cases he⟩
            | inr x =>
              rw [pb_r]
              have g1 := pNum_pos hp q1
              refine ⟨fun e' he => (by cases he), fun x' p' he => ?_⟩
              cases he
              refine ⟨g1.2.1, ?_, ?_⟩
              · rw [if_neg (by omega), if_neg (by omega)]; omega
              · unfold okQ
                subst k5
                exact ⟨by omega, fun h => (by omega), fun h => (by omega), fun h => (by omega), fun h => (by omega), fun _ => g1.2.2.2, fun h => (by omega)⟩
          · rw [if_neg k5]
            have k6 : k = 6 := by omega
            refine ⟨fun e' he => (by cases he), fun x' p' he => ?_⟩
            cases he
            refine ⟨hp, ?_, ?_⟩
            · rw [if_pos k6]; omega
            · unfold okQ
              subst k6
              exact ⟨by omega, fun h => (by omega), fun h => (by omega), fun h => (by omega), fun h => (by omega), fun h => (by omega), fun h => (by omega)⟩
theorem pSt_ok {rec : Nat → Ws → Pr_ Ws} {o : Nat} (hr : o < 6 → ∀ st, st.1 ≤ N → wQ N T (o + 1) st (rec (o + 1) st)) {st : Ws} (hp : st.1 ≤ N) : wQ N T o st (pSt b N T rec o st) ∧ ∀ st', pSt b N T rec o st = .inr st' → st.1 < st'.1 ∧ st.2.1 < st'.2.1 := by
  have hs := sk_le (b := b) hp
  have hsg := sk_ge b N st.1
  have hw := wE_le (b := b) hs
  have hwg := wE_ge b N (sk b N st.1)
  have hkw := kwW_ok (b := b) (q := sk b N st.1) (e := wE b N (sk b N st.1))
  unfold pSt
  by_cases h8 : kwW b (sk b N st.1) (wE b N (sk b N st.1)) = 8
  · rw [if_pos h8]
    exact ⟨⟨fun e he => (by cases he; exact hs), fun st' he => by cases he⟩, fun st' he => by cases he⟩
  · rw [if_neg h8]
    have hl := hkw.2 (by omega)
    by_cases h7 : kwW b (sk b N st.1) (wE b N (sk b N st.1)) = 7
    · rw [if_pos h7]
      rw [h7] at hl
      have hl5 : wE b N (sk b N st.1) - sk b N st.1 = 5 := hl
      by_cases h6 : 6 ≤ o
      · rw [if_pos h6]
        exact ⟨⟨fun e he => (by cases he; exact hs), fun st' he => by cases he⟩, fun st' he => by cases he⟩
      · rw [if_neg h6]
        cases q1 : pNum b N 0 31 (wE b N (sk b N st.1)) with
        | inl e => rw [pb_l]; exact ⟨⟨fun e' he => (by cases he; exact pNum_e hw q1), fun st' he => by cases he⟩, fun st' he => by cases he⟩
        | inr x =>
          rw [pb_r]
          have g1 := pNum_pos hw q1
          cases q2 : pSign b N 91 x.2 with
          | inl e => rw [pb_l]; exact ⟨⟨fun e' he => (by cases he; exact pSign_e g1.2.1 q2), fun st' he => by cases he⟩, fun st' he => by cases he⟩
          | inr p2 =>
            rw [pb_r]
            have g2 := pSign_pos q2
            have hq := hr (by omega) (p2, st.2.1 + 1, g4 st.2.2 st.2.1 (7, x.1, 0, 0)) g2.2
            cases q3 : rec (o + 1) (p2, st.2.1 + 1, g4 st.2.2 st.2.1 (7, x.1, 0, 0)) with
            | inl e => rw [pb_l]; exact ⟨⟨fun e' he => (by cases he; exact hq.1 _ q3), fun st' he => by cases he⟩, fun st' he => by cases he⟩
            | inr s2 =>
              rw [pb_r]
              obtain ⟨a1, a2, a3, a4, a5, a6, a7⟩ := hq.2 _ q3
              have a1' : p2 ≤ s2.1 := a1
              have a3' : 6 * s2.2.1 + p2 ≤ 6 * (st.2.1 + 1) + s2.1 := a3
              have a4' : st.2.1 + 1 ≤ s2.2.1 := a4
              cases q4 : pSign b N 93 s2.1 with
              | inl e => rw [pb_l]; exact ⟨⟨fun e' he => (by cases he; exact pSign_e a2 q4), fun st' he => by cases he⟩, fun st' he => by cases he⟩
              | inr p4 =>
                rw [pb_r]
                have g4' := pSign_pos q4
                cases q5 : pSign b N 59 p4 with
                | inl e => rw [pb_l]; exact ⟨⟨fun e' he => (by cases he; exact pSign_e g4'.2 q5), fun st' he => by cases he⟩, fun st' he => by cases he⟩
                | inr p5 =>
                  rw [pb_r]
                  have g5 := pSign_pos q5
                  have key : ∀ st', (Sum.inr (p5, s2.2.1, g4 s2.2.2 st.2.1 (7, x.1, s2.2.1, 0)) : Pr_ Ws) = .inr st' → wG N T o st st' ∧ st.1 < st'.1 ∧ st.2.1 < st'.2.1 := by
                    intro st' he
                    cases he
                    refine ⟨⟨by show st.1 ≤ p5; omega, g5.2, by show 6 * s2.2.1 + st.1 ≤ 6 * st.2.1 + p5; omega, by show st.2.1 ≤ s2.2.1; omega, fun i hi => ?_, fun i h1 h2 => ?_, ?_⟩, by show st.1 < p5; omega, by show st.2.1 < s2.2.1; omega⟩
                    · show g4 s2.2.2 st.2.1 (7, x.1, s2.2.1, 0) i = st.2.2 i
                      rw [g4_n (by omega), a5 i (by show i < st.2.1 + 1; omega)]
                      exact g4_n (by omega)
                    · show okQ T (g4 s2.2.2 st.2.1 (7, x.1, s2.2.1, 0) i)
                      have h2' : i < s2.2.1 := h2
                      by_cases hi : i = st.2.1
                      · rw [hi, g4_s]
                        exact ⟨by show 7 ≤ 7; omega, fun h => (by cases h), fun h => (by rcases h with h | h <;> cases h), fun h => (by cases h), fun h => (by cases h), fun h => (by cases h), fun _ => (by show x.1 ≤ 30; omega)⟩
                      · rw [g4_n hi]
                        exact a6 i (by show st.2.1 + 1 ≤ i; omega) h2'
                    · show wfW (g4 s2.2.2 st.2.1 (7, x.1, s2.2.1, 0)) (6 - o) st.2.1 s2.2.1
                      have hb : wfW (g4 s2.2.2 st.2.1 (7, x.1, s2.2.1, 0)) (6 - (o + 1)) (st.2.1 + 1) s2.2.1 := wfW_cong _ _ _ (fun i h1 _ => (g4_n (by omega)).symm) a7
                      have hd : 6 - o = (6 - (o + 1)) + 1 := by omega
                      rw [hd]
                      have hb1 := wfW_up _ _ _ hb
                      intro i h1 h2 h3
                      by_cases hi : i = st.2.1
                      · subst hi
                        rw [g4_s]
                        exact ⟨by show st.2.1 < s2.2.1; omega, Nat.le_refl _, hb⟩
                      · exact hb1 i (by omega) h2 h3
                  exact ⟨⟨fun e' he => (by cases he), fun st' he => (key st' he).1⟩, fun st' he => (key st' he).2⟩
    · rw [if_neg h7]
      have hk6 : kwW b (sk b N st.1) (wE b N (sk b N st.1)) ≤ 6 := by omega
      have ha := pAr_ok (b := b) (N := N) (T := T) hk6 hw
      cases q1 : pAr b N T (kwW b (sk b N st.1) (wE b N (sk b N st.1))) (wE b N (sk b N st.1)) with
      | inl e => rw [pb_l]; exact ⟨⟨fun e' he => (by cases he; exact ha.1 _ q1), fun st' he => by cases he⟩, fun st' he => by cases he⟩
      | inr x =>
        rw [pb_r]
        obtain ⟨g1, g2, g3⟩ := ha.2 x.1 x.2 q1
        cases q2 : pSign b N 59 x.2 with
        | inl e => rw [pb_l]; exact ⟨⟨fun e' he => (by cases he; exact pSign_e g1 q2), fun st' he => by cases he⟩, fun st' he => by cases he⟩
        | inr p2 =>
          rw [pb_r]
          have gp := pSign_pos q2
          have h6p : st.1 + 6 ≤ p2 := by
            unfold kln at hl
            split at hl
            · rw [if_neg (by omega), if_pos (by assumption)] at g2
              omega
            · split at hl
              · omega
              · rw [if_neg (by omega), if_neg (by omega)] at g2
                omega
          have key : ∀ st', (Sum.inr (p2, st.2.1 + 1, g4 st.2.2 st.2.1 (kwW b (sk b N st.1) (wE b N (sk b N st.1)), x.1)) : Pr_ Ws) = .inr st' → wG N T o st st' ∧ st.1 < st'.1 ∧ st.2.1 < st'.2.1 := by
            intro st' he
            cases he
            refine ⟨⟨by show st.1 ≤ p2; omega, gp.2, by show 6 * (st.2.1 + 1) + st.1 ≤ 6 * st.2.1 + p2; omega, by show st.2.1 ≤ st.2.1 + 1; omega, fun i hi => ?_, fun i h1 h2 => ?_, ?_⟩, by show st.1 < p2; omega, by show st.2.1 < st.2.1 + 1; omega⟩
            · exact g4_n (by omega)
            · have h2' : i < st.2.1 + 1 := h2
              have hi : i = st.2.1 := by omega
              show okQ T (g4 st.2.2 st.2.1 _ i)
              rw [hi, g4_s]
              exact g3
            · show wfW (g4 st.2.2 st.2.1 (kwW b (sk b N st.1) (wE b N (sk b N st.1)), x.1)) (6 - o) st.2.1 (st.2.1 + 1)
              have h0 : wfW (g4 st.2.2 st.2.1 (kwW b (sk b N st.1) (wE b N (sk b N st.1)), x.1)) 0 st.2.1 (st.2.1 + 1) := fun i h1 h2 => by
                have hi : i = st.2.1 := by omega
                rw [hi, g4_s]
                exact h7
              have up : ∀ d, wfW (g4 st.2.2 st.2.1 (kwW b (sk b N st.1) (wE b N (sk b N st.1)), x.1)) d st.2.1 (st.2.1 + 1) := by
                intro d
                induction d with
                | zero => exact h0
                | succ d ih => exact wfW_up _ _ _ ih
              exact up _
          exact ⟨⟨fun e' he => (by cases he), fun st' he => (key st' he).1⟩, fun st' he => (key st' he).2⟩
theorem pBl_ok {o : Nat} {stp : Ws → Pr_ Ws} (hs : ∀ st, st.1 ≤ N → wQ N T o st (stp st)) : ∀ (f : Nat) (st : Ws), st.1 ≤ N → wQ N T o st (pBl b N stp f st)
  | 0, st, hp => ⟨fun e he => (by cases he), fun st' he => by cases he; exact ⟨Nat.le_refl _, hp, Nat.le_refl _, Nat.le_refl _, fun _ _ => rfl, fun i h1 h2 => absurd h2 (by omega), wfW_nil _ _ _⟩⟩
  | f + 1, st, hp => by
    have hsk := sk_le (b := b) hp
    have hsg := sk_ge b N st.1
    have g0 : wG N T o st (sk b N st.1, st.2) := ⟨hsg, hsk, by show 6 * st.2.1 + st.1 ≤ 6 * st.2.1 + sk b N st.1; omega, Nat.le_refl _, fun _ _ => rfl, fun i h1 h2 => absurd h2 (by show ¬ i < st.2.1; omega), wfW_nil _ _ _⟩
    rw [pBl]
    by_cases h : sk b N st.1 < N ∧ ¬ b (sk b N st.1) = 93
    · rw [if_pos h]
      have hq := hs (sk b N st.1, st.2) hsk
      cases q1 : stp (sk b N st.1, st.2) with
      | inl e => rw [pb_l]; exact ⟨fun e' he => (by cases he; exact hq.1 _ q1), fun st' he => by cases he⟩
      | inr s1 =>
        rw [pb_r]
        have g1 := hq.2 _ q1
        have ih := pBl_ok hs f s1 g1.2.1
        exact ⟨ih.1, fun st' he => wG_tr g0 (wG_tr g1 (ih.2 st' he))⟩
    · rw [if_neg h]
      exact ⟨fun e he => (by cases he), fun st' he => by cases he; exact g0⟩
theorem pBk_ok : ∀ (d o : Nat) (st : Ws), st.1 ≤ N → wQ N T o st (pBk_ b N T d o st)
  | 0, o, st, hp => ⟨fun e he => (by cases he; exact Nat.zero_le _), fun st' he => by cases he⟩
  | d + 1, o, st, hp => pBl_ok (fun st hst => (pSt_ok (fun _ st hst => pBk_ok d (o + 1) st hst) hst).1) 160 st hp
end WORKP
