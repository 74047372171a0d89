/-! LAWS: what is read -/
abbrev Ls : Type := Nat × Nat × (Nat → Nat)
def un_ (A : Nat → Nat) (n a : Nat) : Nat → Nat := fun i => if i = n then a else A i
theorem un_s (A : Nat → Nat) (n a : Nat) : un_ A n a n = a := if_pos rfl
theorem un_n {A : Nat → Nat} {n a k : Nat} (h : k ≠ n) : un_ A n a k = A k := if_neg h
def opW (b : Nat → Nat) (q e : Nat) : Nat := if wIs b q e 3 = true then 2005 else if wIs b q e 4 = true then 2006 else 0
def nmW (b : Nat → Nat) (q e : Nat) : Nat := if wIs b q e 5 = true then 0 else if wIs b q e 2 = true then 1 else if wIs b q e 6 = true then 2 else if wIs b q e 7 = true then 3 else if wIs b q e 8 = true then 4 else if wIs b q e 9 = true then 5 else if wIs b q e 10 = true then 6 else if wIs b q e 1 = true then 7 else 8
def pUn (b : Nat → Nat) (N : Nat) (rec : Nat → Ls → Pr_ Ls) (o : Nat) (st : Ls) : Pr_ Ls :=
  if atD b N st.1 = true then pb (pNum b N 0 1000 st.1) (fun v => .inr (v.2, st.2.1 + 1, un_ st.2.2 st.2.1 v.1))
  else if ht_ b N 40 st.1 = true then (if 6 ≤ o then .inl (3, sk b N st.1) else pb (rec (o + 1) (sk b N st.1 + 1, st.2)) (fun s1 => pb (pSign b N 41 s1.1) (fun p2 => .inr (p2, s1.2))))
  else if opW b (sk b N st.1) (wE b N (sk b N st.1)) = 0 then (if nmW b (sk b N st.1) (wE b N (sk b N st.1)) = 8 then .inl (1, sk b N st.1) else .inr (wE b N (sk b N st.1), st.2.1 + 1, un_ st.2.2 st.2.1 (1000 + nmW b (sk b N st.1) (wE b N (sk b N st.1)))))
  else (if 6 ≤ o then .inl (3, sk b N st.1) else pb (pSign b N 91 (wE b N (sk b N st.1))) (fun p1 => pb (rec (o + 1) (p1, st.2)) (fun s1 => pb (pSign b N 44 s1.1) (fun p2 => pb (rec (o + 1) (p2, s1.2)) (fun s2 => pb (pSign b N 93 s2.1) (fun p3 => .inr (p3, s2.2.1 + 1, un_ s2.2.2 s2.2.1 (opW b (sk b N st.1) (wE b N (sk b N st.1))))))))))
def mlO (b : Nat → Nat) (N p : Nat) : Nat := if ht_ b N 42 p = true then 2002 else if ht_ b N 47 p = true then 2003 else if ht_ b N 37 p = true then 2004 else 0
def adO (b : Nat → Nat) (N p : Nat) : Nat := if ht_ b N 43 p = true then 2000 else if ht_ b N 45 p = true then 2001 else 0
def pLp (b : Nat → Nat) (N : Nat) (op : Nat → Nat) (unit : Ls → Pr_ Ls) : Nat → Ls → Pr_ Ls
  | 0, st => .inr st
  | f + 1, st => if op st.1 = 0 then .inr (sk b N st.1, st.2) else pb (unit (sk b N st.1 + 1, st.2)) (fun s1 => pLp b N op unit f (s1.1, s1.2.1 + 1, un_ s1.2.2 s1.2.1 (op st.1)))
def pPr (b : Nat → Nat) (N : Nat) (rec : Nat → Ls → Pr_ Ls) (o : Nat) (st : Ls) : Pr_ Ls := pb (pUn b N rec o st) (fun s1 => pLp b N (mlO b N) (pUn b N rec o) 160 s1)
def pSuE (b : Nat → Nat) (N : Nat) (rec : Nat → Ls → Pr_ Ls) (o : Nat) (st : Ls) : Pr_ Ls := pb (pPr b N rec o st) (fun s1 => pLp b N (adO b N) (pPr b N rec o) 160 s1)
def pSu (b : Nat → Nat) (N : Nat) : Nat → Nat → Ls → Pr_ Ls
  | 0, _, _ => .inl (0, 0)
  | d + 1, o, st => pSuE b N (pSu b N d) o st
/-! what is read is well made -/
theorem dep_cong {A B : Nat → Nat} : ∀ k, (∀ j, j < k → A j = B j) → dep A k = dep B k
  | 0, _ => rfl
  | k + 1, h => by
    rw [dep, dep, dep_cong k (fun j hj => h j (by omega)), h k (by omega)]
theorem wfA_cong {A B : Nat → Nat} {n : Nat} (h : ∀ j, j < n → A j = B j) (hw : wfA A n) : wfA B n := fun k hk => by
  rw [← h k hk, ← dep_cong k (fun j hj => h j (by omega))]
  exact hw k hk
def lG (N : Nat) (st st' : Ls) : Prop := st.1 < st'.1 ∧ st'.1 ≤ N ∧ st'.2.1 + st.1 ≤ st.2.1 + st'.1 ∧ st.2.1 < st'.2.1 ∧ (wfA st.2.2 st.2.1 → wfA st'.2.2 st'.2.1 ∧ dep st'.2.2 st'.2.1 = dep st.2.2 st.2.1 + 1)
def lQ (N : Nat) (st : Ls) (r : Pr_ Ls) : Prop := (∀ e, r = .inl e → e.2 ≤ N) ∧ ∀ st', r = .inr st' → lG N st st'
theorem wf_push {A : Nat → Nat} {n a : Nat} (hw : wfA A n) (ha : okA a) (h2 : a < 2000) : wfA (un_ A n a) (n + 1) ∧ dep (un_ A n a) (n + 1) = dep A n + 1 := by
  have hc : ∀ j, j < n → A j = un_ A n a j := fun j hj => (un_n (by omega)).symm
  have hd := dep_cong n hc
  refine ⟨fun k hk => ?_, ?_⟩
  · by_cases hkn : k = n
    · subst hkn
      rw [un_s]
      exact ⟨ha, fun h => by omega⟩
    · exact wfA_cong hc hw k (by omega)
  · rw [dep_push (by rw [un_s]; exact h2), hd]
theorem wf_op {A : Nat → Nat} {n a : Nat} (hw : wfA A n) (ha : okA a) (h2 : 2000 ≤ a) (hd2 : 2 ≤ dep A n) : wfA (un_ A n a) (n + 1) ∧ dep (un_ A n a) (n + 1) = dep A n - 1 := by
  have hc : ∀ j, j < n → A j = un_ A n a j := fun j hj => (un_n (by omega)).symm
  have hd := dep_cong n hc
  refine ⟨fun k hk => ?_, ?_⟩
  · by_cases hkn : k = n
    · subst hkn
      rw [un_s, ← hd]
      exact ⟨ha, fun _ => hd2⟩
    · exact wfA_cong hc hw k (by omega)
  · rw [dep_op (by rw [un_s]; omega), hd]
theorem opW_ok (b : Nat → Nat) (q e : Nat) : opW b q e = 0 ∨ opW b q e = 2005 ∨ opW b q e = 2006 := by
  unfold opW
  split
  · exact Or.inr (Or.inl rfl)
  · split
    · exact Or.inr (Or.inr rfl)
    · exact Or.inl rfl
theorem nmW_ok (b : Nat → Nat) (q e : Nat) : nmW b q e ≤ 8 ∧ (nmW b q e < 8 → ∃ w, w < 18 ∧ wIs b q e w = true) := by
  unfold nmW
  repeat' split
  all_goals first | exact ⟨by omega, fun h => absurd h (by omega)⟩ | (refine ⟨by omega, fun _ => ?_⟩; first | exact ⟨5, by omega, by assumption⟩ | exact ⟨2, by omega, by assumption⟩ | exact ⟨6, by omega, by assumption⟩ | exact ⟨7, by omega, by assumption⟩ | exact ⟨8, by omega, by assumption⟩ | exact ⟨9, by omega, by assumption⟩ | exact ⟨10, by omega, by assumption⟩ | exact ⟨1, by omega, by assumption⟩)
theorem opW_is {b : Nat → Nat} {q e : Nat} (h : ¬ opW b q e = 0) : ∃ w, w < 18 ∧ wIs b q e w = true := by
  unfold opW at h
  by_cases h3 : wIs b q e 3 = true
  · exact ⟨3, by omega, h3⟩
  · rw [if_neg h3] at h
    by_cases h4 : wIs b q e 4 = true
    · exact ⟨4, by omega, h4⟩
    · rw [if_neg h4] at h
      exact absurd rfl h
section LAWP
variable {b : Nat → Nat} {N : Nat}
theorem pUn_ok {rec : Nat → Ls → Pr_ Ls} {o : Nat} (hr : ∀ st, st.1 ≤ N → lQ N st (rec (o + 1) st)) {st : Ls} (hp : st.1 ≤ N) : lQ N st (pUn b N rec o st) := by
  have hs := sk_le (b := b) hp
  have hsg := sk_ge b N st.1
  have hw := wE_le (b := b) hs
  have hwg := wE_ge b N (sk b N st.1)
  unfold pUn
  by_cases h1 : atD b N st.1 = true
  · rw [if_pos h1]
    cases q1 : pNum b N 0 1000 st.1 with
    | inl e =>
      rw [pb_l]
      exact ⟨fun e' he => by cases he; exact pNum_e hp q1, fun st' he => by cases he⟩
    | inr v =>
      rw [pb_r]
      refine ⟨fun e' he => (by cases he), fun st' he => ?_⟩
      cases he
      have g := pNum_pos hp q1
      exact ⟨g.1, g.2.1, by show st.2.1 + 1 + st.1 ≤ st.2.1 + v.2; omega, by show st.2.1 < st.2.1 + 1; omega, fun hwf => wf_push hwf (by unfold okA; omega) (by omega)⟩
  · rw [if_neg h1]
    by_cases h2 : ht_ b N 40 st.1 = true
    · rw [if_pos h2]
      have hh := of_decide_eq_true h2
      by_cases h6 : 6 ≤ o
      · rw [if_pos h6]
        exact ⟨fun e' he => by cases he; exact hs, fun st' he => by cases he⟩
      · rw [if_neg h6]
        have hq := hr (sk b N st.1 + 1, st.2) (by show sk b N st.1 + 1 ≤ N; omega)
        cases q1 : rec (o + 1) (sk b N st.1 + 1, st.2) with
        | inl e =>
          rw [pb_l]
          exact ⟨fun e' he => by cases he; exact hq.1 _ q1, fun st' he => by cases he⟩
        | inr s1 =>
          have g1 := hq.2 _ q1
          rw [pb_r]
          cases q2 : pSign b N 41 s1.1 with
          | inl e =>
            rw [pb_l]
            exact ⟨fun e' he => by cases he; exact pSign_e g1.2.1 q2, fun st' he => by cases he⟩
          | inr p2 =>
            rw [pb_r]
            refine ⟨fun e' he => (by cases he), fun st' he => ?_⟩
            cases he
            have g2 := pSign_pos q2
            obtain ⟨a1, a2, a3, a4, a5⟩ := g1
            have a1' : sk b N st.1 + 1 < s1.1 := a1
            have a3' : s1.2.1 + (sk b N st.1 + 1) ≤ st.2.1 + s1.1 := a3
            exact ⟨by show st.1 < p2; omega, g2.2, by show s1.2.1 + st.1 ≤ st.2.1 + p2; omega, a4, a5⟩
    · rw [if_neg h2]
      by_cases h3 : opW b (sk b N st.1) (wE b N (sk b N st.1)) = 0
      · rw [if_pos h3]
        by_cases h4 : nmW b (sk b N st.1) (wE b N (sk b N st.1)) = 8
        · rw [if_pos h4]
          exact ⟨fun e' he => by cases he; exact hs, fun st' he => by cases he⟩
        · rw [if_neg h4]
          refine ⟨fun e' he => (by cases he), fun st' he => ?_⟩
          cases he
          have hn := nmW_ok b (sk b N st.1) (wE b N (sk b N st.1))
          obtain ⟨w, hw1, hw2⟩ := hn.2 (by omega)
          have hwp := wIs_pos hw1 hw2
          exact ⟨by show st.1 < wE b N (sk b N st.1); omega, hw, by show st.2.1 + 1 + st.1 ≤ st.2.1 + wE b N (sk b N st.1); omega, by show st.2.1 < st.2.1 + 1; omega, fun hwf => wf_push hwf (by unfold okA; omega) (by omega)⟩
      · rw [if_neg h3]
        obtain ⟨w, hw1, hw2⟩ := opW_is h3
        have hwp := wIs_pos hw1 hw2
        by_cases h6 : 6 ≤ o
        · rw [if_pos h6]
          exact ⟨fun e' he => by cases he; exact hs, fun st' he => by cases he⟩
        · rw [if_neg h6]
          cases q1 : pSign b N 91 (wE b N (sk b N st.1)) with
          | inl e =>
            rw [pb_l]
            exact ⟨fun e' he => by cases he; exact pSign_e hw q1, fun st' he => by cases he⟩
          | inr p1 =>
            rw [pb_r]
            have g1 := pSign_pos q1
            have hq := hr (p1, st.2) g1.2
            cases q2 : rec (o + 1) (p1, st.2) with
            | inl e =>
              rw [pb_l]
              exact ⟨fun e' he => by cases he; exact hq.1 _ q2, fun st' he => by cases he⟩
            | inr s1 =>
              have g2 := hq.2 _ q2
              rw [pb_r]
              cases q3 : pSign b N 44 s1.1 with
              | inl e =>
                rw [pb_l]
                exact ⟨fun e' he => by cases he; exact pSign_e g2.2.1 q3, fun st' he => by cases he⟩
              | inr p2 =>
                rw [pb_r]
                have g3 := pSign_pos q3
                have hq2 := hr (p2, s1.2) g3.2
                cases q4 : rec (o + 1) (p2, s1.2) with
                | inl e =>
                  rw [pb_l]
                  exact ⟨fun e' he => by cases he; exact hq2.1 _ q4, fun st' he => by cases he⟩
                | inr s2 =>
                  have g4 := hq2.2 _ q4
                  rw [pb_r]
                  cases q5 : pSign b N 93 s2.1 with
                  | inl e =>
                    rw [pb_l]
                    exact ⟨fun e' he => by cases he; exact pSign_e g4.2.1 q5, fun st' he => by cases he⟩
                  | inr p3 =>
                    rw [pb_r]
                    refine ⟨fun e' he => (by cases he), fun st' he => ?_⟩
                    cases he
                    have g5 := pSign_pos q5
                    obtain ⟨a1, a2, a3, a4, a5⟩ := g2
                    obtain ⟨c1, c2, c3, c4, c5⟩ := g4
                    have a1' : p1 < s1.1 := a1
                    have a3' : s1.2.1 + p1 ≤ st.2.1 + s1.1 := a3
                    have a4' : st.2.1 < s1.2.1 := a4
                    have c1' : p2 < s2.1 := c1
                    have c3' : s2.2.1 + p2 ≤ s1.2.1 + s2.1 := c3
                    have c4' : s1.2.1 < s2.2.1 := c4
                    refine ⟨by show st.1 < p3; omega, g5.2, by show s2.2.1 + 1 + st.1 ≤ st.2.1 + p3; omega, by show st.2.1 < s2.2.1 + 1; omega, fun hwf => ?_⟩
                    obtain ⟨x1, x2⟩ := a5 hwf
                    obtain ⟨y1, y2⟩ := c5 x1
                    have x2' : dep s1.2.2 s1.2.1 = dep st.2.2 st.2.1 + 1 := x2
                    have y2' : dep s2.2.2 s2.2.1 = dep s1.2.2 s1.2.1 + 1 := y2
                    have ho := opW_ok b (sk b N st.1) (wE b N (sk b N st.1))
                    have := wf_op (a := opW b (sk b N st.1) (wE b N (sk b N st.1))) y1 (by unfold okA; omega) (by omega) (by omega)
                    exact ⟨this.1, by rw [show dep _ _ = _ from this.2]; omega⟩
theorem pLp_ok {op : Nat → Nat} {unit : Ls → Pr_ Ls} (hop : ∀ p, op p = 0 ∨ (2000 ≤ op p ∧ op p ≤ 2004)) (hhit : ∀ p, ¬ op p = 0 → sk b N p < N) (hu : ∀ st, st.1 ≤ N → lQ N st (unit st)) {st0 : Ls} : ∀ (f : Nat) (st : Ls), lG N st0 st → lQ N st0 (pLp b N op unit f st)
  | 0, st, h => ⟨fun e he => (by cases he), fun st' he => by cases he; exact h⟩
  | f + 1, st, h => by
    have hs := sk_le (b := b) h.2.1
    have hsg := sk_ge b N st.1
    obtain ⟨a1, a2, a3, a4, a5⟩ := h
    rw [pLp]
    by_cases h0 : op st.1 = 0
    · rw [if_pos h0]
      refine ⟨fun e he => (by cases he), fun st' he => ?_⟩
      cases he
      exact ⟨by show st0.1 < sk b N st.1; omega, hs, by show st.2.1 + st0.1 ≤ st0.2.1 + sk b N st.1; omega, a4, a5⟩
    · rw [if_neg h0]
      have hh := hhit st.1 h0
      have hq := hu (sk b N st.1 + 1, st.2) (by show sk b N st.1 + 1 ≤ N; omega)
      cases q1 : unit (sk b N st.1 + 1, st.2) with
      | inl e =>
        rw [pb_l]
        exact ⟨fun e' he => by cases he; exact hq.1 _ q1, fun st' he => by cases he⟩
      | inr s1 =>
        rw [pb_r]
        obtain ⟨c1, c2, c3, c4, c5⟩ := hq.2 _ q1
        have c1' : sk b N st.1 + 1 < s1.1 := c1
        have c3' : s1.2.1 + (sk b N st.1 + 1) ≤ st.2.1 + s1.1 := c3
        have c4' : st.2.1 < s1.2.1 := c4
        refine pLp_ok hop hhit hu f _ ⟨by show st0.1 < s1.1; omega, c2, by show s1.2.1 + 1 + st0.1 ≤ st0.2.1 + s1.1; omega, by show st0.2.1 < s1.2.1 + 1; omega, fun hwf => ?_⟩
        obtain ⟨x1, x2⟩ := a5 hwf
        obtain ⟨y1, y2⟩ := c5 x1
        have y2' : dep s1.2.2 s1.2.1 = dep st.2.2 st.2.1 + 1 := y2
        have ho := hop st.1
        have := wf_op (a := op st.1) y1 (by unfold okA; omega) (by omega) (by omega)
        exact ⟨this.1, by rw [show dep _ _ = _ from this.2]; omega⟩
theorem mlO_ok (p : Nat) : mlO b N p = 0 ∨ (2000 ≤ mlO b N p ∧ mlO b N p ≤ 2004) := by
  unfold mlO
  repeat' split
  all_goals omega
theorem adO_ok (p : Nat) : adO b N p = 0 ∨ (2000 ≤ adO b N p ∧ adO b N p ≤ 2004) := by
  unfold adO
  repeat' split
  all_goals omega
theorem mlO_hit (p : Nat) (h : ¬ mlO b N p = 0) : sk b N p < N := by
  unfold mlO at h
  by_cases h1 : ht_ b N 42 p = true
  · exact (of_decide_eq_true h1).1
  · rw [if_neg h1] at h
    by_cases h2 : ht_ b N 47 p = true
    · exact (of_decide_eq_true h2).1
    · rw [if_neg h2] at h
      by_cases h3 : ht_ b N 37 p = true
      · exact (of_decide_eq_true h3).1
      · rw [if_neg h3] at h
        exact absurd rfl h
theorem adO_hit (p : Nat) (h : ¬ adO b N p = 0) : sk b N p < N := by
  unfold adO at h
  by_cases h1 : ht_ b N 43 p = true
  · exact (of_decide_eq_true h1).1
  · rw [if_neg h1] at h
    by_cases h2 : ht_ b N 45 p = true
    · exact (of_decide_eq_true h2).1
    · rw [if_neg h2] at h
      exact absurd rfl h
theorem pPr_ok {rec : Nat → Ls → Pr_ Ls} {o : Nat} (hr : ∀ st, st.1 ≤ N → lQ N st (rec (o + 1) st)) {st : Ls} (hp : st.1 ≤ N) : lQ N st (pPr b N rec o st) := by
  unfold pPr
  have h := pUn_ok (b := b) (o := o) hr hp
  cases q1 : pUn b N rec o st with
  | inl e =>
    rw [pb_l]
    exact ⟨fun e' he => by cases he; exact h.1 _ q1, fun st' he => by cases he⟩
  | inr s1 =>
    rw [pb_r]
    exact pLp_ok mlO_ok mlO_hit (fun st hst => pUn_ok hr hst) 160 s1 (h.2 _ q1)
theorem pSuE_ok {rec : Nat → Ls → Pr_ Ls} {o : Nat} (hr : ∀ st, st.1 ≤ N → lQ N st (rec (o + 1) st)) {st : Ls} (hp : st.1 ≤ N) : lQ N st (pSuE b N rec o st) := by
  unfold pSuE
  have h := pPr_ok (b := b) (o := o) hr hp
  cases q1 : pPr b N rec o st with
  | inl e =>
    rw [pb_l]
    exact ⟨fun e' he => by cases he; exact h.1 _ q1, fun st' he => by cases he⟩
  | inr s1 =>
    rw [pb_r]
    exact pLp_ok adO_ok adO_hit (fun st hst => pPr_ok hr hst) 160 s1 (h.2 _ q1)
theorem pSu_ok : ∀ (d o : Nat) (st : Ls), st.1 ≤ N → lQ N st (pSu b N d o st)
  | 0, o, st, hp => ⟨fun e he => by cases he; exact Nat.zero_le _, fun st' he => by cases he⟩
  | d + 1, o, st, hp => pSuE_ok (fun st hst => pSu_ok d (o + 1) st hst) hp
end LAWP
