/-! THE SKY, as rows of ints (the class's layout), and the class's own functions of it -/
def sHas (R : Nat → Int32) (t : Nat) : Bool := !decide (R (13 + t) ≤ 0)
def sFar (X R : Nat → Int32) (t v : Nat) : Int32 := umabs (R (18 + t) - X v)
def sSees (X R : Nat → Int32) (t v : Nat) : Bool := sHas R t && !decide (R (13 + t) < sFar X R t v)
def owS (X R : Nat → Int32) (v t : Nat) (s : Int32 × Int32) : Int32 × Int32 := if sSees X R t v = true ∧ ¬ s.2 ≤ sFar X R t v then (nI t, sFar X R t v) else s
def sOwn (X R : Nat → Int32) (v : Nat) : Int32 := (lp (owS X R v) 5 0 (-1, 100)).1
def sWorth (X W R : Nat → Int32) (V t : Nat) : Int32 := sums V (fun v => bi (decide (sOwn X R v = nI t)) * W v)
def sAll (X W R : Nat → Int32) (V : Nat) : Int32 := sums V (fun v => if sOwn X R v = -1 then 0 else W v)
def sOver (R : Nat → Int32) (t u : Nat) : Int32 := R (13 + t) + R (13 + u) - umabs (R (18 + t) - R (18 + u))
def sTouch (R : Nat → Int32) (t u : Nat) : Bool := decide (t ≠ u) && sHas R t && sHas R u && !decide (sOver R t u < 0)
def bc5 (p : Nat → Bool) : Int32 := sums 5 (fun t => bi (p t))
def sOut (R : Nat → Int32) (w : Int32) (t : Nat) : Bool := sHas R t && (decide (R (18 + t) + w < 0) || !decide (R (18 + t) + w ≤ 99))
def sCan (R : Nat → Int32) (t : Nat) (n : Int32) : Bool := !sHas R t && !decide (R (3 + t) < 1 + n / 5)
def sSell (R : Nat → Int32) (t u : Nat) (n : Int32) : Bool := decide (t ≠ u) && sHas R t && !sHas R u && !decide (R (3 + u) < n)
def sKeep (R : Nat → Int32) (t : Nat) : Bool := sHas R t && !decide (R (23 + t) ≤ 0) && !decide (R (13 + t) < umabs (R (8 + t) - R (18 + t)))
def putB (R : Nat → Int32) (t : Nat) (a b c : Int32) : Nat → Int32 := upd (upd (upd R (13 + t) a) (18 + t) b) (23 + t) c
def rBlow (R : Nat → Int32) (t : Nat) (n : Int32) : Nat → Int32 := if sCan R t n = true then putB (upd (upd R (3 + t) (R (3 + t) - (1 + n / 5))) 1 (R 1 + 1)) t n (R (8 + t)) 0 else R
def burst1 (t : Nat) (R : Nat → Int32) : Nat → Int32 := upd (putB R t 0 0 0) 2 (R 2 + 1)
def buS (p : Nat → Bool) (t : Nat) (R : Nat → Int32) : Nat → Int32 := if p t = true then burst1 t R else R
def mvS (w : Int32) (t : Nat) (R : Nat → Int32) : Nat → Int32 := if sHas R t = true then upd R (18 + t) (R (18 + t) + w) else R
def agS (t : Nat) (R : Nat → Int32) : Nat → Int32 := if sHas R t = true then upd R (23 + t) (R (23 + t) + 1) else R
def rBurst (p : Nat → Bool) (R : Nat → Int32) : Nat → Int32 := lp (buS p) 5 0 R
def rMove (w : Int32) (R : Nat → Int32) : Nat → Int32 := lp (mvS w) 5 0 R
def rDrift (w : Int32) (R : Nat → Int32) : Nat → Int32 := if bits 5 (sHas R) = 0 then R else rMove w (rBurst (sOut R w) R)
def rSell (R : Nat → Int32) (t u : Nat) (n : Int32) : Nat → Int32 := if sSell R t u n = true then putB (putB (upd (upd R (3 + t) (R (3 + t) + n)) (3 + u) (R (3 + u) - n)) u (R (13 + t)) (R (18 + t)) (R (23 + t))) t 0 0 0 else R
/-- what a corner tells, as the class has it -/
def cC (m : Um) (V T : Nat) (X W : Nat → Int32) : Prop := V ≤ 8 ∧ T ≤ 5 ∧ m 3 0 = nI V ∧ m 3 1 = nI T ∧ (∀ v, v < V → m 4 v = X v) ∧ ∀ v, v < V → m 5 v = W v
theorem cC_wa {m : Um} {V T : Nat} {X W : Nat → Int32} (h : cC m V T X W) {c : Nat} (f : Nat → Int32) (hc : 6 ≤ c) : cC (um_wa m c f) V T X W := by
  unfold cC
  rw [um_wa_n (by omega), um_wa_n (by omega), um_wa_n (by omega)]
  exact h
theorem cC_of {m m' : Um} {V T : Nat} {X W : Nat → Int32} (h : cC m V T X W) (h3 : m' 3 = m 3) (h4 : m' 4 = m 4) (h5 : m' 5 = m 5) : cC m' V T X W := by
  unfold cC
  rw [h3, h4, h5]
  exact h
section SKY
variable {o : Nat} {m : Um} {V T : Nat} {X W : Nat → Int32} {t u v : Nat}
theorem e_has (ht : t < 5) : f_X4_has o m (nI t) = some (m, bi (sHas (m (o + 1)) t)) := by
  simp (disch := omega) only [f_X4_has, f_X4_has_b17, lit_add, uin_n, nI_clamp, ugd_t, ub01_0, ub01_1]
  unfold sHas
  by_cases h : m (o + 1) (13 + t) ≤ 0 <;> simp [h, bi]
theorem e_far (hc : cC m V T X W) (ht : t < 5) (hv : v < V) : f_X4_farFrom o m (nI t) (nI v) = some (m, sFar X (m (o + 1)) t v) := by
  have hV := hc.1
  simp (disch := omega) only [f_X4_farFrom, lit_add, uin_n, nI_clamp, ugd_t, hc.2.2.2.2.1 v hv]
  rfl
theorem e_sees (hc : cC m V T X W) (ht : t < 5) (hv : v < V) : f_X4_sees o m (nI t) (nI v) = some (m, bi (sSees X (m (o + 1)) t v)) := by
  simp (disch := omega) only [f_X4_sees, f_X4_sees_b30, f_X4_sees_b31, e_has ht, ubi_mk, ite_bi0, e_far hc ht hv, lit_add, uin_n, nI_clamp, ugd_t, ub01_0, ub01_1]
  unfold sSees
  cases sHas (m (o + 1)) t <;> by_cases h2 : m (o + 1) (13 + t) < sFar X (m (o + 1)) t v <;> simp [h2, bi]
theorem e_owner (hc : cC m V T X W) (hv : v < V) : f_X4_owner o m (nI v) = some (m, sOwn X (m (o + 1)) v) := by
  have hV := hc.1
  refine lp_run0 (fun n (s : Int32 × Int32) t => f_X4_owner_b8 o n m (nI v) s.1 s.2 (nI t)) 5 (owS X (m (o + 1)) v) (fun s => some (m, s.1)) ?_ ?_ (-1, 100) (by decide)
  · intro n s t ht
    show f_X4_owner_b8 o (n + 1) m (nI v) s.1 s.2 (nI t) = f_X4_owner_b8 o n m (nI v) (owS X (m (o + 1)) v t s).1 (owS X (m (o + 1)) v t s).2 (nI (t + 1))
    rw [f_X4_owner_b8, if_neg (nle_lit (by omega) (by omega))]
    simp (disch := omega) only [lit_add, uin_n, nI_clamp, ugd_t, f_X4_owner_b79, nI_1, hc.2.2.2.2.1 v hv]
    unfold owS sSees sHas sFar
    by_cases a : m (o + 1) (13 + t) ≤ 0
    · simp [a]
    · by_cases b : m (o + 1) (13 + t) < umabs (m (o + 1) (18 + t) - X v)
      · simp only [a, b, if_true, if_false, decide_true, decide_false, Bool.not_true, Bool.not_false, Bool.and_false, Bool.false_eq_true, false_and]
      · by_cases c : s.2 ≤ umabs (m (o + 1) (18 + t) - X v)
        · simp only [a, b, c, if_true, if_false, not_true_eq_false, and_false]
        · simp only [a, b, c, if_false, decide_false, Bool.not_false, Bool.and_self, not_false_eq_true, and_self, if_true]
  · intro n s
    show f_X4_owner_b8 o (n + 1) m (nI v) s.1 s.2 (nI 5) = some (m, s.1)
    rw [f_X4_owner_b8, if_pos (by decide)]
theorem own_cases (X R : Nat → Int32) (v : Nat) : sOwn X R v = -1 ∨ ∃ t, t < 5 ∧ sOwn X R v = nI t ∧ sSees X R t v = true := by
  refine lp_ind0 (f := owS X R v) (fun j s => s.1 = -1 ∨ ∃ t, t < 5 ∧ s.1 = nI t ∧ sSees X R t v = true) 5 (-1, 100) (Or.inl rfl) ?_
  intro j s hj h
  unfold owS
  by_cases a : sSees X R j v = true ∧ ¬ s.2 ≤ sFar X R j v
  · rw [if_pos a]
    exact Or.inr ⟨j, hj, rfl, a.1⟩
  · rw [if_neg a]
    exact h
theorem e_ownerN (hc : cC m V T X W) (hv : v < V) : f_X4_ownerOrNobody o m (nI v) = some (m, if sOwn X (m (o + 1)) v = -1 then 5 else sOwn X (m (o + 1)) v) := by
  simp only [f_X4_ownerOrNobody, f_X4_ownerOrNobody_b16, e_owner hc hv, ubi_mk]
  split <;> rfl
theorem e_holders : f_X4_holders o m = some (m, bits 5 (sHas (m (o + 1)))) := by
  refine lp_run0 (fun n (s : Int32) t => f_X4_holders_b4 o n m s (nI t)) 5 _ (fun s => some (m, s)) ?_ ?_ 0 (by decide)
  · intro n s t ht
    show f_X4_holders_b4 o (n + 1) m s (nI t) = _
    rw [f_X4_holders_b4, if_neg (nle_lit (by omega) (by omega)), e_has ht, ubi_mk, ite_bi0]
    simp only [f_X4_holders_b23, nI_1]
    cases sHas (m (o + 1)) t <;> rfl
  · intro n s
    show f_X4_holders_b4 o (n + 1) m s (nI 5) = some (m, s)
    rw [f_X4_holders_b4, if_pos (by decide)]
theorem e_seenBy (hc : cC m V T X W) (hv : v < V) : f_X4_seenBy o m (nI v) = some (m, bits 5 (fun t => sSees X (m (o + 1)) t v)) := by
  refine lp_run0 (fun n (s : Int32) t => f_X4_seenBy_b4 o n m (nI v) s (nI t)) 5 _ (fun s => some (m, s)) ?_ ?_ 0 (by decide)
  · intro n s t ht
    show f_X4_seenBy_b4 o (n + 1) m (nI v) s (nI t) = _
    rw [f_X4_seenBy_b4, if_neg (nle_lit (by omega) (by omega)), e_sees hc ht hv, ubi_mk, ite_bi0]
    simp only [f_X4_seenBy_b24, nI_1]
    by_cases h : sSees X (m (o + 1)) t v = true <;> simp [h, bt]
  · intro n s
    show f_X4_seenBy_b4 o (n + 1) m (nI v) s (nI 5) = some (m, s)
    rw [f_X4_seenBy_b4, if_pos (by decide)]
theorem e_viewsSeen (hc : cC m V T X W) (ht : t < 5) : f_X4_viewsSeen o m (nI t) = some (m, bits V (fun v => sSees X (m (o + 1)) t v)) := by
  have hV := hc.1
  refine lp_run0 (fun n (s : Int32) v => f_X4_viewsSeen_b4 o n m (nI t) s (nI v)) V _ (fun s => some (m, s)) ?_ ?_ 0 (by show V < 3000; omega)
  · intro n s v hv
    show f_X4_viewsSeen_b4 o (n + 1) m (nI t) s (nI v) = _
    rw [f_X4_viewsSeen_b4, hc.2.2.1, if_neg (nI_ge (by omega) (by omega)), e_sees hc ht hv, ubi_mk, ite_bi0]
    simp only [f_X4_viewsSeen_b30, nI_1]
    by_cases h : sSees X (m (o + 1)) t v = true <;> simp [h, bt]
  · intro n s
    show f_X4_viewsSeen_b4 o (n + 1) m (nI t) s (nI V) = some (m, s)
    rw [f_X4_viewsSeen_b4, hc.2.2.1, if_pos (nI_le (Nat.le_refl _) (by omega))]
theorem own_sees {R : Nat → Int32} (ht : t < 5) : (sSees X R t v && decide (sOwn X R v = nI t)) = decide (sOwn X R v = nI t) := by
  by_cases h : sOwn X R v = nI t
  · rcases own_cases X R v with h1 | ⟨t', h2, h3, h4⟩
    · rw [h1] at h
      exact absurd h.symm (by rw [nI_ne1 (by omega)]; exact id)
    · have : t' = t := by
        rw [h] at h3
        exact ((nI_eq (by omega) (by omega)).mp h3).symm
      subst this
      simp [h4]
  · simp [h]
theorem e_viewsHad (hc : cC m V T X W) (ht : t < 5) : f_X4_viewsHad o m (nI t) = some (m, bits V (fun v => decide (sOwn X (m (o + 1)) v = nI t))) := by
  have hV := hc.1
  refine lp_run0 (fun n (s : Int32) v => f_X4_viewsHad_b4 o n m (nI t) s (nI v)) V _ (fun s => some (m, s)) ?_ ?_ 0 (by show V < 3000; omega)
  · intro n s v hv
    show f_X4_viewsHad_b4 o (n + 1) m (nI t) s (nI v) = f_X4_viewsHad_b4 o n m (nI t) (if decide (sOwn X (m (o + 1)) v = nI t) = true then s ||| bt v else s) (nI (v + 1))
    rw [f_X4_viewsHad_b4, hc.2.2.1, if_neg (nI_ge (by omega) (by omega)), e_owner hc hv, ubi_mk]
    simp only [f_X4_viewsHad_b30, nI_1]
    by_cases h : sOwn X (m (o + 1)) v = nI t <;> simp [h, bt]
  · intro n s
    show f_X4_viewsHad_b4 o (n + 1) m (nI t) s (nI V) = some (m, s)
    rw [f_X4_viewsHad_b4, hc.2.2.1, if_pos (nI_le (Nat.le_refl _) (by omega))]
theorem e_worthOf (hc : cC m V T X W) (ht : t < 5) : f_X4_worthOf o m (nI t) = some (m, sWorth X W (m (o + 1)) V t) := by
  have hV := hc.1
  refine lp_run0 (fun n (s : Int32) v => f_X4_worthOf_b4 o n m (nI t) s (nI v)) V _ (fun s => some (m, s)) ?_ ?_ 0 (by show V < 3000; omega)
  · intro n s v hv
    show f_X4_worthOf_b4 o (n + 1) m (nI t) s (nI v) = f_X4_worthOf_b4 o n m (nI t) (s + bi (decide (sOwn X (m (o + 1)) v = nI t)) * W v) (nI (v + 1))
    rw [f_X4_worthOf_b4, hc.2.2.1, if_neg (nI_ge (by omega) (by omega)), e_owner hc hv, ubi_mk]
    by_cases h : sOwn X (m (o + 1)) v = nI t
    · rw [if_pos h, uin_n (by omega) (by omega), ugd_t, f_X4_worthOf_b38, nI_1, nI_clamp (by omega), hc.2.2.2.2.2 v hv, decide_eq_true h, bi_t, Int32.one_mul]
    · rw [if_neg h, f_X4_worthOf_b38, nI_1, decide_eq_false h, bi_f, Int32.zero_mul]
  · intro n s
    show f_X4_worthOf_b4 o (n + 1) m (nI t) s (nI V) = some (m, s)
    rw [f_X4_worthOf_b4, hc.2.2.1, if_pos (nI_le (Nat.le_refl _) (by omega))]
theorem e_worthHad (hc : cC m V T X W) : f_X4_worthHad o m = some (m, sAll X W (m (o + 1)) V) := by
  have hV := hc.1
  refine lp_run0 (fun n (s : Int32) v => f_X4_worthHad_b4 o n m s (nI v)) V _ (fun s => some (m, s)) ?_ ?_ 0 (by show V < 3000; omega)
  · intro n s v hv
    show f_X4_worthHad_b4 o (n + 1) m s (nI v) = _
    rw [f_X4_worthHad_b4, hc.2.2.1, if_neg (nI_ge (by omega) (by omega)), e_owner hc hv, ubi_mk, uin_n (by omega) (by omega), ugd_t]
    simp only [f_X4_worthHad_b38, nI_1, nI_clamp (show v < 2 ^ 31 by omega), hc.2.2.2.2.2 v hv]
    by_cases h : sOwn X (m (o + 1)) v = -1 <;> simp [h]
  · intro n s
    show f_X4_worthHad_b4 o (n + 1) m s (nI V) = some (m, s)
    rw [f_X4_worthHad_b4, hc.2.2.1, if_pos (nI_le (Nat.le_refl _) (by omega))]
theorem e_money : f_X4_moneyOfAll o m = some (m, sums 5 (fun t => m (o + 1) (3 + t))) := by
  refine lp_run0 (fun n (s : Int32) t => f_X4_moneyOfAll_b4 o n m s (nI t)) 5 _ (fun s => some (m, s)) ?_ ?_ 0 (by decide)
  · intro n s t ht
    show f_X4_moneyOfAll_b4 o (n + 1) m s (nI t) = _
    rw [f_X4_moneyOfAll_b4, if_neg (nle_lit (by omega) (by omega)), lit_add, uin_n (by omega) (by omega), ugd_t, nI_clamp (by omega), nI_1]
  · intro n s
    show f_X4_moneyOfAll_b4 o (n + 1) m s (nI 5) = some (m, s)
    rw [f_X4_moneyOfAll_b4, if_pos (by decide)]
theorem e_overlap (ht : t < 5) (hu : u < 5) : f_X4_overlapOf o m (nI t) (nI u) = some (m, sOver (m (o + 1)) t u) := by
  simp (disch := omega) only [f_X4_overlapOf, lit_add, uin_n, nI_clamp, ugd_t]
  rfl
theorem e_touching (ht : t < 5) : f_X4_touching o m (nI t) = some (m, bits 5 (sTouch (m (o + 1)) t)) := by
  refine lp_run0 (fun n (s : Int32) u => f_X4_touching_b4 o n m (nI t) s (nI u)) 5 _ (fun s => some (m, s)) ?_ ?_ 0 (by decide)
  · intro n s u hu
    show f_X4_touching_b4 o (n + 1) m (nI t) s (nI u) = f_X4_touching_b4 o n m (nI t) (if sTouch (m (o + 1)) t u = true then s ||| bt u else s) (nI (u + 1))
    rw [f_X4_touching_b4, if_neg (nle_lit (by omega) (by omega))]
    simp (disch := omega) only [f_X4_touching_b45, nI_1, e_has hu, e_has ht, e_overlap ht hu, ubi_mk, ite_bi0, nI_eq']
    unfold sTouch bt
    by_cases h : u = t
    · subst h
      simp
    · have h' : t ≠ u := fun q => h q.symm
      cases sHas (m (o + 1)) t <;> cases sHas (m (o + 1)) u <;> by_cases h2 : sOver (m (o + 1)) t u < 0 <;> simp [h, h', h2]
  · intro n s
    show f_X4_touching_b4 o (n + 1) m (nI t) s (nI 5) = some (m, s)
    rw [f_X4_touching_b4, if_pos (by decide)]
theorem e_bitCount (p : Nat → Bool) : f_J6_bitCount_0f7a4 m (bits 5 p) = some (m, bc5 p) := by
  unfold f_J6_bitCount_0f7a4
  congr 2
  unfold bc5 sums bits
  simp only [lp]
  generalize p 0 = a
  generalize p 1 = b
  generalize p 2 = c
  generalize p 3 = d
  generalize p 4 = e
  revert a b c d e
  decide +kernel
theorem e_twos : f_X4_touchingTwos o m = some (m, sums 5 (fun t => bc5 (sTouch (m (o + 1)) t)) / 2) := by
  refine lp_run0 (fun n (s : Int32) t => f_X4_touchingTwos_b4 o n m s (nI t)) 5 (fun t s => s + bc5 (sTouch (m (o + 1)) t)) (fun s => some (m, s / 2)) ?_ ?_ 0 (by decide)
  · intro n s t ht
    show f_X4_touchingTwos_b4 o (n + 1) m s (nI t) = _
    rw [f_X4_touchingTwos_b4, if_neg (nle_lit (by omega) (by omega)), e_touching ht, ubi_mk, e_bitCount, ubi_mk, nI_1]
  · intro n s
    show f_X4_touchingTwos_b4 o (n + 1) m s (nI 5) = some (m, s / 2)
    rw [f_X4_touchingTwos_b4, if_pos (by decide)]
theorem e_carried (w : Int32) : f_X4_carriedOff o m w = some (m, bits 5 (sOut (m (o + 1)) w)) := by
  refine lp_run0 (fun n (s : Int32) t => f_X4_carriedOff_b4 o n m w s (nI t)) 5 _ (fun s => some (m, s)) ?_ ?_ 0 (by decide)
  · intro n s t ht
    show f_X4_carriedOff_b4 o (n + 1) m w s (nI t) = f_X4_carriedOff_b4 o n m w (if sOut (m (o + 1)) w t = true then s ||| bt t else s) (nI (t + 1))
    rw [f_X4_carriedOff_b4, if_neg (nle_lit (by omega) (by omega)), lit_add, uin_n (by omega) (by omega), ugd_t, nI_clamp (by omega), e_has ht, ubi_mk, ite_bi0]
    simp only [f_X4_carriedOff_b48, f_X4_carriedOff_b42, nI_1]
    unfold sOut bt
    cases sHas (m (o + 1)) t
    · rfl
    · by_cases h1 : m (o + 1) (18 + t) + w < 0
      · simp [h1]
      · by_cases h2 : m (o + 1) (18 + t) + w ≤ 99 <;> simp [h1, h2]
  · intro n s
    show f_X4_carriedOff_b4 o (n + 1) m w s (nI 5) = some (m, s)
    rw [f_X4_carriedOff_b4, if_pos (by decide)]
theorem e_canBlow (ht : t < 5) (n : Int32) : f_X4_canBlow o m (nI t) n = some (m, bi (sCan (m (o + 1)) t n)) := by
  simp (disch := omega) only [f_X4_canBlow, f_X4_canBlow_b27, f_X4_canBlow_b28, f_X4_price, e_has ht, ubi_mk, ite_bi0, lit_add, uin_n, nI_clamp, ugd_t, ub01_0, ub01_1]
  unfold sCan
  cases sHas (m (o + 1)) t <;> by_cases h2 : m (o + 1) (3 + t) < 1 + n / 5 <;> simp [h2, bi]
theorem e_canSell (ht : t < 5) (hu : u < 5) (n : Int32) : f_X4_canSell o m (nI t) (nI u) n = some (m, bi (sSell (m (o + 1)) t u n)) := by
  simp (disch := omega) only [f_X4_canSell, f_X4_canSell_b37, f_X4_canSell_b38, e_has ht, e_has hu, ubi_mk, ite_bi0, lit_add, uin_n, nI_clamp, ugd_t, ub01_0, ub01_1, nI_eq']
  unfold sSell
  by_cases h : t = u
  · simp [h, bi]
  · cases sHas (m (o + 1)) t <;> cases sHas (m (o + 1)) u <;> by_cases h2 : m (o + 1) (3 + u) < n <;> simp [h, h2, bi]
theorem e_canKeep (ht : t < 5) : f_X4_canKeep o m (nI t) = some (m, bi (sKeep (m (o + 1)) t)) := by
  simp (disch := omega) only [f_X4_canKeep, f_X4_canKeep_b58, f_X4_canKeep_b59, e_has ht, ubi_mk, ite_bi0, lit_add, uin_n, nI_clamp, ugd_t, ub01_0, ub01_1]
  unfold sKeep
  cases sHas (m (o + 1)) t <;> by_cases h1 : m (o + 1) (23 + t) ≤ 0 <;> by_cases h2 : m (o + 1) (13 + t) < umabs (m (o + 1) (8 + t) - m (o + 1) (18 + t)) <;> simp [h1, h2, bi]
/-! what is done -/
theorem e_put (ht : t < 5) (a b c : Int32) : f_X4_putBubble o m (nI t) a b c = some (um_wa m (o + 1) (putB (m (o + 1)) t a b c), ()) := by
  simp (disch := omega) only [f_X4_putBubble, lit_add, uin_n, nI_clamp, ugd_t, um_w_def, um_wa_s, um_wa_wa]
  rfl
theorem e_blow (ht : t < 5) (n : Int32) : f_X4_blow o m (nI t) n = some (um_wa m (o + 1) (rBlow (m (o + 1)) t n), bi (sCan (m (o + 1)) t n)) := by
  simp (disch := omega) only [f_X4_blow, e_canBlow ht, f_X4_price, ubi_mk, ite_bi0, lit_add, uin_n, nI_clamp, ugd_t, um_w_def, um_wa_s, um_wa_wa, e_put ht, upd_n]
  unfold rBlow
  cases sCan (m (o + 1)) t n
  · simp [um_wa_id, bi]
  · simp [bi]
theorem e_burst (p : Nat → Bool) : f_X4_burstAll o m (bits 5 p) = some (um_wa m (o + 1) (rBurst p (m (o + 1))), ()) := by
  have := lp_run0 (fun n (s : Nat → Int32) t => f_X4_burstAll_b2 o n (um_wa m (o + 1) s) (bits 5 p) (nI t)) 5 (buS p) (fun s => some (um_wa m (o + 1) s, ())) ?_ ?_ (m (o + 1)) (by decide)
  · rw [um_wa_id] at this
    exact this
  · intro n s t ht
    show f_X4_burstAll_b2 o (n + 1) (um_wa m (o + 1) s) (bits 5 p) (nI t) = f_X4_burstAll_b2 o n (um_wa m (o + 1) (if p t = true then burst1 t s else s)) (bits 5 p) (nI (t + 1))
    rw [f_X4_burstAll_b2, if_neg (nle_lit (by omega) (by omega)), bits_bit p (by omega) ht, ite_bi1]
    simp only [f_X4_burstAll_b34, nI_1, e_put ht, ubi_mk, um_w_def, um_wa_s, um_wa_wa]
    cases p t
    · rfl
    · have e2 : putB s t 0 0 0 2 = s 2 := by
        unfold putB
        rw [upd_n (by omega), upd_n (by omega), upd_n (by omega)]
      simp only [if_pos, e2]
      rfl
  · intro n s
    show f_X4_burstAll_b2 o (n + 1) (um_wa m (o + 1) s) (bits 5 p) (nI 5) = _
    rw [f_X4_burstAll_b2, if_pos (by decide)]
theorem e_drift (w : Int32) : f_X4_drift o m w = some (um_wa m (o + 1) (rDrift w (m (o + 1))), bi (!decide (bits 5 (sHas (m (o + 1))) = 0))) := by
  unfold f_X4_drift rDrift
  rw [e_holders, ubi_mk]
  by_cases h : bits 5 (sHas (m (o + 1))) = 0
  · rw [if_pos h, if_pos h, um_wa_id]
    simp [h, bi]
  · rw [if_neg h, if_neg h, e_carried, ubi_mk, e_burst, ubi_mk]
    have := lp_run0 (fun n (s : Nat → Int32) t => f_X4_drift_b20 o n (um_wa m (o + 1) s) w (nI t)) 5 (mvS w) (fun s => some (um_wa m (o + 1) s, 1)) ?_ ?_ (rBurst (sOut (m (o + 1)) w) (m (o + 1))) (by decide)
    · simp only [h, decide_false, Bool.not_false]
      exact this
    · intro n s t ht
      show f_X4_drift_b20 o (n + 1) (um_wa m (o + 1) s) w (nI t) = f_X4_drift_b20 o n (um_wa m (o + 1) (if sHas s t = true then upd s (18 + t) (s (18 + t) + w) else s)) w (nI (t + 1))
      rw [f_X4_drift_b20, if_neg (nle_lit (by omega) (by omega)), e_has ht, ubi_mk, ite_bi0, lit_add, uin_n (by omega) (by omega), ugd_t, ugd_t, nI_clamp (by omega), um_wa_s]
      simp only [f_X4_drift_b46, nI_1, um_w_def, um_wa_s, um_wa_wa]
      cases sHas s t <;> rfl
    · intro n s
      show f_X4_drift_b20 o (n + 1) (um_wa m (o + 1) s) w (nI 5) = _
      rw [f_X4_drift_b20, if_pos (by decide)]
theorem e_run (ht : t < 5) (x : Int32) : f_X4_runTo o m (nI t) x = some (um_wa m (o + 1) (if m (o + 1) (8 + t) = x then m (o + 1) else upd (m (o + 1)) (8 + t) x), bi (!decide (m (o + 1) (8 + t) = x))) := by
  simp (disch := omega) only [f_X4_runTo, lit_add, uin_n, nI_clamp, ugd_t, um_w_def]
  by_cases h : m (o + 1) (8 + t) = x
  · rw [if_pos h, if_pos h, um_wa_id]
    simp [h, bi]
  · rw [if_neg h, if_neg h]
    simp [h, bi]
theorem e_sell (ht : t < 5) (hu : u < 5) (n : Int32) : f_X4_sellFor o m (nI t) (nI u) n = some (um_wa m (o + 1) (rSell (m (o + 1)) t u n), bi (sSell (m (o + 1)) t u n)) := by
  unfold rSell
  by_cases h : sSell (m (o + 1)) t u n = true
  · have htu : t ≠ u := by
      unfold sSell at h
      intro q
      simp [q] at h
    simp (disch := omega) only [f_X4_sellFor, e_canSell ht hu, h, bi_t, ubi_mk, lit_add, uin_n, nI_clamp, ugd_t, um_w_def, um_wa_s, um_wa_wa, e_put ht, e_put hu, upd_n]
    simp
  · simp only [Bool.not_eq_true] at h
    simp only [f_X4_sellFor, e_canSell ht hu, h, bi_f, ubi_mk]
    simp [um_wa_id]
theorem e_keep (ht : t < 5) : f_X4_keepUp o m (nI t) = some (um_wa m (o + 1) (if sKeep (m (o + 1)) t = true then upd (m (o + 1)) (23 + t) 0 else m (o + 1)), bi (sKeep (m (o + 1)) t)) := by
  simp (disch := omega) only [f_X4_keepUp, e_canKeep ht, ubi_mk, ite_bi0, lit_add, uin_n, nI_clamp, ugd_t, um_w_def]
  cases sKeep (m (o + 1)) t <;> simp [um_wa_id, bi]
theorem e_copyS : f_X4_copyFrom m = some (um_wa m 26 (va_cpy (m 24) (m 26) 0 0 28), ()) := rfl
end SKY
