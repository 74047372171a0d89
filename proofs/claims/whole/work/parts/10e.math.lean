/-! HOW LONG A BUBBLE LASTS; BREATHS; WINDS: both sides -/
def gF (a b c d e f g h : Int32) : Nat → Int32 := fun i => if i = 0 then a else if i = 1 then b else if i = 2 then c else if i = 3 then d else if i = 4 then e else if i = 5 then f else if i = 6 then g else h
def gU (q : Nat → Int32) (a b c d e f g h : Int32) : Nat → Int32 := upd (upd (upd (upd (upd (upd (upd (upd q 0 a) 1 b) 2 c) 3 d) 4 e) 5 f) 6 g) 7 h
theorem gU_at (q : Nat → Int32) (a b c d e f g h : Int32) {i : Nat} (hi : i < 8) : gU q a b c d e f g h i = gF a b c d e f g h i := by
  rcases (show i = 0 ∨ i = 1 ∨ i = 2 ∨ i = 3 ∨ i = 4 ∨ i = 5 ∨ i = 6 ∨ i = 7 by omega) with rfl | rfl | rfl | rfl | rfl | rfl | rfl | rfl <;> rfl
theorem gF_ne (a b c c' d e e' f g h : Int32) {i : Nat} (h2 : i = 2 → c = c') (h4 : i = 4 → e = e') : gF a b c d e f g h i = gF a b c' d e' f g h i := by
  unfold gF
  by_cases q2 : i = 2
  · rw [h2 q2]
    subst q2
    rfl
  · by_cases q4 : i = 4
    · rw [h4 q4]
      subst q4
      rfl
    · simp only [q2, q4, if_false]
theorem lawLife_cong {A : Nat → Nat} {n : Nat} {G H : Nat → Int32} (h0 : n = 0 → G 0 = H 0 ∧ G 1 = H 1 ∧ G 2 = H 2) (h1 : ∀ k, k < n → 1000 ≤ A k → A k < 2000 → G (A k - 1000) = H (A k - 1000)) : lawLife A n G = lawLife A n H := by
  unfold lawLife
  by_cases hn : n = 0
  · obtain ⟨a, b, c⟩ := h0 hn
    rw [if_pos hn, if_pos hn, a, b, c]
  · rw [if_neg hn, if_neg hn, sVal_cong h1]
def sLife (X W : Nat → Int32) (V : Nat) (A : Nat → Nat) (n : Nat) (z : Int32) (R : Nat → Int32) (t : Nat) : Int32 := lawLife A n (gF (R (13 + t)) z (bc5 (sTouch R t)) (R (18 + t)) (sWorth X W R V t) (R 0) (R 1) (nI t))
def rAge (R : Nat → Int32) : Nat → Int32 := lp agS 5 0 R
def sDead (X W : Nat → Int32) (V : Nat) (A : Nat → Nat) (n : Nat) (z : Int32) (R : Nat → Int32) (t : Nat) : Bool := sHas R t && !decide (R (23 + t) < sLife X W V A n z R t)
def rBreathe (X W : Nat → Int32) (V : Nat) (A : Nat → Nat) (n : Nat) (z : Int32) (R : Nat → Int32) : Nat → Int32 := upd (rBurst (sDead X W V A n z (rAge R)) (rAge R)) 0 (rBurst (sDead X W V A n z (rAge R)) (rAge R) 0 + 1)
/-- all that the class's questions read, but the rows -/
def cX (m : Um) (V T : Nat) (X W : Nat → Int32) (n : Nat) (A : Nat → Nat) (z : Int32) : Prop := cC m V T X W ∧ cL m n A ∧ m 3 2 = z
def rX (m : Um) (V T : Nat) (X W : Nat → Int32) (n : Nat) (A : Nat → Nat) (z : Int32) : Prop := rC m V T X W ∧ rL m n A ∧ m 38 19 = z
theorem cX_of {m m' : Um} {V T : Nat} {X W : Nat → Int32} {n : Nat} {A : Nat → Nat} {z : Int32} (h : cX m V T X W n A z) (h1 : ∀ c, c = 3 ∨ c = 4 ∨ c = 5 ∨ c = 13 ∨ c = 14 → m' c = m c) : cX m' V T X W n A z :=
  ⟨cC_of h.1 (h1 3 (by omega)) (h1 4 (by omega)) (h1 5 (by omega)), cL_of h.2.1 (h1 13 (by omega)) (h1 14 (by omega)), by rw [h1 3 (by omega)]; exact h.2.2⟩
theorem rX_of {m m' : Um} {V T : Nat} {X W : Nat → Int32} {n : Nat} {A : Nat → Nat} {z : Int32} (h : rX m V T X W n A z) (h1 : ∀ c, c = 38 ∨ c = 43 ∨ c = 47 ∨ c = 48 → m' c = m c) : rX m' V T X W n A z :=
  ⟨rC_of h.1 (h1 38 (by omega)) (h1 43 (by omega)), rL_of h.2.1 (h1 38 (by omega)) (h1 47 (by omega)) (h1 48 (by omega)), by rw [h1 38 (by omega)]; exact h.2.2⟩
theorem uin_2 : uin 2 8 = true := by decide
theorem uin_4 : uin 4 8 = true := by decide
theorem cl_2 : (2 : Int32).toNatClampNeg = 2 := by decide
theorem cl_4 : (4 : Int32).toNatClampNeg = 4 := by decide
section LIFE
variable {o : Nat} {m : Um} {V T : Nat} {X W : Nat → Int32} {n : Nat} {A : Nat → Nat} {z : Int32} {t u v : Nat}
theorem e_uses {j : Nat} (hj : j < 32) : f_X2_uses m (nI j) = some (m, bi ((m 13 5).toBitVec.getLsbD j)) := by
  simp only [f_X2_uses, f_X2_uses_b17, bit_get _ hj, ite_bi1, ub01_0, ub01_1, ugd_t]
  cases (m 13 5).toBitVec.getLsbD j <;> rfl
theorem e_uses2 (m : Um) : f_X2_uses m 2 = some (m, bi ((m 13 5).toBitVec.getLsbD 2)) := e_uses (j := 2) (by omega)
theorem e_uses4 (m : Um) : f_X2_uses m 4 = some (m, bi ((m 13 5).toBitVec.getLsbD 4)) := e_uses (j := 4) (by omega)
theorem gU_life (hx : cX m V T X W n A z) (R q : Nat → Int32) (w e : Int32) (hw : (m 13 5).toBitVec.getLsbD 2 = true → w = bc5 (sTouch R t)) (he : (m 13 5).toBitVec.getLsbD 4 = true → e = sWorth X W R V t) : lawLife A n (gU q (R (13 + t)) z w (R (18 + t)) e (R 0) (R 1) (nI t)) = sLife X W V A n z R t := by
  unfold sLife
  refine lawLife_cong (fun hn => ⟨rfl, rfl, ?_⟩) (fun k hk h1 h2 => ?_)
  · rw [gU_at _ _ _ _ _ _ _ _ _ (by omega)]
    exact hw (cL_b2 hx.2.1 hn)
  · have h3 := (hx.2.1.2.1 k hk).1
    unfold okA at h3
    have h4 := cL_bit hx.2.1 hk h1 h2
    rw [gU_at _ _ _ _ _ _ _ _ _ (by omega)]
    exact gF_ne _ _ _ _ _ _ _ _ _ _ (fun q => hw (by rw [q] at h4; exact h4)) (fun q => he (by rw [q] at h4; exact h4))
theorem e_life (ho : o = 23 ∨ o = 25) (hx : cX m V T X W n A z) (ht : t < 5) : ∃ g st, f_X4_life o m (nI t) = some (um_wa (um_wa m 17 g) 16 st, sLife X W V A n z (m (o + 1)) t) := by
  have ho17 : o + 1 ≠ 17 := by omega
  have hT : ∀ f, f_X4_touching o (um_wa m 17 f) (nI t) = some (um_wa m 17 f, bits 5 (sTouch (m (o + 1)) t)) := fun f => by
    rw [e_touching ht, um_wa_n ho17]
  have hW : ∀ f, f_X4_worthOf o (um_wa m 17 f) (nI t) = some (um_wa m 17 f, sWorth X W (m (o + 1)) V t) := fun f => by
    rw [e_worthOf (cC_wa hx.1 f (by omega)) ht, um_wa_n ho17]
  have hL : ∀ g, ∃ st, f_X2_life (um_wa m 17 g) = some (um_wa (um_wa m 17 g) 16 st, lawLife A n g) := fun g => by
    obtain ⟨st, e⟩ := e_lawLife (cL_of (m' := um_wa m 17 g) hx.2.1 (um_wa_n (by omega)) (um_wa_n (by omega)))
    rw [um_wa_s] at e
    exact ⟨st, e⟩
  have hz : m 3 2 = z := hx.2.2
  cases h2 : (m 13 5).toBitVec.getLsbD 2 <;> cases h4 : (m 13 5).toBitVec.getLsbD 4
  · obtain ⟨st, e⟩ := hL (gU (m 17) (m (o + 1) (13 + t)) z 0 (m (o + 1) (18 + t)) 0 (m (o + 1) 0) (m (o + 1) 1) (nI t))
    refine ⟨gU (m 17) (m (o + 1) (13 + t)) z 0 (m (o + 1) (18 + t)) 0 (m (o + 1) 0) (m (o + 1) 1) (nI t), st, ?_⟩
    rw [gU_life hx (m (o + 1)) (m 17) 0 0 (fun q => by rw [h2] at q; cases q) (fun q => by rw [h4] at q; cases q)] at e
    unfold gU at e ⊢
    simp (disch := omega) only [f_X4_life, f_X4_life_b65, f_X4_life_b112, lit_add, uin_n, nI_clamp, ugd_t, um_w_def, um_wa_s, um_wa_wa, um_wa_n, e_uses2, e_uses4, h2, h4, bi_f, bi_t, ubi_mk, uin_2, uin_4, cl_2, cl_4, hz, if_true, hT, hW, e_bitCount, e]
  · obtain ⟨st, e⟩ := hL (gU (m 17) (m (o + 1) (13 + t)) z 0 (m (o + 1) (18 + t)) (sWorth X W (m (o + 1)) V t) (m (o + 1) 0) (m (o + 1) 1) (nI t))
    refine ⟨gU (m 17) (m (o + 1) (13 + t)) z 0 (m (o + 1) (18 + t)) (sWorth X W (m (o + 1)) V t) (m (o + 1) 0) (m (o + 1) 1) (nI t), st, ?_⟩
    rw [gU_life hx (m (o + 1)) (m 17) 0 _ (fun q => by rw [h2] at q; cases q) (fun q => rfl)] at e
    unfold gU at e ⊢
    simp (disch := omega) only [f_X4_life, f_X4_life_b65, f_X4_life_b112, lit_add, uin_n, nI_clamp, ugd_t, um_w_def, um_wa_s, um_wa_wa, um_wa_n, e_uses2, e_uses4, h2, h4, ubi_mk, uin_2, uin_4, cl_2, cl_4, hz, ite_bi0, if_true, if_false, Bool.false_eq_true, hT, hW, e_bitCount, e]
  · obtain ⟨st, e⟩ := hL (gU (m 17) (m (o + 1) (13 + t)) z (bc5 (sTouch (m (o + 1)) t)) (m (o + 1) (18 + t)) 0 (m (o + 1) 0) (m (o + 1) 1) (nI t))
    refine ⟨gU (m 17) (m (o + 1) (13 + t)) z (bc5 (sTouch (m (o + 1)) t)) (m (o + 1) (18 + t)) 0 (m (o + 1) 0) (m (o + 1) 1) (nI t), st, ?_⟩
    rw [gU_life hx (m (o + 1)) (m 17) _ 0 (fun q => rfl) (fun q => by rw [h4] at q; cases q)] at e
    unfold gU at e ⊢
    simp (disch := omega) only [f_X4_life, f_X4_life_b65, f_X4_life_b112, lit_add, uin_n, nI_clamp, ugd_t, um_w_def, um_wa_s, um_wa_wa, um_wa_n, e_uses2, e_uses4, h2, h4, ubi_mk, uin_2, uin_4, cl_2, cl_4, hz, ite_bi0, if_true, if_false, Bool.false_eq_true, hT, hW, e_bitCount, e]
  · obtain ⟨st, e⟩ := hL (gU (m 17) (m (o + 1) (13 + t)) z (bc5 (sTouch (m (o + 1)) t)) (m (o + 1) (18 + t)) (sWorth X W (m (o + 1)) V t) (m (o + 1) 0) (m (o + 1) 1) (nI t))
    refine ⟨gU (m 17) (m (o + 1) (13 + t)) z (bc5 (sTouch (m (o + 1)) t)) (m (o + 1) (18 + t)) (sWorth X W (m (o + 1)) V t) (m (o + 1) 0) (m (o + 1) 1) (nI t), st, ?_⟩
    rw [gU_life hx (m (o + 1)) (m 17) _ _ (fun q => rfl) (fun q => rfl)] at e
    unfold gU at e ⊢
    simp (disch := omega) only [f_X4_life, f_X4_life_b65, f_X4_life_b112, lit_add, uin_n, nI_clamp, ugd_t, um_w_def, um_wa_s, um_wa_wa, um_wa_n, e_uses2, e_uses4, h2, h4, ubi_mk, uin_2, uin_4, cl_2, cl_4, hz, ite_bi0, if_true, if_false, Bool.false_eq_true, hT, hW, e_bitCount, e]
theorem e_outlived (ho : o = 23 ∨ o = 25) (hx : cX m V T X W n A z) : ∃ b, f_X4_breathe_b54 o UF m 0 0 = some b ∧ ∃ m', (∀ c, c ≠ 16 → c ≠ 17 → m' c = m c) ∧ b = (um_wa m' (o + 1) (upd (rBurst (sDead X W V A n z (m (o + 1))) (m (o + 1))) 0 (rBurst (sDead X W V A n z (m (o + 1))) (m (o + 1)) 0 + 1)), 1) := by
  refine lp_rel (fun q (s : Um × Int32) t => f_X4_breathe_b54 o q s.1 s.2 (nI t)) 5 (fun t s => (∀ c, c ≠ 16 → c ≠ 17 → s.1 c = m c) ∧ s.2 = bits t (sDead X W V A n z (m (o + 1)))) _ ?_ ?_ 5 0 (m, 0) UF rfl (by decide) ⟨fun _ _ _ => rfl, rfl⟩
  · intro q s t ht hP
    obtain ⟨m1, a⟩ := s
    obtain ⟨hm, ha⟩ := hP
    simp only at hm ha
    have hx1 : cX m1 V T X W n A z := cX_of hx (fun c hc => hm c (by omega) (by omega))
    have hR : m1 (o + 1) = m (o + 1) := hm _ (by omega) (by omega)
    obtain ⟨g, st, e⟩ := e_life ho hx1 ht
    rw [hR] at e
    by_cases hh : sHas (m (o + 1)) t = true
    · refine ⟨(um_wa (um_wa m1 17 g) 16 st, if sDead X W V A n z (m (o + 1)) t = true then a ||| bt t else a), ?_, ?_, ?_⟩
      · show f_X4_breathe_b54 o (q + 1) m1 a (nI t) = f_X4_breathe_b54 o q (um_wa (um_wa m1 17 g) 16 st) (if sDead X W V A n z (m (o + 1)) t = true then a ||| bt t else a) (nI (t + 1))
        rw [f_X4_breathe_b54, if_neg (nle_lit (by omega) (by omega)), e_has ht, ubi_mk, ite_bi0, hR, if_pos hh, lit_add, uin_n (by omega) (by omega), ugd_t, e, ubi_mk, nI_clamp (by omega)]
        simp only [f_X4_breathe_b90, nI_1]
        unfold sDead
        by_cases hl : m (o + 1) (23 + t) < sLife X W V A n z (m (o + 1)) t
        · simp [hl]
        · simp [hl, hh, bt]
      · intro c h1 h2
        show um_wa (um_wa m1 17 g) 16 st c = m c
        rw [um_wa_n h1, um_wa_n h2, hm c h1 h2]
      · show _ = bits (t + 1) _
        rw [bits_succ, ha]
    · refine ⟨(m1, a), ?_, hm, ?_⟩
      · show f_X4_breathe_b54 o (q + 1) m1 a (nI t) = f_X4_breathe_b54 o q m1 a (nI (t + 1))
        rw [f_X4_breathe_b54, if_neg (nle_lit (by omega) (by omega)), e_has ht, ubi_mk, ite_bi0, hR, if_neg hh]
        simp only [f_X4_breathe_b90, nI_1]
      · show _ = bits (t + 1) _
        rw [bits_succ, ha, if_neg]
        unfold sDead
        simp only [Bool.not_eq_true] at hh
        simp [hh]
  · intro q s hP
    have hR : s.1 (o + 1) = m (o + 1) := hP.1 _ (by omega) (by omega)
    refine ⟨_, ?_, s.1, hP.1, rfl⟩
    show f_X4_breathe_b54 o (q + 1) s.1 s.2 (nI 5) = _
    rw [f_X4_breathe_b54, if_pos (by decide), hP.2, e_burst, ubi_mk, um_w_def, um_wa_s, um_wa_wa, hR]
theorem e_breathe (ho : o = 23 ∨ o = 25) (hx : cX m V T X W n A z) {x : Int32} (hb : m (o + 1) 0 < x) : ∃ m', f_X4_breathe o m x = some (m', 1) ∧ m' (o + 1) = rBreathe X W V A n z (m (o + 1)) ∧ ∀ c, c ≠ 16 → c ≠ 17 → c ≠ o + 1 → m' c = m c := by
  have := lp_run0 (fun q (s : Nat → Int32) t => f_X4_breathe_b14 o q (um_wa m (o + 1) s) (nI t)) 5 agS (fun s => f_X4_breathe_b54 o UF (um_wa m (o + 1) s) 0 0) ?_ ?_ (m (o + 1)) (by decide)
  · rw [um_wa_id] at this
    have hx1 : cX (um_wa m (o + 1) (rAge (m (o + 1)))) V T X W n A z := cX_of hx (fun c hc => um_wa_n (by omega))
    obtain ⟨b, e2, m2, h2, rfl⟩ := e_outlived ho hx1
    rw [um_wa_s] at e2
    have e3 : f_X4_breathe o m x = f_X4_breathe_b54 o UF (um_wa m (o + 1) (rAge (m (o + 1)))) 0 0 := by
      unfold f_X4_breathe
      rw [if_pos hb]
      exact this
    rw [e2] at e3
    refine ⟨_, e3, ?_, ?_⟩
    · rw [um_wa_s]
      rfl
    · intro c h1 h3 h4
      rw [um_wa_n h4, h2 c h1 h3, um_wa_n h4]
  · intro q s t ht
    show f_X4_breathe_b14 o (q + 1) (um_wa m (o + 1) s) (nI t) = f_X4_breathe_b14 o q (um_wa m (o + 1) (if sHas s t = true then upd s (23 + t) (s (23 + t) + 1) else s)) (nI (t + 1))
    rw [f_X4_breathe_b14, if_neg (nle_lit (by omega) (by omega)), e_has ht, ubi_mk, ite_bi0, lit_add, uin_n (by omega) (by omega), ugd_t, nI_clamp (by omega), um_wa_s]
    simp (disch := omega) only [f_X4_breathe_b42, uin_n, ugd_t, nI_clamp, nI_1, um_w_def, um_wa_s, um_wa_wa, Int32.add_zero, upd_id]
    cases sHas s t <;> rfl
  · intro q s
    show f_X4_breathe_b14 o (q + 1) (um_wa m (o + 1) s) (nI 5) = _
    rw [f_X4_breathe_b14, if_pos (by decide)]
/-! the reference's -/
theorem r_lifeOf (h : rL m n A) (a b c d e f g i : Int32) : ∃ k st, f_X8_lifeOf m a b c d e f g i = some (um_wa (um_wa m 50 k) 49 st, lawLife A n (gF a b c d e f g i)) := by
  have hL : rL (um_wa m 50 (gU (m 50) a b c d e f g i)) n A := rL_of h (um_wa_n (by omega)) (um_wa_n (by omega)) (um_wa_n (by omega))
  obtain ⟨st, e1⟩ := r_lawLife hL
  rw [um_wa_s] at e1
  have e2 : lawLife A n (gU (m 50) a b c d e f g i) = lawLife A n (gF a b c d e f g i) := lawLife_cong (fun _ => ⟨rfl, rfl, rfl⟩) (fun k hk h1 h2 => gU_at _ _ _ _ _ _ _ _ _ (by
    have h3 := (h.2.2.1 k hk).1
    unfold okA at h3
    omega))
  rw [e2] at e1
  refine ⟨gU (m 50) a b c d e f g i, st, ?_⟩
  unfold gU at e1 ⊢
  simp only [f_X8_lifeOf, um_w_def, um_wa_s, um_wa_wa, e1, ubi_mk]
theorem r_life (hx : rX m V T X W n A z) (hR : vR T (cv (m 54))) (ht : t < 5) : ∃ k st, f_X8_lifeBy m (nI t) = some (um_wa (um_wa m 50 k) 49 st, sLife X W V A n z (cv (m 54)) t) := by
  obtain ⟨k, st, e⟩ : ∃ k st, f_X8_lifeOf m (cv (m 54) (13 + t)) z (bc5 (sTouch (cv (m 54)) t)) (cv (m 54) (18 + t)) (sWorth X W (cv (m 54)) V t) (cv (m 54) 0) (cv (m 54) 1) (nI t) = some (um_wa (um_wa m 50 k) 49 st, sLife X W V A n z (cv (m 54)) t) := by
    unfold sLife
    exact r_lifeOf hx.2.1 _ _ _ _ _ _ _ _
  refine ⟨k, st, ?_⟩
  have hz : m 38 19 = z := hx.2.2
  have hw : f_X8_worthOf m (bits V fun v => decide (sOwn X (cv (m 54)) v = nI t)) = some (m, sWorth X W (cv (m 54)) V t) := r_worth hx.1 _
  simp (disch := omega) only [f_X8_lifeBy, lit_add, uin_n, nI_clamp, ugd_t, r_touching hx.1 hR ht, r_ones, r_ownedBy hx.1 hR, hw, ubi_mk, c_si m ht, c_pl m ht, c_to m, c_bl m, hz]
  rw [e, ubi_mk]
theorem r_bursts (ht : t < 5) : ∃ S, f_X8_bursts m (nI t) = some (um_wa m 54 S, ()) ∧ cv S = burst1 t (cv (m 54)) := by
  refine ⟨upd (upd (upd (upd (m 54) (10 + t) 0) (15 + t) 0) (20 + t) 0) 26 (cv (m 54) 2 + 1), ?_, ?_⟩
  · simp (disch := omega) only [f_X8_bursts, lit_add, uin_n, nI_clamp, ugd_t, um_w_def, um_wa_s, um_wa_wa, upd_n]
    rfl
  · rw [cv_updU, cv_upd _ _ (by omega), cv_upd _ _ (by omega), cv_upd _ _ (by omega)]
    unfold burst1 putB
    rw [show 10 + t + 3 = 13 + t by omega, show 15 + t + 3 = 18 + t by omega, show 20 + t + 3 = 23 + t by omega]
theorem r_blown (ht : t < 5) (k : Int32) : ∃ S, f_X8_isBlown m (nI t) k = some (um_wa m 54 S, bi (sCan (cv (m 54)) t k)) ∧ cv S = rBlow (cv (m 54)) t k := by
  by_cases hs : sCan (cv (m 54)) t k = true
  · have hs' := hs
    unfold sCan sHas at hs'
    simp only [Bool.and_eq_true, Bool.not_eq_true', Bool.not_eq_false', decide_eq_true_eq, decide_eq_false_iff_not] at hs'
    have q1 : ¬ 0 < cv (m 54) (13 + t) := by
      have := hs'.1
      rw [Int32.le_iff_toInt_le] at this
      rw [Int32.lt_iff_toInt_lt]
      omega
    have q2 : 1 + k / 5 ≤ cv (m 54) (3 + t) := by
      have := hs'.2
      rw [Int32.lt_iff_toInt_lt] at this
      rw [Int32.le_iff_toInt_le]
      omega
    refine ⟨upd (upd (upd (upd (upd (m 54) (0 + t) (cv (m 54) (3 + t) - (1 + k / 5))) (10 + t) k) (15 + t) (cv (m 54) (8 + t))) (20 + t) 0) 25 (cv (m 54) 1 + 1), ?_, ?_⟩
    · simp (disch := omega) only [f_X8_isBlown, f_X8_isBlown_b28, lit_add, uin_n, nI_clamp, ugd_t, um_w_def, um_wa_s, um_wa_wa, upd_n, c_si m ht, c_pu m ht, c_st m ht, c_bl m, if_neg q1, if_pos q2, hs, bi_t]
    · unfold rBlow
      rw [if_pos hs, cv_updB, cv_upd _ _ (by omega), cv_upd _ _ (by omega), cv_upd _ _ (by omega), cv_upd _ _ (by omega)]
      unfold putB
      rw [show 10 + t + 3 = 13 + t by omega, show 15 + t + 3 = 18 + t by omega, show 20 + t + 3 = 23 + t by omega, show 0 + t + 3 = 3 + t by omega]
      rw [upd_com (k := 23 + t) (j := 1) (by omega), upd_com (k := 18 + t) (j := 1) (by omega), upd_com (k := 13 + t) (j := 1) (by omega)]
  · refine ⟨m 54, ?_, ?_⟩
    · simp only [Bool.not_eq_true] at hs
      have hs' := hs
      unfold sCan sHas at hs'
      simp (disch := omega) only [f_X8_isBlown, f_X8_isBlown_b28, lit_add, uin_n, nI_clamp, ugd_t, c_si m ht, c_pu m ht, hs, bi_f, um_wa_id]
      by_cases q : cv (m 54) (13 + t) ≤ 0
      · have q1 : ¬ 0 < cv (m 54) (13 + t) := by
          rw [Int32.le_iff_toInt_le] at q
          rw [Int32.lt_iff_toInt_lt]
          omega
        simp only [q, decide_true, Bool.not_true, Bool.not_false, Bool.true_and, Bool.not_eq_false', decide_eq_true_eq] at hs'
        have q2 : ¬ 1 + k / 5 ≤ cv (m 54) (3 + t) := by
          rw [Int32.lt_iff_toInt_lt] at hs'
          rw [Int32.le_iff_toInt_le]
          omega
        rw [if_neg q1, if_neg q2]
      · have q1 : 0 < cv (m 54) (13 + t) := by
          rw [Int32.le_iff_toInt_le] at q
          rw [Int32.lt_iff_toInt_lt]
          omega
        rw [if_pos q1]
    · unfold rBlow
      rw [if_neg hs]
end LIFE
