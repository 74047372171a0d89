theorem sub_abs {a b : Int32} (ha : 0 ≤ a.toInt ∧ a.toInt ≤ 99) (hb : 0 ≤ b.toInt ∧ b.toInt ≤ 99) : umabs (a - b) = umabs (b - a) := by
  have e1 : (a - b).toInt = a.toInt - b.toInt := i_sub (by omega) (by omega)
  have e2 : (b - a).toInt = b.toInt - a.toInt := i_sub (by omega) (by omega)
  apply Int32.toInt_inj.mp
  rw [i_abs (by omega), i_abs (by omega), e1, e2]
  split <;> split <;> omega
theorem abs_rng {a b : Int32} (ha : 0 ≤ a.toInt ∧ a.toInt ≤ 99) (hb : 0 ≤ b.toInt ∧ b.toInt ≤ 99) : 0 ≤ (umabs (a - b)).toInt ∧ (umabs (a - b)).toInt ≤ 99 := by
  have e1 : (a - b).toInt = a.toInt - b.toInt := i_sub (by omega) (by omega)
  rw [i_abs (by omega), e1]
  split <;> omega
theorem max1 {x : Int32} (h : 0 ≤ x.toInt) : ummax 1 x = if x = 0 then 1 else x := by
  show (if 1 < x then x else 1) = _
  by_cases q : x = 0
  · rw [q]
    rfl
  · rw [if_neg q]
    by_cases r : 1 < x
    · rw [if_pos r]
    · rw [if_neg r]
      rw [Int32.lt_iff_toInt_lt, i_1] at r
      have : x.toInt ≠ 0 := fun e => q (Int32.toInt_inj.mp (by rw [e, i_0]))
      apply Int32.toInt_inj.mp
      rw [i_1]
      omega
theorem op_needs : uop_needs uI := by
  intro m a1 a2 ⟨s, hc, hr, hv⟩
  have hT5 := vI_T hc
  have hV8 := vI_V hc
  by_cases h1 : ∃ v, v < qT s ∧ a1 = nI v
  · obtain ⟨t1, ht1, rfl⟩ := h1
    by_cases h2 : ∃ v, v < qV s ∧ a2 = nI v
    · obtain ⟨t2, ht2, rfl⟩ := h2
      refine Or.inl (wrapI (fr := fun M => f_X8_needs M (nI t1) (nI t2)) hc hr hv ?_)
      have ht5 : t1 < 5 := by omega
      have hX := (hv.1 t2 ht2).1
      have hS := (hv.2.1.1.2.1 t1 ht5).2.2
      have hab := abs_rng hX hS
      refine ⟨if umabs (qX s t2 - qR s (8 + t1)) ≤ 20 then ummax 1 (umabs (qX s t2 - qR s (8 + t1))) else -1, m, ?_, cK_rf hc, fun M hM => ?_⟩
      · simp (decide := true) (disch := omega) only [f_X7_needs, e_ten_t hc.1.1.2.2.2.1 (show qT s ≤ 8 by omega) ht1, e_vie_t hc.1.1.2.2.1 (show qV s ≤ 8 by omega) ht2, ubx_l, ubi_mk, if_true, if_false, ugd_t, lit_add, uin_n, nI_clamp, hc.1.1.2.2.2.2.1 t2 ht2, hc.2.1, f_X7_needs_b51]
        split <;> rfl
      · have hm := rI_K hM (z0_K M)
        have hM0 := hm
        refine ⟨z0 M, ?_, z0_K M, z0_0 M⟩
        show ubi (f_X8_isTenant (z0 (M)) (nI t1) 1) _ = _
        simp (decide := true) (disch := omega) only [r_ten_t hM0.1.1.2.2.2.1 (show qT s ≤ 8 by omega) ht1 (z0_0 _), r_vie_t hM0.1.1.2.2.1 (show qV s ≤ 8 by omega) ht2 (z0_0 _), ubi_mk, r_may_t (z0_0 _), if_true, if_false, ugd_t, f_X8_needs_b23, lit_add, lit_mul, uin_n, nI_clamp, hm.1.1.2.2.2.2.1 t2 ht2, cc_st (z0 M 53) ht5, hm.2.1, r_size, f_X8_needs_b65]
        rw [sub_abs hS hX, max1 hab.1]
        split
        · split <;> rfl
        · rfl
    · refine Or.inr ⟨tN m, tR (z0 (tN m)) 1 0, 0, ?_, ?_, tR_0, throwN hc hr hv 1⟩
      · simp only [f_X7_needs, e_ten_t hc.1.1.2.2.2.1 (show qT s ≤ 8 by omega) ht1, e_vie_f hc.1.1.2.2.1 (show qV s ≤ 8 by omega) h2, ubx_l, ubx_r]
      · have hm := rI_tN hr
        show ubi (f_X8_isTenant (z0 (tN m)) (nI t1) 1) _ = _
        simp (decide := true) (disch := omega) only [r_ten_t hm.1.1.2.2.2.1 (show qT s ≤ 8 by omega) ht1 (z0_0 _), r_vie_f hm.1.1.2.2.1 (show qV s ≤ 8 by omega) h2 (z0_0 _) i1_0, ubi_mk, if_true, if_false, f_X8_needs_b23]
  · refine Or.inr ⟨tN m, tR (z0 (tN m)) 1 0, 0, ?_, ?_, tR_0, throwN hc hr hv 1⟩
    · simp only [f_X7_needs, e_ten_f hc.1.1.2.2.2.1 (show qT s ≤ 8 by omega) h1, ubx_l, ubx_r]
    · have hm := rI_tN hr
      show ubi (f_X8_isTenant (z0 (tN m)) a1 1) _ = _
      simp (decide := true) (disch := omega) only [r_ten_f hm.1.1.2.2.2.1 (show qT s ≤ 8 by omega) h1 (z0_0 _) i1_0, ubi_mk, if_true, if_false, f_X8_needs_b23]
theorem op_overlap : uop_overlap uI := by
  intro m a1 a2 ⟨s, hc, hr, hv⟩
  have hT5 := vI_T hc
  have hV8 := vI_V hc
  by_cases h1 : ∃ v, v < qT s ∧ a1 = nI v
  · obtain ⟨t1, ht1, rfl⟩ := h1
    by_cases h2 : ∃ v, v < qT s ∧ a2 = nI v
    · obtain ⟨t2, ht2, rfl⟩ := h2
      refine Or.inl (wrapI (fr := fun M => f_X8_overlap M (nI t1) (nI t2)) hc hr hv ?_)
      have ht5 : t1 < 5 := by omega
      have hu5 : t2 < 5 := by omega
      refine ⟨if t1 ≠ t2 ∧ sHas (qR s) t1 = true ∧ sHas (qR s) t2 = true then sOver (qR s) t1 t2 else -2147483648, m, ?_, cK_rf hc, fun M hM => ?_⟩
      · simp (decide := true) (disch := omega) only [f_X7_overlap, e_ten_t hc.1.1.2.2.2.1 (show qT s ≤ 8 by omega) ht1, e_ten_t hc.1.1.2.2.2.1 (show qT s ≤ 8 by omega) ht2, ubx_l, ubi_mk, if_true, if_false, ugd_t, nI_eq', f_X7_overlap_b61, f_X7_overlap_b42, f_X7_overlap_b41, e_has ht5, e_has hu5, ite_bi0, hc.2.1, e_overlap ht5 hu5]
        by_cases q : t1 = t2
        · simp [q]
        · cases sHas (qR s) t1 <;> cases sHas (qR s) t2 <;> simp [q]
      · have hm := rI_K hM (z0_K M)
        have hM0 := hm
        have hz1 := has_zero hv.2.1.1 ht5
        have hz2 := has_zero hv.2.1.1 hu5
        refine ⟨z0 M, ?_, z0_K M, z0_0 M⟩
        show ubi (f_X8_isTenant (z0 (M)) (nI t1) 1) _ = _
        simp (decide := true) (disch := omega) only [r_ten_t hM0.1.1.2.2.2.1 (show qT s ≤ 8 by omega) ht1 (z0_0 _), r_ten_t hM0.1.1.2.2.2.1 (show qT s ≤ 8 by omega) ht2 (z0_0 _), ubi_mk, r_may_t (z0_0 _), if_true, if_false, ugd_t, f_X8_overlap_b23, nI_eq', lit_add, uin_n, nI_clamp, f_X8_overlap_b54, cc_si (z0 M 53) ht5, cc_si (z0 M 53) hu5, cc_pl (z0 M 53) ht5, cc_pl (z0 M 53) hu5, hm.2.1, hz1, hz2, r_size]
        unfold sOver
        by_cases q : t1 = t2
        · simp [q]
        · cases sHas (qR s) t1 <;> cases sHas (qR s) t2 <;> simp [q]
    · refine Or.inr ⟨tN m, tR (z0 (tN m)) 1 0, 0, ?_, ?_, tR_0, throwN hc hr hv 1⟩
      · simp only [f_X7_overlap, e_ten_t hc.1.1.2.2.2.1 (show qT s ≤ 8 by omega) ht1, e_ten_f hc.1.1.2.2.2.1 (show qT s ≤ 8 by omega) h2, ubx_l, ubx_r]
      · have hm := rI_tN hr
        show ubi (f_X8_isTenant (z0 (tN m)) (nI t1) 1) _ = _
        simp (decide := true) (disch := omega) only [r_ten_t hm.1.1.2.2.2.1 (show qT s ≤ 8 by omega) ht1 (z0_0 _), r_ten_f hm.1.1.2.2.2.1 (show qT s ≤ 8 by omega) h2 (z0_0 _) i1_0, ubi_mk, if_true, if_false, f_X8_overlap_b23]
  · refine Or.inr ⟨tN m, tR (z0 (tN m)) 1 0, 0, ?_, ?_, tR_0, throwN hc hr hv 1⟩
    · simp only [f_X7_overlap, e_ten_f hc.1.1.2.2.2.1 (show qT s ≤ 8 by omega) h1, ubx_l, ubx_r]
    · have hm := rI_tN hr
      show ubi (f_X8_isTenant (z0 (tN m)) a1 1) _ = _
      simp (decide := true) (disch := omega) only [r_ten_f hm.1.1.2.2.2.1 (show qT s ≤ 8 by omega) h1 (z0_0 _) i1_0, ubi_mk, if_true, if_false, f_X8_overlap_b23]
theorem r_lost {m : Um} {V T : Nat} {X W : Nat → Int32} (hc : rC m V T X W) (hR : vR T (cv (m 54))) (x y : Int32) : f_X8_lost_b49 UF m x y 0 0 = some (m, bits 5 (sOut (cv (m 54)) (if y = 0 then x else -x))) := by
  have hT := hc.2.1
  rw [bits_cut hT (fun j h1 h2 => by unfold sOut; rw [vR_has hR h1 h2]; rfl)]
  refine lp_run0 (fun n (a : Int32) t => f_X8_lost_b49 n m x y a (nI t)) T _ (fun a => some (m, a)) ?_ ?_ 0 (by show T < 3000; omega)
  · intro n a t ht
    show f_X8_lost_b49 (n + 1) m x y a (nI t) = f_X8_lost_b49 n m x y (if sOut (cv (m 54)) (if y = 0 then x else -x) t = true then a ||| bt t else a) (nI (t + 1))
    rw [f_X8_lost_b49, hc.2.2.2.1, if_neg (nI_ge (by omega) (by omega))]
    simp only [f_X8_lost_b72, f_X8_lost_b86, nI_1, r_out (show t < 5 by omega), ubi_mk, ite_bi0]
    by_cases q : y = 0
    · simp only [q, if_true]
      by_cases h : sOut (cv (m 54)) x t = true <;> simp [h, bt]
    · simp only [q, if_false]
      by_cases h : sOut (cv (m 54)) (-x) t = true <;> simp [h, bt]
  · intro n a
    show f_X8_lost_b49 (n + 1) m x y a (nI T) = some (m, a)
    rw [f_X8_lost_b49, hc.2.2.2.1, if_pos (nI_le (Nat.le_refl _) (by omega))]
theorem op_lost : uop_lost uI := by
  intro m a1 a2 ⟨s, hc, hr, hv⟩
  have hT5 := vI_T hc
  have hV8 := vI_V hc
  by_cases h1 : 1 ≤ a1 ∧ a1 ≤ 20
  · skip
    by_cases h2 : 0 ≤ a2 ∧ a2 ≤ 1
    · skip
      refine Or.inl (wrapI (fr := fun M => f_X8_lost M a1 a2) hc hr hv ?_)
      refine ⟨bits 5 (sOut (qR s) (if a2 = 0 then a1 else -a1)), m, ?_, cK_rf hc, fun M hM => ?_⟩
      · simp (decide := true) (disch := omega) only [f_X7_lost, e_need_t h1, e_need_t h2, ubx_l, ubi_mk, if_true, if_false, ugd_t, f_X7_lost_b29, e_carried, hc.2.1]
        split <;> rfl
      · obtain ⟨m2, e, k, hR2, h0⟩ := r_take' (rI_K hM (z0_K M)) (z0_0 M)
        have hM0 := rI_K hM (z0_K M)
        have hm := rI_K hM0 k
        have hv2 : vR (qT s) (cv (m2 54)) := by rw [hR2]; exact hv.2.1.1
        refine ⟨m2, ?_, rK_tr (z0_K M) k, h0⟩
        show ubi (f_X8_within (z0 (M)) a1 1 20) _ = _
        simp (decide := true) (disch := omega) only [r_wit_t h1, r_wit_t h2, ubi_mk, r_may_t (z0_0 _), if_true, if_false, ugd_t, f_X8_lost_b30, f_X8_lost_b29, e, r_lost hm.1.1 hv2, hR2]
    · refine Or.inr ⟨tI m, tR (z0 (tI m)) 1 1, 0, ?_, ?_, tR_0, throwI hc hr hv 1⟩
      · simp only [f_X7_lost, e_need_t h1, e_need_f h2, ubx_l, ubx_r]
      · have hm := rI_tI hr
        show ubi (f_X8_within (z0 (tI m)) a1 1 20) _ = _
        simp (decide := true) (disch := omega) only [r_wit_t h1, r_wit_f h2, r_may_f1 (z0_0 _) i1_0, ubi_mk, if_true, if_false, f_X8_lost_b30, f_X8_lost_b29]
  · refine Or.inr ⟨tI m, tR (z0 (tI m)) 1 1, 0, ?_, ?_, tR_0, throwI hc hr hv 1⟩
    · simp only [f_X7_lost, e_need_f h1, ubx_l, ubx_r]
    · have hm := rI_tI hr
      show ubi (f_X8_within (z0 (tI m)) a1 1 20) _ = _
      simp (decide := true) (disch := omega) only [r_wit_f h1, r_may_f1 (z0_0 _) i1_0, ubi_mk, if_true, if_false, f_X8_lost_b30, f_X8_lost_b29]
def clS (X R : Nat → Int32) (v t : Nat) (p : Int32 × Int32) : Int32 × Int32 := if sHas R t = true ∧ (p.1 = -1 ∨ ¬ p.2 ≤ sFar X R t v) then (nI t, sFar X R t v) else p
theorem e_clo {m : Um} {V T : Nat} {X W : Nat → Int32} {v : Nat} (hc : cC m V T X W) (hv : v < V) (y : Int32) : f_X7_closest_b20 UF m (nI v) y (-1) (-1) 0 = some (m, .inl (if y = 0 then (lp (clS X (m 24) v) 5 0 (-1, -1)).1 else (lp (clS X (m 24) v) 5 0 (-1, -1)).2)) := by
  refine lp_run0 (fun n (p : Int32 × Int32) t => f_X7_closest_b20 n m (nI v) y p.1 p.2 (nI t)) 5 (clS X (m 24) v) (fun p => some (m, .inl (if y = 0 then p.1 else p.2))) ?_ ?_ (-1, -1) (by decide)
  · intro n p t ht
    show f_X7_closest_b20 (n + 1) m (nI v) y p.1 p.2 (nI t) = f_X7_closest_b20 n m (nI v) y (clS X (m 24) v t p).1 (clS X (m 24) v t p).2 (nI (t + 1))
    rw [f_X7_closest_b20, if_neg (nle_lit (by omega) (by omega)), e_has ht, ubi_mk, ite_bi0]
    simp only [f_X7_closest_b73, f_X7_closest_b58, e_far hc ht hv, ubi_mk, nI_1]
    unfold clS
    by_cases a : sHas (m 24) t = true
    · by_cases b : p.1 = -1
      · simp [a, b]
      · by_cases c : p.2 ≤ sFar X (m 24) t v <;> simp [a, b, c]
    · simp [a]
  · intro n p
    show f_X7_closest_b20 (n + 1) m (nI v) y p.1 p.2 (nI 5) = _
    rw [f_X7_closest_b20, if_pos (by decide)]
    simp only [f_X7_closest_b89]
    split <;> rfl
theorem r_clo {m : Um} {V T : Nat} {X W : Nat → Int32} {v : Nat} (hc : rC m V T X W) (hR : vR T (cv (m 53))) (hv : v < V) (y : Int32) : f_X8_closest_b39 UF m (nI v) y (-1) (-1) 0 = some (m, (if y = 0 then (lp (clS X (cv (m 53)) v) 5 0 (-1, -1)).1 else (lp (clS X (cv (m 53)) v) 5 0 (-1, -1)).2)) := by
  have hT := hc.2.1
  have hV := hc.1
  rw [lp_cut (clS X (cv (m 53)) v) hT (-1, -1) (fun j h1 h2 p => by unfold clS; rw [vR_has hR h1 h2]; rfl)]
  refine lp_run0 (fun n (p : Int32 × Int32) t => f_X8_closest_b39 n m (nI v) y p.1 p.2 (nI t)) T (clS X (cv (m 53)) v) (fun p => some (m, (if y = 0 then p.1 else p.2))) ?_ ?_ (-1, -1) (by show T < 3000; omega)
  · intro n p t ht
    have ht5 : t < 5 := by omega
    show f_X8_closest_b39 (n + 1) m (nI v) y p.1 p.2 (nI t) = f_X8_closest_b39 n m (nI v) y (clS X (cv (m 53)) v t p).1 (clS X (cv (m 53)) v t p).2 (nI (t + 1))
    have hz := has_zero hR ht5
    have hle : ∀ x y : Int32, (x < y) = ¬ y ≤ x := fun x y => propext (by rw [Int32.lt_iff_toInt_lt, Int32.le_iff_toInt_le]; omega)
    rw [f_X8_closest_b39, hc.2.2.2.1, if_neg (nI_ge (by omega) (by omega))]
    simp (disch := omega) only [lit_add, lit_mul, uin_n, nI_clamp, ugd_t, r_size, ubi_mk, f_X8_closest_b107, f_X8_closest_b100, nI_1, cc_pl (m 53) ht5, cc_si (m 53) ht5, hc.2.2.2.2.1 v hv, hz, hle]
    unfold clS
    show (if sHas (cv (m 53)) t = false then _ else if p.1 = -1 then f_X8_closest_b39 n m (nI v) y (nI t) (sFar X (cv (m 53)) t v) (nI (t + 1)) else if ¬ p.2 ≤ sFar X (cv (m 53)) t v then f_X8_closest_b39 n m (nI v) y (nI t) (sFar X (cv (m 53)) t v) (nI (t + 1)) else _) = _
    by_cases a : sHas (cv (m 53)) t = true
    · by_cases b : p.1 = -1
      · simp [a, b]
      · by_cases c : p.2 ≤ sFar X (cv (m 53)) t v <;> simp [a, b, c]
    · simp [a]
  · intro n p
    show f_X8_closest_b39 (n + 1) m (nI v) y p.1 p.2 (nI T) = _
    rw [f_X8_closest_b39, hc.2.2.2.1, if_pos (nI_le (Nat.le_refl _) (by omega))]
    simp only [f_X8_closest_b123]
    split <;> rfl
theorem op_closest : uop_closest uI := by
  intro m a1 a2 ⟨s, hc, hr, hv⟩
  have hT5 := vI_T hc
  have hV8 := vI_V hc
  by_cases h1 : ∃ v, v < qV s ∧ a1 = nI v
  · obtain ⟨t1, ht1, rfl⟩ := h1
    by_cases h2 : 0 ≤ a2 ∧ a2 ≤ 1
    · skip
      refine Or.inl (wrapI (fr := fun M => f_X8_closest M (nI t1) a2) hc hr hv ?_)
      refine ⟨if a2 = 0 then (lp (clS (qX s) (qR s) t1) 5 0 (-1, -1)).1 else (lp (clS (qX s) (qR s) t1) 5 0 (-1, -1)).2, m, ?_, cK_rf hc, fun M hM => ?_⟩
      · simp (decide := true) (disch := omega) only [f_X7_closest, e_vie_t hc.1.1.2.2.1 (show qV s ≤ 8 by omega) ht1, e_need_t h2, ubx_l, ubi_mk, if_true, if_false, ugd_t, e_clo hc.1.1 ht1, hc.2.1]
      · have hm := rI_K hM (z0_K M)
        have hM0 := hm
        refine ⟨z0 M, ?_, z0_K M, z0_0 M⟩
        show ubi (f_X8_isView (z0 (M)) (nI t1) 1) _ = _
        simp (decide := true) (disch := omega) only [r_vie_t hM0.1.1.2.2.1 (show qV s ≤ 8 by omega) ht1 (z0_0 _), r_wit_t h2, ubi_mk, r_may_t (z0_0 _), if_true, if_false, ugd_t, f_X8_closest_b29, r_clo hm.1.1 (by rw [hm.2.1]; exact hv.2.1.1) ht1, hm.2.1]
    · refine Or.inr (Or.inr ⟨tI m, tR (z0 (tI m)) 2 1, 0, ?_, ?_, tR_0, throwI hc hr hv 2⟩)
      · simp only [f_X7_closest, e_vie_t hc.1.1.2.2.1 (show qV s ≤ 8 by omega) ht1, e_need_f h2, ubx_l, ubx_r]
      · have hm := rI_tI hr
        show ubi (f_X8_isView (z0 (tI m)) (nI t1) 1) _ = _
        simp (decide := true) (disch := omega) only [r_vie_t hm.1.1.2.2.1 (show qV s ≤ 8 by omega) ht1 (z0_0 _), r_wit_f h2, r_may_f1 (z0_0 _) i2_0, ubi_mk, if_true, if_false, f_X8_closest_b29]
  · refine Or.inr (Or.inl ⟨tN m, tR (z0 (tN m)) 1 0, 0, ?_, ?_, tR_0, throwN hc hr hv 1⟩)
    · simp only [f_X7_closest, e_vie_f hc.1.1.2.2.1 (show qV s ≤ 8 by omega) h1, ubx_l, ubx_r]
    · have hm := rI_tN hr
      show ubi (f_X8_isView (z0 (tN m)) a1 1) _ = _
      simp (decide := true) (disch := omega) only [r_vie_f hm.1.1.2.2.1 (show qV s ≤ 8 by omega) h1 (z0_0 _) i1_0, ubi_mk, if_true, if_false, f_X8_closest_b29]
