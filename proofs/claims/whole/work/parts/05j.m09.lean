-- X1_mostWorth
def f_X1_mostWorth_b13 (rec : Um → Int32 → Int32 → Int32 → Option (Um × Int32)) (mem : Um) (x2 : Int32) (x3 : Int32) (y0 : Int32) : Option (Um × Int32) :=
  if y0 = (-1) then (some (mem, 0)) else (ubi (rec mem (y0 + 1) x2 x3) (fun m2 r3 => ubi (f_X1_worthWithin m2 y0 (y0 + x2)) (fun m5 r6 => ubi (rec m5 ((y0 + x2) + 1) x2 (x3 - 1)) (fun m8 r9 => some (m8, (ummax r3 (r6 + r9)))))))
set_option maxRecDepth 20000 in
theorem t_X1_mostWorth_b13 {l : Launch} {E : Ue} {rec : Um → Int32 → Int32 → Int32 → Option (Um × Int32)} (kr : Nat) (hrec : ∀ (mem : Um) (x1 : Int32) (x2 : Int32) (x3 : Int32) (m1 : Um) (r : Int32), rec mem x1 x2 x3 = some (m1, r) → ucr l E kr 0 0 yX1_mostWorth cX1_mostWorth 7 (some .int) [.ref (ue_d E 3), .int x1, .int x2, .int x3] mem (some (.int r)) m1) (mem : Um) (x2 : Int32) (x3 : Int32) (y0 : Int32) (z : Um × Int32) (h : f_X1_mostWorth_b13 rec mem x2 x3 y0 = some z) : ug l E (kr + 3) 0 0 cX1_mostWorth 7 RX1 (some .int) [] (uz_i z) 0 0 13 [(0, .ref (ue_d E 3)), (2, .int x2), (3, .int x3)] [.int y0] mem := by
  rw [f_X1_mostWorth_b13] at h
  refine ug_istore [(4, .int y0), (0, .ref (ue_d E 3)), (2, .int x2), (3, .int x3)] dX1_mostWorth_13 (Nat.le_of_ble_eq_true rfl) rfl ?_
  refine ug_iload 0 dX1_mostWorth_15 rfl ?_
  refine ug_iconst dX1_mostWorth_17 un_iconst_m1 ?_
  refine ug_icmp_ne 23 dX1_mostWorth_18 (by decide) (fun q1 => ?_) (fun q1 => ?_)
  · rw [if_neg q1] at h
    refine ug_aload_n 1 dX1_mostWorth_23 rfl rfl ?_
    refine ug_iload 0 dX1_mostWorth_24 rfl ?_
    refine ug_iconst dX1_mostWorth_26 un_iconst_1 ?_
    refine ug_iadd dX1_mostWorth_27 ?_
    refine ug_iload_n 2 dX1_mostWorth_28 rfl rfl ?_
    refine ug_iload_n 3 dX1_mostWorth_29 rfl rfl ?_
    obtain ⟨m2, r3, h4, h⟩ := ubi_some h
    refine ug_callVi [.int (y0 + 1), .int x2, .int x3] (hrec mem (y0 + 1) x2 x3 _ _ h4) kc_X1_90 ro_3 rfl (S := []) rfl (Nat.le_of_ble_eq_true rfl) (by omega) (Nat.le_of_ble_eq_true rfl) dX1_mostWorth_30 ?_
    refine ug_istore [(5, .int r3), (4, .int y0), (0, .ref (ue_d E 3)), (2, .int x2), (3, .int x3)] dX1_mostWorth_33 (Nat.le_of_ble_eq_true rfl) rfl ?_
    refine ug_aload_n 2 dX1_mostWorth_35 rfl rfl ?_
    refine ug_iload 1 dX1_mostWorth_36 rfl ?_
    refine ug_iload 1 dX1_mostWorth_38 rfl ?_
    refine ug_iload_n 3 dX1_mostWorth_40 rfl rfl ?_
    refine ug_iadd dX1_mostWorth_41 ?_
    obtain ⟨m5, r6, h7, h⟩ := ubi_some h
    refine ug_callVi [.int y0, .int (y0 + x2)] (c_X1_worthWithin  h7) kc_X1_94 ro_3 rfl (S := []) rfl (Nat.le_of_ble_eq_true rfl) (by omega) (Nat.le_of_ble_eq_true rfl) dX1_mostWorth_42 ?_
    refine ug_aload_n 2 dX1_mostWorth_45 rfl rfl ?_
    refine ug_iload 1 dX1_mostWorth_46 rfl ?_
    refine ug_iload_n 3 dX1_mostWorth_48 rfl rfl ?_
    refine ug_iadd dX1_mostWorth_49 ?_
    refine ug_iconst dX1_mostWorth_50 un_iconst_1 ?_
    refine ug_iadd dX1_mostWorth_51 ?_
    refine ug_iload_n 3 dX1_mostWorth_52 rfl rfl ?_
    refine ug_iload_n 4 dX1_mostWorth_53 rfl rfl ?_
    refine ug_iconst dX1_mostWorth_54 un_iconst_1 ?_
    refine ug_isub dX1_mostWorth_55 ?_
    obtain ⟨m8, r9, h10, h⟩ := ubi_some h
    refine ug_callVi [.int ((y0 + x2) + 1), .int x2, .int (x3 - 1)] (hrec m5 ((y0 + x2) + 1) x2 (x3 - 1) _ _ h10) kc_X1_90 ro_3 rfl (S := [.int r6]) rfl (Nat.le_of_ble_eq_true rfl) (by omega) (Nat.le_of_ble_eq_true rfl) dX1_mostWorth_56 ?_
    refine ug_iadd dX1_mostWorth_59 ?_
    refine ug_istore [(6, .int (r6 + r9)), (5, .int r3), (4, .int y0), (0, .ref (ue_d E 3)), (2, .int x2), (3, .int x3)] dX1_mostWorth_60 (Nat.le_of_ble_eq_true rfl) rfl ?_
    refine ug_iload 1 dX1_mostWorth_62 rfl ?_
    refine ug_iload 0 dX1_mostWorth_64 rfl ?_
    refine ug_mmax kl_X1_98 (by omega) (Nat.le_trans (m := 40) (Nat.le_of_ble_eq_true rfl) (by omega)) dX1_mostWorth_66 ?_
    obtain rfl := Option.some.inj h
    exact ug_iret dX1_mostWorth_69
  · rw [if_pos q1] at h
    refine ug_iconst dX1_mostWorth_21 un_iconst_0 ?_
    obtain rfl := Option.some.inj h
    exact ug_iret dX1_mostWorth_22
def f_X1_mostWorth_e (rec : Um → Int32 → Int32 → Int32 → Option (Um × Int32)) (mem : Um) (x1 : Int32) (x2 : Int32) (x3 : Int32) : Option (Um × Int32) :=
  if x3 ≤ 0 then (f_X1_mostWorth_b13 rec mem x2 x3 (-1)) else (ubi (f_X1_firstViewX mem x1) (fun m2 r3 => f_X1_mostWorth_b13 rec m2 x2 x3 r3))
set_option maxRecDepth 20000 in
theorem t_X1_mostWorth {l : Launch} {E : Ue} {rec : Um → Int32 → Int32 → Int32 → Option (Um × Int32)} (kr : Nat) (hrec : ∀ (mem : Um) (x1 : Int32) (x2 : Int32) (x3 : Int32) (m1 : Um) (r : Int32), rec mem x1 x2 x3 = some (m1, r) → ucr l E kr 0 0 yX1_mostWorth cX1_mostWorth 7 (some .int) [.ref (ue_d E 3), .int x1, .int x2, .int x3] mem (some (.int r)) m1) (mem : Um) (x1 : Int32) (x2 : Int32) (x3 : Int32) (z : Um × Int32) (h : f_X1_mostWorth_e rec mem x1 x2 x3 = some z) : ug l E (kr + 3) 0 0 cX1_mostWorth 7 RX1 (some .int) [] (uz_i z) 0 0 0 [(0, .ref (ue_d E 3)), (1, .int x1), (2, .int x2), (3, .int x3)] [] mem := by
  rw [f_X1_mostWorth_e] at h
  refine ug_iload_n 3 dX1_mostWorth_0 rfl rfl ?_
  refine ug_if_le 12 dX1_mostWorth_1 (by decide) (fun q1 => ?_) (fun q1 => ?_)
  · rw [if_pos q1] at h
    refine ug_iconst dX1_mostWorth_12 un_iconst_m1 ?_
    refine ug_sub [(0, .ref (ue_d E 3)), (2, .int x2), (3, .int x3)] [0, 2, 3] rfl ?_
    exact t_X1_mostWorth_b13 kr hrec mem x2 x3 (-1) _ h
  · rw [if_neg q1] at h
    refine ug_aload_n 0 dX1_mostWorth_4 rfl rfl ?_
    refine ug_iload_n 1 dX1_mostWorth_5 rfl rfl ?_
    obtain ⟨m2, r3, h4, h⟩ := ubi_some h
    refine ug_callVi [.int x1] (c_X1_firstViewX  h4) kc_X1_86 ro_3 rfl (S := []) rfl (Nat.le_of_ble_eq_true rfl) (by omega) (Nat.le_of_ble_eq_true rfl) dX1_mostWorth_6 ?_
    refine ug_goto 13 dX1_mostWorth_9 (by decide) ?_
    refine ug_sub [(0, .ref (ue_d E 3)), (2, .int x2), (3, .int x3)] [0, 2, 3] rfl ?_
    exact t_X1_mostWorth_b13 kr hrec m2 x2 x3 r3 _ h
def f_X1_mostWorth : Nat → Um → Int32 → Int32 → Int32 → Option (Um × Int32)
  | 0, _, _, _, _ => none
  | d + 1, mem, x1, x2, x3 => f_X1_mostWorth_e (f_X1_mostWorth d) mem x1 x2 x3
theorem c_X1_mostWorth_d {l : Launch} {E : Ue} : ∀ (d : Nat) (mem : Um) (x1 : Int32) (x2 : Int32) (x3 : Int32) (m1 : Um) (r : Int32), f_X1_mostWorth d mem x1 x2 x3 = some (m1, r) → ucr l E (3 * d) 0 0 yX1_mostWorth cX1_mostWorth 7 (some .int) [.ref (ue_d E 3), .int x1, .int x2, .int x3] mem (some (.int r)) m1
  | 0, _, _, _, _, _, _, h => by
    rw [f_X1_mostWorth] at h
    cases h
  | d + 1, mem, x1, x2, x3, m1, r, h => by
    rw [f_X1_mostWorth] at h
    exact ucr_of rfl (Nat.le_of_ble_eq_true rfl) (t_X1_mostWorth (3 * d) (fun mem x1 x2 x3 m1 r q => c_X1_mostWorth_d d mem x1 x2 x3 m1 r q) mem x1 x2 x3 _ h)
theorem c_X1_mostWorth {l : Launch} {E : Ue} (d : Nat) {mem : Um} {x1 : Int32} {x2 : Int32} {x3 : Int32} {m1 : Um} {r : Int32} (h : f_X1_mostWorth d mem x1 x2 x3 = some (m1, r)) : ucr l E (3 * d) 0 0 yX1_mostWorth cX1_mostWorth 7 (some .int) [.ref (ue_d E 3), .int x1, .int x2, .int x3] mem (some (.int r)) m1 := c_X1_mostWorth_d d mem x1 x2 x3 m1 r h
-- X7_street
def f_X7_street (mem : Um) (x1 : Int32) (x2 : Int32) : Option (Um × (Int32 ⊕ String)) :=
  ubx (f_X7_need mem x1 1 20) (fun m1 r2 => ubx (f_X7_need m1 x2 0 8) (fun m5 r6 => ubi (f_X1_mostWorth UD m5 0 (2 * x1) x2) (fun m9 r10 => some (m9, .inl r10))))
set_option maxRecDepth 20000 in
theorem t_X7_street {l : Launch} {E : Ue} (mem : Um) (x1 : Int32) (x2 : Int32) (z : Um × (Int32 ⊕ String)) (h : f_X7_street  mem x1 x2 = some z) : ug l E 49 (uzc z) (uzs z) cX7_street 3 RX7 (some .int) [] (uzx_i z) 0 0 0 [(0, .ref (ue_d E 0)), (1, .int x1), (2, .int x2)] [] mem := by
  rw [f_X7_street] at h
  refine ug_aload_n 0 dX7_street_0 rfl rfl ?_
  refine ug_iload_n 1 dX7_street_1 rfl rfl ?_
  refine ug_iconst dX7_street_2 un_iconst_1 ?_
  refine ug_bipush dX7_street_3 un_bipush_20 ?_
  rcases ubx_some h with ⟨m1, r2, h3, h⟩ | ⟨m1, X4, h3, rfl⟩
  · refine ug_callVv [.int x1, .int 1, .int 20] (c_X7_need_r  h3) kc_X7_102 ro_0 rfl (S := []) rfl (Nat.le_of_ble_eq_true rfl) (Nat.le_of_ble_eq_true rfl) (Nat.le_of_ble_eq_true rfl) dX7_street_5 ?_
    refine ug_aload_n 0 dX7_street_8 rfl rfl ?_
    refine ug_iload_n 2 dX7_street_9 rfl rfl ?_
    refine ug_iconst dX7_street_10 un_iconst_0 ?_
    refine ug_bipush dX7_street_11 un_bipush_8 ?_
    rcases ubx_some h with ⟨m5, r6, h7, h⟩ | ⟨m5, X8, h7, rfl⟩
    · refine ug_callVv [.int x2, .int 0, .int 8] (c_X7_need_r  h7) kc_X7_102 ro_0 rfl (S := []) rfl (Nat.le_of_ble_eq_true rfl) (Nat.le_of_ble_eq_true rfl) (Nat.le_of_ble_eq_true rfl) dX7_street_13 ?_
      refine ug_aload_n 0 dX7_street_16 rfl rfl ?_
      refine ug_getR kf_X7_21 gr_0_1 dX7_street_17 ?_
      refine ug_iconst dX7_street_20 un_iconst_0 ?_
      refine ug_iconst dX7_street_21 un_iconst_2 ?_
      refine ug_iload_n 1 dX7_street_22 rfl rfl ?_
      refine ug_imul dX7_street_23 ?_
      refine ug_iload_n 2 dX7_street_24 rfl rfl ?_
      obtain ⟨m9, r10, h11, h⟩ := ubi_some h
      refine ug_callNi 0 rfl [.int 0, .int (2 * x1), .int x2] (c_X1_mostWorth UD h11) kn_X7_287 ro_3 rfl (S := []) rfl (Nat.le_of_ble_eq_true rfl) (Nat.le_of_ble_eq_true rfl) (Nat.le_of_ble_eq_true rfl) dX7_street_25 ?_
      obtain rfl := Option.some.inj h
      exact ug_iret dX7_street_28
    · exact ug_callVx [.int x2, .int 0, .int 8] (c_X7_need_x  h7) kc_X7_102 ro_0 rfl (S := []) rfl (Nat.le_of_ble_eq_true rfl) (Nat.le_of_ble_eq_true rfl) (Nat.le_of_ble_eq_true rfl) ⟨Nat.le_refl 1, Nat.le_refl 6⟩ dX7_street_13
  · exact ug_callVx [.int x1, .int 1, .int 20] (c_X7_need_x  h3) kc_X7_102 ro_0 rfl (S := []) rfl (Nat.le_of_ble_eq_true rfl) (Nat.le_of_ble_eq_true rfl) (Nat.le_of_ble_eq_true rfl) ⟨Nat.le_refl 1, Nat.le_refl 6⟩ dX7_street_5
theorem c_X7_street_r {l : Launch} {E : Ue} {mem : Um} {x1 : Int32} {x2 : Int32} {m1 : Um} {r : Int32} (h : f_X7_street  mem x1 x2 = some (m1, .inl r)) : ucr l E 49 0 0 yX7_street cX7_street 3 (some .int) [.ref (ue_d E 0), .int x1, .int x2] mem (some (.int r)) m1 := ucr_of rfl (Nat.le_of_ble_eq_true rfl) (t_X7_street  mem x1 x2 _ h)
theorem c_X7_street_x {l : Launch} {E : Ue} {mem : Um} {x1 : Int32} {x2 : Int32} {m1 : Um} {X : String} (h : f_X7_street  mem x1 x2 = some (m1, .inr X)) : ucx l E 49 1 6 yX7_street cX7_street 3 (some .int) [.ref (ue_d E 0), .int x1, .int x2] mem X m1 := ucx_of rfl (Nat.le_of_ble_eq_true rfl) (t_X7_street  mem x1 x2 _ h)
-- X4_ownerOrNobody
def f_X4_ownerOrNobody_b16 (o : Nat) (mem : Um) (y0 : Int32) : Option (Um × Int32) :=
  some (mem, y0)
set_option maxRecDepth 20000 in
theorem t_X4_ownerOrNobody_b16 {l : Launch} {E : Ue} {o : Nat} (ho : o = 23 ∨ o = 25) (mem : Um) (y0 : Int32) (z : Um × Int32) (h : f_X4_ownerOrNobody_b16 o mem y0 = some z) : ug l E 3 0 0 cX4_ownerOrNobody 3 RX4 (some .int) [] (uz_i z) 0 0 16 [] [.int y0] mem := by
  rw [f_X4_ownerOrNobody_b16] at h
  obtain rfl := Option.some.inj h
  exact ug_iret dX4_ownerOrNobody_16
def f_X4_ownerOrNobody (o : Nat) (mem : Um) (x1 : Int32) : Option (Um × Int32) :=
  ubi (f_X4_owner o mem x1) (fun m1 r2 => if r2 = (-1) then (f_X4_ownerOrNobody_b16 o m1 5) else (f_X4_ownerOrNobody_b16 o m1 r2))
set_option maxRecDepth 20000 in
theorem t_X4_ownerOrNobody {l : Launch} {E : Ue} {o : Nat} (ho : o = 23 ∨ o = 25) (mem : Um) (x1 : Int32) (z : Um × Int32) (h : f_X4_ownerOrNobody o mem x1 = some z) : ug l E 3 0 0 cX4_ownerOrNobody 3 RX4 (some .int) [] (uz_i z) 0 0 0 [(0, .ref (ue_d E o)), (1, .int x1)] [] mem := by
  rw [f_X4_ownerOrNobody] at h
  refine ug_aload_n 0 dX4_ownerOrNobody_0 rfl rfl ?_
  refine ug_iload_n 1 dX4_ownerOrNobody_1 rfl rfl ?_
  obtain ⟨m1, r2, h3, h⟩ := ubi_some h
  refine ug_callVi [.int x1] (c_X4_owner ho h3) kc_X4_71 (sk_o ho) rfl (S := []) rfl (Nat.le_of_ble_eq_true rfl) (Nat.le_of_ble_eq_true rfl) (Nat.le_of_ble_eq_true rfl) dX4_ownerOrNobody_2 ?_
  refine ug_istore_n [(2, .int r2), (0, .ref (ue_d E o)), (1, .int x1)] dX4_ownerOrNobody_5 rfl (Nat.le_of_ble_eq_true rfl) rfl ?_
  refine ug_iload_n 0 dX4_ownerOrNobody_6 rfl rfl ?_
  refine ug_iconst dX4_ownerOrNobody_7 un_iconst_m1 ?_
  refine ug_icmp_ne 15 dX4_ownerOrNobody_8 (by decide) (fun q4 => ?_) (fun q4 => ?_)
  · rw [if_neg q4] at h
    refine ug_iload_n 0 dX4_ownerOrNobody_15 rfl rfl ?_
    refine ug_sub [] [] rfl ?_
    exact t_X4_ownerOrNobody_b16 ho m1 r2 _ h
  · rw [if_pos q4] at h
    refine ug_iconst dX4_ownerOrNobody_11 un_iconst_5 ?_
    refine ug_goto 16 dX4_ownerOrNobody_12 (by decide) ?_
    refine ug_sub [] [] rfl ?_
    exact t_X4_ownerOrNobody_b16 ho m1 5 _ h
theorem c_X4_ownerOrNobody {l : Launch} {E : Ue} {o : Nat} (ho : o = 23 ∨ o = 25) {mem : Um} {x1 : Int32} {m1 : Um} {r : Int32} (h : f_X4_ownerOrNobody o mem x1 = some (m1, r)) : ucr l E 3 0 0 yX4_ownerOrNobody cX4_ownerOrNobody 3 (some .int) [.ref (ue_d E o), .int x1] mem (some (.int r)) m1 := ucr_of rfl (Nat.le_of_ble_eq_true rfl) (t_X4_ownerOrNobody ho mem x1 _ h)
-- X0_isRight
def f_X0_isRight_b33 (k2 : Um → Int32 → Int32 → Option (Um × Int32)) (mem : Um) (x2 : Int32) (x3 : Int32) : Option (Um × Int32) :=
  k2 mem x2 (x3 + 1)
set_option maxRecDepth 20000 in
theorem t_X0_isRight_b33 {l : Launch} {E : Ue} (k2 : Um → Int32 → Int32 → Option (Um × Int32)) (hk2 : ∀ (mem : Um) (x2 : Int32) (x3 : Int32) (z : Um × Int32), k2 mem x2 x3 = some z → ug l E 4 0 0 cX0_isRight 4 RX0 (some .boolean) [] (uz_i z) 0 0 2 [(0, .ref (ue_d E 18)), (1, .ref (ue_d E 25)), (2, .int x2), (3, .int x3)] [] mem) (mem : Um) (x2 : Int32) (x3 : Int32) (z : Um × Int32) (h : f_X0_isRight_b33 k2 mem x2 x3 = some z) : ug l E 4 0 0 cX0_isRight 4 RX0 (some .boolean) [] (uz_i z) 0 0 33 [(0, .ref (ue_d E 18)), (1, .ref (ue_d E 25)), (2, .int x2), (3, .int x3)] [] mem := by
  rw [f_X0_isRight_b33] at h
  refine ug_iinc (v := (x3 + 1)) [(3, .int (x3 + 1)), (0, .ref (ue_d E 18)), (1, .ref (ue_d E 25)), (2, .int x2)] 3 dX0_isRight_33 rfl rfl (Nat.le_of_ble_eq_true rfl) rfl ?_
  refine ug_goto 2 dX0_isRight_36 (by decide) ?_
  refine ug_sub [(0, .ref (ue_d E 18)), (1, .ref (ue_d E 25)), (2, .int x2), (3, .int (x3 + 1))] [1, 2, 3, 0] rfl ?_
  exact hk2 mem x2 (x3 + 1) _ h
def f_X0_isRight_b2 : Nat → Um → Int32 → Int32 → Option (Um × Int32)
  | 0, _, _, _ => none
  | n + 1, mem, x2, x3 =>
    if x2 ≤ x3 then (some (mem, 1)) else (ugd (uin x3 8) (if (mem 19 x3.toNatClampNeg) = (-1) then (f_X0_isRight_b33 (f_X0_isRight_b2  n) mem x2 x3) else (ugd (uin x3 8) (ubi (f_X4_ownerOrNobody 25 mem x3) (fun m5 r6 => if (mem 19 x3.toNatClampNeg) = r6 then (f_X0_isRight_b33 (f_X0_isRight_b2  n) m5 x2 x3) else (some (m5, 0)))))))
set_option maxRecDepth 20000 in
theorem t_X0_isRight_b2 {l : Launch} {E : Ue} : ∀ (n : Nat) (mem : Um) (x2 : Int32) (x3 : Int32) (z : Um × Int32), f_X0_isRight_b2  n mem x2 x3 = some z → ug l E 4 0 0 cX0_isRight 4 RX0 (some .boolean) [] (uz_i z) 0 0 2 [(0, .ref (ue_d E 18)), (1, .ref (ue_d E 25)), (2, .int x2), (3, .int x3)] [] mem := by
  intro n
  induction n with
  | zero =>
    intro mem x2 x3 z h
    rw [f_X0_isRight_b2] at h
    cases h
  | succ n ih =>
    intro mem x2 x3 z h
    rw [f_X0_isRight_b2] at h
    refine ug_iload_n 3 dX0_isRight_2 rfl rfl ?_
    refine ug_iload_n 2 dX0_isRight_3 rfl rfl ?_
    refine ug_icmp_ge 39 dX0_isRight_4 (by decide) (fun q1 => ?_) (fun q1 => ?_)
    · rw [if_pos q1] at h
      refine ug_iconst dX0_isRight_39 un_iconst_1 ?_
      obtain rfl := Option.some.inj h
      exact ug_zret (Or.inr rfl) dX0_isRight_40
    · rw [if_neg q1] at h
      refine ug_aload_n 0 dX0_isRight_7 rfl rfl ?_
      refine ug_getR kf_X0_9 gr_18_0 dX0_isRight_8 ?_
      refine ug_iload_n 3 dX0_isRight_11 rfl rfl ?_
      obtain ⟨g2, h⟩ := ugd_some h
      refine ug_iald al_19 (uin_ok g2) dX0_isRight_12 ?_
      refine ug_iconst dX0_isRight_13 un_iconst_m1 ?_
      refine ug_icmp_eq 33 dX0_isRight_14 (by decide) (fun q3 => ?_) (fun q3 => ?_)
      · rw [if_pos q3] at h
        exact t_X0_isRight_b33 (f_X0_isRight_b2  n) ih mem x2 x3 _ h
      · rw [if_neg q3] at h
        refine ug_aload_n 0 dX0_isRight_17 rfl rfl ?_
        refine ug_getR kf_X0_9 gr_18_0 dX0_isRight_18 ?_
        refine ug_iload_n 3 dX0_isRight_21 rfl rfl ?_
        obtain ⟨g4, h⟩ := ugd_some h
        refine ug_iald al_19 (uin_ok g4) dX0_isRight_22 ?_
        refine ug_aload_n 1 dX0_isRight_23 rfl rfl ?_
        refine ug_iload_n 3 dX0_isRight_24 rfl rfl ?_
        obtain ⟨m5, r6, h7, h⟩ := ubi_some h
        refine ug_callVi [.int x3] (c_X4_ownerOrNobody (Or.inr rfl) h7) kc_X0_61 ro_25 rfl (S := [.int (mem 19 x3.toNatClampNeg)]) rfl (Nat.le_of_ble_eq_true rfl) (Nat.le_of_ble_eq_true rfl) (Nat.le_of_ble_eq_true rfl) dX0_isRight_25 ?_
        refine ug_icmp_eq 33 dX0_isRight_28 (by decide) (fun q8 => ?_) (fun q8 => ?_)
        · rw [if_pos q8] at h
          exact t_X0_isRight_b33 (f_X0_isRight_b2  n) ih m5 x2 x3 _ h
        · rw [if_neg q8] at h
          refine ug_iconst dX0_isRight_31 un_iconst_0 ?_
          obtain rfl := Option.some.inj h
          exact ug_zret (Or.inl rfl) dX0_isRight_32
def f_X0_isRight (mem : Um) (x2 : Int32) : Option (Um × Int32) :=
  f_X0_isRight_b2  UF mem x2 0
set_option maxRecDepth 20000 in
theorem t_X0_isRight {l : Launch} {E : Ue} (mem : Um) (x2 : Int32) (z : Um × Int32) (h : f_X0_isRight  mem x2 = some z) : ug l E 4 0 0 cX0_isRight 4 RX0 (some .boolean) [] (uz_i z) 0 0 0 [(0, .ref (ue_d E 18)), (1, .ref (ue_d E 25)), (2, .int x2)] [] mem := by
  rw [f_X0_isRight] at h
  refine ug_iconst dX0_isRight_0 un_iconst_0 ?_
  refine ug_istore_n [(3, .int 0), (0, .ref (ue_d E 18)), (1, .ref (ue_d E 25)), (2, .int x2)] dX0_isRight_1 rfl (Nat.le_of_ble_eq_true rfl) rfl ?_
  refine ug_sub [(0, .ref (ue_d E 18)), (1, .ref (ue_d E 25)), (2, .int x2), (3, .int 0)] [1, 2, 3, 0] rfl ?_
  exact t_X0_isRight_b2  UF mem x2 0 _ h
theorem c_X0_isRight {l : Launch} {E : Ue} {mem : Um} {x2 : Int32} {m1 : Um} {r : Int32} (h : f_X0_isRight  mem x2 = some (m1, r)) : ucr l E 4 0 0 yX0_isRight cX0_isRight 4 (some .boolean) [.ref (ue_d E 18), .ref (ue_d E 25), .int x2] mem (some (.int r)) m1 := ucr_of rfl (Nat.le_of_ble_eq_true rfl) (t_X0_isRight  mem x2 _ h)
-- X7_tryPair
def f_X7_tryPair (mem : Um) (x1 : Int32) (x2 : Int32) : Option (Um × Int32) :=
  ubi (f_X4_copyFrom mem) (fun m1 r2 => ubi (f_X4_blow 25 m1 x1 x2) (fun m4 r5 => ubi (f_X0_isRight m4 (m4 3 0)) (fun m7 r8 => ugd (ub01 r8) (some (m7, r8)))))
set_option maxRecDepth 20000 in
theorem t_X7_tryPair {l : Launch} {E : Ue} (mem : Um) (x1 : Int32) (x2 : Int32) (z : Um × Int32) (h : f_X7_tryPair  mem x1 x2 = some z) : ug l E 5 0 0 cX7_tryPair 3 RX7 (some .boolean) [] (uz_i z) 0 0 0 [(0, .ref (ue_d E 0)), (1, .int x1), (2, .int x2)] [] mem := by
  rw [f_X7_tryPair] at h
  refine ug_aload_n 0 dX7_tryPair_0 rfl rfl ?_
  refine ug_getR kf_X7_58 gr_0_7 dX7_tryPair_1 ?_
  refine ug_aload_n 0 dX7_tryPair_4 rfl rfl ?_
  refine ug_getR kf_X7_54 gr_0_6 dX7_tryPair_5 ?_
  obtain ⟨m1, r2, h3, h⟩ := ubi_some h
  refine ug_callVv [.ref (ue_d E 23)] (c_X4_copyFrom  h3) kc_X7_259 ro_25 rfl (S := []) rfl (Nat.le_of_ble_eq_true rfl) (Nat.le_of_ble_eq_true rfl) (Nat.le_of_ble_eq_true rfl) dX7_tryPair_8 ?_
  refine ug_aload_n 0 dX7_tryPair_11 rfl rfl ?_
  refine ug_getR kf_X7_58 gr_0_7 dX7_tryPair_12 ?_
  refine ug_iload_n 1 dX7_tryPair_15 rfl rfl ?_
  refine ug_iload_n 2 dX7_tryPair_16 rfl rfl ?_
  obtain ⟨m4, r5, h6, h⟩ := ubi_some h
  refine ug_callVi [.int x1, .int x2] (c_X4_blow (Or.inr rfl) h6) kc_X7_303 ro_25 rfl (S := []) rfl (Nat.le_of_ble_eq_true rfl) (Nat.le_of_ble_eq_true rfl) (Nat.le_of_ble_eq_true rfl) dX7_tryPair_17 ?_
  refine ug_pop dX7_tryPair_20 rfl ?_
  refine ug_aload_n 0 dX7_tryPair_21 rfl rfl ?_
  refine ug_getR kf_X7_38 gr_0_4 dX7_tryPair_22 ?_
  refine ug_aload_n 0 dX7_tryPair_25 rfl rfl ?_
  refine ug_getR kf_X7_58 gr_0_7 dX7_tryPair_26 ?_
  refine ug_aload_n 0 dX7_tryPair_29 rfl rfl ?_
  refine ug_getR kf_X7_21 gr_0_1 dX7_tryPair_30 ?_
  refine ug_getI kf_X7_162 gi_3_0 dX7_tryPair_33 ?_
  obtain ⟨m7, r8, h9, h⟩ := ubi_some h
  refine ug_callVi [.ref (ue_d E 25), .int (m4 3 0)] (c_X0_isRight  h9) kc_X7_306 ro_18 rfl (S := []) rfl (Nat.le_of_ble_eq_true rfl) (Nat.le_of_ble_eq_true rfl) (Nat.le_of_ble_eq_true rfl) dX7_tryPair_36 ?_
  obtain ⟨g10, h⟩ := ugd_some h
  obtain rfl := Option.some.inj h
  exact ug_zret (of_decide_eq_true g10) dX7_tryPair_39
theorem c_X7_tryPair {l : Launch} {E : Ue} {mem : Um} {x1 : Int32} {x2 : Int32} {m1 : Um} {r : Int32} (h : f_X7_tryPair  mem x1 x2 = some (m1, r)) : ucr l E 5 0 0 yX7_tryPair cX7_tryPair 3 (some .boolean) [.ref (ue_d E 0), .int x1, .int x2] mem (some (.int r)) m1 := ucr_of rfl (Nat.le_of_ble_eq_true rfl) (t_X7_tryPair  mem x1 x2 _ h)
-- X7_fits
def f_X7_fits_b88 (mem : Um) (y0 : Int32) : Option (Um × (Int32 ⊕ String)) :=
  some (mem, .inl y0)
set_option maxRecDepth 20000 in
theorem t_X7_fits_b88 {l : Launch} {E : Ue} (mem : Um) (y0 : Int32) (z : Um × (Int32 ⊕ String)) (h : f_X7_fits_b88  mem y0 = some z) : ug l E 7 (uzc z) (uzs z) cX7_fits 6 RX7 (some .int) [] (uzx_i z) 0 0 88 [] [.int y0] mem := by
  rw [f_X7_fits_b88] at h
  obtain rfl := Option.some.inj h
  exact ug_iret dX7_fits_88
def f_X7_fits_b67 (k14 : Um → Int32 → Int32 → Int32 → Int32 → Option (Um × (Int32 ⊕ String))) (k29 : Um → Int32 → Int32 → Int32 → Int32 → Int32 → Option (Um × (Int32 ⊕ String))) (mem : Um) (x1 : Int32) (x2 : Int32) (x3 : Int32) (x4 : Int32) (x5 : Int32) : Option (Um × (Int32 ⊕ String)) :=
  k29 mem x1 x2 x3 x4 (x5 + 1)
set_option maxRecDepth 20000 in
theorem t_X7_fits_b67 {l : Launch} {E : Ue} (k14 : Um → Int32 → Int32 → Int32 → Int32 → Option (Um × (Int32 ⊕ String))) (hk14 : ∀ (mem : Um) (x1 : Int32) (x2 : Int32) (x3 : Int32) (x4 : Int32) (z : Um × (Int32 ⊕ String)), k14 mem x1 x2 x3 x4 = some z → ug l E 7 (uzc z) (uzs z) cX7_fits 6 RX7 (some .int) [] (uzx_i z) 0 0 14 [(0, .ref (ue_d E 0)), (1, .int x1), (2, .int x2), (3, .int x3), (4, .int x4)] [] mem) (k29 : Um → Int32 → Int32 → Int32 → Int32 → Int32 → Option (Um × (Int32 ⊕ String))) (hk29 : ∀ (mem : Um) (x1 : Int32) (x2 : Int32) (x3 : Int32) (x4 : Int32) (x5 : Int32) (z : Um × (Int32 ⊕ String)), k29 mem x1 x2 x3 x4 x5 = some z → ug l E 7 (uzc z) (uzs z) cX7_fits 6 RX7 (some .int) [] (uzx_i z) 0 0 29 [(0, .ref (ue_d E 0)), (1, .int x1), (2, .int x2), (3, .int x3), (4, .int x4), (5, .int x5)] [] mem) (mem : Um) (x1 : Int32) (x2 : Int32) (x3 : Int32) (x4 : Int32) (x5 : Int32) (z : Um × (Int32 ⊕ String)) (h : f_X7_fits_b67 k14 k29 mem x1 x2 x3 x4 x5 = some z) : ug l E 7 (uzc z) (uzs z) cX7_fits 6 RX7 (some .int) [] (uzx_i z) 0 0 67 [(0, .ref (ue_d E 0)), (1, .int x1), (2, .int x2), (3, .int x3), (4, .int x4), (5, .int x5)] [] mem := by
  rw [f_X7_fits_b67] at h
  refine ug_iinc (v := (x5 + 1)) [(5, .int (x5 + 1)), (0, .ref (ue_d E 0)), (1, .int x1), (2, .int x2), (3, .int x3), (4, .int x4)] 5 dX7_fits_67 rfl rfl (Nat.le_of_ble_eq_true rfl) rfl ?_
  refine ug_goto 29 dX7_fits_70 (by decide) ?_
  refine ug_sub [(0, .ref (ue_d E 0)), (1, .int x1), (2, .int x2), (3, .int x3), (4, .int x4), (5, .int (x5 + 1))] [1, 2, 3, 4, 5, 0] rfl ?_
  exact hk29 mem x1 x2 x3 x4 (x5 + 1) _ h
def f_X7_fits_b63 (k14 : Um → Int32 → Int32 → Int32 → Int32 → Option (Um × (Int32 ⊕ String))) (k29 : Um → Int32 → Int32 → Int32 → Int32 → Int32 → Option (Um × (Int32 ⊕ String))) (mem : Um) (x1 : Int32) (x2 : Int32) (x4 : Int32) (x5 : Int32) (y0 : Int32) : Option (Um × (Int32 ⊕ String)) :=
  f_X7_fits_b67 k14 k29 mem x1 (x2 + 1) y0 x4 x5
set_option maxRecDepth 20000 in
theorem t_X7_fits_b63 {l : Launch} {E : Ue} (k14 : Um → Int32 → Int32 → Int32 → Int32 → Option (Um × (Int32 ⊕ String))) (hk14 : ∀ (mem : Um) (x1 : Int32) (x2 : Int32) (x3 : Int32) (x4 : Int32) (z : Um × (Int32 ⊕ String)), k14 mem x1 x2 x3 x4 = some z → ug l E 7 (uzc z) (uzs z) cX7_fits 6 RX7 (some .int) [] (uzx_i z) 0 0 14 [(0, .ref (ue_d E 0)), (1, .int x1), (2, .int x2), (3, .int x3), (4, .int x4)] [] mem) (k29 : Um → Int32 → Int32 → Int32 → Int32 → Int32 → Option (Um × (Int32 ⊕ String))) (hk29 : ∀ (mem : Um) (x1 : Int32) (x2 : Int32) (x3 : Int32) (x4 : Int32) (x5 : Int32) (z : Um × (Int32 ⊕ String)), k29 mem x1 x2 x3 x4 x5 = some z → ug l E 7 (uzc z) (uzs z) cX7_fits 6 RX7 (some .int) [] (uzx_i z) 0 0 29 [(0, .ref (ue_d E 0)), (1, .int x1), (2, .int x2), (3, .int x3), (4, .int x4), (5, .int x5)] [] mem) (mem : Um) (x1 : Int32) (x2 : Int32) (x4 : Int32) (x5 : Int32) (y0 : Int32) (z : Um × (Int32 ⊕ String)) (h : f_X7_fits_b63 k14 k29 mem x1 x2 x4 x5 y0 = some z) : ug l E 7 (uzc z) (uzs z) cX7_fits 6 RX7 (some .int) [] (uzx_i z) 0 0 63 [(0, .ref (ue_d E 0)), (1, .int x1), (2, .int x2), (4, .int x4), (5, .int x5)] [.int y0] mem := by
  rw [f_X7_fits_b63] at h
  refine ug_istore_n [(3, .int y0), (0, .ref (ue_d E 0)), (1, .int x1), (2, .int x2), (4, .int x4), (5, .int x5)] dX7_fits_63 rfl (Nat.le_of_ble_eq_true rfl) rfl ?_
  refine ug_iinc (v := (x2 + 1)) [(2, .int (x2 + 1)), (3, .int y0), (0, .ref (ue_d E 0)), (1, .int x1), (4, .int x4), (5, .int x5)] 3 dX7_fits_64 rfl rfl (Nat.le_of_ble_eq_true rfl) rfl ?_
  refine ug_sub [(0, .ref (ue_d E 0)), (1, .int x1), (2, .int (x2 + 1)), (3, .int y0), (4, .int x4), (5, .int x5)] [2, 3, 0, 1, 4, 5] rfl ?_
  exact t_X7_fits_b67 k14 hk14 k29 hk29 mem x1 (x2 + 1) y0 x4 x5 _ h
def f_X7_fits_b29 (k14 : Um → Int32 → Int32 → Int32 → Int32 → Option (Um × (Int32 ⊕ String))) : Nat → Um → Int32 → Int32 → Int32 → Int32 → Int32 → Option (Um × (Int32 ⊕ String))
  | 0, _, _, _, _, _, _ => none
  | n + 1, mem, x1, x2, x3, x4, x5 =>
    if 20 < x5 then (k14 mem x1 x2 x3 (x4 + 1)) else (ubi (f_X7_tryPair mem x4 x5) (fun m2 r3 => if r3 = 0 then (f_X7_fits_b67 k14 (f_X7_fits_b29 k14 n) m2 x1 x2 x3 x4 x5) else (if x2 = 0 then (f_X7_fits_b63 k14 (f_X7_fits_b29 k14 n) m2 x1 x2 x4 x5 ((100 * x4) + x5)) else (f_X7_fits_b63 k14 (f_X7_fits_b29 k14 n) m2 x1 x2 x4 x5 x3))))
set_option maxRecDepth 20000 in
theorem t_X7_fits_b29 {l : Launch} {E : Ue} (k14 : Um → Int32 → Int32 → Int32 → Int32 → Option (Um × (Int32 ⊕ String))) (hk14 : ∀ (mem : Um) (x1 : Int32) (x2 : Int32) (x3 : Int32) (x4 : Int32) (z : Um × (Int32 ⊕ String)), k14 mem x1 x2 x3 x4 = some z → ug l E 7 (uzc z) (uzs z) cX7_fits 6 RX7 (some .int) [] (uzx_i z) 0 0 14 [(0, .ref (ue_d E 0)), (1, .int x1), (2, .int x2), (3, .int x3), (4, .int x4)] [] mem) : ∀ (n : Nat) (mem : Um) (x1 : Int32) (x2 : Int32) (x3 : Int32) (x4 : Int32) (x5 : Int32) (z : Um × (Int32 ⊕ String)), f_X7_fits_b29 k14 n mem x1 x2 x3 x4 x5 = some z → ug l E 7 (uzc z) (uzs z) cX7_fits 6 RX7 (some .int) [] (uzx_i z) 0 0 29 [(0, .ref (ue_d E 0)), (1, .int x1), (2, .int x2), (3, .int x3), (4, .int x4), (5, .int x5)] [] mem := by
  intro n
  induction n with
  | zero =>
    intro mem x1 x2 x3 x4 x5 z h
    rw [f_X7_fits_b29] at h
    cases h
  | succ n ih =>
    intro mem x1 x2 x3 x4 x5 z h
    rw [f_X7_fits_b29] at h
    refine ug_iload 5 dX7_fits_29 rfl ?_
    refine ug_bipush dX7_fits_31 un_bipush_20 ?_
    refine ug_icmp_gt 73 dX7_fits_33 (by decide) (fun q1 => ?_) (fun q1 => ?_)
    · rw [if_pos q1] at h
      refine ug_iinc (v := (x4 + 1)) [(4, .int (x4 + 1)), (0, .ref (ue_d E 0)), (1, .int x1), (2, .int x2), (3, .int x3), (5, .int x5)] 4 dX7_fits_73 rfl rfl (Nat.le_of_ble_eq_true rfl) rfl ?_
      refine ug_goto 14 dX7_fits_76 (by decide) ?_
      refine ug_sub [(0, .ref (ue_d E 0)), (1, .int x1), (2, .int x2), (3, .int x3), (4, .int (x4 + 1))] [1, 2, 3, 4, 0] rfl ?_
      exact hk14 mem x1 x2 x3 (x4 + 1) _ h
    · rw [if_neg q1] at h
      refine ug_aload_n 0 dX7_fits_36 rfl rfl ?_
      refine ug_iload 4 dX7_fits_37 rfl ?_
      refine ug_iload 5 dX7_fits_39 rfl ?_
      obtain ⟨m2, r3, h4, h⟩ := ubi_some h
      refine ug_callVi [.int x4, .int x5] (c_X7_tryPair  h4) kc_X7_291 ro_0 rfl (S := []) rfl (Nat.le_of_ble_eq_true rfl) (Nat.le_of_ble_eq_true rfl) (Nat.le_of_ble_eq_true rfl) dX7_fits_41 ?_
      refine ug_if_eq 67 dX7_fits_44 (by decide) (fun q5 => ?_) (fun q5 => ?_)
      · rw [if_pos q5] at h
        exact t_X7_fits_b67 k14 hk14 (f_X7_fits_b29 k14 n) ih m2 x1 x2 x3 x4 x5 _ h
      · rw [if_neg q5] at h
        refine ug_iload_n 2 dX7_fits_47 rfl rfl ?_
        refine ug_if_ne 62 dX7_fits_48 (by decide) (fun q6 => ?_) (fun q6 => ?_)
        · rw [if_neg q6] at h
          refine ug_iload_n 3 dX7_fits_62 rfl rfl ?_
          refine ug_sub [(0, .ref (ue_d E 0)), (1, .int x1), (2, .int x2), (4, .int x4), (5, .int x5)] [0, 1, 2, 4, 5] rfl ?_
          exact t_X7_fits_b63 k14 hk14 (f_X7_fits_b29 k14 n) ih m2 x1 x2 x4 x5 x3 _ h
        · rw [if_pos q6] at h
          refine ug_bipush dX7_fits_51 un_bipush_100 ?_
          refine ug_iload 4 dX7_fits_53 rfl ?_
          refine ug_imul dX7_fits_55 ?_
          refine ug_iload 5 dX7_fits_56 rfl ?_
          refine ug_iadd dX7_fits_58 ?_
          refine ug_goto 63 dX7_fits_59 (by decide) ?_
          refine ug_sub [(0, .ref (ue_d E 0)), (1, .int x1), (2, .int x2), (4, .int x4), (5, .int x5)] [0, 1, 2, 4, 5] rfl ?_
          exact t_X7_fits_b63 k14 hk14 (f_X7_fits_b29 k14 n) ih m2 x1 x2 x4 x5 ((100 * x4) + x5) _ h
def f_X7_fits_b14 : Nat → Um → Int32 → Int32 → Int32 → Int32 → Option (Um × (Int32 ⊕ String))
  | 0, _, _, _, _, _ => none
  | n + 1, mem, x1, x2, x3, x4 =>
    if (mem 3 1) ≤ x4 then (if x1 = 0 then (f_X7_fits_b88 mem x2) else (f_X7_fits_b88 mem x3)) else (f_X7_fits_b29 (f_X7_fits_b14  n) UF mem x1 x2 x3 x4 1)
set_option maxRecDepth 20000 in
theorem t_X7_fits_b14 {l : Launch} {E : Ue} : ∀ (n : Nat) (mem : Um) (x1 : Int32) (x2 : Int32) (x3 : Int32) (x4 : Int32) (z : Um × (Int32 ⊕ String)), f_X7_fits_b14  n mem x1 x2 x3 x4 = some z → ug l E 7 (uzc z) (uzs z) cX7_fits 6 RX7 (some .int) [] (uzx_i z) 0 0 14 [(0, .ref (ue_d E 0)), (1, .int x1), (2, .int x2), (3, .int x3), (4, .int x4)] [] mem := by
  intro n
  induction n with
  | zero =>
    intro mem x1 x2 x3 x4 z h
    rw [f_X7_fits_b14] at h
    cases h
  | succ n ih =>
    intro mem x1 x2 x3 x4 z h
    rw [f_X7_fits_b14] at h
    refine ug_iload 4 dX7_fits_14 rfl ?_
    refine ug_aload_n 0 dX7_fits_16 rfl rfl ?_
    refine ug_getR kf_X7_21 gr_0_1 dX7_fits_17 ?_
    refine ug_getI kf_X7_131 gi_3_1 dX7_fits_20 ?_
    refine ug_icmp_ge 79 dX7_fits_23 (by decide) (fun q1 => ?_) (fun q1 => ?_)
    · rw [if_pos q1] at h
      refine ug_iload_n 1 dX7_fits_79 rfl rfl ?_
      refine ug_if_ne 87 dX7_fits_80 (by decide) (fun q2 => ?_) (fun q2 => ?_)
      · rw [if_neg q2] at h
        refine ug_iload_n 3 dX7_fits_87 rfl rfl ?_
        refine ug_sub [] [] rfl ?_
        exact t_X7_fits_b88 mem x3 _ h
      · rw [if_pos q2] at h
        refine ug_iload_n 2 dX7_fits_83 rfl rfl ?_
        refine ug_goto 88 dX7_fits_84 (by decide) ?_
        refine ug_sub [] [] rfl ?_
        exact t_X7_fits_b88 mem x2 _ h
    · rw [if_neg q1] at h
      refine ug_iconst dX7_fits_26 un_iconst_1 ?_
      refine ug_istore [(5, .int 1), (0, .ref (ue_d E 0)), (1, .int x1), (2, .int x2), (3, .int x3), (4, .int x4)] dX7_fits_27 (Nat.le_of_ble_eq_true rfl) rfl ?_
      refine ug_sub [(0, .ref (ue_d E 0)), (1, .int x1), (2, .int x2), (3, .int x3), (4, .int x4), (5, .int 1)] [1, 2, 3, 4, 5, 0] rfl ?_
      exact t_X7_fits_b29 (f_X7_fits_b14  n) ih UF mem x1 x2 x3 x4 1 _ h
def f_X7_fits (mem : Um) (x1 : Int32) : Option (Um × (Int32 ⊕ String)) :=
  ubx (f_X7_need mem x1 0 1) (fun m1 r2 => f_X7_fits_b14  UF m1 x1 0 (-1) 0)
set_option maxRecDepth 20000 in
theorem t_X7_fits {l : Launch} {E : Ue} (mem : Um) (x1 : Int32) (z : Um × (Int32 ⊕ String)) (h : f_X7_fits  mem x1 = some z) : ug l E 7 (uzc z) (uzs z) cX7_fits 6 RX7 (some .int) [] (uzx_i z) 0 0 0 [(0, .ref (ue_d E 0)), (1, .int x1)] [] mem := by
  rw [f_X7_fits] at h
  refine ug_aload_n 0 dX7_fits_0 rfl rfl ?_
  refine ug_iload_n 1 dX7_fits_1 rfl rfl ?_
  refine ug_iconst dX7_fits_2 un_iconst_0 ?_
  refine ug_iconst dX7_fits_3 un_iconst_1 ?_
  rcases ubx_some h with ⟨m1, r2, h3, h⟩ | ⟨m1, X4, h3, rfl⟩
  · refine ug_callVv [.int x1, .int 0, .int 1] (c_X7_need_r  h3) kc_X7_102 ro_0 rfl (S := []) rfl (Nat.le_of_ble_eq_true rfl) (Nat.le_of_ble_eq_true rfl) (Nat.le_of_ble_eq_true rfl) dX7_fits_4 ?_
    refine ug_iconst dX7_fits_7 un_iconst_0 ?_
    refine ug_istore_n [(2, .int 0), (0, .ref (ue_d E 0)), (1, .int x1)] dX7_fits_8 rfl (Nat.le_of_ble_eq_true rfl) rfl ?_
    refine ug_iconst dX7_fits_9 un_iconst_m1 ?_
    refine ug_istore_n [(3, .int (-1)), (2, .int 0), (0, .ref (ue_d E 0)), (1, .int x1)] dX7_fits_10 rfl (Nat.le_of_ble_eq_true rfl) rfl ?_
    refine ug_iconst dX7_fits_11 un_iconst_0 ?_
    refine ug_istore [(4, .int 0), (3, .int (-1)), (2, .int 0), (0, .ref (ue_d E 0)), (1, .int x1)] dX7_fits_12 (Nat.le_of_ble_eq_true rfl) rfl ?_
    refine ug_sub [(0, .ref (ue_d E 0)), (1, .int x1), (2, .int 0), (3, .int (-1)), (4, .int 0)] [3, 4, 2, 1, 0] rfl ?_
    exact t_X7_fits_b14  UF m1 x1 0 (-1) 0 _ h
  · exact ug_callVx [.int x1, .int 0, .int 1] (c_X7_need_x  h3) kc_X7_102 ro_0 rfl (S := []) rfl (Nat.le_of_ble_eq_true rfl) (Nat.le_of_ble_eq_true rfl) (Nat.le_of_ble_eq_true rfl) ⟨Nat.le_refl 1, Nat.le_refl 6⟩ dX7_fits_4
theorem c_X7_fits_r {l : Launch} {E : Ue} {mem : Um} {x1 : Int32} {m1 : Um} {r : Int32} (h : f_X7_fits  mem x1 = some (m1, .inl r)) : ucr l E 7 0 0 yX7_fits cX7_fits 6 (some .int) [.ref (ue_d E 0), .int x1] mem (some (.int r)) m1 := ucr_of rfl (Nat.le_of_ble_eq_true rfl) (t_X7_fits  mem x1 _ h)
theorem c_X7_fits_x {l : Launch} {E : Ue} {mem : Um} {x1 : Int32} {m1 : Um} {X : String} (h : f_X7_fits  mem x1 = some (m1, .inr X)) : ucx l E 7 1 6 yX7_fits cX7_fits 6 (some .int) [.ref (ue_d E 0), .int x1] mem X m1 := ucx_of rfl (Nat.le_of_ble_eq_true rfl) (t_X7_fits  mem x1 _ h)
-- X7_tallyTrial
def f_X7_tallyTrial_b2 : Nat → Um → Int32 → Option (Um × Unit)
  | 0, _, _ => none
  | n + 1, mem, x1 =>
    if (mem 3 0) ≤ x1 then (some (mem, ())) else (ubi (f_X4_ownerOrNobody 25 mem x1) (fun m2 r3 => ugd (uin ((x1 * 6) + r3) 48) (ugd (uin ((x1 * 6) + r3) 48) ((f_X7_tallyTrial_b2  n) (um_w m2 36 ((x1 * 6) + r3).toNatClampNeg ((m2 36 ((x1 * 6) + r3).toNatClampNeg) + 1)) (x1 + 1)))))
set_option maxRecDepth 20000 in
theorem t_X7_tallyTrial_b2 {l : Launch} {E : Ue} : ∀ (n : Nat) (mem : Um) (x1 : Int32) (z : Um × Unit), f_X7_tallyTrial_b2  n mem x1 = some z → ug l E 4 0 0 cX7_tallyTrial 2 RX7 none [] (uz_v z) 0 0 2 [(0, .ref (ue_d E 0)), (1, .int x1)] [] mem := by
  intro n
  induction n with
  | zero =>
    intro mem x1 z h
    rw [f_X7_tallyTrial_b2] at h
    cases h
  | succ n ih =>
    intro mem x1 z h
    rw [f_X7_tallyTrial_b2] at h
    refine ug_iload_n 1 dX7_tallyTrial_2 rfl rfl ?_
    refine ug_aload_n 0 dX7_tallyTrial_3 rfl rfl ?_
    refine ug_getR kf_X7_21 gr_0_1 dX7_tallyTrial_4 ?_
    refine ug_getI kf_X7_162 gi_3_0 dX7_tallyTrial_7 ?_
    refine ug_icmp_ge 41 dX7_tallyTrial_10 (by decide) (fun q1 => ?_) (fun q1 => ?_)
    · rw [if_pos q1] at h
      obtain rfl := Option.some.inj h
      exact ug_vret dX7_tallyTrial_41
    · rw [if_neg q1] at h
      refine ug_aload_n 0 dX7_tallyTrial_13 rfl rfl ?_
      refine ug_getR kf_X7_72 gr_0_10 dX7_tallyTrial_14 ?_
      refine ug_iload_n 1 dX7_tallyTrial_17 rfl rfl ?_
      refine ug_bipush dX7_tallyTrial_18 un_bipush_6 ?_
      refine ug_imul dX7_tallyTrial_20 ?_
      refine ug_aload_n 0 dX7_tallyTrial_21 rfl rfl ?_
      refine ug_getR kf_X7_58 gr_0_7 dX7_tallyTrial_22 ?_
      refine ug_iload_n 1 dX7_tallyTrial_25 rfl rfl ?_
      obtain ⟨m2, r3, h4, h⟩ := ubi_some h
      refine ug_callVi [.int x1] (c_X4_ownerOrNobody (Or.inr rfl) h4) kc_X7_319 ro_25 rfl (S := [.int (x1 * 6), .ref (ue_d E 36)]) rfl (Nat.le_of_ble_eq_true rfl) (Nat.le_of_ble_eq_true rfl) (Nat.le_of_ble_eq_true rfl) dX7_tallyTrial_26 ?_
      refine ug_iadd dX7_tallyTrial_29 ?_
      refine ug_dup2 dX7_tallyTrial_30 rfl rfl ?_
      obtain ⟨g5, h⟩ := ugd_some h
      refine ug_iald al_36 (uin_ok g5) dX7_tallyTrial_31 ?_
      refine ug_iconst dX7_tallyTrial_32 un_iconst_1 ?_
      refine ug_iadd dX7_tallyTrial_33 ?_
      obtain ⟨g6, h⟩ := ugd_some h
      refine ug_iast al_36 (uin_ok g6) dX7_tallyTrial_34 ?_
      refine ug_iinc (v := (x1 + 1)) [(1, .int (x1 + 1)), (0, .ref (ue_d E 0))] 1 dX7_tallyTrial_35 rfl rfl (Nat.le_of_ble_eq_true rfl) rfl ?_
      refine ug_goto 2 dX7_tallyTrial_38 (by decide) ?_
      refine ug_sub [(0, .ref (ue_d E 0)), (1, .int (x1 + 1))] [1, 0] rfl ?_
      exact ih (um_w m2 36 ((x1 * 6) + r3).toNatClampNeg ((m2 36 ((x1 * 6) + r3).toNatClampNeg) + 1)) (x1 + 1) _ h
def f_X7_tallyTrial (mem : Um) : Option (Um × Unit) :=
  f_X7_tallyTrial_b2  UF mem 0
set_option maxRecDepth 20000 in
theorem t_X7_tallyTrial {l : Launch} {E : Ue} (mem : Um) (z : Um × Unit) (h : f_X7_tallyTrial  mem  = some z) : ug l E 4 0 0 cX7_tallyTrial 2 RX7 none [] (uz_v z) 0 0 0 [(0, .ref (ue_d E 0))] [] mem := by
  rw [f_X7_tallyTrial] at h
  refine ug_iconst dX7_tallyTrial_0 un_iconst_0 ?_
  refine ug_istore_n [(1, .int 0), (0, .ref (ue_d E 0))] dX7_tallyTrial_1 rfl (Nat.le_of_ble_eq_true rfl) rfl ?_
  refine ug_sub [(0, .ref (ue_d E 0)), (1, .int 0)] [1, 0] rfl ?_
  exact t_X7_tallyTrial_b2  UF mem 0 _ h
theorem c_X7_tallyTrial {l : Launch} {E : Ue} {mem : Um} {m1 : Um} {r : Unit} (h : f_X7_tallyTrial  mem  = some (m1, r)) : ucr l E 4 0 0 yX7_tallyTrial cX7_tallyTrial 2 none [.ref (ue_d E 0)] mem none m1 := ucr_of rfl (Nat.le_of_ble_eq_true rfl) (t_X7_tallyTrial  mem  _ h)
-- X7_tallyOwners
def f_X7_tallyOwners_b42 (k10 : Um → Int32 → Option (Um × Unit)) (k23 : Um → Int32 → Int32 → Option (Um × Unit)) (mem : Um) (x1 : Int32) (x2 : Int32) : Option (Um × Unit) :=
  k23 mem x1 (x2 + 1)
set_option maxRecDepth 20000 in
theorem t_X7_tallyOwners_b42 {l : Launch} {E : Ue} (k10 : Um → Int32 → Option (Um × Unit)) (hk10 : ∀ (mem : Um) (x1 : Int32) (z : Um × Unit), k10 mem x1 = some z → ug l E 6 0 0 cX7_tallyOwners 3 RX7 none [] (uz_v z) 0 0 10 [(0, .ref (ue_d E 0)), (1, .int x1)] [] mem) (k23 : Um → Int32 → Int32 → Option (Um × Unit)) (hk23 : ∀ (mem : Um) (x1 : Int32) (x2 : Int32) (z : Um × Unit), k23 mem x1 x2 = some z → ug l E 6 0 0 cX7_tallyOwners 3 RX7 none [] (uz_v z) 0 0 23 [(0, .ref (ue_d E 0)), (1, .int x1), (2, .int x2)] [] mem) (mem : Um) (x1 : Int32) (x2 : Int32) (z : Um × Unit) (h : f_X7_tallyOwners_b42 k10 k23 mem x1 x2 = some z) : ug l E 6 0 0 cX7_tallyOwners 3 RX7 none [] (uz_v z) 0 0 42 [(0, .ref (ue_d E 0)), (1, .int x1), (2, .int x2)] [] mem := by
  rw [f_X7_tallyOwners_b42] at h
  refine ug_iinc (v := (x2 + 1)) [(2, .int (x2 + 1)), (0, .ref (ue_d E 0)), (1, .int x1)] 2 dX7_tallyOwners_42 rfl rfl (Nat.le_of_ble_eq_true rfl) rfl ?_
  refine ug_goto 23 dX7_tallyOwners_45 (by decide) ?_
  refine ug_sub [(0, .ref (ue_d E 0)), (1, .int x1), (2, .int (x2 + 1))] [1, 2, 0] rfl ?_
  exact hk23 mem x1 (x2 + 1) _ h
def f_X7_tallyOwners_b23 (k10 : Um → Int32 → Option (Um × Unit)) : Nat → Um → Int32 → Int32 → Option (Um × Unit)
  | 0, _, _, _ => none
  | n + 1, mem, x1, x2 =>
    if 20 < x2 then (k10 mem (x1 + 1)) else (ubi (f_X7_tryPair mem x1 x2) (fun m2 r3 => if r3 = 0 then (f_X7_tallyOwners_b42 k10 (f_X7_tallyOwners_b23 k10 n) m2 x1 x2) else (ubi (f_X7_tallyTrial m2) (fun m6 r7 => f_X7_tallyOwners_b42 k10 (f_X7_tallyOwners_b23 k10 n) m6 x1 x2))))
set_option maxRecDepth 20000 in
theorem t_X7_tallyOwners_b23 {l : Launch} {E : Ue} (k10 : Um → Int32 → Option (Um × Unit)) (hk10 : ∀ (mem : Um) (x1 : Int32) (z : Um × Unit), k10 mem x1 = some z → ug l E 6 0 0 cX7_tallyOwners 3 RX7 none [] (uz_v z) 0 0 10 [(0, .ref (ue_d E 0)), (1, .int x1)] [] mem) : ∀ (n : Nat) (mem : Um) (x1 : Int32) (x2 : Int32) (z : Um × Unit), f_X7_tallyOwners_b23 k10 n mem x1 x2 = some z → ug l E 6 0 0 cX7_tallyOwners 3 RX7 none [] (uz_v z) 0 0 23 [(0, .ref (ue_d E 0)), (1, .int x1), (2, .int x2)] [] mem := by
  intro n
  induction n with
  | zero =>
    intro mem x1 x2 z h
    rw [f_X7_tallyOwners_b23] at h
    cases h
  | succ n ih =>
    intro mem x1 x2 z h
    rw [f_X7_tallyOwners_b23] at h
    refine ug_iload_n 2 dX7_tallyOwners_23 rfl rfl ?_
    refine ug_bipush dX7_tallyOwners_24 un_bipush_20 ?_
    refine ug_icmp_gt 48 dX7_tallyOwners_26 (by decide) (fun q1 => ?_) (fun q1 => ?_)
    · rw [if_pos q1] at h
      refine ug_iinc (v := (x1 + 1)) [(1, .int (x1 + 1)), (0, .ref (ue_d E 0)), (2, .int x2)] 1 dX7_tallyOwners_48 rfl rfl (Nat.le_of_ble_eq_true rfl) rfl ?_
      refine ug_goto 10 dX7_tallyOwners_51 (by decide) ?_
      refine ug_sub [(0, .ref (ue_d E 0)), (1, .int (x1 + 1))] [1, 0] rfl ?_
      exact hk10 mem (x1 + 1) _ h
    · rw [if_neg q1] at h
      refine ug_aload_n 0 dX7_tallyOwners_29 rfl rfl ?_
      refine ug_iload_n 1 dX7_tallyOwners_30 rfl rfl ?_
      refine ug_iload_n 2 dX7_tallyOwners_31 rfl rfl ?_
      obtain ⟨m2, r3, h4, h⟩ := ubi_some h
      refine ug_callVi [.int x1, .int x2] (c_X7_tryPair  h4) kc_X7_291 ro_0 rfl (S := []) rfl (Nat.le_of_ble_eq_true rfl) (Nat.le_of_ble_eq_true rfl) (Nat.le_of_ble_eq_true rfl) dX7_tallyOwners_32 ?_
      refine ug_if_eq 42 dX7_tallyOwners_35 (by decide) (fun q5 => ?_) (fun q5 => ?_)
      · rw [if_pos q5] at h
        exact t_X7_tallyOwners_b42 k10 hk10 (f_X7_tallyOwners_b23 k10 n) ih m2 x1 x2 _ h
      · rw [if_neg q5] at h
        refine ug_aload_n 0 dX7_tallyOwners_38 rfl rfl ?_
        obtain ⟨m6, r7, h8, h⟩ := ubi_some h
        refine ug_callVv [] (c_X7_tallyTrial  h8) kc_X7_316 ro_0 rfl (S := []) rfl (Nat.le_of_ble_eq_true rfl) (Nat.le_of_ble_eq_true rfl) (Nat.le_of_ble_eq_true rfl) dX7_tallyOwners_39 ?_
        exact t_X7_tallyOwners_b42 k10 hk10 (f_X7_tallyOwners_b23 k10 n) ih m6 x1 x2 _ h
def f_X7_tallyOwners_b10 : Nat → Um → Int32 → Option (Um × Unit)
  | 0, _, _ => none
  | n + 1, mem, x1 =>
    if (mem 3 1) ≤ x1 then (some (mem, ())) else (f_X7_tallyOwners_b23 (f_X7_tallyOwners_b10  n) UF mem x1 1)
set_option maxRecDepth 20000 in
theorem t_X7_tallyOwners_b10 {l : Launch} {E : Ue} : ∀ (n : Nat) (mem : Um) (x1 : Int32) (z : Um × Unit), f_X7_tallyOwners_b10  n mem x1 = some z → ug l E 6 0 0 cX7_tallyOwners 3 RX7 none [] (uz_v z) 0 0 10 [(0, .ref (ue_d E 0)), (1, .int x1)] [] mem := by
  intro n
  induction n with
  | zero =>
    intro mem x1 z h
    rw [f_X7_tallyOwners_b10] at h
    cases h
  | succ n ih =>
    intro mem x1 z h
    rw [f_X7_tallyOwners_b10] at h
    refine ug_iload_n 1 dX7_tallyOwners_10 rfl rfl ?_
    refine ug_aload_n 0 dX7_tallyOwners_11 rfl rfl ?_
    refine ug_getR kf_X7_21 gr_0_1 dX7_tallyOwners_12 ?_
    refine ug_getI kf_X7_131 gi_3_1 dX7_tallyOwners_15 ?_
    refine ug_icmp_ge 54 dX7_tallyOwners_18 (by decide) (fun q1 => ?_) (fun q1 => ?_)
    · rw [if_pos q1] at h
      obtain rfl := Option.some.inj h
      exact ug_vret dX7_tallyOwners_54
    · rw [if_neg q1] at h
      refine ug_iconst dX7_tallyOwners_21 un_iconst_1 ?_
      refine ug_istore_n [(2, .int 1), (0, .ref (ue_d E 0)), (1, .int x1)] dX7_tallyOwners_22 rfl (Nat.le_of_ble_eq_true rfl) rfl ?_
      refine ug_sub [(0, .ref (ue_d E 0)), (1, .int x1), (2, .int 1)] [1, 2, 0] rfl ?_
      exact t_X7_tallyOwners_b23 (f_X7_tallyOwners_b10  n) ih UF mem x1 1 _ h
def f_X7_tallyOwners (mem : Um) : Option (Um × Unit) :=
  ubi (f_J7_fill_53178 36 48 mem 0) (fun m1 r2 => f_X7_tallyOwners_b10  UF m1 0)
set_option maxRecDepth 20000 in
theorem t_X7_tallyOwners {l : Launch} {E : Ue} (mem : Um) (z : Um × Unit) (h : f_X7_tallyOwners  mem  = some z) : ug l E 6 0 0 cX7_tallyOwners 3 RX7 none [] (uz_v z) 0 0 0 [(0, .ref (ue_d E 0))] [] mem := by
  rw [f_X7_tallyOwners] at h
  refine ug_aload_n 0 dX7_tallyOwners_0 rfl rfl ?_
  refine ug_getR kf_X7_72 gr_0_10 dX7_tallyOwners_1 ?_
  refine ug_iconst dX7_tallyOwners_4 un_iconst_0 ?_
  obtain ⟨m1, r2, h3, h⟩ := ubi_some h
  refine ug_callSv [.ref (ue_d E 36), .int 0] (c_J7_fill_53178 al_36 h3) kc_X7_310 rfl (S := []) rfl (Nat.le_of_ble_eq_true rfl) (Nat.le_of_ble_eq_true rfl) (Nat.le_of_ble_eq_true rfl) dX7_tallyOwners_5 ?_
  refine ug_iconst dX7_tallyOwners_8 un_iconst_0 ?_
  refine ug_istore_n [(1, .int 0), (0, .ref (ue_d E 0))] dX7_tallyOwners_9 rfl (Nat.le_of_ble_eq_true rfl) rfl ?_
  refine ug_sub [(0, .ref (ue_d E 0)), (1, .int 0)] [1, 0] rfl ?_
  exact t_X7_tallyOwners_b10  UF m1 0 _ h
theorem c_X7_tallyOwners {l : Launch} {E : Ue} {mem : Um} {m1 : Um} {r : Unit} (h : f_X7_tallyOwners  mem  = some (m1, r)) : ucr l E 6 0 0 yX7_tallyOwners cX7_tallyOwners 3 none [.ref (ue_d E 0)] mem none m1 := ucr_of rfl (Nat.le_of_ble_eq_true rfl) (t_X7_tallyOwners  mem  _ h)
-- X7_worstLeft
def f_X7_worstLeft_b4 : Nat → Um → Int32 → Int32 → Int32 → Option (Um × Int32)
  | 0, _, _, _, _ => none
  | n + 1, mem, x1, x2, x3 =>
    if 5 < x3 then (some (mem, x2)) else (ugd (uin ((x1 * 6) + x3) 48) ((f_X7_worstLeft_b4  n) mem x1 (ummax x2 (mem 36 ((x1 * 6) + x3).toNatClampNeg)) (x3 + 1)))
set_option maxRecDepth 20000 in
theorem t_X7_worstLeft_b4 {l : Launch} {E : Ue} : ∀ (n : Nat) (mem : Um) (x1 : Int32) (x2 : Int32) (x3 : Int32) (z : Um × Int32), f_X7_worstLeft_b4  n mem x1 x2 x3 = some z → ug l E 2 0 0 cX7_worstLeft 4 RX7 (some .int) [] (uz_i z) 0 0 4 [(0, .ref (ue_d E 0)), (1, .int x1), (2, .int x2), (3, .int x3)] [] mem := by
  intro n
  induction n with
  | zero =>
    intro mem x1 x2 x3 z h
    rw [f_X7_worstLeft_b4] at h
    cases h
  | succ n ih =>
    intro mem x1 x2 x3 z h
    rw [f_X7_worstLeft_b4] at h
    refine ug_iload_n 3 dX7_worstLeft_4 rfl rfl ?_
    refine ug_iconst dX7_worstLeft_5 un_iconst_5 ?_
    refine ug_icmp_gt 31 dX7_worstLeft_6 (by decide) (fun q1 => ?_) (fun q1 => ?_)
    · rw [if_pos q1] at h
      refine ug_iload_n 2 dX7_worstLeft_31 rfl rfl ?_
      obtain rfl := Option.some.inj h
      exact ug_iret dX7_worstLeft_32
    · rw [if_neg q1] at h
      refine ug_iload_n 2 dX7_worstLeft_9 rfl rfl ?_
      refine ug_aload_n 0 dX7_worstLeft_10 rfl rfl ?_
      refine ug_getR kf_X7_72 gr_0_10 dX7_worstLeft_11 ?_
      refine ug_iload_n 1 dX7_worstLeft_14 rfl rfl ?_
      refine ug_bipush dX7_worstLeft_15 un_bipush_6 ?_
      refine ug_imul dX7_worstLeft_17 ?_
      refine ug_iload_n 3 dX7_worstLeft_18 rfl rfl ?_
      refine ug_iadd dX7_worstLeft_19 ?_
      obtain ⟨g2, h⟩ := ugd_some h
      refine ug_iald al_36 (uin_ok g2) dX7_worstLeft_20 ?_
      refine ug_mmax kl_X7_273 (Nat.le_of_ble_eq_true rfl) (Nat.le_of_ble_eq_true rfl) dX7_worstLeft_21 ?_
      refine ug_istore_n [(2, .int (ummax x2 (mem 36 ((x1 * 6) + x3).toNatClampNeg))), (0, .ref (ue_d E 0)), (1, .int x1), (3, .int x3)] dX7_worstLeft_24 rfl (Nat.le_of_ble_eq_true rfl) rfl ?_
      refine ug_iinc (v := (x3 + 1)) [(3, .int (x3 + 1)), (2, .int (ummax x2 (mem 36 ((x1 * 6) + x3).toNatClampNeg))), (0, .ref (ue_d E 0)), (1, .int x1)] 3 dX7_worstLeft_25 rfl rfl (Nat.le_of_ble_eq_true rfl) rfl ?_
      refine ug_goto 4 dX7_worstLeft_28 (by decide) ?_
      refine ug_sub [(0, .ref (ue_d E 0)), (1, .int x1), (2, .int (ummax x2 (mem 36 ((x1 * 6) + x3).toNatClampNeg))), (3, .int (x3 + 1))] [2, 3, 1, 0] rfl ?_
      exact ih mem x1 (ummax x2 (mem 36 ((x1 * 6) + x3).toNatClampNeg)) (x3 + 1) _ h
def f_X7_worstLeft (mem : Um) (x1 : Int32) : Option (Um × Int32) :=
  f_X7_worstLeft_b4  UF mem x1 0 0
set_option maxRecDepth 20000 in
theorem t_X7_worstLeft {l : Launch} {E : Ue} (mem : Um) (x1 : Int32) (z : Um × Int32) (h : f_X7_worstLeft  mem x1 = some z) : ug l E 2 0 0 cX7_worstLeft 4 RX7 (some .int) [] (uz_i z) 0 0 0 [(0, .ref (ue_d E 0)), (1, .int x1)] [] mem := by
  rw [f_X7_worstLeft] at h
  refine ug_iconst dX7_worstLeft_0 un_iconst_0 ?_
  refine ug_istore_n [(2, .int 0), (0, .ref (ue_d E 0)), (1, .int x1)] dX7_worstLeft_1 rfl (Nat.le_of_ble_eq_true rfl) rfl ?_
  refine ug_iconst dX7_worstLeft_2 un_iconst_0 ?_
  refine ug_istore_n [(3, .int 0), (2, .int 0), (0, .ref (ue_d E 0)), (1, .int x1)] dX7_worstLeft_3 rfl (Nat.le_of_ble_eq_true rfl) rfl ?_
  refine ug_sub [(0, .ref (ue_d E 0)), (1, .int x1), (2, .int 0), (3, .int 0)] [2, 3, 1, 0] rfl ?_
  exact t_X7_worstLeft_b4  UF mem x1 0 0 _ h
theorem c_X7_worstLeft {l : Launch} {E : Ue} {mem : Um} {x1 : Int32} {m1 : Um} {r : Int32} (h : f_X7_worstLeft  mem x1 = some (m1, r)) : ucr l E 2 0 0 yX7_worstLeft cX7_worstLeft 4 (some .int) [.ref (ue_d E 0), .int x1] mem (some (.int r)) m1 := ucr_of rfl (Nat.le_of_ble_eq_true rfl) (t_X7_worstLeft  mem x1 _ h)
-- X7_look
def f_X7_look_b84 (mem : Um) (y0 : Int32) : Option (Um × (Int32 ⊕ String)) :=
  some (mem, .inl y0)
set_option maxRecDepth 20000 in
theorem t_X7_look_b84 {l : Launch} {E : Ue} (mem : Um) (y0 : Int32) (z : Um × (Int32 ⊕ String)) (h : f_X7_look_b84  mem y0 = some z) : ug l E 7 (uzc z) (uzs z) cX7_look 6 RX7 (some .int) [] (uzx_i z) 0 0 84 [] [.int y0] mem := by
  rw [f_X7_look_b84] at h
  obtain rfl := Option.some.inj h
  exact ug_iret dX7_look_84
def f_X7_look_b69 (k18 : Um → Int32 → Int32 → Int32 → Int32 → Option (Um × (Int32 ⊕ String))) (mem : Um) (x1 : Int32) (x2 : Int32) (x3 : Int32) (x4 : Int32) : Option (Um × (Int32 ⊕ String)) :=
  k18 mem x1 x2 x3 (x4 + 1)
set_option maxRecDepth 20000 in
theorem t_X7_look_b69 {l : Launch} {E : Ue} (k18 : Um → Int32 → Int32 → Int32 → Int32 → Option (Um × (Int32 ⊕ String))) (hk18 : ∀ (mem : Um) (x1 : Int32) (x2 : Int32) (x3 : Int32) (x4 : Int32) (z : Um × (Int32 ⊕ String)), k18 mem x1 x2 x3 x4 = some z → ug l E 7 (uzc z) (uzs z) cX7_look 6 RX7 (some .int) [] (uzx_i z) 0 0 18 [(0, .ref (ue_d E 0)), (1, .int x1), (2, .int x2), (3, .int x3), (4, .int x4)] [] mem) (mem : Um) (x1 : Int32) (x2 : Int32) (x3 : Int32) (x4 : Int32) (z : Um × (Int32 ⊕ String)) (h : f_X7_look_b69 k18 mem x1 x2 x3 x4 = some z) : ug l E 7 (uzc z) (uzs z) cX7_look 6 RX7 (some .int) [] (uzx_i z) 0 0 69 [(0, .ref (ue_d E 0)), (1, .int x1), (2, .int x2), (3, .int x3), (4, .int x4)] [] mem := by
  rw [f_X7_look_b69] at h
  refine ug_iinc (v := (x4 + 1)) [(4, .int (x4 + 1)), (0, .ref (ue_d E 0)), (1, .int x1), (2, .int x2), (3, .int x3)] 4 dX7_look_69 rfl rfl (Nat.le_of_ble_eq_true rfl) rfl ?_
  refine ug_goto 18 dX7_look_72 (by decide) ?_
  refine ug_sub [(0, .ref (ue_d E 0)), (1, .int x1), (2, .int x2), (3, .int x3), (4, .int (x4 + 1))] [1, 2, 3, 4, 0] rfl ?_
  exact hk18 mem x1 x2 x3 (x4 + 1) _ h
def f_X7_look_b63 (k18 : Um → Int32 → Int32 → Int32 → Int32 → Option (Um × (Int32 ⊕ String))) (mem : Um) (x1 : Int32) (x4 : Int32) (x5 : Int32) : Option (Um × (Int32 ⊕ String)) :=
  f_X7_look_b69 k18 mem x1 x4 x5 x4
set_option maxRecDepth 20000 in
theorem t_X7_look_b63 {l : Launch} {E : Ue} (k18 : Um → Int32 → Int32 → Int32 → Int32 → Option (Um × (Int32 ⊕ String))) (hk18 : ∀ (mem : Um) (x1 : Int32) (x2 : Int32) (x3 : Int32) (x4 : Int32) (z : Um × (Int32 ⊕ String)), k18 mem x1 x2 x3 x4 = some z → ug l E 7 (uzc z) (uzs z) cX7_look 6 RX7 (some .int) [] (uzx_i z) 0 0 18 [(0, .ref (ue_d E 0)), (1, .int x1), (2, .int x2), (3, .int x3), (4, .int x4)] [] mem) (mem : Um) (x1 : Int32) (x4 : Int32) (x5 : Int32) (z : Um × (Int32 ⊕ String)) (h : f_X7_look_b63 k18 mem x1 x4 x5 = some z) : ug l E 7 (uzc z) (uzs z) cX7_look 6 RX7 (some .int) [] (uzx_i z) 0 0 63 [(0, .ref (ue_d E 0)), (1, .int x1), (4, .int x4), (5, .int x5)] [] mem := by
  rw [f_X7_look_b63] at h
  refine ug_iload 2 dX7_look_63 rfl ?_
  refine ug_istore_n [(2, .int x4), (0, .ref (ue_d E 0)), (1, .int x1), (4, .int x4), (5, .int x5)] dX7_look_65 rfl (Nat.le_of_ble_eq_true rfl) rfl ?_
  refine ug_iload 4 dX7_look_66 rfl ?_
  refine ug_istore_n [(3, .int x5), (2, .int x4), (0, .ref (ue_d E 0)), (1, .int x1), (4, .int x4), (5, .int x5)] dX7_look_68 rfl (Nat.le_of_ble_eq_true rfl) rfl ?_
  refine ug_sub [(0, .ref (ue_d E 0)), (1, .int x1), (2, .int x4), (3, .int x5), (4, .int x4)] [2, 3, 1, 0, 4] rfl ?_
  exact t_X7_look_b69 k18 hk18 mem x1 x4 x5 x4 _ h
def f_X7_look_b18 : Nat → Um → Int32 → Int32 → Int32 → Int32 → Option (Um × (Int32 ⊕ String))
  | 0, _, _, _, _, _ => none
  | n + 1, mem, x1, x2, x3, x4 =>
    if (mem 3 0) ≤ x4 then (if x1 = 0 then (f_X7_look_b84 mem x2) else (f_X7_look_b84 mem x3)) else (ubi (f_X7_worstLeft mem x4) (fun m3 r4 => ugd (uin x4 8) (if (m3 19 x4.toNatClampNeg) = (-1) then (if x2 = (-1) then (f_X7_look_b63 (f_X7_look_b18  n) m3 x1 x4 r4) else (if x3 ≤ r4 then (f_X7_look_b69 (f_X7_look_b18  n) m3 x1 x2 x3 x4) else (f_X7_look_b63 (f_X7_look_b18  n) m3 x1 x4 r4))) else (f_X7_look_b69 (f_X7_look_b18  n) m3 x1 x2 x3 x4))))
set_option maxRecDepth 20000 in
theorem t_X7_look_b18 {l : Launch} {E : Ue} : ∀ (n : Nat) (mem : Um) (x1 : Int32) (x2 : Int32) (x3 : Int32) (x4 : Int32) (z : Um × (Int32 ⊕ String)), f_X7_look_b18  n mem x1 x2 x3 x4 = some z → ug l E 7 (uzc z) (uzs z) cX7_look 6 RX7 (some .int) [] (uzx_i z) 0 0 18 [(0, .ref (ue_d E 0)), (1, .int x1), (2, .int x2), (3, .int x3), (4, .int x4)] [] mem := by
  intro n
  induction n with
  | zero =>
    intro mem x1 x2 x3 x4 z h
    rw [f_X7_look_b18] at h
    cases h
  | succ n ih =>
    intro mem x1 x2 x3 x4 z h
    rw [f_X7_look_b18] at h
    refine ug_iload 4 dX7_look_18 rfl ?_
    refine ug_aload_n 0 dX7_look_20 rfl rfl ?_
    refine ug_getR kf_X7_21 gr_0_1 dX7_look_21 ?_
    refine ug_getI kf_X7_162 gi_3_0 dX7_look_24 ?_
    refine ug_icmp_ge 75 dX7_look_27 (by decide) (fun q1 => ?_) (fun q1 => ?_)
    · rw [if_pos q1] at h
      refine ug_iload_n 1 dX7_look_75 rfl rfl ?_
      refine ug_if_ne 83 dX7_look_76 (by decide) (fun q2 => ?_) (fun q2 => ?_)
      · rw [if_neg q2] at h
        refine ug_iload_n 3 dX7_look_83 rfl rfl ?_
        refine ug_sub [] [] rfl ?_
        exact t_X7_look_b84 mem x3 _ h
      · rw [if_pos q2] at h
        refine ug_iload_n 2 dX7_look_79 rfl rfl ?_
        refine ug_goto 84 dX7_look_80 (by decide) ?_
        refine ug_sub [] [] rfl ?_
        exact t_X7_look_b84 mem x2 _ h
    · rw [if_neg q1] at h
      refine ug_aload_n 0 dX7_look_30 rfl rfl ?_
      refine ug_iload 4 dX7_look_31 rfl ?_
      obtain ⟨m3, r4, h5, h⟩ := ubi_some h
      refine ug_callVi [.int x4] (c_X7_worstLeft  h5) kc_X7_297 ro_0 rfl (S := []) rfl (Nat.le_of_ble_eq_true rfl) (Nat.le_of_ble_eq_true rfl) (Nat.le_of_ble_eq_true rfl) dX7_look_33 ?_
      refine ug_istore [(5, .int r4), (0, .ref (ue_d E 0)), (1, .int x1), (2, .int x2), (3, .int x3), (4, .int x4)] dX7_look_36 (Nat.le_of_ble_eq_true rfl) rfl ?_
      refine ug_aload_n 1 dX7_look_38 rfl rfl ?_
      refine ug_getR kf_X7_38 gr_0_4 dX7_look_39 ?_
      refine ug_getR kf_X7_300 gr_18_0 dX7_look_42 ?_
      refine ug_iload 5 dX7_look_45 rfl ?_
      obtain ⟨g6, h⟩ := ugd_some h
      refine ug_iald al_19 (uin_ok g6) dX7_look_47 ?_
      refine ug_iconst dX7_look_48 un_iconst_m1 ?_
      refine ug_icmp_ne 69 dX7_look_49 (by decide) (fun q7 => ?_) (fun q7 => ?_)
      · rw [if_neg q7] at h
        refine ug_sub [(0, .ref (ue_d E 0)), (1, .int x1), (2, .int x2), (3, .int x3), (4, .int x4)] [1, 2, 3, 4, 5] rfl ?_
        exact t_X7_look_b69 (f_X7_look_b18  n) ih m3 x1 x2 x3 x4 _ h
      · rw [if_pos q7] at h
        refine ug_iload_n 3 dX7_look_52 rfl rfl ?_
        refine ug_iconst dX7_look_53 un_iconst_m1 ?_
        refine ug_icmp_eq 63 dX7_look_54 (by decide) (fun q8 => ?_) (fun q8 => ?_)
        · rw [if_pos q8] at h
          refine ug_sub [(0, .ref (ue_d E 0)), (1, .int x1), (4, .int x4), (5, .int r4)] [1, 2, 5, 0] rfl ?_
          exact t_X7_look_b63 (f_X7_look_b18  n) ih m3 x1 x4 r4 _ h
        · rw [if_neg q8] at h
          refine ug_iload 0 dX7_look_57 rfl ?_
          refine ug_iload_n 4 dX7_look_59 rfl rfl ?_
          refine ug_icmp_ge 69 dX7_look_60 (by decide) (fun q9 => ?_) (fun q9 => ?_)
          · rw [if_pos q9] at h
            refine ug_sub [(0, .ref (ue_d E 0)), (1, .int x1), (2, .int x2), (3, .int x3), (4, .int x4)] [1, 2, 3, 4, 5] rfl ?_
            exact t_X7_look_b69 (f_X7_look_b18  n) ih m3 x1 x2 x3 x4 _ h
          · rw [if_neg q9] at h
            refine ug_sub [(0, .ref (ue_d E 0)), (1, .int x1), (4, .int x4), (5, .int r4)] [1, 2, 5, 0] rfl ?_
            exact t_X7_look_b63 (f_X7_look_b18  n) ih m3 x1 x4 r4 _ h
def f_X7_look (mem : Um) (x1 : Int32) : Option (Um × (Int32 ⊕ String)) :=
  ubx (f_X7_need mem x1 0 1) (fun m1 r2 => ubi (f_X7_tallyOwners m1) (fun m5 r6 => f_X7_look_b18  UF m5 x1 (-1) (-1) 0))
set_option maxRecDepth 20000 in
theorem t_X7_look {l : Launch} {E : Ue} (mem : Um) (x1 : Int32) (z : Um × (Int32 ⊕ String)) (h : f_X7_look  mem x1 = some z) : ug l E 7 (uzc z) (uzs z) cX7_look 6 RX7 (some .int) [] (uzx_i z) 0 0 0 [(0, .ref (ue_d E 0)), (1, .int x1)] [] mem := by
  rw [f_X7_look] at h
  refine ug_aload_n 0 dX7_look_0 rfl rfl ?_
  refine ug_iload_n 1 dX7_look_1 rfl rfl ?_
  refine ug_iconst dX7_look_2 un_iconst_0 ?_
  refine ug_iconst dX7_look_3 un_iconst_1 ?_
  rcases ubx_some h with ⟨m1, r2, h3, h⟩ | ⟨m1, X4, h3, rfl⟩
  · refine ug_callVv [.int x1, .int 0, .int 1] (c_X7_need_r  h3) kc_X7_102 ro_0 rfl (S := []) rfl (Nat.le_of_ble_eq_true rfl) (Nat.le_of_ble_eq_true rfl) (Nat.le_of_ble_eq_true rfl) dX7_look_4 ?_
    refine ug_aload_n 0 dX7_look_7 rfl rfl ?_
    obtain ⟨m5, r6, h7, h⟩ := ubi_some h
    refine ug_callVv [] (c_X7_tallyOwners  h7) kc_X7_294 ro_0 rfl (S := []) rfl (Nat.le_of_ble_eq_true rfl) (Nat.le_of_ble_eq_true rfl) (Nat.le_of_ble_eq_true rfl) dX7_look_8 ?_
    refine ug_iconst dX7_look_11 un_iconst_m1 ?_
    refine ug_istore_n [(2, .int (-1)), (0, .ref (ue_d E 0)), (1, .int x1)] dX7_look_12 rfl (Nat.le_of_ble_eq_true rfl) rfl ?_
    refine ug_iconst dX7_look_13 un_iconst_m1 ?_
    refine ug_istore_n [(3, .int (-1)), (2, .int (-1)), (0, .ref (ue_d E 0)), (1, .int x1)] dX7_look_14 rfl (Nat.le_of_ble_eq_true rfl) rfl ?_
    refine ug_iconst dX7_look_15 un_iconst_0 ?_
    refine ug_istore [(4, .int 0), (3, .int (-1)), (2, .int (-1)), (0, .ref (ue_d E 0)), (1, .int x1)] dX7_look_16 (Nat.le_of_ble_eq_true rfl) rfl ?_
    refine ug_sub [(0, .ref (ue_d E 0)), (1, .int x1), (2, .int (-1)), (3, .int (-1)), (4, .int 0)] [3, 4, 2, 1, 0] rfl ?_
    exact t_X7_look_b18  UF m5 x1 (-1) (-1) 0 _ h
  · exact ug_callVx [.int x1, .int 0, .int 1] (c_X7_need_x  h3) kc_X7_102 ro_0 rfl (S := []) rfl (Nat.le_of_ble_eq_true rfl) (Nat.le_of_ble_eq_true rfl) (Nat.le_of_ble_eq_true rfl) ⟨Nat.le_refl 1, Nat.le_refl 6⟩ dX7_look_4
theorem c_X7_look_r {l : Launch} {E : Ue} {mem : Um} {x1 : Int32} {m1 : Um} {r : Int32} (h : f_X7_look  mem x1 = some (m1, .inl r)) : ucr l E 7 0 0 yX7_look cX7_look 6 (some .int) [.ref (ue_d E 0), .int x1] mem (some (.int r)) m1 := ucr_of rfl (Nat.le_of_ble_eq_true rfl) (t_X7_look  mem x1 _ h)
theorem c_X7_look_x {l : Launch} {E : Ue} {mem : Um} {x1 : Int32} {m1 : Um} {X : String} (h : f_X7_look  mem x1 = some (m1, .inr X)) : ucx l E 7 1 6 yX7_look cX7_look 6 (some .int) [.ref (ue_d E 0), .int x1] mem X m1 := ucx_of rfl (Nat.le_of_ble_eq_true rfl) (t_X7_look  mem x1 _ h)
-- X7_power
def f_X7_power_b5 : Nat → Um → Int64 → Int32 → Int64 → Int32 → Option (Um × Int64)
  | 0, _, _, _, _, _ => none
  | n + 1, mem, x0, x2, x3, x5 =>
    if x2 ≤ x5 then (some (mem, x3)) else ((f_X7_power_b5  n) mem x0 x2 (x3 * x0) (x5 + 1))
set_option maxRecDepth 20000 in
theorem t_X7_power_b5 {l : Launch} {E : Ue} : ∀ (n : Nat) (mem : Um) (x0 : Int64) (x2 : Int32) (x3 : Int64) (x5 : Int32) (z : Um × Int64), f_X7_power_b5  n mem x0 x2 x3 x5 = some z → ug l E 2 0 0 cX7_power 6 RX7 (some .long) [] (uz_l z) 0 0 5 [(0, .long x0), (2, .int x2), (3, .long x3), (5, .int x5)] [] mem := by
  intro n
  induction n with
  | zero =>
    intro mem x0 x2 x3 x5 z h
    rw [f_X7_power_b5] at h
    cases h
  | succ n ih =>
    intro mem x0 x2 x3 x5 z h
    rw [f_X7_power_b5] at h
    refine ug_iload 3 dX7_power_5 rfl ?_
    refine ug_iload_n 1 dX7_power_7 rfl rfl ?_
    refine ug_icmp_ge 21 dX7_power_8 (by decide) (fun q1 => ?_) (fun q1 => ?_)
    · rw [if_pos q1] at h
      refine ug_lload_n 2 dX7_power_21 rfl rfl ?_
      obtain rfl := Option.some.inj h
      exact ug_lret dX7_power_22
    · rw [if_neg q1] at h
      refine ug_lload_n 2 dX7_power_11 rfl rfl ?_
      refine ug_lload_n 0 dX7_power_12 rfl rfl ?_
      refine ug_lmul dX7_power_13 ?_
      refine ug_lstore_n [(3, .long (x3 * x0)), (0, .long x0), (2, .int x2), (5, .int x5)] dX7_power_14 rfl (Nat.le_of_ble_eq_true rfl) rfl ?_
      refine ug_iinc (v := (x5 + 1)) [(5, .int (x5 + 1)), (3, .long (x3 * x0)), (0, .long x0), (2, .int x2)] 3 dX7_power_15 rfl rfl (Nat.le_of_ble_eq_true rfl) rfl ?_
      refine ug_goto 5 dX7_power_18 (by decide) ?_
      refine ug_sub [(0, .long x0), (2, .int x2), (3, .long (x3 * x0)), (5, .int (x5 + 1))] [2, 3, 1, 0] rfl ?_
      exact ih mem x0 x2 (x3 * x0) (x5 + 1) _ h
def f_X7_power (mem : Um) (x0 : Int64) (x2 : Int32) : Option (Um × Int64) :=
  f_X7_power_b5  UF mem x0 x2 1 0
set_option maxRecDepth 20000 in
theorem t_X7_power {l : Launch} {E : Ue} (mem : Um) (x0 : Int64) (x2 : Int32) (z : Um × Int64) (h : f_X7_power  mem x0 x2 = some z) : ug l E 2 0 0 cX7_power 6 RX7 (some .long) [] (uz_l z) 0 0 0 [(0, .long x0), (2, .int x2)] [] mem := by
  rw [f_X7_power] at h
  refine ug_lconst (v := 1) dX7_power_0 (by decide) ?_
  refine ug_lstore_n [(3, .long 1), (0, .long x0), (2, .int x2)] dX7_power_1 rfl (Nat.le_of_ble_eq_true rfl) rfl ?_
  refine ug_iconst dX7_power_2 un_iconst_0 ?_
  refine ug_istore [(5, .int 0), (3, .long 1), (0, .long x0), (2, .int x2)] dX7_power_3 (Nat.le_of_ble_eq_true rfl) rfl ?_
  refine ug_sub [(0, .long x0), (2, .int x2), (3, .long 1), (5, .int 0)] [2, 3, 1, 0] rfl ?_
  exact t_X7_power_b5  UF mem x0 x2 1 0 _ h
theorem c_X7_power {l : Launch} {E : Ue} {mem : Um} {x0 : Int64} {x2 : Int32} {m1 : Um} {r : Int64} (h : f_X7_power  mem x0 x2 = some (m1, r)) : ucr l E 2 0 0 yX7_power cX7_power 6 (some .long) [.long x0, .int x2] mem (some (.long r)) m1 := ucr_of rfl (Nat.le_of_ble_eq_true rfl) (t_X7_power  mem x0 x2 _ h)
-- X7_stands
def f_X7_stands (mem : Um) (x1 : Int32) (x2 : Int32) (x3 : Int32) : Option (Um × (Int64 ⊕ String)) :=
  ubx (f_X7_need mem x1 0 12) (fun m1 r2 => ubx (f_X7_need m1 x2 0 16) (fun m5 r6 => ubx (f_X7_need m5 x3 0 1) (fun m9 r10 => ubi (f_X7_power m9 ((16 - x2).toInt64) x1) (fun m13 r14 => ubi (f_X7_power m13 16 x1) (fun m16 r17 => ubi (f_X7_leastTerms m16 r14 r17 x3) (fun m19 r20 => some (m19, .inl r20)))))))
set_option maxRecDepth 20000 in
theorem t_X7_stands {l : Launch} {E : Ue} (mem : Um) (x1 : Int32) (x2 : Int32) (x3 : Int32) (z : Um × (Int64 ⊕ String)) (h : f_X7_stands  mem x1 x2 x3 = some z) : ug l E 7 (uzc z) (uzs z) cX7_stands 4 RX7 (some .long) [] (uzx_l z) 0 0 0 [(0, .ref (ue_d E 0)), (1, .int x1), (2, .int x2), (3, .int x3)] [] mem := by
  rw [f_X7_stands] at h
  refine ug_aload_n 0 dX7_stands_0 rfl rfl ?_
  refine ug_iload_n 1 dX7_stands_1 rfl rfl ?_
  refine ug_iconst dX7_stands_2 un_iconst_0 ?_
  refine ug_bipush dX7_stands_3 un_bipush_12 ?_
  rcases ubx_some h with ⟨m1, r2, h3, h⟩ | ⟨m1, X4, h3, rfl⟩
  · refine ug_callVv [.int x1, .int 0, .int 12] (c_X7_need_r  h3) kc_X7_102 ro_0 rfl (S := []) rfl (Nat.le_of_ble_eq_true rfl) (Nat.le_of_ble_eq_true rfl) (Nat.le_of_ble_eq_true rfl) dX7_stands_5 ?_
    refine ug_aload_n 0 dX7_stands_8 rfl rfl ?_
    refine ug_iload_n 2 dX7_stands_9 rfl rfl ?_
    refine ug_iconst dX7_stands_10 un_iconst_0 ?_
    refine ug_bipush dX7_stands_11 un_bipush_16 ?_
    rcases ubx_some h with ⟨m5, r6, h7, h⟩ | ⟨m5, X8, h7, rfl⟩
    · refine ug_callVv [.int x2, .int 0, .int 16] (c_X7_need_r  h7) kc_X7_102 ro_0 rfl (S := []) rfl (Nat.le_of_ble_eq_true rfl) (Nat.le_of_ble_eq_true rfl) (Nat.le_of_ble_eq_true rfl) dX7_stands_13 ?_
      refine ug_aload_n 0 dX7_stands_16 rfl rfl ?_
      refine ug_iload_n 3 dX7_stands_17 rfl rfl ?_
      refine ug_iconst dX7_stands_18 un_iconst_0 ?_
      refine ug_iconst dX7_stands_19 un_iconst_1 ?_
      rcases ubx_some h with ⟨m9, r10, h11, h⟩ | ⟨m9, X12, h11, rfl⟩
      · refine ug_callVv [.int x3, .int 0, .int 1] (c_X7_need_r  h11) kc_X7_102 ro_0 rfl (S := []) rfl (Nat.le_of_ble_eq_true rfl) (Nat.le_of_ble_eq_true rfl) (Nat.le_of_ble_eq_true rfl) dX7_stands_20 ?_
        refine ug_bipush dX7_stands_23 un_bipush_16 ?_
        refine ug_iload_n 2 dX7_stands_25 rfl rfl ?_
        refine ug_isub dX7_stands_26 ?_
        refine ug_i2l dX7_stands_27 ?_
        refine ug_iload_n 1 dX7_stands_28 rfl rfl ?_
        obtain ⟨m13, r14, h15, h⟩ := ubi_some h
        refine ug_callSl [.long (16 - x2).toInt64, .int x1] (c_X7_power  h15) kc_X7_322 rfl (S := []) rfl (Nat.le_of_ble_eq_true rfl) (Nat.le_of_ble_eq_true rfl) (Nat.le_of_ble_eq_true rfl) dX7_stands_29 ?_
        refine ug_ldc2 kk_X7_326 dX7_stands_32 ?_
        refine ug_iload_n 1 dX7_stands_35 rfl rfl ?_
        obtain ⟨m16, r17, h18, h⟩ := ubi_some h
        refine ug_callSl [.long 16, .int x1] (c_X7_power  h18) kc_X7_322 rfl (S := [.long r14]) rfl (Nat.le_of_ble_eq_true rfl) (Nat.le_of_ble_eq_true rfl) (Nat.le_of_ble_eq_true rfl) dX7_stands_36 ?_
        refine ug_iload_n 3 dX7_stands_39 rfl rfl ?_
        obtain ⟨m19, r20, h21, h⟩ := ubi_some h
        refine ug_callSl [.long r14, .long r17, .int x3] (c_X7_leastTerms  h21) kc_X7_247 rfl (S := []) rfl (Nat.le_of_ble_eq_true rfl) (Nat.le_of_ble_eq_true rfl) (Nat.le_of_ble_eq_true rfl) dX7_stands_40 ?_
        obtain rfl := Option.some.inj h
        exact ug_lret dX7_stands_43
      · exact ug_callVx [.int x3, .int 0, .int 1] (c_X7_need_x  h11) kc_X7_102 ro_0 rfl (S := []) rfl (Nat.le_of_ble_eq_true rfl) (Nat.le_of_ble_eq_true rfl) (Nat.le_of_ble_eq_true rfl) ⟨Nat.le_refl 1, Nat.le_refl 6⟩ dX7_stands_20
    · exact ug_callVx [.int x2, .int 0, .int 16] (c_X7_need_x  h7) kc_X7_102 ro_0 rfl (S := []) rfl (Nat.le_of_ble_eq_true rfl) (Nat.le_of_ble_eq_true rfl) (Nat.le_of_ble_eq_true rfl) ⟨Nat.le_refl 1, Nat.le_refl 6⟩ dX7_stands_13
  · exact ug_callVx [.int x1, .int 0, .int 12] (c_X7_need_x  h3) kc_X7_102 ro_0 rfl (S := []) rfl (Nat.le_of_ble_eq_true rfl) (Nat.le_of_ble_eq_true rfl) (Nat.le_of_ble_eq_true rfl) ⟨Nat.le_refl 1, Nat.le_refl 6⟩ dX7_stands_5
theorem c_X7_stands_r {l : Launch} {E : Ue} {mem : Um} {x1 : Int32} {x2 : Int32} {x3 : Int32} {m1 : Um} {r : Int64} (h : f_X7_stands  mem x1 x2 x3 = some (m1, .inl r)) : ucr l E 7 0 0 yX7_stands cX7_stands 4 (some .long) [.ref (ue_d E 0), .int x1, .int x2, .int x3] mem (some (.long r)) m1 := ucr_of rfl (Nat.le_of_ble_eq_true rfl) (t_X7_stands  mem x1 x2 x3 _ h)
theorem c_X7_stands_x {l : Launch} {E : Ue} {mem : Um} {x1 : Int32} {x2 : Int32} {x3 : Int32} {m1 : Um} {X : String} (h : f_X7_stands  mem x1 x2 x3 = some (m1, .inr X)) : ucx l E 7 1 6 yX7_stands cX7_stands 4 (some .long) [.ref (ue_d E 0), .int x1, .int x2, .int x3] mem X m1 := ucx_of rfl (Nat.le_of_ble_eq_true rfl) (t_X7_stands  mem x1 x2 x3 _ h)
-- X7_mean
def f_X7_mean_b29 : Nat → Um → Int32 → Int32 → Int32 → Int64 → Int32 → Option (Um × (Int64 ⊕ String))
  | 0, _, _, _, _, _, _ => none
  | n + 1, mem, x1, x2, x3, x4, x6 =>
    if x1 < x6 then (ubi (f_X7_power mem 16 x1) (fun m2 r3 => ubi (f_X7_leastTerms m2 x4 r3 x3) (fun m5 r6 => some (m5, .inl r6)))) else (ubi (f_X7_power mem ((16 - x2).toInt64) x6) (fun m8 r9 => ubi (f_X7_power m8 16 (x1 - x6)) (fun m11 r12 => (f_X7_mean_b29  n) m11 x1 x2 x3 (x4 + (r9 * r12)) (x6 + 1))))
set_option maxRecDepth 20000 in
theorem t_X7_mean_b29 {l : Launch} {E : Ue} : ∀ (n : Nat) (mem : Um) (x1 : Int32) (x2 : Int32) (x3 : Int32) (x4 : Int64) (x6 : Int32) (z : Um × (Int64 ⊕ String)), f_X7_mean_b29  n mem x1 x2 x3 x4 x6 = some z → ug l E 7 (uzc z) (uzs z) cX7_mean 7 RX7 (some .long) [] (uzx_l z) 0 0 29 [(1, .int x1), (2, .int x2), (3, .int x3), (4, .long x4), (6, .int x6)] [] mem := by
  intro n
  induction n with
  | zero =>
    intro mem x1 x2 x3 x4 x6 z h
    rw [f_X7_mean_b29] at h
    cases h
  | succ n ih =>
    intro mem x1 x2 x3 x4 x6 z h
    rw [f_X7_mean_b29] at h
    refine ug_iload 4 dX7_mean_29 rfl ?_
    refine ug_iload_n 0 dX7_mean_31 rfl rfl ?_
    refine ug_icmp_gt 67 dX7_mean_32 (by decide) (fun q1 => ?_) (fun q1 => ?_)
    · rw [if_pos q1] at h
      refine ug_lload 3 dX7_mean_67 rfl ?_
      refine ug_ldc2 kk_X7_326 dX7_mean_69 ?_
      refine ug_iload_n 0 dX7_mean_72 rfl rfl ?_
      obtain ⟨m2, r3, h4, h⟩ := ubi_some h
      refine ug_callSl [.long 16, .int x1] (c_X7_power  h4) kc_X7_322 rfl (S := [.long x4]) rfl (Nat.le_of_ble_eq_true rfl) (Nat.le_of_ble_eq_true rfl) (Nat.le_of_ble_eq_true rfl) dX7_mean_73 ?_
      refine ug_iload_n 2 dX7_mean_76 rfl rfl ?_
      obtain ⟨m5, r6, h7, h⟩ := ubi_some h
      refine ug_callSl [.long x4, .long r3, .int x3] (c_X7_leastTerms  h7) kc_X7_247 rfl (S := []) rfl (Nat.le_of_ble_eq_true rfl) (Nat.le_of_ble_eq_true rfl) (Nat.le_of_ble_eq_true rfl) dX7_mean_77 ?_
      obtain rfl := Option.some.inj h
      exact ug_lret dX7_mean_80
    · rw [if_neg q1] at h
      refine ug_lload 3 dX7_mean_35 rfl ?_
      refine ug_bipush dX7_mean_37 un_bipush_16 ?_
      refine ug_iload_n 1 dX7_mean_39 rfl rfl ?_
      refine ug_isub dX7_mean_40 ?_
      refine ug_i2l dX7_mean_41 ?_
      refine ug_iload 4 dX7_mean_42 rfl ?_
      obtain ⟨m8, r9, h10, h⟩ := ubi_some h
      refine ug_callSl [.long (16 - x2).toInt64, .int x6] (c_X7_power  h10) kc_X7_322 rfl (S := [.long x4]) rfl (Nat.le_of_ble_eq_true rfl) (Nat.le_of_ble_eq_true rfl) (Nat.le_of_ble_eq_true rfl) dX7_mean_44 ?_
      refine ug_ldc2 kk_X7_326 dX7_mean_47 ?_
      refine ug_iload_n 0 dX7_mean_50 rfl rfl ?_
      refine ug_iload 4 dX7_mean_51 rfl ?_
      refine ug_isub dX7_mean_53 ?_
      obtain ⟨m11, r12, h13, h⟩ := ubi_some h
      refine ug_callSl [.long 16, .int (x1 - x6)] (c_X7_power  h13) kc_X7_322 rfl (S := [.long r9, .long x4]) rfl (Nat.le_of_ble_eq_true rfl) (Nat.le_of_ble_eq_true rfl) (Nat.le_of_ble_eq_true rfl) dX7_mean_54 ?_
      refine ug_lmul dX7_mean_57 ?_
      refine ug_ladd dX7_mean_58 ?_
      refine ug_lstore [(4, .long (x4 + (r9 * r12))), (1, .int x1), (2, .int x2), (3, .int x3), (6, .int x6)] dX7_mean_59 (Nat.le_of_ble_eq_true rfl) rfl ?_
      refine ug_iinc (v := (x6 + 1)) [(6, .int (x6 + 1)), (4, .long (x4 + (r9 * r12))), (1, .int x1), (2, .int x2), (3, .int x3)] 4 dX7_mean_61 rfl rfl (Nat.le_of_ble_eq_true rfl) rfl ?_
      refine ug_goto 29 dX7_mean_64 (by decide) ?_
      refine ug_sub [(1, .int x1), (2, .int x2), (3, .int x3), (4, .long (x4 + (r9 * r12))), (6, .int (x6 + 1))] [2, 3, 4, 1, 0] rfl ?_
      exact ih m11 x1 x2 x3 (x4 + (r9 * r12)) (x6 + 1) _ h
def f_X7_mean (mem : Um) (x1 : Int32) (x2 : Int32) (x3 : Int32) : Option (Um × (Int64 ⊕ String)) :=
  ubx (f_X7_need mem x1 0 12) (fun m1 r2 => ubx (f_X7_need m1 x2 0 16) (fun m5 r6 => ubx (f_X7_need m5 x3 0 1) (fun m9 r10 => f_X7_mean_b29  UF m9 x1 x2 x3 0 1)))
set_option maxRecDepth 20000 in
theorem t_X7_mean {l : Launch} {E : Ue} (mem : Um) (x1 : Int32) (x2 : Int32) (x3 : Int32) (z : Um × (Int64 ⊕ String)) (h : f_X7_mean  mem x1 x2 x3 = some z) : ug l E 7 (uzc z) (uzs z) cX7_mean 7 RX7 (some .long) [] (uzx_l z) 0 0 0 [(0, .ref (ue_d E 0)), (1, .int x1), (2, .int x2), (3, .int x3)] [] mem := by
  rw [f_X7_mean] at h
  refine ug_aload_n 0 dX7_mean_0 rfl rfl ?_
  refine ug_iload_n 1 dX7_mean_1 rfl rfl ?_
  refine ug_iconst dX7_mean_2 un_iconst_0 ?_
  refine ug_bipush dX7_mean_3 un_bipush_12 ?_
  rcases ubx_some h with ⟨m1, r2, h3, h⟩ | ⟨m1, X4, h3, rfl⟩
  · refine ug_callVv [.int x1, .int 0, .int 12] (c_X7_need_r  h3) kc_X7_102 ro_0 rfl (S := []) rfl (Nat.le_of_ble_eq_true rfl) (Nat.le_of_ble_eq_true rfl) (Nat.le_of_ble_eq_true rfl) dX7_mean_5 ?_
    refine ug_aload_n 0 dX7_mean_8 rfl rfl ?_
    refine ug_iload_n 2 dX7_mean_9 rfl rfl ?_
    refine ug_iconst dX7_mean_10 un_iconst_0 ?_
    refine ug_bipush dX7_mean_11 un_bipush_16 ?_
    rcases ubx_some h with ⟨m5, r6, h7, h⟩ | ⟨m5, X8, h7, rfl⟩
    · refine ug_callVv [.int x2, .int 0, .int 16] (c_X7_need_r  h7) kc_X7_102 ro_0 rfl (S := []) rfl (Nat.le_of_ble_eq_true rfl) (Nat.le_of_ble_eq_true rfl) (Nat.le_of_ble_eq_true rfl) dX7_mean_13 ?_
      refine ug_aload_n 0 dX7_mean_16 rfl rfl ?_
      refine ug_iload_n 3 dX7_mean_17 rfl rfl ?_
      refine ug_iconst dX7_mean_18 un_iconst_0 ?_
      refine ug_iconst dX7_mean_19 un_iconst_1 ?_
      rcases ubx_some h with ⟨m9, r10, h11, h⟩ | ⟨m9, X12, h11, rfl⟩
      · refine ug_callVv [.int x3, .int 0, .int 1] (c_X7_need_r  h11) kc_X7_102 ro_0 rfl (S := []) rfl (Nat.le_of_ble_eq_true rfl) (Nat.le_of_ble_eq_true rfl) (Nat.le_of_ble_eq_true rfl) dX7_mean_20 ?_
        refine ug_lconst (v := 0) dX7_mean_23 (by decide) ?_
        refine ug_lstore [(4, .long 0), (0, .ref (ue_d E 0)), (1, .int x1), (2, .int x2), (3, .int x3)] dX7_mean_24 (Nat.le_of_ble_eq_true rfl) rfl ?_
        refine ug_iconst dX7_mean_26 un_iconst_1 ?_
        refine ug_istore [(6, .int 1), (4, .long 0), (0, .ref (ue_d E 0)), (1, .int x1), (2, .int x2), (3, .int x3)] dX7_mean_27 (Nat.le_of_ble_eq_true rfl) rfl ?_
        refine ug_sub [(1, .int x1), (2, .int x2), (3, .int x3), (4, .long 0), (6, .int 1)] [3, 4, 5, 1, 0] rfl ?_
        exact t_X7_mean_b29  UF m9 x1 x2 x3 0 1 _ h
      · exact ug_callVx [.int x3, .int 0, .int 1] (c_X7_need_x  h11) kc_X7_102 ro_0 rfl (S := []) rfl (Nat.le_of_ble_eq_true rfl) (Nat.le_of_ble_eq_true rfl) (Nat.le_of_ble_eq_true rfl) ⟨Nat.le_refl 1, Nat.le_refl 6⟩ dX7_mean_20
    · exact ug_callVx [.int x2, .int 0, .int 16] (c_X7_need_x  h7) kc_X7_102 ro_0 rfl (S := []) rfl (Nat.le_of_ble_eq_true rfl) (Nat.le_of_ble_eq_true rfl) (Nat.le_of_ble_eq_true rfl) ⟨Nat.le_refl 1, Nat.le_refl 6⟩ dX7_mean_13
  · exact ug_callVx [.int x1, .int 0, .int 12] (c_X7_need_x  h3) kc_X7_102 ro_0 rfl (S := []) rfl (Nat.le_of_ble_eq_true rfl) (Nat.le_of_ble_eq_true rfl) (Nat.le_of_ble_eq_true rfl) ⟨Nat.le_refl 1, Nat.le_refl 6⟩ dX7_mean_5
theorem c_X7_mean_r {l : Launch} {E : Ue} {mem : Um} {x1 : Int32} {x2 : Int32} {x3 : Int32} {m1 : Um} {r : Int64} (h : f_X7_mean  mem x1 x2 x3 = some (m1, .inl r)) : ucr l E 7 0 0 yX7_mean cX7_mean 7 (some .long) [.ref (ue_d E 0), .int x1, .int x2, .int x3] mem (some (.long r)) m1 := ucr_of rfl (Nat.le_of_ble_eq_true rfl) (t_X7_mean  mem x1 x2 x3 _ h)
theorem c_X7_mean_x {l : Launch} {E : Ue} {mem : Um} {x1 : Int32} {x2 : Int32} {x3 : Int32} {m1 : Um} {X : String} (h : f_X7_mean  mem x1 x2 x3 = some (m1, .inr X)) : ucx l E 7 1 6 yX7_mean cX7_mean 7 (some .long) [.ref (ue_d E 0), .int x1, .int x2, .int x3] mem X m1 := ucx_of rfl (Nat.le_of_ble_eq_true rfl) (t_X7_mean  mem x1 x2 x3 _ h)
