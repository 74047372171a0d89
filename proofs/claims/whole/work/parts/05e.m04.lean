-- X2_uses
def f_X2_uses_b17 (mem : Um) (y0 : Int32) : Option (Um × Int32) :=
  ugd (ub01 y0) (some (mem, y0))
set_option maxRecDepth 20000 in
theorem t_X2_uses_b17 {l : Launch} {E : Ue} (mem : Um) (y0 : Int32) (z : Um × Int32) (h : f_X2_uses_b17  mem y0 = some z) : ug l E 2 0 0 cX2_uses 2 RX2 (some .boolean) [] (uz_i z) 0 0 17 [] [.int y0] mem := by
  rw [f_X2_uses_b17] at h
  obtain ⟨g1, h⟩ := ugd_some h
  obtain rfl := Option.some.inj h
  exact ug_zret (of_decide_eq_true g1) dX2_uses_17
def f_X2_uses (mem : Um) (x1 : Int32) : Option (Um × Int32) :=
  if (((mem 13 5) >>> (x1 &&& 31)) &&& 1) = 1 then (f_X2_uses_b17 mem 1) else (f_X2_uses_b17 mem 0)
set_option maxRecDepth 20000 in
theorem t_X2_uses {l : Launch} {E : Ue} (mem : Um) (x1 : Int32) (z : Um × Int32) (h : f_X2_uses  mem x1 = some z) : ug l E 2 0 0 cX2_uses 2 RX2 (some .boolean) [] (uz_i z) 0 0 0 [(0, .ref (ue_d E 13)), (1, .int x1)] [] mem := by
  rw [f_X2_uses] at h
  refine ug_aload_n 0 dX2_uses_0 rfl rfl ?_
  refine ug_getI kf_X2_28 gi_13_5 dX2_uses_1 ?_
  refine ug_iload_n 1 dX2_uses_4 rfl rfl ?_
  refine ug_ishr dX2_uses_5 ?_
  refine ug_iconst dX2_uses_6 un_iconst_1 ?_
  refine ug_iand dX2_uses_7 ?_
  refine ug_iconst dX2_uses_8 un_iconst_1 ?_
  refine ug_icmp_ne 16 dX2_uses_9 (by decide) (fun q1 => ?_) (fun q1 => ?_)
  · rw [if_neg q1] at h
    refine ug_iconst dX2_uses_16 un_iconst_0 ?_
    refine ug_sub [] [] rfl ?_
    exact t_X2_uses_b17 mem 0 _ h
  · rw [if_pos q1] at h
    refine ug_iconst dX2_uses_12 un_iconst_1 ?_
    refine ug_goto 17 dX2_uses_13 (by decide) ?_
    refine ug_sub [] [] rfl ?_
    exact t_X2_uses_b17 mem 1 _ h
theorem c_X2_uses {l : Launch} {E : Ue} {mem : Um} {x1 : Int32} {m1 : Um} {r : Int32} (h : f_X2_uses  mem x1 = some (m1, r)) : ucr l E 2 0 0 yX2_uses cX2_uses 2 (some .boolean) [.ref (ue_d E 13), .int x1] mem (some (.int r)) m1 := ucr_of rfl (Nat.le_of_ble_eq_true rfl) (t_X2_uses  mem x1 _ h)
-- X4_overlapOf
def f_X4_overlapOf (o : Nat) (mem : Um) (x1 : Int32) (x2 : Int32) : Option (Um × Int32) :=
  ugd (uin (13 + x1) 28) (ugd (uin (13 + x2) 28) (ugd (uin (18 + x1) 28) (ugd (uin (18 + x2) 28) (some (mem, (((mem (o + 1) (13 + x1).toNatClampNeg) + (mem (o + 1) (13 + x2).toNatClampNeg)) - (umabs ((mem (o + 1) (18 + x1).toNatClampNeg) - (mem (o + 1) (18 + x2).toNatClampNeg)))))))))
set_option maxRecDepth 20000 in
theorem t_X4_overlapOf {l : Launch} {E : Ue} {o : Nat} (ho : o = 23 ∨ o = 25) (mem : Um) (x1 : Int32) (x2 : Int32) (z : Um × Int32) (h : f_X4_overlapOf o mem x1 x2 = some z) : ug l E 2 0 0 cX4_overlapOf 3 RX4 (some .int) [] (uz_i z) 0 0 0 [(0, .ref (ue_d E o)), (1, .int x1), (2, .int x2)] [] mem := by
  rw [f_X4_overlapOf] at h
  refine ug_aload_n 0 dX4_overlapOf_0 rfl rfl ?_
  refine ug_getR kf_X4_11 (sk_r2 ho) dX4_overlapOf_1 ?_
  refine ug_bipush dX4_overlapOf_4 un_bipush_13 ?_
  refine ug_iload_n 1 dX4_overlapOf_6 rfl rfl ?_
  refine ug_iadd dX4_overlapOf_7 ?_
  obtain ⟨g1, h⟩ := ugd_some h
  refine ug_iald (sk_a ho) (uin_ok g1) dX4_overlapOf_8 ?_
  refine ug_aload_n 0 dX4_overlapOf_9 rfl rfl ?_
  refine ug_getR kf_X4_11 (sk_r2 ho) dX4_overlapOf_10 ?_
  refine ug_bipush dX4_overlapOf_13 un_bipush_13 ?_
  refine ug_iload_n 2 dX4_overlapOf_15 rfl rfl ?_
  refine ug_iadd dX4_overlapOf_16 ?_
  obtain ⟨g2, h⟩ := ugd_some h
  refine ug_iald (sk_a ho) (uin_ok g2) dX4_overlapOf_17 ?_
  refine ug_iadd dX4_overlapOf_18 ?_
  refine ug_aload_n 0 dX4_overlapOf_19 rfl rfl ?_
  refine ug_getR kf_X4_11 (sk_r2 ho) dX4_overlapOf_20 ?_
  refine ug_bipush dX4_overlapOf_23 un_bipush_18 ?_
  refine ug_iload_n 1 dX4_overlapOf_25 rfl rfl ?_
  refine ug_iadd dX4_overlapOf_26 ?_
  obtain ⟨g3, h⟩ := ugd_some h
  refine ug_iald (sk_a ho) (uin_ok g3) dX4_overlapOf_27 ?_
  refine ug_aload_n 0 dX4_overlapOf_28 rfl rfl ?_
  refine ug_getR kf_X4_11 (sk_r2 ho) dX4_overlapOf_29 ?_
  refine ug_bipush dX4_overlapOf_32 un_bipush_18 ?_
  refine ug_iload_n 2 dX4_overlapOf_34 rfl rfl ?_
  refine ug_iadd dX4_overlapOf_35 ?_
  obtain ⟨g4, h⟩ := ugd_some h
  refine ug_iald (sk_a ho) (uin_ok g4) dX4_overlapOf_36 ?_
  refine ug_isub dX4_overlapOf_37 ?_
  refine ug_mabs kl_X4_54 (Nat.le_of_ble_eq_true rfl) (Nat.le_of_ble_eq_true rfl) dX4_overlapOf_38 ?_
  refine ug_isub dX4_overlapOf_41 ?_
  obtain rfl := Option.some.inj h
  exact ug_iret dX4_overlapOf_42
theorem c_X4_overlapOf {l : Launch} {E : Ue} {o : Nat} (ho : o = 23 ∨ o = 25) {mem : Um} {x1 : Int32} {x2 : Int32} {m1 : Um} {r : Int32} (h : f_X4_overlapOf o mem x1 x2 = some (m1, r)) : ucr l E 2 0 0 yX4_overlapOf cX4_overlapOf 3 (some .int) [.ref (ue_d E o), .int x1, .int x2] mem (some (.int r)) m1 := ucr_of rfl (Nat.le_of_ble_eq_true rfl) (t_X4_overlapOf ho mem x1 x2 _ h)
-- X4_touching
def f_X4_touching_b45 (o : Nat) (k4 : Um → Int32 → Int32 → Int32 → Option (Um × Int32)) (mem : Um) (x1 : Int32) (x2 : Int32) (x3 : Int32) : Option (Um × Int32) :=
  k4 mem x1 x2 (x3 + 1)
set_option maxRecDepth 20000 in
theorem t_X4_touching_b45 {l : Launch} {E : Ue} {o : Nat} (ho : o = 23 ∨ o = 25) (k4 : Um → Int32 → Int32 → Int32 → Option (Um × Int32)) (hk4 : ∀ (mem : Um) (x1 : Int32) (x2 : Int32) (x3 : Int32) (z : Um × Int32), k4 mem x1 x2 x3 = some z → ug l E 3 0 0 cX4_touching 4 RX4 (some .int) [] (uz_i z) 0 0 4 [(0, .ref (ue_d E o)), (1, .int x1), (2, .int x2), (3, .int x3)] [] mem) (mem : Um) (x1 : Int32) (x2 : Int32) (x3 : Int32) (z : Um × Int32) (h : f_X4_touching_b45 o k4 mem x1 x2 x3 = some z) : ug l E 3 0 0 cX4_touching 4 RX4 (some .int) [] (uz_i z) 0 0 45 [(0, .ref (ue_d E o)), (1, .int x1), (2, .int x2), (3, .int x3)] [] mem := by
  rw [f_X4_touching_b45] at h
  refine ug_iinc (v := (x3 + 1)) [(3, .int (x3 + 1)), (0, .ref (ue_d E o)), (1, .int x1), (2, .int x2)] 3 dX4_touching_45 rfl rfl (Nat.le_of_ble_eq_true rfl) rfl ?_
  refine ug_goto 4 dX4_touching_48 (by decide) ?_
  refine ug_sub [(0, .ref (ue_d E o)), (1, .int x1), (2, .int x2), (3, .int (x3 + 1))] [1, 2, 3, 0] rfl ?_
  exact hk4 mem x1 x2 (x3 + 1) _ h
def f_X4_touching_b4 (o : Nat) : Nat → Um → Int32 → Int32 → Int32 → Option (Um × Int32)
  | 0, _, _, _, _ => none
  | n + 1, mem, x1, x2, x3 =>
    if 5 ≤ x3 then (some (mem, x2)) else (if x3 = x1 then (f_X4_touching_b45 o (f_X4_touching_b4 o n) mem x1 x2 x3) else (ubi (f_X4_has o mem x3) (fun m3 r4 => if r4 = 0 then (f_X4_touching_b45 o (f_X4_touching_b4 o n) m3 x1 x2 x3) else (ubi (f_X4_has o m3 x1) (fun m7 r8 => if r8 = 0 then (f_X4_touching_b45 o (f_X4_touching_b4 o n) m7 x1 x2 x3) else (ubi (f_X4_overlapOf o m7 x1 x3) (fun m11 r12 => if r12 < 0 then (f_X4_touching_b45 o (f_X4_touching_b4 o n) m11 x1 x2 x3) else (f_X4_touching_b45 o (f_X4_touching_b4 o n) m11 x1 (x2 ||| (1 <<< (x3 &&& 31))) x3))))))))
set_option maxRecDepth 20000 in
theorem t_X4_touching_b4 {l : Launch} {E : Ue} {o : Nat} (ho : o = 23 ∨ o = 25) : ∀ (n : Nat) (mem : Um) (x1 : Int32) (x2 : Int32) (x3 : Int32) (z : Um × Int32), f_X4_touching_b4 o n mem x1 x2 x3 = some z → ug l E 3 0 0 cX4_touching 4 RX4 (some .int) [] (uz_i z) 0 0 4 [(0, .ref (ue_d E o)), (1, .int x1), (2, .int x2), (3, .int x3)] [] mem := by
  intro n
  induction n with
  | zero =>
    intro mem x1 x2 x3 z h
    rw [f_X4_touching_b4] at h
    cases h
  | succ n ih =>
    intro mem x1 x2 x3 z h
    rw [f_X4_touching_b4] at h
    refine ug_iload_n 3 dX4_touching_4 rfl rfl ?_
    refine ug_iconst dX4_touching_5 un_iconst_5 ?_
    refine ug_icmp_ge 51 dX4_touching_6 (by decide) (fun q1 => ?_) (fun q1 => ?_)
    · rw [if_pos q1] at h
      refine ug_iload_n 2 dX4_touching_51 rfl rfl ?_
      obtain rfl := Option.some.inj h
      exact ug_iret dX4_touching_52
    · rw [if_neg q1] at h
      refine ug_iload_n 3 dX4_touching_9 rfl rfl ?_
      refine ug_iload_n 1 dX4_touching_10 rfl rfl ?_
      refine ug_icmp_eq 45 dX4_touching_11 (by decide) (fun q2 => ?_) (fun q2 => ?_)
      · rw [if_pos q2] at h
        exact t_X4_touching_b45 ho (f_X4_touching_b4 o n) ih mem x1 x2 x3 _ h
      · rw [if_neg q2] at h
        refine ug_aload_n 0 dX4_touching_14 rfl rfl ?_
        refine ug_iload_n 3 dX4_touching_15 rfl rfl ?_
        obtain ⟨m3, r4, h5, h⟩ := ubi_some h
        refine ug_callVi [.int x3] (c_X4_has ho h5) kc_X4_47 (sk_o ho) rfl (S := []) rfl (Nat.le_of_ble_eq_true rfl) (Nat.le_of_ble_eq_true rfl) (Nat.le_of_ble_eq_true rfl) dX4_touching_16 ?_
        refine ug_if_eq 45 dX4_touching_19 (by decide) (fun q6 => ?_) (fun q6 => ?_)
        · rw [if_pos q6] at h
          exact t_X4_touching_b45 ho (f_X4_touching_b4 o n) ih m3 x1 x2 x3 _ h
        · rw [if_neg q6] at h
          refine ug_aload_n 0 dX4_touching_22 rfl rfl ?_
          refine ug_iload_n 1 dX4_touching_23 rfl rfl ?_
          obtain ⟨m7, r8, h9, h⟩ := ubi_some h
          refine ug_callVi [.int x1] (c_X4_has ho h9) kc_X4_47 (sk_o ho) rfl (S := []) rfl (Nat.le_of_ble_eq_true rfl) (Nat.le_of_ble_eq_true rfl) (Nat.le_of_ble_eq_true rfl) dX4_touching_24 ?_
          refine ug_if_eq 45 dX4_touching_27 (by decide) (fun q10 => ?_) (fun q10 => ?_)
          · rw [if_pos q10] at h
            exact t_X4_touching_b45 ho (f_X4_touching_b4 o n) ih m7 x1 x2 x3 _ h
          · rw [if_neg q10] at h
            refine ug_aload_n 0 dX4_touching_30 rfl rfl ?_
            refine ug_iload_n 1 dX4_touching_31 rfl rfl ?_
            refine ug_iload_n 3 dX4_touching_32 rfl rfl ?_
            obtain ⟨m11, r12, h13, h⟩ := ubi_some h
            refine ug_callVi [.int x1, .int x3] (c_X4_overlapOf ho h13) kc_X4_77 (sk_o ho) rfl (S := []) rfl (Nat.le_of_ble_eq_true rfl) (Nat.le_of_ble_eq_true rfl) (Nat.le_of_ble_eq_true rfl) dX4_touching_33 ?_
            refine ug_if_lt 45 dX4_touching_36 (by decide) (fun q14 => ?_) (fun q14 => ?_)
            · rw [if_pos q14] at h
              exact t_X4_touching_b45 ho (f_X4_touching_b4 o n) ih m11 x1 x2 x3 _ h
            · rw [if_neg q14] at h
              refine ug_iload_n 2 dX4_touching_39 rfl rfl ?_
              refine ug_iconst dX4_touching_40 un_iconst_1 ?_
              refine ug_iload_n 3 dX4_touching_41 rfl rfl ?_
              refine ug_ishl dX4_touching_42 ?_
              refine ug_ior dX4_touching_43 ?_
              refine ug_istore_n [(2, .int (x2 ||| (1 <<< (x3 &&& 31)))), (0, .ref (ue_d E o)), (1, .int x1), (3, .int x3)] dX4_touching_44 rfl (Nat.le_of_ble_eq_true rfl) rfl ?_
              refine ug_sub [(0, .ref (ue_d E o)), (1, .int x1), (2, .int (x2 ||| (1 <<< (x3 &&& 31)))), (3, .int x3)] [1, 2, 0, 3] rfl ?_
              exact t_X4_touching_b45 ho (f_X4_touching_b4 o n) ih m11 x1 (x2 ||| (1 <<< (x3 &&& 31))) x3 _ h
def f_X4_touching (o : Nat) (mem : Um) (x1 : Int32) : Option (Um × Int32) :=
  f_X4_touching_b4 o UF mem x1 0 0
set_option maxRecDepth 20000 in
theorem t_X4_touching {l : Launch} {E : Ue} {o : Nat} (ho : o = 23 ∨ o = 25) (mem : Um) (x1 : Int32) (z : Um × Int32) (h : f_X4_touching o mem x1 = some z) : ug l E 3 0 0 cX4_touching 4 RX4 (some .int) [] (uz_i z) 0 0 0 [(0, .ref (ue_d E o)), (1, .int x1)] [] mem := by
  rw [f_X4_touching] at h
  refine ug_iconst dX4_touching_0 un_iconst_0 ?_
  refine ug_istore_n [(2, .int 0), (0, .ref (ue_d E o)), (1, .int x1)] dX4_touching_1 rfl (Nat.le_of_ble_eq_true rfl) rfl ?_
  refine ug_iconst dX4_touching_2 un_iconst_0 ?_
  refine ug_istore_n [(3, .int 0), (2, .int 0), (0, .ref (ue_d E o)), (1, .int x1)] dX4_touching_3 rfl (Nat.le_of_ble_eq_true rfl) rfl ?_
  refine ug_sub [(0, .ref (ue_d E o)), (1, .int x1), (2, .int 0), (3, .int 0)] [2, 3, 1, 0] rfl ?_
  exact t_X4_touching_b4 ho UF mem x1 0 0 _ h
theorem c_X4_touching {l : Launch} {E : Ue} {o : Nat} (ho : o = 23 ∨ o = 25) {mem : Um} {x1 : Int32} {m1 : Um} {r : Int32} (h : f_X4_touching o mem x1 = some (m1, r)) : ucr l E 3 0 0 yX4_touching cX4_touching 4 (some .int) [.ref (ue_d E o), .int x1] mem (some (.int r)) m1 := ucr_of rfl (Nat.le_of_ble_eq_true rfl) (t_X4_touching ho mem x1 _ h)
-- J6_bitCount_0f7a4
def f_J6_bitCount_0f7a4 (mem : Um) (x0 : Int32) : Option (Um × Int32) :=
  some (mem, ((((((((x0 - ((uus x0 1) &&& 1431655765)) &&& 858993459) + ((uus (x0 - ((uus x0 1) &&& 1431655765)) 2) &&& 858993459)) + (uus (((x0 - ((uus x0 1) &&& 1431655765)) &&& 858993459) + ((uus (x0 - ((uus x0 1) &&& 1431655765)) 2) &&& 858993459)) 4)) &&& 252645135) + (uus (((((x0 - ((uus x0 1) &&& 1431655765)) &&& 858993459) + ((uus (x0 - ((uus x0 1) &&& 1431655765)) 2) &&& 858993459)) + (uus (((x0 - ((uus x0 1) &&& 1431655765)) &&& 858993459) + ((uus (x0 - ((uus x0 1) &&& 1431655765)) 2) &&& 858993459)) 4)) &&& 252645135) 8)) + (uus ((((((x0 - ((uus x0 1) &&& 1431655765)) &&& 858993459) + ((uus (x0 - ((uus x0 1) &&& 1431655765)) 2) &&& 858993459)) + (uus (((x0 - ((uus x0 1) &&& 1431655765)) &&& 858993459) + ((uus (x0 - ((uus x0 1) &&& 1431655765)) 2) &&& 858993459)) 4)) &&& 252645135) + (uus (((((x0 - ((uus x0 1) &&& 1431655765)) &&& 858993459) + ((uus (x0 - ((uus x0 1) &&& 1431655765)) 2) &&& 858993459)) + (uus (((x0 - ((uus x0 1) &&& 1431655765)) &&& 858993459) + ((uus (x0 - ((uus x0 1) &&& 1431655765)) 2) &&& 858993459)) 4)) &&& 252645135) 8)) 16)) &&& 63))
set_option maxRecDepth 20000 in
theorem t_J6_bitCount_0f7a4 {l : Launch} {E : Ue} (mem : Um) (x0 : Int32) (z : Um × Int32) (h : f_J6_bitCount_0f7a4  mem x0 = some z) : ug l E 2 0 0 cJ6_bitCount_0f7a4 1 RJ6 (some .int) [] (uz_i z) 0 0 0 [(0, .int x0)] [] mem := by
  rw [f_J6_bitCount_0f7a4] at h
  refine ug_iload_n 0 dJ6_bitCount_0f7a4_0 rfl rfl ?_
  refine ug_iload_n 0 dJ6_bitCount_0f7a4_1 rfl rfl ?_
  refine ug_iconst dJ6_bitCount_0f7a4_2 un_iconst_1 ?_
  refine ug_iushr dJ6_bitCount_0f7a4_3 ?_
  refine ug_ldcw kk_J6_265 dJ6_bitCount_0f7a4_4 ?_
  refine ug_iand dJ6_bitCount_0f7a4_7 ?_
  refine ug_isub dJ6_bitCount_0f7a4_8 ?_
  refine ug_istore_n [(0, .int (x0 - ((uus x0 1) &&& 1431655765)))] dJ6_bitCount_0f7a4_9 rfl (Nat.le_of_ble_eq_true rfl) rfl ?_
  refine ug_iload_n 0 dJ6_bitCount_0f7a4_10 rfl rfl ?_
  refine ug_ldcw kk_J6_266 dJ6_bitCount_0f7a4_11 ?_
  refine ug_iand dJ6_bitCount_0f7a4_14 ?_
  refine ug_iload_n 0 dJ6_bitCount_0f7a4_15 rfl rfl ?_
  refine ug_iconst dJ6_bitCount_0f7a4_16 un_iconst_2 ?_
  refine ug_iushr dJ6_bitCount_0f7a4_17 ?_
  refine ug_ldcw kk_J6_266 dJ6_bitCount_0f7a4_18 ?_
  refine ug_iand dJ6_bitCount_0f7a4_21 ?_
  refine ug_iadd dJ6_bitCount_0f7a4_22 ?_
  refine ug_istore_n [(0, .int (((x0 - ((uus x0 1) &&& 1431655765)) &&& 858993459) + ((uus (x0 - ((uus x0 1) &&& 1431655765)) 2) &&& 858993459)))] dJ6_bitCount_0f7a4_23 rfl (Nat.le_of_ble_eq_true rfl) rfl ?_
  refine ug_iload_n 0 dJ6_bitCount_0f7a4_24 rfl rfl ?_
  refine ug_iload_n 0 dJ6_bitCount_0f7a4_25 rfl rfl ?_
  refine ug_iconst dJ6_bitCount_0f7a4_26 un_iconst_4 ?_
  refine ug_iushr dJ6_bitCount_0f7a4_27 ?_
  refine ug_iadd dJ6_bitCount_0f7a4_28 ?_
  refine ug_ldcw kk_J6_267 dJ6_bitCount_0f7a4_29 ?_
  refine ug_iand dJ6_bitCount_0f7a4_32 ?_
  refine ug_istore_n [(0, .int (((((x0 - ((uus x0 1) &&& 1431655765)) &&& 858993459) + ((uus (x0 - ((uus x0 1) &&& 1431655765)) 2) &&& 858993459)) + (uus (((x0 - ((uus x0 1) &&& 1431655765)) &&& 858993459) + ((uus (x0 - ((uus x0 1) &&& 1431655765)) 2) &&& 858993459)) 4)) &&& 252645135))] dJ6_bitCount_0f7a4_33 rfl (Nat.le_of_ble_eq_true rfl) rfl ?_
  refine ug_iload_n 0 dJ6_bitCount_0f7a4_34 rfl rfl ?_
  refine ug_iload_n 0 dJ6_bitCount_0f7a4_35 rfl rfl ?_
  refine ug_bipush dJ6_bitCount_0f7a4_36 un_bipush_8 ?_
  refine ug_iushr dJ6_bitCount_0f7a4_38 ?_
  refine ug_iadd dJ6_bitCount_0f7a4_39 ?_
  refine ug_istore_n [(0, .int ((((((x0 - ((uus x0 1) &&& 1431655765)) &&& 858993459) + ((uus (x0 - ((uus x0 1) &&& 1431655765)) 2) &&& 858993459)) + (uus (((x0 - ((uus x0 1) &&& 1431655765)) &&& 858993459) + ((uus (x0 - ((uus x0 1) &&& 1431655765)) 2) &&& 858993459)) 4)) &&& 252645135) + (uus (((((x0 - ((uus x0 1) &&& 1431655765)) &&& 858993459) + ((uus (x0 - ((uus x0 1) &&& 1431655765)) 2) &&& 858993459)) + (uus (((x0 - ((uus x0 1) &&& 1431655765)) &&& 858993459) + ((uus (x0 - ((uus x0 1) &&& 1431655765)) 2) &&& 858993459)) 4)) &&& 252645135) 8)))] dJ6_bitCount_0f7a4_40 rfl (Nat.le_of_ble_eq_true rfl) rfl ?_
  refine ug_iload_n 0 dJ6_bitCount_0f7a4_41 rfl rfl ?_
  refine ug_iload_n 0 dJ6_bitCount_0f7a4_42 rfl rfl ?_
  refine ug_bipush dJ6_bitCount_0f7a4_43 un_bipush_16 ?_
  refine ug_iushr dJ6_bitCount_0f7a4_45 ?_
  refine ug_iadd dJ6_bitCount_0f7a4_46 ?_
  refine ug_istore_n [(0, .int (((((((x0 - ((uus x0 1) &&& 1431655765)) &&& 858993459) + ((uus (x0 - ((uus x0 1) &&& 1431655765)) 2) &&& 858993459)) + (uus (((x0 - ((uus x0 1) &&& 1431655765)) &&& 858993459) + ((uus (x0 - ((uus x0 1) &&& 1431655765)) 2) &&& 858993459)) 4)) &&& 252645135) + (uus (((((x0 - ((uus x0 1) &&& 1431655765)) &&& 858993459) + ((uus (x0 - ((uus x0 1) &&& 1431655765)) 2) &&& 858993459)) + (uus (((x0 - ((uus x0 1) &&& 1431655765)) &&& 858993459) + ((uus (x0 - ((uus x0 1) &&& 1431655765)) 2) &&& 858993459)) 4)) &&& 252645135) 8)) + (uus ((((((x0 - ((uus x0 1) &&& 1431655765)) &&& 858993459) + ((uus (x0 - ((uus x0 1) &&& 1431655765)) 2) &&& 858993459)) + (uus (((x0 - ((uus x0 1) &&& 1431655765)) &&& 858993459) + ((uus (x0 - ((uus x0 1) &&& 1431655765)) 2) &&& 858993459)) 4)) &&& 252645135) + (uus (((((x0 - ((uus x0 1) &&& 1431655765)) &&& 858993459) + ((uus (x0 - ((uus x0 1) &&& 1431655765)) 2) &&& 858993459)) + (uus (((x0 - ((uus x0 1) &&& 1431655765)) &&& 858993459) + ((uus (x0 - ((uus x0 1) &&& 1431655765)) 2) &&& 858993459)) 4)) &&& 252645135) 8)) 16)))] dJ6_bitCount_0f7a4_47 rfl (Nat.le_of_ble_eq_true rfl) rfl ?_
  refine ug_iload_n 0 dJ6_bitCount_0f7a4_48 rfl rfl ?_
  refine ug_bipush dJ6_bitCount_0f7a4_49 un_bipush_63 ?_
  refine ug_iand dJ6_bitCount_0f7a4_51 ?_
  obtain rfl := Option.some.inj h
  exact ug_iret dJ6_bitCount_0f7a4_52
theorem c_J6_bitCount_0f7a4 {l : Launch} {E : Ue} {mem : Um} {x0 : Int32} {m1 : Um} {r : Int32} (h : f_J6_bitCount_0f7a4  mem x0 = some (m1, r)) : ucr l E 2 0 0 yJ6_bitCount_0f7a4 cJ6_bitCount_0f7a4 1 (some .int) [.int x0] mem (some (.int r)) m1 := ucr_of rfl (Nat.le_of_ble_eq_true rfl) (t_J6_bitCount_0f7a4  mem x0 _ h)
-- X4_owner
def f_X4_owner_b79 (o : Nat) (k8 : Um → Int32 → Int32 → Int32 → Int32 → Option (Um × Int32)) (mem : Um) (x1 : Int32) (x2 : Int32) (x3 : Int32) (x4 : Int32) : Option (Um × Int32) :=
  k8 mem x1 x2 x3 (x4 + 1)
set_option maxRecDepth 20000 in
theorem t_X4_owner_b79 {l : Launch} {E : Ue} {o : Nat} (ho : o = 23 ∨ o = 25) (k8 : Um → Int32 → Int32 → Int32 → Int32 → Option (Um × Int32)) (hk8 : ∀ (mem : Um) (x1 : Int32) (x2 : Int32) (x3 : Int32) (x4 : Int32) (z : Um × Int32), k8 mem x1 x2 x3 x4 = some z → ug l E 2 0 0 cX4_owner 6 RX4 (some .int) [] (uz_i z) 0 0 8 [(0, .ref (ue_d E o)), (1, .int x1), (2, .int x2), (3, .int x3), (4, .int x4)] [] mem) (mem : Um) (x1 : Int32) (x2 : Int32) (x3 : Int32) (x4 : Int32) (z : Um × Int32) (h : f_X4_owner_b79 o k8 mem x1 x2 x3 x4 = some z) : ug l E 2 0 0 cX4_owner 6 RX4 (some .int) [] (uz_i z) 0 0 79 [(0, .ref (ue_d E o)), (1, .int x1), (2, .int x2), (3, .int x3), (4, .int x4)] [] mem := by
  rw [f_X4_owner_b79] at h
  refine ug_iinc (v := (x4 + 1)) [(4, .int (x4 + 1)), (0, .ref (ue_d E o)), (1, .int x1), (2, .int x2), (3, .int x3)] 4 dX4_owner_79 rfl rfl (Nat.le_of_ble_eq_true rfl) rfl ?_
  refine ug_goto 8 dX4_owner_82 (by decide) ?_
  refine ug_sub [(0, .ref (ue_d E o)), (1, .int x1), (2, .int x2), (3, .int x3), (4, .int (x4 + 1))] [1, 2, 3, 4, 0] rfl ?_
  exact hk8 mem x1 x2 x3 (x4 + 1) _ h
def f_X4_owner_b8 (o : Nat) : Nat → Um → Int32 → Int32 → Int32 → Int32 → Option (Um × Int32)
  | 0, _, _, _, _, _ => none
  | n + 1, mem, x1, x2, x3, x4 =>
    if 5 ≤ x4 then (some (mem, x2)) else (ugd (uin (18 + x4) 28) (ugd (uin x1 8) (ugd (uin (13 + x4) 28) (if (mem (o + 1) (13 + x4).toNatClampNeg) ≤ 0 then (f_X4_owner_b79 o (f_X4_owner_b8 o n) mem x1 x2 x3 x4) else (ugd (uin (13 + x4) 28) (if (mem (o + 1) (13 + x4).toNatClampNeg) < (umabs ((mem (o + 1) (18 + x4).toNatClampNeg) - (mem 4 x1.toNatClampNeg))) then (f_X4_owner_b79 o (f_X4_owner_b8 o n) mem x1 x2 x3 x4) else (if x3 ≤ (umabs ((mem (o + 1) (18 + x4).toNatClampNeg) - (mem 4 x1.toNatClampNeg))) then (f_X4_owner_b79 o (f_X4_owner_b8 o n) mem x1 x2 x3 x4) else (f_X4_owner_b79 o (f_X4_owner_b8 o n) mem x1 x4 (umabs ((mem (o + 1) (18 + x4).toNatClampNeg) - (mem 4 x1.toNatClampNeg))) x4))))))))
set_option maxRecDepth 20000 in
theorem t_X4_owner_b8 {l : Launch} {E : Ue} {o : Nat} (ho : o = 23 ∨ o = 25) : ∀ (n : Nat) (mem : Um) (x1 : Int32) (x2 : Int32) (x3 : Int32) (x4 : Int32) (z : Um × Int32), f_X4_owner_b8 o n mem x1 x2 x3 x4 = some z → ug l E 2 0 0 cX4_owner 6 RX4 (some .int) [] (uz_i z) 0 0 8 [(0, .ref (ue_d E o)), (1, .int x1), (2, .int x2), (3, .int x3), (4, .int x4)] [] mem := by
  intro n
  induction n with
  | zero =>
    intro mem x1 x2 x3 x4 z h
    rw [f_X4_owner_b8] at h
    cases h
  | succ n ih =>
    intro mem x1 x2 x3 x4 z h
    rw [f_X4_owner_b8] at h
    refine ug_iload 4 dX4_owner_8 rfl ?_
    refine ug_iconst dX4_owner_10 un_iconst_5 ?_
    refine ug_icmp_ge 85 dX4_owner_11 (by decide) (fun q1 => ?_) (fun q1 => ?_)
    · rw [if_pos q1] at h
      refine ug_iload_n 2 dX4_owner_85 rfl rfl ?_
      obtain rfl := Option.some.inj h
      exact ug_iret dX4_owner_86
    · rw [if_neg q1] at h
      refine ug_aload_n 0 dX4_owner_14 rfl rfl ?_
      refine ug_getR kf_X4_11 (sk_r2 ho) dX4_owner_15 ?_
      refine ug_bipush dX4_owner_18 un_bipush_18 ?_
      refine ug_iload 4 dX4_owner_20 rfl ?_
      refine ug_iadd dX4_owner_22 ?_
      obtain ⟨g2, h⟩ := ugd_some h
      refine ug_iald (sk_a ho) (uin_ok g2) dX4_owner_23 ?_
      refine ug_aload_n 0 dX4_owner_24 rfl rfl ?_
      refine ug_getR kf_X4_15 (sk_r0 ho) dX4_owner_25 ?_
      refine ug_getR kf_X4_51 gr_3_3 dX4_owner_28 ?_
      refine ug_iload_n 1 dX4_owner_31 rfl rfl ?_
      obtain ⟨g3, h⟩ := ugd_some h
      refine ug_iald al_4 (uin_ok g3) dX4_owner_32 ?_
      refine ug_isub dX4_owner_33 ?_
      refine ug_mabs kl_X4_54 (Nat.le_of_ble_eq_true rfl) (Nat.le_of_ble_eq_true rfl) dX4_owner_34 ?_
      refine ug_istore [(5, .int (umabs ((mem (o + 1) (18 + x4).toNatClampNeg) - (mem 4 x1.toNatClampNeg)))), (0, .ref (ue_d E o)), (1, .int x1), (2, .int x2), (3, .int x3), (4, .int x4)] dX4_owner_37 (Nat.le_of_ble_eq_true rfl) rfl ?_
      refine ug_aload_n 1 dX4_owner_39 rfl rfl ?_
      refine ug_getR kf_X4_11 (sk_r2 ho) dX4_owner_40 ?_
      refine ug_bipush dX4_owner_43 un_bipush_13 ?_
      refine ug_iload 5 dX4_owner_45 rfl ?_
      refine ug_iadd dX4_owner_47 ?_
      obtain ⟨g4, h⟩ := ugd_some h
      refine ug_iald (sk_a ho) (uin_ok g4) dX4_owner_48 ?_
      refine ug_if_le 79 dX4_owner_49 (by decide) (fun q5 => ?_) (fun q5 => ?_)
      · rw [if_pos q5] at h
        refine ug_sub [(0, .ref (ue_d E o)), (1, .int x1), (2, .int x2), (3, .int x3), (4, .int x4)] [1, 2, 3, 4, 5] rfl ?_
        exact t_X4_owner_b79 ho (f_X4_owner_b8 o n) ih mem x1 x2 x3 x4 _ h
      · rw [if_neg q5] at h
        refine ug_iload 0 dX4_owner_52 rfl ?_
        refine ug_aload_n 1 dX4_owner_54 rfl rfl ?_
        refine ug_getR kf_X4_11 (sk_r2 ho) dX4_owner_55 ?_
        refine ug_bipush dX4_owner_58 un_bipush_13 ?_
        refine ug_iload 5 dX4_owner_60 rfl ?_
        refine ug_iadd dX4_owner_62 ?_
        obtain ⟨g6, h⟩ := ugd_some h
        refine ug_iald (sk_a ho) (uin_ok g6) dX4_owner_63 ?_
        refine ug_icmp_gt 79 dX4_owner_64 (by decide) (fun q7 => ?_) (fun q7 => ?_)
        · rw [if_pos q7] at h
          refine ug_sub [(0, .ref (ue_d E o)), (1, .int x1), (2, .int x2), (3, .int x3), (4, .int x4)] [1, 2, 3, 4, 5] rfl ?_
          exact t_X4_owner_b79 ho (f_X4_owner_b8 o n) ih mem x1 x2 x3 x4 _ h
        · rw [if_neg q7] at h
          refine ug_iload 0 dX4_owner_67 rfl ?_
          refine ug_iload_n 4 dX4_owner_69 rfl rfl ?_
          refine ug_icmp_ge 79 dX4_owner_70 (by decide) (fun q8 => ?_) (fun q8 => ?_)
          · rw [if_pos q8] at h
            refine ug_sub [(0, .ref (ue_d E o)), (1, .int x1), (2, .int x2), (3, .int x3), (4, .int x4)] [1, 2, 3, 4, 5] rfl ?_
            exact t_X4_owner_b79 ho (f_X4_owner_b8 o n) ih mem x1 x2 x3 x4 _ h
          · rw [if_neg q8] at h
            refine ug_iload 5 dX4_owner_73 rfl ?_
            refine ug_istore_n [(2, .int x4), (5, .int (umabs ((mem (o + 1) (18 + x4).toNatClampNeg) - (mem 4 x1.toNatClampNeg)))), (0, .ref (ue_d E o)), (1, .int x1), (3, .int x3), (4, .int x4)] dX4_owner_75 rfl (Nat.le_of_ble_eq_true rfl) rfl ?_
            refine ug_iload 1 dX4_owner_76 rfl ?_
            refine ug_istore_n [(3, .int (umabs ((mem (o + 1) (18 + x4).toNatClampNeg) - (mem 4 x1.toNatClampNeg)))), (2, .int x4), (5, .int (umabs ((mem (o + 1) (18 + x4).toNatClampNeg) - (mem 4 x1.toNatClampNeg)))), (0, .ref (ue_d E o)), (1, .int x1), (4, .int x4)] dX4_owner_78 rfl (Nat.le_of_ble_eq_true rfl) rfl ?_
            refine ug_sub [(0, .ref (ue_d E o)), (1, .int x1), (2, .int x4), (3, .int (umabs ((mem (o + 1) (18 + x4).toNatClampNeg) - (mem 4 x1.toNatClampNeg)))), (4, .int x4)] [3, 4, 1, 0, 5] rfl ?_
            exact t_X4_owner_b79 ho (f_X4_owner_b8 o n) ih mem x1 x4 (umabs ((mem (o + 1) (18 + x4).toNatClampNeg) - (mem 4 x1.toNatClampNeg))) x4 _ h
def f_X4_owner (o : Nat) (mem : Um) (x1 : Int32) : Option (Um × Int32) :=
  f_X4_owner_b8 o UF mem x1 (-1) 100 0
set_option maxRecDepth 20000 in
theorem t_X4_owner {l : Launch} {E : Ue} {o : Nat} (ho : o = 23 ∨ o = 25) (mem : Um) (x1 : Int32) (z : Um × Int32) (h : f_X4_owner o mem x1 = some z) : ug l E 2 0 0 cX4_owner 6 RX4 (some .int) [] (uz_i z) 0 0 0 [(0, .ref (ue_d E o)), (1, .int x1)] [] mem := by
  rw [f_X4_owner] at h
  refine ug_iconst dX4_owner_0 un_iconst_m1 ?_
  refine ug_istore_n [(2, .int (-1)), (0, .ref (ue_d E o)), (1, .int x1)] dX4_owner_1 rfl (Nat.le_of_ble_eq_true rfl) rfl ?_
  refine ug_bipush dX4_owner_2 un_bipush_100 ?_
  refine ug_istore_n [(3, .int 100), (2, .int (-1)), (0, .ref (ue_d E o)), (1, .int x1)] dX4_owner_4 rfl (Nat.le_of_ble_eq_true rfl) rfl ?_
  refine ug_iconst dX4_owner_5 un_iconst_0 ?_
  refine ug_istore [(4, .int 0), (3, .int 100), (2, .int (-1)), (0, .ref (ue_d E o)), (1, .int x1)] dX4_owner_6 (Nat.le_of_ble_eq_true rfl) rfl ?_
  refine ug_sub [(0, .ref (ue_d E o)), (1, .int x1), (2, .int (-1)), (3, .int 100), (4, .int 0)] [3, 4, 2, 1, 0] rfl ?_
  exact t_X4_owner_b8 ho UF mem x1 (-1) 100 0 _ h
theorem c_X4_owner {l : Launch} {E : Ue} {o : Nat} (ho : o = 23 ∨ o = 25) {mem : Um} {x1 : Int32} {m1 : Um} {r : Int32} (h : f_X4_owner o mem x1 = some (m1, r)) : ucr l E 2 0 0 yX4_owner cX4_owner 6 (some .int) [.ref (ue_d E o), .int x1] mem (some (.int r)) m1 := ucr_of rfl (Nat.le_of_ble_eq_true rfl) (t_X4_owner ho mem x1 _ h)
-- X4_worthOf
def f_X4_worthOf_b38 (o : Nat) (k4 : Um → Int32 → Int32 → Int32 → Option (Um × Int32)) (mem : Um) (x1 : Int32) (x3 : Int32) (y0 : Int32) (y1 : Int32) : Option (Um × Int32) :=
  k4 mem x1 (y1 + y0) (x3 + 1)
set_option maxRecDepth 20000 in
theorem t_X4_worthOf_b38 {l : Launch} {E : Ue} {o : Nat} (ho : o = 23 ∨ o = 25) (k4 : Um → Int32 → Int32 → Int32 → Option (Um × Int32)) (hk4 : ∀ (mem : Um) (x1 : Int32) (x2 : Int32) (x3 : Int32) (z : Um × Int32), k4 mem x1 x2 x3 = some z → ug l E 3 0 0 cX4_worthOf 4 RX4 (some .int) [] (uz_i z) 0 0 4 [(0, .ref (ue_d E o)), (1, .int x1), (2, .int x2), (3, .int x3)] [] mem) (mem : Um) (x1 : Int32) (x3 : Int32) (y0 : Int32) (y1 : Int32) (z : Um × Int32) (h : f_X4_worthOf_b38 o k4 mem x1 x3 y0 y1 = some z) : ug l E 3 0 0 cX4_worthOf 4 RX4 (some .int) [] (uz_i z) 0 0 38 [(0, .ref (ue_d E o)), (1, .int x1), (3, .int x3)] [.int y0, .int y1] mem := by
  rw [f_X4_worthOf_b38] at h
  refine ug_iadd dX4_worthOf_38 ?_
  refine ug_istore_n [(2, .int (y1 + y0)), (0, .ref (ue_d E o)), (1, .int x1), (3, .int x3)] dX4_worthOf_39 rfl (Nat.le_of_ble_eq_true rfl) rfl ?_
  refine ug_iinc (v := (x3 + 1)) [(3, .int (x3 + 1)), (2, .int (y1 + y0)), (0, .ref (ue_d E o)), (1, .int x1)] 3 dX4_worthOf_40 rfl rfl (Nat.le_of_ble_eq_true rfl) rfl ?_
  refine ug_goto 4 dX4_worthOf_43 (by decide) ?_
  refine ug_sub [(0, .ref (ue_d E o)), (1, .int x1), (2, .int (y1 + y0)), (3, .int (x3 + 1))] [2, 3, 1, 0] rfl ?_
  exact hk4 mem x1 (y1 + y0) (x3 + 1) _ h
def f_X4_worthOf_b4 (o : Nat) : Nat → Um → Int32 → Int32 → Int32 → Option (Um × Int32)
  | 0, _, _, _, _ => none
  | n + 1, mem, x1, x2, x3 =>
    if (mem 3 0) ≤ x3 then (some (mem, x2)) else (ubi (f_X4_owner o mem x3) (fun m2 r3 => if r3 = x1 then (ugd (uin x3 8) (f_X4_worthOf_b38 o (f_X4_worthOf_b4 o n) m2 x1 x3 (m2 5 x3.toNatClampNeg) x2)) else (f_X4_worthOf_b38 o (f_X4_worthOf_b4 o n) m2 x1 x3 0 x2)))
set_option maxRecDepth 20000 in
theorem t_X4_worthOf_b4 {l : Launch} {E : Ue} {o : Nat} (ho : o = 23 ∨ o = 25) : ∀ (n : Nat) (mem : Um) (x1 : Int32) (x2 : Int32) (x3 : Int32) (z : Um × Int32), f_X4_worthOf_b4 o n mem x1 x2 x3 = some z → ug l E 3 0 0 cX4_worthOf 4 RX4 (some .int) [] (uz_i z) 0 0 4 [(0, .ref (ue_d E o)), (1, .int x1), (2, .int x2), (3, .int x3)] [] mem := by
  intro n
  induction n with
  | zero =>
    intro mem x1 x2 x3 z h
    rw [f_X4_worthOf_b4] at h
    cases h
  | succ n ih =>
    intro mem x1 x2 x3 z h
    rw [f_X4_worthOf_b4] at h
    refine ug_iload_n 3 dX4_worthOf_4 rfl rfl ?_
    refine ug_aload_n 0 dX4_worthOf_5 rfl rfl ?_
    refine ug_getR kf_X4_15 (sk_r0 ho) dX4_worthOf_6 ?_
    refine ug_getI kf_X4_68 gi_3_0 dX4_worthOf_9 ?_
    refine ug_icmp_ge 46 dX4_worthOf_12 (by decide) (fun q1 => ?_) (fun q1 => ?_)
    · rw [if_pos q1] at h
      refine ug_iload_n 2 dX4_worthOf_46 rfl rfl ?_
      obtain rfl := Option.some.inj h
      exact ug_iret dX4_worthOf_47
    · rw [if_neg q1] at h
      refine ug_iload_n 2 dX4_worthOf_15 rfl rfl ?_
      refine ug_aload_n 0 dX4_worthOf_16 rfl rfl ?_
      refine ug_iload_n 3 dX4_worthOf_17 rfl rfl ?_
      obtain ⟨m2, r3, h4, h⟩ := ubi_some h
      refine ug_callVi [.int x3] (c_X4_owner ho h4) kc_X4_71 (sk_o ho) rfl (S := [.int x2]) rfl (Nat.le_of_ble_eq_true rfl) (Nat.le_of_ble_eq_true rfl) (Nat.le_of_ble_eq_true rfl) dX4_worthOf_18 ?_
      refine ug_iload_n 1 dX4_worthOf_21 rfl rfl ?_
      refine ug_icmp_ne 37 dX4_worthOf_22 (by decide) (fun q5 => ?_) (fun q5 => ?_)
      · rw [if_neg q5] at h
        refine ug_iconst dX4_worthOf_37 un_iconst_0 ?_
        refine ug_sub [(0, .ref (ue_d E o)), (1, .int x1), (3, .int x3)] [0, 1, 3] rfl ?_
        exact t_X4_worthOf_b38 ho (f_X4_worthOf_b4 o n) ih m2 x1 x3 0 x2 _ h
      · rw [if_pos q5] at h
        refine ug_aload_n 0 dX4_worthOf_25 rfl rfl ?_
        refine ug_getR kf_X4_15 (sk_r0 ho) dX4_worthOf_26 ?_
        refine ug_getR kf_X4_74 gr_3_4 dX4_worthOf_29 ?_
        refine ug_iload_n 3 dX4_worthOf_32 rfl rfl ?_
        obtain ⟨g6, h⟩ := ugd_some h
        refine ug_iald al_5 (uin_ok g6) dX4_worthOf_33 ?_
        refine ug_goto 38 dX4_worthOf_34 (by decide) ?_
        refine ug_sub [(0, .ref (ue_d E o)), (1, .int x1), (3, .int x3)] [0, 1, 3] rfl ?_
        exact t_X4_worthOf_b38 ho (f_X4_worthOf_b4 o n) ih m2 x1 x3 (m2 5 x3.toNatClampNeg) x2 _ h
def f_X4_worthOf (o : Nat) (mem : Um) (x1 : Int32) : Option (Um × Int32) :=
  f_X4_worthOf_b4 o UF mem x1 0 0
set_option maxRecDepth 20000 in
theorem t_X4_worthOf {l : Launch} {E : Ue} {o : Nat} (ho : o = 23 ∨ o = 25) (mem : Um) (x1 : Int32) (z : Um × Int32) (h : f_X4_worthOf o mem x1 = some z) : ug l E 3 0 0 cX4_worthOf 4 RX4 (some .int) [] (uz_i z) 0 0 0 [(0, .ref (ue_d E o)), (1, .int x1)] [] mem := by
  rw [f_X4_worthOf] at h
  refine ug_iconst dX4_worthOf_0 un_iconst_0 ?_
  refine ug_istore_n [(2, .int 0), (0, .ref (ue_d E o)), (1, .int x1)] dX4_worthOf_1 rfl (Nat.le_of_ble_eq_true rfl) rfl ?_
  refine ug_iconst dX4_worthOf_2 un_iconst_0 ?_
  refine ug_istore_n [(3, .int 0), (2, .int 0), (0, .ref (ue_d E o)), (1, .int x1)] dX4_worthOf_3 rfl (Nat.le_of_ble_eq_true rfl) rfl ?_
  refine ug_sub [(0, .ref (ue_d E o)), (1, .int x1), (2, .int 0), (3, .int 0)] [2, 3, 1, 0] rfl ?_
  exact t_X4_worthOf_b4 ho UF mem x1 0 0 _ h
theorem c_X4_worthOf {l : Launch} {E : Ue} {o : Nat} (ho : o = 23 ∨ o = 25) {mem : Um} {x1 : Int32} {m1 : Um} {r : Int32} (h : f_X4_worthOf o mem x1 = some (m1, r)) : ucr l E 3 0 0 yX4_worthOf cX4_worthOf 4 (some .int) [.ref (ue_d E o), .int x1] mem (some (.int r)) m1 := ucr_of rfl (Nat.le_of_ble_eq_true rfl) (t_X4_worthOf ho mem x1 _ h)
-- X2_combined
def f_X2_combined_b63 (mem : Um) (y0 : Int32) : Option (Um × Int32) :=
  some (mem, y0)
set_option maxRecDepth 20000 in
theorem t_X2_combined_b63 {l : Launch} {E : Ue} (mem : Um) (y0 : Int32) (z : Um × Int32) (h : f_X2_combined_b63  mem y0 = some z) : ug l E 2 0 0 cX2_combined 3 RX2 (some .int) [] (uz_i z) 0 0 63 [] [.int y0] mem := by
  rw [f_X2_combined_b63] at h
  obtain rfl := Option.some.inj h
  exact ug_iret dX2_combined_63
def f_X2_combined_b75 (mem : Um) (y0 : Int32) : Option (Um × Int32) :=
  some (mem, y0)
set_option maxRecDepth 20000 in
theorem t_X2_combined_b75 {l : Launch} {E : Ue} (mem : Um) (y0 : Int32) (z : Um × Int32) (h : f_X2_combined_b75  mem y0 = some z) : ug l E 2 0 0 cX2_combined 3 RX2 (some .int) [] (uz_i z) 0 0 75 [] [.int y0] mem := by
  rw [f_X2_combined_b75] at h
  obtain rfl := Option.some.inj h
  exact ug_iret dX2_combined_75
def f_X2_combined (mem : Um) (x0 : Int32) (x1 : Int32) (x2 : Int32) : Option (Um × Int32) :=
  if x0 = 2000 then (some (mem, (x1 + x2))) else (if x0 = 2001 then (some (mem, (x1 - x2))) else (if x0 = 2002 then (some (mem, (x1 * x2))) else (if x0 = 2003 then (if x2 = 0 then (f_X2_combined_b63 mem 0) else (ugd (unz x2) (f_X2_combined_b63 mem (x1 / x2)))) else (if x0 = 2004 then (if x2 = 0 then (f_X2_combined_b75 mem 0) else (ugd (unz x2) (f_X2_combined_b75 mem (x1 % x2)))) else (if x0 = 2005 then (some (mem, (ummin x1 x2))) else (some (mem, (ummax x1 x2))))))))
set_option maxRecDepth 20000 in
theorem t_X2_combined {l : Launch} {E : Ue} (mem : Um) (x0 : Int32) (x1 : Int32) (x2 : Int32) (z : Um × Int32) (h : f_X2_combined  mem x0 x1 x2 = some z) : ug l E 2 0 0 cX2_combined 3 RX2 (some .int) [] (uz_i z) 0 0 0 [(0, .int x0), (1, .int x1), (2, .int x2)] [] mem := by
  rw [f_X2_combined] at h
  refine ug_iload_n 0 dX2_combined_0 rfl rfl ?_
  by_cases q1 : x0 = 2000
  · rw [if_pos q1] at h
    refine ug_tswI 40 dX2_combined_1 (by rw [q1]; decide) (by rw [q1]; decide) (by rw [q1]; rfl) (by decide) ?_
    refine ug_iload_n 1 dX2_combined_40 rfl rfl ?_
    refine ug_iload_n 2 dX2_combined_41 rfl rfl ?_
    refine ug_iadd dX2_combined_42 ?_
    obtain rfl := Option.some.inj h
    exact ug_iret dX2_combined_43
  · rw [if_neg q1] at h
    by_cases q2 : x0 = 2001
    · rw [if_pos q2] at h
      refine ug_tswI 44 dX2_combined_1 (by rw [q2]; decide) (by rw [q2]; decide) (by rw [q2]; rfl) (by decide) ?_
      refine ug_iload_n 1 dX2_combined_44 rfl rfl ?_
      refine ug_iload_n 2 dX2_combined_45 rfl rfl ?_
      refine ug_isub dX2_combined_46 ?_
      obtain rfl := Option.some.inj h
      exact ug_iret dX2_combined_47
    · rw [if_neg q2] at h
      by_cases q3 : x0 = 2002
      · rw [if_pos q3] at h
        refine ug_tswI 48 dX2_combined_1 (by rw [q3]; decide) (by rw [q3]; decide) (by rw [q3]; rfl) (by decide) ?_
        refine ug_iload_n 1 dX2_combined_48 rfl rfl ?_
        refine ug_iload_n 2 dX2_combined_49 rfl rfl ?_
        refine ug_imul dX2_combined_50 ?_
        obtain rfl := Option.some.inj h
        exact ug_iret dX2_combined_51
      · rw [if_neg q3] at h
        by_cases q4 : x0 = 2003
        · rw [if_pos q4] at h
          refine ug_tswI 52 dX2_combined_1 (by rw [q4]; decide) (by rw [q4]; decide) (by rw [q4]; rfl) (by decide) ?_
          refine ug_iload_n 2 dX2_combined_52 rfl rfl ?_
          refine ug_if_ne 60 dX2_combined_53 (by decide) (fun q5 => ?_) (fun q5 => ?_)
          · rw [if_neg q5] at h
            refine ug_iload_n 1 dX2_combined_60 rfl rfl ?_
            refine ug_iload_n 2 dX2_combined_61 rfl rfl ?_
            obtain ⟨g6, h⟩ := ugd_some h
            refine ug_idiv dX2_combined_62 (of_decide_eq_true g6) ?_
            refine ug_sub [] [] rfl ?_
            exact t_X2_combined_b63 mem (x1 / x2) _ h
          · rw [if_pos q5] at h
            refine ug_iconst dX2_combined_56 un_iconst_0 ?_
            refine ug_goto 63 dX2_combined_57 (by decide) ?_
            refine ug_sub [] [] rfl ?_
            exact t_X2_combined_b63 mem 0 _ h
        · rw [if_neg q4] at h
          by_cases q7 : x0 = 2004
          · rw [if_pos q7] at h
            refine ug_tswI 64 dX2_combined_1 (by rw [q7]; decide) (by rw [q7]; decide) (by rw [q7]; rfl) (by decide) ?_
            refine ug_iload_n 2 dX2_combined_64 rfl rfl ?_
            refine ug_if_ne 72 dX2_combined_65 (by decide) (fun q8 => ?_) (fun q8 => ?_)
            · rw [if_neg q8] at h
              refine ug_iload_n 1 dX2_combined_72 rfl rfl ?_
              refine ug_iload_n 2 dX2_combined_73 rfl rfl ?_
              obtain ⟨g9, h⟩ := ugd_some h
              refine ug_irem dX2_combined_74 (of_decide_eq_true g9) ?_
              refine ug_sub [] [] rfl ?_
              exact t_X2_combined_b75 mem (x1 % x2) _ h
            · rw [if_pos q8] at h
              refine ug_iconst dX2_combined_68 un_iconst_0 ?_
              refine ug_goto 75 dX2_combined_69 (by decide) ?_
              refine ug_sub [] [] rfl ?_
              exact t_X2_combined_b75 mem 0 _ h
          · rw [if_neg q7] at h
            by_cases q10 : x0 = 2005
            · rw [if_pos q10] at h
              refine ug_tswI 76 dX2_combined_1 (by rw [q10]; decide) (by rw [q10]; decide) (by rw [q10]; rfl) (by decide) ?_
              refine ug_iload_n 1 dX2_combined_76 rfl rfl ?_
              refine ug_iload_n 2 dX2_combined_77 rfl rfl ?_
              refine ug_mmin kl_X2_53 (Nat.le_of_ble_eq_true rfl) (Nat.le_of_ble_eq_true rfl) dX2_combined_78 ?_
              obtain rfl := Option.some.inj h
              exact ug_iret dX2_combined_81
            · rw [if_neg q10] at h
              refine ug_tswO 82 dX2_combined_1 (utsw_2000_2005 q1 q2 q3 q4 q7 q10) (by decide) ?_
              refine ug_iload_n 1 dX2_combined_82 rfl rfl ?_
              refine ug_iload_n 2 dX2_combined_83 rfl rfl ?_
              refine ug_mmax kl_X2_59 (Nat.le_of_ble_eq_true rfl) (Nat.le_of_ble_eq_true rfl) dX2_combined_84 ?_
              obtain rfl := Option.some.inj h
              exact ug_iret dX2_combined_87
theorem c_X2_combined {l : Launch} {E : Ue} {mem : Um} {x0 : Int32} {x1 : Int32} {x2 : Int32} {m1 : Um} {r : Int32} (h : f_X2_combined  mem x0 x1 x2 = some (m1, r)) : ucr l E 2 0 0 yX2_combined cX2_combined 3 (some .int) [.int x0, .int x1, .int x2] mem (some (.int r)) m1 := ucr_of rfl (Nat.le_of_ble_eq_true rfl) (t_X2_combined  mem x0 x1 x2 _ h)
-- X2_life
def f_X2_life_b100 (k4 : Um → Int32 → Int32 → Option (Um × Int32)) (mem : Um) (x1 : Int32) (x2 : Int32) : Option (Um × Int32) :=
  k4 mem x1 (x2 + 1)
set_option maxRecDepth 20000 in
theorem t_X2_life_b100 {l : Launch} {E : Ue} (k4 : Um → Int32 → Int32 → Option (Um × Int32)) (hk4 : ∀ (mem : Um) (x1 : Int32) (x2 : Int32) (z : Um × Int32), k4 mem x1 x2 = some z → ug l E 3 0 0 cX2_life 4 RX2 (some .int) [] (uz_i z) 0 0 4 [(0, .ref (ue_d E 13)), (1, .int x1), (2, .int x2)] [] mem) (mem : Um) (x1 : Int32) (x2 : Int32) (z : Um × Int32) (h : f_X2_life_b100 k4 mem x1 x2 = some z) : ug l E 3 0 0 cX2_life 4 RX2 (some .int) [] (uz_i z) 0 0 100 [(0, .ref (ue_d E 13)), (1, .int x1), (2, .int x2)] [] mem := by
  rw [f_X2_life_b100] at h
  refine ug_iinc (v := (x2 + 1)) [(2, .int (x2 + 1)), (0, .ref (ue_d E 13)), (1, .int x1)] 2 dX2_life_100 rfl rfl (Nat.le_of_ble_eq_true rfl) rfl ?_
  refine ug_goto 4 dX2_life_103 (by decide) ?_
  refine ug_sub [(0, .ref (ue_d E 13)), (1, .int x1), (2, .int (x2 + 1))] [1, 2, 0] rfl ?_
  exact hk4 mem x1 (x2 + 1) _ h
def f_X2_life_b66 (k4 : Um → Int32 → Int32 → Option (Um × Int32)) (mem : Um) (x1 : Int32) (x2 : Int32) (x3 : Int32) : Option (Um × Int32) :=
  if x1 < 2 then (f_X2_life_b100 k4 mem x1 x2) else (ugd (uin ((x1 + (-1)) - 1) 150) (ugd (uin (x1 + (-1)) 150) (ubi (f_X2_combined mem x3 (mem 16 ((x1 + (-1)) - 1).toNatClampNeg) (mem 16 (x1 + (-1)).toNatClampNeg)) (fun m4 r5 => ugd (uin ((x1 + (-1)) - 1) 150) (f_X2_life_b100 k4 (um_w m4 16 ((x1 + (-1)) - 1).toNatClampNeg r5) (x1 + (-1)) x2)))))
set_option maxRecDepth 20000 in
theorem t_X2_life_b66 {l : Launch} {E : Ue} (k4 : Um → Int32 → Int32 → Option (Um × Int32)) (hk4 : ∀ (mem : Um) (x1 : Int32) (x2 : Int32) (z : Um × Int32), k4 mem x1 x2 = some z → ug l E 3 0 0 cX2_life 4 RX2 (some .int) [] (uz_i z) 0 0 4 [(0, .ref (ue_d E 13)), (1, .int x1), (2, .int x2)] [] mem) (mem : Um) (x1 : Int32) (x2 : Int32) (x3 : Int32) (z : Um × Int32) (h : f_X2_life_b66 k4 mem x1 x2 x3 = some z) : ug l E 3 0 0 cX2_life 4 RX2 (some .int) [] (uz_i z) 0 0 66 [(0, .ref (ue_d E 13)), (1, .int x1), (2, .int x2), (3, .int x3)] [] mem := by
  rw [f_X2_life_b66] at h
  refine ug_iload_n 1 dX2_life_66 rfl rfl ?_
  refine ug_iconst dX2_life_67 un_iconst_2 ?_
  refine ug_icmp_lt 100 dX2_life_68 (by decide) (fun q1 => ?_) (fun q1 => ?_)
  · rw [if_pos q1] at h
    refine ug_sub [(0, .ref (ue_d E 13)), (1, .int x1), (2, .int x2)] [0, 1, 2] rfl ?_
    exact t_X2_life_b100 k4 hk4 mem x1 x2 _ h
  · rw [if_neg q1] at h
    refine ug_iinc (v := (x1 + (-1))) [(1, .int (x1 + (-1))), (0, .ref (ue_d E 13)), (2, .int x2), (3, .int x3)] 1 dX2_life_71 rfl rfl (Nat.le_of_ble_eq_true rfl) rfl ?_
    refine ug_aload_n 1 dX2_life_74 rfl rfl ?_
    refine ug_getR kf_X2_25 gr_13_4 dX2_life_75 ?_
    refine ug_iload_n 0 dX2_life_78 rfl rfl ?_
    refine ug_iconst dX2_life_79 un_iconst_1 ?_
    refine ug_isub dX2_life_80 ?_
    refine ug_iload_n 3 dX2_life_81 rfl rfl ?_
    refine ug_aload_n 1 dX2_life_82 rfl rfl ?_
    refine ug_getR kf_X2_25 gr_13_4 dX2_life_83 ?_
    refine ug_iload_n 0 dX2_life_86 rfl rfl ?_
    refine ug_iconst dX2_life_87 un_iconst_1 ?_
    refine ug_isub dX2_life_88 ?_
    obtain ⟨g2, h⟩ := ugd_some h
    refine ug_iald al_16 (uin_ok g2) dX2_life_89 ?_
    refine ug_aload_n 1 dX2_life_90 rfl rfl ?_
    refine ug_getR kf_X2_25 gr_13_4 dX2_life_91 ?_
    refine ug_iload_n 0 dX2_life_94 rfl rfl ?_
    obtain ⟨g3, h⟩ := ugd_some h
    refine ug_iald al_16 (uin_ok g3) dX2_life_95 ?_
    obtain ⟨m4, r5, h6, h⟩ := ubi_some h
    refine ug_callSi [.int x3, .int (mem 16 ((x1 + (-1)) - 1).toNatClampNeg), .int (mem 16 (x1 + (-1)).toNatClampNeg)] (c_X2_combined  h6) kc_X2_49 rfl (S := [.int ((x1 + (-1)) - 1), .ref (ue_d E 16)]) rfl (Nat.le_of_ble_eq_true rfl) (Nat.le_of_ble_eq_true rfl) (Nat.le_of_ble_eq_true rfl) dX2_life_96 ?_
    obtain ⟨g7, h⟩ := ugd_some h
    refine ug_iast al_16 (uin_ok g7) dX2_life_99 ?_
    refine ug_sub [(0, .ref (ue_d E 13)), (1, .int (x1 + (-1))), (2, .int x2)] [1, 0, 2] rfl ?_
    exact t_X2_life_b100 k4 hk4 (um_w m4 16 ((x1 + (-1)) - 1).toNatClampNeg r5) (x1 + (-1)) x2 _ h
def f_X2_life_b59 (k4 : Um → Int32 → Int32 → Option (Um × Int32)) (mem : Um) (x1 : Int32) (x2 : Int32) (y0 : Int32) (y1 : Int32) : Option (Um × Int32) :=
  ugd (uin y1 150) (f_X2_life_b100 k4 (um_w mem 16 y1.toNatClampNeg y0) (x1 + 1) x2)
set_option maxRecDepth 20000 in
theorem t_X2_life_b59 {l : Launch} {E : Ue} (k4 : Um → Int32 → Int32 → Option (Um × Int32)) (hk4 : ∀ (mem : Um) (x1 : Int32) (x2 : Int32) (z : Um × Int32), k4 mem x1 x2 = some z → ug l E 3 0 0 cX2_life 4 RX2 (some .int) [] (uz_i z) 0 0 4 [(0, .ref (ue_d E 13)), (1, .int x1), (2, .int x2)] [] mem) (mem : Um) (x1 : Int32) (x2 : Int32) (y0 : Int32) (y1 : Int32) (z : Um × Int32) (h : f_X2_life_b59 k4 mem x1 x2 y0 y1 = some z) : ug l E 3 0 0 cX2_life 4 RX2 (some .int) [] (uz_i z) 0 0 59 [(0, .ref (ue_d E 13)), (1, .int x1), (2, .int x2)] [.int y0, .int y1, .ref (ue_d E 16)] mem := by
  rw [f_X2_life_b59] at h
  obtain ⟨g1, h⟩ := ugd_some h
  refine ug_iast al_16 (uin_ok g1) dX2_life_59 ?_
  refine ug_iinc (v := (x1 + 1)) [(1, .int (x1 + 1)), (0, .ref (ue_d E 13)), (2, .int x2)] 1 dX2_life_60 rfl rfl (Nat.le_of_ble_eq_true rfl) rfl ?_
  refine ug_goto 100 dX2_life_63 (by decide) ?_
  refine ug_sub [(0, .ref (ue_d E 13)), (1, .int (x1 + 1)), (2, .int x2)] [1, 0, 2] rfl ?_
  exact t_X2_life_b100 k4 hk4 (um_w mem 16 y1.toNatClampNeg y0) (x1 + 1) x2 _ h
def f_X2_life_b4 : Nat → Um → Int32 → Int32 → Option (Um × Int32)
  | 0, _, _, _ => none
  | n + 1, mem, x1, x2 =>
    if (mem 13 1) ≤ x2 then (some (mem, (ummax 1 (ummin 60 (mem 16 0))))) else (ugd (uin x2 150) (if 2000 ≤ (mem 14 x2.toNatClampNeg) then (f_X2_life_b66 (f_X2_life_b4  n) mem x1 x2 (mem 14 x2.toNatClampNeg)) else (if 150 ≤ x1 then (f_X2_life_b66 (f_X2_life_b4  n) mem x1 x2 (mem 14 x2.toNatClampNeg)) else (if 1000 ≤ (mem 14 x2.toNatClampNeg) then (ugd (uin ((mem 14 x2.toNatClampNeg) - 1000) 8) (f_X2_life_b59 (f_X2_life_b4  n) mem x1 x2 (mem 17 ((mem 14 x2.toNatClampNeg) - 1000).toNatClampNeg) x1)) else (f_X2_life_b59 (f_X2_life_b4  n) mem x1 x2 (mem 14 x2.toNatClampNeg) x1)))))
set_option maxRecDepth 20000 in
theorem t_X2_life_b4 {l : Launch} {E : Ue} : ∀ (n : Nat) (mem : Um) (x1 : Int32) (x2 : Int32) (z : Um × Int32), f_X2_life_b4  n mem x1 x2 = some z → ug l E 3 0 0 cX2_life 4 RX2 (some .int) [] (uz_i z) 0 0 4 [(0, .ref (ue_d E 13)), (1, .int x1), (2, .int x2)] [] mem := by
  intro n
  induction n with
  | zero =>
    intro mem x1 x2 z h
    rw [f_X2_life_b4] at h
    cases h
  | succ n ih =>
    intro mem x1 x2 z h
    rw [f_X2_life_b4] at h
    refine ug_iload_n 2 dX2_life_4 rfl rfl ?_
    refine ug_aload_n 0 dX2_life_5 rfl rfl ?_
    refine ug_getI kf_X2_15 gi_13_1 dX2_life_6 ?_
    refine ug_icmp_ge 106 dX2_life_9 (by decide) (fun q1 => ?_) (fun q1 => ?_)
    · rw [if_pos q1] at h
      refine ug_iconst dX2_life_106 un_iconst_1 ?_
      refine ug_bipush dX2_life_107 un_bipush_60 ?_
      refine ug_aload_n 0 dX2_life_109 rfl rfl ?_
      refine ug_getR kf_X2_25 gr_13_4 dX2_life_110 ?_
      refine ug_iconst dX2_life_113 un_iconst_0 ?_
      refine ug_ialdK al_16 ui_0_150 uc_0 dX2_life_114 ?_
      refine ug_mmin kl_X2_53 (Nat.le_of_ble_eq_true rfl) (Nat.le_of_ble_eq_true rfl) dX2_life_115 ?_
      refine ug_mmax kl_X2_59 (Nat.le_of_ble_eq_true rfl) (Nat.le_of_ble_eq_true rfl) dX2_life_118 ?_
      obtain rfl := Option.some.inj h
      exact ug_iret dX2_life_121
    · rw [if_neg q1] at h
      refine ug_aload_n 0 dX2_life_12 rfl rfl ?_
      refine ug_getR kf_X2_9 gr_13_0 dX2_life_13 ?_
      refine ug_iload_n 2 dX2_life_16 rfl rfl ?_
      obtain ⟨g2, h⟩ := ugd_some h
      refine ug_iald al_14 (uin_ok g2) dX2_life_17 ?_
      refine ug_istore_n [(3, .int (mem 14 x2.toNatClampNeg)), (0, .ref (ue_d E 13)), (1, .int x1), (2, .int x2)] dX2_life_18 rfl (Nat.le_of_ble_eq_true rfl) rfl ?_
      refine ug_iload_n 0 dX2_life_19 rfl rfl ?_
      refine ug_sipush dX2_life_20 un_sipush_2000 ?_
      refine ug_icmp_ge 66 dX2_life_23 (by decide) (fun q3 => ?_) (fun q3 => ?_)
      · rw [if_pos q3] at h
        refine ug_sub [(0, .ref (ue_d E 13)), (1, .int x1), (2, .int x2), (3, .int (mem 14 x2.toNatClampNeg))] [1, 2, 3, 0] rfl ?_
        exact t_X2_life_b66 (f_X2_life_b4  n) ih mem x1 x2 (mem 14 x2.toNatClampNeg) _ h
      · rw [if_neg q3] at h
        refine ug_iload_n 2 dX2_life_26 rfl rfl ?_
        refine ug_sipush dX2_life_27 un_sipush_150 ?_
        refine ug_icmp_ge 66 dX2_life_30 (by decide) (fun q4 => ?_) (fun q4 => ?_)
        · rw [if_pos q4] at h
          refine ug_sub [(0, .ref (ue_d E 13)), (1, .int x1), (2, .int x2), (3, .int (mem 14 x2.toNatClampNeg))] [1, 2, 3, 0] rfl ?_
          exact t_X2_life_b66 (f_X2_life_b4  n) ih mem x1 x2 (mem 14 x2.toNatClampNeg) _ h
        · rw [if_neg q4] at h
          refine ug_aload_n 1 dX2_life_33 rfl rfl ?_
          refine ug_getR kf_X2_25 gr_13_4 dX2_life_34 ?_
          refine ug_iload_n 2 dX2_life_37 rfl rfl ?_
          refine ug_iload_n 0 dX2_life_38 rfl rfl ?_
          refine ug_sipush dX2_life_39 un_sipush_1000 ?_
          refine ug_icmp_ge 49 dX2_life_42 (by decide) (fun q5 => ?_) (fun q5 => ?_)
          · rw [if_pos q5] at h
            refine ug_aload_n 1 dX2_life_49 rfl rfl ?_
            refine ug_getR kf_X2_31 gr_13_6 dX2_life_50 ?_
            refine ug_iload_n 0 dX2_life_53 rfl rfl ?_
            refine ug_sipush dX2_life_54 un_sipush_1000 ?_
            refine ug_isub dX2_life_57 ?_
            obtain ⟨g6, h⟩ := ugd_some h
            refine ug_iald al_17 (uin_ok g6) dX2_life_58 ?_
            refine ug_sub [(0, .ref (ue_d E 13)), (1, .int x1), (2, .int x2)] [1, 2, 3] rfl ?_
            exact t_X2_life_b59 (f_X2_life_b4  n) ih mem x1 x2 (mem 17 ((mem 14 x2.toNatClampNeg) - 1000).toNatClampNeg) x1 _ h
          · rw [if_neg q5] at h
            refine ug_iload_n 0 dX2_life_45 rfl rfl ?_
            refine ug_goto 59 dX2_life_46 (by decide) ?_
            refine ug_sub [(0, .ref (ue_d E 13)), (1, .int x1), (2, .int x2)] [1, 2, 3] rfl ?_
            exact t_X2_life_b59 (f_X2_life_b4  n) ih mem x1 x2 (mem 14 x2.toNatClampNeg) x1 _ h
def f_X2_life (mem : Um) : Option (Um × Int32) :=
  f_X2_life_b4  UF mem 0 0
set_option maxRecDepth 20000 in
theorem t_X2_life {l : Launch} {E : Ue} (mem : Um) (z : Um × Int32) (h : f_X2_life  mem  = some z) : ug l E 3 0 0 cX2_life 4 RX2 (some .int) [] (uz_i z) 0 0 0 [(0, .ref (ue_d E 13))] [] mem := by
  rw [f_X2_life] at h
  refine ug_iconst dX2_life_0 un_iconst_0 ?_
  refine ug_istore_n [(1, .int 0), (0, .ref (ue_d E 13))] dX2_life_1 rfl (Nat.le_of_ble_eq_true rfl) rfl ?_
  refine ug_iconst dX2_life_2 un_iconst_0 ?_
  refine ug_istore_n [(2, .int 0), (1, .int 0), (0, .ref (ue_d E 13))] dX2_life_3 rfl (Nat.le_of_ble_eq_true rfl) rfl ?_
  refine ug_sub [(0, .ref (ue_d E 13)), (1, .int 0), (2, .int 0)] [2, 1, 0] rfl ?_
  exact t_X2_life_b4  UF mem 0 0 _ h
theorem c_X2_life {l : Launch} {E : Ue} {mem : Um} {m1 : Um} {r : Int32} (h : f_X2_life  mem  = some (m1, r)) : ucr l E 3 0 0 yX2_life cX2_life 4 (some .int) [.ref (ue_d E 13)] mem (some (.int r)) m1 := ucr_of rfl (Nat.le_of_ble_eq_true rfl) (t_X2_life  mem  _ h)
-- X4_life
def f_X4_life_b112 (o : Nat) (mem : Um) (x1 : Int32) (y0 : Int32) (y1 : Int32) : Option (Um × Int32) :=
  ugd (uin y1 8) (ubi (f_X2_life (um_w (um_w (um_w (um_w mem 17 y1.toNatClampNeg y0) 17 5 ((um_w mem 17 y1.toNatClampNeg y0) (o + 1) 0)) 17 6 ((um_w (um_w mem 17 y1.toNatClampNeg y0) 17 5 ((um_w mem 17 y1.toNatClampNeg y0) (o + 1) 0)) (o + 1) 1)) 17 7 x1)) (fun m2 r3 => some (m2, r3)))
set_option maxRecDepth 20000 in
theorem t_X4_life_b112 {l : Launch} {E : Ue} {o : Nat} (ho : o = 23 ∨ o = 25) (mem : Um) (x1 : Int32) (y0 : Int32) (y1 : Int32) (z : Um × Int32) (h : f_X4_life_b112 o mem x1 y0 y1 = some z) : ug l E 4 0 0 cX4_life 2 RX4 (some .int) [] (uz_i z) 0 0 112 [(0, .ref (ue_d E o)), (1, .int x1)] [.int y0, .int y1, .ref (ue_d E 17)] mem := by
  rw [f_X4_life_b112] at h
  obtain ⟨g1, h⟩ := ugd_some h
  refine ug_iast al_17 (uin_ok g1) dX4_life_112 ?_
  refine ug_aload_n 0 dX4_life_113 rfl rfl ?_
  refine ug_getR kf_X4_19 (sk_r1 ho) dX4_life_114 ?_
  refine ug_getR kf_X4_88 gr_13_6 dX4_life_117 ?_
  refine ug_iconst dX4_life_120 un_iconst_5 ?_
  refine ug_aload_n 0 dX4_life_121 rfl rfl ?_
  refine ug_getR kf_X4_11 (sk_r2 ho) dX4_life_122 ?_
  refine ug_iconst dX4_life_125 un_iconst_0 ?_
  refine ug_ialdK (sk_a ho) ui_0_28 uc_0 dX4_life_126 ?_
  refine ug_iastK al_17 ui_5_8 uc_5 dX4_life_127 ?_
  refine ug_aload_n 0 dX4_life_128 rfl rfl ?_
  refine ug_getR kf_X4_19 (sk_r1 ho) dX4_life_129 ?_
  refine ug_getR kf_X4_88 gr_13_6 dX4_life_132 ?_
  refine ug_bipush dX4_life_135 un_bipush_6 ?_
  refine ug_aload_n 0 dX4_life_137 rfl rfl ?_
  refine ug_getR kf_X4_11 (sk_r2 ho) dX4_life_138 ?_
  refine ug_iconst dX4_life_141 un_iconst_1 ?_
  refine ug_ialdK (sk_a ho) ui_1_28 uc_1 dX4_life_142 ?_
  refine ug_iastK al_17 ui_6_8 uc_6 dX4_life_143 ?_
  refine ug_aload_n 0 dX4_life_144 rfl rfl ?_
  refine ug_getR kf_X4_19 (sk_r1 ho) dX4_life_145 ?_
  refine ug_getR kf_X4_88 gr_13_6 dX4_life_148 ?_
  refine ug_bipush dX4_life_151 un_bipush_7 ?_
  refine ug_iload_n 1 dX4_life_153 rfl rfl ?_
  refine ug_iastK al_17 ui_7_8 uc_7 dX4_life_154 ?_
  refine ug_aload_n 0 dX4_life_155 rfl rfl ?_
  refine ug_getR kf_X4_19 (sk_r1 ho) dX4_life_156 ?_
  obtain ⟨m2, r3, h4, h⟩ := ubi_some h
  refine ug_callVi [] (c_X2_life  h4) kc_X4_102 ro_13 rfl (S := []) rfl (Nat.le_of_ble_eq_true rfl) (Nat.le_of_ble_eq_true rfl) (Nat.le_of_ble_eq_true rfl) dX4_life_159 ?_
  obtain rfl := Option.some.inj h
  exact ug_iret dX4_life_162
def f_X4_life_b65 (o : Nat) (mem : Um) (x1 : Int32) (y0 : Int32) (y1 : Int32) : Option (Um × Int32) :=
  ugd (uin y1 8) (ugd (uin (18 + x1) 28) (ubi (f_X2_uses (um_w (um_w mem 17 y1.toNatClampNeg y0) 17 3 ((um_w mem 17 y1.toNatClampNeg y0) (o + 1) (18 + x1).toNatClampNeg)) 4) (fun m3 r4 => if r4 = 0 then (f_X4_life_b112 o m3 x1 0 4) else (ubi (f_X4_worthOf o m3 x1) (fun m7 r8 => f_X4_life_b112 o m7 x1 r8 4)))))
set_option maxRecDepth 20000 in
theorem t_X4_life_b65 {l : Launch} {E : Ue} {o : Nat} (ho : o = 23 ∨ o = 25) (mem : Um) (x1 : Int32) (y0 : Int32) (y1 : Int32) (z : Um × Int32) (h : f_X4_life_b65 o mem x1 y0 y1 = some z) : ug l E 4 0 0 cX4_life 2 RX4 (some .int) [] (uz_i z) 0 0 65 [(0, .ref (ue_d E o)), (1, .int x1)] [.int y0, .int y1, .ref (ue_d E 17)] mem := by
  rw [f_X4_life_b65] at h
  obtain ⟨g1, h⟩ := ugd_some h
  refine ug_iast al_17 (uin_ok g1) dX4_life_65 ?_
  refine ug_aload_n 0 dX4_life_66 rfl rfl ?_
  refine ug_getR kf_X4_19 (sk_r1 ho) dX4_life_67 ?_
  refine ug_getR kf_X4_88 gr_13_6 dX4_life_70 ?_
  refine ug_iconst dX4_life_73 un_iconst_3 ?_
  refine ug_aload_n 0 dX4_life_74 rfl rfl ?_
  refine ug_getR kf_X4_11 (sk_r2 ho) dX4_life_75 ?_
  refine ug_bipush dX4_life_78 un_bipush_18 ?_
  refine ug_iload_n 1 dX4_life_80 rfl rfl ?_
  refine ug_iadd dX4_life_81 ?_
  obtain ⟨g2, h⟩ := ugd_some h
  refine ug_iald (sk_a ho) (uin_ok g2) dX4_life_82 ?_
  refine ug_iastK al_17 ui_3_8 uc_3 dX4_life_83 ?_
  refine ug_aload_n 0 dX4_life_84 rfl rfl ?_
  refine ug_getR kf_X4_19 (sk_r1 ho) dX4_life_85 ?_
  refine ug_getR kf_X4_88 gr_13_6 dX4_life_88 ?_
  refine ug_iconst dX4_life_91 un_iconst_4 ?_
  refine ug_aload_n 0 dX4_life_92 rfl rfl ?_
  refine ug_getR kf_X4_19 (sk_r1 ho) dX4_life_93 ?_
  refine ug_iconst dX4_life_96 un_iconst_4 ?_
  obtain ⟨m3, r4, h5, h⟩ := ubi_some h
  refine ug_callVi [.int 4] (c_X2_uses  h5) kc_X4_96 ro_13 rfl (S := [.int 4, .ref (ue_d E 17)]) rfl (Nat.le_of_ble_eq_true rfl) (Nat.le_of_ble_eq_true rfl) (Nat.le_of_ble_eq_true rfl) dX4_life_97 ?_
  refine ug_if_eq 111 dX4_life_100 (by decide) (fun q6 => ?_) (fun q6 => ?_)
  · rw [if_pos q6] at h
    refine ug_iconst dX4_life_111 un_iconst_0 ?_
    exact t_X4_life_b112 ho m3 x1 0 4 _ h
  · rw [if_neg q6] at h
    refine ug_aload_n 0 dX4_life_103 rfl rfl ?_
    refine ug_iload_n 1 dX4_life_104 rfl rfl ?_
    obtain ⟨m7, r8, h9, h⟩ := ubi_some h
    refine ug_callVi [.int x1] (c_X4_worthOf ho h9) kc_X4_99 (sk_o ho) rfl (S := [.int 4, .ref (ue_d E 17)]) rfl (Nat.le_of_ble_eq_true rfl) (Nat.le_of_ble_eq_true rfl) (Nat.le_of_ble_eq_true rfl) dX4_life_105 ?_
    refine ug_goto 112 dX4_life_108 (by decide) ?_
    exact t_X4_life_b112 ho m7 x1 r8 4 _ h
def f_X4_life (o : Nat) (mem : Um) (x1 : Int32) : Option (Um × Int32) :=
  ugd (uin (13 + x1) 28) (ubi (f_X2_uses (um_w (um_w mem 17 0 (mem (o + 1) (13 + x1).toNatClampNeg)) 17 1 ((um_w mem 17 0 (mem (o + 1) (13 + x1).toNatClampNeg)) 3 2)) 2) (fun m2 r3 => if r3 = 0 then (f_X4_life_b65 o m2 x1 0 2) else (ubi (f_X4_touching o m2 x1) (fun m6 r7 => ubi (f_J6_bitCount_0f7a4 m6 r7) (fun m9 r10 => f_X4_life_b65 o m9 x1 r10 2)))))
set_option maxRecDepth 20000 in
theorem t_X4_life {l : Launch} {E : Ue} {o : Nat} (ho : o = 23 ∨ o = 25) (mem : Um) (x1 : Int32) (z : Um × Int32) (h : f_X4_life o mem x1 = some z) : ug l E 4 0 0 cX4_life 2 RX4 (some .int) [] (uz_i z) 0 0 0 [(0, .ref (ue_d E o)), (1, .int x1)] [] mem := by
  rw [f_X4_life] at h
  refine ug_aload_n 0 dX4_life_0 rfl rfl ?_
  refine ug_getR kf_X4_19 (sk_r1 ho) dX4_life_1 ?_
  refine ug_getR kf_X4_88 gr_13_6 dX4_life_4 ?_
  refine ug_iconst dX4_life_7 un_iconst_0 ?_
  refine ug_aload_n 0 dX4_life_8 rfl rfl ?_
  refine ug_getR kf_X4_11 (sk_r2 ho) dX4_life_9 ?_
  refine ug_bipush dX4_life_12 un_bipush_13 ?_
  refine ug_iload_n 1 dX4_life_14 rfl rfl ?_
  refine ug_iadd dX4_life_15 ?_
  obtain ⟨g1, h⟩ := ugd_some h
  refine ug_iald (sk_a ho) (uin_ok g1) dX4_life_16 ?_
  refine ug_iastK al_17 ui_0_8 uc_0 dX4_life_17 ?_
  refine ug_aload_n 0 dX4_life_18 rfl rfl ?_
  refine ug_getR kf_X4_19 (sk_r1 ho) dX4_life_19 ?_
  refine ug_getR kf_X4_88 gr_13_6 dX4_life_22 ?_
  refine ug_iconst dX4_life_25 un_iconst_1 ?_
  refine ug_aload_n 0 dX4_life_26 rfl rfl ?_
  refine ug_getR kf_X4_15 (sk_r0 ho) dX4_life_27 ?_
  refine ug_getI kf_X4_93 gi_3_2 dX4_life_30 ?_
  refine ug_iastK al_17 ui_1_8 uc_1 dX4_life_33 ?_
  refine ug_aload_n 0 dX4_life_34 rfl rfl ?_
  refine ug_getR kf_X4_19 (sk_r1 ho) dX4_life_35 ?_
  refine ug_getR kf_X4_88 gr_13_6 dX4_life_38 ?_
  refine ug_iconst dX4_life_41 un_iconst_2 ?_
  refine ug_aload_n 0 dX4_life_42 rfl rfl ?_
  refine ug_getR kf_X4_19 (sk_r1 ho) dX4_life_43 ?_
  refine ug_iconst dX4_life_46 un_iconst_2 ?_
  obtain ⟨m2, r3, h4, h⟩ := ubi_some h
  refine ug_callVi [.int 2] (c_X2_uses  h4) kc_X4_96 ro_13 rfl (S := [.int 2, .ref (ue_d E 17)]) rfl (Nat.le_of_ble_eq_true rfl) (Nat.le_of_ble_eq_true rfl) (Nat.le_of_ble_eq_true rfl) dX4_life_47 ?_
  refine ug_if_eq 64 dX4_life_50 (by decide) (fun q5 => ?_) (fun q5 => ?_)
  · rw [if_pos q5] at h
    refine ug_iconst dX4_life_64 un_iconst_0 ?_
    exact t_X4_life_b65 ho m2 x1 0 2 _ h
  · rw [if_neg q5] at h
    refine ug_aload_n 0 dX4_life_53 rfl rfl ?_
    refine ug_iload_n 1 dX4_life_54 rfl rfl ?_
    obtain ⟨m6, r7, h8, h⟩ := ubi_some h
    refine ug_callVi [.int x1] (c_X4_touching ho h8) kc_X4_80 (sk_o ho) rfl (S := [.int 2, .ref (ue_d E 17)]) rfl (Nat.le_of_ble_eq_true rfl) (Nat.le_of_ble_eq_true rfl) (Nat.le_of_ble_eq_true rfl) dX4_life_55 ?_
    obtain ⟨m9, r10, h11, h⟩ := ubi_some h
    refine ug_callSi [.int r7] (c_J6_bitCount_0f7a4  h11) kc_X4_83 rfl (S := [.int 2, .ref (ue_d E 17)]) rfl (Nat.le_of_ble_eq_true rfl) (Nat.le_of_ble_eq_true rfl) (Nat.le_of_ble_eq_true rfl) dX4_life_58 ?_
    refine ug_goto 65 dX4_life_61 (by decide) ?_
    exact t_X4_life_b65 ho m9 x1 r10 2 _ h
theorem c_X4_life {l : Launch} {E : Ue} {o : Nat} (ho : o = 23 ∨ o = 25) {mem : Um} {x1 : Int32} {m1 : Um} {r : Int32} (h : f_X4_life o mem x1 = some (m1, r)) : ucr l E 4 0 0 yX4_life cX4_life 2 (some .int) [.ref (ue_d E o), .int x1] mem (some (.int r)) m1 := ucr_of rfl (Nat.le_of_ble_eq_true rfl) (t_X4_life ho mem x1 _ h)
-- X4_breathe
def f_X4_breathe_b90 (o : Nat) (k54 : Um → Int32 → Int32 → Option (Um × Int32)) (mem : Um) (x2 : Int32) (x3 : Int32) : Option (Um × Int32) :=
  k54 mem x2 (x3 + 1)
set_option maxRecDepth 20000 in
theorem t_X4_breathe_b90 {l : Launch} {E : Ue} {o : Nat} (ho : o = 23 ∨ o = 25) (k54 : Um → Int32 → Int32 → Option (Um × Int32)) (hk54 : ∀ (mem : Um) (x2 : Int32) (x3 : Int32) (z : Um × Int32), k54 mem x2 x3 = some z → ug l E 5 0 0 cX4_breathe 4 RX4 (some .boolean) [] (uz_i z) 0 0 54 [(0, .ref (ue_d E o)), (2, .int x2), (3, .int x3)] [] mem) (mem : Um) (x2 : Int32) (x3 : Int32) (z : Um × Int32) (h : f_X4_breathe_b90 o k54 mem x2 x3 = some z) : ug l E 5 0 0 cX4_breathe 4 RX4 (some .boolean) [] (uz_i z) 0 0 90 [(0, .ref (ue_d E o)), (2, .int x2), (3, .int x3)] [] mem := by
  rw [f_X4_breathe_b90] at h
  refine ug_iinc (v := (x3 + 1)) [(3, .int (x3 + 1)), (0, .ref (ue_d E o)), (2, .int x2)] 2 dX4_breathe_90 rfl rfl (Nat.le_of_ble_eq_true rfl) rfl ?_
  refine ug_goto 54 dX4_breathe_93 (by decide) ?_
  refine ug_sub [(0, .ref (ue_d E o)), (2, .int x2), (3, .int (x3 + 1))] [1, 2, 0] rfl ?_
  exact hk54 mem x2 (x3 + 1) _ h
def f_X4_breathe_b54 (o : Nat) : Nat → Um → Int32 → Int32 → Option (Um × Int32)
  | 0, _, _, _ => none
  | n + 1, mem, x2, x3 =>
    if 5 ≤ x3 then (ubi (f_X4_burstAll o mem x2) (fun m2 r3 => some ((um_w m2 (o + 1) 0 ((m2 (o + 1) 0) + 1)), 1))) else (ubi (f_X4_has o mem x3) (fun m5 r6 => if r6 = 0 then (f_X4_breathe_b90 o (f_X4_breathe_b54 o n) m5 x2 x3) else (ugd (uin (23 + x3) 28) (ubi (f_X4_life o m5 x3) (fun m10 r11 => if (m5 (o + 1) (23 + x3).toNatClampNeg) < r11 then (f_X4_breathe_b90 o (f_X4_breathe_b54 o n) m10 x2 x3) else (f_X4_breathe_b90 o (f_X4_breathe_b54 o n) m10 (x2 ||| (1 <<< (x3 &&& 31))) x3))))))
set_option maxRecDepth 20000 in
theorem t_X4_breathe_b54 {l : Launch} {E : Ue} {o : Nat} (ho : o = 23 ∨ o = 25) : ∀ (n : Nat) (mem : Um) (x2 : Int32) (x3 : Int32) (z : Um × Int32), f_X4_breathe_b54 o n mem x2 x3 = some z → ug l E 5 0 0 cX4_breathe 4 RX4 (some .boolean) [] (uz_i z) 0 0 54 [(0, .ref (ue_d E o)), (2, .int x2), (3, .int x3)] [] mem := by
  intro n
  induction n with
  | zero =>
    intro mem x2 x3 z h
    rw [f_X4_breathe_b54] at h
    cases h
  | succ n ih =>
    intro mem x2 x3 z h
    rw [f_X4_breathe_b54] at h
    refine ug_iload_n 2 dX4_breathe_54 rfl rfl ?_
    refine ug_iconst dX4_breathe_55 un_iconst_5 ?_
    refine ug_icmp_ge 96 dX4_breathe_56 (by decide) (fun q1 => ?_) (fun q1 => ?_)
    · rw [if_pos q1] at h
      refine ug_aload_n 0 dX4_breathe_96 rfl rfl ?_
      refine ug_iload_n 1 dX4_breathe_97 rfl rfl ?_
      obtain ⟨m2, r3, h4, h⟩ := ubi_some h
      refine ug_callVv [.int x2] (c_X4_burstAll ho h4) kc_X4_122 (sk_o ho) rfl (S := []) rfl (Nat.le_of_ble_eq_true rfl) (Nat.le_of_ble_eq_true rfl) (Nat.le_of_ble_eq_true rfl) dX4_breathe_98 ?_
      refine ug_aload_n 0 dX4_breathe_101 rfl rfl ?_
      refine ug_getR kf_X4_11 (sk_r2 ho) dX4_breathe_102 ?_
      refine ug_iconst dX4_breathe_105 un_iconst_0 ?_
      refine ug_dup2 dX4_breathe_106 rfl rfl ?_
      refine ug_ialdK (sk_a ho) ui_0_28 uc_0 dX4_breathe_107 ?_
      refine ug_iconst dX4_breathe_108 un_iconst_1 ?_
      refine ug_iadd dX4_breathe_109 ?_
      refine ug_iastK (sk_a ho) ui_0_28 uc_0 dX4_breathe_110 ?_
      refine ug_iconst dX4_breathe_111 un_iconst_1 ?_
      obtain rfl := Option.some.inj h
      exact ug_zret (Or.inr rfl) dX4_breathe_112
    · rw [if_neg q1] at h
      refine ug_aload_n 0 dX4_breathe_59 rfl rfl ?_
      refine ug_iload_n 2 dX4_breathe_60 rfl rfl ?_
      obtain ⟨m5, r6, h7, h⟩ := ubi_some h
      refine ug_callVi [.int x3] (c_X4_has ho h7) kc_X4_47 (sk_o ho) rfl (S := []) rfl (Nat.le_of_ble_eq_true rfl) (Nat.le_of_ble_eq_true rfl) (Nat.le_of_ble_eq_true rfl) dX4_breathe_61 ?_
      refine ug_if_eq 90 dX4_breathe_64 (by decide) (fun q8 => ?_) (fun q8 => ?_)
      · rw [if_pos q8] at h
        exact t_X4_breathe_b90 ho (f_X4_breathe_b54 o n) ih m5 x2 x3 _ h
      · rw [if_neg q8] at h
        refine ug_aload_n 0 dX4_breathe_67 rfl rfl ?_
        refine ug_getR kf_X4_11 (sk_r2 ho) dX4_breathe_68 ?_
        refine ug_bipush dX4_breathe_71 un_bipush_23 ?_
        refine ug_iload_n 2 dX4_breathe_73 rfl rfl ?_
        refine ug_iadd dX4_breathe_74 ?_
        obtain ⟨g9, h⟩ := ugd_some h
        refine ug_iald (sk_a ho) (uin_ok g9) dX4_breathe_75 ?_
        refine ug_aload_n 0 dX4_breathe_76 rfl rfl ?_
        refine ug_iload_n 2 dX4_breathe_77 rfl rfl ?_
        obtain ⟨m10, r11, h12, h⟩ := ubi_some h
        refine ug_callVi [.int x3] (c_X4_life ho h12) kc_X4_133 (sk_o ho) rfl (S := [.int (m5 (o + 1) (23 + x3).toNatClampNeg)]) rfl (Nat.le_of_ble_eq_true rfl) (Nat.le_of_ble_eq_true rfl) (Nat.le_of_ble_eq_true rfl) dX4_breathe_78 ?_
        refine ug_icmp_lt 90 dX4_breathe_81 (by decide) (fun q13 => ?_) (fun q13 => ?_)
        · rw [if_pos q13] at h
          exact t_X4_breathe_b90 ho (f_X4_breathe_b54 o n) ih m10 x2 x3 _ h
        · rw [if_neg q13] at h
          refine ug_iload_n 1 dX4_breathe_84 rfl rfl ?_
          refine ug_iconst dX4_breathe_85 un_iconst_1 ?_
          refine ug_iload_n 2 dX4_breathe_86 rfl rfl ?_
          refine ug_ishl dX4_breathe_87 ?_
          refine ug_ior dX4_breathe_88 ?_
          refine ug_istore_n [(2, .int (x2 ||| (1 <<< (x3 &&& 31)))), (0, .ref (ue_d E o)), (3, .int x3)] dX4_breathe_89 rfl (Nat.le_of_ble_eq_true rfl) rfl ?_
          refine ug_sub [(0, .ref (ue_d E o)), (2, .int (x2 ||| (1 <<< (x3 &&& 31)))), (3, .int x3)] [1, 0, 2] rfl ?_
          exact t_X4_breathe_b90 ho (f_X4_breathe_b54 o n) ih m10 (x2 ||| (1 <<< (x3 &&& 31))) x3 _ h
def f_X4_breathe_b42 (o : Nat) (k14 : Um → Int32 → Option (Um × Int32)) (mem : Um) (x2 : Int32) (y0 : Int32) (y1 : Int32) (y2 : Int32) : Option (Um × Int32) :=
  ugd (uin y2 28) (k14 (um_w mem (o + 1) y2.toNatClampNeg (y1 + y0)) (x2 + 1))
set_option maxRecDepth 20000 in
theorem t_X4_breathe_b42 {l : Launch} {E : Ue} {o : Nat} (ho : o = 23 ∨ o = 25) (k14 : Um → Int32 → Option (Um × Int32)) (hk14 : ∀ (mem : Um) (x2 : Int32) (z : Um × Int32), k14 mem x2 = some z → ug l E 5 0 0 cX4_breathe 4 RX4 (some .boolean) [] (uz_i z) 0 0 14 [(0, .ref (ue_d E o)), (2, .int x2)] [] mem) (mem : Um) (x2 : Int32) (y0 : Int32) (y1 : Int32) (y2 : Int32) (z : Um × Int32) (h : f_X4_breathe_b42 o k14 mem x2 y0 y1 y2 = some z) : ug l E 5 0 0 cX4_breathe 4 RX4 (some .boolean) [] (uz_i z) 0 0 42 [(0, .ref (ue_d E o)), (2, .int x2)] [.int y0, .int y1, .int y2, .ref (ue_d E (o + 1))] mem := by
  rw [f_X4_breathe_b42] at h
  refine ug_iadd dX4_breathe_42 ?_
  obtain ⟨g1, h⟩ := ugd_some h
  refine ug_iast (sk_a ho) (uin_ok g1) dX4_breathe_43 ?_
  refine ug_iinc (v := (x2 + 1)) [(2, .int (x2 + 1)), (0, .ref (ue_d E o))] 1 dX4_breathe_44 rfl rfl (Nat.le_of_ble_eq_true rfl) rfl ?_
  refine ug_goto 14 dX4_breathe_47 (by decide) ?_
  refine ug_sub [(0, .ref (ue_d E o)), (2, .int (x2 + 1))] [1, 0] rfl ?_
  exact hk14 (um_w mem (o + 1) y2.toNatClampNeg (y1 + y0)) (x2 + 1) _ h
def f_X4_breathe_b14 (o : Nat) : Nat → Um → Int32 → Option (Um × Int32)
  | 0, _, _ => none
  | n + 1, mem, x2 =>
    if 5 ≤ x2 then (f_X4_breathe_b54 o UF mem 0 0) else (ugd (uin (23 + x2) 28) (ubi (f_X4_has o mem x2) (fun m3 r4 => if r4 = 0 then (f_X4_breathe_b42 o (f_X4_breathe_b14 o n) m3 x2 0 (mem (o + 1) (23 + x2).toNatClampNeg) (23 + x2)) else (f_X4_breathe_b42 o (f_X4_breathe_b14 o n) m3 x2 1 (mem (o + 1) (23 + x2).toNatClampNeg) (23 + x2)))))
set_option maxRecDepth 20000 in
theorem t_X4_breathe_b14 {l : Launch} {E : Ue} {o : Nat} (ho : o = 23 ∨ o = 25) : ∀ (n : Nat) (mem : Um) (x2 : Int32) (z : Um × Int32), f_X4_breathe_b14 o n mem x2 = some z → ug l E 5 0 0 cX4_breathe 4 RX4 (some .boolean) [] (uz_i z) 0 0 14 [(0, .ref (ue_d E o)), (2, .int x2)] [] mem := by
  intro n
  induction n with
  | zero =>
    intro mem x2 z h
    rw [f_X4_breathe_b14] at h
    cases h
  | succ n ih =>
    intro mem x2 z h
    rw [f_X4_breathe_b14] at h
    refine ug_iload_n 1 dX4_breathe_14 rfl rfl ?_
    refine ug_iconst dX4_breathe_15 un_iconst_5 ?_
    refine ug_icmp_ge 50 dX4_breathe_16 (by decide) (fun q1 => ?_) (fun q1 => ?_)
    · rw [if_pos q1] at h
      refine ug_iconst dX4_breathe_50 un_iconst_0 ?_
      refine ug_istore_n [(2, .int 0), (0, .ref (ue_d E o))] dX4_breathe_51 rfl (Nat.le_of_ble_eq_true rfl) rfl ?_
      refine ug_iconst dX4_breathe_52 un_iconst_0 ?_
      refine ug_istore_n [(3, .int 0), (2, .int 0), (0, .ref (ue_d E o))] dX4_breathe_53 rfl (Nat.le_of_ble_eq_true rfl) rfl ?_
      refine ug_sub [(0, .ref (ue_d E o)), (2, .int 0), (3, .int 0)] [2, 1, 0] rfl ?_
      exact t_X4_breathe_b54 ho UF mem 0 0 _ h
    · rw [if_neg q1] at h
      refine ug_aload_n 0 dX4_breathe_19 rfl rfl ?_
      refine ug_getR kf_X4_11 (sk_r2 ho) dX4_breathe_20 ?_
      refine ug_bipush dX4_breathe_23 un_bipush_23 ?_
      refine ug_iload_n 1 dX4_breathe_25 rfl rfl ?_
      refine ug_iadd dX4_breathe_26 ?_
      refine ug_dup2 dX4_breathe_27 rfl rfl ?_
      obtain ⟨g2, h⟩ := ugd_some h
      refine ug_iald (sk_a ho) (uin_ok g2) dX4_breathe_28 ?_
      refine ug_aload_n 0 dX4_breathe_29 rfl rfl ?_
      refine ug_iload_n 1 dX4_breathe_30 rfl rfl ?_
      obtain ⟨m3, r4, h5, h⟩ := ubi_some h
      refine ug_callVi [.int x2] (c_X4_has ho h5) kc_X4_47 (sk_o ho) rfl (S := [.int (mem (o + 1) (23 + x2).toNatClampNeg), .int (23 + x2), .ref (ue_d E (o + 1))]) rfl (Nat.le_of_ble_eq_true rfl) (Nat.le_of_ble_eq_true rfl) (Nat.le_of_ble_eq_true rfl) dX4_breathe_31 ?_
      refine ug_if_eq 41 dX4_breathe_34 (by decide) (fun q6 => ?_) (fun q6 => ?_)
      · rw [if_pos q6] at h
        refine ug_iconst dX4_breathe_41 un_iconst_0 ?_
        exact t_X4_breathe_b42 ho (f_X4_breathe_b14 o n) ih m3 x2 0 (mem (o + 1) (23 + x2).toNatClampNeg) (23 + x2) _ h
      · rw [if_neg q6] at h
        refine ug_iconst dX4_breathe_37 un_iconst_1 ?_
        refine ug_goto 42 dX4_breathe_38 (by decide) ?_
        exact t_X4_breathe_b42 ho (f_X4_breathe_b14 o n) ih m3 x2 1 (mem (o + 1) (23 + x2).toNatClampNeg) (23 + x2) _ h
def f_X4_breathe (o : Nat) (mem : Um) (x1 : Int32) : Option (Um × Int32) :=
  if (mem (o + 1) 0) < x1 then (f_X4_breathe_b14 o UF mem 0) else (some (mem, 0))
set_option maxRecDepth 20000 in
theorem t_X4_breathe {l : Launch} {E : Ue} {o : Nat} (ho : o = 23 ∨ o = 25) (mem : Um) (x1 : Int32) (z : Um × Int32) (h : f_X4_breathe o mem x1 = some z) : ug l E 5 0 0 cX4_breathe 4 RX4 (some .boolean) [] (uz_i z) 0 0 0 [(0, .ref (ue_d E o)), (1, .int x1)] [] mem := by
  rw [f_X4_breathe] at h
  refine ug_aload_n 0 dX4_breathe_0 rfl rfl ?_
  refine ug_getR kf_X4_11 (sk_r2 ho) dX4_breathe_1 ?_
  refine ug_iconst dX4_breathe_4 un_iconst_0 ?_
  refine ug_ialdK (sk_a ho) ui_0_28 uc_0 dX4_breathe_5 ?_
  refine ug_iload_n 1 dX4_breathe_6 rfl rfl ?_
  refine ug_icmp_lt 12 dX4_breathe_7 (by decide) (fun q1 => ?_) (fun q1 => ?_)
  · rw [if_pos q1] at h
    refine ug_iconst dX4_breathe_12 un_iconst_0 ?_
    refine ug_istore_n [(2, .int 0), (0, .ref (ue_d E o)), (1, .int x1)] dX4_breathe_13 rfl (Nat.le_of_ble_eq_true rfl) rfl ?_
    refine ug_sub [(0, .ref (ue_d E o)), (2, .int 0)] [1, 0] rfl ?_
    exact t_X4_breathe_b14 ho UF mem 0 _ h
  · rw [if_neg q1] at h
    refine ug_iconst dX4_breathe_10 un_iconst_0 ?_
    obtain rfl := Option.some.inj h
    exact ug_zret (Or.inl rfl) dX4_breathe_11
theorem c_X4_breathe {l : Launch} {E : Ue} {o : Nat} (ho : o = 23 ∨ o = 25) {mem : Um} {x1 : Int32} {m1 : Um} {r : Int32} (h : f_X4_breathe o mem x1 = some (m1, r)) : ucr l E 5 0 0 yX4_breathe cX4_breathe 4 (some .boolean) [.ref (ue_d E o), .int x1] mem (some (.int r)) m1 := ucr_of rfl (Nat.le_of_ble_eq_true rfl) (t_X4_breathe ho mem x1 _ h)
-- X6_isDone
def f_X6_isDone (mem : Um) (x2 : Int32) : Option (Um × Int32) :=
  ugd (uin (x2 + 1) 100) (ugd (uin (x2 + 2) 100) (ugd (uin x2 100) (if (mem 22 x2.toNatClampNeg) = 0 then (ubi (f_X4_blow 23 mem (mem 22 (x2 + 1).toNatClampNeg) (mem 22 (x2 + 2).toNatClampNeg)) (fun m5 r6 => ugd (ub01 r6) (some (m5, r6)))) else (if (mem 22 x2.toNatClampNeg) = 1 then (ubi (f_X4_drift 23 mem (mem 22 (x2 + 1).toNatClampNeg)) (fun m10 r11 => ugd (ub01 r11) (some (m10, r11)))) else (if (mem 22 x2.toNatClampNeg) = 2 then (ubi (f_X4_drift 23 mem (-(mem 22 (x2 + 1).toNatClampNeg))) (fun m15 r16 => ugd (ub01 r16) (some (m15, r16)))) else (if (mem 22 x2.toNatClampNeg) = 3 then (ubi (f_X4_runTo 23 mem (mem 22 (x2 + 1).toNatClampNeg) (mem 22 (x2 + 2).toNatClampNeg)) (fun m20 r21 => ugd (ub01 r21) (some (m20, r21)))) else (if (mem 22 x2.toNatClampNeg) = 4 then (ugd (uin (x2 + 3) 100) (ubi (f_X4_sellFor 23 mem (mem 22 (x2 + 1).toNatClampNeg) (mem 22 (x2 + 2).toNatClampNeg) (mem 22 (x2 + 3).toNatClampNeg)) (fun m26 r27 => ugd (ub01 r27) (some (m26, r27))))) else (if (mem 22 x2.toNatClampNeg) = 5 then (ubi (f_X4_keepUp 23 mem (mem 22 (x2 + 1).toNatClampNeg)) (fun m31 r32 => ugd (ub01 r32) (some (m31, r32)))) else (ubi (f_X4_breathe 23 mem 400) (fun m35 r36 => ugd (ub01 r36) (some (m35, r36))))))))))))
set_option maxRecDepth 20000 in
theorem t_X6_isDone {l : Launch} {E : Ue} (mem : Um) (x2 : Int32) (z : Um × Int32) (h : f_X6_isDone  mem x2 = some z) : ug l E 6 0 0 cX6_isDone 5 RX6 (some .boolean) [] (uz_i z) 0 0 0 [(0, .ref (ue_d E 21)), (1, .ref (ue_d E 23)), (2, .int x2)] [] mem := by
  rw [f_X6_isDone] at h
  refine ug_aload_n 0 dX6_isDone_0 rfl rfl ?_
  refine ug_getR kf_X6_11 gr_21_0 dX6_isDone_1 ?_
  refine ug_iload_n 2 dX6_isDone_4 rfl rfl ?_
  refine ug_iconst dX6_isDone_5 un_iconst_1 ?_
  refine ug_iadd dX6_isDone_6 ?_
  obtain ⟨g1, h⟩ := ugd_some h
  refine ug_iald al_22 (uin_ok g1) dX6_isDone_7 ?_
  refine ug_istore_n [(3, .int (mem 22 (x2 + 1).toNatClampNeg)), (0, .ref (ue_d E 21)), (1, .ref (ue_d E 23)), (2, .int x2)] dX6_isDone_8 rfl (Nat.le_of_ble_eq_true rfl) rfl ?_
  refine ug_aload_n 1 dX6_isDone_9 rfl rfl ?_
  refine ug_getR kf_X6_11 gr_21_0 dX6_isDone_10 ?_
  refine ug_iload_n 3 dX6_isDone_13 rfl rfl ?_
  refine ug_iconst dX6_isDone_14 un_iconst_2 ?_
  refine ug_iadd dX6_isDone_15 ?_
  obtain ⟨g2, h⟩ := ugd_some h
  refine ug_iald al_22 (uin_ok g2) dX6_isDone_16 ?_
  refine ug_istore [(4, .int (mem 22 (x2 + 2).toNatClampNeg)), (3, .int (mem 22 (x2 + 1).toNatClampNeg)), (0, .ref (ue_d E 21)), (1, .ref (ue_d E 23)), (2, .int x2)] dX6_isDone_17 (Nat.le_of_ble_eq_true rfl) rfl ?_
  refine ug_aload_n 2 dX6_isDone_19 rfl rfl ?_
  refine ug_getR kf_X6_11 gr_21_0 dX6_isDone_20 ?_
  refine ug_iload_n 4 dX6_isDone_23 rfl rfl ?_
  obtain ⟨g3, h⟩ := ugd_some h
  refine ug_iald al_22 (uin_ok g3) dX6_isDone_24 ?_
  by_cases q4 : (mem 22 x2.toNatClampNeg) = 0
  · rw [if_pos q4] at h
    refine ug_tswI 64 dX6_isDone_25 (by rw [q4]; decide) (by rw [q4]; decide) (by rw [q4]; rfl) (by decide) ?_
    refine ug_aload_n 3 dX6_isDone_64 rfl rfl ?_
    refine ug_iload_n 1 dX6_isDone_65 rfl rfl ?_
    refine ug_iload 0 dX6_isDone_66 rfl ?_
    obtain ⟨m5, r6, h7, h⟩ := ubi_some h
    refine ug_callVi [.int (mem 22 (x2 + 1).toNatClampNeg), .int (mem 22 (x2 + 2).toNatClampNeg)] (c_X4_blow (Or.inl rfl) h7) kc_X6_116 ro_23 rfl (S := []) rfl (Nat.le_of_ble_eq_true rfl) (Nat.le_of_ble_eq_true rfl) (Nat.le_of_ble_eq_true rfl) dX6_isDone_68 ?_
    obtain ⟨g8, h⟩ := ugd_some h
    obtain rfl := Option.some.inj h
    exact ug_zret (of_decide_eq_true g8) dX6_isDone_71
  · rw [if_neg q4] at h
    by_cases q9 : (mem 22 x2.toNatClampNeg) = 1
    · rw [if_pos q9] at h
      refine ug_tswI 72 dX6_isDone_25 (by rw [q9]; decide) (by rw [q9]; decide) (by rw [q9]; rfl) (by decide) ?_
      refine ug_aload_n 3 dX6_isDone_72 rfl rfl ?_
      refine ug_iload_n 1 dX6_isDone_73 rfl rfl ?_
      obtain ⟨m10, r11, h12, h⟩ := ubi_some h
      refine ug_callVi [.int (mem 22 (x2 + 1).toNatClampNeg)] (c_X4_drift (Or.inl rfl) h12) kc_X6_120 ro_23 rfl (S := []) rfl (Nat.le_of_ble_eq_true rfl) (Nat.le_of_ble_eq_true rfl) (Nat.le_of_ble_eq_true rfl) dX6_isDone_74 ?_
      obtain ⟨g13, h⟩ := ugd_some h
      obtain rfl := Option.some.inj h
      exact ug_zret (of_decide_eq_true g13) dX6_isDone_77
    · rw [if_neg q9] at h
      by_cases q14 : (mem 22 x2.toNatClampNeg) = 2
      · rw [if_pos q14] at h
        refine ug_tswI 78 dX6_isDone_25 (by rw [q14]; decide) (by rw [q14]; decide) (by rw [q14]; rfl) (by decide) ?_
        refine ug_aload_n 3 dX6_isDone_78 rfl rfl ?_
        refine ug_iload_n 1 dX6_isDone_79 rfl rfl ?_
        refine ug_ineg dX6_isDone_80 ?_
        obtain ⟨m15, r16, h17, h⟩ := ubi_some h
        refine ug_callVi [.int (-(mem 22 (x2 + 1).toNatClampNeg))] (c_X4_drift (Or.inl rfl) h17) kc_X6_120 ro_23 rfl (S := []) rfl (Nat.le_of_ble_eq_true rfl) (Nat.le_of_ble_eq_true rfl) (Nat.le_of_ble_eq_true rfl) dX6_isDone_81 ?_
        obtain ⟨g18, h⟩ := ugd_some h
        obtain rfl := Option.some.inj h
        exact ug_zret (of_decide_eq_true g18) dX6_isDone_84
      · rw [if_neg q14] at h
        by_cases q19 : (mem 22 x2.toNatClampNeg) = 3
        · rw [if_pos q19] at h
          refine ug_tswI 85 dX6_isDone_25 (by rw [q19]; decide) (by rw [q19]; decide) (by rw [q19]; rfl) (by decide) ?_
          refine ug_aload_n 3 dX6_isDone_85 rfl rfl ?_
          refine ug_iload_n 1 dX6_isDone_86 rfl rfl ?_
          refine ug_iload 0 dX6_isDone_87 rfl ?_
          obtain ⟨m20, r21, h22, h⟩ := ubi_some h
          refine ug_callVi [.int (mem 22 (x2 + 1).toNatClampNeg), .int (mem 22 (x2 + 2).toNatClampNeg)] (c_X4_runTo (Or.inl rfl) h22) kc_X6_123 ro_23 rfl (S := []) rfl (Nat.le_of_ble_eq_true rfl) (Nat.le_of_ble_eq_true rfl) (Nat.le_of_ble_eq_true rfl) dX6_isDone_89 ?_
          obtain ⟨g23, h⟩ := ugd_some h
          obtain rfl := Option.some.inj h
          exact ug_zret (of_decide_eq_true g23) dX6_isDone_92
        · rw [if_neg q19] at h
          by_cases q24 : (mem 22 x2.toNatClampNeg) = 4
          · rw [if_pos q24] at h
            refine ug_tswI 93 dX6_isDone_25 (by rw [q24]; decide) (by rw [q24]; decide) (by rw [q24]; rfl) (by decide) ?_
            refine ug_aload_n 3 dX6_isDone_93 rfl rfl ?_
            refine ug_iload_n 1 dX6_isDone_94 rfl rfl ?_
            refine ug_iload 0 dX6_isDone_95 rfl ?_
            refine ug_aload_n 2 dX6_isDone_97 rfl rfl ?_
            refine ug_getR kf_X6_11 gr_21_0 dX6_isDone_98 ?_
            refine ug_iload_n 4 dX6_isDone_101 rfl rfl ?_
            refine ug_iconst dX6_isDone_102 un_iconst_3 ?_
            refine ug_iadd dX6_isDone_103 ?_
            obtain ⟨g25, h⟩ := ugd_some h
            refine ug_iald al_22 (uin_ok g25) dX6_isDone_104 ?_
            obtain ⟨m26, r27, h28, h⟩ := ubi_some h
            refine ug_callVi [.int (mem 22 (x2 + 1).toNatClampNeg), .int (mem 22 (x2 + 2).toNatClampNeg), .int (mem 22 (x2 + 3).toNatClampNeg)] (c_X4_sellFor (Or.inl rfl) h28) kc_X6_126 ro_23 rfl (S := []) rfl (Nat.le_of_ble_eq_true rfl) (Nat.le_of_ble_eq_true rfl) (Nat.le_of_ble_eq_true rfl) dX6_isDone_105 ?_
            obtain ⟨g29, h⟩ := ugd_some h
            obtain rfl := Option.some.inj h
            exact ug_zret (of_decide_eq_true g29) dX6_isDone_108
          · rw [if_neg q24] at h
            by_cases q30 : (mem 22 x2.toNatClampNeg) = 5
            · rw [if_pos q30] at h
              refine ug_tswI 109 dX6_isDone_25 (by rw [q30]; decide) (by rw [q30]; decide) (by rw [q30]; rfl) (by decide) ?_
              refine ug_aload_n 3 dX6_isDone_109 rfl rfl ?_
              refine ug_iload_n 1 dX6_isDone_110 rfl rfl ?_
              obtain ⟨m31, r32, h33, h⟩ := ubi_some h
              refine ug_callVi [.int (mem 22 (x2 + 1).toNatClampNeg)] (c_X4_keepUp (Or.inl rfl) h33) kc_X6_130 ro_23 rfl (S := []) rfl (Nat.le_of_ble_eq_true rfl) (Nat.le_of_ble_eq_true rfl) (Nat.le_of_ble_eq_true rfl) dX6_isDone_111 ?_
              obtain ⟨g34, h⟩ := ugd_some h
              obtain rfl := Option.some.inj h
              exact ug_zret (of_decide_eq_true g34) dX6_isDone_114
            · rw [if_neg q30] at h
              refine ug_tswO 115 dX6_isDone_25 (utsw_0_5 q4 q9 q14 q19 q24 q30) (by decide) ?_
              refine ug_aload_n 3 dX6_isDone_115 rfl rfl ?_
              refine ug_sipush dX6_isDone_116 un_sipush_400 ?_
              obtain ⟨m35, r36, h37, h⟩ := ubi_some h
              refine ug_callVi [.int 400] (c_X4_breathe (Or.inl rfl) h37) kc_X6_133 ro_23 rfl (S := []) rfl (Nat.le_of_ble_eq_true rfl) (Nat.le_of_ble_eq_true rfl) (Nat.le_of_ble_eq_true rfl) dX6_isDone_119 ?_
              obtain ⟨g38, h⟩ := ugd_some h
              obtain rfl := Option.some.inj h
              exact ug_zret (of_decide_eq_true g38) dX6_isDone_122
theorem c_X6_isDone {l : Launch} {E : Ue} {mem : Um} {x2 : Int32} {m1 : Um} {r : Int32} (h : f_X6_isDone  mem x2 = some (m1, r)) : ucr l E 6 0 0 yX6_isDone cX6_isDone 5 (some .boolean) [.ref (ue_d E 21), .ref (ue_d E 23), .int x2] mem (some (.int r)) m1 := ucr_of rfl (Nat.le_of_ble_eq_true rfl) (t_X6_isDone  mem x2 _ h)
