-- X4_touching
def f_X4_touching_b24 (o : Nat) (k4 : Um → Int32 → Int32 → Int32 → Option (Um × Int32)) (mem : Um) (x1 : Int32) (x2 : Int32) (x3 : Int32) : Option (Um × Int32) :=
  k4 mem x1 x2 (x3 + 1)
set_option maxRecDepth 20000 in
theorem t_X4_touching_b24 {l : Launch} {E : Ue} {o : Nat} (ho : o = 23 ∨ o = 25) (k4 : Um → Int32 → Int32 → Int32 → Option (Um × Int32)) (hk4 : ∀ (mem : Um) (x1 : Int32) (x2 : Int32) (x3 : Int32) (z : Um × Int32), k4 mem x1 x2 x3 = some z → ug l E 4 0 0 cX4_touching 4 RX4 (some .int) [] (uz_i z) 0 0 4 [(0, .ref (ue_d E o)), (1, .int x1), (2, .int x2), (3, .int x3)] [] mem) (mem : Um) (x1 : Int32) (x2 : Int32) (x3 : Int32) (z : Um × Int32) (h : f_X4_touching_b24 o k4 mem x1 x2 x3 = some z) : ug l E 4 0 0 cX4_touching 4 RX4 (some .int) [] (uz_i z) 0 0 24 [(0, .ref (ue_d E o)), (1, .int x1), (2, .int x2), (3, .int x3)] [] mem := by
  rw [f_X4_touching_b24] at h
  refine ug_iinc (v := (x3 + 1)) [(3, .int (x3 + 1)), (0, .ref (ue_d E o)), (1, .int x1), (2, .int x2)] 3 dX4_touching_24 rfl rfl (Nat.le_of_ble_eq_true rfl) rfl ?_
  refine ug_goto 4 dX4_touching_27 (by decide) ?_
  refine ug_sub [(0, .ref (ue_d E o)), (1, .int x1), (2, .int x2), (3, .int (x3 + 1))] [1, 2, 3, 0] rfl ?_
  exact hk4 mem x1 x2 (x3 + 1) _ h
def f_X4_touching_b4 (o : Nat) : Nat → Um → Int32 → Int32 → Int32 → Option (Um × Int32)
  | 0, _, _, _, _ => none
  | n + 1, mem, x1, x2, x3 =>
    if 5 ≤ x3 then (some (mem, x2)) else (ubi (f_X4_touch o mem x1 x3) (fun m2 r3 => if r3 = 0 then (f_X4_touching_b24 o (f_X4_touching_b4 o n) m2 x1 x2 x3) else (f_X4_touching_b24 o (f_X4_touching_b4 o n) m2 x1 (x2 ||| (1 <<< (x3 &&& 31))) x3)))
set_option maxRecDepth 20000 in
theorem t_X4_touching_b4 {l : Launch} {E : Ue} {o : Nat} (ho : o = 23 ∨ o = 25) : ∀ (n : Nat) (mem : Um) (x1 : Int32) (x2 : Int32) (x3 : Int32) (z : Um × Int32), f_X4_touching_b4 o n mem x1 x2 x3 = some z → ug l E 4 0 0 cX4_touching 4 RX4 (some .int) [] (uz_i z) 0 0 4 [(0, .ref (ue_d E o)), (1, .int x1), (2, .int x2), (3, .int x3)] [] mem := by
  intro n
  induction n with
  | zero =>
    intro mem x1 x2 x3 z h
    rw [f_X4_touching_b4] at h
    cases h
  | succ n ih =>
    intro mem x1 x2 x3 z h
    rw [f_X4_touching_b4] at h
    refine ug_iload_n 3 dX4_touching_4 rfl rfl ?_
    refine ug_iconst dX4_touching_5 un_iconst_5 ?_
    refine ug_icmp_ge 30 dX4_touching_6 (by decide) (fun q1 => ?_) (fun q1 => ?_)
    · rw [if_pos q1] at h
      refine ug_iload_n 2 dX4_touching_30 rfl rfl ?_
      obtain rfl := Option.some.inj h
      exact ug_iret dX4_touching_31
    · rw [if_neg q1] at h
      refine ug_aload_n 0 dX4_touching_9 rfl rfl ?_
      refine ug_iload_n 1 dX4_touching_10 rfl rfl ?_
      refine ug_iload_n 3 dX4_touching_11 rfl rfl ?_
      obtain ⟨m2, r3, h4, h⟩ := ubi_some h
      refine ug_callVi [.int x1, .int x3] (c_X4_touch ho h4) kc_X4_83 (sk_o ho) rfl (S := []) rfl (Nat.le_of_ble_eq_true rfl) (Nat.le_of_ble_eq_true rfl) (Nat.le_of_ble_eq_true rfl) dX4_touching_12 ?_
      refine ug_if_eq 24 dX4_touching_15 (by decide) (fun q5 => ?_) (fun q5 => ?_)
      · rw [if_pos q5] at h
        exact t_X4_touching_b24 ho (f_X4_touching_b4 o n) ih m2 x1 x2 x3 _ h
      · rw [if_neg q5] at h
        refine ug_iload_n 2 dX4_touching_18 rfl rfl ?_
        refine ug_iconst dX4_touching_19 un_iconst_1 ?_
        refine ug_iload_n 3 dX4_touching_20 rfl rfl ?_
        refine ug_ishl dX4_touching_21 ?_
        refine ug_ior dX4_touching_22 ?_
        refine ug_istore_n [(2, .int (x2 ||| (1 <<< (x3 &&& 31)))), (0, .ref (ue_d E o)), (1, .int x1), (3, .int x3)] dX4_touching_23 rfl (Nat.le_of_ble_eq_true rfl) rfl ?_
        refine ug_sub [(0, .ref (ue_d E o)), (1, .int x1), (2, .int (x2 ||| (1 <<< (x3 &&& 31)))), (3, .int x3)] [1, 2, 0, 3] rfl ?_
        exact t_X4_touching_b24 ho (f_X4_touching_b4 o n) ih m2 x1 (x2 ||| (1 <<< (x3 &&& 31))) x3 _ h
def f_X4_touching (o : Nat) (mem : Um) (x1 : Int32) : Option (Um × Int32) :=
  f_X4_touching_b4 o UF mem x1 0 0
set_option maxRecDepth 20000 in
theorem t_X4_touching {l : Launch} {E : Ue} {o : Nat} (ho : o = 23 ∨ o = 25) (mem : Um) (x1 : Int32) (z : Um × Int32) (h : f_X4_touching o mem x1 = some z) : ug l E 4 0 0 cX4_touching 4 RX4 (some .int) [] (uz_i z) 0 0 0 [(0, .ref (ue_d E o)), (1, .int x1)] [] mem := by
  rw [f_X4_touching] at h
  refine ug_iconst dX4_touching_0 un_iconst_0 ?_
  refine ug_istore_n [(2, .int 0), (0, .ref (ue_d E o)), (1, .int x1)] dX4_touching_1 rfl (Nat.le_of_ble_eq_true rfl) rfl ?_
  refine ug_iconst dX4_touching_2 un_iconst_0 ?_
  refine ug_istore_n [(3, .int 0), (2, .int 0), (0, .ref (ue_d E o)), (1, .int x1)] dX4_touching_3 rfl (Nat.le_of_ble_eq_true rfl) rfl ?_
  refine ug_sub [(0, .ref (ue_d E o)), (1, .int x1), (2, .int 0), (3, .int 0)] [2, 3, 1, 0] rfl ?_
  exact t_X4_touching_b4 ho UF mem x1 0 0 _ h
theorem c_X4_touching {l : Launch} {E : Ue} {o : Nat} (ho : o = 23 ∨ o = 25) {mem : Um} {x1 : Int32} {m1 : Um} {r : Int32} (h : f_X4_touching o mem x1 = some (m1, r)) : ucr l E 4 0 0 yX4_touching cX4_touching 4 (some .int) [.ref (ue_d E o), .int x1] mem (some (.int r)) m1 := ucr_of rfl (Nat.le_of_ble_eq_true rfl) (t_X4_touching ho mem x1 _ h)
-- J6_bitCount_0f7a4
def f_J6_bitCount_0f7a4 (mem : Um) (x0 : Int32) : Option (Um × Int32) :=
  some (mem, ((((((((x0 - ((uus x0 1) &&& 1431655765)) &&& 858993459) + ((uus (x0 - ((uus x0 1) &&& 1431655765)) 2) &&& 858993459)) + (uus (((x0 - ((uus x0 1) &&& 1431655765)) &&& 858993459) + ((uus (x0 - ((uus x0 1) &&& 1431655765)) 2) &&& 858993459)) 4)) &&& 252645135) + (uus (((((x0 - ((uus x0 1) &&& 1431655765)) &&& 858993459) + ((uus (x0 - ((uus x0 1) &&& 1431655765)) 2) &&& 858993459)) + (uus (((x0 - ((uus x0 1) &&& 1431655765)) &&& 858993459) + ((uus (x0 - ((uus x0 1) &&& 1431655765)) 2) &&& 858993459)) 4)) &&& 252645135) 8)) + (uus ((((((x0 - ((uus x0 1) &&& 1431655765)) &&& 858993459) + ((uus (x0 - ((uus x0 1) &&& 1431655765)) 2) &&& 858993459)) + (uus (((x0 - ((uus x0 1) &&& 1431655765)) &&& 858993459) + ((uus (x0 - ((uus x0 1) &&& 1431655765)) 2) &&& 858993459)) 4)) &&& 252645135) + (uus (((((x0 - ((uus x0 1) &&& 1431655765)) &&& 858993459) + ((uus (x0 - ((uus x0 1) &&& 1431655765)) 2) &&& 858993459)) + (uus (((x0 - ((uus x0 1) &&& 1431655765)) &&& 858993459) + ((uus (x0 - ((uus x0 1) &&& 1431655765)) 2) &&& 858993459)) 4)) &&& 252645135) 8)) 16)) &&& 63))
set_option maxRecDepth 20000 in
theorem t_J6_bitCount_0f7a4 {l : Launch} {E : Ue} (mem : Um) (x0 : Int32) (z : Um × Int32) (h : f_J6_bitCount_0f7a4  mem x0 = some z) : ug l E 2 0 0 cJ6_bitCount_0f7a4 1 RJ6 (some .int) [] (uz_i z) 0 0 0 [(0, .int x0)] [] mem := by
  rw [f_J6_bitCount_0f7a4] at h
  refine ug_iload_n 0 dJ6_bitCount_0f7a4_0 rfl rfl ?_
  refine ug_iload_n 0 dJ6_bitCount_0f7a4_1 rfl rfl ?_
  refine ug_iconst dJ6_bitCount_0f7a4_2 un_iconst_1 ?_
  refine ug_iushr dJ6_bitCount_0f7a4_3 ?_
  refine ug_ldcw kk_J6_265 dJ6_bitCount_0f7a4_4 ?_
  refine ug_iand dJ6_bitCount_0f7a4_7 ?_
  refine ug_isub dJ6_bitCount_0f7a4_8 ?_
  refine ug_istore_n [(0, .int (x0 - ((uus x0 1) &&& 1431655765)))] dJ6_bitCount_0f7a4_9 rfl (Nat.le_of_ble_eq_true rfl) rfl ?_
  refine ug_iload_n 0 dJ6_bitCount_0f7a4_10 rfl rfl ?_
  refine ug_ldcw kk_J6_266 dJ6_bitCount_0f7a4_11 ?_
  refine ug_iand dJ6_bitCount_0f7a4_14 ?_
  refine ug_iload_n 0 dJ6_bitCount_0f7a4_15 rfl rfl ?_
  refine ug_iconst dJ6_bitCount_0f7a4_16 un_iconst_2 ?_
  refine ug_iushr dJ6_bitCount_0f7a4_17 ?_
  refine ug_ldcw kk_J6_266 dJ6_bitCount_0f7a4_18 ?_
  refine ug_iand dJ6_bitCount_0f7a4_21 ?_
  refine ug_iadd dJ6_bitCount_0f7a4_22 ?_
  refine ug_istore_n [(0, .int (((x0 - ((uus x0 1) &&& 1431655765)) &&& 858993459) + ((uus (x0 - ((uus x0 1) &&& 1431655765)) 2) &&& 858993459)))] dJ6_bitCount_0f7a4_23 rfl (Nat.le_of_ble_eq_true rfl) rfl ?_
  refine ug_iload_n 0 dJ6_bitCount_0f7a4_24 rfl rfl ?_
  refine ug_iload_n 0 dJ6_bitCount_0f7a4_25 rfl rfl ?_
  refine ug_iconst dJ6_bitCount_0f7a4_26 un_iconst_4 ?_
  refine ug_iushr dJ6_bitCount_0f7a4_27 ?_
  refine ug_iadd dJ6_bitCount_0f7a4_28 ?_
  refine ug_ldcw kk_J6_267 dJ6_bitCount_0f7a4_29 ?_
  refine ug_iand dJ6_bitCount_0f7a4_32 ?_
  refine ug_istore_n [(0, .int (((((x0 - ((uus x0 1) &&& 1431655765)) &&& 858993459) + ((uus (x0 - ((uus x0 1) &&& 1431655765)) 2) &&& 858993459)) + (uus (((x0 - ((uus x0 1) &&& 1431655765)) &&& 858993459) + ((uus (x0 - ((uus x0 1) &&& 1431655765)) 2) &&& 858993459)) 4)) &&& 252645135))] dJ6_bitCount_0f7a4_33 rfl (Nat.le_of_ble_eq_true rfl) rfl ?_
  refine ug_iload_n 0 dJ6_bitCount_0f7a4_34 rfl rfl ?_
  refine ug_iload_n 0 dJ6_bitCount_0f7a4_35 rfl rfl ?_
  refine ug_bipush dJ6_bitCount_0f7a4_36 un_bipush_8 ?_
  refine ug_iushr dJ6_bitCount_0f7a4_38 ?_
  refine ug_iadd dJ6_bitCount_0f7a4_39 ?_
  refine ug_istore_n [(0, .int ((((((x0 - ((uus x0 1) &&& 1431655765)) &&& 858993459) + ((uus (x0 - ((uus x0 1) &&& 1431655765)) 2) &&& 858993459)) + (uus (((x0 - ((uus x0 1) &&& 1431655765)) &&& 858993459) + ((uus (x0 - ((uus x0 1) &&& 1431655765)) 2) &&& 858993459)) 4)) &&& 252645135) + (uus (((((x0 - ((uus x0 1) &&& 1431655765)) &&& 858993459) + ((uus (x0 - ((uus x0 1) &&& 1431655765)) 2) &&& 858993459)) + (uus (((x0 - ((uus x0 1) &&& 1431655765)) &&& 858993459) + ((uus (x0 - ((uus x0 1) &&& 1431655765)) 2) &&& 858993459)) 4)) &&& 252645135) 8)))] dJ6_bitCount_0f7a4_40 rfl (Nat.le_of_ble_eq_true rfl) rfl ?_
  refine ug_iload_n 0 dJ6_bitCount_0f7a4_41 rfl rfl ?_
  refine ug_iload_n 0 dJ6_bitCount_0f7a4_42 rfl rfl ?_
  refine ug_bipush dJ6_bitCount_0f7a4_43 un_bipush_16 ?_
  refine ug_iushr dJ6_bitCount_0f7a4_45 ?_
  refine ug_iadd dJ6_bitCount_0f7a4_46 ?_
  refine ug_istore_n [(0, .int (((((((x0 - ((uus x0 1) &&& 1431655765)) &&& 858993459) + ((uus (x0 - ((uus x0 1) &&& 1431655765)) 2) &&& 858993459)) + (uus (((x0 - ((uus x0 1) &&& 1431655765)) &&& 858993459) + ((uus (x0 - ((uus x0 1) &&& 1431655765)) 2) &&& 858993459)) 4)) &&& 252645135) + (uus (((((x0 - ((uus x0 1) &&& 1431655765)) &&& 858993459) + ((uus (x0 - ((uus x0 1) &&& 1431655765)) 2) &&& 858993459)) + (uus (((x0 - ((uus x0 1) &&& 1431655765)) &&& 858993459) + ((uus (x0 - ((uus x0 1) &&& 1431655765)) 2) &&& 858993459)) 4)) &&& 252645135) 8)) + (uus ((((((x0 - ((uus x0 1) &&& 1431655765)) &&& 858993459) + ((uus (x0 - ((uus x0 1) &&& 1431655765)) 2) &&& 858993459)) + (uus (((x0 - ((uus x0 1) &&& 1431655765)) &&& 858993459) + ((uus (x0 - ((uus x0 1) &&& 1431655765)) 2) &&& 858993459)) 4)) &&& 252645135) + (uus (((((x0 - ((uus x0 1) &&& 1431655765)) &&& 858993459) + ((uus (x0 - ((uus x0 1) &&& 1431655765)) 2) &&& 858993459)) + (uus (((x0 - ((uus x0 1) &&& 1431655765)) &&& 858993459) + ((uus (x0 - ((uus x0 1) &&& 1431655765)) 2) &&& 858993459)) 4)) &&& 252645135) 8)) 16)))] dJ6_bitCount_0f7a4_47 rfl (Nat.le_of_ble_eq_true rfl) rfl ?_
  refine ug_iload_n 0 dJ6_bitCount_0f7a4_48 rfl rfl ?_
  refine ug_bipush dJ6_bitCount_0f7a4_49 un_bipush_63 ?_
  refine ug_iand dJ6_bitCount_0f7a4_51 ?_
  obtain rfl := Option.some.inj h
  exact ug_iret dJ6_bitCount_0f7a4_52
theorem c_J6_bitCount_0f7a4 {l : Launch} {E : Ue} {mem : Um} {x0 : Int32} {m1 : Um} {r : Int32} (h : f_J6_bitCount_0f7a4  mem x0 = some (m1, r)) : ucr l E 2 0 0 yJ6_bitCount_0f7a4 cJ6_bitCount_0f7a4 1 (some .int) [.int x0] mem (some (.int r)) m1 := ucr_of rfl (Nat.le_of_ble_eq_true rfl) (t_J6_bitCount_0f7a4  mem x0 _ h)
-- X4_farFrom
def f_X4_farFrom (o : Nat) (mem : Um) (x1 : Int32) (x2 : Int32) : Option (Um × Int32) :=
  ugd (uin (18 + x1) 28) (ugd (uin x2 8) (some (mem, (umabs ((mem (o + 1) (18 + x1).toNatClampNeg) - (mem 4 x2.toNatClampNeg))))))
set_option maxRecDepth 20000 in
theorem t_X4_farFrom {l : Launch} {E : Ue} {o : Nat} (ho : o = 23 ∨ o = 25) (mem : Um) (x1 : Int32) (x2 : Int32) (z : Um × Int32) (h : f_X4_farFrom o mem x1 x2 = some z) : ug l E 2 0 0 cX4_farFrom 3 RX4 (some .int) [] (uz_i z) 0 0 0 [(0, .ref (ue_d E o)), (1, .int x1), (2, .int x2)] [] mem := by
  rw [f_X4_farFrom] at h
  refine ug_aload_n 0 dX4_farFrom_0 rfl rfl ?_
  refine ug_getR kf_X4_11 (sk_r2 ho) dX4_farFrom_1 ?_
  refine ug_bipush dX4_farFrom_4 un_bipush_18 ?_
  refine ug_iload_n 1 dX4_farFrom_6 rfl rfl ?_
  refine ug_iadd dX4_farFrom_7 ?_
  obtain ⟨g1, h⟩ := ugd_some h
  refine ug_iald (sk_a ho) (uin_ok g1) dX4_farFrom_8 ?_
  refine ug_aload_n 0 dX4_farFrom_9 rfl rfl ?_
  refine ug_getR kf_X4_15 (sk_r0 ho) dX4_farFrom_10 ?_
  refine ug_getR kf_X4_51 gr_3_3 dX4_farFrom_13 ?_
  refine ug_iload_n 2 dX4_farFrom_16 rfl rfl ?_
  obtain ⟨g2, h⟩ := ugd_some h
  refine ug_iald al_4 (uin_ok g2) dX4_farFrom_17 ?_
  refine ug_isub dX4_farFrom_18 ?_
  refine ug_mabs kl_X4_54 (Nat.le_of_ble_eq_true rfl) (Nat.le_of_ble_eq_true rfl) dX4_farFrom_19 ?_
  obtain rfl := Option.some.inj h
  exact ug_iret dX4_farFrom_22
theorem c_X4_farFrom {l : Launch} {E : Ue} {o : Nat} (ho : o = 23 ∨ o = 25) {mem : Um} {x1 : Int32} {x2 : Int32} {m1 : Um} {r : Int32} (h : f_X4_farFrom o mem x1 x2 = some (m1, r)) : ucr l E 2 0 0 yX4_farFrom cX4_farFrom 3 (some .int) [.ref (ue_d E o), .int x1, .int x2] mem (some (.int r)) m1 := ucr_of rfl (Nat.le_of_ble_eq_true rfl) (t_X4_farFrom ho mem x1 x2 _ h)
-- X4_sees
def f_X4_sees_b31 (o : Nat) (mem : Um) (y0 : Int32) : Option (Um × Int32) :=
  ugd (ub01 y0) (some (mem, y0))
set_option maxRecDepth 20000 in
theorem t_X4_sees_b31 {l : Launch} {E : Ue} {o : Nat} (ho : o = 23 ∨ o = 25) (mem : Um) (y0 : Int32) (z : Um × Int32) (h : f_X4_sees_b31 o mem y0 = some z) : ug l E 3 0 0 cX4_sees 3 RX4 (some .boolean) [] (uz_i z) 0 0 31 [] [.int y0] mem := by
  rw [f_X4_sees_b31] at h
  obtain ⟨g1, h⟩ := ugd_some h
  obtain rfl := Option.some.inj h
  exact ug_zret (of_decide_eq_true g1) dX4_sees_31
def f_X4_sees_b30 (o : Nat) (mem : Um) : Option (Um × Int32) :=
  f_X4_sees_b31 o mem 0
set_option maxRecDepth 20000 in
theorem t_X4_sees_b30 {l : Launch} {E : Ue} {o : Nat} (ho : o = 23 ∨ o = 25) (mem : Um) (z : Um × Int32) (h : f_X4_sees_b30 o mem  = some z) : ug l E 3 0 0 cX4_sees 3 RX4 (some .boolean) [] (uz_i z) 0 0 30 [] [] mem := by
  rw [f_X4_sees_b30] at h
  refine ug_iconst dX4_sees_30 un_iconst_0 ?_
  exact t_X4_sees_b31 ho mem 0 _ h
def f_X4_sees (o : Nat) (mem : Um) (x1 : Int32) (x2 : Int32) : Option (Um × Int32) :=
  ubi (f_X4_has o mem x1) (fun m1 r2 => if r2 = 0 then (f_X4_sees_b30 o m1) else (ubi (f_X4_farFrom o m1 x1 x2) (fun m5 r6 => ugd (uin (13 + x1) 28) (if (m5 (o + 1) (13 + x1).toNatClampNeg) < r6 then (f_X4_sees_b30 o m5) else (f_X4_sees_b31 o m5 1)))))
set_option maxRecDepth 20000 in
theorem t_X4_sees {l : Launch} {E : Ue} {o : Nat} (ho : o = 23 ∨ o = 25) (mem : Um) (x1 : Int32) (x2 : Int32) (z : Um × Int32) (h : f_X4_sees o mem x1 x2 = some z) : ug l E 3 0 0 cX4_sees 3 RX4 (some .boolean) [] (uz_i z) 0 0 0 [(0, .ref (ue_d E o)), (1, .int x1), (2, .int x2)] [] mem := by
  rw [f_X4_sees] at h
  refine ug_aload_n 0 dX4_sees_0 rfl rfl ?_
  refine ug_iload_n 1 dX4_sees_1 rfl rfl ?_
  obtain ⟨m1, r2, h3, h⟩ := ubi_some h
  refine ug_callVi [.int x1] (c_X4_has ho h3) kc_X4_47 (sk_o ho) rfl (S := []) rfl (Nat.le_of_ble_eq_true rfl) (Nat.le_of_ble_eq_true rfl) (Nat.le_of_ble_eq_true rfl) dX4_sees_2 ?_
  refine ug_if_eq 30 dX4_sees_5 (by decide) (fun q4 => ?_) (fun q4 => ?_)
  · rw [if_pos q4] at h
    refine ug_sub [] [] rfl ?_
    exact t_X4_sees_b30 ho m1  _ h
  · rw [if_neg q4] at h
    refine ug_aload_n 0 dX4_sees_8 rfl rfl ?_
    refine ug_iload_n 1 dX4_sees_9 rfl rfl ?_
    refine ug_iload_n 2 dX4_sees_10 rfl rfl ?_
    obtain ⟨m5, r6, h7, h⟩ := ubi_some h
    refine ug_callVi [.int x1, .int x2] (c_X4_farFrom ho h7) kc_X4_60 (sk_o ho) rfl (S := []) rfl (Nat.le_of_ble_eq_true rfl) (Nat.le_of_ble_eq_true rfl) (Nat.le_of_ble_eq_true rfl) dX4_sees_11 ?_
    refine ug_aload_n 0 dX4_sees_14 rfl rfl ?_
    refine ug_getR kf_X4_11 (sk_r2 ho) dX4_sees_15 ?_
    refine ug_bipush dX4_sees_18 un_bipush_13 ?_
    refine ug_iload_n 1 dX4_sees_20 rfl rfl ?_
    refine ug_iadd dX4_sees_21 ?_
    obtain ⟨g8, h⟩ := ugd_some h
    refine ug_iald (sk_a ho) (uin_ok g8) dX4_sees_22 ?_
    refine ug_icmp_gt 30 dX4_sees_23 (by decide) (fun q9 => ?_) (fun q9 => ?_)
    · rw [if_pos q9] at h
      refine ug_sub [] [] rfl ?_
      exact t_X4_sees_b30 ho m5  _ h
    · rw [if_neg q9] at h
      refine ug_iconst dX4_sees_26 un_iconst_1 ?_
      refine ug_goto 31 dX4_sees_27 (by decide) ?_
      refine ug_sub [] [] rfl ?_
      exact t_X4_sees_b31 ho m5 1 _ h
theorem c_X4_sees {l : Launch} {E : Ue} {o : Nat} (ho : o = 23 ∨ o = 25) {mem : Um} {x1 : Int32} {x2 : Int32} {m1 : Um} {r : Int32} (h : f_X4_sees o mem x1 x2 = some (m1, r)) : ucr l E 3 0 0 yX4_sees cX4_sees 3 (some .boolean) [.ref (ue_d E o), .int x1, .int x2] mem (some (.int r)) m1 := ucr_of rfl (Nat.le_of_ble_eq_true rfl) (t_X4_sees ho mem x1 x2 _ h)
-- X4_owner
def f_X4_owner_b50 (o : Nat) (k7 : Um → Int32 → Int32 → Int32 → Int32 → Option (Um × Int32)) (mem : Um) (x1 : Int32) (x2 : Int32) (x3 : Int32) (x4 : Int32) : Option (Um × Int32) :=
  k7 mem x1 x2 x3 (x4 + 1)
set_option maxRecDepth 20000 in
theorem t_X4_owner_b50 {l : Launch} {E : Ue} {o : Nat} (ho : o = 23 ∨ o = 25) (k7 : Um → Int32 → Int32 → Int32 → Int32 → Option (Um × Int32)) (hk7 : ∀ (mem : Um) (x1 : Int32) (x2 : Int32) (x3 : Int32) (x4 : Int32) (z : Um × Int32), k7 mem x1 x2 x3 x4 = some z → ug l E 4 0 0 cX4_owner 5 RX4 (some .int) [] (uz_i z) 0 0 7 [(0, .ref (ue_d E o)), (1, .int x1), (2, .int x2), (3, .int x3), (4, .int x4)] [] mem) (mem : Um) (x1 : Int32) (x2 : Int32) (x3 : Int32) (x4 : Int32) (z : Um × Int32) (h : f_X4_owner_b50 o k7 mem x1 x2 x3 x4 = some z) : ug l E 4 0 0 cX4_owner 5 RX4 (some .int) [] (uz_i z) 0 0 50 [(0, .ref (ue_d E o)), (1, .int x1), (2, .int x2), (3, .int x3), (4, .int x4)] [] mem := by
  rw [f_X4_owner_b50] at h
  refine ug_iinc (v := (x4 + 1)) [(4, .int (x4 + 1)), (0, .ref (ue_d E o)), (1, .int x1), (2, .int x2), (3, .int x3)] 4 dX4_owner_50 rfl rfl (Nat.le_of_ble_eq_true rfl) rfl ?_
  refine ug_goto 7 dX4_owner_53 (by decide) ?_
  refine ug_sub [(0, .ref (ue_d E o)), (1, .int x1), (2, .int x2), (3, .int x3), (4, .int (x4 + 1))] [1, 2, 3, 4, 0] rfl ?_
  exact hk7 mem x1 x2 x3 (x4 + 1) _ h
def f_X4_owner_b39 (o : Nat) (k7 : Um → Int32 → Int32 → Int32 → Int32 → Option (Um × Int32)) (mem : Um) (x1 : Int32) (x4 : Int32) : Option (Um × Int32) :=
  ubi (f_X4_farFrom o mem x4 x1) (fun m1 r2 => f_X4_owner_b50 o k7 m1 x1 x4 r2 x4)
set_option maxRecDepth 20000 in
theorem t_X4_owner_b39 {l : Launch} {E : Ue} {o : Nat} (ho : o = 23 ∨ o = 25) (k7 : Um → Int32 → Int32 → Int32 → Int32 → Option (Um × Int32)) (hk7 : ∀ (mem : Um) (x1 : Int32) (x2 : Int32) (x3 : Int32) (x4 : Int32) (z : Um × Int32), k7 mem x1 x2 x3 x4 = some z → ug l E 4 0 0 cX4_owner 5 RX4 (some .int) [] (uz_i z) 0 0 7 [(0, .ref (ue_d E o)), (1, .int x1), (2, .int x2), (3, .int x3), (4, .int x4)] [] mem) (mem : Um) (x1 : Int32) (x4 : Int32) (z : Um × Int32) (h : f_X4_owner_b39 o k7 mem x1 x4 = some z) : ug l E 4 0 0 cX4_owner 5 RX4 (some .int) [] (uz_i z) 0 0 39 [(0, .ref (ue_d E o)), (1, .int x1), (4, .int x4)] [] mem := by
  rw [f_X4_owner_b39] at h
  refine ug_iload 2 dX4_owner_39 rfl ?_
  refine ug_istore_n [(2, .int x4), (0, .ref (ue_d E o)), (1, .int x1), (4, .int x4)] dX4_owner_41 rfl (Nat.le_of_ble_eq_true rfl) rfl ?_
  refine ug_aload_n 1 dX4_owner_42 rfl rfl ?_
  refine ug_iload 3 dX4_owner_43 rfl ?_
  refine ug_iload_n 2 dX4_owner_45 rfl rfl ?_
  obtain ⟨m1, r2, h3, h⟩ := ubi_some h
  refine ug_callVi [.int x4, .int x1] (c_X4_farFrom ho h3) kc_X4_60 (sk_o ho) rfl (S := []) rfl (Nat.le_of_ble_eq_true rfl) (Nat.le_of_ble_eq_true rfl) (Nat.le_of_ble_eq_true rfl) dX4_owner_46 ?_
  refine ug_istore_n [(3, .int r2), (2, .int x4), (0, .ref (ue_d E o)), (1, .int x1), (4, .int x4)] dX4_owner_49 rfl (Nat.le_of_ble_eq_true rfl) rfl ?_
  refine ug_sub [(0, .ref (ue_d E o)), (1, .int x1), (2, .int x4), (3, .int r2), (4, .int x4)] [2, 3, 1, 0, 4] rfl ?_
  exact t_X4_owner_b50 ho k7 hk7 m1 x1 x4 r2 x4 _ h
def f_X4_owner_b7 (o : Nat) : Nat → Um → Int32 → Int32 → Int32 → Int32 → Option (Um × Int32)
  | 0, _, _, _, _, _ => none
  | n + 1, mem, x1, x2, x3, x4 =>
    if 5 ≤ x4 then (some (mem, x2)) else (ubi (f_X4_sees o mem x4 x1) (fun m2 r3 => if r3 = 0 then (f_X4_owner_b50 o (f_X4_owner_b7 o n) m2 x1 x2 x3 x4) else (if x2 = (-1) then (f_X4_owner_b39 o (f_X4_owner_b7 o n) m2 x1 x4) else (ubi (f_X4_farFrom o m2 x4 x1) (fun m7 r8 => if x3 ≤ r8 then (f_X4_owner_b50 o (f_X4_owner_b7 o n) m7 x1 x2 x3 x4) else (f_X4_owner_b39 o (f_X4_owner_b7 o n) m7 x1 x4))))))
set_option maxRecDepth 20000 in
theorem t_X4_owner_b7 {l : Launch} {E : Ue} {o : Nat} (ho : o = 23 ∨ o = 25) : ∀ (n : Nat) (mem : Um) (x1 : Int32) (x2 : Int32) (x3 : Int32) (x4 : Int32) (z : Um × Int32), f_X4_owner_b7 o n mem x1 x2 x3 x4 = some z → ug l E 4 0 0 cX4_owner 5 RX4 (some .int) [] (uz_i z) 0 0 7 [(0, .ref (ue_d E o)), (1, .int x1), (2, .int x2), (3, .int x3), (4, .int x4)] [] mem := by
  intro n
  induction n with
  | zero =>
    intro mem x1 x2 x3 x4 z h
    rw [f_X4_owner_b7] at h
    cases h
  | succ n ih =>
    intro mem x1 x2 x3 x4 z h
    rw [f_X4_owner_b7] at h
    refine ug_iload 4 dX4_owner_7 rfl ?_
    refine ug_iconst dX4_owner_9 un_iconst_5 ?_
    refine ug_icmp_ge 56 dX4_owner_10 (by decide) (fun q1 => ?_) (fun q1 => ?_)
    · rw [if_pos q1] at h
      refine ug_iload_n 2 dX4_owner_56 rfl rfl ?_
      obtain rfl := Option.some.inj h
      exact ug_iret dX4_owner_57
    · rw [if_neg q1] at h
      refine ug_aload_n 0 dX4_owner_13 rfl rfl ?_
      refine ug_iload 4 dX4_owner_14 rfl ?_
      refine ug_iload_n 1 dX4_owner_16 rfl rfl ?_
      obtain ⟨m2, r3, h4, h⟩ := ubi_some h
      refine ug_callVi [.int x4, .int x1] (c_X4_sees ho h4) kc_X4_64 (sk_o ho) rfl (S := []) rfl (Nat.le_of_ble_eq_true rfl) (Nat.le_of_ble_eq_true rfl) (Nat.le_of_ble_eq_true rfl) dX4_owner_17 ?_
      refine ug_if_eq 50 dX4_owner_20 (by decide) (fun q5 => ?_) (fun q5 => ?_)
      · rw [if_pos q5] at h
        exact t_X4_owner_b50 ho (f_X4_owner_b7 o n) ih m2 x1 x2 x3 x4 _ h
      · rw [if_neg q5] at h
        refine ug_iload_n 2 dX4_owner_23 rfl rfl ?_
        refine ug_iconst dX4_owner_24 un_iconst_m1 ?_
        refine ug_icmp_eq 39 dX4_owner_25 (by decide) (fun q6 => ?_) (fun q6 => ?_)
        · rw [if_pos q6] at h
          refine ug_sub [(0, .ref (ue_d E o)), (1, .int x1), (4, .int x4)] [0, 1, 4] rfl ?_
          exact t_X4_owner_b39 ho (f_X4_owner_b7 o n) ih m2 x1 x4 _ h
        · rw [if_neg q6] at h
          refine ug_aload_n 0 dX4_owner_28 rfl rfl ?_
          refine ug_iload 4 dX4_owner_29 rfl ?_
          refine ug_iload_n 1 dX4_owner_31 rfl rfl ?_
          obtain ⟨m7, r8, h9, h⟩ := ubi_some h
          refine ug_callVi [.int x4, .int x1] (c_X4_farFrom ho h9) kc_X4_60 (sk_o ho) rfl (S := []) rfl (Nat.le_of_ble_eq_true rfl) (Nat.le_of_ble_eq_true rfl) (Nat.le_of_ble_eq_true rfl) dX4_owner_32 ?_
          refine ug_iload_n 3 dX4_owner_35 rfl rfl ?_
          refine ug_icmp_ge 50 dX4_owner_36 (by decide) (fun q10 => ?_) (fun q10 => ?_)
          · rw [if_pos q10] at h
            exact t_X4_owner_b50 ho (f_X4_owner_b7 o n) ih m7 x1 x2 x3 x4 _ h
          · rw [if_neg q10] at h
            refine ug_sub [(0, .ref (ue_d E o)), (1, .int x1), (4, .int x4)] [0, 1, 4] rfl ?_
            exact t_X4_owner_b39 ho (f_X4_owner_b7 o n) ih m7 x1 x4 _ h
def f_X4_owner (o : Nat) (mem : Um) (x1 : Int32) : Option (Um × Int32) :=
  f_X4_owner_b7 o UF mem x1 (-1) 0 0
set_option maxRecDepth 20000 in
theorem t_X4_owner {l : Launch} {E : Ue} {o : Nat} (ho : o = 23 ∨ o = 25) (mem : Um) (x1 : Int32) (z : Um × Int32) (h : f_X4_owner o mem x1 = some z) : ug l E 4 0 0 cX4_owner 5 RX4 (some .int) [] (uz_i z) 0 0 0 [(0, .ref (ue_d E o)), (1, .int x1)] [] mem := by
  rw [f_X4_owner] at h
  refine ug_iconst dX4_owner_0 un_iconst_m1 ?_
  refine ug_istore_n [(2, .int (-1)), (0, .ref (ue_d E o)), (1, .int x1)] dX4_owner_1 rfl (Nat.le_of_ble_eq_true rfl) rfl ?_
  refine ug_iconst dX4_owner_2 un_iconst_0 ?_
  refine ug_istore_n [(3, .int 0), (2, .int (-1)), (0, .ref (ue_d E o)), (1, .int x1)] dX4_owner_3 rfl (Nat.le_of_ble_eq_true rfl) rfl ?_
  refine ug_iconst dX4_owner_4 un_iconst_0 ?_
  refine ug_istore [(4, .int 0), (3, .int 0), (2, .int (-1)), (0, .ref (ue_d E o)), (1, .int x1)] dX4_owner_5 (Nat.le_of_ble_eq_true rfl) rfl ?_
  refine ug_sub [(0, .ref (ue_d E o)), (1, .int x1), (2, .int (-1)), (3, .int 0), (4, .int 0)] [3, 4, 2, 1, 0] rfl ?_
  exact t_X4_owner_b7 ho UF mem x1 (-1) 0 0 _ h
theorem c_X4_owner {l : Launch} {E : Ue} {o : Nat} (ho : o = 23 ∨ o = 25) {mem : Um} {x1 : Int32} {m1 : Um} {r : Int32} (h : f_X4_owner o mem x1 = some (m1, r)) : ucr l E 4 0 0 yX4_owner cX4_owner 5 (some .int) [.ref (ue_d E o), .int x1] mem (some (.int r)) m1 := ucr_of rfl (Nat.le_of_ble_eq_true rfl) (t_X4_owner ho mem x1 _ h)
-- X4_viewsHad
def f_X4_viewsHad_b39 (o : Nat) (k4 : Um → Int32 → Int32 → Int32 → Option (Um × Int32)) (mem : Um) (x1 : Int32) (x2 : Int32) (x3 : Int32) : Option (Um × Int32) :=
  k4 mem x1 x2 (x3 + 1)
set_option maxRecDepth 20000 in
theorem t_X4_viewsHad_b39 {l : Launch} {E : Ue} {o : Nat} (ho : o = 23 ∨ o = 25) (k4 : Um → Int32 → Int32 → Int32 → Option (Um × Int32)) (hk4 : ∀ (mem : Um) (x1 : Int32) (x2 : Int32) (x3 : Int32) (z : Um × Int32), k4 mem x1 x2 x3 = some z → ug l E 5 0 0 cX4_viewsHad 4 RX4 (some .int) [] (uz_i z) 0 0 4 [(0, .ref (ue_d E o)), (1, .int x1), (2, .int x2), (3, .int x3)] [] mem) (mem : Um) (x1 : Int32) (x2 : Int32) (x3 : Int32) (z : Um × Int32) (h : f_X4_viewsHad_b39 o k4 mem x1 x2 x3 = some z) : ug l E 5 0 0 cX4_viewsHad 4 RX4 (some .int) [] (uz_i z) 0 0 39 [(0, .ref (ue_d E o)), (1, .int x1), (2, .int x2), (3, .int x3)] [] mem := by
  rw [f_X4_viewsHad_b39] at h
  refine ug_iinc (v := (x3 + 1)) [(3, .int (x3 + 1)), (0, .ref (ue_d E o)), (1, .int x1), (2, .int x2)] 3 dX4_viewsHad_39 rfl rfl (Nat.le_of_ble_eq_true rfl) rfl ?_
  refine ug_goto 4 dX4_viewsHad_42 (by decide) ?_
  refine ug_sub [(0, .ref (ue_d E o)), (1, .int x1), (2, .int x2), (3, .int (x3 + 1))] [1, 2, 3, 0] rfl ?_
  exact hk4 mem x1 x2 (x3 + 1) _ h
def f_X4_viewsHad_b4 (o : Nat) : Nat → Um → Int32 → Int32 → Int32 → Option (Um × Int32)
  | 0, _, _, _, _ => none
  | n + 1, mem, x1, x2, x3 =>
    if (mem 3 0) ≤ x3 then (some (mem, x2)) else (ubi (f_X4_sees o mem x1 x3) (fun m2 r3 => if r3 = 0 then (f_X4_viewsHad_b39 o (f_X4_viewsHad_b4 o n) m2 x1 x2 x3) else (ubi (f_X4_owner o m2 x3) (fun m6 r7 => if r7 = x1 then (f_X4_viewsHad_b39 o (f_X4_viewsHad_b4 o n) m6 x1 (x2 ||| (1 <<< (x3 &&& 31))) x3) else (f_X4_viewsHad_b39 o (f_X4_viewsHad_b4 o n) m6 x1 x2 x3)))))
set_option maxRecDepth 20000 in
theorem t_X4_viewsHad_b4 {l : Launch} {E : Ue} {o : Nat} (ho : o = 23 ∨ o = 25) : ∀ (n : Nat) (mem : Um) (x1 : Int32) (x2 : Int32) (x3 : Int32) (z : Um × Int32), f_X4_viewsHad_b4 o n mem x1 x2 x3 = some z → ug l E 5 0 0 cX4_viewsHad 4 RX4 (some .int) [] (uz_i z) 0 0 4 [(0, .ref (ue_d E o)), (1, .int x1), (2, .int x2), (3, .int x3)] [] mem := by
  intro n
  induction n with
  | zero =>
    intro mem x1 x2 x3 z h
    rw [f_X4_viewsHad_b4] at h
    cases h
  | succ n ih =>
    intro mem x1 x2 x3 z h
    rw [f_X4_viewsHad_b4] at h
    refine ug_iload_n 3 dX4_viewsHad_4 rfl rfl ?_
    refine ug_aload_n 0 dX4_viewsHad_5 rfl rfl ?_
    refine ug_getR kf_X4_15 (sk_r0 ho) dX4_viewsHad_6 ?_
    refine ug_getI kf_X4_68 gi_3_0 dX4_viewsHad_9 ?_
    refine ug_icmp_ge 45 dX4_viewsHad_12 (by decide) (fun q1 => ?_) (fun q1 => ?_)
    · rw [if_pos q1] at h
      refine ug_iload_n 2 dX4_viewsHad_45 rfl rfl ?_
      obtain rfl := Option.some.inj h
      exact ug_iret dX4_viewsHad_46
    · rw [if_neg q1] at h
      refine ug_aload_n 0 dX4_viewsHad_15 rfl rfl ?_
      refine ug_iload_n 1 dX4_viewsHad_16 rfl rfl ?_
      refine ug_iload_n 3 dX4_viewsHad_17 rfl rfl ?_
      obtain ⟨m2, r3, h4, h⟩ := ubi_some h
      refine ug_callVi [.int x1, .int x3] (c_X4_sees ho h4) kc_X4_64 (sk_o ho) rfl (S := []) rfl (Nat.le_of_ble_eq_true rfl) (Nat.le_of_ble_eq_true rfl) (Nat.le_of_ble_eq_true rfl) dX4_viewsHad_18 ?_
      refine ug_if_eq 39 dX4_viewsHad_21 (by decide) (fun q5 => ?_) (fun q5 => ?_)
      · rw [if_pos q5] at h
        exact t_X4_viewsHad_b39 ho (f_X4_viewsHad_b4 o n) ih m2 x1 x2 x3 _ h
      · rw [if_neg q5] at h
        refine ug_aload_n 0 dX4_viewsHad_24 rfl rfl ?_
        refine ug_iload_n 3 dX4_viewsHad_25 rfl rfl ?_
        obtain ⟨m6, r7, h8, h⟩ := ubi_some h
        refine ug_callVi [.int x3] (c_X4_owner ho h8) kc_X4_71 (sk_o ho) rfl (S := []) rfl (Nat.le_of_ble_eq_true rfl) (Nat.le_of_ble_eq_true rfl) (Nat.le_of_ble_eq_true rfl) dX4_viewsHad_26 ?_
        refine ug_iload_n 1 dX4_viewsHad_29 rfl rfl ?_
        refine ug_icmp_ne 39 dX4_viewsHad_30 (by decide) (fun q9 => ?_) (fun q9 => ?_)
        · rw [if_neg q9] at h
          exact t_X4_viewsHad_b39 ho (f_X4_viewsHad_b4 o n) ih m6 x1 x2 x3 _ h
        · rw [if_pos q9] at h
          refine ug_iload_n 2 dX4_viewsHad_33 rfl rfl ?_
          refine ug_iconst dX4_viewsHad_34 un_iconst_1 ?_
          refine ug_iload_n 3 dX4_viewsHad_35 rfl rfl ?_
          refine ug_ishl dX4_viewsHad_36 ?_
          refine ug_ior dX4_viewsHad_37 ?_
          refine ug_istore_n [(2, .int (x2 ||| (1 <<< (x3 &&& 31)))), (0, .ref (ue_d E o)), (1, .int x1), (3, .int x3)] dX4_viewsHad_38 rfl (Nat.le_of_ble_eq_true rfl) rfl ?_
          refine ug_sub [(0, .ref (ue_d E o)), (1, .int x1), (2, .int (x2 ||| (1 <<< (x3 &&& 31)))), (3, .int x3)] [1, 2, 0, 3] rfl ?_
          exact t_X4_viewsHad_b39 ho (f_X4_viewsHad_b4 o n) ih m6 x1 (x2 ||| (1 <<< (x3 &&& 31))) x3 _ h
def f_X4_viewsHad (o : Nat) (mem : Um) (x1 : Int32) : Option (Um × Int32) :=
  f_X4_viewsHad_b4 o UF mem x1 0 0
set_option maxRecDepth 20000 in
theorem t_X4_viewsHad {l : Launch} {E : Ue} {o : Nat} (ho : o = 23 ∨ o = 25) (mem : Um) (x1 : Int32) (z : Um × Int32) (h : f_X4_viewsHad o mem x1 = some z) : ug l E 5 0 0 cX4_viewsHad 4 RX4 (some .int) [] (uz_i z) 0 0 0 [(0, .ref (ue_d E o)), (1, .int x1)] [] mem := by
  rw [f_X4_viewsHad] at h
  refine ug_iconst dX4_viewsHad_0 un_iconst_0 ?_
  refine ug_istore_n [(2, .int 0), (0, .ref (ue_d E o)), (1, .int x1)] dX4_viewsHad_1 rfl (Nat.le_of_ble_eq_true rfl) rfl ?_
  refine ug_iconst dX4_viewsHad_2 un_iconst_0 ?_
  refine ug_istore_n [(3, .int 0), (2, .int 0), (0, .ref (ue_d E o)), (1, .int x1)] dX4_viewsHad_3 rfl (Nat.le_of_ble_eq_true rfl) rfl ?_
  refine ug_sub [(0, .ref (ue_d E o)), (1, .int x1), (2, .int 0), (3, .int 0)] [2, 3, 1, 0] rfl ?_
  exact t_X4_viewsHad_b4 ho UF mem x1 0 0 _ h
theorem c_X4_viewsHad {l : Launch} {E : Ue} {o : Nat} (ho : o = 23 ∨ o = 25) {mem : Um} {x1 : Int32} {m1 : Um} {r : Int32} (h : f_X4_viewsHad o mem x1 = some (m1, r)) : ucr l E 5 0 0 yX4_viewsHad cX4_viewsHad 4 (some .int) [.ref (ue_d E o), .int x1] mem (some (.int r)) m1 := ucr_of rfl (Nat.le_of_ble_eq_true rfl) (t_X4_viewsHad ho mem x1 _ h)
-- X4_worthOf
def f_X4_worthOf_b11 (o : Nat) : Nat → Um → Int32 → Int32 → Int32 → Option (Um × Int32)
  | 0, _, _, _, _ => none
  | n + 1, mem, x2, x3, x4 =>
    if (mem 3 0) ≤ x4 then (some (mem, x3)) else (ugd (uin x4 8) ((f_X4_worthOf_b11 o n) mem x2 (x3 + (((x2 >>> (x4 &&& 31)) &&& 1) * (mem 5 x4.toNatClampNeg))) (x4 + 1)))
set_option maxRecDepth 20000 in
theorem t_X4_worthOf_b11 {l : Launch} {E : Ue} {o : Nat} (ho : o = 23 ∨ o = 25) : ∀ (n : Nat) (mem : Um) (x2 : Int32) (x3 : Int32) (x4 : Int32) (z : Um × Int32), f_X4_worthOf_b11 o n mem x2 x3 x4 = some z → ug l E 6 0 0 cX4_worthOf 5 RX4 (some .int) [] (uz_i z) 0 0 11 [(0, .ref (ue_d E o)), (2, .int x2), (3, .int x3), (4, .int x4)] [] mem := by
  intro n
  induction n with
  | zero =>
    intro mem x2 x3 x4 z h
    rw [f_X4_worthOf_b11] at h
    cases h
  | succ n ih =>
    intro mem x2 x3 x4 z h
    rw [f_X4_worthOf_b11] at h
    refine ug_iload 3 dX4_worthOf_11 rfl ?_
    refine ug_aload_n 0 dX4_worthOf_13 rfl rfl ?_
    refine ug_getR kf_X4_15 (sk_r0 ho) dX4_worthOf_14 ?_
    refine ug_getI kf_X4_68 gi_3_0 dX4_worthOf_17 ?_
    refine ug_icmp_ge 49 dX4_worthOf_20 (by decide) (fun q1 => ?_) (fun q1 => ?_)
    · rw [if_pos q1] at h
      refine ug_iload_n 2 dX4_worthOf_49 rfl rfl ?_
      obtain rfl := Option.some.inj h
      exact ug_iret dX4_worthOf_50
    · rw [if_neg q1] at h
      refine ug_iload_n 2 dX4_worthOf_23 rfl rfl ?_
      refine ug_iload_n 1 dX4_worthOf_24 rfl rfl ?_
      refine ug_iload 3 dX4_worthOf_25 rfl ?_
      refine ug_ishr dX4_worthOf_27 ?_
      refine ug_iconst dX4_worthOf_28 un_iconst_1 ?_
      refine ug_iand dX4_worthOf_29 ?_
      refine ug_aload_n 0 dX4_worthOf_30 rfl rfl ?_
      refine ug_getR kf_X4_15 (sk_r0 ho) dX4_worthOf_31 ?_
      refine ug_getR kf_X4_77 gr_3_4 dX4_worthOf_34 ?_
      refine ug_iload 3 dX4_worthOf_37 rfl ?_
      obtain ⟨g2, h⟩ := ugd_some h
      refine ug_iald al_5 (uin_ok g2) dX4_worthOf_39 ?_
      refine ug_imul dX4_worthOf_40 ?_
      refine ug_iadd dX4_worthOf_41 ?_
      refine ug_istore_n [(3, .int (x3 + (((x2 >>> (x4 &&& 31)) &&& 1) * (mem 5 x4.toNatClampNeg)))), (0, .ref (ue_d E o)), (2, .int x2), (4, .int x4)] dX4_worthOf_42 rfl (Nat.le_of_ble_eq_true rfl) rfl ?_
      refine ug_iinc (v := (x4 + 1)) [(4, .int (x4 + 1)), (3, .int (x3 + (((x2 >>> (x4 &&& 31)) &&& 1) * (mem 5 x4.toNatClampNeg)))), (0, .ref (ue_d E o)), (2, .int x2)] 3 dX4_worthOf_43 rfl rfl (Nat.le_of_ble_eq_true rfl) rfl ?_
      refine ug_goto 11 dX4_worthOf_46 (by decide) ?_
      refine ug_sub [(0, .ref (ue_d E o)), (2, .int x2), (3, .int (x3 + (((x2 >>> (x4 &&& 31)) &&& 1) * (mem 5 x4.toNatClampNeg)))), (4, .int (x4 + 1))] [2, 3, 1, 0] rfl ?_
      exact ih mem x2 (x3 + (((x2 >>> (x4 &&& 31)) &&& 1) * (mem 5 x4.toNatClampNeg))) (x4 + 1) _ h
def f_X4_worthOf (o : Nat) (mem : Um) (x1 : Int32) : Option (Um × Int32) :=
  ubi (f_X4_viewsHad o mem x1) (fun m1 r2 => f_X4_worthOf_b11 o UF m1 r2 0 0)
set_option maxRecDepth 20000 in
theorem t_X4_worthOf {l : Launch} {E : Ue} {o : Nat} (ho : o = 23 ∨ o = 25) (mem : Um) (x1 : Int32) (z : Um × Int32) (h : f_X4_worthOf o mem x1 = some z) : ug l E 6 0 0 cX4_worthOf 5 RX4 (some .int) [] (uz_i z) 0 0 0 [(0, .ref (ue_d E o)), (1, .int x1)] [] mem := by
  rw [f_X4_worthOf] at h
  refine ug_aload_n 0 dX4_worthOf_0 rfl rfl ?_
  refine ug_iload_n 1 dX4_worthOf_1 rfl rfl ?_
  obtain ⟨m1, r2, h3, h⟩ := ubi_some h
  refine ug_callVi [.int x1] (c_X4_viewsHad ho h3) kc_X4_74 (sk_o ho) rfl (S := []) rfl (Nat.le_of_ble_eq_true rfl) (Nat.le_of_ble_eq_true rfl) (Nat.le_of_ble_eq_true rfl) dX4_worthOf_2 ?_
  refine ug_istore_n [(2, .int r2), (0, .ref (ue_d E o)), (1, .int x1)] dX4_worthOf_5 rfl (Nat.le_of_ble_eq_true rfl) rfl ?_
  refine ug_iconst dX4_worthOf_6 un_iconst_0 ?_
  refine ug_istore_n [(3, .int 0), (2, .int r2), (0, .ref (ue_d E o)), (1, .int x1)] dX4_worthOf_7 rfl (Nat.le_of_ble_eq_true rfl) rfl ?_
  refine ug_iconst dX4_worthOf_8 un_iconst_0 ?_
  refine ug_istore [(4, .int 0), (3, .int 0), (2, .int r2), (0, .ref (ue_d E o)), (1, .int x1)] dX4_worthOf_9 (Nat.le_of_ble_eq_true rfl) rfl ?_
  refine ug_sub [(0, .ref (ue_d E o)), (2, .int r2), (3, .int 0), (4, .int 0)] [3, 2, 1, 0] rfl ?_
  exact t_X4_worthOf_b11 ho UF m1 r2 0 0 _ h
theorem c_X4_worthOf {l : Launch} {E : Ue} {o : Nat} (ho : o = 23 ∨ o = 25) {mem : Um} {x1 : Int32} {m1 : Um} {r : Int32} (h : f_X4_worthOf o mem x1 = some (m1, r)) : ucr l E 6 0 0 yX4_worthOf cX4_worthOf 5 (some .int) [.ref (ue_d E o), .int x1] mem (some (.int r)) m1 := ucr_of rfl (Nat.le_of_ble_eq_true rfl) (t_X4_worthOf ho mem x1 _ h)
-- X2_combined
def f_X2_combined_b63 (mem : Um) (y0 : Int32) : Option (Um × Int32) :=
  some (mem, y0)
set_option maxRecDepth 20000 in
theorem t_X2_combined_b63 {l : Launch} {E : Ue} (mem : Um) (y0 : Int32) (z : Um × Int32) (h : f_X2_combined_b63  mem y0 = some z) : ug l E 2 0 0 cX2_combined 3 RX2 (some .int) [] (uz_i z) 0 0 63 [] [.int y0] mem := by
  rw [f_X2_combined_b63] at h
  obtain rfl := Option.some.inj h
  exact ug_iret dX2_combined_63
def f_X2_combined_b75 (mem : Um) (y0 : Int32) : Option (Um × Int32) :=
  some (mem, y0)
set_option maxRecDepth 20000 in
theorem t_X2_combined_b75 {l : Launch} {E : Ue} (mem : Um) (y0 : Int32) (z : Um × Int32) (h : f_X2_combined_b75  mem y0 = some z) : ug l E 2 0 0 cX2_combined 3 RX2 (some .int) [] (uz_i z) 0 0 75 [] [.int y0] mem := by
  rw [f_X2_combined_b75] at h
  obtain rfl := Option.some.inj h
  exact ug_iret dX2_combined_75
def f_X2_combined (mem : Um) (x0 : Int32) (x1 : Int32) (x2 : Int32) : Option (Um × Int32) :=
  if x0 = 2000 then (some (mem, (x1 + x2))) else (if x0 = 2001 then (some (mem, (x1 - x2))) else (if x0 = 2002 then (some (mem, (x1 * x2))) else (if x0 = 2003 then (if x2 = 0 then (f_X2_combined_b63 mem 0) else (ugd (unz x2) (f_X2_combined_b63 mem (x1 / x2)))) else (if x0 = 2004 then (if x2 = 0 then (f_X2_combined_b75 mem 0) else (ugd (unz x2) (f_X2_combined_b75 mem (x1 % x2)))) else (if x0 = 2005 then (some (mem, (ummin x1 x2))) else (some (mem, (ummax x1 x2))))))))
set_option maxRecDepth 20000 in
theorem t_X2_combined {l : Launch} {E : Ue} (mem : Um) (x0 : Int32) (x1 : Int32) (x2 : Int32) (z : Um × Int32) (h : f_X2_combined  mem x0 x1 x2 = some z) : ug l E 2 0 0 cX2_combined 3 RX2 (some .int) [] (uz_i z) 0 0 0 [(0, .int x0), (1, .int x1), (2, .int x2)] [] mem := by
  rw [f_X2_combined] at h
  refine ug_iload_n 0 dX2_combined_0 rfl rfl ?_
  by_cases q1 : x0 = 2000
  · rw [if_pos q1] at h
    refine ug_tswI 40 dX2_combined_1 (by rw [q1]; decide) (by rw [q1]; decide) (by rw [q1]; rfl) (by decide) ?_
    refine ug_iload_n 1 dX2_combined_40 rfl rfl ?_
    refine ug_iload_n 2 dX2_combined_41 rfl rfl ?_
    refine ug_iadd dX2_combined_42 ?_
    obtain rfl := Option.some.inj h
    exact ug_iret dX2_combined_43
  · rw [if_neg q1] at h
    by_cases q2 : x0 = 2001
    · rw [if_pos q2] at h
      refine ug_tswI 44 dX2_combined_1 (by rw [q2]; decide) (by rw [q2]; decide) (by rw [q2]; rfl) (by decide) ?_
      refine ug_iload_n 1 dX2_combined_44 rfl rfl ?_
      refine ug_iload_n 2 dX2_combined_45 rfl rfl ?_
      refine ug_isub dX2_combined_46 ?_
      obtain rfl := Option.some.inj h
      exact ug_iret dX2_combined_47
    · rw [if_neg q2] at h
      by_cases q3 : x0 = 2002
      · rw [if_pos q3] at h
        refine ug_tswI 48 dX2_combined_1 (by rw [q3]; decide) (by rw [q3]; decide) (by rw [q3]; rfl) (by decide) ?_
        refine ug_iload_n 1 dX2_combined_48 rfl rfl ?_
        refine ug_iload_n 2 dX2_combined_49 rfl rfl ?_
        refine ug_imul dX2_combined_50 ?_
        obtain rfl := Option.some.inj h
        exact ug_iret dX2_combined_51
      · rw [if_neg q3] at h
        by_cases q4 : x0 = 2003
        · rw [if_pos q4] at h
          refine ug_tswI 52 dX2_combined_1 (by rw [q4]; decide) (by rw [q4]; decide) (by rw [q4]; rfl) (by decide) ?_
          refine ug_iload_n 2 dX2_combined_52 rfl rfl ?_
          refine ug_if_ne 60 dX2_combined_53 (by decide) (fun q5 => ?_) (fun q5 => ?_)
          · rw [if_neg q5] at h
            refine ug_iload_n 1 dX2_combined_60 rfl rfl ?_
            refine ug_iload_n 2 dX2_combined_61 rfl rfl ?_
            obtain ⟨g6, h⟩ := ugd_some h
            refine ug_idiv dX2_combined_62 (of_decide_eq_true g6) ?_
            refine ug_sub [] [] rfl ?_
            exact t_X2_combined_b63 mem (x1 / x2) _ h
          · rw [if_pos q5] at h
            refine ug_iconst dX2_combined_56 un_iconst_0 ?_
            refine ug_goto 63 dX2_combined_57 (by decide) ?_
            refine ug_sub [] [] rfl ?_
            exact t_X2_combined_b63 mem 0 _ h
        · rw [if_neg q4] at h
          by_cases q7 : x0 = 2004
          · rw [if_pos q7] at h
            refine ug_tswI 64 dX2_combined_1 (by rw [q7]; decide) (by rw [q7]; decide) (by rw [q7]; rfl) (by decide) ?_
            refine ug_iload_n 2 dX2_combined_64 rfl rfl ?_
            refine ug_if_ne 72 dX2_combined_65 (by decide) (fun q8 => ?_) (fun q8 => ?_)
            · rw [if_neg q8] at h
              refine ug_iload_n 1 dX2_combined_72 rfl rfl ?_
              refine ug_iload_n 2 dX2_combined_73 rfl rfl ?_
              obtain ⟨g9, h⟩ := ugd_some h
              refine ug_irem dX2_combined_74 (of_decide_eq_true g9) ?_
              refine ug_sub [] [] rfl ?_
              exact t_X2_combined_b75 mem (x1 % x2) _ h
            · rw [if_pos q8] at h
              refine ug_iconst dX2_combined_68 un_iconst_0 ?_
              refine ug_goto 75 dX2_combined_69 (by decide) ?_
              refine ug_sub [] [] rfl ?_
              exact t_X2_combined_b75 mem 0 _ h
          · rw [if_neg q7] at h
            by_cases q10 : x0 = 2005
            · rw [if_pos q10] at h
              refine ug_tswI 76 dX2_combined_1 (by rw [q10]; decide) (by rw [q10]; decide) (by rw [q10]; rfl) (by decide) ?_
              refine ug_iload_n 1 dX2_combined_76 rfl rfl ?_
              refine ug_iload_n 2 dX2_combined_77 rfl rfl ?_
              refine ug_mmin kl_X2_38 (Nat.le_of_ble_eq_true rfl) (Nat.le_of_ble_eq_true rfl) dX2_combined_78 ?_
              obtain rfl := Option.some.inj h
              exact ug_iret dX2_combined_81
            · rw [if_neg q10] at h
              refine ug_tswO 82 dX2_combined_1 (utsw_2000_2005 q1 q2 q3 q4 q7 q10) (by decide) ?_
              refine ug_iload_n 1 dX2_combined_82 rfl rfl ?_
              refine ug_iload_n 2 dX2_combined_83 rfl rfl ?_
              refine ug_mmax kl_X2_44 (Nat.le_of_ble_eq_true rfl) (Nat.le_of_ble_eq_true rfl) dX2_combined_84 ?_
              obtain rfl := Option.some.inj h
              exact ug_iret dX2_combined_87
theorem c_X2_combined {l : Launch} {E : Ue} {mem : Um} {x0 : Int32} {x1 : Int32} {x2 : Int32} {m1 : Um} {r : Int32} (h : f_X2_combined  mem x0 x1 x2 = some (m1, r)) : ucr l E 2 0 0 yX2_combined cX2_combined 3 (some .int) [.int x0, .int x1, .int x2] mem (some (.int r)) m1 := ucr_of rfl (Nat.le_of_ble_eq_true rfl) (t_X2_combined  mem x0 x1 x2 _ h)
-- X2_value
def f_X2_value_b100 (k4 : Um → Int32 → Int32 → Option (Um × Int32)) (mem : Um) (x1 : Int32) (x2 : Int32) : Option (Um × Int32) :=
  k4 mem x1 (x2 + 1)
set_option maxRecDepth 20000 in
theorem t_X2_value_b100 {l : Launch} {E : Ue} (k4 : Um → Int32 → Int32 → Option (Um × Int32)) (hk4 : ∀ (mem : Um) (x1 : Int32) (x2 : Int32) (z : Um × Int32), k4 mem x1 x2 = some z → ug l E 3 0 0 cX2_value 4 RX2 (some .int) [] (uz_i z) 0 0 4 [(0, .ref (ue_d E 13)), (1, .int x1), (2, .int x2)] [] mem) (mem : Um) (x1 : Int32) (x2 : Int32) (z : Um × Int32) (h : f_X2_value_b100 k4 mem x1 x2 = some z) : ug l E 3 0 0 cX2_value 4 RX2 (some .int) [] (uz_i z) 0 0 100 [(0, .ref (ue_d E 13)), (1, .int x1), (2, .int x2)] [] mem := by
  rw [f_X2_value_b100] at h
  refine ug_iinc (v := (x2 + 1)) [(2, .int (x2 + 1)), (0, .ref (ue_d E 13)), (1, .int x1)] 2 dX2_value_100 rfl rfl (Nat.le_of_ble_eq_true rfl) rfl ?_
  refine ug_goto 4 dX2_value_103 (by decide) ?_
  refine ug_sub [(0, .ref (ue_d E 13)), (1, .int x1), (2, .int (x2 + 1))] [1, 2, 0] rfl ?_
  exact hk4 mem x1 (x2 + 1) _ h
def f_X2_value_b66 (k4 : Um → Int32 → Int32 → Option (Um × Int32)) (mem : Um) (x1 : Int32) (x2 : Int32) (x3 : Int32) : Option (Um × Int32) :=
  if x1 < 2 then (f_X2_value_b100 k4 mem x1 x2) else (ugd (uin ((x1 + (-1)) - 1) 150) (ugd (uin (x1 + (-1)) 150) (ubi (f_X2_combined mem x3 (mem 16 ((x1 + (-1)) - 1).toNatClampNeg) (mem 16 (x1 + (-1)).toNatClampNeg)) (fun m4 r5 => ugd (uin ((x1 + (-1)) - 1) 150) (f_X2_value_b100 k4 (um_w m4 16 ((x1 + (-1)) - 1).toNatClampNeg r5) (x1 + (-1)) x2)))))
set_option maxRecDepth 20000 in
theorem t_X2_value_b66 {l : Launch} {E : Ue} (k4 : Um → Int32 → Int32 → Option (Um × Int32)) (hk4 : ∀ (mem : Um) (x1 : Int32) (x2 : Int32) (z : Um × Int32), k4 mem x1 x2 = some z → ug l E 3 0 0 cX2_value 4 RX2 (some .int) [] (uz_i z) 0 0 4 [(0, .ref (ue_d E 13)), (1, .int x1), (2, .int x2)] [] mem) (mem : Um) (x1 : Int32) (x2 : Int32) (x3 : Int32) (z : Um × Int32) (h : f_X2_value_b66 k4 mem x1 x2 x3 = some z) : ug l E 3 0 0 cX2_value 4 RX2 (some .int) [] (uz_i z) 0 0 66 [(0, .ref (ue_d E 13)), (1, .int x1), (2, .int x2), (3, .int x3)] [] mem := by
  rw [f_X2_value_b66] at h
  refine ug_iload_n 1 dX2_value_66 rfl rfl ?_
  refine ug_iconst dX2_value_67 un_iconst_2 ?_
  refine ug_icmp_lt 100 dX2_value_68 (by decide) (fun q1 => ?_) (fun q1 => ?_)
  · rw [if_pos q1] at h
    refine ug_sub [(0, .ref (ue_d E 13)), (1, .int x1), (2, .int x2)] [0, 1, 2] rfl ?_
    exact t_X2_value_b100 k4 hk4 mem x1 x2 _ h
  · rw [if_neg q1] at h
    refine ug_iinc (v := (x1 + (-1))) [(1, .int (x1 + (-1))), (0, .ref (ue_d E 13)), (2, .int x2), (3, .int x3)] 1 dX2_value_71 rfl rfl (Nat.le_of_ble_eq_true rfl) rfl ?_
    refine ug_aload_n 1 dX2_value_74 rfl rfl ?_
    refine ug_getR kf_X2_25 gr_13_4 dX2_value_75 ?_
    refine ug_iload_n 0 dX2_value_78 rfl rfl ?_
    refine ug_iconst dX2_value_79 un_iconst_1 ?_
    refine ug_isub dX2_value_80 ?_
    refine ug_iload_n 3 dX2_value_81 rfl rfl ?_
    refine ug_aload_n 1 dX2_value_82 rfl rfl ?_
    refine ug_getR kf_X2_25 gr_13_4 dX2_value_83 ?_
    refine ug_iload_n 0 dX2_value_86 rfl rfl ?_
    refine ug_iconst dX2_value_87 un_iconst_1 ?_
    refine ug_isub dX2_value_88 ?_
    obtain ⟨g2, h⟩ := ugd_some h
    refine ug_iald al_16 (uin_ok g2) dX2_value_89 ?_
    refine ug_aload_n 1 dX2_value_90 rfl rfl ?_
    refine ug_getR kf_X2_25 gr_13_4 dX2_value_91 ?_
    refine ug_iload_n 0 dX2_value_94 rfl rfl ?_
    obtain ⟨g3, h⟩ := ugd_some h
    refine ug_iald al_16 (uin_ok g3) dX2_value_95 ?_
    obtain ⟨m4, r5, h6, h⟩ := ubi_some h
    refine ug_callSi [.int x3, .int (mem 16 ((x1 + (-1)) - 1).toNatClampNeg), .int (mem 16 (x1 + (-1)).toNatClampNeg)] (c_X2_combined  h6) kc_X2_47 rfl (S := [.int ((x1 + (-1)) - 1), .ref (ue_d E 16)]) rfl (Nat.le_of_ble_eq_true rfl) (Nat.le_of_ble_eq_true rfl) (Nat.le_of_ble_eq_true rfl) dX2_value_96 ?_
    obtain ⟨g7, h⟩ := ugd_some h
    refine ug_iast al_16 (uin_ok g7) dX2_value_99 ?_
    refine ug_sub [(0, .ref (ue_d E 13)), (1, .int (x1 + (-1))), (2, .int x2)] [1, 0, 2] rfl ?_
    exact t_X2_value_b100 k4 hk4 (um_w m4 16 ((x1 + (-1)) - 1).toNatClampNeg r5) (x1 + (-1)) x2 _ h
def f_X2_value_b59 (k4 : Um → Int32 → Int32 → Option (Um × Int32)) (mem : Um) (x1 : Int32) (x2 : Int32) (y0 : Int32) (y1 : Int32) : Option (Um × Int32) :=
  ugd (uin y1 150) (f_X2_value_b100 k4 (um_w mem 16 y1.toNatClampNeg y0) (x1 + 1) x2)
set_option maxRecDepth 20000 in
theorem t_X2_value_b59 {l : Launch} {E : Ue} (k4 : Um → Int32 → Int32 → Option (Um × Int32)) (hk4 : ∀ (mem : Um) (x1 : Int32) (x2 : Int32) (z : Um × Int32), k4 mem x1 x2 = some z → ug l E 3 0 0 cX2_value 4 RX2 (some .int) [] (uz_i z) 0 0 4 [(0, .ref (ue_d E 13)), (1, .int x1), (2, .int x2)] [] mem) (mem : Um) (x1 : Int32) (x2 : Int32) (y0 : Int32) (y1 : Int32) (z : Um × Int32) (h : f_X2_value_b59 k4 mem x1 x2 y0 y1 = some z) : ug l E 3 0 0 cX2_value 4 RX2 (some .int) [] (uz_i z) 0 0 59 [(0, .ref (ue_d E 13)), (1, .int x1), (2, .int x2)] [.int y0, .int y1, .ref (ue_d E 16)] mem := by
  rw [f_X2_value_b59] at h
  obtain ⟨g1, h⟩ := ugd_some h
  refine ug_iast al_16 (uin_ok g1) dX2_value_59 ?_
  refine ug_iinc (v := (x1 + 1)) [(1, .int (x1 + 1)), (0, .ref (ue_d E 13)), (2, .int x2)] 1 dX2_value_60 rfl rfl (Nat.le_of_ble_eq_true rfl) rfl ?_
  refine ug_goto 100 dX2_value_63 (by decide) ?_
  refine ug_sub [(0, .ref (ue_d E 13)), (1, .int (x1 + 1)), (2, .int x2)] [1, 0, 2] rfl ?_
  exact t_X2_value_b100 k4 hk4 (um_w mem 16 y1.toNatClampNeg y0) (x1 + 1) x2 _ h
def f_X2_value_b4 : Nat → Um → Int32 → Int32 → Option (Um × Int32)
  | 0, _, _, _ => none
  | n + 1, mem, x1, x2 =>
    if (mem 13 1) ≤ x2 then (some (mem, (mem 16 0))) else (ugd (uin x2 150) (if 2000 ≤ (mem 14 x2.toNatClampNeg) then (f_X2_value_b66 (f_X2_value_b4  n) mem x1 x2 (mem 14 x2.toNatClampNeg)) else (if 150 ≤ x1 then (f_X2_value_b66 (f_X2_value_b4  n) mem x1 x2 (mem 14 x2.toNatClampNeg)) else (if 1000 ≤ (mem 14 x2.toNatClampNeg) then (ugd (uin ((mem 14 x2.toNatClampNeg) - 1000) 8) (f_X2_value_b59 (f_X2_value_b4  n) mem x1 x2 (mem 17 ((mem 14 x2.toNatClampNeg) - 1000).toNatClampNeg) x1)) else (f_X2_value_b59 (f_X2_value_b4  n) mem x1 x2 (mem 14 x2.toNatClampNeg) x1)))))
set_option maxRecDepth 20000 in
theorem t_X2_value_b4 {l : Launch} {E : Ue} : ∀ (n : Nat) (mem : Um) (x1 : Int32) (x2 : Int32) (z : Um × Int32), f_X2_value_b4  n mem x1 x2 = some z → ug l E 3 0 0 cX2_value 4 RX2 (some .int) [] (uz_i z) 0 0 4 [(0, .ref (ue_d E 13)), (1, .int x1), (2, .int x2)] [] mem := by
  intro n
  induction n with
  | zero =>
    intro mem x1 x2 z h
    rw [f_X2_value_b4] at h
    cases h
  | succ n ih =>
    intro mem x1 x2 z h
    rw [f_X2_value_b4] at h
    refine ug_iload_n 2 dX2_value_4 rfl rfl ?_
    refine ug_aload_n 0 dX2_value_5 rfl rfl ?_
    refine ug_getI kf_X2_15 gi_13_1 dX2_value_6 ?_
    refine ug_icmp_ge 106 dX2_value_9 (by decide) (fun q1 => ?_) (fun q1 => ?_)
    · rw [if_pos q1] at h
      refine ug_aload_n 0 dX2_value_106 rfl rfl ?_
      refine ug_getR kf_X2_25 gr_13_4 dX2_value_107 ?_
      refine ug_iconst dX2_value_110 un_iconst_0 ?_
      refine ug_ialdK al_16 ui_0_150 uc_0 dX2_value_111 ?_
      obtain rfl := Option.some.inj h
      exact ug_iret dX2_value_112
    · rw [if_neg q1] at h
      refine ug_aload_n 0 dX2_value_12 rfl rfl ?_
      refine ug_getR kf_X2_9 gr_13_0 dX2_value_13 ?_
      refine ug_iload_n 2 dX2_value_16 rfl rfl ?_
      obtain ⟨g2, h⟩ := ugd_some h
      refine ug_iald al_14 (uin_ok g2) dX2_value_17 ?_
      refine ug_istore_n [(3, .int (mem 14 x2.toNatClampNeg)), (0, .ref (ue_d E 13)), (1, .int x1), (2, .int x2)] dX2_value_18 rfl (Nat.le_of_ble_eq_true rfl) rfl ?_
      refine ug_iload_n 0 dX2_value_19 rfl rfl ?_
      refine ug_sipush dX2_value_20 un_sipush_2000 ?_
      refine ug_icmp_ge 66 dX2_value_23 (by decide) (fun q3 => ?_) (fun q3 => ?_)
      · rw [if_pos q3] at h
        refine ug_sub [(0, .ref (ue_d E 13)), (1, .int x1), (2, .int x2), (3, .int (mem 14 x2.toNatClampNeg))] [1, 2, 3, 0] rfl ?_
        exact t_X2_value_b66 (f_X2_value_b4  n) ih mem x1 x2 (mem 14 x2.toNatClampNeg) _ h
      · rw [if_neg q3] at h
        refine ug_iload_n 2 dX2_value_26 rfl rfl ?_
        refine ug_sipush dX2_value_27 un_sipush_150 ?_
        refine ug_icmp_ge 66 dX2_value_30 (by decide) (fun q4 => ?_) (fun q4 => ?_)
        · rw [if_pos q4] at h
          refine ug_sub [(0, .ref (ue_d E 13)), (1, .int x1), (2, .int x2), (3, .int (mem 14 x2.toNatClampNeg))] [1, 2, 3, 0] rfl ?_
          exact t_X2_value_b66 (f_X2_value_b4  n) ih mem x1 x2 (mem 14 x2.toNatClampNeg) _ h
        · rw [if_neg q4] at h
          refine ug_aload_n 1 dX2_value_33 rfl rfl ?_
          refine ug_getR kf_X2_25 gr_13_4 dX2_value_34 ?_
          refine ug_iload_n 2 dX2_value_37 rfl rfl ?_
          refine ug_iload_n 0 dX2_value_38 rfl rfl ?_
          refine ug_sipush dX2_value_39 un_sipush_1000 ?_
          refine ug_icmp_ge 49 dX2_value_42 (by decide) (fun q5 => ?_) (fun q5 => ?_)
          · rw [if_pos q5] at h
            refine ug_aload_n 1 dX2_value_49 rfl rfl ?_
            refine ug_getR kf_X2_31 gr_13_6 dX2_value_50 ?_
            refine ug_iload_n 0 dX2_value_53 rfl rfl ?_
            refine ug_sipush dX2_value_54 un_sipush_1000 ?_
            refine ug_isub dX2_value_57 ?_
            obtain ⟨g6, h⟩ := ugd_some h
            refine ug_iald al_17 (uin_ok g6) dX2_value_58 ?_
            refine ug_sub [(0, .ref (ue_d E 13)), (1, .int x1), (2, .int x2)] [1, 2, 3] rfl ?_
            exact t_X2_value_b59 (f_X2_value_b4  n) ih mem x1 x2 (mem 17 ((mem 14 x2.toNatClampNeg) - 1000).toNatClampNeg) x1 _ h
          · rw [if_neg q5] at h
            refine ug_iload_n 0 dX2_value_45 rfl rfl ?_
            refine ug_goto 59 dX2_value_46 (by decide) ?_
            refine ug_sub [(0, .ref (ue_d E 13)), (1, .int x1), (2, .int x2)] [1, 2, 3] rfl ?_
            exact t_X2_value_b59 (f_X2_value_b4  n) ih mem x1 x2 (mem 14 x2.toNatClampNeg) x1 _ h
def f_X2_value (mem : Um) : Option (Um × Int32) :=
  f_X2_value_b4  UF mem 0 0
set_option maxRecDepth 20000 in
theorem t_X2_value {l : Launch} {E : Ue} (mem : Um) (z : Um × Int32) (h : f_X2_value  mem  = some z) : ug l E 3 0 0 cX2_value 4 RX2 (some .int) [] (uz_i z) 0 0 0 [(0, .ref (ue_d E 13))] [] mem := by
  rw [f_X2_value] at h
  refine ug_iconst dX2_value_0 un_iconst_0 ?_
  refine ug_istore_n [(1, .int 0), (0, .ref (ue_d E 13))] dX2_value_1 rfl (Nat.le_of_ble_eq_true rfl) rfl ?_
  refine ug_iconst dX2_value_2 un_iconst_0 ?_
  refine ug_istore_n [(2, .int 0), (1, .int 0), (0, .ref (ue_d E 13))] dX2_value_3 rfl (Nat.le_of_ble_eq_true rfl) rfl ?_
  refine ug_sub [(0, .ref (ue_d E 13)), (1, .int 0), (2, .int 0)] [2, 1, 0] rfl ?_
  exact t_X2_value_b4  UF mem 0 0 _ h
theorem c_X2_value {l : Launch} {E : Ue} {mem : Um} {m1 : Um} {r : Int32} (h : f_X2_value  mem  = some (m1, r)) : ucr l E 3 0 0 yX2_value cX2_value 4 (some .int) [.ref (ue_d E 13)] mem (some (.int r)) m1 := ucr_of rfl (Nat.le_of_ble_eq_true rfl) (t_X2_value  mem  _ h)
-- X2_life
def f_X2_life_b38 (mem : Um) (y0 : Int32) : Option (Um × Int32) :=
  some (mem, (ummax 1 (ummin 60 y0)))
set_option maxRecDepth 20000 in
theorem t_X2_life_b38 {l : Launch} {E : Ue} (mem : Um) (y0 : Int32) (z : Um × Int32) (h : f_X2_life_b38  mem y0 = some z) : ug l E 4 0 0 cX2_life 2 RX2 (some .int) [] (uz_i z) 0 0 38 [] [.int y0] mem := by
  rw [f_X2_life_b38] at h
  refine ug_istore_n [(1, .int y0)] dX2_life_38 rfl (Nat.le_of_ble_eq_true rfl) rfl ?_
  refine ug_iconst dX2_life_39 un_iconst_1 ?_
  refine ug_bipush dX2_life_40 un_bipush_60 ?_
  refine ug_iload_n 0 dX2_life_42 rfl rfl ?_
  refine ug_mmin kl_X2_38 (Nat.le_of_ble_eq_true rfl) (Nat.le_of_ble_eq_true rfl) dX2_life_43 ?_
  refine ug_mmax kl_X2_44 (Nat.le_of_ble_eq_true rfl) (Nat.le_of_ble_eq_true rfl) dX2_life_46 ?_
  obtain rfl := Option.some.inj h
  exact ug_iret dX2_life_49
def f_X2_life (mem : Um) : Option (Um × Int32) :=
  if (mem 13 1) = 0 then (f_X2_life_b38 mem ((((mem 17 1) * 2) - ((mem 17 0) / 2)) + (mem 17 2))) else (ubi (f_X2_value mem) (fun m2 r3 => f_X2_life_b38 m2 r3))
set_option maxRecDepth 20000 in
theorem t_X2_life {l : Launch} {E : Ue} (mem : Um) (z : Um × Int32) (h : f_X2_life  mem  = some z) : ug l E 4 0 0 cX2_life 2 RX2 (some .int) [] (uz_i z) 0 0 0 [(0, .ref (ue_d E 13))] [] mem := by
  rw [f_X2_life] at h
  refine ug_aload_n 0 dX2_life_0 rfl rfl ?_
  refine ug_getI kf_X2_15 gi_13_1 dX2_life_1 ?_
  refine ug_if_ne 34 dX2_life_4 (by decide) (fun q1 => ?_) (fun q1 => ?_)
  · rw [if_neg q1] at h
    refine ug_aload_n 0 dX2_life_34 rfl rfl ?_
    obtain ⟨m2, r3, h4, h⟩ := ubi_some h
    refine ug_callVi [] (c_X2_value  h4) kc_X2_34 ro_13 rfl (S := []) rfl (Nat.le_of_ble_eq_true rfl) (Nat.le_of_ble_eq_true rfl) (Nat.le_of_ble_eq_true rfl) dX2_life_35 ?_
    refine ug_sub [] [] rfl ?_
    exact t_X2_life_b38 m2 r3 _ h
  · rw [if_pos q1] at h
    refine ug_aload_n 0 dX2_life_7 rfl rfl ?_
    refine ug_getR kf_X2_31 gr_13_6 dX2_life_8 ?_
    refine ug_iconst dX2_life_11 un_iconst_1 ?_
    refine ug_ialdK al_17 ui_1_8 uc_1 dX2_life_12 ?_
    refine ug_iconst dX2_life_13 un_iconst_2 ?_
    refine ug_imul dX2_life_14 ?_
    refine ug_aload_n 0 dX2_life_15 rfl rfl ?_
    refine ug_getR kf_X2_31 gr_13_6 dX2_life_16 ?_
    refine ug_iconst dX2_life_19 un_iconst_0 ?_
    refine ug_ialdK al_17 ui_0_8 uc_0 dX2_life_20 ?_
    refine ug_iconst dX2_life_21 un_iconst_2 ?_
    refine ug_idiv dX2_life_22 (by decide) ?_
    refine ug_isub dX2_life_23 ?_
    refine ug_aload_n 0 dX2_life_24 rfl rfl ?_
    refine ug_getR kf_X2_31 gr_13_6 dX2_life_25 ?_
    refine ug_iconst dX2_life_28 un_iconst_2 ?_
    refine ug_ialdK al_17 ui_2_8 uc_2 dX2_life_29 ?_
    refine ug_iadd dX2_life_30 ?_
    refine ug_goto 38 dX2_life_31 (by decide) ?_
    refine ug_sub [] [] rfl ?_
    exact t_X2_life_b38 mem ((((mem 17 1) * 2) - ((mem 17 0) / 2)) + (mem 17 2)) _ h
theorem c_X2_life {l : Launch} {E : Ue} {mem : Um} {m1 : Um} {r : Int32} (h : f_X2_life  mem  = some (m1, r)) : ucr l E 4 0 0 yX2_life cX2_life 2 (some .int) [.ref (ue_d E 13)] mem (some (.int r)) m1 := ucr_of rfl (Nat.le_of_ble_eq_true rfl) (t_X2_life  mem  _ h)
-- X4_life
def f_X4_life_b112 (o : Nat) (mem : Um) (x1 : Int32) (y0 : Int32) (y1 : Int32) : Option (Um × Int32) :=
  ugd (uin y1 8) (ubi (f_X2_life (um_w (um_w (um_w (um_w mem 17 y1.toNatClampNeg y0) 17 5 ((um_w mem 17 y1.toNatClampNeg y0) (o + 1) 0)) 17 6 ((um_w (um_w mem 17 y1.toNatClampNeg y0) 17 5 ((um_w mem 17 y1.toNatClampNeg y0) (o + 1) 0)) (o + 1) 1)) 17 7 x1)) (fun m2 r3 => some (m2, r3)))
set_option maxRecDepth 20000 in
theorem t_X4_life_b112 {l : Launch} {E : Ue} {o : Nat} (ho : o = 23 ∨ o = 25) (mem : Um) (x1 : Int32) (y0 : Int32) (y1 : Int32) (z : Um × Int32) (h : f_X4_life_b112 o mem x1 y0 y1 = some z) : ug l E 7 0 0 cX4_life 2 RX4 (some .int) [] (uz_i z) 0 0 112 [(0, .ref (ue_d E o)), (1, .int x1)] [.int y0, .int y1, .ref (ue_d E 17)] mem := by
  rw [f_X4_life_b112] at h
  obtain ⟨g1, h⟩ := ugd_some h
  refine ug_iast al_17 (uin_ok g1) dX4_life_112 ?_
  refine ug_aload_n 0 dX4_life_113 rfl rfl ?_
  refine ug_getR kf_X4_19 (sk_r1 ho) dX4_life_114 ?_
  refine ug_getR kf_X4_94 gr_13_6 dX4_life_117 ?_
  refine ug_iconst dX4_life_120 un_iconst_5 ?_
  refine ug_aload_n 0 dX4_life_121 rfl rfl ?_
  refine ug_getR kf_X4_11 (sk_r2 ho) dX4_life_122 ?_
  refine ug_iconst dX4_life_125 un_iconst_0 ?_
  refine ug_ialdK (sk_a ho) ui_0_28 uc_0 dX4_life_126 ?_
  refine ug_iastK al_17 ui_5_8 uc_5 dX4_life_127 ?_
  refine ug_aload_n 0 dX4_life_128 rfl rfl ?_
  refine ug_getR kf_X4_19 (sk_r1 ho) dX4_life_129 ?_
  refine ug_getR kf_X4_94 gr_13_6 dX4_life_132 ?_
  refine ug_bipush dX4_life_135 un_bipush_6 ?_
  refine ug_aload_n 0 dX4_life_137 rfl rfl ?_
  refine ug_getR kf_X4_11 (sk_r2 ho) dX4_life_138 ?_
  refine ug_iconst dX4_life_141 un_iconst_1 ?_
  refine ug_ialdK (sk_a ho) ui_1_28 uc_1 dX4_life_142 ?_
  refine ug_iastK al_17 ui_6_8 uc_6 dX4_life_143 ?_
  refine ug_aload_n 0 dX4_life_144 rfl rfl ?_
  refine ug_getR kf_X4_19 (sk_r1 ho) dX4_life_145 ?_
  refine ug_getR kf_X4_94 gr_13_6 dX4_life_148 ?_
  refine ug_bipush dX4_life_151 un_bipush_7 ?_
  refine ug_iload_n 1 dX4_life_153 rfl rfl ?_
  refine ug_iastK al_17 ui_7_8 uc_7 dX4_life_154 ?_
  refine ug_aload_n 0 dX4_life_155 rfl rfl ?_
  refine ug_getR kf_X4_19 (sk_r1 ho) dX4_life_156 ?_
  obtain ⟨m2, r3, h4, h⟩ := ubi_some h
  refine ug_callVi [] (c_X2_life  h4) kc_X4_108 ro_13 rfl (S := []) rfl (Nat.le_of_ble_eq_true rfl) (Nat.le_of_ble_eq_true rfl) (Nat.le_of_ble_eq_true rfl) dX4_life_159 ?_
  obtain rfl := Option.some.inj h
  exact ug_iret dX4_life_162
def f_X4_life_b65 (o : Nat) (mem : Um) (x1 : Int32) (y0 : Int32) (y1 : Int32) : Option (Um × Int32) :=
  ugd (uin y1 8) (ugd (uin (18 + x1) 28) (ubi (f_X2_uses (um_w (um_w mem 17 y1.toNatClampNeg y0) 17 3 ((um_w mem 17 y1.toNatClampNeg y0) (o + 1) (18 + x1).toNatClampNeg)) 4) (fun m3 r4 => if r4 = 0 then (f_X4_life_b112 o m3 x1 0 4) else (ubi (f_X4_worthOf o m3 x1) (fun m7 r8 => f_X4_life_b112 o m7 x1 r8 4)))))
set_option maxRecDepth 20000 in
theorem t_X4_life_b65 {l : Launch} {E : Ue} {o : Nat} (ho : o = 23 ∨ o = 25) (mem : Um) (x1 : Int32) (y0 : Int32) (y1 : Int32) (z : Um × Int32) (h : f_X4_life_b65 o mem x1 y0 y1 = some z) : ug l E 7 0 0 cX4_life 2 RX4 (some .int) [] (uz_i z) 0 0 65 [(0, .ref (ue_d E o)), (1, .int x1)] [.int y0, .int y1, .ref (ue_d E 17)] mem := by
  rw [f_X4_life_b65] at h
  obtain ⟨g1, h⟩ := ugd_some h
  refine ug_iast al_17 (uin_ok g1) dX4_life_65 ?_
  refine ug_aload_n 0 dX4_life_66 rfl rfl ?_
  refine ug_getR kf_X4_19 (sk_r1 ho) dX4_life_67 ?_
  refine ug_getR kf_X4_94 gr_13_6 dX4_life_70 ?_
  refine ug_iconst dX4_life_73 un_iconst_3 ?_
  refine ug_aload_n 0 dX4_life_74 rfl rfl ?_
  refine ug_getR kf_X4_11 (sk_r2 ho) dX4_life_75 ?_
  refine ug_bipush dX4_life_78 un_bipush_18 ?_
  refine ug_iload_n 1 dX4_life_80 rfl rfl ?_
  refine ug_iadd dX4_life_81 ?_
  obtain ⟨g2, h⟩ := ugd_some h
  refine ug_iald (sk_a ho) (uin_ok g2) dX4_life_82 ?_
  refine ug_iastK al_17 ui_3_8 uc_3 dX4_life_83 ?_
  refine ug_aload_n 0 dX4_life_84 rfl rfl ?_
  refine ug_getR kf_X4_19 (sk_r1 ho) dX4_life_85 ?_
  refine ug_getR kf_X4_94 gr_13_6 dX4_life_88 ?_
  refine ug_iconst dX4_life_91 un_iconst_4 ?_
  refine ug_aload_n 0 dX4_life_92 rfl rfl ?_
  refine ug_getR kf_X4_19 (sk_r1 ho) dX4_life_93 ?_
  refine ug_iconst dX4_life_96 un_iconst_4 ?_
  obtain ⟨m3, r4, h5, h⟩ := ubi_some h
  refine ug_callVi [.int 4] (c_X2_uses  h5) kc_X4_102 ro_13 rfl (S := [.int 4, .ref (ue_d E 17)]) rfl (Nat.le_of_ble_eq_true rfl) (Nat.le_of_ble_eq_true rfl) (Nat.le_of_ble_eq_true rfl) dX4_life_97 ?_
  refine ug_if_eq 111 dX4_life_100 (by decide) (fun q6 => ?_) (fun q6 => ?_)
  · rw [if_pos q6] at h
    refine ug_iconst dX4_life_111 un_iconst_0 ?_
    exact t_X4_life_b112 ho m3 x1 0 4 _ h
  · rw [if_neg q6] at h
    refine ug_aload_n 0 dX4_life_103 rfl rfl ?_
    refine ug_iload_n 1 dX4_life_104 rfl rfl ?_
    obtain ⟨m7, r8, h9, h⟩ := ubi_some h
    refine ug_callVi [.int x1] (c_X4_worthOf ho h9) kc_X4_105 (sk_o ho) rfl (S := [.int 4, .ref (ue_d E 17)]) rfl (Nat.le_of_ble_eq_true rfl) (Nat.le_of_ble_eq_true rfl) (Nat.le_of_ble_eq_true rfl) dX4_life_105 ?_
    refine ug_goto 112 dX4_life_108 (by decide) ?_
    exact t_X4_life_b112 ho m7 x1 r8 4 _ h
def f_X4_life (o : Nat) (mem : Um) (x1 : Int32) : Option (Um × Int32) :=
  ugd (uin (13 + x1) 28) (ubi (f_X2_uses (um_w (um_w mem 17 0 (mem (o + 1) (13 + x1).toNatClampNeg)) 17 1 ((um_w mem 17 0 (mem (o + 1) (13 + x1).toNatClampNeg)) 3 2)) 2) (fun m2 r3 => if r3 = 0 then (f_X4_life_b65 o m2 x1 0 2) else (ubi (f_X4_touching o m2 x1) (fun m6 r7 => ubi (f_J6_bitCount_0f7a4 m6 r7) (fun m9 r10 => f_X4_life_b65 o m9 x1 r10 2)))))
set_option maxRecDepth 20000 in
theorem t_X4_life {l : Launch} {E : Ue} {o : Nat} (ho : o = 23 ∨ o = 25) (mem : Um) (x1 : Int32) (z : Um × Int32) (h : f_X4_life o mem x1 = some z) : ug l E 7 0 0 cX4_life 2 RX4 (some .int) [] (uz_i z) 0 0 0 [(0, .ref (ue_d E o)), (1, .int x1)] [] mem := by
  rw [f_X4_life] at h
  refine ug_aload_n 0 dX4_life_0 rfl rfl ?_
  refine ug_getR kf_X4_19 (sk_r1 ho) dX4_life_1 ?_
  refine ug_getR kf_X4_94 gr_13_6 dX4_life_4 ?_
  refine ug_iconst dX4_life_7 un_iconst_0 ?_
  refine ug_aload_n 0 dX4_life_8 rfl rfl ?_
  refine ug_getR kf_X4_11 (sk_r2 ho) dX4_life_9 ?_
  refine ug_bipush dX4_life_12 un_bipush_13 ?_
  refine ug_iload_n 1 dX4_life_14 rfl rfl ?_
  refine ug_iadd dX4_life_15 ?_
  obtain ⟨g1, h⟩ := ugd_some h
  refine ug_iald (sk_a ho) (uin_ok g1) dX4_life_16 ?_
  refine ug_iastK al_17 ui_0_8 uc_0 dX4_life_17 ?_
  refine ug_aload_n 0 dX4_life_18 rfl rfl ?_
  refine ug_getR kf_X4_19 (sk_r1 ho) dX4_life_19 ?_
  refine ug_getR kf_X4_94 gr_13_6 dX4_life_22 ?_
  refine ug_iconst dX4_life_25 un_iconst_1 ?_
  refine ug_aload_n 0 dX4_life_26 rfl rfl ?_
  refine ug_getR kf_X4_15 (sk_r0 ho) dX4_life_27 ?_
  refine ug_getI kf_X4_99 gi_3_2 dX4_life_30 ?_
  refine ug_iastK al_17 ui_1_8 uc_1 dX4_life_33 ?_
  refine ug_aload_n 0 dX4_life_34 rfl rfl ?_
  refine ug_getR kf_X4_19 (sk_r1 ho) dX4_life_35 ?_
  refine ug_getR kf_X4_94 gr_13_6 dX4_life_38 ?_
  refine ug_iconst dX4_life_41 un_iconst_2 ?_
  refine ug_aload_n 0 dX4_life_42 rfl rfl ?_
  refine ug_getR kf_X4_19 (sk_r1 ho) dX4_life_43 ?_
  refine ug_iconst dX4_life_46 un_iconst_2 ?_
  obtain ⟨m2, r3, h4, h⟩ := ubi_some h
  refine ug_callVi [.int 2] (c_X2_uses  h4) kc_X4_102 ro_13 rfl (S := [.int 2, .ref (ue_d E 17)]) rfl (Nat.le_of_ble_eq_true rfl) (Nat.le_of_ble_eq_true rfl) (Nat.le_of_ble_eq_true rfl) dX4_life_47 ?_
  refine ug_if_eq 64 dX4_life_50 (by decide) (fun q5 => ?_) (fun q5 => ?_)
  · rw [if_pos q5] at h
    refine ug_iconst dX4_life_64 un_iconst_0 ?_
    exact t_X4_life_b65 ho m2 x1 0 2 _ h
  · rw [if_neg q5] at h
    refine ug_aload_n 0 dX4_life_53 rfl rfl ?_
    refine ug_iload_n 1 dX4_life_54 rfl rfl ?_
    obtain ⟨m6, r7, h8, h⟩ := ubi_some h
    refine ug_callVi [.int x1] (c_X4_touching ho h8) kc_X4_86 (sk_o ho) rfl (S := [.int 2, .ref (ue_d E 17)]) rfl (Nat.le_of_ble_eq_true rfl) (Nat.le_of_ble_eq_true rfl) (Nat.le_of_ble_eq_true rfl) dX4_life_55 ?_
    obtain ⟨m9, r10, h11, h⟩ := ubi_some h
    refine ug_callSi [.int r7] (c_J6_bitCount_0f7a4  h11) kc_X4_89 rfl (S := [.int 2, .ref (ue_d E 17)]) rfl (Nat.le_of_ble_eq_true rfl) (Nat.le_of_ble_eq_true rfl) (Nat.le_of_ble_eq_true rfl) dX4_life_58 ?_
    refine ug_goto 65 dX4_life_61 (by decide) ?_
    exact t_X4_life_b65 ho m9 x1 r10 2 _ h
theorem c_X4_life {l : Launch} {E : Ue} {o : Nat} (ho : o = 23 ∨ o = 25) {mem : Um} {x1 : Int32} {m1 : Um} {r : Int32} (h : f_X4_life o mem x1 = some (m1, r)) : ucr l E 7 0 0 yX4_life cX4_life 2 (some .int) [.ref (ue_d E o), .int x1] mem (some (.int r)) m1 := ucr_of rfl (Nat.le_of_ble_eq_true rfl) (t_X4_life ho mem x1 _ h)
-- X4_outlived
def f_X4_outlived_b40 (o : Nat) (k4 : Um → Int32 → Int32 → Option (Um × Int32)) (mem : Um) (x1 : Int32) (x2 : Int32) : Option (Um × Int32) :=
  k4 mem x1 (x2 + 1)
set_option maxRecDepth 20000 in
theorem t_X4_outlived_b40 {l : Launch} {E : Ue} {o : Nat} (ho : o = 23 ∨ o = 25) (k4 : Um → Int32 → Int32 → Option (Um × Int32)) (hk4 : ∀ (mem : Um) (x1 : Int32) (x2 : Int32) (z : Um × Int32), k4 mem x1 x2 = some z → ug l E 8 0 0 cX4_outlived 3 RX4 (some .int) [] (uz_i z) 0 0 4 [(0, .ref (ue_d E o)), (1, .int x1), (2, .int x2)] [] mem) (mem : Um) (x1 : Int32) (x2 : Int32) (z : Um × Int32) (h : f_X4_outlived_b40 o k4 mem x1 x2 = some z) : ug l E 8 0 0 cX4_outlived 3 RX4 (some .int) [] (uz_i z) 0 0 40 [(0, .ref (ue_d E o)), (1, .int x1), (2, .int x2)] [] mem := by
  rw [f_X4_outlived_b40] at h
  refine ug_iinc (v := (x2 + 1)) [(2, .int (x2 + 1)), (0, .ref (ue_d E o)), (1, .int x1)] 2 dX4_outlived_40 rfl rfl (Nat.le_of_ble_eq_true rfl) rfl ?_
  refine ug_goto 4 dX4_outlived_43 (by decide) ?_
  refine ug_sub [(0, .ref (ue_d E o)), (1, .int x1), (2, .int (x2 + 1))] [1, 2, 0] rfl ?_
  exact hk4 mem x1 (x2 + 1) _ h
def f_X4_outlived_b4 (o : Nat) : Nat → Um → Int32 → Int32 → Option (Um × Int32)
  | 0, _, _, _ => none
  | n + 1, mem, x1, x2 =>
    if 5 ≤ x2 then (some (mem, x1)) else (ubi (f_X4_has o mem x2) (fun m2 r3 => if r3 = 0 then (f_X4_outlived_b40 o (f_X4_outlived_b4 o n) m2 x1 x2) else (ugd (uin (23 + x2) 28) (ubi (f_X4_life o m2 x2) (fun m7 r8 => if (m2 (o + 1) (23 + x2).toNatClampNeg) < r8 then (f_X4_outlived_b40 o (f_X4_outlived_b4 o n) m7 x1 x2) else (f_X4_outlived_b40 o (f_X4_outlived_b4 o n) m7 (x1 ||| (1 <<< (x2 &&& 31))) x2))))))
set_option maxRecDepth 20000 in
theorem t_X4_outlived_b4 {l : Launch} {E : Ue} {o : Nat} (ho : o = 23 ∨ o = 25) : ∀ (n : Nat) (mem : Um) (x1 : Int32) (x2 : Int32) (z : Um × Int32), f_X4_outlived_b4 o n mem x1 x2 = some z → ug l E 8 0 0 cX4_outlived 3 RX4 (some .int) [] (uz_i z) 0 0 4 [(0, .ref (ue_d E o)), (1, .int x1), (2, .int x2)] [] mem := by
  intro n
  induction n with
  | zero =>
    intro mem x1 x2 z h
    rw [f_X4_outlived_b4] at h
    cases h
  | succ n ih =>
    intro mem x1 x2 z h
    rw [f_X4_outlived_b4] at h
    refine ug_iload_n 2 dX4_outlived_4 rfl rfl ?_
    refine ug_iconst dX4_outlived_5 un_iconst_5 ?_
    refine ug_icmp_ge 46 dX4_outlived_6 (by decide) (fun q1 => ?_) (fun q1 => ?_)
    · rw [if_pos q1] at h
      refine ug_iload_n 1 dX4_outlived_46 rfl rfl ?_
      obtain rfl := Option.some.inj h
      exact ug_iret dX4_outlived_47
    · rw [if_neg q1] at h
      refine ug_aload_n 0 dX4_outlived_9 rfl rfl ?_
      refine ug_iload_n 2 dX4_outlived_10 rfl rfl ?_
      obtain ⟨m2, r3, h4, h⟩ := ubi_some h
      refine ug_callVi [.int x2] (c_X4_has ho h4) kc_X4_47 (sk_o ho) rfl (S := []) rfl (Nat.le_of_ble_eq_true rfl) (Nat.le_of_ble_eq_true rfl) (Nat.le_of_ble_eq_true rfl) dX4_outlived_11 ?_
      refine ug_if_eq 40 dX4_outlived_14 (by decide) (fun q5 => ?_) (fun q5 => ?_)
      · rw [if_pos q5] at h
        exact t_X4_outlived_b40 ho (f_X4_outlived_b4 o n) ih m2 x1 x2 _ h
      · rw [if_neg q5] at h
        refine ug_aload_n 0 dX4_outlived_17 rfl rfl ?_
        refine ug_getR kf_X4_11 (sk_r2 ho) dX4_outlived_18 ?_
        refine ug_bipush dX4_outlived_21 un_bipush_23 ?_
        refine ug_iload_n 2 dX4_outlived_23 rfl rfl ?_
        refine ug_iadd dX4_outlived_24 ?_
        obtain ⟨g6, h⟩ := ugd_some h
        refine ug_iald (sk_a ho) (uin_ok g6) dX4_outlived_25 ?_
        refine ug_aload_n 0 dX4_outlived_26 rfl rfl ?_
        refine ug_iload_n 2 dX4_outlived_27 rfl rfl ?_
        obtain ⟨m7, r8, h9, h⟩ := ubi_some h
        refine ug_callVi [.int x2] (c_X4_life ho h9) kc_X4_145 (sk_o ho) rfl (S := [.int (m2 (o + 1) (23 + x2).toNatClampNeg)]) rfl (Nat.le_of_ble_eq_true rfl) (Nat.le_of_ble_eq_true rfl) (Nat.le_of_ble_eq_true rfl) dX4_outlived_28 ?_
        refine ug_icmp_lt 40 dX4_outlived_31 (by decide) (fun q10 => ?_) (fun q10 => ?_)
        · rw [if_pos q10] at h
          exact t_X4_outlived_b40 ho (f_X4_outlived_b4 o n) ih m7 x1 x2 _ h
        · rw [if_neg q10] at h
          refine ug_iload_n 1 dX4_outlived_34 rfl rfl ?_
          refine ug_iconst dX4_outlived_35 un_iconst_1 ?_
          refine ug_iload_n 2 dX4_outlived_36 rfl rfl ?_
          refine ug_ishl dX4_outlived_37 ?_
          refine ug_ior dX4_outlived_38 ?_
          refine ug_istore_n [(1, .int (x1 ||| (1 <<< (x2 &&& 31)))), (0, .ref (ue_d E o)), (2, .int x2)] dX4_outlived_39 rfl (Nat.le_of_ble_eq_true rfl) rfl ?_
          refine ug_sub [(0, .ref (ue_d E o)), (1, .int (x1 ||| (1 <<< (x2 &&& 31)))), (2, .int x2)] [1, 0, 2] rfl ?_
          exact t_X4_outlived_b40 ho (f_X4_outlived_b4 o n) ih m7 (x1 ||| (1 <<< (x2 &&& 31))) x2 _ h
def f_X4_outlived (o : Nat) (mem : Um) : Option (Um × Int32) :=
  f_X4_outlived_b4 o UF mem 0 0
set_option maxRecDepth 20000 in
theorem t_X4_outlived {l : Launch} {E : Ue} {o : Nat} (ho : o = 23 ∨ o = 25) (mem : Um) (z : Um × Int32) (h : f_X4_outlived o mem  = some z) : ug l E 8 0 0 cX4_outlived 3 RX4 (some .int) [] (uz_i z) 0 0 0 [(0, .ref (ue_d E o))] [] mem := by
  rw [f_X4_outlived] at h
  refine ug_iconst dX4_outlived_0 un_iconst_0 ?_
  refine ug_istore_n [(1, .int 0), (0, .ref (ue_d E o))] dX4_outlived_1 rfl (Nat.le_of_ble_eq_true rfl) rfl ?_
  refine ug_iconst dX4_outlived_2 un_iconst_0 ?_
  refine ug_istore_n [(2, .int 0), (1, .int 0), (0, .ref (ue_d E o))] dX4_outlived_3 rfl (Nat.le_of_ble_eq_true rfl) rfl ?_
  refine ug_sub [(0, .ref (ue_d E o)), (1, .int 0), (2, .int 0)] [2, 1, 0] rfl ?_
  exact t_X4_outlived_b4 ho UF mem 0 0 _ h
theorem c_X4_outlived {l : Launch} {E : Ue} {o : Nat} (ho : o = 23 ∨ o = 25) {mem : Um} {m1 : Um} {r : Int32} (h : f_X4_outlived o mem  = some (m1, r)) : ucr l E 8 0 0 yX4_outlived cX4_outlived 3 (some .int) [.ref (ue_d E o)] mem (some (.int r)) m1 := ucr_of rfl (Nat.le_of_ble_eq_true rfl) (t_X4_outlived ho mem  _ h)
-- X4_breathe
def f_X4_breathe_b28 (o : Nat) (k2 : Um → Int32 → Option (Um × Unit)) (mem : Um) (x1 : Int32) : Option (Um × Unit) :=
  k2 mem (x1 + 1)
set_option maxRecDepth 20000 in
theorem t_X4_breathe_b28 {l : Launch} {E : Ue} {o : Nat} (ho : o = 23 ∨ o = 25) (k2 : Um → Int32 → Option (Um × Unit)) (hk2 : ∀ (mem : Um) (x1 : Int32) (z : Um × Unit), k2 mem x1 = some z → ug l E 9 0 0 cX4_breathe 2 RX4 none [] (uz_v z) 0 0 2 [(0, .ref (ue_d E o)), (1, .int x1)] [] mem) (mem : Um) (x1 : Int32) (z : Um × Unit) (h : f_X4_breathe_b28 o k2 mem x1 = some z) : ug l E 9 0 0 cX4_breathe 2 RX4 none [] (uz_v z) 0 0 28 [(0, .ref (ue_d E o)), (1, .int x1)] [] mem := by
  rw [f_X4_breathe_b28] at h
  refine ug_iinc (v := (x1 + 1)) [(1, .int (x1 + 1)), (0, .ref (ue_d E o))] 1 dX4_breathe_28 rfl rfl (Nat.le_of_ble_eq_true rfl) rfl ?_
  refine ug_goto 2 dX4_breathe_31 (by decide) ?_
  refine ug_sub [(0, .ref (ue_d E o)), (1, .int (x1 + 1))] [1, 0] rfl ?_
  exact hk2 mem (x1 + 1) _ h
def f_X4_breathe_b2 (o : Nat) : Nat → Um → Int32 → Option (Um × Unit)
  | 0, _, _ => none
  | n + 1, mem, x1 =>
    if 5 ≤ x1 then (ubi (f_X4_outlived o mem) (fun m2 r3 => ubi (f_X4_burstAll o m2 r3) (fun m5 r6 => some ((um_w m5 (o + 1) 0 ((m5 (o + 1) 0) + 1)), ())))) else (ubi (f_X4_has o mem x1) (fun m8 r9 => if r9 = 0 then (f_X4_breathe_b28 o (f_X4_breathe_b2 o n) m8 x1) else (ugd (uin (23 + x1) 28) (ugd (uin (23 + x1) 28) (f_X4_breathe_b28 o (f_X4_breathe_b2 o n) (um_w m8 (o + 1) (23 + x1).toNatClampNeg ((m8 (o + 1) (23 + x1).toNatClampNeg) + 1)) x1)))))
set_option maxRecDepth 20000 in
theorem t_X4_breathe_b2 {l : Launch} {E : Ue} {o : Nat} (ho : o = 23 ∨ o = 25) : ∀ (n : Nat) (mem : Um) (x1 : Int32) (z : Um × Unit), f_X4_breathe_b2 o n mem x1 = some z → ug l E 9 0 0 cX4_breathe 2 RX4 none [] (uz_v z) 0 0 2 [(0, .ref (ue_d E o)), (1, .int x1)] [] mem := by
  intro n
  induction n with
  | zero =>
    intro mem x1 z h
    rw [f_X4_breathe_b2] at h
    cases h
  | succ n ih =>
    intro mem x1 z h
    rw [f_X4_breathe_b2] at h
    refine ug_iload_n 1 dX4_breathe_2 rfl rfl ?_
    refine ug_iconst dX4_breathe_3 un_iconst_5 ?_
    refine ug_icmp_ge 34 dX4_breathe_4 (by decide) (fun q1 => ?_) (fun q1 => ?_)
    · rw [if_pos q1] at h
      refine ug_aload_n 0 dX4_breathe_34 rfl rfl ?_
      refine ug_aload_n 0 dX4_breathe_35 rfl rfl ?_
      obtain ⟨m2, r3, h4, h⟩ := ubi_some h
      refine ug_callVi [] (c_X4_outlived ho h4) kc_X4_142 (sk_o ho) rfl (S := [.ref (ue_d E o)]) rfl (Nat.le_of_ble_eq_true rfl) (Nat.le_of_ble_eq_true rfl) (Nat.le_of_ble_eq_true rfl) dX4_breathe_36 ?_
      obtain ⟨m5, r6, h7, h⟩ := ubi_some h
      refine ug_callVv [.int r3] (c_X4_burstAll ho h7) kc_X4_128 (sk_o ho) rfl (S := []) rfl (Nat.le_of_ble_eq_true rfl) (Nat.le_of_ble_eq_true rfl) (Nat.le_of_ble_eq_true rfl) dX4_breathe_39 ?_
      refine ug_aload_n 0 dX4_breathe_42 rfl rfl ?_
      refine ug_getR kf_X4_11 (sk_r2 ho) dX4_breathe_43 ?_
      refine ug_iconst dX4_breathe_46 un_iconst_0 ?_
      refine ug_dup2 dX4_breathe_47 rfl rfl ?_
      refine ug_ialdK (sk_a ho) ui_0_28 uc_0 dX4_breathe_48 ?_
      refine ug_iconst dX4_breathe_49 un_iconst_1 ?_
      refine ug_iadd dX4_breathe_50 ?_
      refine ug_iastK (sk_a ho) ui_0_28 uc_0 dX4_breathe_51 ?_
      obtain rfl := Option.some.inj h
      exact ug_vret dX4_breathe_52
    · rw [if_neg q1] at h
      refine ug_aload_n 0 dX4_breathe_7 rfl rfl ?_
      refine ug_iload_n 1 dX4_breathe_8 rfl rfl ?_
      obtain ⟨m8, r9, h10, h⟩ := ubi_some h
      refine ug_callVi [.int x1] (c_X4_has ho h10) kc_X4_47 (sk_o ho) rfl (S := []) rfl (Nat.le_of_ble_eq_true rfl) (Nat.le_of_ble_eq_true rfl) (Nat.le_of_ble_eq_true rfl) dX4_breathe_9 ?_
      refine ug_if_eq 28 dX4_breathe_12 (by decide) (fun q11 => ?_) (fun q11 => ?_)
      · rw [if_pos q11] at h
        exact t_X4_breathe_b28 ho (f_X4_breathe_b2 o n) ih m8 x1 _ h
      · rw [if_neg q11] at h
        refine ug_aload_n 0 dX4_breathe_15 rfl rfl ?_
        refine ug_getR kf_X4_11 (sk_r2 ho) dX4_breathe_16 ?_
        refine ug_bipush dX4_breathe_19 un_bipush_23 ?_
        refine ug_iload_n 1 dX4_breathe_21 rfl rfl ?_
        refine ug_iadd dX4_breathe_22 ?_
        refine ug_dup2 dX4_breathe_23 rfl rfl ?_
        obtain ⟨g12, h⟩ := ugd_some h
        refine ug_iald (sk_a ho) (uin_ok g12) dX4_breathe_24 ?_
        refine ug_iconst dX4_breathe_25 un_iconst_1 ?_
        refine ug_iadd dX4_breathe_26 ?_
        obtain ⟨g13, h⟩ := ugd_some h
        refine ug_iast (sk_a ho) (uin_ok g13) dX4_breathe_27 ?_
        exact t_X4_breathe_b28 ho (f_X4_breathe_b2 o n) ih (um_w m8 (o + 1) (23 + x1).toNatClampNeg ((m8 (o + 1) (23 + x1).toNatClampNeg) + 1)) x1 _ h
def f_X4_breathe (o : Nat) (mem : Um) : Option (Um × Unit) :=
  f_X4_breathe_b2 o UF mem 0
set_option maxRecDepth 20000 in
theorem t_X4_breathe {l : Launch} {E : Ue} {o : Nat} (ho : o = 23 ∨ o = 25) (mem : Um) (z : Um × Unit) (h : f_X4_breathe o mem  = some z) : ug l E 9 0 0 cX4_breathe 2 RX4 none [] (uz_v z) 0 0 0 [(0, .ref (ue_d E o))] [] mem := by
  rw [f_X4_breathe] at h
  refine ug_iconst dX4_breathe_0 un_iconst_0 ?_
  refine ug_istore_n [(1, .int 0), (0, .ref (ue_d E o))] dX4_breathe_1 rfl (Nat.le_of_ble_eq_true rfl) rfl ?_
  refine ug_sub [(0, .ref (ue_d E o)), (1, .int 0)] [1, 0] rfl ?_
  exact t_X4_breathe_b2 ho UF mem 0 _ h
theorem c_X4_breathe {l : Launch} {E : Ue} {o : Nat} (ho : o = 23 ∨ o = 25) {mem : Um} {m1 : Um} {r : Unit} (h : f_X4_breathe o mem  = some (m1, r)) : ucr l E 9 0 0 yX4_breathe cX4_breathe 2 none [.ref (ue_d E o)] mem none m1 := ucr_of rfl (Nat.le_of_ble_eq_true rfl) (t_X4_breathe ho mem  _ h)
