-- X8_isSeen
def f_X8_isSeen_b50 (mem : Um) (y0 : Int32) : Option (Um × Int32) :=
  ugd (ub01 y0) (some (mem, y0))
set_option maxRecDepth 20000 in
theorem t_X8_isSeen_b50 {l : Launch} {E : Ue} (mem : Um) (y0 : Int32) (z : Um × Int32) (h : f_X8_isSeen_b50  mem y0 = some z) : ug l E 3 0 0 cX8_isSeen 3 RX8 (some .boolean) [] (uz_i z) 0 0 50 [] [.int y0] mem := by
  rw [f_X8_isSeen_b50] at h
  obtain ⟨g1, h⟩ := ugd_some h
  obtain rfl := Option.some.inj h
  exact ug_zret (of_decide_eq_true g1) dX8_isSeen_50
def f_X8_isSeen_b49 (mem : Um) : Option (Um × Int32) :=
  f_X8_isSeen_b50 mem 0
set_option maxRecDepth 20000 in
theorem t_X8_isSeen_b49 {l : Launch} {E : Ue} (mem : Um) (z : Um × Int32) (h : f_X8_isSeen_b49  mem  = some z) : ug l E 3 0 0 cX8_isSeen 3 RX8 (some .boolean) [] (uz_i z) 0 0 49 [] [] mem := by
  rw [f_X8_isSeen_b49] at h
  refine ug_iconst dX8_isSeen_49 un_iconst_0 ?_
  exact t_X8_isSeen_b50 mem 0 _ h
def f_X8_isSeen (mem : Um) (x1 : Int32) (x2 : Int32) : Option (Um × Int32) :=
  ugd (uin (10 + x1) 28) (if (mem 54 (10 + x1).toNatClampNeg) ≤ 0 then (f_X8_isSeen_b49 mem) else (ugd (uin (15 + x1) 28) (ugd (uin (2 * x2) 16) (ubi (f_X8_size mem ((mem 54 (15 + x1).toNatClampNeg) - (mem 43 (2 * x2).toNatClampNeg))) (fun m5 r6 => ugd (uin (10 + x1) 28) (if (m5 54 (10 + x1).toNatClampNeg) < r6 then (f_X8_isSeen_b49 m5) else (f_X8_isSeen_b50 m5 1)))))))
set_option maxRecDepth 20000 in
theorem t_X8_isSeen {l : Launch} {E : Ue} (mem : Um) (x1 : Int32) (x2 : Int32) (z : Um × Int32) (h : f_X8_isSeen  mem x1 x2 = some z) : ug l E 3 0 0 cX8_isSeen 3 RX8 (some .boolean) [] (uz_i z) 0 0 0 [(0, .ref (ue_d E 38)), (1, .int x1), (2, .int x2)] [] mem := by
  rw [f_X8_isSeen] at h
  refine ug_aload_n 0 dX8_isSeen_0 rfl rfl ?_
  refine ug_getR kf_X8_62 gr_38_37 dX8_isSeen_1 ?_
  refine ug_bipush dX8_isSeen_4 un_bipush_10 ?_
  refine ug_iload_n 1 dX8_isSeen_6 rfl rfl ?_
  refine ug_iadd dX8_isSeen_7 ?_
  obtain ⟨g1, h⟩ := ugd_some h
  refine ug_iald al_54 (uin_ok g1) dX8_isSeen_8 ?_
  refine ug_if_le 49 dX8_isSeen_9 (by decide) (fun q2 => ?_) (fun q2 => ?_)
  · rw [if_pos q2] at h
    refine ug_sub [] [] rfl ?_
    exact t_X8_isSeen_b49 mem  _ h
  · rw [if_neg q2] at h
    refine ug_aload_n 0 dX8_isSeen_12 rfl rfl ?_
    refine ug_getR kf_X8_62 gr_38_37 dX8_isSeen_13 ?_
    refine ug_bipush dX8_isSeen_16 un_bipush_15 ?_
    refine ug_iload_n 1 dX8_isSeen_18 rfl rfl ?_
    refine ug_iadd dX8_isSeen_19 ?_
    obtain ⟨g3, h⟩ := ugd_some h
    refine ug_iald al_54 (uin_ok g3) dX8_isSeen_20 ?_
    refine ug_aload_n 0 dX8_isSeen_21 rfl rfl ?_
    refine ug_getR kf_X8_29 gr_38_12 dX8_isSeen_22 ?_
    refine ug_iconst dX8_isSeen_25 un_iconst_2 ?_
    refine ug_iload_n 2 dX8_isSeen_26 rfl rfl ?_
    refine ug_imul dX8_isSeen_27 ?_
    obtain ⟨g4, h⟩ := ugd_some h
    refine ug_iald al_43 (uin_ok g4) dX8_isSeen_28 ?_
    refine ug_isub dX8_isSeen_29 ?_
    obtain ⟨m5, r6, h7, h⟩ := ubi_some h
    refine ug_callSi [.int ((mem 54 (15 + x1).toNatClampNeg) - (mem 43 (2 * x2).toNatClampNeg))] (c_X8_size  h7) kc_X8_321 rfl (S := []) rfl (Nat.le_of_ble_eq_true rfl) (Nat.le_of_ble_eq_true rfl) (Nat.le_of_ble_eq_true rfl) dX8_isSeen_30 ?_
    refine ug_aload_n 0 dX8_isSeen_33 rfl rfl ?_
    refine ug_getR kf_X8_62 gr_38_37 dX8_isSeen_34 ?_
    refine ug_bipush dX8_isSeen_37 un_bipush_10 ?_
    refine ug_iload_n 1 dX8_isSeen_39 rfl rfl ?_
    refine ug_iadd dX8_isSeen_40 ?_
    obtain ⟨g8, h⟩ := ugd_some h
    refine ug_iald al_54 (uin_ok g8) dX8_isSeen_41 ?_
    refine ug_icmp_gt 49 dX8_isSeen_42 (by decide) (fun q9 => ?_) (fun q9 => ?_)
    · rw [if_pos q9] at h
      refine ug_sub [] [] rfl ?_
      exact t_X8_isSeen_b49 m5  _ h
    · rw [if_neg q9] at h
      refine ug_iconst dX8_isSeen_45 un_iconst_1 ?_
      refine ug_goto 50 dX8_isSeen_46 (by decide) ?_
      refine ug_sub [] [] rfl ?_
      exact t_X8_isSeen_b50 m5 1 _ h
theorem c_X8_isSeen {l : Launch} {E : Ue} {mem : Um} {x1 : Int32} {x2 : Int32} {m1 : Um} {r : Int32} (h : f_X8_isSeen  mem x1 x2 = some (m1, r)) : ucr l E 3 0 0 yX8_isSeen cX8_isSeen 3 (some .boolean) [.ref (ue_d E 38), .int x1, .int x2] mem (some (.int r)) m1 := ucr_of rfl (Nat.le_of_ble_eq_true rfl) (t_X8_isSeen  mem x1 x2 _ h)
-- X8_ownerOf
def f_X8_ownerOf_b73 (k4 : Um → Int32 → Int32 → Int32 → Option (Um × Int32)) (mem : Um) (x1 : Int32) (x2 : Int32) (x3 : Int32) : Option (Um × Int32) :=
  k4 mem x1 x2 (x3 + 1)
set_option maxRecDepth 20000 in
theorem t_X8_ownerOf_b73 {l : Launch} {E : Ue} (k4 : Um → Int32 → Int32 → Int32 → Option (Um × Int32)) (hk4 : ∀ (mem : Um) (x1 : Int32) (x2 : Int32) (x3 : Int32) (z : Um × Int32), k4 mem x1 x2 x3 = some z → ug l E 4 0 0 cX8_ownerOf 4 RX8 (some .int) [] (uz_i z) 0 0 4 [(0, .ref (ue_d E 38)), (1, .int x1), (2, .int x2), (3, .int x3)] [] mem) (mem : Um) (x1 : Int32) (x2 : Int32) (x3 : Int32) (z : Um × Int32) (h : f_X8_ownerOf_b73 k4 mem x1 x2 x3 = some z) : ug l E 4 0 0 cX8_ownerOf 4 RX8 (some .int) [] (uz_i z) 0 0 73 [(0, .ref (ue_d E 38)), (1, .int x1), (2, .int x2), (3, .int x3)] [] mem := by
  rw [f_X8_ownerOf_b73] at h
  refine ug_iinc (v := (x3 + 1)) [(3, .int (x3 + 1)), (0, .ref (ue_d E 38)), (1, .int x1), (2, .int x2)] 3 dX8_ownerOf_73 rfl rfl (Nat.le_of_ble_eq_true rfl) rfl ?_
  refine ug_goto 4 dX8_ownerOf_76 (by decide) ?_
  refine ug_sub [(0, .ref (ue_d E 38)), (1, .int x1), (2, .int x2), (3, .int (x3 + 1))] [1, 2, 3, 0] rfl ?_
  exact hk4 mem x1 x2 (x3 + 1) _ h
def f_X8_ownerOf_b71 (k4 : Um → Int32 → Int32 → Int32 → Option (Um × Int32)) (mem : Um) (x1 : Int32) (x3 : Int32) : Option (Um × Int32) :=
  f_X8_ownerOf_b73 k4 mem x1 x3 x3
set_option maxRecDepth 20000 in
theorem t_X8_ownerOf_b71 {l : Launch} {E : Ue} (k4 : Um → Int32 → Int32 → Int32 → Option (Um × Int32)) (hk4 : ∀ (mem : Um) (x1 : Int32) (x2 : Int32) (x3 : Int32) (z : Um × Int32), k4 mem x1 x2 x3 = some z → ug l E 4 0 0 cX8_ownerOf 4 RX8 (some .int) [] (uz_i z) 0 0 4 [(0, .ref (ue_d E 38)), (1, .int x1), (2, .int x2), (3, .int x3)] [] mem) (mem : Um) (x1 : Int32) (x3 : Int32) (z : Um × Int32) (h : f_X8_ownerOf_b71 k4 mem x1 x3 = some z) : ug l E 4 0 0 cX8_ownerOf 4 RX8 (some .int) [] (uz_i z) 0 0 71 [(0, .ref (ue_d E 38)), (1, .int x1), (3, .int x3)] [] mem := by
  rw [f_X8_ownerOf_b71] at h
  refine ug_iload_n 2 dX8_ownerOf_71 rfl rfl ?_
  refine ug_istore_n [(2, .int x3), (0, .ref (ue_d E 38)), (1, .int x1), (3, .int x3)] dX8_ownerOf_72 rfl (Nat.le_of_ble_eq_true rfl) rfl ?_
  refine ug_sub [(0, .ref (ue_d E 38)), (1, .int x1), (2, .int x3), (3, .int x3)] [1, 2, 0, 3] rfl ?_
  exact t_X8_ownerOf_b73 k4 hk4 mem x1 x3 x3 _ h
def f_X8_ownerOf_b4 : Nat → Um → Int32 → Int32 → Int32 → Option (Um × Int32)
  | 0, _, _, _, _ => none
  | n + 1, mem, x1, x2, x3 =>
    if (mem 38 18) ≤ x3 then (some (mem, x2)) else (ubi (f_X8_isSeen mem x3 x1) (fun m2 r3 => if r3 = 0 then (f_X8_ownerOf_b73 (f_X8_ownerOf_b4  n) m2 x1 x2 x3) else (if x2 = (-1) then (f_X8_ownerOf_b71 (f_X8_ownerOf_b4  n) m2 x1 x3) else (ugd (uin (15 + x3) 28) (ugd (uin (2 * x1) 16) (ubi (f_X8_size m2 ((m2 54 (15 + x3).toNatClampNeg) - (m2 43 (2 * x1).toNatClampNeg))) (fun m9 r10 => ugd (uin (15 + x2) 28) (ugd (uin (2 * x1) 16) (ubi (f_X8_size m9 ((m9 54 (15 + x2).toNatClampNeg) - (m9 43 (2 * x1).toNatClampNeg))) (fun m14 r15 => if r15 ≤ r10 then (f_X8_ownerOf_b73 (f_X8_ownerOf_b4  n) m14 x1 x2 x3) else (f_X8_ownerOf_b71 (f_X8_ownerOf_b4  n) m14 x1 x3)))))))))))
set_option maxRecDepth 20000 in
theorem t_X8_ownerOf_b4 {l : Launch} {E : Ue} : ∀ (n : Nat) (mem : Um) (x1 : Int32) (x2 : Int32) (x3 : Int32) (z : Um × Int32), f_X8_ownerOf_b4  n mem x1 x2 x3 = some z → ug l E 4 0 0 cX8_ownerOf 4 RX8 (some .int) [] (uz_i z) 0 0 4 [(0, .ref (ue_d E 38)), (1, .int x1), (2, .int x2), (3, .int x3)] [] mem := by
  intro n
  induction n with
  | zero =>
    intro mem x1 x2 x3 z h
    rw [f_X8_ownerOf_b4] at h
    cases h
  | succ n ih =>
    intro mem x1 x2 x3 z h
    rw [f_X8_ownerOf_b4] at h
    refine ug_iload_n 3 dX8_ownerOf_4 rfl rfl ?_
    refine ug_aload_n 0 dX8_ownerOf_5 rfl rfl ?_
    refine ug_getI kf_X8_154 gi_38_18 dX8_ownerOf_6 ?_
    refine ug_icmp_ge 79 dX8_ownerOf_9 (by decide) (fun q1 => ?_) (fun q1 => ?_)
    · rw [if_pos q1] at h
      refine ug_iload_n 2 dX8_ownerOf_79 rfl rfl ?_
      obtain rfl := Option.some.inj h
      exact ug_iret dX8_ownerOf_80
    · rw [if_neg q1] at h
      refine ug_aload_n 0 dX8_ownerOf_12 rfl rfl ?_
      refine ug_iload_n 3 dX8_ownerOf_13 rfl rfl ?_
      refine ug_iload_n 1 dX8_ownerOf_14 rfl rfl ?_
      obtain ⟨m2, r3, h4, h⟩ := ubi_some h
      refine ug_callVi [.int x3, .int x1] (c_X8_isSeen  h4) kc_X8_323 ro_38 rfl (S := []) rfl (Nat.le_of_ble_eq_true rfl) (Nat.le_of_ble_eq_true rfl) (Nat.le_of_ble_eq_true rfl) dX8_ownerOf_15 ?_
      refine ug_if_eq 73 dX8_ownerOf_18 (by decide) (fun q5 => ?_) (fun q5 => ?_)
      · rw [if_pos q5] at h
        exact t_X8_ownerOf_b73 (f_X8_ownerOf_b4  n) ih m2 x1 x2 x3 _ h
      · rw [if_neg q5] at h
        refine ug_iload_n 2 dX8_ownerOf_21 rfl rfl ?_
        refine ug_iconst dX8_ownerOf_22 un_iconst_m1 ?_
        refine ug_icmp_eq 71 dX8_ownerOf_23 (by decide) (fun q6 => ?_) (fun q6 => ?_)
        · rw [if_pos q6] at h
          refine ug_sub [(0, .ref (ue_d E 38)), (1, .int x1), (3, .int x3)] [0, 1, 3] rfl ?_
          exact t_X8_ownerOf_b71 (f_X8_ownerOf_b4  n) ih m2 x1 x3 _ h
        · rw [if_neg q6] at h
          refine ug_aload_n 0 dX8_ownerOf_26 rfl rfl ?_
          refine ug_getR kf_X8_62 gr_38_37 dX8_ownerOf_27 ?_
          refine ug_bipush dX8_ownerOf_30 un_bipush_15 ?_
          refine ug_iload_n 3 dX8_ownerOf_32 rfl rfl ?_
          refine ug_iadd dX8_ownerOf_33 ?_
          obtain ⟨g7, h⟩ := ugd_some h
          refine ug_iald al_54 (uin_ok g7) dX8_ownerOf_34 ?_
          refine ug_aload_n 0 dX8_ownerOf_35 rfl rfl ?_
          refine ug_getR kf_X8_29 gr_38_12 dX8_ownerOf_36 ?_
          refine ug_iconst dX8_ownerOf_39 un_iconst_2 ?_
          refine ug_iload_n 1 dX8_ownerOf_40 rfl rfl ?_
          refine ug_imul dX8_ownerOf_41 ?_
          obtain ⟨g8, h⟩ := ugd_some h
          refine ug_iald al_43 (uin_ok g8) dX8_ownerOf_42 ?_
          refine ug_isub dX8_ownerOf_43 ?_
          obtain ⟨m9, r10, h11, h⟩ := ubi_some h
          refine ug_callSi [.int ((m2 54 (15 + x3).toNatClampNeg) - (m2 43 (2 * x1).toNatClampNeg))] (c_X8_size  h11) kc_X8_321 rfl (S := []) rfl (Nat.le_of_ble_eq_true rfl) (Nat.le_of_ble_eq_true rfl) (Nat.le_of_ble_eq_true rfl) dX8_ownerOf_44 ?_
          refine ug_aload_n 0 dX8_ownerOf_47 rfl rfl ?_
          refine ug_getR kf_X8_62 gr_38_37 dX8_ownerOf_48 ?_
          refine ug_bipush dX8_ownerOf_51 un_bipush_15 ?_
          refine ug_iload_n 2 dX8_ownerOf_53 rfl rfl ?_
          refine ug_iadd dX8_ownerOf_54 ?_
          obtain ⟨g12, h⟩ := ugd_some h
          refine ug_iald al_54 (uin_ok g12) dX8_ownerOf_55 ?_
          refine ug_aload_n 0 dX8_ownerOf_56 rfl rfl ?_
          refine ug_getR kf_X8_29 gr_38_12 dX8_ownerOf_57 ?_
          refine ug_iconst dX8_ownerOf_60 un_iconst_2 ?_
          refine ug_iload_n 1 dX8_ownerOf_61 rfl rfl ?_
          refine ug_imul dX8_ownerOf_62 ?_
          obtain ⟨g13, h⟩ := ugd_some h
          refine ug_iald al_43 (uin_ok g13) dX8_ownerOf_63 ?_
          refine ug_isub dX8_ownerOf_64 ?_
          obtain ⟨m14, r15, h16, h⟩ := ubi_some h
          refine ug_callSi [.int ((m9 54 (15 + x2).toNatClampNeg) - (m9 43 (2 * x1).toNatClampNeg))] (c_X8_size  h16) kc_X8_321 rfl (S := [.int r10]) rfl (Nat.le_of_ble_eq_true rfl) (Nat.le_of_ble_eq_true rfl) (Nat.le_of_ble_eq_true rfl) dX8_ownerOf_65 ?_
          refine ug_icmp_ge 73 dX8_ownerOf_68 (by decide) (fun q17 => ?_) (fun q17 => ?_)
          · rw [if_pos q17] at h
            exact t_X8_ownerOf_b73 (f_X8_ownerOf_b4  n) ih m14 x1 x2 x3 _ h
          · rw [if_neg q17] at h
            refine ug_sub [(0, .ref (ue_d E 38)), (1, .int x1), (3, .int x3)] [0, 1, 3] rfl ?_
            exact t_X8_ownerOf_b71 (f_X8_ownerOf_b4  n) ih m14 x1 x3 _ h
def f_X8_ownerOf (mem : Um) (x1 : Int32) : Option (Um × Int32) :=
  f_X8_ownerOf_b4  UF mem x1 (-1) 0
set_option maxRecDepth 20000 in
theorem t_X8_ownerOf {l : Launch} {E : Ue} (mem : Um) (x1 : Int32) (z : Um × Int32) (h : f_X8_ownerOf  mem x1 = some z) : ug l E 4 0 0 cX8_ownerOf 4 RX8 (some .int) [] (uz_i z) 0 0 0 [(0, .ref (ue_d E 38)), (1, .int x1)] [] mem := by
  rw [f_X8_ownerOf] at h
  refine ug_iconst dX8_ownerOf_0 un_iconst_m1 ?_
  refine ug_istore_n [(2, .int (-1)), (0, .ref (ue_d E 38)), (1, .int x1)] dX8_ownerOf_1 rfl (Nat.le_of_ble_eq_true rfl) rfl ?_
  refine ug_iconst dX8_ownerOf_2 un_iconst_0 ?_
  refine ug_istore_n [(3, .int 0), (2, .int (-1)), (0, .ref (ue_d E 38)), (1, .int x1)] dX8_ownerOf_3 rfl (Nat.le_of_ble_eq_true rfl) rfl ?_
  refine ug_sub [(0, .ref (ue_d E 38)), (1, .int x1), (2, .int (-1)), (3, .int 0)] [2, 3, 1, 0] rfl ?_
  exact t_X8_ownerOf_b4  UF mem x1 (-1) 0 _ h
theorem c_X8_ownerOf {l : Launch} {E : Ue} {mem : Um} {x1 : Int32} {m1 : Um} {r : Int32} (h : f_X8_ownerOf  mem x1 = some (m1, r)) : ucr l E 4 0 0 yX8_ownerOf cX8_ownerOf 4 (some .int) [.ref (ue_d E 38), .int x1] mem (some (.int r)) m1 := ucr_of rfl (Nat.le_of_ble_eq_true rfl) (t_X8_ownerOf  mem x1 _ h)
-- X8_ownedBy
def f_X8_ownedBy_b29 (k4 : Um → Int32 → Int32 → Int32 → Option (Um × Int32)) (mem : Um) (x1 : Int32) (x3 : Int32) (y0 : Int32) (y1 : Int32) : Option (Um × Int32) :=
  k4 mem x1 (y1 ||| y0) (x3 + 1)
set_option maxRecDepth 20000 in
theorem t_X8_ownedBy_b29 {l : Launch} {E : Ue} (k4 : Um → Int32 → Int32 → Int32 → Option (Um × Int32)) (hk4 : ∀ (mem : Um) (x1 : Int32) (x2 : Int32) (x3 : Int32) (z : Um × Int32), k4 mem x1 x2 x3 = some z → ug l E 5 0 0 cX8_ownedBy 4 RX8 (some .int) [] (uz_i z) 0 0 4 [(0, .ref (ue_d E 38)), (1, .int x1), (2, .int x2), (3, .int x3)] [] mem) (mem : Um) (x1 : Int32) (x3 : Int32) (y0 : Int32) (y1 : Int32) (z : Um × Int32) (h : f_X8_ownedBy_b29 k4 mem x1 x3 y0 y1 = some z) : ug l E 5 0 0 cX8_ownedBy 4 RX8 (some .int) [] (uz_i z) 0 0 29 [(0, .ref (ue_d E 38)), (1, .int x1), (3, .int x3)] [.int y0, .int y1] mem := by
  rw [f_X8_ownedBy_b29] at h
  refine ug_ior dX8_ownedBy_29 ?_
  refine ug_istore_n [(2, .int (y1 ||| y0)), (0, .ref (ue_d E 38)), (1, .int x1), (3, .int x3)] dX8_ownedBy_30 rfl (Nat.le_of_ble_eq_true rfl) rfl ?_
  refine ug_iinc (v := (x3 + 1)) [(3, .int (x3 + 1)), (2, .int (y1 ||| y0)), (0, .ref (ue_d E 38)), (1, .int x1)] 3 dX8_ownedBy_31 rfl rfl (Nat.le_of_ble_eq_true rfl) rfl ?_
  refine ug_goto 4 dX8_ownedBy_34 (by decide) ?_
  refine ug_sub [(0, .ref (ue_d E 38)), (1, .int x1), (2, .int (y1 ||| y0)), (3, .int (x3 + 1))] [2, 3, 1, 0] rfl ?_
  exact hk4 mem x1 (y1 ||| y0) (x3 + 1) _ h
def f_X8_ownedBy_b4 : Nat → Um → Int32 → Int32 → Int32 → Option (Um × Int32)
  | 0, _, _, _, _ => none
  | n + 1, mem, x1, x2, x3 =>
    if (mem 38 17) ≤ x3 then (some (mem, x2)) else (ubi (f_X8_ownerOf mem x3) (fun m2 r3 => if r3 = x1 then (f_X8_ownedBy_b29 (f_X8_ownedBy_b4  n) m2 x1 x3 (1 <<< (x3 &&& 31)) x2) else (f_X8_ownedBy_b29 (f_X8_ownedBy_b4  n) m2 x1 x3 0 x2)))
set_option maxRecDepth 20000 in
theorem t_X8_ownedBy_b4 {l : Launch} {E : Ue} : ∀ (n : Nat) (mem : Um) (x1 : Int32) (x2 : Int32) (x3 : Int32) (z : Um × Int32), f_X8_ownedBy_b4  n mem x1 x2 x3 = some z → ug l E 5 0 0 cX8_ownedBy 4 RX8 (some .int) [] (uz_i z) 0 0 4 [(0, .ref (ue_d E 38)), (1, .int x1), (2, .int x2), (3, .int x3)] [] mem := by
  intro n
  induction n with
  | zero =>
    intro mem x1 x2 x3 z h
    rw [f_X8_ownedBy_b4] at h
    cases h
  | succ n ih =>
    intro mem x1 x2 x3 z h
    rw [f_X8_ownedBy_b4] at h
    refine ug_iload_n 3 dX8_ownedBy_4 rfl rfl ?_
    refine ug_aload_n 0 dX8_ownedBy_5 rfl rfl ?_
    refine ug_getI kf_X8_151 gi_38_17 dX8_ownedBy_6 ?_
    refine ug_icmp_ge 37 dX8_ownedBy_9 (by decide) (fun q1 => ?_) (fun q1 => ?_)
    · rw [if_pos q1] at h
      refine ug_iload_n 2 dX8_ownedBy_37 rfl rfl ?_
      obtain rfl := Option.some.inj h
      exact ug_iret dX8_ownedBy_38
    · rw [if_neg q1] at h
      refine ug_iload_n 2 dX8_ownedBy_12 rfl rfl ?_
      refine ug_aload_n 0 dX8_ownedBy_13 rfl rfl ?_
      refine ug_iload_n 3 dX8_ownedBy_14 rfl rfl ?_
      obtain ⟨m2, r3, h4, h⟩ := ubi_some h
      refine ug_callVi [.int x3] (c_X8_ownerOf  h4) kc_X8_327 ro_38 rfl (S := [.int x2]) rfl (Nat.le_of_ble_eq_true rfl) (Nat.le_of_ble_eq_true rfl) (Nat.le_of_ble_eq_true rfl) dX8_ownedBy_15 ?_
      refine ug_iload_n 1 dX8_ownedBy_18 rfl rfl ?_
      refine ug_icmp_ne 28 dX8_ownedBy_19 (by decide) (fun q5 => ?_) (fun q5 => ?_)
      · rw [if_neg q5] at h
        refine ug_iconst dX8_ownedBy_28 un_iconst_0 ?_
        refine ug_sub [(0, .ref (ue_d E 38)), (1, .int x1), (3, .int x3)] [0, 1, 3] rfl ?_
        exact t_X8_ownedBy_b29 (f_X8_ownedBy_b4  n) ih m2 x1 x3 0 x2 _ h
      · rw [if_pos q5] at h
        refine ug_iconst dX8_ownedBy_22 un_iconst_1 ?_
        refine ug_iload_n 3 dX8_ownedBy_23 rfl rfl ?_
        refine ug_ishl dX8_ownedBy_24 ?_
        refine ug_goto 29 dX8_ownedBy_25 (by decide) ?_
        refine ug_sub [(0, .ref (ue_d E 38)), (1, .int x1), (3, .int x3)] [0, 1, 3] rfl ?_
        exact t_X8_ownedBy_b29 (f_X8_ownedBy_b4  n) ih m2 x1 x3 (1 <<< (x3 &&& 31)) x2 _ h
def f_X8_ownedBy (mem : Um) (x1 : Int32) : Option (Um × Int32) :=
  f_X8_ownedBy_b4  UF mem x1 0 0
set_option maxRecDepth 20000 in
theorem t_X8_ownedBy {l : Launch} {E : Ue} (mem : Um) (x1 : Int32) (z : Um × Int32) (h : f_X8_ownedBy  mem x1 = some z) : ug l E 5 0 0 cX8_ownedBy 4 RX8 (some .int) [] (uz_i z) 0 0 0 [(0, .ref (ue_d E 38)), (1, .int x1)] [] mem := by
  rw [f_X8_ownedBy] at h
  refine ug_iconst dX8_ownedBy_0 un_iconst_0 ?_
  refine ug_istore_n [(2, .int 0), (0, .ref (ue_d E 38)), (1, .int x1)] dX8_ownedBy_1 rfl (Nat.le_of_ble_eq_true rfl) rfl ?_
  refine ug_iconst dX8_ownedBy_2 un_iconst_0 ?_
  refine ug_istore_n [(3, .int 0), (2, .int 0), (0, .ref (ue_d E 38)), (1, .int x1)] dX8_ownedBy_3 rfl (Nat.le_of_ble_eq_true rfl) rfl ?_
  refine ug_sub [(0, .ref (ue_d E 38)), (1, .int x1), (2, .int 0), (3, .int 0)] [2, 3, 1, 0] rfl ?_
  exact t_X8_ownedBy_b4  UF mem x1 0 0 _ h
theorem c_X8_ownedBy {l : Launch} {E : Ue} {mem : Um} {x1 : Int32} {m1 : Um} {r : Int32} (h : f_X8_ownedBy  mem x1 = some (m1, r)) : ucr l E 5 0 0 yX8_ownedBy cX8_ownedBy 4 (some .int) [.ref (ue_d E 38), .int x1] mem (some (.int r)) m1 := ucr_of rfl (Nat.le_of_ble_eq_true rfl) (t_X8_ownedBy  mem x1 _ h)
-- X8_worthOf
def f_X8_worthOf_b4 : Nat → Um → Int32 → Int32 → Int32 → Option (Um × Int32)
  | 0, _, _, _, _ => none
  | n + 1, mem, x1, x2, x3 =>
    if (mem 38 17) ≤ x3 then (some (mem, x2)) else (ugd (uin ((2 * x3) + 1) 16) ((f_X8_worthOf_b4  n) mem x1 (x2 + (((x1 >>> (x3 &&& 31)) &&& 1) * (mem 43 ((2 * x3) + 1).toNatClampNeg))) (x3 + 1)))
set_option maxRecDepth 20000 in
theorem t_X8_worthOf_b4 {l : Launch} {E : Ue} : ∀ (n : Nat) (mem : Um) (x1 : Int32) (x2 : Int32) (x3 : Int32) (z : Um × Int32), f_X8_worthOf_b4  n mem x1 x2 x3 = some z → ug l E 2 0 0 cX8_worthOf 4 RX8 (some .int) [] (uz_i z) 0 0 4 [(0, .ref (ue_d E 38)), (1, .int x1), (2, .int x2), (3, .int x3)] [] mem := by
  intro n
  induction n with
  | zero =>
    intro mem x1 x2 x3 z h
    rw [f_X8_worthOf_b4] at h
    cases h
  | succ n ih =>
    intro mem x1 x2 x3 z h
    rw [f_X8_worthOf_b4] at h
    refine ug_iload_n 3 dX8_worthOf_4 rfl rfl ?_
    refine ug_aload_n 0 dX8_worthOf_5 rfl rfl ?_
    refine ug_getI kf_X8_151 gi_38_17 dX8_worthOf_6 ?_
    refine ug_icmp_ge 37 dX8_worthOf_9 (by decide) (fun q1 => ?_) (fun q1 => ?_)
    · rw [if_pos q1] at h
      refine ug_iload_n 2 dX8_worthOf_37 rfl rfl ?_
      obtain rfl := Option.some.inj h
      exact ug_iret dX8_worthOf_38
    · rw [if_neg q1] at h
      refine ug_iload_n 2 dX8_worthOf_12 rfl rfl ?_
      refine ug_iload_n 1 dX8_worthOf_13 rfl rfl ?_
      refine ug_iload_n 3 dX8_worthOf_14 rfl rfl ?_
      refine ug_ishr dX8_worthOf_15 ?_
      refine ug_iconst dX8_worthOf_16 un_iconst_1 ?_
      refine ug_iand dX8_worthOf_17 ?_
      refine ug_aload_n 0 dX8_worthOf_18 rfl rfl ?_
      refine ug_getR kf_X8_29 gr_38_12 dX8_worthOf_19 ?_
      refine ug_iconst dX8_worthOf_22 un_iconst_2 ?_
      refine ug_iload_n 3 dX8_worthOf_23 rfl rfl ?_
      refine ug_imul dX8_worthOf_24 ?_
      refine ug_iconst dX8_worthOf_25 un_iconst_1 ?_
      refine ug_iadd dX8_worthOf_26 ?_
      obtain ⟨g2, h⟩ := ugd_some h
      refine ug_iald al_43 (uin_ok g2) dX8_worthOf_27 ?_
      refine ug_imul dX8_worthOf_28 ?_
      refine ug_iadd dX8_worthOf_29 ?_
      refine ug_istore_n [(2, .int (x2 + (((x1 >>> (x3 &&& 31)) &&& 1) * (mem 43 ((2 * x3) + 1).toNatClampNeg)))), (0, .ref (ue_d E 38)), (1, .int x1), (3, .int x3)] dX8_worthOf_30 rfl (Nat.le_of_ble_eq_true rfl) rfl ?_
      refine ug_iinc (v := (x3 + 1)) [(3, .int (x3 + 1)), (2, .int (x2 + (((x1 >>> (x3 &&& 31)) &&& 1) * (mem 43 ((2 * x3) + 1).toNatClampNeg)))), (0, .ref (ue_d E 38)), (1, .int x1)] 3 dX8_worthOf_31 rfl rfl (Nat.le_of_ble_eq_true rfl) rfl ?_
      refine ug_goto 4 dX8_worthOf_34 (by decide) ?_
      refine ug_sub [(0, .ref (ue_d E 38)), (1, .int x1), (2, .int (x2 + (((x1 >>> (x3 &&& 31)) &&& 1) * (mem 43 ((2 * x3) + 1).toNatClampNeg)))), (3, .int (x3 + 1))] [2, 3, 1, 0] rfl ?_
      exact ih mem x1 (x2 + (((x1 >>> (x3 &&& 31)) &&& 1) * (mem 43 ((2 * x3) + 1).toNatClampNeg))) (x3 + 1) _ h
def f_X8_worthOf (mem : Um) (x1 : Int32) : Option (Um × Int32) :=
  f_X8_worthOf_b4  UF mem x1 0 0
set_option maxRecDepth 20000 in
theorem t_X8_worthOf {l : Launch} {E : Ue} (mem : Um) (x1 : Int32) (z : Um × Int32) (h : f_X8_worthOf  mem x1 = some z) : ug l E 2 0 0 cX8_worthOf 4 RX8 (some .int) [] (uz_i z) 0 0 0 [(0, .ref (ue_d E 38)), (1, .int x1)] [] mem := by
  rw [f_X8_worthOf] at h
  refine ug_iconst dX8_worthOf_0 un_iconst_0 ?_
  refine ug_istore_n [(2, .int 0), (0, .ref (ue_d E 38)), (1, .int x1)] dX8_worthOf_1 rfl (Nat.le_of_ble_eq_true rfl) rfl ?_
  refine ug_iconst dX8_worthOf_2 un_iconst_0 ?_
  refine ug_istore_n [(3, .int 0), (2, .int 0), (0, .ref (ue_d E 38)), (1, .int x1)] dX8_worthOf_3 rfl (Nat.le_of_ble_eq_true rfl) rfl ?_
  refine ug_sub [(0, .ref (ue_d E 38)), (1, .int x1), (2, .int 0), (3, .int 0)] [2, 3, 1, 0] rfl ?_
  exact t_X8_worthOf_b4  UF mem x1 0 0 _ h
theorem c_X8_worthOf {l : Launch} {E : Ue} {mem : Um} {x1 : Int32} {m1 : Um} {r : Int32} (h : f_X8_worthOf  mem x1 = some (m1, r)) : ucr l E 2 0 0 yX8_worthOf cX8_worthOf 4 (some .int) [.ref (ue_d E 38), .int x1] mem (some (.int r)) m1 := ucr_of rfl (Nat.le_of_ble_eq_true rfl) (t_X8_worthOf  mem x1 _ h)
-- X8_lifeOf
def f_X8_lifeOf (mem : Um) (x1 : Int32) (x2 : Int32) (x3 : Int32) (x4 : Int32) (x5 : Int32) (x6 : Int32) (x7 : Int32) (x8 : Int32) : Option (Um × Int32) :=
  ubi (f_X8_lifeNow (um_w (um_w (um_w (um_w (um_w (um_w (um_w (um_w mem 50 0 x1) 50 1 x2) 50 2 x3) 50 3 x4) 50 4 x5) 50 5 x6) 50 6 x7) 50 7 x8)) (fun m1 r2 => some (m1, r2))
set_option maxRecDepth 20000 in
theorem t_X8_lifeOf {l : Launch} {E : Ue} (mem : Um) (x1 : Int32) (x2 : Int32) (x3 : Int32) (x4 : Int32) (x5 : Int32) (x6 : Int32) (x7 : Int32) (x8 : Int32) (z : Um × Int32) (h : f_X8_lifeOf  mem x1 x2 x3 x4 x5 x6 x7 x8 = some z) : ug l E 5 0 0 cX8_lifeOf 9 RX8 (some .int) [] (uz_i z) 0 0 0 [(0, .ref (ue_d E 38)), (1, .int x1), (2, .int x2), (3, .int x3), (4, .int x4), (5, .int x5), (6, .int x6), (7, .int x7), (8, .int x8)] [] mem := by
  rw [f_X8_lifeOf] at h
  refine ug_aload_n 0 dX8_lifeOf_0 rfl rfl ?_
  refine ug_getR kf_X8_50 gr_38_27 dX8_lifeOf_1 ?_
  refine ug_iconst dX8_lifeOf_4 un_iconst_0 ?_
  refine ug_iload_n 1 dX8_lifeOf_5 rfl rfl ?_
  refine ug_iastK al_50 ui_0_8 uc_0 dX8_lifeOf_6 ?_
  refine ug_aload_n 0 dX8_lifeOf_7 rfl rfl ?_
  refine ug_getR kf_X8_50 gr_38_27 dX8_lifeOf_8 ?_
  refine ug_iconst dX8_lifeOf_11 un_iconst_1 ?_
  refine ug_iload_n 2 dX8_lifeOf_12 rfl rfl ?_
  refine ug_iastK al_50 ui_1_8 uc_1 dX8_lifeOf_13 ?_
  refine ug_aload_n 0 dX8_lifeOf_14 rfl rfl ?_
  refine ug_getR kf_X8_50 gr_38_27 dX8_lifeOf_15 ?_
  refine ug_iconst dX8_lifeOf_18 un_iconst_2 ?_
  refine ug_iload_n 3 dX8_lifeOf_19 rfl rfl ?_
  refine ug_iastK al_50 ui_2_8 uc_2 dX8_lifeOf_20 ?_
  refine ug_aload_n 0 dX8_lifeOf_21 rfl rfl ?_
  refine ug_getR kf_X8_50 gr_38_27 dX8_lifeOf_22 ?_
  refine ug_iconst dX8_lifeOf_25 un_iconst_3 ?_
  refine ug_iload 4 dX8_lifeOf_26 rfl ?_
  refine ug_iastK al_50 ui_3_8 uc_3 dX8_lifeOf_28 ?_
  refine ug_aload_n 0 dX8_lifeOf_29 rfl rfl ?_
  refine ug_getR kf_X8_50 gr_38_27 dX8_lifeOf_30 ?_
  refine ug_iconst dX8_lifeOf_33 un_iconst_4 ?_
  refine ug_iload 5 dX8_lifeOf_34 rfl ?_
  refine ug_iastK al_50 ui_4_8 uc_4 dX8_lifeOf_36 ?_
  refine ug_aload_n 0 dX8_lifeOf_37 rfl rfl ?_
  refine ug_getR kf_X8_50 gr_38_27 dX8_lifeOf_38 ?_
  refine ug_iconst dX8_lifeOf_41 un_iconst_5 ?_
  refine ug_iload 6 dX8_lifeOf_42 rfl ?_
  refine ug_iastK al_50 ui_5_8 uc_5 dX8_lifeOf_44 ?_
  refine ug_aload_n 0 dX8_lifeOf_45 rfl rfl ?_
  refine ug_getR kf_X8_50 gr_38_27 dX8_lifeOf_46 ?_
  refine ug_bipush dX8_lifeOf_49 un_bipush_6 ?_
  refine ug_iload 7 dX8_lifeOf_51 rfl ?_
  refine ug_iastK al_50 ui_6_8 uc_6 dX8_lifeOf_53 ?_
  refine ug_aload_n 0 dX8_lifeOf_54 rfl rfl ?_
  refine ug_getR kf_X8_50 gr_38_27 dX8_lifeOf_55 ?_
  refine ug_bipush dX8_lifeOf_58 un_bipush_7 ?_
  refine ug_iload 8 dX8_lifeOf_60 rfl ?_
  refine ug_iastK al_50 ui_7_8 uc_7 dX8_lifeOf_62 ?_
  refine ug_aload_n 0 dX8_lifeOf_63 rfl rfl ?_
  obtain ⟨m1, r2, h3, h⟩ := ubi_some h
  refine ug_callVi [] (c_X8_lifeNow  h3) kc_X8_333 ro_38 rfl (S := []) rfl (Nat.le_of_ble_eq_true rfl) (Nat.le_of_ble_eq_true rfl) (Nat.le_of_ble_eq_true rfl) dX8_lifeOf_64 ?_
  obtain rfl := Option.some.inj h
  exact ug_iret dX8_lifeOf_67
theorem c_X8_lifeOf {l : Launch} {E : Ue} {mem : Um} {x1 : Int32} {x2 : Int32} {x3 : Int32} {x4 : Int32} {x5 : Int32} {x6 : Int32} {x7 : Int32} {x8 : Int32} {m1 : Um} {r : Int32} (h : f_X8_lifeOf  mem x1 x2 x3 x4 x5 x6 x7 x8 = some (m1, r)) : ucr l E 5 0 0 yX8_lifeOf cX8_lifeOf 9 (some .int) [.ref (ue_d E 38), .int x1, .int x2, .int x3, .int x4, .int x5, .int x6, .int x7, .int x8] mem (some (.int r)) m1 := ucr_of rfl (Nat.le_of_ble_eq_true rfl) (t_X8_lifeOf  mem x1 x2 x3 x4 x5 x6 x7 x8 _ h)
-- X8_lifeBy
def f_X8_lifeBy (mem : Um) (x1 : Int32) : Option (Um × Int32) :=
  ugd (uin (10 + x1) 28) (ubi (f_X8_touchingOf mem x1) (fun m2 r3 => ubi (f_X8_ones m2 r3) (fun m5 r6 => ugd (uin (15 + x1) 28) (ubi (f_X8_ownedBy m5 x1) (fun m9 r10 => ubi (f_X8_worthOf m9 r10) (fun m12 r13 => ubi (f_X8_lifeOf m12 (mem 54 (10 + x1).toNatClampNeg) (mem 38 19) r6 (m5 54 (15 + x1).toNatClampNeg) r13 (m12 54 27) (m12 54 25) x1) (fun m15 r16 => some (m15, r16))))))))
set_option maxRecDepth 20000 in
theorem t_X8_lifeBy {l : Launch} {E : Ue} (mem : Um) (x1 : Int32) (z : Um × Int32) (h : f_X8_lifeBy  mem x1 = some z) : ug l E 6 0 0 cX8_lifeBy 2 RX8 (some .int) [] (uz_i z) 0 0 0 [(0, .ref (ue_d E 38)), (1, .int x1)] [] mem := by
  rw [f_X8_lifeBy] at h
  refine ug_aload_n 0 dX8_lifeBy_0 rfl rfl ?_
  refine ug_aload_n 0 dX8_lifeBy_1 rfl rfl ?_
  refine ug_getR kf_X8_62 gr_38_37 dX8_lifeBy_2 ?_
  refine ug_bipush dX8_lifeBy_5 un_bipush_10 ?_
  refine ug_iload_n 1 dX8_lifeBy_7 rfl rfl ?_
  refine ug_iadd dX8_lifeBy_8 ?_
  obtain ⟨g1, h⟩ := ugd_some h
  refine ug_iald al_54 (uin_ok g1) dX8_lifeBy_9 ?_
  refine ug_aload_n 0 dX8_lifeBy_10 rfl rfl ?_
  refine ug_getI kf_X8_157 gi_38_19 dX8_lifeBy_11 ?_
  refine ug_aload_n 0 dX8_lifeBy_14 rfl rfl ?_
  refine ug_iload_n 1 dX8_lifeBy_15 rfl rfl ?_
  obtain ⟨m2, r3, h4, h⟩ := ubi_some h
  refine ug_callVi [.int x1] (c_X8_touchingOf  h4) kc_X8_336 ro_38 rfl (S := [.int (mem 38 19), .int (mem 54 (10 + x1).toNatClampNeg), .ref (ue_d E 38)]) rfl (Nat.le_of_ble_eq_true rfl) (Nat.le_of_ble_eq_true rfl) (Nat.le_of_ble_eq_true rfl) dX8_lifeBy_16 ?_
  obtain ⟨m5, r6, h7, h⟩ := ubi_some h
  refine ug_callSi [.int r3] (c_X8_ones  h7) kc_X8_339 rfl (S := [.int (mem 38 19), .int (mem 54 (10 + x1).toNatClampNeg), .ref (ue_d E 38)]) rfl (Nat.le_of_ble_eq_true rfl) (Nat.le_of_ble_eq_true rfl) (Nat.le_of_ble_eq_true rfl) dX8_lifeBy_19 ?_
  refine ug_aload_n 0 dX8_lifeBy_22 rfl rfl ?_
  refine ug_getR kf_X8_62 gr_38_37 dX8_lifeBy_23 ?_
  refine ug_bipush dX8_lifeBy_26 un_bipush_15 ?_
  refine ug_iload_n 1 dX8_lifeBy_28 rfl rfl ?_
  refine ug_iadd dX8_lifeBy_29 ?_
  obtain ⟨g8, h⟩ := ugd_some h
  refine ug_iald al_54 (uin_ok g8) dX8_lifeBy_30 ?_
  refine ug_aload_n 0 dX8_lifeBy_31 rfl rfl ?_
  refine ug_aload_n 0 dX8_lifeBy_32 rfl rfl ?_
  refine ug_iload_n 1 dX8_lifeBy_33 rfl rfl ?_
  obtain ⟨m9, r10, h11, h⟩ := ubi_some h
  refine ug_callVi [.int x1] (c_X8_ownedBy  h11) kc_X8_342 ro_38 rfl (S := [.ref (ue_d E 38), .int (m5 54 (15 + x1).toNatClampNeg), .int r6, .int (mem 38 19), .int (mem 54 (10 + x1).toNatClampNeg), .ref (ue_d E 38)]) rfl (Nat.le_of_ble_eq_true rfl) (Nat.le_of_ble_eq_true rfl) (Nat.le_of_ble_eq_true rfl) dX8_lifeBy_34 ?_
  obtain ⟨m12, r13, h14, h⟩ := ubi_some h
  refine ug_callVi [.int r10] (c_X8_worthOf  h14) kc_X8_345 ro_38 rfl (S := [.int (m5 54 (15 + x1).toNatClampNeg), .int r6, .int (mem 38 19), .int (mem 54 (10 + x1).toNatClampNeg), .ref (ue_d E 38)]) rfl (Nat.le_of_ble_eq_true rfl) (Nat.le_of_ble_eq_true rfl) (Nat.le_of_ble_eq_true rfl) dX8_lifeBy_37 ?_
  refine ug_aload_n 0 dX8_lifeBy_40 rfl rfl ?_
  refine ug_getR kf_X8_62 gr_38_37 dX8_lifeBy_41 ?_
  refine ug_bipush dX8_lifeBy_44 un_bipush_27 ?_
  refine ug_ialdK al_54 ui_27_28 uc_27 dX8_lifeBy_46 ?_
  refine ug_aload_n 0 dX8_lifeBy_47 rfl rfl ?_
  refine ug_getR kf_X8_62 gr_38_37 dX8_lifeBy_48 ?_
  refine ug_bipush dX8_lifeBy_51 un_bipush_25 ?_
  refine ug_ialdK al_54 ui_25_28 uc_25 dX8_lifeBy_53 ?_
  refine ug_iload_n 1 dX8_lifeBy_54 rfl rfl ?_
  obtain ⟨m15, r16, h17, h⟩ := ubi_some h
  refine ug_callVi [.int (mem 54 (10 + x1).toNatClampNeg), .int (mem 38 19), .int r6, .int (m5 54 (15 + x1).toNatClampNeg), .int r13, .int (m12 54 27), .int (m12 54 25), .int x1] (c_X8_lifeOf  h17) kc_X8_348 ro_38 rfl (S := []) rfl (Nat.le_of_ble_eq_true rfl) (Nat.le_of_ble_eq_true rfl) (Nat.le_of_ble_eq_true rfl) dX8_lifeBy_55 ?_
  obtain rfl := Option.some.inj h
  exact ug_iret dX8_lifeBy_58
theorem c_X8_lifeBy {l : Launch} {E : Ue} {mem : Um} {x1 : Int32} {m1 : Um} {r : Int32} (h : f_X8_lifeBy  mem x1 = some (m1, r)) : ucr l E 6 0 0 yX8_lifeBy cX8_lifeBy 2 (some .int) [.ref (ue_d E 38), .int x1] mem (some (.int r)) m1 := ucr_of rfl (Nat.le_of_ble_eq_true rfl) (t_X8_lifeBy  mem x1 _ h)
-- X8_passes
def f_X8_passes_b126 (k104 : Um → Int32 → Int32 → Option (Um × Unit)) (mem : Um) (x1 : Int32) (x2 : Int32) : Option (Um × Unit) :=
  k104 mem x1 (x2 + 1)
set_option maxRecDepth 20000 in
theorem t_X8_passes_b126 {l : Launch} {E : Ue} (k104 : Um → Int32 → Int32 → Option (Um × Unit)) (hk104 : ∀ (mem : Um) (x1 : Int32) (x2 : Int32) (z : Um × Unit), k104 mem x1 x2 = some z → ug l E 7 0 0 cX8_passes 3 RX8 none [] (uz_v z) 0 0 104 [(0, .ref (ue_d E 38)), (1, .int x1), (2, .int x2)] [] mem) (mem : Um) (x1 : Int32) (x2 : Int32) (z : Um × Unit) (h : f_X8_passes_b126 k104 mem x1 x2 = some z) : ug l E 7 0 0 cX8_passes 3 RX8 none [] (uz_v z) 0 0 126 [(0, .ref (ue_d E 38)), (1, .int x1), (2, .int x2)] [] mem := by
  rw [f_X8_passes_b126] at h
  refine ug_iinc (v := (x2 + 1)) [(2, .int (x2 + 1)), (0, .ref (ue_d E 38)), (1, .int x1)] 2 dX8_passes_126 rfl rfl (Nat.le_of_ble_eq_true rfl) rfl ?_
  refine ug_goto 104 dX8_passes_129 (by decide) ?_
  refine ug_sub [(0, .ref (ue_d E 38)), (1, .int x1), (2, .int (x2 + 1))] [1, 2, 0] rfl ?_
  exact hk104 mem x1 (x2 + 1) _ h
def f_X8_passes_b104 : Nat → Um → Int32 → Int32 → Option (Um × Unit)
  | 0, _, _, _ => none
  | n + 1, mem, x1, x2 =>
    if (mem 38 18) ≤ x2 then (some ((um_w mem 54 27 ((mem 54 27) + 1)), ())) else (if ((x1 >>> (x2 &&& 31)) &&& 1) = 1 then (ubi (f_X8_bursts mem x2) (fun m3 r4 => f_X8_passes_b126 (f_X8_passes_b104  n) m3 x1 x2)) else (f_X8_passes_b126 (f_X8_passes_b104  n) mem x1 x2))
set_option maxRecDepth 20000 in
theorem t_X8_passes_b104 {l : Launch} {E : Ue} : ∀ (n : Nat) (mem : Um) (x1 : Int32) (x2 : Int32) (z : Um × Unit), f_X8_passes_b104  n mem x1 x2 = some z → ug l E 7 0 0 cX8_passes 3 RX8 none [] (uz_v z) 0 0 104 [(0, .ref (ue_d E 38)), (1, .int x1), (2, .int x2)] [] mem := by
  intro n
  induction n with
  | zero =>
    intro mem x1 x2 z h
    rw [f_X8_passes_b104] at h
    cases h
  | succ n ih =>
    intro mem x1 x2 z h
    rw [f_X8_passes_b104] at h
    refine ug_iload_n 2 dX8_passes_104 rfl rfl ?_
    refine ug_aload_n 0 dX8_passes_105 rfl rfl ?_
    refine ug_getI kf_X8_154 gi_38_18 dX8_passes_106 ?_
    refine ug_icmp_ge 132 dX8_passes_109 (by decide) (fun q1 => ?_) (fun q1 => ?_)
    · rw [if_pos q1] at h
      refine ug_aload_n 0 dX8_passes_132 rfl rfl ?_
      refine ug_getR kf_X8_62 gr_38_37 dX8_passes_133 ?_
      refine ug_bipush dX8_passes_136 un_bipush_27 ?_
      refine ug_dup2 dX8_passes_138 rfl rfl ?_
      refine ug_ialdK al_54 ui_27_28 uc_27 dX8_passes_139 ?_
      refine ug_iconst dX8_passes_140 un_iconst_1 ?_
      refine ug_iadd dX8_passes_141 ?_
      refine ug_iastK al_54 ui_27_28 uc_27 dX8_passes_142 ?_
      obtain rfl := Option.some.inj h
      exact ug_vret dX8_passes_143
    · rw [if_neg q1] at h
      refine ug_iload_n 1 dX8_passes_112 rfl rfl ?_
      refine ug_iload_n 2 dX8_passes_113 rfl rfl ?_
      refine ug_ishr dX8_passes_114 ?_
      refine ug_iconst dX8_passes_115 un_iconst_1 ?_
      refine ug_iand dX8_passes_116 ?_
      refine ug_iconst dX8_passes_117 un_iconst_1 ?_
      refine ug_icmp_ne 126 dX8_passes_118 (by decide) (fun q2 => ?_) (fun q2 => ?_)
      · rw [if_neg q2] at h
        exact t_X8_passes_b126 (f_X8_passes_b104  n) ih mem x1 x2 _ h
      · rw [if_pos q2] at h
        refine ug_aload_n 0 dX8_passes_121 rfl rfl ?_
        refine ug_iload_n 2 dX8_passes_122 rfl rfl ?_
        obtain ⟨m3, r4, h5, h⟩ := ubi_some h
        refine ug_callVv [.int x2] (c_X8_bursts  h5) kc_X8_362 ro_38 rfl (S := []) rfl (Nat.le_of_ble_eq_true rfl) (Nat.le_of_ble_eq_true rfl) (Nat.le_of_ble_eq_true rfl) dX8_passes_123 ?_
        exact t_X8_passes_b126 (f_X8_passes_b104  n) ih m3 x1 x2 _ h
def f_X8_passes_b94 (k49 : Um → Int32 → Int32 → Option (Um × Unit)) (mem : Um) (x2 : Int32) (y0 : Int32) (y1 : Int32) : Option (Um × Unit) :=
  k49 mem (y1 ||| y0) (x2 + 1)
set_option maxRecDepth 20000 in
theorem t_X8_passes_b94 {l : Launch} {E : Ue} (k49 : Um → Int32 → Int32 → Option (Um × Unit)) (hk49 : ∀ (mem : Um) (x1 : Int32) (x2 : Int32) (z : Um × Unit), k49 mem x1 x2 = some z → ug l E 7 0 0 cX8_passes 3 RX8 none [] (uz_v z) 0 0 49 [(0, .ref (ue_d E 38)), (1, .int x1), (2, .int x2)] [] mem) (mem : Um) (x2 : Int32) (y0 : Int32) (y1 : Int32) (z : Um × Unit) (h : f_X8_passes_b94 k49 mem x2 y0 y1 = some z) : ug l E 7 0 0 cX8_passes 3 RX8 none [] (uz_v z) 0 0 94 [(0, .ref (ue_d E 38)), (2, .int x2)] [.int y0, .int y1] mem := by
  rw [f_X8_passes_b94] at h
  refine ug_ior dX8_passes_94 ?_
  refine ug_istore_n [(1, .int (y1 ||| y0)), (0, .ref (ue_d E 38)), (2, .int x2)] dX8_passes_95 rfl (Nat.le_of_ble_eq_true rfl) rfl ?_
  refine ug_iinc (v := (x2 + 1)) [(2, .int (x2 + 1)), (1, .int (y1 ||| y0)), (0, .ref (ue_d E 38))] 2 dX8_passes_96 rfl rfl (Nat.le_of_ble_eq_true rfl) rfl ?_
  refine ug_goto 49 dX8_passes_99 (by decide) ?_
  refine ug_sub [(0, .ref (ue_d E 38)), (1, .int (y1 ||| y0)), (2, .int (x2 + 1))] [2, 1, 0] rfl ?_
  exact hk49 mem (y1 ||| y0) (x2 + 1) _ h
def f_X8_passes_b93 (k49 : Um → Int32 → Int32 → Option (Um × Unit)) (mem : Um) (x2 : Int32) (y0 : Int32) : Option (Um × Unit) :=
  f_X8_passes_b94 k49 mem x2 0 y0
set_option maxRecDepth 20000 in
theorem t_X8_passes_b93 {l : Launch} {E : Ue} (k49 : Um → Int32 → Int32 → Option (Um × Unit)) (hk49 : ∀ (mem : Um) (x1 : Int32) (x2 : Int32) (z : Um × Unit), k49 mem x1 x2 = some z → ug l E 7 0 0 cX8_passes 3 RX8 none [] (uz_v z) 0 0 49 [(0, .ref (ue_d E 38)), (1, .int x1), (2, .int x2)] [] mem) (mem : Um) (x2 : Int32) (y0 : Int32) (z : Um × Unit) (h : f_X8_passes_b93 k49 mem x2 y0 = some z) : ug l E 7 0 0 cX8_passes 3 RX8 none [] (uz_v z) 0 0 93 [(0, .ref (ue_d E 38)), (2, .int x2)] [.int y0] mem := by
  rw [f_X8_passes_b93] at h
  refine ug_iconst dX8_passes_93 un_iconst_0 ?_
  exact t_X8_passes_b94 k49 hk49 mem x2 0 y0 _ h
def f_X8_passes_b49 : Nat → Um → Int32 → Int32 → Option (Um × Unit)
  | 0, _, _, _ => none
  | n + 1, mem, x1, x2 =>
    if (mem 38 18) ≤ x2 then (f_X8_passes_b104  UF mem x1 0) else (ugd (uin (10 + x2) 28) (if (mem 54 (10 + x2).toNatClampNeg) ≤ 0 then (f_X8_passes_b93 (f_X8_passes_b49  n) mem x2 x1) else (ugd (uin (20 + x2) 28) (ubi (f_X8_lifeBy mem x2) (fun m5 r6 => if (mem 54 (20 + x2).toNatClampNeg) < r6 then (f_X8_passes_b93 (f_X8_passes_b49  n) m5 x2 x1) else (f_X8_passes_b94 (f_X8_passes_b49  n) m5 x2 (1 <<< (x2 &&& 31)) x1))))))
set_option maxRecDepth 20000 in
theorem t_X8_passes_b49 {l : Launch} {E : Ue} : ∀ (n : Nat) (mem : Um) (x1 : Int32) (x2 : Int32) (z : Um × Unit), f_X8_passes_b49  n mem x1 x2 = some z → ug l E 7 0 0 cX8_passes 3 RX8 none [] (uz_v z) 0 0 49 [(0, .ref (ue_d E 38)), (1, .int x1), (2, .int x2)] [] mem := by
  intro n
  induction n with
  | zero =>
    intro mem x1 x2 z h
    rw [f_X8_passes_b49] at h
    cases h
  | succ n ih =>
    intro mem x1 x2 z h
    rw [f_X8_passes_b49] at h
    refine ug_iload_n 2 dX8_passes_49 rfl rfl ?_
    refine ug_aload_n 0 dX8_passes_50 rfl rfl ?_
    refine ug_getI kf_X8_154 gi_38_18 dX8_passes_51 ?_
    refine ug_icmp_ge 102 dX8_passes_54 (by decide) (fun q1 => ?_) (fun q1 => ?_)
    · rw [if_pos q1] at h
      refine ug_iconst dX8_passes_102 un_iconst_0 ?_
      refine ug_istore_n [(2, .int 0), (0, .ref (ue_d E 38)), (1, .int x1)] dX8_passes_103 rfl (Nat.le_of_ble_eq_true rfl) rfl ?_
      refine ug_sub [(0, .ref (ue_d E 38)), (1, .int x1), (2, .int 0)] [1, 2, 0] rfl ?_
      exact t_X8_passes_b104  UF mem x1 0 _ h
    · rw [if_neg q1] at h
      refine ug_iload_n 1 dX8_passes_57 rfl rfl ?_
      refine ug_aload_n 0 dX8_passes_58 rfl rfl ?_
      refine ug_getR kf_X8_62 gr_38_37 dX8_passes_59 ?_
      refine ug_bipush dX8_passes_62 un_bipush_10 ?_
      refine ug_iload_n 2 dX8_passes_64 rfl rfl ?_
      refine ug_iadd dX8_passes_65 ?_
      obtain ⟨g2, h⟩ := ugd_some h
      refine ug_iald al_54 (uin_ok g2) dX8_passes_66 ?_
      refine ug_if_le 93 dX8_passes_67 (by decide) (fun q3 => ?_) (fun q3 => ?_)
      · rw [if_pos q3] at h
        refine ug_sub [(0, .ref (ue_d E 38)), (2, .int x2)] [0, 2] rfl ?_
        exact t_X8_passes_b93 (f_X8_passes_b49  n) ih mem x2 x1 _ h
      · rw [if_neg q3] at h
        refine ug_aload_n 0 dX8_passes_70 rfl rfl ?_
        refine ug_getR kf_X8_62 gr_38_37 dX8_passes_71 ?_
        refine ug_bipush dX8_passes_74 un_bipush_20 ?_
        refine ug_iload_n 2 dX8_passes_76 rfl rfl ?_
        refine ug_iadd dX8_passes_77 ?_
        obtain ⟨g4, h⟩ := ugd_some h
        refine ug_iald al_54 (uin_ok g4) dX8_passes_78 ?_
        refine ug_aload_n 0 dX8_passes_79 rfl rfl ?_
        refine ug_iload_n 2 dX8_passes_80 rfl rfl ?_
        obtain ⟨m5, r6, h7, h⟩ := ubi_some h
        refine ug_callVi [.int x2] (c_X8_lifeBy  h7) kc_X8_365 ro_38 rfl (S := [.int (mem 54 (20 + x2).toNatClampNeg), .int x1]) rfl (Nat.le_of_ble_eq_true rfl) (Nat.le_of_ble_eq_true rfl) (Nat.le_of_ble_eq_true rfl) dX8_passes_81 ?_
        refine ug_icmp_lt 93 dX8_passes_84 (by decide) (fun q8 => ?_) (fun q8 => ?_)
        · rw [if_pos q8] at h
          refine ug_sub [(0, .ref (ue_d E 38)), (2, .int x2)] [0, 2] rfl ?_
          exact t_X8_passes_b93 (f_X8_passes_b49  n) ih m5 x2 x1 _ h
        · rw [if_neg q8] at h
          refine ug_iconst dX8_passes_87 un_iconst_1 ?_
          refine ug_iload_n 2 dX8_passes_88 rfl rfl ?_
          refine ug_ishl dX8_passes_89 ?_
          refine ug_goto 94 dX8_passes_90 (by decide) ?_
          refine ug_sub [(0, .ref (ue_d E 38)), (2, .int x2)] [0, 2] rfl ?_
          exact t_X8_passes_b94 (f_X8_passes_b49  n) ih m5 x2 (1 <<< (x2 &&& 31)) x1 _ h
def f_X8_passes_b39 (k4 : Um → Int32 → Int32 → Option (Um × Unit)) (mem : Um) (x1 : Int32) (x2 : Int32) (y0 : Int32) (y1 : Int32) (y2 : Int32) : Option (Um × Unit) :=
  ugd (uin y2 28) (k4 (um_w mem 54 y2.toNatClampNeg (y1 + y0)) x1 (x2 + 1))
set_option maxRecDepth 20000 in
theorem t_X8_passes_b39 {l : Launch} {E : Ue} (k4 : Um → Int32 → Int32 → Option (Um × Unit)) (hk4 : ∀ (mem : Um) (x1 : Int32) (x2 : Int32) (z : Um × Unit), k4 mem x1 x2 = some z → ug l E 7 0 0 cX8_passes 3 RX8 none [] (uz_v z) 0 0 4 [(0, .ref (ue_d E 38)), (1, .int x1), (2, .int x2)] [] mem) (mem : Um) (x1 : Int32) (x2 : Int32) (y0 : Int32) (y1 : Int32) (y2 : Int32) (z : Um × Unit) (h : f_X8_passes_b39 k4 mem x1 x2 y0 y1 y2 = some z) : ug l E 7 0 0 cX8_passes 3 RX8 none [] (uz_v z) 0 0 39 [(0, .ref (ue_d E 38)), (1, .int x1), (2, .int x2)] [.int y0, .int y1, .int y2, .ref (ue_d E 54)] mem := by
  rw [f_X8_passes_b39] at h
  refine ug_iadd dX8_passes_39 ?_
  obtain ⟨g1, h⟩ := ugd_some h
  refine ug_iast al_54 (uin_ok g1) dX8_passes_40 ?_
  refine ug_iinc (v := (x2 + 1)) [(2, .int (x2 + 1)), (0, .ref (ue_d E 38)), (1, .int x1)] 2 dX8_passes_41 rfl rfl (Nat.le_of_ble_eq_true rfl) rfl ?_
  refine ug_goto 4 dX8_passes_44 (by decide) ?_
  refine ug_sub [(0, .ref (ue_d E 38)), (1, .int x1), (2, .int (x2 + 1))] [1, 2, 0] rfl ?_
  exact hk4 (um_w mem 54 y2.toNatClampNeg (y1 + y0)) x1 (x2 + 1) _ h
def f_X8_passes_b4 : Nat → Um → Int32 → Int32 → Option (Um × Unit)
  | 0, _, _, _ => none
  | n + 1, mem, x1, x2 =>
    if (mem 38 18) ≤ x2 then (f_X8_passes_b49  UF mem x1 0) else (ugd (uin (20 + x2) 28) (ugd (uin (10 + x2) 28) (if (mem 54 (10 + x2).toNatClampNeg) ≤ 0 then (f_X8_passes_b39 (f_X8_passes_b4  n) mem x1 x2 0 (mem 54 (20 + x2).toNatClampNeg) (20 + x2)) else (f_X8_passes_b39 (f_X8_passes_b4  n) mem x1 x2 1 (mem 54 (20 + x2).toNatClampNeg) (20 + x2)))))
set_option maxRecDepth 20000 in
theorem t_X8_passes_b4 {l : Launch} {E : Ue} : ∀ (n : Nat) (mem : Um) (x1 : Int32) (x2 : Int32) (z : Um × Unit), f_X8_passes_b4  n mem x1 x2 = some z → ug l E 7 0 0 cX8_passes 3 RX8 none [] (uz_v z) 0 0 4 [(0, .ref (ue_d E 38)), (1, .int x1), (2, .int x2)] [] mem := by
  intro n
  induction n with
  | zero =>
    intro mem x1 x2 z h
    rw [f_X8_passes_b4] at h
    cases h
  | succ n ih =>
    intro mem x1 x2 z h
    rw [f_X8_passes_b4] at h
    refine ug_iload_n 2 dX8_passes_4 rfl rfl ?_
    refine ug_aload_n 0 dX8_passes_5 rfl rfl ?_
    refine ug_getI kf_X8_154 gi_38_18 dX8_passes_6 ?_
    refine ug_icmp_ge 47 dX8_passes_9 (by decide) (fun q1 => ?_) (fun q1 => ?_)
    · rw [if_pos q1] at h
      refine ug_iconst dX8_passes_47 un_iconst_0 ?_
      refine ug_istore_n [(2, .int 0), (0, .ref (ue_d E 38)), (1, .int x1)] dX8_passes_48 rfl (Nat.le_of_ble_eq_true rfl) rfl ?_
      refine ug_sub [(0, .ref (ue_d E 38)), (1, .int x1), (2, .int 0)] [1, 2, 0] rfl ?_
      exact t_X8_passes_b49  UF mem x1 0 _ h
    · rw [if_neg q1] at h
      refine ug_aload_n 0 dX8_passes_12 rfl rfl ?_
      refine ug_getR kf_X8_62 gr_38_37 dX8_passes_13 ?_
      refine ug_bipush dX8_passes_16 un_bipush_20 ?_
      refine ug_iload_n 2 dX8_passes_18 rfl rfl ?_
      refine ug_iadd dX8_passes_19 ?_
      refine ug_dup2 dX8_passes_20 rfl rfl ?_
      obtain ⟨g2, h⟩ := ugd_some h
      refine ug_iald al_54 (uin_ok g2) dX8_passes_21 ?_
      refine ug_aload_n 0 dX8_passes_22 rfl rfl ?_
      refine ug_getR kf_X8_62 gr_38_37 dX8_passes_23 ?_
      refine ug_bipush dX8_passes_26 un_bipush_10 ?_
      refine ug_iload_n 2 dX8_passes_28 rfl rfl ?_
      refine ug_iadd dX8_passes_29 ?_
      obtain ⟨g3, h⟩ := ugd_some h
      refine ug_iald al_54 (uin_ok g3) dX8_passes_30 ?_
      refine ug_if_le 38 dX8_passes_31 (by decide) (fun q4 => ?_) (fun q4 => ?_)
      · rw [if_pos q4] at h
        refine ug_iconst dX8_passes_38 un_iconst_0 ?_
        exact t_X8_passes_b39 (f_X8_passes_b4  n) ih mem x1 x2 0 (mem 54 (20 + x2).toNatClampNeg) (20 + x2) _ h
      · rw [if_neg q4] at h
        refine ug_iconst dX8_passes_34 un_iconst_1 ?_
        refine ug_goto 39 dX8_passes_35 (by decide) ?_
        exact t_X8_passes_b39 (f_X8_passes_b4  n) ih mem x1 x2 1 (mem 54 (20 + x2).toNatClampNeg) (20 + x2) _ h
def f_X8_passes (mem : Um) : Option (Um × Unit) :=
  f_X8_passes_b4  UF mem 0 0
set_option maxRecDepth 20000 in
theorem t_X8_passes {l : Launch} {E : Ue} (mem : Um) (z : Um × Unit) (h : f_X8_passes  mem  = some z) : ug l E 7 0 0 cX8_passes 3 RX8 none [] (uz_v z) 0 0 0 [(0, .ref (ue_d E 38))] [] mem := by
  rw [f_X8_passes] at h
  refine ug_iconst dX8_passes_0 un_iconst_0 ?_
  refine ug_istore_n [(1, .int 0), (0, .ref (ue_d E 38))] dX8_passes_1 rfl (Nat.le_of_ble_eq_true rfl) rfl ?_
  refine ug_iconst dX8_passes_2 un_iconst_0 ?_
  refine ug_istore_n [(2, .int 0), (1, .int 0), (0, .ref (ue_d E 38))] dX8_passes_3 rfl (Nat.le_of_ble_eq_true rfl) rfl ?_
  refine ug_sub [(0, .ref (ue_d E 38)), (1, .int 0), (2, .int 0)] [2, 1, 0] rfl ?_
  exact t_X8_passes_b4  UF mem 0 0 _ h
theorem c_X8_passes {l : Launch} {E : Ue} {mem : Um} {m1 : Um} {r : Unit} (h : f_X8_passes  mem  = some (m1, r)) : ucr l E 7 0 0 yX8_passes cX8_passes 3 none [.ref (ue_d E 38)] mem none m1 := ucr_of rfl (Nat.le_of_ble_eq_true rfl) (t_X8_passes  mem  _ h)
-- X8_isDone
def f_X8_isDone_b33 (mem : Um) (y0 : Int32) : Option (Um × Int32) :=
  ubi (f_X8_isDriven mem y0) (fun m1 r2 => ugd (ub01 r2) (some (m1, r2)))
set_option maxRecDepth 20000 in
theorem t_X8_isDone_b33 {l : Launch} {E : Ue} (mem : Um) (y0 : Int32) (z : Um × Int32) (h : f_X8_isDone_b33  mem y0 = some z) : ug l E 8 0 0 cX8_isDone 5 RX8 (some .boolean) [] (uz_i z) 0 0 33 [] [.int y0, .ref (ue_d E 38)] mem := by
  rw [f_X8_isDone_b33] at h
  obtain ⟨m1, r2, h3, h⟩ := ubi_some h
  refine ug_callVi [.int y0] (c_X8_isDriven  h3) kc_X8_371 ro_38 rfl (S := []) rfl (Nat.le_of_ble_eq_true rfl) (Nat.le_of_ble_eq_true rfl) (Nat.le_of_ble_eq_true rfl) dX8_isDone_33 ?_
  obtain ⟨g4, h⟩ := ugd_some h
  obtain rfl := Option.some.inj h
  exact ug_zret (of_decide_eq_true g4) dX8_isDone_36
def f_X8_isDone_b21 (mem : Um) (x1 : Int32) (x2 : Int32) : Option (Um × Int32) :=
  if x1 = 1 then (f_X8_isDone_b33 mem x2) else (f_X8_isDone_b33 mem (-x2))
set_option maxRecDepth 20000 in
theorem t_X8_isDone_b21 {l : Launch} {E : Ue} (mem : Um) (x1 : Int32) (x2 : Int32) (z : Um × Int32) (h : f_X8_isDone_b21  mem x1 x2 = some z) : ug l E 8 0 0 cX8_isDone 5 RX8 (some .boolean) [] (uz_i z) 0 0 21 [(0, .ref (ue_d E 38)), (1, .int x1), (2, .int x2)] [] mem := by
  rw [f_X8_isDone_b21] at h
  refine ug_aload_n 0 dX8_isDone_21 rfl rfl ?_
  refine ug_iload_n 1 dX8_isDone_22 rfl rfl ?_
  refine ug_iconst dX8_isDone_23 un_iconst_1 ?_
  refine ug_icmp_ne 31 dX8_isDone_24 (by decide) (fun q1 => ?_) (fun q1 => ?_)
  · rw [if_neg q1] at h
    refine ug_iload_n 2 dX8_isDone_31 rfl rfl ?_
    refine ug_ineg dX8_isDone_32 ?_
    refine ug_sub [] [] rfl ?_
    exact t_X8_isDone_b33 mem (-x2) _ h
  · rw [if_pos q1] at h
    refine ug_iload_n 2 dX8_isDone_27 rfl rfl ?_
    refine ug_goto 33 dX8_isDone_28 (by decide) ?_
    refine ug_sub [] [] rfl ?_
    exact t_X8_isDone_b33 mem x2 _ h
def f_X8_isDone (mem : Um) (x1 : Int32) (x2 : Int32) (x3 : Int32) (x4 : Int32) : Option (Um × Int32) :=
  if x1 = 0 then (ubi (f_X8_isBlown mem x2 x3) (fun m23 r24 => ugd (ub01 r24) (some (m23, r24)))) else (if x1 = 1 then (f_X8_isDone_b21 mem x1 x2) else (if x1 = 2 then (f_X8_isDone_b21 mem x1 x2) else (if x1 = 4 then (ubi (f_X8_isSold mem x2 x3 x4) (fun m19 r20 => ugd (ub01 r20) (some (m19, r20)))) else (if x1 = 3 then (ugd (uin (5 + x2) 28) (if (mem 54 (5 + x2).toNatClampNeg) = x3 then (some (mem, 0)) else (ugd (uin (5 + x2) 28) (some ((um_w mem 54 (5 + x2).toNatClampNeg x3), 1))))) else (if x1 = 5 then (ubi (f_X8_mayKeep mem x2) (fun m11 r12 => if r12 = 0 then (some (m11, 0)) else (ugd (uin (20 + x2) 28) (some ((um_w m11 54 (20 + x2).toNatClampNeg 0), 1))))) else (if (mem 54 27) < 400 then (ubi (f_X8_passes mem) (fun m8 r9 => some (m8, 1))) else (some (mem, 0))))))))
set_option maxRecDepth 20000 in
theorem t_X8_isDone {l : Launch} {E : Ue} (mem : Um) (x1 : Int32) (x2 : Int32) (x3 : Int32) (x4 : Int32) (z : Um × Int32) (h : f_X8_isDone  mem x1 x2 x3 x4 = some z) : ug l E 8 0 0 cX8_isDone 5 RX8 (some .boolean) [] (uz_i z) 0 0 0 [(0, .ref (ue_d E 38)), (1, .int x1), (2, .int x2), (3, .int x3), (4, .int x4)] [] mem := by
  rw [f_X8_isDone] at h
  refine ug_iload_n 1 dX8_isDone_0 rfl rfl ?_
  refine ug_if_ne 11 dX8_isDone_1 (by decide) (fun q1 => ?_) (fun q1 => ?_)
  · rw [if_neg q1] at h
    refine ug_iload_n 1 dX8_isDone_11 rfl rfl ?_
    refine ug_iconst dX8_isDone_12 un_iconst_1 ?_
    refine ug_icmp_eq 21 dX8_isDone_13 (by decide) (fun q2 => ?_) (fun q2 => ?_)
    · rw [if_pos q2] at h
      refine ug_sub [(0, .ref (ue_d E 38)), (1, .int x1), (2, .int x2)] [0, 1, 2] rfl ?_
      exact t_X8_isDone_b21 mem x1 x2 _ h
    · rw [if_neg q2] at h
      refine ug_iload_n 1 dX8_isDone_16 rfl rfl ?_
      refine ug_iconst dX8_isDone_17 un_iconst_2 ?_
      refine ug_icmp_ne 37 dX8_isDone_18 (by decide) (fun q3 => ?_) (fun q3 => ?_)
      · rw [if_neg q3] at h
        refine ug_iload_n 1 dX8_isDone_37 rfl rfl ?_
        refine ug_iconst dX8_isDone_38 un_iconst_4 ?_
        refine ug_icmp_ne 51 dX8_isDone_39 (by decide) (fun q4 => ?_) (fun q4 => ?_)
        · rw [if_neg q4] at h
          refine ug_iload_n 1 dX8_isDone_51 rfl rfl ?_
          refine ug_iconst dX8_isDone_52 un_iconst_3 ?_
          refine ug_icmp_ne 81 dX8_isDone_53 (by decide) (fun q5 => ?_) (fun q5 => ?_)
          · rw [if_neg q5] at h
            refine ug_iload_n 1 dX8_isDone_81 rfl rfl ?_
            refine ug_iconst dX8_isDone_82 un_iconst_5 ?_
            refine ug_icmp_ne 108 dX8_isDone_83 (by decide) (fun q6 => ?_) (fun q6 => ?_)
            · rw [if_neg q6] at h
              refine ug_aload_n 0 dX8_isDone_108 rfl rfl ?_
              refine ug_getR kf_X8_62 gr_38_37 dX8_isDone_109 ?_
              refine ug_bipush dX8_isDone_112 un_bipush_27 ?_
              refine ug_ialdK al_54 ui_27_28 uc_27 dX8_isDone_114 ?_
              refine ug_sipush dX8_isDone_115 un_sipush_400 ?_
              refine ug_icmp_lt 123 dX8_isDone_118 (by decide) (fun q7 => ?_) (fun q7 => ?_)
              · rw [if_pos q7] at h
                refine ug_aload_n 0 dX8_isDone_123 rfl rfl ?_
                obtain ⟨m8, r9, h10, h⟩ := ubi_some h
                refine ug_callVv [] (c_X8_passes  h10) kc_X8_380 ro_38 rfl (S := []) rfl (Nat.le_of_ble_eq_true rfl) (Nat.le_of_ble_eq_true rfl) (Nat.le_of_ble_eq_true rfl) dX8_isDone_124 ?_
                refine ug_iconst dX8_isDone_127 un_iconst_1 ?_
                obtain rfl := Option.some.inj h
                exact ug_zret (Or.inr rfl) dX8_isDone_128
              · rw [if_neg q7] at h
                refine ug_iconst dX8_isDone_121 un_iconst_0 ?_
                obtain rfl := Option.some.inj h
                exact ug_zret (Or.inl rfl) dX8_isDone_122
            · rw [if_pos q6] at h
              refine ug_aload_n 0 dX8_isDone_86 rfl rfl ?_
              refine ug_iload_n 2 dX8_isDone_87 rfl rfl ?_
              obtain ⟨m11, r12, h13, h⟩ := ubi_some h
              refine ug_callVi [.int x2] (c_X8_mayKeep  h13) kc_X8_377 ro_38 rfl (S := []) rfl (Nat.le_of_ble_eq_true rfl) (Nat.le_of_ble_eq_true rfl) (Nat.le_of_ble_eq_true rfl) dX8_isDone_88 ?_
              refine ug_if_ne 96 dX8_isDone_91 (by decide) (fun q14 => ?_) (fun q14 => ?_)
              · rw [if_neg q14] at h
                refine ug_aload_n 0 dX8_isDone_96 rfl rfl ?_
                refine ug_getR kf_X8_62 gr_38_37 dX8_isDone_97 ?_
                refine ug_bipush dX8_isDone_100 un_bipush_20 ?_
                refine ug_iload_n 2 dX8_isDone_102 rfl rfl ?_
                refine ug_iadd dX8_isDone_103 ?_
                refine ug_iconst dX8_isDone_104 un_iconst_0 ?_
                obtain ⟨g15, h⟩ := ugd_some h
                refine ug_iast al_54 (uin_ok g15) dX8_isDone_105 ?_
                refine ug_iconst dX8_isDone_106 un_iconst_1 ?_
                obtain rfl := Option.some.inj h
                exact ug_zret (Or.inr rfl) dX8_isDone_107
              · rw [if_pos q14] at h
                refine ug_iconst dX8_isDone_94 un_iconst_0 ?_
                obtain rfl := Option.some.inj h
                exact ug_zret (Or.inl rfl) dX8_isDone_95
          · rw [if_pos q5] at h
            refine ug_aload_n 0 dX8_isDone_56 rfl rfl ?_
            refine ug_getR kf_X8_62 gr_38_37 dX8_isDone_57 ?_
            refine ug_iconst dX8_isDone_60 un_iconst_5 ?_
            refine ug_iload_n 2 dX8_isDone_61 rfl rfl ?_
            refine ug_iadd dX8_isDone_62 ?_
            obtain ⟨g16, h⟩ := ugd_some h
            refine ug_iald al_54 (uin_ok g16) dX8_isDone_63 ?_
            refine ug_iload_n 3 dX8_isDone_64 rfl rfl ?_
            refine ug_icmp_ne 70 dX8_isDone_65 (by decide) (fun q17 => ?_) (fun q17 => ?_)
            · rw [if_neg q17] at h
              refine ug_aload_n 0 dX8_isDone_70 rfl rfl ?_
              refine ug_getR kf_X8_62 gr_38_37 dX8_isDone_71 ?_
              refine ug_iconst dX8_isDone_74 un_iconst_5 ?_
              refine ug_iload_n 2 dX8_isDone_75 rfl rfl ?_
              refine ug_iadd dX8_isDone_76 ?_
              refine ug_iload_n 3 dX8_isDone_77 rfl rfl ?_
              obtain ⟨g18, h⟩ := ugd_some h
              refine ug_iast al_54 (uin_ok g18) dX8_isDone_78 ?_
              refine ug_iconst dX8_isDone_79 un_iconst_1 ?_
              obtain rfl := Option.some.inj h
              exact ug_zret (Or.inr rfl) dX8_isDone_80
            · rw [if_pos q17] at h
              refine ug_iconst dX8_isDone_68 un_iconst_0 ?_
              obtain rfl := Option.some.inj h
              exact ug_zret (Or.inl rfl) dX8_isDone_69
        · rw [if_pos q4] at h
          refine ug_aload_n 0 dX8_isDone_42 rfl rfl ?_
          refine ug_iload_n 2 dX8_isDone_43 rfl rfl ?_
          refine ug_iload_n 3 dX8_isDone_44 rfl rfl ?_
          refine ug_iload 4 dX8_isDone_45 rfl ?_
          obtain ⟨m19, r20, h21, h⟩ := ubi_some h
          refine ug_callVi [.int x2, .int x3, .int x4] (c_X8_isSold  h21) kc_X8_374 ro_38 rfl (S := []) rfl (Nat.le_of_ble_eq_true rfl) (Nat.le_of_ble_eq_true rfl) (Nat.le_of_ble_eq_true rfl) dX8_isDone_47 ?_
          obtain ⟨g22, h⟩ := ugd_some h
          obtain rfl := Option.some.inj h
          exact ug_zret (of_decide_eq_true g22) dX8_isDone_50
      · rw [if_pos q3] at h
        refine ug_sub [(0, .ref (ue_d E 38)), (1, .int x1), (2, .int x2)] [0, 1, 2] rfl ?_
        exact t_X8_isDone_b21 mem x1 x2 _ h
  · rw [if_pos q1] at h
    refine ug_aload_n 0 dX8_isDone_4 rfl rfl ?_
    refine ug_iload_n 2 dX8_isDone_5 rfl rfl ?_
    refine ug_iload_n 3 dX8_isDone_6 rfl rfl ?_
    obtain ⟨m23, r24, h25, h⟩ := ubi_some h
    refine ug_callVi [.int x2, .int x3] (c_X8_isBlown  h25) kc_X8_368 ro_38 rfl (S := []) rfl (Nat.le_of_ble_eq_true rfl) (Nat.le_of_ble_eq_true rfl) (Nat.le_of_ble_eq_true rfl) dX8_isDone_7 ?_
    obtain ⟨g26, h⟩ := ugd_some h
    obtain rfl := Option.some.inj h
    exact ug_zret (of_decide_eq_true g26) dX8_isDone_10
theorem c_X8_isDone {l : Launch} {E : Ue} {mem : Um} {x1 : Int32} {x2 : Int32} {x3 : Int32} {x4 : Int32} {m1 : Um} {r : Int32} (h : f_X8_isDone  mem x1 x2 x3 x4 = some (m1, r)) : ucr l E 8 0 0 yX8_isDone cX8_isDone 5 (some .boolean) [.ref (ue_d E 38), .int x1, .int x2, .int x3, .int x4] mem (some (.int r)) m1 := ucr_of rfl (Nat.le_of_ble_eq_true rfl) (t_X8_isDone  mem x1 x2 x3 x4 _ h)
-- X8_goesSteps
def f_X8_goesSteps_b161 (rec : Um → Int32 → Int32 → Option (Um × Unit)) (mem : Um) : Option (Um × Unit) :=
  some (mem, ())
set_option maxRecDepth 20000 in
theorem t_X8_goesSteps_b161 {l : Launch} {E : Ue} {rec : Um → Int32 → Int32 → Option (Um × Unit)} (kr : Nat) (hrec : ∀ (mem : Um) (x1 : Int32) (x2 : Int32) (m1 : Um) (r : Unit), rec mem x1 x2 = some (m1, r) → ucr l E kr 0 0 yX8_goesSteps cX8_goesSteps 6 none [.ref (ue_d E 38), .int x1, .int x2] mem none m1) (mem : Um) (z : Um × Unit) (h : f_X8_goesSteps_b161 rec mem  = some z) : ug l E (kr + 9) 0 0 cX8_goesSteps 6 RX8 none [] (uz_v z) 0 0 161 [] [] mem := by
  rw [f_X8_goesSteps_b161] at h
  obtain rfl := Option.some.inj h
  exact ug_vret dX8_goesSteps_161
def f_X8_goesSteps_b155 (rec : Um → Int32 → Int32 → Option (Um × Unit)) (k2 : Um → Int32 → Int32 → Option (Um × Unit)) (mem : Um) (x2 : Int32) (x3 : Int32) : Option (Um × Unit) :=
  k2 mem x2 (x3 + 4)
set_option maxRecDepth 20000 in
theorem t_X8_goesSteps_b155 {l : Launch} {E : Ue} {rec : Um → Int32 → Int32 → Option (Um × Unit)} (kr : Nat) (hrec : ∀ (mem : Um) (x1 : Int32) (x2 : Int32) (m1 : Um) (r : Unit), rec mem x1 x2 = some (m1, r) → ucr l E kr 0 0 yX8_goesSteps cX8_goesSteps 6 none [.ref (ue_d E 38), .int x1, .int x2] mem none m1) (k2 : Um → Int32 → Int32 → Option (Um × Unit)) (hk2 : ∀ (mem : Um) (x2 : Int32) (x3 : Int32) (z : Um × Unit), k2 mem x2 x3 = some z → ug l E (kr + 9) 0 0 cX8_goesSteps 6 RX8 none [] (uz_v z) 0 0 2 [(0, .ref (ue_d E 38)), (2, .int x2), (3, .int x3)] [] mem) (mem : Um) (x2 : Int32) (x3 : Int32) (z : Um × Unit) (h : f_X8_goesSteps_b155 rec k2 mem x2 x3 = some z) : ug l E (kr + 9) 0 0 cX8_goesSteps 6 RX8 none [] (uz_v z) 0 0 155 [(0, .ref (ue_d E 38)), (2, .int x2), (3, .int x3)] [] mem := by
  rw [f_X8_goesSteps_b155] at h
  refine ug_iinc (v := (x3 + 4)) [(3, .int (x3 + 4)), (0, .ref (ue_d E 38)), (2, .int x2)] 2 dX8_goesSteps_155 rfl rfl (Nat.le_of_ble_eq_true rfl) rfl ?_
  refine ug_goto 2 dX8_goesSteps_158 (by decide) ?_
  refine ug_sub [(0, .ref (ue_d E 38)), (2, .int x2), (3, .int (x3 + 4))] [1, 2, 0] rfl ?_
  exact hk2 mem x2 (x3 + 4) _ h
def f_X8_goesSteps_b89 (rec : Um → Int32 → Int32 → Option (Um × Unit)) (k2 : Um → Int32 → Int32 → Option (Um × Unit)) (mem : Um) (x2 : Int32) (x4 : Int32) : Option (Um × Unit) :=
  k2 mem x2 x4
set_option maxRecDepth 20000 in
theorem t_X8_goesSteps_b89 {l : Launch} {E : Ue} {rec : Um → Int32 → Int32 → Option (Um × Unit)} (kr : Nat) (hrec : ∀ (mem : Um) (x1 : Int32) (x2 : Int32) (m1 : Um) (r : Unit), rec mem x1 x2 = some (m1, r) → ucr l E kr 0 0 yX8_goesSteps cX8_goesSteps 6 none [.ref (ue_d E 38), .int x1, .int x2] mem none m1) (k2 : Um → Int32 → Int32 → Option (Um × Unit)) (hk2 : ∀ (mem : Um) (x2 : Int32) (x3 : Int32) (z : Um × Unit), k2 mem x2 x3 = some z → ug l E (kr + 9) 0 0 cX8_goesSteps 6 RX8 none [] (uz_v z) 0 0 2 [(0, .ref (ue_d E 38)), (2, .int x2), (3, .int x3)] [] mem) (mem : Um) (x2 : Int32) (x4 : Int32) (z : Um × Unit) (h : f_X8_goesSteps_b89 rec k2 mem x2 x4 = some z) : ug l E (kr + 9) 0 0 cX8_goesSteps 6 RX8 none [] (uz_v z) 0 0 89 [(0, .ref (ue_d E 38)), (2, .int x2), (4, .int x4)] [] mem := by
  rw [f_X8_goesSteps_b89] at h
  refine ug_iload 2 dX8_goesSteps_89 rfl ?_
  refine ug_istore_n [(3, .int x4), (0, .ref (ue_d E 38)), (2, .int x2), (4, .int x4)] dX8_goesSteps_91 rfl (Nat.le_of_ble_eq_true rfl) rfl ?_
  refine ug_goto 2 dX8_goesSteps_92 (by decide) ?_
  refine ug_sub [(0, .ref (ue_d E 38)), (2, .int x2), (3, .int x4)] [1, 2, 0] rfl ?_
  exact hk2 mem x2 x4 _ h
def f_X8_goesSteps_b51 (rec : Um → Int32 → Int32 → Option (Um × Unit)) (k2 : Um → Int32 → Int32 → Option (Um × Unit)) : Nat → Um → Int32 → Int32 → Int32 → Int32 → Option (Um × Unit)
  | 0, _, _, _, _, _ => none
  | n + 1, mem, x2, x3, x4, x5 =>
    ugd (uin (x3 + 1) 200) (if (mem 52 (x3 + 1).toNatClampNeg) ≤ x5 then (f_X8_goesSteps_b89 rec k2 mem x2 x4) else (if 200 ≤ (mem 38 33) then (f_X8_goesSteps_b89 rec k2 mem x2 x4) else (ubi (rec mem (x3 + 4) x4) (fun m4 r5 => (f_X8_goesSteps_b51 rec k2 n) m4 x2 x3 x4 (x5 + 1)))))
set_option maxRecDepth 20000 in
theorem t_X8_goesSteps_b51 {l : Launch} {E : Ue} {rec : Um → Int32 → Int32 → Option (Um × Unit)} (kr : Nat) (hrec : ∀ (mem : Um) (x1 : Int32) (x2 : Int32) (m1 : Um) (r : Unit), rec mem x1 x2 = some (m1, r) → ucr l E kr 0 0 yX8_goesSteps cX8_goesSteps 6 none [.ref (ue_d E 38), .int x1, .int x2] mem none m1) (k2 : Um → Int32 → Int32 → Option (Um × Unit)) (hk2 : ∀ (mem : Um) (x2 : Int32) (x3 : Int32) (z : Um × Unit), k2 mem x2 x3 = some z → ug l E (kr + 9) 0 0 cX8_goesSteps 6 RX8 none [] (uz_v z) 0 0 2 [(0, .ref (ue_d E 38)), (2, .int x2), (3, .int x3)] [] mem) : ∀ (n : Nat) (mem : Um) (x2 : Int32) (x3 : Int32) (x4 : Int32) (x5 : Int32) (z : Um × Unit), f_X8_goesSteps_b51 rec k2 n mem x2 x3 x4 x5 = some z → ug l E (kr + 9) 0 0 cX8_goesSteps 6 RX8 none [] (uz_v z) 0 0 51 [(0, .ref (ue_d E 38)), (2, .int x2), (3, .int x3), (4, .int x4), (5, .int x5)] [] mem := by
  intro n
  induction n with
  | zero =>
    intro mem x2 x3 x4 x5 z h
    rw [f_X8_goesSteps_b51] at h
    cases h
  | succ n ih =>
    intro mem x2 x3 x4 x5 z h
    rw [f_X8_goesSteps_b51] at h
    refine ug_iload 4 dX8_goesSteps_51 rfl ?_
    refine ug_aload_n 0 dX8_goesSteps_53 rfl rfl ?_
    refine ug_getR kf_X8_56 gr_38_29 dX8_goesSteps_54 ?_
    refine ug_iload_n 2 dX8_goesSteps_57 rfl rfl ?_
    refine ug_iconst dX8_goesSteps_58 un_iconst_1 ?_
    refine ug_iadd dX8_goesSteps_59 ?_
    obtain ⟨g1, h⟩ := ugd_some h
    refine ug_iald al_52 (uin_ok g1) dX8_goesSteps_60 ?_
    refine ug_icmp_ge 89 dX8_goesSteps_61 (by decide) (fun q2 => ?_) (fun q2 => ?_)
    · rw [if_pos q2] at h
      refine ug_sub [(0, .ref (ue_d E 38)), (2, .int x2), (4, .int x4)] [0, 1, 3] rfl ?_
      exact t_X8_goesSteps_b89 kr hrec k2 hk2 mem x2 x4 _ h
    · rw [if_neg q2] at h
      refine ug_aload_n 0 dX8_goesSteps_64 rfl rfl ?_
      refine ug_getI kf_X8_305 gi_38_33 dX8_goesSteps_65 ?_
      refine ug_sipush dX8_goesSteps_68 un_sipush_200 ?_
      refine ug_icmp_ge 89 dX8_goesSteps_71 (by decide) (fun q3 => ?_) (fun q3 => ?_)
      · rw [if_pos q3] at h
        refine ug_sub [(0, .ref (ue_d E 38)), (2, .int x2), (4, .int x4)] [0, 1, 3] rfl ?_
        exact t_X8_goesSteps_b89 kr hrec k2 hk2 mem x2 x4 _ h
      · rw [if_neg q3] at h
        refine ug_aload_n 0 dX8_goesSteps_74 rfl rfl ?_
        refine ug_iload_n 2 dX8_goesSteps_75 rfl rfl ?_
        refine ug_iconst dX8_goesSteps_76 un_iconst_4 ?_
        refine ug_iadd dX8_goesSteps_77 ?_
        refine ug_iload 3 dX8_goesSteps_78 rfl ?_
        obtain ⟨m4, r5, h6, h⟩ := ubi_some h
        refine ug_callVv [.int (x3 + 4), .int x4] (hrec mem (x3 + 4) x4 _ _ h6) kc_X8_314 ro_38 rfl (S := []) rfl (Nat.le_of_ble_eq_true rfl) (by omega) (Nat.le_of_ble_eq_true rfl) dX8_goesSteps_80 ?_
        refine ug_iinc (v := (x5 + 1)) [(5, .int (x5 + 1)), (0, .ref (ue_d E 38)), (2, .int x2), (3, .int x3), (4, .int x4)] 4 dX8_goesSteps_83 rfl rfl (Nat.le_of_ble_eq_true rfl) rfl ?_
        refine ug_goto 51 dX8_goesSteps_86 (by decide) ?_
        refine ug_sub [(0, .ref (ue_d E 38)), (2, .int x2), (3, .int x3), (4, .int x4), (5, .int (x5 + 1))] [1, 2, 3, 4, 0] rfl ?_
        exact ih m4 x2 x3 x4 (x5 + 1) _ h
def f_X8_goesSteps_b2 (rec : Um → Int32 → Int32 → Option (Um × Unit)) : Nat → Um → Int32 → Int32 → Option (Um × Unit)
  | 0, _, _, _ => none
  | n + 1, mem, x2, x3 =>
    if x2 ≤ x3 then (f_X8_goesSteps_b161 rec mem) else (if 200 ≤ (mem 38 33) then (f_X8_goesSteps_b161 rec mem) else (ugd (uin x3 200) (if ((um_w mem 38 33 ((mem 38 33) + 1)) 52 x3.toNatClampNeg) = 7 then (ugd (uin (x3 + 2) 200) (f_X8_goesSteps_b51 rec (f_X8_goesSteps_b2 rec n) UF (um_w mem 38 33 ((mem 38 33) + 1)) x2 x3 ((um_w mem 38 33 ((mem 38 33) + 1)) 52 (x3 + 2).toNatClampNeg) 0)) else (ugd (uin x3 200) (ugd (uin (x3 + 1) 200) (ugd (uin (x3 + 2) 200) (ugd (uin (x3 + 3) 200) (ubi (f_X8_isDone (um_w mem 38 33 ((mem 38 33) + 1)) ((um_w mem 38 33 ((mem 38 33) + 1)) 52 x3.toNatClampNeg) ((um_w mem 38 33 ((mem 38 33) + 1)) 52 (x3 + 1).toNatClampNeg) ((um_w mem 38 33 ((mem 38 33) + 1)) 52 (x3 + 2).toNatClampNeg) ((um_w mem 38 33 ((mem 38 33) + 1)) 52 (x3 + 3).toNatClampNeg)) (fun m9 r10 => if r10 = 0 then (f_X8_goesSteps_b155 rec (f_X8_goesSteps_b2 rec n) (um_w m9 38 35 ((m9 38 35) + 1)) x2 x3) else (f_X8_goesSteps_b155 rec (f_X8_goesSteps_b2 rec n) (um_w m9 38 34 ((m9 38 34) + 1)) x2 x3))))))))))
set_option maxRecDepth 20000 in
theorem t_X8_goesSteps_b2 {l : Launch} {E : Ue} {rec : Um → Int32 → Int32 → Option (Um × Unit)} (kr : Nat) (hrec : ∀ (mem : Um) (x1 : Int32) (x2 : Int32) (m1 : Um) (r : Unit), rec mem x1 x2 = some (m1, r) → ucr l E kr 0 0 yX8_goesSteps cX8_goesSteps 6 none [.ref (ue_d E 38), .int x1, .int x2] mem none m1) : ∀ (n : Nat) (mem : Um) (x2 : Int32) (x3 : Int32) (z : Um × Unit), f_X8_goesSteps_b2 rec n mem x2 x3 = some z → ug l E (kr + 9) 0 0 cX8_goesSteps 6 RX8 none [] (uz_v z) 0 0 2 [(0, .ref (ue_d E 38)), (2, .int x2), (3, .int x3)] [] mem := by
  intro n
  induction n with
  | zero =>
    intro mem x2 x3 z h
    rw [f_X8_goesSteps_b2] at h
    cases h
  | succ n ih =>
    intro mem x2 x3 z h
    rw [f_X8_goesSteps_b2] at h
    refine ug_iload_n 2 dX8_goesSteps_2 rfl rfl ?_
    refine ug_iload_n 1 dX8_goesSteps_3 rfl rfl ?_
    refine ug_icmp_ge 161 dX8_goesSteps_4 (by decide) (fun q1 => ?_) (fun q1 => ?_)
    · rw [if_pos q1] at h
      refine ug_sub [] [] rfl ?_
      exact t_X8_goesSteps_b161 kr hrec mem  _ h
    · rw [if_neg q1] at h
      refine ug_aload_n 0 dX8_goesSteps_7 rfl rfl ?_
      refine ug_getI kf_X8_305 gi_38_33 dX8_goesSteps_8 ?_
      refine ug_sipush dX8_goesSteps_11 un_sipush_200 ?_
      refine ug_icmp_ge 161 dX8_goesSteps_14 (by decide) (fun q2 => ?_) (fun q2 => ?_)
      · rw [if_pos q2] at h
        refine ug_sub [] [] rfl ?_
        exact t_X8_goesSteps_b161 kr hrec mem  _ h
      · rw [if_neg q2] at h
        refine ug_aload_n 0 dX8_goesSteps_17 rfl rfl ?_
        refine ug_dup dX8_goesSteps_18 rfl ?_
        refine ug_getI kf_X8_305 gi_38_33 dX8_goesSteps_19 ?_
        refine ug_iconst dX8_goesSteps_22 un_iconst_1 ?_
        refine ug_iadd dX8_goesSteps_23 ?_
        refine ug_putI kp_X8_305 gi_38_33 dX8_goesSteps_24 ?_
        refine ug_aload_n 0 dX8_goesSteps_27 rfl rfl ?_
        refine ug_getR kf_X8_56 gr_38_29 dX8_goesSteps_28 ?_
        refine ug_iload_n 2 dX8_goesSteps_31 rfl rfl ?_
        obtain ⟨g3, h⟩ := ugd_some h
        refine ug_iald al_52 (uin_ok g3) dX8_goesSteps_32 ?_
        refine ug_bipush dX8_goesSteps_33 un_bipush_7 ?_
        refine ug_icmp_ne 95 dX8_goesSteps_35 (by decide) (fun q4 => ?_) (fun q4 => ?_)
        · rw [if_neg q4] at h
          refine ug_aload_n 0 dX8_goesSteps_95 rfl rfl ?_
          refine ug_aload_n 0 dX8_goesSteps_96 rfl rfl ?_
          refine ug_getR kf_X8_56 gr_38_29 dX8_goesSteps_97 ?_
          refine ug_iload_n 2 dX8_goesSteps_100 rfl rfl ?_
          obtain ⟨g5, h⟩ := ugd_some h
          refine ug_iald al_52 (uin_ok g5) dX8_goesSteps_101 ?_
          refine ug_aload_n 0 dX8_goesSteps_102 rfl rfl ?_
          refine ug_getR kf_X8_56 gr_38_29 dX8_goesSteps_103 ?_
          refine ug_iload_n 2 dX8_goesSteps_106 rfl rfl ?_
          refine ug_iconst dX8_goesSteps_107 un_iconst_1 ?_
          refine ug_iadd dX8_goesSteps_108 ?_
          obtain ⟨g6, h⟩ := ugd_some h
          refine ug_iald al_52 (uin_ok g6) dX8_goesSteps_109 ?_
          refine ug_aload_n 0 dX8_goesSteps_110 rfl rfl ?_
          refine ug_getR kf_X8_56 gr_38_29 dX8_goesSteps_111 ?_
          refine ug_iload_n 2 dX8_goesSteps_114 rfl rfl ?_
          refine ug_iconst dX8_goesSteps_115 un_iconst_2 ?_
          refine ug_iadd dX8_goesSteps_116 ?_
          obtain ⟨g7, h⟩ := ugd_some h
          refine ug_iald al_52 (uin_ok g7) dX8_goesSteps_117 ?_
          refine ug_aload_n 0 dX8_goesSteps_118 rfl rfl ?_
          refine ug_getR kf_X8_56 gr_38_29 dX8_goesSteps_119 ?_
          refine ug_iload_n 2 dX8_goesSteps_122 rfl rfl ?_
          refine ug_iconst dX8_goesSteps_123 un_iconst_3 ?_
          refine ug_iadd dX8_goesSteps_124 ?_
          obtain ⟨g8, h⟩ := ugd_some h
          refine ug_iald al_52 (uin_ok g8) dX8_goesSteps_125 ?_
          obtain ⟨m9, r10, h11, h⟩ := ubi_some h
          refine ug_callVi [.int ((um_w mem 38 33 ((mem 38 33) + 1)) 52 x3.toNatClampNeg), .int ((um_w mem 38 33 ((mem 38 33) + 1)) 52 (x3 + 1).toNatClampNeg), .int ((um_w mem 38 33 ((mem 38 33) + 1)) 52 (x3 + 2).toNatClampNeg), .int ((um_w mem 38 33 ((mem 38 33) + 1)) 52 (x3 + 3).toNatClampNeg)] (c_X8_isDone  h11) kc_X8_317 ro_38 rfl (S := []) rfl (Nat.le_of_ble_eq_true rfl) (by omega) (Nat.le_of_ble_eq_true rfl) dX8_goesSteps_126 ?_
          refine ug_if_eq 145 dX8_goesSteps_129 (by decide) (fun q12 => ?_) (fun q12 => ?_)
          · rw [if_pos q12] at h
            refine ug_aload_n 0 dX8_goesSteps_145 rfl rfl ?_
            refine ug_dup dX8_goesSteps_146 rfl ?_
            refine ug_getI kf_X8_311 gi_38_35 dX8_goesSteps_147 ?_
            refine ug_iconst dX8_goesSteps_150 un_iconst_1 ?_
            refine ug_iadd dX8_goesSteps_151 ?_
            refine ug_putI kp_X8_311 gi_38_35 dX8_goesSteps_152 ?_
            exact t_X8_goesSteps_b155 kr hrec (f_X8_goesSteps_b2 rec n) ih (um_w m9 38 35 ((m9 38 35) + 1)) x2 x3 _ h
          · rw [if_neg q12] at h
            refine ug_aload_n 0 dX8_goesSteps_132 rfl rfl ?_
            refine ug_dup dX8_goesSteps_133 rfl ?_
            refine ug_getI kf_X8_308 gi_38_34 dX8_goesSteps_134 ?_
            refine ug_iconst dX8_goesSteps_137 un_iconst_1 ?_
            refine ug_iadd dX8_goesSteps_138 ?_
            refine ug_putI kp_X8_308 gi_38_34 dX8_goesSteps_139 ?_
            refine ug_goto 155 dX8_goesSteps_142 (by decide) ?_
            exact t_X8_goesSteps_b155 kr hrec (f_X8_goesSteps_b2 rec n) ih (um_w m9 38 34 ((m9 38 34) + 1)) x2 x3 _ h
        · rw [if_pos q4] at h
          refine ug_aload_n 0 dX8_goesSteps_38 rfl rfl ?_
          refine ug_getR kf_X8_56 gr_38_29 dX8_goesSteps_39 ?_
          refine ug_iload_n 2 dX8_goesSteps_42 rfl rfl ?_
          refine ug_iconst dX8_goesSteps_43 un_iconst_2 ?_
          refine ug_iadd dX8_goesSteps_44 ?_
          obtain ⟨g13, h⟩ := ugd_some h
          refine ug_iald al_52 (uin_ok g13) dX8_goesSteps_45 ?_
          refine ug_istore [(4, .int ((um_w mem 38 33 ((mem 38 33) + 1)) 52 (x3 + 2).toNatClampNeg)), (0, .ref (ue_d E 38)), (2, .int x2), (3, .int x3)] dX8_goesSteps_46 (Nat.le_of_ble_eq_true rfl) rfl ?_
          refine ug_iconst dX8_goesSteps_48 un_iconst_0 ?_
          refine ug_istore [(5, .int 0), (4, .int ((um_w mem 38 33 ((mem 38 33) + 1)) 52 (x3 + 2).toNatClampNeg)), (0, .ref (ue_d E 38)), (2, .int x2), (3, .int x3)] dX8_goesSteps_49 (Nat.le_of_ble_eq_true rfl) rfl ?_
          refine ug_sub [(0, .ref (ue_d E 38)), (2, .int x2), (3, .int x3), (4, .int ((um_w mem 38 33 ((mem 38 33) + 1)) 52 (x3 + 2).toNatClampNeg)), (5, .int 0)] [2, 3, 4, 1, 0] rfl ?_
          exact t_X8_goesSteps_b51 kr hrec (f_X8_goesSteps_b2 rec n) ih UF (um_w mem 38 33 ((mem 38 33) + 1)) x2 x3 ((um_w mem 38 33 ((mem 38 33) + 1)) 52 (x3 + 2).toNatClampNeg) 0 _ h
def f_X8_goesSteps_e (rec : Um → Int32 → Int32 → Option (Um × Unit)) (mem : Um) (x1 : Int32) (x2 : Int32) : Option (Um × Unit) :=
  f_X8_goesSteps_b2 rec UF mem x2 x1
set_option maxRecDepth 20000 in
theorem t_X8_goesSteps {l : Launch} {E : Ue} {rec : Um → Int32 → Int32 → Option (Um × Unit)} (kr : Nat) (hrec : ∀ (mem : Um) (x1 : Int32) (x2 : Int32) (m1 : Um) (r : Unit), rec mem x1 x2 = some (m1, r) → ucr l E kr 0 0 yX8_goesSteps cX8_goesSteps 6 none [.ref (ue_d E 38), .int x1, .int x2] mem none m1) (mem : Um) (x1 : Int32) (x2 : Int32) (z : Um × Unit) (h : f_X8_goesSteps_e rec mem x1 x2 = some z) : ug l E (kr + 9) 0 0 cX8_goesSteps 6 RX8 none [] (uz_v z) 0 0 0 [(0, .ref (ue_d E 38)), (1, .int x1), (2, .int x2)] [] mem := by
  rw [f_X8_goesSteps_e] at h
  refine ug_iload_n 1 dX8_goesSteps_0 rfl rfl ?_
  refine ug_istore_n [(3, .int x1), (0, .ref (ue_d E 38)), (1, .int x1), (2, .int x2)] dX8_goesSteps_1 rfl (Nat.le_of_ble_eq_true rfl) rfl ?_
  refine ug_sub [(0, .ref (ue_d E 38)), (2, .int x2), (3, .int x1)] [1, 3, 0] rfl ?_
  exact t_X8_goesSteps_b2 kr hrec UF mem x2 x1 _ h
def f_X8_goesSteps : Nat → Um → Int32 → Int32 → Option (Um × Unit)
  | 0, _, _, _ => none
  | d + 1, mem, x1, x2 => f_X8_goesSteps_e (f_X8_goesSteps d) mem x1 x2
theorem c_X8_goesSteps_d {l : Launch} {E : Ue} : ∀ (d : Nat) (mem : Um) (x1 : Int32) (x2 : Int32) (m1 : Um) (r : Unit), f_X8_goesSteps d mem x1 x2 = some (m1, r) → ucr l E (9 * d) 0 0 yX8_goesSteps cX8_goesSteps 6 none [.ref (ue_d E 38), .int x1, .int x2] mem none m1
  | 0, _, _, _, _, _, h => by
    rw [f_X8_goesSteps] at h
    cases h
  | d + 1, mem, x1, x2, m1, r, h => by
    rw [f_X8_goesSteps] at h
    exact ucr_of rfl (Nat.le_of_ble_eq_true rfl) (t_X8_goesSteps (9 * d) (fun mem x1 x2 m1 r q => c_X8_goesSteps_d d mem x1 x2 m1 r q) mem x1 x2 _ h)
theorem c_X8_goesSteps {l : Launch} {E : Ue} (d : Nat) {mem : Um} {x1 : Int32} {x2 : Int32} {m1 : Um} {r : Unit} (h : f_X8_goesSteps d mem x1 x2 = some (m1, r)) : ucr l E (9 * d) 0 0 yX8_goesSteps cX8_goesSteps 6 none [.ref (ue_d E 38), .int x1, .int x2] mem none m1 := c_X8_goesSteps_d d mem x1 x2 m1 r h
