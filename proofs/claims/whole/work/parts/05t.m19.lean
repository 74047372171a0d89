-- X8_stands
def f_X8_stands_b40 (mem : Um) (x1 : Int32) (x2 : Int32) (x3 : Int32) (y0 : Int32) : Option (Um × Int64) :=
  ubi (f_X8_may mem y0 1 1) (fun m1 r2 => if r2 = 0 then (some (m1, 0)) else (ubi (f_X8_numberOf m1 x1 (16 - x2)) (fun m5 r6 => ubi (f_X8_numberOf m5 x1 16) (fun m8 r9 => ubi (f_X8_least m8 r6 r9 x3) (fun m11 r12 => some (m11, r12))))))
set_option maxRecDepth 20000 in
theorem t_X8_stands_b40 {l : Launch} {E : Ue} (mem : Um) (x1 : Int32) (x2 : Int32) (x3 : Int32) (y0 : Int32) (z : Um × Int64) (h : f_X8_stands_b40  mem x1 x2 x3 y0 = some z) : ug l E 3 0 0 cX8_stands 4 RX8 (some .long) [] (uz_l z) 0 0 40 [(0, .ref (ue_d E 38)), (1, .int x1), (2, .int x2), (3, .int x3)] [.int y0, .ref (ue_d E 38)] mem := by
  rw [f_X8_stands_b40] at h
  refine ug_iconst dX8_stands_40 un_iconst_1 ?_
  refine ug_iconst dX8_stands_41 un_iconst_1 ?_
  obtain ⟨m1, r2, h3, h⟩ := ubi_some h
  refine ug_callVi [.int y0, .int 1, .int 1] (c_X8_may  h3) kc_X8_190 ro_38 rfl (S := []) rfl (Nat.le_of_ble_eq_true rfl) (Nat.le_of_ble_eq_true rfl) (Nat.le_of_ble_eq_true rfl) dX8_stands_42 ?_
  refine ug_if_ne 50 dX8_stands_45 (by decide) (fun q4 => ?_) (fun q4 => ?_)
  · rw [if_neg q4] at h
    refine ug_aload_n 0 dX8_stands_50 rfl rfl ?_
    refine ug_iload_n 1 dX8_stands_51 rfl rfl ?_
    refine ug_bipush dX8_stands_52 un_bipush_16 ?_
    refine ug_iload_n 2 dX8_stands_54 rfl rfl ?_
    refine ug_isub dX8_stands_55 ?_
    obtain ⟨m5, r6, h7, h⟩ := ubi_some h
    refine ug_callVl [.int x1, .int (16 - x2)] (c_X8_numberOf  h7) kc_X8_416 ro_38 rfl (S := []) rfl (Nat.le_of_ble_eq_true rfl) (Nat.le_of_ble_eq_true rfl) (Nat.le_of_ble_eq_true rfl) dX8_stands_56 ?_
    refine ug_aload_n 0 dX8_stands_59 rfl rfl ?_
    refine ug_iload_n 1 dX8_stands_60 rfl rfl ?_
    refine ug_bipush dX8_stands_61 un_bipush_16 ?_
    obtain ⟨m8, r9, h10, h⟩ := ubi_some h
    refine ug_callVl [.int x1, .int 16] (c_X8_numberOf  h10) kc_X8_416 ro_38 rfl (S := [.long r6]) rfl (Nat.le_of_ble_eq_true rfl) (Nat.le_of_ble_eq_true rfl) (Nat.le_of_ble_eq_true rfl) dX8_stands_63 ?_
    refine ug_iload_n 3 dX8_stands_66 rfl rfl ?_
    obtain ⟨m11, r12, h13, h⟩ := ubi_some h
    refine ug_callSl [.long r6, .long r9, .int x3] (c_X8_least  h13) kc_X8_401 rfl (S := []) rfl (Nat.le_of_ble_eq_true rfl) (Nat.le_of_ble_eq_true rfl) (Nat.le_of_ble_eq_true rfl) dX8_stands_67 ?_
    obtain rfl := Option.some.inj h
    exact ug_lret dX8_stands_70
  · rw [if_pos q4] at h
    refine ug_lconst (v := 0) dX8_stands_48 (by decide) ?_
    obtain rfl := Option.some.inj h
    exact ug_lret dX8_stands_49
def f_X8_stands_b39 (mem : Um) (x1 : Int32) (x2 : Int32) (x3 : Int32) : Option (Um × Int64) :=
  f_X8_stands_b40 mem x1 x2 x3 0
set_option maxRecDepth 20000 in
theorem t_X8_stands_b39 {l : Launch} {E : Ue} (mem : Um) (x1 : Int32) (x2 : Int32) (x3 : Int32) (z : Um × Int64) (h : f_X8_stands_b39  mem x1 x2 x3 = some z) : ug l E 3 0 0 cX8_stands 4 RX8 (some .long) [] (uz_l z) 0 0 39 [(0, .ref (ue_d E 38)), (1, .int x1), (2, .int x2), (3, .int x3)] [.ref (ue_d E 38)] mem := by
  rw [f_X8_stands_b39] at h
  refine ug_iconst dX8_stands_39 un_iconst_0 ?_
  exact t_X8_stands_b40 mem x1 x2 x3 0 _ h
def f_X8_stands (mem : Um) (x1 : Int32) (x2 : Int32) (x3 : Int32) : Option (Um × Int64) :=
  ubi (f_X8_within (um_w mem 38 0 0) x1 0 12) (fun m1 r2 => if r2 = 0 then (f_X8_stands_b39 m1 x1 x2 x3) else (ubi (f_X8_within m1 x2 0 16) (fun m5 r6 => if r6 = 0 then (f_X8_stands_b39 m5 x1 x2 x3) else (ubi (f_X8_within m5 x3 0 1) (fun m9 r10 => if r10 = 0 then (f_X8_stands_b39 m9 x1 x2 x3) else (f_X8_stands_b40 m9 x1 x2 x3 1))))))
set_option maxRecDepth 20000 in
theorem t_X8_stands {l : Launch} {E : Ue} (mem : Um) (x1 : Int32) (x2 : Int32) (x3 : Int32) (z : Um × Int64) (h : f_X8_stands  mem x1 x2 x3 = some z) : ug l E 3 0 0 cX8_stands 4 RX8 (some .long) [] (uz_l z) 0 0 0 [(0, .ref (ue_d E 38)), (1, .int x1), (2, .int x2), (3, .int x3)] [] mem := by
  rw [f_X8_stands] at h
  refine ug_aload_n 0 dX8_stands_0 rfl rfl ?_
  refine ug_iconst dX8_stands_1 un_iconst_0 ?_
  refine ug_putI kp_X8_3 gi_38_0 dX8_stands_2 ?_
  refine ug_aload_n 0 dX8_stands_5 rfl rfl ?_
  refine ug_iload_n 1 dX8_stands_6 rfl rfl ?_
  refine ug_iconst dX8_stands_7 un_iconst_0 ?_
  refine ug_bipush dX8_stands_8 un_bipush_12 ?_
  obtain ⟨m1, r2, h3, h⟩ := ubi_some h
  refine ug_callSi [.int x1, .int 0, .int 12] (c_X8_within  h3) kc_X8_352 rfl (S := [.ref (ue_d E 38)]) rfl (Nat.le_of_ble_eq_true rfl) (Nat.le_of_ble_eq_true rfl) (Nat.le_of_ble_eq_true rfl) dX8_stands_10 ?_
  refine ug_if_eq 39 dX8_stands_13 (by decide) (fun q4 => ?_) (fun q4 => ?_)
  · rw [if_pos q4] at h
    exact t_X8_stands_b39 m1 x1 x2 x3 _ h
  · rw [if_neg q4] at h
    refine ug_iload_n 2 dX8_stands_16 rfl rfl ?_
    refine ug_iconst dX8_stands_17 un_iconst_0 ?_
    refine ug_bipush dX8_stands_18 un_bipush_16 ?_
    obtain ⟨m5, r6, h7, h⟩ := ubi_some h
    refine ug_callSi [.int x2, .int 0, .int 16] (c_X8_within  h7) kc_X8_352 rfl (S := [.ref (ue_d E 38)]) rfl (Nat.le_of_ble_eq_true rfl) (Nat.le_of_ble_eq_true rfl) (Nat.le_of_ble_eq_true rfl) dX8_stands_20 ?_
    refine ug_if_eq 39 dX8_stands_23 (by decide) (fun q8 => ?_) (fun q8 => ?_)
    · rw [if_pos q8] at h
      exact t_X8_stands_b39 m5 x1 x2 x3 _ h
    · rw [if_neg q8] at h
      refine ug_iload_n 3 dX8_stands_26 rfl rfl ?_
      refine ug_iconst dX8_stands_27 un_iconst_0 ?_
      refine ug_iconst dX8_stands_28 un_iconst_1 ?_
      obtain ⟨m9, r10, h11, h⟩ := ubi_some h
      refine ug_callSi [.int x3, .int 0, .int 1] (c_X8_within  h11) kc_X8_352 rfl (S := [.ref (ue_d E 38)]) rfl (Nat.le_of_ble_eq_true rfl) (Nat.le_of_ble_eq_true rfl) (Nat.le_of_ble_eq_true rfl) dX8_stands_29 ?_
      refine ug_if_eq 39 dX8_stands_32 (by decide) (fun q12 => ?_) (fun q12 => ?_)
      · rw [if_pos q12] at h
        exact t_X8_stands_b39 m9 x1 x2 x3 _ h
      · rw [if_neg q12] at h
        refine ug_iconst dX8_stands_35 un_iconst_1 ?_
        refine ug_goto 40 dX8_stands_36 (by decide) ?_
        exact t_X8_stands_b40 m9 x1 x2 x3 1 _ h
theorem c_X8_stands {l : Launch} {E : Ue} {mem : Um} {x1 : Int32} {x2 : Int32} {x3 : Int32} {m1 : Um} {r : Int64} (h : f_X8_stands  mem x1 x2 x3 = some (m1, r)) : ucr l E 3 0 0 yX8_stands cX8_stands 4 (some .long) [.ref (ue_d E 38), .int x1, .int x2, .int x3] mem (some (.long r)) m1 := ucr_of rfl (Nat.le_of_ble_eq_true rfl) (t_X8_stands  mem x1 x2 x3 _ h)
-- X8_mean
def f_X8_mean_b56 : Nat → Um → Int32 → Int32 → Int32 → Int64 → Int32 → Option (Um × Int64)
  | 0, _, _, _, _, _, _ => none
  | n + 1, mem, x1, x2, x3, x4, x6 =>
    if x1 < x6 then (ubi (f_X8_numberOf mem x1 16) (fun m2 r3 => ubi (f_X8_least m2 x4 r3 x3) (fun m5 r6 => some (m5, r6)))) else (ubi (f_X8_numberOf mem x6 (16 - x2)) (fun m8 r9 => ubi (f_X8_numberOf m8 (x1 - x6) 16) (fun m11 r12 => (f_X8_mean_b56  n) m11 x1 x2 x3 (x4 + (r9 * r12)) (x6 + 1))))
set_option maxRecDepth 20000 in
theorem t_X8_mean_b56 {l : Launch} {E : Ue} : ∀ (n : Nat) (mem : Um) (x1 : Int32) (x2 : Int32) (x3 : Int32) (x4 : Int64) (x6 : Int32) (z : Um × Int64), f_X8_mean_b56  n mem x1 x2 x3 x4 x6 = some z → ug l E 3 0 0 cX8_mean 7 RX8 (some .long) [] (uz_l z) 0 0 56 [(0, .ref (ue_d E 38)), (1, .int x1), (2, .int x2), (3, .int x3), (4, .long x4), (6, .int x6)] [] mem := by
  intro n
  induction n with
  | zero =>
    intro mem x1 x2 x3 x4 x6 z h
    rw [f_X8_mean_b56] at h
    cases h
  | succ n ih =>
    intro mem x1 x2 x3 x4 x6 z h
    rw [f_X8_mean_b56] at h
    refine ug_iload 5 dX8_mean_56 rfl ?_
    refine ug_iload_n 1 dX8_mean_58 rfl rfl ?_
    refine ug_icmp_gt 94 dX8_mean_59 (by decide) (fun q1 => ?_) (fun q1 => ?_)
    · rw [if_pos q1] at h
      refine ug_lload 4 dX8_mean_94 rfl ?_
      refine ug_aload_n 0 dX8_mean_96 rfl rfl ?_
      refine ug_iload_n 1 dX8_mean_97 rfl rfl ?_
      refine ug_bipush dX8_mean_98 un_bipush_16 ?_
      obtain ⟨m2, r3, h4, h⟩ := ubi_some h
      refine ug_callVl [.int x1, .int 16] (c_X8_numberOf  h4) kc_X8_416 ro_38 rfl (S := [.long x4]) rfl (Nat.le_of_ble_eq_true rfl) (Nat.le_of_ble_eq_true rfl) (Nat.le_of_ble_eq_true rfl) dX8_mean_100 ?_
      refine ug_iload_n 3 dX8_mean_103 rfl rfl ?_
      obtain ⟨m5, r6, h7, h⟩ := ubi_some h
      refine ug_callSl [.long x4, .long r3, .int x3] (c_X8_least  h7) kc_X8_401 rfl (S := []) rfl (Nat.le_of_ble_eq_true rfl) (Nat.le_of_ble_eq_true rfl) (Nat.le_of_ble_eq_true rfl) dX8_mean_104 ?_
      obtain rfl := Option.some.inj h
      exact ug_lret dX8_mean_107
    · rw [if_neg q1] at h
      refine ug_lload 4 dX8_mean_62 rfl ?_
      refine ug_aload_n 0 dX8_mean_64 rfl rfl ?_
      refine ug_iload 5 dX8_mean_65 rfl ?_
      refine ug_bipush dX8_mean_67 un_bipush_16 ?_
      refine ug_iload_n 2 dX8_mean_69 rfl rfl ?_
      refine ug_isub dX8_mean_70 ?_
      obtain ⟨m8, r9, h10, h⟩ := ubi_some h
      refine ug_callVl [.int x6, .int (16 - x2)] (c_X8_numberOf  h10) kc_X8_416 ro_38 rfl (S := [.long x4]) rfl (Nat.le_of_ble_eq_true rfl) (Nat.le_of_ble_eq_true rfl) (Nat.le_of_ble_eq_true rfl) dX8_mean_71 ?_
      refine ug_aload_n 0 dX8_mean_74 rfl rfl ?_
      refine ug_iload_n 1 dX8_mean_75 rfl rfl ?_
      refine ug_iload 5 dX8_mean_76 rfl ?_
      refine ug_isub dX8_mean_78 ?_
      refine ug_bipush dX8_mean_79 un_bipush_16 ?_
      obtain ⟨m11, r12, h13, h⟩ := ubi_some h
      refine ug_callVl [.int (x1 - x6), .int 16] (c_X8_numberOf  h13) kc_X8_416 ro_38 rfl (S := [.long r9, .long x4]) rfl (Nat.le_of_ble_eq_true rfl) (Nat.le_of_ble_eq_true rfl) (Nat.le_of_ble_eq_true rfl) dX8_mean_81 ?_
      refine ug_lmul dX8_mean_84 ?_
      refine ug_ladd dX8_mean_85 ?_
      refine ug_lstore [(4, .long (x4 + (r9 * r12))), (0, .ref (ue_d E 38)), (1, .int x1), (2, .int x2), (3, .int x3), (6, .int x6)] dX8_mean_86 (Nat.le_of_ble_eq_true rfl) rfl ?_
      refine ug_iinc (v := (x6 + 1)) [(6, .int (x6 + 1)), (4, .long (x4 + (r9 * r12))), (0, .ref (ue_d E 38)), (1, .int x1), (2, .int x2), (3, .int x3)] 5 dX8_mean_88 rfl rfl (Nat.le_of_ble_eq_true rfl) rfl ?_
      refine ug_goto 56 dX8_mean_91 (by decide) ?_
      refine ug_sub [(0, .ref (ue_d E 38)), (1, .int x1), (2, .int x2), (3, .int x3), (4, .long (x4 + (r9 * r12))), (6, .int (x6 + 1))] [2, 3, 4, 5, 1, 0] rfl ?_
      exact ih m11 x1 x2 x3 (x4 + (r9 * r12)) (x6 + 1) _ h
def f_X8_mean_b40 (mem : Um) (x1 : Int32) (x2 : Int32) (x3 : Int32) (y0 : Int32) : Option (Um × Int64) :=
  ubi (f_X8_may mem y0 1 1) (fun m1 r2 => if r2 = 0 then (some (m1, 0)) else (f_X8_mean_b56  UF m1 x1 x2 x3 0 1))
set_option maxRecDepth 20000 in
theorem t_X8_mean_b40 {l : Launch} {E : Ue} (mem : Um) (x1 : Int32) (x2 : Int32) (x3 : Int32) (y0 : Int32) (z : Um × Int64) (h : f_X8_mean_b40  mem x1 x2 x3 y0 = some z) : ug l E 3 0 0 cX8_mean 7 RX8 (some .long) [] (uz_l z) 0 0 40 [(0, .ref (ue_d E 38)), (1, .int x1), (2, .int x2), (3, .int x3)] [.int y0, .ref (ue_d E 38)] mem := by
  rw [f_X8_mean_b40] at h
  refine ug_iconst dX8_mean_40 un_iconst_1 ?_
  refine ug_iconst dX8_mean_41 un_iconst_1 ?_
  obtain ⟨m1, r2, h3, h⟩ := ubi_some h
  refine ug_callVi [.int y0, .int 1, .int 1] (c_X8_may  h3) kc_X8_190 ro_38 rfl (S := []) rfl (Nat.le_of_ble_eq_true rfl) (Nat.le_of_ble_eq_true rfl) (Nat.le_of_ble_eq_true rfl) dX8_mean_42 ?_
  refine ug_if_ne 50 dX8_mean_45 (by decide) (fun q4 => ?_) (fun q4 => ?_)
  · rw [if_neg q4] at h
    refine ug_lconst (v := 0) dX8_mean_50 (by decide) ?_
    refine ug_lstore [(4, .long 0), (0, .ref (ue_d E 38)), (1, .int x1), (2, .int x2), (3, .int x3)] dX8_mean_51 (Nat.le_of_ble_eq_true rfl) rfl ?_
    refine ug_iconst dX8_mean_53 un_iconst_1 ?_
    refine ug_istore [(6, .int 1), (4, .long 0), (0, .ref (ue_d E 38)), (1, .int x1), (2, .int x2), (3, .int x3)] dX8_mean_54 (Nat.le_of_ble_eq_true rfl) rfl ?_
    refine ug_sub [(0, .ref (ue_d E 38)), (1, .int x1), (2, .int x2), (3, .int x3), (4, .long 0), (6, .int 1)] [2, 3, 4, 5, 1, 0] rfl ?_
    exact t_X8_mean_b56  UF m1 x1 x2 x3 0 1 _ h
  · rw [if_pos q4] at h
    refine ug_lconst (v := 0) dX8_mean_48 (by decide) ?_
    obtain rfl := Option.some.inj h
    exact ug_lret dX8_mean_49
def f_X8_mean_b39 (mem : Um) (x1 : Int32) (x2 : Int32) (x3 : Int32) : Option (Um × Int64) :=
  f_X8_mean_b40 mem x1 x2 x3 0
set_option maxRecDepth 20000 in
theorem t_X8_mean_b39 {l : Launch} {E : Ue} (mem : Um) (x1 : Int32) (x2 : Int32) (x3 : Int32) (z : Um × Int64) (h : f_X8_mean_b39  mem x1 x2 x3 = some z) : ug l E 3 0 0 cX8_mean 7 RX8 (some .long) [] (uz_l z) 0 0 39 [(0, .ref (ue_d E 38)), (1, .int x1), (2, .int x2), (3, .int x3)] [.ref (ue_d E 38)] mem := by
  rw [f_X8_mean_b39] at h
  refine ug_iconst dX8_mean_39 un_iconst_0 ?_
  exact t_X8_mean_b40 mem x1 x2 x3 0 _ h
def f_X8_mean (mem : Um) (x1 : Int32) (x2 : Int32) (x3 : Int32) : Option (Um × Int64) :=
  ubi (f_X8_within (um_w mem 38 0 0) x1 0 12) (fun m1 r2 => if r2 = 0 then (f_X8_mean_b39 m1 x1 x2 x3) else (ubi (f_X8_within m1 x2 0 16) (fun m5 r6 => if r6 = 0 then (f_X8_mean_b39 m5 x1 x2 x3) else (ubi (f_X8_within m5 x3 0 1) (fun m9 r10 => if r10 = 0 then (f_X8_mean_b39 m9 x1 x2 x3) else (f_X8_mean_b40 m9 x1 x2 x3 1))))))
set_option maxRecDepth 20000 in
theorem t_X8_mean {l : Launch} {E : Ue} (mem : Um) (x1 : Int32) (x2 : Int32) (x3 : Int32) (z : Um × Int64) (h : f_X8_mean  mem x1 x2 x3 = some z) : ug l E 3 0 0 cX8_mean 7 RX8 (some .long) [] (uz_l z) 0 0 0 [(0, .ref (ue_d E 38)), (1, .int x1), (2, .int x2), (3, .int x3)] [] mem := by
  rw [f_X8_mean] at h
  refine ug_aload_n 0 dX8_mean_0 rfl rfl ?_
  refine ug_iconst dX8_mean_1 un_iconst_0 ?_
  refine ug_putI kp_X8_3 gi_38_0 dX8_mean_2 ?_
  refine ug_aload_n 0 dX8_mean_5 rfl rfl ?_
  refine ug_iload_n 1 dX8_mean_6 rfl rfl ?_
  refine ug_iconst dX8_mean_7 un_iconst_0 ?_
  refine ug_bipush dX8_mean_8 un_bipush_12 ?_
  obtain ⟨m1, r2, h3, h⟩ := ubi_some h
  refine ug_callSi [.int x1, .int 0, .int 12] (c_X8_within  h3) kc_X8_352 rfl (S := [.ref (ue_d E 38)]) rfl (Nat.le_of_ble_eq_true rfl) (Nat.le_of_ble_eq_true rfl) (Nat.le_of_ble_eq_true rfl) dX8_mean_10 ?_
  refine ug_if_eq 39 dX8_mean_13 (by decide) (fun q4 => ?_) (fun q4 => ?_)
  · rw [if_pos q4] at h
    exact t_X8_mean_b39 m1 x1 x2 x3 _ h
  · rw [if_neg q4] at h
    refine ug_iload_n 2 dX8_mean_16 rfl rfl ?_
    refine ug_iconst dX8_mean_17 un_iconst_0 ?_
    refine ug_bipush dX8_mean_18 un_bipush_16 ?_
    obtain ⟨m5, r6, h7, h⟩ := ubi_some h
    refine ug_callSi [.int x2, .int 0, .int 16] (c_X8_within  h7) kc_X8_352 rfl (S := [.ref (ue_d E 38)]) rfl (Nat.le_of_ble_eq_true rfl) (Nat.le_of_ble_eq_true rfl) (Nat.le_of_ble_eq_true rfl) dX8_mean_20 ?_
    refine ug_if_eq 39 dX8_mean_23 (by decide) (fun q8 => ?_) (fun q8 => ?_)
    · rw [if_pos q8] at h
      exact t_X8_mean_b39 m5 x1 x2 x3 _ h
    · rw [if_neg q8] at h
      refine ug_iload_n 3 dX8_mean_26 rfl rfl ?_
      refine ug_iconst dX8_mean_27 un_iconst_0 ?_
      refine ug_iconst dX8_mean_28 un_iconst_1 ?_
      obtain ⟨m9, r10, h11, h⟩ := ubi_some h
      refine ug_callSi [.int x3, .int 0, .int 1] (c_X8_within  h11) kc_X8_352 rfl (S := [.ref (ue_d E 38)]) rfl (Nat.le_of_ble_eq_true rfl) (Nat.le_of_ble_eq_true rfl) (Nat.le_of_ble_eq_true rfl) dX8_mean_29 ?_
      refine ug_if_eq 39 dX8_mean_32 (by decide) (fun q12 => ?_) (fun q12 => ?_)
      · rw [if_pos q12] at h
        exact t_X8_mean_b39 m9 x1 x2 x3 _ h
      · rw [if_neg q12] at h
        refine ug_iconst dX8_mean_35 un_iconst_1 ?_
        refine ug_goto 40 dX8_mean_36 (by decide) ?_
        exact t_X8_mean_b40 m9 x1 x2 x3 1 _ h
theorem c_X8_mean {l : Launch} {E : Ue} {mem : Um} {x1 : Int32} {x2 : Int32} {x3 : Int32} {m1 : Um} {r : Int64} (h : f_X8_mean  mem x1 x2 x3 = some (m1, r)) : ucr l E 3 0 0 yX8_mean cX8_mean 7 (some .long) [.ref (ue_d E 38), .int x1, .int x2, .int x3] mem (some (.long r)) m1 := ucr_of rfl (Nat.le_of_ble_eq_true rfl) (t_X8_mean  mem x1 x2 x3 _ h)
-- X8_sure
def f_X8_sure_b142 (mem : Um) (y0 : Int32) : Option (Um × Int32) :=
  some (mem, y0)
set_option maxRecDepth 20000 in
theorem t_X8_sure_b142 {l : Launch} {E : Ue} (mem : Um) (y0 : Int32) (z : Um × Int32) (h : f_X8_sure_b142  mem y0 = some z) : ug l E 3 0 0 cX8_sure 3 RX8 (some .int) [] (uz_i z) 0 0 142 [] [.int y0] mem := by
  rw [f_X8_sure_b142] at h
  obtain rfl := Option.some.inj h
  exact ug_iret dX8_sure_142
def f_X8_sure_b141 (mem : Um) : Option (Um × Int32) :=
  f_X8_sure_b142 mem 4
set_option maxRecDepth 20000 in
theorem t_X8_sure_b141 {l : Launch} {E : Ue} (mem : Um) (z : Um × Int32) (h : f_X8_sure_b141  mem  = some z) : ug l E 3 0 0 cX8_sure 3 RX8 (some .int) [] (uz_i z) 0 0 141 [] [] mem := by
  rw [f_X8_sure_b141] at h
  refine ug_iconst dX8_sure_141 un_iconst_4 ?_
  exact t_X8_sure_b142 mem 4 _ h
def f_X8_sure_b88 (k26 : Um → Int32 → Int32 → Option (Um × Int32)) (mem : Um) (x1 : Int32) (x2 : Int32) (y0 : Int32) (y1 : Int32) : Option (Um × Int32) :=
  ugd (uin y1 1000) (ugd (ub01 y0) (k26 (um_w mem 61 y1.toNatClampNeg y0) x1 (x2 + 1)))
set_option maxRecDepth 20000 in
theorem t_X8_sure_b88 {l : Launch} {E : Ue} (k26 : Um → Int32 → Int32 → Option (Um × Int32)) (hk26 : ∀ (mem : Um) (x1 : Int32) (x2 : Int32) (z : Um × Int32), k26 mem x1 x2 = some z → ug l E 3 0 0 cX8_sure 3 RX8 (some .int) [] (uz_i z) 0 0 26 [(0, .ref (ue_d E 38)), (1, .int x1), (2, .int x2)] [] mem) (mem : Um) (x1 : Int32) (x2 : Int32) (y0 : Int32) (y1 : Int32) (z : Um × Int32) (h : f_X8_sure_b88 k26 mem x1 x2 y0 y1 = some z) : ug l E 3 0 0 cX8_sure 3 RX8 (some .int) [] (uz_i z) 0 0 88 [(0, .ref (ue_d E 38)), (1, .int x1), (2, .int x2)] [.int y0, .int y1, .ref (ue_d E 61)] mem := by
  rw [f_X8_sure_b88] at h
  obtain ⟨g1, h⟩ := ugd_some h
  obtain ⟨g2, h⟩ := ugd_some h
  refine ug_zast al_61 (uin_ok g1) (of_decide_eq_true g2) dX8_sure_88 ?_
  refine ug_iinc (v := (x2 + 1)) [(2, .int (x2 + 1)), (0, .ref (ue_d E 38)), (1, .int x1)] 2 dX8_sure_89 rfl rfl (Nat.le_of_ble_eq_true rfl) rfl ?_
  refine ug_goto 26 dX8_sure_92 (by decide) ?_
  refine ug_sub [(0, .ref (ue_d E 38)), (1, .int x1), (2, .int (x2 + 1))] [1, 2, 0] rfl ?_
  exact hk26 (um_w mem 61 y1.toNatClampNeg y0) x1 (x2 + 1) _ h
def f_X8_sure_b87 (k26 : Um → Int32 → Int32 → Option (Um × Int32)) (mem : Um) (x1 : Int32) (x2 : Int32) (y0 : Int32) : Option (Um × Int32) :=
  f_X8_sure_b88 k26 mem x1 x2 0 y0
set_option maxRecDepth 20000 in
theorem t_X8_sure_b87 {l : Launch} {E : Ue} (k26 : Um → Int32 → Int32 → Option (Um × Int32)) (hk26 : ∀ (mem : Um) (x1 : Int32) (x2 : Int32) (z : Um × Int32), k26 mem x1 x2 = some z → ug l E 3 0 0 cX8_sure 3 RX8 (some .int) [] (uz_i z) 0 0 26 [(0, .ref (ue_d E 38)), (1, .int x1), (2, .int x2)] [] mem) (mem : Um) (x1 : Int32) (x2 : Int32) (y0 : Int32) (z : Um × Int32) (h : f_X8_sure_b87 k26 mem x1 x2 y0 = some z) : ug l E 3 0 0 cX8_sure 3 RX8 (some .int) [] (uz_i z) 0 0 87 [(0, .ref (ue_d E 38)), (1, .int x1), (2, .int x2)] [.int y0, .ref (ue_d E 61)] mem := by
  rw [f_X8_sure_b87] at h
  refine ug_iconst dX8_sure_87 un_iconst_0 ?_
  exact t_X8_sure_b88 k26 hk26 mem x1 x2 0 y0 _ h
def f_X8_sure_b83 (k26 : Um → Int32 → Int32 → Option (Um × Int32)) (mem : Um) (x1 : Int32) (x2 : Int32) (y0 : Int32) : Option (Um × Int32) :=
  f_X8_sure_b88 k26 mem x1 x2 1 y0
set_option maxRecDepth 20000 in
theorem t_X8_sure_b83 {l : Launch} {E : Ue} (k26 : Um → Int32 → Int32 → Option (Um × Int32)) (hk26 : ∀ (mem : Um) (x1 : Int32) (x2 : Int32) (z : Um × Int32), k26 mem x1 x2 = some z → ug l E 3 0 0 cX8_sure 3 RX8 (some .int) [] (uz_i z) 0 0 26 [(0, .ref (ue_d E 38)), (1, .int x1), (2, .int x2)] [] mem) (mem : Um) (x1 : Int32) (x2 : Int32) (y0 : Int32) (z : Um × Int32) (h : f_X8_sure_b83 k26 mem x1 x2 y0 = some z) : ug l E 3 0 0 cX8_sure 3 RX8 (some .int) [] (uz_i z) 0 0 83 [(0, .ref (ue_d E 38)), (1, .int x1), (2, .int x2)] [.int y0, .ref (ue_d E 61)] mem := by
  rw [f_X8_sure_b83] at h
  refine ug_iconst dX8_sure_83 un_iconst_1 ?_
  refine ug_goto 88 dX8_sure_84 (by decide) ?_
  exact t_X8_sure_b88 k26 hk26 mem x1 x2 1 y0 _ h
def f_X8_sure_b67 (k26 : Um → Int32 → Int32 → Option (Um × Int32)) (mem : Um) (x1 : Int32) (x2 : Int32) (y0 : Int32) : Option (Um × Int32) :=
  if x2 ≤ 3 then (f_X8_sure_b87 k26 mem x1 x2 y0) else (ugd (uin (x2 - 4) 1000) (if (mem 61 (x2 - 4).toNatClampNeg) = 0 then (f_X8_sure_b83 k26 mem x1 x2 y0) else (f_X8_sure_b87 k26 mem x1 x2 y0)))
set_option maxRecDepth 20000 in
theorem t_X8_sure_b67 {l : Launch} {E : Ue} (k26 : Um → Int32 → Int32 → Option (Um × Int32)) (hk26 : ∀ (mem : Um) (x1 : Int32) (x2 : Int32) (z : Um × Int32), k26 mem x1 x2 = some z → ug l E 3 0 0 cX8_sure 3 RX8 (some .int) [] (uz_i z) 0 0 26 [(0, .ref (ue_d E 38)), (1, .int x1), (2, .int x2)] [] mem) (mem : Um) (x1 : Int32) (x2 : Int32) (y0 : Int32) (z : Um × Int32) (h : f_X8_sure_b67 k26 mem x1 x2 y0 = some z) : ug l E 3 0 0 cX8_sure 3 RX8 (some .int) [] (uz_i z) 0 0 67 [(0, .ref (ue_d E 38)), (1, .int x1), (2, .int x2)] [.int y0, .ref (ue_d E 61)] mem := by
  rw [f_X8_sure_b67] at h
  refine ug_iload_n 2 dX8_sure_67 rfl rfl ?_
  refine ug_iconst dX8_sure_68 un_iconst_3 ?_
  refine ug_icmp_le 87 dX8_sure_69 (by decide) (fun q1 => ?_) (fun q1 => ?_)
  · rw [if_pos q1] at h
    exact t_X8_sure_b87 k26 hk26 mem x1 x2 y0 _ h
  · rw [if_neg q1] at h
    refine ug_aload_n 0 dX8_sure_72 rfl rfl ?_
    refine ug_getR kf_X8_83 gr_38_45 dX8_sure_73 ?_
    refine ug_iload_n 2 dX8_sure_76 rfl rfl ?_
    refine ug_iconst dX8_sure_77 un_iconst_4 ?_
    refine ug_isub dX8_sure_78 ?_
    obtain ⟨g2, h⟩ := ugd_some h
    refine ug_zald al_61 (uin_ok g2) dX8_sure_79 ?_
    refine ug_if_ne 87 dX8_sure_80 (by decide) (fun q3 => ?_) (fun q3 => ?_)
    · rw [if_neg q3] at h
      exact t_X8_sure_b87 k26 hk26 mem x1 x2 y0 _ h
    · rw [if_pos q3] at h
      exact t_X8_sure_b83 k26 hk26 mem x1 x2 y0 _ h
def f_X8_sure_b51 (k26 : Um → Int32 → Int32 → Option (Um × Int32)) (mem : Um) (x1 : Int32) (x2 : Int32) (y0 : Int32) : Option (Um × Int32) :=
  if x2 ≤ 2 then (f_X8_sure_b67 k26 mem x1 x2 y0) else (ugd (uin (x2 - 3) 1000) (if (mem 61 (x2 - 3).toNatClampNeg) = 0 then (f_X8_sure_b83 k26 mem x1 x2 y0) else (f_X8_sure_b67 k26 mem x1 x2 y0)))
set_option maxRecDepth 20000 in
theorem t_X8_sure_b51 {l : Launch} {E : Ue} (k26 : Um → Int32 → Int32 → Option (Um × Int32)) (hk26 : ∀ (mem : Um) (x1 : Int32) (x2 : Int32) (z : Um × Int32), k26 mem x1 x2 = some z → ug l E 3 0 0 cX8_sure 3 RX8 (some .int) [] (uz_i z) 0 0 26 [(0, .ref (ue_d E 38)), (1, .int x1), (2, .int x2)] [] mem) (mem : Um) (x1 : Int32) (x2 : Int32) (y0 : Int32) (z : Um × Int32) (h : f_X8_sure_b51 k26 mem x1 x2 y0 = some z) : ug l E 3 0 0 cX8_sure 3 RX8 (some .int) [] (uz_i z) 0 0 51 [(0, .ref (ue_d E 38)), (1, .int x1), (2, .int x2)] [.int y0, .ref (ue_d E 61)] mem := by
  rw [f_X8_sure_b51] at h
  refine ug_iload_n 2 dX8_sure_51 rfl rfl ?_
  refine ug_iconst dX8_sure_52 un_iconst_2 ?_
  refine ug_icmp_le 67 dX8_sure_53 (by decide) (fun q1 => ?_) (fun q1 => ?_)
  · rw [if_pos q1] at h
    exact t_X8_sure_b67 k26 hk26 mem x1 x2 y0 _ h
  · rw [if_neg q1] at h
    refine ug_aload_n 0 dX8_sure_56 rfl rfl ?_
    refine ug_getR kf_X8_83 gr_38_45 dX8_sure_57 ?_
    refine ug_iload_n 2 dX8_sure_60 rfl rfl ?_
    refine ug_iconst dX8_sure_61 un_iconst_3 ?_
    refine ug_isub dX8_sure_62 ?_
    obtain ⟨g2, h⟩ := ugd_some h
    refine ug_zald al_61 (uin_ok g2) dX8_sure_63 ?_
    refine ug_if_eq 83 dX8_sure_64 (by decide) (fun q3 => ?_) (fun q3 => ?_)
    · rw [if_pos q3] at h
      exact t_X8_sure_b83 k26 hk26 mem x1 x2 y0 _ h
    · rw [if_neg q3] at h
      exact t_X8_sure_b67 k26 hk26 mem x1 x2 y0 _ h
def f_X8_sure_b26 : Nat → Um → Int32 → Int32 → Option (Um × Int32)
  | 0, _, _, _ => none
  | n + 1, mem, x1, x2 =>
    if x1 < x2 then (ugd (uin x1 1000) (if (mem 61 x1.toNatClampNeg) = 0 then (some (mem, (-1))) else (ugd (uin (x1 - 1) 1000) (if (mem 61 (x1 - 1).toNatClampNeg) = 0 then (f_X8_sure_b142 mem 1) else (if x1 ≤ 2 then (f_X8_sure_b141 mem) else (ugd (uin (x1 - 3) 1000) (if (mem 61 (x1 - 3).toNatClampNeg) = 0 then (f_X8_sure_b142 mem 3) else (f_X8_sure_b141 mem)))))))) else (if x2 ≤ 0 then (f_X8_sure_b51 (f_X8_sure_b26  n) mem x1 x2 x2) else (ugd (uin (x2 - 1) 1000) (if (mem 61 (x2 - 1).toNatClampNeg) = 0 then (f_X8_sure_b83 (f_X8_sure_b26  n) mem x1 x2 x2) else (f_X8_sure_b51 (f_X8_sure_b26  n) mem x1 x2 x2))))
set_option maxRecDepth 20000 in
theorem t_X8_sure_b26 {l : Launch} {E : Ue} : ∀ (n : Nat) (mem : Um) (x1 : Int32) (x2 : Int32) (z : Um × Int32), f_X8_sure_b26  n mem x1 x2 = some z → ug l E 3 0 0 cX8_sure 3 RX8 (some .int) [] (uz_i z) 0 0 26 [(0, .ref (ue_d E 38)), (1, .int x1), (2, .int x2)] [] mem := by
  intro n
  induction n with
  | zero =>
    intro mem x1 x2 z h
    rw [f_X8_sure_b26] at h
    cases h
  | succ n ih =>
    intro mem x1 x2 z h
    rw [f_X8_sure_b26] at h
    refine ug_iload_n 2 dX8_sure_26 rfl rfl ?_
    refine ug_iload_n 1 dX8_sure_27 rfl rfl ?_
    refine ug_icmp_gt 95 dX8_sure_28 (by decide) (fun q1 => ?_) (fun q1 => ?_)
    · rw [if_pos q1] at h
      refine ug_aload_n 0 dX8_sure_95 rfl rfl ?_
      refine ug_getR kf_X8_83 gr_38_45 dX8_sure_96 ?_
      refine ug_iload_n 1 dX8_sure_99 rfl rfl ?_
      obtain ⟨g2, h⟩ := ugd_some h
      refine ug_zald al_61 (uin_ok g2) dX8_sure_100 ?_
      refine ug_if_ne 106 dX8_sure_101 (by decide) (fun q3 => ?_) (fun q3 => ?_)
      · rw [if_neg q3] at h
        refine ug_aload_n 0 dX8_sure_106 rfl rfl ?_
        refine ug_getR kf_X8_83 gr_38_45 dX8_sure_107 ?_
        refine ug_iload_n 1 dX8_sure_110 rfl rfl ?_
        refine ug_iconst dX8_sure_111 un_iconst_1 ?_
        refine ug_isub dX8_sure_112 ?_
        obtain ⟨g4, h⟩ := ugd_some h
        refine ug_zald al_61 (uin_ok g4) dX8_sure_113 ?_
        refine ug_if_ne 121 dX8_sure_114 (by decide) (fun q5 => ?_) (fun q5 => ?_)
        · rw [if_neg q5] at h
          refine ug_iload_n 1 dX8_sure_121 rfl rfl ?_
          refine ug_iconst dX8_sure_122 un_iconst_2 ?_
          refine ug_icmp_le 141 dX8_sure_123 (by decide) (fun q6 => ?_) (fun q6 => ?_)
          · rw [if_pos q6] at h
            refine ug_sub [] [] rfl ?_
            exact t_X8_sure_b141 mem  _ h
          · rw [if_neg q6] at h
            refine ug_aload_n 0 dX8_sure_126 rfl rfl ?_
            refine ug_getR kf_X8_83 gr_38_45 dX8_sure_127 ?_
            refine ug_iload_n 1 dX8_sure_130 rfl rfl ?_
            refine ug_iconst dX8_sure_131 un_iconst_3 ?_
            refine ug_isub dX8_sure_132 ?_
            obtain ⟨g7, h⟩ := ugd_some h
            refine ug_zald al_61 (uin_ok g7) dX8_sure_133 ?_
            refine ug_if_ne 141 dX8_sure_134 (by decide) (fun q8 => ?_) (fun q8 => ?_)
            · rw [if_neg q8] at h
              refine ug_sub [] [] rfl ?_
              exact t_X8_sure_b141 mem  _ h
            · rw [if_pos q8] at h
              refine ug_iconst dX8_sure_137 un_iconst_3 ?_
              refine ug_goto 142 dX8_sure_138 (by decide) ?_
              refine ug_sub [] [] rfl ?_
              exact t_X8_sure_b142 mem 3 _ h
        · rw [if_pos q5] at h
          refine ug_iconst dX8_sure_117 un_iconst_1 ?_
          refine ug_goto 142 dX8_sure_118 (by decide) ?_
          refine ug_sub [] [] rfl ?_
          exact t_X8_sure_b142 mem 1 _ h
      · rw [if_pos q3] at h
        refine ug_iconst dX8_sure_104 un_iconst_m1 ?_
        obtain rfl := Option.some.inj h
        exact ug_iret dX8_sure_105
    · rw [if_neg q1] at h
      refine ug_aload_n 0 dX8_sure_31 rfl rfl ?_
      refine ug_getR kf_X8_83 gr_38_45 dX8_sure_32 ?_
      refine ug_iload_n 2 dX8_sure_35 rfl rfl ?_
      refine ug_iload_n 2 dX8_sure_36 rfl rfl ?_
      refine ug_if_le 51 dX8_sure_37 (by decide) (fun q9 => ?_) (fun q9 => ?_)
      · rw [if_pos q9] at h
        exact t_X8_sure_b51 (f_X8_sure_b26  n) ih mem x1 x2 x2 _ h
      · rw [if_neg q9] at h
        refine ug_aload_n 0 dX8_sure_40 rfl rfl ?_
        refine ug_getR kf_X8_83 gr_38_45 dX8_sure_41 ?_
        refine ug_iload_n 2 dX8_sure_44 rfl rfl ?_
        refine ug_iconst dX8_sure_45 un_iconst_1 ?_
        refine ug_isub dX8_sure_46 ?_
        obtain ⟨g10, h⟩ := ugd_some h
        refine ug_zald al_61 (uin_ok g10) dX8_sure_47 ?_
        refine ug_if_eq 83 dX8_sure_48 (by decide) (fun q11 => ?_) (fun q11 => ?_)
        · rw [if_pos q11] at h
          exact t_X8_sure_b83 (f_X8_sure_b26  n) ih mem x1 x2 x2 _ h
        · rw [if_neg q11] at h
          exact t_X8_sure_b51 (f_X8_sure_b26  n) ih mem x1 x2 x2 _ h
def f_X8_sure (mem : Um) (x1 : Int32) : Option (Um × Int32) :=
  ubi (f_X8_within (um_w mem 38 0 0) x1 0 999) (fun m1 r2 => ubi (f_X8_may m1 r2 1 1) (fun m4 r5 => if r5 = 0 then (some (m4, 0)) else (f_X8_sure_b26  UF m4 x1 0)))
set_option maxRecDepth 20000 in
theorem t_X8_sure {l : Launch} {E : Ue} (mem : Um) (x1 : Int32) (z : Um × Int32) (h : f_X8_sure  mem x1 = some z) : ug l E 3 0 0 cX8_sure 3 RX8 (some .int) [] (uz_i z) 0 0 0 [(0, .ref (ue_d E 38)), (1, .int x1)] [] mem := by
  rw [f_X8_sure] at h
  refine ug_aload_n 0 dX8_sure_0 rfl rfl ?_
  refine ug_iconst dX8_sure_1 un_iconst_0 ?_
  refine ug_putI kp_X8_3 gi_38_0 dX8_sure_2 ?_
  refine ug_aload_n 0 dX8_sure_5 rfl rfl ?_
  refine ug_iload_n 1 dX8_sure_6 rfl rfl ?_
  refine ug_iconst dX8_sure_7 un_iconst_0 ?_
  refine ug_sipush dX8_sure_8 un_sipush_999 ?_
  obtain ⟨m1, r2, h3, h⟩ := ubi_some h
  refine ug_callSi [.int x1, .int 0, .int 999] (c_X8_within  h3) kc_X8_352 rfl (S := [.ref (ue_d E 38)]) rfl (Nat.le_of_ble_eq_true rfl) (Nat.le_of_ble_eq_true rfl) (Nat.le_of_ble_eq_true rfl) dX8_sure_11 ?_
  refine ug_iconst dX8_sure_14 un_iconst_1 ?_
  refine ug_iconst dX8_sure_15 un_iconst_1 ?_
  obtain ⟨m4, r5, h6, h⟩ := ubi_some h
  refine ug_callVi [.int r2, .int 1, .int 1] (c_X8_may  h6) kc_X8_190 ro_38 rfl (S := []) rfl (Nat.le_of_ble_eq_true rfl) (Nat.le_of_ble_eq_true rfl) (Nat.le_of_ble_eq_true rfl) dX8_sure_16 ?_
  refine ug_if_ne 24 dX8_sure_19 (by decide) (fun q7 => ?_) (fun q7 => ?_)
  · rw [if_neg q7] at h
    refine ug_iconst dX8_sure_24 un_iconst_0 ?_
    refine ug_istore_n [(2, .int 0), (0, .ref (ue_d E 38)), (1, .int x1)] dX8_sure_25 rfl (Nat.le_of_ble_eq_true rfl) rfl ?_
    refine ug_sub [(0, .ref (ue_d E 38)), (1, .int x1), (2, .int 0)] [1, 2, 0] rfl ?_
    exact t_X8_sure_b26  UF m4 x1 0 _ h
  · rw [if_pos q7] at h
    refine ug_iconst dX8_sure_22 un_iconst_0 ?_
    obtain rfl := Option.some.inj h
    exact ug_iret dX8_sure_23
theorem c_X8_sure {l : Launch} {E : Ue} {mem : Um} {x1 : Int32} {m1 : Um} {r : Int32} (h : f_X8_sure  mem x1 = some (m1, r)) : ucr l E 3 0 0 yX8_sure cX8_sure 3 (some .int) [.ref (ue_d E 38), .int x1] mem (some (.int r)) m1 := ucr_of rfl (Nat.le_of_ble_eq_true rfl) (t_X8_sure  mem x1 _ h)
-- X8_hasBy
def f_X8_hasBy_b32 (mem : Um) (y0 : Int32) : Option (Um × Int32) :=
  some (mem, y0)
set_option maxRecDepth 20000 in
theorem t_X8_hasBy_b32 {l : Launch} {E : Ue} (mem : Um) (y0 : Int32) (z : Um × Int32) (h : f_X8_hasBy_b32  mem y0 = some z) : ug l E 2 0 0 cX8_hasBy 4 RX8 (some .int) [] (uz_i z) 0 0 32 [] [.int y0] mem := by
  rw [f_X8_hasBy_b32] at h
  obtain rfl := Option.some.inj h
  exact ug_iret dX8_hasBy_32
def f_X8_hasBy (mem : Um) (x0 : Int32) (x1 : Int32) (x2 : Int32) (x3 : Int32) : Option (Um × Int32) :=
  if x0 = x1 then (if x0 = 0 then (f_X8_hasBy_b32 mem (x2 - x3)) else (f_X8_hasBy_b32 mem 0)) else (if x0 = 0 then (f_X8_hasBy_b32 mem (x2 - (2 * x3))) else (f_X8_hasBy_b32 mem x2))
set_option maxRecDepth 20000 in
theorem t_X8_hasBy {l : Launch} {E : Ue} (mem : Um) (x0 : Int32) (x1 : Int32) (x2 : Int32) (x3 : Int32) (z : Um × Int32) (h : f_X8_hasBy  mem x0 x1 x2 x3 = some z) : ug l E 2 0 0 cX8_hasBy 4 RX8 (some .int) [] (uz_i z) 0 0 0 [(0, .int x0), (1, .int x1), (2, .int x2), (3, .int x3)] [] mem := by
  rw [f_X8_hasBy] at h
  refine ug_iload_n 0 dX8_hasBy_0 rfl rfl ?_
  refine ug_iload_n 1 dX8_hasBy_1 rfl rfl ?_
  refine ug_icmp_ne 19 dX8_hasBy_2 (by decide) (fun q1 => ?_) (fun q1 => ?_)
  · rw [if_neg q1] at h
    refine ug_iload_n 0 dX8_hasBy_19 rfl rfl ?_
    refine ug_if_ne 31 dX8_hasBy_20 (by decide) (fun q2 => ?_) (fun q2 => ?_)
    · rw [if_neg q2] at h
      refine ug_iload_n 2 dX8_hasBy_31 rfl rfl ?_
      refine ug_sub [] [] rfl ?_
      exact t_X8_hasBy_b32 mem x2 _ h
    · rw [if_pos q2] at h
      refine ug_iload_n 2 dX8_hasBy_23 rfl rfl ?_
      refine ug_iconst dX8_hasBy_24 un_iconst_2 ?_
      refine ug_iload_n 3 dX8_hasBy_25 rfl rfl ?_
      refine ug_imul dX8_hasBy_26 ?_
      refine ug_isub dX8_hasBy_27 ?_
      refine ug_goto 32 dX8_hasBy_28 (by decide) ?_
      refine ug_sub [] [] rfl ?_
      exact t_X8_hasBy_b32 mem (x2 - (2 * x3)) _ h
  · rw [if_pos q1] at h
    refine ug_iload_n 0 dX8_hasBy_5 rfl rfl ?_
    refine ug_if_ne 15 dX8_hasBy_6 (by decide) (fun q3 => ?_) (fun q3 => ?_)
    · rw [if_neg q3] at h
      refine ug_iconst dX8_hasBy_15 un_iconst_0 ?_
      refine ug_goto 32 dX8_hasBy_16 (by decide) ?_
      refine ug_sub [] [] rfl ?_
      exact t_X8_hasBy_b32 mem 0 _ h
    · rw [if_pos q3] at h
      refine ug_iload_n 2 dX8_hasBy_9 rfl rfl ?_
      refine ug_iload_n 3 dX8_hasBy_10 rfl rfl ?_
      refine ug_isub dX8_hasBy_11 ?_
      refine ug_goto 32 dX8_hasBy_12 (by decide) ?_
      refine ug_sub [] [] rfl ?_
      exact t_X8_hasBy_b32 mem (x2 - x3) _ h
theorem c_X8_hasBy {l : Launch} {E : Ue} {mem : Um} {x0 : Int32} {x1 : Int32} {x2 : Int32} {x3 : Int32} {m1 : Um} {r : Int32} (h : f_X8_hasBy  mem x0 x1 x2 x3 = some (m1, r)) : ucr l E 2 0 0 yX8_hasBy cX8_hasBy 4 (some .int) [.int x0, .int x1, .int x2, .int x3] mem (some (.int r)) m1 := ucr_of rfl (Nat.le_of_ble_eq_true rfl) (t_X8_hasBy  mem x0 x1 x2 x3 _ h)
-- X8_pay
def f_X8_pay_b216 (mem : Um) (y0 : Int32) : Option (Um × Int32) :=
  some (mem, y0)
set_option maxRecDepth 20000 in
theorem t_X8_pay_b216 {l : Launch} {E : Ue} (mem : Um) (y0 : Int32) (z : Um × Int32) (h : f_X8_pay_b216  mem y0 = some z) : ug l E 3 0 0 cX8_pay 9 RX8 (some .int) [] (uz_i z) 0 0 216 [] [.int y0] mem := by
  rw [f_X8_pay_b216] at h
  obtain rfl := Option.some.inj h
  exact ug_iret dX8_pay_216
def f_X8_pay_b150 (k59 : Um → Int32 → Int32 → Int32 → Int32 → Int32 → Int32 → Option (Um × Int32)) (mem : Um) (x1 : Int32) (x2 : Int32) (x3 : Int32) (x4 : Int32) (x5 : Int32) (x6 : Int32) : Option (Um × Int32) :=
  k59 mem x1 x2 x3 x4 x5 (x6 + 1)
set_option maxRecDepth 20000 in
theorem t_X8_pay_b150 {l : Launch} {E : Ue} (k59 : Um → Int32 → Int32 → Int32 → Int32 → Int32 → Int32 → Option (Um × Int32)) (hk59 : ∀ (mem : Um) (x1 : Int32) (x2 : Int32) (x3 : Int32) (x4 : Int32) (x5 : Int32) (x6 : Int32) (z : Um × Int32), k59 mem x1 x2 x3 x4 x5 x6 = some z → ug l E 3 0 0 cX8_pay 9 RX8 (some .int) [] (uz_i z) 0 0 59 [(1, .int x1), (2, .int x2), (3, .int x3), (4, .int x4), (5, .int x5), (6, .int x6)] [] mem) (mem : Um) (x1 : Int32) (x2 : Int32) (x3 : Int32) (x4 : Int32) (x5 : Int32) (x6 : Int32) (z : Um × Int32) (h : f_X8_pay_b150 k59 mem x1 x2 x3 x4 x5 x6 = some z) : ug l E 3 0 0 cX8_pay 9 RX8 (some .int) [] (uz_i z) 0 0 150 [(1, .int x1), (2, .int x2), (3, .int x3), (4, .int x4), (5, .int x5), (6, .int x6)] [] mem := by
  rw [f_X8_pay_b150] at h
  refine ug_iinc (v := (x6 + 1)) [(6, .int (x6 + 1)), (1, .int x1), (2, .int x2), (3, .int x3), (4, .int x4), (5, .int x5)] 5 dX8_pay_150 rfl rfl (Nat.le_of_ble_eq_true rfl) rfl ?_
  refine ug_goto 59 dX8_pay_153 (by decide) ?_
  refine ug_sub [(1, .int x1), (2, .int x2), (3, .int x3), (4, .int x4), (5, .int x5), (6, .int (x6 + 1))] [1, 2, 3, 4, 5, 0] rfl ?_
  exact hk59 mem x1 x2 x3 x4 x5 (x6 + 1) _ h
def f_X8_pay_b148 (k59 : Um → Int32 → Int32 → Int32 → Int32 → Int32 → Int32 → Option (Um × Int32)) (mem : Um) (x1 : Int32) (x2 : Int32) (x3 : Int32) (x4 : Int32) (x6 : Int32) (y0 : Int32) : Option (Um × Int32) :=
  f_X8_pay_b150 k59 mem x1 x2 x3 x4 y0 x6
set_option maxRecDepth 20000 in
theorem t_X8_pay_b148 {l : Launch} {E : Ue} (k59 : Um → Int32 → Int32 → Int32 → Int32 → Int32 → Int32 → Option (Um × Int32)) (hk59 : ∀ (mem : Um) (x1 : Int32) (x2 : Int32) (x3 : Int32) (x4 : Int32) (x5 : Int32) (x6 : Int32) (z : Um × Int32), k59 mem x1 x2 x3 x4 x5 x6 = some z → ug l E 3 0 0 cX8_pay 9 RX8 (some .int) [] (uz_i z) 0 0 59 [(1, .int x1), (2, .int x2), (3, .int x3), (4, .int x4), (5, .int x5), (6, .int x6)] [] mem) (mem : Um) (x1 : Int32) (x2 : Int32) (x3 : Int32) (x4 : Int32) (x6 : Int32) (y0 : Int32) (z : Um × Int32) (h : f_X8_pay_b148 k59 mem x1 x2 x3 x4 x6 y0 = some z) : ug l E 3 0 0 cX8_pay 9 RX8 (some .int) [] (uz_i z) 0 0 148 [(1, .int x1), (2, .int x2), (3, .int x3), (4, .int x4), (6, .int x6)] [.int y0] mem := by
  rw [f_X8_pay_b148] at h
  refine ug_istore [(5, .int y0), (1, .int x1), (2, .int x2), (3, .int x3), (4, .int x4), (6, .int x6)] dX8_pay_148 (Nat.le_of_ble_eq_true rfl) rfl ?_
  refine ug_sub [(1, .int x1), (2, .int x2), (3, .int x3), (4, .int x4), (5, .int y0), (6, .int x6)] [1, 2, 3, 4, 0, 5] rfl ?_
  exact t_X8_pay_b150 k59 hk59 mem x1 x2 x3 x4 y0 x6 _ h
def f_X8_pay_b59 : Nat → Um → Int32 → Int32 → Int32 → Int32 → Int32 → Int32 → Option (Um × Int32)
  | 0, _, _, _, _, _, _, _ => none
  | n + 1, mem, x1, x2, x3, x4, x5, x6 =>
    if 4 ≤ x6 then (if x3 = 0 then (f_X8_pay_b216 mem x4) else (if x3 = 1 then (f_X8_pay_b216 mem x5) else (if x5 = (-1) then (f_X8_pay_b216 mem 0) else (ubi (f_X8_hasBy mem (x5 / 10) (x5 % 10) x1 x2) (fun m5 r6 => ubi (f_X8_hasBy m5 (x5 % 10) (x5 / 10) x1 x2) (fun m8 r9 => f_X8_pay_b216 m8 (r6 + r9))))))) else (ubi (f_X8_hasBy mem (1 - (x6 / 2)) (x6 % 2) x1 x2) (fun m11 r12 => ubi (f_X8_hasBy m11 (x6 / 2) (x6 % 2) x1 x2) (fun m14 r15 => if r15 < r12 then (f_X8_pay_b150 (f_X8_pay_b59  n) m14 x1 x2 x3 x4 x5 x6) else (ubi (f_X8_hasBy m14 (1 - (x6 % 2)) (x6 / 2) x1 x2) (fun m18 r19 => ubi (f_X8_hasBy m18 (x6 % 2) (x6 / 2) x1 x2) (fun m21 r22 => if r19 ≤ r22 then (if x5 = (-1) then (f_X8_pay_b148 (f_X8_pay_b59  n) m21 x1 x2 x3 (x4 + 1) x6 ((10 * (x6 / 2)) + (x6 % 2))) else (f_X8_pay_b148 (f_X8_pay_b59  n) m21 x1 x2 x3 (x4 + 1) x6 x5)) else (f_X8_pay_b150 (f_X8_pay_b59  n) m21 x1 x2 x3 x4 x5 x6)))))))
set_option maxRecDepth 20000 in
theorem t_X8_pay_b59 {l : Launch} {E : Ue} : ∀ (n : Nat) (mem : Um) (x1 : Int32) (x2 : Int32) (x3 : Int32) (x4 : Int32) (x5 : Int32) (x6 : Int32) (z : Um × Int32), f_X8_pay_b59  n mem x1 x2 x3 x4 x5 x6 = some z → ug l E 3 0 0 cX8_pay 9 RX8 (some .int) [] (uz_i z) 0 0 59 [(1, .int x1), (2, .int x2), (3, .int x3), (4, .int x4), (5, .int x5), (6, .int x6)] [] mem := by
  intro n
  induction n with
  | zero =>
    intro mem x1 x2 x3 x4 x5 x6 z h
    rw [f_X8_pay_b59] at h
    cases h
  | succ n ih =>
    intro mem x1 x2 x3 x4 x5 x6 z h
    rw [f_X8_pay_b59] at h
    refine ug_iload 5 dX8_pay_59 rfl ?_
    refine ug_iconst dX8_pay_61 un_iconst_4 ?_
    refine ug_icmp_ge 156 dX8_pay_62 (by decide) (fun q1 => ?_) (fun q1 => ?_)
    · rw [if_pos q1] at h
      refine ug_iload_n 2 dX8_pay_156 rfl rfl ?_
      refine ug_if_ne 165 dX8_pay_157 (by decide) (fun q2 => ?_) (fun q2 => ?_)
      · rw [if_neg q2] at h
        refine ug_iload_n 2 dX8_pay_165 rfl rfl ?_
        refine ug_iconst dX8_pay_166 un_iconst_1 ?_
        refine ug_icmp_ne 175 dX8_pay_167 (by decide) (fun q3 => ?_) (fun q3 => ?_)
        · rw [if_neg q3] at h
          refine ug_iload 4 dX8_pay_175 rfl ?_
          refine ug_iconst dX8_pay_177 un_iconst_m1 ?_
          refine ug_icmp_ne 185 dX8_pay_178 (by decide) (fun q4 => ?_) (fun q4 => ?_)
          · rw [if_neg q4] at h
            refine ug_iload 4 dX8_pay_185 rfl ?_
            refine ug_bipush dX8_pay_187 un_bipush_10 ?_
            refine ug_idiv dX8_pay_189 (by decide) ?_
            refine ug_iload 4 dX8_pay_190 rfl ?_
            refine ug_bipush dX8_pay_192 un_bipush_10 ?_
            refine ug_irem dX8_pay_194 (by decide) ?_
            refine ug_iload_n 0 dX8_pay_195 rfl rfl ?_
            refine ug_iload_n 1 dX8_pay_196 rfl rfl ?_
            obtain ⟨m5, r6, h7, h⟩ := ubi_some h
            refine ug_callSi [.int (x5 / 10), .int (x5 % 10), .int x1, .int x2] (c_X8_hasBy  h7) kc_X8_420 rfl (S := []) rfl (Nat.le_of_ble_eq_true rfl) (Nat.le_of_ble_eq_true rfl) (Nat.le_of_ble_eq_true rfl) dX8_pay_197 ?_
            refine ug_iload 4 dX8_pay_200 rfl ?_
            refine ug_bipush dX8_pay_202 un_bipush_10 ?_
            refine ug_irem dX8_pay_204 (by decide) ?_
            refine ug_iload 4 dX8_pay_205 rfl ?_
            refine ug_bipush dX8_pay_207 un_bipush_10 ?_
            refine ug_idiv dX8_pay_209 (by decide) ?_
            refine ug_iload_n 0 dX8_pay_210 rfl rfl ?_
            refine ug_iload_n 1 dX8_pay_211 rfl rfl ?_
            obtain ⟨m8, r9, h10, h⟩ := ubi_some h
            refine ug_callSi [.int (x5 % 10), .int (x5 / 10), .int x1, .int x2] (c_X8_hasBy  h10) kc_X8_420 rfl (S := [.int r6]) rfl (Nat.le_of_ble_eq_true rfl) (Nat.le_of_ble_eq_true rfl) (Nat.le_of_ble_eq_true rfl) dX8_pay_212 ?_
            refine ug_iadd dX8_pay_215 ?_
            refine ug_sub [] [] rfl ?_
            exact t_X8_pay_b216 m8 (r6 + r9) _ h
          · rw [if_pos q4] at h
            refine ug_iconst dX8_pay_181 un_iconst_0 ?_
            refine ug_goto 216 dX8_pay_182 (by decide) ?_
            refine ug_sub [] [] rfl ?_
            exact t_X8_pay_b216 mem 0 _ h
        · rw [if_pos q3] at h
          refine ug_iload 4 dX8_pay_170 rfl ?_
          refine ug_goto 216 dX8_pay_172 (by decide) ?_
          refine ug_sub [] [] rfl ?_
          exact t_X8_pay_b216 mem x5 _ h
      · rw [if_pos q2] at h
        refine ug_iload 3 dX8_pay_160 rfl ?_
        refine ug_goto 216 dX8_pay_162 (by decide) ?_
        refine ug_sub [] [] rfl ?_
        exact t_X8_pay_b216 mem x4 _ h
    · rw [if_neg q1] at h
      refine ug_iload 5 dX8_pay_65 rfl ?_
      refine ug_iconst dX8_pay_67 un_iconst_2 ?_
      refine ug_idiv dX8_pay_68 (by decide) ?_
      refine ug_istore [(7, .int (x6 / 2)), (1, .int x1), (2, .int x2), (3, .int x3), (4, .int x4), (5, .int x5), (6, .int x6)] dX8_pay_69 (Nat.le_of_ble_eq_true rfl) rfl ?_
      refine ug_iload 6 dX8_pay_71 rfl ?_
      refine ug_iconst dX8_pay_73 un_iconst_2 ?_
      refine ug_irem dX8_pay_74 (by decide) ?_
      refine ug_istore [(8, .int (x6 % 2)), (7, .int (x6 / 2)), (1, .int x1), (2, .int x2), (3, .int x3), (4, .int x4), (5, .int x5), (6, .int x6)] dX8_pay_75 (Nat.le_of_ble_eq_true rfl) rfl ?_
      refine ug_iconst dX8_pay_77 un_iconst_1 ?_
      refine ug_iload 1 dX8_pay_78 rfl ?_
      refine ug_isub dX8_pay_80 ?_
      refine ug_iload 0 dX8_pay_81 rfl ?_
      refine ug_iload_n 2 dX8_pay_83 rfl rfl ?_
      refine ug_iload_n 3 dX8_pay_84 rfl rfl ?_
      obtain ⟨m11, r12, h13, h⟩ := ubi_some h
      refine ug_callSi [.int (1 - (x6 / 2)), .int (x6 % 2), .int x1, .int x2] (c_X8_hasBy  h13) kc_X8_420 rfl (S := []) rfl (Nat.le_of_ble_eq_true rfl) (Nat.le_of_ble_eq_true rfl) (Nat.le_of_ble_eq_true rfl) dX8_pay_85 ?_
      refine ug_iload 1 dX8_pay_88 rfl ?_
      refine ug_iload 0 dX8_pay_90 rfl ?_
      refine ug_iload_n 2 dX8_pay_92 rfl rfl ?_
      refine ug_iload_n 3 dX8_pay_93 rfl rfl ?_
      obtain ⟨m14, r15, h16, h⟩ := ubi_some h
      refine ug_callSi [.int (x6 / 2), .int (x6 % 2), .int x1, .int x2] (c_X8_hasBy  h16) kc_X8_420 rfl (S := [.int r12]) rfl (Nat.le_of_ble_eq_true rfl) (Nat.le_of_ble_eq_true rfl) (Nat.le_of_ble_eq_true rfl) dX8_pay_94 ?_
      refine ug_icmp_gt 150 dX8_pay_97 (by decide) (fun q17 => ?_) (fun q17 => ?_)
      · rw [if_pos q17] at h
        refine ug_sub [(1, .int x1), (2, .int x2), (3, .int x3), (4, .int x4), (5, .int x5), (6, .int x6)] [2, 3, 4, 5, 6, 7] rfl ?_
        exact t_X8_pay_b150 (f_X8_pay_b59  n) ih m14 x1 x2 x3 x4 x5 x6 _ h
      · rw [if_neg q17] at h
        refine ug_iconst dX8_pay_100 un_iconst_1 ?_
        refine ug_iload 0 dX8_pay_101 rfl ?_
        refine ug_isub dX8_pay_103 ?_
        refine ug_iload 1 dX8_pay_104 rfl ?_
        refine ug_iload_n 2 dX8_pay_106 rfl rfl ?_
        refine ug_iload_n 3 dX8_pay_107 rfl rfl ?_
        obtain ⟨m18, r19, h20, h⟩ := ubi_some h
        refine ug_callSi [.int (1 - (x6 % 2)), .int (x6 / 2), .int x1, .int x2] (c_X8_hasBy  h20) kc_X8_420 rfl (S := []) rfl (Nat.le_of_ble_eq_true rfl) (Nat.le_of_ble_eq_true rfl) (Nat.le_of_ble_eq_true rfl) dX8_pay_108 ?_
        refine ug_iload 0 dX8_pay_111 rfl ?_
        refine ug_iload 1 dX8_pay_113 rfl ?_
        refine ug_iload_n 2 dX8_pay_115 rfl rfl ?_
        refine ug_iload_n 3 dX8_pay_116 rfl rfl ?_
        obtain ⟨m21, r22, h23, h⟩ := ubi_some h
        refine ug_callSi [.int (x6 % 2), .int (x6 / 2), .int x1, .int x2] (c_X8_hasBy  h23) kc_X8_420 rfl (S := [.int r19]) rfl (Nat.le_of_ble_eq_true rfl) (Nat.le_of_ble_eq_true rfl) (Nat.le_of_ble_eq_true rfl) dX8_pay_117 ?_
        refine ug_icmp_le 126 dX8_pay_120 (by decide) (fun q24 => ?_) (fun q24 => ?_)
        · rw [if_pos q24] at h
          refine ug_iinc (v := (x4 + 1)) [(4, .int (x4 + 1)), (8, .int (x6 % 2)), (7, .int (x6 / 2)), (1, .int x1), (2, .int x2), (3, .int x3), (5, .int x5), (6, .int x6)] 5 dX8_pay_126 rfl rfl (Nat.le_of_ble_eq_true rfl) rfl ?_
          refine ug_iload 6 dX8_pay_129 rfl ?_
          refine ug_iconst dX8_pay_131 un_iconst_m1 ?_
          refine ug_icmp_ne 146 dX8_pay_132 (by decide) (fun q25 => ?_) (fun q25 => ?_)
          · rw [if_neg q25] at h
            refine ug_iload 6 dX8_pay_146 rfl ?_
            refine ug_sub [(1, .int x1), (2, .int x2), (3, .int x3), (4, .int (x4 + 1)), (6, .int x6)] [3, 4, 5, 0, 7] rfl ?_
            exact t_X8_pay_b148 (f_X8_pay_b59  n) ih m21 x1 x2 x3 (x4 + 1) x6 x5 _ h
          · rw [if_pos q25] at h
            refine ug_bipush dX8_pay_135 un_bipush_10 ?_
            refine ug_iload 2 dX8_pay_137 rfl ?_
            refine ug_imul dX8_pay_139 ?_
            refine ug_iload 1 dX8_pay_140 rfl ?_
            refine ug_iadd dX8_pay_142 ?_
            refine ug_goto 148 dX8_pay_143 (by decide) ?_
            refine ug_sub [(1, .int x1), (2, .int x2), (3, .int x3), (4, .int (x4 + 1)), (6, .int x6)] [3, 4, 5, 0, 7] rfl ?_
            exact t_X8_pay_b148 (f_X8_pay_b59  n) ih m21 x1 x2 x3 (x4 + 1) x6 ((10 * (x6 / 2)) + (x6 % 2)) _ h
        · rw [if_neg q24] at h
          refine ug_goto 150 dX8_pay_123 (by decide) ?_
          refine ug_sub [(1, .int x1), (2, .int x2), (3, .int x3), (4, .int x4), (5, .int x5), (6, .int x6)] [2, 3, 4, 5, 6, 7] rfl ?_
          exact t_X8_pay_b150 (f_X8_pay_b59  n) ih m21 x1 x2 x3 x4 x5 x6 _ h
def f_X8_pay_b40 (mem : Um) (x1 : Int32) (x2 : Int32) (x3 : Int32) (y0 : Int32) : Option (Um × Int32) :=
  ubi (f_X8_may mem y0 1 1) (fun m1 r2 => if r2 = 0 then (some (m1, 0)) else (f_X8_pay_b59  UF m1 x1 x2 x3 0 (-1) 0))
set_option maxRecDepth 20000 in
theorem t_X8_pay_b40 {l : Launch} {E : Ue} (mem : Um) (x1 : Int32) (x2 : Int32) (x3 : Int32) (y0 : Int32) (z : Um × Int32) (h : f_X8_pay_b40  mem x1 x2 x3 y0 = some z) : ug l E 3 0 0 cX8_pay 9 RX8 (some .int) [] (uz_i z) 0 0 40 [(1, .int x1), (2, .int x2), (3, .int x3)] [.int y0, .ref (ue_d E 38)] mem := by
  rw [f_X8_pay_b40] at h
  refine ug_iconst dX8_pay_40 un_iconst_1 ?_
  refine ug_iconst dX8_pay_41 un_iconst_1 ?_
  obtain ⟨m1, r2, h3, h⟩ := ubi_some h
  refine ug_callVi [.int y0, .int 1, .int 1] (c_X8_may  h3) kc_X8_190 ro_38 rfl (S := []) rfl (Nat.le_of_ble_eq_true rfl) (Nat.le_of_ble_eq_true rfl) (Nat.le_of_ble_eq_true rfl) dX8_pay_42 ?_
  refine ug_if_ne 50 dX8_pay_45 (by decide) (fun q4 => ?_) (fun q4 => ?_)
  · rw [if_neg q4] at h
    refine ug_iconst dX8_pay_50 un_iconst_0 ?_
    refine ug_istore [(4, .int 0), (1, .int x1), (2, .int x2), (3, .int x3)] dX8_pay_51 (Nat.le_of_ble_eq_true rfl) rfl ?_
    refine ug_iconst dX8_pay_53 un_iconst_m1 ?_
    refine ug_istore [(5, .int (-1)), (4, .int 0), (1, .int x1), (2, .int x2), (3, .int x3)] dX8_pay_54 (Nat.le_of_ble_eq_true rfl) rfl ?_
    refine ug_iconst dX8_pay_56 un_iconst_0 ?_
    refine ug_istore [(6, .int 0), (5, .int (-1)), (4, .int 0), (1, .int x1), (2, .int x2), (3, .int x3)] dX8_pay_57 (Nat.le_of_ble_eq_true rfl) rfl ?_
    refine ug_sub [(1, .int x1), (2, .int x2), (3, .int x3), (4, .int 0), (5, .int (-1)), (6, .int 0)] [3, 4, 5, 2, 1, 0] rfl ?_
    exact t_X8_pay_b59  UF m1 x1 x2 x3 0 (-1) 0 _ h
  · rw [if_pos q4] at h
    refine ug_iconst dX8_pay_48 un_iconst_0 ?_
    obtain rfl := Option.some.inj h
    exact ug_iret dX8_pay_49
def f_X8_pay_b39 (mem : Um) (x1 : Int32) (x2 : Int32) (x3 : Int32) : Option (Um × Int32) :=
  f_X8_pay_b40 mem x1 x2 x3 0
set_option maxRecDepth 20000 in
theorem t_X8_pay_b39 {l : Launch} {E : Ue} (mem : Um) (x1 : Int32) (x2 : Int32) (x3 : Int32) (z : Um × Int32) (h : f_X8_pay_b39  mem x1 x2 x3 = some z) : ug l E 3 0 0 cX8_pay 9 RX8 (some .int) [] (uz_i z) 0 0 39 [(1, .int x1), (2, .int x2), (3, .int x3)] [.ref (ue_d E 38)] mem := by
  rw [f_X8_pay_b39] at h
  refine ug_iconst dX8_pay_39 un_iconst_0 ?_
  exact t_X8_pay_b40 mem x1 x2 x3 0 _ h
def f_X8_pay (mem : Um) (x1 : Int32) (x2 : Int32) (x3 : Int32) : Option (Um × Int32) :=
  ubi (f_X8_within (um_w mem 38 0 0) x1 0 99) (fun m1 r2 => if r2 = 0 then (f_X8_pay_b39 m1 x1 x2 x3) else (ubi (f_X8_within m1 x2 0 99) (fun m5 r6 => if r6 = 0 then (f_X8_pay_b39 m5 x1 x2 x3) else (ubi (f_X8_within m5 x3 0 2) (fun m9 r10 => if r10 = 0 then (f_X8_pay_b39 m9 x1 x2 x3) else (f_X8_pay_b40 m9 x1 x2 x3 1))))))
set_option maxRecDepth 20000 in
theorem t_X8_pay {l : Launch} {E : Ue} (mem : Um) (x1 : Int32) (x2 : Int32) (x3 : Int32) (z : Um × Int32) (h : f_X8_pay  mem x1 x2 x3 = some z) : ug l E 3 0 0 cX8_pay 9 RX8 (some .int) [] (uz_i z) 0 0 0 [(0, .ref (ue_d E 38)), (1, .int x1), (2, .int x2), (3, .int x3)] [] mem := by
  rw [f_X8_pay] at h
  refine ug_aload_n 0 dX8_pay_0 rfl rfl ?_
  refine ug_iconst dX8_pay_1 un_iconst_0 ?_
  refine ug_putI kp_X8_3 gi_38_0 dX8_pay_2 ?_
  refine ug_aload_n 0 dX8_pay_5 rfl rfl ?_
  refine ug_iload_n 1 dX8_pay_6 rfl rfl ?_
  refine ug_iconst dX8_pay_7 un_iconst_0 ?_
  refine ug_bipush dX8_pay_8 un_bipush_99 ?_
  obtain ⟨m1, r2, h3, h⟩ := ubi_some h
  refine ug_callSi [.int x1, .int 0, .int 99] (c_X8_within  h3) kc_X8_352 rfl (S := [.ref (ue_d E 38)]) rfl (Nat.le_of_ble_eq_true rfl) (Nat.le_of_ble_eq_true rfl) (Nat.le_of_ble_eq_true rfl) dX8_pay_10 ?_
  refine ug_if_eq 39 dX8_pay_13 (by decide) (fun q4 => ?_) (fun q4 => ?_)
  · rw [if_pos q4] at h
    refine ug_sub [(1, .int x1), (2, .int x2), (3, .int x3)] [1, 2, 3] rfl ?_
    exact t_X8_pay_b39 m1 x1 x2 x3 _ h
  · rw [if_neg q4] at h
    refine ug_iload_n 2 dX8_pay_16 rfl rfl ?_
    refine ug_iconst dX8_pay_17 un_iconst_0 ?_
    refine ug_bipush dX8_pay_18 un_bipush_99 ?_
    obtain ⟨m5, r6, h7, h⟩ := ubi_some h
    refine ug_callSi [.int x2, .int 0, .int 99] (c_X8_within  h7) kc_X8_352 rfl (S := [.ref (ue_d E 38)]) rfl (Nat.le_of_ble_eq_true rfl) (Nat.le_of_ble_eq_true rfl) (Nat.le_of_ble_eq_true rfl) dX8_pay_20 ?_
    refine ug_if_eq 39 dX8_pay_23 (by decide) (fun q8 => ?_) (fun q8 => ?_)
    · rw [if_pos q8] at h
      refine ug_sub [(1, .int x1), (2, .int x2), (3, .int x3)] [1, 2, 3] rfl ?_
      exact t_X8_pay_b39 m5 x1 x2 x3 _ h
    · rw [if_neg q8] at h
      refine ug_iload_n 3 dX8_pay_26 rfl rfl ?_
      refine ug_iconst dX8_pay_27 un_iconst_0 ?_
      refine ug_iconst dX8_pay_28 un_iconst_2 ?_
      obtain ⟨m9, r10, h11, h⟩ := ubi_some h
      refine ug_callSi [.int x3, .int 0, .int 2] (c_X8_within  h11) kc_X8_352 rfl (S := [.ref (ue_d E 38)]) rfl (Nat.le_of_ble_eq_true rfl) (Nat.le_of_ble_eq_true rfl) (Nat.le_of_ble_eq_true rfl) dX8_pay_29 ?_
      refine ug_if_eq 39 dX8_pay_32 (by decide) (fun q12 => ?_) (fun q12 => ?_)
      · rw [if_pos q12] at h
        refine ug_sub [(1, .int x1), (2, .int x2), (3, .int x3)] [1, 2, 3] rfl ?_
        exact t_X8_pay_b39 m9 x1 x2 x3 _ h
      · rw [if_neg q12] at h
        refine ug_iconst dX8_pay_35 un_iconst_1 ?_
        refine ug_goto 40 dX8_pay_36 (by decide) ?_
        refine ug_sub [(1, .int x1), (2, .int x2), (3, .int x3)] [1, 2, 3] rfl ?_
        exact t_X8_pay_b40 m9 x1 x2 x3 1 _ h
theorem c_X8_pay {l : Launch} {E : Ue} {mem : Um} {x1 : Int32} {x2 : Int32} {x3 : Int32} {m1 : Um} {r : Int32} (h : f_X8_pay  mem x1 x2 x3 = some (m1, r)) : ucr l E 3 0 0 yX8_pay cX8_pay 9 (some .int) [.ref (ue_d E 38), .int x1, .int x2, .int x3] mem (some (.int r)) m1 := ucr_of rfl (Nat.le_of_ble_eq_true rfl) (t_X8_pay  mem x1 x2 x3 _ h)
-- X8_bounded
def f_X8_bounded_b20 (mem : Um) (y0 : Int32) : Option (Um × Int32) :=
  some (mem, y0)
set_option maxRecDepth 20000 in
theorem t_X8_bounded_b20 {l : Launch} {E : Ue} (mem : Um) (y0 : Int32) (z : Um × Int32) (h : f_X8_bounded_b20  mem y0 = some z) : ug l E 6 0 0 cX8_bounded 4 RX8 (some .int) [] (uz_i z) 0 0 20 [] [.int y0] mem := by
  rw [f_X8_bounded_b20] at h
  obtain rfl := Option.some.inj h
  exact ug_iret dX8_bounded_20
def f_X8_bounded (mem : Um) (x1 : Int32) (x2 : Int32) : Option (Um × Int32) :=
  ubi (f_X8_ownedBy mem x1) (fun m1 r2 => ubi (f_X8_worthOf m1 r2) (fun m4 r5 => if x2 ≤ r5 then (f_X8_bounded_b20 m4 x2) else (f_X8_bounded_b20 m4 r5)))
set_option maxRecDepth 20000 in
theorem t_X8_bounded {l : Launch} {E : Ue} (mem : Um) (x1 : Int32) (x2 : Int32) (z : Um × Int32) (h : f_X8_bounded  mem x1 x2 = some z) : ug l E 6 0 0 cX8_bounded 4 RX8 (some .int) [] (uz_i z) 0 0 0 [(0, .ref (ue_d E 38)), (1, .int x1), (2, .int x2)] [] mem := by
  rw [f_X8_bounded] at h
  refine ug_aload_n 0 dX8_bounded_0 rfl rfl ?_
  refine ug_aload_n 0 dX8_bounded_1 rfl rfl ?_
  refine ug_iload_n 1 dX8_bounded_2 rfl rfl ?_
  obtain ⟨m1, r2, h3, h⟩ := ubi_some h
  refine ug_callVi [.int x1] (c_X8_ownedBy  h3) kc_X8_342 ro_38 rfl (S := [.ref (ue_d E 38)]) rfl (Nat.le_of_ble_eq_true rfl) (Nat.le_of_ble_eq_true rfl) (Nat.le_of_ble_eq_true rfl) dX8_bounded_3 ?_
  obtain ⟨m4, r5, h6, h⟩ := ubi_some h
  refine ug_callVi [.int r2] (c_X8_worthOf  h6) kc_X8_345 ro_38 rfl (S := []) rfl (Nat.le_of_ble_eq_true rfl) (Nat.le_of_ble_eq_true rfl) (Nat.le_of_ble_eq_true rfl) dX8_bounded_6 ?_
  refine ug_istore_n [(3, .int r5), (0, .ref (ue_d E 38)), (1, .int x1), (2, .int x2)] dX8_bounded_9 rfl (Nat.le_of_ble_eq_true rfl) rfl ?_
  refine ug_iload_n 0 dX8_bounded_10 rfl rfl ?_
  refine ug_iload_n 3 dX8_bounded_11 rfl rfl ?_
  refine ug_icmp_ge 19 dX8_bounded_12 (by decide) (fun q7 => ?_) (fun q7 => ?_)
  · rw [if_pos q7] at h
    refine ug_iload_n 3 dX8_bounded_19 rfl rfl ?_
    refine ug_sub [] [] rfl ?_
    exact t_X8_bounded_b20 m4 x2 _ h
  · rw [if_neg q7] at h
    refine ug_iload_n 0 dX8_bounded_15 rfl rfl ?_
    refine ug_goto 20 dX8_bounded_16 (by decide) ?_
    refine ug_sub [] [] rfl ?_
    exact t_X8_bounded_b20 m4 r5 _ h
theorem c_X8_bounded {l : Launch} {E : Ue} {mem : Um} {x1 : Int32} {x2 : Int32} {m1 : Um} {r : Int32} (h : f_X8_bounded  mem x1 x2 = some (m1, r)) : ucr l E 6 0 0 yX8_bounded cX8_bounded 4 (some .int) [.ref (ue_d E 38), .int x1, .int x2] mem (some (.int r)) m1 := ucr_of rfl (Nat.le_of_ble_eq_true rfl) (t_X8_bounded  mem x1 x2 _ h)
-- X8_sunBy
def f_X8_sunBy_b5 : Nat → Um → Int32 → Int32 → Int32 → Int32 → Option (Um × Int32)
  | 0, _, _, _, _, _ => none
  | n + 1, mem, x1, x2, x3, x4 =>
    if (mem 38 18) ≤ x4 then (some (mem, x3)) else (ubi (f_X8_bounded mem x4 x2) (fun m2 r3 => (f_X8_sunBy_b5  n) m2 x1 x2 (x3 + (((x1 >>> (x4 &&& 31)) &&& 1) * r3)) (x4 + 1)))
set_option maxRecDepth 20000 in
theorem t_X8_sunBy_b5 {l : Launch} {E : Ue} : ∀ (n : Nat) (mem : Um) (x1 : Int32) (x2 : Int32) (x3 : Int32) (x4 : Int32) (z : Um × Int32), f_X8_sunBy_b5  n mem x1 x2 x3 x4 = some z → ug l E 7 0 0 cX8_sunBy 5 RX8 (some .int) [] (uz_i z) 0 0 5 [(0, .ref (ue_d E 38)), (1, .int x1), (2, .int x2), (3, .int x3), (4, .int x4)] [] mem := by
  intro n
  induction n with
  | zero =>
    intro mem x1 x2 x3 x4 z h
    rw [f_X8_sunBy_b5] at h
    cases h
  | succ n ih =>
    intro mem x1 x2 x3 x4 z h
    rw [f_X8_sunBy_b5] at h
    refine ug_iload 4 dX8_sunBy_5 rfl ?_
    refine ug_aload_n 0 dX8_sunBy_7 rfl rfl ?_
    refine ug_getI kf_X8_154 gi_38_18 dX8_sunBy_8 ?_
    refine ug_icmp_ge 37 dX8_sunBy_11 (by decide) (fun q1 => ?_) (fun q1 => ?_)
    · rw [if_pos q1] at h
      refine ug_iload_n 3 dX8_sunBy_37 rfl rfl ?_
      obtain rfl := Option.some.inj h
      exact ug_iret dX8_sunBy_38
    · rw [if_neg q1] at h
      refine ug_iload_n 3 dX8_sunBy_14 rfl rfl ?_
      refine ug_iload_n 1 dX8_sunBy_15 rfl rfl ?_
      refine ug_iload 4 dX8_sunBy_16 rfl ?_
      refine ug_ishr dX8_sunBy_18 ?_
      refine ug_iconst dX8_sunBy_19 un_iconst_1 ?_
      refine ug_iand dX8_sunBy_20 ?_
      refine ug_aload_n 0 dX8_sunBy_21 rfl rfl ?_
      refine ug_iload 4 dX8_sunBy_22 rfl ?_
      refine ug_iload_n 2 dX8_sunBy_24 rfl rfl ?_
      obtain ⟨m2, r3, h4, h⟩ := ubi_some h
      refine ug_callVi [.int x4, .int x2] (c_X8_bounded  h4) kc_X8_424 ro_38 rfl (S := [.int ((x1 >>> (x4 &&& 31)) &&& 1), .int x3]) rfl (Nat.le_of_ble_eq_true rfl) (Nat.le_of_ble_eq_true rfl) (Nat.le_of_ble_eq_true rfl) dX8_sunBy_25 ?_
      refine ug_imul dX8_sunBy_28 ?_
      refine ug_iadd dX8_sunBy_29 ?_
      refine ug_istore_n [(3, .int (x3 + (((x1 >>> (x4 &&& 31)) &&& 1) * r3))), (0, .ref (ue_d E 38)), (1, .int x1), (2, .int x2), (4, .int x4)] dX8_sunBy_30 rfl (Nat.le_of_ble_eq_true rfl) rfl ?_
      refine ug_iinc (v := (x4 + 1)) [(4, .int (x4 + 1)), (3, .int (x3 + (((x1 >>> (x4 &&& 31)) &&& 1) * r3))), (0, .ref (ue_d E 38)), (1, .int x1), (2, .int x2)] 4 dX8_sunBy_31 rfl rfl (Nat.le_of_ble_eq_true rfl) rfl ?_
      refine ug_goto 5 dX8_sunBy_34 (by decide) ?_
      refine ug_sub [(0, .ref (ue_d E 38)), (1, .int x1), (2, .int x2), (3, .int (x3 + (((x1 >>> (x4 &&& 31)) &&& 1) * r3))), (4, .int (x4 + 1))] [2, 3, 4, 1, 0] rfl ?_
      exact ih m2 x1 x2 (x3 + (((x1 >>> (x4 &&& 31)) &&& 1) * r3)) (x4 + 1) _ h
def f_X8_sunBy (mem : Um) (x1 : Int32) (x2 : Int32) : Option (Um × Int32) :=
  f_X8_sunBy_b5  UF mem x1 x2 0 0
set_option maxRecDepth 20000 in
theorem t_X8_sunBy {l : Launch} {E : Ue} (mem : Um) (x1 : Int32) (x2 : Int32) (z : Um × Int32) (h : f_X8_sunBy  mem x1 x2 = some z) : ug l E 7 0 0 cX8_sunBy 5 RX8 (some .int) [] (uz_i z) 0 0 0 [(0, .ref (ue_d E 38)), (1, .int x1), (2, .int x2)] [] mem := by
  rw [f_X8_sunBy] at h
  refine ug_iconst dX8_sunBy_0 un_iconst_0 ?_
  refine ug_istore_n [(3, .int 0), (0, .ref (ue_d E 38)), (1, .int x1), (2, .int x2)] dX8_sunBy_1 rfl (Nat.le_of_ble_eq_true rfl) rfl ?_
  refine ug_iconst dX8_sunBy_2 un_iconst_0 ?_
  refine ug_istore [(4, .int 0), (3, .int 0), (0, .ref (ue_d E 38)), (1, .int x1), (2, .int x2)] dX8_sunBy_3 (Nat.le_of_ble_eq_true rfl) rfl ?_
  refine ug_sub [(0, .ref (ue_d E 38)), (1, .int x1), (2, .int x2), (3, .int 0), (4, .int 0)] [2, 3, 4, 1, 0] rfl ?_
  exact t_X8_sunBy_b5  UF mem x1 x2 0 0 _ h
theorem c_X8_sunBy {l : Launch} {E : Ue} {mem : Um} {x1 : Int32} {x2 : Int32} {m1 : Um} {r : Int32} (h : f_X8_sunBy  mem x1 x2 = some (m1, r)) : ucr l E 7 0 0 yX8_sunBy cX8_sunBy 5 (some .int) [.ref (ue_d E 38), .int x1, .int x2] mem (some (.int r)) m1 := ucr_of rfl (Nat.le_of_ble_eq_true rfl) (t_X8_sunBy  mem x1 x2 _ h)
-- X8_sun
def f_X8_sun_b53 (mem : Um) : Option (Um × Int32) :=
  some (mem, 0)
set_option maxRecDepth 20000 in
theorem t_X8_sun_b53 {l : Launch} {E : Ue} (mem : Um) (z : Um × Int32) (h : f_X8_sun_b53  mem  = some z) : ug l E 8 0 0 cX8_sun 5 RX8 (some .int) [] (uz_i z) 0 0 53 [] [] mem := by
  rw [f_X8_sun_b53] at h
  refine ug_iconst dX8_sun_53 un_iconst_0 ?_
  obtain rfl := Option.some.inj h
  exact ug_iret dX8_sun_54
def f_X8_sun_b100 (mem : Um) (y0 : Int32) : Option (Um × Int32) :=
  some (mem, y0)
set_option maxRecDepth 20000 in
theorem t_X8_sun_b100 {l : Launch} {E : Ue} (mem : Um) (y0 : Int32) (z : Um × Int32) (h : f_X8_sun_b100  mem y0 = some z) : ug l E 8 0 0 cX8_sun 5 RX8 (some .int) [] (uz_i z) 0 0 100 [] [.int y0] mem := by
  rw [f_X8_sun_b100] at h
  obtain rfl := Option.some.inj h
  exact ug_iret dX8_sun_100
def f_X8_sun_b64 : Nat → Um → Int32 → Int32 → Int32 → Int32 → Option (Um × Int32)
  | 0, _, _, _, _, _ => none
  | n + 1, mem, x1, x2, x3, x4 =>
    ubi (f_X8_sunBy mem x2 x4) (fun m1 r2 => if r2 ≤ x3 then (if ((x2 >>> (x1 &&& 31)) &&& 1) = 0 then (f_X8_sun_b100 m1 0) else (ubi (f_X8_bounded m1 x1 x4) (fun m6 r7 => f_X8_sun_b100 m6 r7))) else ((f_X8_sun_b64  n) m1 x1 x2 x3 (x4 + (-1))))
set_option maxRecDepth 20000 in
theorem t_X8_sun_b64 {l : Launch} {E : Ue} : ∀ (n : Nat) (mem : Um) (x1 : Int32) (x2 : Int32) (x3 : Int32) (x4 : Int32) (z : Um × Int32), f_X8_sun_b64  n mem x1 x2 x3 x4 = some z → ug l E 8 0 0 cX8_sun 5 RX8 (some .int) [] (uz_i z) 0 0 64 [(0, .ref (ue_d E 38)), (1, .int x1), (2, .int x2), (3, .int x3), (4, .int x4)] [] mem := by
  intro n
  induction n with
  | zero =>
    intro mem x1 x2 x3 x4 z h
    rw [f_X8_sun_b64] at h
    cases h
  | succ n ih =>
    intro mem x1 x2 x3 x4 z h
    rw [f_X8_sun_b64] at h
    refine ug_aload_n 0 dX8_sun_64 rfl rfl ?_
    refine ug_iload_n 2 dX8_sun_65 rfl rfl ?_
    refine ug_iload 4 dX8_sun_66 rfl ?_
    obtain ⟨m1, r2, h3, h⟩ := ubi_some h
    refine ug_callVi [.int x2, .int x4] (c_X8_sunBy  h3) kc_X8_427 ro_38 rfl (S := []) rfl (Nat.le_of_ble_eq_true rfl) (Nat.le_of_ble_eq_true rfl) (Nat.le_of_ble_eq_true rfl) dX8_sun_68 ?_
    refine ug_iload_n 3 dX8_sun_71 rfl rfl ?_
    refine ug_icmp_le 81 dX8_sun_72 (by decide) (fun q4 => ?_) (fun q4 => ?_)
    · rw [if_pos q4] at h
      refine ug_iload_n 2 dX8_sun_81 rfl rfl ?_
      refine ug_iload_n 1 dX8_sun_82 rfl rfl ?_
      refine ug_ishr dX8_sun_83 ?_
      refine ug_iconst dX8_sun_84 un_iconst_1 ?_
      refine ug_iand dX8_sun_85 ?_
      refine ug_if_ne 93 dX8_sun_86 (by decide) (fun q5 => ?_) (fun q5 => ?_)
      · rw [if_neg q5] at h
        refine ug_aload_n 0 dX8_sun_93 rfl rfl ?_
        refine ug_iload_n 1 dX8_sun_94 rfl rfl ?_
        refine ug_iload 4 dX8_sun_95 rfl ?_
        obtain ⟨m6, r7, h8, h⟩ := ubi_some h
        refine ug_callVi [.int x1, .int x4] (c_X8_bounded  h8) kc_X8_424 ro_38 rfl (S := []) rfl (Nat.le_of_ble_eq_true rfl) (Nat.le_of_ble_eq_true rfl) (Nat.le_of_ble_eq_true rfl) dX8_sun_97 ?_
        refine ug_sub [] [] rfl ?_
        exact t_X8_sun_b100 m6 r7 _ h
      · rw [if_pos q5] at h
        refine ug_iconst dX8_sun_89 un_iconst_0 ?_
        refine ug_goto 100 dX8_sun_90 (by decide) ?_
        refine ug_sub [] [] rfl ?_
        exact t_X8_sun_b100 m1 0 _ h
    · rw [if_neg q4] at h
      refine ug_iinc (v := (x4 + (-1))) [(4, .int (x4 + (-1))), (0, .ref (ue_d E 38)), (1, .int x1), (2, .int x2), (3, .int x3)] 4 dX8_sun_75 rfl rfl (Nat.le_of_ble_eq_true rfl) rfl ?_
      refine ug_goto 64 dX8_sun_78 (by decide) ?_
      refine ug_sub [(0, .ref (ue_d E 38)), (1, .int x1), (2, .int x2), (3, .int x3), (4, .int (x4 + (-1)))] [1, 2, 3, 4, 0] rfl ?_
      exact ih m1 x1 x2 x3 (x4 + (-1)) _ h
def f_X8_sun_b45 (mem : Um) (x1 : Int32) (x2 : Int32) (x3 : Int32) (y0 : Int32) : Option (Um × Int32) :=
  ubi (f_X8_may mem y0 2 1) (fun m1 r2 => if r2 = 0 then (f_X8_sun_b53 m1) else (ubi (f_X8_take m1) (fun m5 r6 => f_X8_sun_b64  UF m5 x1 x2 x3 480)))
set_option maxRecDepth 20000 in
theorem t_X8_sun_b45 {l : Launch} {E : Ue} (mem : Um) (x1 : Int32) (x2 : Int32) (x3 : Int32) (y0 : Int32) (z : Um × Int32) (h : f_X8_sun_b45  mem x1 x2 x3 y0 = some z) : ug l E 8 0 0 cX8_sun 5 RX8 (some .int) [] (uz_i z) 0 0 45 [(0, .ref (ue_d E 38)), (1, .int x1), (2, .int x2), (3, .int x3)] [.int y0, .ref (ue_d E 38)] mem := by
  rw [f_X8_sun_b45] at h
  refine ug_iconst dX8_sun_45 un_iconst_2 ?_
  refine ug_iconst dX8_sun_46 un_iconst_1 ?_
  obtain ⟨m1, r2, h3, h⟩ := ubi_some h
  refine ug_callVi [.int y0, .int 2, .int 1] (c_X8_may  h3) kc_X8_190 ro_38 rfl (S := []) rfl (Nat.le_of_ble_eq_true rfl) (Nat.le_of_ble_eq_true rfl) (Nat.le_of_ble_eq_true rfl) dX8_sun_47 ?_
  refine ug_if_ne 55 dX8_sun_50 (by decide) (fun q4 => ?_) (fun q4 => ?_)
  · rw [if_neg q4] at h
    refine ug_aload_n 0 dX8_sun_55 rfl rfl ?_
    obtain ⟨m5, r6, h7, h⟩ := ubi_some h
    refine ug_callVv [] (c_X8_take  h7) kc_X8_302 ro_38 rfl (S := []) rfl (Nat.le_of_ble_eq_true rfl) (Nat.le_of_ble_eq_true rfl) (Nat.le_of_ble_eq_true rfl) dX8_sun_56 ?_
    refine ug_sipush dX8_sun_59 un_sipush_480 ?_
    refine ug_istore [(4, .int 480), (0, .ref (ue_d E 38)), (1, .int x1), (2, .int x2), (3, .int x3)] dX8_sun_62 (Nat.le_of_ble_eq_true rfl) rfl ?_
    refine ug_sub [(0, .ref (ue_d E 38)), (1, .int x1), (2, .int x2), (3, .int x3), (4, .int 480)] [1, 2, 3, 4, 0] rfl ?_
    exact t_X8_sun_b64  UF m5 x1 x2 x3 480 _ h
  · rw [if_pos q4] at h
    refine ug_sub [] [] rfl ?_
    exact t_X8_sun_b53 m1  _ h
def f_X8_sun_b44 (mem : Um) (x1 : Int32) (x2 : Int32) (x3 : Int32) : Option (Um × Int32) :=
  f_X8_sun_b45 mem x1 x2 x3 0
set_option maxRecDepth 20000 in
theorem t_X8_sun_b44 {l : Launch} {E : Ue} (mem : Um) (x1 : Int32) (x2 : Int32) (x3 : Int32) (z : Um × Int32) (h : f_X8_sun_b44  mem x1 x2 x3 = some z) : ug l E 8 0 0 cX8_sun 5 RX8 (some .int) [] (uz_i z) 0 0 44 [(0, .ref (ue_d E 38)), (1, .int x1), (2, .int x2), (3, .int x3)] [.ref (ue_d E 38)] mem := by
  rw [f_X8_sun_b44] at h
  refine ug_iconst dX8_sun_44 un_iconst_0 ?_
  exact t_X8_sun_b45 mem x1 x2 x3 0 _ h
def f_X8_sun (mem : Um) (x1 : Int32) (x2 : Int32) (x3 : Int32) : Option (Um × Int32) :=
  ubi (f_X8_isTenant (um_w mem 38 0 0) x1 1) (fun m1 r2 => if r2 = 0 then (f_X8_sun_b53 m1) else (if x2 < 0 then (f_X8_sun_b44 m1 x1 x2 x3) else (if (1 <<< ((m1 38 18) &&& 31)) ≤ x2 then (f_X8_sun_b44 m1 x1 x2 x3) else (ubi (f_X8_within m1 x3 0 999) (fun m7 r8 => if r8 = 0 then (f_X8_sun_b44 m7 x1 x2 x3) else (f_X8_sun_b45 m7 x1 x2 x3 1))))))
set_option maxRecDepth 20000 in
theorem t_X8_sun {l : Launch} {E : Ue} (mem : Um) (x1 : Int32) (x2 : Int32) (x3 : Int32) (z : Um × Int32) (h : f_X8_sun  mem x1 x2 x3 = some z) : ug l E 8 0 0 cX8_sun 5 RX8 (some .int) [] (uz_i z) 0 0 0 [(0, .ref (ue_d E 38)), (1, .int x1), (2, .int x2), (3, .int x3)] [] mem := by
  rw [f_X8_sun] at h
  refine ug_aload_n 0 dX8_sun_0 rfl rfl ?_
  refine ug_iconst dX8_sun_1 un_iconst_0 ?_
  refine ug_putI kp_X8_3 gi_38_0 dX8_sun_2 ?_
  refine ug_aload_n 0 dX8_sun_5 rfl rfl ?_
  refine ug_iload_n 1 dX8_sun_6 rfl rfl ?_
  refine ug_iconst dX8_sun_7 un_iconst_1 ?_
  obtain ⟨m1, r2, h3, h⟩ := ubi_some h
  refine ug_callVi [.int x1, .int 1] (c_X8_isTenant  h3) kc_X8_395 ro_38 rfl (S := []) rfl (Nat.le_of_ble_eq_true rfl) (Nat.le_of_ble_eq_true rfl) (Nat.le_of_ble_eq_true rfl) dX8_sun_8 ?_
  refine ug_if_eq 53 dX8_sun_11 (by decide) (fun q4 => ?_) (fun q4 => ?_)
  · rw [if_pos q4] at h
    refine ug_sub [] [] rfl ?_
    exact t_X8_sun_b53 m1  _ h
  · rw [if_neg q4] at h
    refine ug_aload_n 0 dX8_sun_14 rfl rfl ?_
    refine ug_iload_n 2 dX8_sun_15 rfl rfl ?_
    refine ug_if_lt 44 dX8_sun_16 (by decide) (fun q5 => ?_) (fun q5 => ?_)
    · rw [if_pos q5] at h
      exact t_X8_sun_b44 m1 x1 x2 x3 _ h
    · rw [if_neg q5] at h
      refine ug_iload_n 2 dX8_sun_19 rfl rfl ?_
      refine ug_iconst dX8_sun_20 un_iconst_1 ?_
      refine ug_aload_n 0 dX8_sun_21 rfl rfl ?_
      refine ug_getI kf_X8_154 gi_38_18 dX8_sun_22 ?_
      refine ug_ishl dX8_sun_25 ?_
      refine ug_icmp_ge 44 dX8_sun_26 (by decide) (fun q6 => ?_) (fun q6 => ?_)
      · rw [if_pos q6] at h
        exact t_X8_sun_b44 m1 x1 x2 x3 _ h
      · rw [if_neg q6] at h
        refine ug_iload_n 3 dX8_sun_29 rfl rfl ?_
        refine ug_iconst dX8_sun_30 un_iconst_0 ?_
        refine ug_sipush dX8_sun_31 un_sipush_999 ?_
        obtain ⟨m7, r8, h9, h⟩ := ubi_some h
        refine ug_callSi [.int x3, .int 0, .int 999] (c_X8_within  h9) kc_X8_352 rfl (S := [.ref (ue_d E 38)]) rfl (Nat.le_of_ble_eq_true rfl) (Nat.le_of_ble_eq_true rfl) (Nat.le_of_ble_eq_true rfl) dX8_sun_34 ?_
        refine ug_if_eq 44 dX8_sun_37 (by decide) (fun q10 => ?_) (fun q10 => ?_)
        · rw [if_pos q10] at h
          exact t_X8_sun_b44 m7 x1 x2 x3 _ h
        · rw [if_neg q10] at h
          refine ug_iconst dX8_sun_40 un_iconst_1 ?_
          refine ug_goto 45 dX8_sun_41 (by decide) ?_
          exact t_X8_sun_b45 m7 x1 x2 x3 1 _ h
theorem c_X8_sun {l : Launch} {E : Ue} {mem : Um} {x1 : Int32} {x2 : Int32} {x3 : Int32} {m1 : Um} {r : Int32} (h : f_X8_sun  mem x1 x2 x3 = some (m1, r)) : ucr l E 8 0 0 yX8_sun cX8_sun 5 (some .int) [.ref (ue_d E 38), .int x1, .int x2, .int x3] mem (some (.int r)) m1 := ucr_of rfl (Nat.le_of_ble_eq_true rfl) (t_X8_sun  mem x1 x2 x3 _ h)
-- X8_richest
def f_X8_richest_b106 (mem : Um) (y0 : Int32) : Option (Um × Int32) :=
  some (mem, y0)
set_option maxRecDepth 20000 in
theorem t_X8_richest_b106 {l : Launch} {E : Ue} (mem : Um) (y0 : Int32) (z : Um × Int32) (h : f_X8_richest_b106  mem y0 = some z) : ug l E 6 0 0 cX8_richest 4 RX8 (some .int) [] (uz_i z) 0 0 106 [] [.int y0] mem := by
  rw [f_X8_richest_b106] at h
  obtain rfl := Option.some.inj h
  exact ug_iret dX8_richest_106
def f_X8_richest_b93 (mem : Um) (x2 : Int32) : Option (Um × Int32) :=
  f_X8_richest_b106 mem x2
set_option maxRecDepth 20000 in
theorem t_X8_richest_b93 {l : Launch} {E : Ue} (mem : Um) (x2 : Int32) (z : Um × Int32) (h : f_X8_richest_b93  mem x2 = some z) : ug l E 6 0 0 cX8_richest 4 RX8 (some .int) [] (uz_i z) 0 0 93 [(2, .int x2)] [] mem := by
  rw [f_X8_richest_b93] at h
  refine ug_iload_n 0 dX8_richest_93 rfl rfl ?_
  refine ug_goto 106 dX8_richest_94 (by decide) ?_
  refine ug_sub [] [] rfl ?_
  exact t_X8_richest_b106 mem x2 _ h
def f_X8_richest_b78 (k30 : Um → Int32 → Int32 → Int32 → Option (Um × Int32)) (mem : Um) (x1 : Int32) (x2 : Int32) (x3 : Int32) : Option (Um × Int32) :=
  k30 mem x1 x2 (x3 + 1)
set_option maxRecDepth 20000 in
theorem t_X8_richest_b78 {l : Launch} {E : Ue} (k30 : Um → Int32 → Int32 → Int32 → Option (Um × Int32)) (hk30 : ∀ (mem : Um) (x1 : Int32) (x2 : Int32) (x3 : Int32) (z : Um × Int32), k30 mem x1 x2 x3 = some z → ug l E 6 0 0 cX8_richest 4 RX8 (some .int) [] (uz_i z) 0 0 30 [(0, .ref (ue_d E 38)), (1, .int x1), (2, .int x2), (3, .int x3)] [] mem) (mem : Um) (x1 : Int32) (x2 : Int32) (x3 : Int32) (z : Um × Int32) (h : f_X8_richest_b78 k30 mem x1 x2 x3 = some z) : ug l E 6 0 0 cX8_richest 4 RX8 (some .int) [] (uz_i z) 0 0 78 [(0, .ref (ue_d E 38)), (1, .int x1), (2, .int x2), (3, .int x3)] [] mem := by
  rw [f_X8_richest_b78] at h
  refine ug_iinc (v := (x3 + 1)) [(3, .int (x3 + 1)), (0, .ref (ue_d E 38)), (1, .int x1), (2, .int x2)] 3 dX8_richest_78 rfl rfl (Nat.le_of_ble_eq_true rfl) rfl ?_
  refine ug_goto 30 dX8_richest_81 (by decide) ?_
  refine ug_sub [(0, .ref (ue_d E 38)), (1, .int x1), (2, .int x2), (3, .int (x3 + 1))] [1, 2, 3, 0] rfl ?_
  exact hk30 mem x1 x2 (x3 + 1) _ h
def f_X8_richest_b76 (k30 : Um → Int32 → Int32 → Int32 → Option (Um × Int32)) (mem : Um) (x1 : Int32) (x3 : Int32) : Option (Um × Int32) :=
  f_X8_richest_b78 k30 mem x1 x3 x3
set_option maxRecDepth 20000 in
theorem t_X8_richest_b76 {l : Launch} {E : Ue} (k30 : Um → Int32 → Int32 → Int32 → Option (Um × Int32)) (hk30 : ∀ (mem : Um) (x1 : Int32) (x2 : Int32) (x3 : Int32) (z : Um × Int32), k30 mem x1 x2 x3 = some z → ug l E 6 0 0 cX8_richest 4 RX8 (some .int) [] (uz_i z) 0 0 30 [(0, .ref (ue_d E 38)), (1, .int x1), (2, .int x2), (3, .int x3)] [] mem) (mem : Um) (x1 : Int32) (x3 : Int32) (z : Um × Int32) (h : f_X8_richest_b76 k30 mem x1 x3 = some z) : ug l E 6 0 0 cX8_richest 4 RX8 (some .int) [] (uz_i z) 0 0 76 [(0, .ref (ue_d E 38)), (1, .int x1), (3, .int x3)] [] mem := by
  rw [f_X8_richest_b76] at h
  refine ug_iload_n 2 dX8_richest_76 rfl rfl ?_
  refine ug_istore_n [(2, .int x3), (0, .ref (ue_d E 38)), (1, .int x1), (3, .int x3)] dX8_richest_77 rfl (Nat.le_of_ble_eq_true rfl) rfl ?_
  refine ug_sub [(0, .ref (ue_d E 38)), (1, .int x1), (2, .int x3), (3, .int x3)] [1, 2, 0, 3] rfl ?_
  exact t_X8_richest_b78 k30 hk30 mem x1 x3 x3 _ h
def f_X8_richest_b30 : Nat → Um → Int32 → Int32 → Int32 → Option (Um × Int32)
  | 0, _, _, _, _ => none
  | n + 1, mem, x1, x2, x3 =>
    if (mem 38 18) ≤ x3 then (if x1 = 0 then (f_X8_richest_b93 mem x2) else (if x2 = (-1) then (f_X8_richest_b93 mem x2) else (ubi (f_X8_ownedBy mem x2) (fun m4 r5 => ubi (f_X8_worthOf m4 r5) (fun m7 r8 => f_X8_richest_b106 m7 r8))))) else (ugd (uin (10 + x3) 28) (if (mem 54 (10 + x3).toNatClampNeg) ≤ 0 then (f_X8_richest_b78 (f_X8_richest_b30  n) mem x1 x2 x3) else (if x2 = (-1) then (f_X8_richest_b76 (f_X8_richest_b30  n) mem x1 x3) else (ubi (f_X8_ownedBy mem x3) (fun m13 r14 => ubi (f_X8_worthOf m13 r14) (fun m16 r17 => ubi (f_X8_ownedBy m16 x2) (fun m19 r20 => ubi (f_X8_worthOf m19 r20) (fun m22 r23 => if r17 ≤ r23 then (f_X8_richest_b78 (f_X8_richest_b30  n) m22 x1 x2 x3) else (f_X8_richest_b76 (f_X8_richest_b30  n) m22 x1 x3)))))))))
set_option maxRecDepth 20000 in
theorem t_X8_richest_b30 {l : Launch} {E : Ue} : ∀ (n : Nat) (mem : Um) (x1 : Int32) (x2 : Int32) (x3 : Int32) (z : Um × Int32), f_X8_richest_b30  n mem x1 x2 x3 = some z → ug l E 6 0 0 cX8_richest 4 RX8 (some .int) [] (uz_i z) 0 0 30 [(0, .ref (ue_d E 38)), (1, .int x1), (2, .int x2), (3, .int x3)] [] mem := by
  intro n
  induction n with
  | zero =>
    intro mem x1 x2 x3 z h
    rw [f_X8_richest_b30] at h
    cases h
  | succ n ih =>
    intro mem x1 x2 x3 z h
    rw [f_X8_richest_b30] at h
    refine ug_iload_n 3 dX8_richest_30 rfl rfl ?_
    refine ug_aload_n 0 dX8_richest_31 rfl rfl ?_
    refine ug_getI kf_X8_154 gi_38_18 dX8_richest_32 ?_
    refine ug_icmp_ge 84 dX8_richest_35 (by decide) (fun q1 => ?_) (fun q1 => ?_)
    · rw [if_pos q1] at h
      refine ug_iload_n 1 dX8_richest_84 rfl rfl ?_
      refine ug_if_eq 93 dX8_richest_85 (by decide) (fun q2 => ?_) (fun q2 => ?_)
      · rw [if_pos q2] at h
        refine ug_sub [(2, .int x2)] [2] rfl ?_
        exact t_X8_richest_b93 mem x2 _ h
      · rw [if_neg q2] at h
        refine ug_iload_n 2 dX8_richest_88 rfl rfl ?_
        refine ug_iconst dX8_richest_89 un_iconst_m1 ?_
        refine ug_icmp_ne 97 dX8_richest_90 (by decide) (fun q3 => ?_) (fun q3 => ?_)
        · rw [if_neg q3] at h
          refine ug_aload_n 0 dX8_richest_97 rfl rfl ?_
          refine ug_aload_n 0 dX8_richest_98 rfl rfl ?_
          refine ug_iload_n 2 dX8_richest_99 rfl rfl ?_
          obtain ⟨m4, r5, h6, h⟩ := ubi_some h
          refine ug_callVi [.int x2] (c_X8_ownedBy  h6) kc_X8_342 ro_38 rfl (S := [.ref (ue_d E 38)]) rfl (Nat.le_of_ble_eq_true rfl) (Nat.le_of_ble_eq_true rfl) (Nat.le_of_ble_eq_true rfl) dX8_richest_100 ?_
          obtain ⟨m7, r8, h9, h⟩ := ubi_some h
          refine ug_callVi [.int r5] (c_X8_worthOf  h9) kc_X8_345 ro_38 rfl (S := []) rfl (Nat.le_of_ble_eq_true rfl) (Nat.le_of_ble_eq_true rfl) (Nat.le_of_ble_eq_true rfl) dX8_richest_103 ?_
          refine ug_sub [] [] rfl ?_
          exact t_X8_richest_b106 m7 r8 _ h
        · rw [if_pos q3] at h
          refine ug_sub [(2, .int x2)] [2] rfl ?_
          exact t_X8_richest_b93 mem x2 _ h
    · rw [if_neg q1] at h
      refine ug_aload_n 0 dX8_richest_38 rfl rfl ?_
      refine ug_getR kf_X8_62 gr_38_37 dX8_richest_39 ?_
      refine ug_bipush dX8_richest_42 un_bipush_10 ?_
      refine ug_iload_n 3 dX8_richest_44 rfl rfl ?_
      refine ug_iadd dX8_richest_45 ?_
      obtain ⟨g10, h⟩ := ugd_some h
      refine ug_iald al_54 (uin_ok g10) dX8_richest_46 ?_
      refine ug_if_le 78 dX8_richest_47 (by decide) (fun q11 => ?_) (fun q11 => ?_)
      · rw [if_pos q11] at h
        exact t_X8_richest_b78 (f_X8_richest_b30  n) ih mem x1 x2 x3 _ h
      · rw [if_neg q11] at h
        refine ug_iload_n 2 dX8_richest_50 rfl rfl ?_
        refine ug_iconst dX8_richest_51 un_iconst_m1 ?_
        refine ug_icmp_eq 76 dX8_richest_52 (by decide) (fun q12 => ?_) (fun q12 => ?_)
        · rw [if_pos q12] at h
          refine ug_sub [(0, .ref (ue_d E 38)), (1, .int x1), (3, .int x3)] [0, 1, 3] rfl ?_
          exact t_X8_richest_b76 (f_X8_richest_b30  n) ih mem x1 x3 _ h
        · rw [if_neg q12] at h
          refine ug_aload_n 0 dX8_richest_55 rfl rfl ?_
          refine ug_aload_n 0 dX8_richest_56 rfl rfl ?_
          refine ug_iload_n 3 dX8_richest_57 rfl rfl ?_
          obtain ⟨m13, r14, h15, h⟩ := ubi_some h
          refine ug_callVi [.int x3] (c_X8_ownedBy  h15) kc_X8_342 ro_38 rfl (S := [.ref (ue_d E 38)]) rfl (Nat.le_of_ble_eq_true rfl) (Nat.le_of_ble_eq_true rfl) (Nat.le_of_ble_eq_true rfl) dX8_richest_58 ?_
          obtain ⟨m16, r17, h18, h⟩ := ubi_some h
          refine ug_callVi [.int r14] (c_X8_worthOf  h18) kc_X8_345 ro_38 rfl (S := []) rfl (Nat.le_of_ble_eq_true rfl) (Nat.le_of_ble_eq_true rfl) (Nat.le_of_ble_eq_true rfl) dX8_richest_61 ?_
          refine ug_aload_n 0 dX8_richest_64 rfl rfl ?_
          refine ug_aload_n 0 dX8_richest_65 rfl rfl ?_
          refine ug_iload_n 2 dX8_richest_66 rfl rfl ?_
          obtain ⟨m19, r20, h21, h⟩ := ubi_some h
          refine ug_callVi [.int x2] (c_X8_ownedBy  h21) kc_X8_342 ro_38 rfl (S := [.ref (ue_d E 38), .int r17]) rfl (Nat.le_of_ble_eq_true rfl) (Nat.le_of_ble_eq_true rfl) (Nat.le_of_ble_eq_true rfl) dX8_richest_67 ?_
          obtain ⟨m22, r23, h24, h⟩ := ubi_some h
          refine ug_callVi [.int r20] (c_X8_worthOf  h24) kc_X8_345 ro_38 rfl (S := [.int r17]) rfl (Nat.le_of_ble_eq_true rfl) (Nat.le_of_ble_eq_true rfl) (Nat.le_of_ble_eq_true rfl) dX8_richest_70 ?_
          refine ug_icmp_le 78 dX8_richest_73 (by decide) (fun q25 => ?_) (fun q25 => ?_)
          · rw [if_pos q25] at h
            exact t_X8_richest_b78 (f_X8_richest_b30  n) ih m22 x1 x2 x3 _ h
          · rw [if_neg q25] at h
            refine ug_sub [(0, .ref (ue_d E 38)), (1, .int x1), (3, .int x3)] [0, 1, 3] rfl ?_
            exact t_X8_richest_b76 (f_X8_richest_b30  n) ih m22 x1 x3 _ h
def f_X8_richest (mem : Um) (x1 : Int32) : Option (Um × Int32) :=
  ubi (f_X8_within (um_w mem 38 0 0) x1 0 1) (fun m1 r2 => ubi (f_X8_may m1 r2 1 1) (fun m4 r5 => if r5 = 0 then (some (m4, 0)) else (ubi (f_X8_take m4) (fun m8 r9 => f_X8_richest_b30  UF m8 x1 (-1) 0))))
set_option maxRecDepth 20000 in
theorem t_X8_richest {l : Launch} {E : Ue} (mem : Um) (x1 : Int32) (z : Um × Int32) (h : f_X8_richest  mem x1 = some z) : ug l E 6 0 0 cX8_richest 4 RX8 (some .int) [] (uz_i z) 0 0 0 [(0, .ref (ue_d E 38)), (1, .int x1)] [] mem := by
  rw [f_X8_richest] at h
  refine ug_aload_n 0 dX8_richest_0 rfl rfl ?_
  refine ug_iconst dX8_richest_1 un_iconst_0 ?_
  refine ug_putI kp_X8_3 gi_38_0 dX8_richest_2 ?_
  refine ug_aload_n 0 dX8_richest_5 rfl rfl ?_
  refine ug_iload_n 1 dX8_richest_6 rfl rfl ?_
  refine ug_iconst dX8_richest_7 un_iconst_0 ?_
  refine ug_iconst dX8_richest_8 un_iconst_1 ?_
  obtain ⟨m1, r2, h3, h⟩ := ubi_some h
  refine ug_callSi [.int x1, .int 0, .int 1] (c_X8_within  h3) kc_X8_352 rfl (S := [.ref (ue_d E 38)]) rfl (Nat.le_of_ble_eq_true rfl) (Nat.le_of_ble_eq_true rfl) (Nat.le_of_ble_eq_true rfl) dX8_richest_9 ?_
  refine ug_iconst dX8_richest_12 un_iconst_1 ?_
  refine ug_iconst dX8_richest_13 un_iconst_1 ?_
  obtain ⟨m4, r5, h6, h⟩ := ubi_some h
  refine ug_callVi [.int r2, .int 1, .int 1] (c_X8_may  h6) kc_X8_190 ro_38 rfl (S := []) rfl (Nat.le_of_ble_eq_true rfl) (Nat.le_of_ble_eq_true rfl) (Nat.le_of_ble_eq_true rfl) dX8_richest_14 ?_
  refine ug_if_ne 22 dX8_richest_17 (by decide) (fun q7 => ?_) (fun q7 => ?_)
  · rw [if_neg q7] at h
    refine ug_aload_n 0 dX8_richest_22 rfl rfl ?_
    obtain ⟨m8, r9, h10, h⟩ := ubi_some h
    refine ug_callVv [] (c_X8_take  h10) kc_X8_302 ro_38 rfl (S := []) rfl (Nat.le_of_ble_eq_true rfl) (Nat.le_of_ble_eq_true rfl) (Nat.le_of_ble_eq_true rfl) dX8_richest_23 ?_
    refine ug_iconst dX8_richest_26 un_iconst_m1 ?_
    refine ug_istore_n [(2, .int (-1)), (0, .ref (ue_d E 38)), (1, .int x1)] dX8_richest_27 rfl (Nat.le_of_ble_eq_true rfl) rfl ?_
    refine ug_iconst dX8_richest_28 un_iconst_0 ?_
    refine ug_istore_n [(3, .int 0), (2, .int (-1)), (0, .ref (ue_d E 38)), (1, .int x1)] dX8_richest_29 rfl (Nat.le_of_ble_eq_true rfl) rfl ?_
    refine ug_sub [(0, .ref (ue_d E 38)), (1, .int x1), (2, .int (-1)), (3, .int 0)] [2, 3, 1, 0] rfl ?_
    exact t_X8_richest_b30  UF m8 x1 (-1) 0 _ h
  · rw [if_pos q7] at h
    refine ug_iconst dX8_richest_20 un_iconst_0 ?_
    obtain rfl := Option.some.inj h
    exact ug_iret dX8_richest_21
theorem c_X8_richest {l : Launch} {E : Ue} {mem : Um} {x1 : Int32} {m1 : Um} {r : Int32} (h : f_X8_richest  mem x1 = some (m1, r)) : ucr l E 6 0 0 yX8_richest cX8_richest 4 (some .int) [.ref (ue_d E 38), .int x1] mem (some (.int r)) m1 := ucr_of rfl (Nat.le_of_ble_eq_true rfl) (t_X8_richest  mem x1 _ h)
