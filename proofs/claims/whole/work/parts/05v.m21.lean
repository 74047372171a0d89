-- X8_front
def f_X8_front_b122 (k60 : Um → Int32 → Int32 → Int32 → Int32 → Int32 → Option (Um × Int32)) (mem : Um) (x1 : Int32) (x2 : Int32) (x3 : Int32) (x5 : Int32) (y0 : Int32) (y1 : Int32) : Option (Um × Int32) :=
  k60 mem x1 x2 x3 (y1 + y0) (x5 + 1)
set_option maxRecDepth 20000 in
theorem t_X8_front_b122 {l : Launch} {E : Ue} (k60 : Um → Int32 → Int32 → Int32 → Int32 → Int32 → Option (Um × Int32)) (hk60 : ∀ (mem : Um) (x1 : Int32) (x2 : Int32) (x3 : Int32) (x4 : Int32) (x5 : Int32) (z : Um × Int32), k60 mem x1 x2 x3 x4 x5 = some z → ug l E 5 0 0 cX8_front 6 RX8 (some .int) [] (uz_i z) 0 0 60 [(0, .ref (ue_d E 38)), (1, .int x1), (2, .int x2), (3, .int x3), (4, .int x4), (5, .int x5)] [] mem) (mem : Um) (x1 : Int32) (x2 : Int32) (x3 : Int32) (x5 : Int32) (y0 : Int32) (y1 : Int32) (z : Um × Int32) (h : f_X8_front_b122 k60 mem x1 x2 x3 x5 y0 y1 = some z) : ug l E 5 0 0 cX8_front 6 RX8 (some .int) [] (uz_i z) 0 0 122 [(0, .ref (ue_d E 38)), (1, .int x1), (2, .int x2), (3, .int x3), (5, .int x5)] [.int y0, .int y1] mem := by
  rw [f_X8_front_b122] at h
  refine ug_iadd dX8_front_122 ?_
  refine ug_istore [(4, .int (y1 + y0)), (0, .ref (ue_d E 38)), (1, .int x1), (2, .int x2), (3, .int x3), (5, .int x5)] dX8_front_123 (Nat.le_of_ble_eq_true rfl) rfl ?_
  refine ug_iinc (v := (x5 + 1)) [(5, .int (x5 + 1)), (4, .int (y1 + y0)), (0, .ref (ue_d E 38)), (1, .int x1), (2, .int x2), (3, .int x3)] 5 dX8_front_125 rfl rfl (Nat.le_of_ble_eq_true rfl) rfl ?_
  refine ug_goto 60 dX8_front_128 (by decide) ?_
  refine ug_sub [(0, .ref (ue_d E 38)), (1, .int x1), (2, .int x2), (3, .int x3), (4, .int (y1 + y0)), (5, .int (x5 + 1))] [2, 3, 4, 5, 1, 0] rfl ?_
  exact hk60 mem x1 x2 x3 (y1 + y0) (x5 + 1) _ h
def f_X8_front_b121 (k60 : Um → Int32 → Int32 → Int32 → Int32 → Int32 → Option (Um × Int32)) (mem : Um) (x1 : Int32) (x2 : Int32) (x3 : Int32) (x5 : Int32) (y0 : Int32) : Option (Um × Int32) :=
  f_X8_front_b122 k60 mem x1 x2 x3 x5 0 y0
set_option maxRecDepth 20000 in
theorem t_X8_front_b121 {l : Launch} {E : Ue} (k60 : Um → Int32 → Int32 → Int32 → Int32 → Int32 → Option (Um × Int32)) (hk60 : ∀ (mem : Um) (x1 : Int32) (x2 : Int32) (x3 : Int32) (x4 : Int32) (x5 : Int32) (z : Um × Int32), k60 mem x1 x2 x3 x4 x5 = some z → ug l E 5 0 0 cX8_front 6 RX8 (some .int) [] (uz_i z) 0 0 60 [(0, .ref (ue_d E 38)), (1, .int x1), (2, .int x2), (3, .int x3), (4, .int x4), (5, .int x5)] [] mem) (mem : Um) (x1 : Int32) (x2 : Int32) (x3 : Int32) (x5 : Int32) (y0 : Int32) (z : Um × Int32) (h : f_X8_front_b121 k60 mem x1 x2 x3 x5 y0 = some z) : ug l E 5 0 0 cX8_front 6 RX8 (some .int) [] (uz_i z) 0 0 121 [(0, .ref (ue_d E 38)), (1, .int x1), (2, .int x2), (3, .int x3), (5, .int x5)] [.int y0] mem := by
  rw [f_X8_front_b121] at h
  refine ug_iconst dX8_front_121 un_iconst_0 ?_
  exact t_X8_front_b122 k60 hk60 mem x1 x2 x3 x5 0 y0 _ h
def f_X8_front_b103 (k60 : Um → Int32 → Int32 → Int32 → Int32 → Int32 → Option (Um × Int32)) (mem : Um) (x1 : Int32) (x2 : Int32) (x3 : Int32) (x5 : Int32) (y0 : Int32) (y1 : Int32) : Option (Um × Int32) :=
  if y0 = x3 then (ugd (uin ((2 * x5) + 1) 16) (f_X8_front_b122 k60 mem x1 x2 x3 x5 (mem 43 ((2 * x5) + 1).toNatClampNeg) y1)) else (f_X8_front_b121 k60 mem x1 x2 x3 x5 y1)
set_option maxRecDepth 20000 in
theorem t_X8_front_b103 {l : Launch} {E : Ue} (k60 : Um → Int32 → Int32 → Int32 → Int32 → Int32 → Option (Um × Int32)) (hk60 : ∀ (mem : Um) (x1 : Int32) (x2 : Int32) (x3 : Int32) (x4 : Int32) (x5 : Int32) (z : Um × Int32), k60 mem x1 x2 x3 x4 x5 = some z → ug l E 5 0 0 cX8_front 6 RX8 (some .int) [] (uz_i z) 0 0 60 [(0, .ref (ue_d E 38)), (1, .int x1), (2, .int x2), (3, .int x3), (4, .int x4), (5, .int x5)] [] mem) (mem : Um) (x1 : Int32) (x2 : Int32) (x3 : Int32) (x5 : Int32) (y0 : Int32) (y1 : Int32) (z : Um × Int32) (h : f_X8_front_b103 k60 mem x1 x2 x3 x5 y0 y1 = some z) : ug l E 5 0 0 cX8_front 6 RX8 (some .int) [] (uz_i z) 0 0 103 [(0, .ref (ue_d E 38)), (1, .int x1), (2, .int x2), (3, .int x3), (5, .int x5)] [.int y0, .int y1] mem := by
  rw [f_X8_front_b103] at h
  refine ug_iload_n 3 dX8_front_103 rfl rfl ?_
  refine ug_icmp_ne 121 dX8_front_104 (by decide) (fun q1 => ?_) (fun q1 => ?_)
  · rw [if_neg q1] at h
    exact t_X8_front_b121 k60 hk60 mem x1 x2 x3 x5 y1 _ h
  · rw [if_pos q1] at h
    refine ug_aload_n 0 dX8_front_107 rfl rfl ?_
    refine ug_getR kf_X8_29 gr_38_12 dX8_front_108 ?_
    refine ug_iconst dX8_front_111 un_iconst_2 ?_
    refine ug_iload 4 dX8_front_112 rfl ?_
    refine ug_imul dX8_front_114 ?_
    refine ug_iconst dX8_front_115 un_iconst_1 ?_
    refine ug_iadd dX8_front_116 ?_
    obtain ⟨g2, h⟩ := ugd_some h
    refine ug_iald al_43 (uin_ok g2) dX8_front_117 ?_
    refine ug_goto 122 dX8_front_118 (by decide) ?_
    exact t_X8_front_b122 k60 hk60 mem x1 x2 x3 x5 (mem 43 ((2 * x5) + 1).toNatClampNeg) y1 _ h
def f_X8_front_b60 : Nat → Um → Int32 → Int32 → Int32 → Int32 → Int32 → Option (Um × Int32)
  | 0, _, _, _, _, _, _ => none
  | n + 1, mem, x1, x2, x3, x4, x5 =>
    if (mem 38 17) ≤ x5 then (some (mem, x4)) else (ugd (uin (2 * x5) 16) (ubi (f_X8_within mem (mem 43 (2 * x5).toNatClampNeg) x1 x2) (fun m3 r4 => if r4 = 0 then (f_X8_front_b121 (f_X8_front_b60  n) m3 x1 x2 x3 x5 x4) else (ubi (f_X8_ownerOf m3 x5) (fun m7 r8 => if r8 = (-1) then (f_X8_front_b103 (f_X8_front_b60  n) m7 x1 x2 x3 x5 1 x4) else (f_X8_front_b103 (f_X8_front_b60  n) m7 x1 x2 x3 x5 0 x4))))))
set_option maxRecDepth 20000 in
theorem t_X8_front_b60 {l : Launch} {E : Ue} : ∀ (n : Nat) (mem : Um) (x1 : Int32) (x2 : Int32) (x3 : Int32) (x4 : Int32) (x5 : Int32) (z : Um × Int32), f_X8_front_b60  n mem x1 x2 x3 x4 x5 = some z → ug l E 5 0 0 cX8_front 6 RX8 (some .int) [] (uz_i z) 0 0 60 [(0, .ref (ue_d E 38)), (1, .int x1), (2, .int x2), (3, .int x3), (4, .int x4), (5, .int x5)] [] mem := by
  intro n
  induction n with
  | zero =>
    intro mem x1 x2 x3 x4 x5 z h
    rw [f_X8_front_b60] at h
    cases h
  | succ n ih =>
    intro mem x1 x2 x3 x4 x5 z h
    rw [f_X8_front_b60] at h
    refine ug_iload 5 dX8_front_60 rfl ?_
    refine ug_aload_n 0 dX8_front_62 rfl rfl ?_
    refine ug_getI kf_X8_151 gi_38_17 dX8_front_63 ?_
    refine ug_icmp_ge 131 dX8_front_66 (by decide) (fun q1 => ?_) (fun q1 => ?_)
    · rw [if_pos q1] at h
      refine ug_iload 4 dX8_front_131 rfl ?_
      obtain rfl := Option.some.inj h
      exact ug_iret dX8_front_133
    · rw [if_neg q1] at h
      refine ug_iload 4 dX8_front_69 rfl ?_
      refine ug_aload_n 0 dX8_front_71 rfl rfl ?_
      refine ug_getR kf_X8_29 gr_38_12 dX8_front_72 ?_
      refine ug_iconst dX8_front_75 un_iconst_2 ?_
      refine ug_iload 5 dX8_front_76 rfl ?_
      refine ug_imul dX8_front_78 ?_
      obtain ⟨g2, h⟩ := ugd_some h
      refine ug_iald al_43 (uin_ok g2) dX8_front_79 ?_
      refine ug_iload_n 1 dX8_front_80 rfl rfl ?_
      refine ug_iload_n 2 dX8_front_81 rfl rfl ?_
      obtain ⟨m3, r4, h5, h⟩ := ubi_some h
      refine ug_callSi [.int (mem 43 (2 * x5).toNatClampNeg), .int x1, .int x2] (c_X8_within  h5) kc_X8_352 rfl (S := [.int x4]) rfl (Nat.le_of_ble_eq_true rfl) (Nat.le_of_ble_eq_true rfl) (Nat.le_of_ble_eq_true rfl) dX8_front_82 ?_
      refine ug_if_eq 121 dX8_front_85 (by decide) (fun q6 => ?_) (fun q6 => ?_)
      · rw [if_pos q6] at h
        refine ug_sub [(0, .ref (ue_d E 38)), (1, .int x1), (2, .int x2), (3, .int x3), (5, .int x5)] [0, 1, 2, 3, 5] rfl ?_
        exact t_X8_front_b121 (f_X8_front_b60  n) ih m3 x1 x2 x3 x5 x4 _ h
      · rw [if_neg q6] at h
        refine ug_aload_n 0 dX8_front_88 rfl rfl ?_
        refine ug_iload 5 dX8_front_89 rfl ?_
        obtain ⟨m7, r8, h9, h⟩ := ubi_some h
        refine ug_callVi [.int x5] (c_X8_ownerOf  h9) kc_X8_327 ro_38 rfl (S := [.int x4]) rfl (Nat.le_of_ble_eq_true rfl) (Nat.le_of_ble_eq_true rfl) (Nat.le_of_ble_eq_true rfl) dX8_front_91 ?_
        refine ug_iconst dX8_front_94 un_iconst_m1 ?_
        refine ug_icmp_ne 102 dX8_front_95 (by decide) (fun q10 => ?_) (fun q10 => ?_)
        · rw [if_neg q10] at h
          refine ug_iconst dX8_front_102 un_iconst_0 ?_
          refine ug_sub [(0, .ref (ue_d E 38)), (1, .int x1), (2, .int x2), (3, .int x3), (5, .int x5)] [0, 1, 2, 3, 5] rfl ?_
          exact t_X8_front_b103 (f_X8_front_b60  n) ih m7 x1 x2 x3 x5 0 x4 _ h
        · rw [if_pos q10] at h
          refine ug_iconst dX8_front_98 un_iconst_1 ?_
          refine ug_goto 103 dX8_front_99 (by decide) ?_
          refine ug_sub [(0, .ref (ue_d E 38)), (1, .int x1), (2, .int x2), (3, .int x3), (5, .int x5)] [0, 1, 2, 3, 5] rfl ?_
          exact t_X8_front_b103 (f_X8_front_b60  n) ih m7 x1 x2 x3 x5 1 x4 _ h
def f_X8_front_b40 (mem : Um) (x1 : Int32) (x2 : Int32) (x3 : Int32) (y0 : Int32) : Option (Um × Int32) :=
  ubi (f_X8_may mem y0 1 1) (fun m1 r2 => if r2 = 0 then (some (m1, 0)) else (ubi (f_X8_take m1) (fun m5 r6 => f_X8_front_b60  UF m5 x1 x2 x3 0 0)))
set_option maxRecDepth 20000 in
theorem t_X8_front_b40 {l : Launch} {E : Ue} (mem : Um) (x1 : Int32) (x2 : Int32) (x3 : Int32) (y0 : Int32) (z : Um × Int32) (h : f_X8_front_b40  mem x1 x2 x3 y0 = some z) : ug l E 5 0 0 cX8_front 6 RX8 (some .int) [] (uz_i z) 0 0 40 [(0, .ref (ue_d E 38)), (1, .int x1), (2, .int x2), (3, .int x3)] [.int y0, .ref (ue_d E 38)] mem := by
  rw [f_X8_front_b40] at h
  refine ug_iconst dX8_front_40 un_iconst_1 ?_
  refine ug_iconst dX8_front_41 un_iconst_1 ?_
  obtain ⟨m1, r2, h3, h⟩ := ubi_some h
  refine ug_callVi [.int y0, .int 1, .int 1] (c_X8_may  h3) kc_X8_190 ro_38 rfl (S := []) rfl (Nat.le_of_ble_eq_true rfl) (Nat.le_of_ble_eq_true rfl) (Nat.le_of_ble_eq_true rfl) dX8_front_42 ?_
  refine ug_if_ne 50 dX8_front_45 (by decide) (fun q4 => ?_) (fun q4 => ?_)
  · rw [if_neg q4] at h
    refine ug_aload_n 0 dX8_front_50 rfl rfl ?_
    obtain ⟨m5, r6, h7, h⟩ := ubi_some h
    refine ug_callVv [] (c_X8_take  h7) kc_X8_302 ro_38 rfl (S := []) rfl (Nat.le_of_ble_eq_true rfl) (Nat.le_of_ble_eq_true rfl) (Nat.le_of_ble_eq_true rfl) dX8_front_51 ?_
    refine ug_iconst dX8_front_54 un_iconst_0 ?_
    refine ug_istore [(4, .int 0), (0, .ref (ue_d E 38)), (1, .int x1), (2, .int x2), (3, .int x3)] dX8_front_55 (Nat.le_of_ble_eq_true rfl) rfl ?_
    refine ug_iconst dX8_front_57 un_iconst_0 ?_
    refine ug_istore [(5, .int 0), (4, .int 0), (0, .ref (ue_d E 38)), (1, .int x1), (2, .int x2), (3, .int x3)] dX8_front_58 (Nat.le_of_ble_eq_true rfl) rfl ?_
    refine ug_sub [(0, .ref (ue_d E 38)), (1, .int x1), (2, .int x2), (3, .int x3), (4, .int 0), (5, .int 0)] [2, 3, 4, 5, 1, 0] rfl ?_
    exact t_X8_front_b60  UF m5 x1 x2 x3 0 0 _ h
  · rw [if_pos q4] at h
    refine ug_iconst dX8_front_48 un_iconst_0 ?_
    obtain rfl := Option.some.inj h
    exact ug_iret dX8_front_49
def f_X8_front_b39 (mem : Um) (x1 : Int32) (x2 : Int32) (x3 : Int32) : Option (Um × Int32) :=
  f_X8_front_b40 mem x1 x2 x3 0
set_option maxRecDepth 20000 in
theorem t_X8_front_b39 {l : Launch} {E : Ue} (mem : Um) (x1 : Int32) (x2 : Int32) (x3 : Int32) (z : Um × Int32) (h : f_X8_front_b39  mem x1 x2 x3 = some z) : ug l E 5 0 0 cX8_front 6 RX8 (some .int) [] (uz_i z) 0 0 39 [(0, .ref (ue_d E 38)), (1, .int x1), (2, .int x2), (3, .int x3)] [.ref (ue_d E 38)] mem := by
  rw [f_X8_front_b39] at h
  refine ug_iconst dX8_front_39 un_iconst_0 ?_
  exact t_X8_front_b40 mem x1 x2 x3 0 _ h
def f_X8_front (mem : Um) (x1 : Int32) (x2 : Int32) (x3 : Int32) : Option (Um × Int32) :=
  ubi (f_X8_within (um_w mem 38 0 0) x1 0 99) (fun m1 r2 => if r2 = 0 then (f_X8_front_b39 m1 x1 x2 x3) else (ubi (f_X8_within m1 x2 0 99) (fun m5 r6 => if r6 = 0 then (f_X8_front_b39 m5 x1 x2 x3) else (ubi (f_X8_within m5 x3 0 1) (fun m9 r10 => if r10 = 0 then (f_X8_front_b39 m9 x1 x2 x3) else (f_X8_front_b40 m9 x1 x2 x3 1))))))
set_option maxRecDepth 20000 in
theorem t_X8_front {l : Launch} {E : Ue} (mem : Um) (x1 : Int32) (x2 : Int32) (x3 : Int32) (z : Um × Int32) (h : f_X8_front  mem x1 x2 x3 = some z) : ug l E 5 0 0 cX8_front 6 RX8 (some .int) [] (uz_i z) 0 0 0 [(0, .ref (ue_d E 38)), (1, .int x1), (2, .int x2), (3, .int x3)] [] mem := by
  rw [f_X8_front] at h
  refine ug_aload_n 0 dX8_front_0 rfl rfl ?_
  refine ug_iconst dX8_front_1 un_iconst_0 ?_
  refine ug_putI kp_X8_3 gi_38_0 dX8_front_2 ?_
  refine ug_aload_n 0 dX8_front_5 rfl rfl ?_
  refine ug_iload_n 1 dX8_front_6 rfl rfl ?_
  refine ug_iconst dX8_front_7 un_iconst_0 ?_
  refine ug_bipush dX8_front_8 un_bipush_99 ?_
  obtain ⟨m1, r2, h3, h⟩ := ubi_some h
  refine ug_callSi [.int x1, .int 0, .int 99] (c_X8_within  h3) kc_X8_352 rfl (S := [.ref (ue_d E 38)]) rfl (Nat.le_of_ble_eq_true rfl) (Nat.le_of_ble_eq_true rfl) (Nat.le_of_ble_eq_true rfl) dX8_front_10 ?_
  refine ug_if_eq 39 dX8_front_13 (by decide) (fun q4 => ?_) (fun q4 => ?_)
  · rw [if_pos q4] at h
    exact t_X8_front_b39 m1 x1 x2 x3 _ h
  · rw [if_neg q4] at h
    refine ug_iload_n 2 dX8_front_16 rfl rfl ?_
    refine ug_iconst dX8_front_17 un_iconst_0 ?_
    refine ug_bipush dX8_front_18 un_bipush_99 ?_
    obtain ⟨m5, r6, h7, h⟩ := ubi_some h
    refine ug_callSi [.int x2, .int 0, .int 99] (c_X8_within  h7) kc_X8_352 rfl (S := [.ref (ue_d E 38)]) rfl (Nat.le_of_ble_eq_true rfl) (Nat.le_of_ble_eq_true rfl) (Nat.le_of_ble_eq_true rfl) dX8_front_20 ?_
    refine ug_if_eq 39 dX8_front_23 (by decide) (fun q8 => ?_) (fun q8 => ?_)
    · rw [if_pos q8] at h
      exact t_X8_front_b39 m5 x1 x2 x3 _ h
    · rw [if_neg q8] at h
      refine ug_iload_n 3 dX8_front_26 rfl rfl ?_
      refine ug_iconst dX8_front_27 un_iconst_0 ?_
      refine ug_iconst dX8_front_28 un_iconst_1 ?_
      obtain ⟨m9, r10, h11, h⟩ := ubi_some h
      refine ug_callSi [.int x3, .int 0, .int 1] (c_X8_within  h11) kc_X8_352 rfl (S := [.ref (ue_d E 38)]) rfl (Nat.le_of_ble_eq_true rfl) (Nat.le_of_ble_eq_true rfl) (Nat.le_of_ble_eq_true rfl) dX8_front_29 ?_
      refine ug_if_eq 39 dX8_front_32 (by decide) (fun q12 => ?_) (fun q12 => ?_)
      · rw [if_pos q12] at h
        exact t_X8_front_b39 m9 x1 x2 x3 _ h
      · rw [if_neg q12] at h
        refine ug_iconst dX8_front_35 un_iconst_1 ?_
        refine ug_goto 40 dX8_front_36 (by decide) ?_
        exact t_X8_front_b40 m9 x1 x2 x3 1 _ h
theorem c_X8_front {l : Launch} {E : Ue} {mem : Um} {x1 : Int32} {x2 : Int32} {x3 : Int32} {m1 : Um} {r : Int32} (h : f_X8_front  mem x1 x2 x3 = some (m1, r)) : ucr l E 5 0 0 yX8_front cX8_front 6 (some .int) [.ref (ue_d E 38), .int x1, .int x2, .int x3] mem (some (.int r)) m1 := ucr_of rfl (Nat.le_of_ble_eq_true rfl) (t_X8_front  mem x1 x2 x3 _ h)
-- X8_closest
def f_X8_closest_b29 (mem : Um) : Option (Um × Int32) :=
  some (mem, 0)
set_option maxRecDepth 20000 in
theorem t_X8_closest_b29 {l : Launch} {E : Ue} (mem : Um) (z : Um × Int32) (h : f_X8_closest_b29  mem  = some z) : ug l E 4 0 0 cX8_closest 7 RX8 (some .int) [] (uz_i z) 0 0 29 [] [] mem := by
  rw [f_X8_closest_b29] at h
  refine ug_iconst dX8_closest_29 un_iconst_0 ?_
  obtain rfl := Option.some.inj h
  exact ug_iret dX8_closest_30
def f_X8_closest_b123 (mem : Um) (y0 : Int32) : Option (Um × Int32) :=
  some (mem, y0)
set_option maxRecDepth 20000 in
theorem t_X8_closest_b123 {l : Launch} {E : Ue} (mem : Um) (y0 : Int32) (z : Um × Int32) (h : f_X8_closest_b123  mem y0 = some z) : ug l E 4 0 0 cX8_closest 7 RX8 (some .int) [] (uz_i z) 0 0 123 [] [.int y0] mem := by
  rw [f_X8_closest_b123] at h
  obtain rfl := Option.some.inj h
  exact ug_iret dX8_closest_123
def f_X8_closest_b107 (k39 : Um → Int32 → Int32 → Int32 → Int32 → Int32 → Option (Um × Int32)) (mem : Um) (x1 : Int32) (x2 : Int32) (x3 : Int32) (x4 : Int32) (x5 : Int32) : Option (Um × Int32) :=
  k39 mem x1 x2 x3 x4 (x5 + 1)
set_option maxRecDepth 20000 in
theorem t_X8_closest_b107 {l : Launch} {E : Ue} (k39 : Um → Int32 → Int32 → Int32 → Int32 → Int32 → Option (Um × Int32)) (hk39 : ∀ (mem : Um) (x1 : Int32) (x2 : Int32) (x3 : Int32) (x4 : Int32) (x5 : Int32) (z : Um × Int32), k39 mem x1 x2 x3 x4 x5 = some z → ug l E 4 0 0 cX8_closest 7 RX8 (some .int) [] (uz_i z) 0 0 39 [(0, .ref (ue_d E 38)), (1, .int x1), (2, .int x2), (3, .int x3), (4, .int x4), (5, .int x5)] [] mem) (mem : Um) (x1 : Int32) (x2 : Int32) (x3 : Int32) (x4 : Int32) (x5 : Int32) (z : Um × Int32) (h : f_X8_closest_b107 k39 mem x1 x2 x3 x4 x5 = some z) : ug l E 4 0 0 cX8_closest 7 RX8 (some .int) [] (uz_i z) 0 0 107 [(0, .ref (ue_d E 38)), (1, .int x1), (2, .int x2), (3, .int x3), (4, .int x4), (5, .int x5)] [] mem := by
  rw [f_X8_closest_b107] at h
  refine ug_iinc (v := (x5 + 1)) [(5, .int (x5 + 1)), (0, .ref (ue_d E 38)), (1, .int x1), (2, .int x2), (3, .int x3), (4, .int x4)] 5 dX8_closest_107 rfl rfl (Nat.le_of_ble_eq_true rfl) rfl ?_
  refine ug_goto 39 dX8_closest_110 (by decide) ?_
  refine ug_sub [(0, .ref (ue_d E 38)), (1, .int x1), (2, .int x2), (3, .int x3), (4, .int x4), (5, .int (x5 + 1))] [1, 2, 3, 4, 5, 0] rfl ?_
  exact hk39 mem x1 x2 x3 x4 (x5 + 1) _ h
def f_X8_closest_b100 (k39 : Um → Int32 → Int32 → Int32 → Int32 → Int32 → Option (Um × Int32)) (mem : Um) (x1 : Int32) (x2 : Int32) (x5 : Int32) (x6 : Int32) : Option (Um × Int32) :=
  f_X8_closest_b107 k39 mem x1 x2 x5 x6 x5
set_option maxRecDepth 20000 in
theorem t_X8_closest_b100 {l : Launch} {E : Ue} (k39 : Um → Int32 → Int32 → Int32 → Int32 → Int32 → Option (Um × Int32)) (hk39 : ∀ (mem : Um) (x1 : Int32) (x2 : Int32) (x3 : Int32) (x4 : Int32) (x5 : Int32) (z : Um × Int32), k39 mem x1 x2 x3 x4 x5 = some z → ug l E 4 0 0 cX8_closest 7 RX8 (some .int) [] (uz_i z) 0 0 39 [(0, .ref (ue_d E 38)), (1, .int x1), (2, .int x2), (3, .int x3), (4, .int x4), (5, .int x5)] [] mem) (mem : Um) (x1 : Int32) (x2 : Int32) (x5 : Int32) (x6 : Int32) (z : Um × Int32) (h : f_X8_closest_b100 k39 mem x1 x2 x5 x6 = some z) : ug l E 4 0 0 cX8_closest 7 RX8 (some .int) [] (uz_i z) 0 0 100 [(0, .ref (ue_d E 38)), (1, .int x1), (2, .int x2), (5, .int x5), (6, .int x6)] [] mem := by
  rw [f_X8_closest_b100] at h
  refine ug_iload 3 dX8_closest_100 rfl ?_
  refine ug_istore_n [(3, .int x5), (0, .ref (ue_d E 38)), (1, .int x1), (2, .int x2), (5, .int x5), (6, .int x6)] dX8_closest_102 rfl (Nat.le_of_ble_eq_true rfl) rfl ?_
  refine ug_iload 5 dX8_closest_103 rfl ?_
  refine ug_istore [(4, .int x6), (3, .int x5), (0, .ref (ue_d E 38)), (1, .int x1), (2, .int x2), (5, .int x5), (6, .int x6)] dX8_closest_105 (Nat.le_of_ble_eq_true rfl) rfl ?_
  refine ug_sub [(0, .ref (ue_d E 38)), (1, .int x1), (2, .int x2), (3, .int x5), (4, .int x6), (5, .int x5)] [2, 3, 4, 1, 0, 5] rfl ?_
  exact t_X8_closest_b107 k39 hk39 mem x1 x2 x5 x6 x5 _ h
def f_X8_closest_b39 : Nat → Um → Int32 → Int32 → Int32 → Int32 → Int32 → Option (Um × Int32)
  | 0, _, _, _, _, _, _ => none
  | n + 1, mem, x1, x2, x3, x4, x5 =>
    if (mem 38 18) ≤ x5 then (if x2 = 0 then (f_X8_closest_b123 mem x3) else (f_X8_closest_b123 mem x4)) else (ugd (uin (15 + x5) 28) (ugd (uin (2 * x1) 16) (ubi (f_X8_size mem ((mem 53 (15 + x5).toNatClampNeg) - (mem 43 (2 * x1).toNatClampNeg))) (fun m5 r6 => ugd (uin (10 + x5) 28) (if (m5 53 (10 + x5).toNatClampNeg) = 0 then (f_X8_closest_b107 (f_X8_closest_b39  n) m5 x1 x2 x3 x4 x5) else (if x3 = (-1) then (f_X8_closest_b100 (f_X8_closest_b39  n) m5 x1 x2 x5 r6) else (if r6 < x4 then (f_X8_closest_b100 (f_X8_closest_b39  n) m5 x1 x2 x5 r6) else (f_X8_closest_b107 (f_X8_closest_b39  n) m5 x1 x2 x3 x4 x5))))))))
set_option maxRecDepth 20000 in
theorem t_X8_closest_b39 {l : Launch} {E : Ue} : ∀ (n : Nat) (mem : Um) (x1 : Int32) (x2 : Int32) (x3 : Int32) (x4 : Int32) (x5 : Int32) (z : Um × Int32), f_X8_closest_b39  n mem x1 x2 x3 x4 x5 = some z → ug l E 4 0 0 cX8_closest 7 RX8 (some .int) [] (uz_i z) 0 0 39 [(0, .ref (ue_d E 38)), (1, .int x1), (2, .int x2), (3, .int x3), (4, .int x4), (5, .int x5)] [] mem := by
  intro n
  induction n with
  | zero =>
    intro mem x1 x2 x3 x4 x5 z h
    rw [f_X8_closest_b39] at h
    cases h
  | succ n ih =>
    intro mem x1 x2 x3 x4 x5 z h
    rw [f_X8_closest_b39] at h
    refine ug_iload 5 dX8_closest_39 rfl ?_
    refine ug_aload_n 0 dX8_closest_41 rfl rfl ?_
    refine ug_getI kf_X8_154 gi_38_18 dX8_closest_42 ?_
    refine ug_icmp_ge 113 dX8_closest_45 (by decide) (fun q1 => ?_) (fun q1 => ?_)
    · rw [if_pos q1] at h
      refine ug_iload_n 2 dX8_closest_113 rfl rfl ?_
      refine ug_if_ne 121 dX8_closest_114 (by decide) (fun q2 => ?_) (fun q2 => ?_)
      · rw [if_neg q2] at h
        refine ug_iload 4 dX8_closest_121 rfl ?_
        refine ug_sub [] [] rfl ?_
        exact t_X8_closest_b123 mem x4 _ h
      · rw [if_pos q2] at h
        refine ug_iload_n 3 dX8_closest_117 rfl rfl ?_
        refine ug_goto 123 dX8_closest_118 (by decide) ?_
        refine ug_sub [] [] rfl ?_
        exact t_X8_closest_b123 mem x3 _ h
    · rw [if_neg q1] at h
      refine ug_aload_n 0 dX8_closest_48 rfl rfl ?_
      refine ug_getR kf_X8_59 gr_38_36 dX8_closest_49 ?_
      refine ug_bipush dX8_closest_52 un_bipush_15 ?_
      refine ug_iload 5 dX8_closest_54 rfl ?_
      refine ug_iadd dX8_closest_56 ?_
      obtain ⟨g3, h⟩ := ugd_some h
      refine ug_iald al_53 (uin_ok g3) dX8_closest_57 ?_
      refine ug_aload_n 0 dX8_closest_58 rfl rfl ?_
      refine ug_getR kf_X8_29 gr_38_12 dX8_closest_59 ?_
      refine ug_iconst dX8_closest_62 un_iconst_2 ?_
      refine ug_iload_n 1 dX8_closest_63 rfl rfl ?_
      refine ug_imul dX8_closest_64 ?_
      obtain ⟨g4, h⟩ := ugd_some h
      refine ug_iald al_43 (uin_ok g4) dX8_closest_65 ?_
      refine ug_isub dX8_closest_66 ?_
      obtain ⟨m5, r6, h7, h⟩ := ubi_some h
      refine ug_callSi [.int ((mem 53 (15 + x5).toNatClampNeg) - (mem 43 (2 * x1).toNatClampNeg))] (c_X8_size  h7) kc_X8_321 rfl (S := []) rfl (Nat.le_of_ble_eq_true rfl) (Nat.le_of_ble_eq_true rfl) (Nat.le_of_ble_eq_true rfl) dX8_closest_67 ?_
      refine ug_istore [(6, .int r6), (0, .ref (ue_d E 38)), (1, .int x1), (2, .int x2), (3, .int x3), (4, .int x4), (5, .int x5)] dX8_closest_70 (Nat.le_of_ble_eq_true rfl) rfl ?_
      refine ug_aload_n 1 dX8_closest_72 rfl rfl ?_
      refine ug_getR kf_X8_59 gr_38_36 dX8_closest_73 ?_
      refine ug_bipush dX8_closest_76 un_bipush_10 ?_
      refine ug_iload 6 dX8_closest_78 rfl ?_
      refine ug_iadd dX8_closest_80 ?_
      obtain ⟨g8, h⟩ := ugd_some h
      refine ug_iald al_53 (uin_ok g8) dX8_closest_81 ?_
      refine ug_if_eq 107 dX8_closest_82 (by decide) (fun q9 => ?_) (fun q9 => ?_)
      · rw [if_pos q9] at h
        refine ug_sub [(0, .ref (ue_d E 38)), (1, .int x1), (2, .int x2), (3, .int x3), (4, .int x4), (5, .int x5)] [1, 2, 3, 4, 5, 6] rfl ?_
        exact t_X8_closest_b107 (f_X8_closest_b39  n) ih m5 x1 x2 x3 x4 x5 _ h
      · rw [if_neg q9] at h
        refine ug_iload_n 4 dX8_closest_85 rfl rfl ?_
        refine ug_iconst dX8_closest_86 un_iconst_m1 ?_
        refine ug_icmp_eq 100 dX8_closest_87 (by decide) (fun q10 => ?_) (fun q10 => ?_)
        · rw [if_pos q10] at h
          refine ug_sub [(0, .ref (ue_d E 38)), (1, .int x1), (2, .int x2), (5, .int x5), (6, .int r6)] [1, 2, 3, 6, 0] rfl ?_
          exact t_X8_closest_b100 (f_X8_closest_b39  n) ih m5 x1 x2 x5 r6 _ h
        · rw [if_neg q10] at h
          refine ug_iload 0 dX8_closest_90 rfl ?_
          refine ug_iload 5 dX8_closest_92 rfl ?_
          refine ug_icmp_lt 100 dX8_closest_94 (by decide) (fun q11 => ?_) (fun q11 => ?_)
          · rw [if_pos q11] at h
            refine ug_sub [(0, .ref (ue_d E 38)), (1, .int x1), (2, .int x2), (5, .int x5), (6, .int r6)] [1, 2, 3, 6, 0] rfl ?_
            exact t_X8_closest_b100 (f_X8_closest_b39  n) ih m5 x1 x2 x5 r6 _ h
          · rw [if_neg q11] at h
            refine ug_goto 107 dX8_closest_97 (by decide) ?_
            refine ug_sub [(0, .ref (ue_d E 38)), (1, .int x1), (2, .int x2), (3, .int x3), (4, .int x4), (5, .int x5)] [1, 2, 3, 4, 5, 6] rfl ?_
            exact t_X8_closest_b107 (f_X8_closest_b39  n) ih m5 x1 x2 x3 x4 x5 _ h
def f_X8_closest (mem : Um) (x1 : Int32) (x2 : Int32) : Option (Um × Int32) :=
  ubi (f_X8_isView (um_w mem 38 0 0) x1 1) (fun m1 r2 => if r2 = 0 then (f_X8_closest_b29 m1) else (ubi (f_X8_within m1 x2 0 1) (fun m5 r6 => ubi (f_X8_may m5 r6 2 1) (fun m8 r9 => if r9 = 0 then (f_X8_closest_b29 m8) else (f_X8_closest_b39  UF m8 x1 x2 (-1) (-1) 0)))))
set_option maxRecDepth 20000 in
theorem t_X8_closest {l : Launch} {E : Ue} (mem : Um) (x1 : Int32) (x2 : Int32) (z : Um × Int32) (h : f_X8_closest  mem x1 x2 = some z) : ug l E 4 0 0 cX8_closest 7 RX8 (some .int) [] (uz_i z) 0 0 0 [(0, .ref (ue_d E 38)), (1, .int x1), (2, .int x2)] [] mem := by
  rw [f_X8_closest] at h
  refine ug_aload_n 0 dX8_closest_0 rfl rfl ?_
  refine ug_iconst dX8_closest_1 un_iconst_0 ?_
  refine ug_putI kp_X8_3 gi_38_0 dX8_closest_2 ?_
  refine ug_aload_n 0 dX8_closest_5 rfl rfl ?_
  refine ug_iload_n 1 dX8_closest_6 rfl rfl ?_
  refine ug_iconst dX8_closest_7 un_iconst_1 ?_
  obtain ⟨m1, r2, h3, h⟩ := ubi_some h
  refine ug_callVi [.int x1, .int 1] (c_X8_isView  h3) kc_X8_392 ro_38 rfl (S := []) rfl (Nat.le_of_ble_eq_true rfl) (Nat.le_of_ble_eq_true rfl) (Nat.le_of_ble_eq_true rfl) dX8_closest_8 ?_
  refine ug_if_eq 29 dX8_closest_11 (by decide) (fun q4 => ?_) (fun q4 => ?_)
  · rw [if_pos q4] at h
    refine ug_sub [] [] rfl ?_
    exact t_X8_closest_b29 m1  _ h
  · rw [if_neg q4] at h
    refine ug_aload_n 0 dX8_closest_14 rfl rfl ?_
    refine ug_iload_n 2 dX8_closest_15 rfl rfl ?_
    refine ug_iconst dX8_closest_16 un_iconst_0 ?_
    refine ug_iconst dX8_closest_17 un_iconst_1 ?_
    obtain ⟨m5, r6, h7, h⟩ := ubi_some h
    refine ug_callSi [.int x2, .int 0, .int 1] (c_X8_within  h7) kc_X8_352 rfl (S := [.ref (ue_d E 38)]) rfl (Nat.le_of_ble_eq_true rfl) (Nat.le_of_ble_eq_true rfl) (Nat.le_of_ble_eq_true rfl) dX8_closest_18 ?_
    refine ug_iconst dX8_closest_21 un_iconst_2 ?_
    refine ug_iconst dX8_closest_22 un_iconst_1 ?_
    obtain ⟨m8, r9, h10, h⟩ := ubi_some h
    refine ug_callVi [.int r6, .int 2, .int 1] (c_X8_may  h10) kc_X8_190 ro_38 rfl (S := []) rfl (Nat.le_of_ble_eq_true rfl) (Nat.le_of_ble_eq_true rfl) (Nat.le_of_ble_eq_true rfl) dX8_closest_23 ?_
    refine ug_if_ne 31 dX8_closest_26 (by decide) (fun q11 => ?_) (fun q11 => ?_)
    · rw [if_neg q11] at h
      refine ug_iconst dX8_closest_31 un_iconst_m1 ?_
      refine ug_istore_n [(3, .int (-1)), (0, .ref (ue_d E 38)), (1, .int x1), (2, .int x2)] dX8_closest_32 rfl (Nat.le_of_ble_eq_true rfl) rfl ?_
      refine ug_iconst dX8_closest_33 un_iconst_m1 ?_
      refine ug_istore [(4, .int (-1)), (3, .int (-1)), (0, .ref (ue_d E 38)), (1, .int x1), (2, .int x2)] dX8_closest_34 (Nat.le_of_ble_eq_true rfl) rfl ?_
      refine ug_iconst dX8_closest_36 un_iconst_0 ?_
      refine ug_istore [(5, .int 0), (4, .int (-1)), (3, .int (-1)), (0, .ref (ue_d E 38)), (1, .int x1), (2, .int x2)] dX8_closest_37 (Nat.le_of_ble_eq_true rfl) rfl ?_
      refine ug_sub [(0, .ref (ue_d E 38)), (1, .int x1), (2, .int x2), (3, .int (-1)), (4, .int (-1)), (5, .int 0)] [3, 4, 5, 2, 1, 0] rfl ?_
      exact t_X8_closest_b39  UF m8 x1 x2 (-1) (-1) 0 _ h
    · rw [if_pos q11] at h
      refine ug_sub [] [] rfl ?_
      exact t_X8_closest_b29 m8  _ h
theorem c_X8_closest {l : Launch} {E : Ue} {mem : Um} {x1 : Int32} {x2 : Int32} {m1 : Um} {r : Int32} (h : f_X8_closest  mem x1 x2 = some (m1, r)) : ucr l E 4 0 0 yX8_closest cX8_closest 7 (some .int) [.ref (ue_d E 38), .int x1, .int x2] mem (some (.int r)) m1 := ucr_of rfl (Nat.le_of_ble_eq_true rfl) (t_X8_closest  mem x1 x2 _ h)
-- X8_draws
def f_X8_draws (mem : Um) (x1 : Int32) : Option (Um × Int32) :=
  ugd (unz x1) (some ((um_w mem 38 46 (((mem 38 46) * 1103515245) + 12345)), (((((um_w mem 38 46 (((mem 38 46) * 1103515245) + 12345)) 38 46) >>> (16 &&& 31)) &&& 32767) % x1)))
set_option maxRecDepth 20000 in
theorem t_X8_draws {l : Launch} {E : Ue} (mem : Um) (x1 : Int32) (z : Um × Int32) (h : f_X8_draws  mem x1 = some z) : ug l E 2 0 0 cX8_draws 2 RX8 (some .int) [] (uz_i z) 0 0 0 [(0, .ref (ue_d E 38)), (1, .int x1)] [] mem := by
  rw [f_X8_draws] at h
  refine ug_aload_n 0 dX8_draws_0 rfl rfl ?_
  refine ug_aload_n 0 dX8_draws_1 rfl rfl ?_
  refine ug_getI kf_X8_433 gi_38_46 dX8_draws_2 ?_
  refine ug_ldcw kk_X8_436 dX8_draws_5 ?_
  refine ug_imul dX8_draws_8 ?_
  refine ug_sipush dX8_draws_9 un_sipush_12345 ?_
  refine ug_iadd dX8_draws_12 ?_
  refine ug_putI kp_X8_433 gi_38_46 dX8_draws_13 ?_
  refine ug_aload_n 0 dX8_draws_16 rfl rfl ?_
  refine ug_getI kf_X8_433 gi_38_46 dX8_draws_17 ?_
  refine ug_bipush dX8_draws_20 un_bipush_16 ?_
  refine ug_ishr dX8_draws_22 ?_
  refine ug_sipush dX8_draws_23 un_sipush_32767 ?_
  refine ug_iand dX8_draws_26 ?_
  refine ug_iload_n 1 dX8_draws_27 rfl rfl ?_
  obtain ⟨g1, h⟩ := ugd_some h
  refine ug_irem dX8_draws_28 (of_decide_eq_true g1) ?_
  obtain rfl := Option.some.inj h
  exact ug_iret dX8_draws_29
theorem c_X8_draws {l : Launch} {E : Ue} {mem : Um} {x1 : Int32} {m1 : Um} {r : Int32} (h : f_X8_draws  mem x1 = some (m1, r)) : ucr l E 2 0 0 yX8_draws cX8_draws 2 (some .int) [.ref (ue_d E 38), .int x1] mem (some (.int r)) m1 := ucr_of rfl (Nat.le_of_ble_eq_true rfl) (t_X8_draws  mem x1 _ h)
-- X8_afternoonGoes
def f_X8_afternoonGoes_b95 (k12 : Um → Int32 → Int32 → Int32 → Option (Um × Unit)) (mem : Um) (x2 : Int32) (x3 : Int32) (x4 : Int32) : Option (Um × Unit) :=
  ubi (f_X8_passes mem) (fun m1 r2 => k12 m1 x2 x3 (x4 + 1))
set_option maxRecDepth 20000 in
theorem t_X8_afternoonGoes_b95 {l : Launch} {E : Ue} (k12 : Um → Int32 → Int32 → Int32 → Option (Um × Unit)) (hk12 : ∀ (mem : Um) (x2 : Int32) (x3 : Int32) (x4 : Int32) (z : Um × Unit), k12 mem x2 x3 x4 = some z → ug l E 8 0 0 cX8_afternoonGoes 8 RX8 none [] (uz_v z) 0 0 12 [(0, .ref (ue_d E 38)), (2, .int x2), (3, .int x3), (4, .int x4)] [] mem) (mem : Um) (x2 : Int32) (x3 : Int32) (x4 : Int32) (z : Um × Unit) (h : f_X8_afternoonGoes_b95 k12 mem x2 x3 x4 = some z) : ug l E 8 0 0 cX8_afternoonGoes 8 RX8 none [] (uz_v z) 0 0 95 [(0, .ref (ue_d E 38)), (2, .int x2), (3, .int x3), (4, .int x4)] [] mem := by
  rw [f_X8_afternoonGoes_b95] at h
  refine ug_aload_n 0 dX8_afternoonGoes_95 rfl rfl ?_
  obtain ⟨m1, r2, h3, h⟩ := ubi_some h
  refine ug_callVv [] (c_X8_passes  h3) kc_X8_380 ro_38 rfl (S := []) rfl (Nat.le_of_ble_eq_true rfl) (Nat.le_of_ble_eq_true rfl) (Nat.le_of_ble_eq_true rfl) dX8_afternoonGoes_96 ?_
  refine ug_iinc (v := (x4 + 1)) [(4, .int (x4 + 1)), (0, .ref (ue_d E 38)), (2, .int x2), (3, .int x3)] 3 dX8_afternoonGoes_99 rfl rfl (Nat.le_of_ble_eq_true rfl) rfl ?_
  refine ug_goto 12 dX8_afternoonGoes_102 (by decide) ?_
  refine ug_sub [(0, .ref (ue_d E 38)), (2, .int x2), (3, .int x3), (4, .int (x4 + 1))] [1, 2, 3, 0] rfl ?_
  exact hk12 m1 x2 x3 (x4 + 1) _ h
def f_X8_afternoonGoes_b91 (k12 : Um → Int32 → Int32 → Int32 → Option (Um × Unit)) (mem : Um) (x2 : Int32) (x3 : Int32) (x4 : Int32) (y0 : Int32) : Option (Um × Unit) :=
  ubi (f_X8_isDriven mem y0) (fun m1 r2 => f_X8_afternoonGoes_b95 k12 m1 x2 x3 x4)
set_option maxRecDepth 20000 in
theorem t_X8_afternoonGoes_b91 {l : Launch} {E : Ue} (k12 : Um → Int32 → Int32 → Int32 → Option (Um × Unit)) (hk12 : ∀ (mem : Um) (x2 : Int32) (x3 : Int32) (x4 : Int32) (z : Um × Unit), k12 mem x2 x3 x4 = some z → ug l E 8 0 0 cX8_afternoonGoes 8 RX8 none [] (uz_v z) 0 0 12 [(0, .ref (ue_d E 38)), (2, .int x2), (3, .int x3), (4, .int x4)] [] mem) (mem : Um) (x2 : Int32) (x3 : Int32) (x4 : Int32) (y0 : Int32) (z : Um × Unit) (h : f_X8_afternoonGoes_b91 k12 mem x2 x3 x4 y0 = some z) : ug l E 8 0 0 cX8_afternoonGoes 8 RX8 none [] (uz_v z) 0 0 91 [(0, .ref (ue_d E 38)), (2, .int x2), (3, .int x3), (4, .int x4)] [.int y0, .ref (ue_d E 38)] mem := by
  rw [f_X8_afternoonGoes_b91] at h
  obtain ⟨m1, r2, h3, h⟩ := ubi_some h
  refine ug_callVi [.int y0] (c_X8_isDriven  h3) kc_X8_371 ro_38 rfl (S := []) rfl (Nat.le_of_ble_eq_true rfl) (Nat.le_of_ble_eq_true rfl) (Nat.le_of_ble_eq_true rfl) dX8_afternoonGoes_91 ?_
  refine ug_pop dX8_afternoonGoes_94 rfl ?_
  exact t_X8_afternoonGoes_b95 k12 hk12 m1 x2 x3 x4 _ h
def f_X8_afternoonGoes_b65 (k12 : Um → Int32 → Int32 → Int32 → Option (Um × Unit)) (mem : Um) (x2 : Int32) (x3 : Int32) (x4 : Int32) (y0 : Int32) : Option (Um × Unit) :=
  ubi (f_X8_draws mem 20) (fun m1 r2 => if y0 = 0 then (f_X8_afternoonGoes_b91 k12 m1 x2 x3 x4 (-(1 + r2))) else (f_X8_afternoonGoes_b91 k12 m1 x2 x3 x4 (1 + r2)))
set_option maxRecDepth 20000 in
theorem t_X8_afternoonGoes_b65 {l : Launch} {E : Ue} (k12 : Um → Int32 → Int32 → Int32 → Option (Um × Unit)) (hk12 : ∀ (mem : Um) (x2 : Int32) (x3 : Int32) (x4 : Int32) (z : Um × Unit), k12 mem x2 x3 x4 = some z → ug l E 8 0 0 cX8_afternoonGoes 8 RX8 none [] (uz_v z) 0 0 12 [(0, .ref (ue_d E 38)), (2, .int x2), (3, .int x3), (4, .int x4)] [] mem) (mem : Um) (x2 : Int32) (x3 : Int32) (x4 : Int32) (y0 : Int32) (z : Um × Unit) (h : f_X8_afternoonGoes_b65 k12 mem x2 x3 x4 y0 = some z) : ug l E 8 0 0 cX8_afternoonGoes 8 RX8 none [] (uz_v z) 0 0 65 [(0, .ref (ue_d E 38)), (2, .int x2), (3, .int x3), (4, .int x4)] [.int y0] mem := by
  rw [f_X8_afternoonGoes_b65] at h
  refine ug_istore [(6, .int y0), (0, .ref (ue_d E 38)), (2, .int x2), (3, .int x3), (4, .int x4)] dX8_afternoonGoes_65 (Nat.le_of_ble_eq_true rfl) rfl ?_
  refine ug_iconst dX8_afternoonGoes_67 un_iconst_1 ?_
  refine ug_aload_n 1 dX8_afternoonGoes_68 rfl rfl ?_
  refine ug_bipush dX8_afternoonGoes_69 un_bipush_20 ?_
  obtain ⟨m1, r2, h3, h⟩ := ubi_some h
  refine ug_callVi [.int 20] (c_X8_draws  h3) kc_X8_437 ro_38 rfl (S := [.int 1]) rfl (Nat.le_of_ble_eq_true rfl) (Nat.le_of_ble_eq_true rfl) (Nat.le_of_ble_eq_true rfl) dX8_afternoonGoes_71 ?_
  refine ug_iadd dX8_afternoonGoes_74 ?_
  refine ug_istore [(7, .int (1 + r2)), (6, .int y0), (0, .ref (ue_d E 38)), (2, .int x2), (3, .int x3), (4, .int x4)] dX8_afternoonGoes_75 (Nat.le_of_ble_eq_true rfl) rfl ?_
  refine ug_aload_n 2 dX8_afternoonGoes_77 rfl rfl ?_
  refine ug_iload 1 dX8_afternoonGoes_78 rfl ?_
  refine ug_if_eq 88 dX8_afternoonGoes_80 (by decide) (fun q4 => ?_) (fun q4 => ?_)
  · rw [if_pos q4] at h
    refine ug_iload 0 dX8_afternoonGoes_88 rfl ?_
    refine ug_ineg dX8_afternoonGoes_90 ?_
    refine ug_sub [(0, .ref (ue_d E 38)), (2, .int x2), (3, .int x3), (4, .int x4)] [2, 3, 4, 5] rfl ?_
    exact t_X8_afternoonGoes_b91 k12 hk12 m1 x2 x3 x4 (-(1 + r2)) _ h
  · rw [if_neg q4] at h
    refine ug_iload 0 dX8_afternoonGoes_83 rfl ?_
    refine ug_goto 91 dX8_afternoonGoes_85 (by decide) ?_
    refine ug_sub [(0, .ref (ue_d E 38)), (2, .int x2), (3, .int x3), (4, .int x4)] [2, 3, 4, 5] rfl ?_
    exact t_X8_afternoonGoes_b91 k12 hk12 m1 x2 x3 x4 (1 + r2) _ h
def f_X8_afternoonGoes_b12 : Nat → Um → Int32 → Int32 → Int32 → Option (Um × Unit)
  | 0, _, _, _, _ => none
  | n + 1, mem, x2, x3, x4 =>
    if x3 ≤ x4 then (some (mem, ())) else (if (mem 38 18) ≤ 0 then (f_X8_afternoonGoes_b95 (f_X8_afternoonGoes_b12  n) mem x2 x3 x4) else (ubi (f_X8_draws mem (mem 38 18)) (fun m3 r4 => ubi (f_X8_draws m3 20) (fun m6 r7 => ubi (f_X8_isBlown m6 r4 (1 + r7)) (fun m9 r10 => ubi (f_X8_draws m9 16) (fun m12 r13 => if x2 ≤ r13 then (f_X8_afternoonGoes_b65 (f_X8_afternoonGoes_b12  n) m12 x2 x3 x4 0) else (f_X8_afternoonGoes_b65 (f_X8_afternoonGoes_b12  n) m12 x2 x3 x4 1)))))))
set_option maxRecDepth 20000 in
theorem t_X8_afternoonGoes_b12 {l : Launch} {E : Ue} : ∀ (n : Nat) (mem : Um) (x2 : Int32) (x3 : Int32) (x4 : Int32) (z : Um × Unit), f_X8_afternoonGoes_b12  n mem x2 x3 x4 = some z → ug l E 8 0 0 cX8_afternoonGoes 8 RX8 none [] (uz_v z) 0 0 12 [(0, .ref (ue_d E 38)), (2, .int x2), (3, .int x3), (4, .int x4)] [] mem := by
  intro n
  induction n with
  | zero =>
    intro mem x2 x3 x4 z h
    rw [f_X8_afternoonGoes_b12] at h
    cases h
  | succ n ih =>
    intro mem x2 x3 x4 z h
    rw [f_X8_afternoonGoes_b12] at h
    refine ug_iload 3 dX8_afternoonGoes_12 rfl ?_
    refine ug_iload_n 2 dX8_afternoonGoes_14 rfl rfl ?_
    refine ug_icmp_ge 105 dX8_afternoonGoes_15 (by decide) (fun q1 => ?_) (fun q1 => ?_)
    · rw [if_pos q1] at h
      obtain rfl := Option.some.inj h
      exact ug_vret dX8_afternoonGoes_105
    · rw [if_neg q1] at h
      refine ug_aload_n 0 dX8_afternoonGoes_18 rfl rfl ?_
      refine ug_getI kf_X8_154 gi_38_18 dX8_afternoonGoes_19 ?_
      refine ug_if_le 95 dX8_afternoonGoes_22 (by decide) (fun q2 => ?_) (fun q2 => ?_)
      · rw [if_pos q2] at h
        exact t_X8_afternoonGoes_b95 (f_X8_afternoonGoes_b12  n) ih mem x2 x3 x4 _ h
      · rw [if_neg q2] at h
        refine ug_aload_n 0 dX8_afternoonGoes_25 rfl rfl ?_
        refine ug_aload_n 0 dX8_afternoonGoes_26 rfl rfl ?_
        refine ug_getI kf_X8_154 gi_38_18 dX8_afternoonGoes_27 ?_
        obtain ⟨m3, r4, h5, h⟩ := ubi_some h
        refine ug_callVi [.int (mem 38 18)] (c_X8_draws  h5) kc_X8_437 ro_38 rfl (S := []) rfl (Nat.le_of_ble_eq_true rfl) (Nat.le_of_ble_eq_true rfl) (Nat.le_of_ble_eq_true rfl) dX8_afternoonGoes_30 ?_
        refine ug_istore [(5, .int r4), (0, .ref (ue_d E 38)), (2, .int x2), (3, .int x3), (4, .int x4)] dX8_afternoonGoes_33 (Nat.le_of_ble_eq_true rfl) rfl ?_
        refine ug_aload_n 1 dX8_afternoonGoes_35 rfl rfl ?_
        refine ug_iload 0 dX8_afternoonGoes_36 rfl ?_
        refine ug_iconst dX8_afternoonGoes_38 un_iconst_1 ?_
        refine ug_aload_n 1 dX8_afternoonGoes_39 rfl rfl ?_
        refine ug_bipush dX8_afternoonGoes_40 un_bipush_20 ?_
        obtain ⟨m6, r7, h8, h⟩ := ubi_some h
        refine ug_callVi [.int 20] (c_X8_draws  h8) kc_X8_437 ro_38 rfl (S := [.int 1, .int r4, .ref (ue_d E 38)]) rfl (Nat.le_of_ble_eq_true rfl) (Nat.le_of_ble_eq_true rfl) (Nat.le_of_ble_eq_true rfl) dX8_afternoonGoes_42 ?_
        refine ug_iadd dX8_afternoonGoes_45 ?_
        obtain ⟨m9, r10, h11, h⟩ := ubi_some h
        refine ug_callVi [.int r4, .int (1 + r7)] (c_X8_isBlown  h11) kc_X8_368 ro_38 rfl (S := []) rfl (Nat.le_of_ble_eq_true rfl) (Nat.le_of_ble_eq_true rfl) (Nat.le_of_ble_eq_true rfl) dX8_afternoonGoes_46 ?_
        refine ug_pop dX8_afternoonGoes_49 rfl ?_
        refine ug_aload_n 1 dX8_afternoonGoes_50 rfl rfl ?_
        refine ug_bipush dX8_afternoonGoes_51 un_bipush_16 ?_
        obtain ⟨m12, r13, h14, h⟩ := ubi_some h
        refine ug_callVi [.int 16] (c_X8_draws  h14) kc_X8_437 ro_38 rfl (S := []) rfl (Nat.le_of_ble_eq_true rfl) (Nat.le_of_ble_eq_true rfl) (Nat.le_of_ble_eq_true rfl) dX8_afternoonGoes_53 ?_
        refine ug_iload_n 2 dX8_afternoonGoes_56 rfl rfl ?_
        refine ug_icmp_ge 64 dX8_afternoonGoes_57 (by decide) (fun q15 => ?_) (fun q15 => ?_)
        · rw [if_pos q15] at h
          refine ug_iconst dX8_afternoonGoes_64 un_iconst_0 ?_
          refine ug_sub [(0, .ref (ue_d E 38)), (2, .int x2), (3, .int x3), (4, .int x4)] [1, 2, 3, 4] rfl ?_
          exact t_X8_afternoonGoes_b65 (f_X8_afternoonGoes_b12  n) ih m12 x2 x3 x4 0 _ h
        · rw [if_neg q15] at h
          refine ug_iconst dX8_afternoonGoes_60 un_iconst_1 ?_
          refine ug_goto 65 dX8_afternoonGoes_61 (by decide) ?_
          refine ug_sub [(0, .ref (ue_d E 38)), (2, .int x2), (3, .int x3), (4, .int x4)] [1, 2, 3, 4] rfl ?_
          exact t_X8_afternoonGoes_b65 (f_X8_afternoonGoes_b12  n) ih m12 x2 x3 x4 1 _ h
def f_X8_afternoonGoes (mem : Um) (x1 : Int32) (x2 : Int32) (x3 : Int32) : Option (Um × Unit) :=
  ubi (f_X8_take mem) (fun m1 r2 => f_X8_afternoonGoes_b12  UF (um_w m1 38 46 x1) x2 x3 0)
set_option maxRecDepth 20000 in
theorem t_X8_afternoonGoes {l : Launch} {E : Ue} (mem : Um) (x1 : Int32) (x2 : Int32) (x3 : Int32) (z : Um × Unit) (h : f_X8_afternoonGoes  mem x1 x2 x3 = some z) : ug l E 8 0 0 cX8_afternoonGoes 8 RX8 none [] (uz_v z) 0 0 0 [(0, .ref (ue_d E 38)), (1, .int x1), (2, .int x2), (3, .int x3)] [] mem := by
  rw [f_X8_afternoonGoes] at h
  refine ug_aload_n 0 dX8_afternoonGoes_0 rfl rfl ?_
  obtain ⟨m1, r2, h3, h⟩ := ubi_some h
  refine ug_callVv [] (c_X8_take  h3) kc_X8_302 ro_38 rfl (S := []) rfl (Nat.le_of_ble_eq_true rfl) (Nat.le_of_ble_eq_true rfl) (Nat.le_of_ble_eq_true rfl) dX8_afternoonGoes_1 ?_
  refine ug_aload_n 0 dX8_afternoonGoes_4 rfl rfl ?_
  refine ug_iload_n 1 dX8_afternoonGoes_5 rfl rfl ?_
  refine ug_putI kp_X8_433 gi_38_46 dX8_afternoonGoes_6 ?_
  refine ug_iconst dX8_afternoonGoes_9 un_iconst_0 ?_
  refine ug_istore [(4, .int 0), (0, .ref (ue_d E 38)), (1, .int x1), (2, .int x2), (3, .int x3)] dX8_afternoonGoes_10 (Nat.le_of_ble_eq_true rfl) rfl ?_
  refine ug_sub [(0, .ref (ue_d E 38)), (2, .int x2), (3, .int x3), (4, .int 0)] [1, 3, 4, 0] rfl ?_
  exact t_X8_afternoonGoes_b12  UF (um_w m1 38 46 x1) x2 x3 0 _ h
theorem c_X8_afternoonGoes {l : Launch} {E : Ue} {mem : Um} {x1 : Int32} {x2 : Int32} {x3 : Int32} {m1 : Um} {r : Unit} (h : f_X8_afternoonGoes  mem x1 x2 x3 = some (m1, r)) : ucr l E 8 0 0 yX8_afternoonGoes cX8_afternoonGoes 8 none [.ref (ue_d E 38), .int x1, .int x2, .int x3] mem none m1 := ucr_of rfl (Nat.le_of_ble_eq_true rfl) (t_X8_afternoonGoes  mem x1 x2 x3 _ h)
-- X8_isAfternoon
def f_X8_isAfternoon_b26 (mem : Um) (y0 : Int32) : Option (Um × Int32) :=
  ugd (ub01 y0) (some (mem, y0))
set_option maxRecDepth 20000 in
theorem t_X8_isAfternoon_b26 {l : Launch} {E : Ue} (mem : Um) (y0 : Int32) (z : Um × Int32) (h : f_X8_isAfternoon_b26  mem y0 = some z) : ug l E 2 0 0 cX8_isAfternoon 2 RX8 (some .boolean) [] (uz_i z) 0 0 26 [] [.int y0] mem := by
  rw [f_X8_isAfternoon_b26] at h
  obtain ⟨g1, h⟩ := ugd_some h
  obtain rfl := Option.some.inj h
  exact ug_zret (of_decide_eq_true g1) dX8_isAfternoon_26
def f_X8_isAfternoon_b25 (mem : Um) : Option (Um × Int32) :=
  f_X8_isAfternoon_b26 mem 0
set_option maxRecDepth 20000 in
theorem t_X8_isAfternoon_b25 {l : Launch} {E : Ue} (mem : Um) (z : Um × Int32) (h : f_X8_isAfternoon_b25  mem  = some z) : ug l E 2 0 0 cX8_isAfternoon 2 RX8 (some .boolean) [] (uz_i z) 0 0 25 [] [] mem := by
  rw [f_X8_isAfternoon_b25] at h
  refine ug_iconst dX8_isAfternoon_25 un_iconst_0 ?_
  exact t_X8_isAfternoon_b26 mem 0 _ h
def f_X8_isAfternoon (mem : Um) (x0 : Int32) (x1 : Int32) : Option (Um × Int32) :=
  if x0 < 0 then (f_X8_isAfternoon_b25 mem) else (if 16 < x0 then (f_X8_isAfternoon_b25 mem) else (if x1 < 1 then (f_X8_isAfternoon_b25 mem) else (if 48 < x1 then (f_X8_isAfternoon_b25 mem) else (f_X8_isAfternoon_b26 mem 1))))
set_option maxRecDepth 20000 in
theorem t_X8_isAfternoon {l : Launch} {E : Ue} (mem : Um) (x0 : Int32) (x1 : Int32) (z : Um × Int32) (h : f_X8_isAfternoon  mem x0 x1 = some z) : ug l E 2 0 0 cX8_isAfternoon 2 RX8 (some .boolean) [] (uz_i z) 0 0 0 [(0, .int x0), (1, .int x1)] [] mem := by
  rw [f_X8_isAfternoon] at h
  refine ug_iload_n 0 dX8_isAfternoon_0 rfl rfl ?_
  refine ug_if_lt 25 dX8_isAfternoon_1 (by decide) (fun q1 => ?_) (fun q1 => ?_)
  · rw [if_pos q1] at h
    refine ug_sub [] [] rfl ?_
    exact t_X8_isAfternoon_b25 mem  _ h
  · rw [if_neg q1] at h
    refine ug_iload_n 0 dX8_isAfternoon_4 rfl rfl ?_
    refine ug_bipush dX8_isAfternoon_5 un_bipush_16 ?_
    refine ug_icmp_gt 25 dX8_isAfternoon_7 (by decide) (fun q2 => ?_) (fun q2 => ?_)
    · rw [if_pos q2] at h
      refine ug_sub [] [] rfl ?_
      exact t_X8_isAfternoon_b25 mem  _ h
    · rw [if_neg q2] at h
      refine ug_iload_n 1 dX8_isAfternoon_10 rfl rfl ?_
      refine ug_iconst dX8_isAfternoon_11 un_iconst_1 ?_
      refine ug_icmp_lt 25 dX8_isAfternoon_12 (by decide) (fun q3 => ?_) (fun q3 => ?_)
      · rw [if_pos q3] at h
        refine ug_sub [] [] rfl ?_
        exact t_X8_isAfternoon_b25 mem  _ h
      · rw [if_neg q3] at h
        refine ug_iload_n 1 dX8_isAfternoon_15 rfl rfl ?_
        refine ug_bipush dX8_isAfternoon_16 un_bipush_48 ?_
        refine ug_icmp_gt 25 dX8_isAfternoon_18 (by decide) (fun q4 => ?_) (fun q4 => ?_)
        · rw [if_pos q4] at h
          refine ug_sub [] [] rfl ?_
          exact t_X8_isAfternoon_b25 mem  _ h
        · rw [if_neg q4] at h
          refine ug_iconst dX8_isAfternoon_21 un_iconst_1 ?_
          refine ug_goto 26 dX8_isAfternoon_22 (by decide) ?_
          refine ug_sub [] [] rfl ?_
          exact t_X8_isAfternoon_b26 mem 1 _ h
theorem c_X8_isAfternoon {l : Launch} {E : Ue} {mem : Um} {x0 : Int32} {x1 : Int32} {m1 : Um} {r : Int32} (h : f_X8_isAfternoon  mem x0 x1 = some (m1, r)) : ucr l E 2 0 0 yX8_isAfternoon cX8_isAfternoon 2 (some .boolean) [.int x0, .int x1] mem (some (.int r)) m1 := ucr_of rfl (Nat.le_of_ble_eq_true rfl) (t_X8_isAfternoon  mem x0 x1 _ h)
-- X8_afternoon
def f_X8_afternoon_b110 (mem : Um) (y0 : Int32) : Option (Um × Int32) :=
  some (mem, y0)
set_option maxRecDepth 20000 in
theorem t_X8_afternoon_b110 {l : Launch} {E : Ue} (mem : Um) (y0 : Int32) (z : Um × Int32) (h : f_X8_afternoon_b110  mem y0 = some z) : ug l E 9 0 0 cX8_afternoon 5 RX8 (some .int) [] (uz_i z) 0 0 110 [] [.int y0] mem := by
  rw [f_X8_afternoon_b110] at h
  obtain rfl := Option.some.inj h
  exact ug_iret dX8_afternoon_110
def f_X8_afternoon_b29 (mem : Um) (x1 : Int32) (x2 : Int32) (x3 : Int32) (x4 : Int32) (y0 : Int32) : Option (Um × Int32) :=
  ubi (f_X8_may mem y0 1 1) (fun m1 r2 => if r2 = 0 then (some (m1, 0)) else (ubi (f_X8_afternoonGoes m1 x1 x2 x3) (fun m5 r6 => if x4 = 0 then (ubi (f_X8_withBubbles m5) (fun m14 r15 => f_X8_afternoon_b110 m14 r15)) else (if x4 = 1 then (f_X8_afternoon_b110 m5 ((m5 54 25) - (m5 53 25))) else (if x4 = 2 then (f_X8_afternoon_b110 m5 ((m5 54 26) - (m5 53 26))) else (ubi (f_X8_worthAll m5) (fun m11 r12 => f_X8_afternoon_b110 m11 r12)))))))
set_option maxRecDepth 20000 in
theorem t_X8_afternoon_b29 {l : Launch} {E : Ue} (mem : Um) (x1 : Int32) (x2 : Int32) (x3 : Int32) (x4 : Int32) (y0 : Int32) (z : Um × Int32) (h : f_X8_afternoon_b29  mem x1 x2 x3 x4 y0 = some z) : ug l E 9 0 0 cX8_afternoon 5 RX8 (some .int) [] (uz_i z) 0 0 29 [(0, .ref (ue_d E 38)), (1, .int x1), (2, .int x2), (3, .int x3), (4, .int x4)] [.int y0, .ref (ue_d E 38)] mem := by
  rw [f_X8_afternoon_b29] at h
  refine ug_iconst dX8_afternoon_29 un_iconst_1 ?_
  refine ug_iconst dX8_afternoon_30 un_iconst_1 ?_
  obtain ⟨m1, r2, h3, h⟩ := ubi_some h
  refine ug_callVi [.int y0, .int 1, .int 1] (c_X8_may  h3) kc_X8_190 ro_38 rfl (S := []) rfl (Nat.le_of_ble_eq_true rfl) (Nat.le_of_ble_eq_true rfl) (Nat.le_of_ble_eq_true rfl) dX8_afternoon_31 ?_
  refine ug_if_ne 39 dX8_afternoon_34 (by decide) (fun q4 => ?_) (fun q4 => ?_)
  · rw [if_neg q4] at h
    refine ug_aload_n 0 dX8_afternoon_39 rfl rfl ?_
    refine ug_iload_n 1 dX8_afternoon_40 rfl rfl ?_
    refine ug_iload_n 2 dX8_afternoon_41 rfl rfl ?_
    refine ug_iload_n 3 dX8_afternoon_42 rfl rfl ?_
    obtain ⟨m5, r6, h7, h⟩ := ubi_some h
    refine ug_callVv [.int x1, .int x2, .int x3] (c_X8_afternoonGoes  h7) kc_X8_443 ro_38 rfl (S := []) rfl (Nat.le_of_ble_eq_true rfl) (Nat.le_of_ble_eq_true rfl) (Nat.le_of_ble_eq_true rfl) dX8_afternoon_43 ?_
    refine ug_iload 4 dX8_afternoon_46 rfl ?_
    refine ug_if_ne 58 dX8_afternoon_48 (by decide) (fun q8 => ?_) (fun q8 => ?_)
    · rw [if_neg q8] at h
      refine ug_iload 4 dX8_afternoon_58 rfl ?_
      refine ug_iconst dX8_afternoon_60 un_iconst_1 ?_
      refine ug_icmp_ne 82 dX8_afternoon_61 (by decide) (fun q9 => ?_) (fun q9 => ?_)
      · rw [if_neg q9] at h
        refine ug_iload 4 dX8_afternoon_82 rfl ?_
        refine ug_iconst dX8_afternoon_84 un_iconst_2 ?_
        refine ug_icmp_ne 106 dX8_afternoon_85 (by decide) (fun q10 => ?_) (fun q10 => ?_)
        · rw [if_neg q10] at h
          refine ug_aload_n 0 dX8_afternoon_106 rfl rfl ?_
          obtain ⟨m11, r12, h13, h⟩ := ubi_some h
          refine ug_callVi [] (c_X8_worthAll  h13) kc_X8_386 ro_38 rfl (S := []) rfl (Nat.le_of_ble_eq_true rfl) (Nat.le_of_ble_eq_true rfl) (Nat.le_of_ble_eq_true rfl) dX8_afternoon_107 ?_
          refine ug_sub [] [] rfl ?_
          exact t_X8_afternoon_b110 m11 r12 _ h
        · rw [if_pos q10] at h
          refine ug_aload_n 0 dX8_afternoon_88 rfl rfl ?_
          refine ug_getR kf_X8_62 gr_38_37 dX8_afternoon_89 ?_
          refine ug_bipush dX8_afternoon_92 un_bipush_26 ?_
          refine ug_ialdK al_54 ui_26_28 uc_26 dX8_afternoon_94 ?_
          refine ug_aload_n 0 dX8_afternoon_95 rfl rfl ?_
          refine ug_getR kf_X8_59 gr_38_36 dX8_afternoon_96 ?_
          refine ug_bipush dX8_afternoon_99 un_bipush_26 ?_
          refine ug_ialdK al_53 ui_26_28 uc_26 dX8_afternoon_101 ?_
          refine ug_isub dX8_afternoon_102 ?_
          refine ug_goto 110 dX8_afternoon_103 (by decide) ?_
          refine ug_sub [] [] rfl ?_
          exact t_X8_afternoon_b110 m5 ((m5 54 26) - (m5 53 26)) _ h
      · rw [if_pos q9] at h
        refine ug_aload_n 0 dX8_afternoon_64 rfl rfl ?_
        refine ug_getR kf_X8_62 gr_38_37 dX8_afternoon_65 ?_
        refine ug_bipush dX8_afternoon_68 un_bipush_25 ?_
        refine ug_ialdK al_54 ui_25_28 uc_25 dX8_afternoon_70 ?_
        refine ug_aload_n 0 dX8_afternoon_71 rfl rfl ?_
        refine ug_getR kf_X8_59 gr_38_36 dX8_afternoon_72 ?_
        refine ug_bipush dX8_afternoon_75 un_bipush_25 ?_
        refine ug_ialdK al_53 ui_25_28 uc_25 dX8_afternoon_77 ?_
        refine ug_isub dX8_afternoon_78 ?_
        refine ug_goto 110 dX8_afternoon_79 (by decide) ?_
        refine ug_sub [] [] rfl ?_
        exact t_X8_afternoon_b110 m5 ((m5 54 25) - (m5 53 25)) _ h
    · rw [if_pos q8] at h
      refine ug_aload_n 0 dX8_afternoon_51 rfl rfl ?_
      obtain ⟨m14, r15, h16, h⟩ := ubi_some h
      refine ug_callVi [] (c_X8_withBubbles  h16) kc_X8_356 ro_38 rfl (S := []) rfl (Nat.le_of_ble_eq_true rfl) (Nat.le_of_ble_eq_true rfl) (Nat.le_of_ble_eq_true rfl) dX8_afternoon_52 ?_
      refine ug_goto 110 dX8_afternoon_55 (by decide) ?_
      refine ug_sub [] [] rfl ?_
      exact t_X8_afternoon_b110 m14 r15 _ h
  · rw [if_pos q4] at h
    refine ug_iconst dX8_afternoon_37 un_iconst_0 ?_
    obtain rfl := Option.some.inj h
    exact ug_iret dX8_afternoon_38
def f_X8_afternoon_b28 (mem : Um) (x1 : Int32) (x2 : Int32) (x3 : Int32) (x4 : Int32) : Option (Um × Int32) :=
  f_X8_afternoon_b29 mem x1 x2 x3 x4 0
set_option maxRecDepth 20000 in
theorem t_X8_afternoon_b28 {l : Launch} {E : Ue} (mem : Um) (x1 : Int32) (x2 : Int32) (x3 : Int32) (x4 : Int32) (z : Um × Int32) (h : f_X8_afternoon_b28  mem x1 x2 x3 x4 = some z) : ug l E 9 0 0 cX8_afternoon 5 RX8 (some .int) [] (uz_i z) 0 0 28 [(0, .ref (ue_d E 38)), (1, .int x1), (2, .int x2), (3, .int x3), (4, .int x4)] [.ref (ue_d E 38)] mem := by
  rw [f_X8_afternoon_b28] at h
  refine ug_iconst dX8_afternoon_28 un_iconst_0 ?_
  exact t_X8_afternoon_b29 mem x1 x2 x3 x4 0 _ h
def f_X8_afternoon (mem : Um) (x1 : Int32) (x2 : Int32) (x3 : Int32) (x4 : Int32) : Option (Um × Int32) :=
  ubi (f_X8_isAfternoon (um_w mem 38 0 0) x2 x3) (fun m1 r2 => if r2 = 0 then (f_X8_afternoon_b28 m1 x1 x2 x3 x4) else (ubi (f_X8_within m1 x4 0 3) (fun m5 r6 => if r6 = 0 then (f_X8_afternoon_b28 m5 x1 x2 x3 x4) else (f_X8_afternoon_b29 m5 x1 x2 x3 x4 1))))
set_option maxRecDepth 20000 in
theorem t_X8_afternoon {l : Launch} {E : Ue} (mem : Um) (x1 : Int32) (x2 : Int32) (x3 : Int32) (x4 : Int32) (z : Um × Int32) (h : f_X8_afternoon  mem x1 x2 x3 x4 = some z) : ug l E 9 0 0 cX8_afternoon 5 RX8 (some .int) [] (uz_i z) 0 0 0 [(0, .ref (ue_d E 38)), (1, .int x1), (2, .int x2), (3, .int x3), (4, .int x4)] [] mem := by
  rw [f_X8_afternoon] at h
  refine ug_aload_n 0 dX8_afternoon_0 rfl rfl ?_
  refine ug_iconst dX8_afternoon_1 un_iconst_0 ?_
  refine ug_putI kp_X8_3 gi_38_0 dX8_afternoon_2 ?_
  refine ug_aload_n 0 dX8_afternoon_5 rfl rfl ?_
  refine ug_iload_n 2 dX8_afternoon_6 rfl rfl ?_
  refine ug_iload_n 3 dX8_afternoon_7 rfl rfl ?_
  obtain ⟨m1, r2, h3, h⟩ := ubi_some h
  refine ug_callSi [.int x2, .int x3] (c_X8_isAfternoon  h3) kc_X8_440 rfl (S := [.ref (ue_d E 38)]) rfl (Nat.le_of_ble_eq_true rfl) (Nat.le_of_ble_eq_true rfl) (Nat.le_of_ble_eq_true rfl) dX8_afternoon_8 ?_
  refine ug_if_eq 28 dX8_afternoon_11 (by decide) (fun q4 => ?_) (fun q4 => ?_)
  · rw [if_pos q4] at h
    exact t_X8_afternoon_b28 m1 x1 x2 x3 x4 _ h
  · rw [if_neg q4] at h
    refine ug_iload 4 dX8_afternoon_14 rfl ?_
    refine ug_iconst dX8_afternoon_16 un_iconst_0 ?_
    refine ug_iconst dX8_afternoon_17 un_iconst_3 ?_
    obtain ⟨m5, r6, h7, h⟩ := ubi_some h
    refine ug_callSi [.int x4, .int 0, .int 3] (c_X8_within  h7) kc_X8_352 rfl (S := [.ref (ue_d E 38)]) rfl (Nat.le_of_ble_eq_true rfl) (Nat.le_of_ble_eq_true rfl) (Nat.le_of_ble_eq_true rfl) dX8_afternoon_18 ?_
    refine ug_if_eq 28 dX8_afternoon_21 (by decide) (fun q8 => ?_) (fun q8 => ?_)
    · rw [if_pos q8] at h
      exact t_X8_afternoon_b28 m5 x1 x2 x3 x4 _ h
    · rw [if_neg q8] at h
      refine ug_iconst dX8_afternoon_24 un_iconst_1 ?_
      refine ug_goto 29 dX8_afternoon_25 (by decide) ?_
      exact t_X8_afternoon_b29 m5 x1 x2 x3 x4 1 _ h
theorem c_X8_afternoon {l : Launch} {E : Ue} {mem : Um} {x1 : Int32} {x2 : Int32} {x3 : Int32} {x4 : Int32} {m1 : Um} {r : Int32} (h : f_X8_afternoon  mem x1 x2 x3 x4 = some (m1, r)) : ucr l E 9 0 0 yX8_afternoon cX8_afternoon 5 (some .int) [.ref (ue_d E 38), .int x1, .int x2, .int x3, .int x4] mem (some (.int r)) m1 := ucr_of rfl (Nat.le_of_ble_eq_true rfl) (t_X8_afternoon  mem x1 x2 x3 x4 _ h)
-- X8_span
def f_X8_span_b201 (mem : Um) (y0 : Int32) : Option (Um × Int32) :=
  some (mem, y0)
set_option maxRecDepth 20000 in
theorem t_X8_span_b201 {l : Launch} {E : Ue} (mem : Um) (y0 : Int32) (z : Um × Int32) (h : f_X8_span_b201  mem y0 = some z) : ug l E 9 0 0 cX8_span 12 RX8 (some .int) [] (uz_i z) 0 0 201 [] [.int y0] mem := by
  rw [f_X8_span_b201] at h
  obtain rfl := Option.some.inj h
  exact ug_iret dX8_span_201
def f_X8_span_b169 (k77 : Um → Int32 → Int32 → Int32 → Int32 → Int32 → Int32 → Int32 → Int32 → Int32 → Int32 → Option (Um × Int32)) (mem : Um) (x1 : Int32) (x2 : Int32) (x3 : Int32) (x4 : Int32) (x5 : Int32) (x6 : Int32) (x7 : Int32) (x8 : Int32) (x10 : Int32) (y0 : Int32) (y1 : Int32) : Option (Um × Int32) :=
  k77 mem x1 x2 x3 x4 x5 x6 x7 x8 (y1 + y0) (x10 + 1)
set_option maxRecDepth 20000 in
theorem t_X8_span_b169 {l : Launch} {E : Ue} (k77 : Um → Int32 → Int32 → Int32 → Int32 → Int32 → Int32 → Int32 → Int32 → Int32 → Int32 → Option (Um × Int32)) (hk77 : ∀ (mem : Um) (x1 : Int32) (x2 : Int32) (x3 : Int32) (x4 : Int32) (x5 : Int32) (x6 : Int32) (x7 : Int32) (x8 : Int32) (x9 : Int32) (x10 : Int32) (z : Um × Int32), k77 mem x1 x2 x3 x4 x5 x6 x7 x8 x9 x10 = some z → ug l E 9 0 0 cX8_span 12 RX8 (some .int) [] (uz_i z) 0 0 77 [(0, .ref (ue_d E 38)), (1, .int x1), (2, .int x2), (3, .int x3), (4, .int x4), (5, .int x5), (6, .int x6), (7, .int x7), (8, .int x8), (9, .int x9), (10, .int x10)] [] mem) (mem : Um) (x1 : Int32) (x2 : Int32) (x3 : Int32) (x4 : Int32) (x5 : Int32) (x6 : Int32) (x7 : Int32) (x8 : Int32) (x10 : Int32) (y0 : Int32) (y1 : Int32) (z : Um × Int32) (h : f_X8_span_b169 k77 mem x1 x2 x3 x4 x5 x6 x7 x8 x10 y0 y1 = some z) : ug l E 9 0 0 cX8_span 12 RX8 (some .int) [] (uz_i z) 0 0 169 [(0, .ref (ue_d E 38)), (1, .int x1), (2, .int x2), (3, .int x3), (4, .int x4), (5, .int x5), (6, .int x6), (7, .int x7), (8, .int x8), (10, .int x10)] [.int y0, .int y1] mem := by
  rw [f_X8_span_b169] at h
  refine ug_iadd dX8_span_169 ?_
  refine ug_istore [(9, .int (y1 + y0)), (0, .ref (ue_d E 38)), (1, .int x1), (2, .int x2), (3, .int x3), (4, .int x4), (5, .int x5), (6, .int x6), (7, .int x7), (8, .int x8), (10, .int x10)] dX8_span_170 (Nat.le_of_ble_eq_true rfl) rfl ?_
  refine ug_iinc (v := (x10 + 1)) [(10, .int (x10 + 1)), (9, .int (y1 + y0)), (0, .ref (ue_d E 38)), (1, .int x1), (2, .int x2), (3, .int x3), (4, .int x4), (5, .int x5), (6, .int x6), (7, .int x7), (8, .int x8)] 10 dX8_span_172 rfl rfl (Nat.le_of_ble_eq_true rfl) rfl ?_
  refine ug_goto 77 dX8_span_175 (by decide) ?_
  refine ug_sub [(0, .ref (ue_d E 38)), (1, .int x1), (2, .int x2), (3, .int x3), (4, .int x4), (5, .int x5), (6, .int x6), (7, .int x7), (8, .int x8), (9, .int (y1 + y0)), (10, .int (x10 + 1))] [2, 3, 4, 5, 6, 7, 8, 9, 10, 1, 0] rfl ?_
  exact hk77 mem x1 x2 x3 x4 x5 x6 x7 x8 (y1 + y0) (x10 + 1) _ h
def f_X8_span_b147 (k77 : Um → Int32 → Int32 → Int32 → Int32 → Int32 → Int32 → Int32 → Int32 → Int32 → Int32 → Option (Um × Int32)) (mem : Um) (x1 : Int32) (x2 : Int32) (x3 : Int32) (x4 : Int32) (x5 : Int32) (x6 : Int32) (x7 : Int32) (x9 : Int32) (x10 : Int32) (y0 : Int32) : Option (Um × Int32) :=
  ugd (uin (10 + x6) 28) (if (mem 54 (10 + x6).toNatClampNeg) ≤ 0 then (f_X8_span_b169 k77 mem x1 x2 x3 x4 x5 x6 x7 y0 x10 0 x9) else (f_X8_span_b169 k77 mem x1 x2 x3 x4 x5 x6 x7 y0 x10 1 x9))
set_option maxRecDepth 20000 in
theorem t_X8_span_b147 {l : Launch} {E : Ue} (k77 : Um → Int32 → Int32 → Int32 → Int32 → Int32 → Int32 → Int32 → Int32 → Int32 → Int32 → Option (Um × Int32)) (hk77 : ∀ (mem : Um) (x1 : Int32) (x2 : Int32) (x3 : Int32) (x4 : Int32) (x5 : Int32) (x6 : Int32) (x7 : Int32) (x8 : Int32) (x9 : Int32) (x10 : Int32) (z : Um × Int32), k77 mem x1 x2 x3 x4 x5 x6 x7 x8 x9 x10 = some z → ug l E 9 0 0 cX8_span 12 RX8 (some .int) [] (uz_i z) 0 0 77 [(0, .ref (ue_d E 38)), (1, .int x1), (2, .int x2), (3, .int x3), (4, .int x4), (5, .int x5), (6, .int x6), (7, .int x7), (8, .int x8), (9, .int x9), (10, .int x10)] [] mem) (mem : Um) (x1 : Int32) (x2 : Int32) (x3 : Int32) (x4 : Int32) (x5 : Int32) (x6 : Int32) (x7 : Int32) (x9 : Int32) (x10 : Int32) (y0 : Int32) (z : Um × Int32) (h : f_X8_span_b147 k77 mem x1 x2 x3 x4 x5 x6 x7 x9 x10 y0 = some z) : ug l E 9 0 0 cX8_span 12 RX8 (some .int) [] (uz_i z) 0 0 147 [(0, .ref (ue_d E 38)), (1, .int x1), (2, .int x2), (3, .int x3), (4, .int x4), (5, .int x5), (6, .int x6), (7, .int x7), (9, .int x9), (10, .int x10)] [.int y0] mem := by
  rw [f_X8_span_b147] at h
  refine ug_istore [(8, .int y0), (0, .ref (ue_d E 38)), (1, .int x1), (2, .int x2), (3, .int x3), (4, .int x4), (5, .int x5), (6, .int x6), (7, .int x7), (9, .int x9), (10, .int x10)] dX8_span_147 (Nat.le_of_ble_eq_true rfl) rfl ?_
  refine ug_iload 9 dX8_span_149 rfl ?_
  refine ug_aload_n 1 dX8_span_151 rfl rfl ?_
  refine ug_getR kf_X8_62 gr_38_37 dX8_span_152 ?_
  refine ug_bipush dX8_span_155 un_bipush_10 ?_
  refine ug_iload 7 dX8_span_157 rfl ?_
  refine ug_iadd dX8_span_159 ?_
  obtain ⟨g1, h⟩ := ugd_some h
  refine ug_iald al_54 (uin_ok g1) dX8_span_160 ?_
  refine ug_if_le 168 dX8_span_161 (by decide) (fun q2 => ?_) (fun q2 => ?_)
  · rw [if_pos q2] at h
    refine ug_iconst dX8_span_168 un_iconst_0 ?_
    refine ug_sub [(0, .ref (ue_d E 38)), (1, .int x1), (2, .int x2), (3, .int x3), (4, .int x4), (5, .int x5), (6, .int x6), (7, .int x7), (8, .int y0), (10, .int x10)] [1, 2, 3, 4, 5, 6, 7, 8, 0, 10] rfl ?_
    exact t_X8_span_b169 k77 hk77 mem x1 x2 x3 x4 x5 x6 x7 y0 x10 0 x9 _ h
  · rw [if_neg q2] at h
    refine ug_iconst dX8_span_164 un_iconst_1 ?_
    refine ug_goto 169 dX8_span_165 (by decide) ?_
    refine ug_sub [(0, .ref (ue_d E 38)), (1, .int x1), (2, .int x2), (3, .int x3), (4, .int x4), (5, .int x5), (6, .int x6), (7, .int x7), (8, .int y0), (10, .int x10)] [1, 2, 3, 4, 5, 6, 7, 8, 0, 10] rfl ?_
    exact t_X8_span_b169 k77 hk77 mem x1 x2 x3 x4 x5 x6 x7 y0 x10 1 x9 _ h
def f_X8_span_b131 (k77 : Um → Int32 → Int32 → Int32 → Int32 → Int32 → Int32 → Int32 → Int32 → Int32 → Int32 → Option (Um × Int32)) (mem : Um) (x1 : Int32) (x2 : Int32) (x3 : Int32) (x4 : Int32) (x5 : Int32) (x6 : Int32) (x8 : Int32) (x9 : Int32) (x10 : Int32) (x11 : Int32) (y0 : Int32) : Option (Um × Int32) :=
  if x11 ≤ x8 then (f_X8_span_b147 k77 mem x1 x2 x3 x4 x5 x6 y0 x9 x10 x8) else (f_X8_span_b147 k77 mem x1 x2 x3 x4 x5 x6 y0 x9 x10 x11)
set_option maxRecDepth 20000 in
theorem t_X8_span_b131 {l : Launch} {E : Ue} (k77 : Um → Int32 → Int32 → Int32 → Int32 → Int32 → Int32 → Int32 → Int32 → Int32 → Int32 → Option (Um × Int32)) (hk77 : ∀ (mem : Um) (x1 : Int32) (x2 : Int32) (x3 : Int32) (x4 : Int32) (x5 : Int32) (x6 : Int32) (x7 : Int32) (x8 : Int32) (x9 : Int32) (x10 : Int32) (z : Um × Int32), k77 mem x1 x2 x3 x4 x5 x6 x7 x8 x9 x10 = some z → ug l E 9 0 0 cX8_span 12 RX8 (some .int) [] (uz_i z) 0 0 77 [(0, .ref (ue_d E 38)), (1, .int x1), (2, .int x2), (3, .int x3), (4, .int x4), (5, .int x5), (6, .int x6), (7, .int x7), (8, .int x8), (9, .int x9), (10, .int x10)] [] mem) (mem : Um) (x1 : Int32) (x2 : Int32) (x3 : Int32) (x4 : Int32) (x5 : Int32) (x6 : Int32) (x8 : Int32) (x9 : Int32) (x10 : Int32) (x11 : Int32) (y0 : Int32) (z : Um × Int32) (h : f_X8_span_b131 k77 mem x1 x2 x3 x4 x5 x6 x8 x9 x10 x11 y0 = some z) : ug l E 9 0 0 cX8_span 12 RX8 (some .int) [] (uz_i z) 0 0 131 [(0, .ref (ue_d E 38)), (1, .int x1), (2, .int x2), (3, .int x3), (4, .int x4), (5, .int x5), (6, .int x6), (8, .int x8), (9, .int x9), (10, .int x10), (11, .int x11)] [.int y0] mem := by
  rw [f_X8_span_b131] at h
  refine ug_istore [(7, .int y0), (0, .ref (ue_d E 38)), (1, .int x1), (2, .int x2), (3, .int x3), (4, .int x4), (5, .int x5), (6, .int x6), (8, .int x8), (9, .int x9), (10, .int x10), (11, .int x11)] dX8_span_131 (Nat.le_of_ble_eq_true rfl) rfl ?_
  refine ug_iload 11 dX8_span_133 rfl ?_
  refine ug_iload 8 dX8_span_135 rfl ?_
  refine ug_icmp_le 145 dX8_span_137 (by decide) (fun q1 => ?_) (fun q1 => ?_)
  · rw [if_pos q1] at h
    refine ug_iload 8 dX8_span_145 rfl ?_
    refine ug_sub [(0, .ref (ue_d E 38)), (1, .int x1), (2, .int x2), (3, .int x3), (4, .int x4), (5, .int x5), (6, .int x6), (7, .int y0), (9, .int x9), (10, .int x10)] [1, 2, 3, 4, 5, 6, 7, 0, 9, 10] rfl ?_
    exact t_X8_span_b147 k77 hk77 mem x1 x2 x3 x4 x5 x6 y0 x9 x10 x8 _ h
  · rw [if_neg q1] at h
    refine ug_iload 11 dX8_span_140 rfl ?_
    refine ug_goto 147 dX8_span_142 (by decide) ?_
    refine ug_sub [(0, .ref (ue_d E 38)), (1, .int x1), (2, .int x2), (3, .int x3), (4, .int x4), (5, .int x5), (6, .int x6), (7, .int y0), (9, .int x9), (10, .int x10)] [1, 2, 3, 4, 5, 6, 7, 0, 9, 10] rfl ?_
    exact t_X8_span_b147 k77 hk77 mem x1 x2 x3 x4 x5 x6 y0 x9 x10 x11 _ h
def f_X8_span_b124 (k77 : Um → Int32 → Int32 → Int32 → Int32 → Int32 → Int32 → Int32 → Int32 → Int32 → Int32 → Option (Um × Int32)) (mem : Um) (x1 : Int32) (x2 : Int32) (x3 : Int32) (x4 : Int32) (x5 : Int32) (x6 : Int32) (x8 : Int32) (x9 : Int32) (x10 : Int32) (x11 : Int32) : Option (Um × Int32) :=
  f_X8_span_b131 k77 mem x1 x2 x3 x4 x5 x6 x8 x9 x10 x11 x11
set_option maxRecDepth 20000 in
theorem t_X8_span_b124 {l : Launch} {E : Ue} (k77 : Um → Int32 → Int32 → Int32 → Int32 → Int32 → Int32 → Int32 → Int32 → Int32 → Int32 → Option (Um × Int32)) (hk77 : ∀ (mem : Um) (x1 : Int32) (x2 : Int32) (x3 : Int32) (x4 : Int32) (x5 : Int32) (x6 : Int32) (x7 : Int32) (x8 : Int32) (x9 : Int32) (x10 : Int32) (z : Um × Int32), k77 mem x1 x2 x3 x4 x5 x6 x7 x8 x9 x10 = some z → ug l E 9 0 0 cX8_span 12 RX8 (some .int) [] (uz_i z) 0 0 77 [(0, .ref (ue_d E 38)), (1, .int x1), (2, .int x2), (3, .int x3), (4, .int x4), (5, .int x5), (6, .int x6), (7, .int x7), (8, .int x8), (9, .int x9), (10, .int x10)] [] mem) (mem : Um) (x1 : Int32) (x2 : Int32) (x3 : Int32) (x4 : Int32) (x5 : Int32) (x6 : Int32) (x8 : Int32) (x9 : Int32) (x10 : Int32) (x11 : Int32) (z : Um × Int32) (h : f_X8_span_b124 k77 mem x1 x2 x3 x4 x5 x6 x8 x9 x10 x11 = some z) : ug l E 9 0 0 cX8_span 12 RX8 (some .int) [] (uz_i z) 0 0 124 [(0, .ref (ue_d E 38)), (1, .int x1), (2, .int x2), (3, .int x3), (4, .int x4), (5, .int x5), (6, .int x6), (8, .int x8), (9, .int x9), (10, .int x10), (11, .int x11)] [] mem := by
  rw [f_X8_span_b124] at h
  refine ug_iload 10 dX8_span_124 rfl ?_
  refine ug_goto 131 dX8_span_126 (by decide) ?_
  exact t_X8_span_b131 k77 hk77 mem x1 x2 x3 x4 x5 x6 x8 x9 x10 x11 x11 _ h
def f_X8_span_b77 : Nat → Um → Int32 → Int32 → Int32 → Int32 → Int32 → Int32 → Int32 → Int32 → Int32 → Int32 → Option (Um × Int32)
  | 0, _, _, _, _, _, _, _, _, _, _, _ => none
  | n + 1, mem, x1, x2, x3, x4, x5, x6, x7, x8, x9, x10 =>
    if x2 ≤ x10 then (if x5 = 0 then (f_X8_span_b201 mem x7) else (if x5 = 1 then (f_X8_span_b201 mem x8) else (f_X8_span_b201 mem x9))) else (ubi (f_X8_afternoonGoes mem (x1 + x10) x3 x4) (fun m4 r5 => if x7 = (-1) then (f_X8_span_b124 (f_X8_span_b77  n) m4 x1 x2 x3 x4 x5 x6 x8 x9 x10 ((m4 54 26) - (m4 53 26))) else (if x7 ≤ ((m4 54 26) - (m4 53 26)) then (f_X8_span_b131 (f_X8_span_b77  n) m4 x1 x2 x3 x4 x5 x6 x8 x9 x10 ((m4 54 26) - (m4 53 26)) x7) else (f_X8_span_b124 (f_X8_span_b77  n) m4 x1 x2 x3 x4 x5 x6 x8 x9 x10 ((m4 54 26) - (m4 53 26))))))
set_option maxRecDepth 20000 in
theorem t_X8_span_b77 {l : Launch} {E : Ue} : ∀ (n : Nat) (mem : Um) (x1 : Int32) (x2 : Int32) (x3 : Int32) (x4 : Int32) (x5 : Int32) (x6 : Int32) (x7 : Int32) (x8 : Int32) (x9 : Int32) (x10 : Int32) (z : Um × Int32), f_X8_span_b77  n mem x1 x2 x3 x4 x5 x6 x7 x8 x9 x10 = some z → ug l E 9 0 0 cX8_span 12 RX8 (some .int) [] (uz_i z) 0 0 77 [(0, .ref (ue_d E 38)), (1, .int x1), (2, .int x2), (3, .int x3), (4, .int x4), (5, .int x5), (6, .int x6), (7, .int x7), (8, .int x8), (9, .int x9), (10, .int x10)] [] mem := by
  intro n
  induction n with
  | zero =>
    intro mem x1 x2 x3 x4 x5 x6 x7 x8 x9 x10 z h
    rw [f_X8_span_b77] at h
    cases h
  | succ n ih =>
    intro mem x1 x2 x3 x4 x5 x6 x7 x8 x9 x10 z h
    rw [f_X8_span_b77] at h
    refine ug_iload 10 dX8_span_77 rfl ?_
    refine ug_iload_n 2 dX8_span_79 rfl rfl ?_
    refine ug_icmp_ge 178 dX8_span_80 (by decide) (fun q1 => ?_) (fun q1 => ?_)
    · rw [if_pos q1] at h
      refine ug_iload 5 dX8_span_178 rfl ?_
      refine ug_if_ne 188 dX8_span_180 (by decide) (fun q2 => ?_) (fun q2 => ?_)
      · rw [if_neg q2] at h
        refine ug_iload 5 dX8_span_188 rfl ?_
        refine ug_iconst dX8_span_190 un_iconst_1 ?_
        refine ug_icmp_ne 199 dX8_span_191 (by decide) (fun q3 => ?_) (fun q3 => ?_)
        · rw [if_neg q3] at h
          refine ug_iload 9 dX8_span_199 rfl ?_
          refine ug_sub [] [] rfl ?_
          exact t_X8_span_b201 mem x9 _ h
        · rw [if_pos q3] at h
          refine ug_iload 8 dX8_span_194 rfl ?_
          refine ug_goto 201 dX8_span_196 (by decide) ?_
          refine ug_sub [] [] rfl ?_
          exact t_X8_span_b201 mem x8 _ h
      · rw [if_pos q2] at h
        refine ug_iload 7 dX8_span_183 rfl ?_
        refine ug_goto 201 dX8_span_185 (by decide) ?_
        refine ug_sub [] [] rfl ?_
        exact t_X8_span_b201 mem x7 _ h
    · rw [if_neg q1] at h
      refine ug_aload_n 0 dX8_span_83 rfl rfl ?_
      refine ug_iload_n 1 dX8_span_84 rfl rfl ?_
      refine ug_iload 10 dX8_span_85 rfl ?_
      refine ug_iadd dX8_span_87 ?_
      refine ug_iload_n 3 dX8_span_88 rfl rfl ?_
      refine ug_iload 4 dX8_span_89 rfl ?_
      obtain ⟨m4, r5, h6, h⟩ := ubi_some h
      refine ug_callVv [.int (x1 + x10), .int x3, .int x4] (c_X8_afternoonGoes  h6) kc_X8_443 ro_38 rfl (S := []) rfl (Nat.le_of_ble_eq_true rfl) (Nat.le_of_ble_eq_true rfl) (Nat.le_of_ble_eq_true rfl) dX8_span_91 ?_
      refine ug_aload_n 0 dX8_span_94 rfl rfl ?_
      refine ug_getR kf_X8_62 gr_38_37 dX8_span_95 ?_
      refine ug_bipush dX8_span_98 un_bipush_26 ?_
      refine ug_ialdK al_54 ui_26_28 uc_26 dX8_span_100 ?_
      refine ug_aload_n 0 dX8_span_101 rfl rfl ?_
      refine ug_getR kf_X8_59 gr_38_36 dX8_span_102 ?_
      refine ug_bipush dX8_span_105 un_bipush_26 ?_
      refine ug_ialdK al_53 ui_26_28 uc_26 dX8_span_107 ?_
      refine ug_isub dX8_span_108 ?_
      refine ug_istore [(11, .int ((m4 54 26) - (m4 53 26))), (0, .ref (ue_d E 38)), (1, .int x1), (2, .int x2), (3, .int x3), (4, .int x4), (5, .int x5), (6, .int x6), (7, .int x7), (8, .int x8), (9, .int x9), (10, .int x10)] dX8_span_109 (Nat.le_of_ble_eq_true rfl) rfl ?_
      refine ug_iload 8 dX8_span_111 rfl ?_
      refine ug_iconst dX8_span_113 un_iconst_m1 ?_
      refine ug_icmp_eq 124 dX8_span_114 (by decide) (fun q7 => ?_) (fun q7 => ?_)
      · rw [if_pos q7] at h
        refine ug_sub [(0, .ref (ue_d E 38)), (1, .int x1), (2, .int x2), (3, .int x3), (4, .int x4), (5, .int x5), (6, .int x6), (8, .int x8), (9, .int x9), (10, .int x10), (11, .int ((m4 54 26) - (m4 53 26)))] [1, 2, 3, 4, 5, 6, 7, 9, 10, 11, 0] rfl ?_
        exact t_X8_span_b124 (f_X8_span_b77  n) ih m4 x1 x2 x3 x4 x5 x6 x8 x9 x10 ((m4 54 26) - (m4 53 26)) _ h
      · rw [if_neg q7] at h
        refine ug_iload 0 dX8_span_117 rfl ?_
        refine ug_iload 8 dX8_span_119 rfl ?_
        refine ug_icmp_ge 129 dX8_span_121 (by decide) (fun q8 => ?_) (fun q8 => ?_)
        · rw [if_pos q8] at h
          refine ug_iload 8 dX8_span_129 rfl ?_
          refine ug_sub [(0, .ref (ue_d E 38)), (1, .int x1), (2, .int x2), (3, .int x3), (4, .int x4), (5, .int x5), (6, .int x6), (8, .int x8), (9, .int x9), (10, .int x10), (11, .int ((m4 54 26) - (m4 53 26)))] [1, 2, 3, 4, 5, 6, 7, 9, 10, 11, 0] rfl ?_
          exact t_X8_span_b131 (f_X8_span_b77  n) ih m4 x1 x2 x3 x4 x5 x6 x8 x9 x10 ((m4 54 26) - (m4 53 26)) x7 _ h
        · rw [if_neg q8] at h
          refine ug_sub [(0, .ref (ue_d E 38)), (1, .int x1), (2, .int x2), (3, .int x3), (4, .int x4), (5, .int x5), (6, .int x6), (8, .int x8), (9, .int x9), (10, .int x10), (11, .int ((m4 54 26) - (m4 53 26)))] [1, 2, 3, 4, 5, 6, 7, 9, 10, 11, 0] rfl ?_
          exact t_X8_span_b124 (f_X8_span_b77  n) ih m4 x1 x2 x3 x4 x5 x6 x8 x9 x10 ((m4 54 26) - (m4 53 26)) _ h
def f_X8_span_b55 (mem : Um) (x1 : Int32) (x2 : Int32) (x3 : Int32) (x4 : Int32) (x5 : Int32) (x6 : Int32) (y0 : Int32) : Option (Um × Int32) :=
  ubi (f_X8_may mem y0 1 1) (fun m1 r2 => if r2 = 0 then (some (m1, 0)) else (f_X8_span_b77  UF m1 x1 x2 x3 x4 x5 x6 (-1) 0 0 0))
set_option maxRecDepth 20000 in
theorem t_X8_span_b55 {l : Launch} {E : Ue} (mem : Um) (x1 : Int32) (x2 : Int32) (x3 : Int32) (x4 : Int32) (x5 : Int32) (x6 : Int32) (y0 : Int32) (z : Um × Int32) (h : f_X8_span_b55  mem x1 x2 x3 x4 x5 x6 y0 = some z) : ug l E 9 0 0 cX8_span 12 RX8 (some .int) [] (uz_i z) 0 0 55 [(0, .ref (ue_d E 38)), (1, .int x1), (2, .int x2), (3, .int x3), (4, .int x4), (5, .int x5), (6, .int x6)] [.int y0, .ref (ue_d E 38)] mem := by
  rw [f_X8_span_b55] at h
  refine ug_iconst dX8_span_55 un_iconst_1 ?_
  refine ug_iconst dX8_span_56 un_iconst_1 ?_
  obtain ⟨m1, r2, h3, h⟩ := ubi_some h
  refine ug_callVi [.int y0, .int 1, .int 1] (c_X8_may  h3) kc_X8_190 ro_38 rfl (S := []) rfl (Nat.le_of_ble_eq_true rfl) (Nat.le_of_ble_eq_true rfl) (Nat.le_of_ble_eq_true rfl) dX8_span_57 ?_
  refine ug_if_ne 65 dX8_span_60 (by decide) (fun q4 => ?_) (fun q4 => ?_)
  · rw [if_neg q4] at h
    refine ug_iconst dX8_span_65 un_iconst_m1 ?_
    refine ug_istore [(7, .int (-1)), (0, .ref (ue_d E 38)), (1, .int x1), (2, .int x2), (3, .int x3), (4, .int x4), (5, .int x5), (6, .int x6)] dX8_span_66 (Nat.le_of_ble_eq_true rfl) rfl ?_
    refine ug_iconst dX8_span_68 un_iconst_0 ?_
    refine ug_istore [(8, .int 0), (7, .int (-1)), (0, .ref (ue_d E 38)), (1, .int x1), (2, .int x2), (3, .int x3), (4, .int x4), (5, .int x5), (6, .int x6)] dX8_span_69 (Nat.le_of_ble_eq_true rfl) rfl ?_
    refine ug_iconst dX8_span_71 un_iconst_0 ?_
    refine ug_istore [(9, .int 0), (8, .int 0), (7, .int (-1)), (0, .ref (ue_d E 38)), (1, .int x1), (2, .int x2), (3, .int x3), (4, .int x4), (5, .int x5), (6, .int x6)] dX8_span_72 (Nat.le_of_ble_eq_true rfl) rfl ?_
    refine ug_iconst dX8_span_74 un_iconst_0 ?_
    refine ug_istore [(10, .int 0), (9, .int 0), (8, .int 0), (7, .int (-1)), (0, .ref (ue_d E 38)), (1, .int x1), (2, .int x2), (3, .int x3), (4, .int x4), (5, .int x5), (6, .int x6)] dX8_span_75 (Nat.le_of_ble_eq_true rfl) rfl ?_
    refine ug_sub [(0, .ref (ue_d E 38)), (1, .int x1), (2, .int x2), (3, .int x3), (4, .int x4), (5, .int x5), (6, .int x6), (7, .int (-1)), (8, .int 0), (9, .int 0), (10, .int 0)] [4, 5, 6, 7, 8, 9, 10, 3, 2, 1, 0] rfl ?_
    exact t_X8_span_b77  UF m1 x1 x2 x3 x4 x5 x6 (-1) 0 0 0 _ h
  · rw [if_pos q4] at h
    refine ug_iconst dX8_span_63 un_iconst_0 ?_
    obtain rfl := Option.some.inj h
    exact ug_iret dX8_span_64
def f_X8_span_b54 (mem : Um) (x1 : Int32) (x2 : Int32) (x3 : Int32) (x4 : Int32) (x5 : Int32) (x6 : Int32) : Option (Um × Int32) :=
  f_X8_span_b55 mem x1 x2 x3 x4 x5 x6 0
set_option maxRecDepth 20000 in
theorem t_X8_span_b54 {l : Launch} {E : Ue} (mem : Um) (x1 : Int32) (x2 : Int32) (x3 : Int32) (x4 : Int32) (x5 : Int32) (x6 : Int32) (z : Um × Int32) (h : f_X8_span_b54  mem x1 x2 x3 x4 x5 x6 = some z) : ug l E 9 0 0 cX8_span 12 RX8 (some .int) [] (uz_i z) 0 0 54 [(0, .ref (ue_d E 38)), (1, .int x1), (2, .int x2), (3, .int x3), (4, .int x4), (5, .int x5), (6, .int x6)] [.ref (ue_d E 38)] mem := by
  rw [f_X8_span_b54] at h
  refine ug_iconst dX8_span_54 un_iconst_0 ?_
  exact t_X8_span_b55 mem x1 x2 x3 x4 x5 x6 0 _ h
def f_X8_span (mem : Um) (x1 : Int32) (x2 : Int32) (x3 : Int32) (x4 : Int32) (x5 : Int32) (x6 : Int32) : Option (Um × Int32) :=
  ubi (f_X8_within (um_w mem 38 0 0) x2 1 10) (fun m1 r2 => if r2 = 0 then (f_X8_span_b54 m1 x1 x2 x3 x4 x5 x6) else (ubi (f_X8_isAfternoon m1 x3 x4) (fun m5 r6 => if r6 = 0 then (f_X8_span_b54 m5 x1 x2 x3 x4 x5 x6) else (ubi (f_X8_within m5 x5 0 2) (fun m9 r10 => if r10 = 0 then (f_X8_span_b54 m9 x1 x2 x3 x4 x5 x6) else (ubi (f_X8_within m9 x6 0 ((m9 38 18) - 1)) (fun m13 r14 => if r14 = 0 then (f_X8_span_b54 m13 x1 x2 x3 x4 x5 x6) else (f_X8_span_b55 m13 x1 x2 x3 x4 x5 x6 1))))))))
set_option maxRecDepth 20000 in
theorem t_X8_span {l : Launch} {E : Ue} (mem : Um) (x1 : Int32) (x2 : Int32) (x3 : Int32) (x4 : Int32) (x5 : Int32) (x6 : Int32) (z : Um × Int32) (h : f_X8_span  mem x1 x2 x3 x4 x5 x6 = some z) : ug l E 9 0 0 cX8_span 12 RX8 (some .int) [] (uz_i z) 0 0 0 [(0, .ref (ue_d E 38)), (1, .int x1), (2, .int x2), (3, .int x3), (4, .int x4), (5, .int x5), (6, .int x6)] [] mem := by
  rw [f_X8_span] at h
  refine ug_aload_n 0 dX8_span_0 rfl rfl ?_
  refine ug_iconst dX8_span_1 un_iconst_0 ?_
  refine ug_putI kp_X8_3 gi_38_0 dX8_span_2 ?_
  refine ug_aload_n 0 dX8_span_5 rfl rfl ?_
  refine ug_iload_n 2 dX8_span_6 rfl rfl ?_
  refine ug_iconst dX8_span_7 un_iconst_1 ?_
  refine ug_bipush dX8_span_8 un_bipush_10 ?_
  obtain ⟨m1, r2, h3, h⟩ := ubi_some h
  refine ug_callSi [.int x2, .int 1, .int 10] (c_X8_within  h3) kc_X8_352 rfl (S := [.ref (ue_d E 38)]) rfl (Nat.le_of_ble_eq_true rfl) (Nat.le_of_ble_eq_true rfl) (Nat.le_of_ble_eq_true rfl) dX8_span_10 ?_
  refine ug_if_eq 54 dX8_span_13 (by decide) (fun q4 => ?_) (fun q4 => ?_)
  · rw [if_pos q4] at h
    exact t_X8_span_b54 m1 x1 x2 x3 x4 x5 x6 _ h
  · rw [if_neg q4] at h
    refine ug_iload_n 3 dX8_span_16 rfl rfl ?_
    refine ug_iload 4 dX8_span_17 rfl ?_
    obtain ⟨m5, r6, h7, h⟩ := ubi_some h
    refine ug_callSi [.int x3, .int x4] (c_X8_isAfternoon  h7) kc_X8_440 rfl (S := [.ref (ue_d E 38)]) rfl (Nat.le_of_ble_eq_true rfl) (Nat.le_of_ble_eq_true rfl) (Nat.le_of_ble_eq_true rfl) dX8_span_19 ?_
    refine ug_if_eq 54 dX8_span_22 (by decide) (fun q8 => ?_) (fun q8 => ?_)
    · rw [if_pos q8] at h
      exact t_X8_span_b54 m5 x1 x2 x3 x4 x5 x6 _ h
    · rw [if_neg q8] at h
      refine ug_iload 5 dX8_span_25 rfl ?_
      refine ug_iconst dX8_span_27 un_iconst_0 ?_
      refine ug_iconst dX8_span_28 un_iconst_2 ?_
      obtain ⟨m9, r10, h11, h⟩ := ubi_some h
      refine ug_callSi [.int x5, .int 0, .int 2] (c_X8_within  h11) kc_X8_352 rfl (S := [.ref (ue_d E 38)]) rfl (Nat.le_of_ble_eq_true rfl) (Nat.le_of_ble_eq_true rfl) (Nat.le_of_ble_eq_true rfl) dX8_span_29 ?_
      refine ug_if_eq 54 dX8_span_32 (by decide) (fun q12 => ?_) (fun q12 => ?_)
      · rw [if_pos q12] at h
        exact t_X8_span_b54 m9 x1 x2 x3 x4 x5 x6 _ h
      · rw [if_neg q12] at h
        refine ug_iload 6 dX8_span_35 rfl ?_
        refine ug_iconst dX8_span_37 un_iconst_0 ?_
        refine ug_aload_n 0 dX8_span_38 rfl rfl ?_
        refine ug_getI kf_X8_154 gi_38_18 dX8_span_39 ?_
        refine ug_iconst dX8_span_42 un_iconst_1 ?_
        refine ug_isub dX8_span_43 ?_
        obtain ⟨m13, r14, h15, h⟩ := ubi_some h
        refine ug_callSi [.int x6, .int 0, .int ((m9 38 18) - 1)] (c_X8_within  h15) kc_X8_352 rfl (S := [.ref (ue_d E 38)]) rfl (Nat.le_of_ble_eq_true rfl) (Nat.le_of_ble_eq_true rfl) (Nat.le_of_ble_eq_true rfl) dX8_span_44 ?_
        refine ug_if_eq 54 dX8_span_47 (by decide) (fun q16 => ?_) (fun q16 => ?_)
        · rw [if_pos q16] at h
          exact t_X8_span_b54 m13 x1 x2 x3 x4 x5 x6 _ h
        · rw [if_neg q16] at h
          refine ug_iconst dX8_span_50 un_iconst_1 ?_
          refine ug_goto 55 dX8_span_51 (by decide) ?_
          exact t_X8_span_b55 m13 x1 x2 x3 x4 x5 x6 1 _ h
theorem c_X8_span {l : Launch} {E : Ue} {mem : Um} {x1 : Int32} {x2 : Int32} {x3 : Int32} {x4 : Int32} {x5 : Int32} {x6 : Int32} {m1 : Um} {r : Int32} (h : f_X8_span  mem x1 x2 x3 x4 x5 x6 = some (m1, r)) : ucr l E 9 0 0 yX8_span cX8_span 12 (some .int) [.ref (ue_d E 38), .int x1, .int x2, .int x3, .int x4, .int x5, .int x6] mem (some (.int r)) m1 := ucr_of rfl (Nat.le_of_ble_eq_true rfl) (t_X8_span  mem x1 x2 x3 x4 x5 x6 _ h)
