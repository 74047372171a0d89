-- X8_tenant
def f_X8_tenant_b29 (mem : Um) : Option (Um × Int32) :=
  some (mem, 0)
set_option maxRecDepth 20000 in
theorem t_X8_tenant_b29 {l : Launch} {E : Ue} (mem : Um) (z : Um × Int32) (h : f_X8_tenant_b29  mem  = some z) : ug l E 6 0 0 cX8_tenant 3 RX8 (some .int) [] (uz_i z) 0 0 29 [] [] mem := by
  rw [f_X8_tenant_b29] at h
  refine ug_iconst dX8_tenant_29 un_iconst_0 ?_
  obtain rfl := Option.some.inj h
  exact ug_iret dX8_tenant_30
def f_X8_tenant_b117 (mem : Um) (y0 : Int32) : Option (Um × Int32) :=
  some (mem, y0)
set_option maxRecDepth 20000 in
theorem t_X8_tenant_b117 {l : Launch} {E : Ue} (mem : Um) (y0 : Int32) (z : Um × Int32) (h : f_X8_tenant_b117  mem y0 = some z) : ug l E 6 0 0 cX8_tenant 3 RX8 (some .int) [] (uz_i z) 0 0 117 [] [.int y0] mem := by
  rw [f_X8_tenant_b117] at h
  obtain rfl := Option.some.inj h
  exact ug_iret dX8_tenant_117
def f_X8_tenant_b53 (mem : Um) (x1 : Int32) (y0 : Int32) : Option (Um × Int32) :=
  ugd (uin (y0 + x1) 28) (some (mem, (mem 54 (y0 + x1).toNatClampNeg)))
set_option maxRecDepth 20000 in
theorem t_X8_tenant_b53 {l : Launch} {E : Ue} (mem : Um) (x1 : Int32) (y0 : Int32) (z : Um × Int32) (h : f_X8_tenant_b53  mem x1 y0 = some z) : ug l E 6 0 0 cX8_tenant 3 RX8 (some .int) [] (uz_i z) 0 0 53 [(1, .int x1)] [.int y0, .ref (ue_d E 54)] mem := by
  rw [f_X8_tenant_b53] at h
  refine ug_iload_n 0 dX8_tenant_53 rfl rfl ?_
  refine ug_iadd dX8_tenant_54 ?_
  obtain ⟨g1, h⟩ := ugd_some h
  refine ug_iald al_54 (uin_ok g1) dX8_tenant_55 ?_
  obtain rfl := Option.some.inj h
  exact ug_iret dX8_tenant_56
def f_X8_tenant (mem : Um) (x1 : Int32) (x2 : Int32) : Option (Um × Int32) :=
  ubi (f_X8_isTenant (um_w mem 38 0 0) x1 1) (fun m1 r2 => if r2 = 0 then (f_X8_tenant_b29 m1) else (ubi (f_X8_within m1 x2 0 5) (fun m5 r6 => ubi (f_X8_may m5 r6 2 1) (fun m8 r9 => if r9 = 0 then (f_X8_tenant_b29 m8) else (ubi (f_X8_take m8) (fun m12 r13 => if 2 ≤ x2 then (if x2 = 2 then (ugd (uin (10 + x1) 28) (if (m12 54 (10 + x1).toNatClampNeg) ≤ 0 then (f_X8_tenant_b117 m12 0) else (f_X8_tenant_b117 m12 1))) else (if x2 = 3 then (ubi (f_X8_ownedBy m12 x1) (fun m28 r29 => f_X8_tenant_b117 m28 r29)) else (if x2 = 4 then (ubi (f_X8_ownedBy m12 x1) (fun m22 r23 => ubi (f_X8_worthOf m22 r23) (fun m25 r26 => f_X8_tenant_b117 m25 r26))) else (ubi (f_X8_touchingOf m12 x1) (fun m19 r20 => f_X8_tenant_b117 m19 r20))))) else (if x2 = 0 then (f_X8_tenant_b53 m12 x1 0) else (f_X8_tenant_b53 m12 x1 5))))))))
set_option maxRecDepth 20000 in
theorem t_X8_tenant {l : Launch} {E : Ue} (mem : Um) (x1 : Int32) (x2 : Int32) (z : Um × Int32) (h : f_X8_tenant  mem x1 x2 = some z) : ug l E 6 0 0 cX8_tenant 3 RX8 (some .int) [] (uz_i z) 0 0 0 [(0, .ref (ue_d E 38)), (1, .int x1), (2, .int x2)] [] mem := by
  rw [f_X8_tenant] at h
  refine ug_aload_n 0 dX8_tenant_0 rfl rfl ?_
  refine ug_iconst dX8_tenant_1 un_iconst_0 ?_
  refine ug_putI kp_X8_3 gi_38_0 dX8_tenant_2 ?_
  refine ug_aload_n 0 dX8_tenant_5 rfl rfl ?_
  refine ug_iload_n 1 dX8_tenant_6 rfl rfl ?_
  refine ug_iconst dX8_tenant_7 un_iconst_1 ?_
  obtain ⟨m1, r2, h3, h⟩ := ubi_some h
  refine ug_callVi [.int x1, .int 1] (c_X8_isTenant  h3) kc_X8_395 ro_38 rfl (S := []) rfl (Nat.le_of_ble_eq_true rfl) (Nat.le_of_ble_eq_true rfl) (Nat.le_of_ble_eq_true rfl) dX8_tenant_8 ?_
  refine ug_if_eq 29 dX8_tenant_11 (by decide) (fun q4 => ?_) (fun q4 => ?_)
  · rw [if_pos q4] at h
    refine ug_sub [] [] rfl ?_
    exact t_X8_tenant_b29 m1  _ h
  · rw [if_neg q4] at h
    refine ug_aload_n 0 dX8_tenant_14 rfl rfl ?_
    refine ug_iload_n 2 dX8_tenant_15 rfl rfl ?_
    refine ug_iconst dX8_tenant_16 un_iconst_0 ?_
    refine ug_iconst dX8_tenant_17 un_iconst_5 ?_
    obtain ⟨m5, r6, h7, h⟩ := ubi_some h
    refine ug_callSi [.int x2, .int 0, .int 5] (c_X8_within  h7) kc_X8_352 rfl (S := [.ref (ue_d E 38)]) rfl (Nat.le_of_ble_eq_true rfl) (Nat.le_of_ble_eq_true rfl) (Nat.le_of_ble_eq_true rfl) dX8_tenant_18 ?_
    refine ug_iconst dX8_tenant_21 un_iconst_2 ?_
    refine ug_iconst dX8_tenant_22 un_iconst_1 ?_
    obtain ⟨m8, r9, h10, h⟩ := ubi_some h
    refine ug_callVi [.int r6, .int 2, .int 1] (c_X8_may  h10) kc_X8_190 ro_38 rfl (S := []) rfl (Nat.le_of_ble_eq_true rfl) (Nat.le_of_ble_eq_true rfl) (Nat.le_of_ble_eq_true rfl) dX8_tenant_23 ?_
    refine ug_if_ne 31 dX8_tenant_26 (by decide) (fun q11 => ?_) (fun q11 => ?_)
    · rw [if_neg q11] at h
      refine ug_aload_n 0 dX8_tenant_31 rfl rfl ?_
      obtain ⟨m12, r13, h14, h⟩ := ubi_some h
      refine ug_callVv [] (c_X8_take  h14) kc_X8_302 ro_38 rfl (S := []) rfl (Nat.le_of_ble_eq_true rfl) (Nat.le_of_ble_eq_true rfl) (Nat.le_of_ble_eq_true rfl) dX8_tenant_32 ?_
      refine ug_iload_n 2 dX8_tenant_35 rfl rfl ?_
      refine ug_iconst dX8_tenant_36 un_iconst_2 ?_
      refine ug_icmp_ge 57 dX8_tenant_37 (by decide) (fun q15 => ?_) (fun q15 => ?_)
      · rw [if_pos q15] at h
        refine ug_iload_n 2 dX8_tenant_57 rfl rfl ?_
        refine ug_iconst dX8_tenant_58 un_iconst_2 ?_
        refine ug_icmp_ne 82 dX8_tenant_59 (by decide) (fun q16 => ?_) (fun q16 => ?_)
        · rw [if_neg q16] at h
          refine ug_iload_n 2 dX8_tenant_82 rfl rfl ?_
          refine ug_iconst dX8_tenant_83 un_iconst_3 ?_
          refine ug_icmp_ne 95 dX8_tenant_84 (by decide) (fun q17 => ?_) (fun q17 => ?_)
          · rw [if_neg q17] at h
            refine ug_iload_n 2 dX8_tenant_95 rfl rfl ?_
            refine ug_iconst dX8_tenant_96 un_iconst_4 ?_
            refine ug_icmp_ne 112 dX8_tenant_97 (by decide) (fun q18 => ?_) (fun q18 => ?_)
            · rw [if_neg q18] at h
              refine ug_aload_n 0 dX8_tenant_112 rfl rfl ?_
              refine ug_iload_n 1 dX8_tenant_113 rfl rfl ?_
              obtain ⟨m19, r20, h21, h⟩ := ubi_some h
              refine ug_callVi [.int x1] (c_X8_touchingOf  h21) kc_X8_336 ro_38 rfl (S := []) rfl (Nat.le_of_ble_eq_true rfl) (Nat.le_of_ble_eq_true rfl) (Nat.le_of_ble_eq_true rfl) dX8_tenant_114 ?_
              refine ug_sub [] [] rfl ?_
              exact t_X8_tenant_b117 m19 r20 _ h
            · rw [if_pos q18] at h
              refine ug_aload_n 0 dX8_tenant_100 rfl rfl ?_
              refine ug_aload_n 0 dX8_tenant_101 rfl rfl ?_
              refine ug_iload_n 1 dX8_tenant_102 rfl rfl ?_
              obtain ⟨m22, r23, h24, h⟩ := ubi_some h
              refine ug_callVi [.int x1] (c_X8_ownedBy  h24) kc_X8_342 ro_38 rfl (S := [.ref (ue_d E 38)]) rfl (Nat.le_of_ble_eq_true rfl) (Nat.le_of_ble_eq_true rfl) (Nat.le_of_ble_eq_true rfl) dX8_tenant_103 ?_
              obtain ⟨m25, r26, h27, h⟩ := ubi_some h
              refine ug_callVi [.int r23] (c_X8_worthOf  h27) kc_X8_345 ro_38 rfl (S := []) rfl (Nat.le_of_ble_eq_true rfl) (Nat.le_of_ble_eq_true rfl) (Nat.le_of_ble_eq_true rfl) dX8_tenant_106 ?_
              refine ug_goto 117 dX8_tenant_109 (by decide) ?_
              refine ug_sub [] [] rfl ?_
              exact t_X8_tenant_b117 m25 r26 _ h
          · rw [if_pos q17] at h
            refine ug_aload_n 0 dX8_tenant_87 rfl rfl ?_
            refine ug_iload_n 1 dX8_tenant_88 rfl rfl ?_
            obtain ⟨m28, r29, h30, h⟩ := ubi_some h
            refine ug_callVi [.int x1] (c_X8_ownedBy  h30) kc_X8_342 ro_38 rfl (S := []) rfl (Nat.le_of_ble_eq_true rfl) (Nat.le_of_ble_eq_true rfl) (Nat.le_of_ble_eq_true rfl) dX8_tenant_89 ?_
            refine ug_goto 117 dX8_tenant_92 (by decide) ?_
            refine ug_sub [] [] rfl ?_
            exact t_X8_tenant_b117 m28 r29 _ h
        · rw [if_pos q16] at h
          refine ug_aload_n 0 dX8_tenant_62 rfl rfl ?_
          refine ug_getR kf_X8_62 gr_38_37 dX8_tenant_63 ?_
          refine ug_bipush dX8_tenant_66 un_bipush_10 ?_
          refine ug_iload_n 1 dX8_tenant_68 rfl rfl ?_
          refine ug_iadd dX8_tenant_69 ?_
          obtain ⟨g31, h⟩ := ugd_some h
          refine ug_iald al_54 (uin_ok g31) dX8_tenant_70 ?_
          refine ug_if_le 78 dX8_tenant_71 (by decide) (fun q32 => ?_) (fun q32 => ?_)
          · rw [if_pos q32] at h
            refine ug_iconst dX8_tenant_78 un_iconst_0 ?_
            refine ug_goto 117 dX8_tenant_79 (by decide) ?_
            refine ug_sub [] [] rfl ?_
            exact t_X8_tenant_b117 m12 0 _ h
          · rw [if_neg q32] at h
            refine ug_iconst dX8_tenant_74 un_iconst_1 ?_
            refine ug_goto 117 dX8_tenant_75 (by decide) ?_
            refine ug_sub [] [] rfl ?_
            exact t_X8_tenant_b117 m12 1 _ h
      · rw [if_neg q15] at h
        refine ug_aload_n 0 dX8_tenant_40 rfl rfl ?_
        refine ug_getR kf_X8_62 gr_38_37 dX8_tenant_41 ?_
        refine ug_iload_n 2 dX8_tenant_44 rfl rfl ?_
        refine ug_if_ne 52 dX8_tenant_45 (by decide) (fun q33 => ?_) (fun q33 => ?_)
        · rw [if_neg q33] at h
          refine ug_iconst dX8_tenant_52 un_iconst_5 ?_
          refine ug_sub [(1, .int x1)] [1] rfl ?_
          exact t_X8_tenant_b53 m12 x1 5 _ h
        · rw [if_pos q33] at h
          refine ug_iconst dX8_tenant_48 un_iconst_0 ?_
          refine ug_goto 53 dX8_tenant_49 (by decide) ?_
          refine ug_sub [(1, .int x1)] [1] rfl ?_
          exact t_X8_tenant_b53 m12 x1 0 _ h
    · rw [if_pos q11] at h
      refine ug_sub [] [] rfl ?_
      exact t_X8_tenant_b29 m8  _ h
theorem c_X8_tenant {l : Launch} {E : Ue} {mem : Um} {x1 : Int32} {x2 : Int32} {m1 : Um} {r : Int32} (h : f_X8_tenant  mem x1 x2 = some (m1, r)) : ucr l E 6 0 0 yX8_tenant cX8_tenant 3 (some .int) [.ref (ue_d E 38), .int x1, .int x2] mem (some (.int r)) m1 := ucr_of rfl (Nat.le_of_ble_eq_true rfl) (t_X8_tenant  mem x1 x2 _ h)
-- X8_seenBy
def f_X8_seenBy_b29 (k4 : Um → Int32 → Int32 → Int32 → Option (Um × Int32)) (mem : Um) (x1 : Int32) (x3 : Int32) (y0 : Int32) (y1 : Int32) : Option (Um × Int32) :=
  k4 mem x1 (y1 ||| y0) (x3 + 1)
set_option maxRecDepth 20000 in
theorem t_X8_seenBy_b29 {l : Launch} {E : Ue} (k4 : Um → Int32 → Int32 → Int32 → Option (Um × Int32)) (hk4 : ∀ (mem : Um) (x1 : Int32) (x2 : Int32) (x3 : Int32) (z : Um × Int32), k4 mem x1 x2 x3 = some z → ug l E 4 0 0 cX8_seenBy 4 RX8 (some .int) [] (uz_i z) 0 0 4 [(0, .ref (ue_d E 38)), (1, .int x1), (2, .int x2), (3, .int x3)] [] mem) (mem : Um) (x1 : Int32) (x3 : Int32) (y0 : Int32) (y1 : Int32) (z : Um × Int32) (h : f_X8_seenBy_b29 k4 mem x1 x3 y0 y1 = some z) : ug l E 4 0 0 cX8_seenBy 4 RX8 (some .int) [] (uz_i z) 0 0 29 [(0, .ref (ue_d E 38)), (1, .int x1), (3, .int x3)] [.int y0, .int y1] mem := by
  rw [f_X8_seenBy_b29] at h
  refine ug_ior dX8_seenBy_29 ?_
  refine ug_istore_n [(2, .int (y1 ||| y0)), (0, .ref (ue_d E 38)), (1, .int x1), (3, .int x3)] dX8_seenBy_30 rfl (Nat.le_of_ble_eq_true rfl) rfl ?_
  refine ug_iinc (v := (x3 + 1)) [(3, .int (x3 + 1)), (2, .int (y1 ||| y0)), (0, .ref (ue_d E 38)), (1, .int x1)] 3 dX8_seenBy_31 rfl rfl (Nat.le_of_ble_eq_true rfl) rfl ?_
  refine ug_goto 4 dX8_seenBy_34 (by decide) ?_
  refine ug_sub [(0, .ref (ue_d E 38)), (1, .int x1), (2, .int (y1 ||| y0)), (3, .int (x3 + 1))] [2, 3, 1, 0] rfl ?_
  exact hk4 mem x1 (y1 ||| y0) (x3 + 1) _ h
def f_X8_seenBy_b4 : Nat → Um → Int32 → Int32 → Int32 → Option (Um × Int32)
  | 0, _, _, _, _ => none
  | n + 1, mem, x1, x2, x3 =>
    if (mem 38 17) ≤ x3 then (some (mem, x2)) else (ubi (f_X8_isSeen mem x1 x3) (fun m2 r3 => if r3 = 0 then (f_X8_seenBy_b29 (f_X8_seenBy_b4  n) m2 x1 x3 0 x2) else (f_X8_seenBy_b29 (f_X8_seenBy_b4  n) m2 x1 x3 (1 <<< (x3 &&& 31)) x2)))
set_option maxRecDepth 20000 in
theorem t_X8_seenBy_b4 {l : Launch} {E : Ue} : ∀ (n : Nat) (mem : Um) (x1 : Int32) (x2 : Int32) (x3 : Int32) (z : Um × Int32), f_X8_seenBy_b4  n mem x1 x2 x3 = some z → ug l E 4 0 0 cX8_seenBy 4 RX8 (some .int) [] (uz_i z) 0 0 4 [(0, .ref (ue_d E 38)), (1, .int x1), (2, .int x2), (3, .int x3)] [] mem := by
  intro n
  induction n with
  | zero =>
    intro mem x1 x2 x3 z h
    rw [f_X8_seenBy_b4] at h
    cases h
  | succ n ih =>
    intro mem x1 x2 x3 z h
    rw [f_X8_seenBy_b4] at h
    refine ug_iload_n 3 dX8_seenBy_4 rfl rfl ?_
    refine ug_aload_n 0 dX8_seenBy_5 rfl rfl ?_
    refine ug_getI kf_X8_151 gi_38_17 dX8_seenBy_6 ?_
    refine ug_icmp_ge 37 dX8_seenBy_9 (by decide) (fun q1 => ?_) (fun q1 => ?_)
    · rw [if_pos q1] at h
      refine ug_iload_n 2 dX8_seenBy_37 rfl rfl ?_
      obtain rfl := Option.some.inj h
      exact ug_iret dX8_seenBy_38
    · rw [if_neg q1] at h
      refine ug_iload_n 2 dX8_seenBy_12 rfl rfl ?_
      refine ug_aload_n 0 dX8_seenBy_13 rfl rfl ?_
      refine ug_iload_n 1 dX8_seenBy_14 rfl rfl ?_
      refine ug_iload_n 3 dX8_seenBy_15 rfl rfl ?_
      obtain ⟨m2, r3, h4, h⟩ := ubi_some h
      refine ug_callVi [.int x1, .int x3] (c_X8_isSeen  h4) kc_X8_323 ro_38 rfl (S := [.int x2]) rfl (Nat.le_of_ble_eq_true rfl) (Nat.le_of_ble_eq_true rfl) (Nat.le_of_ble_eq_true rfl) dX8_seenBy_16 ?_
      refine ug_if_eq 28 dX8_seenBy_19 (by decide) (fun q5 => ?_) (fun q5 => ?_)
      · rw [if_pos q5] at h
        refine ug_iconst dX8_seenBy_28 un_iconst_0 ?_
        refine ug_sub [(0, .ref (ue_d E 38)), (1, .int x1), (3, .int x3)] [0, 1, 3] rfl ?_
        exact t_X8_seenBy_b29 (f_X8_seenBy_b4  n) ih m2 x1 x3 0 x2 _ h
      · rw [if_neg q5] at h
        refine ug_iconst dX8_seenBy_22 un_iconst_1 ?_
        refine ug_iload_n 3 dX8_seenBy_23 rfl rfl ?_
        refine ug_ishl dX8_seenBy_24 ?_
        refine ug_goto 29 dX8_seenBy_25 (by decide) ?_
        refine ug_sub [(0, .ref (ue_d E 38)), (1, .int x1), (3, .int x3)] [0, 1, 3] rfl ?_
        exact t_X8_seenBy_b29 (f_X8_seenBy_b4  n) ih m2 x1 x3 (1 <<< (x3 &&& 31)) x2 _ h
def f_X8_seenBy (mem : Um) (x1 : Int32) : Option (Um × Int32) :=
  f_X8_seenBy_b4  UF mem x1 0 0
set_option maxRecDepth 20000 in
theorem t_X8_seenBy {l : Launch} {E : Ue} (mem : Um) (x1 : Int32) (z : Um × Int32) (h : f_X8_seenBy  mem x1 = some z) : ug l E 4 0 0 cX8_seenBy 4 RX8 (some .int) [] (uz_i z) 0 0 0 [(0, .ref (ue_d E 38)), (1, .int x1)] [] mem := by
  rw [f_X8_seenBy] at h
  refine ug_iconst dX8_seenBy_0 un_iconst_0 ?_
  refine ug_istore_n [(2, .int 0), (0, .ref (ue_d E 38)), (1, .int x1)] dX8_seenBy_1 rfl (Nat.le_of_ble_eq_true rfl) rfl ?_
  refine ug_iconst dX8_seenBy_2 un_iconst_0 ?_
  refine ug_istore_n [(3, .int 0), (2, .int 0), (0, .ref (ue_d E 38)), (1, .int x1)] dX8_seenBy_3 rfl (Nat.le_of_ble_eq_true rfl) rfl ?_
  refine ug_sub [(0, .ref (ue_d E 38)), (1, .int x1), (2, .int 0), (3, .int 0)] [2, 3, 1, 0] rfl ?_
  exact t_X8_seenBy_b4  UF mem x1 0 0 _ h
theorem c_X8_seenBy {l : Launch} {E : Ue} {mem : Um} {x1 : Int32} {m1 : Um} {r : Int32} (h : f_X8_seenBy  mem x1 = some (m1, r)) : ucr l E 4 0 0 yX8_seenBy cX8_seenBy 4 (some .int) [.ref (ue_d E 38), .int x1] mem (some (.int r)) m1 := ucr_of rfl (Nat.le_of_ble_eq_true rfl) (t_X8_seenBy  mem x1 _ h)
-- X8_bubble
def f_X8_bubble_b29 (mem : Um) : Option (Um × Int32) :=
  some (mem, 0)
set_option maxRecDepth 20000 in
theorem t_X8_bubble_b29 {l : Launch} {E : Ue} (mem : Um) (z : Um × Int32) (h : f_X8_bubble_b29  mem  = some z) : ug l E 7 0 0 cX8_bubble 3 RX8 (some .int) [] (uz_i z) 0 0 29 [] [] mem := by
  rw [f_X8_bubble_b29] at h
  refine ug_iconst dX8_bubble_29 un_iconst_0 ?_
  obtain rfl := Option.some.inj h
  exact ug_iret dX8_bubble_30
def f_X8_bubble_b88 (mem : Um) (y0 : Int32) : Option (Um × Int32) :=
  some (mem, y0)
set_option maxRecDepth 20000 in
theorem t_X8_bubble_b88 {l : Launch} {E : Ue} (mem : Um) (y0 : Int32) (z : Um × Int32) (h : f_X8_bubble_b88  mem y0 = some z) : ug l E 7 0 0 cX8_bubble 3 RX8 (some .int) [] (uz_i z) 0 0 88 [] [.int y0] mem := by
  rw [f_X8_bubble_b88] at h
  obtain rfl := Option.some.inj h
  exact ug_iret dX8_bubble_88
def f_X8_bubble (mem : Um) (x1 : Int32) (x2 : Int32) : Option (Um × Int32) :=
  ubi (f_X8_isTenant (um_w mem 38 0 0) x1 1) (fun m1 r2 => if r2 = 0 then (f_X8_bubble_b29 m1) else (ubi (f_X8_within m1 x2 0 4) (fun m5 r6 => ubi (f_X8_may m5 r6 2 1) (fun m8 r9 => if r9 = 0 then (f_X8_bubble_b29 m8) else (ubi (f_X8_take m8) (fun m12 r13 => ugd (uin (10 + x1) 28) (if (m12 54 (10 + x1).toNatClampNeg) = 0 then (some (m12, (-1))) else (if 3 ≤ x2 then (if x2 = 3 then (ubi (f_X8_lifeBy m12 x1) (fun m22 r23 => f_X8_bubble_b88 m22 r23)) else (ubi (f_X8_seenBy m12 x1) (fun m19 r20 => f_X8_bubble_b88 m19 r20))) else (ugd (uin ((10 + (5 * x2)) + x1) 28) (f_X8_bubble_b88 m12 (m12 54 ((10 + (5 * x2)) + x1).toNatClampNeg)))))))))))
set_option maxRecDepth 20000 in
theorem t_X8_bubble {l : Launch} {E : Ue} (mem : Um) (x1 : Int32) (x2 : Int32) (z : Um × Int32) (h : f_X8_bubble  mem x1 x2 = some z) : ug l E 7 0 0 cX8_bubble 3 RX8 (some .int) [] (uz_i z) 0 0 0 [(0, .ref (ue_d E 38)), (1, .int x1), (2, .int x2)] [] mem := by
  rw [f_X8_bubble] at h
  refine ug_aload_n 0 dX8_bubble_0 rfl rfl ?_
  refine ug_iconst dX8_bubble_1 un_iconst_0 ?_
  refine ug_putI kp_X8_3 gi_38_0 dX8_bubble_2 ?_
  refine ug_aload_n 0 dX8_bubble_5 rfl rfl ?_
  refine ug_iload_n 1 dX8_bubble_6 rfl rfl ?_
  refine ug_iconst dX8_bubble_7 un_iconst_1 ?_
  obtain ⟨m1, r2, h3, h⟩ := ubi_some h
  refine ug_callVi [.int x1, .int 1] (c_X8_isTenant  h3) kc_X8_395 ro_38 rfl (S := []) rfl (Nat.le_of_ble_eq_true rfl) (Nat.le_of_ble_eq_true rfl) (Nat.le_of_ble_eq_true rfl) dX8_bubble_8 ?_
  refine ug_if_eq 29 dX8_bubble_11 (by decide) (fun q4 => ?_) (fun q4 => ?_)
  · rw [if_pos q4] at h
    refine ug_sub [] [] rfl ?_
    exact t_X8_bubble_b29 m1  _ h
  · rw [if_neg q4] at h
    refine ug_aload_n 0 dX8_bubble_14 rfl rfl ?_
    refine ug_iload_n 2 dX8_bubble_15 rfl rfl ?_
    refine ug_iconst dX8_bubble_16 un_iconst_0 ?_
    refine ug_iconst dX8_bubble_17 un_iconst_4 ?_
    obtain ⟨m5, r6, h7, h⟩ := ubi_some h
    refine ug_callSi [.int x2, .int 0, .int 4] (c_X8_within  h7) kc_X8_352 rfl (S := [.ref (ue_d E 38)]) rfl (Nat.le_of_ble_eq_true rfl) (Nat.le_of_ble_eq_true rfl) (Nat.le_of_ble_eq_true rfl) dX8_bubble_18 ?_
    refine ug_iconst dX8_bubble_21 un_iconst_2 ?_
    refine ug_iconst dX8_bubble_22 un_iconst_1 ?_
    obtain ⟨m8, r9, h10, h⟩ := ubi_some h
    refine ug_callVi [.int r6, .int 2, .int 1] (c_X8_may  h10) kc_X8_190 ro_38 rfl (S := []) rfl (Nat.le_of_ble_eq_true rfl) (Nat.le_of_ble_eq_true rfl) (Nat.le_of_ble_eq_true rfl) dX8_bubble_23 ?_
    refine ug_if_ne 31 dX8_bubble_26 (by decide) (fun q11 => ?_) (fun q11 => ?_)
    · rw [if_neg q11] at h
      refine ug_aload_n 0 dX8_bubble_31 rfl rfl ?_
      obtain ⟨m12, r13, h14, h⟩ := ubi_some h
      refine ug_callVv [] (c_X8_take  h14) kc_X8_302 ro_38 rfl (S := []) rfl (Nat.le_of_ble_eq_true rfl) (Nat.le_of_ble_eq_true rfl) (Nat.le_of_ble_eq_true rfl) dX8_bubble_32 ?_
      refine ug_aload_n 0 dX8_bubble_35 rfl rfl ?_
      refine ug_getR kf_X8_62 gr_38_37 dX8_bubble_36 ?_
      refine ug_bipush dX8_bubble_39 un_bipush_10 ?_
      refine ug_iload_n 1 dX8_bubble_41 rfl rfl ?_
      refine ug_iadd dX8_bubble_42 ?_
      obtain ⟨g15, h⟩ := ugd_some h
      refine ug_iald al_54 (uin_ok g15) dX8_bubble_43 ?_
      refine ug_if_ne 49 dX8_bubble_44 (by decide) (fun q16 => ?_) (fun q16 => ?_)
      · rw [if_neg q16] at h
        refine ug_iload_n 2 dX8_bubble_49 rfl rfl ?_
        refine ug_iconst dX8_bubble_50 un_iconst_3 ?_
        refine ug_icmp_ge 70 dX8_bubble_51 (by decide) (fun q17 => ?_) (fun q17 => ?_)
        · rw [if_pos q17] at h
          refine ug_iload_n 2 dX8_bubble_70 rfl rfl ?_
          refine ug_iconst dX8_bubble_71 un_iconst_3 ?_
          refine ug_icmp_ne 83 dX8_bubble_72 (by decide) (fun q18 => ?_) (fun q18 => ?_)
          · rw [if_neg q18] at h
            refine ug_aload_n 0 dX8_bubble_83 rfl rfl ?_
            refine ug_iload_n 1 dX8_bubble_84 rfl rfl ?_
            obtain ⟨m19, r20, h21, h⟩ := ubi_some h
            refine ug_callVi [.int x1] (c_X8_seenBy  h21) kc_X8_398 ro_38 rfl (S := []) rfl (Nat.le_of_ble_eq_true rfl) (Nat.le_of_ble_eq_true rfl) (Nat.le_of_ble_eq_true rfl) dX8_bubble_85 ?_
            refine ug_sub [] [] rfl ?_
            exact t_X8_bubble_b88 m19 r20 _ h
          · rw [if_pos q18] at h
            refine ug_aload_n 0 dX8_bubble_75 rfl rfl ?_
            refine ug_iload_n 1 dX8_bubble_76 rfl rfl ?_
            obtain ⟨m22, r23, h24, h⟩ := ubi_some h
            refine ug_callVi [.int x1] (c_X8_lifeBy  h24) kc_X8_365 ro_38 rfl (S := []) rfl (Nat.le_of_ble_eq_true rfl) (Nat.le_of_ble_eq_true rfl) (Nat.le_of_ble_eq_true rfl) dX8_bubble_77 ?_
            refine ug_goto 88 dX8_bubble_80 (by decide) ?_
            refine ug_sub [] [] rfl ?_
            exact t_X8_bubble_b88 m22 r23 _ h
        · rw [if_neg q17] at h
          refine ug_aload_n 0 dX8_bubble_54 rfl rfl ?_
          refine ug_getR kf_X8_62 gr_38_37 dX8_bubble_55 ?_
          refine ug_bipush dX8_bubble_58 un_bipush_10 ?_
          refine ug_iconst dX8_bubble_60 un_iconst_5 ?_
          refine ug_iload_n 2 dX8_bubble_61 rfl rfl ?_
          refine ug_imul dX8_bubble_62 ?_
          refine ug_iadd dX8_bubble_63 ?_
          refine ug_iload_n 1 dX8_bubble_64 rfl rfl ?_
          refine ug_iadd dX8_bubble_65 ?_
          obtain ⟨g25, h⟩ := ugd_some h
          refine ug_iald al_54 (uin_ok g25) dX8_bubble_66 ?_
          refine ug_goto 88 dX8_bubble_67 (by decide) ?_
          refine ug_sub [] [] rfl ?_
          exact t_X8_bubble_b88 m12 (m12 54 ((10 + (5 * x2)) + x1).toNatClampNeg) _ h
      · rw [if_pos q16] at h
        refine ug_iconst dX8_bubble_47 un_iconst_m1 ?_
        obtain rfl := Option.some.inj h
        exact ug_iret dX8_bubble_48
    · rw [if_pos q11] at h
      refine ug_sub [] [] rfl ?_
      exact t_X8_bubble_b29 m8  _ h
theorem c_X8_bubble {l : Launch} {E : Ue} {mem : Um} {x1 : Int32} {x2 : Int32} {m1 : Um} {r : Int32} (h : f_X8_bubble  mem x1 x2 = some (m1, r)) : ucr l E 7 0 0 yX8_bubble cX8_bubble 3 (some .int) [.ref (ue_d E 38), .int x1, .int x2] mem (some (.int r)) m1 := ucr_of rfl (Nat.le_of_ble_eq_true rfl) (t_X8_bubble  mem x1 x2 _ h)
-- X8_would
def f_X8_would_b97 (mem : Um) (x1 : Int32) (x2 : Int32) (x3 : Int32) (x4 : Int32) (x5 : Int32) (x6 : Int32) (x7 : Int32) (x8 : Int32) (y0 : Int32) : Option (Um × Int32) :=
  ubi (f_X8_may mem y0 1 1) (fun m1 r2 => if r2 = 0 then (some (m1, 0)) else (ubi (f_X8_lifeOf m1 x1 x2 x3 x4 x5 x6 x7 x8) (fun m5 r6 => some (m5, r6))))
set_option maxRecDepth 20000 in
theorem t_X8_would_b97 {l : Launch} {E : Ue} (mem : Um) (x1 : Int32) (x2 : Int32) (x3 : Int32) (x4 : Int32) (x5 : Int32) (x6 : Int32) (x7 : Int32) (x8 : Int32) (y0 : Int32) (z : Um × Int32) (h : f_X8_would_b97  mem x1 x2 x3 x4 x5 x6 x7 x8 y0 = some z) : ug l E 6 0 0 cX8_would 9 RX8 (some .int) [] (uz_i z) 0 0 97 [(0, .ref (ue_d E 38)), (1, .int x1), (2, .int x2), (3, .int x3), (4, .int x4), (5, .int x5), (6, .int x6), (7, .int x7), (8, .int x8)] [.int y0, .ref (ue_d E 38)] mem := by
  rw [f_X8_would_b97] at h
  refine ug_iconst dX8_would_97 un_iconst_1 ?_
  refine ug_iconst dX8_would_98 un_iconst_1 ?_
  obtain ⟨m1, r2, h3, h⟩ := ubi_some h
  refine ug_callVi [.int y0, .int 1, .int 1] (c_X8_may  h3) kc_X8_190 ro_38 rfl (S := []) rfl (Nat.le_of_ble_eq_true rfl) (Nat.le_of_ble_eq_true rfl) (Nat.le_of_ble_eq_true rfl) dX8_would_99 ?_
  refine ug_if_ne 107 dX8_would_102 (by decide) (fun q4 => ?_) (fun q4 => ?_)
  · rw [if_neg q4] at h
    refine ug_aload_n 0 dX8_would_107 rfl rfl ?_
    refine ug_iload_n 1 dX8_would_108 rfl rfl ?_
    refine ug_iload_n 2 dX8_would_109 rfl rfl ?_
    refine ug_iload_n 3 dX8_would_110 rfl rfl ?_
    refine ug_iload 4 dX8_would_111 rfl ?_
    refine ug_iload 5 dX8_would_113 rfl ?_
    refine ug_iload 6 dX8_would_115 rfl ?_
    refine ug_iload 7 dX8_would_117 rfl ?_
    refine ug_iload 8 dX8_would_119 rfl ?_
    obtain ⟨m5, r6, h7, h⟩ := ubi_some h
    refine ug_callVi [.int x1, .int x2, .int x3, .int x4, .int x5, .int x6, .int x7, .int x8] (c_X8_lifeOf  h7) kc_X8_348 ro_38 rfl (S := []) rfl (Nat.le_of_ble_eq_true rfl) (Nat.le_of_ble_eq_true rfl) (Nat.le_of_ble_eq_true rfl) dX8_would_121 ?_
    obtain rfl := Option.some.inj h
    exact ug_iret dX8_would_124
  · rw [if_pos q4] at h
    refine ug_iconst dX8_would_105 un_iconst_0 ?_
    obtain rfl := Option.some.inj h
    exact ug_iret dX8_would_106
def f_X8_would_b96 (mem : Um) (x1 : Int32) (x2 : Int32) (x3 : Int32) (x4 : Int32) (x5 : Int32) (x6 : Int32) (x7 : Int32) (x8 : Int32) : Option (Um × Int32) :=
  f_X8_would_b97 mem x1 x2 x3 x4 x5 x6 x7 x8 0
set_option maxRecDepth 20000 in
theorem t_X8_would_b96 {l : Launch} {E : Ue} (mem : Um) (x1 : Int32) (x2 : Int32) (x3 : Int32) (x4 : Int32) (x5 : Int32) (x6 : Int32) (x7 : Int32) (x8 : Int32) (z : Um × Int32) (h : f_X8_would_b96  mem x1 x2 x3 x4 x5 x6 x7 x8 = some z) : ug l E 6 0 0 cX8_would 9 RX8 (some .int) [] (uz_i z) 0 0 96 [(0, .ref (ue_d E 38)), (1, .int x1), (2, .int x2), (3, .int x3), (4, .int x4), (5, .int x5), (6, .int x6), (7, .int x7), (8, .int x8)] [.ref (ue_d E 38)] mem := by
  rw [f_X8_would_b96] at h
  refine ug_iconst dX8_would_96 un_iconst_0 ?_
  exact t_X8_would_b97 mem x1 x2 x3 x4 x5 x6 x7 x8 0 _ h
def f_X8_would (mem : Um) (x1 : Int32) (x2 : Int32) (x3 : Int32) (x4 : Int32) (x5 : Int32) (x6 : Int32) (x7 : Int32) (x8 : Int32) : Option (Um × Int32) :=
  ubi (f_X8_within (um_w mem 38 0 0) x1 1 20) (fun m1 r2 => if r2 = 0 then (f_X8_would_b96 m1 x1 x2 x3 x4 x5 x6 x7 x8) else (ubi (f_X8_within m1 x2 1 20) (fun m5 r6 => if r6 = 0 then (f_X8_would_b96 m5 x1 x2 x3 x4 x5 x6 x7 x8) else (ubi (f_X8_within m5 x3 0 4) (fun m9 r10 => if r10 = 0 then (f_X8_would_b96 m9 x1 x2 x3 x4 x5 x6 x7 x8) else (ubi (f_X8_within m9 x4 0 99) (fun m13 r14 => if r14 = 0 then (f_X8_would_b96 m13 x1 x2 x3 x4 x5 x6 x7 x8) else (ubi (f_X8_within m13 x5 0 480) (fun m17 r18 => if r18 = 0 then (f_X8_would_b96 m17 x1 x2 x3 x4 x5 x6 x7 x8) else (ubi (f_X8_within m17 x6 0 400) (fun m21 r22 => if r22 = 0 then (f_X8_would_b96 m21 x1 x2 x3 x4 x5 x6 x7 x8) else (ubi (f_X8_within m21 x7 0 999) (fun m25 r26 => if r26 = 0 then (f_X8_would_b96 m25 x1 x2 x3 x4 x5 x6 x7 x8) else (ubi (f_X8_within m25 x8 0 4) (fun m29 r30 => if r30 = 0 then (f_X8_would_b96 m29 x1 x2 x3 x4 x5 x6 x7 x8) else (f_X8_would_b97 m29 x1 x2 x3 x4 x5 x6 x7 x8 1))))))))))))))))
set_option maxRecDepth 20000 in
theorem t_X8_would {l : Launch} {E : Ue} (mem : Um) (x1 : Int32) (x2 : Int32) (x3 : Int32) (x4 : Int32) (x5 : Int32) (x6 : Int32) (x7 : Int32) (x8 : Int32) (z : Um × Int32) (h : f_X8_would  mem x1 x2 x3 x4 x5 x6 x7 x8 = some z) : ug l E 6 0 0 cX8_would 9 RX8 (some .int) [] (uz_i z) 0 0 0 [(0, .ref (ue_d E 38)), (1, .int x1), (2, .int x2), (3, .int x3), (4, .int x4), (5, .int x5), (6, .int x6), (7, .int x7), (8, .int x8)] [] mem := by
  rw [f_X8_would] at h
  refine ug_aload_n 0 dX8_would_0 rfl rfl ?_
  refine ug_iconst dX8_would_1 un_iconst_0 ?_
  refine ug_putI kp_X8_3 gi_38_0 dX8_would_2 ?_
  refine ug_aload_n 0 dX8_would_5 rfl rfl ?_
  refine ug_iload_n 1 dX8_would_6 rfl rfl ?_
  refine ug_iconst dX8_would_7 un_iconst_1 ?_
  refine ug_bipush dX8_would_8 un_bipush_20 ?_
  obtain ⟨m1, r2, h3, h⟩ := ubi_some h
  refine ug_callSi [.int x1, .int 1, .int 20] (c_X8_within  h3) kc_X8_352 rfl (S := [.ref (ue_d E 38)]) rfl (Nat.le_of_ble_eq_true rfl) (Nat.le_of_ble_eq_true rfl) (Nat.le_of_ble_eq_true rfl) dX8_would_10 ?_
  refine ug_if_eq 96 dX8_would_13 (by decide) (fun q4 => ?_) (fun q4 => ?_)
  · rw [if_pos q4] at h
    exact t_X8_would_b96 m1 x1 x2 x3 x4 x5 x6 x7 x8 _ h
  · rw [if_neg q4] at h
    refine ug_iload_n 2 dX8_would_16 rfl rfl ?_
    refine ug_iconst dX8_would_17 un_iconst_1 ?_
    refine ug_bipush dX8_would_18 un_bipush_20 ?_
    obtain ⟨m5, r6, h7, h⟩ := ubi_some h
    refine ug_callSi [.int x2, .int 1, .int 20] (c_X8_within  h7) kc_X8_352 rfl (S := [.ref (ue_d E 38)]) rfl (Nat.le_of_ble_eq_true rfl) (Nat.le_of_ble_eq_true rfl) (Nat.le_of_ble_eq_true rfl) dX8_would_20 ?_
    refine ug_if_eq 96 dX8_would_23 (by decide) (fun q8 => ?_) (fun q8 => ?_)
    · rw [if_pos q8] at h
      exact t_X8_would_b96 m5 x1 x2 x3 x4 x5 x6 x7 x8 _ h
    · rw [if_neg q8] at h
      refine ug_iload_n 3 dX8_would_26 rfl rfl ?_
      refine ug_iconst dX8_would_27 un_iconst_0 ?_
      refine ug_iconst dX8_would_28 un_iconst_4 ?_
      obtain ⟨m9, r10, h11, h⟩ := ubi_some h
      refine ug_callSi [.int x3, .int 0, .int 4] (c_X8_within  h11) kc_X8_352 rfl (S := [.ref (ue_d E 38)]) rfl (Nat.le_of_ble_eq_true rfl) (Nat.le_of_ble_eq_true rfl) (Nat.le_of_ble_eq_true rfl) dX8_would_29 ?_
      refine ug_if_eq 96 dX8_would_32 (by decide) (fun q12 => ?_) (fun q12 => ?_)
      · rw [if_pos q12] at h
        exact t_X8_would_b96 m9 x1 x2 x3 x4 x5 x6 x7 x8 _ h
      · rw [if_neg q12] at h
        refine ug_iload 4 dX8_would_35 rfl ?_
        refine ug_iconst dX8_would_37 un_iconst_0 ?_
        refine ug_bipush dX8_would_38 un_bipush_99 ?_
        obtain ⟨m13, r14, h15, h⟩ := ubi_some h
        refine ug_callSi [.int x4, .int 0, .int 99] (c_X8_within  h15) kc_X8_352 rfl (S := [.ref (ue_d E 38)]) rfl (Nat.le_of_ble_eq_true rfl) (Nat.le_of_ble_eq_true rfl) (Nat.le_of_ble_eq_true rfl) dX8_would_40 ?_
        refine ug_if_eq 96 dX8_would_43 (by decide) (fun q16 => ?_) (fun q16 => ?_)
        · rw [if_pos q16] at h
          exact t_X8_would_b96 m13 x1 x2 x3 x4 x5 x6 x7 x8 _ h
        · rw [if_neg q16] at h
          refine ug_iload 5 dX8_would_46 rfl ?_
          refine ug_iconst dX8_would_48 un_iconst_0 ?_
          refine ug_sipush dX8_would_49 un_sipush_480 ?_
          obtain ⟨m17, r18, h19, h⟩ := ubi_some h
          refine ug_callSi [.int x5, .int 0, .int 480] (c_X8_within  h19) kc_X8_352 rfl (S := [.ref (ue_d E 38)]) rfl (Nat.le_of_ble_eq_true rfl) (Nat.le_of_ble_eq_true rfl) (Nat.le_of_ble_eq_true rfl) dX8_would_52 ?_
          refine ug_if_eq 96 dX8_would_55 (by decide) (fun q20 => ?_) (fun q20 => ?_)
          · rw [if_pos q20] at h
            exact t_X8_would_b96 m17 x1 x2 x3 x4 x5 x6 x7 x8 _ h
          · rw [if_neg q20] at h
            refine ug_iload 6 dX8_would_58 rfl ?_
            refine ug_iconst dX8_would_60 un_iconst_0 ?_
            refine ug_sipush dX8_would_61 un_sipush_400 ?_
            obtain ⟨m21, r22, h23, h⟩ := ubi_some h
            refine ug_callSi [.int x6, .int 0, .int 400] (c_X8_within  h23) kc_X8_352 rfl (S := [.ref (ue_d E 38)]) rfl (Nat.le_of_ble_eq_true rfl) (Nat.le_of_ble_eq_true rfl) (Nat.le_of_ble_eq_true rfl) dX8_would_64 ?_
            refine ug_if_eq 96 dX8_would_67 (by decide) (fun q24 => ?_) (fun q24 => ?_)
            · rw [if_pos q24] at h
              exact t_X8_would_b96 m21 x1 x2 x3 x4 x5 x6 x7 x8 _ h
            · rw [if_neg q24] at h
              refine ug_iload 7 dX8_would_70 rfl ?_
              refine ug_iconst dX8_would_72 un_iconst_0 ?_
              refine ug_sipush dX8_would_73 un_sipush_999 ?_
              obtain ⟨m25, r26, h27, h⟩ := ubi_some h
              refine ug_callSi [.int x7, .int 0, .int 999] (c_X8_within  h27) kc_X8_352 rfl (S := [.ref (ue_d E 38)]) rfl (Nat.le_of_ble_eq_true rfl) (Nat.le_of_ble_eq_true rfl) (Nat.le_of_ble_eq_true rfl) dX8_would_76 ?_
              refine ug_if_eq 96 dX8_would_79 (by decide) (fun q28 => ?_) (fun q28 => ?_)
              · rw [if_pos q28] at h
                exact t_X8_would_b96 m25 x1 x2 x3 x4 x5 x6 x7 x8 _ h
              · rw [if_neg q28] at h
                refine ug_iload 8 dX8_would_82 rfl ?_
                refine ug_iconst dX8_would_84 un_iconst_0 ?_
                refine ug_iconst dX8_would_85 un_iconst_4 ?_
                obtain ⟨m29, r30, h31, h⟩ := ubi_some h
                refine ug_callSi [.int x8, .int 0, .int 4] (c_X8_within  h31) kc_X8_352 rfl (S := [.ref (ue_d E 38)]) rfl (Nat.le_of_ble_eq_true rfl) (Nat.le_of_ble_eq_true rfl) (Nat.le_of_ble_eq_true rfl) dX8_would_86 ?_
                refine ug_if_eq 96 dX8_would_89 (by decide) (fun q32 => ?_) (fun q32 => ?_)
                · rw [if_pos q32] at h
                  exact t_X8_would_b96 m29 x1 x2 x3 x4 x5 x6 x7 x8 _ h
                · rw [if_neg q32] at h
                  refine ug_iconst dX8_would_92 un_iconst_1 ?_
                  refine ug_goto 97 dX8_would_93 (by decide) ?_
                  exact t_X8_would_b97 m29 x1 x2 x3 x4 x5 x6 x7 x8 1 _ h
theorem c_X8_would {l : Launch} {E : Ue} {mem : Um} {x1 : Int32} {x2 : Int32} {x3 : Int32} {x4 : Int32} {x5 : Int32} {x6 : Int32} {x7 : Int32} {x8 : Int32} {m1 : Um} {r : Int32} (h : f_X8_would  mem x1 x2 x3 x4 x5 x6 x7 x8 = some (m1, r)) : ucr l E 6 0 0 yX8_would cX8_would 9 (some .int) [.ref (ue_d E 38), .int x1, .int x2, .int x3, .int x4, .int x5, .int x6, .int x7, .int x8] mem (some (.int r)) m1 := ucr_of rfl (Nat.le_of_ble_eq_true rfl) (t_X8_would  mem x1 x2 x3 x4 x5 x6 x7 x8 _ h)
-- X8_ahead
def f_X8_ahead_b91 (mem : Um) (y0 : Int32) : Option (Um × Int32) :=
  some (mem, y0)
set_option maxRecDepth 20000 in
theorem t_X8_ahead_b91 {l : Launch} {E : Ue} (mem : Um) (y0 : Int32) (z : Um × Int32) (h : f_X8_ahead_b91  mem y0 = some z) : ug l E 8 0 0 cX8_ahead 4 RX8 (some .int) [] (uz_i z) 0 0 91 [] [.int y0] mem := by
  rw [f_X8_ahead_b91] at h
  obtain rfl := Option.some.inj h
  exact ug_iret dX8_ahead_91
def f_X8_ahead_b46 : Nat → Um → Int32 → Int32 → Int32 → Option (Um × Int32)
  | 0, _, _, _, _ => none
  | n + 1, mem, x1, x2, x3 =>
    if x1 ≤ x3 then (if x2 = 0 then (ubi (f_X8_withBubbles mem) (fun m7 r8 => f_X8_ahead_b91 m7 r8)) else (if x2 = 1 then (ubi (f_X8_worthAll mem) (fun m4 r5 => f_X8_ahead_b91 m4 r5)) else (f_X8_ahead_b91 mem (mem 54 26)))) else (ubi (f_X8_passes mem) (fun m10 r11 => (f_X8_ahead_b46  n) m10 x1 x2 (x3 + 1)))
set_option maxRecDepth 20000 in
theorem t_X8_ahead_b46 {l : Launch} {E : Ue} : ∀ (n : Nat) (mem : Um) (x1 : Int32) (x2 : Int32) (x3 : Int32) (z : Um × Int32), f_X8_ahead_b46  n mem x1 x2 x3 = some z → ug l E 8 0 0 cX8_ahead 4 RX8 (some .int) [] (uz_i z) 0 0 46 [(0, .ref (ue_d E 38)), (1, .int x1), (2, .int x2), (3, .int x3)] [] mem := by
  intro n
  induction n with
  | zero =>
    intro mem x1 x2 x3 z h
    rw [f_X8_ahead_b46] at h
    cases h
  | succ n ih =>
    intro mem x1 x2 x3 z h
    rw [f_X8_ahead_b46] at h
    refine ug_iload_n 3 dX8_ahead_46 rfl rfl ?_
    refine ug_iload_n 1 dX8_ahead_47 rfl rfl ?_
    refine ug_icmp_ge 61 dX8_ahead_48 (by decide) (fun q1 => ?_) (fun q1 => ?_)
    · rw [if_pos q1] at h
      refine ug_iload_n 2 dX8_ahead_61 rfl rfl ?_
      refine ug_if_ne 72 dX8_ahead_62 (by decide) (fun q2 => ?_) (fun q2 => ?_)
      · rw [if_neg q2] at h
        refine ug_iload_n 2 dX8_ahead_72 rfl rfl ?_
        refine ug_iconst dX8_ahead_73 un_iconst_1 ?_
        refine ug_icmp_ne 84 dX8_ahead_74 (by decide) (fun q3 => ?_) (fun q3 => ?_)
        · rw [if_neg q3] at h
          refine ug_aload_n 0 dX8_ahead_84 rfl rfl ?_
          refine ug_getR kf_X8_62 gr_38_37 dX8_ahead_85 ?_
          refine ug_bipush dX8_ahead_88 un_bipush_26 ?_
          refine ug_ialdK al_54 ui_26_28 uc_26 dX8_ahead_90 ?_
          refine ug_sub [] [] rfl ?_
          exact t_X8_ahead_b91 mem (mem 54 26) _ h
        · rw [if_pos q3] at h
          refine ug_aload_n 0 dX8_ahead_77 rfl rfl ?_
          obtain ⟨m4, r5, h6, h⟩ := ubi_some h
          refine ug_callVi [] (c_X8_worthAll  h6) kc_X8_386 ro_38 rfl (S := []) rfl (Nat.le_of_ble_eq_true rfl) (Nat.le_of_ble_eq_true rfl) (Nat.le_of_ble_eq_true rfl) dX8_ahead_78 ?_
          refine ug_goto 91 dX8_ahead_81 (by decide) ?_
          refine ug_sub [] [] rfl ?_
          exact t_X8_ahead_b91 m4 r5 _ h
      · rw [if_pos q2] at h
        refine ug_aload_n 0 dX8_ahead_65 rfl rfl ?_
        obtain ⟨m7, r8, h9, h⟩ := ubi_some h
        refine ug_callVi [] (c_X8_withBubbles  h9) kc_X8_356 ro_38 rfl (S := []) rfl (Nat.le_of_ble_eq_true rfl) (Nat.le_of_ble_eq_true rfl) (Nat.le_of_ble_eq_true rfl) dX8_ahead_66 ?_
        refine ug_goto 91 dX8_ahead_69 (by decide) ?_
        refine ug_sub [] [] rfl ?_
        exact t_X8_ahead_b91 m7 r8 _ h
    · rw [if_neg q1] at h
      refine ug_aload_n 0 dX8_ahead_51 rfl rfl ?_
      obtain ⟨m10, r11, h12, h⟩ := ubi_some h
      refine ug_callVv [] (c_X8_passes  h12) kc_X8_380 ro_38 rfl (S := []) rfl (Nat.le_of_ble_eq_true rfl) (Nat.le_of_ble_eq_true rfl) (Nat.le_of_ble_eq_true rfl) dX8_ahead_52 ?_
      refine ug_iinc (v := (x3 + 1)) [(3, .int (x3 + 1)), (0, .ref (ue_d E 38)), (1, .int x1), (2, .int x2)] 3 dX8_ahead_55 rfl rfl (Nat.le_of_ble_eq_true rfl) rfl ?_
      refine ug_goto 46 dX8_ahead_58 (by decide) ?_
      refine ug_sub [(0, .ref (ue_d E 38)), (1, .int x1), (2, .int x2), (3, .int (x3 + 1))] [1, 2, 3, 0] rfl ?_
      exact ih m10 x1 x2 (x3 + 1) _ h
def f_X8_ahead_b30 (mem : Um) (x1 : Int32) (x2 : Int32) (y0 : Int32) : Option (Um × Int32) :=
  ubi (f_X8_may mem y0 1 1) (fun m1 r2 => if r2 = 0 then (some (m1, 0)) else (ubi (f_X8_take m1) (fun m5 r6 => f_X8_ahead_b46  UF m5 x1 x2 0)))
set_option maxRecDepth 20000 in
theorem t_X8_ahead_b30 {l : Launch} {E : Ue} (mem : Um) (x1 : Int32) (x2 : Int32) (y0 : Int32) (z : Um × Int32) (h : f_X8_ahead_b30  mem x1 x2 y0 = some z) : ug l E 8 0 0 cX8_ahead 4 RX8 (some .int) [] (uz_i z) 0 0 30 [(0, .ref (ue_d E 38)), (1, .int x1), (2, .int x2)] [.int y0, .ref (ue_d E 38)] mem := by
  rw [f_X8_ahead_b30] at h
  refine ug_iconst dX8_ahead_30 un_iconst_1 ?_
  refine ug_iconst dX8_ahead_31 un_iconst_1 ?_
  obtain ⟨m1, r2, h3, h⟩ := ubi_some h
  refine ug_callVi [.int y0, .int 1, .int 1] (c_X8_may  h3) kc_X8_190 ro_38 rfl (S := []) rfl (Nat.le_of_ble_eq_true rfl) (Nat.le_of_ble_eq_true rfl) (Nat.le_of_ble_eq_true rfl) dX8_ahead_32 ?_
  refine ug_if_ne 40 dX8_ahead_35 (by decide) (fun q4 => ?_) (fun q4 => ?_)
  · rw [if_neg q4] at h
    refine ug_aload_n 0 dX8_ahead_40 rfl rfl ?_
    obtain ⟨m5, r6, h7, h⟩ := ubi_some h
    refine ug_callVv [] (c_X8_take  h7) kc_X8_302 ro_38 rfl (S := []) rfl (Nat.le_of_ble_eq_true rfl) (Nat.le_of_ble_eq_true rfl) (Nat.le_of_ble_eq_true rfl) dX8_ahead_41 ?_
    refine ug_iconst dX8_ahead_44 un_iconst_0 ?_
    refine ug_istore_n [(3, .int 0), (0, .ref (ue_d E 38)), (1, .int x1), (2, .int x2)] dX8_ahead_45 rfl (Nat.le_of_ble_eq_true rfl) rfl ?_
    refine ug_sub [(0, .ref (ue_d E 38)), (1, .int x1), (2, .int x2), (3, .int 0)] [1, 2, 3, 0] rfl ?_
    exact t_X8_ahead_b46  UF m5 x1 x2 0 _ h
  · rw [if_pos q4] at h
    refine ug_iconst dX8_ahead_38 un_iconst_0 ?_
    obtain rfl := Option.some.inj h
    exact ug_iret dX8_ahead_39
def f_X8_ahead_b29 (mem : Um) (x1 : Int32) (x2 : Int32) : Option (Um × Int32) :=
  f_X8_ahead_b30 mem x1 x2 0
set_option maxRecDepth 20000 in
theorem t_X8_ahead_b29 {l : Launch} {E : Ue} (mem : Um) (x1 : Int32) (x2 : Int32) (z : Um × Int32) (h : f_X8_ahead_b29  mem x1 x2 = some z) : ug l E 8 0 0 cX8_ahead 4 RX8 (some .int) [] (uz_i z) 0 0 29 [(0, .ref (ue_d E 38)), (1, .int x1), (2, .int x2)] [.ref (ue_d E 38)] mem := by
  rw [f_X8_ahead_b29] at h
  refine ug_iconst dX8_ahead_29 un_iconst_0 ?_
  exact t_X8_ahead_b30 mem x1 x2 0 _ h
def f_X8_ahead (mem : Um) (x1 : Int32) (x2 : Int32) : Option (Um × Int32) :=
  ubi (f_X8_within (um_w mem 38 0 0) x1 0 99) (fun m1 r2 => if r2 = 0 then (f_X8_ahead_b29 m1 x1 x2) else (ubi (f_X8_within m1 x2 0 2) (fun m5 r6 => if r6 = 0 then (f_X8_ahead_b29 m5 x1 x2) else (f_X8_ahead_b30 m5 x1 x2 1))))
set_option maxRecDepth 20000 in
theorem t_X8_ahead {l : Launch} {E : Ue} (mem : Um) (x1 : Int32) (x2 : Int32) (z : Um × Int32) (h : f_X8_ahead  mem x1 x2 = some z) : ug l E 8 0 0 cX8_ahead 4 RX8 (some .int) [] (uz_i z) 0 0 0 [(0, .ref (ue_d E 38)), (1, .int x1), (2, .int x2)] [] mem := by
  rw [f_X8_ahead] at h
  refine ug_aload_n 0 dX8_ahead_0 rfl rfl ?_
  refine ug_iconst dX8_ahead_1 un_iconst_0 ?_
  refine ug_putI kp_X8_3 gi_38_0 dX8_ahead_2 ?_
  refine ug_aload_n 0 dX8_ahead_5 rfl rfl ?_
  refine ug_iload_n 1 dX8_ahead_6 rfl rfl ?_
  refine ug_iconst dX8_ahead_7 un_iconst_0 ?_
  refine ug_bipush dX8_ahead_8 un_bipush_99 ?_
  obtain ⟨m1, r2, h3, h⟩ := ubi_some h
  refine ug_callSi [.int x1, .int 0, .int 99] (c_X8_within  h3) kc_X8_352 rfl (S := [.ref (ue_d E 38)]) rfl (Nat.le_of_ble_eq_true rfl) (Nat.le_of_ble_eq_true rfl) (Nat.le_of_ble_eq_true rfl) dX8_ahead_10 ?_
  refine ug_if_eq 29 dX8_ahead_13 (by decide) (fun q4 => ?_) (fun q4 => ?_)
  · rw [if_pos q4] at h
    exact t_X8_ahead_b29 m1 x1 x2 _ h
  · rw [if_neg q4] at h
    refine ug_iload_n 2 dX8_ahead_16 rfl rfl ?_
    refine ug_iconst dX8_ahead_17 un_iconst_0 ?_
    refine ug_iconst dX8_ahead_18 un_iconst_2 ?_
    obtain ⟨m5, r6, h7, h⟩ := ubi_some h
    refine ug_callSi [.int x2, .int 0, .int 2] (c_X8_within  h7) kc_X8_352 rfl (S := [.ref (ue_d E 38)]) rfl (Nat.le_of_ble_eq_true rfl) (Nat.le_of_ble_eq_true rfl) (Nat.le_of_ble_eq_true rfl) dX8_ahead_19 ?_
    refine ug_if_eq 29 dX8_ahead_22 (by decide) (fun q8 => ?_) (fun q8 => ?_)
    · rw [if_pos q8] at h
      exact t_X8_ahead_b29 m5 x1 x2 _ h
    · rw [if_neg q8] at h
      refine ug_iconst dX8_ahead_25 un_iconst_1 ?_
      refine ug_goto 30 dX8_ahead_26 (by decide) ?_
      exact t_X8_ahead_b30 m5 x1 x2 1 _ h
theorem c_X8_ahead {l : Launch} {E : Ue} {mem : Um} {x1 : Int32} {x2 : Int32} {m1 : Um} {r : Int32} (h : f_X8_ahead  mem x1 x2 = some (m1, r)) : ucr l E 8 0 0 yX8_ahead cX8_ahead 4 (some .int) [.ref (ue_d E 38), .int x1, .int x2] mem (some (.int r)) m1 := ucr_of rfl (Nat.le_of_ble_eq_true rfl) (t_X8_ahead  mem x1 x2 _ h)
-- X8_lasts
def f_X8_lasts_b64 (mem : Um) : Option (Um × Int32) :=
  some (mem, (-1))
set_option maxRecDepth 20000 in
theorem t_X8_lasts_b64 {l : Launch} {E : Ue} (mem : Um) (z : Um × Int32) (h : f_X8_lasts_b64  mem  = some z) : ug l E 8 0 0 cX8_lasts 3 RX8 (some .int) [] (uz_i z) 0 0 64 [] [] mem := by
  rw [f_X8_lasts_b64] at h
  refine ug_iconst dX8_lasts_64 un_iconst_m1 ?_
  obtain rfl := Option.some.inj h
  exact ug_iret dX8_lasts_65
def f_X8_lasts_b22 : Nat → Um → Int32 → Int32 → Option (Um × Int32)
  | 0, _, _, _ => none
  | n + 1, mem, x1, x2 =>
    if 99 < x2 then (f_X8_lasts_b64 mem) else (ugd (uin (10 + x1) 28) (if (mem 54 (10 + x1).toNatClampNeg) ≤ 0 then (f_X8_lasts_b64 mem) else (ubi (f_X8_passes mem) (fun m4 r5 => ugd (uin (10 + x1) 28) (if (m4 54 (10 + x1).toNatClampNeg) = 0 then (some (m4, x2)) else ((f_X8_lasts_b22  n) m4 x1 (x2 + 1)))))))
set_option maxRecDepth 20000 in
theorem t_X8_lasts_b22 {l : Launch} {E : Ue} : ∀ (n : Nat) (mem : Um) (x1 : Int32) (x2 : Int32) (z : Um × Int32), f_X8_lasts_b22  n mem x1 x2 = some z → ug l E 8 0 0 cX8_lasts 3 RX8 (some .int) [] (uz_i z) 0 0 22 [(0, .ref (ue_d E 38)), (1, .int x1), (2, .int x2)] [] mem := by
  intro n
  induction n with
  | zero =>
    intro mem x1 x2 z h
    rw [f_X8_lasts_b22] at h
    cases h
  | succ n ih =>
    intro mem x1 x2 z h
    rw [f_X8_lasts_b22] at h
    refine ug_iload_n 2 dX8_lasts_22 rfl rfl ?_
    refine ug_bipush dX8_lasts_23 un_bipush_99 ?_
    refine ug_icmp_gt 64 dX8_lasts_25 (by decide) (fun q1 => ?_) (fun q1 => ?_)
    · rw [if_pos q1] at h
      refine ug_sub [] [] rfl ?_
      exact t_X8_lasts_b64 mem  _ h
    · rw [if_neg q1] at h
      refine ug_aload_n 0 dX8_lasts_28 rfl rfl ?_
      refine ug_getR kf_X8_62 gr_38_37 dX8_lasts_29 ?_
      refine ug_bipush dX8_lasts_32 un_bipush_10 ?_
      refine ug_iload_n 1 dX8_lasts_34 rfl rfl ?_
      refine ug_iadd dX8_lasts_35 ?_
      obtain ⟨g2, h⟩ := ugd_some h
      refine ug_iald al_54 (uin_ok g2) dX8_lasts_36 ?_
      refine ug_if_le 64 dX8_lasts_37 (by decide) (fun q3 => ?_) (fun q3 => ?_)
      · rw [if_pos q3] at h
        refine ug_sub [] [] rfl ?_
        exact t_X8_lasts_b64 mem  _ h
      · rw [if_neg q3] at h
        refine ug_aload_n 0 dX8_lasts_40 rfl rfl ?_
        obtain ⟨m4, r5, h6, h⟩ := ubi_some h
        refine ug_callVv [] (c_X8_passes  h6) kc_X8_380 ro_38 rfl (S := []) rfl (Nat.le_of_ble_eq_true rfl) (Nat.le_of_ble_eq_true rfl) (Nat.le_of_ble_eq_true rfl) dX8_lasts_41 ?_
        refine ug_aload_n 0 dX8_lasts_44 rfl rfl ?_
        refine ug_getR kf_X8_62 gr_38_37 dX8_lasts_45 ?_
        refine ug_bipush dX8_lasts_48 un_bipush_10 ?_
        refine ug_iload_n 1 dX8_lasts_50 rfl rfl ?_
        refine ug_iadd dX8_lasts_51 ?_
        obtain ⟨g7, h⟩ := ugd_some h
        refine ug_iald al_54 (uin_ok g7) dX8_lasts_52 ?_
        refine ug_if_ne 58 dX8_lasts_53 (by decide) (fun q8 => ?_) (fun q8 => ?_)
        · rw [if_neg q8] at h
          refine ug_iinc (v := (x2 + 1)) [(2, .int (x2 + 1)), (0, .ref (ue_d E 38)), (1, .int x1)] 2 dX8_lasts_58 rfl rfl (Nat.le_of_ble_eq_true rfl) rfl ?_
          refine ug_goto 22 dX8_lasts_61 (by decide) ?_
          refine ug_sub [(0, .ref (ue_d E 38)), (1, .int x1), (2, .int (x2 + 1))] [1, 2, 0] rfl ?_
          exact ih m4 x1 (x2 + 1) _ h
        · rw [if_pos q8] at h
          refine ug_iload_n 2 dX8_lasts_56 rfl rfl ?_
          obtain rfl := Option.some.inj h
          exact ug_iret dX8_lasts_57
def f_X8_lasts (mem : Um) (x1 : Int32) : Option (Um × Int32) :=
  ubi (f_X8_isTenant (um_w mem 38 0 0) x1 1) (fun m1 r2 => if r2 = 0 then (some (m1, 0)) else (ubi (f_X8_take m1) (fun m5 r6 => f_X8_lasts_b22  UF m5 x1 1)))
set_option maxRecDepth 20000 in
theorem t_X8_lasts {l : Launch} {E : Ue} (mem : Um) (x1 : Int32) (z : Um × Int32) (h : f_X8_lasts  mem x1 = some z) : ug l E 8 0 0 cX8_lasts 3 RX8 (some .int) [] (uz_i z) 0 0 0 [(0, .ref (ue_d E 38)), (1, .int x1)] [] mem := by
  rw [f_X8_lasts] at h
  refine ug_aload_n 0 dX8_lasts_0 rfl rfl ?_
  refine ug_iconst dX8_lasts_1 un_iconst_0 ?_
  refine ug_putI kp_X8_3 gi_38_0 dX8_lasts_2 ?_
  refine ug_aload_n 0 dX8_lasts_5 rfl rfl ?_
  refine ug_iload_n 1 dX8_lasts_6 rfl rfl ?_
  refine ug_iconst dX8_lasts_7 un_iconst_1 ?_
  obtain ⟨m1, r2, h3, h⟩ := ubi_some h
  refine ug_callVi [.int x1, .int 1] (c_X8_isTenant  h3) kc_X8_395 ro_38 rfl (S := []) rfl (Nat.le_of_ble_eq_true rfl) (Nat.le_of_ble_eq_true rfl) (Nat.le_of_ble_eq_true rfl) dX8_lasts_8 ?_
  refine ug_if_ne 16 dX8_lasts_11 (by decide) (fun q4 => ?_) (fun q4 => ?_)
  · rw [if_neg q4] at h
    refine ug_aload_n 0 dX8_lasts_16 rfl rfl ?_
    obtain ⟨m5, r6, h7, h⟩ := ubi_some h
    refine ug_callVv [] (c_X8_take  h7) kc_X8_302 ro_38 rfl (S := []) rfl (Nat.le_of_ble_eq_true rfl) (Nat.le_of_ble_eq_true rfl) (Nat.le_of_ble_eq_true rfl) dX8_lasts_17 ?_
    refine ug_iconst dX8_lasts_20 un_iconst_1 ?_
    refine ug_istore_n [(2, .int 1), (0, .ref (ue_d E 38)), (1, .int x1)] dX8_lasts_21 rfl (Nat.le_of_ble_eq_true rfl) rfl ?_
    refine ug_sub [(0, .ref (ue_d E 38)), (1, .int x1), (2, .int 1)] [1, 2, 0] rfl ?_
    exact t_X8_lasts_b22  UF m5 x1 1 _ h
  · rw [if_pos q4] at h
    refine ug_iconst dX8_lasts_14 un_iconst_0 ?_
    obtain rfl := Option.some.inj h
    exact ug_iret dX8_lasts_15
theorem c_X8_lasts {l : Launch} {E : Ue} {mem : Um} {x1 : Int32} {m1 : Um} {r : Int32} (h : f_X8_lasts  mem x1 = some (m1, r)) : ucr l E 8 0 0 yX8_lasts cX8_lasts 3 (some .int) [.ref (ue_d E 38), .int x1] mem (some (.int r)) m1 := ucr_of rfl (Nat.le_of_ble_eq_true rfl) (t_X8_lasts  mem x1 _ h)
-- X8_least
def f_X8_least_b41 (mem : Um) (x5 : Int64) (y0 : Int64) : Option (Um × Int64) :=
  ugd (unzl x5) (some (mem, (y0 / x5)))
set_option maxRecDepth 20000 in
theorem t_X8_least_b41 {l : Launch} {E : Ue} (mem : Um) (x5 : Int64) (y0 : Int64) (z : Um × Int64) (h : f_X8_least_b41  mem x5 y0 = some z) : ug l E 2 0 0 cX8_least 11 RX8 (some .long) [] (uz_l z) 0 0 41 [(5, .long x5)] [.long y0] mem := by
  rw [f_X8_least_b41] at h
  refine ug_lload 0 dX8_least_41 rfl ?_
  obtain ⟨g1, h⟩ := ugd_some h
  refine ug_ldiv dX8_least_43 (of_decide_eq_true g1) ?_
  obtain rfl := Option.some.inj h
  exact ug_lret dX8_least_44
def f_X8_least_b6 : Nat → Um → Int64 → Int64 → Int32 → Int64 → Int64 → Option (Um × Int64)
  | 0, _, _, _, _, _, _ => none
  | n + 1, mem, x0, x2, x4, x5, x7 =>
    if (lg_cmp x7 0) = 0 then (if x4 = 0 then (f_X8_least_b41 mem x5 x0) else (f_X8_least_b41 mem x5 x2)) else (ugd (unzl x7) ((f_X8_least_b6  n) mem x0 x2 x4 x7 (x5 - x5 / x7 * x7)))
set_option maxRecDepth 20000 in
theorem t_X8_least_b6 {l : Launch} {E : Ue} : ∀ (n : Nat) (mem : Um) (x0 : Int64) (x2 : Int64) (x4 : Int32) (x5 : Int64) (x7 : Int64) (z : Um × Int64), f_X8_least_b6  n mem x0 x2 x4 x5 x7 = some z → ug l E 2 0 0 cX8_least 11 RX8 (some .long) [] (uz_l z) 0 0 6 [(0, .long x0), (2, .long x2), (4, .int x4), (5, .long x5), (7, .long x7)] [] mem := by
  intro n
  induction n with
  | zero =>
    intro mem x0 x2 x4 x5 x7 z h
    rw [f_X8_least_b6] at h
    cases h
  | succ n ih =>
    intro mem x0 x2 x4 x5 x7 z h
    rw [f_X8_least_b6] at h
    refine ug_lload 4 dX8_least_6 rfl ?_
    refine ug_lconst (v := 0) dX8_least_8 (by decide) ?_
    refine ug_lcmp dX8_least_9 ?_
    refine ug_if_eq 31 dX8_least_10 (by decide) (fun q1 => ?_) (fun q1 => ?_)
    · rw [if_pos q1] at h
      refine ug_iload 2 dX8_least_31 rfl ?_
      refine ug_if_ne 40 dX8_least_33 (by decide) (fun q2 => ?_) (fun q2 => ?_)
      · rw [if_neg q2] at h
        refine ug_lload_n 1 dX8_least_40 rfl rfl ?_
        refine ug_sub [(5, .long x5)] [3] rfl ?_
        exact t_X8_least_b41 mem x5 x2 _ h
      · rw [if_pos q2] at h
        refine ug_lload_n 0 dX8_least_36 rfl rfl ?_
        refine ug_goto 41 dX8_least_37 (by decide) ?_
        refine ug_sub [(5, .long x5)] [3] rfl ?_
        exact t_X8_least_b41 mem x5 x0 _ h
    · rw [if_neg q1] at h
      refine ug_lload 3 dX8_least_13 rfl ?_
      refine ug_lload 4 dX8_least_15 rfl ?_
      obtain ⟨g3, h⟩ := ugd_some h
      refine ug_lrem dX8_least_17 (of_decide_eq_true g3) ?_
      refine ug_lstore [(9, .long (x5 - x5 / x7 * x7)), (0, .long x0), (2, .long x2), (4, .int x4), (5, .long x5), (7, .long x7)] dX8_least_18 (Nat.le_of_ble_eq_true rfl) rfl ?_
      refine ug_lload 5 dX8_least_20 rfl ?_
      refine ug_lstore [(5, .long x7), (9, .long (x5 - x5 / x7 * x7)), (0, .long x0), (2, .long x2), (4, .int x4), (7, .long x7)] dX8_least_22 (Nat.le_of_ble_eq_true rfl) rfl ?_
      refine ug_lload 1 dX8_least_24 rfl ?_
      refine ug_lstore [(7, .long (x5 - x5 / x7 * x7)), (5, .long x7), (9, .long (x5 - x5 / x7 * x7)), (0, .long x0), (2, .long x2), (4, .int x4)] dX8_least_26 (Nat.le_of_ble_eq_true rfl) rfl ?_
      refine ug_goto 6 dX8_least_28 (by decide) ?_
      refine ug_sub [(0, .long x0), (2, .long x2), (4, .int x4), (5, .long x7), (7, .long (x5 - x5 / x7 * x7))] [3, 4, 5, 1, 0] rfl ?_
      exact ih mem x0 x2 x4 x7 (x5 - x5 / x7 * x7) _ h
def f_X8_least (mem : Um) (x0 : Int64) (x2 : Int64) (x4 : Int32) : Option (Um × Int64) :=
  f_X8_least_b6  UF mem x0 x2 x4 x0 x2
set_option maxRecDepth 20000 in
theorem t_X8_least {l : Launch} {E : Ue} (mem : Um) (x0 : Int64) (x2 : Int64) (x4 : Int32) (z : Um × Int64) (h : f_X8_least  mem x0 x2 x4 = some z) : ug l E 2 0 0 cX8_least 11 RX8 (some .long) [] (uz_l z) 0 0 0 [(0, .long x0), (2, .long x2), (4, .int x4)] [] mem := by
  rw [f_X8_least] at h
  refine ug_lload_n 0 dX8_least_0 rfl rfl ?_
  refine ug_lstore [(5, .long x0), (0, .long x0), (2, .long x2), (4, .int x4)] dX8_least_1 (Nat.le_of_ble_eq_true rfl) rfl ?_
  refine ug_lload_n 2 dX8_least_3 rfl rfl ?_
  refine ug_lstore [(7, .long x2), (5, .long x0), (0, .long x0), (2, .long x2), (4, .int x4)] dX8_least_4 (Nat.le_of_ble_eq_true rfl) rfl ?_
  refine ug_sub [(0, .long x0), (2, .long x2), (4, .int x4), (5, .long x0), (7, .long x2)] [2, 3, 4, 1, 0] rfl ?_
  exact t_X8_least_b6  UF mem x0 x2 x4 x0 x2 _ h
theorem c_X8_least {l : Launch} {E : Ue} {mem : Um} {x0 : Int64} {x2 : Int64} {x4 : Int32} {m1 : Um} {r : Int64} (h : f_X8_least  mem x0 x2 x4 = some (m1, r)) : ucr l E 2 0 0 yX8_least cX8_least 11 (some .long) [.long x0, .long x2, .int x4] mem (some (.long r)) m1 := ucr_of rfl (Nat.le_of_ble_eq_true rfl) (t_X8_least  mem x0 x2 x4 _ h)
-- X8_wall
def f_X8_wall_b38 (mem : Um) : Option (Um × Int32) :=
  some (mem, 0)
set_option maxRecDepth 20000 in
theorem t_X8_wall_b38 {l : Launch} {E : Ue} (mem : Um) (z : Um × Int32) (h : f_X8_wall_b38  mem  = some z) : ug l E 4 0 0 cX8_wall 6 RX8 (some .int) [] (uz_i z) 0 0 38 [] [] mem := by
  rw [f_X8_wall_b38] at h
  refine ug_iconst dX8_wall_38 un_iconst_0 ?_
  obtain rfl := Option.some.inj h
  exact ug_iret dX8_wall_39
def f_X8_wall_b108 (mem : Um) (y0 : Int32) : Option (Um × Int32) :=
  some (mem, y0)
set_option maxRecDepth 20000 in
theorem t_X8_wall_b108 {l : Launch} {E : Ue} (mem : Um) (y0 : Int32) (z : Um × Int32) (h : f_X8_wall_b108  mem y0 = some z) : ug l E 4 0 0 cX8_wall 6 RX8 (some .int) [] (uz_i z) 0 0 108 [] [.int y0] mem := by
  rw [f_X8_wall_b108] at h
  obtain rfl := Option.some.inj h
  exact ug_iret dX8_wall_108
def f_X8_wall (mem : Um) (x1 : Int32) (x2 : Int32) (x3 : Int32) : Option (Um × Int32) :=
  ubi (f_X8_isTenant (um_w mem 38 0 0) x1 1) (fun m1 r2 => if r2 = 0 then (f_X8_wall_b38 m1) else (ubi (f_X8_isTenant m1 x2 1) (fun m5 r6 => if r6 = 0 then (f_X8_wall_b38 m5) else (ubi (f_X8_within m5 x3 0 1) (fun m9 r10 => ubi (f_X8_may m9 r10 2 1) (fun m12 r13 => if r13 = 0 then (f_X8_wall_b38 m12) else (ubi (f_X8_take m12) (fun m16 r17 => ubi (f_X8_areTouching m16 x1 x2) (fun m19 r20 => if r20 = 0 then (some (m19, (-1))) else (ugd (uin (10 + x1) 28) (ugd (uin (10 + x2) 28) (if (m19 54 (10 + x1).toNatClampNeg) = (m19 54 (10 + x2).toNatClampNeg) then (f_X8_wall_b108 m19 x3) else (ubi (f_X8_size m19 ((m19 54 (10 + x1).toNatClampNeg) - (m19 54 (10 + x2).toNatClampNeg))) (fun m26 r27 => ubi (f_X8_least m26 (((m19 54 (10 + x1).toNatClampNeg) * (m19 54 (10 + x2).toNatClampNeg)).toInt64) r27.toInt64 x3) (fun m29 r30 => f_X8_wall_b108 m29 r30.toInt32)))))))))))))))
set_option maxRecDepth 20000 in
theorem t_X8_wall {l : Launch} {E : Ue} (mem : Um) (x1 : Int32) (x2 : Int32) (x3 : Int32) (z : Um × Int32) (h : f_X8_wall  mem x1 x2 x3 = some z) : ug l E 4 0 0 cX8_wall 6 RX8 (some .int) [] (uz_i z) 0 0 0 [(0, .ref (ue_d E 38)), (1, .int x1), (2, .int x2), (3, .int x3)] [] mem := by
  rw [f_X8_wall] at h
  refine ug_aload_n 0 dX8_wall_0 rfl rfl ?_
  refine ug_iconst dX8_wall_1 un_iconst_0 ?_
  refine ug_putI kp_X8_3 gi_38_0 dX8_wall_2 ?_
  refine ug_aload_n 0 dX8_wall_5 rfl rfl ?_
  refine ug_iload_n 1 dX8_wall_6 rfl rfl ?_
  refine ug_iconst dX8_wall_7 un_iconst_1 ?_
  obtain ⟨m1, r2, h3, h⟩ := ubi_some h
  refine ug_callVi [.int x1, .int 1] (c_X8_isTenant  h3) kc_X8_395 ro_38 rfl (S := []) rfl (Nat.le_of_ble_eq_true rfl) (Nat.le_of_ble_eq_true rfl) (Nat.le_of_ble_eq_true rfl) dX8_wall_8 ?_
  refine ug_if_eq 38 dX8_wall_11 (by decide) (fun q4 => ?_) (fun q4 => ?_)
  · rw [if_pos q4] at h
    refine ug_sub [] [] rfl ?_
    exact t_X8_wall_b38 m1  _ h
  · rw [if_neg q4] at h
    refine ug_aload_n 0 dX8_wall_14 rfl rfl ?_
    refine ug_iload_n 2 dX8_wall_15 rfl rfl ?_
    refine ug_iconst dX8_wall_16 un_iconst_1 ?_
    obtain ⟨m5, r6, h7, h⟩ := ubi_some h
    refine ug_callVi [.int x2, .int 1] (c_X8_isTenant  h7) kc_X8_395 ro_38 rfl (S := []) rfl (Nat.le_of_ble_eq_true rfl) (Nat.le_of_ble_eq_true rfl) (Nat.le_of_ble_eq_true rfl) dX8_wall_17 ?_
    refine ug_if_eq 38 dX8_wall_20 (by decide) (fun q8 => ?_) (fun q8 => ?_)
    · rw [if_pos q8] at h
      refine ug_sub [] [] rfl ?_
      exact t_X8_wall_b38 m5  _ h
    · rw [if_neg q8] at h
      refine ug_aload_n 0 dX8_wall_23 rfl rfl ?_
      refine ug_iload_n 3 dX8_wall_24 rfl rfl ?_
      refine ug_iconst dX8_wall_25 un_iconst_0 ?_
      refine ug_iconst dX8_wall_26 un_iconst_1 ?_
      obtain ⟨m9, r10, h11, h⟩ := ubi_some h
      refine ug_callSi [.int x3, .int 0, .int 1] (c_X8_within  h11) kc_X8_352 rfl (S := [.ref (ue_d E 38)]) rfl (Nat.le_of_ble_eq_true rfl) (Nat.le_of_ble_eq_true rfl) (Nat.le_of_ble_eq_true rfl) dX8_wall_27 ?_
      refine ug_iconst dX8_wall_30 un_iconst_2 ?_
      refine ug_iconst dX8_wall_31 un_iconst_1 ?_
      obtain ⟨m12, r13, h14, h⟩ := ubi_some h
      refine ug_callVi [.int r10, .int 2, .int 1] (c_X8_may  h14) kc_X8_190 ro_38 rfl (S := []) rfl (Nat.le_of_ble_eq_true rfl) (Nat.le_of_ble_eq_true rfl) (Nat.le_of_ble_eq_true rfl) dX8_wall_32 ?_
      refine ug_if_ne 40 dX8_wall_35 (by decide) (fun q15 => ?_) (fun q15 => ?_)
      · rw [if_neg q15] at h
        refine ug_aload_n 0 dX8_wall_40 rfl rfl ?_
        obtain ⟨m16, r17, h18, h⟩ := ubi_some h
        refine ug_callVv [] (c_X8_take  h18) kc_X8_302 ro_38 rfl (S := []) rfl (Nat.le_of_ble_eq_true rfl) (Nat.le_of_ble_eq_true rfl) (Nat.le_of_ble_eq_true rfl) dX8_wall_41 ?_
        refine ug_aload_n 0 dX8_wall_44 rfl rfl ?_
        refine ug_iload_n 1 dX8_wall_45 rfl rfl ?_
        refine ug_iload_n 2 dX8_wall_46 rfl rfl ?_
        obtain ⟨m19, r20, h21, h⟩ := ubi_some h
        refine ug_callVi [.int x1, .int x2] (c_X8_areTouching  h21) kc_X8_330 ro_38 rfl (S := []) rfl (Nat.le_of_ble_eq_true rfl) (Nat.le_of_ble_eq_true rfl) (Nat.le_of_ble_eq_true rfl) dX8_wall_47 ?_
        refine ug_if_ne 55 dX8_wall_50 (by decide) (fun q22 => ?_) (fun q22 => ?_)
        · rw [if_neg q22] at h
          refine ug_aload_n 0 dX8_wall_55 rfl rfl ?_
          refine ug_getR kf_X8_62 gr_38_37 dX8_wall_56 ?_
          refine ug_bipush dX8_wall_59 un_bipush_10 ?_
          refine ug_iload_n 1 dX8_wall_61 rfl rfl ?_
          refine ug_iadd dX8_wall_62 ?_
          obtain ⟨g23, h⟩ := ugd_some h
          refine ug_iald al_54 (uin_ok g23) dX8_wall_63 ?_
          refine ug_istore [(4, .int (m19 54 (10 + x1).toNatClampNeg)), (0, .ref (ue_d E 38)), (1, .int x1), (2, .int x2), (3, .int x3)] dX8_wall_64 (Nat.le_of_ble_eq_true rfl) rfl ?_
          refine ug_aload_n 1 dX8_wall_66 rfl rfl ?_
          refine ug_getR kf_X8_62 gr_38_37 dX8_wall_67 ?_
          refine ug_bipush dX8_wall_70 un_bipush_10 ?_
          refine ug_iload_n 3 dX8_wall_72 rfl rfl ?_
          refine ug_iadd dX8_wall_73 ?_
          obtain ⟨g24, h⟩ := ugd_some h
          refine ug_iald al_54 (uin_ok g24) dX8_wall_74 ?_
          refine ug_istore [(5, .int (m19 54 (10 + x2).toNatClampNeg)), (4, .int (m19 54 (10 + x1).toNatClampNeg)), (0, .ref (ue_d E 38)), (1, .int x1), (2, .int x2), (3, .int x3)] dX8_wall_75 (Nat.le_of_ble_eq_true rfl) rfl ?_
          refine ug_iload 1 dX8_wall_77 rfl ?_
          refine ug_iload 0 dX8_wall_79 rfl ?_
          refine ug_icmp_ne 88 dX8_wall_81 (by decide) (fun q25 => ?_) (fun q25 => ?_)
          · rw [if_neg q25] at h
            refine ug_iload 1 dX8_wall_88 rfl ?_
            refine ug_iload 0 dX8_wall_90 rfl ?_
            refine ug_imul dX8_wall_92 ?_
            refine ug_i2l dX8_wall_93 ?_
            refine ug_iload 1 dX8_wall_94 rfl ?_
            refine ug_iload 0 dX8_wall_96 rfl ?_
            refine ug_isub dX8_wall_98 ?_
            obtain ⟨m26, r27, h28, h⟩ := ubi_some h
            refine ug_callSi [.int ((m19 54 (10 + x1).toNatClampNeg) - (m19 54 (10 + x2).toNatClampNeg))] (c_X8_size  h28) kc_X8_321 rfl (S := [.long ((m19 54 (10 + x1).toNatClampNeg) * (m19 54 (10 + x2).toNatClampNeg)).toInt64]) rfl (Nat.le_of_ble_eq_true rfl) (Nat.le_of_ble_eq_true rfl) (Nat.le_of_ble_eq_true rfl) dX8_wall_99 ?_
            refine ug_i2l dX8_wall_102 ?_
            refine ug_iload_n 5 dX8_wall_103 rfl rfl ?_
            obtain ⟨m29, r30, h31, h⟩ := ubi_some h
            refine ug_callSl [.long ((m19 54 (10 + x1).toNatClampNeg) * (m19 54 (10 + x2).toNatClampNeg)).toInt64, .long r27.toInt64, .int x3] (c_X8_least  h31) kc_X8_401 rfl (S := []) rfl (Nat.le_of_ble_eq_true rfl) (Nat.le_of_ble_eq_true rfl) (Nat.le_of_ble_eq_true rfl) dX8_wall_104 ?_
            refine ug_l2i dX8_wall_107 ?_
            refine ug_sub [] [] rfl ?_
            exact t_X8_wall_b108 m29 r30.toInt32 _ h
          · rw [if_pos q25] at h
            refine ug_iload_n 5 dX8_wall_84 rfl rfl ?_
            refine ug_goto 108 dX8_wall_85 (by decide) ?_
            refine ug_sub [] [] rfl ?_
            exact t_X8_wall_b108 m19 x3 _ h
        · rw [if_pos q22] at h
          refine ug_iconst dX8_wall_53 un_iconst_m1 ?_
          obtain rfl := Option.some.inj h
          exact ug_iret dX8_wall_54
      · rw [if_pos q15] at h
        refine ug_sub [] [] rfl ?_
        exact t_X8_wall_b38 m12  _ h
theorem c_X8_wall {l : Launch} {E : Ue} {mem : Um} {x1 : Int32} {x2 : Int32} {x3 : Int32} {m1 : Um} {r : Int32} (h : f_X8_wall  mem x1 x2 x3 = some (m1, r)) : ucr l E 4 0 0 yX8_wall cX8_wall 6 (some .int) [.ref (ue_d E 38), .int x1, .int x2, .int x3] mem (some (.int r)) m1 := ucr_of rfl (Nat.le_of_ble_eq_true rfl) (t_X8_wall  mem x1 x2 x3 _ h)
-- X8_worthFrom
def f_X8_worthFrom_b47 (k5 : Um → Int32 → Int32 → Int32 → Int32 → Option (Um × Int32)) (mem : Um) (x1 : Int32) (x2 : Int32) (x4 : Int32) (y0 : Int32) (y1 : Int32) : Option (Um × Int32) :=
  k5 mem x1 x2 (y1 + y0) (x4 + 1)
set_option maxRecDepth 20000 in
theorem t_X8_worthFrom_b47 {l : Launch} {E : Ue} (k5 : Um → Int32 → Int32 → Int32 → Int32 → Option (Um × Int32)) (hk5 : ∀ (mem : Um) (x1 : Int32) (x2 : Int32) (x3 : Int32) (x4 : Int32) (z : Um × Int32), k5 mem x1 x2 x3 x4 = some z → ug l E 3 0 0 cX8_worthFrom 5 RX8 (some .int) [] (uz_i z) 0 0 5 [(0, .ref (ue_d E 38)), (1, .int x1), (2, .int x2), (3, .int x3), (4, .int x4)] [] mem) (mem : Um) (x1 : Int32) (x2 : Int32) (x4 : Int32) (y0 : Int32) (y1 : Int32) (z : Um × Int32) (h : f_X8_worthFrom_b47 k5 mem x1 x2 x4 y0 y1 = some z) : ug l E 3 0 0 cX8_worthFrom 5 RX8 (some .int) [] (uz_i z) 0 0 47 [(0, .ref (ue_d E 38)), (1, .int x1), (2, .int x2), (4, .int x4)] [.int y0, .int y1] mem := by
  rw [f_X8_worthFrom_b47] at h
  refine ug_iadd dX8_worthFrom_47 ?_
  refine ug_istore_n [(3, .int (y1 + y0)), (0, .ref (ue_d E 38)), (1, .int x1), (2, .int x2), (4, .int x4)] dX8_worthFrom_48 rfl (Nat.le_of_ble_eq_true rfl) rfl ?_
  refine ug_iinc (v := (x4 + 1)) [(4, .int (x4 + 1)), (3, .int (y1 + y0)), (0, .ref (ue_d E 38)), (1, .int x1), (2, .int x2)] 4 dX8_worthFrom_49 rfl rfl (Nat.le_of_ble_eq_true rfl) rfl ?_
  refine ug_goto 5 dX8_worthFrom_52 (by decide) ?_
  refine ug_sub [(0, .ref (ue_d E 38)), (1, .int x1), (2, .int x2), (3, .int (y1 + y0)), (4, .int (x4 + 1))] [2, 3, 4, 1, 0] rfl ?_
  exact hk5 mem x1 x2 (y1 + y0) (x4 + 1) _ h
def f_X8_worthFrom_b5 : Nat → Um → Int32 → Int32 → Int32 → Int32 → Option (Um × Int32)
  | 0, _, _, _, _, _ => none
  | n + 1, mem, x1, x2, x3, x4 =>
    if (mem 38 17) ≤ x4 then (some (mem, x3)) else (ugd (uin (2 * x4) 16) (ubi (f_X8_within mem (mem 43 (2 * x4).toNatClampNeg) x1 x2) (fun m3 r4 => if r4 = 0 then (f_X8_worthFrom_b47 (f_X8_worthFrom_b5  n) m3 x1 x2 x4 0 x3) else (ugd (uin ((2 * x4) + 1) 16) (f_X8_worthFrom_b47 (f_X8_worthFrom_b5  n) m3 x1 x2 x4 (m3 43 ((2 * x4) + 1).toNatClampNeg) x3)))))
set_option maxRecDepth 20000 in
theorem t_X8_worthFrom_b5 {l : Launch} {E : Ue} : ∀ (n : Nat) (mem : Um) (x1 : Int32) (x2 : Int32) (x3 : Int32) (x4 : Int32) (z : Um × Int32), f_X8_worthFrom_b5  n mem x1 x2 x3 x4 = some z → ug l E 3 0 0 cX8_worthFrom 5 RX8 (some .int) [] (uz_i z) 0 0 5 [(0, .ref (ue_d E 38)), (1, .int x1), (2, .int x2), (3, .int x3), (4, .int x4)] [] mem := by
  intro n
  induction n with
  | zero =>
    intro mem x1 x2 x3 x4 z h
    rw [f_X8_worthFrom_b5] at h
    cases h
  | succ n ih =>
    intro mem x1 x2 x3 x4 z h
    rw [f_X8_worthFrom_b5] at h
    refine ug_iload 4 dX8_worthFrom_5 rfl ?_
    refine ug_aload_n 0 dX8_worthFrom_7 rfl rfl ?_
    refine ug_getI kf_X8_151 gi_38_17 dX8_worthFrom_8 ?_
    refine ug_icmp_ge 55 dX8_worthFrom_11 (by decide) (fun q1 => ?_) (fun q1 => ?_)
    · rw [if_pos q1] at h
      refine ug_iload_n 3 dX8_worthFrom_55 rfl rfl ?_
      obtain rfl := Option.some.inj h
      exact ug_iret dX8_worthFrom_56
    · rw [if_neg q1] at h
      refine ug_iload_n 3 dX8_worthFrom_14 rfl rfl ?_
      refine ug_aload_n 0 dX8_worthFrom_15 rfl rfl ?_
      refine ug_getR kf_X8_29 gr_38_12 dX8_worthFrom_16 ?_
      refine ug_iconst dX8_worthFrom_19 un_iconst_2 ?_
      refine ug_iload 4 dX8_worthFrom_20 rfl ?_
      refine ug_imul dX8_worthFrom_22 ?_
      obtain ⟨g2, h⟩ := ugd_some h
      refine ug_iald al_43 (uin_ok g2) dX8_worthFrom_23 ?_
      refine ug_iload_n 1 dX8_worthFrom_24 rfl rfl ?_
      refine ug_iload_n 2 dX8_worthFrom_25 rfl rfl ?_
      obtain ⟨m3, r4, h5, h⟩ := ubi_some h
      refine ug_callSi [.int (mem 43 (2 * x4).toNatClampNeg), .int x1, .int x2] (c_X8_within  h5) kc_X8_352 rfl (S := [.int x3]) rfl (Nat.le_of_ble_eq_true rfl) (Nat.le_of_ble_eq_true rfl) (Nat.le_of_ble_eq_true rfl) dX8_worthFrom_26 ?_
      refine ug_if_eq 46 dX8_worthFrom_29 (by decide) (fun q6 => ?_) (fun q6 => ?_)
      · rw [if_pos q6] at h
        refine ug_iconst dX8_worthFrom_46 un_iconst_0 ?_
        refine ug_sub [(0, .ref (ue_d E 38)), (1, .int x1), (2, .int x2), (4, .int x4)] [0, 1, 2, 4] rfl ?_
        exact t_X8_worthFrom_b47 (f_X8_worthFrom_b5  n) ih m3 x1 x2 x4 0 x3 _ h
      · rw [if_neg q6] at h
        refine ug_aload_n 0 dX8_worthFrom_32 rfl rfl ?_
        refine ug_getR kf_X8_29 gr_38_12 dX8_worthFrom_33 ?_
        refine ug_iconst dX8_worthFrom_36 un_iconst_2 ?_
        refine ug_iload 4 dX8_worthFrom_37 rfl ?_
        refine ug_imul dX8_worthFrom_39 ?_
        refine ug_iconst dX8_worthFrom_40 un_iconst_1 ?_
        refine ug_iadd dX8_worthFrom_41 ?_
        obtain ⟨g7, h⟩ := ugd_some h
        refine ug_iald al_43 (uin_ok g7) dX8_worthFrom_42 ?_
        refine ug_goto 47 dX8_worthFrom_43 (by decide) ?_
        refine ug_sub [(0, .ref (ue_d E 38)), (1, .int x1), (2, .int x2), (4, .int x4)] [0, 1, 2, 4] rfl ?_
        exact t_X8_worthFrom_b47 (f_X8_worthFrom_b5  n) ih m3 x1 x2 x4 (m3 43 ((2 * x4) + 1).toNatClampNeg) x3 _ h
def f_X8_worthFrom (mem : Um) (x1 : Int32) (x2 : Int32) : Option (Um × Int32) :=
  f_X8_worthFrom_b5  UF mem x1 x2 0 0
set_option maxRecDepth 20000 in
theorem t_X8_worthFrom {l : Launch} {E : Ue} (mem : Um) (x1 : Int32) (x2 : Int32) (z : Um × Int32) (h : f_X8_worthFrom  mem x1 x2 = some z) : ug l E 3 0 0 cX8_worthFrom 5 RX8 (some .int) [] (uz_i z) 0 0 0 [(0, .ref (ue_d E 38)), (1, .int x1), (2, .int x2)] [] mem := by
  rw [f_X8_worthFrom] at h
  refine ug_iconst dX8_worthFrom_0 un_iconst_0 ?_
  refine ug_istore_n [(3, .int 0), (0, .ref (ue_d E 38)), (1, .int x1), (2, .int x2)] dX8_worthFrom_1 rfl (Nat.le_of_ble_eq_true rfl) rfl ?_
  refine ug_iconst dX8_worthFrom_2 un_iconst_0 ?_
  refine ug_istore [(4, .int 0), (3, .int 0), (0, .ref (ue_d E 38)), (1, .int x1), (2, .int x2)] dX8_worthFrom_3 (Nat.le_of_ble_eq_true rfl) rfl ?_
  refine ug_sub [(0, .ref (ue_d E 38)), (1, .int x1), (2, .int x2), (3, .int 0), (4, .int 0)] [2, 3, 4, 1, 0] rfl ?_
  exact t_X8_worthFrom_b5  UF mem x1 x2 0 0 _ h
theorem c_X8_worthFrom {l : Launch} {E : Ue} {mem : Um} {x1 : Int32} {x2 : Int32} {m1 : Um} {r : Int32} (h : f_X8_worthFrom  mem x1 x2 = some (m1, r)) : ucr l E 3 0 0 yX8_worthFrom cX8_worthFrom 5 (some .int) [.ref (ue_d E 38), .int x1, .int x2] mem (some (.int r)) m1 := ucr_of rfl (Nat.le_of_ble_eq_true rfl) (t_X8_worthFrom  mem x1 x2 _ h)
-- X8_pitch
def f_X8_pitch_b104 (mem : Um) (y0 : Int32) : Option (Um × Int32) :=
  some (mem, y0)
set_option maxRecDepth 20000 in
theorem t_X8_pitch_b104 {l : Launch} {E : Ue} (mem : Um) (y0 : Int32) (z : Um × Int32) (h : f_X8_pitch_b104  mem y0 = some z) : ug l E 4 0 0 cX8_pitch 5 RX8 (some .int) [] (uz_i z) 0 0 104 [] [.int y0] mem := by
  rw [f_X8_pitch_b104] at h
  obtain rfl := Option.some.inj h
  exact ug_iret dX8_pitch_104
def f_X8_pitch_b80 (k45 : Um → Int32 → Int32 → Int32 → Int32 → Option (Um × Int32)) (mem : Um) (x1 : Int32) (x2 : Int32) (x3 : Int32) (x4 : Int32) : Option (Um × Int32) :=
  k45 mem x1 x2 x3 (x4 + 1)
set_option maxRecDepth 20000 in
theorem t_X8_pitch_b80 {l : Launch} {E : Ue} (k45 : Um → Int32 → Int32 → Int32 → Int32 → Option (Um × Int32)) (hk45 : ∀ (mem : Um) (x1 : Int32) (x2 : Int32) (x3 : Int32) (x4 : Int32) (z : Um × Int32), k45 mem x1 x2 x3 x4 = some z → ug l E 4 0 0 cX8_pitch 5 RX8 (some .int) [] (uz_i z) 0 0 45 [(0, .ref (ue_d E 38)), (1, .int x1), (2, .int x2), (3, .int x3), (4, .int x4)] [] mem) (mem : Um) (x1 : Int32) (x2 : Int32) (x3 : Int32) (x4 : Int32) (z : Um × Int32) (h : f_X8_pitch_b80 k45 mem x1 x2 x3 x4 = some z) : ug l E 4 0 0 cX8_pitch 5 RX8 (some .int) [] (uz_i z) 0 0 80 [(0, .ref (ue_d E 38)), (1, .int x1), (2, .int x2), (3, .int x3), (4, .int x4)] [] mem := by
  rw [f_X8_pitch_b80] at h
  refine ug_iinc (v := (x4 + 1)) [(4, .int (x4 + 1)), (0, .ref (ue_d E 38)), (1, .int x1), (2, .int x2), (3, .int x3)] 4 dX8_pitch_80 rfl rfl (Nat.le_of_ble_eq_true rfl) rfl ?_
  refine ug_goto 45 dX8_pitch_83 (by decide) ?_
  refine ug_sub [(0, .ref (ue_d E 38)), (1, .int x1), (2, .int x2), (3, .int x3), (4, .int (x4 + 1))] [1, 2, 3, 4, 0] rfl ?_
  exact hk45 mem x1 x2 x3 (x4 + 1) _ h
def f_X8_pitch_b45 : Nat → Um → Int32 → Int32 → Int32 → Int32 → Option (Um × Int32)
  | 0, _, _, _, _, _ => none
  | n + 1, mem, x1, x2, x3, x4 =>
    if 99 < x4 then (if x2 = 0 then (f_X8_pitch_b104 mem x3) else (ubi (f_X8_worthFrom mem (x3 - x1) (x3 + x1)) (fun m3 r4 => f_X8_pitch_b104 m3 r4))) else (ubi (f_X8_worthFrom mem (x4 - x1) (x4 + x1)) (fun m6 r7 => ubi (f_X8_worthFrom m6 (x3 - x1) (x3 + x1)) (fun m9 r10 => if r7 ≤ r10 then (f_X8_pitch_b80 (f_X8_pitch_b45  n) m9 x1 x2 x3 x4) else (f_X8_pitch_b80 (f_X8_pitch_b45  n) m9 x1 x2 x4 x4))))
set_option maxRecDepth 20000 in
theorem t_X8_pitch_b45 {l : Launch} {E : Ue} : ∀ (n : Nat) (mem : Um) (x1 : Int32) (x2 : Int32) (x3 : Int32) (x4 : Int32) (z : Um × Int32), f_X8_pitch_b45  n mem x1 x2 x3 x4 = some z → ug l E 4 0 0 cX8_pitch 5 RX8 (some .int) [] (uz_i z) 0 0 45 [(0, .ref (ue_d E 38)), (1, .int x1), (2, .int x2), (3, .int x3), (4, .int x4)] [] mem := by
  intro n
  induction n with
  | zero =>
    intro mem x1 x2 x3 x4 z h
    rw [f_X8_pitch_b45] at h
    cases h
  | succ n ih =>
    intro mem x1 x2 x3 x4 z h
    rw [f_X8_pitch_b45] at h
    refine ug_iload 4 dX8_pitch_45 rfl ?_
    refine ug_bipush dX8_pitch_47 un_bipush_99 ?_
    refine ug_icmp_gt 86 dX8_pitch_49 (by decide) (fun q1 => ?_) (fun q1 => ?_)
    · rw [if_pos q1] at h
      refine ug_iload_n 2 dX8_pitch_86 rfl rfl ?_
      refine ug_if_ne 94 dX8_pitch_87 (by decide) (fun q2 => ?_) (fun q2 => ?_)
      · rw [if_neg q2] at h
        refine ug_aload_n 0 dX8_pitch_94 rfl rfl ?_
        refine ug_iload_n 3 dX8_pitch_95 rfl rfl ?_
        refine ug_iload_n 1 dX8_pitch_96 rfl rfl ?_
        refine ug_isub dX8_pitch_97 ?_
        refine ug_iload_n 3 dX8_pitch_98 rfl rfl ?_
        refine ug_iload_n 1 dX8_pitch_99 rfl rfl ?_
        refine ug_iadd dX8_pitch_100 ?_
        obtain ⟨m3, r4, h5, h⟩ := ubi_some h
        refine ug_callVi [.int (x3 - x1), .int (x3 + x1)] (c_X8_worthFrom  h5) kc_X8_404 ro_38 rfl (S := []) rfl (Nat.le_of_ble_eq_true rfl) (Nat.le_of_ble_eq_true rfl) (Nat.le_of_ble_eq_true rfl) dX8_pitch_101 ?_
        refine ug_sub [] [] rfl ?_
        exact t_X8_pitch_b104 m3 r4 _ h
      · rw [if_pos q2] at h
        refine ug_iload_n 3 dX8_pitch_90 rfl rfl ?_
        refine ug_goto 104 dX8_pitch_91 (by decide) ?_
        refine ug_sub [] [] rfl ?_
        exact t_X8_pitch_b104 mem x3 _ h
    · rw [if_neg q1] at h
      refine ug_aload_n 0 dX8_pitch_52 rfl rfl ?_
      refine ug_iload 4 dX8_pitch_53 rfl ?_
      refine ug_iload_n 1 dX8_pitch_55 rfl rfl ?_
      refine ug_isub dX8_pitch_56 ?_
      refine ug_iload 4 dX8_pitch_57 rfl ?_
      refine ug_iload_n 1 dX8_pitch_59 rfl rfl ?_
      refine ug_iadd dX8_pitch_60 ?_
      obtain ⟨m6, r7, h8, h⟩ := ubi_some h
      refine ug_callVi [.int (x4 - x1), .int (x4 + x1)] (c_X8_worthFrom  h8) kc_X8_404 ro_38 rfl (S := []) rfl (Nat.le_of_ble_eq_true rfl) (Nat.le_of_ble_eq_true rfl) (Nat.le_of_ble_eq_true rfl) dX8_pitch_61 ?_
      refine ug_aload_n 0 dX8_pitch_64 rfl rfl ?_
      refine ug_iload_n 3 dX8_pitch_65 rfl rfl ?_
      refine ug_iload_n 1 dX8_pitch_66 rfl rfl ?_
      refine ug_isub dX8_pitch_67 ?_
      refine ug_iload_n 3 dX8_pitch_68 rfl rfl ?_
      refine ug_iload_n 1 dX8_pitch_69 rfl rfl ?_
      refine ug_iadd dX8_pitch_70 ?_
      obtain ⟨m9, r10, h11, h⟩ := ubi_some h
      refine ug_callVi [.int (x3 - x1), .int (x3 + x1)] (c_X8_worthFrom  h11) kc_X8_404 ro_38 rfl (S := [.int r7]) rfl (Nat.le_of_ble_eq_true rfl) (Nat.le_of_ble_eq_true rfl) (Nat.le_of_ble_eq_true rfl) dX8_pitch_71 ?_
      refine ug_icmp_le 80 dX8_pitch_74 (by decide) (fun q12 => ?_) (fun q12 => ?_)
      · rw [if_pos q12] at h
        exact t_X8_pitch_b80 (f_X8_pitch_b45  n) ih m9 x1 x2 x3 x4 _ h
      · rw [if_neg q12] at h
        refine ug_iload 4 dX8_pitch_77 rfl ?_
        refine ug_istore_n [(3, .int x4), (0, .ref (ue_d E 38)), (1, .int x1), (2, .int x2), (4, .int x4)] dX8_pitch_79 rfl (Nat.le_of_ble_eq_true rfl) rfl ?_
        refine ug_sub [(0, .ref (ue_d E 38)), (1, .int x1), (2, .int x2), (3, .int x4), (4, .int x4)] [1, 2, 3, 0, 4] rfl ?_
        exact t_X8_pitch_b80 (f_X8_pitch_b45  n) ih m9 x1 x2 x4 x4 _ h
def f_X8_pitch_b30 (mem : Um) (x1 : Int32) (x2 : Int32) (y0 : Int32) : Option (Um × Int32) :=
  ubi (f_X8_may mem y0 1 1) (fun m1 r2 => if r2 = 0 then (some (m1, 0)) else (f_X8_pitch_b45  UF m1 x1 x2 0 1))
set_option maxRecDepth 20000 in
theorem t_X8_pitch_b30 {l : Launch} {E : Ue} (mem : Um) (x1 : Int32) (x2 : Int32) (y0 : Int32) (z : Um × Int32) (h : f_X8_pitch_b30  mem x1 x2 y0 = some z) : ug l E 4 0 0 cX8_pitch 5 RX8 (some .int) [] (uz_i z) 0 0 30 [(0, .ref (ue_d E 38)), (1, .int x1), (2, .int x2)] [.int y0, .ref (ue_d E 38)] mem := by
  rw [f_X8_pitch_b30] at h
  refine ug_iconst dX8_pitch_30 un_iconst_1 ?_
  refine ug_iconst dX8_pitch_31 un_iconst_1 ?_
  obtain ⟨m1, r2, h3, h⟩ := ubi_some h
  refine ug_callVi [.int y0, .int 1, .int 1] (c_X8_may  h3) kc_X8_190 ro_38 rfl (S := []) rfl (Nat.le_of_ble_eq_true rfl) (Nat.le_of_ble_eq_true rfl) (Nat.le_of_ble_eq_true rfl) dX8_pitch_32 ?_
  refine ug_if_ne 40 dX8_pitch_35 (by decide) (fun q4 => ?_) (fun q4 => ?_)
  · rw [if_neg q4] at h
    refine ug_iconst dX8_pitch_40 un_iconst_0 ?_
    refine ug_istore_n [(3, .int 0), (0, .ref (ue_d E 38)), (1, .int x1), (2, .int x2)] dX8_pitch_41 rfl (Nat.le_of_ble_eq_true rfl) rfl ?_
    refine ug_iconst dX8_pitch_42 un_iconst_1 ?_
    refine ug_istore [(4, .int 1), (3, .int 0), (0, .ref (ue_d E 38)), (1, .int x1), (2, .int x2)] dX8_pitch_43 (Nat.le_of_ble_eq_true rfl) rfl ?_
    refine ug_sub [(0, .ref (ue_d E 38)), (1, .int x1), (2, .int x2), (3, .int 0), (4, .int 1)] [2, 3, 4, 1, 0] rfl ?_
    exact t_X8_pitch_b45  UF m1 x1 x2 0 1 _ h
  · rw [if_pos q4] at h
    refine ug_iconst dX8_pitch_38 un_iconst_0 ?_
    obtain rfl := Option.some.inj h
    exact ug_iret dX8_pitch_39
def f_X8_pitch_b29 (mem : Um) (x1 : Int32) (x2 : Int32) : Option (Um × Int32) :=
  f_X8_pitch_b30 mem x1 x2 0
set_option maxRecDepth 20000 in
theorem t_X8_pitch_b29 {l : Launch} {E : Ue} (mem : Um) (x1 : Int32) (x2 : Int32) (z : Um × Int32) (h : f_X8_pitch_b29  mem x1 x2 = some z) : ug l E 4 0 0 cX8_pitch 5 RX8 (some .int) [] (uz_i z) 0 0 29 [(0, .ref (ue_d E 38)), (1, .int x1), (2, .int x2)] [.ref (ue_d E 38)] mem := by
  rw [f_X8_pitch_b29] at h
  refine ug_iconst dX8_pitch_29 un_iconst_0 ?_
  exact t_X8_pitch_b30 mem x1 x2 0 _ h
def f_X8_pitch (mem : Um) (x1 : Int32) (x2 : Int32) : Option (Um × Int32) :=
  ubi (f_X8_within (um_w mem 38 0 0) x1 1 20) (fun m1 r2 => if r2 = 0 then (f_X8_pitch_b29 m1 x1 x2) else (ubi (f_X8_within m1 x2 0 1) (fun m5 r6 => if r6 = 0 then (f_X8_pitch_b29 m5 x1 x2) else (f_X8_pitch_b30 m5 x1 x2 1))))
set_option maxRecDepth 20000 in
theorem t_X8_pitch {l : Launch} {E : Ue} (mem : Um) (x1 : Int32) (x2 : Int32) (z : Um × Int32) (h : f_X8_pitch  mem x1 x2 = some z) : ug l E 4 0 0 cX8_pitch 5 RX8 (some .int) [] (uz_i z) 0 0 0 [(0, .ref (ue_d E 38)), (1, .int x1), (2, .int x2)] [] mem := by
  rw [f_X8_pitch] at h
  refine ug_aload_n 0 dX8_pitch_0 rfl rfl ?_
  refine ug_iconst dX8_pitch_1 un_iconst_0 ?_
  refine ug_putI kp_X8_3 gi_38_0 dX8_pitch_2 ?_
  refine ug_aload_n 0 dX8_pitch_5 rfl rfl ?_
  refine ug_iload_n 1 dX8_pitch_6 rfl rfl ?_
  refine ug_iconst dX8_pitch_7 un_iconst_1 ?_
  refine ug_bipush dX8_pitch_8 un_bipush_20 ?_
  obtain ⟨m1, r2, h3, h⟩ := ubi_some h
  refine ug_callSi [.int x1, .int 1, .int 20] (c_X8_within  h3) kc_X8_352 rfl (S := [.ref (ue_d E 38)]) rfl (Nat.le_of_ble_eq_true rfl) (Nat.le_of_ble_eq_true rfl) (Nat.le_of_ble_eq_true rfl) dX8_pitch_10 ?_
  refine ug_if_eq 29 dX8_pitch_13 (by decide) (fun q4 => ?_) (fun q4 => ?_)
  · rw [if_pos q4] at h
    exact t_X8_pitch_b29 m1 x1 x2 _ h
  · rw [if_neg q4] at h
    refine ug_iload_n 2 dX8_pitch_16 rfl rfl ?_
    refine ug_iconst dX8_pitch_17 un_iconst_0 ?_
    refine ug_iconst dX8_pitch_18 un_iconst_1 ?_
    obtain ⟨m5, r6, h7, h⟩ := ubi_some h
    refine ug_callSi [.int x2, .int 0, .int 1] (c_X8_within  h7) kc_X8_352 rfl (S := [.ref (ue_d E 38)]) rfl (Nat.le_of_ble_eq_true rfl) (Nat.le_of_ble_eq_true rfl) (Nat.le_of_ble_eq_true rfl) dX8_pitch_19 ?_
    refine ug_if_eq 29 dX8_pitch_22 (by decide) (fun q8 => ?_) (fun q8 => ?_)
    · rw [if_pos q8] at h
      exact t_X8_pitch_b29 m5 x1 x2 _ h
    · rw [if_neg q8] at h
      refine ug_iconst dX8_pitch_25 un_iconst_1 ?_
      refine ug_goto 30 dX8_pitch_26 (by decide) ?_
      exact t_X8_pitch_b30 m5 x1 x2 1 _ h
theorem c_X8_pitch {l : Launch} {E : Ue} {mem : Um} {x1 : Int32} {x2 : Int32} {m1 : Um} {r : Int32} (h : f_X8_pitch  mem x1 x2 = some (m1, r)) : ucr l E 4 0 0 yX8_pitch cX8_pitch 5 (some .int) [.ref (ue_d E 38), .int x1, .int x2] mem (some (.int r)) m1 := ucr_of rfl (Nat.le_of_ble_eq_true rfl) (t_X8_pitch  mem x1 x2 _ h)
