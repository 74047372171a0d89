-- X8_keepsRow
def f_X8_keepsRow_b43 (a0 : Nat) (n0 : Nat) (k3 : Um → Int32 → Int32 → Int32 → Int32 → Option (Um × Int32)) (mem : Um) (x1 : Int32) (x3 : Int32) (x4 : Int32) (x5 : Int32) : Option (Um × Int32) :=
  k3 mem x1 x3 x4 (x5 + 1)
set_option maxRecDepth 20000 in
theorem t_X8_keepsRow_b43 {l : Launch} {E : Ue} {a0 : Nat} {n0 : Nat} (ha0 : ud_all[a0]? = some (.inr (0, n0))) (k3 : Um → Int32 → Int32 → Int32 → Int32 → Option (Um × Int32)) (hk3 : ∀ (mem : Um) (x1 : Int32) (x3 : Int32) (x4 : Int32) (x5 : Int32) (z : Um × Int32), k3 mem x1 x3 x4 x5 = some z → ug l E 2 0 0 cX8_keepsRow 6 RX8 (some .int) [] (uz_i z) 0 0 3 [(0, .ref (ue_d E 38)), (1, .int x1), (2, .ref (ue_d E a0)), (3, .int x3), (4, .int x4), (5, .int x5)] [] mem) (mem : Um) (x1 : Int32) (x3 : Int32) (x4 : Int32) (x5 : Int32) (z : Um × Int32) (h : f_X8_keepsRow_b43 a0 n0 k3 mem x1 x3 x4 x5 = some z) : ug l E 2 0 0 cX8_keepsRow 6 RX8 (some .int) [] (uz_i z) 0 0 43 [(0, .ref (ue_d E 38)), (1, .int x1), (2, .ref (ue_d E a0)), (3, .int x3), (4, .int x4), (5, .int x5)] [] mem := by
  rw [f_X8_keepsRow_b43] at h
  refine ug_iinc (v := (x5 + 1)) [(5, .int (x5 + 1)), (0, .ref (ue_d E 38)), (1, .int x1), (2, .ref (ue_d E a0)), (3, .int x3), (4, .int x4)] 5 dX8_keepsRow_43 rfl rfl (Nat.le_of_ble_eq_true rfl) rfl ?_
  refine ug_goto 3 dX8_keepsRow_46 (by decide) ?_
  refine ug_sub [(0, .ref (ue_d E 38)), (1, .int x1), (2, .ref (ue_d E a0)), (3, .int x3), (4, .int x4), (5, .int (x5 + 1))] [1, 2, 3, 4, 5, 0] rfl ?_
  exact hk3 mem x1 x3 x4 (x5 + 1) _ h
def f_X8_keepsRow_b3 (a0 : Nat) (n0 : Nat) : Nat → Um → Int32 → Int32 → Int32 → Int32 → Option (Um × Int32)
  | 0, _, _, _, _, _ => none
  | n + 1, mem, x1, x3, x4, x5 =>
    if x3 ≤ x5 then (some (mem, (x1 + x3))) else (if x4 = 0 then (ugd (uin (x1 + x5) 1431) (ugd (uin x5 n0) (f_X8_keepsRow_b43 a0 n0 (f_X8_keepsRow_b3 a0 n0 n) (um_w mem a0 x5.toNatClampNeg (mem 62 (x1 + x5).toNatClampNeg)) x1 x3 x4 x5))) else (ugd (uin x5 n0) (ugd (uin (x1 + x5) 1431) (f_X8_keepsRow_b43 a0 n0 (f_X8_keepsRow_b3 a0 n0 n) (um_w mem 62 (x1 + x5).toNatClampNeg (mem a0 x5.toNatClampNeg)) x1 x3 x4 x5))))
set_option maxRecDepth 20000 in
theorem t_X8_keepsRow_b3 {l : Launch} {E : Ue} {a0 : Nat} {n0 : Nat} (ha0 : ud_all[a0]? = some (.inr (0, n0))) : ∀ (n : Nat) (mem : Um) (x1 : Int32) (x3 : Int32) (x4 : Int32) (x5 : Int32) (z : Um × Int32), f_X8_keepsRow_b3 a0 n0 n mem x1 x3 x4 x5 = some z → ug l E 2 0 0 cX8_keepsRow 6 RX8 (some .int) [] (uz_i z) 0 0 3 [(0, .ref (ue_d E 38)), (1, .int x1), (2, .ref (ue_d E a0)), (3, .int x3), (4, .int x4), (5, .int x5)] [] mem := by
  intro n
  induction n with
  | zero =>
    intro mem x1 x3 x4 x5 z h
    rw [f_X8_keepsRow_b3] at h
    cases h
  | succ n ih =>
    intro mem x1 x3 x4 x5 z h
    rw [f_X8_keepsRow_b3] at h
    refine ug_iload 5 dX8_keepsRow_3 rfl ?_
    refine ug_iload_n 3 dX8_keepsRow_5 rfl rfl ?_
    refine ug_icmp_ge 49 dX8_keepsRow_6 (by decide) (fun q1 => ?_) (fun q1 => ?_)
    · rw [if_pos q1] at h
      refine ug_iload_n 1 dX8_keepsRow_49 rfl rfl ?_
      refine ug_iload_n 3 dX8_keepsRow_50 rfl rfl ?_
      refine ug_iadd dX8_keepsRow_51 ?_
      obtain rfl := Option.some.inj h
      exact ug_iret dX8_keepsRow_52
    · rw [if_neg q1] at h
      refine ug_iload 4 dX8_keepsRow_9 rfl ?_
      refine ug_if_eq 30 dX8_keepsRow_11 (by decide) (fun q2 => ?_) (fun q2 => ?_)
      · rw [if_pos q2] at h
        refine ug_aload_n 2 dX8_keepsRow_30 rfl rfl ?_
        refine ug_iload 5 dX8_keepsRow_31 rfl ?_
        refine ug_aload_n 0 dX8_keepsRow_33 rfl rfl ?_
        refine ug_getR kf_X8_87 gr_38_47 dX8_keepsRow_34 ?_
        refine ug_iload_n 1 dX8_keepsRow_37 rfl rfl ?_
        refine ug_iload 5 dX8_keepsRow_38 rfl ?_
        refine ug_iadd dX8_keepsRow_40 ?_
        obtain ⟨g3, h⟩ := ugd_some h
        refine ug_iald al_62 (uin_ok g3) dX8_keepsRow_41 ?_
        obtain ⟨g4, h⟩ := ugd_some h
        refine ug_iast ha0 (uin_ok g4) dX8_keepsRow_42 ?_
        exact t_X8_keepsRow_b43 ha0 (f_X8_keepsRow_b3 a0 n0 n) ih (um_w mem a0 x5.toNatClampNeg (mem 62 (x1 + x5).toNatClampNeg)) x1 x3 x4 x5 _ h
      · rw [if_neg q2] at h
        refine ug_aload_n 0 dX8_keepsRow_14 rfl rfl ?_
        refine ug_getR kf_X8_87 gr_38_47 dX8_keepsRow_15 ?_
        refine ug_iload_n 1 dX8_keepsRow_18 rfl rfl ?_
        refine ug_iload 5 dX8_keepsRow_19 rfl ?_
        refine ug_iadd dX8_keepsRow_21 ?_
        refine ug_aload_n 2 dX8_keepsRow_22 rfl rfl ?_
        refine ug_iload 5 dX8_keepsRow_23 rfl ?_
        obtain ⟨g5, h⟩ := ugd_some h
        refine ug_iald ha0 (uin_ok g5) dX8_keepsRow_25 ?_
        obtain ⟨g6, h⟩ := ugd_some h
        refine ug_iast al_62 (uin_ok g6) dX8_keepsRow_26 ?_
        refine ug_goto 43 dX8_keepsRow_27 (by decide) ?_
        exact t_X8_keepsRow_b43 ha0 (f_X8_keepsRow_b3 a0 n0 n) ih (um_w mem 62 (x1 + x5).toNatClampNeg (mem a0 x5.toNatClampNeg)) x1 x3 x4 x5 _ h
def f_X8_keepsRow (a0 : Nat) (n0 : Nat) (mem : Um) (x1 : Int32) (x3 : Int32) (x4 : Int32) : Option (Um × Int32) :=
  f_X8_keepsRow_b3 a0 n0 UF mem x1 x3 x4 0
set_option maxRecDepth 20000 in
theorem t_X8_keepsRow {l : Launch} {E : Ue} {a0 : Nat} {n0 : Nat} (ha0 : ud_all[a0]? = some (.inr (0, n0))) (mem : Um) (x1 : Int32) (x3 : Int32) (x4 : Int32) (z : Um × Int32) (h : f_X8_keepsRow a0 n0 mem x1 x3 x4 = some z) : ug l E 2 0 0 cX8_keepsRow 6 RX8 (some .int) [] (uz_i z) 0 0 0 [(0, .ref (ue_d E 38)), (1, .int x1), (2, .ref (ue_d E a0)), (3, .int x3), (4, .int x4)] [] mem := by
  rw [f_X8_keepsRow] at h
  refine ug_iconst dX8_keepsRow_0 un_iconst_0 ?_
  refine ug_istore [(5, .int 0), (0, .ref (ue_d E 38)), (1, .int x1), (2, .ref (ue_d E a0)), (3, .int x3), (4, .int x4)] dX8_keepsRow_1 (Nat.le_of_ble_eq_true rfl) rfl ?_
  refine ug_sub [(0, .ref (ue_d E 38)), (1, .int x1), (2, .ref (ue_d E a0)), (3, .int x3), (4, .int x4), (5, .int 0)] [1, 2, 3, 4, 5, 0] rfl ?_
  exact t_X8_keepsRow_b3 ha0 UF mem x1 x3 x4 0 _ h
theorem c_X8_keepsRow {l : Launch} {E : Ue} {a0 : Nat} {n0 : Nat} (ha0 : ud_all[a0]? = some (.inr (0, n0))) {mem : Um} {x1 : Int32} {x3 : Int32} {x4 : Int32} {m1 : Um} {r : Int32} (h : f_X8_keepsRow a0 n0 mem x1 x3 x4 = some (m1, r)) : ucr l E 2 0 0 yX8_keepsRow cX8_keepsRow 6 (some .int) [.ref (ue_d E 38), .int x1, .ref (ue_d E a0), .int x3, .int x4] mem (some (.int r)) m1 := ucr_of rfl (Nat.le_of_ble_eq_true rfl) (t_X8_keepsRow ha0 mem x1 x3 x4 _ h)
-- X8_keepsAll
def f_X8_keepsAll_b58 (mem : Um) : Option (Um × Unit) :=
  some (mem, ())
set_option maxRecDepth 20000 in
theorem t_X8_keepsAll_b58 {l : Launch} {E : Ue} (mem : Um) (z : Um × Unit) (h : f_X8_keepsAll_b58  mem  = some z) : ug l E 3 0 0 cX8_keepsAll 4 RX8 none [] (uz_v z) 0 0 58 [] [] mem := by
  rw [f_X8_keepsAll_b58] at h
  obtain rfl := Option.some.inj h
  exact ug_vret dX8_keepsAll_58
def f_X8_keepsAll (mem : Um) (x1 : Int32) (x2 : Int32) : Option (Um × Unit) :=
  ubi (f_X8_keepsRow 53 28 mem (477 * x1) 28 x2) (fun m1 r2 => ubi (f_X8_keepsRow 55 448 m1 r2 448 x2) (fun m4 r5 => if x2 = 0 then (ugd (uin r5 1431) (f_X8_keepsAll_b58 (um_w m4 38 31 (m4 62 r5.toNatClampNeg)))) else (ugd (uin r5 1431) (f_X8_keepsAll_b58 (um_w m4 62 r5.toNatClampNeg (m4 38 31))))))
set_option maxRecDepth 20000 in
theorem t_X8_keepsAll {l : Launch} {E : Ue} (mem : Um) (x1 : Int32) (x2 : Int32) (z : Um × Unit) (h : f_X8_keepsAll  mem x1 x2 = some z) : ug l E 3 0 0 cX8_keepsAll 4 RX8 none [] (uz_v z) 0 0 0 [(0, .ref (ue_d E 38)), (1, .int x1), (2, .int x2)] [] mem := by
  rw [f_X8_keepsAll] at h
  refine ug_aload_n 0 dX8_keepsAll_0 rfl rfl ?_
  refine ug_sipush dX8_keepsAll_1 un_sipush_477 ?_
  refine ug_iload_n 1 dX8_keepsAll_4 rfl rfl ?_
  refine ug_imul dX8_keepsAll_5 ?_
  refine ug_aload_n 0 dX8_keepsAll_6 rfl rfl ?_
  refine ug_getR kf_X8_59 gr_38_36 dX8_keepsAll_7 ?_
  refine ug_bipush dX8_keepsAll_10 un_bipush_28 ?_
  refine ug_iload_n 2 dX8_keepsAll_12 rfl rfl ?_
  obtain ⟨m1, r2, h3, h⟩ := ubi_some h
  refine ug_callVi [.int (477 * x1), .ref (ue_d E 53), .int 28, .int x2] (c_X8_keepsRow al_53 h3) kc_X8_447 ro_38 rfl (S := []) rfl (Nat.le_of_ble_eq_true rfl) (Nat.le_of_ble_eq_true rfl) (Nat.le_of_ble_eq_true rfl) dX8_keepsAll_13 ?_
  refine ug_istore_n [(3, .int r2), (0, .ref (ue_d E 38)), (1, .int x1), (2, .int x2)] dX8_keepsAll_16 rfl (Nat.le_of_ble_eq_true rfl) rfl ?_
  refine ug_aload_n 1 dX8_keepsAll_17 rfl rfl ?_
  refine ug_iload_n 0 dX8_keepsAll_18 rfl rfl ?_
  refine ug_aload_n 1 dX8_keepsAll_19 rfl rfl ?_
  refine ug_getR kf_X8_65 gr_38_38 dX8_keepsAll_20 ?_
  refine ug_sipush dX8_keepsAll_23 un_sipush_448 ?_
  refine ug_iload_n 3 dX8_keepsAll_26 rfl rfl ?_
  obtain ⟨m4, r5, h6, h⟩ := ubi_some h
  refine ug_callVi [.int r2, .ref (ue_d E 55), .int 448, .int x2] (c_X8_keepsRow al_55 h6) kc_X8_447 ro_38 rfl (S := []) rfl (Nat.le_of_ble_eq_true rfl) (Nat.le_of_ble_eq_true rfl) (Nat.le_of_ble_eq_true rfl) dX8_keepsAll_27 ?_
  refine ug_istore_n [(3, .int r5), (0, .ref (ue_d E 38)), (1, .int x1), (2, .int x2)] dX8_keepsAll_30 rfl (Nat.le_of_ble_eq_true rfl) rfl ?_
  refine ug_iload_n 3 dX8_keepsAll_31 rfl rfl ?_
  refine ug_if_eq 48 dX8_keepsAll_32 (by decide) (fun q7 => ?_) (fun q7 => ?_)
  · rw [if_pos q7] at h
    refine ug_aload_n 1 dX8_keepsAll_48 rfl rfl ?_
    refine ug_aload_n 1 dX8_keepsAll_49 rfl rfl ?_
    refine ug_getR kf_X8_87 gr_38_47 dX8_keepsAll_50 ?_
    refine ug_iload_n 0 dX8_keepsAll_53 rfl rfl ?_
    obtain ⟨g8, h⟩ := ugd_some h
    refine ug_iald al_62 (uin_ok g8) dX8_keepsAll_54 ?_
    refine ug_putI kp_X8_170 gi_38_31 dX8_keepsAll_55 ?_
    refine ug_sub [] [] rfl ?_
    exact t_X8_keepsAll_b58 (um_w m4 38 31 (m4 62 r5.toNatClampNeg))  _ h
  · rw [if_neg q7] at h
    refine ug_aload_n 1 dX8_keepsAll_35 rfl rfl ?_
    refine ug_getR kf_X8_87 gr_38_47 dX8_keepsAll_36 ?_
    refine ug_iload_n 0 dX8_keepsAll_39 rfl rfl ?_
    refine ug_aload_n 1 dX8_keepsAll_40 rfl rfl ?_
    refine ug_getI kf_X8_170 gi_38_31 dX8_keepsAll_41 ?_
    obtain ⟨g9, h⟩ := ugd_some h
    refine ug_iast al_62 (uin_ok g9) dX8_keepsAll_44 ?_
    refine ug_goto 58 dX8_keepsAll_45 (by decide) ?_
    refine ug_sub [] [] rfl ?_
    exact t_X8_keepsAll_b58 (um_w m4 62 r5.toNatClampNeg (m4 38 31))  _ h
theorem c_X8_keepsAll {l : Launch} {E : Ue} {mem : Um} {x1 : Int32} {x2 : Int32} {m1 : Um} {r : Unit} (h : f_X8_keepsAll  mem x1 x2 = some (m1, r)) : ucr l E 3 0 0 yX8_keepsAll cX8_keepsAll 4 none [.ref (ue_d E 38), .int x1, .int x2] mem none m1 := ucr_of rfl (Nat.le_of_ble_eq_true rfl) (t_X8_keepsAll  mem x1 x2 _ h)
-- X8_image
def f_X8_image (mem : Um) : Option (Um × Int32) :=
  if ((um_w mem 38 0 0) 38 48) = 3 then (some ((um_w mem 38 0 0), (-1))) else (ubi (f_X8_keepsAll (um_w mem 38 0 0) ((um_w mem 38 0 0) 38 48) 1) (fun m2 r3 => some ((um_w m2 38 48 ((m2 38 48) + 1)), ((um_w m2 38 48 ((m2 38 48) + 1)) 38 48))))
set_option maxRecDepth 20000 in
theorem t_X8_image {l : Launch} {E : Ue} (mem : Um) (z : Um × Int32) (h : f_X8_image  mem  = some z) : ug l E 4 0 0 cX8_image 1 RX8 (some .int) [] (uz_i z) 0 0 0 [(0, .ref (ue_d E 38))] [] mem := by
  rw [f_X8_image] at h
  refine ug_aload_n 0 dX8_image_0 rfl rfl ?_
  refine ug_iconst dX8_image_1 un_iconst_0 ?_
  refine ug_putI kp_X8_3 gi_38_0 dX8_image_2 ?_
  refine ug_aload_n 0 dX8_image_5 rfl rfl ?_
  refine ug_getI kf_X8_173 gi_38_48 dX8_image_6 ?_
  refine ug_iconst dX8_image_9 un_iconst_3 ?_
  refine ug_icmp_ne 15 dX8_image_10 (by decide) (fun q1 => ?_) (fun q1 => ?_)
  · rw [if_neg q1] at h
    refine ug_aload_n 0 dX8_image_15 rfl rfl ?_
    refine ug_aload_n 0 dX8_image_16 rfl rfl ?_
    refine ug_getI kf_X8_173 gi_38_48 dX8_image_17 ?_
    refine ug_iconst dX8_image_20 un_iconst_1 ?_
    obtain ⟨m2, r3, h4, h⟩ := ubi_some h
    refine ug_callVv [.int ((um_w mem 38 0 0) 38 48), .int 1] (c_X8_keepsAll  h4) kc_X8_451 ro_38 rfl (S := []) rfl (Nat.le_of_ble_eq_true rfl) (Nat.le_of_ble_eq_true rfl) (Nat.le_of_ble_eq_true rfl) dX8_image_21 ?_
    refine ug_aload_n 0 dX8_image_24 rfl rfl ?_
    refine ug_dup dX8_image_25 rfl ?_
    refine ug_getI kf_X8_173 gi_38_48 dX8_image_26 ?_
    refine ug_iconst dX8_image_29 un_iconst_1 ?_
    refine ug_iadd dX8_image_30 ?_
    refine ug_putI kp_X8_173 gi_38_48 dX8_image_31 ?_
    refine ug_aload_n 0 dX8_image_34 rfl rfl ?_
    refine ug_getI kf_X8_173 gi_38_48 dX8_image_35 ?_
    obtain rfl := Option.some.inj h
    exact ug_iret dX8_image_38
  · rw [if_pos q1] at h
    refine ug_iconst dX8_image_13 un_iconst_m1 ?_
    obtain rfl := Option.some.inj h
    exact ug_iret dX8_image_14
theorem c_X8_image {l : Launch} {E : Ue} {mem : Um} {m1 : Um} {r : Int32} (h : f_X8_image  mem  = some (m1, r)) : ucr l E 4 0 0 yX8_image cX8_image 1 (some .int) [.ref (ue_d E 38)] mem (some (.int r)) m1 := ucr_of rfl (Nat.le_of_ble_eq_true rfl) (t_X8_image  mem  _ h)
-- X8_restore
def f_X8_restore (mem : Um) : Option (Um × Int32) :=
  if ((um_w mem 38 0 0) 38 48) = 0 then (some ((um_w mem 38 0 0), (-1))) else (ubi (f_X8_keepsAll (um_w (um_w mem 38 0 0) 38 48 (((um_w mem 38 0 0) 38 48) - 1)) ((um_w (um_w mem 38 0 0) 38 48 (((um_w mem 38 0 0) 38 48) - 1)) 38 48) 0) (fun m2 r3 => some ((um_w m2 38 32 0), ((um_w m2 38 32 0) 38 48))))
set_option maxRecDepth 20000 in
theorem t_X8_restore {l : Launch} {E : Ue} (mem : Um) (z : Um × Int32) (h : f_X8_restore  mem  = some z) : ug l E 4 0 0 cX8_restore 1 RX8 (some .int) [] (uz_i z) 0 0 0 [(0, .ref (ue_d E 38))] [] mem := by
  rw [f_X8_restore] at h
  refine ug_aload_n 0 dX8_restore_0 rfl rfl ?_
  refine ug_iconst dX8_restore_1 un_iconst_0 ?_
  refine ug_putI kp_X8_3 gi_38_0 dX8_restore_2 ?_
  refine ug_aload_n 0 dX8_restore_5 rfl rfl ?_
  refine ug_getI kf_X8_173 gi_38_48 dX8_restore_6 ?_
  refine ug_if_ne 14 dX8_restore_9 (by decide) (fun q1 => ?_) (fun q1 => ?_)
  · rw [if_neg q1] at h
    refine ug_aload_n 0 dX8_restore_14 rfl rfl ?_
    refine ug_dup dX8_restore_15 rfl ?_
    refine ug_getI kf_X8_173 gi_38_48 dX8_restore_16 ?_
    refine ug_iconst dX8_restore_19 un_iconst_1 ?_
    refine ug_isub dX8_restore_20 ?_
    refine ug_putI kp_X8_173 gi_38_48 dX8_restore_21 ?_
    refine ug_aload_n 0 dX8_restore_24 rfl rfl ?_
    refine ug_aload_n 0 dX8_restore_25 rfl rfl ?_
    refine ug_getI kf_X8_173 gi_38_48 dX8_restore_26 ?_
    refine ug_iconst dX8_restore_29 un_iconst_0 ?_
    obtain ⟨m2, r3, h4, h⟩ := ubi_some h
    refine ug_callVv [.int ((um_w (um_w mem 38 0 0) 38 48 (((um_w mem 38 0 0) 38 48) - 1)) 38 48), .int 0] (c_X8_keepsAll  h4) kc_X8_451 ro_38 rfl (S := []) rfl (Nat.le_of_ble_eq_true rfl) (Nat.le_of_ble_eq_true rfl) (Nat.le_of_ble_eq_true rfl) dX8_restore_30 ?_
    refine ug_aload_n 0 dX8_restore_33 rfl rfl ?_
    refine ug_iconst dX8_restore_34 un_iconst_0 ?_
    refine ug_putI kp_X8_176 gi_38_32 dX8_restore_35 ?_
    refine ug_aload_n 0 dX8_restore_38 rfl rfl ?_
    refine ug_getI kf_X8_173 gi_38_48 dX8_restore_39 ?_
    obtain rfl := Option.some.inj h
    exact ug_iret dX8_restore_42
  · rw [if_pos q1] at h
    refine ug_iconst dX8_restore_12 un_iconst_m1 ?_
    obtain rfl := Option.some.inj h
    exact ug_iret dX8_restore_13
theorem c_X8_restore {l : Launch} {E : Ue} {mem : Um} {m1 : Um} {r : Int32} (h : f_X8_restore  mem  = some (m1, r)) : ucr l E 4 0 0 yX8_restore cX8_restore 1 (some .int) [.ref (ue_d E 38)] mem (some (.int r)) m1 := ucr_of rfl (Nat.le_of_ble_eq_true rfl) (t_X8_restore  mem  _ h)
-- X8_status
def f_X8_status_b24 (mem : Um) (y0 : Int32) : Option (Um × Int32) :=
  some (mem, y0)
set_option maxRecDepth 20000 in
theorem t_X8_status_b24 {l : Launch} {E : Ue} (mem : Um) (y0 : Int32) (z : Um × Int32) (h : f_X8_status_b24  mem y0 = some z) : ug l E 3 0 0 cX8_status 2 RX8 (some .int) [] (uz_i z) 0 0 24 [] [.int y0] mem := by
  rw [f_X8_status_b24] at h
  obtain rfl := Option.some.inj h
  exact ug_iret dX8_status_24
def f_X8_status (mem : Um) (x1 : Int32) : Option (Um × Int32) :=
  ubi (f_X8_within (um_w mem 38 0 0) x1 0 1) (fun m1 r2 => if r2 = 0 then (f_X8_status_b24 m1 (-1)) else (ugd (uin x1 2) (f_X8_status_b24 m1 (m1 39 x1.toNatClampNeg))))
set_option maxRecDepth 20000 in
theorem t_X8_status {l : Launch} {E : Ue} (mem : Um) (x1 : Int32) (z : Um × Int32) (h : f_X8_status  mem x1 = some z) : ug l E 3 0 0 cX8_status 2 RX8 (some .int) [] (uz_i z) 0 0 0 [(0, .ref (ue_d E 38)), (1, .int x1)] [] mem := by
  rw [f_X8_status] at h
  refine ug_aload_n 0 dX8_status_0 rfl rfl ?_
  refine ug_iconst dX8_status_1 un_iconst_0 ?_
  refine ug_putI kp_X8_3 gi_38_0 dX8_status_2 ?_
  refine ug_iload_n 1 dX8_status_5 rfl rfl ?_
  refine ug_iconst dX8_status_6 un_iconst_0 ?_
  refine ug_iconst dX8_status_7 un_iconst_1 ?_
  obtain ⟨m1, r2, h3, h⟩ := ubi_some h
  refine ug_callSi [.int x1, .int 0, .int 1] (c_X8_within  h3) kc_X8_352 rfl (S := []) rfl (Nat.le_of_ble_eq_true rfl) (Nat.le_of_ble_eq_true rfl) (Nat.le_of_ble_eq_true rfl) dX8_status_8 ?_
  refine ug_if_eq 23 dX8_status_11 (by decide) (fun q4 => ?_) (fun q4 => ?_)
  · rw [if_pos q4] at h
    refine ug_iconst dX8_status_23 un_iconst_m1 ?_
    refine ug_sub [] [] rfl ?_
    exact t_X8_status_b24 m1 (-1) _ h
  · rw [if_neg q4] at h
    refine ug_aload_n 0 dX8_status_14 rfl rfl ?_
    refine ug_getR kf_X8_7 gr_38_1 dX8_status_15 ?_
    refine ug_iload_n 1 dX8_status_18 rfl rfl ?_
    obtain ⟨g5, h⟩ := ugd_some h
    refine ug_iald al_39 (uin_ok g5) dX8_status_19 ?_
    refine ug_goto 24 dX8_status_20 (by decide) ?_
    refine ug_sub [] [] rfl ?_
    exact t_X8_status_b24 m1 (m1 39 x1.toNatClampNeg) _ h
theorem c_X8_status {l : Launch} {E : Ue} {mem : Um} {x1 : Int32} {m1 : Um} {r : Int32} (h : f_X8_status  mem x1 = some (m1, r)) : ucr l E 3 0 0 yX8_status cX8_status 2 (some .int) [.ref (ue_d E 38), .int x1] mem (some (.int r)) m1 := ucr_of rfl (Nat.le_of_ble_eq_true rfl) (t_X8_status  mem x1 _ h)
-- X8_count
def f_X8_count_b41 (mem : Um) (y0 : Int32) : Option (Um × Int32) :=
  some (mem, y0)
set_option maxRecDepth 20000 in
theorem t_X8_count_b41 {l : Launch} {E : Ue} (mem : Um) (y0 : Int32) (z : Um × Int32) (h : f_X8_count_b41  mem y0 = some z) : ug l E 2 0 0 cX8_count 2 RX8 (some .int) [] (uz_i z) 0 0 41 [] [.int y0] mem := by
  rw [f_X8_count_b41] at h
  obtain rfl := Option.some.inj h
  exact ug_iret dX8_count_41
def f_X8_count (mem : Um) (x1 : Int32) : Option (Um × Int32) :=
  if x1 = 0 then (f_X8_count_b41 (um_w mem 38 0 0) ((um_w mem 38 0 0) 38 48)) else (if x1 = 1 then (f_X8_count_b41 (um_w mem 38 0 0) ((um_w mem 38 0 0) 38 2)) else (if x1 = 2 then (f_X8_count_b41 (um_w mem 38 0 0) ((um_w mem 38 0 0) 38 31)) else (f_X8_count_b41 (um_w mem 38 0 0) (-1))))
set_option maxRecDepth 20000 in
theorem t_X8_count {l : Launch} {E : Ue} (mem : Um) (x1 : Int32) (z : Um × Int32) (h : f_X8_count  mem x1 = some z) : ug l E 2 0 0 cX8_count 2 RX8 (some .int) [] (uz_i z) 0 0 0 [(0, .ref (ue_d E 38)), (1, .int x1)] [] mem := by
  rw [f_X8_count] at h
  refine ug_aload_n 0 dX8_count_0 rfl rfl ?_
  refine ug_iconst dX8_count_1 un_iconst_0 ?_
  refine ug_putI kp_X8_3 gi_38_0 dX8_count_2 ?_
  refine ug_iload_n 1 dX8_count_5 rfl rfl ?_
  refine ug_if_ne 16 dX8_count_6 (by decide) (fun q1 => ?_) (fun q1 => ?_)
  · rw [if_neg q1] at h
    refine ug_iload_n 1 dX8_count_16 rfl rfl ?_
    refine ug_iconst dX8_count_17 un_iconst_1 ?_
    refine ug_icmp_ne 28 dX8_count_18 (by decide) (fun q2 => ?_) (fun q2 => ?_)
    · rw [if_neg q2] at h
      refine ug_iload_n 1 dX8_count_28 rfl rfl ?_
      refine ug_iconst dX8_count_29 un_iconst_2 ?_
      refine ug_icmp_ne 40 dX8_count_30 (by decide) (fun q3 => ?_) (fun q3 => ?_)
      · rw [if_neg q3] at h
        refine ug_iconst dX8_count_40 un_iconst_m1 ?_
        refine ug_sub [] [] rfl ?_
        exact t_X8_count_b41 (um_w mem 38 0 0) (-1) _ h
      · rw [if_pos q3] at h
        refine ug_aload_n 0 dX8_count_33 rfl rfl ?_
        refine ug_getI kf_X8_170 gi_38_31 dX8_count_34 ?_
        refine ug_goto 41 dX8_count_37 (by decide) ?_
        refine ug_sub [] [] rfl ?_
        exact t_X8_count_b41 (um_w mem 38 0 0) ((um_w mem 38 0 0) 38 31) _ h
    · rw [if_pos q2] at h
      refine ug_aload_n 0 dX8_count_21 rfl rfl ?_
      refine ug_getI kf_X8_96 gi_38_2 dX8_count_22 ?_
      refine ug_goto 41 dX8_count_25 (by decide) ?_
      refine ug_sub [] [] rfl ?_
      exact t_X8_count_b41 (um_w mem 38 0 0) ((um_w mem 38 0 0) 38 2) _ h
  · rw [if_pos q1] at h
    refine ug_aload_n 0 dX8_count_9 rfl rfl ?_
    refine ug_getI kf_X8_173 gi_38_48 dX8_count_10 ?_
    refine ug_goto 41 dX8_count_13 (by decide) ?_
    refine ug_sub [] [] rfl ?_
    exact t_X8_count_b41 (um_w mem 38 0 0) ((um_w mem 38 0 0) 38 48) _ h
theorem c_X8_count {l : Launch} {E : Ue} {mem : Um} {x1 : Int32} {m1 : Um} {r : Int32} (h : f_X8_count  mem x1 = some (m1, r)) : ucr l E 2 0 0 yX8_count cX8_count 2 (some .int) [.ref (ue_d E 38), .int x1] mem (some (.int r)) m1 := ucr_of rfl (Nat.le_of_ble_eq_true rfl) (t_X8_count  mem x1 _ h)
