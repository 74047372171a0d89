-- X5_add
def f_X5_add_b45 (k3 : Um → Int32 → Int32 → Option (Um × Unit)) (mem : Um) (x1 : Int32) (x2 : Int32) : Option (Um × Unit) :=
  k3 mem x1 (x2 + (-8))
set_option maxRecDepth 20000 in
theorem t_X5_add_b45 {l : Launch} {E : Ue} (k3 : Um → Int32 → Int32 → Option (Um × Unit)) (hk3 : ∀ (mem : Um) (x1 : Int32) (x2 : Int32) (z : Um × Unit), k3 mem x1 x2 = some z → ug l E 2 0 0 cX5_add 3 RX5 none [] (uz_v z) 0 0 3 [(0, .ref (ue_d E 1)), (1, .int x1), (2, .int x2)] [] mem) (mem : Um) (x1 : Int32) (x2 : Int32) (z : Um × Unit) (h : f_X5_add_b45 k3 mem x1 x2 = some z) : ug l E 2 0 0 cX5_add 3 RX5 none [] (uz_v z) 0 0 45 [(0, .ref (ue_d E 1)), (1, .int x1), (2, .int x2)] [] mem := by
  rw [f_X5_add_b45] at h
  refine ug_iinc (v := (x2 + (-8))) [(2, .int (x2 + (-8))), (0, .ref (ue_d E 1)), (1, .int x1)] 2 dX5_add_45 rfl rfl (Nat.le_of_ble_eq_true rfl) rfl ?_
  refine ug_goto 3 dX5_add_48 (by decide) ?_
  refine ug_sub [(0, .ref (ue_d E 1)), (1, .int x1), (2, .int (x2 + (-8)))] [1, 2, 0] rfl ?_
  exact hk3 mem x1 (x2 + (-8)) _ h
def f_X5_add_b3 : Nat → Um → Int32 → Int32 → Option (Um × Unit)
  | 0, _, _, _ => none
  | n + 1, mem, x1, x2 =>
    if x2 < 0 then (some (mem, ())) else (if 600 ≤ (mem 1 1) then (f_X5_add_b45 (f_X5_add_b3  n) mem x1 x2) else (ugd (uin (mem 1 1) 600) (f_X5_add_b45 (f_X5_add_b3  n) (um_w (um_w mem 2 (mem 1 1).toNatClampNeg ((uus x1 x2) &&& 255)) 1 1 (((um_w mem 2 (mem 1 1).toNatClampNeg ((uus x1 x2) &&& 255)) 1 1) + 1)) x1 x2)))
set_option maxRecDepth 20000 in
theorem t_X5_add_b3 {l : Launch} {E : Ue} : ∀ (n : Nat) (mem : Um) (x1 : Int32) (x2 : Int32) (z : Um × Unit), f_X5_add_b3  n mem x1 x2 = some z → ug l E 2 0 0 cX5_add 3 RX5 none [] (uz_v z) 0 0 3 [(0, .ref (ue_d E 1)), (1, .int x1), (2, .int x2)] [] mem := by
  intro n
  induction n with
  | zero =>
    intro mem x1 x2 z h
    rw [f_X5_add_b3] at h
    cases h
  | succ n ih =>
    intro mem x1 x2 z h
    rw [f_X5_add_b3] at h
    refine ug_iload_n 2 dX5_add_3 rfl rfl ?_
    refine ug_if_lt 51 dX5_add_4 (by decide) (fun q1 => ?_) (fun q1 => ?_)
    · rw [if_pos q1] at h
      obtain rfl := Option.some.inj h
      exact ug_vret dX5_add_51
    · rw [if_neg q1] at h
      refine ug_aload_n 0 dX5_add_7 rfl rfl ?_
      refine ug_getI kf_X5_15 gi_1_1 dX5_add_8 ?_
      refine ug_aload_n 0 dX5_add_11 rfl rfl ?_
      refine ug_getR kf_X5_9 gr_1_0 dX5_add_12 ?_
      refine ug_alenI (v := 600) al_2 (by decide) dX5_add_15 ?_
      refine ug_icmp_ge 45 dX5_add_16 (by decide) (fun q2 => ?_) (fun q2 => ?_)
      · rw [if_pos q2] at h
        exact t_X5_add_b45 (f_X5_add_b3  n) ih mem x1 x2 _ h
      · rw [if_neg q2] at h
        refine ug_aload_n 0 dX5_add_19 rfl rfl ?_
        refine ug_getR kf_X5_9 gr_1_0 dX5_add_20 ?_
        refine ug_aload_n 0 dX5_add_23 rfl rfl ?_
        refine ug_getI kf_X5_15 gi_1_1 dX5_add_24 ?_
        refine ug_iload_n 1 dX5_add_27 rfl rfl ?_
        refine ug_iload_n 2 dX5_add_28 rfl rfl ?_
        refine ug_iushr dX5_add_29 ?_
        refine ug_sipush dX5_add_30 un_sipush_255 ?_
        refine ug_iand dX5_add_33 ?_
        obtain ⟨g3, h⟩ := ugd_some h
        refine ug_iast al_2 (uin_ok g3) dX5_add_34 ?_
        refine ug_aload_n 0 dX5_add_35 rfl rfl ?_
        refine ug_dup dX5_add_36 rfl ?_
        refine ug_getI kf_X5_15 gi_1_1 dX5_add_37 ?_
        refine ug_iconst dX5_add_40 un_iconst_1 ?_
        refine ug_iadd dX5_add_41 ?_
        refine ug_putI kp_X5_15 gi_1_1 dX5_add_42 ?_
        exact t_X5_add_b45 (f_X5_add_b3  n) ih (um_w (um_w mem 2 (mem 1 1).toNatClampNeg ((uus x1 x2) &&& 255)) 1 1 (((um_w mem 2 (mem 1 1).toNatClampNeg ((uus x1 x2) &&& 255)) 1 1) + 1)) x1 x2 _ h
def f_X5_add (mem : Um) (x1 : Int32) : Option (Um × Unit) :=
  f_X5_add_b3  UF mem x1 24
set_option maxRecDepth 20000 in
theorem t_X5_add {l : Launch} {E : Ue} (mem : Um) (x1 : Int32) (z : Um × Unit) (h : f_X5_add  mem x1 = some z) : ug l E 2 0 0 cX5_add 3 RX5 none [] (uz_v z) 0 0 0 [(0, .ref (ue_d E 1)), (1, .int x1)] [] mem := by
  rw [f_X5_add] at h
  refine ug_bipush dX5_add_0 un_bipush_24 ?_
  refine ug_istore_n [(2, .int 24), (0, .ref (ue_d E 1)), (1, .int x1)] dX5_add_2 rfl (Nat.le_of_ble_eq_true rfl) rfl ?_
  refine ug_sub [(0, .ref (ue_d E 1)), (1, .int x1), (2, .int 24)] [1, 2, 0] rfl ?_
  exact t_X5_add_b3  UF mem x1 24 _ h
theorem c_X5_add {l : Launch} {E : Ue} {mem : Um} {x1 : Int32} {m1 : Um} {r : Unit} (h : f_X5_add  mem x1 = some (m1, r)) : ucr l E 2 0 0 yX5_add cX5_add 3 none [.ref (ue_d E 1), .int x1] mem none m1 := ucr_of rfl (Nat.le_of_ble_eq_true rfl) (t_X5_add  mem x1 _ h)
-- X7_feed
def f_X7_feed (mem : Um) (x1 : Int32) (x2 : Int32) (x3 : Int32) (x4 : Int32) (x5 : Int32) : Option (Um × Int32) :=
  if ((mem 1 1) + 20) ≤ 600 then (ubi (f_X5_add mem x1) (fun m2 r3 => ubi (f_X5_add m2 x2) (fun m5 r6 => ubi (f_X5_add m5 x3) (fun m8 r9 => ubi (f_X5_add m8 x4) (fun m11 r12 => ubi (f_X5_add m11 x5) (fun m14 r15 => some (m14, (m14 1 1)))))))) else (some (mem, (-1)))
set_option maxRecDepth 20000 in
theorem t_X7_feed {l : Launch} {E : Ue} (mem : Um) (x1 : Int32) (x2 : Int32) (x3 : Int32) (x4 : Int32) (x5 : Int32) (z : Um × Int32) (h : f_X7_feed  mem x1 x2 x3 x4 x5 = some z) : ug l E 3 0 0 cX7_feed 6 RX7 (some .int) [] (uz_i z) 0 0 0 [(0, .ref (ue_d E 0)), (1, .int x1), (2, .int x2), (3, .int x3), (4, .int x4), (5, .int x5)] [] mem := by
  rw [f_X7_feed] at h
  refine ug_aload_n 0 dX7_feed_0 rfl rfl ?_
  refine ug_getR kf_X7_12 gr_0_0 dX7_feed_1 ?_
  refine ug_getI kf_X7_95 gi_1_1 dX7_feed_4 ?_
  refine ug_bipush dX7_feed_7 un_bipush_20 ?_
  refine ug_iadd dX7_feed_9 ?_
  refine ug_sipush dX7_feed_10 un_sipush_600 ?_
  refine ug_icmp_le 18 dX7_feed_13 (by decide) (fun q1 => ?_) (fun q1 => ?_)
  · rw [if_pos q1] at h
    refine ug_aload_n 0 dX7_feed_18 rfl rfl ?_
    refine ug_getR kf_X7_12 gr_0_0 dX7_feed_19 ?_
    refine ug_iload_n 1 dX7_feed_22 rfl rfl ?_
    obtain ⟨m2, r3, h4, h⟩ := ubi_some h
    refine ug_callVv [.int x1] (c_X5_add  h4) kc_X7_98 ro_1 rfl (S := []) rfl (Nat.le_of_ble_eq_true rfl) (Nat.le_of_ble_eq_true rfl) (Nat.le_of_ble_eq_true rfl) dX7_feed_23 ?_
    refine ug_aload_n 0 dX7_feed_26 rfl rfl ?_
    refine ug_getR kf_X7_12 gr_0_0 dX7_feed_27 ?_
    refine ug_iload_n 2 dX7_feed_30 rfl rfl ?_
    obtain ⟨m5, r6, h7, h⟩ := ubi_some h
    refine ug_callVv [.int x2] (c_X5_add  h7) kc_X7_98 ro_1 rfl (S := []) rfl (Nat.le_of_ble_eq_true rfl) (Nat.le_of_ble_eq_true rfl) (Nat.le_of_ble_eq_true rfl) dX7_feed_31 ?_
    refine ug_aload_n 0 dX7_feed_34 rfl rfl ?_
    refine ug_getR kf_X7_12 gr_0_0 dX7_feed_35 ?_
    refine ug_iload_n 3 dX7_feed_38 rfl rfl ?_
    obtain ⟨m8, r9, h10, h⟩ := ubi_some h
    refine ug_callVv [.int x3] (c_X5_add  h10) kc_X7_98 ro_1 rfl (S := []) rfl (Nat.le_of_ble_eq_true rfl) (Nat.le_of_ble_eq_true rfl) (Nat.le_of_ble_eq_true rfl) dX7_feed_39 ?_
    refine ug_aload_n 0 dX7_feed_42 rfl rfl ?_
    refine ug_getR kf_X7_12 gr_0_0 dX7_feed_43 ?_
    refine ug_iload 4 dX7_feed_46 rfl ?_
    obtain ⟨m11, r12, h13, h⟩ := ubi_some h
    refine ug_callVv [.int x4] (c_X5_add  h13) kc_X7_98 ro_1 rfl (S := []) rfl (Nat.le_of_ble_eq_true rfl) (Nat.le_of_ble_eq_true rfl) (Nat.le_of_ble_eq_true rfl) dX7_feed_48 ?_
    refine ug_aload_n 0 dX7_feed_51 rfl rfl ?_
    refine ug_getR kf_X7_12 gr_0_0 dX7_feed_52 ?_
    refine ug_iload 5 dX7_feed_55 rfl ?_
    obtain ⟨m14, r15, h16, h⟩ := ubi_some h
    refine ug_callVv [.int x5] (c_X5_add  h16) kc_X7_98 ro_1 rfl (S := []) rfl (Nat.le_of_ble_eq_true rfl) (Nat.le_of_ble_eq_true rfl) (Nat.le_of_ble_eq_true rfl) dX7_feed_57 ?_
    refine ug_aload_n 0 dX7_feed_60 rfl rfl ?_
    refine ug_getR kf_X7_12 gr_0_0 dX7_feed_61 ?_
    refine ug_getI kf_X7_95 gi_1_1 dX7_feed_64 ?_
    obtain rfl := Option.some.inj h
    exact ug_iret dX7_feed_67
  · rw [if_neg q1] at h
    refine ug_iconst dX7_feed_16 un_iconst_m1 ?_
    obtain rfl := Option.some.inj h
    exact ug_iret dX7_feed_17
theorem c_X7_feed {l : Launch} {E : Ue} {mem : Um} {x1 : Int32} {x2 : Int32} {x3 : Int32} {x4 : Int32} {x5 : Int32} {m1 : Um} {r : Int32} (h : f_X7_feed  mem x1 x2 x3 x4 x5 = some (m1, r)) : ucr l E 3 0 0 yX7_feed cX7_feed 6 (some .int) [.ref (ue_d E 0), .int x1, .int x2, .int x3, .int x4, .int x5] mem (some (.int r)) m1 := ucr_of rfl (Nat.le_of_ble_eq_true rfl) (t_X7_feed  mem x1 x2 x3 x4 x5 _ h)
-- X7_need
def f_X7_need_b10 (mem : Um) : Option (Um × (Unit ⊕ String)) :=
  some ((um_w mem 0 16 ((mem 0 16) + 1)), .inr "java/lang/IllegalArgumentException")
set_option maxRecDepth 20000 in
theorem t_X7_need_b10 {l : Launch} {E : Ue} (mem : Um) (z : Um × (Unit ⊕ String)) (h : f_X7_need_b10  mem  = some z) : ug l E 6 (uzc z) (uzs z) cX7_need 4 RX7 none [] (uzx_v z) 0 0 10 [(0, .ref (ue_d E 0))] [] mem := by
  rw [f_X7_need_b10] at h
  refine ug_aload_n 0 dX7_need_10 rfl rfl ?_
  refine ug_dup dX7_need_11 rfl ?_
  refine ug_getI kf_X7_92 gi_0_16 dX7_need_12 ?_
  refine ug_iconst dX7_need_15 un_iconst_1 ?_
  refine ug_iadd dX7_need_16 ?_
  refine ug_putI kp_X7_92 gi_0_16 dX7_need_17 ?_
  obtain rfl := Option.some.inj h
  exact ug_throw0 kt_X7_361 (Nat.le_of_ble_eq_true rfl) (Nat.le_of_ble_eq_true rfl) dX7_need_20 dX7_need_23 dX7_need_24 dX7_need_27
def f_X7_need (mem : Um) (x1 : Int32) (x2 : Int32) (x3 : Int32) : Option (Um × (Unit ⊕ String)) :=
  if x1 < x2 then (f_X7_need_b10 mem) else (if x1 ≤ x3 then (some (mem, (.inl ()))) else (f_X7_need_b10 mem))
set_option maxRecDepth 20000 in
theorem t_X7_need {l : Launch} {E : Ue} (mem : Um) (x1 : Int32) (x2 : Int32) (x3 : Int32) (z : Um × (Unit ⊕ String)) (h : f_X7_need  mem x1 x2 x3 = some z) : ug l E 6 (uzc z) (uzs z) cX7_need 4 RX7 none [] (uzx_v z) 0 0 0 [(0, .ref (ue_d E 0)), (1, .int x1), (2, .int x2), (3, .int x3)] [] mem := by
  rw [f_X7_need] at h
  refine ug_iload_n 1 dX7_need_0 rfl rfl ?_
  refine ug_iload_n 2 dX7_need_1 rfl rfl ?_
  refine ug_icmp_lt 10 dX7_need_2 (by decide) (fun q1 => ?_) (fun q1 => ?_)
  · rw [if_pos q1] at h
    refine ug_sub [(0, .ref (ue_d E 0))] [0] rfl ?_
    exact t_X7_need_b10 mem  _ h
  · rw [if_neg q1] at h
    refine ug_iload_n 1 dX7_need_5 rfl rfl ?_
    refine ug_iload_n 3 dX7_need_6 rfl rfl ?_
    refine ug_icmp_le 28 dX7_need_7 (by decide) (fun q2 => ?_) (fun q2 => ?_)
    · rw [if_pos q2] at h
      obtain rfl := Option.some.inj h
      exact ug_vret dX7_need_28
    · rw [if_neg q2] at h
      refine ug_sub [(0, .ref (ue_d E 0))] [0] rfl ?_
      exact t_X7_need_b10 mem  _ h
theorem c_X7_need_r {l : Launch} {E : Ue} {mem : Um} {x1 : Int32} {x2 : Int32} {x3 : Int32} {m1 : Um} {r : Unit} (h : f_X7_need  mem x1 x2 x3 = some (m1, .inl r)) : ucr l E 6 0 0 yX7_need cX7_need 4 none [.ref (ue_d E 0), .int x1, .int x2, .int x3] mem none m1 := ucr_of rfl (Nat.le_of_ble_eq_true rfl) (t_X7_need  mem x1 x2 x3 _ h)
theorem c_X7_need_x {l : Launch} {E : Ue} {mem : Um} {x1 : Int32} {x2 : Int32} {x3 : Int32} {m1 : Um} {X : String} (h : f_X7_need  mem x1 x2 x3 = some (m1, .inr X)) : ucx l E 6 1 6 yX7_need cX7_need 4 none [.ref (ue_d E 0), .int x1, .int x2, .int x3] mem X m1 := ucx_of rfl (Nat.le_of_ble_eq_true rfl) (t_X7_need  mem x1 x2 x3 _ h)
-- X5_begin
def f_X5_begin (mem : Um) (x1 : Int32) : Option (Um × Unit) :=
  some ((um_w (um_w (um_w (um_w (um_w mem 1 1 0) 1 2 (ummin x1 600)) 1 3 0) 1 4 0) 1 5 (-1)), ())
set_option maxRecDepth 20000 in
theorem t_X5_begin {l : Launch} {E : Ue} (mem : Um) (x1 : Int32) (z : Um × Unit) (h : f_X5_begin  mem x1 = some z) : ug l E 2 0 0 cX5_begin 2 RX5 none [] (uz_v z) 0 0 0 [(0, .ref (ue_d E 1)), (1, .int x1)] [] mem := by
  rw [f_X5_begin] at h
  refine ug_aload_n 0 dX5_begin_0 rfl rfl ?_
  refine ug_iconst dX5_begin_1 un_iconst_0 ?_
  refine ug_putI kp_X5_15 gi_1_1 dX5_begin_2 ?_
  refine ug_aload_n 0 dX5_begin_5 rfl rfl ?_
  refine ug_iload_n 1 dX5_begin_6 rfl rfl ?_
  refine ug_aload_n 0 dX5_begin_7 rfl rfl ?_
  refine ug_getR kf_X5_9 gr_1_0 dX5_begin_8 ?_
  refine ug_alenI (v := 600) al_2 (by decide) dX5_begin_11 ?_
  refine ug_mmin kl_X5_40 (Nat.le_of_ble_eq_true rfl) (Nat.le_of_ble_eq_true rfl) dX5_begin_12 ?_
  refine ug_putI kp_X5_19 gi_1_2 dX5_begin_15 ?_
  refine ug_aload_n 0 dX5_begin_18 rfl rfl ?_
  refine ug_iconst dX5_begin_19 un_iconst_0 ?_
  refine ug_putI kp_X5_22 gi_1_3 dX5_begin_20 ?_
  refine ug_aload_n 0 dX5_begin_23 rfl rfl ?_
  refine ug_iconst dX5_begin_24 un_iconst_0 ?_
  refine ug_putI kp_X5_25 gi_1_4 dX5_begin_25 ?_
  refine ug_aload_n 0 dX5_begin_28 rfl rfl ?_
  refine ug_iconst dX5_begin_29 un_iconst_m1 ?_
  refine ug_putI kp_X5_28 gi_1_5 dX5_begin_30 ?_
  obtain rfl := Option.some.inj h
  exact ug_vret dX5_begin_33
theorem c_X5_begin {l : Launch} {E : Ue} {mem : Um} {x1 : Int32} {m1 : Um} {r : Unit} (h : f_X5_begin  mem x1 = some (m1, r)) : ucr l E 2 0 0 yX5_begin cX5_begin 2 none [.ref (ue_d E 1), .int x1] mem none m1 := ucr_of rfl (Nat.le_of_ble_eq_true rfl) (t_X5_begin  mem x1 _ h)
-- X5_peek
def f_X5_peek_b62 (mem : Um) (y0 : Int32) : Option (Um × Int32) :=
  some (mem, y0)
set_option maxRecDepth 20000 in
theorem t_X5_peek_b62 {l : Launch} {E : Ue} (mem : Um) (y0 : Int32) (z : Um × Int32) (h : f_X5_peek_b62  mem y0 = some z) : ug l E 2 0 0 cX5_peek 1 RX5 (some .int) [] (uz_i z) 0 0 62 [] [.int y0] mem := by
  rw [f_X5_peek_b62] at h
  obtain rfl := Option.some.inj h
  exact ug_iret dX5_peek_62
def f_X5_peek_b38 (mem : Um) : Option (Um × Int32) :=
  if (mem 1 2) ≤ (mem 1 3) then (f_X5_peek_b62 mem (-1)) else (ugd (uin (mem 1 3) 600) (f_X5_peek_b62 mem (mem 2 (mem 1 3).toNatClampNeg)))
set_option maxRecDepth 20000 in
theorem t_X5_peek_b38 {l : Launch} {E : Ue} (mem : Um) (z : Um × Int32) (h : f_X5_peek_b38  mem  = some z) : ug l E 2 0 0 cX5_peek 1 RX5 (some .int) [] (uz_i z) 0 0 38 [(0, .ref (ue_d E 1))] [] mem := by
  rw [f_X5_peek_b38] at h
  refine ug_aload_n 0 dX5_peek_38 rfl rfl ?_
  refine ug_getI kf_X5_22 gi_1_3 dX5_peek_39 ?_
  refine ug_aload_n 0 dX5_peek_42 rfl rfl ?_
  refine ug_getI kf_X5_19 gi_1_2 dX5_peek_43 ?_
  refine ug_icmp_ge 61 dX5_peek_46 (by decide) (fun q1 => ?_) (fun q1 => ?_)
  · rw [if_pos q1] at h
    refine ug_iconst dX5_peek_61 un_iconst_m1 ?_
    refine ug_sub [] [] rfl ?_
    exact t_X5_peek_b62 mem (-1) _ h
  · rw [if_neg q1] at h
    refine ug_aload_n 0 dX5_peek_49 rfl rfl ?_
    refine ug_getR kf_X5_9 gr_1_0 dX5_peek_50 ?_
    refine ug_aload_n 0 dX5_peek_53 rfl rfl ?_
    refine ug_getI kf_X5_22 gi_1_3 dX5_peek_54 ?_
    obtain ⟨g2, h⟩ := ugd_some h
    refine ug_iald al_2 (uin_ok g2) dX5_peek_57 ?_
    refine ug_goto 62 dX5_peek_58 (by decide) ?_
    refine ug_sub [] [] rfl ?_
    exact t_X5_peek_b62 mem (mem 2 (mem 1 3).toNatClampNeg) _ h
def f_X5_peek_b0 : Nat → Um → Option (Um × Int32)
  | 0, _ => none
  | n + 1, mem =>
    if (mem 1 2) ≤ (mem 1 3) then (f_X5_peek_b38 mem) else (ugd (uin (mem 1 3) 600) (if (mem 2 (mem 1 3).toNatClampNeg) = 32 then ((f_X5_peek_b0  n) (um_w mem 1 3 ((mem 1 3) + 1))) else (f_X5_peek_b38 mem)))
set_option maxRecDepth 20000 in
theorem t_X5_peek_b0 {l : Launch} {E : Ue} : ∀ (n : Nat) (mem : Um) (z : Um × Int32), f_X5_peek_b0  n mem  = some z → ug l E 2 0 0 cX5_peek 1 RX5 (some .int) [] (uz_i z) 0 0 0 [(0, .ref (ue_d E 1))] [] mem := by
  intro n
  induction n with
  | zero =>
    intro mem z h
    rw [f_X5_peek_b0] at h
    cases h
  | succ n ih =>
    intro mem z h
    rw [f_X5_peek_b0] at h
    refine ug_aload_n 0 dX5_peek_0 rfl rfl ?_
    refine ug_getI kf_X5_22 gi_1_3 dX5_peek_1 ?_
    refine ug_aload_n 0 dX5_peek_4 rfl rfl ?_
    refine ug_getI kf_X5_19 gi_1_2 dX5_peek_5 ?_
    refine ug_icmp_ge 38 dX5_peek_8 (by decide) (fun q1 => ?_) (fun q1 => ?_)
    · rw [if_pos q1] at h
      exact t_X5_peek_b38 mem  _ h
    · rw [if_neg q1] at h
      refine ug_aload_n 0 dX5_peek_11 rfl rfl ?_
      refine ug_getR kf_X5_9 gr_1_0 dX5_peek_12 ?_
      refine ug_aload_n 0 dX5_peek_15 rfl rfl ?_
      refine ug_getI kf_X5_22 gi_1_3 dX5_peek_16 ?_
      obtain ⟨g2, h⟩ := ugd_some h
      refine ug_iald al_2 (uin_ok g2) dX5_peek_19 ?_
      refine ug_bipush dX5_peek_20 un_bipush_32 ?_
      refine ug_icmp_ne 38 dX5_peek_22 (by decide) (fun q3 => ?_) (fun q3 => ?_)
      · rw [if_neg q3] at h
        exact t_X5_peek_b38 mem  _ h
      · rw [if_pos q3] at h
        refine ug_aload_n 0 dX5_peek_25 rfl rfl ?_
        refine ug_dup dX5_peek_26 rfl ?_
        refine ug_getI kf_X5_22 gi_1_3 dX5_peek_27 ?_
        refine ug_iconst dX5_peek_30 un_iconst_1 ?_
        refine ug_iadd dX5_peek_31 ?_
        refine ug_putI kp_X5_22 gi_1_3 dX5_peek_32 ?_
        refine ug_goto 0 dX5_peek_35 (by decide) ?_
        exact ih (um_w mem 1 3 ((mem 1 3) + 1))  _ h
def f_X5_peek (mem : Um) : Option (Um × Int32) :=
  if (mem 1 2) ≤ (mem 1 3) then (f_X5_peek_b38 mem) else (ugd (uin (mem 1 3) 600) (if (mem 2 (mem 1 3).toNatClampNeg) = 32 then (f_X5_peek_b0  UF (um_w mem 1 3 ((mem 1 3) + 1))) else (f_X5_peek_b38 mem)))
set_option maxRecDepth 20000 in
theorem t_X5_peek {l : Launch} {E : Ue} (mem : Um) (z : Um × Int32) (h : f_X5_peek  mem  = some z) : ug l E 2 0 0 cX5_peek 1 RX5 (some .int) [] (uz_i z) 0 0 0 [(0, .ref (ue_d E 1))] [] mem := by
  rw [f_X5_peek] at h
  refine ug_aload_n 0 dX5_peek_0 rfl rfl ?_
  refine ug_getI kf_X5_22 gi_1_3 dX5_peek_1 ?_
  refine ug_aload_n 0 dX5_peek_4 rfl rfl ?_
  refine ug_getI kf_X5_19 gi_1_2 dX5_peek_5 ?_
  refine ug_icmp_ge 38 dX5_peek_8 (by decide) (fun q1 => ?_) (fun q1 => ?_)
  · rw [if_pos q1] at h
    exact t_X5_peek_b38 mem  _ h
  · rw [if_neg q1] at h
    refine ug_aload_n 0 dX5_peek_11 rfl rfl ?_
    refine ug_getR kf_X5_9 gr_1_0 dX5_peek_12 ?_
    refine ug_aload_n 0 dX5_peek_15 rfl rfl ?_
    refine ug_getI kf_X5_22 gi_1_3 dX5_peek_16 ?_
    obtain ⟨g2, h⟩ := ugd_some h
    refine ug_iald al_2 (uin_ok g2) dX5_peek_19 ?_
    refine ug_bipush dX5_peek_20 un_bipush_32 ?_
    refine ug_icmp_ne 38 dX5_peek_22 (by decide) (fun q3 => ?_) (fun q3 => ?_)
    · rw [if_neg q3] at h
      exact t_X5_peek_b38 mem  _ h
    · rw [if_pos q3] at h
      refine ug_aload_n 0 dX5_peek_25 rfl rfl ?_
      refine ug_dup dX5_peek_26 rfl ?_
      refine ug_getI kf_X5_22 gi_1_3 dX5_peek_27 ?_
      refine ug_iconst dX5_peek_30 un_iconst_1 ?_
      refine ug_iadd dX5_peek_31 ?_
      refine ug_putI kp_X5_22 gi_1_3 dX5_peek_32 ?_
      refine ug_goto 0 dX5_peek_35 (by decide) ?_
      exact t_X5_peek_b0  UF (um_w mem 1 3 ((mem 1 3) + 1))  _ h
theorem c_X5_peek {l : Launch} {E : Ue} {mem : Um} {m1 : Um} {r : Int32} (h : f_X5_peek  mem  = some (m1, r)) : ucr l E 2 0 0 yX5_peek cX5_peek 1 (some .int) [.ref (ue_d E 1)] mem (some (.int r)) m1 := ucr_of rfl (Nat.le_of_ble_eq_true rfl) (t_X5_peek  mem  _ h)
-- X5_hasMore
def f_X5_hasMore_b13 (mem : Um) (y0 : Int32) : Option (Um × Int32) :=
  ugd (ub01 y0) (some (mem, y0))
set_option maxRecDepth 20000 in
theorem t_X5_hasMore_b13 {l : Launch} {E : Ue} (mem : Um) (y0 : Int32) (z : Um × Int32) (h : f_X5_hasMore_b13  mem y0 = some z) : ug l E 3 0 0 cX5_hasMore 1 RX5 (some .boolean) [] (uz_i z) 0 0 13 [] [.int y0] mem := by
  rw [f_X5_hasMore_b13] at h
  obtain ⟨g1, h⟩ := ugd_some h
  obtain rfl := Option.some.inj h
  exact ug_zret (of_decide_eq_true g1) dX5_hasMore_13
def f_X5_hasMore (mem : Um) : Option (Um × Int32) :=
  ubi (f_X5_peek mem) (fun m1 r2 => if r2 = (-1) then (f_X5_hasMore_b13 m1 0) else (f_X5_hasMore_b13 m1 1))
set_option maxRecDepth 20000 in
theorem t_X5_hasMore {l : Launch} {E : Ue} (mem : Um) (z : Um × Int32) (h : f_X5_hasMore  mem  = some z) : ug l E 3 0 0 cX5_hasMore 1 RX5 (some .boolean) [] (uz_i z) 0 0 0 [(0, .ref (ue_d E 1))] [] mem := by
  rw [f_X5_hasMore] at h
  refine ug_aload_n 0 dX5_hasMore_0 rfl rfl ?_
  obtain ⟨m1, r2, h3, h⟩ := ubi_some h
  refine ug_callVi [] (c_X5_peek  h3) kc_X5_46 ro_1 rfl (S := []) rfl (Nat.le_of_ble_eq_true rfl) (Nat.le_of_ble_eq_true rfl) (Nat.le_of_ble_eq_true rfl) dX5_hasMore_1 ?_
  refine ug_iconst dX5_hasMore_4 un_iconst_m1 ?_
  refine ug_icmp_eq 12 dX5_hasMore_5 (by decide) (fun q4 => ?_) (fun q4 => ?_)
  · rw [if_pos q4] at h
    refine ug_iconst dX5_hasMore_12 un_iconst_0 ?_
    refine ug_sub [] [] rfl ?_
    exact t_X5_hasMore_b13 m1 0 _ h
  · rw [if_neg q4] at h
    refine ug_iconst dX5_hasMore_8 un_iconst_1 ?_
    refine ug_goto 13 dX5_hasMore_9 (by decide) ?_
    refine ug_sub [] [] rfl ?_
    exact t_X5_hasMore_b13 m1 1 _ h
theorem c_X5_hasMore {l : Launch} {E : Ue} {mem : Um} {m1 : Um} {r : Int32} (h : f_X5_hasMore  mem  = some (m1, r)) : ucr l E 3 0 0 yX5_hasMore cX5_hasMore 1 (some .boolean) [.ref (ue_d E 1)] mem (some (.int r)) m1 := ucr_of rfl (Nat.le_of_ble_eq_true rfl) (t_X5_hasMore  mem  _ h)
-- X5_takeWord
def f_X5_takeWord_b65 (mem : Um) : Option (Um × Unit) :=
  some (mem, ())
set_option maxRecDepth 20000 in
theorem t_X5_takeWord_b65 {l : Launch} {E : Ue} (mem : Um) (z : Um × Unit) (h : f_X5_takeWord_b65  mem  = some z) : ug l E 3 0 0 cX5_takeWord 1 RX5 none [] (uz_v z) 0 0 65 [] [] mem := by
  rw [f_X5_takeWord_b65] at h
  obtain rfl := Option.some.inj h
  exact ug_vret dX5_takeWord_65
def f_X5_takeWord_b13 : Nat → Um → Option (Um × Unit)
  | 0, _ => none
  | n + 1, mem =>
    if (mem 1 2) ≤ (mem 1 3) then (f_X5_takeWord_b65 mem) else (ugd (uin (mem 1 3) 600) (if (mem 2 (mem 1 3).toNatClampNeg) < 97 then (f_X5_takeWord_b65 mem) else (ugd (uin (mem 1 3) 600) (if 122 < (mem 2 (mem 1 3).toNatClampNeg) then (f_X5_takeWord_b65 mem) else ((f_X5_takeWord_b13  n) (um_w mem 1 3 ((mem 1 3) + 1)))))))
set_option maxRecDepth 20000 in
theorem t_X5_takeWord_b13 {l : Launch} {E : Ue} : ∀ (n : Nat) (mem : Um) (z : Um × Unit), f_X5_takeWord_b13  n mem  = some z → ug l E 3 0 0 cX5_takeWord 1 RX5 none [] (uz_v z) 0 0 13 [(0, .ref (ue_d E 1))] [] mem := by
  intro n
  induction n with
  | zero =>
    intro mem z h
    rw [f_X5_takeWord_b13] at h
    cases h
  | succ n ih =>
    intro mem z h
    rw [f_X5_takeWord_b13] at h
    refine ug_aload_n 0 dX5_takeWord_13 rfl rfl ?_
    refine ug_getI kf_X5_22 gi_1_3 dX5_takeWord_14 ?_
    refine ug_aload_n 0 dX5_takeWord_17 rfl rfl ?_
    refine ug_getI kf_X5_19 gi_1_2 dX5_takeWord_18 ?_
    refine ug_icmp_ge 65 dX5_takeWord_21 (by decide) (fun q1 => ?_) (fun q1 => ?_)
    · rw [if_pos q1] at h
      refine ug_sub [] [] rfl ?_
      exact t_X5_takeWord_b65 mem  _ h
    · rw [if_neg q1] at h
      refine ug_aload_n 0 dX5_takeWord_24 rfl rfl ?_
      refine ug_getR kf_X5_9 gr_1_0 dX5_takeWord_25 ?_
      refine ug_aload_n 0 dX5_takeWord_28 rfl rfl ?_
      refine ug_getI kf_X5_22 gi_1_3 dX5_takeWord_29 ?_
      obtain ⟨g2, h⟩ := ugd_some h
      refine ug_iald al_2 (uin_ok g2) dX5_takeWord_32 ?_
      refine ug_bipush dX5_takeWord_33 un_bipush_97 ?_
      refine ug_icmp_lt 65 dX5_takeWord_35 (by decide) (fun q3 => ?_) (fun q3 => ?_)
      · rw [if_pos q3] at h
        refine ug_sub [] [] rfl ?_
        exact t_X5_takeWord_b65 mem  _ h
      · rw [if_neg q3] at h
        refine ug_aload_n 0 dX5_takeWord_38 rfl rfl ?_
        refine ug_getR kf_X5_9 gr_1_0 dX5_takeWord_39 ?_
        refine ug_aload_n 0 dX5_takeWord_42 rfl rfl ?_
        refine ug_getI kf_X5_22 gi_1_3 dX5_takeWord_43 ?_
        obtain ⟨g4, h⟩ := ugd_some h
        refine ug_iald al_2 (uin_ok g4) dX5_takeWord_46 ?_
        refine ug_bipush dX5_takeWord_47 un_bipush_122 ?_
        refine ug_icmp_gt 65 dX5_takeWord_49 (by decide) (fun q5 => ?_) (fun q5 => ?_)
        · rw [if_pos q5] at h
          refine ug_sub [] [] rfl ?_
          exact t_X5_takeWord_b65 mem  _ h
        · rw [if_neg q5] at h
          refine ug_aload_n 0 dX5_takeWord_52 rfl rfl ?_
          refine ug_dup dX5_takeWord_53 rfl ?_
          refine ug_getI kf_X5_22 gi_1_3 dX5_takeWord_54 ?_
          refine ug_iconst dX5_takeWord_57 un_iconst_1 ?_
          refine ug_iadd dX5_takeWord_58 ?_
          refine ug_putI kp_X5_22 gi_1_3 dX5_takeWord_59 ?_
          refine ug_goto 13 dX5_takeWord_62 (by decide) ?_
          exact ih (um_w mem 1 3 ((mem 1 3) + 1))  _ h
def f_X5_takeWord (mem : Um) : Option (Um × Unit) :=
  ubi (f_X5_peek mem) (fun m1 r2 => f_X5_takeWord_b13  UF (um_w m1 1 8 (m1 1 3)))
set_option maxRecDepth 20000 in
theorem t_X5_takeWord {l : Launch} {E : Ue} (mem : Um) (z : Um × Unit) (h : f_X5_takeWord  mem  = some z) : ug l E 3 0 0 cX5_takeWord 1 RX5 none [] (uz_v z) 0 0 0 [(0, .ref (ue_d E 1))] [] mem := by
  rw [f_X5_takeWord] at h
  refine ug_aload_n 0 dX5_takeWord_0 rfl rfl ?_
  obtain ⟨m1, r2, h3, h⟩ := ubi_some h
  refine ug_callVi [] (c_X5_peek  h3) kc_X5_46 ro_1 rfl (S := []) rfl (Nat.le_of_ble_eq_true rfl) (Nat.le_of_ble_eq_true rfl) (Nat.le_of_ble_eq_true rfl) dX5_takeWord_1 ?_
  refine ug_pop dX5_takeWord_4 rfl ?_
  refine ug_aload_n 0 dX5_takeWord_5 rfl rfl ?_
  refine ug_aload_n 0 dX5_takeWord_6 rfl rfl ?_
  refine ug_getI kf_X5_22 gi_1_3 dX5_takeWord_7 ?_
  refine ug_putI kp_X5_37 gi_1_8 dX5_takeWord_10 ?_
  exact t_X5_takeWord_b13  UF (um_w m1 1 8 (m1 1 3))  _ h
theorem c_X5_takeWord {l : Launch} {E : Ue} {mem : Um} {m1 : Um} {r : Unit} (h : f_X5_takeWord  mem  = some (m1, r)) : ucr l E 3 0 0 yX5_takeWord cX5_takeWord 1 none [.ref (ue_d E 1)] mem none m1 := ucr_of rfl (Nat.le_of_ble_eq_true rfl) (t_X5_takeWord  mem  _ h)
-- X5_wordIs
def f_X5_wordIs_b20 (w : Nat) : Nat → Um → Int32 → Option (Um × Int32)
  | 0, _, _ => none
  | n + 1, mem, x2 =>
    if (us_l w) ≤ x2 then (some (mem, 1)) else (ugd (uin ((mem 1 8) + x2) 600) (ugd (uin x2 (us_len.getD w 0)) (if (mem 2 ((mem 1 8) + x2).toNatClampNeg) = (us_c w x2) then ((f_X5_wordIs_b20 w n) mem (x2 + 1)) else (some (mem, 0)))))
set_option maxRecDepth 20000 in
theorem t_X5_wordIs_b20 {l : Launch} {E : Ue} {w : Nat} (hw : w < 18) : ∀ (n : Nat) (mem : Um) (x2 : Int32) (z : Um × Int32), f_X5_wordIs_b20 w n mem x2 = some z → ug l E 6 0 0 cX5_wordIs 3 RX5 (some .boolean) [] (uz_i z) 0 0 20 [(0, .ref (ue_d E 1)), (1, .ref (ue_aK E w)), (2, .int x2)] [] mem := by
  intro n
  induction n with
  | zero =>
    intro mem x2 z h
    rw [f_X5_wordIs_b20] at h
    cases h
  | succ n ih =>
    intro mem x2 z h
    rw [f_X5_wordIs_b20] at h
    refine ug_iload_n 2 dX5_wordIs_20 rfl rfl ?_
    refine ug_aload_n 1 dX5_wordIs_21 rfl rfl ?_
    refine ug_slen kl_X5_55 hw (Nat.le_of_ble_eq_true rfl) (Nat.le_of_ble_eq_true rfl) dX5_wordIs_22 ?_
    refine ug_icmp_ge 55 dX5_wordIs_25 (by decide) (fun q1 => ?_) (fun q1 => ?_)
    · rw [if_pos q1] at h
      refine ug_iconst dX5_wordIs_55 un_iconst_1 ?_
      obtain rfl := Option.some.inj h
      exact ug_zret (Or.inr rfl) dX5_wordIs_56
    · rw [if_neg q1] at h
      refine ug_aload_n 0 dX5_wordIs_28 rfl rfl ?_
      refine ug_getR kf_X5_9 gr_1_0 dX5_wordIs_29 ?_
      refine ug_aload_n 0 dX5_wordIs_32 rfl rfl ?_
      refine ug_getI kf_X5_37 gi_1_8 dX5_wordIs_33 ?_
      refine ug_iload_n 2 dX5_wordIs_36 rfl rfl ?_
      refine ug_iadd dX5_wordIs_37 ?_
      obtain ⟨g2, h⟩ := ugd_some h
      refine ug_iald al_2 (uin_ok g2) dX5_wordIs_38 ?_
      refine ug_aload_n 1 dX5_wordIs_39 rfl rfl ?_
      refine ug_iload_n 2 dX5_wordIs_40 rfl rfl ?_
      obtain ⟨g3, h⟩ := ugd_some h
      refine ug_schr kl_X5_59 hw (uin_ok g3) (Nat.le_of_ble_eq_true rfl) (Nat.le_of_ble_eq_true rfl) dX5_wordIs_41 ?_
      refine ug_icmp_eq 49 dX5_wordIs_44 (by decide) (fun q4 => ?_) (fun q4 => ?_)
      · rw [if_pos q4] at h
        refine ug_iinc (v := (x2 + 1)) [(2, .int (x2 + 1)), (0, .ref (ue_d E 1)), (1, .ref (ue_aK E w))] 2 dX5_wordIs_49 rfl rfl (Nat.le_of_ble_eq_true rfl) rfl ?_
        refine ug_goto 20 dX5_wordIs_52 (by decide) ?_
        refine ug_sub [(0, .ref (ue_d E 1)), (1, .ref (ue_aK E w)), (2, .int (x2 + 1))] [1, 2, 0] rfl ?_
        exact ih mem (x2 + 1) _ h
      · rw [if_neg q4] at h
        refine ug_iconst dX5_wordIs_47 un_iconst_0 ?_
        obtain rfl := Option.some.inj h
        exact ug_zret (Or.inl rfl) dX5_wordIs_48
def f_X5_wordIs (w : Nat) (mem : Um) : Option (Um × Int32) :=
  if ((mem 1 3) - (mem 1 8)) = (us_l w) then (f_X5_wordIs_b20 w UF mem 0) else (some (mem, 0))
set_option maxRecDepth 20000 in
theorem t_X5_wordIs {l : Launch} {E : Ue} {w : Nat} (hw : w < 18) (mem : Um) (z : Um × Int32) (h : f_X5_wordIs w mem  = some z) : ug l E 6 0 0 cX5_wordIs 3 RX5 (some .boolean) [] (uz_i z) 0 0 0 [(0, .ref (ue_d E 1)), (1, .ref (ue_aK E w))] [] mem := by
  rw [f_X5_wordIs] at h
  refine ug_aload_n 0 dX5_wordIs_0 rfl rfl ?_
  refine ug_getI kf_X5_22 gi_1_3 dX5_wordIs_1 ?_
  refine ug_aload_n 0 dX5_wordIs_4 rfl rfl ?_
  refine ug_getI kf_X5_37 gi_1_8 dX5_wordIs_5 ?_
  refine ug_isub dX5_wordIs_8 ?_
  refine ug_aload_n 1 dX5_wordIs_9 rfl rfl ?_
  refine ug_slen kl_X5_55 hw (Nat.le_of_ble_eq_true rfl) (Nat.le_of_ble_eq_true rfl) dX5_wordIs_10 ?_
  refine ug_icmp_eq 18 dX5_wordIs_13 (by decide) (fun q1 => ?_) (fun q1 => ?_)
  · rw [if_pos q1] at h
    refine ug_iconst dX5_wordIs_18 un_iconst_0 ?_
    refine ug_istore_n [(2, .int 0), (0, .ref (ue_d E 1)), (1, .ref (ue_aK E w))] dX5_wordIs_19 rfl (Nat.le_of_ble_eq_true rfl) rfl ?_
    refine ug_sub [(0, .ref (ue_d E 1)), (1, .ref (ue_aK E w)), (2, .int 0)] [1, 2, 0] rfl ?_
    exact t_X5_wordIs_b20 hw UF mem 0 _ h
  · rw [if_neg q1] at h
    refine ug_iconst dX5_wordIs_16 un_iconst_0 ?_
    obtain rfl := Option.some.inj h
    exact ug_zret (Or.inl rfl) dX5_wordIs_17
theorem c_X5_wordIs {l : Launch} {E : Ue} {w : Nat} (hw : w < 18) {mem : Um} {m1 : Um} {r : Int32} (h : f_X5_wordIs w mem  = some (m1, r)) : ucr l E 6 0 0 yX5_wordIs cX5_wordIs 3 (some .boolean) [.ref (ue_d E 1), .ref (ue_aK E w)] mem (some (.int r)) m1 := ucr_of rfl (Nat.le_of_ble_eq_true rfl) (t_X5_wordIs hw mem  _ h)
-- X5_fail
def f_X5_fail (mem : Um) (x1 : Int32) (x2 : Int32) : Option (Um × Int32) :=
  some ((um_w (um_w mem 1 4 x1) 1 5 x2), 0)
set_option maxRecDepth 20000 in
theorem t_X5_fail {l : Launch} {E : Ue} (mem : Um) (x1 : Int32) (x2 : Int32) (z : Um × Int32) (h : f_X5_fail  mem x1 x2 = some z) : ug l E 2 0 0 cX5_fail 3 RX5 (some .boolean) [] (uz_i z) 0 0 0 [(0, .ref (ue_d E 1)), (1, .int x1), (2, .int x2)] [] mem := by
  rw [f_X5_fail] at h
  refine ug_aload_n 0 dX5_fail_0 rfl rfl ?_
  refine ug_iload_n 1 dX5_fail_1 rfl rfl ?_
  refine ug_putI kp_X5_25 gi_1_4 dX5_fail_2 ?_
  refine ug_aload_n 0 dX5_fail_5 rfl rfl ?_
  refine ug_iload_n 2 dX5_fail_6 rfl rfl ?_
  refine ug_putI kp_X5_28 gi_1_5 dX5_fail_7 ?_
  refine ug_iconst dX5_fail_10 un_iconst_0 ?_
  obtain rfl := Option.some.inj h
  exact ug_zret (Or.inl rfl) dX5_fail_11
theorem c_X5_fail {l : Launch} {E : Ue} {mem : Um} {x1 : Int32} {x2 : Int32} {m1 : Um} {r : Int32} (h : f_X5_fail  mem x1 x2 = some (m1, r)) : ucr l E 2 0 0 yX5_fail cX5_fail 3 (some .boolean) [.ref (ue_d E 1), .int x1, .int x2] mem (some (.int r)) m1 := ucr_of rfl (Nat.le_of_ble_eq_true rfl) (t_X5_fail  mem x1 x2 _ h)
-- X5_failAtWord
def f_X5_failAtWord (mem : Um) (x1 : Int32) : Option (Um × Int32) :=
  ubi (f_X5_fail mem x1 (mem 1 8)) (fun m1 r2 => ugd (ub01 r2) (some (m1, r2)))
set_option maxRecDepth 20000 in
theorem t_X5_failAtWord {l : Launch} {E : Ue} (mem : Um) (x1 : Int32) (z : Um × Int32) (h : f_X5_failAtWord  mem x1 = some z) : ug l E 3 0 0 cX5_failAtWord 2 RX5 (some .boolean) [] (uz_i z) 0 0 0 [(0, .ref (ue_d E 1)), (1, .int x1)] [] mem := by
  rw [f_X5_failAtWord] at h
  refine ug_aload_n 0 dX5_failAtWord_0 rfl rfl ?_
  refine ug_iload_n 1 dX5_failAtWord_1 rfl rfl ?_
  refine ug_aload_n 0 dX5_failAtWord_2 rfl rfl ?_
  refine ug_getI kf_X5_37 gi_1_8 dX5_failAtWord_3 ?_
  obtain ⟨m1, r2, h3, h⟩ := ubi_some h
  refine ug_callVi [.int x1, .int (mem 1 8)] (c_X5_fail  h3) kc_X5_50 ro_1 rfl (S := []) rfl (Nat.le_of_ble_eq_true rfl) (Nat.le_of_ble_eq_true rfl) (Nat.le_of_ble_eq_true rfl) dX5_failAtWord_6 ?_
  obtain ⟨g4, h⟩ := ugd_some h
  obtain rfl := Option.some.inj h
  exact ug_zret (of_decide_eq_true g4) dX5_failAtWord_9
theorem c_X5_failAtWord {l : Launch} {E : Ue} {mem : Um} {x1 : Int32} {m1 : Um} {r : Int32} (h : f_X5_failAtWord  mem x1 = some (m1, r)) : ucr l E 3 0 0 yX5_failAtWord cX5_failAtWord 2 (some .boolean) [.ref (ue_d E 1), .int x1] mem (some (.int r)) m1 := ucr_of rfl (Nat.le_of_ble_eq_true rfl) (t_X5_failAtWord  mem x1 _ h)
-- X5_takeNumber
def f_X5_takeNumber_b153 (mem : Um) (y0 : Int32) : Option (Um × Int32) :=
  ugd (ub01 y0) (some (mem, y0))
set_option maxRecDepth 20000 in
theorem t_X5_takeNumber_b153 {l : Launch} {E : Ue} (mem : Um) (y0 : Int32) (z : Um × Int32) (h : f_X5_takeNumber_b153  mem y0 = some z) : ug l E 3 0 0 cX5_takeNumber 3 RX5 (some .boolean) [] (uz_i z) 0 0 153 [] [.int y0] mem := by
  rw [f_X5_takeNumber_b153] at h
  obtain ⟨g1, h⟩ := ugd_some h
  obtain rfl := Option.some.inj h
  exact ug_zret (of_decide_eq_true g1) dX5_takeNumber_153
def f_X5_takeNumber_b148 (mem : Um) : Option (Um × Int32) :=
  f_X5_takeNumber_b153 mem 1
set_option maxRecDepth 20000 in
theorem t_X5_takeNumber_b148 {l : Launch} {E : Ue} (mem : Um) (z : Um × Int32) (h : f_X5_takeNumber_b148  mem  = some z) : ug l E 3 0 0 cX5_takeNumber 3 RX5 (some .boolean) [] (uz_i z) 0 0 148 [] [] mem := by
  rw [f_X5_takeNumber_b148] at h
  refine ug_iconst dX5_takeNumber_148 un_iconst_1 ?_
  refine ug_goto 153 dX5_takeNumber_149 (by decide) ?_
  exact t_X5_takeNumber_b153 mem 1 _ h
def f_X5_takeNumber_b136 (mem : Um) : Option (Um × Int32) :=
  ubi (f_X5_fail mem 2 (mem 1 7)) (fun m1 r2 => if r2 = 0 then (f_X5_takeNumber_b153 m1 0) else (f_X5_takeNumber_b148 m1))
set_option maxRecDepth 20000 in
theorem t_X5_takeNumber_b136 {l : Launch} {E : Ue} (mem : Um) (z : Um × Int32) (h : f_X5_takeNumber_b136  mem  = some z) : ug l E 3 0 0 cX5_takeNumber 3 RX5 (some .boolean) [] (uz_i z) 0 0 136 [(0, .ref (ue_d E 1))] [] mem := by
  rw [f_X5_takeNumber_b136] at h
  refine ug_aload_n 0 dX5_takeNumber_136 rfl rfl ?_
  refine ug_iconst dX5_takeNumber_137 un_iconst_2 ?_
  refine ug_aload_n 0 dX5_takeNumber_138 rfl rfl ?_
  refine ug_getI kf_X5_34 gi_1_7 dX5_takeNumber_139 ?_
  obtain ⟨m1, r2, h3, h⟩ := ubi_some h
  refine ug_callVi [.int 2, .int (mem 1 7)] (c_X5_fail  h3) kc_X5_50 ro_1 rfl (S := []) rfl (Nat.le_of_ble_eq_true rfl) (Nat.le_of_ble_eq_true rfl) (Nat.le_of_ble_eq_true rfl) dX5_takeNumber_142 ?_
  refine ug_if_eq 152 dX5_takeNumber_145 (by decide) (fun q4 => ?_) (fun q4 => ?_)
  · rw [if_pos q4] at h
    refine ug_iconst dX5_takeNumber_152 un_iconst_0 ?_
    refine ug_sub [] [] rfl ?_
    exact t_X5_takeNumber_b153 m1 0 _ h
  · rw [if_neg q4] at h
    refine ug_sub [] [] rfl ?_
    exact t_X5_takeNumber_b148 m1  _ h
def f_X5_takeNumber_b99 (mem : Um) (x1 : Int32) (x2 : Int32) : Option (Um × Int32) :=
  if (mem 1 3) = (mem 1 7) then (ubi (f_X5_fail mem 1 (mem 1 3)) (fun m4 r5 => ugd (ub01 r5) (some (m4, r5)))) else (if (mem 1 6) < x1 then (f_X5_takeNumber_b136 mem) else (if (mem 1 6) ≤ x2 then (f_X5_takeNumber_b148 mem) else (f_X5_takeNumber_b136 mem)))
set_option maxRecDepth 20000 in
theorem t_X5_takeNumber_b99 {l : Launch} {E : Ue} (mem : Um) (x1 : Int32) (x2 : Int32) (z : Um × Int32) (h : f_X5_takeNumber_b99  mem x1 x2 = some z) : ug l E 3 0 0 cX5_takeNumber 3 RX5 (some .boolean) [] (uz_i z) 0 0 99 [(0, .ref (ue_d E 1)), (1, .int x1), (2, .int x2)] [] mem := by
  rw [f_X5_takeNumber_b99] at h
  refine ug_aload_n 0 dX5_takeNumber_99 rfl rfl ?_
  refine ug_getI kf_X5_22 gi_1_3 dX5_takeNumber_100 ?_
  refine ug_aload_n 0 dX5_takeNumber_103 rfl rfl ?_
  refine ug_getI kf_X5_34 gi_1_7 dX5_takeNumber_104 ?_
  refine ug_icmp_ne 120 dX5_takeNumber_107 (by decide) (fun q1 => ?_) (fun q1 => ?_)
  · rw [if_neg q1] at h
    refine ug_aload_n 0 dX5_takeNumber_120 rfl rfl ?_
    refine ug_getI kf_X5_31 gi_1_6 dX5_takeNumber_121 ?_
    refine ug_iload_n 1 dX5_takeNumber_124 rfl rfl ?_
    refine ug_icmp_lt 136 dX5_takeNumber_125 (by decide) (fun q2 => ?_) (fun q2 => ?_)
    · rw [if_pos q2] at h
      refine ug_sub [(0, .ref (ue_d E 1))] [0] rfl ?_
      exact t_X5_takeNumber_b136 mem  _ h
    · rw [if_neg q2] at h
      refine ug_aload_n 0 dX5_takeNumber_128 rfl rfl ?_
      refine ug_getI kf_X5_31 gi_1_6 dX5_takeNumber_129 ?_
      refine ug_iload_n 2 dX5_takeNumber_132 rfl rfl ?_
      refine ug_icmp_le 148 dX5_takeNumber_133 (by decide) (fun q3 => ?_) (fun q3 => ?_)
      · rw [if_pos q3] at h
        refine ug_sub [] [] rfl ?_
        exact t_X5_takeNumber_b148 mem  _ h
      · rw [if_neg q3] at h
        refine ug_sub [(0, .ref (ue_d E 1))] [0] rfl ?_
        exact t_X5_takeNumber_b136 mem  _ h
  · rw [if_pos q1] at h
    refine ug_aload_n 0 dX5_takeNumber_110 rfl rfl ?_
    refine ug_iconst dX5_takeNumber_111 un_iconst_1 ?_
    refine ug_aload_n 0 dX5_takeNumber_112 rfl rfl ?_
    refine ug_getI kf_X5_22 gi_1_3 dX5_takeNumber_113 ?_
    obtain ⟨m4, r5, h6, h⟩ := ubi_some h
    refine ug_callVi [.int 1, .int (mem 1 3)] (c_X5_fail  h6) kc_X5_50 ro_1 rfl (S := []) rfl (Nat.le_of_ble_eq_true rfl) (Nat.le_of_ble_eq_true rfl) (Nat.le_of_ble_eq_true rfl) dX5_takeNumber_116 ?_
    obtain ⟨g7, h⟩ := ugd_some h
    obtain rfl := Option.some.inj h
    exact ug_zret (of_decide_eq_true g7) dX5_takeNumber_119
def f_X5_takeNumber_b18 : Nat → Um → Int32 → Int32 → Option (Um × Int32)
  | 0, _, _, _ => none
  | n + 1, mem, x1, x2 =>
    if (mem 1 2) ≤ (mem 1 3) then (f_X5_takeNumber_b99 mem x1 x2) else (ugd (uin (mem 1 3) 600) (if (mem 2 (mem 1 3).toNatClampNeg) < 48 then (f_X5_takeNumber_b99 mem x1 x2) else (ugd (uin (mem 1 3) 600) (if 57 < (mem 2 (mem 1 3).toNatClampNeg) then (f_X5_takeNumber_b99 mem x1 x2) else (ugd (uin (mem 1 3) 600) ((f_X5_takeNumber_b18  n) (um_w (um_w mem 1 6 (ummin 100000 ((((mem 1 6) * 10) + (mem 2 (mem 1 3).toNatClampNeg)) - 48))) 1 3 (((um_w mem 1 6 (ummin 100000 ((((mem 1 6) * 10) + (mem 2 (mem 1 3).toNatClampNeg)) - 48))) 1 3) + 1)) x1 x2))))))
set_option maxRecDepth 20000 in
theorem t_X5_takeNumber_b18 {l : Launch} {E : Ue} : ∀ (n : Nat) (mem : Um) (x1 : Int32) (x2 : Int32) (z : Um × Int32), f_X5_takeNumber_b18  n mem x1 x2 = some z → ug l E 3 0 0 cX5_takeNumber 3 RX5 (some .boolean) [] (uz_i z) 0 0 18 [(0, .ref (ue_d E 1)), (1, .int x1), (2, .int x2)] [] mem := by
  intro n
  induction n with
  | zero =>
    intro mem x1 x2 z h
    rw [f_X5_takeNumber_b18] at h
    cases h
  | succ n ih =>
    intro mem x1 x2 z h
    rw [f_X5_takeNumber_b18] at h
    refine ug_aload_n 0 dX5_takeNumber_18 rfl rfl ?_
    refine ug_getI kf_X5_22 gi_1_3 dX5_takeNumber_19 ?_
    refine ug_aload_n 0 dX5_takeNumber_22 rfl rfl ?_
    refine ug_getI kf_X5_19 gi_1_2 dX5_takeNumber_23 ?_
    refine ug_icmp_ge 99 dX5_takeNumber_26 (by decide) (fun q1 => ?_) (fun q1 => ?_)
    · rw [if_pos q1] at h
      exact t_X5_takeNumber_b99 mem x1 x2 _ h
    · rw [if_neg q1] at h
      refine ug_aload_n 0 dX5_takeNumber_29 rfl rfl ?_
      refine ug_getR kf_X5_9 gr_1_0 dX5_takeNumber_30 ?_
      refine ug_aload_n 0 dX5_takeNumber_33 rfl rfl ?_
      refine ug_getI kf_X5_22 gi_1_3 dX5_takeNumber_34 ?_
      obtain ⟨g2, h⟩ := ugd_some h
      refine ug_iald al_2 (uin_ok g2) dX5_takeNumber_37 ?_
      refine ug_bipush dX5_takeNumber_38 un_bipush_48 ?_
      refine ug_icmp_lt 99 dX5_takeNumber_40 (by decide) (fun q3 => ?_) (fun q3 => ?_)
      · rw [if_pos q3] at h
        exact t_X5_takeNumber_b99 mem x1 x2 _ h
      · rw [if_neg q3] at h
        refine ug_aload_n 0 dX5_takeNumber_43 rfl rfl ?_
        refine ug_getR kf_X5_9 gr_1_0 dX5_takeNumber_44 ?_
        refine ug_aload_n 0 dX5_takeNumber_47 rfl rfl ?_
        refine ug_getI kf_X5_22 gi_1_3 dX5_takeNumber_48 ?_
        obtain ⟨g4, h⟩ := ugd_some h
        refine ug_iald al_2 (uin_ok g4) dX5_takeNumber_51 ?_
        refine ug_bipush dX5_takeNumber_52 un_bipush_57 ?_
        refine ug_icmp_gt 99 dX5_takeNumber_54 (by decide) (fun q5 => ?_) (fun q5 => ?_)
        · rw [if_pos q5] at h
          exact t_X5_takeNumber_b99 mem x1 x2 _ h
        · rw [if_neg q5] at h
          refine ug_aload_n 0 dX5_takeNumber_57 rfl rfl ?_
          refine ug_ldc kk_X5_54 dX5_takeNumber_58 ?_
          refine ug_aload_n 0 dX5_takeNumber_60 rfl rfl ?_
          refine ug_getI kf_X5_31 gi_1_6 dX5_takeNumber_61 ?_
          refine ug_bipush dX5_takeNumber_64 un_bipush_10 ?_
          refine ug_imul dX5_takeNumber_66 ?_
          refine ug_aload_n 0 dX5_takeNumber_67 rfl rfl ?_
          refine ug_getR kf_X5_9 gr_1_0 dX5_takeNumber_68 ?_
          refine ug_aload_n 0 dX5_takeNumber_71 rfl rfl ?_
          refine ug_getI kf_X5_22 gi_1_3 dX5_takeNumber_72 ?_
          obtain ⟨g6, h⟩ := ugd_some h
          refine ug_iald al_2 (uin_ok g6) dX5_takeNumber_75 ?_
          refine ug_iadd dX5_takeNumber_76 ?_
          refine ug_bipush dX5_takeNumber_77 un_bipush_48 ?_
          refine ug_isub dX5_takeNumber_79 ?_
          refine ug_mmin kl_X5_40 (Nat.le_of_ble_eq_true rfl) (Nat.le_of_ble_eq_true rfl) dX5_takeNumber_80 ?_
          refine ug_putI kp_X5_31 gi_1_6 dX5_takeNumber_83 ?_
          refine ug_aload_n 0 dX5_takeNumber_86 rfl rfl ?_
          refine ug_dup dX5_takeNumber_87 rfl ?_
          refine ug_getI kf_X5_22 gi_1_3 dX5_takeNumber_88 ?_
          refine ug_iconst dX5_takeNumber_91 un_iconst_1 ?_
          refine ug_iadd dX5_takeNumber_92 ?_
          refine ug_putI kp_X5_22 gi_1_3 dX5_takeNumber_93 ?_
          refine ug_goto 18 dX5_takeNumber_96 (by decide) ?_
          exact ih (um_w (um_w mem 1 6 (ummin 100000 ((((mem 1 6) * 10) + (mem 2 (mem 1 3).toNatClampNeg)) - 48))) 1 3 (((um_w mem 1 6 (ummin 100000 ((((mem 1 6) * 10) + (mem 2 (mem 1 3).toNatClampNeg)) - 48))) 1 3) + 1)) x1 x2 _ h
def f_X5_takeNumber (mem : Um) (x1 : Int32) (x2 : Int32) : Option (Um × Int32) :=
  ubi (f_X5_peek mem) (fun m1 r2 => f_X5_takeNumber_b18  UF (um_w (um_w m1 1 7 (m1 1 3)) 1 6 0) x1 x2)
set_option maxRecDepth 20000 in
theorem t_X5_takeNumber {l : Launch} {E : Ue} (mem : Um) (x1 : Int32) (x2 : Int32) (z : Um × Int32) (h : f_X5_takeNumber  mem x1 x2 = some z) : ug l E 3 0 0 cX5_takeNumber 3 RX5 (some .boolean) [] (uz_i z) 0 0 0 [(0, .ref (ue_d E 1)), (1, .int x1), (2, .int x2)] [] mem := by
  rw [f_X5_takeNumber] at h
  refine ug_aload_n 0 dX5_takeNumber_0 rfl rfl ?_
  obtain ⟨m1, r2, h3, h⟩ := ubi_some h
  refine ug_callVi [] (c_X5_peek  h3) kc_X5_46 ro_1 rfl (S := []) rfl (Nat.le_of_ble_eq_true rfl) (Nat.le_of_ble_eq_true rfl) (Nat.le_of_ble_eq_true rfl) dX5_takeNumber_1 ?_
  refine ug_pop dX5_takeNumber_4 rfl ?_
  refine ug_aload_n 0 dX5_takeNumber_5 rfl rfl ?_
  refine ug_aload_n 0 dX5_takeNumber_6 rfl rfl ?_
  refine ug_getI kf_X5_22 gi_1_3 dX5_takeNumber_7 ?_
  refine ug_putI kp_X5_34 gi_1_7 dX5_takeNumber_10 ?_
  refine ug_aload_n 0 dX5_takeNumber_13 rfl rfl ?_
  refine ug_iconst dX5_takeNumber_14 un_iconst_0 ?_
  refine ug_putI kp_X5_31 gi_1_6 dX5_takeNumber_15 ?_
  exact t_X5_takeNumber_b18  UF (um_w (um_w m1 1 7 (m1 1 3)) 1 6 0) x1 x2 _ h
theorem c_X5_takeNumber {l : Launch} {E : Ue} {mem : Um} {x1 : Int32} {x2 : Int32} {m1 : Um} {r : Int32} (h : f_X5_takeNumber  mem x1 x2 = some (m1, r)) : ucr l E 3 0 0 yX5_takeNumber cX5_takeNumber 3 (some .boolean) [.ref (ue_d E 1), .int x1, .int x2] mem (some (.int r)) m1 := ucr_of rfl (Nat.le_of_ble_eq_true rfl) (t_X5_takeNumber  mem x1 x2 _ h)
-- X5_takeSign
def f_X5_takeSign (mem : Um) (x1 : Int32) : Option (Um × Int32) :=
  ubi (f_X5_peek mem) (fun m1 r2 => if r2 = x1 then (some ((um_w m1 1 3 ((m1 1 3) + 1)), 1)) else (ubi (f_X5_fail m1 1 (m1 1 3)) (fun m5 r6 => ugd (ub01 r6) (some (m5, r6)))))
set_option maxRecDepth 20000 in
theorem t_X5_takeSign {l : Launch} {E : Ue} (mem : Um) (x1 : Int32) (z : Um × Int32) (h : f_X5_takeSign  mem x1 = some z) : ug l E 3 0 0 cX5_takeSign 2 RX5 (some .boolean) [] (uz_i z) 0 0 0 [(0, .ref (ue_d E 1)), (1, .int x1)] [] mem := by
  rw [f_X5_takeSign] at h
  refine ug_aload_n 0 dX5_takeSign_0 rfl rfl ?_
  obtain ⟨m1, r2, h3, h⟩ := ubi_some h
  refine ug_callVi [] (c_X5_peek  h3) kc_X5_46 ro_1 rfl (S := []) rfl (Nat.le_of_ble_eq_true rfl) (Nat.le_of_ble_eq_true rfl) (Nat.le_of_ble_eq_true rfl) dX5_takeSign_1 ?_
  refine ug_iload_n 1 dX5_takeSign_4 rfl rfl ?_
  refine ug_icmp_eq 18 dX5_takeSign_5 (by decide) (fun q4 => ?_) (fun q4 => ?_)
  · rw [if_pos q4] at h
    refine ug_aload_n 0 dX5_takeSign_18 rfl rfl ?_
    refine ug_dup dX5_takeSign_19 rfl ?_
    refine ug_getI kf_X5_22 gi_1_3 dX5_takeSign_20 ?_
    refine ug_iconst dX5_takeSign_23 un_iconst_1 ?_
    refine ug_iadd dX5_takeSign_24 ?_
    refine ug_putI kp_X5_22 gi_1_3 dX5_takeSign_25 ?_
    refine ug_iconst dX5_takeSign_28 un_iconst_1 ?_
    obtain rfl := Option.some.inj h
    exact ug_zret (Or.inr rfl) dX5_takeSign_29
  · rw [if_neg q4] at h
    refine ug_aload_n 0 dX5_takeSign_8 rfl rfl ?_
    refine ug_iconst dX5_takeSign_9 un_iconst_1 ?_
    refine ug_aload_n 0 dX5_takeSign_10 rfl rfl ?_
    refine ug_getI kf_X5_22 gi_1_3 dX5_takeSign_11 ?_
    obtain ⟨m5, r6, h7, h⟩ := ubi_some h
    refine ug_callVi [.int 1, .int (m1 1 3)] (c_X5_fail  h7) kc_X5_50 ro_1 rfl (S := []) rfl (Nat.le_of_ble_eq_true rfl) (Nat.le_of_ble_eq_true rfl) (Nat.le_of_ble_eq_true rfl) dX5_takeSign_14 ?_
    obtain ⟨g8, h⟩ := ugd_some h
    obtain rfl := Option.some.inj h
    exact ug_zret (of_decide_eq_true g8) dX5_takeSign_17
theorem c_X5_takeSign {l : Launch} {E : Ue} {mem : Um} {x1 : Int32} {m1 : Um} {r : Int32} (h : f_X5_takeSign  mem x1 = some (m1, r)) : ucr l E 3 0 0 yX5_takeSign cX5_takeSign 2 (some .boolean) [.ref (ue_d E 1), .int x1] mem (some (.int r)) m1 := ucr_of rfl (Nat.le_of_ble_eq_true rfl) (t_X5_takeSign  mem x1 _ h)
-- X1_readView
def f_X1_readView (mem : Um) : Option (Um × Int32) :=
  ubi (f_X5_takeNumber mem 0 99) (fun m1 r2 => if r2 = 0 then (some (m1, 0)) else (ugd (uin (m1 8 0) 8) (ubi (f_X5_takeNumber (um_w m1 9 (m1 8 0).toNatClampNeg (m1 1 6)) 0 60) (fun m6 r7 => if r7 = 0 then (some (m6, 0)) else (ugd (uin (m6 8 0) 8) (ubi (f_X5_takeSign (um_w (um_w m6 10 (m6 8 0).toNatClampNeg (m6 1 6)) 8 0 (((um_w m6 10 (m6 8 0).toNatClampNeg (m6 1 6)) 8 0) + 1)) 59) (fun m11 r12 => ugd (ub01 r12) (some (m11, r12)))))))))
set_option maxRecDepth 20000 in
theorem t_X1_readView {l : Launch} {E : Ue} (mem : Um) (z : Um × Int32) (h : f_X1_readView  mem  = some z) : ug l E 4 0 0 cX1_readView 2 RX1 (some .boolean) [] (uz_i z) 0 0 0 [(0, .ref (ue_d E 8)), (1, .ref (ue_d E 1))] [] mem := by
  rw [f_X1_readView] at h
  refine ug_aload_n 1 dX1_readView_0 rfl rfl ?_
  refine ug_iconst dX1_readView_1 un_iconst_0 ?_
  refine ug_bipush dX1_readView_2 un_bipush_99 ?_
  obtain ⟨m1, r2, h3, h⟩ := ubi_some h
  refine ug_callVi [.int 0, .int 99] (c_X5_takeNumber  h3) kc_X1_76 ro_1 rfl (S := []) rfl (Nat.le_of_ble_eq_true rfl) (Nat.le_of_ble_eq_true rfl) (Nat.le_of_ble_eq_true rfl) dX1_readView_4 ?_
  refine ug_if_ne 12 dX1_readView_7 (by decide) (fun q4 => ?_) (fun q4 => ?_)
  · rw [if_neg q4] at h
    refine ug_aload_n 0 dX1_readView_12 rfl rfl ?_
    refine ug_getR kf_X1_21 gr_8_3 dX1_readView_13 ?_
    refine ug_aload_n 0 dX1_readView_16 rfl rfl ?_
    refine ug_getI kf_X1_9 gi_8_0 dX1_readView_17 ?_
    refine ug_aload_n 1 dX1_readView_20 rfl rfl ?_
    refine ug_getI kf_X1_80 gi_1_6 dX1_readView_21 ?_
    obtain ⟨g5, h⟩ := ugd_some h
    refine ug_iast al_9 (uin_ok g5) dX1_readView_24 ?_
    refine ug_aload_n 1 dX1_readView_25 rfl rfl ?_
    refine ug_iconst dX1_readView_26 un_iconst_0 ?_
    refine ug_bipush dX1_readView_27 un_bipush_60 ?_
    obtain ⟨m6, r7, h8, h⟩ := ubi_some h
    refine ug_callVi [.int 0, .int 60] (c_X5_takeNumber  h8) kc_X1_76 ro_1 rfl (S := []) rfl (Nat.le_of_ble_eq_true rfl) (Nat.le_of_ble_eq_true rfl) (Nat.le_of_ble_eq_true rfl) dX1_readView_29 ?_
    refine ug_if_ne 37 dX1_readView_32 (by decide) (fun q9 => ?_) (fun q9 => ?_)
    · rw [if_neg q9] at h
      refine ug_aload_n 0 dX1_readView_37 rfl rfl ?_
      refine ug_getR kf_X1_25 gr_8_4 dX1_readView_38 ?_
      refine ug_aload_n 0 dX1_readView_41 rfl rfl ?_
      refine ug_getI kf_X1_9 gi_8_0 dX1_readView_42 ?_
      refine ug_aload_n 1 dX1_readView_45 rfl rfl ?_
      refine ug_getI kf_X1_80 gi_1_6 dX1_readView_46 ?_
      obtain ⟨g10, h⟩ := ugd_some h
      refine ug_iast al_10 (uin_ok g10) dX1_readView_49 ?_
      refine ug_aload_n 0 dX1_readView_50 rfl rfl ?_
      refine ug_dup dX1_readView_51 rfl ?_
      refine ug_getI kf_X1_9 gi_8_0 dX1_readView_52 ?_
      refine ug_iconst dX1_readView_55 un_iconst_1 ?_
      refine ug_iadd dX1_readView_56 ?_
      refine ug_putI kp_X1_9 gi_8_0 dX1_readView_57 ?_
      refine ug_aload_n 1 dX1_readView_60 rfl rfl ?_
      refine ug_bipush dX1_readView_61 un_bipush_59 ?_
      obtain ⟨m11, r12, h13, h⟩ := ubi_some h
      refine ug_callVi [.int 59] (c_X5_takeSign  h13) kc_X1_83 ro_1 rfl (S := []) rfl (Nat.le_of_ble_eq_true rfl) (Nat.le_of_ble_eq_true rfl) (Nat.le_of_ble_eq_true rfl) dX1_readView_63 ?_
      obtain ⟨g14, h⟩ := ugd_some h
      obtain rfl := Option.some.inj h
      exact ug_zret (of_decide_eq_true g14) dX1_readView_66
    · rw [if_pos q9] at h
      refine ug_iconst dX1_readView_35 un_iconst_0 ?_
      obtain rfl := Option.some.inj h
      exact ug_zret (Or.inl rfl) dX1_readView_36
  · rw [if_pos q4] at h
    refine ug_iconst dX1_readView_10 un_iconst_0 ?_
    obtain rfl := Option.some.inj h
    exact ug_zret (Or.inl rfl) dX1_readView_11
theorem c_X1_readView {l : Launch} {E : Ue} {mem : Um} {m1 : Um} {r : Int32} (h : f_X1_readView  mem  = some (m1, r)) : ucr l E 4 0 0 yX1_readView cX1_readView 2 (some .boolean) [.ref (ue_d E 8), .ref (ue_d E 1)] mem (some (.int r)) m1 := ucr_of rfl (Nat.le_of_ble_eq_true rfl) (t_X1_readView  mem  _ h)
-- X1_readTenant
def f_X1_readTenant (mem : Um) : Option (Um × Int32) :=
  ubi (f_X5_takeNumber mem 0 99) (fun m1 r2 => if r2 = 0 then (some (m1, 0)) else (ugd (uin (m1 8 1) 5) (ubi (f_X5_takeNumber (um_w m1 11 (m1 8 1).toNatClampNeg (m1 1 6)) 0 99) (fun m6 r7 => if r7 = 0 then (some (m6, 0)) else (ugd (uin (m6 8 1) 5) (ubi (f_X5_takeSign (um_w (um_w m6 12 (m6 8 1).toNatClampNeg (m6 1 6)) 8 1 (((um_w m6 12 (m6 8 1).toNatClampNeg (m6 1 6)) 8 1) + 1)) 59) (fun m11 r12 => ugd (ub01 r12) (some (m11, r12)))))))))
set_option maxRecDepth 20000 in
theorem t_X1_readTenant {l : Launch} {E : Ue} (mem : Um) (z : Um × Int32) (h : f_X1_readTenant  mem  = some z) : ug l E 4 0 0 cX1_readTenant 2 RX1 (some .boolean) [] (uz_i z) 0 0 0 [(0, .ref (ue_d E 8)), (1, .ref (ue_d E 1))] [] mem := by
  rw [f_X1_readTenant] at h
  refine ug_aload_n 1 dX1_readTenant_0 rfl rfl ?_
  refine ug_iconst dX1_readTenant_1 un_iconst_0 ?_
  refine ug_bipush dX1_readTenant_2 un_bipush_99 ?_
  obtain ⟨m1, r2, h3, h⟩ := ubi_some h
  refine ug_callVi [.int 0, .int 99] (c_X5_takeNumber  h3) kc_X1_76 ro_1 rfl (S := []) rfl (Nat.le_of_ble_eq_true rfl) (Nat.le_of_ble_eq_true rfl) (Nat.le_of_ble_eq_true rfl) dX1_readTenant_4 ?_
  refine ug_if_ne 12 dX1_readTenant_7 (by decide) (fun q4 => ?_) (fun q4 => ?_)
  · rw [if_neg q4] at h
    refine ug_aload_n 0 dX1_readTenant_12 rfl rfl ?_
    refine ug_getR kf_X1_28 gr_8_5 dX1_readTenant_13 ?_
    refine ug_aload_n 0 dX1_readTenant_16 rfl rfl ?_
    refine ug_getI kf_X1_15 gi_8_1 dX1_readTenant_17 ?_
    refine ug_aload_n 1 dX1_readTenant_20 rfl rfl ?_
    refine ug_getI kf_X1_80 gi_1_6 dX1_readTenant_21 ?_
    obtain ⟨g5, h⟩ := ugd_some h
    refine ug_iast al_11 (uin_ok g5) dX1_readTenant_24 ?_
    refine ug_aload_n 1 dX1_readTenant_25 rfl rfl ?_
    refine ug_iconst dX1_readTenant_26 un_iconst_0 ?_
    refine ug_bipush dX1_readTenant_27 un_bipush_99 ?_
    obtain ⟨m6, r7, h8, h⟩ := ubi_some h
    refine ug_callVi [.int 0, .int 99] (c_X5_takeNumber  h8) kc_X1_76 ro_1 rfl (S := []) rfl (Nat.le_of_ble_eq_true rfl) (Nat.le_of_ble_eq_true rfl) (Nat.le_of_ble_eq_true rfl) dX1_readTenant_29 ?_
    refine ug_if_ne 37 dX1_readTenant_32 (by decide) (fun q9 => ?_) (fun q9 => ?_)
    · rw [if_neg q9] at h
      refine ug_aload_n 0 dX1_readTenant_37 rfl rfl ?_
      refine ug_getR kf_X1_31 gr_8_6 dX1_readTenant_38 ?_
      refine ug_aload_n 0 dX1_readTenant_41 rfl rfl ?_
      refine ug_getI kf_X1_15 gi_8_1 dX1_readTenant_42 ?_
      refine ug_aload_n 1 dX1_readTenant_45 rfl rfl ?_
      refine ug_getI kf_X1_80 gi_1_6 dX1_readTenant_46 ?_
      obtain ⟨g10, h⟩ := ugd_some h
      refine ug_iast al_12 (uin_ok g10) dX1_readTenant_49 ?_
      refine ug_aload_n 0 dX1_readTenant_50 rfl rfl ?_
      refine ug_dup dX1_readTenant_51 rfl ?_
      refine ug_getI kf_X1_15 gi_8_1 dX1_readTenant_52 ?_
      refine ug_iconst dX1_readTenant_55 un_iconst_1 ?_
      refine ug_iadd dX1_readTenant_56 ?_
      refine ug_putI kp_X1_15 gi_8_1 dX1_readTenant_57 ?_
      refine ug_aload_n 1 dX1_readTenant_60 rfl rfl ?_
      refine ug_bipush dX1_readTenant_61 un_bipush_59 ?_
      obtain ⟨m11, r12, h13, h⟩ := ubi_some h
      refine ug_callVi [.int 59] (c_X5_takeSign  h13) kc_X1_83 ro_1 rfl (S := []) rfl (Nat.le_of_ble_eq_true rfl) (Nat.le_of_ble_eq_true rfl) (Nat.le_of_ble_eq_true rfl) dX1_readTenant_63 ?_
      obtain ⟨g14, h⟩ := ugd_some h
      obtain rfl := Option.some.inj h
      exact ug_zret (of_decide_eq_true g14) dX1_readTenant_66
    · rw [if_pos q9] at h
      refine ug_iconst dX1_readTenant_35 un_iconst_0 ?_
      obtain rfl := Option.some.inj h
      exact ug_zret (Or.inl rfl) dX1_readTenant_36
  · rw [if_pos q4] at h
    refine ug_iconst dX1_readTenant_10 un_iconst_0 ?_
    obtain rfl := Option.some.inj h
    exact ug_zret (Or.inl rfl) dX1_readTenant_11
theorem c_X1_readTenant {l : Launch} {E : Ue} {mem : Um} {m1 : Um} {r : Int32} (h : f_X1_readTenant  mem  = some (m1, r)) : ucr l E 4 0 0 yX1_readTenant cX1_readTenant 2 (some .boolean) [.ref (ue_d E 8), .ref (ue_d E 1)] mem (some (.int r)) m1 := ucr_of rfl (Nat.le_of_ble_eq_true rfl) (t_X1_readTenant  mem  _ h)
-- X1_readSoap
def f_X1_readSoap (mem : Um) : Option (Um × Int32) :=
  ubi (f_X5_takeNumber mem 1 20) (fun m1 r2 => if r2 = 0 then (some (m1, 0)) else (ubi (f_X5_takeSign (um_w m1 8 2 (m1 1 6)) 59) (fun m5 r6 => ugd (ub01 r6) (some (m5, r6)))))
set_option maxRecDepth 20000 in
theorem t_X1_readSoap {l : Launch} {E : Ue} (mem : Um) (z : Um × Int32) (h : f_X1_readSoap  mem  = some z) : ug l E 4 0 0 cX1_readSoap 2 RX1 (some .boolean) [] (uz_i z) 0 0 0 [(0, .ref (ue_d E 8)), (1, .ref (ue_d E 1))] [] mem := by
  rw [f_X1_readSoap] at h
  refine ug_aload_n 1 dX1_readSoap_0 rfl rfl ?_
  refine ug_iconst dX1_readSoap_1 un_iconst_1 ?_
  refine ug_bipush dX1_readSoap_2 un_bipush_20 ?_
  obtain ⟨m1, r2, h3, h⟩ := ubi_some h
  refine ug_callVi [.int 1, .int 20] (c_X5_takeNumber  h3) kc_X1_76 ro_1 rfl (S := []) rfl (Nat.le_of_ble_eq_true rfl) (Nat.le_of_ble_eq_true rfl) (Nat.le_of_ble_eq_true rfl) dX1_readSoap_4 ?_
  refine ug_if_ne 12 dX1_readSoap_7 (by decide) (fun q4 => ?_) (fun q4 => ?_)
  · rw [if_neg q4] at h
    refine ug_aload_n 0 dX1_readSoap_12 rfl rfl ?_
    refine ug_aload_n 1 dX1_readSoap_13 rfl rfl ?_
    refine ug_getI kf_X1_80 gi_1_6 dX1_readSoap_14 ?_
    refine ug_putI kp_X1_18 gi_8_2 dX1_readSoap_17 ?_
    refine ug_aload_n 1 dX1_readSoap_20 rfl rfl ?_
    refine ug_bipush dX1_readSoap_21 un_bipush_59 ?_
    obtain ⟨m5, r6, h7, h⟩ := ubi_some h
    refine ug_callVi [.int 59] (c_X5_takeSign  h7) kc_X1_83 ro_1 rfl (S := []) rfl (Nat.le_of_ble_eq_true rfl) (Nat.le_of_ble_eq_true rfl) (Nat.le_of_ble_eq_true rfl) dX1_readSoap_23 ?_
    obtain ⟨g8, h⟩ := ugd_some h
    obtain rfl := Option.some.inj h
    exact ug_zret (of_decide_eq_true g8) dX1_readSoap_26
  · rw [if_pos q4] at h
    refine ug_iconst dX1_readSoap_10 un_iconst_0 ?_
    obtain rfl := Option.some.inj h
    exact ug_zret (Or.inl rfl) dX1_readSoap_11
theorem c_X1_readSoap {l : Launch} {E : Ue} {mem : Um} {m1 : Um} {r : Int32} (h : f_X1_readSoap  mem  = some (m1, r)) : ucr l E 4 0 0 yX1_readSoap cX1_readSoap 2 (some .boolean) [.ref (ue_d E 8), .ref (ue_d E 1)] mem (some (.int r)) m1 := ucr_of rfl (Nat.le_of_ble_eq_true rfl) (t_X1_readSoap  mem  _ h)
-- X1_readClause
def f_X1_readClause_b101 (mem : Um) (y0 : Int32) : Option (Um × Int32) :=
  ugd (ub01 y0) (some (mem, y0))
set_option maxRecDepth 20000 in
theorem t_X1_readClause_b101 {l : Launch} {E : Ue} (mem : Um) (y0 : Int32) (z : Um × Int32) (h : f_X1_readClause_b101  mem y0 = some z) : ug l E 7 0 0 cX1_readClause 3 RX1 (some .boolean) [] (uz_i z) 0 0 101 [] [.int y0] mem := by
  rw [f_X1_readClause_b101] at h
  obtain ⟨g1, h⟩ := ugd_some h
  obtain rfl := Option.some.inj h
  exact ug_zret (of_decide_eq_true g1) dX1_readClause_101
def f_X1_readClause_b74 (mem : Um) (y0 : Int32) : Option (Um × Int32) :=
  ugd (ub01 y0) (some (mem, y0))
set_option maxRecDepth 20000 in
theorem t_X1_readClause_b74 {l : Launch} {E : Ue} (mem : Um) (y0 : Int32) (z : Um × Int32) (h : f_X1_readClause_b74  mem y0 = some z) : ug l E 7 0 0 cX1_readClause 3 RX1 (some .boolean) [] (uz_i z) 0 0 74 [] [.int y0] mem := by
  rw [f_X1_readClause_b74] at h
  obtain ⟨g1, h⟩ := ugd_some h
  obtain rfl := Option.some.inj h
  exact ug_zret (of_decide_eq_true g1) dX1_readClause_74
def f_X1_readClause_b61 (mem : Um) : Option (Um × Int32) :=
  ubi (f_X5_failAtWord mem 3) (fun m1 r2 => f_X1_readClause_b74 m1 r2)
set_option maxRecDepth 20000 in
theorem t_X1_readClause_b61 {l : Launch} {E : Ue} (mem : Um) (z : Um × Int32) (h : f_X1_readClause_b61  mem  = some z) : ug l E 7 0 0 cX1_readClause 3 RX1 (some .boolean) [] (uz_i z) 0 0 61 [(1, .ref (ue_d E 1))] [] mem := by
  rw [f_X1_readClause_b61] at h
  refine ug_aload_n 0 dX1_readClause_61 rfl rfl ?_
  refine ug_iconst dX1_readClause_62 un_iconst_3 ?_
  obtain ⟨m1, r2, h3, h⟩ := ubi_some h
  refine ug_callVi [.int 3] (c_X5_failAtWord  h3) kc_X1_59 ro_1 rfl (S := []) rfl (Nat.le_of_ble_eq_true rfl) (Nat.le_of_ble_eq_true rfl) (Nat.le_of_ble_eq_true rfl) dX1_readClause_63 ?_
  refine ug_goto 74 dX1_readClause_66 (by decide) ?_
  refine ug_sub [] [] rfl ?_
  exact t_X1_readClause_b74 m1 r2 _ h
def f_X1_readClause_b39 (mem : Um) (y0 : Int32) : Option (Um × Int32) :=
  ugd (ub01 y0) (some (mem, y0))
set_option maxRecDepth 20000 in
theorem t_X1_readClause_b39 {l : Launch} {E : Ue} (mem : Um) (y0 : Int32) (z : Um × Int32) (h : f_X1_readClause_b39  mem y0 = some z) : ug l E 7 0 0 cX1_readClause 3 RX1 (some .boolean) [] (uz_i z) 0 0 39 [] [.int y0] mem := by
  rw [f_X1_readClause_b39] at h
  obtain ⟨g1, h⟩ := ugd_some h
  obtain rfl := Option.some.inj h
  exact ug_zret (of_decide_eq_true g1) dX1_readClause_39
def f_X1_readClause_b26 (mem : Um) : Option (Um × Int32) :=
  ubi (f_X5_failAtWord mem 3) (fun m1 r2 => f_X1_readClause_b39 m1 r2)
set_option maxRecDepth 20000 in
theorem t_X1_readClause_b26 {l : Launch} {E : Ue} (mem : Um) (z : Um × Int32) (h : f_X1_readClause_b26  mem  = some z) : ug l E 7 0 0 cX1_readClause 3 RX1 (some .boolean) [] (uz_i z) 0 0 26 [(1, .ref (ue_d E 1))] [] mem := by
  rw [f_X1_readClause_b26] at h
  refine ug_aload_n 0 dX1_readClause_26 rfl rfl ?_
  refine ug_iconst dX1_readClause_27 un_iconst_3 ?_
  obtain ⟨m1, r2, h3, h⟩ := ubi_some h
  refine ug_callVi [.int 3] (c_X5_failAtWord  h3) kc_X1_59 ro_1 rfl (S := []) rfl (Nat.le_of_ble_eq_true rfl) (Nat.le_of_ble_eq_true rfl) (Nat.le_of_ble_eq_true rfl) dX1_readClause_28 ?_
  refine ug_goto 39 dX1_readClause_31 (by decide) ?_
  refine ug_sub [] [] rfl ?_
  exact t_X1_readClause_b39 m1 r2 _ h
def f_X1_readClause (mem : Um) (x2 : Int32) : Option (Um × Int32) :=
  ubi (f_X5_takeWord mem) (fun m1 r2 => ubi (f_X5_wordIs 0 m1) (fun m4 r5 => if r5 = 0 then (ubi (f_X5_wordIs 1 m4) (fun m8 r9 => if r9 = 0 then (ubi (f_X5_wordIs 2 m8) (fun m12 r13 => if r13 = 0 then (ubi (f_X5_failAtWord m12 1) (fun m16 r17 => ugd (ub01 r17) (some (m16, r17)))) else (if x2 = 0 then (ubi (f_X1_readSoap m12) (fun m21 r22 => f_X1_readClause_b101 m21 r22)) else (ubi (f_X5_failAtWord m12 3) (fun m24 r25 => f_X1_readClause_b101 m24 r25))))) else (if x2 = 0 then (if (m8 8 1) < 5 then (ubi (f_X1_readTenant m8) (fun m29 r30 => f_X1_readClause_b74 m29 r30)) else (f_X1_readClause_b61 m8)) else (f_X1_readClause_b61 m8)))) else (if x2 = 0 then (if (m4 8 0) < 8 then (ubi (f_X1_readView m4) (fun m34 r35 => f_X1_readClause_b39 m34 r35)) else (f_X1_readClause_b26 m4)) else (f_X1_readClause_b26 m4))))
set_option maxRecDepth 20000 in
theorem t_X1_readClause {l : Launch} {E : Ue} (mem : Um) (x2 : Int32) (z : Um × Int32) (h : f_X1_readClause  mem x2 = some z) : ug l E 7 0 0 cX1_readClause 3 RX1 (some .boolean) [] (uz_i z) 0 0 0 [(0, .ref (ue_d E 8)), (1, .ref (ue_d E 1)), (2, .int x2)] [] mem := by
  rw [f_X1_readClause] at h
  refine ug_aload_n 1 dX1_readClause_0 rfl rfl ?_
  obtain ⟨m1, r2, h3, h⟩ := ubi_some h
  refine ug_callVv [] (c_X5_takeWord  h3) kc_X1_50 ro_1 rfl (S := []) rfl (Nat.le_of_ble_eq_true rfl) (Nat.le_of_ble_eq_true rfl) (Nat.le_of_ble_eq_true rfl) dX1_readClause_1 ?_
  refine ug_aload_n 1 dX1_readClause_4 rfl rfl ?_
  refine ug_ldcS 0 (tx := "view") (n := 0) rfl dX1_readClause_5 ?_
  obtain ⟨m4, r5, h6, h⟩ := ubi_some h
  refine ug_callVi [.ref (ue_aK E 0)] (c_X5_wordIs (by decide) h6) kc_X1_55 ro_1 rfl (S := []) rfl (Nat.le_of_ble_eq_true rfl) (Nat.le_of_ble_eq_true rfl) (Nat.le_of_ble_eq_true rfl) dX1_readClause_7 ?_
  refine ug_if_eq 40 dX1_readClause_10 (by decide) (fun q7 => ?_) (fun q7 => ?_)
  · rw [if_pos q7] at h
    refine ug_aload_n 1 dX1_readClause_40 rfl rfl ?_
    refine ug_ldcS 1 (tx := "tenant") (n := 1) rfl dX1_readClause_41 ?_
    obtain ⟨m8, r9, h10, h⟩ := ubi_some h
    refine ug_callVi [.ref (ue_aK E 1)] (c_X5_wordIs (by decide) h10) kc_X1_55 ro_1 rfl (S := []) rfl (Nat.le_of_ble_eq_true rfl) (Nat.le_of_ble_eq_true rfl) (Nat.le_of_ble_eq_true rfl) dX1_readClause_43 ?_
    refine ug_if_eq 75 dX1_readClause_46 (by decide) (fun q11 => ?_) (fun q11 => ?_)
    · rw [if_pos q11] at h
      refine ug_aload_n 1 dX1_readClause_75 rfl rfl ?_
      refine ug_ldcS 2 (tx := "soap") (n := 2) rfl dX1_readClause_76 ?_
      obtain ⟨m12, r13, h14, h⟩ := ubi_some h
      refine ug_callVi [.ref (ue_aK E 2)] (c_X5_wordIs (by decide) h14) kc_X1_55 ro_1 rfl (S := []) rfl (Nat.le_of_ble_eq_true rfl) (Nat.le_of_ble_eq_true rfl) (Nat.le_of_ble_eq_true rfl) dX1_readClause_78 ?_
      refine ug_if_eq 102 dX1_readClause_81 (by decide) (fun q15 => ?_) (fun q15 => ?_)
      · rw [if_pos q15] at h
        refine ug_aload_n 1 dX1_readClause_102 rfl rfl ?_
        refine ug_iconst dX1_readClause_103 un_iconst_1 ?_
        obtain ⟨m16, r17, h18, h⟩ := ubi_some h
        refine ug_callVi [.int 1] (c_X5_failAtWord  h18) kc_X1_59 ro_1 rfl (S := []) rfl (Nat.le_of_ble_eq_true rfl) (Nat.le_of_ble_eq_true rfl) (Nat.le_of_ble_eq_true rfl) dX1_readClause_104 ?_
        obtain ⟨g19, h⟩ := ugd_some h
        obtain rfl := Option.some.inj h
        exact ug_zret (of_decide_eq_true g19) dX1_readClause_107
      · rw [if_neg q15] at h
        refine ug_iload_n 2 dX1_readClause_84 rfl rfl ?_
        refine ug_if_eq 96 dX1_readClause_85 (by decide) (fun q20 => ?_) (fun q20 => ?_)
        · rw [if_pos q20] at h
          refine ug_aload_n 0 dX1_readClause_96 rfl rfl ?_
          refine ug_aload_n 1 dX1_readClause_97 rfl rfl ?_
          obtain ⟨m21, r22, h23, h⟩ := ubi_some h
          refine ug_callVi [.ref (ue_d E 1)] (c_X1_readSoap  h23) kc_X1_73 ro_8 rfl (S := []) rfl (Nat.le_of_ble_eq_true rfl) (Nat.le_of_ble_eq_true rfl) (Nat.le_of_ble_eq_true rfl) dX1_readClause_98 ?_
          refine ug_sub [] [] rfl ?_
          exact t_X1_readClause_b101 m21 r22 _ h
        · rw [if_neg q20] at h
          refine ug_aload_n 1 dX1_readClause_88 rfl rfl ?_
          refine ug_iconst dX1_readClause_89 un_iconst_3 ?_
          obtain ⟨m24, r25, h26, h⟩ := ubi_some h
          refine ug_callVi [.int 3] (c_X5_failAtWord  h26) kc_X1_59 ro_1 rfl (S := []) rfl (Nat.le_of_ble_eq_true rfl) (Nat.le_of_ble_eq_true rfl) (Nat.le_of_ble_eq_true rfl) dX1_readClause_90 ?_
          refine ug_goto 101 dX1_readClause_93 (by decide) ?_
          refine ug_sub [] [] rfl ?_
          exact t_X1_readClause_b101 m24 r25 _ h
    · rw [if_neg q11] at h
      refine ug_iload_n 2 dX1_readClause_49 rfl rfl ?_
      refine ug_if_ne 61 dX1_readClause_50 (by decide) (fun q27 => ?_) (fun q27 => ?_)
      · rw [if_neg q27] at h
        refine ug_sub [(1, .ref (ue_d E 1))] [1] rfl ?_
        exact t_X1_readClause_b61 m8  _ h
      · rw [if_pos q27] at h
        refine ug_aload_n 0 dX1_readClause_53 rfl rfl ?_
        refine ug_getI kf_X1_15 gi_8_1 dX1_readClause_54 ?_
        refine ug_iconst dX1_readClause_57 un_iconst_5 ?_
        refine ug_icmp_lt 69 dX1_readClause_58 (by decide) (fun q28 => ?_) (fun q28 => ?_)
        · rw [if_pos q28] at h
          refine ug_aload_n 0 dX1_readClause_69 rfl rfl ?_
          refine ug_aload_n 1 dX1_readClause_70 rfl rfl ?_
          obtain ⟨m29, r30, h31, h⟩ := ubi_some h
          refine ug_callVi [.ref (ue_d E 1)] (c_X1_readTenant  h31) kc_X1_69 ro_8 rfl (S := []) rfl (Nat.le_of_ble_eq_true rfl) (Nat.le_of_ble_eq_true rfl) (Nat.le_of_ble_eq_true rfl) dX1_readClause_71 ?_
          refine ug_sub [] [] rfl ?_
          exact t_X1_readClause_b74 m29 r30 _ h
        · rw [if_neg q28] at h
          refine ug_sub [(1, .ref (ue_d E 1))] [1] rfl ?_
          exact t_X1_readClause_b61 m8  _ h
  · rw [if_neg q7] at h
    refine ug_iload_n 2 dX1_readClause_13 rfl rfl ?_
    refine ug_if_ne 26 dX1_readClause_14 (by decide) (fun q32 => ?_) (fun q32 => ?_)
    · rw [if_neg q32] at h
      refine ug_sub [(1, .ref (ue_d E 1))] [1] rfl ?_
      exact t_X1_readClause_b26 m4  _ h
    · rw [if_pos q32] at h
      refine ug_aload_n 0 dX1_readClause_17 rfl rfl ?_
      refine ug_getI kf_X1_9 gi_8_0 dX1_readClause_18 ?_
      refine ug_bipush dX1_readClause_21 un_bipush_8 ?_
      refine ug_icmp_lt 34 dX1_readClause_23 (by decide) (fun q33 => ?_) (fun q33 => ?_)
      · rw [if_pos q33] at h
        refine ug_aload_n 0 dX1_readClause_34 rfl rfl ?_
        refine ug_aload_n 1 dX1_readClause_35 rfl rfl ?_
        obtain ⟨m34, r35, h36, h⟩ := ubi_some h
        refine ug_callVi [.ref (ue_d E 1)] (c_X1_readView  h36) kc_X1_63 ro_8 rfl (S := []) rfl (Nat.le_of_ble_eq_true rfl) (Nat.le_of_ble_eq_true rfl) (Nat.le_of_ble_eq_true rfl) dX1_readClause_36 ?_
        refine ug_sub [] [] rfl ?_
        exact t_X1_readClause_b39 m34 r35 _ h
      · rw [if_neg q33] at h
        refine ug_sub [(1, .ref (ue_d E 1))] [1] rfl ?_
        exact t_X1_readClause_b26 m4  _ h
theorem c_X1_readClause {l : Launch} {E : Ue} {mem : Um} {x2 : Int32} {m1 : Um} {r : Int32} (h : f_X1_readClause  mem x2 = some (m1, r)) : ucr l E 7 0 0 yX1_readClause cX1_readClause 3 (some .boolean) [.ref (ue_d E 8), .ref (ue_d E 1), .int x2] mem (some (.int r)) m1 := ucr_of rfl (Nat.le_of_ble_eq_true rfl) (t_X1_readClause  mem x2 _ h)
-- X1_read
def f_X1_read_b58 (mem : Um) : Option (Um × Int32) :=
  some (mem, 1)
set_option maxRecDepth 20000 in
theorem t_X1_read_b58 {l : Launch} {E : Ue} (mem : Um) (z : Um × Int32) (h : f_X1_read_b58  mem  = some z) : ug l E 8 0 0 cX1_read 3 RX1 (some .boolean) [] (uz_i z) 0 0 58 [] [] mem := by
  rw [f_X1_read_b58] at h
  refine ug_iconst dX1_read_58 un_iconst_1 ?_
  obtain rfl := Option.some.inj h
  exact ug_zret (Or.inr rfl) dX1_read_59
def f_X1_read_b44 (k18 : Um → Int32 → Option (Um × Int32)) (mem : Um) (x2 : Int32) (y0 : Int32) : Option (Um × Int32) :=
  ubi (f_X1_readClause mem y0) (fun m1 r2 => if r2 = 0 then (some (m1, 0)) else (k18 m1 (x2 + 1)))
set_option maxRecDepth 20000 in
theorem t_X1_read_b44 {l : Launch} {E : Ue} (k18 : Um → Int32 → Option (Um × Int32)) (hk18 : ∀ (mem : Um) (x2 : Int32) (z : Um × Int32), k18 mem x2 = some z → ug l E 8 0 0 cX1_read 3 RX1 (some .boolean) [] (uz_i z) 0 0 18 [(0, .ref (ue_d E 8)), (1, .ref (ue_d E 1)), (2, .int x2)] [] mem) (mem : Um) (x2 : Int32) (y0 : Int32) (z : Um × Int32) (h : f_X1_read_b44 k18 mem x2 y0 = some z) : ug l E 8 0 0 cX1_read 3 RX1 (some .boolean) [] (uz_i z) 0 0 44 [(0, .ref (ue_d E 8)), (1, .ref (ue_d E 1)), (2, .int x2)] [.int y0, .ref (ue_d E 1), .ref (ue_d E 8)] mem := by
  rw [f_X1_read_b44] at h
  obtain ⟨m1, r2, h3, h⟩ := ubi_some h
  refine ug_callVi [.ref (ue_d E 1), .int y0] (c_X1_readClause  h3) kc_X1_46 ro_8 rfl (S := []) rfl (Nat.le_of_ble_eq_true rfl) (Nat.le_of_ble_eq_true rfl) (Nat.le_of_ble_eq_true rfl) dX1_read_44 ?_
  refine ug_if_ne 52 dX1_read_47 (by decide) (fun q4 => ?_) (fun q4 => ?_)
  · rw [if_neg q4] at h
    refine ug_iinc (v := (x2 + 1)) [(2, .int (x2 + 1)), (0, .ref (ue_d E 8)), (1, .ref (ue_d E 1))] 2 dX1_read_52 rfl rfl (Nat.le_of_ble_eq_true rfl) rfl ?_
    refine ug_goto 18 dX1_read_55 (by decide) ?_
    refine ug_sub [(0, .ref (ue_d E 8)), (1, .ref (ue_d E 1)), (2, .int (x2 + 1))] [1, 2, 0] rfl ?_
    exact hk18 m1 (x2 + 1) _ h
  · rw [if_pos q4] at h
    refine ug_iconst dX1_read_50 un_iconst_0 ?_
    obtain rfl := Option.some.inj h
    exact ug_zret (Or.inl rfl) dX1_read_51
def f_X1_read_b18 : Nat → Um → Int32 → Option (Um × Int32)
  | 0, _, _ => none
  | n + 1, mem, x2 =>
    if 60 < x2 then (f_X1_read_b58 mem) else (ubi (f_X5_hasMore mem) (fun m2 r3 => if r3 = 0 then (f_X1_read_b58 m2) else (if x2 = 60 then (f_X1_read_b44 (f_X1_read_b18  n) m2 x2 1) else (f_X1_read_b44 (f_X1_read_b18  n) m2 x2 0))))
set_option maxRecDepth 20000 in
theorem t_X1_read_b18 {l : Launch} {E : Ue} : ∀ (n : Nat) (mem : Um) (x2 : Int32) (z : Um × Int32), f_X1_read_b18  n mem x2 = some z → ug l E 8 0 0 cX1_read 3 RX1 (some .boolean) [] (uz_i z) 0 0 18 [(0, .ref (ue_d E 8)), (1, .ref (ue_d E 1)), (2, .int x2)] [] mem := by
  intro n
  induction n with
  | zero =>
    intro mem x2 z h
    rw [f_X1_read_b18] at h
    cases h
  | succ n ih =>
    intro mem x2 z h
    rw [f_X1_read_b18] at h
    refine ug_iload_n 2 dX1_read_18 rfl rfl ?_
    refine ug_bipush dX1_read_19 un_bipush_60 ?_
    refine ug_icmp_gt 58 dX1_read_21 (by decide) (fun q1 => ?_) (fun q1 => ?_)
    · rw [if_pos q1] at h
      refine ug_sub [] [] rfl ?_
      exact t_X1_read_b58 mem  _ h
    · rw [if_neg q1] at h
      refine ug_aload_n 1 dX1_read_24 rfl rfl ?_
      obtain ⟨m2, r3, h4, h⟩ := ubi_some h
      refine ug_callVi [] (c_X5_hasMore  h4) kc_X1_40 ro_1 rfl (S := []) rfl (Nat.le_of_ble_eq_true rfl) (Nat.le_of_ble_eq_true rfl) (Nat.le_of_ble_eq_true rfl) dX1_read_25 ?_
      refine ug_if_eq 58 dX1_read_28 (by decide) (fun q5 => ?_) (fun q5 => ?_)
      · rw [if_pos q5] at h
        refine ug_sub [] [] rfl ?_
        exact t_X1_read_b58 m2  _ h
      · rw [if_neg q5] at h
        refine ug_aload_n 0 dX1_read_31 rfl rfl ?_
        refine ug_aload_n 1 dX1_read_32 rfl rfl ?_
        refine ug_iload_n 2 dX1_read_33 rfl rfl ?_
        refine ug_bipush dX1_read_34 un_bipush_60 ?_
        refine ug_icmp_ne 43 dX1_read_36 (by decide) (fun q6 => ?_) (fun q6 => ?_)
        · rw [if_neg q6] at h
          refine ug_iconst dX1_read_43 un_iconst_0 ?_
          exact t_X1_read_b44 (f_X1_read_b18  n) ih m2 x2 0 _ h
        · rw [if_pos q6] at h
          refine ug_iconst dX1_read_39 un_iconst_1 ?_
          refine ug_goto 44 dX1_read_40 (by decide) ?_
          exact t_X1_read_b44 (f_X1_read_b18  n) ih m2 x2 1 _ h
def f_X1_read (mem : Um) : Option (Um × Int32) :=
  f_X1_read_b18  UF (um_w (um_w (um_w mem 8 0 0) 8 1 0) 8 2 8) 0
set_option maxRecDepth 20000 in
theorem t_X1_read {l : Launch} {E : Ue} (mem : Um) (z : Um × Int32) (h : f_X1_read  mem  = some z) : ug l E 8 0 0 cX1_read 3 RX1 (some .boolean) [] (uz_i z) 0 0 0 [(0, .ref (ue_d E 8)), (1, .ref (ue_d E 1))] [] mem := by
  rw [f_X1_read] at h
  refine ug_aload_n 0 dX1_read_0 rfl rfl ?_
  refine ug_iconst dX1_read_1 un_iconst_0 ?_
  refine ug_putI kp_X1_9 gi_8_0 dX1_read_2 ?_
  refine ug_aload_n 0 dX1_read_5 rfl rfl ?_
  refine ug_iconst dX1_read_6 un_iconst_0 ?_
  refine ug_putI kp_X1_15 gi_8_1 dX1_read_7 ?_
  refine ug_aload_n 0 dX1_read_10 rfl rfl ?_
  refine ug_bipush dX1_read_11 un_bipush_8 ?_
  refine ug_putI kp_X1_18 gi_8_2 dX1_read_13 ?_
  refine ug_iconst dX1_read_16 un_iconst_0 ?_
  refine ug_istore_n [(2, .int 0), (0, .ref (ue_d E 8)), (1, .ref (ue_d E 1))] dX1_read_17 rfl (Nat.le_of_ble_eq_true rfl) rfl ?_
  refine ug_sub [(0, .ref (ue_d E 8)), (1, .ref (ue_d E 1)), (2, .int 0)] [1, 2, 0] rfl ?_
  exact t_X1_read_b18  UF (um_w (um_w (um_w mem 8 0 0) 8 1 0) 8 2 8) 0 _ h
theorem c_X1_read {l : Launch} {E : Ue} {mem : Um} {m1 : Um} {r : Int32} (h : f_X1_read  mem  = some (m1, r)) : ucr l E 8 0 0 yX1_read cX1_read 3 (some .boolean) [.ref (ue_d E 8), .ref (ue_d E 1)] mem (some (.int r)) m1 := ucr_of rfl (Nat.le_of_ble_eq_true rfl) (t_X1_read  mem  _ h)
