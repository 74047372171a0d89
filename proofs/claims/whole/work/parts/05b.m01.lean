-- X5_faultAnswer
def f_X5_faultAnswer (mem : Um) : Option (Um × Int32) :=
  some (mem, ((mem 1 4) - 10))
set_option maxRecDepth 20000 in
theorem t_X5_faultAnswer {l : Launch} {E : Ue} (mem : Um) (z : Um × Int32) (h : f_X5_faultAnswer  mem  = some z) : ug l E 2 0 0 cX5_faultAnswer 1 RX5 (some .int) [] (uz_i z) 0 0 0 [(0, .ref (ue_d E 1))] [] mem := by
  rw [f_X5_faultAnswer] at h
  refine ug_aload_n 0 dX5_faultAnswer_0 rfl rfl ?_
  refine ug_getI kf_X5_25 gi_1_4 dX5_faultAnswer_1 ?_
  refine ug_bipush dX5_faultAnswer_4 un_bipush_10 ?_
  refine ug_isub dX5_faultAnswer_6 ?_
  obtain rfl := Option.some.inj h
  exact ug_iret dX5_faultAnswer_7
theorem c_X5_faultAnswer {l : Launch} {E : Ue} {mem : Um} {m1 : Um} {r : Int32} (h : f_X5_faultAnswer  mem  = some (m1, r)) : ucr l E 2 0 0 yX5_faultAnswer cX5_faultAnswer 1 (some .int) [.ref (ue_d E 1)] mem (some (.int r)) m1 := ucr_of rfl (Nat.le_of_ble_eq_true rfl) (t_X5_faultAnswer  mem  _ h)
-- X1_copyFrom
def f_X1_copyFrom (mem : Um) : Option (Um × Unit) :=
  ugd (ucp_ok 0 0 8 8 8) (ugd (ucp_ok 0 0 8 8 8) (ugd (ucp_ok 0 0 5 5 5) (ugd (ucp_ok 0 0 5 5 5) (some ((um_cp (um_cp (um_cp (um_cp (um_w (um_w (um_w mem 3 0 (mem 8 0)) 3 1 ((um_w mem 3 0 (mem 8 0)) 8 1)) 3 2 ((um_w (um_w mem 3 0 (mem 8 0)) 3 1 ((um_w mem 3 0 (mem 8 0)) 8 1)) 8 2)) 9 0 4 0 8) 10 0 5 0 8) 11 0 6 0 5) 12 0 7 0 5), ())))))
set_option maxRecDepth 20000 in
theorem t_X1_copyFrom {l : Launch} {E : Ue} (mem : Um) (z : Um × Unit) (h : f_X1_copyFrom  mem  = some z) : ug l E 2 0 0 cX1_copyFrom 2 RX1 none [] (uz_v z) 0 0 0 [(0, .ref (ue_d E 3)), (1, .ref (ue_d E 8))] [] mem := by
  rw [f_X1_copyFrom] at h
  refine ug_aload_n 0 dX1_copyFrom_0 rfl rfl ?_
  refine ug_aload_n 1 dX1_copyFrom_1 rfl rfl ?_
  refine ug_getI kf_X1_9 gi_8_0 dX1_copyFrom_2 ?_
  refine ug_putI kp_X1_9 gi_3_0 dX1_copyFrom_5 ?_
  refine ug_aload_n 0 dX1_copyFrom_8 rfl rfl ?_
  refine ug_aload_n 1 dX1_copyFrom_9 rfl rfl ?_
  refine ug_getI kf_X1_15 gi_8_1 dX1_copyFrom_10 ?_
  refine ug_putI kp_X1_15 gi_3_1 dX1_copyFrom_13 ?_
  refine ug_aload_n 0 dX1_copyFrom_16 rfl rfl ?_
  refine ug_aload_n 1 dX1_copyFrom_17 rfl rfl ?_
  refine ug_getI kf_X1_18 gi_8_2 dX1_copyFrom_18 ?_
  refine ug_putI kp_X1_18 gi_3_2 dX1_copyFrom_21 ?_
  refine ug_aload_n 1 dX1_copyFrom_24 rfl rfl ?_
  refine ug_getR kf_X1_21 gr_8_3 dX1_copyFrom_25 ?_
  refine ug_iconst dX1_copyFrom_28 un_iconst_0 ?_
  refine ug_aload_n 0 dX1_copyFrom_29 rfl rfl ?_
  refine ug_getR kf_X1_21 gr_3_3 dX1_copyFrom_30 ?_
  refine ug_iconst dX1_copyFrom_33 un_iconst_0 ?_
  refine ug_bipush dX1_copyFrom_34 un_bipush_8 ?_
  obtain ⟨g1, h⟩ := ugd_some h
  refine ug_copy kl_X1_34 al_9 al_4 g1 (Nat.le_of_ble_eq_true rfl) (Nat.le_of_ble_eq_true rfl) dX1_copyFrom_36 ?_
  refine ug_aload_n 1 dX1_copyFrom_39 rfl rfl ?_
  refine ug_getR kf_X1_25 gr_8_4 dX1_copyFrom_40 ?_
  refine ug_iconst dX1_copyFrom_43 un_iconst_0 ?_
  refine ug_aload_n 0 dX1_copyFrom_44 rfl rfl ?_
  refine ug_getR kf_X1_25 gr_3_4 dX1_copyFrom_45 ?_
  refine ug_iconst dX1_copyFrom_48 un_iconst_0 ?_
  refine ug_bipush dX1_copyFrom_49 un_bipush_8 ?_
  obtain ⟨g2, h⟩ := ugd_some h
  refine ug_copy kl_X1_34 al_10 al_5 g2 (Nat.le_of_ble_eq_true rfl) (Nat.le_of_ble_eq_true rfl) dX1_copyFrom_51 ?_
  refine ug_aload_n 1 dX1_copyFrom_54 rfl rfl ?_
  refine ug_getR kf_X1_28 gr_8_5 dX1_copyFrom_55 ?_
  refine ug_iconst dX1_copyFrom_58 un_iconst_0 ?_
  refine ug_aload_n 0 dX1_copyFrom_59 rfl rfl ?_
  refine ug_getR kf_X1_28 gr_3_5 dX1_copyFrom_60 ?_
  refine ug_iconst dX1_copyFrom_63 un_iconst_0 ?_
  refine ug_iconst dX1_copyFrom_64 un_iconst_5 ?_
  obtain ⟨g3, h⟩ := ugd_some h
  refine ug_copy kl_X1_34 al_11 al_6 g3 (Nat.le_of_ble_eq_true rfl) (Nat.le_of_ble_eq_true rfl) dX1_copyFrom_65 ?_
  refine ug_aload_n 1 dX1_copyFrom_68 rfl rfl ?_
  refine ug_getR kf_X1_31 gr_8_6 dX1_copyFrom_69 ?_
  refine ug_iconst dX1_copyFrom_72 un_iconst_0 ?_
  refine ug_aload_n 0 dX1_copyFrom_73 rfl rfl ?_
  refine ug_getR kf_X1_31 gr_3_6 dX1_copyFrom_74 ?_
  refine ug_iconst dX1_copyFrom_77 un_iconst_0 ?_
  refine ug_iconst dX1_copyFrom_78 un_iconst_5 ?_
  obtain ⟨g4, h⟩ := ugd_some h
  refine ug_copy kl_X1_34 al_12 al_7 g4 (Nat.le_of_ble_eq_true rfl) (Nat.le_of_ble_eq_true rfl) dX1_copyFrom_79 ?_
  obtain rfl := Option.some.inj h
  exact ug_vret dX1_copyFrom_82
theorem c_X1_copyFrom {l : Launch} {E : Ue} {mem : Um} {m1 : Um} {r : Unit} (h : f_X1_copyFrom  mem  = some (m1, r)) : ucr l E 2 0 0 yX1_copyFrom cX1_copyFrom 2 none [.ref (ue_d E 3), .ref (ue_d E 8)] mem none m1 := ucr_of rfl (Nat.le_of_ble_eq_true rfl) (t_X1_copyFrom  mem  _ h)
-- X2_takeDraft
def f_X2_takeDraft_b80 (k15 : Um → Int32 → Option (Um × Unit)) (mem : Um) (x1 : Int32) : Option (Um × Unit) :=
  k15 mem (x1 + 1)
set_option maxRecDepth 20000 in
theorem t_X2_takeDraft_b80 {l : Launch} {E : Ue} (k15 : Um → Int32 → Option (Um × Unit)) (hk15 : ∀ (mem : Um) (x1 : Int32) (z : Um × Unit), k15 mem x1 = some z → ug l E 2 0 0 cX2_takeDraft 2 RX2 none [] (uz_v z) 0 0 15 [(0, .ref (ue_d E 13)), (1, .int x1)] [] mem) (mem : Um) (x1 : Int32) (z : Um × Unit) (h : f_X2_takeDraft_b80 k15 mem x1 = some z) : ug l E 2 0 0 cX2_takeDraft 2 RX2 none [] (uz_v z) 0 0 80 [(0, .ref (ue_d E 13)), (1, .int x1)] [] mem := by
  rw [f_X2_takeDraft_b80] at h
  refine ug_iinc (v := (x1 + 1)) [(1, .int (x1 + 1)), (0, .ref (ue_d E 13))] 1 dX2_takeDraft_80 rfl rfl (Nat.le_of_ble_eq_true rfl) rfl ?_
  refine ug_goto 15 dX2_takeDraft_83 (by decide) ?_
  refine ug_sub [(0, .ref (ue_d E 13)), (1, .int (x1 + 1))] [1, 0] rfl ?_
  exact hk15 mem (x1 + 1) _ h
def f_X2_takeDraft_b15 : Nat → Um → Int32 → Option (Um × Unit)
  | 0, _, _ => none
  | n + 1, mem, x1 =>
    if (mem 13 1) ≤ x1 then (some (mem, ())) else (ugd (uin x1 150) (ugd (uin x1 150) (ugd (uin x1 150) (if ((um_w mem 14 x1.toNatClampNeg (mem 15 x1.toNatClampNeg)) 14 x1.toNatClampNeg) < 1000 then (f_X2_takeDraft_b80 (f_X2_takeDraft_b15  n) (um_w mem 14 x1.toNatClampNeg (mem 15 x1.toNatClampNeg)) x1) else (ugd (uin x1 150) (if 2000 ≤ ((um_w mem 14 x1.toNatClampNeg (mem 15 x1.toNatClampNeg)) 14 x1.toNatClampNeg) then (f_X2_takeDraft_b80 (f_X2_takeDraft_b15  n) (um_w mem 14 x1.toNatClampNeg (mem 15 x1.toNatClampNeg)) x1) else (ugd (uin x1 150) (f_X2_takeDraft_b80 (f_X2_takeDraft_b15  n) (um_w (um_w mem 14 x1.toNatClampNeg (mem 15 x1.toNatClampNeg)) 13 5 (((um_w mem 14 x1.toNatClampNeg (mem 15 x1.toNatClampNeg)) 13 5) ||| (1 <<< ((((um_w mem 14 x1.toNatClampNeg (mem 15 x1.toNatClampNeg)) 14 x1.toNatClampNeg) - 1000) &&& 31)))) x1))))))))
set_option maxRecDepth 20000 in
theorem t_X2_takeDraft_b15 {l : Launch} {E : Ue} : ∀ (n : Nat) (mem : Um) (x1 : Int32) (z : Um × Unit), f_X2_takeDraft_b15  n mem x1 = some z → ug l E 2 0 0 cX2_takeDraft 2 RX2 none [] (uz_v z) 0 0 15 [(0, .ref (ue_d E 13)), (1, .int x1)] [] mem := by
  intro n
  induction n with
  | zero =>
    intro mem x1 z h
    rw [f_X2_takeDraft_b15] at h
    cases h
  | succ n ih =>
    intro mem x1 z h
    rw [f_X2_takeDraft_b15] at h
    refine ug_iload_n 1 dX2_takeDraft_15 rfl rfl ?_
    refine ug_aload_n 0 dX2_takeDraft_16 rfl rfl ?_
    refine ug_getI kf_X2_15 gi_13_1 dX2_takeDraft_17 ?_
    refine ug_icmp_ge 86 dX2_takeDraft_20 (by decide) (fun q1 => ?_) (fun q1 => ?_)
    · rw [if_pos q1] at h
      obtain rfl := Option.some.inj h
      exact ug_vret dX2_takeDraft_86
    · rw [if_neg q1] at h
      refine ug_aload_n 0 dX2_takeDraft_23 rfl rfl ?_
      refine ug_getR kf_X2_9 gr_13_0 dX2_takeDraft_24 ?_
      refine ug_iload_n 1 dX2_takeDraft_27 rfl rfl ?_
      refine ug_aload_n 0 dX2_takeDraft_28 rfl rfl ?_
      refine ug_getR kf_X2_19 gr_13_2 dX2_takeDraft_29 ?_
      refine ug_iload_n 1 dX2_takeDraft_32 rfl rfl ?_
      obtain ⟨g2, h⟩ := ugd_some h
      refine ug_iald al_15 (uin_ok g2) dX2_takeDraft_33 ?_
      obtain ⟨g3, h⟩ := ugd_some h
      refine ug_iast al_14 (uin_ok g3) dX2_takeDraft_34 ?_
      refine ug_aload_n 0 dX2_takeDraft_35 rfl rfl ?_
      refine ug_getR kf_X2_9 gr_13_0 dX2_takeDraft_36 ?_
      refine ug_iload_n 1 dX2_takeDraft_39 rfl rfl ?_
      obtain ⟨g4, h⟩ := ugd_some h
      refine ug_iald al_14 (uin_ok g4) dX2_takeDraft_40 ?_
      refine ug_sipush dX2_takeDraft_41 un_sipush_1000 ?_
      refine ug_icmp_lt 80 dX2_takeDraft_44 (by decide) (fun q5 => ?_) (fun q5 => ?_)
      · rw [if_pos q5] at h
        exact t_X2_takeDraft_b80 (f_X2_takeDraft_b15  n) ih (um_w mem 14 x1.toNatClampNeg (mem 15 x1.toNatClampNeg)) x1 _ h
      · rw [if_neg q5] at h
        refine ug_aload_n 0 dX2_takeDraft_47 rfl rfl ?_
        refine ug_getR kf_X2_9 gr_13_0 dX2_takeDraft_48 ?_
        refine ug_iload_n 1 dX2_takeDraft_51 rfl rfl ?_
        obtain ⟨g6, h⟩ := ugd_some h
        refine ug_iald al_14 (uin_ok g6) dX2_takeDraft_52 ?_
        refine ug_sipush dX2_takeDraft_53 un_sipush_2000 ?_
        refine ug_icmp_ge 80 dX2_takeDraft_56 (by decide) (fun q7 => ?_) (fun q7 => ?_)
        · rw [if_pos q7] at h
          exact t_X2_takeDraft_b80 (f_X2_takeDraft_b15  n) ih (um_w mem 14 x1.toNatClampNeg (mem 15 x1.toNatClampNeg)) x1 _ h
        · rw [if_neg q7] at h
          refine ug_aload_n 0 dX2_takeDraft_59 rfl rfl ?_
          refine ug_dup dX2_takeDraft_60 rfl ?_
          refine ug_getI kf_X2_28 gi_13_5 dX2_takeDraft_61 ?_
          refine ug_iconst dX2_takeDraft_64 un_iconst_1 ?_
          refine ug_aload_n 0 dX2_takeDraft_65 rfl rfl ?_
          refine ug_getR kf_X2_9 gr_13_0 dX2_takeDraft_66 ?_
          refine ug_iload_n 1 dX2_takeDraft_69 rfl rfl ?_
          obtain ⟨g8, h⟩ := ugd_some h
          refine ug_iald al_14 (uin_ok g8) dX2_takeDraft_70 ?_
          refine ug_sipush dX2_takeDraft_71 un_sipush_1000 ?_
          refine ug_isub dX2_takeDraft_74 ?_
          refine ug_ishl dX2_takeDraft_75 ?_
          refine ug_ior dX2_takeDraft_76 ?_
          refine ug_putI kp_X2_28 gi_13_5 dX2_takeDraft_77 ?_
          exact t_X2_takeDraft_b80 (f_X2_takeDraft_b15  n) ih (um_w (um_w mem 14 x1.toNatClampNeg (mem 15 x1.toNatClampNeg)) 13 5 (((um_w mem 14 x1.toNatClampNeg (mem 15 x1.toNatClampNeg)) 13 5) ||| (1 <<< ((((um_w mem 14 x1.toNatClampNeg (mem 15 x1.toNatClampNeg)) 14 x1.toNatClampNeg) - 1000) &&& 31)))) x1 _ h
def f_X2_takeDraft (mem : Um) : Option (Um × Unit) :=
  f_X2_takeDraft_b15  UF (um_w (um_w mem 13 5 0) 13 1 ((um_w mem 13 5 0) 13 3)) 0
set_option maxRecDepth 20000 in
theorem t_X2_takeDraft {l : Launch} {E : Ue} (mem : Um) (z : Um × Unit) (h : f_X2_takeDraft  mem  = some z) : ug l E 2 0 0 cX2_takeDraft 2 RX2 none [] (uz_v z) 0 0 0 [(0, .ref (ue_d E 13))] [] mem := by
  rw [f_X2_takeDraft] at h
  refine ug_aload_n 0 dX2_takeDraft_0 rfl rfl ?_
  refine ug_iconst dX2_takeDraft_1 un_iconst_0 ?_
  refine ug_putI kp_X2_28 gi_13_5 dX2_takeDraft_2 ?_
  refine ug_aload_n 0 dX2_takeDraft_5 rfl rfl ?_
  refine ug_aload_n 0 dX2_takeDraft_6 rfl rfl ?_
  refine ug_getI kf_X2_22 gi_13_3 dX2_takeDraft_7 ?_
  refine ug_putI kp_X2_15 gi_13_1 dX2_takeDraft_10 ?_
  refine ug_iconst dX2_takeDraft_13 un_iconst_0 ?_
  refine ug_istore_n [(1, .int 0), (0, .ref (ue_d E 13))] dX2_takeDraft_14 rfl (Nat.le_of_ble_eq_true rfl) rfl ?_
  refine ug_sub [(0, .ref (ue_d E 13)), (1, .int 0)] [1, 0] rfl ?_
  exact t_X2_takeDraft_b15  UF (um_w (um_w mem 13 5 0) 13 1 ((um_w mem 13 5 0) 13 3)) 0 _ h
theorem c_X2_takeDraft {l : Launch} {E : Ue} {mem : Um} {m1 : Um} {r : Unit} (h : f_X2_takeDraft  mem  = some (m1, r)) : ucr l E 2 0 0 yX2_takeDraft cX2_takeDraft 2 none [.ref (ue_d E 13)] mem none m1 := ucr_of rfl (Nat.le_of_ble_eq_true rfl) (t_X2_takeDraft  mem  _ h)
-- X2_forget
def f_X2_forget (mem : Um) : Option (Um × Unit) :=
  ubi (f_X2_takeDraft (um_w (um_pl mem 15) 13 3 9)) (fun m1 r2 => some (m1, ()))
set_option maxRecDepth 20000 in
theorem t_X2_forget {l : Launch} {E : Ue} (mem : Um) (z : Um × Unit) (h : f_X2_forget  mem  = some z) : ug l E 3 0 0 cX2_forget 1 RX2 none [] (uz_v z) 0 0 0 [(0, .ref (ue_d E 13))] [] mem := by
  rw [f_X2_forget] at h
  refine ug_plain kh_X2_37 dX2_forget_0 ?_
  refine ug_iconst dX2_forget_3 un_iconst_0 ?_
  refine ug_aload_n 0 dX2_forget_4 rfl rfl ?_
  refine ug_getR kf_X2_19 gr_13_2 dX2_forget_5 ?_
  refine ug_iconst dX2_forget_8 un_iconst_0 ?_
  refine ug_plain kh_X2_37 dX2_forget_9 ?_
  refine ug_plen dX2_forget_12 ?_
  refine ug_copyP kl_X2_40 al_15 (Nat.le_of_ble_eq_true rfl) (Nat.le_of_ble_eq_true rfl) (Nat.le_of_ble_eq_true rfl) dX2_forget_13 ?_
  refine ug_aload_n 0 dX2_forget_16 rfl rfl ?_
  refine ug_plain kh_X2_37 dX2_forget_17 ?_
  refine ug_plen dX2_forget_20 ?_
  refine ug_putI kp_X2_22 gi_13_3 dX2_forget_21 ?_
  refine ug_aload_n 0 dX2_forget_24 rfl rfl ?_
  obtain ⟨m1, r2, h3, h⟩ := ubi_some h
  refine ug_callVv [] (c_X2_takeDraft  h3) kc_X2_46 ro_13 rfl (S := []) rfl (Nat.le_of_ble_eq_true rfl) (Nat.le_of_ble_eq_true rfl) (Nat.le_of_ble_eq_true rfl) dX2_forget_25 ?_
  obtain rfl := Option.some.inj h
  exact ug_vret dX2_forget_28
theorem c_X2_forget {l : Launch} {E : Ue} {mem : Um} {m1 : Um} {r : Unit} (h : f_X2_forget  mem  = some (m1, r)) : ucr l E 3 0 0 yX2_forget cX2_forget 1 none [.ref (ue_d E 13)] mem none m1 := ucr_of rfl (Nat.le_of_ble_eq_true rfl) (t_X2_forget  mem  _ h)
-- J7_fill_53178
def f_J7_fill_53178_b5 (a0 : Nat) (n0 : Nat) : Nat → Um → Int32 → Int32 → Int32 → Option (Um × Unit)
  | 0, _, _, _, _ => none
  | n + 1, mem, x1, x2, x3 =>
    if x3 ≤ x2 then (some (mem, ())) else (ugd (uin x2 n0) ((f_J7_fill_53178_b5 a0 n0 n) (um_w mem a0 x2.toNatClampNeg x1) x1 (x2 + 1) x3))
set_option maxRecDepth 20000 in
theorem t_J7_fill_53178_b5 {l : Launch} {E : Ue} {a0 : Nat} {n0 : Nat} (ha0 : ud_all[a0]? = some (.inr (0, n0))) : ∀ (n : Nat) (mem : Um) (x1 : Int32) (x2 : Int32) (x3 : Int32) (z : Um × Unit), f_J7_fill_53178_b5 a0 n0 n mem x1 x2 x3 = some z → ug l E 2 0 0 cJ7_fill_53178 4 RJ7 none [] (uz_v z) 0 0 5 [(0, .ref (ue_d E a0)), (1, .int x1), (2, .int x2), (3, .int x3)] [] mem := by
  intro n
  induction n with
  | zero =>
    intro mem x1 x2 x3 z h
    rw [f_J7_fill_53178_b5] at h
    cases h
  | succ n ih =>
    intro mem x1 x2 x3 z h
    rw [f_J7_fill_53178_b5] at h
    refine ug_iload_n 2 dJ7_fill_53178_5 rfl rfl ?_
    refine ug_iload_n 3 dJ7_fill_53178_6 rfl rfl ?_
    refine ug_icmp_ge 20 dJ7_fill_53178_7 (by decide) (fun q1 => ?_) (fun q1 => ?_)
    · rw [if_pos q1] at h
      obtain rfl := Option.some.inj h
      exact ug_vret dJ7_fill_53178_20
    · rw [if_neg q1] at h
      refine ug_aload_n 0 dJ7_fill_53178_10 rfl rfl ?_
      refine ug_iload_n 2 dJ7_fill_53178_11 rfl rfl ?_
      refine ug_iload_n 1 dJ7_fill_53178_12 rfl rfl ?_
      obtain ⟨g2, h⟩ := ugd_some h
      refine ug_iast ha0 (uin_ok g2) dJ7_fill_53178_13 ?_
      refine ug_iinc (v := (x2 + 1)) [(2, .int (x2 + 1)), (0, .ref (ue_d E a0)), (1, .int x1), (3, .int x3)] 2 dJ7_fill_53178_14 rfl rfl (Nat.le_of_ble_eq_true rfl) rfl ?_
      refine ug_goto 5 dJ7_fill_53178_17 (by decide) ?_
      refine ug_sub [(0, .ref (ue_d E a0)), (1, .int x1), (2, .int (x2 + 1)), (3, .int x3)] [1, 2, 0, 3] rfl ?_
      exact ih (um_w mem a0 x2.toNatClampNeg x1) x1 (x2 + 1) x3 _ h
def f_J7_fill_53178 (a0 : Nat) (n0 : Nat) (mem : Um) (x1 : Int32) : Option (Um × Unit) :=
  f_J7_fill_53178_b5 a0 n0 UF mem x1 0 (Int32.ofNat n0)
set_option maxRecDepth 20000 in
theorem t_J7_fill_53178 {l : Launch} {E : Ue} {a0 : Nat} {n0 : Nat} (ha0 : ud_all[a0]? = some (.inr (0, n0))) (mem : Um) (x1 : Int32) (z : Um × Unit) (h : f_J7_fill_53178 a0 n0 mem x1 = some z) : ug l E 2 0 0 cJ7_fill_53178 4 RJ7 none [] (uz_v z) 0 0 0 [(0, .ref (ue_d E a0)), (1, .int x1)] [] mem := by
  rw [f_J7_fill_53178] at h
  refine ug_iconst dJ7_fill_53178_0 un_iconst_0 ?_
  refine ug_istore_n [(2, .int 0), (0, .ref (ue_d E a0)), (1, .int x1)] dJ7_fill_53178_1 rfl (Nat.le_of_ble_eq_true rfl) rfl ?_
  refine ug_aload_n 1 dJ7_fill_53178_2 rfl rfl ?_
  refine ug_alenI (v := Int32.ofNat n0) ha0 rfl dJ7_fill_53178_3 ?_
  refine ug_istore_n [(3, .int (Int32.ofNat n0)), (2, .int 0), (0, .ref (ue_d E a0)), (1, .int x1)] dJ7_fill_53178_4 rfl (Nat.le_of_ble_eq_true rfl) rfl ?_
  refine ug_sub [(0, .ref (ue_d E a0)), (1, .int x1), (2, .int 0), (3, .int (Int32.ofNat n0))] [2, 3, 1, 0] rfl ?_
  exact t_J7_fill_53178_b5 ha0 UF mem x1 0 (Int32.ofNat n0) _ h
theorem c_J7_fill_53178 {l : Launch} {E : Ue} {a0 : Nat} {n0 : Nat} (ha0 : ud_all[a0]? = some (.inr (0, n0))) {mem : Um} {x1 : Int32} {m1 : Um} {r : Unit} (h : f_J7_fill_53178 a0 n0 mem x1 = some (m1, r)) : ucr l E 2 0 0 yJ7_fill_53178 cJ7_fill_53178 4 none [.ref (ue_d E a0), .int x1] mem none m1 := ucr_of rfl (Nat.le_of_ble_eq_true rfl) (t_J7_fill_53178 ha0 mem x1 _ h)
-- X0_forget
def f_X0_forget (mem : Um) : Option (Um × Unit) :=
  ubi (f_J7_fill_53178 19 8 mem (-1)) (fun m1 r2 => some ((um_w m1 18 1 0), ()))
set_option maxRecDepth 20000 in
theorem t_X0_forget {l : Launch} {E : Ue} (mem : Um) (z : Um × Unit) (h : f_X0_forget  mem  = some z) : ug l E 3 0 0 cX0_forget 1 RX0 none [] (uz_v z) 0 0 0 [(0, .ref (ue_d E 18))] [] mem := by
  rw [f_X0_forget] at h
  refine ug_aload_n 0 dX0_forget_0 rfl rfl ?_
  refine ug_getR kf_X0_9 gr_18_0 dX0_forget_1 ?_
  refine ug_iconst dX0_forget_4 un_iconst_m1 ?_
  obtain ⟨m1, r2, h3, h⟩ := ubi_some h
  refine ug_callSv [.ref (ue_d E 19), .int (-1)] (c_J7_fill_53178 al_19 h3) kc_X0_22 rfl (S := []) rfl (Nat.le_of_ble_eq_true rfl) (Nat.le_of_ble_eq_true rfl) (Nat.le_of_ble_eq_true rfl) dX0_forget_5 ?_
  refine ug_aload_n 0 dX0_forget_8 rfl rfl ?_
  refine ug_iconst dX0_forget_9 un_iconst_0 ?_
  refine ug_putI kp_X0_15 gi_18_1 dX0_forget_10 ?_
  obtain rfl := Option.some.inj h
  exact ug_vret dX0_forget_13
theorem c_X0_forget {l : Launch} {E : Ue} {mem : Um} {m1 : Um} {r : Unit} (h : f_X0_forget  mem  = some (m1, r)) : ucr l E 3 0 0 yX0_forget cX0_forget 1 none [.ref (ue_d E 18)] mem none m1 := ucr_of rfl (Nat.le_of_ble_eq_true rfl) (t_X0_forget  mem  _ h)
-- X4_open
def f_X4_open_b10 (o : Nat) : Nat → Um → Int32 → Option (Um × Unit)
  | 0, _, _ => none
  | n + 1, mem, x1 =>
    if (mem 3 1) ≤ x1 then (some (mem, ())) else (ugd (uin x1 5) (ugd (uin (3 + x1) 28) (ugd (uin x1 5) (ugd (uin (8 + x1) 28) ((f_X4_open_b10 o n) (um_w (um_w mem (o + 1) (3 + x1).toNatClampNeg (mem 6 x1.toNatClampNeg)) (o + 1) (8 + x1).toNatClampNeg ((um_w mem (o + 1) (3 + x1).toNatClampNeg (mem 6 x1.toNatClampNeg)) 7 x1.toNatClampNeg)) (x1 + 1))))))
set_option maxRecDepth 20000 in
theorem t_X4_open_b10 {l : Launch} {E : Ue} {o : Nat} (ho : o = 23 ∨ o = 25) : ∀ (n : Nat) (mem : Um) (x1 : Int32) (z : Um × Unit), f_X4_open_b10 o n mem x1 = some z → ug l E 3 0 0 cX4_open 2 RX4 none [] (uz_v z) 0 0 10 [(0, .ref (ue_d E o)), (1, .int x1)] [] mem := by
  intro n
  induction n with
  | zero =>
    intro mem x1 z h
    rw [f_X4_open_b10] at h
    cases h
  | succ n ih =>
    intro mem x1 z h
    rw [f_X4_open_b10] at h
    refine ug_iload_n 1 dX4_open_10 rfl rfl ?_
    refine ug_aload_n 0 dX4_open_11 rfl rfl ?_
    refine ug_getR kf_X4_15 (sk_r0 ho) dX4_open_12 ?_
    refine ug_getI kf_X4_29 gi_3_1 dX4_open_15 ?_
    refine ug_icmp_ge 62 dX4_open_18 (by decide) (fun q1 => ?_) (fun q1 => ?_)
    · rw [if_pos q1] at h
      obtain rfl := Option.some.inj h
      exact ug_vret dX4_open_62
    · rw [if_neg q1] at h
      refine ug_aload_n 0 dX4_open_21 rfl rfl ?_
      refine ug_getR kf_X4_11 (sk_r2 ho) dX4_open_22 ?_
      refine ug_iconst dX4_open_25 un_iconst_3 ?_
      refine ug_iload_n 1 dX4_open_26 rfl rfl ?_
      refine ug_iadd dX4_open_27 ?_
      refine ug_aload_n 0 dX4_open_28 rfl rfl ?_
      refine ug_getR kf_X4_15 (sk_r0 ho) dX4_open_29 ?_
      refine ug_getR kf_X4_35 gr_3_5 dX4_open_32 ?_
      refine ug_iload_n 1 dX4_open_35 rfl rfl ?_
      obtain ⟨g2, h⟩ := ugd_some h
      refine ug_iald al_6 (uin_ok g2) dX4_open_36 ?_
      obtain ⟨g3, h⟩ := ugd_some h
      refine ug_iast (sk_a ho) (uin_ok g3) dX4_open_37 ?_
      refine ug_aload_n 0 dX4_open_38 rfl rfl ?_
      refine ug_getR kf_X4_11 (sk_r2 ho) dX4_open_39 ?_
      refine ug_bipush dX4_open_42 un_bipush_8 ?_
      refine ug_iload_n 1 dX4_open_44 rfl rfl ?_
      refine ug_iadd dX4_open_45 ?_
      refine ug_aload_n 0 dX4_open_46 rfl rfl ?_
      refine ug_getR kf_X4_15 (sk_r0 ho) dX4_open_47 ?_
      refine ug_getR kf_X4_38 gr_3_6 dX4_open_50 ?_
      refine ug_iload_n 1 dX4_open_53 rfl rfl ?_
      obtain ⟨g4, h⟩ := ugd_some h
      refine ug_iald al_7 (uin_ok g4) dX4_open_54 ?_
      obtain ⟨g5, h⟩ := ugd_some h
      refine ug_iast (sk_a ho) (uin_ok g5) dX4_open_55 ?_
      refine ug_iinc (v := (x1 + 1)) [(1, .int (x1 + 1)), (0, .ref (ue_d E o))] 1 dX4_open_56 rfl rfl (Nat.le_of_ble_eq_true rfl) rfl ?_
      refine ug_goto 10 dX4_open_59 (by decide) ?_
      refine ug_sub [(0, .ref (ue_d E o)), (1, .int (x1 + 1))] [1, 0] rfl ?_
      exact ih (um_w (um_w mem (o + 1) (3 + x1).toNatClampNeg (mem 6 x1.toNatClampNeg)) (o + 1) (8 + x1).toNatClampNeg ((um_w mem (o + 1) (3 + x1).toNatClampNeg (mem 6 x1.toNatClampNeg)) 7 x1.toNatClampNeg)) (x1 + 1) _ h
def f_X4_open (o : Nat) (mem : Um) : Option (Um × Unit) :=
  ubi (f_J7_fill_53178 (o + 1) 28 mem 0) (fun m1 r2 => f_X4_open_b10 o UF m1 0)
set_option maxRecDepth 20000 in
theorem t_X4_open {l : Launch} {E : Ue} {o : Nat} (ho : o = 23 ∨ o = 25) (mem : Um) (z : Um × Unit) (h : f_X4_open o mem  = some z) : ug l E 3 0 0 cX4_open 2 RX4 none [] (uz_v z) 0 0 0 [(0, .ref (ue_d E o))] [] mem := by
  rw [f_X4_open] at h
  refine ug_aload_n 0 dX4_open_0 rfl rfl ?_
  refine ug_getR kf_X4_11 (sk_r2 ho) dX4_open_1 ?_
  refine ug_iconst dX4_open_4 un_iconst_0 ?_
  obtain ⟨m1, r2, h3, h⟩ := ubi_some h
  refine ug_callSv [.ref (ue_d E (o + 1)), .int 0] (c_J7_fill_53178 (sk_a ho) h3) kc_X4_23 rfl (S := []) rfl (Nat.le_of_ble_eq_true rfl) (Nat.le_of_ble_eq_true rfl) (Nat.le_of_ble_eq_true rfl) dX4_open_5 ?_
  refine ug_iconst dX4_open_8 un_iconst_0 ?_
  refine ug_istore_n [(1, .int 0), (0, .ref (ue_d E o))] dX4_open_9 rfl (Nat.le_of_ble_eq_true rfl) rfl ?_
  refine ug_sub [(0, .ref (ue_d E o)), (1, .int 0)] [1, 0] rfl ?_
  exact t_X4_open_b10 ho UF m1 0 _ h
theorem c_X4_open {l : Launch} {E : Ue} {o : Nat} (ho : o = 23 ∨ o = 25) {mem : Um} {m1 : Um} {r : Unit} (h : f_X4_open o mem  = some (m1, r)) : ucr l E 3 0 0 yX4_open cX4_open 2 none [.ref (ue_d E o)] mem none m1 := ucr_of rfl (Nat.le_of_ble_eq_true rfl) (t_X4_open ho mem  _ h)
-- X7_corner
def f_X7_corner (mem : Um) (x1 : Int32) : Option (Um × (Int32 ⊕ String)) :=
  ubx (f_X7_need mem x1 0 (mem 1 1)) (fun m1 r2 => ubi (f_X5_begin m1 x1) (fun m5 r6 => ubi (f_X1_read m5) (fun m8 r9 => if r9 = 0 then (ubi (f_X5_faultAnswer m8) (fun m24 r25 => some (m24, .inl r25))) else (ubi (f_X1_copyFrom m8) (fun m12 r13 => ubi (f_X2_forget m12) (fun m15 r16 => ubi (f_X0_forget m15) (fun m18 r19 => ubi (f_X4_open 23 m18) (fun m21 r22 => some ((um_w (um_w (um_w m21 27 1 0) 0 12 0) 0 13 0), .inl ((um_w (um_w (um_w m21 27 1 0) 0 12 0) 0 13 0) 3 1))))))))))
set_option maxRecDepth 20000 in
theorem t_X7_corner {l : Launch} {E : Ue} (mem : Um) (x1 : Int32) (z : Um × (Int32 ⊕ String)) (h : f_X7_corner  mem x1 = some z) : ug l E 9 (uzc z) (uzs z) cX7_corner 2 RX7 (some .int) [] (uzx_i z) 0 0 0 [(0, .ref (ue_d E 0)), (1, .int x1)] [] mem := by
  rw [f_X7_corner] at h
  refine ug_aload_n 0 dX7_corner_0 rfl rfl ?_
  refine ug_iload_n 1 dX7_corner_1 rfl rfl ?_
  refine ug_iconst dX7_corner_2 un_iconst_0 ?_
  refine ug_aload_n 0 dX7_corner_3 rfl rfl ?_
  refine ug_getR kf_X7_12 gr_0_0 dX7_corner_4 ?_
  refine ug_getI kf_X7_95 gi_1_1 dX7_corner_7 ?_
  rcases ubx_some h with ⟨m1, r2, h3, h⟩ | ⟨m1, X4, h3, rfl⟩
  · refine ug_callVv [.int x1, .int 0, .int (mem 1 1)] (c_X7_need_r  h3) kc_X7_102 ro_0 rfl (S := []) rfl (Nat.le_of_ble_eq_true rfl) (Nat.le_of_ble_eq_true rfl) (Nat.le_of_ble_eq_true rfl) dX7_corner_10 ?_
    refine ug_aload_n 0 dX7_corner_13 rfl rfl ?_
    refine ug_getR kf_X7_12 gr_0_0 dX7_corner_14 ?_
    refine ug_iload_n 1 dX7_corner_17 rfl rfl ?_
    obtain ⟨m5, r6, h7, h⟩ := ubi_some h
    refine ug_callVv [.int x1] (c_X5_begin  h7) kc_X7_106 ro_1 rfl (S := []) rfl (Nat.le_of_ble_eq_true rfl) (Nat.le_of_ble_eq_true rfl) (Nat.le_of_ble_eq_true rfl) dX7_corner_18 ?_
    refine ug_aload_n 0 dX7_corner_21 rfl rfl ?_
    refine ug_getR kf_X7_25 gr_0_2 dX7_corner_22 ?_
    refine ug_aload_n 0 dX7_corner_25 rfl rfl ?_
    refine ug_getR kf_X7_12 gr_0_0 dX7_corner_26 ?_
    obtain ⟨m8, r9, h10, h⟩ := ubi_some h
    refine ug_callVi [.ref (ue_d E 1)] (c_X1_read  h10) kc_X7_109 ro_8 rfl (S := []) rfl (Nat.le_of_ble_eq_true rfl) (Nat.le_of_ble_eq_true rfl) (Nat.le_of_ble_eq_true rfl) dX7_corner_29 ?_
    refine ug_if_ne 43 dX7_corner_32 (by decide) (fun q11 => ?_) (fun q11 => ?_)
    · rw [if_neg q11] at h
      refine ug_aload_n 0 dX7_corner_43 rfl rfl ?_
      refine ug_getR kf_X7_21 gr_0_1 dX7_corner_44 ?_
      refine ug_aload_n 0 dX7_corner_47 rfl rfl ?_
      refine ug_getR kf_X7_25 gr_0_2 dX7_corner_48 ?_
      obtain ⟨m12, r13, h14, h⟩ := ubi_some h
      refine ug_callVv [.ref (ue_d E 8)] (c_X1_copyFrom  h14) kc_X7_117 ro_3 rfl (S := []) rfl (Nat.le_of_ble_eq_true rfl) (Nat.le_of_ble_eq_true rfl) (Nat.le_of_ble_eq_true rfl) dX7_corner_51 ?_
      refine ug_aload_n 0 dX7_corner_54 rfl rfl ?_
      refine ug_getR kf_X7_31 gr_0_3 dX7_corner_55 ?_
      obtain ⟨m15, r16, h17, h⟩ := ubi_some h
      refine ug_callVv [] (c_X2_forget  h17) kc_X7_121 ro_13 rfl (S := []) rfl (Nat.le_of_ble_eq_true rfl) (Nat.le_of_ble_eq_true rfl) (Nat.le_of_ble_eq_true rfl) dX7_corner_58 ?_
      refine ug_aload_n 0 dX7_corner_61 rfl rfl ?_
      refine ug_getR kf_X7_38 gr_0_4 dX7_corner_62 ?_
      obtain ⟨m18, r19, h20, h⟩ := ubi_some h
      refine ug_callVv [] (c_X0_forget  h20) kc_X7_124 ro_18 rfl (S := []) rfl (Nat.le_of_ble_eq_true rfl) (Nat.le_of_ble_eq_true rfl) (Nat.le_of_ble_eq_true rfl) dX7_corner_65 ?_
      refine ug_aload_n 0 dX7_corner_68 rfl rfl ?_
      refine ug_getR kf_X7_54 gr_0_6 dX7_corner_69 ?_
      obtain ⟨m21, r22, h23, h⟩ := ubi_some h
      refine ug_callVv [] (c_X4_open (Or.inl rfl) h23) kc_X7_125 ro_23 rfl (S := []) rfl (Nat.le_of_ble_eq_true rfl) (Nat.le_of_ble_eq_true rfl) (Nat.le_of_ble_eq_true rfl) dX7_corner_72 ?_
      refine ug_aload_n 0 dX7_corner_75 rfl rfl ?_
      refine ug_getR kf_X7_64 gr_0_8 dX7_corner_76 ?_
      refine ug_iconst dX7_corner_79 un_iconst_0 ?_
      refine ug_putI kp_X7_128 gi_27_1 dX7_corner_80 ?_
      refine ug_aload_n 0 dX7_corner_83 rfl rfl ?_
      refine ug_iconst dX7_corner_84 un_iconst_0 ?_
      refine ug_putI kp_X7_79 gi_0_12 dX7_corner_85 ?_
      refine ug_aload_n 0 dX7_corner_88 rfl rfl ?_
      refine ug_iconst dX7_corner_89 un_iconst_0 ?_
      refine ug_putI kp_X7_83 gi_0_13 dX7_corner_90 ?_
      refine ug_aload_n 0 dX7_corner_93 rfl rfl ?_
      refine ug_getR kf_X7_21 gr_0_1 dX7_corner_94 ?_
      refine ug_getI kf_X7_131 gi_3_1 dX7_corner_97 ?_
      obtain rfl := Option.some.inj h
      exact ug_iret dX7_corner_100
    · rw [if_pos q11] at h
      refine ug_aload_n 0 dX7_corner_35 rfl rfl ?_
      refine ug_getR kf_X7_12 gr_0_0 dX7_corner_36 ?_
      obtain ⟨m24, r25, h26, h⟩ := ubi_some h
      refine ug_callVi [] (c_X5_faultAnswer  h26) kc_X7_113 ro_1 rfl (S := []) rfl (Nat.le_of_ble_eq_true rfl) (Nat.le_of_ble_eq_true rfl) (Nat.le_of_ble_eq_true rfl) dX7_corner_39 ?_
      obtain rfl := Option.some.inj h
      exact ug_iret dX7_corner_42
  · exact ug_callVx [.int x1, .int 0, .int (mem 1 1)] (c_X7_need_x  h3) kc_X7_102 ro_0 rfl (S := []) rfl (Nat.le_of_ble_eq_true rfl) (Nat.le_of_ble_eq_true rfl) (Nat.le_of_ble_eq_true rfl) ⟨Nat.le_refl 1, Nat.le_refl 6⟩ dX7_corner_10
theorem c_X7_corner_r {l : Launch} {E : Ue} {mem : Um} {x1 : Int32} {m1 : Um} {r : Int32} (h : f_X7_corner  mem x1 = some (m1, .inl r)) : ucr l E 9 0 0 yX7_corner cX7_corner 2 (some .int) [.ref (ue_d E 0), .int x1] mem (some (.int r)) m1 := ucr_of rfl (Nat.le_of_ble_eq_true rfl) (t_X7_corner  mem x1 _ h)
theorem c_X7_corner_x {l : Launch} {E : Ue} {mem : Um} {x1 : Int32} {m1 : Um} {X : String} (h : f_X7_corner  mem x1 = some (m1, .inr X)) : ucx l E 9 1 6 yX7_corner cX7_corner 2 (some .int) [.ref (ue_d E 0), .int x1] mem X m1 := ucx_of rfl (Nat.le_of_ble_eq_true rfl) (t_X7_corner  mem x1 _ h)
-- X5_atDigit
def f_X5_atDigit_b22 (mem : Um) (y0 : Int32) : Option (Um × Int32) :=
  ugd (ub01 y0) (some (mem, y0))
set_option maxRecDepth 20000 in
theorem t_X5_atDigit_b22 {l : Launch} {E : Ue} (mem : Um) (y0 : Int32) (z : Um × Int32) (h : f_X5_atDigit_b22  mem y0 = some z) : ug l E 3 0 0 cX5_atDigit 2 RX5 (some .boolean) [] (uz_i z) 0 0 22 [] [.int y0] mem := by
  rw [f_X5_atDigit_b22] at h
  obtain ⟨g1, h⟩ := ugd_some h
  obtain rfl := Option.some.inj h
  exact ug_zret (of_decide_eq_true g1) dX5_atDigit_22
def f_X5_atDigit_b21 (mem : Um) : Option (Um × Int32) :=
  f_X5_atDigit_b22 mem 0
set_option maxRecDepth 20000 in
theorem t_X5_atDigit_b21 {l : Launch} {E : Ue} (mem : Um) (z : Um × Int32) (h : f_X5_atDigit_b21  mem  = some z) : ug l E 3 0 0 cX5_atDigit 2 RX5 (some .boolean) [] (uz_i z) 0 0 21 [] [] mem := by
  rw [f_X5_atDigit_b21] at h
  refine ug_iconst dX5_atDigit_21 un_iconst_0 ?_
  exact t_X5_atDigit_b22 mem 0 _ h
def f_X5_atDigit (mem : Um) : Option (Um × Int32) :=
  ubi (f_X5_peek mem) (fun m1 r2 => if r2 < 48 then (f_X5_atDigit_b21 m1) else (if 57 < r2 then (f_X5_atDigit_b21 m1) else (f_X5_atDigit_b22 m1 1)))
set_option maxRecDepth 20000 in
theorem t_X5_atDigit {l : Launch} {E : Ue} (mem : Um) (z : Um × Int32) (h : f_X5_atDigit  mem  = some z) : ug l E 3 0 0 cX5_atDigit 2 RX5 (some .boolean) [] (uz_i z) 0 0 0 [(0, .ref (ue_d E 1))] [] mem := by
  rw [f_X5_atDigit] at h
  refine ug_aload_n 0 dX5_atDigit_0 rfl rfl ?_
  obtain ⟨m1, r2, h3, h⟩ := ubi_some h
  refine ug_callVi [] (c_X5_peek  h3) kc_X5_46 ro_1 rfl (S := []) rfl (Nat.le_of_ble_eq_true rfl) (Nat.le_of_ble_eq_true rfl) (Nat.le_of_ble_eq_true rfl) dX5_atDigit_1 ?_
  refine ug_istore_n [(1, .int r2), (0, .ref (ue_d E 1))] dX5_atDigit_4 rfl (Nat.le_of_ble_eq_true rfl) rfl ?_
  refine ug_iload_n 0 dX5_atDigit_5 rfl rfl ?_
  refine ug_bipush dX5_atDigit_6 un_bipush_48 ?_
  refine ug_icmp_lt 21 dX5_atDigit_8 (by decide) (fun q4 => ?_) (fun q4 => ?_)
  · rw [if_pos q4] at h
    refine ug_sub [] [] rfl ?_
    exact t_X5_atDigit_b21 m1  _ h
  · rw [if_neg q4] at h
    refine ug_iload_n 0 dX5_atDigit_11 rfl rfl ?_
    refine ug_bipush dX5_atDigit_12 un_bipush_57 ?_
    refine ug_icmp_gt 21 dX5_atDigit_14 (by decide) (fun q5 => ?_) (fun q5 => ?_)
    · rw [if_pos q5] at h
      refine ug_sub [] [] rfl ?_
      exact t_X5_atDigit_b21 m1  _ h
    · rw [if_neg q5] at h
      refine ug_iconst dX5_atDigit_17 un_iconst_1 ?_
      refine ug_goto 22 dX5_atDigit_18 (by decide) ?_
      refine ug_sub [] [] rfl ?_
      exact t_X5_atDigit_b22 m1 1 _ h
theorem c_X5_atDigit {l : Launch} {E : Ue} {mem : Um} {m1 : Um} {r : Int32} (h : f_X5_atDigit  mem  = some (m1, r)) : ucr l E 3 0 0 yX5_atDigit cX5_atDigit 2 (some .boolean) [.ref (ue_d E 1)] mem (some (.int r)) m1 := ucr_of rfl (Nat.le_of_ble_eq_true rfl) (t_X5_atDigit  mem  _ h)
-- X2_put
def f_X2_put_b30 (mem : Um) : Option (Um × Int32) :=
  some (mem, 1)
set_option maxRecDepth 20000 in
theorem t_X2_put_b30 {l : Launch} {E : Ue} (mem : Um) (z : Um × Int32) (h : f_X2_put_b30  mem  = some z) : ug l E 2 0 0 cX2_put 2 RX2 (some .boolean) [] (uz_i z) 0 0 30 [] [] mem := by
  rw [f_X2_put_b30] at h
  refine ug_iconst dX2_put_30 un_iconst_1 ?_
  obtain rfl := Option.some.inj h
  exact ug_zret (Or.inr rfl) dX2_put_31
def f_X2_put (mem : Um) (x1 : Int32) : Option (Um × Int32) :=
  if 150 ≤ (mem 13 3) then (f_X2_put_b30 mem) else (ugd (uin (mem 13 3) 150) (f_X2_put_b30 (um_w (um_w mem 15 (mem 13 3).toNatClampNeg x1) 13 3 (((um_w mem 15 (mem 13 3).toNatClampNeg x1) 13 3) + 1))))
set_option maxRecDepth 20000 in
theorem t_X2_put {l : Launch} {E : Ue} (mem : Um) (x1 : Int32) (z : Um × Int32) (h : f_X2_put  mem x1 = some z) : ug l E 2 0 0 cX2_put 2 RX2 (some .boolean) [] (uz_i z) 0 0 0 [(0, .ref (ue_d E 13)), (1, .int x1)] [] mem := by
  rw [f_X2_put] at h
  refine ug_aload_n 0 dX2_put_0 rfl rfl ?_
  refine ug_getI kf_X2_22 gi_13_3 dX2_put_1 ?_
  refine ug_sipush dX2_put_4 un_sipush_150 ?_
  refine ug_icmp_ge 30 dX2_put_7 (by decide) (fun q1 => ?_) (fun q1 => ?_)
  · rw [if_pos q1] at h
    refine ug_sub [] [] rfl ?_
    exact t_X2_put_b30 mem  _ h
  · rw [if_neg q1] at h
    refine ug_aload_n 0 dX2_put_10 rfl rfl ?_
    refine ug_getR kf_X2_19 gr_13_2 dX2_put_11 ?_
    refine ug_aload_n 0 dX2_put_14 rfl rfl ?_
    refine ug_getI kf_X2_22 gi_13_3 dX2_put_15 ?_
    refine ug_iload_n 1 dX2_put_18 rfl rfl ?_
    obtain ⟨g2, h⟩ := ugd_some h
    refine ug_iast al_15 (uin_ok g2) dX2_put_19 ?_
    refine ug_aload_n 0 dX2_put_20 rfl rfl ?_
    refine ug_dup dX2_put_21 rfl ?_
    refine ug_getI kf_X2_22 gi_13_3 dX2_put_22 ?_
    refine ug_iconst dX2_put_25 un_iconst_1 ?_
    refine ug_iadd dX2_put_26 ?_
    refine ug_putI kp_X2_22 gi_13_3 dX2_put_27 ?_
    refine ug_sub [] [] rfl ?_
    exact t_X2_put_b30 (um_w (um_w mem 15 (mem 13 3).toNatClampNeg x1) 13 3 (((um_w mem 15 (mem 13 3).toNatClampNeg x1) 13 3) + 1))  _ h
theorem c_X2_put {l : Launch} {E : Ue} {mem : Um} {x1 : Int32} {m1 : Um} {r : Int32} (h : f_X2_put  mem x1 = some (m1, r)) : ucr l E 2 0 0 yX2_put cX2_put 2 (some .boolean) [.ref (ue_d E 13), .int x1] mem (some (.int r)) m1 := ucr_of rfl (Nat.le_of_ble_eq_true rfl) (t_X2_put  mem x1 _ h)
-- X2_readBracket
def f_X2_readBracket_b32 (rec : Um → Int32 → Option (Um × Int32)) (mem : Um) (y0 : Int32) : Option (Um × Int32) :=
  ugd (ub01 y0) (some (mem, y0))
set_option maxRecDepth 20000 in
theorem t_X2_readBracket_b32 {l : Launch} {E : Ue} {rec : Um → Int32 → Option (Um × Int32)} (kr : Nat) (hrec : ∀ (mem : Um) (x2 : Int32) (m1 : Um) (r : Int32), rec mem x2 = some (m1, r) → ucr l E kr 0 0 yX2_readSum cX2_readSum 5 (some .boolean) [.ref (ue_d E 13), .ref (ue_d E 1), .int x2] mem (some (.int r)) m1) (mem : Um) (y0 : Int32) (z : Um × Int32) (h : f_X2_readBracket_b32 rec mem y0 = some z) : ug l E (kr + 4) 0 0 cX2_readBracket 3 RX2 (some .boolean) [] (uz_i z) 0 0 32 [] [.int y0] mem := by
  rw [f_X2_readBracket_b32] at h
  obtain ⟨g1, h⟩ := ugd_some h
  obtain rfl := Option.some.inj h
  exact ug_zret (of_decide_eq_true g1) dX2_readBracket_32
def f_X2_readBracket_b31 (rec : Um → Int32 → Option (Um × Int32)) (mem : Um) : Option (Um × Int32) :=
  f_X2_readBracket_b32 rec mem 0
set_option maxRecDepth 20000 in
theorem t_X2_readBracket_b31 {l : Launch} {E : Ue} {rec : Um → Int32 → Option (Um × Int32)} (kr : Nat) (hrec : ∀ (mem : Um) (x2 : Int32) (m1 : Um) (r : Int32), rec mem x2 = some (m1, r) → ucr l E kr 0 0 yX2_readSum cX2_readSum 5 (some .boolean) [.ref (ue_d E 13), .ref (ue_d E 1), .int x2] mem (some (.int r)) m1) (mem : Um) (z : Um × Int32) (h : f_X2_readBracket_b31 rec mem  = some z) : ug l E (kr + 4) 0 0 cX2_readBracket 3 RX2 (some .boolean) [] (uz_i z) 0 0 31 [] [] mem := by
  rw [f_X2_readBracket_b31] at h
  refine ug_iconst dX2_readBracket_31 un_iconst_0 ?_
  exact t_X2_readBracket_b32 kr hrec mem 0 _ h
def f_X2_readBracket (rec : Um → Int32 → Option (Um × Int32)) (mem : Um) (x2 : Int32) : Option (Um × Int32) :=
  ubi (f_X5_takeSign mem 40) (fun m1 r2 => if r2 = 0 then (f_X2_readBracket_b31 rec m1) else (ubi (rec m1 x2) (fun m5 r6 => if r6 = 0 then (f_X2_readBracket_b31 rec m5) else (ubi (f_X5_takeSign m5 41) (fun m9 r10 => if r10 = 0 then (f_X2_readBracket_b31 rec m9) else (f_X2_readBracket_b32 rec m9 1))))))
set_option maxRecDepth 20000 in
theorem t_X2_readBracket {l : Launch} {E : Ue} {rec : Um → Int32 → Option (Um × Int32)} (kr : Nat) (hrec : ∀ (mem : Um) (x2 : Int32) (m1 : Um) (r : Int32), rec mem x2 = some (m1, r) → ucr l E kr 0 0 yX2_readSum cX2_readSum 5 (some .boolean) [.ref (ue_d E 13), .ref (ue_d E 1), .int x2] mem (some (.int r)) m1) (mem : Um) (x2 : Int32) (z : Um × Int32) (h : f_X2_readBracket rec mem x2 = some z) : ug l E (kr + 4) 0 0 cX2_readBracket 3 RX2 (some .boolean) [] (uz_i z) 0 0 0 [(0, .ref (ue_d E 13)), (1, .ref (ue_d E 1)), (2, .int x2)] [] mem := by
  rw [f_X2_readBracket] at h
  refine ug_aload_n 1 dX2_readBracket_0 rfl rfl ?_
  refine ug_bipush dX2_readBracket_1 un_bipush_40 ?_
  obtain ⟨m1, r2, h3, h⟩ := ubi_some h
  refine ug_callVi [.int 40] (c_X5_takeSign  h3) kc_X2_121 ro_1 rfl (S := []) rfl (Nat.le_of_ble_eq_true rfl) (by omega) (Nat.le_of_ble_eq_true rfl) dX2_readBracket_3 ?_
  refine ug_if_eq 31 dX2_readBracket_6 (by decide) (fun q4 => ?_) (fun q4 => ?_)
  · rw [if_pos q4] at h
    refine ug_sub [] [] rfl ?_
    exact t_X2_readBracket_b31 kr hrec m1  _ h
  · rw [if_neg q4] at h
    refine ug_aload_n 0 dX2_readBracket_9 rfl rfl ?_
    refine ug_aload_n 1 dX2_readBracket_10 rfl rfl ?_
    refine ug_iload_n 2 dX2_readBracket_11 rfl rfl ?_
    obtain ⟨m5, r6, h7, h⟩ := ubi_some h
    refine ug_callVi [.ref (ue_d E 1), .int x2] (hrec m1 x2 _ _ h7) kc_X2_62 ro_13 rfl (S := []) rfl (Nat.le_of_ble_eq_true rfl) (by omega) (Nat.le_of_ble_eq_true rfl) dX2_readBracket_12 ?_
    refine ug_if_eq 31 dX2_readBracket_15 (by decide) (fun q8 => ?_) (fun q8 => ?_)
    · rw [if_pos q8] at h
      refine ug_sub [] [] rfl ?_
      exact t_X2_readBracket_b31 kr hrec m5  _ h
    · rw [if_neg q8] at h
      refine ug_aload_n 1 dX2_readBracket_18 rfl rfl ?_
      refine ug_bipush dX2_readBracket_19 un_bipush_41 ?_
      obtain ⟨m9, r10, h11, h⟩ := ubi_some h
      refine ug_callVi [.int 41] (c_X5_takeSign  h11) kc_X2_121 ro_1 rfl (S := []) rfl (Nat.le_of_ble_eq_true rfl) (by omega) (Nat.le_of_ble_eq_true rfl) dX2_readBracket_21 ?_
      refine ug_if_eq 31 dX2_readBracket_24 (by decide) (fun q12 => ?_) (fun q12 => ?_)
      · rw [if_pos q12] at h
        refine ug_sub [] [] rfl ?_
        exact t_X2_readBracket_b31 kr hrec m9  _ h
      · rw [if_neg q12] at h
        refine ug_iconst dX2_readBracket_27 un_iconst_1 ?_
        refine ug_goto 32 dX2_readBracket_28 (by decide) ?_
        refine ug_sub [] [] rfl ?_
        exact t_X2_readBracket_b32 kr hrec m9 1 _ h
theorem c_X2_readBracket {l : Launch} {E : Ue} {rec : Um → Int32 → Option (Um × Int32)} (kr : Nat) (hrec : ∀ (mem : Um) (x2 : Int32) (m1 : Um) (r : Int32), rec mem x2 = some (m1, r) → ucr l E kr 0 0 yX2_readSum cX2_readSum 5 (some .boolean) [.ref (ue_d E 13), .ref (ue_d E 1), .int x2] mem (some (.int r)) m1) {mem : Um} {x2 : Int32} {m1 : Um} {r : Int32} (h : f_X2_readBracket rec mem x2 = some (m1, r)) : ucr l E (kr + 4) 0 0 yX2_readBracket cX2_readBracket 3 (some .boolean) [.ref (ue_d E 13), .ref (ue_d E 1), .int x2] mem (some (.int r)) m1 := ucr_of rfl (Nat.le_of_ble_eq_true rfl) (t_X2_readBracket kr hrec mem x2 _ h)
-- X5_failHere
def f_X5_failHere (mem : Um) (x1 : Int32) : Option (Um × Int32) :=
  ubi (f_X5_peek mem) (fun m1 r2 => ubi (f_X5_fail m1 x1 (m1 1 3)) (fun m4 r5 => ugd (ub01 r5) (some (m4, r5))))
set_option maxRecDepth 20000 in
theorem t_X5_failHere {l : Launch} {E : Ue} (mem : Um) (x1 : Int32) (z : Um × Int32) (h : f_X5_failHere  mem x1 = some z) : ug l E 3 0 0 cX5_failHere 2 RX5 (some .boolean) [] (uz_i z) 0 0 0 [(0, .ref (ue_d E 1)), (1, .int x1)] [] mem := by
  rw [f_X5_failHere] at h
  refine ug_aload_n 0 dX5_failHere_0 rfl rfl ?_
  obtain ⟨m1, r2, h3, h⟩ := ubi_some h
  refine ug_callVi [] (c_X5_peek  h3) kc_X5_46 ro_1 rfl (S := []) rfl (Nat.le_of_ble_eq_true rfl) (Nat.le_of_ble_eq_true rfl) (Nat.le_of_ble_eq_true rfl) dX5_failHere_1 ?_
  refine ug_pop dX5_failHere_4 rfl ?_
  refine ug_aload_n 0 dX5_failHere_5 rfl rfl ?_
  refine ug_iload_n 1 dX5_failHere_6 rfl rfl ?_
  refine ug_aload_n 0 dX5_failHere_7 rfl rfl ?_
  refine ug_getI kf_X5_22 gi_1_3 dX5_failHere_8 ?_
  obtain ⟨m4, r5, h6, h⟩ := ubi_some h
  refine ug_callVi [.int x1, .int (m1 1 3)] (c_X5_fail  h6) kc_X5_50 ro_1 rfl (S := []) rfl (Nat.le_of_ble_eq_true rfl) (Nat.le_of_ble_eq_true rfl) (Nat.le_of_ble_eq_true rfl) dX5_failHere_11 ?_
  obtain ⟨g7, h⟩ := ugd_some h
  obtain rfl := Option.some.inj h
  exact ug_zret (of_decide_eq_true g7) dX5_failHere_14
theorem c_X5_failHere {l : Launch} {E : Ue} {mem : Um} {x1 : Int32} {m1 : Um} {r : Int32} (h : f_X5_failHere  mem x1 = some (m1, r)) : ucr l E 3 0 0 yX5_failHere cX5_failHere 2 (some .boolean) [.ref (ue_d E 1), .int x1] mem (some (.int r)) m1 := ucr_of rfl (Nat.le_of_ble_eq_true rfl) (t_X5_failHere  mem x1 _ h)
-- X2_operatorWord
def f_X2_operatorWord_b29 (mem : Um) (y0 : Int32) : Option (Um × Int32) :=
  some (mem, y0)
set_option maxRecDepth 20000 in
theorem t_X2_operatorWord_b29 {l : Launch} {E : Ue} (mem : Um) (y0 : Int32) (z : Um × Int32) (h : f_X2_operatorWord_b29  mem y0 = some z) : ug l E 7 0 0 cX2_operatorWord 1 RX2 (some .int) [] (uz_i z) 0 0 29 [] [.int y0] mem := by
  rw [f_X2_operatorWord_b29] at h
  obtain rfl := Option.some.inj h
  exact ug_iret dX2_operatorWord_29
def f_X2_operatorWord (mem : Um) : Option (Um × Int32) :=
  ubi (f_X5_wordIs 3 mem) (fun m1 r2 => if r2 = 0 then (ubi (f_X5_wordIs 4 m1) (fun m5 r6 => if r6 = 0 then (f_X2_operatorWord_b29 m5 (-1)) else (f_X2_operatorWord_b29 m5 2006))) else (some (m1, 2005)))
set_option maxRecDepth 20000 in
theorem t_X2_operatorWord {l : Launch} {E : Ue} (mem : Um) (z : Um × Int32) (h : f_X2_operatorWord  mem  = some z) : ug l E 7 0 0 cX2_operatorWord 1 RX2 (some .int) [] (uz_i z) 0 0 0 [(0, .ref (ue_d E 1))] [] mem := by
  rw [f_X2_operatorWord] at h
  refine ug_aload_n 0 dX2_operatorWord_0 rfl rfl ?_
  refine ug_ldcS 3 (tx := "least") (n := 3) rfl dX2_operatorWord_1 ?_
  obtain ⟨m1, r2, h3, h⟩ := ubi_some h
  refine ug_callVi [.ref (ue_aK E 3)] (c_X5_wordIs (by decide) h3) kc_X2_126 ro_1 rfl (S := []) rfl (Nat.le_of_ble_eq_true rfl) (Nat.le_of_ble_eq_true rfl) (Nat.le_of_ble_eq_true rfl) dX2_operatorWord_3 ?_
  refine ug_if_eq 13 dX2_operatorWord_6 (by decide) (fun q4 => ?_) (fun q4 => ?_)
  · rw [if_pos q4] at h
    refine ug_aload_n 0 dX2_operatorWord_13 rfl rfl ?_
    refine ug_ldcS 4 (tx := "most") (n := 4) rfl dX2_operatorWord_14 ?_
    obtain ⟨m5, r6, h7, h⟩ := ubi_some h
    refine ug_callVi [.ref (ue_aK E 4)] (c_X5_wordIs (by decide) h7) kc_X2_126 ro_1 rfl (S := []) rfl (Nat.le_of_ble_eq_true rfl) (Nat.le_of_ble_eq_true rfl) (Nat.le_of_ble_eq_true rfl) dX2_operatorWord_16 ?_
    refine ug_if_eq 28 dX2_operatorWord_19 (by decide) (fun q8 => ?_) (fun q8 => ?_)
    · rw [if_pos q8] at h
      refine ug_iconst dX2_operatorWord_28 un_iconst_m1 ?_
      refine ug_sub [] [] rfl ?_
      exact t_X2_operatorWord_b29 m5 (-1) _ h
    · rw [if_neg q8] at h
      refine ug_sipush dX2_operatorWord_22 un_sipush_2006 ?_
      refine ug_goto 29 dX2_operatorWord_25 (by decide) ?_
      refine ug_sub [] [] rfl ?_
      exact t_X2_operatorWord_b29 m5 2006 _ h
  · rw [if_neg q4] at h
    refine ug_sipush dX2_operatorWord_9 un_sipush_2005 ?_
    obtain rfl := Option.some.inj h
    exact ug_iret dX2_operatorWord_12
theorem c_X2_operatorWord {l : Launch} {E : Ue} {mem : Um} {m1 : Um} {r : Int32} (h : f_X2_operatorWord  mem  = some (m1, r)) : ucr l E 7 0 0 yX2_operatorWord cX2_operatorWord 1 (some .int) [.ref (ue_d E 1)] mem (some (.int r)) m1 := ucr_of rfl (Nat.le_of_ble_eq_true rfl) (t_X2_operatorWord  mem  _ h)
-- X2_readTwo
def f_X2_readTwo_b50 (rec : Um → Int32 → Option (Um × Int32)) (mem : Um) (y0 : Int32) : Option (Um × Int32) :=
  ugd (ub01 y0) (some (mem, y0))
set_option maxRecDepth 20000 in
theorem t_X2_readTwo_b50 {l : Launch} {E : Ue} {rec : Um → Int32 → Option (Um × Int32)} (kr : Nat) (hrec : ∀ (mem : Um) (x2 : Int32) (m1 : Um) (r : Int32), rec mem x2 = some (m1, r) → ucr l E kr 0 0 yX2_readSum cX2_readSum 5 (some .boolean) [.ref (ue_d E 13), .ref (ue_d E 1), .int x2] mem (some (.int r)) m1) (mem : Um) (y0 : Int32) (z : Um × Int32) (h : f_X2_readTwo_b50 rec mem y0 = some z) : ug l E (kr + 4) 0 0 cX2_readTwo 3 RX2 (some .boolean) [] (uz_i z) 0 0 50 [] [.int y0] mem := by
  rw [f_X2_readTwo_b50] at h
  obtain ⟨g1, h⟩ := ugd_some h
  obtain rfl := Option.some.inj h
  exact ug_zret (of_decide_eq_true g1) dX2_readTwo_50
def f_X2_readTwo_b49 (rec : Um → Int32 → Option (Um × Int32)) (mem : Um) : Option (Um × Int32) :=
  f_X2_readTwo_b50 rec mem 0
set_option maxRecDepth 20000 in
theorem t_X2_readTwo_b49 {l : Launch} {E : Ue} {rec : Um → Int32 → Option (Um × Int32)} (kr : Nat) (hrec : ∀ (mem : Um) (x2 : Int32) (m1 : Um) (r : Int32), rec mem x2 = some (m1, r) → ucr l E kr 0 0 yX2_readSum cX2_readSum 5 (some .boolean) [.ref (ue_d E 13), .ref (ue_d E 1), .int x2] mem (some (.int r)) m1) (mem : Um) (z : Um × Int32) (h : f_X2_readTwo_b49 rec mem  = some z) : ug l E (kr + 4) 0 0 cX2_readTwo 3 RX2 (some .boolean) [] (uz_i z) 0 0 49 [] [] mem := by
  rw [f_X2_readTwo_b49] at h
  refine ug_iconst dX2_readTwo_49 un_iconst_0 ?_
  exact t_X2_readTwo_b50 kr hrec mem 0 _ h
def f_X2_readTwo (rec : Um → Int32 → Option (Um × Int32)) (mem : Um) (x2 : Int32) : Option (Um × Int32) :=
  ubi (f_X5_takeSign mem 91) (fun m1 r2 => if r2 = 0 then (f_X2_readTwo_b49 rec m1) else (ubi (rec m1 x2) (fun m5 r6 => if r6 = 0 then (f_X2_readTwo_b49 rec m5) else (ubi (f_X5_takeSign m5 44) (fun m9 r10 => if r10 = 0 then (f_X2_readTwo_b49 rec m9) else (ubi (rec m9 x2) (fun m13 r14 => if r14 = 0 then (f_X2_readTwo_b49 rec m13) else (ubi (f_X5_takeSign m13 93) (fun m17 r18 => if r18 = 0 then (f_X2_readTwo_b49 rec m17) else (f_X2_readTwo_b50 rec m17 1))))))))))
set_option maxRecDepth 20000 in
theorem t_X2_readTwo {l : Launch} {E : Ue} {rec : Um → Int32 → Option (Um × Int32)} (kr : Nat) (hrec : ∀ (mem : Um) (x2 : Int32) (m1 : Um) (r : Int32), rec mem x2 = some (m1, r) → ucr l E kr 0 0 yX2_readSum cX2_readSum 5 (some .boolean) [.ref (ue_d E 13), .ref (ue_d E 1), .int x2] mem (some (.int r)) m1) (mem : Um) (x2 : Int32) (z : Um × Int32) (h : f_X2_readTwo rec mem x2 = some z) : ug l E (kr + 4) 0 0 cX2_readTwo 3 RX2 (some .boolean) [] (uz_i z) 0 0 0 [(0, .ref (ue_d E 13)), (1, .ref (ue_d E 1)), (2, .int x2)] [] mem := by
  rw [f_X2_readTwo] at h
  refine ug_aload_n 1 dX2_readTwo_0 rfl rfl ?_
  refine ug_bipush dX2_readTwo_1 un_bipush_91 ?_
  obtain ⟨m1, r2, h3, h⟩ := ubi_some h
  refine ug_callVi [.int 91] (c_X5_takeSign  h3) kc_X2_121 ro_1 rfl (S := []) rfl (Nat.le_of_ble_eq_true rfl) (by omega) (Nat.le_of_ble_eq_true rfl) dX2_readTwo_3 ?_
  refine ug_if_eq 49 dX2_readTwo_6 (by decide) (fun q4 => ?_) (fun q4 => ?_)
  · rw [if_pos q4] at h
    refine ug_sub [] [] rfl ?_
    exact t_X2_readTwo_b49 kr hrec m1  _ h
  · rw [if_neg q4] at h
    refine ug_aload_n 0 dX2_readTwo_9 rfl rfl ?_
    refine ug_aload_n 1 dX2_readTwo_10 rfl rfl ?_
    refine ug_iload_n 2 dX2_readTwo_11 rfl rfl ?_
    obtain ⟨m5, r6, h7, h⟩ := ubi_some h
    refine ug_callVi [.ref (ue_d E 1), .int x2] (hrec m1 x2 _ _ h7) kc_X2_62 ro_13 rfl (S := []) rfl (Nat.le_of_ble_eq_true rfl) (by omega) (Nat.le_of_ble_eq_true rfl) dX2_readTwo_12 ?_
    refine ug_if_eq 49 dX2_readTwo_15 (by decide) (fun q8 => ?_) (fun q8 => ?_)
    · rw [if_pos q8] at h
      refine ug_sub [] [] rfl ?_
      exact t_X2_readTwo_b49 kr hrec m5  _ h
    · rw [if_neg q8] at h
      refine ug_aload_n 1 dX2_readTwo_18 rfl rfl ?_
      refine ug_bipush dX2_readTwo_19 un_bipush_44 ?_
      obtain ⟨m9, r10, h11, h⟩ := ubi_some h
      refine ug_callVi [.int 44] (c_X5_takeSign  h11) kc_X2_121 ro_1 rfl (S := []) rfl (Nat.le_of_ble_eq_true rfl) (by omega) (Nat.le_of_ble_eq_true rfl) dX2_readTwo_21 ?_
      refine ug_if_eq 49 dX2_readTwo_24 (by decide) (fun q12 => ?_) (fun q12 => ?_)
      · rw [if_pos q12] at h
        refine ug_sub [] [] rfl ?_
        exact t_X2_readTwo_b49 kr hrec m9  _ h
      · rw [if_neg q12] at h
        refine ug_aload_n 0 dX2_readTwo_27 rfl rfl ?_
        refine ug_aload_n 1 dX2_readTwo_28 rfl rfl ?_
        refine ug_iload_n 2 dX2_readTwo_29 rfl rfl ?_
        obtain ⟨m13, r14, h15, h⟩ := ubi_some h
        refine ug_callVi [.ref (ue_d E 1), .int x2] (hrec m9 x2 _ _ h15) kc_X2_62 ro_13 rfl (S := []) rfl (Nat.le_of_ble_eq_true rfl) (by omega) (Nat.le_of_ble_eq_true rfl) dX2_readTwo_30 ?_
        refine ug_if_eq 49 dX2_readTwo_33 (by decide) (fun q16 => ?_) (fun q16 => ?_)
        · rw [if_pos q16] at h
          refine ug_sub [] [] rfl ?_
          exact t_X2_readTwo_b49 kr hrec m13  _ h
        · rw [if_neg q16] at h
          refine ug_aload_n 1 dX2_readTwo_36 rfl rfl ?_
          refine ug_bipush dX2_readTwo_37 un_bipush_93 ?_
          obtain ⟨m17, r18, h19, h⟩ := ubi_some h
          refine ug_callVi [.int 93] (c_X5_takeSign  h19) kc_X2_121 ro_1 rfl (S := []) rfl (Nat.le_of_ble_eq_true rfl) (by omega) (Nat.le_of_ble_eq_true rfl) dX2_readTwo_39 ?_
          refine ug_if_eq 49 dX2_readTwo_42 (by decide) (fun q20 => ?_) (fun q20 => ?_)
          · rw [if_pos q20] at h
            refine ug_sub [] [] rfl ?_
            exact t_X2_readTwo_b49 kr hrec m17  _ h
          · rw [if_neg q20] at h
            refine ug_iconst dX2_readTwo_45 un_iconst_1 ?_
            refine ug_goto 50 dX2_readTwo_46 (by decide) ?_
            refine ug_sub [] [] rfl ?_
            exact t_X2_readTwo_b50 kr hrec m17 1 _ h
theorem c_X2_readTwo {l : Launch} {E : Ue} {rec : Um → Int32 → Option (Um × Int32)} (kr : Nat) (hrec : ∀ (mem : Um) (x2 : Int32) (m1 : Um) (r : Int32), rec mem x2 = some (m1, r) → ucr l E kr 0 0 yX2_readSum cX2_readSum 5 (some .boolean) [.ref (ue_d E 13), .ref (ue_d E 1), .int x2] mem (some (.int r)) m1) {mem : Um} {x2 : Int32} {m1 : Um} {r : Int32} (h : f_X2_readTwo rec mem x2 = some (m1, r)) : ucr l E (kr + 4) 0 0 yX2_readTwo cX2_readTwo 3 (some .boolean) [.ref (ue_d E 13), .ref (ue_d E 1), .int x2] mem (some (.int r)) m1 := ucr_of rfl (Nat.le_of_ble_eq_true rfl) (t_X2_readTwo kr hrec mem x2 _ h)
-- X2_nameWord
def f_X2_nameWord_b93 (mem : Um) (y0 : Int32) : Option (Um × Int32) :=
  some (mem, y0)
set_option maxRecDepth 20000 in
theorem t_X2_nameWord_b93 {l : Launch} {E : Ue} (mem : Um) (y0 : Int32) (z : Um × Int32) (h : f_X2_nameWord_b93  mem y0 = some z) : ug l E 7 0 0 cX2_nameWord 1 RX2 (some .int) [] (uz_i z) 0 0 93 [] [.int y0] mem := by
  rw [f_X2_nameWord_b93] at h
  obtain rfl := Option.some.inj h
  exact ug_iret dX2_nameWord_93
def f_X2_nameWord (mem : Um) : Option (Um × Int32) :=
  ubi (f_X5_wordIs 5 mem) (fun m1 r2 => if r2 = 0 then (ubi (f_X5_wordIs 2 m1) (fun m5 r6 => if r6 = 0 then (ubi (f_X5_wordIs 6 m5) (fun m9 r10 => if r10 = 0 then (ubi (f_X5_wordIs 7 m9) (fun m13 r14 => if r14 = 0 then (ubi (f_X5_wordIs 8 m13) (fun m17 r18 => if r18 = 0 then (ubi (f_X5_wordIs 9 m17) (fun m21 r22 => if r22 = 0 then (ubi (f_X5_wordIs 10 m21) (fun m25 r26 => if r26 = 0 then (ubi (f_X5_wordIs 1 m25) (fun m29 r30 => if r30 = 0 then (f_X2_nameWord_b93 m29 (-1)) else (f_X2_nameWord_b93 m29 7))) else (some (m25, 6)))) else (some (m21, 5)))) else (some (m17, 4)))) else (some (m13, 3)))) else (some (m9, 2)))) else (some (m5, 1)))) else (some (m1, 0)))
set_option maxRecDepth 20000 in
theorem t_X2_nameWord {l : Launch} {E : Ue} (mem : Um) (z : Um × Int32) (h : f_X2_nameWord  mem  = some z) : ug l E 7 0 0 cX2_nameWord 1 RX2 (some .int) [] (uz_i z) 0 0 0 [(0, .ref (ue_d E 1))] [] mem := by
  rw [f_X2_nameWord] at h
  refine ug_aload_n 0 dX2_nameWord_0 rfl rfl ?_
  refine ug_ldcS 5 (tx := "size") (n := 5) rfl dX2_nameWord_1 ?_
  obtain ⟨m1, r2, h3, h⟩ := ubi_some h
  refine ug_callVi [.ref (ue_aK E 5)] (c_X5_wordIs (by decide) h3) kc_X2_126 ro_1 rfl (S := []) rfl (Nat.le_of_ble_eq_true rfl) (Nat.le_of_ble_eq_true rfl) (Nat.le_of_ble_eq_true rfl) dX2_nameWord_3 ?_
  refine ug_if_eq 11 dX2_nameWord_6 (by decide) (fun q4 => ?_) (fun q4 => ?_)
  · rw [if_pos q4] at h
    refine ug_aload_n 0 dX2_nameWord_11 rfl rfl ?_
    refine ug_ldcS 6 (tx := "soap") (n := 2) rfl dX2_nameWord_12 ?_
    obtain ⟨m5, r6, h7, h⟩ := ubi_some h
    refine ug_callVi [.ref (ue_aK E 2)] (c_X5_wordIs (by decide) h7) kc_X2_126 ro_1 rfl (S := []) rfl (Nat.le_of_ble_eq_true rfl) (Nat.le_of_ble_eq_true rfl) (Nat.le_of_ble_eq_true rfl) dX2_nameWord_14 ?_
    refine ug_if_eq 22 dX2_nameWord_17 (by decide) (fun q8 => ?_) (fun q8 => ?_)
    · rw [if_pos q8] at h
      refine ug_aload_n 0 dX2_nameWord_22 rfl rfl ?_
      refine ug_ldcS 7 (tx := "walls") (n := 6) rfl dX2_nameWord_23 ?_
      obtain ⟨m9, r10, h11, h⟩ := ubi_some h
      refine ug_callVi [.ref (ue_aK E 6)] (c_X5_wordIs (by decide) h11) kc_X2_126 ro_1 rfl (S := []) rfl (Nat.le_of_ble_eq_true rfl) (Nat.le_of_ble_eq_true rfl) (Nat.le_of_ble_eq_true rfl) dX2_nameWord_25 ?_
      refine ug_if_eq 33 dX2_nameWord_28 (by decide) (fun q12 => ?_) (fun q12 => ?_)
      · rw [if_pos q12] at h
        refine ug_aload_n 0 dX2_nameWord_33 rfl rfl ?_
        refine ug_ldcS 8 (tx := "place") (n := 7) rfl dX2_nameWord_34 ?_
        obtain ⟨m13, r14, h15, h⟩ := ubi_some h
        refine ug_callVi [.ref (ue_aK E 7)] (c_X5_wordIs (by decide) h15) kc_X2_126 ro_1 rfl (S := []) rfl (Nat.le_of_ble_eq_true rfl) (Nat.le_of_ble_eq_true rfl) (Nat.le_of_ble_eq_true rfl) dX2_nameWord_36 ?_
        refine ug_if_eq 44 dX2_nameWord_39 (by decide) (fun q16 => ?_) (fun q16 => ?_)
        · rw [if_pos q16] at h
          refine ug_aload_n 0 dX2_nameWord_44 rfl rfl ?_
          refine ug_ldcS 9 (tx := "worth") (n := 8) rfl dX2_nameWord_45 ?_
          obtain ⟨m17, r18, h19, h⟩ := ubi_some h
          refine ug_callVi [.ref (ue_aK E 8)] (c_X5_wordIs (by decide) h19) kc_X2_126 ro_1 rfl (S := []) rfl (Nat.le_of_ble_eq_true rfl) (Nat.le_of_ble_eq_true rfl) (Nat.le_of_ble_eq_true rfl) dX2_nameWord_47 ?_
          refine ug_if_eq 55 dX2_nameWord_50 (by decide) (fun q20 => ?_) (fun q20 => ?_)
          · rw [if_pos q20] at h
            refine ug_aload_n 0 dX2_nameWord_55 rfl rfl ?_
            refine ug_ldcS 10 (tx := "breath") (n := 9) rfl dX2_nameWord_56 ?_
            obtain ⟨m21, r22, h23, h⟩ := ubi_some h
            refine ug_callVi [.ref (ue_aK E 9)] (c_X5_wordIs (by decide) h23) kc_X2_126 ro_1 rfl (S := []) rfl (Nat.le_of_ble_eq_true rfl) (Nat.le_of_ble_eq_true rfl) (Nat.le_of_ble_eq_true rfl) dX2_nameWord_58 ?_
            refine ug_if_eq 66 dX2_nameWord_61 (by decide) (fun q24 => ?_) (fun q24 => ?_)
            · rw [if_pos q24] at h
              refine ug_aload_n 0 dX2_nameWord_66 rfl rfl ?_
              refine ug_ldcS 11 (tx := "blown") (n := 10) rfl dX2_nameWord_67 ?_
              obtain ⟨m25, r26, h27, h⟩ := ubi_some h
              refine ug_callVi [.ref (ue_aK E 10)] (c_X5_wordIs (by decide) h27) kc_X2_126 ro_1 rfl (S := []) rfl (Nat.le_of_ble_eq_true rfl) (Nat.le_of_ble_eq_true rfl) (Nat.le_of_ble_eq_true rfl) dX2_nameWord_69 ?_
              refine ug_if_eq 78 dX2_nameWord_72 (by decide) (fun q28 => ?_) (fun q28 => ?_)
              · rw [if_pos q28] at h
                refine ug_aload_n 0 dX2_nameWord_78 rfl rfl ?_
                refine ug_ldcS 12 (tx := "tenant") (n := 1) rfl dX2_nameWord_79 ?_
                obtain ⟨m29, r30, h31, h⟩ := ubi_some h
                refine ug_callVi [.ref (ue_aK E 1)] (c_X5_wordIs (by decide) h31) kc_X2_126 ro_1 rfl (S := []) rfl (Nat.le_of_ble_eq_true rfl) (Nat.le_of_ble_eq_true rfl) (Nat.le_of_ble_eq_true rfl) dX2_nameWord_81 ?_
                refine ug_if_eq 92 dX2_nameWord_84 (by decide) (fun q32 => ?_) (fun q32 => ?_)
                · rw [if_pos q32] at h
                  refine ug_iconst dX2_nameWord_92 un_iconst_m1 ?_
                  refine ug_sub [] [] rfl ?_
                  exact t_X2_nameWord_b93 m29 (-1) _ h
                · rw [if_neg q32] at h
                  refine ug_bipush dX2_nameWord_87 un_bipush_7 ?_
                  refine ug_goto 93 dX2_nameWord_89 (by decide) ?_
                  refine ug_sub [] [] rfl ?_
                  exact t_X2_nameWord_b93 m29 7 _ h
              · rw [if_neg q28] at h
                refine ug_bipush dX2_nameWord_75 un_bipush_6 ?_
                obtain rfl := Option.some.inj h
                exact ug_iret dX2_nameWord_77
            · rw [if_neg q24] at h
              refine ug_iconst dX2_nameWord_64 un_iconst_5 ?_
              obtain rfl := Option.some.inj h
              exact ug_iret dX2_nameWord_65
          · rw [if_neg q20] at h
            refine ug_iconst dX2_nameWord_53 un_iconst_4 ?_
            obtain rfl := Option.some.inj h
            exact ug_iret dX2_nameWord_54
        · rw [if_neg q16] at h
          refine ug_iconst dX2_nameWord_42 un_iconst_3 ?_
          obtain rfl := Option.some.inj h
          exact ug_iret dX2_nameWord_43
      · rw [if_neg q12] at h
        refine ug_iconst dX2_nameWord_31 un_iconst_2 ?_
        obtain rfl := Option.some.inj h
        exact ug_iret dX2_nameWord_32
    · rw [if_neg q8] at h
      refine ug_iconst dX2_nameWord_20 un_iconst_1 ?_
      obtain rfl := Option.some.inj h
      exact ug_iret dX2_nameWord_21
  · rw [if_neg q4] at h
    refine ug_iconst dX2_nameWord_9 un_iconst_0 ?_
    obtain rfl := Option.some.inj h
    exact ug_iret dX2_nameWord_10
theorem c_X2_nameWord {l : Launch} {E : Ue} {mem : Um} {m1 : Um} {r : Int32} (h : f_X2_nameWord  mem  = some (m1, r)) : ucr l E 7 0 0 yX2_nameWord cX2_nameWord 1 (some .int) [.ref (ue_d E 1)] mem (some (.int r)) m1 := ucr_of rfl (Nat.le_of_ble_eq_true rfl) (t_X2_nameWord  mem  _ h)
-- X2_readUnit
def f_X2_readUnit_b150 (rec : Um → Int32 → Option (Um × Int32)) (mem : Um) (y0 : Int32) : Option (Um × Int32) :=
  ugd (ub01 y0) (some (mem, y0))
set_option maxRecDepth 20000 in
theorem t_X2_readUnit_b150 {l : Launch} {E : Ue} {rec : Um → Int32 → Option (Um × Int32)} (kr : Nat) (hrec : ∀ (mem : Um) (x2 : Int32) (m1 : Um) (r : Int32), rec mem x2 = some (m1, r) → ucr l E kr 0 0 yX2_readSum cX2_readSum 5 (some .boolean) [.ref (ue_d E 13), .ref (ue_d E 1), .int x2] mem (some (.int r)) m1) (mem : Um) (y0 : Int32) (z : Um × Int32) (h : f_X2_readUnit_b150 rec mem y0 = some z) : ug l E (kr + 8) 0 0 cX2_readUnit 5 RX2 (some .boolean) [] (uz_i z) 0 0 150 [] [.int y0] mem := by
  rw [f_X2_readUnit_b150] at h
  obtain ⟨g1, h⟩ := ugd_some h
  obtain rfl := Option.some.inj h
  exact ug_zret (of_decide_eq_true g1) dX2_readUnit_150
def f_X2_readUnit_b119 (rec : Um → Int32 → Option (Um × Int32)) (mem : Um) (y0 : Int32) : Option (Um × Int32) :=
  ugd (ub01 y0) (some (mem, y0))
set_option maxRecDepth 20000 in
theorem t_X2_readUnit_b119 {l : Launch} {E : Ue} {rec : Um → Int32 → Option (Um × Int32)} (kr : Nat) (hrec : ∀ (mem : Um) (x2 : Int32) (m1 : Um) (r : Int32), rec mem x2 = some (m1, r) → ucr l E kr 0 0 yX2_readSum cX2_readSum 5 (some .boolean) [.ref (ue_d E 13), .ref (ue_d E 1), .int x2] mem (some (.int r)) m1) (mem : Um) (y0 : Int32) (z : Um × Int32) (h : f_X2_readUnit_b119 rec mem y0 = some z) : ug l E (kr + 8) 0 0 cX2_readUnit 5 RX2 (some .boolean) [] (uz_i z) 0 0 119 [] [.int y0] mem := by
  rw [f_X2_readUnit_b119] at h
  obtain ⟨g1, h⟩ := ugd_some h
  obtain rfl := Option.some.inj h
  exact ug_zret (of_decide_eq_true g1) dX2_readUnit_119
def f_X2_readUnit_b110 (rec : Um → Int32 → Option (Um × Int32)) (mem : Um) : Option (Um × Int32) :=
  f_X2_readUnit_b119 rec mem 0
set_option maxRecDepth 20000 in
theorem t_X2_readUnit_b110 {l : Launch} {E : Ue} {rec : Um → Int32 → Option (Um × Int32)} (kr : Nat) (hrec : ∀ (mem : Um) (x2 : Int32) (m1 : Um) (r : Int32), rec mem x2 = some (m1, r) → ucr l E kr 0 0 yX2_readSum cX2_readSum 5 (some .boolean) [.ref (ue_d E 13), .ref (ue_d E 1), .int x2] mem (some (.int r)) m1) (mem : Um) (z : Um × Int32) (h : f_X2_readUnit_b110 rec mem  = some z) : ug l E (kr + 8) 0 0 cX2_readUnit 5 RX2 (some .boolean) [] (uz_i z) 0 0 110 [] [] mem := by
  rw [f_X2_readUnit_b110] at h
  refine ug_iconst dX2_readUnit_110 un_iconst_0 ?_
  refine ug_goto 119 dX2_readUnit_111 (by decide) ?_
  exact t_X2_readUnit_b119 kr hrec mem 0 _ h
def f_X2_readUnit_b66 (rec : Um → Int32 → Option (Um × Int32)) (mem : Um) (y0 : Int32) : Option (Um × Int32) :=
  ugd (ub01 y0) (some (mem, y0))
set_option maxRecDepth 20000 in
theorem t_X2_readUnit_b66 {l : Launch} {E : Ue} {rec : Um → Int32 → Option (Um × Int32)} (kr : Nat) (hrec : ∀ (mem : Um) (x2 : Int32) (m1 : Um) (r : Int32), rec mem x2 = some (m1, r) → ucr l E kr 0 0 yX2_readSum cX2_readSum 5 (some .boolean) [.ref (ue_d E 13), .ref (ue_d E 1), .int x2] mem (some (.int r)) m1) (mem : Um) (y0 : Int32) (z : Um × Int32) (h : f_X2_readUnit_b66 rec mem y0 = some z) : ug l E (kr + 8) 0 0 cX2_readUnit 5 RX2 (some .boolean) [] (uz_i z) 0 0 66 [] [.int y0] mem := by
  rw [f_X2_readUnit_b66] at h
  obtain ⟨g1, h⟩ := ugd_some h
  obtain rfl := Option.some.inj h
  exact ug_zret (of_decide_eq_true g1) dX2_readUnit_66
def f_X2_readUnit_b34 (rec : Um → Int32 → Option (Um × Int32)) (mem : Um) (y0 : Int32) : Option (Um × Int32) :=
  ugd (ub01 y0) (some (mem, y0))
set_option maxRecDepth 20000 in
theorem t_X2_readUnit_b34 {l : Launch} {E : Ue} {rec : Um → Int32 → Option (Um × Int32)} (kr : Nat) (hrec : ∀ (mem : Um) (x2 : Int32) (m1 : Um) (r : Int32), rec mem x2 = some (m1, r) → ucr l E kr 0 0 yX2_readSum cX2_readSum 5 (some .boolean) [.ref (ue_d E 13), .ref (ue_d E 1), .int x2] mem (some (.int r)) m1) (mem : Um) (y0 : Int32) (z : Um × Int32) (h : f_X2_readUnit_b34 rec mem y0 = some z) : ug l E (kr + 8) 0 0 cX2_readUnit 5 RX2 (some .boolean) [] (uz_i z) 0 0 34 [] [.int y0] mem := by
  rw [f_X2_readUnit_b34] at h
  obtain ⟨g1, h⟩ := ugd_some h
  obtain rfl := Option.some.inj h
  exact ug_zret (of_decide_eq_true g1) dX2_readUnit_34
def f_X2_readUnit_b33 (rec : Um → Int32 → Option (Um × Int32)) (mem : Um) : Option (Um × Int32) :=
  f_X2_readUnit_b34 rec mem 0
set_option maxRecDepth 20000 in
theorem t_X2_readUnit_b33 {l : Launch} {E : Ue} {rec : Um → Int32 → Option (Um × Int32)} (kr : Nat) (hrec : ∀ (mem : Um) (x2 : Int32) (m1 : Um) (r : Int32), rec mem x2 = some (m1, r) → ucr l E kr 0 0 yX2_readSum cX2_readSum 5 (some .boolean) [.ref (ue_d E 13), .ref (ue_d E 1), .int x2] mem (some (.int r)) m1) (mem : Um) (z : Um × Int32) (h : f_X2_readUnit_b33 rec mem  = some z) : ug l E (kr + 8) 0 0 cX2_readUnit 5 RX2 (some .boolean) [] (uz_i z) 0 0 33 [] [] mem := by
  rw [f_X2_readUnit_b33] at h
  refine ug_iconst dX2_readUnit_33 un_iconst_0 ?_
  exact t_X2_readUnit_b34 kr hrec mem 0 _ h
def f_X2_readUnit (rec : Um → Int32 → Option (Um × Int32)) (mem : Um) (x2 : Int32) : Option (Um × Int32) :=
  ubi (f_X5_atDigit mem) (fun m1 r2 => if r2 = 0 then (ubi (f_X5_peek m1) (fun m5 r6 => if r6 = 40 then (if 6 ≤ x2 then (ubi (f_X5_failHere m5 3) (fun m39 r40 => f_X2_readUnit_b66 rec m39 r40)) else (ubi (f_X2_readBracket rec m5 (x2 + 1)) (fun m42 r43 => f_X2_readUnit_b66 rec m42 r43))) else (ubi (f_X5_takeWord m5) (fun m9 r10 => ubi (f_X2_operatorWord m9) (fun m12 r13 => if r13 = (-1) then (ubi (f_X2_nameWord m12) (fun m16 r17 => if r17 = (-1) then (ubi (f_X5_failAtWord m16 1) (fun m20 r21 => f_X2_readUnit_b150 rec m20 r21)) else (ubi (f_X2_put m16 (1000 + r17)) (fun m23 r24 => f_X2_readUnit_b150 rec m23 r24)))) else (if 6 ≤ x2 then (ubi (f_X5_failAtWord m12 3) (fun m27 r28 => f_X2_readUnit_b119 rec m27 r28)) else (ubi (f_X2_readTwo rec m12 (x2 + 1)) (fun m30 r31 => if r31 = 0 then (f_X2_readUnit_b110 rec m30) else (ubi (f_X2_put m30 r13) (fun m34 r35 => if r35 = 0 then (f_X2_readUnit_b110 rec m34) else (f_X2_readUnit_b119 rec m34 1))))))))))) else (ubi (f_X5_takeNumber m1 0 999) (fun m45 r46 => if r46 = 0 then (f_X2_readUnit_b33 rec m45) else (ubi (f_X2_put m45 (m45 1 6)) (fun m49 r50 => if r50 = 0 then (f_X2_readUnit_b33 rec m49) else (f_X2_readUnit_b34 rec m49 1))))))
set_option maxRecDepth 20000 in
theorem t_X2_readUnit {l : Launch} {E : Ue} {rec : Um → Int32 → Option (Um × Int32)} (kr : Nat) (hrec : ∀ (mem : Um) (x2 : Int32) (m1 : Um) (r : Int32), rec mem x2 = some (m1, r) → ucr l E kr 0 0 yX2_readSum cX2_readSum 5 (some .boolean) [.ref (ue_d E 13), .ref (ue_d E 1), .int x2] mem (some (.int r)) m1) (mem : Um) (x2 : Int32) (z : Um × Int32) (h : f_X2_readUnit rec mem x2 = some z) : ug l E (kr + 8) 0 0 cX2_readUnit 5 RX2 (some .boolean) [] (uz_i z) 0 0 0 [(0, .ref (ue_d E 13)), (1, .ref (ue_d E 1)), (2, .int x2)] [] mem := by
  rw [f_X2_readUnit] at h
  refine ug_aload_n 1 dX2_readUnit_0 rfl rfl ?_
  obtain ⟨m1, r2, h3, h⟩ := ubi_some h
  refine ug_callVi [] (c_X5_atDigit  h3) kc_X2_88 ro_1 rfl (S := []) rfl (Nat.le_of_ble_eq_true rfl) (by omega) (Nat.le_of_ble_eq_true rfl) dX2_readUnit_1 ?_
  refine ug_if_eq 35 dX2_readUnit_4 (by decide) (fun q4 => ?_) (fun q4 => ?_)
  · rw [if_pos q4] at h
    refine ug_aload_n 1 dX2_readUnit_35 rfl rfl ?_
    obtain ⟨m5, r6, h7, h⟩ := ubi_some h
    refine ug_callVi [] (c_X5_peek  h7) kc_X2_98 ro_1 rfl (S := []) rfl (Nat.le_of_ble_eq_true rfl) (by omega) (Nat.le_of_ble_eq_true rfl) dX2_readUnit_36 ?_
    refine ug_bipush dX2_readUnit_39 un_bipush_40 ?_
    refine ug_icmp_ne 67 dX2_readUnit_41 (by decide) (fun q8 => ?_) (fun q8 => ?_)
    · rw [if_neg q8] at h
      refine ug_aload_n 1 dX2_readUnit_67 rfl rfl ?_
      obtain ⟨m9, r10, h11, h⟩ := ubi_some h
      refine ug_callVv [] (c_X5_takeWord  h11) kc_X2_105 ro_1 rfl (S := []) rfl (Nat.le_of_ble_eq_true rfl) (by omega) (Nat.le_of_ble_eq_true rfl) dX2_readUnit_68 ?_
      refine ug_aload_n 1 dX2_readUnit_71 rfl rfl ?_
      obtain ⟨m12, r13, h14, h⟩ := ubi_some h
      refine ug_callSi [.ref (ue_d E 1)] (c_X2_operatorWord  h14) kc_X2_108 rfl (S := []) rfl (Nat.le_of_ble_eq_true rfl) (by omega) (Nat.le_of_ble_eq_true rfl) dX2_readUnit_72 ?_
      refine ug_istore_n [(3, .int r13), (0, .ref (ue_d E 13)), (1, .ref (ue_d E 1)), (2, .int x2)] dX2_readUnit_75 rfl (Nat.le_of_ble_eq_true rfl) rfl ?_
      refine ug_iload_n 0 dX2_readUnit_76 rfl rfl ?_
      refine ug_iconst dX2_readUnit_77 un_iconst_m1 ?_
      refine ug_icmp_eq 120 dX2_readUnit_78 (by decide) (fun q15 => ?_) (fun q15 => ?_)
      · rw [if_pos q15] at h
        refine ug_aload_n 2 dX2_readUnit_120 rfl rfl ?_
        obtain ⟨m16, r17, h18, h⟩ := ubi_some h
        refine ug_callSi [.ref (ue_d E 1)] (c_X2_nameWord  h18) kc_X2_118 rfl (S := []) rfl (Nat.le_of_ble_eq_true rfl) (by omega) (Nat.le_of_ble_eq_true rfl) dX2_readUnit_121 ?_
        refine ug_istore [(4, .int r17), (3, .int r13), (0, .ref (ue_d E 13)), (1, .ref (ue_d E 1)), (2, .int x2)] dX2_readUnit_124 (Nat.le_of_ble_eq_true rfl) rfl ?_
        refine ug_iload 0 dX2_readUnit_126 rfl ?_
        refine ug_iconst dX2_readUnit_128 un_iconst_m1 ?_
        refine ug_icmp_eq 145 dX2_readUnit_129 (by decide) (fun q19 => ?_) (fun q19 => ?_)
        · rw [if_pos q19] at h
          refine ug_aload_n 3 dX2_readUnit_145 rfl rfl ?_
          refine ug_iconst dX2_readUnit_146 un_iconst_1 ?_
          obtain ⟨m20, r21, h22, h⟩ := ubi_some h
          refine ug_callVi [.int 1] (c_X5_failAtWord  h22) kc_X2_115 ro_1 rfl (S := []) rfl (Nat.le_of_ble_eq_true rfl) (by omega) (Nat.le_of_ble_eq_true rfl) dX2_readUnit_147 ?_
          refine ug_sub [] [] rfl ?_
          exact t_X2_readUnit_b150 kr hrec m20 r21 _ h
        · rw [if_neg q19] at h
          refine ug_aload_n 2 dX2_readUnit_132 rfl rfl ?_
          refine ug_sipush dX2_readUnit_133 un_sipush_1000 ?_
          refine ug_iload 0 dX2_readUnit_136 rfl ?_
          refine ug_iadd dX2_readUnit_138 ?_
          obtain ⟨m23, r24, h25, h⟩ := ubi_some h
          refine ug_callVi [.int (1000 + r17)] (c_X2_put  h25) kc_X2_82 ro_13 rfl (S := []) rfl (Nat.le_of_ble_eq_true rfl) (by omega) (Nat.le_of_ble_eq_true rfl) dX2_readUnit_139 ?_
          refine ug_goto 150 dX2_readUnit_142 (by decide) ?_
          refine ug_sub [] [] rfl ?_
          exact t_X2_readUnit_b150 kr hrec m23 r24 _ h
      · rw [if_neg q15] at h
        refine ug_iload_n 3 dX2_readUnit_81 rfl rfl ?_
        refine ug_bipush dX2_readUnit_82 un_bipush_6 ?_
        refine ug_icmp_ge 114 dX2_readUnit_84 (by decide) (fun q26 => ?_) (fun q26 => ?_)
        · rw [if_pos q26] at h
          refine ug_aload_n 2 dX2_readUnit_114 rfl rfl ?_
          refine ug_iconst dX2_readUnit_115 un_iconst_3 ?_
          obtain ⟨m27, r28, h29, h⟩ := ubi_some h
          refine ug_callVi [.int 3] (c_X5_failAtWord  h29) kc_X2_115 ro_1 rfl (S := []) rfl (Nat.le_of_ble_eq_true rfl) (by omega) (Nat.le_of_ble_eq_true rfl) dX2_readUnit_116 ?_
          refine ug_sub [] [] rfl ?_
          exact t_X2_readUnit_b119 kr hrec m27 r28 _ h
        · rw [if_neg q26] at h
          refine ug_aload_n 1 dX2_readUnit_87 rfl rfl ?_
          refine ug_aload_n 2 dX2_readUnit_88 rfl rfl ?_
          refine ug_iload_n 3 dX2_readUnit_89 rfl rfl ?_
          refine ug_iconst dX2_readUnit_90 un_iconst_1 ?_
          refine ug_iadd dX2_readUnit_91 ?_
          obtain ⟨m30, r31, h32, h⟩ := ubi_some h
          refine ug_callVi [.ref (ue_d E 1), .int (x2 + 1)] (c_X2_readTwo kr hrec h32) kc_X2_112 ro_13 rfl (S := []) rfl (Nat.le_of_ble_eq_true rfl) (by omega) (Nat.le_of_ble_eq_true rfl) dX2_readUnit_92 ?_
          refine ug_if_eq 110 dX2_readUnit_95 (by decide) (fun q33 => ?_) (fun q33 => ?_)
          · rw [if_pos q33] at h
            refine ug_sub [] [] rfl ?_
            exact t_X2_readUnit_b110 kr hrec m30  _ h
          · rw [if_neg q33] at h
            refine ug_aload_n 1 dX2_readUnit_98 rfl rfl ?_
            refine ug_iload_n 0 dX2_readUnit_99 rfl rfl ?_
            obtain ⟨m34, r35, h36, h⟩ := ubi_some h
            refine ug_callVi [.int r13] (c_X2_put  h36) kc_X2_82 ro_13 rfl (S := []) rfl (Nat.le_of_ble_eq_true rfl) (by omega) (Nat.le_of_ble_eq_true rfl) dX2_readUnit_100 ?_
            refine ug_if_eq 110 dX2_readUnit_103 (by decide) (fun q37 => ?_) (fun q37 => ?_)
            · rw [if_pos q37] at h
              refine ug_sub [] [] rfl ?_
              exact t_X2_readUnit_b110 kr hrec m34  _ h
            · rw [if_neg q37] at h
              refine ug_iconst dX2_readUnit_106 un_iconst_1 ?_
              refine ug_goto 119 dX2_readUnit_107 (by decide) ?_
              refine ug_sub [] [] rfl ?_
              exact t_X2_readUnit_b119 kr hrec m34 1 _ h
    · rw [if_pos q8] at h
      refine ug_iload_n 2 dX2_readUnit_44 rfl rfl ?_
      refine ug_bipush dX2_readUnit_45 un_bipush_6 ?_
      refine ug_icmp_ge 61 dX2_readUnit_47 (by decide) (fun q38 => ?_) (fun q38 => ?_)
      · rw [if_pos q38] at h
        refine ug_aload_n 1 dX2_readUnit_61 rfl rfl ?_
        refine ug_iconst dX2_readUnit_62 un_iconst_3 ?_
        obtain ⟨m39, r40, h41, h⟩ := ubi_some h
        refine ug_callVi [.int 3] (c_X5_failHere  h41) kc_X2_72 ro_1 rfl (S := []) rfl (Nat.le_of_ble_eq_true rfl) (by omega) (Nat.le_of_ble_eq_true rfl) dX2_readUnit_63 ?_
        refine ug_sub [] [] rfl ?_
        exact t_X2_readUnit_b66 kr hrec m39 r40 _ h
      · rw [if_neg q38] at h
        refine ug_aload_n 0 dX2_readUnit_50 rfl rfl ?_
        refine ug_aload_n 1 dX2_readUnit_51 rfl rfl ?_
        refine ug_iload_n 2 dX2_readUnit_52 rfl rfl ?_
        refine ug_iconst dX2_readUnit_53 un_iconst_1 ?_
        refine ug_iadd dX2_readUnit_54 ?_
        obtain ⟨m42, r43, h44, h⟩ := ubi_some h
        refine ug_callVi [.ref (ue_d E 1), .int (x2 + 1)] (c_X2_readBracket kr hrec h44) kc_X2_102 ro_13 rfl (S := []) rfl (Nat.le_of_ble_eq_true rfl) (by omega) (Nat.le_of_ble_eq_true rfl) dX2_readUnit_55 ?_
        refine ug_goto 66 dX2_readUnit_58 (by decide) ?_
        refine ug_sub [] [] rfl ?_
        exact t_X2_readUnit_b66 kr hrec m42 r43 _ h
  · rw [if_neg q4] at h
    refine ug_aload_n 1 dX2_readUnit_7 rfl rfl ?_
    refine ug_iconst dX2_readUnit_8 un_iconst_0 ?_
    refine ug_sipush dX2_readUnit_9 un_sipush_999 ?_
    obtain ⟨m45, r46, h47, h⟩ := ubi_some h
    refine ug_callVi [.int 0, .int 999] (c_X5_takeNumber  h47) kc_X2_91 ro_1 rfl (S := []) rfl (Nat.le_of_ble_eq_true rfl) (by omega) (Nat.le_of_ble_eq_true rfl) dX2_readUnit_12 ?_
    refine ug_if_eq 33 dX2_readUnit_15 (by decide) (fun q48 => ?_) (fun q48 => ?_)
    · rw [if_pos q48] at h
      refine ug_sub [] [] rfl ?_
      exact t_X2_readUnit_b33 kr hrec m45  _ h
    · rw [if_neg q48] at h
      refine ug_aload_n 0 dX2_readUnit_18 rfl rfl ?_
      refine ug_aload_n 1 dX2_readUnit_19 rfl rfl ?_
      refine ug_getI kf_X2_95 gi_1_6 dX2_readUnit_20 ?_
      obtain ⟨m49, r50, h51, h⟩ := ubi_some h
      refine ug_callVi [.int (m45 1 6)] (c_X2_put  h51) kc_X2_82 ro_13 rfl (S := []) rfl (Nat.le_of_ble_eq_true rfl) (by omega) (Nat.le_of_ble_eq_true rfl) dX2_readUnit_23 ?_
      refine ug_if_eq 33 dX2_readUnit_26 (by decide) (fun q52 => ?_) (fun q52 => ?_)
      · rw [if_pos q52] at h
        refine ug_sub [] [] rfl ?_
        exact t_X2_readUnit_b33 kr hrec m49  _ h
      · rw [if_neg q52] at h
        refine ug_iconst dX2_readUnit_29 un_iconst_1 ?_
        refine ug_goto 34 dX2_readUnit_30 (by decide) ?_
        refine ug_sub [] [] rfl ?_
        exact t_X2_readUnit_b34 kr hrec m49 1 _ h
theorem c_X2_readUnit {l : Launch} {E : Ue} {rec : Um → Int32 → Option (Um × Int32)} (kr : Nat) (hrec : ∀ (mem : Um) (x2 : Int32) (m1 : Um) (r : Int32), rec mem x2 = some (m1, r) → ucr l E kr 0 0 yX2_readSum cX2_readSum 5 (some .boolean) [.ref (ue_d E 13), .ref (ue_d E 1), .int x2] mem (some (.int r)) m1) {mem : Um} {x2 : Int32} {m1 : Um} {r : Int32} (h : f_X2_readUnit rec mem x2 = some (m1, r)) : ucr l E (kr + 8) 0 0 yX2_readUnit cX2_readUnit 5 (some .boolean) [.ref (ue_d E 13), .ref (ue_d E 1), .int x2] mem (some (.int r)) m1 := ucr_of rfl (Nat.le_of_ble_eq_true rfl) (t_X2_readUnit kr hrec mem x2 _ h)
