-- X7_corner
def f_X7_corner (mem : Um) (x1 : Int32) : Option (Um × (Int32 ⊕ String)) :=
  ubx (f_X7_need mem x1 0 (mem 1 1)) (fun m1 r2 => ubi (f_X5_begin m1 x1) (fun m5 r6 => ubi (f_X1_read m5) (fun m8 r9 => if r9 = 0 then (ubi (f_X5_faultAnswer m8) (fun m24 r25 => some (m24, .inl r25))) else (ubi (f_X1_copyFrom m8) (fun m12 r13 => ubi (f_X2_forget m12) (fun m15 r16 => ubi (f_X0_forget m15) (fun m18 r19 => ubi (f_X4_open 23 m18) (fun m21 r22 => some ((um_w (um_w (um_w m21 27 1 0) 0 12 0) 0 13 0), .inl ((um_w (um_w (um_w m21 27 1 0) 0 12 0) 0 13 0) 3 1))))))))))
set_option maxRecDepth 20000 in
theorem t_X7_corner {l : Launch} {E : Ue} (mem : Um) (x1 : Int32) (z : Um × (Int32 ⊕ String)) (h : f_X7_corner  mem x1 = some z) : ug l E 9 (uzc z) (uzs z) cX7_corner 2 RX7 (some .int) [] (uzx_i z) 0 0 0 [(0, .ref (ue_b E + 0)), (1, .int x1)] [] mem := by
  rw [f_X7_corner] at h
  refine ug_aload_n 0 dX7_corner_0 rfl rfl ?_
  refine ug_iload_n 1 dX7_corner_1 rfl rfl ?_
  refine ug_iconst dX7_corner_2 un_iconst_0 ?_
  refine ug_aload_n 0 dX7_corner_3 rfl rfl ?_
  refine ug_getR kf_X7_10 gr_0_0 dX7_corner_4 ?_
  refine ug_getI kf_X7_93 gi_1_1 dX7_corner_7 ?_
  rcases ubx_some h with ⟨m1, r2, h3, h⟩ | ⟨m1, X4, h3, rfl⟩
  · refine ug_callVv [.int x1, .int 0, .int (mem 1 1)] (c_X7_need_r  h3) kc_X7_100 ro_0 rfl (S := []) rfl (Nat.le_of_ble_eq_true rfl) (Nat.le_of_ble_eq_true rfl) (Nat.le_of_ble_eq_true rfl) dX7_corner_10 ?_
    refine ug_aload_n 0 dX7_corner_13 rfl rfl ?_
    refine ug_getR kf_X7_10 gr_0_0 dX7_corner_14 ?_
    refine ug_iload_n 1 dX7_corner_17 rfl rfl ?_
    obtain ⟨m5, r6, h7, h⟩ := ubi_some h
    refine ug_callVv [.int x1] (c_X5_begin  h7) kc_X7_104 ro_1 rfl (S := []) rfl (Nat.le_of_ble_eq_true rfl) (Nat.le_of_ble_eq_true rfl) (Nat.le_of_ble_eq_true rfl) dX7_corner_18 ?_
    refine ug_aload_n 0 dX7_corner_21 rfl rfl ?_
    refine ug_getR kf_X7_23 gr_0_2 dX7_corner_22 ?_
    refine ug_aload_n 0 dX7_corner_25 rfl rfl ?_
    refine ug_getR kf_X7_10 gr_0_0 dX7_corner_26 ?_
    obtain ⟨m8, r9, h10, h⟩ := ubi_some h
    refine ug_callVi [.ref (ue_b E + 1)] (c_X1_read  h10) kc_X7_107 ro_8 rfl (S := []) rfl (Nat.le_of_ble_eq_true rfl) (Nat.le_of_ble_eq_true rfl) (Nat.le_of_ble_eq_true rfl) dX7_corner_29 ?_
    refine ug_if_ne 43 dX7_corner_32 (by decide) (fun q11 => ?_) (fun q11 => ?_)
    · rw [if_neg q11] at h
      refine ug_aload_n 0 dX7_corner_43 rfl rfl ?_
      refine ug_getR kf_X7_19 gr_0_1 dX7_corner_44 ?_
      refine ug_aload_n 0 dX7_corner_47 rfl rfl ?_
      refine ug_getR kf_X7_23 gr_0_2 dX7_corner_48 ?_
      obtain ⟨m12, r13, h14, h⟩ := ubi_some h
      refine ug_callVv [.ref (ue_b E + 8)] (c_X1_copyFrom  h14) kc_X7_115 ro_3 rfl (S := []) rfl (Nat.le_of_ble_eq_true rfl) (Nat.le_of_ble_eq_true rfl) (Nat.le_of_ble_eq_true rfl) dX7_corner_51 ?_
      refine ug_aload_n 0 dX7_corner_54 rfl rfl ?_
      refine ug_getR kf_X7_29 gr_0_3 dX7_corner_55 ?_
      obtain ⟨m15, r16, h17, h⟩ := ubi_some h
      refine ug_callVv [] (c_X2_forget  h17) kc_X7_119 ro_13 rfl (S := []) rfl (Nat.le_of_ble_eq_true rfl) (Nat.le_of_ble_eq_true rfl) (Nat.le_of_ble_eq_true rfl) dX7_corner_58 ?_
      refine ug_aload_n 0 dX7_corner_61 rfl rfl ?_
      refine ug_getR kf_X7_36 gr_0_4 dX7_corner_62 ?_
      obtain ⟨m18, r19, h20, h⟩ := ubi_some h
      refine ug_callVv [] (c_X0_forget  h20) kc_X7_122 ro_18 rfl (S := []) rfl (Nat.le_of_ble_eq_true rfl) (Nat.le_of_ble_eq_true rfl) (Nat.le_of_ble_eq_true rfl) dX7_corner_65 ?_
      refine ug_aload_n 0 dX7_corner_68 rfl rfl ?_
      refine ug_getR kf_X7_52 gr_0_6 dX7_corner_69 ?_
      obtain ⟨m21, r22, h23, h⟩ := ubi_some h
      refine ug_callVv [] (c_X4_open (Or.inl rfl) h23) kc_X7_123 ro_23 rfl (S := []) rfl (Nat.le_of_ble_eq_true rfl) (Nat.le_of_ble_eq_true rfl) (Nat.le_of_ble_eq_true rfl) dX7_corner_72 ?_
      refine ug_aload_n 0 dX7_corner_75 rfl rfl ?_
      refine ug_getR kf_X7_62 gr_0_8 dX7_corner_76 ?_
      refine ug_iconst dX7_corner_79 un_iconst_0 ?_
      refine ug_putI kp_X7_126 gi_27_1 dX7_corner_80 ?_
      refine ug_aload_n 0 dX7_corner_83 rfl rfl ?_
      refine ug_iconst dX7_corner_84 un_iconst_0 ?_
      refine ug_putI kp_X7_77 gi_0_12 dX7_corner_85 ?_
      refine ug_aload_n 0 dX7_corner_88 rfl rfl ?_
      refine ug_iconst dX7_corner_89 un_iconst_0 ?_
      refine ug_putI kp_X7_81 gi_0_13 dX7_corner_90 ?_
      refine ug_aload_n 0 dX7_corner_93 rfl rfl ?_
      refine ug_getR kf_X7_19 gr_0_1 dX7_corner_94 ?_
      refine ug_getI kf_X7_129 gi_3_1 dX7_corner_97 ?_
      obtain rfl := Option.some.inj h
      exact ug_iret dX7_corner_100
    · rw [if_pos q11] at h
      refine ug_aload_n 0 dX7_corner_35 rfl rfl ?_
      refine ug_getR kf_X7_10 gr_0_0 dX7_corner_36 ?_
      obtain ⟨m24, r25, h26, h⟩ := ubi_some h
      refine ug_callVi [] (c_X5_faultAnswer  h26) kc_X7_111 ro_1 rfl (S := []) rfl (Nat.le_of_ble_eq_true rfl) (Nat.le_of_ble_eq_true rfl) (Nat.le_of_ble_eq_true rfl) dX7_corner_39 ?_
      obtain rfl := Option.some.inj h
      exact ug_iret dX7_corner_42
  · exact ug_callVx [.int x1, .int 0, .int (mem 1 1)] (c_X7_need_x  h3) kc_X7_100 ro_0 rfl (S := []) rfl (Nat.le_of_ble_eq_true rfl) (Nat.le_of_ble_eq_true rfl) (Nat.le_of_ble_eq_true rfl) ⟨Nat.le_refl 1, Nat.le_refl 6⟩ dX7_corner_10
theorem c_X7_corner_r {l : Launch} {E : Ue} {mem : Um} {x1 : Int32} {m1 : Um} {r : Int32} (h : f_X7_corner  mem x1 = some (m1, .inl r)) : ucr l E 9 0 0 yX7_corner cX7_corner 2 (some .int) [.ref (ue_b E + 0), .int x1] mem (some (.int r)) m1 := ucr_of rfl (Nat.le_of_ble_eq_true rfl) (t_X7_corner  mem x1 _ h)
theorem c_X7_corner_x {l : Launch} {E : Ue} {mem : Um} {x1 : Int32} {m1 : Um} {X : String} (h : f_X7_corner  mem x1 = some (m1, .inr X)) : ucx l E 9 1 6 yX7_corner cX7_corner 2 (some .int) [.ref (ue_b E + 0), .int x1] mem X m1 := ucx_of rfl (Nat.le_of_ble_eq_true rfl) (t_X7_corner  mem x1 _ h)
-- X2_put
def f_X2_put_b30 (mem : Um) : Option (Um × Int32) :=
  some (mem, 1)
set_option maxRecDepth 20000 in
theorem t_X2_put_b30 {l : Launch} {E : Ue} (mem : Um) (z : Um × Int32) (h : f_X2_put_b30  mem  = some z) : ug l E 2 0 0 cX2_put 2 RX2 (some .boolean) [] (uz_i z) 0 0 30 [] [] mem := by
  rw [f_X2_put_b30] at h
  refine ug_iconst dX2_put_30 un_iconst_1 ?_
  obtain rfl := Option.some.inj h
  exact ug_zret (Or.inr rfl) dX2_put_31
def f_X2_put (mem : Um) (x1 : Int32) : Option (Um × Int32) :=
  if 150 ≤ (mem 13 3) then (f_X2_put_b30 mem) else (ugd (uin (mem 13 3) 150) (f_X2_put_b30 (um_w (um_w mem 15 (mem 13 3).toNatClampNeg x1) 13 3 (((um_w mem 15 (mem 13 3).toNatClampNeg x1) 13 3) + 1))))
set_option maxRecDepth 20000 in
theorem t_X2_put {l : Launch} {E : Ue} (mem : Um) (x1 : Int32) (z : Um × Int32) (h : f_X2_put  mem x1 = some z) : ug l E 2 0 0 cX2_put 2 RX2 (some .boolean) [] (uz_i z) 0 0 0 [(0, .ref (ue_b E + 13)), (1, .int x1)] [] mem := by
  rw [f_X2_put] at h
  refine ug_aload_n 0 dX2_put_0 rfl rfl ?_
  refine ug_getI kf_X2_22 gi_13_3 dX2_put_1 ?_
  refine ug_sipush dX2_put_4 un_sipush_150 ?_
  refine ug_icmp_ge 30 dX2_put_7 (by decide) (fun q1 => ?_) (fun q1 => ?_)
  · rw [if_pos q1] at h
    refine ug_sub [] [] rfl ?_
    exact t_X2_put_b30 mem  _ h
  · rw [if_neg q1] at h
    refine ug_aload_n 0 dX2_put_10 rfl rfl ?_
    refine ug_getR kf_X2_19 gr_13_2 dX2_put_11 ?_
    refine ug_aload_n 0 dX2_put_14 rfl rfl ?_
    refine ug_getI kf_X2_22 gi_13_3 dX2_put_15 ?_
    refine ug_iload_n 1 dX2_put_18 rfl rfl ?_
    obtain ⟨g2, h⟩ := ugd_some h
    refine ug_iast al_15 (uin_ok g2) dX2_put_19 ?_
    refine ug_aload_n 0 dX2_put_20 rfl rfl ?_
    refine ug_dup dX2_put_21 rfl ?_
    refine ug_getI kf_X2_22 gi_13_3 dX2_put_22 ?_
    refine ug_iconst dX2_put_25 un_iconst_1 ?_
    refine ug_iadd dX2_put_26 ?_
    refine ug_putI kp_X2_22 gi_13_3 dX2_put_27 ?_
    refine ug_sub [] [] rfl ?_
    exact t_X2_put_b30 (um_w (um_w mem 15 (mem 13 3).toNatClampNeg x1) 13 3 (((um_w mem 15 (mem 13 3).toNatClampNeg x1) 13 3) + 1))  _ h
theorem c_X2_put {l : Launch} {E : Ue} {mem : Um} {x1 : Int32} {m1 : Um} {r : Int32} (h : f_X2_put  mem x1 = some (m1, r)) : ucr l E 2 0 0 yX2_put cX2_put 2 (some .boolean) [.ref (ue_b E + 13), .int x1] mem (some (.int r)) m1 := ucr_of rfl (Nat.le_of_ble_eq_true rfl) (t_X2_put  mem x1 _ h)
-- X2_readBracket
def f_X2_readBracket_b32 (rec : Um → Int32 → Option (Um × Int32)) (mem : Um) (y0 : Int32) : Option (Um × Int32) :=
  ugd (ub01 y0) (some (mem, y0))
set_option maxRecDepth 20000 in
theorem t_X2_readBracket_b32 {l : Launch} {E : Ue} {rec : Um → Int32 → Option (Um × Int32)} (kr : Nat) (hrec : ∀ (mem : Um) (x2 : Int32) (m1 : Um) (r : Int32), rec mem x2 = some (m1, r) → ucr l E kr 0 0 yX2_readSum cX2_readSum 5 (some .boolean) [.ref (ue_b E + 13), .ref (ue_b E + 1), .int x2] mem (some (.int r)) m1) (mem : Um) (y0 : Int32) (z : Um × Int32) (h : f_X2_readBracket_b32 rec mem y0 = some z) : ug l E (kr + 5) 0 0 cX2_readBracket 3 RX2 (some .boolean) [] (uz_i z) 0 0 32 [] [.int y0] mem := by
  rw [f_X2_readBracket_b32] at h
  obtain ⟨g1, h⟩ := ugd_some h
  obtain rfl := Option.some.inj h
  exact ug_zret (of_decide_eq_true g1) dX2_readBracket_32
def f_X2_readBracket_b31 (rec : Um → Int32 → Option (Um × Int32)) (mem : Um) : Option (Um × Int32) :=
  f_X2_readBracket_b32 rec mem 0
set_option maxRecDepth 20000 in
theorem t_X2_readBracket_b31 {l : Launch} {E : Ue} {rec : Um → Int32 → Option (Um × Int32)} (kr : Nat) (hrec : ∀ (mem : Um) (x2 : Int32) (m1 : Um) (r : Int32), rec mem x2 = some (m1, r) → ucr l E kr 0 0 yX2_readSum cX2_readSum 5 (some .boolean) [.ref (ue_b E + 13), .ref (ue_b E + 1), .int x2] mem (some (.int r)) m1) (mem : Um) (z : Um × Int32) (h : f_X2_readBracket_b31 rec mem  = some z) : ug l E (kr + 5) 0 0 cX2_readBracket 3 RX2 (some .boolean) [] (uz_i z) 0 0 31 [] [] mem := by
  rw [f_X2_readBracket_b31] at h
  refine ug_iconst dX2_readBracket_31 un_iconst_0 ?_
  exact t_X2_readBracket_b32 kr hrec mem 0 _ h
def f_X2_readBracket (rec : Um → Int32 → Option (Um × Int32)) (mem : Um) (x2 : Int32) : Option (Um × Int32) :=
  ubi (f_X5_takeSign mem 40) (fun m1 r2 => if r2 = 0 then (f_X2_readBracket_b31 rec m1) else (ubi (rec m1 x2) (fun m5 r6 => if r6 = 0 then (f_X2_readBracket_b31 rec m5) else (ubi (f_X5_takeSign m5 41) (fun m9 r10 => if r10 = 0 then (f_X2_readBracket_b31 rec m9) else (f_X2_readBracket_b32 rec m9 1))))))
set_option maxRecDepth 20000 in
theorem t_X2_readBracket {l : Launch} {E : Ue} {rec : Um → Int32 → Option (Um × Int32)} (kr : Nat) (hrec : ∀ (mem : Um) (x2 : Int32) (m1 : Um) (r : Int32), rec mem x2 = some (m1, r) → ucr l E kr 0 0 yX2_readSum cX2_readSum 5 (some .boolean) [.ref (ue_b E + 13), .ref (ue_b E + 1), .int x2] mem (some (.int r)) m1) (mem : Um) (x2 : Int32) (z : Um × Int32) (h : f_X2_readBracket rec mem x2 = some z) : ug l E (kr + 5) 0 0 cX2_readBracket 3 RX2 (some .boolean) [] (uz_i z) 0 0 0 [(0, .ref (ue_b E + 13)), (1, .ref (ue_b E + 1)), (2, .int x2)] [] mem := by
  rw [f_X2_readBracket] at h
  refine ug_aload_n 1 dX2_readBracket_0 rfl rfl ?_
  refine ug_bipush dX2_readBracket_1 un_bipush_40 ?_
  obtain ⟨m1, r2, h3, h⟩ := ubi_some h
  refine ug_callVi [.int 40] (c_X5_takeSign  h3) kc_X2_112 ro_1 rfl (S := []) rfl (Nat.le_of_ble_eq_true rfl) (by omega) (Nat.le_of_ble_eq_true rfl) dX2_readBracket_3 ?_
  refine ug_if_eq 31 dX2_readBracket_6 (by decide) (fun q4 => ?_) (fun q4 => ?_)
  · rw [if_pos q4] at h
    refine ug_sub [] [] rfl ?_
    exact t_X2_readBracket_b31 kr hrec m1  _ h
  · rw [if_neg q4] at h
    refine ug_aload_n 0 dX2_readBracket_9 rfl rfl ?_
    refine ug_aload_n 1 dX2_readBracket_10 rfl rfl ?_
    refine ug_iload_n 2 dX2_readBracket_11 rfl rfl ?_
    obtain ⟨m5, r6, h7, h⟩ := ubi_some h
    refine ug_callVi [.ref (ue_b E + 1), .int x2] (hrec m1 x2 _ _ h7) kc_X2_51 ro_13 rfl (S := []) rfl (Nat.le_of_ble_eq_true rfl) (by omega) (Nat.le_of_ble_eq_true rfl) dX2_readBracket_12 ?_
    refine ug_if_eq 31 dX2_readBracket_15 (by decide) (fun q8 => ?_) (fun q8 => ?_)
    · rw [if_pos q8] at h
      refine ug_sub [] [] rfl ?_
      exact t_X2_readBracket_b31 kr hrec m5  _ h
    · rw [if_neg q8] at h
      refine ug_aload_n 1 dX2_readBracket_18 rfl rfl ?_
      refine ug_bipush dX2_readBracket_19 un_bipush_41 ?_
      obtain ⟨m9, r10, h11, h⟩ := ubi_some h
      refine ug_callVi [.int 41] (c_X5_takeSign  h11) kc_X2_112 ro_1 rfl (S := []) rfl (Nat.le_of_ble_eq_true rfl) (by omega) (Nat.le_of_ble_eq_true rfl) dX2_readBracket_21 ?_
      refine ug_if_eq 31 dX2_readBracket_24 (by decide) (fun q12 => ?_) (fun q12 => ?_)
      · rw [if_pos q12] at h
        refine ug_sub [] [] rfl ?_
        exact t_X2_readBracket_b31 kr hrec m9  _ h
      · rw [if_neg q12] at h
        refine ug_iconst dX2_readBracket_27 un_iconst_1 ?_
        refine ug_goto 32 dX2_readBracket_28 (by decide) ?_
        refine ug_sub [] [] rfl ?_
        exact t_X2_readBracket_b32 kr hrec m9 1 _ h
theorem c_X2_readBracket {l : Launch} {E : Ue} {rec : Um → Int32 → Option (Um × Int32)} (kr : Nat) (hrec : ∀ (mem : Um) (x2 : Int32) (m1 : Um) (r : Int32), rec mem x2 = some (m1, r) → ucr l E kr 0 0 yX2_readSum cX2_readSum 5 (some .boolean) [.ref (ue_b E + 13), .ref (ue_b E + 1), .int x2] mem (some (.int r)) m1) {mem : Um} {x2 : Int32} {m1 : Um} {r : Int32} (h : f_X2_readBracket rec mem x2 = some (m1, r)) : ucr l E (kr + 5) 0 0 yX2_readBracket cX2_readBracket 3 (some .boolean) [.ref (ue_b E + 13), .ref (ue_b E + 1), .int x2] mem (some (.int r)) m1 := ucr_of rfl (Nat.le_of_ble_eq_true rfl) (t_X2_readBracket kr hrec mem x2 _ h)
-- X2_operatorWord
def f_X2_operatorWord_b29 (mem : Um) (y0 : Int32) : Option (Um × Int32) :=
  some (mem, y0)
set_option maxRecDepth 20000 in
theorem t_X2_operatorWord_b29 {l : Launch} {E : Ue} (mem : Um) (y0 : Int32) (z : Um × Int32) (h : f_X2_operatorWord_b29  mem y0 = some z) : ug l E 7 0 0 cX2_operatorWord 1 RX2 (some .int) [] (uz_i z) 0 0 29 [] [.int y0] mem := by
  rw [f_X2_operatorWord_b29] at h
  obtain rfl := Option.some.inj h
  exact ug_iret dX2_operatorWord_29
def f_X2_operatorWord (mem : Um) : Option (Um × Int32) :=
  ubi (f_X5_wordIs 3 mem) (fun m1 r2 => if r2 = 0 then (ubi (f_X5_wordIs 4 m1) (fun m5 r6 => if r6 = 0 then (f_X2_operatorWord_b29 m5 (-1)) else (f_X2_operatorWord_b29 m5 2006))) else (some (m1, 2005)))
set_option maxRecDepth 20000 in
theorem t_X2_operatorWord {l : Launch} {E : Ue} (mem : Um) (z : Um × Int32) (h : f_X2_operatorWord  mem  = some z) : ug l E 7 0 0 cX2_operatorWord 1 RX2 (some .int) [] (uz_i z) 0 0 0 [(0, .ref (ue_b E + 1))] [] mem := by
  rw [f_X2_operatorWord] at h
  refine ug_aload_n 0 dX2_operatorWord_0 rfl rfl ?_
  refine ug_ldcS 3 (tx := "least") (n := 3) rfl dX2_operatorWord_1 ?_
  obtain ⟨m1, r2, h3, h⟩ := ubi_some h
  refine ug_callVi [.ref (ue_aK E 3)] (c_X5_wordIs (by decide) h3) kc_X2_117 ro_1 rfl (S := []) rfl (Nat.le_of_ble_eq_true rfl) (Nat.le_of_ble_eq_true rfl) (Nat.le_of_ble_eq_true rfl) dX2_operatorWord_3 ?_
  refine ug_if_eq 13 dX2_operatorWord_6 (by decide) (fun q4 => ?_) (fun q4 => ?_)
  · rw [if_pos q4] at h
    refine ug_aload_n 0 dX2_operatorWord_13 rfl rfl ?_
    refine ug_ldcS 4 (tx := "most") (n := 4) rfl dX2_operatorWord_14 ?_
    obtain ⟨m5, r6, h7, h⟩ := ubi_some h
    refine ug_callVi [.ref (ue_aK E 4)] (c_X5_wordIs (by decide) h7) kc_X2_117 ro_1 rfl (S := []) rfl (Nat.le_of_ble_eq_true rfl) (Nat.le_of_ble_eq_true rfl) (Nat.le_of_ble_eq_true rfl) dX2_operatorWord_16 ?_
    refine ug_if_eq 28 dX2_operatorWord_19 (by decide) (fun q8 => ?_) (fun q8 => ?_)
    · rw [if_pos q8] at h
      refine ug_iconst dX2_operatorWord_28 un_iconst_m1 ?_
      refine ug_sub [] [] rfl ?_
      exact t_X2_operatorWord_b29 m5 (-1) _ h
    · rw [if_neg q8] at h
      refine ug_sipush dX2_operatorWord_22 un_sipush_2006 ?_
      refine ug_goto 29 dX2_operatorWord_25 (by decide) ?_
      refine ug_sub [] [] rfl ?_
      exact t_X2_operatorWord_b29 m5 2006 _ h
  · rw [if_neg q4] at h
    refine ug_sipush dX2_operatorWord_9 un_sipush_2005 ?_
    obtain rfl := Option.some.inj h
    exact ug_iret dX2_operatorWord_12
theorem c_X2_operatorWord {l : Launch} {E : Ue} {mem : Um} {m1 : Um} {r : Int32} (h : f_X2_operatorWord  mem  = some (m1, r)) : ucr l E 7 0 0 yX2_operatorWord cX2_operatorWord 1 (some .int) [.ref (ue_b E + 1)] mem (some (.int r)) m1 := ucr_of rfl (Nat.le_of_ble_eq_true rfl) (t_X2_operatorWord  mem  _ h)
