-- X7_would
def f_X7_would (mem : Um) (x1 : Int32) (x2 : Int32) (x3 : Int32) (x4 : Int32) (x5 : Int32) (x6 : Int32) (x7 : Int32) (x8 : Int32) : Option (Um × (Int32 ⊕ String)) :=
  ubx (f_X7_need mem x1 1 20) (fun m1 r2 => ubx (f_X7_need m1 x2 1 20) (fun m5 r6 => ubx (f_X7_need m5 x3 0 4) (fun m9 r10 => ubx (f_X7_need m9 x4 0 99) (fun m13 r14 => ubx (f_X7_need m13 x5 0 480) (fun m17 r18 => ubx (f_X7_need m17 x6 0 400) (fun m21 r22 => ubx (f_X7_need m21 x7 0 999) (fun m25 r26 => ubx (f_X7_need m25 x8 0 4) (fun m29 r30 => ubi (f_X2_life (um_w (um_w (um_w (um_w (um_w (um_w (um_w (um_w m29 17 0 x1) 17 1 x2) 17 2 x3) 17 3 x4) 17 4 x5) 17 5 x6) 17 6 x7) 17 7 x8)) (fun m33 r34 => some (m33, .inl r34))))))))))
set_option maxRecDepth 20000 in
theorem t_X7_would {l : Launch} {E : Ue} (mem : Um) (x1 : Int32) (x2 : Int32) (x3 : Int32) (x4 : Int32) (x5 : Int32) (x6 : Int32) (x7 : Int32) (x8 : Int32) (z : Um × (Int32 ⊕ String)) (h : f_X7_would  mem x1 x2 x3 x4 x5 x6 x7 x8 = some z) : ug l E 7 (uzc z) (uzs z) cX7_would 9 RX7 (some .int) [] (uzx_i z) 0 0 0 [(0, .ref (ue_d E 0)), (1, .int x1), (2, .int x2), (3, .int x3), (4, .int x4), (5, .int x5), (6, .int x6), (7, .int x7), (8, .int x8)] [] mem := by
  rw [f_X7_would] at h
  refine ug_aload_n 0 dX7_would_0 rfl rfl ?_
  refine ug_iload_n 1 dX7_would_1 rfl rfl ?_
  refine ug_iconst dX7_would_2 un_iconst_1 ?_
  refine ug_bipush dX7_would_3 un_bipush_20 ?_
  rcases ubx_some h with ⟨m1, r2, h3, h⟩ | ⟨m1, X4, h3, rfl⟩
  · refine ug_callVv [.int x1, .int 1, .int 20] (c_X7_need_r  h3) kc_X7_102 ro_0 rfl (S := []) rfl (Nat.le_of_ble_eq_true rfl) (Nat.le_of_ble_eq_true rfl) (Nat.le_of_ble_eq_true rfl) dX7_would_5 ?_
    refine ug_aload_n 0 dX7_would_8 rfl rfl ?_
    refine ug_iload_n 2 dX7_would_9 rfl rfl ?_
    refine ug_iconst dX7_would_10 un_iconst_1 ?_
    refine ug_bipush dX7_would_11 un_bipush_20 ?_
    rcases ubx_some h with ⟨m5, r6, h7, h⟩ | ⟨m5, X8, h7, rfl⟩
    · refine ug_callVv [.int x2, .int 1, .int 20] (c_X7_need_r  h7) kc_X7_102 ro_0 rfl (S := []) rfl (Nat.le_of_ble_eq_true rfl) (Nat.le_of_ble_eq_true rfl) (Nat.le_of_ble_eq_true rfl) dX7_would_13 ?_
      refine ug_aload_n 0 dX7_would_16 rfl rfl ?_
      refine ug_iload_n 3 dX7_would_17 rfl rfl ?_
      refine ug_iconst dX7_would_18 un_iconst_0 ?_
      refine ug_iconst dX7_would_19 un_iconst_4 ?_
      rcases ubx_some h with ⟨m9, r10, h11, h⟩ | ⟨m9, X12, h11, rfl⟩
      · refine ug_callVv [.int x3, .int 0, .int 4] (c_X7_need_r  h11) kc_X7_102 ro_0 rfl (S := []) rfl (Nat.le_of_ble_eq_true rfl) (Nat.le_of_ble_eq_true rfl) (Nat.le_of_ble_eq_true rfl) dX7_would_20 ?_
        refine ug_aload_n 0 dX7_would_23 rfl rfl ?_
        refine ug_iload 4 dX7_would_24 rfl ?_
        refine ug_iconst dX7_would_26 un_iconst_0 ?_
        refine ug_bipush dX7_would_27 un_bipush_99 ?_
        rcases ubx_some h with ⟨m13, r14, h15, h⟩ | ⟨m13, X16, h15, rfl⟩
        · refine ug_callVv [.int x4, .int 0, .int 99] (c_X7_need_r  h15) kc_X7_102 ro_0 rfl (S := []) rfl (Nat.le_of_ble_eq_true rfl) (Nat.le_of_ble_eq_true rfl) (Nat.le_of_ble_eq_true rfl) dX7_would_29 ?_
          refine ug_aload_n 0 dX7_would_32 rfl rfl ?_
          refine ug_iload 5 dX7_would_33 rfl ?_
          refine ug_iconst dX7_would_35 un_iconst_0 ?_
          refine ug_sipush dX7_would_36 un_sipush_480 ?_
          rcases ubx_some h with ⟨m17, r18, h19, h⟩ | ⟨m17, X20, h19, rfl⟩
          · refine ug_callVv [.int x5, .int 0, .int 480] (c_X7_need_r  h19) kc_X7_102 ro_0 rfl (S := []) rfl (Nat.le_of_ble_eq_true rfl) (Nat.le_of_ble_eq_true rfl) (Nat.le_of_ble_eq_true rfl) dX7_would_39 ?_
            refine ug_aload_n 0 dX7_would_42 rfl rfl ?_
            refine ug_iload 6 dX7_would_43 rfl ?_
            refine ug_iconst dX7_would_45 un_iconst_0 ?_
            refine ug_sipush dX7_would_46 un_sipush_400 ?_
            rcases ubx_some h with ⟨m21, r22, h23, h⟩ | ⟨m21, X24, h23, rfl⟩
            · refine ug_callVv [.int x6, .int 0, .int 400] (c_X7_need_r  h23) kc_X7_102 ro_0 rfl (S := []) rfl (Nat.le_of_ble_eq_true rfl) (Nat.le_of_ble_eq_true rfl) (Nat.le_of_ble_eq_true rfl) dX7_would_49 ?_
              refine ug_aload_n 0 dX7_would_52 rfl rfl ?_
              refine ug_iload 7 dX7_would_53 rfl ?_
              refine ug_iconst dX7_would_55 un_iconst_0 ?_
              refine ug_sipush dX7_would_56 un_sipush_999 ?_
              rcases ubx_some h with ⟨m25, r26, h27, h⟩ | ⟨m25, X28, h27, rfl⟩
              · refine ug_callVv [.int x7, .int 0, .int 999] (c_X7_need_r  h27) kc_X7_102 ro_0 rfl (S := []) rfl (Nat.le_of_ble_eq_true rfl) (Nat.le_of_ble_eq_true rfl) (Nat.le_of_ble_eq_true rfl) dX7_would_59 ?_
                refine ug_aload_n 0 dX7_would_62 rfl rfl ?_
                refine ug_iload 8 dX7_would_63 rfl ?_
                refine ug_iconst dX7_would_65 un_iconst_0 ?_
                refine ug_iconst dX7_would_66 un_iconst_4 ?_
                rcases ubx_some h with ⟨m29, r30, h31, h⟩ | ⟨m29, X32, h31, rfl⟩
                · refine ug_callVv [.int x8, .int 0, .int 4] (c_X7_need_r  h31) kc_X7_102 ro_0 rfl (S := []) rfl (Nat.le_of_ble_eq_true rfl) (Nat.le_of_ble_eq_true rfl) (Nat.le_of_ble_eq_true rfl) dX7_would_67 ?_
                  refine ug_aload_n 0 dX7_would_70 rfl rfl ?_
                  refine ug_getR kf_X7_31 gr_0_3 dX7_would_71 ?_
                  refine ug_getR kf_X7_254 gr_13_6 dX7_would_74 ?_
                  refine ug_iconst dX7_would_77 un_iconst_0 ?_
                  refine ug_iload_n 1 dX7_would_78 rfl rfl ?_
                  refine ug_iastK al_17 ui_0_8 uc_0 dX7_would_79 ?_
                  refine ug_aload_n 0 dX7_would_80 rfl rfl ?_
                  refine ug_getR kf_X7_31 gr_0_3 dX7_would_81 ?_
                  refine ug_getR kf_X7_254 gr_13_6 dX7_would_84 ?_
                  refine ug_iconst dX7_would_87 un_iconst_1 ?_
                  refine ug_iload_n 2 dX7_would_88 rfl rfl ?_
                  refine ug_iastK al_17 ui_1_8 uc_1 dX7_would_89 ?_
                  refine ug_aload_n 0 dX7_would_90 rfl rfl ?_
                  refine ug_getR kf_X7_31 gr_0_3 dX7_would_91 ?_
                  refine ug_getR kf_X7_254 gr_13_6 dX7_would_94 ?_
                  refine ug_iconst dX7_would_97 un_iconst_2 ?_
                  refine ug_iload_n 3 dX7_would_98 rfl rfl ?_
                  refine ug_iastK al_17 ui_2_8 uc_2 dX7_would_99 ?_
                  refine ug_aload_n 0 dX7_would_100 rfl rfl ?_
                  refine ug_getR kf_X7_31 gr_0_3 dX7_would_101 ?_
                  refine ug_getR kf_X7_254 gr_13_6 dX7_would_104 ?_
                  refine ug_iconst dX7_would_107 un_iconst_3 ?_
                  refine ug_iload 4 dX7_would_108 rfl ?_
                  refine ug_iastK al_17 ui_3_8 uc_3 dX7_would_110 ?_
                  refine ug_aload_n 0 dX7_would_111 rfl rfl ?_
                  refine ug_getR kf_X7_31 gr_0_3 dX7_would_112 ?_
                  refine ug_getR kf_X7_254 gr_13_6 dX7_would_115 ?_
                  refine ug_iconst dX7_would_118 un_iconst_4 ?_
                  refine ug_iload 5 dX7_would_119 rfl ?_
                  refine ug_iastK al_17 ui_4_8 uc_4 dX7_would_121 ?_
                  refine ug_aload_n 0 dX7_would_122 rfl rfl ?_
                  refine ug_getR kf_X7_31 gr_0_3 dX7_would_123 ?_
                  refine ug_getR kf_X7_254 gr_13_6 dX7_would_126 ?_
                  refine ug_iconst dX7_would_129 un_iconst_5 ?_
                  refine ug_iload 6 dX7_would_130 rfl ?_
                  refine ug_iastK al_17 ui_5_8 uc_5 dX7_would_132 ?_
                  refine ug_aload_n 0 dX7_would_133 rfl rfl ?_
                  refine ug_getR kf_X7_31 gr_0_3 dX7_would_134 ?_
                  refine ug_getR kf_X7_254 gr_13_6 dX7_would_137 ?_
                  refine ug_bipush dX7_would_140 un_bipush_6 ?_
                  refine ug_iload 7 dX7_would_142 rfl ?_
                  refine ug_iastK al_17 ui_6_8 uc_6 dX7_would_144 ?_
                  refine ug_aload_n 0 dX7_would_145 rfl rfl ?_
                  refine ug_getR kf_X7_31 gr_0_3 dX7_would_146 ?_
                  refine ug_getR kf_X7_254 gr_13_6 dX7_would_149 ?_
                  refine ug_bipush dX7_would_152 un_bipush_7 ?_
                  refine ug_iload 8 dX7_would_154 rfl ?_
                  refine ug_iastK al_17 ui_7_8 uc_7 dX7_would_156 ?_
                  refine ug_aload_n 0 dX7_would_157 rfl rfl ?_
                  refine ug_getR kf_X7_31 gr_0_3 dX7_would_158 ?_
                  obtain ⟨m33, r34, h35, h⟩ := ubi_some h
                  refine ug_callVi [] (c_X2_life  h35) kc_X7_257 ro_13 rfl (S := []) rfl (Nat.le_of_ble_eq_true rfl) (Nat.le_of_ble_eq_true rfl) (Nat.le_of_ble_eq_true rfl) dX7_would_161 ?_
                  obtain rfl := Option.some.inj h
                  exact ug_iret dX7_would_164
                · exact ug_callVx [.int x8, .int 0, .int 4] (c_X7_need_x  h31) kc_X7_102 ro_0 rfl (S := []) rfl (Nat.le_of_ble_eq_true rfl) (Nat.le_of_ble_eq_true rfl) (Nat.le_of_ble_eq_true rfl) ⟨Nat.le_refl 1, Nat.le_refl 6⟩ dX7_would_67
              · exact ug_callVx [.int x7, .int 0, .int 999] (c_X7_need_x  h27) kc_X7_102 ro_0 rfl (S := []) rfl (Nat.le_of_ble_eq_true rfl) (Nat.le_of_ble_eq_true rfl) (Nat.le_of_ble_eq_true rfl) ⟨Nat.le_refl 1, Nat.le_refl 6⟩ dX7_would_59
            · exact ug_callVx [.int x6, .int 0, .int 400] (c_X7_need_x  h23) kc_X7_102 ro_0 rfl (S := []) rfl (Nat.le_of_ble_eq_true rfl) (Nat.le_of_ble_eq_true rfl) (Nat.le_of_ble_eq_true rfl) ⟨Nat.le_refl 1, Nat.le_refl 6⟩ dX7_would_49
          · exact ug_callVx [.int x5, .int 0, .int 480] (c_X7_need_x  h19) kc_X7_102 ro_0 rfl (S := []) rfl (Nat.le_of_ble_eq_true rfl) (Nat.le_of_ble_eq_true rfl) (Nat.le_of_ble_eq_true rfl) ⟨Nat.le_refl 1, Nat.le_refl 6⟩ dX7_would_39
        · exact ug_callVx [.int x4, .int 0, .int 99] (c_X7_need_x  h15) kc_X7_102 ro_0 rfl (S := []) rfl (Nat.le_of_ble_eq_true rfl) (Nat.le_of_ble_eq_true rfl) (Nat.le_of_ble_eq_true rfl) ⟨Nat.le_refl 1, Nat.le_refl 6⟩ dX7_would_29
      · exact ug_callVx [.int x3, .int 0, .int 4] (c_X7_need_x  h11) kc_X7_102 ro_0 rfl (S := []) rfl (Nat.le_of_ble_eq_true rfl) (Nat.le_of_ble_eq_true rfl) (Nat.le_of_ble_eq_true rfl) ⟨Nat.le_refl 1, Nat.le_refl 6⟩ dX7_would_20
    · exact ug_callVx [.int x2, .int 1, .int 20] (c_X7_need_x  h7) kc_X7_102 ro_0 rfl (S := []) rfl (Nat.le_of_ble_eq_true rfl) (Nat.le_of_ble_eq_true rfl) (Nat.le_of_ble_eq_true rfl) ⟨Nat.le_refl 1, Nat.le_refl 6⟩ dX7_would_13
  · exact ug_callVx [.int x1, .int 1, .int 20] (c_X7_need_x  h3) kc_X7_102 ro_0 rfl (S := []) rfl (Nat.le_of_ble_eq_true rfl) (Nat.le_of_ble_eq_true rfl) (Nat.le_of_ble_eq_true rfl) ⟨Nat.le_refl 1, Nat.le_refl 6⟩ dX7_would_5
theorem c_X7_would_r {l : Launch} {E : Ue} {mem : Um} {x1 : Int32} {x2 : Int32} {x3 : Int32} {x4 : Int32} {x5 : Int32} {x6 : Int32} {x7 : Int32} {x8 : Int32} {m1 : Um} {r : Int32} (h : f_X7_would  mem x1 x2 x3 x4 x5 x6 x7 x8 = some (m1, .inl r)) : ucr l E 7 0 0 yX7_would cX7_would 9 (some .int) [.ref (ue_d E 0), .int x1, .int x2, .int x3, .int x4, .int x5, .int x6, .int x7, .int x8] mem (some (.int r)) m1 := ucr_of rfl (Nat.le_of_ble_eq_true rfl) (t_X7_would  mem x1 x2 x3 x4 x5 x6 x7 x8 _ h)
theorem c_X7_would_x {l : Launch} {E : Ue} {mem : Um} {x1 : Int32} {x2 : Int32} {x3 : Int32} {x4 : Int32} {x5 : Int32} {x6 : Int32} {x7 : Int32} {x8 : Int32} {m1 : Um} {X : String} (h : f_X7_would  mem x1 x2 x3 x4 x5 x6 x7 x8 = some (m1, .inr X)) : ucx l E 7 1 6 yX7_would cX7_would 9 (some .int) [.ref (ue_d E 0), .int x1, .int x2, .int x3, .int x4, .int x5, .int x6, .int x7, .int x8] mem X m1 := ucx_of rfl (Nat.le_of_ble_eq_true rfl) (t_X7_would  mem x1 x2 x3 x4 x5 x6 x7 x8 _ h)
-- X4_copyFrom
def f_X4_copyFrom (mem : Um) : Option (Um × Unit) :=
  ugd (ucp_ok 0 0 28 28 28) (some ((um_cp mem 24 0 26 0 28), ()))
set_option maxRecDepth 20000 in
theorem t_X4_copyFrom {l : Launch} {E : Ue} (mem : Um) (z : Um × Unit) (h : f_X4_copyFrom  mem  = some z) : ug l E 2 0 0 cX4_copyFrom 2 RX4 none [] (uz_v z) 0 0 0 [(0, .ref (ue_d E 25)), (1, .ref (ue_d E 23))] [] mem := by
  rw [f_X4_copyFrom] at h
  refine ug_aload_n 1 dX4_copyFrom_0 rfl rfl ?_
  refine ug_getR kf_X4_11 gr_23_2 dX4_copyFrom_1 ?_
  refine ug_iconst dX4_copyFrom_4 un_iconst_0 ?_
  refine ug_aload_n 0 dX4_copyFrom_5 rfl rfl ?_
  refine ug_getR kf_X4_11 gr_25_2 dX4_copyFrom_6 ?_
  refine ug_iconst dX4_copyFrom_9 un_iconst_0 ?_
  refine ug_bipush dX4_copyFrom_10 un_bipush_28 ?_
  obtain ⟨g1, h⟩ := ugd_some h
  refine ug_copy kl_X4_41 al_24 al_26 g1 (Nat.le_of_ble_eq_true rfl) (Nat.le_of_ble_eq_true rfl) dX4_copyFrom_12 ?_
  obtain rfl := Option.some.inj h
  exact ug_vret dX4_copyFrom_15
theorem c_X4_copyFrom {l : Launch} {E : Ue} {mem : Um} {m1 : Um} {r : Unit} (h : f_X4_copyFrom  mem  = some (m1, r)) : ucr l E 2 0 0 yX4_copyFrom cX4_copyFrom 2 none [.ref (ue_d E 25), .ref (ue_d E 23)] mem none m1 := ucr_of rfl (Nat.le_of_ble_eq_true rfl) (t_X4_copyFrom  mem  _ h)
-- X7_ahead
def f_X7_ahead_b28 : Nat → Um → Int32 → Int32 → Int32 → Option (Um × (Int32 ⊕ String))
  | 0, _, _, _, _ => none
  | n + 1, mem, x1, x2, x3 =>
    if x1 ≤ x3 then (if x2 = 0 then (ubi (f_X4_holders 25 mem) (fun m3 r4 => some (m3, .inl r4))) else (if x2 = 1 then (ubi (f_X4_worthHad 25 mem) (fun m7 r8 => some (m7, .inl r8))) else (some (mem, .inl (mem 26 2))))) else (ubi (f_X4_breathe 25 mem 2147483647) (fun m10 r11 => (f_X7_ahead_b28  n) m10 x1 x2 (x3 + 1)))
set_option maxRecDepth 20000 in
theorem t_X7_ahead_b28 {l : Launch} {E : Ue} : ∀ (n : Nat) (mem : Um) (x1 : Int32) (x2 : Int32) (x3 : Int32) (z : Um × (Int32 ⊕ String)), f_X7_ahead_b28  n mem x1 x2 x3 = some z → ug l E 7 (uzc z) (uzs z) cX7_ahead 4 RX7 (some .int) [] (uzx_i z) 0 0 28 [(0, .ref (ue_d E 0)), (1, .int x1), (2, .int x2), (3, .int x3)] [] mem := by
  intro n
  induction n with
  | zero =>
    intro mem x1 x2 x3 z h
    rw [f_X7_ahead_b28] at h
    cases h
  | succ n ih =>
    intro mem x1 x2 x3 z h
    rw [f_X7_ahead_b28] at h
    refine ug_iload_n 3 dX7_ahead_28 rfl rfl ?_
    refine ug_iload_n 1 dX7_ahead_29 rfl rfl ?_
    refine ug_icmp_ge 50 dX7_ahead_30 (by decide) (fun q1 => ?_) (fun q1 => ?_)
    · rw [if_pos q1] at h
      refine ug_iload_n 2 dX7_ahead_50 rfl rfl ?_
      by_cases q2 : x2 = 0
      · rw [if_pos q2] at h
        refine ug_lsw (off := 25) 76 dX7_ahead_51 rfl (by rw [q2]; decide) (by decide) ?_
        refine ug_aload_n 0 dX7_ahead_76 rfl rfl ?_
        refine ug_getR kf_X7_58 gr_0_7 dX7_ahead_77 ?_
        obtain ⟨m3, r4, h5, h⟩ := ubi_some h
        refine ug_callVi [] (c_X4_holders (Or.inr rfl) h5) kc_X7_181 ro_25 rfl (S := []) rfl (Nat.le_of_ble_eq_true rfl) (Nat.le_of_ble_eq_true rfl) (Nat.le_of_ble_eq_true rfl) dX7_ahead_80 ?_
        obtain rfl := Option.some.inj h
        exact ug_iret dX7_ahead_83
      · rw [if_neg q2] at h
        by_cases q6 : x2 = 1
        · rw [if_pos q6] at h
          refine ug_lsw (off := 33) 84 dX7_ahead_51 rfl (by rw [q6]; decide) (by decide) ?_
          refine ug_aload_n 0 dX7_ahead_84 rfl rfl ?_
          refine ug_getR kf_X7_58 gr_0_7 dX7_ahead_85 ?_
          obtain ⟨m7, r8, h9, h⟩ := ubi_some h
          refine ug_callVi [] (c_X4_worthHad (Or.inr rfl) h9) kc_X7_187 ro_25 rfl (S := []) rfl (Nat.le_of_ble_eq_true rfl) (Nat.le_of_ble_eq_true rfl) (Nat.le_of_ble_eq_true rfl) dX7_ahead_88 ?_
          obtain rfl := Option.some.inj h
          exact ug_iret dX7_ahead_91
        · rw [if_neg q6] at h
          refine ug_lsw (off := 41) 92 dX7_ahead_51 rfl (ulsw_0_1 q2 q6) (by decide) ?_
          refine ug_aload_n 0 dX7_ahead_92 rfl rfl ?_
          refine ug_getR kf_X7_58 gr_0_7 dX7_ahead_93 ?_
          refine ug_getR kf_X7_144 gr_25_2 dX7_ahead_96 ?_
          refine ug_iconst dX7_ahead_99 un_iconst_2 ?_
          refine ug_ialdK al_26 ui_2_28 uc_2 dX7_ahead_100 ?_
          obtain rfl := Option.some.inj h
          exact ug_iret dX7_ahead_101
    · rw [if_neg q1] at h
      refine ug_aload_n 0 dX7_ahead_33 rfl rfl ?_
      refine ug_getR kf_X7_58 gr_0_7 dX7_ahead_34 ?_
      refine ug_ldcw kk_X7_262 dX7_ahead_37 ?_
      obtain ⟨m10, r11, h12, h⟩ := ubi_some h
      refine ug_callVi [.int 2147483647] (c_X4_breathe (Or.inr rfl) h12) kc_X7_263 ro_25 rfl (S := []) rfl (Nat.le_of_ble_eq_true rfl) (Nat.le_of_ble_eq_true rfl) (Nat.le_of_ble_eq_true rfl) dX7_ahead_40 ?_
      refine ug_pop dX7_ahead_43 rfl ?_
      refine ug_iinc (v := (x3 + 1)) [(3, .int (x3 + 1)), (0, .ref (ue_d E 0)), (1, .int x1), (2, .int x2)] 3 dX7_ahead_44 rfl rfl (Nat.le_of_ble_eq_true rfl) rfl ?_
      refine ug_goto 28 dX7_ahead_47 (by decide) ?_
      refine ug_sub [(0, .ref (ue_d E 0)), (1, .int x1), (2, .int x2), (3, .int (x3 + 1))] [1, 2, 3, 0] rfl ?_
      exact ih m10 x1 x2 (x3 + 1) _ h
def f_X7_ahead (mem : Um) (x1 : Int32) (x2 : Int32) : Option (Um × (Int32 ⊕ String)) :=
  ubx (f_X7_need mem x1 0 99) (fun m1 r2 => ubx (f_X7_need m1 x2 0 2) (fun m5 r6 => ubi (f_X4_copyFrom m5) (fun m9 r10 => f_X7_ahead_b28  UF m9 x1 x2 0)))
set_option maxRecDepth 20000 in
theorem t_X7_ahead {l : Launch} {E : Ue} (mem : Um) (x1 : Int32) (x2 : Int32) (z : Um × (Int32 ⊕ String)) (h : f_X7_ahead  mem x1 x2 = some z) : ug l E 7 (uzc z) (uzs z) cX7_ahead 4 RX7 (some .int) [] (uzx_i z) 0 0 0 [(0, .ref (ue_d E 0)), (1, .int x1), (2, .int x2)] [] mem := by
  rw [f_X7_ahead] at h
  refine ug_aload_n 0 dX7_ahead_0 rfl rfl ?_
  refine ug_iload_n 1 dX7_ahead_1 rfl rfl ?_
  refine ug_iconst dX7_ahead_2 un_iconst_0 ?_
  refine ug_bipush dX7_ahead_3 un_bipush_99 ?_
  rcases ubx_some h with ⟨m1, r2, h3, h⟩ | ⟨m1, X4, h3, rfl⟩
  · refine ug_callVv [.int x1, .int 0, .int 99] (c_X7_need_r  h3) kc_X7_102 ro_0 rfl (S := []) rfl (Nat.le_of_ble_eq_true rfl) (Nat.le_of_ble_eq_true rfl) (Nat.le_of_ble_eq_true rfl) dX7_ahead_5 ?_
    refine ug_aload_n 0 dX7_ahead_8 rfl rfl ?_
    refine ug_iload_n 2 dX7_ahead_9 rfl rfl ?_
    refine ug_iconst dX7_ahead_10 un_iconst_0 ?_
    refine ug_iconst dX7_ahead_11 un_iconst_2 ?_
    rcases ubx_some h with ⟨m5, r6, h7, h⟩ | ⟨m5, X8, h7, rfl⟩
    · refine ug_callVv [.int x2, .int 0, .int 2] (c_X7_need_r  h7) kc_X7_102 ro_0 rfl (S := []) rfl (Nat.le_of_ble_eq_true rfl) (Nat.le_of_ble_eq_true rfl) (Nat.le_of_ble_eq_true rfl) dX7_ahead_12 ?_
      refine ug_aload_n 0 dX7_ahead_15 rfl rfl ?_
      refine ug_getR kf_X7_58 gr_0_7 dX7_ahead_16 ?_
      refine ug_aload_n 0 dX7_ahead_19 rfl rfl ?_
      refine ug_getR kf_X7_54 gr_0_6 dX7_ahead_20 ?_
      obtain ⟨m9, r10, h11, h⟩ := ubi_some h
      refine ug_callVv [.ref (ue_d E 23)] (c_X4_copyFrom  h11) kc_X7_259 ro_25 rfl (S := []) rfl (Nat.le_of_ble_eq_true rfl) (Nat.le_of_ble_eq_true rfl) (Nat.le_of_ble_eq_true rfl) dX7_ahead_23 ?_
      refine ug_iconst dX7_ahead_26 un_iconst_0 ?_
      refine ug_istore_n [(3, .int 0), (0, .ref (ue_d E 0)), (1, .int x1), (2, .int x2)] dX7_ahead_27 rfl (Nat.le_of_ble_eq_true rfl) rfl ?_
      refine ug_sub [(0, .ref (ue_d E 0)), (1, .int x1), (2, .int x2), (3, .int 0)] [1, 2, 3, 0] rfl ?_
      exact t_X7_ahead_b28  UF m9 x1 x2 0 _ h
    · exact ug_callVx [.int x2, .int 0, .int 2] (c_X7_need_x  h7) kc_X7_102 ro_0 rfl (S := []) rfl (Nat.le_of_ble_eq_true rfl) (Nat.le_of_ble_eq_true rfl) (Nat.le_of_ble_eq_true rfl) ⟨Nat.le_refl 1, Nat.le_refl 6⟩ dX7_ahead_12
  · exact ug_callVx [.int x1, .int 0, .int 99] (c_X7_need_x  h3) kc_X7_102 ro_0 rfl (S := []) rfl (Nat.le_of_ble_eq_true rfl) (Nat.le_of_ble_eq_true rfl) (Nat.le_of_ble_eq_true rfl) ⟨Nat.le_refl 1, Nat.le_refl 6⟩ dX7_ahead_5
theorem c_X7_ahead_r {l : Launch} {E : Ue} {mem : Um} {x1 : Int32} {x2 : Int32} {m1 : Um} {r : Int32} (h : f_X7_ahead  mem x1 x2 = some (m1, .inl r)) : ucr l E 7 0 0 yX7_ahead cX7_ahead 4 (some .int) [.ref (ue_d E 0), .int x1, .int x2] mem (some (.int r)) m1 := ucr_of rfl (Nat.le_of_ble_eq_true rfl) (t_X7_ahead  mem x1 x2 _ h)
theorem c_X7_ahead_x {l : Launch} {E : Ue} {mem : Um} {x1 : Int32} {x2 : Int32} {m1 : Um} {X : String} (h : f_X7_ahead  mem x1 x2 = some (m1, .inr X)) : ucx l E 7 1 6 yX7_ahead cX7_ahead 4 (some .int) [.ref (ue_d E 0), .int x1, .int x2] mem X m1 := ucx_of rfl (Nat.le_of_ble_eq_true rfl) (t_X7_ahead  mem x1 x2 _ h)
-- X7_lasts
def f_X7_lasts_b31 : Nat → Um → Int32 → Int32 → Option (Um × (Int32 ⊕ String))
  | 0, _, _, _ => none
  | n + 1, mem, x1, x2 =>
    if 99 < x2 then (some (mem, .inl (-1))) else (ubi (f_X4_breathe 25 mem 2147483647) (fun m2 r3 => ubi (f_X4_has 25 m2 x1) (fun m5 r6 => if r6 = 0 then (some (m5, .inl x2)) else ((f_X7_lasts_b31  n) m5 x1 (x2 + 1)))))
set_option maxRecDepth 20000 in
theorem t_X7_lasts_b31 {l : Launch} {E : Ue} : ∀ (n : Nat) (mem : Um) (x1 : Int32) (x2 : Int32) (z : Um × (Int32 ⊕ String)), f_X7_lasts_b31  n mem x1 x2 = some z → ug l E 7 (uzc z) (uzs z) cX7_lasts 3 RX7 (some .int) [] (uzx_i z) 0 0 31 [(0, .ref (ue_d E 0)), (1, .int x1), (2, .int x2)] [] mem := by
  intro n
  induction n with
  | zero =>
    intro mem x1 x2 z h
    rw [f_X7_lasts_b31] at h
    cases h
  | succ n ih =>
    intro mem x1 x2 z h
    rw [f_X7_lasts_b31] at h
    refine ug_iload_n 2 dX7_lasts_31 rfl rfl ?_
    refine ug_bipush dX7_lasts_32 un_bipush_99 ?_
    refine ug_icmp_gt 67 dX7_lasts_34 (by decide) (fun q1 => ?_) (fun q1 => ?_)
    · rw [if_pos q1] at h
      refine ug_iconst dX7_lasts_67 un_iconst_m1 ?_
      obtain rfl := Option.some.inj h
      exact ug_iret dX7_lasts_68
    · rw [if_neg q1] at h
      refine ug_aload_n 0 dX7_lasts_37 rfl rfl ?_
      refine ug_getR kf_X7_58 gr_0_7 dX7_lasts_38 ?_
      refine ug_ldcw kk_X7_262 dX7_lasts_41 ?_
      obtain ⟨m2, r3, h4, h⟩ := ubi_some h
      refine ug_callVi [.int 2147483647] (c_X4_breathe (Or.inr rfl) h4) kc_X7_263 ro_25 rfl (S := []) rfl (Nat.le_of_ble_eq_true rfl) (Nat.le_of_ble_eq_true rfl) (Nat.le_of_ble_eq_true rfl) dX7_lasts_44 ?_
      refine ug_pop dX7_lasts_47 rfl ?_
      refine ug_aload_n 0 dX7_lasts_48 rfl rfl ?_
      refine ug_getR kf_X7_58 gr_0_7 dX7_lasts_49 ?_
      refine ug_iload_n 1 dX7_lasts_52 rfl rfl ?_
      obtain ⟨m5, r6, h7, h⟩ := ubi_some h
      refine ug_callVi [.int x1] (c_X4_has (Or.inr rfl) h7) kc_X7_215 ro_25 rfl (S := []) rfl (Nat.le_of_ble_eq_true rfl) (Nat.le_of_ble_eq_true rfl) (Nat.le_of_ble_eq_true rfl) dX7_lasts_53 ?_
      refine ug_if_ne 61 dX7_lasts_56 (by decide) (fun q8 => ?_) (fun q8 => ?_)
      · rw [if_neg q8] at h
        refine ug_iinc (v := (x2 + 1)) [(2, .int (x2 + 1)), (0, .ref (ue_d E 0)), (1, .int x1)] 2 dX7_lasts_61 rfl rfl (Nat.le_of_ble_eq_true rfl) rfl ?_
        refine ug_goto 31 dX7_lasts_64 (by decide) ?_
        refine ug_sub [(0, .ref (ue_d E 0)), (1, .int x1), (2, .int (x2 + 1))] [1, 2, 0] rfl ?_
        exact ih m5 x1 (x2 + 1) _ h
      · rw [if_pos q8] at h
        refine ug_iload_n 2 dX7_lasts_59 rfl rfl ?_
        obtain rfl := Option.some.inj h
        exact ug_iret dX7_lasts_60
def f_X7_lasts (mem : Um) (x1 : Int32) : Option (Um × (Int32 ⊕ String)) :=
  ubx (f_X7_needTenant mem x1) (fun m1 r2 => ubi (f_X4_has 23 m1 x1) (fun m5 r6 => if r6 = 0 then (some (m5, .inl (-1))) else (ubi (f_X4_copyFrom m5) (fun m9 r10 => f_X7_lasts_b31  UF m9 x1 1))))
set_option maxRecDepth 20000 in
theorem t_X7_lasts {l : Launch} {E : Ue} (mem : Um) (x1 : Int32) (z : Um × (Int32 ⊕ String)) (h : f_X7_lasts  mem x1 = some z) : ug l E 7 (uzc z) (uzs z) cX7_lasts 3 RX7 (some .int) [] (uzx_i z) 0 0 0 [(0, .ref (ue_d E 0)), (1, .int x1)] [] mem := by
  rw [f_X7_lasts] at h
  refine ug_aload_n 0 dX7_lasts_0 rfl rfl ?_
  refine ug_iload_n 1 dX7_lasts_1 rfl rfl ?_
  rcases ubx_some h with ⟨m1, r2, h3, h⟩ | ⟨m1, X4, h3, rfl⟩
  · refine ug_callVv [.int x1] (c_X7_needTenant_r  h3) kc_X7_212 ro_0 rfl (S := []) rfl (Nat.le_of_ble_eq_true rfl) (Nat.le_of_ble_eq_true rfl) (Nat.le_of_ble_eq_true rfl) dX7_lasts_2 ?_
    refine ug_aload_n 0 dX7_lasts_5 rfl rfl ?_
    refine ug_getR kf_X7_54 gr_0_6 dX7_lasts_6 ?_
    refine ug_iload_n 1 dX7_lasts_9 rfl rfl ?_
    obtain ⟨m5, r6, h7, h⟩ := ubi_some h
    refine ug_callVi [.int x1] (c_X4_has (Or.inl rfl) h7) kc_X7_215 ro_23 rfl (S := []) rfl (Nat.le_of_ble_eq_true rfl) (Nat.le_of_ble_eq_true rfl) (Nat.le_of_ble_eq_true rfl) dX7_lasts_10 ?_
    refine ug_if_ne 18 dX7_lasts_13 (by decide) (fun q8 => ?_) (fun q8 => ?_)
    · rw [if_neg q8] at h
      refine ug_aload_n 0 dX7_lasts_18 rfl rfl ?_
      refine ug_getR kf_X7_58 gr_0_7 dX7_lasts_19 ?_
      refine ug_aload_n 0 dX7_lasts_22 rfl rfl ?_
      refine ug_getR kf_X7_54 gr_0_6 dX7_lasts_23 ?_
      obtain ⟨m9, r10, h11, h⟩ := ubi_some h
      refine ug_callVv [.ref (ue_d E 23)] (c_X4_copyFrom  h11) kc_X7_259 ro_25 rfl (S := []) rfl (Nat.le_of_ble_eq_true rfl) (Nat.le_of_ble_eq_true rfl) (Nat.le_of_ble_eq_true rfl) dX7_lasts_26 ?_
      refine ug_iconst dX7_lasts_29 un_iconst_1 ?_
      refine ug_istore_n [(2, .int 1), (0, .ref (ue_d E 0)), (1, .int x1)] dX7_lasts_30 rfl (Nat.le_of_ble_eq_true rfl) rfl ?_
      refine ug_sub [(0, .ref (ue_d E 0)), (1, .int x1), (2, .int 1)] [1, 2, 0] rfl ?_
      exact t_X7_lasts_b31  UF m9 x1 1 _ h
    · rw [if_pos q8] at h
      refine ug_iconst dX7_lasts_16 un_iconst_m1 ?_
      obtain rfl := Option.some.inj h
      exact ug_iret dX7_lasts_17
  · exact ug_callVx [.int x1] (c_X7_needTenant_x  h3) kc_X7_212 ro_0 rfl (S := []) rfl (Nat.le_of_ble_eq_true rfl) (Nat.le_of_ble_eq_true rfl) (Nat.le_of_ble_eq_true rfl) ⟨Nat.le_refl 1, Nat.le_refl 6⟩ dX7_lasts_2
theorem c_X7_lasts_r {l : Launch} {E : Ue} {mem : Um} {x1 : Int32} {m1 : Um} {r : Int32} (h : f_X7_lasts  mem x1 = some (m1, .inl r)) : ucr l E 7 0 0 yX7_lasts cX7_lasts 3 (some .int) [.ref (ue_d E 0), .int x1] mem (some (.int r)) m1 := ucr_of rfl (Nat.le_of_ble_eq_true rfl) (t_X7_lasts  mem x1 _ h)
theorem c_X7_lasts_x {l : Launch} {E : Ue} {mem : Um} {x1 : Int32} {m1 : Um} {X : String} (h : f_X7_lasts  mem x1 = some (m1, .inr X)) : ucx l E 7 1 6 yX7_lasts cX7_lasts 3 (some .int) [.ref (ue_d E 0), .int x1] mem X m1 := ucx_of rfl (Nat.le_of_ble_eq_true rfl) (t_X7_lasts  mem x1 _ h)
-- X7_offer
def f_X7_offer (mem : Um) (x1 : Int32) (x2 : Int32) : Option (Um × (Int32 ⊕ String)) :=
  ubx (f_X7_needTenant mem x1) (fun m1 r2 => ubx (f_X7_need m1 x2 1 20) (fun m5 r6 => ubi (f_X4_has 23 m5 x1) (fun m9 r10 => if r10 = 0 then (ubi (f_X4_copyFrom m9) (fun m13 r14 => ugd (uin (8 + x1) 28) (ubi (f_X4_putBubble 25 m13 x1 x2 (m13 26 (8 + x1).toNatClampNeg) 0) (fun m17 r18 => ubi (f_X4_worthOf 25 m17 x1) (fun m20 r21 => some (m20, .inl r21)))))) else (some (m9, .inl (-1))))))
set_option maxRecDepth 20000 in
theorem t_X7_offer {l : Launch} {E : Ue} (mem : Um) (x1 : Int32) (x2 : Int32) (z : Um × (Int32 ⊕ String)) (h : f_X7_offer  mem x1 x2 = some z) : ug l E 7 (uzc z) (uzs z) cX7_offer 3 RX7 (some .int) [] (uzx_i z) 0 0 0 [(0, .ref (ue_d E 0)), (1, .int x1), (2, .int x2)] [] mem := by
  rw [f_X7_offer] at h
  refine ug_aload_n 0 dX7_offer_0 rfl rfl ?_
  refine ug_iload_n 1 dX7_offer_1 rfl rfl ?_
  rcases ubx_some h with ⟨m1, r2, h3, h⟩ | ⟨m1, X4, h3, rfl⟩
  · refine ug_callVv [.int x1] (c_X7_needTenant_r  h3) kc_X7_212 ro_0 rfl (S := []) rfl (Nat.le_of_ble_eq_true rfl) (Nat.le_of_ble_eq_true rfl) (Nat.le_of_ble_eq_true rfl) dX7_offer_2 ?_
    refine ug_aload_n 0 dX7_offer_5 rfl rfl ?_
    refine ug_iload_n 2 dX7_offer_6 rfl rfl ?_
    refine ug_iconst dX7_offer_7 un_iconst_1 ?_
    refine ug_bipush dX7_offer_8 un_bipush_20 ?_
    rcases ubx_some h with ⟨m5, r6, h7, h⟩ | ⟨m5, X8, h7, rfl⟩
    · refine ug_callVv [.int x2, .int 1, .int 20] (c_X7_need_r  h7) kc_X7_102 ro_0 rfl (S := []) rfl (Nat.le_of_ble_eq_true rfl) (Nat.le_of_ble_eq_true rfl) (Nat.le_of_ble_eq_true rfl) dX7_offer_10 ?_
      refine ug_aload_n 0 dX7_offer_13 rfl rfl ?_
      refine ug_getR kf_X7_54 gr_0_6 dX7_offer_14 ?_
      refine ug_iload_n 1 dX7_offer_17 rfl rfl ?_
      obtain ⟨m9, r10, h11, h⟩ := ubi_some h
      refine ug_callVi [.int x1] (c_X4_has (Or.inl rfl) h11) kc_X7_215 ro_23 rfl (S := []) rfl (Nat.le_of_ble_eq_true rfl) (Nat.le_of_ble_eq_true rfl) (Nat.le_of_ble_eq_true rfl) dX7_offer_18 ?_
      refine ug_if_eq 26 dX7_offer_21 (by decide) (fun q12 => ?_) (fun q12 => ?_)
      · rw [if_pos q12] at h
        refine ug_aload_n 0 dX7_offer_26 rfl rfl ?_
        refine ug_getR kf_X7_58 gr_0_7 dX7_offer_27 ?_
        refine ug_aload_n 0 dX7_offer_30 rfl rfl ?_
        refine ug_getR kf_X7_54 gr_0_6 dX7_offer_31 ?_
        obtain ⟨m13, r14, h15, h⟩ := ubi_some h
        refine ug_callVv [.ref (ue_d E 23)] (c_X4_copyFrom  h15) kc_X7_259 ro_25 rfl (S := []) rfl (Nat.le_of_ble_eq_true rfl) (Nat.le_of_ble_eq_true rfl) (Nat.le_of_ble_eq_true rfl) dX7_offer_34 ?_
        refine ug_aload_n 0 dX7_offer_37 rfl rfl ?_
        refine ug_getR kf_X7_58 gr_0_7 dX7_offer_38 ?_
        refine ug_iload_n 1 dX7_offer_41 rfl rfl ?_
        refine ug_iload_n 2 dX7_offer_42 rfl rfl ?_
        refine ug_aload_n 0 dX7_offer_43 rfl rfl ?_
        refine ug_getR kf_X7_58 gr_0_7 dX7_offer_44 ?_
        refine ug_getR kf_X7_144 gr_25_2 dX7_offer_47 ?_
        refine ug_bipush dX7_offer_50 un_bipush_8 ?_
        refine ug_iload_n 1 dX7_offer_52 rfl rfl ?_
        refine ug_iadd dX7_offer_53 ?_
        obtain ⟨g16, h⟩ := ugd_some h
        refine ug_iald al_26 (uin_ok g16) dX7_offer_54 ?_
        refine ug_iconst dX7_offer_55 un_iconst_0 ?_
        obtain ⟨m17, r18, h19, h⟩ := ubi_some h
        refine ug_callVv [.int x1, .int x2, .int (m13 26 (8 + x1).toNatClampNeg), .int 0] (c_X4_putBubble (Or.inr rfl) h19) kc_X7_266 ro_25 rfl (S := []) rfl (Nat.le_of_ble_eq_true rfl) (Nat.le_of_ble_eq_true rfl) (Nat.le_of_ble_eq_true rfl) dX7_offer_56 ?_
        refine ug_aload_n 0 dX7_offer_59 rfl rfl ?_
        refine ug_getR kf_X7_58 gr_0_7 dX7_offer_60 ?_
        refine ug_iload_n 1 dX7_offer_63 rfl rfl ?_
        obtain ⟨m20, r21, h22, h⟩ := ubi_some h
        refine ug_callVi [.int x1] (c_X4_worthOf (Or.inr rfl) h22) kc_X7_222 ro_25 rfl (S := []) rfl (Nat.le_of_ble_eq_true rfl) (Nat.le_of_ble_eq_true rfl) (Nat.le_of_ble_eq_true rfl) dX7_offer_64 ?_
        obtain rfl := Option.some.inj h
        exact ug_iret dX7_offer_67
      · rw [if_neg q12] at h
        refine ug_iconst dX7_offer_24 un_iconst_m1 ?_
        obtain rfl := Option.some.inj h
        exact ug_iret dX7_offer_25
    · exact ug_callVx [.int x2, .int 1, .int 20] (c_X7_need_x  h7) kc_X7_102 ro_0 rfl (S := []) rfl (Nat.le_of_ble_eq_true rfl) (Nat.le_of_ble_eq_true rfl) (Nat.le_of_ble_eq_true rfl) ⟨Nat.le_refl 1, Nat.le_refl 6⟩ dX7_offer_10
  · exact ug_callVx [.int x1] (c_X7_needTenant_x  h3) kc_X7_212 ro_0 rfl (S := []) rfl (Nat.le_of_ble_eq_true rfl) (Nat.le_of_ble_eq_true rfl) (Nat.le_of_ble_eq_true rfl) ⟨Nat.le_refl 1, Nat.le_refl 6⟩ dX7_offer_2
theorem c_X7_offer_r {l : Launch} {E : Ue} {mem : Um} {x1 : Int32} {x2 : Int32} {m1 : Um} {r : Int32} (h : f_X7_offer  mem x1 x2 = some (m1, .inl r)) : ucr l E 7 0 0 yX7_offer cX7_offer 3 (some .int) [.ref (ue_d E 0), .int x1, .int x2] mem (some (.int r)) m1 := ucr_of rfl (Nat.le_of_ble_eq_true rfl) (t_X7_offer  mem x1 x2 _ h)
theorem c_X7_offer_x {l : Launch} {E : Ue} {mem : Um} {x1 : Int32} {x2 : Int32} {m1 : Um} {X : String} (h : f_X7_offer  mem x1 x2 = some (m1, .inr X)) : ucx l E 7 1 6 yX7_offer cX7_offer 3 (some .int) [.ref (ue_d E 0), .int x1, .int x2] mem X m1 := ucx_of rfl (Nat.le_of_ble_eq_true rfl) (t_X7_offer  mem x1 x2 _ h)
-- X7_lost
def f_X7_lost_b29 (mem : Um) (y0 : Int32) : Option (Um × (Int32 ⊕ String)) :=
  ubi (f_X4_carriedOff 23 mem y0) (fun m1 r2 => some (m1, .inl r2))
set_option maxRecDepth 20000 in
theorem t_X7_lost_b29 {l : Launch} {E : Ue} (mem : Um) (y0 : Int32) (z : Um × (Int32 ⊕ String)) (h : f_X7_lost_b29  mem y0 = some z) : ug l E 7 (uzc z) (uzs z) cX7_lost 3 RX7 (some .int) [] (uzx_i z) 0 0 29 [] [.int y0, .ref (ue_d E 23)] mem := by
  rw [f_X7_lost_b29] at h
  obtain ⟨m1, r2, h3, h⟩ := ubi_some h
  refine ug_callVi [.int y0] (c_X4_carriedOff (Or.inl rfl) h3) kc_X7_270 ro_23 rfl (S := []) rfl (Nat.le_of_ble_eq_true rfl) (Nat.le_of_ble_eq_true rfl) (Nat.le_of_ble_eq_true rfl) dX7_lost_29 ?_
  obtain rfl := Option.some.inj h
  exact ug_iret dX7_lost_32
def f_X7_lost (mem : Um) (x1 : Int32) (x2 : Int32) : Option (Um × (Int32 ⊕ String)) :=
  ubx (f_X7_need mem x1 1 20) (fun m1 r2 => ubx (f_X7_need m1 x2 0 1) (fun m5 r6 => if x2 = 0 then (f_X7_lost_b29 m5 x1) else (f_X7_lost_b29 m5 (-x1))))
set_option maxRecDepth 20000 in
theorem t_X7_lost {l : Launch} {E : Ue} (mem : Um) (x1 : Int32) (x2 : Int32) (z : Um × (Int32 ⊕ String)) (h : f_X7_lost  mem x1 x2 = some z) : ug l E 7 (uzc z) (uzs z) cX7_lost 3 RX7 (some .int) [] (uzx_i z) 0 0 0 [(0, .ref (ue_d E 0)), (1, .int x1), (2, .int x2)] [] mem := by
  rw [f_X7_lost] at h
  refine ug_aload_n 0 dX7_lost_0 rfl rfl ?_
  refine ug_iload_n 1 dX7_lost_1 rfl rfl ?_
  refine ug_iconst dX7_lost_2 un_iconst_1 ?_
  refine ug_bipush dX7_lost_3 un_bipush_20 ?_
  rcases ubx_some h with ⟨m1, r2, h3, h⟩ | ⟨m1, X4, h3, rfl⟩
  · refine ug_callVv [.int x1, .int 1, .int 20] (c_X7_need_r  h3) kc_X7_102 ro_0 rfl (S := []) rfl (Nat.le_of_ble_eq_true rfl) (Nat.le_of_ble_eq_true rfl) (Nat.le_of_ble_eq_true rfl) dX7_lost_5 ?_
    refine ug_aload_n 0 dX7_lost_8 rfl rfl ?_
    refine ug_iload_n 2 dX7_lost_9 rfl rfl ?_
    refine ug_iconst dX7_lost_10 un_iconst_0 ?_
    refine ug_iconst dX7_lost_11 un_iconst_1 ?_
    rcases ubx_some h with ⟨m5, r6, h7, h⟩ | ⟨m5, X8, h7, rfl⟩
    · refine ug_callVv [.int x2, .int 0, .int 1] (c_X7_need_r  h7) kc_X7_102 ro_0 rfl (S := []) rfl (Nat.le_of_ble_eq_true rfl) (Nat.le_of_ble_eq_true rfl) (Nat.le_of_ble_eq_true rfl) dX7_lost_12 ?_
      refine ug_aload_n 0 dX7_lost_15 rfl rfl ?_
      refine ug_getR kf_X7_54 gr_0_6 dX7_lost_16 ?_
      refine ug_iload_n 2 dX7_lost_19 rfl rfl ?_
      refine ug_if_ne 27 dX7_lost_20 (by decide) (fun q9 => ?_) (fun q9 => ?_)
      · rw [if_neg q9] at h
        refine ug_iload_n 1 dX7_lost_27 rfl rfl ?_
        refine ug_ineg dX7_lost_28 ?_
        refine ug_sub [] [] rfl ?_
        exact t_X7_lost_b29 m5 (-x1) _ h
      · rw [if_pos q9] at h
        refine ug_iload_n 1 dX7_lost_23 rfl rfl ?_
        refine ug_goto 29 dX7_lost_24 (by decide) ?_
        refine ug_sub [] [] rfl ?_
        exact t_X7_lost_b29 m5 x1 _ h
    · exact ug_callVx [.int x2, .int 0, .int 1] (c_X7_need_x  h7) kc_X7_102 ro_0 rfl (S := []) rfl (Nat.le_of_ble_eq_true rfl) (Nat.le_of_ble_eq_true rfl) (Nat.le_of_ble_eq_true rfl) ⟨Nat.le_refl 1, Nat.le_refl 6⟩ dX7_lost_12
  · exact ug_callVx [.int x1, .int 1, .int 20] (c_X7_need_x  h3) kc_X7_102 ro_0 rfl (S := []) rfl (Nat.le_of_ble_eq_true rfl) (Nat.le_of_ble_eq_true rfl) (Nat.le_of_ble_eq_true rfl) ⟨Nat.le_refl 1, Nat.le_refl 6⟩ dX7_lost_5
theorem c_X7_lost_r {l : Launch} {E : Ue} {mem : Um} {x1 : Int32} {x2 : Int32} {m1 : Um} {r : Int32} (h : f_X7_lost  mem x1 x2 = some (m1, .inl r)) : ucr l E 7 0 0 yX7_lost cX7_lost 3 (some .int) [.ref (ue_d E 0), .int x1, .int x2] mem (some (.int r)) m1 := ucr_of rfl (Nat.le_of_ble_eq_true rfl) (t_X7_lost  mem x1 x2 _ h)
theorem c_X7_lost_x {l : Launch} {E : Ue} {mem : Um} {x1 : Int32} {x2 : Int32} {m1 : Um} {X : String} (h : f_X7_lost  mem x1 x2 = some (m1, .inr X)) : ucx l E 7 1 6 yX7_lost cX7_lost 3 (some .int) [.ref (ue_d E 0), .int x1, .int x2] mem X m1 := ucx_of rfl (Nat.le_of_ble_eq_true rfl) (t_X7_lost  mem x1 x2 _ h)
-- X7_needs
def f_X7_needs_b51 (mem : Um) (y0 : Int32) : Option (Um × (Int32 ⊕ String)) :=
  some (mem, .inl y0)
set_option maxRecDepth 20000 in
theorem t_X7_needs_b51 {l : Launch} {E : Ue} (mem : Um) (y0 : Int32) (z : Um × (Int32 ⊕ String)) (h : f_X7_needs_b51  mem y0 = some z) : ug l E 7 (uzc z) (uzs z) cX7_needs 4 RX7 (some .int) [] (uzx_i z) 0 0 51 [] [.int y0] mem := by
  rw [f_X7_needs_b51] at h
  obtain rfl := Option.some.inj h
  exact ug_iret dX7_needs_51
def f_X7_needs (mem : Um) (x1 : Int32) (x2 : Int32) : Option (Um × (Int32 ⊕ String)) :=
  ubx (f_X7_needTenant mem x1) (fun m1 r2 => ubx (f_X7_needView m1 x2) (fun m5 r6 => ugd (uin x2 8) (ugd (uin (8 + x1) 28) (if (umabs ((m5 4 x2.toNatClampNeg) - (m5 24 (8 + x1).toNatClampNeg))) ≤ 20 then (f_X7_needs_b51 m5 (ummax 1 (umabs ((m5 4 x2.toNatClampNeg) - (m5 24 (8 + x1).toNatClampNeg))))) else (f_X7_needs_b51 m5 (-1))))))
set_option maxRecDepth 20000 in
theorem t_X7_needs {l : Launch} {E : Ue} (mem : Um) (x1 : Int32) (x2 : Int32) (z : Um × (Int32 ⊕ String)) (h : f_X7_needs  mem x1 x2 = some z) : ug l E 7 (uzc z) (uzs z) cX7_needs 4 RX7 (some .int) [] (uzx_i z) 0 0 0 [(0, .ref (ue_d E 0)), (1, .int x1), (2, .int x2)] [] mem := by
  rw [f_X7_needs] at h
  refine ug_aload_n 0 dX7_needs_0 rfl rfl ?_
  refine ug_iload_n 1 dX7_needs_1 rfl rfl ?_
  rcases ubx_some h with ⟨m1, r2, h3, h⟩ | ⟨m1, X4, h3, rfl⟩
  · refine ug_callVv [.int x1] (c_X7_needTenant_r  h3) kc_X7_212 ro_0 rfl (S := []) rfl (Nat.le_of_ble_eq_true rfl) (Nat.le_of_ble_eq_true rfl) (Nat.le_of_ble_eq_true rfl) dX7_needs_2 ?_
    refine ug_aload_n 0 dX7_needs_5 rfl rfl ?_
    refine ug_iload_n 2 dX7_needs_6 rfl rfl ?_
    rcases ubx_some h with ⟨m5, r6, h7, h⟩ | ⟨m5, X8, h7, rfl⟩
    · refine ug_callVv [.int x2] (c_X7_needView_r  h7) kc_X7_193 ro_0 rfl (S := []) rfl (Nat.le_of_ble_eq_true rfl) (Nat.le_of_ble_eq_true rfl) (Nat.le_of_ble_eq_true rfl) dX7_needs_7 ?_
      refine ug_aload_n 0 dX7_needs_10 rfl rfl ?_
      refine ug_getR kf_X7_21 gr_0_1 dX7_needs_11 ?_
      refine ug_getR kf_X7_196 gr_3_3 dX7_needs_14 ?_
      refine ug_iload_n 2 dX7_needs_17 rfl rfl ?_
      obtain ⟨g9, h⟩ := ugd_some h
      refine ug_iald al_4 (uin_ok g9) dX7_needs_18 ?_
      refine ug_aload_n 0 dX7_needs_19 rfl rfl ?_
      refine ug_getR kf_X7_54 gr_0_6 dX7_needs_20 ?_
      refine ug_getR kf_X7_144 gr_23_2 dX7_needs_23 ?_
      refine ug_bipush dX7_needs_26 un_bipush_8 ?_
      refine ug_iload_n 1 dX7_needs_28 rfl rfl ?_
      refine ug_iadd dX7_needs_29 ?_
      obtain ⟨g10, h⟩ := ugd_some h
      refine ug_iald al_24 (uin_ok g10) dX7_needs_30 ?_
      refine ug_isub dX7_needs_31 ?_
      refine ug_mabs kl_X7_244 (Nat.le_of_ble_eq_true rfl) (Nat.le_of_ble_eq_true rfl) dX7_needs_32 ?_
      refine ug_istore_n [(3, .int (umabs ((m5 4 x2.toNatClampNeg) - (m5 24 (8 + x1).toNatClampNeg)))), (0, .ref (ue_d E 0)), (1, .int x1), (2, .int x2)] dX7_needs_35 rfl (Nat.le_of_ble_eq_true rfl) rfl ?_
      refine ug_iload_n 0 dX7_needs_36 rfl rfl ?_
      refine ug_bipush dX7_needs_37 un_bipush_20 ?_
      refine ug_icmp_le 46 dX7_needs_39 (by decide) (fun q11 => ?_) (fun q11 => ?_)
      · rw [if_pos q11] at h
        refine ug_iconst dX7_needs_46 un_iconst_1 ?_
        refine ug_iload_n 0 dX7_needs_47 rfl rfl ?_
        refine ug_mmax kl_X7_273 (Nat.le_of_ble_eq_true rfl) (Nat.le_of_ble_eq_true rfl) dX7_needs_48 ?_
        refine ug_sub [] [] rfl ?_
        exact t_X7_needs_b51 m5 (ummax 1 (umabs ((m5 4 x2.toNatClampNeg) - (m5 24 (8 + x1).toNatClampNeg)))) _ h
      · rw [if_neg q11] at h
        refine ug_iconst dX7_needs_42 un_iconst_m1 ?_
        refine ug_goto 51 dX7_needs_43 (by decide) ?_
        refine ug_sub [] [] rfl ?_
        exact t_X7_needs_b51 m5 (-1) _ h
    · exact ug_callVx [.int x2] (c_X7_needView_x  h7) kc_X7_193 ro_0 rfl (S := []) rfl (Nat.le_of_ble_eq_true rfl) (Nat.le_of_ble_eq_true rfl) (Nat.le_of_ble_eq_true rfl) ⟨Nat.le_refl 1, Nat.le_refl 6⟩ dX7_needs_7
  · exact ug_callVx [.int x1] (c_X7_needTenant_x  h3) kc_X7_212 ro_0 rfl (S := []) rfl (Nat.le_of_ble_eq_true rfl) (Nat.le_of_ble_eq_true rfl) (Nat.le_of_ble_eq_true rfl) ⟨Nat.le_refl 1, Nat.le_refl 6⟩ dX7_needs_2
theorem c_X7_needs_r {l : Launch} {E : Ue} {mem : Um} {x1 : Int32} {x2 : Int32} {m1 : Um} {r : Int32} (h : f_X7_needs  mem x1 x2 = some (m1, .inl r)) : ucr l E 7 0 0 yX7_needs cX7_needs 4 (some .int) [.ref (ue_d E 0), .int x1, .int x2] mem (some (.int r)) m1 := ucr_of rfl (Nat.le_of_ble_eq_true rfl) (t_X7_needs  mem x1 x2 _ h)
theorem c_X7_needs_x {l : Launch} {E : Ue} {mem : Um} {x1 : Int32} {x2 : Int32} {m1 : Um} {X : String} (h : f_X7_needs  mem x1 x2 = some (m1, .inr X)) : ucx l E 7 1 6 yX7_needs cX7_needs 4 (some .int) [.ref (ue_d E 0), .int x1, .int x2] mem X m1 := ucx_of rfl (Nat.le_of_ble_eq_true rfl) (t_X7_needs  mem x1 x2 _ h)
-- X7_buyers
def f_X7_buyers_b51 (k18 : Um → Int32 → Int32 → Int32 → Int32 → Option (Um × (Int32 ⊕ String))) (mem : Um) (x1 : Int32) (x2 : Int32) (x3 : Int32) (x4 : Int32) : Option (Um × (Int32 ⊕ String)) :=
  k18 mem x1 x2 x3 (x4 + 1)
set_option maxRecDepth 20000 in
theorem t_X7_buyers_b51 {l : Launch} {E : Ue} (k18 : Um → Int32 → Int32 → Int32 → Int32 → Option (Um × (Int32 ⊕ String))) (hk18 : ∀ (mem : Um) (x1 : Int32) (x2 : Int32) (x3 : Int32) (x4 : Int32) (z : Um × (Int32 ⊕ String)), k18 mem x1 x2 x3 x4 = some z → ug l E 7 (uzc z) (uzs z) cX7_buyers 5 RX7 (some .int) [] (uzx_i z) 0 0 18 [(0, .ref (ue_d E 0)), (1, .int x1), (2, .int x2), (3, .int x3), (4, .int x4)] [] mem) (mem : Um) (x1 : Int32) (x2 : Int32) (x3 : Int32) (x4 : Int32) (z : Um × (Int32 ⊕ String)) (h : f_X7_buyers_b51 k18 mem x1 x2 x3 x4 = some z) : ug l E 7 (uzc z) (uzs z) cX7_buyers 5 RX7 (some .int) [] (uzx_i z) 0 0 51 [(0, .ref (ue_d E 0)), (1, .int x1), (2, .int x2), (3, .int x3), (4, .int x4)] [] mem := by
  rw [f_X7_buyers_b51] at h
  refine ug_iinc (v := (x4 + 1)) [(4, .int (x4 + 1)), (0, .ref (ue_d E 0)), (1, .int x1), (2, .int x2), (3, .int x3)] 4 dX7_buyers_51 rfl rfl (Nat.le_of_ble_eq_true rfl) rfl ?_
  refine ug_goto 18 dX7_buyers_54 (by decide) ?_
  refine ug_sub [(0, .ref (ue_d E 0)), (1, .int x1), (2, .int x2), (3, .int x3), (4, .int (x4 + 1))] [1, 2, 3, 4, 0] rfl ?_
  exact hk18 mem x1 x2 x3 (x4 + 1) _ h
def f_X7_buyers_b18 : Nat → Um → Int32 → Int32 → Int32 → Int32 → Option (Um × (Int32 ⊕ String))
  | 0, _, _, _, _, _ => none
  | n + 1, mem, x1, x2, x3, x4 =>
    if (mem 3 1) ≤ x4 then (some (mem, .inl x3)) else (ubi (f_X4_canSell 23 mem x1 x4 x2) (fun m2 r3 => if r3 = 0 then (f_X7_buyers_b51 (f_X7_buyers_b18  n) m2 x1 x2 x3 x4) else (f_X7_buyers_b51 (f_X7_buyers_b18  n) m2 x1 x2 (x3 ||| (1 <<< (x4 &&& 31))) x4)))
set_option maxRecDepth 20000 in
theorem t_X7_buyers_b18 {l : Launch} {E : Ue} : ∀ (n : Nat) (mem : Um) (x1 : Int32) (x2 : Int32) (x3 : Int32) (x4 : Int32) (z : Um × (Int32 ⊕ String)), f_X7_buyers_b18  n mem x1 x2 x3 x4 = some z → ug l E 7 (uzc z) (uzs z) cX7_buyers 5 RX7 (some .int) [] (uzx_i z) 0 0 18 [(0, .ref (ue_d E 0)), (1, .int x1), (2, .int x2), (3, .int x3), (4, .int x4)] [] mem := by
  intro n
  induction n with
  | zero =>
    intro mem x1 x2 x3 x4 z h
    rw [f_X7_buyers_b18] at h
    cases h
  | succ n ih =>
    intro mem x1 x2 x3 x4 z h
    rw [f_X7_buyers_b18] at h
    refine ug_iload 4 dX7_buyers_18 rfl ?_
    refine ug_aload_n 0 dX7_buyers_20 rfl rfl ?_
    refine ug_getR kf_X7_21 gr_0_1 dX7_buyers_21 ?_
    refine ug_getI kf_X7_131 gi_3_1 dX7_buyers_24 ?_
    refine ug_icmp_ge 57 dX7_buyers_27 (by decide) (fun q1 => ?_) (fun q1 => ?_)
    · rw [if_pos q1] at h
      refine ug_iload_n 3 dX7_buyers_57 rfl rfl ?_
      obtain rfl := Option.some.inj h
      exact ug_iret dX7_buyers_58
    · rw [if_neg q1] at h
      refine ug_aload_n 0 dX7_buyers_30 rfl rfl ?_
      refine ug_getR kf_X7_54 gr_0_6 dX7_buyers_31 ?_
      refine ug_iload_n 1 dX7_buyers_34 rfl rfl ?_
      refine ug_iload 4 dX7_buyers_35 rfl ?_
      refine ug_iload_n 2 dX7_buyers_37 rfl rfl ?_
      obtain ⟨m2, r3, h4, h⟩ := ubi_some h
      refine ug_callVi [.int x1, .int x4, .int x2] (c_X4_canSell (Or.inl rfl) h4) kc_X7_276 ro_23 rfl (S := []) rfl (Nat.le_of_ble_eq_true rfl) (Nat.le_of_ble_eq_true rfl) (Nat.le_of_ble_eq_true rfl) dX7_buyers_38 ?_
      refine ug_if_eq 51 dX7_buyers_41 (by decide) (fun q5 => ?_) (fun q5 => ?_)
      · rw [if_pos q5] at h
        exact t_X7_buyers_b51 (f_X7_buyers_b18  n) ih m2 x1 x2 x3 x4 _ h
      · rw [if_neg q5] at h
        refine ug_iload_n 3 dX7_buyers_44 rfl rfl ?_
        refine ug_iconst dX7_buyers_45 un_iconst_1 ?_
        refine ug_iload 4 dX7_buyers_46 rfl ?_
        refine ug_ishl dX7_buyers_48 ?_
        refine ug_ior dX7_buyers_49 ?_
        refine ug_istore_n [(3, .int (x3 ||| (1 <<< (x4 &&& 31)))), (0, .ref (ue_d E 0)), (1, .int x1), (2, .int x2), (4, .int x4)] dX7_buyers_50 rfl (Nat.le_of_ble_eq_true rfl) rfl ?_
        refine ug_sub [(0, .ref (ue_d E 0)), (1, .int x1), (2, .int x2), (3, .int (x3 ||| (1 <<< (x4 &&& 31)))), (4, .int x4)] [1, 2, 3, 0, 4] rfl ?_
        exact t_X7_buyers_b51 (f_X7_buyers_b18  n) ih m2 x1 x2 (x3 ||| (1 <<< (x4 &&& 31))) x4 _ h
def f_X7_buyers (mem : Um) (x1 : Int32) (x2 : Int32) : Option (Um × (Int32 ⊕ String)) :=
  ubx (f_X7_needTenant mem x1) (fun m1 r2 => ubx (f_X7_need m1 x2 0 99) (fun m5 r6 => f_X7_buyers_b18  UF m5 x1 x2 0 0))
set_option maxRecDepth 20000 in
theorem t_X7_buyers {l : Launch} {E : Ue} (mem : Um) (x1 : Int32) (x2 : Int32) (z : Um × (Int32 ⊕ String)) (h : f_X7_buyers  mem x1 x2 = some z) : ug l E 7 (uzc z) (uzs z) cX7_buyers 5 RX7 (some .int) [] (uzx_i z) 0 0 0 [(0, .ref (ue_d E 0)), (1, .int x1), (2, .int x2)] [] mem := by
  rw [f_X7_buyers] at h
  refine ug_aload_n 0 dX7_buyers_0 rfl rfl ?_
  refine ug_iload_n 1 dX7_buyers_1 rfl rfl ?_
  rcases ubx_some h with ⟨m1, r2, h3, h⟩ | ⟨m1, X4, h3, rfl⟩
  · refine ug_callVv [.int x1] (c_X7_needTenant_r  h3) kc_X7_212 ro_0 rfl (S := []) rfl (Nat.le_of_ble_eq_true rfl) (Nat.le_of_ble_eq_true rfl) (Nat.le_of_ble_eq_true rfl) dX7_buyers_2 ?_
    refine ug_aload_n 0 dX7_buyers_5 rfl rfl ?_
    refine ug_iload_n 2 dX7_buyers_6 rfl rfl ?_
    refine ug_iconst dX7_buyers_7 un_iconst_0 ?_
    refine ug_bipush dX7_buyers_8 un_bipush_99 ?_
    rcases ubx_some h with ⟨m5, r6, h7, h⟩ | ⟨m5, X8, h7, rfl⟩
    · refine ug_callVv [.int x2, .int 0, .int 99] (c_X7_need_r  h7) kc_X7_102 ro_0 rfl (S := []) rfl (Nat.le_of_ble_eq_true rfl) (Nat.le_of_ble_eq_true rfl) (Nat.le_of_ble_eq_true rfl) dX7_buyers_10 ?_
      refine ug_iconst dX7_buyers_13 un_iconst_0 ?_
      refine ug_istore_n [(3, .int 0), (0, .ref (ue_d E 0)), (1, .int x1), (2, .int x2)] dX7_buyers_14 rfl (Nat.le_of_ble_eq_true rfl) rfl ?_
      refine ug_iconst dX7_buyers_15 un_iconst_0 ?_
      refine ug_istore [(4, .int 0), (3, .int 0), (0, .ref (ue_d E 0)), (1, .int x1), (2, .int x2)] dX7_buyers_16 (Nat.le_of_ble_eq_true rfl) rfl ?_
      refine ug_sub [(0, .ref (ue_d E 0)), (1, .int x1), (2, .int x2), (3, .int 0), (4, .int 0)] [2, 3, 4, 1, 0] rfl ?_
      exact t_X7_buyers_b18  UF m5 x1 x2 0 0 _ h
    · exact ug_callVx [.int x2, .int 0, .int 99] (c_X7_need_x  h7) kc_X7_102 ro_0 rfl (S := []) rfl (Nat.le_of_ble_eq_true rfl) (Nat.le_of_ble_eq_true rfl) (Nat.le_of_ble_eq_true rfl) ⟨Nat.le_refl 1, Nat.le_refl 6⟩ dX7_buyers_10
  · exact ug_callVx [.int x1] (c_X7_needTenant_x  h3) kc_X7_212 ro_0 rfl (S := []) rfl (Nat.le_of_ble_eq_true rfl) (Nat.le_of_ble_eq_true rfl) (Nat.le_of_ble_eq_true rfl) ⟨Nat.le_refl 1, Nat.le_refl 6⟩ dX7_buyers_2
theorem c_X7_buyers_r {l : Launch} {E : Ue} {mem : Um} {x1 : Int32} {x2 : Int32} {m1 : Um} {r : Int32} (h : f_X7_buyers  mem x1 x2 = some (m1, .inl r)) : ucr l E 7 0 0 yX7_buyers cX7_buyers 5 (some .int) [.ref (ue_d E 0), .int x1, .int x2] mem (some (.int r)) m1 := ucr_of rfl (Nat.le_of_ble_eq_true rfl) (t_X7_buyers  mem x1 x2 _ h)
theorem c_X7_buyers_x {l : Launch} {E : Ue} {mem : Um} {x1 : Int32} {x2 : Int32} {m1 : Um} {X : String} (h : f_X7_buyers  mem x1 x2 = some (m1, .inr X)) : ucx l E 7 1 6 yX7_buyers cX7_buyers 5 (some .int) [.ref (ue_d E 0), .int x1, .int x2] mem X m1 := ucx_of rfl (Nat.le_of_ble_eq_true rfl) (t_X7_buyers  mem x1 x2 _ h)
-- X7_affords
def f_X7_affords_b42 (k22 : Um → Int32 → Int32 → Int32 → Option (Um × (Int32 ⊕ String))) (mem : Um) (x1 : Int32) (x2 : Int32) (x3 : Int32) : Option (Um × (Int32 ⊕ String)) :=
  k22 mem x1 x2 (x3 + 1)
set_option maxRecDepth 20000 in
theorem t_X7_affords_b42 {l : Launch} {E : Ue} (k22 : Um → Int32 → Int32 → Int32 → Option (Um × (Int32 ⊕ String))) (hk22 : ∀ (mem : Um) (x1 : Int32) (x2 : Int32) (x3 : Int32) (z : Um × (Int32 ⊕ String)), k22 mem x1 x2 x3 = some z → ug l E 7 (uzc z) (uzs z) cX7_affords 4 RX7 (some .int) [] (uzx_i z) 0 0 22 [(0, .ref (ue_d E 0)), (1, .int x1), (2, .int x2), (3, .int x3)] [] mem) (mem : Um) (x1 : Int32) (x2 : Int32) (x3 : Int32) (z : Um × (Int32 ⊕ String)) (h : f_X7_affords_b42 k22 mem x1 x2 x3 = some z) : ug l E 7 (uzc z) (uzs z) cX7_affords 4 RX7 (some .int) [] (uzx_i z) 0 0 42 [(0, .ref (ue_d E 0)), (1, .int x1), (2, .int x2), (3, .int x3)] [] mem := by
  rw [f_X7_affords_b42] at h
  refine ug_iinc (v := (x3 + 1)) [(3, .int (x3 + 1)), (0, .ref (ue_d E 0)), (1, .int x1), (2, .int x2)] 3 dX7_affords_42 rfl rfl (Nat.le_of_ble_eq_true rfl) rfl ?_
  refine ug_goto 22 dX7_affords_45 (by decide) ?_
  refine ug_sub [(0, .ref (ue_d E 0)), (1, .int x1), (2, .int x2), (3, .int (x3 + 1))] [1, 2, 3, 0] rfl ?_
  exact hk22 mem x1 x2 (x3 + 1) _ h
def f_X7_affords_b22 : Nat → Um → Int32 → Int32 → Int32 → Option (Um × (Int32 ⊕ String))
  | 0, _, _, _, _ => none
  | n + 1, mem, x1, x2, x3 =>
    if 20 < x3 then (some (mem, .inl x2)) else (ubi (f_X4_canBlow 23 mem x1 x3) (fun m2 r3 => if r3 = 0 then (f_X7_affords_b42 (f_X7_affords_b22  n) m2 x1 x2 x3) else (f_X7_affords_b42 (f_X7_affords_b22  n) m2 x1 x3 x3)))
set_option maxRecDepth 20000 in
theorem t_X7_affords_b22 {l : Launch} {E : Ue} : ∀ (n : Nat) (mem : Um) (x1 : Int32) (x2 : Int32) (x3 : Int32) (z : Um × (Int32 ⊕ String)), f_X7_affords_b22  n mem x1 x2 x3 = some z → ug l E 7 (uzc z) (uzs z) cX7_affords 4 RX7 (some .int) [] (uzx_i z) 0 0 22 [(0, .ref (ue_d E 0)), (1, .int x1), (2, .int x2), (3, .int x3)] [] mem := by
  intro n
  induction n with
  | zero =>
    intro mem x1 x2 x3 z h
    rw [f_X7_affords_b22] at h
    cases h
  | succ n ih =>
    intro mem x1 x2 x3 z h
    rw [f_X7_affords_b22] at h
    refine ug_iload_n 3 dX7_affords_22 rfl rfl ?_
    refine ug_bipush dX7_affords_23 un_bipush_20 ?_
    refine ug_icmp_gt 48 dX7_affords_25 (by decide) (fun q1 => ?_) (fun q1 => ?_)
    · rw [if_pos q1] at h
      refine ug_iload_n 2 dX7_affords_48 rfl rfl ?_
      obtain rfl := Option.some.inj h
      exact ug_iret dX7_affords_49
    · rw [if_neg q1] at h
      refine ug_aload_n 0 dX7_affords_28 rfl rfl ?_
      refine ug_getR kf_X7_54 gr_0_6 dX7_affords_29 ?_
      refine ug_iload_n 1 dX7_affords_32 rfl rfl ?_
      refine ug_iload_n 3 dX7_affords_33 rfl rfl ?_
      obtain ⟨m2, r3, h4, h⟩ := ubi_some h
      refine ug_callVi [.int x1, .int x3] (c_X4_canBlow (Or.inl rfl) h4) kc_X7_280 ro_23 rfl (S := []) rfl (Nat.le_of_ble_eq_true rfl) (Nat.le_of_ble_eq_true rfl) (Nat.le_of_ble_eq_true rfl) dX7_affords_34 ?_
      refine ug_if_eq 42 dX7_affords_37 (by decide) (fun q5 => ?_) (fun q5 => ?_)
      · rw [if_pos q5] at h
        exact t_X7_affords_b42 (f_X7_affords_b22  n) ih m2 x1 x2 x3 _ h
      · rw [if_neg q5] at h
        refine ug_iload_n 3 dX7_affords_40 rfl rfl ?_
        refine ug_istore_n [(2, .int x3), (0, .ref (ue_d E 0)), (1, .int x1), (3, .int x3)] dX7_affords_41 rfl (Nat.le_of_ble_eq_true rfl) rfl ?_
        refine ug_sub [(0, .ref (ue_d E 0)), (1, .int x1), (2, .int x3), (3, .int x3)] [1, 2, 0, 3] rfl ?_
        exact t_X7_affords_b42 (f_X7_affords_b22  n) ih m2 x1 x3 x3 _ h
def f_X7_affords (mem : Um) (x1 : Int32) : Option (Um × (Int32 ⊕ String)) :=
  ubx (f_X7_needTenant mem x1) (fun m1 r2 => ubi (f_X4_has 23 m1 x1) (fun m5 r6 => if r6 = 0 then (f_X7_affords_b22  UF m5 x1 0 1) else (some (m5, .inl (-1)))))
set_option maxRecDepth 20000 in
theorem t_X7_affords {l : Launch} {E : Ue} (mem : Um) (x1 : Int32) (z : Um × (Int32 ⊕ String)) (h : f_X7_affords  mem x1 = some z) : ug l E 7 (uzc z) (uzs z) cX7_affords 4 RX7 (some .int) [] (uzx_i z) 0 0 0 [(0, .ref (ue_d E 0)), (1, .int x1)] [] mem := by
  rw [f_X7_affords] at h
  refine ug_aload_n 0 dX7_affords_0 rfl rfl ?_
  refine ug_iload_n 1 dX7_affords_1 rfl rfl ?_
  rcases ubx_some h with ⟨m1, r2, h3, h⟩ | ⟨m1, X4, h3, rfl⟩
  · refine ug_callVv [.int x1] (c_X7_needTenant_r  h3) kc_X7_212 ro_0 rfl (S := []) rfl (Nat.le_of_ble_eq_true rfl) (Nat.le_of_ble_eq_true rfl) (Nat.le_of_ble_eq_true rfl) dX7_affords_2 ?_
    refine ug_aload_n 0 dX7_affords_5 rfl rfl ?_
    refine ug_getR kf_X7_54 gr_0_6 dX7_affords_6 ?_
    refine ug_iload_n 1 dX7_affords_9 rfl rfl ?_
    obtain ⟨m5, r6, h7, h⟩ := ubi_some h
    refine ug_callVi [.int x1] (c_X4_has (Or.inl rfl) h7) kc_X7_215 ro_23 rfl (S := []) rfl (Nat.le_of_ble_eq_true rfl) (Nat.le_of_ble_eq_true rfl) (Nat.le_of_ble_eq_true rfl) dX7_affords_10 ?_
    refine ug_if_eq 18 dX7_affords_13 (by decide) (fun q8 => ?_) (fun q8 => ?_)
    · rw [if_pos q8] at h
      refine ug_iconst dX7_affords_18 un_iconst_0 ?_
      refine ug_istore_n [(2, .int 0), (0, .ref (ue_d E 0)), (1, .int x1)] dX7_affords_19 rfl (Nat.le_of_ble_eq_true rfl) rfl ?_
      refine ug_iconst dX7_affords_20 un_iconst_1 ?_
      refine ug_istore_n [(3, .int 1), (2, .int 0), (0, .ref (ue_d E 0)), (1, .int x1)] dX7_affords_21 rfl (Nat.le_of_ble_eq_true rfl) rfl ?_
      refine ug_sub [(0, .ref (ue_d E 0)), (1, .int x1), (2, .int 0), (3, .int 1)] [2, 3, 1, 0] rfl ?_
      exact t_X7_affords_b22  UF m5 x1 0 1 _ h
    · rw [if_neg q8] at h
      refine ug_iconst dX7_affords_16 un_iconst_m1 ?_
      obtain rfl := Option.some.inj h
      exact ug_iret dX7_affords_17
  · exact ug_callVx [.int x1] (c_X7_needTenant_x  h3) kc_X7_212 ro_0 rfl (S := []) rfl (Nat.le_of_ble_eq_true rfl) (Nat.le_of_ble_eq_true rfl) (Nat.le_of_ble_eq_true rfl) ⟨Nat.le_refl 1, Nat.le_refl 6⟩ dX7_affords_2
theorem c_X7_affords_r {l : Launch} {E : Ue} {mem : Um} {x1 : Int32} {m1 : Um} {r : Int32} (h : f_X7_affords  mem x1 = some (m1, .inl r)) : ucr l E 7 0 0 yX7_affords cX7_affords 4 (some .int) [.ref (ue_d E 0), .int x1] mem (some (.int r)) m1 := ucr_of rfl (Nat.le_of_ble_eq_true rfl) (t_X7_affords  mem x1 _ h)
theorem c_X7_affords_x {l : Launch} {E : Ue} {mem : Um} {x1 : Int32} {m1 : Um} {X : String} (h : f_X7_affords  mem x1 = some (m1, .inr X)) : ucx l E 7 1 6 yX7_affords cX7_affords 4 (some .int) [.ref (ue_d E 0), .int x1] mem X m1 := ucx_of rfl (Nat.le_of_ble_eq_true rfl) (t_X7_affords  mem x1 _ h)
-- X1_worthWithin
def f_X1_worthWithin_b46 (k5 : Um → Int32 → Int32 → Int32 → Int32 → Option (Um × Int32)) (mem : Um) (x1 : Int32) (x2 : Int32) (x3 : Int32) (x4 : Int32) : Option (Um × Int32) :=
  k5 mem x1 x2 x3 (x4 + 1)
set_option maxRecDepth 20000 in
theorem t_X1_worthWithin_b46 {l : Launch} {E : Ue} (k5 : Um → Int32 → Int32 → Int32 → Int32 → Option (Um × Int32)) (hk5 : ∀ (mem : Um) (x1 : Int32) (x2 : Int32) (x3 : Int32) (x4 : Int32) (z : Um × Int32), k5 mem x1 x2 x3 x4 = some z → ug l E 2 0 0 cX1_worthWithin 5 RX1 (some .int) [] (uz_i z) 0 0 5 [(0, .ref (ue_d E 3)), (1, .int x1), (2, .int x2), (3, .int x3), (4, .int x4)] [] mem) (mem : Um) (x1 : Int32) (x2 : Int32) (x3 : Int32) (x4 : Int32) (z : Um × Int32) (h : f_X1_worthWithin_b46 k5 mem x1 x2 x3 x4 = some z) : ug l E 2 0 0 cX1_worthWithin 5 RX1 (some .int) [] (uz_i z) 0 0 46 [(0, .ref (ue_d E 3)), (1, .int x1), (2, .int x2), (3, .int x3), (4, .int x4)] [] mem := by
  rw [f_X1_worthWithin_b46] at h
  refine ug_iinc (v := (x4 + 1)) [(4, .int (x4 + 1)), (0, .ref (ue_d E 3)), (1, .int x1), (2, .int x2), (3, .int x3)] 4 dX1_worthWithin_46 rfl rfl (Nat.le_of_ble_eq_true rfl) rfl ?_
  refine ug_goto 5 dX1_worthWithin_49 (by decide) ?_
  refine ug_sub [(0, .ref (ue_d E 3)), (1, .int x1), (2, .int x2), (3, .int x3), (4, .int (x4 + 1))] [1, 2, 3, 4, 0] rfl ?_
  exact hk5 mem x1 x2 x3 (x4 + 1) _ h
def f_X1_worthWithin_b5 : Nat → Um → Int32 → Int32 → Int32 → Int32 → Option (Um × Int32)
  | 0, _, _, _, _, _ => none
  | n + 1, mem, x1, x2, x3, x4 =>
    if (mem 3 0) ≤ x4 then (some (mem, x3)) else (ugd (uin x4 8) (if (mem 4 x4.toNatClampNeg) < x1 then (f_X1_worthWithin_b46 (f_X1_worthWithin_b5  n) mem x1 x2 x3 x4) else (ugd (uin x4 8) (if x2 < (mem 4 x4.toNatClampNeg) then (f_X1_worthWithin_b46 (f_X1_worthWithin_b5  n) mem x1 x2 x3 x4) else (ugd (uin x4 8) (f_X1_worthWithin_b46 (f_X1_worthWithin_b5  n) mem x1 x2 (x3 + (mem 5 x4.toNatClampNeg)) x4))))))
set_option maxRecDepth 20000 in
theorem t_X1_worthWithin_b5 {l : Launch} {E : Ue} : ∀ (n : Nat) (mem : Um) (x1 : Int32) (x2 : Int32) (x3 : Int32) (x4 : Int32) (z : Um × Int32), f_X1_worthWithin_b5  n mem x1 x2 x3 x4 = some z → ug l E 2 0 0 cX1_worthWithin 5 RX1 (some .int) [] (uz_i z) 0 0 5 [(0, .ref (ue_d E 3)), (1, .int x1), (2, .int x2), (3, .int x3), (4, .int x4)] [] mem := by
  intro n
  induction n with
  | zero =>
    intro mem x1 x2 x3 x4 z h
    rw [f_X1_worthWithin_b5] at h
    cases h
  | succ n ih =>
    intro mem x1 x2 x3 x4 z h
    rw [f_X1_worthWithin_b5] at h
    refine ug_iload 4 dX1_worthWithin_5 rfl ?_
    refine ug_aload_n 0 dX1_worthWithin_7 rfl rfl ?_
    refine ug_getI kf_X1_9 gi_3_0 dX1_worthWithin_8 ?_
    refine ug_icmp_ge 52 dX1_worthWithin_11 (by decide) (fun q1 => ?_) (fun q1 => ?_)
    · rw [if_pos q1] at h
      refine ug_iload_n 3 dX1_worthWithin_52 rfl rfl ?_
      obtain rfl := Option.some.inj h
      exact ug_iret dX1_worthWithin_53
    · rw [if_neg q1] at h
      refine ug_aload_n 0 dX1_worthWithin_14 rfl rfl ?_
      refine ug_getR kf_X1_21 gr_3_3 dX1_worthWithin_15 ?_
      refine ug_iload 4 dX1_worthWithin_18 rfl ?_
      obtain ⟨g2, h⟩ := ugd_some h
      refine ug_iald al_4 (uin_ok g2) dX1_worthWithin_20 ?_
      refine ug_iload_n 1 dX1_worthWithin_21 rfl rfl ?_
      refine ug_icmp_lt 46 dX1_worthWithin_22 (by decide) (fun q3 => ?_) (fun q3 => ?_)
      · rw [if_pos q3] at h
        exact t_X1_worthWithin_b46 (f_X1_worthWithin_b5  n) ih mem x1 x2 x3 x4 _ h
      · rw [if_neg q3] at h
        refine ug_aload_n 0 dX1_worthWithin_25 rfl rfl ?_
        refine ug_getR kf_X1_21 gr_3_3 dX1_worthWithin_26 ?_
        refine ug_iload 4 dX1_worthWithin_29 rfl ?_
        obtain ⟨g4, h⟩ := ugd_some h
        refine ug_iald al_4 (uin_ok g4) dX1_worthWithin_31 ?_
        refine ug_iload_n 2 dX1_worthWithin_32 rfl rfl ?_
        refine ug_icmp_gt 46 dX1_worthWithin_33 (by decide) (fun q5 => ?_) (fun q5 => ?_)
        · rw [if_pos q5] at h
          exact t_X1_worthWithin_b46 (f_X1_worthWithin_b5  n) ih mem x1 x2 x3 x4 _ h
        · rw [if_neg q5] at h
          refine ug_iload_n 3 dX1_worthWithin_36 rfl rfl ?_
          refine ug_aload_n 0 dX1_worthWithin_37 rfl rfl ?_
          refine ug_getR kf_X1_25 gr_3_4 dX1_worthWithin_38 ?_
          refine ug_iload 4 dX1_worthWithin_41 rfl ?_
          obtain ⟨g6, h⟩ := ugd_some h
          refine ug_iald al_5 (uin_ok g6) dX1_worthWithin_43 ?_
          refine ug_iadd dX1_worthWithin_44 ?_
          refine ug_istore_n [(3, .int (x3 + (mem 5 x4.toNatClampNeg))), (0, .ref (ue_d E 3)), (1, .int x1), (2, .int x2), (4, .int x4)] dX1_worthWithin_45 rfl (Nat.le_of_ble_eq_true rfl) rfl ?_
          refine ug_sub [(0, .ref (ue_d E 3)), (1, .int x1), (2, .int x2), (3, .int (x3 + (mem 5 x4.toNatClampNeg))), (4, .int x4)] [1, 2, 3, 0, 4] rfl ?_
          exact t_X1_worthWithin_b46 (f_X1_worthWithin_b5  n) ih mem x1 x2 (x3 + (mem 5 x4.toNatClampNeg)) x4 _ h
def f_X1_worthWithin (mem : Um) (x1 : Int32) (x2 : Int32) : Option (Um × Int32) :=
  f_X1_worthWithin_b5  UF mem x1 x2 0 0
set_option maxRecDepth 20000 in
theorem t_X1_worthWithin {l : Launch} {E : Ue} (mem : Um) (x1 : Int32) (x2 : Int32) (z : Um × Int32) (h : f_X1_worthWithin  mem x1 x2 = some z) : ug l E 2 0 0 cX1_worthWithin 5 RX1 (some .int) [] (uz_i z) 0 0 0 [(0, .ref (ue_d E 3)), (1, .int x1), (2, .int x2)] [] mem := by
  rw [f_X1_worthWithin] at h
  refine ug_iconst dX1_worthWithin_0 un_iconst_0 ?_
  refine ug_istore_n [(3, .int 0), (0, .ref (ue_d E 3)), (1, .int x1), (2, .int x2)] dX1_worthWithin_1 rfl (Nat.le_of_ble_eq_true rfl) rfl ?_
  refine ug_iconst dX1_worthWithin_2 un_iconst_0 ?_
  refine ug_istore [(4, .int 0), (3, .int 0), (0, .ref (ue_d E 3)), (1, .int x1), (2, .int x2)] dX1_worthWithin_3 (Nat.le_of_ble_eq_true rfl) rfl ?_
  refine ug_sub [(0, .ref (ue_d E 3)), (1, .int x1), (2, .int x2), (3, .int 0), (4, .int 0)] [2, 3, 4, 1, 0] rfl ?_
  exact t_X1_worthWithin_b5  UF mem x1 x2 0 0 _ h
theorem c_X1_worthWithin {l : Launch} {E : Ue} {mem : Um} {x1 : Int32} {x2 : Int32} {m1 : Um} {r : Int32} (h : f_X1_worthWithin  mem x1 x2 = some (m1, r)) : ucr l E 2 0 0 yX1_worthWithin cX1_worthWithin 5 (some .int) [.ref (ue_d E 3), .int x1, .int x2] mem (some (.int r)) m1 := ucr_of rfl (Nat.le_of_ble_eq_true rfl) (t_X1_worthWithin  mem x1 x2 _ h)
-- X7_pitch
def f_X7_pitch_b77 (mem : Um) (y0 : Int32) : Option (Um × (Int32 ⊕ String)) :=
  some (mem, .inl y0)
set_option maxRecDepth 20000 in
theorem t_X7_pitch_b77 {l : Launch} {E : Ue} (mem : Um) (y0 : Int32) (z : Um × (Int32 ⊕ String)) (h : f_X7_pitch_b77  mem y0 = some z) : ug l E 7 (uzc z) (uzs z) cX7_pitch 7 RX7 (some .int) [] (uzx_i z) 0 0 77 [] [.int y0] mem := by
  rw [f_X7_pitch_b77] at h
  obtain rfl := Option.some.inj h
  exact ug_iret dX7_pitch_77
def f_X7_pitch_b61 (k23 : Um → Int32 → Int32 → Int32 → Int32 → Int32 → Option (Um × (Int32 ⊕ String))) (mem : Um) (x1 : Int32) (x2 : Int32) (x3 : Int32) (x4 : Int32) (x5 : Int32) : Option (Um × (Int32 ⊕ String)) :=
  k23 mem x1 x2 x3 x4 (x5 + 1)
set_option maxRecDepth 20000 in
theorem t_X7_pitch_b61 {l : Launch} {E : Ue} (k23 : Um → Int32 → Int32 → Int32 → Int32 → Int32 → Option (Um × (Int32 ⊕ String))) (hk23 : ∀ (mem : Um) (x1 : Int32) (x2 : Int32) (x3 : Int32) (x4 : Int32) (x5 : Int32) (z : Um × (Int32 ⊕ String)), k23 mem x1 x2 x3 x4 x5 = some z → ug l E 7 (uzc z) (uzs z) cX7_pitch 7 RX7 (some .int) [] (uzx_i z) 0 0 23 [(0, .ref (ue_d E 0)), (1, .int x1), (2, .int x2), (3, .int x3), (4, .int x4), (5, .int x5)] [] mem) (mem : Um) (x1 : Int32) (x2 : Int32) (x3 : Int32) (x4 : Int32) (x5 : Int32) (z : Um × (Int32 ⊕ String)) (h : f_X7_pitch_b61 k23 mem x1 x2 x3 x4 x5 = some z) : ug l E 7 (uzc z) (uzs z) cX7_pitch 7 RX7 (some .int) [] (uzx_i z) 0 0 61 [(0, .ref (ue_d E 0)), (1, .int x1), (2, .int x2), (3, .int x3), (4, .int x4), (5, .int x5)] [] mem := by
  rw [f_X7_pitch_b61] at h
  refine ug_iinc (v := (x5 + 1)) [(5, .int (x5 + 1)), (0, .ref (ue_d E 0)), (1, .int x1), (2, .int x2), (3, .int x3), (4, .int x4)] 5 dX7_pitch_61 rfl rfl (Nat.le_of_ble_eq_true rfl) rfl ?_
  refine ug_goto 23 dX7_pitch_64 (by decide) ?_
  refine ug_sub [(0, .ref (ue_d E 0)), (1, .int x1), (2, .int x2), (3, .int x3), (4, .int x4), (5, .int (x5 + 1))] [1, 2, 3, 4, 5, 0] rfl ?_
  exact hk23 mem x1 x2 x3 x4 (x5 + 1) _ h
def f_X7_pitch_b23 : Nat → Um → Int32 → Int32 → Int32 → Int32 → Int32 → Option (Um × (Int32 ⊕ String))
  | 0, _, _, _, _, _, _ => none
  | n + 1, mem, x1, x2, x3, x4, x5 =>
    if 99 < x5 then (if x2 = 0 then (f_X7_pitch_b77 mem x3) else (f_X7_pitch_b77 mem x4)) else (ubi (f_X1_worthWithin mem (x5 - x1) (x5 + x1)) (fun m3 r4 => if r4 ≤ x4 then (f_X7_pitch_b61 (f_X7_pitch_b23  n) m3 x1 x2 x3 x4 x5) else (f_X7_pitch_b61 (f_X7_pitch_b23  n) m3 x1 x2 x5 r4 x5)))
set_option maxRecDepth 20000 in
theorem t_X7_pitch_b23 {l : Launch} {E : Ue} : ∀ (n : Nat) (mem : Um) (x1 : Int32) (x2 : Int32) (x3 : Int32) (x4 : Int32) (x5 : Int32) (z : Um × (Int32 ⊕ String)), f_X7_pitch_b23  n mem x1 x2 x3 x4 x5 = some z → ug l E 7 (uzc z) (uzs z) cX7_pitch 7 RX7 (some .int) [] (uzx_i z) 0 0 23 [(0, .ref (ue_d E 0)), (1, .int x1), (2, .int x2), (3, .int x3), (4, .int x4), (5, .int x5)] [] mem := by
  intro n
  induction n with
  | zero =>
    intro mem x1 x2 x3 x4 x5 z h
    rw [f_X7_pitch_b23] at h
    cases h
  | succ n ih =>
    intro mem x1 x2 x3 x4 x5 z h
    rw [f_X7_pitch_b23] at h
    refine ug_iload 5 dX7_pitch_23 rfl ?_
    refine ug_bipush dX7_pitch_25 un_bipush_99 ?_
    refine ug_icmp_gt 67 dX7_pitch_27 (by decide) (fun q1 => ?_) (fun q1 => ?_)
    · rw [if_pos q1] at h
      refine ug_iload_n 2 dX7_pitch_67 rfl rfl ?_
      refine ug_if_ne 75 dX7_pitch_68 (by decide) (fun q2 => ?_) (fun q2 => ?_)
      · rw [if_neg q2] at h
        refine ug_iload 4 dX7_pitch_75 rfl ?_
        refine ug_sub [] [] rfl ?_
        exact t_X7_pitch_b77 mem x4 _ h
      · rw [if_pos q2] at h
        refine ug_iload_n 3 dX7_pitch_71 rfl rfl ?_
        refine ug_goto 77 dX7_pitch_72 (by decide) ?_
        refine ug_sub [] [] rfl ?_
        exact t_X7_pitch_b77 mem x3 _ h
    · rw [if_neg q1] at h
      refine ug_aload_n 0 dX7_pitch_30 rfl rfl ?_
      refine ug_getR kf_X7_21 gr_0_1 dX7_pitch_31 ?_
      refine ug_iload 5 dX7_pitch_34 rfl ?_
      refine ug_iload_n 1 dX7_pitch_36 rfl rfl ?_
      refine ug_isub dX7_pitch_37 ?_
      refine ug_iload 5 dX7_pitch_38 rfl ?_
      refine ug_iload_n 1 dX7_pitch_40 rfl rfl ?_
      refine ug_iadd dX7_pitch_41 ?_
      obtain ⟨m3, r4, h5, h⟩ := ubi_some h
      refine ug_callVi [.int (x5 - x1), .int (x5 + x1)] (c_X1_worthWithin  h5) kc_X7_284 ro_3 rfl (S := []) rfl (Nat.le_of_ble_eq_true rfl) (Nat.le_of_ble_eq_true rfl) (Nat.le_of_ble_eq_true rfl) dX7_pitch_42 ?_
      refine ug_istore [(6, .int r4), (0, .ref (ue_d E 0)), (1, .int x1), (2, .int x2), (3, .int x3), (4, .int x4), (5, .int x5)] dX7_pitch_45 (Nat.le_of_ble_eq_true rfl) rfl ?_
      refine ug_iload 0 dX7_pitch_47 rfl ?_
      refine ug_iload 5 dX7_pitch_49 rfl ?_
      refine ug_icmp_le 61 dX7_pitch_51 (by decide) (fun q6 => ?_) (fun q6 => ?_)
      · rw [if_pos q6] at h
        refine ug_sub [(0, .ref (ue_d E 0)), (1, .int x1), (2, .int x2), (3, .int x3), (4, .int x4), (5, .int x5)] [1, 2, 3, 4, 5, 6] rfl ?_
        exact t_X7_pitch_b61 (f_X7_pitch_b23  n) ih m3 x1 x2 x3 x4 x5 _ h
      · rw [if_neg q6] at h
        refine ug_iload 6 dX7_pitch_54 rfl ?_
        refine ug_istore_n [(3, .int x5), (6, .int r4), (0, .ref (ue_d E 0)), (1, .int x1), (2, .int x2), (4, .int x4), (5, .int x5)] dX7_pitch_56 rfl (Nat.le_of_ble_eq_true rfl) rfl ?_
        refine ug_iload 1 dX7_pitch_57 rfl ?_
        refine ug_istore [(4, .int r4), (3, .int x5), (6, .int r4), (0, .ref (ue_d E 0)), (1, .int x1), (2, .int x2), (5, .int x5)] dX7_pitch_59 (Nat.le_of_ble_eq_true rfl) rfl ?_
        refine ug_sub [(0, .ref (ue_d E 0)), (1, .int x1), (2, .int x2), (3, .int x5), (4, .int r4), (5, .int x5)] [3, 4, 5, 1, 0, 6] rfl ?_
        exact t_X7_pitch_b61 (f_X7_pitch_b23  n) ih m3 x1 x2 x5 r4 x5 _ h
def f_X7_pitch (mem : Um) (x1 : Int32) (x2 : Int32) : Option (Um × (Int32 ⊕ String)) :=
  ubx (f_X7_need mem x1 1 20) (fun m1 r2 => ubx (f_X7_need m1 x2 0 1) (fun m5 r6 => f_X7_pitch_b23  UF m5 x1 x2 0 (-1) 0))
set_option maxRecDepth 20000 in
theorem t_X7_pitch {l : Launch} {E : Ue} (mem : Um) (x1 : Int32) (x2 : Int32) (z : Um × (Int32 ⊕ String)) (h : f_X7_pitch  mem x1 x2 = some z) : ug l E 7 (uzc z) (uzs z) cX7_pitch 7 RX7 (some .int) [] (uzx_i z) 0 0 0 [(0, .ref (ue_d E 0)), (1, .int x1), (2, .int x2)] [] mem := by
  rw [f_X7_pitch] at h
  refine ug_aload_n 0 dX7_pitch_0 rfl rfl ?_
  refine ug_iload_n 1 dX7_pitch_1 rfl rfl ?_
  refine ug_iconst dX7_pitch_2 un_iconst_1 ?_
  refine ug_bipush dX7_pitch_3 un_bipush_20 ?_
  rcases ubx_some h with ⟨m1, r2, h3, h⟩ | ⟨m1, X4, h3, rfl⟩
  · refine ug_callVv [.int x1, .int 1, .int 20] (c_X7_need_r  h3) kc_X7_102 ro_0 rfl (S := []) rfl (Nat.le_of_ble_eq_true rfl) (Nat.le_of_ble_eq_true rfl) (Nat.le_of_ble_eq_true rfl) dX7_pitch_5 ?_
    refine ug_aload_n 0 dX7_pitch_8 rfl rfl ?_
    refine ug_iload_n 2 dX7_pitch_9 rfl rfl ?_
    refine ug_iconst dX7_pitch_10 un_iconst_0 ?_
    refine ug_iconst dX7_pitch_11 un_iconst_1 ?_
    rcases ubx_some h with ⟨m5, r6, h7, h⟩ | ⟨m5, X8, h7, rfl⟩
    · refine ug_callVv [.int x2, .int 0, .int 1] (c_X7_need_r  h7) kc_X7_102 ro_0 rfl (S := []) rfl (Nat.le_of_ble_eq_true rfl) (Nat.le_of_ble_eq_true rfl) (Nat.le_of_ble_eq_true rfl) dX7_pitch_12 ?_
      refine ug_iconst dX7_pitch_15 un_iconst_0 ?_
      refine ug_istore_n [(3, .int 0), (0, .ref (ue_d E 0)), (1, .int x1), (2, .int x2)] dX7_pitch_16 rfl (Nat.le_of_ble_eq_true rfl) rfl ?_
      refine ug_iconst dX7_pitch_17 un_iconst_m1 ?_
      refine ug_istore [(4, .int (-1)), (3, .int 0), (0, .ref (ue_d E 0)), (1, .int x1), (2, .int x2)] dX7_pitch_18 (Nat.le_of_ble_eq_true rfl) rfl ?_
      refine ug_iconst dX7_pitch_20 un_iconst_0 ?_
      refine ug_istore [(5, .int 0), (4, .int (-1)), (3, .int 0), (0, .ref (ue_d E 0)), (1, .int x1), (2, .int x2)] dX7_pitch_21 (Nat.le_of_ble_eq_true rfl) rfl ?_
      refine ug_sub [(0, .ref (ue_d E 0)), (1, .int x1), (2, .int x2), (3, .int 0), (4, .int (-1)), (5, .int 0)] [3, 4, 5, 2, 1, 0] rfl ?_
      exact t_X7_pitch_b23  UF m5 x1 x2 0 (-1) 0 _ h
    · exact ug_callVx [.int x2, .int 0, .int 1] (c_X7_need_x  h7) kc_X7_102 ro_0 rfl (S := []) rfl (Nat.le_of_ble_eq_true rfl) (Nat.le_of_ble_eq_true rfl) (Nat.le_of_ble_eq_true rfl) ⟨Nat.le_refl 1, Nat.le_refl 6⟩ dX7_pitch_12
  · exact ug_callVx [.int x1, .int 1, .int 20] (c_X7_need_x  h3) kc_X7_102 ro_0 rfl (S := []) rfl (Nat.le_of_ble_eq_true rfl) (Nat.le_of_ble_eq_true rfl) (Nat.le_of_ble_eq_true rfl) ⟨Nat.le_refl 1, Nat.le_refl 6⟩ dX7_pitch_5
theorem c_X7_pitch_r {l : Launch} {E : Ue} {mem : Um} {x1 : Int32} {x2 : Int32} {m1 : Um} {r : Int32} (h : f_X7_pitch  mem x1 x2 = some (m1, .inl r)) : ucr l E 7 0 0 yX7_pitch cX7_pitch 7 (some .int) [.ref (ue_d E 0), .int x1, .int x2] mem (some (.int r)) m1 := ucr_of rfl (Nat.le_of_ble_eq_true rfl) (t_X7_pitch  mem x1 x2 _ h)
theorem c_X7_pitch_x {l : Launch} {E : Ue} {mem : Um} {x1 : Int32} {x2 : Int32} {m1 : Um} {X : String} (h : f_X7_pitch  mem x1 x2 = some (m1, .inr X)) : ucx l E 7 1 6 yX7_pitch cX7_pitch 7 (some .int) [.ref (ue_d E 0), .int x1, .int x2] mem X m1 := ucx_of rfl (Nat.le_of_ble_eq_true rfl) (t_X7_pitch  mem x1 x2 _ h)
-- X1_firstViewX
def f_X1_firstViewX_b44 (k4 : Um → Int32 → Int32 → Int32 → Option (Um × Int32)) (mem : Um) (x1 : Int32) (x2 : Int32) (x3 : Int32) : Option (Um × Int32) :=
  k4 mem x1 x2 (x3 + 1)
set_option maxRecDepth 20000 in
theorem t_X1_firstViewX_b44 {l : Launch} {E : Ue} (k4 : Um → Int32 → Int32 → Int32 → Option (Um × Int32)) (hk4 : ∀ (mem : Um) (x1 : Int32) (x2 : Int32) (x3 : Int32) (z : Um × Int32), k4 mem x1 x2 x3 = some z → ug l E 2 0 0 cX1_firstViewX 4 RX1 (some .int) [] (uz_i z) 0 0 4 [(0, .ref (ue_d E 3)), (1, .int x1), (2, .int x2), (3, .int x3)] [] mem) (mem : Um) (x1 : Int32) (x2 : Int32) (x3 : Int32) (z : Um × Int32) (h : f_X1_firstViewX_b44 k4 mem x1 x2 x3 = some z) : ug l E 2 0 0 cX1_firstViewX 4 RX1 (some .int) [] (uz_i z) 0 0 44 [(0, .ref (ue_d E 3)), (1, .int x1), (2, .int x2), (3, .int x3)] [] mem := by
  rw [f_X1_firstViewX_b44] at h
  refine ug_iinc (v := (x3 + 1)) [(3, .int (x3 + 1)), (0, .ref (ue_d E 3)), (1, .int x1), (2, .int x2)] 3 dX1_firstViewX_44 rfl rfl (Nat.le_of_ble_eq_true rfl) rfl ?_
  refine ug_goto 4 dX1_firstViewX_47 (by decide) ?_
  refine ug_sub [(0, .ref (ue_d E 3)), (1, .int x1), (2, .int x2), (3, .int (x3 + 1))] [1, 2, 3, 0] rfl ?_
  exact hk4 mem x1 x2 (x3 + 1) _ h
def f_X1_firstViewX_b37 (k4 : Um → Int32 → Int32 → Int32 → Option (Um × Int32)) (mem : Um) (x1 : Int32) (x3 : Int32) : Option (Um × Int32) :=
  ugd (uin x3 8) (f_X1_firstViewX_b44 k4 mem x1 (mem 4 x3.toNatClampNeg) x3)
set_option maxRecDepth 20000 in
theorem t_X1_firstViewX_b37 {l : Launch} {E : Ue} (k4 : Um → Int32 → Int32 → Int32 → Option (Um × Int32)) (hk4 : ∀ (mem : Um) (x1 : Int32) (x2 : Int32) (x3 : Int32) (z : Um × Int32), k4 mem x1 x2 x3 = some z → ug l E 2 0 0 cX1_firstViewX 4 RX1 (some .int) [] (uz_i z) 0 0 4 [(0, .ref (ue_d E 3)), (1, .int x1), (2, .int x2), (3, .int x3)] [] mem) (mem : Um) (x1 : Int32) (x3 : Int32) (z : Um × Int32) (h : f_X1_firstViewX_b37 k4 mem x1 x3 = some z) : ug l E 2 0 0 cX1_firstViewX 4 RX1 (some .int) [] (uz_i z) 0 0 37 [(0, .ref (ue_d E 3)), (1, .int x1), (3, .int x3)] [] mem := by
  rw [f_X1_firstViewX_b37] at h
  refine ug_aload_n 0 dX1_firstViewX_37 rfl rfl ?_
  refine ug_getR kf_X1_21 gr_3_3 dX1_firstViewX_38 ?_
  refine ug_iload_n 2 dX1_firstViewX_41 rfl rfl ?_
  obtain ⟨g1, h⟩ := ugd_some h
  refine ug_iald al_4 (uin_ok g1) dX1_firstViewX_42 ?_
  refine ug_istore_n [(2, .int (mem 4 x3.toNatClampNeg)), (0, .ref (ue_d E 3)), (1, .int x1), (3, .int x3)] dX1_firstViewX_43 rfl (Nat.le_of_ble_eq_true rfl) rfl ?_
  refine ug_sub [(0, .ref (ue_d E 3)), (1, .int x1), (2, .int (mem 4 x3.toNatClampNeg)), (3, .int x3)] [1, 2, 0, 3] rfl ?_
  exact t_X1_firstViewX_b44 k4 hk4 mem x1 (mem 4 x3.toNatClampNeg) x3 _ h
def f_X1_firstViewX_b4 : Nat → Um → Int32 → Int32 → Int32 → Option (Um × Int32)
  | 0, _, _, _, _ => none
  | n + 1, mem, x1, x2, x3 =>
    if (mem 3 0) ≤ x3 then (some (mem, x2)) else (ugd (uin x3 8) (if (mem 4 x3.toNatClampNeg) < x1 then (f_X1_firstViewX_b44 (f_X1_firstViewX_b4  n) mem x1 x2 x3) else (if x2 = (-1) then (f_X1_firstViewX_b37 (f_X1_firstViewX_b4  n) mem x1 x3) else (ugd (uin x3 8) (if x2 ≤ (mem 4 x3.toNatClampNeg) then (f_X1_firstViewX_b44 (f_X1_firstViewX_b4  n) mem x1 x2 x3) else (f_X1_firstViewX_b37 (f_X1_firstViewX_b4  n) mem x1 x3))))))
set_option maxRecDepth 20000 in
theorem t_X1_firstViewX_b4 {l : Launch} {E : Ue} : ∀ (n : Nat) (mem : Um) (x1 : Int32) (x2 : Int32) (x3 : Int32) (z : Um × Int32), f_X1_firstViewX_b4  n mem x1 x2 x3 = some z → ug l E 2 0 0 cX1_firstViewX 4 RX1 (some .int) [] (uz_i z) 0 0 4 [(0, .ref (ue_d E 3)), (1, .int x1), (2, .int x2), (3, .int x3)] [] mem := by
  intro n
  induction n with
  | zero =>
    intro mem x1 x2 x3 z h
    rw [f_X1_firstViewX_b4] at h
    cases h
  | succ n ih =>
    intro mem x1 x2 x3 z h
    rw [f_X1_firstViewX_b4] at h
    refine ug_iload_n 3 dX1_firstViewX_4 rfl rfl ?_
    refine ug_aload_n 0 dX1_firstViewX_5 rfl rfl ?_
    refine ug_getI kf_X1_9 gi_3_0 dX1_firstViewX_6 ?_
    refine ug_icmp_ge 50 dX1_firstViewX_9 (by decide) (fun q1 => ?_) (fun q1 => ?_)
    · rw [if_pos q1] at h
      refine ug_iload_n 2 dX1_firstViewX_50 rfl rfl ?_
      obtain rfl := Option.some.inj h
      exact ug_iret dX1_firstViewX_51
    · rw [if_neg q1] at h
      refine ug_aload_n 0 dX1_firstViewX_12 rfl rfl ?_
      refine ug_getR kf_X1_21 gr_3_3 dX1_firstViewX_13 ?_
      refine ug_iload_n 3 dX1_firstViewX_16 rfl rfl ?_
      obtain ⟨g2, h⟩ := ugd_some h
      refine ug_iald al_4 (uin_ok g2) dX1_firstViewX_17 ?_
      refine ug_iload_n 1 dX1_firstViewX_18 rfl rfl ?_
      refine ug_icmp_lt 44 dX1_firstViewX_19 (by decide) (fun q3 => ?_) (fun q3 => ?_)
      · rw [if_pos q3] at h
        exact t_X1_firstViewX_b44 (f_X1_firstViewX_b4  n) ih mem x1 x2 x3 _ h
      · rw [if_neg q3] at h
        refine ug_iload_n 2 dX1_firstViewX_22 rfl rfl ?_
        refine ug_iconst dX1_firstViewX_23 un_iconst_m1 ?_
        refine ug_icmp_eq 37 dX1_firstViewX_24 (by decide) (fun q4 => ?_) (fun q4 => ?_)
        · rw [if_pos q4] at h
          refine ug_sub [(0, .ref (ue_d E 3)), (1, .int x1), (3, .int x3)] [0, 1, 3] rfl ?_
          exact t_X1_firstViewX_b37 (f_X1_firstViewX_b4  n) ih mem x1 x3 _ h
        · rw [if_neg q4] at h
          refine ug_aload_n 0 dX1_firstViewX_27 rfl rfl ?_
          refine ug_getR kf_X1_21 gr_3_3 dX1_firstViewX_28 ?_
          refine ug_iload_n 3 dX1_firstViewX_31 rfl rfl ?_
          obtain ⟨g5, h⟩ := ugd_some h
          refine ug_iald al_4 (uin_ok g5) dX1_firstViewX_32 ?_
          refine ug_iload_n 2 dX1_firstViewX_33 rfl rfl ?_
          refine ug_icmp_ge 44 dX1_firstViewX_34 (by decide) (fun q6 => ?_) (fun q6 => ?_)
          · rw [if_pos q6] at h
            exact t_X1_firstViewX_b44 (f_X1_firstViewX_b4  n) ih mem x1 x2 x3 _ h
          · rw [if_neg q6] at h
            refine ug_sub [(0, .ref (ue_d E 3)), (1, .int x1), (3, .int x3)] [0, 1, 3] rfl ?_
            exact t_X1_firstViewX_b37 (f_X1_firstViewX_b4  n) ih mem x1 x3 _ h
def f_X1_firstViewX (mem : Um) (x1 : Int32) : Option (Um × Int32) :=
  f_X1_firstViewX_b4  UF mem x1 (-1) 0
set_option maxRecDepth 20000 in
theorem t_X1_firstViewX {l : Launch} {E : Ue} (mem : Um) (x1 : Int32) (z : Um × Int32) (h : f_X1_firstViewX  mem x1 = some z) : ug l E 2 0 0 cX1_firstViewX 4 RX1 (some .int) [] (uz_i z) 0 0 0 [(0, .ref (ue_d E 3)), (1, .int x1)] [] mem := by
  rw [f_X1_firstViewX] at h
  refine ug_iconst dX1_firstViewX_0 un_iconst_m1 ?_
  refine ug_istore_n [(2, .int (-1)), (0, .ref (ue_d E 3)), (1, .int x1)] dX1_firstViewX_1 rfl (Nat.le_of_ble_eq_true rfl) rfl ?_
  refine ug_iconst dX1_firstViewX_2 un_iconst_0 ?_
  refine ug_istore_n [(3, .int 0), (2, .int (-1)), (0, .ref (ue_d E 3)), (1, .int x1)] dX1_firstViewX_3 rfl (Nat.le_of_ble_eq_true rfl) rfl ?_
  refine ug_sub [(0, .ref (ue_d E 3)), (1, .int x1), (2, .int (-1)), (3, .int 0)] [2, 3, 1, 0] rfl ?_
  exact t_X1_firstViewX_b4  UF mem x1 (-1) 0 _ h
theorem c_X1_firstViewX {l : Launch} {E : Ue} {mem : Um} {x1 : Int32} {m1 : Um} {r : Int32} (h : f_X1_firstViewX  mem x1 = some (m1, r)) : ucr l E 2 0 0 yX1_firstViewX cX1_firstViewX 4 (some .int) [.ref (ue_d E 3), .int x1] mem (some (.int r)) m1 := ucr_of rfl (Nat.le_of_ble_eq_true rfl) (t_X1_firstViewX  mem x1 _ h)
