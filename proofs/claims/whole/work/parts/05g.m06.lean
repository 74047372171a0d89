-- X7_told
def f_X7_told (mem : Um) (x1 : Int32) : Option (Um × (Int32 ⊕ String)) :=
  ubx (f_X7_need mem x1 0 11) (fun m1 r2 => if x1 = 0 then (some (m1, .inl (m1 3 0))) else (if x1 = 1 then (some (m1, .inl (m1 3 1))) else (if x1 = 2 then (some (m1, .inl (m1 3 2))) else (if x1 = 3 then (some (m1, .inl (m1 24 0))) else (if x1 = 4 then (ubi (f_X4_holders 23 m1) (fun m10 r11 => some (m10, .inl r11))) else (if x1 = 5 then (some (m1, .inl (m1 24 1))) else (if x1 = 6 then (some (m1, .inl (m1 24 2))) else (if x1 = 7 then (ubi (f_X4_moneyOfAll 23 m1) (fun m16 r17 => some (m16, .inl r17))) else (if x1 = 8 then (ubi (f_X4_worthHad 23 m1) (fun m20 r21 => some (m20, .inl r21))) else (if x1 = 9 then (some (m1, .inl (m1 18 1))) else (if x1 = 10 then (some (m1, .inl (m1 0 13))) else (ubi (f_X4_touchingTwos 23 m1) (fun m25 r26 => some (m25, .inl r26))))))))))))))
set_option maxRecDepth 20000 in
theorem t_X7_told {l : Launch} {E : Ue} (mem : Um) (x1 : Int32) (z : Um × (Int32 ⊕ String)) (h : f_X7_told  mem x1 = some z) : ug l E 7 (uzc z) (uzs z) cX7_told 2 RX7 (some .int) [] (uzx_i z) 0 0 0 [(0, .ref (ue_d E 0)), (1, .int x1)] [] mem := by
  rw [f_X7_told] at h
  refine ug_aload_n 0 dX7_told_0 rfl rfl ?_
  refine ug_iload_n 1 dX7_told_1 rfl rfl ?_
  refine ug_iconst dX7_told_2 un_iconst_0 ?_
  refine ug_bipush dX7_told_3 un_bipush_11 ?_
  rcases ubx_some h with ⟨m1, r2, h3, h⟩ | ⟨m1, X4, h3, rfl⟩
  · refine ug_callVv [.int x1, .int 0, .int 11] (c_X7_need_r  h3) kc_X7_102 ro_0 rfl (S := []) rfl (Nat.le_of_ble_eq_true rfl) (Nat.le_of_ble_eq_true rfl) (Nat.le_of_ble_eq_true rfl) dX7_told_5 ?_
    refine ug_iload_n 1 dX7_told_8 rfl rfl ?_
    by_cases q5 : x1 = 0
    · rw [if_pos q5] at h
      refine ug_tswI 68 dX7_told_9 (by rw [q5]; decide) (by rw [q5]; decide) (by rw [q5]; rfl) (by decide) ?_
      refine ug_aload_n 0 dX7_told_68 rfl rfl ?_
      refine ug_getR kf_X7_21 gr_0_1 dX7_told_69 ?_
      refine ug_getI kf_X7_162 gi_3_0 dX7_told_72 ?_
      obtain rfl := Option.some.inj h
      exact ug_iret dX7_told_75
    · rw [if_neg q5] at h
      by_cases q6 : x1 = 1
      · rw [if_pos q6] at h
        refine ug_tswI 76 dX7_told_9 (by rw [q6]; decide) (by rw [q6]; decide) (by rw [q6]; rfl) (by decide) ?_
        refine ug_aload_n 0 dX7_told_76 rfl rfl ?_
        refine ug_getR kf_X7_21 gr_0_1 dX7_told_77 ?_
        refine ug_getI kf_X7_131 gi_3_1 dX7_told_80 ?_
        obtain rfl := Option.some.inj h
        exact ug_iret dX7_told_83
      · rw [if_neg q6] at h
        by_cases q7 : x1 = 2
        · rw [if_pos q7] at h
          refine ug_tswI 84 dX7_told_9 (by rw [q7]; decide) (by rw [q7]; decide) (by rw [q7]; rfl) (by decide) ?_
          refine ug_aload_n 0 dX7_told_84 rfl rfl ?_
          refine ug_getR kf_X7_21 gr_0_1 dX7_told_85 ?_
          refine ug_getI kf_X7_178 gi_3_2 dX7_told_88 ?_
          obtain rfl := Option.some.inj h
          exact ug_iret dX7_told_91
        · rw [if_neg q7] at h
          by_cases q8 : x1 = 3
          · rw [if_pos q8] at h
            refine ug_tswI 92 dX7_told_9 (by rw [q8]; decide) (by rw [q8]; decide) (by rw [q8]; rfl) (by decide) ?_
            refine ug_aload_n 0 dX7_told_92 rfl rfl ?_
            refine ug_getR kf_X7_54 gr_0_6 dX7_told_93 ?_
            refine ug_getR kf_X7_144 gr_23_2 dX7_told_96 ?_
            refine ug_iconst dX7_told_99 un_iconst_0 ?_
            refine ug_ialdK al_24 ui_0_28 uc_0 dX7_told_100 ?_
            obtain rfl := Option.some.inj h
            exact ug_iret dX7_told_101
          · rw [if_neg q8] at h
            by_cases q9 : x1 = 4
            · rw [if_pos q9] at h
              refine ug_tswI 102 dX7_told_9 (by rw [q9]; decide) (by rw [q9]; decide) (by rw [q9]; rfl) (by decide) ?_
              refine ug_aload_n 0 dX7_told_102 rfl rfl ?_
              refine ug_getR kf_X7_54 gr_0_6 dX7_told_103 ?_
              obtain ⟨m10, r11, h12, h⟩ := ubi_some h
              refine ug_callVi [] (c_X4_holders (Or.inl rfl) h12) kc_X7_181 ro_23 rfl (S := []) rfl (Nat.le_of_ble_eq_true rfl) (Nat.le_of_ble_eq_true rfl) (Nat.le_of_ble_eq_true rfl) dX7_told_106 ?_
              obtain rfl := Option.some.inj h
              exact ug_iret dX7_told_109
            · rw [if_neg q9] at h
              by_cases q13 : x1 = 5
              · rw [if_pos q13] at h
                refine ug_tswI 110 dX7_told_9 (by rw [q13]; decide) (by rw [q13]; decide) (by rw [q13]; rfl) (by decide) ?_
                refine ug_aload_n 0 dX7_told_110 rfl rfl ?_
                refine ug_getR kf_X7_54 gr_0_6 dX7_told_111 ?_
                refine ug_getR kf_X7_144 gr_23_2 dX7_told_114 ?_
                refine ug_iconst dX7_told_117 un_iconst_1 ?_
                refine ug_ialdK al_24 ui_1_28 uc_1 dX7_told_118 ?_
                obtain rfl := Option.some.inj h
                exact ug_iret dX7_told_119
              · rw [if_neg q13] at h
                by_cases q14 : x1 = 6
                · rw [if_pos q14] at h
                  refine ug_tswI 120 dX7_told_9 (by rw [q14]; decide) (by rw [q14]; decide) (by rw [q14]; rfl) (by decide) ?_
                  refine ug_aload_n 0 dX7_told_120 rfl rfl ?_
                  refine ug_getR kf_X7_54 gr_0_6 dX7_told_121 ?_
                  refine ug_getR kf_X7_144 gr_23_2 dX7_told_124 ?_
                  refine ug_iconst dX7_told_127 un_iconst_2 ?_
                  refine ug_ialdK al_24 ui_2_28 uc_2 dX7_told_128 ?_
                  obtain rfl := Option.some.inj h
                  exact ug_iret dX7_told_129
                · rw [if_neg q14] at h
                  by_cases q15 : x1 = 7
                  · rw [if_pos q15] at h
                    refine ug_tswI 130 dX7_told_9 (by rw [q15]; decide) (by rw [q15]; decide) (by rw [q15]; rfl) (by decide) ?_
                    refine ug_aload_n 0 dX7_told_130 rfl rfl ?_
                    refine ug_getR kf_X7_54 gr_0_6 dX7_told_131 ?_
                    obtain ⟨m16, r17, h18, h⟩ := ubi_some h
                    refine ug_callVi [] (c_X4_moneyOfAll (Or.inl rfl) h18) kc_X7_184 ro_23 rfl (S := []) rfl (Nat.le_of_ble_eq_true rfl) (Nat.le_of_ble_eq_true rfl) (Nat.le_of_ble_eq_true rfl) dX7_told_134 ?_
                    obtain rfl := Option.some.inj h
                    exact ug_iret dX7_told_137
                  · rw [if_neg q15] at h
                    by_cases q19 : x1 = 8
                    · rw [if_pos q19] at h
                      refine ug_tswI 138 dX7_told_9 (by rw [q19]; decide) (by rw [q19]; decide) (by rw [q19]; rfl) (by decide) ?_
                      refine ug_aload_n 0 dX7_told_138 rfl rfl ?_
                      refine ug_getR kf_X7_54 gr_0_6 dX7_told_139 ?_
                      obtain ⟨m20, r21, h22, h⟩ := ubi_some h
                      refine ug_callVi [] (c_X4_worthHad (Or.inl rfl) h22) kc_X7_187 ro_23 rfl (S := []) rfl (Nat.le_of_ble_eq_true rfl) (Nat.le_of_ble_eq_true rfl) (Nat.le_of_ble_eq_true rfl) dX7_told_142 ?_
                      obtain rfl := Option.some.inj h
                      exact ug_iret dX7_told_145
                    · rw [if_neg q19] at h
                      by_cases q23 : x1 = 9
                      · rw [if_pos q23] at h
                        refine ug_tswI 146 dX7_told_9 (by rw [q23]; decide) (by rw [q23]; decide) (by rw [q23]; rfl) (by decide) ?_
                        refine ug_aload_n 0 dX7_told_146 rfl rfl ?_
                        refine ug_getR kf_X7_38 gr_0_4 dX7_told_147 ?_
                        refine ug_getI kf_X7_166 gi_18_1 dX7_told_150 ?_
                        obtain rfl := Option.some.inj h
                        exact ug_iret dX7_told_153
                      · rw [if_neg q23] at h
                        by_cases q24 : x1 = 10
                        · rw [if_pos q24] at h
                          refine ug_tswI 154 dX7_told_9 (by rw [q24]; decide) (by rw [q24]; decide) (by rw [q24]; rfl) (by decide) ?_
                          refine ug_aload_n 0 dX7_told_154 rfl rfl ?_
                          refine ug_getI kf_X7_83 gi_0_13 dX7_told_155 ?_
                          obtain rfl := Option.some.inj h
                          exact ug_iret dX7_told_158
                        · rw [if_neg q24] at h
                          refine ug_tswO 159 dX7_told_9 (utsw_0_10 q5 q6 q7 q8 q9 q13 q14 q15 q19 q23 q24) (by decide) ?_
                          refine ug_aload_n 0 dX7_told_159 rfl rfl ?_
                          refine ug_getR kf_X7_54 gr_0_6 dX7_told_160 ?_
                          obtain ⟨m25, r26, h27, h⟩ := ubi_some h
                          refine ug_callVi [] (c_X4_touchingTwos (Or.inl rfl) h27) kc_X7_190 ro_23 rfl (S := []) rfl (Nat.le_of_ble_eq_true rfl) (Nat.le_of_ble_eq_true rfl) (Nat.le_of_ble_eq_true rfl) dX7_told_163 ?_
                          obtain rfl := Option.some.inj h
                          exact ug_iret dX7_told_166
  · exact ug_callVx [.int x1, .int 0, .int 11] (c_X7_need_x  h3) kc_X7_102 ro_0 rfl (S := []) rfl (Nat.le_of_ble_eq_true rfl) (Nat.le_of_ble_eq_true rfl) (Nat.le_of_ble_eq_true rfl) ⟨Nat.le_refl 1, Nat.le_refl 6⟩ dX7_told_5
theorem c_X7_told_r {l : Launch} {E : Ue} {mem : Um} {x1 : Int32} {m1 : Um} {r : Int32} (h : f_X7_told  mem x1 = some (m1, .inl r)) : ucr l E 7 0 0 yX7_told cX7_told 2 (some .int) [.ref (ue_d E 0), .int x1] mem (some (.int r)) m1 := ucr_of rfl (Nat.le_of_ble_eq_true rfl) (t_X7_told  mem x1 _ h)
theorem c_X7_told_x {l : Launch} {E : Ue} {mem : Um} {x1 : Int32} {m1 : Um} {X : String} (h : f_X7_told  mem x1 = some (m1, .inr X)) : ucx l E 7 1 6 yX7_told cX7_told 2 (some .int) [.ref (ue_d E 0), .int x1] mem X m1 := ucx_of rfl (Nat.le_of_ble_eq_true rfl) (t_X7_told  mem x1 _ h)
-- X7_needView
def f_X7_needView_b15 (mem : Um) : Option (Um × (Unit ⊕ String)) :=
  some ((um_w mem 0 15 ((mem 0 15) + 1)), .inr "java/util/NoSuchElementException")
set_option maxRecDepth 20000 in
theorem t_X7_needView_b15 {l : Launch} {E : Ue} (mem : Um) (z : Um × (Unit ⊕ String)) (h : f_X7_needView_b15  mem  = some z) : ug l E 6 (uzc z) (uzs z) cX7_needView 2 RX7 none [] (uzx_v z) 0 0 15 [(0, .ref (ue_d E 0))] [] mem := by
  rw [f_X7_needView_b15] at h
  refine ug_aload_n 0 dX7_needView_15 rfl rfl ?_
  refine ug_dup dX7_needView_16 rfl ?_
  refine ug_getI kf_X7_89 gi_0_15 dX7_needView_17 ?_
  refine ug_iconst dX7_needView_20 un_iconst_1 ?_
  refine ug_iadd dX7_needView_21 ?_
  refine ug_putI kp_X7_89 gi_0_15 dX7_needView_22 ?_
  obtain rfl := Option.some.inj h
  exact ug_throw0 kt_X7_364 (Nat.le_of_ble_eq_true rfl) (Nat.le_of_ble_eq_true rfl) dX7_needView_25 dX7_needView_28 dX7_needView_29 dX7_needView_32
def f_X7_needView (mem : Um) (x1 : Int32) : Option (Um × (Unit ⊕ String)) :=
  if x1 < 0 then (f_X7_needView_b15 mem) else (if x1 < (mem 3 0) then (some (mem, (.inl ()))) else (f_X7_needView_b15 mem))
set_option maxRecDepth 20000 in
theorem t_X7_needView {l : Launch} {E : Ue} (mem : Um) (x1 : Int32) (z : Um × (Unit ⊕ String)) (h : f_X7_needView  mem x1 = some z) : ug l E 6 (uzc z) (uzs z) cX7_needView 2 RX7 none [] (uzx_v z) 0 0 0 [(0, .ref (ue_d E 0)), (1, .int x1)] [] mem := by
  rw [f_X7_needView] at h
  refine ug_iload_n 1 dX7_needView_0 rfl rfl ?_
  refine ug_if_lt 15 dX7_needView_1 (by decide) (fun q1 => ?_) (fun q1 => ?_)
  · rw [if_pos q1] at h
    refine ug_sub [(0, .ref (ue_d E 0))] [0] rfl ?_
    exact t_X7_needView_b15 mem  _ h
  · rw [if_neg q1] at h
    refine ug_iload_n 1 dX7_needView_4 rfl rfl ?_
    refine ug_aload_n 0 dX7_needView_5 rfl rfl ?_
    refine ug_getR kf_X7_21 gr_0_1 dX7_needView_6 ?_
    refine ug_getI kf_X7_162 gi_3_0 dX7_needView_9 ?_
    refine ug_icmp_lt 33 dX7_needView_12 (by decide) (fun q2 => ?_) (fun q2 => ?_)
    · rw [if_pos q2] at h
      obtain rfl := Option.some.inj h
      exact ug_vret dX7_needView_33
    · rw [if_neg q2] at h
      refine ug_sub [(0, .ref (ue_d E 0))] [0] rfl ?_
      exact t_X7_needView_b15 mem  _ h
theorem c_X7_needView_r {l : Launch} {E : Ue} {mem : Um} {x1 : Int32} {m1 : Um} {r : Unit} (h : f_X7_needView  mem x1 = some (m1, .inl r)) : ucr l E 6 0 0 yX7_needView cX7_needView 2 none [.ref (ue_d E 0), .int x1] mem none m1 := ucr_of rfl (Nat.le_of_ble_eq_true rfl) (t_X7_needView  mem x1 _ h)
theorem c_X7_needView_x {l : Launch} {E : Ue} {mem : Um} {x1 : Int32} {m1 : Um} {X : String} (h : f_X7_needView  mem x1 = some (m1, .inr X)) : ucx l E 6 1 6 yX7_needView cX7_needView 2 none [.ref (ue_d E 0), .int x1] mem X m1 := ucx_of rfl (Nat.le_of_ble_eq_true rfl) (t_X7_needView  mem x1 _ h)
-- X4_farFrom
def f_X4_farFrom (o : Nat) (mem : Um) (x1 : Int32) (x2 : Int32) : Option (Um × Int32) :=
  ugd (uin (18 + x1) 28) (ugd (uin x2 8) (some (mem, (umabs ((mem (o + 1) (18 + x1).toNatClampNeg) - (mem 4 x2.toNatClampNeg))))))
set_option maxRecDepth 20000 in
theorem t_X4_farFrom {l : Launch} {E : Ue} {o : Nat} (ho : o = 23 ∨ o = 25) (mem : Um) (x1 : Int32) (x2 : Int32) (z : Um × Int32) (h : f_X4_farFrom o mem x1 x2 = some z) : ug l E 2 0 0 cX4_farFrom 3 RX4 (some .int) [] (uz_i z) 0 0 0 [(0, .ref (ue_d E o)), (1, .int x1), (2, .int x2)] [] mem := by
  rw [f_X4_farFrom] at h
  refine ug_aload_n 0 dX4_farFrom_0 rfl rfl ?_
  refine ug_getR kf_X4_11 (sk_r2 ho) dX4_farFrom_1 ?_
  refine ug_bipush dX4_farFrom_4 un_bipush_18 ?_
  refine ug_iload_n 1 dX4_farFrom_6 rfl rfl ?_
  refine ug_iadd dX4_farFrom_7 ?_
  obtain ⟨g1, h⟩ := ugd_some h
  refine ug_iald (sk_a ho) (uin_ok g1) dX4_farFrom_8 ?_
  refine ug_aload_n 0 dX4_farFrom_9 rfl rfl ?_
  refine ug_getR kf_X4_15 (sk_r0 ho) dX4_farFrom_10 ?_
  refine ug_getR kf_X4_51 gr_3_3 dX4_farFrom_13 ?_
  refine ug_iload_n 2 dX4_farFrom_16 rfl rfl ?_
  obtain ⟨g2, h⟩ := ugd_some h
  refine ug_iald al_4 (uin_ok g2) dX4_farFrom_17 ?_
  refine ug_isub dX4_farFrom_18 ?_
  refine ug_mabs kl_X4_54 (Nat.le_of_ble_eq_true rfl) (Nat.le_of_ble_eq_true rfl) dX4_farFrom_19 ?_
  obtain rfl := Option.some.inj h
  exact ug_iret dX4_farFrom_22
theorem c_X4_farFrom {l : Launch} {E : Ue} {o : Nat} (ho : o = 23 ∨ o = 25) {mem : Um} {x1 : Int32} {x2 : Int32} {m1 : Um} {r : Int32} (h : f_X4_farFrom o mem x1 x2 = some (m1, r)) : ucr l E 2 0 0 yX4_farFrom cX4_farFrom 3 (some .int) [.ref (ue_d E o), .int x1, .int x2] mem (some (.int r)) m1 := ucr_of rfl (Nat.le_of_ble_eq_true rfl) (t_X4_farFrom ho mem x1 x2 _ h)
-- X4_sees
def f_X4_sees_b31 (o : Nat) (mem : Um) (y0 : Int32) : Option (Um × Int32) :=
  ugd (ub01 y0) (some (mem, y0))
set_option maxRecDepth 20000 in
theorem t_X4_sees_b31 {l : Launch} {E : Ue} {o : Nat} (ho : o = 23 ∨ o = 25) (mem : Um) (y0 : Int32) (z : Um × Int32) (h : f_X4_sees_b31 o mem y0 = some z) : ug l E 3 0 0 cX4_sees 3 RX4 (some .boolean) [] (uz_i z) 0 0 31 [] [.int y0] mem := by
  rw [f_X4_sees_b31] at h
  obtain ⟨g1, h⟩ := ugd_some h
  obtain rfl := Option.some.inj h
  exact ug_zret (of_decide_eq_true g1) dX4_sees_31
def f_X4_sees_b30 (o : Nat) (mem : Um) : Option (Um × Int32) :=
  f_X4_sees_b31 o mem 0
set_option maxRecDepth 20000 in
theorem t_X4_sees_b30 {l : Launch} {E : Ue} {o : Nat} (ho : o = 23 ∨ o = 25) (mem : Um) (z : Um × Int32) (h : f_X4_sees_b30 o mem  = some z) : ug l E 3 0 0 cX4_sees 3 RX4 (some .boolean) [] (uz_i z) 0 0 30 [] [] mem := by
  rw [f_X4_sees_b30] at h
  refine ug_iconst dX4_sees_30 un_iconst_0 ?_
  exact t_X4_sees_b31 ho mem 0 _ h
def f_X4_sees (o : Nat) (mem : Um) (x1 : Int32) (x2 : Int32) : Option (Um × Int32) :=
  ubi (f_X4_has o mem x1) (fun m1 r2 => if r2 = 0 then (f_X4_sees_b30 o m1) else (ubi (f_X4_farFrom o m1 x1 x2) (fun m5 r6 => ugd (uin (13 + x1) 28) (if (m5 (o + 1) (13 + x1).toNatClampNeg) < r6 then (f_X4_sees_b30 o m5) else (f_X4_sees_b31 o m5 1)))))
set_option maxRecDepth 20000 in
theorem t_X4_sees {l : Launch} {E : Ue} {o : Nat} (ho : o = 23 ∨ o = 25) (mem : Um) (x1 : Int32) (x2 : Int32) (z : Um × Int32) (h : f_X4_sees o mem x1 x2 = some z) : ug l E 3 0 0 cX4_sees 3 RX4 (some .boolean) [] (uz_i z) 0 0 0 [(0, .ref (ue_d E o)), (1, .int x1), (2, .int x2)] [] mem := by
  rw [f_X4_sees] at h
  refine ug_aload_n 0 dX4_sees_0 rfl rfl ?_
  refine ug_iload_n 1 dX4_sees_1 rfl rfl ?_
  obtain ⟨m1, r2, h3, h⟩ := ubi_some h
  refine ug_callVi [.int x1] (c_X4_has ho h3) kc_X4_47 (sk_o ho) rfl (S := []) rfl (Nat.le_of_ble_eq_true rfl) (Nat.le_of_ble_eq_true rfl) (Nat.le_of_ble_eq_true rfl) dX4_sees_2 ?_
  refine ug_if_eq 30 dX4_sees_5 (by decide) (fun q4 => ?_) (fun q4 => ?_)
  · rw [if_pos q4] at h
    refine ug_sub [] [] rfl ?_
    exact t_X4_sees_b30 ho m1  _ h
  · rw [if_neg q4] at h
    refine ug_aload_n 0 dX4_sees_8 rfl rfl ?_
    refine ug_iload_n 1 dX4_sees_9 rfl rfl ?_
    refine ug_iload_n 2 dX4_sees_10 rfl rfl ?_
    obtain ⟨m5, r6, h7, h⟩ := ubi_some h
    refine ug_callVi [.int x1, .int x2] (c_X4_farFrom ho h7) kc_X4_60 (sk_o ho) rfl (S := []) rfl (Nat.le_of_ble_eq_true rfl) (Nat.le_of_ble_eq_true rfl) (Nat.le_of_ble_eq_true rfl) dX4_sees_11 ?_
    refine ug_aload_n 0 dX4_sees_14 rfl rfl ?_
    refine ug_getR kf_X4_11 (sk_r2 ho) dX4_sees_15 ?_
    refine ug_bipush dX4_sees_18 un_bipush_13 ?_
    refine ug_iload_n 1 dX4_sees_20 rfl rfl ?_
    refine ug_iadd dX4_sees_21 ?_
    obtain ⟨g8, h⟩ := ugd_some h
    refine ug_iald (sk_a ho) (uin_ok g8) dX4_sees_22 ?_
    refine ug_icmp_gt 30 dX4_sees_23 (by decide) (fun q9 => ?_) (fun q9 => ?_)
    · rw [if_pos q9] at h
      refine ug_sub [] [] rfl ?_
      exact t_X4_sees_b30 ho m5  _ h
    · rw [if_neg q9] at h
      refine ug_iconst dX4_sees_26 un_iconst_1 ?_
      refine ug_goto 31 dX4_sees_27 (by decide) ?_
      refine ug_sub [] [] rfl ?_
      exact t_X4_sees_b31 ho m5 1 _ h
theorem c_X4_sees {l : Launch} {E : Ue} {o : Nat} (ho : o = 23 ∨ o = 25) {mem : Um} {x1 : Int32} {x2 : Int32} {m1 : Um} {r : Int32} (h : f_X4_sees o mem x1 x2 = some (m1, r)) : ucr l E 3 0 0 yX4_sees cX4_sees 3 (some .boolean) [.ref (ue_d E o), .int x1, .int x2] mem (some (.int r)) m1 := ucr_of rfl (Nat.le_of_ble_eq_true rfl) (t_X4_sees ho mem x1 x2 _ h)
-- X4_seenBy
def f_X4_seenBy_b24 (o : Nat) (k4 : Um → Int32 → Int32 → Int32 → Option (Um × Int32)) (mem : Um) (x1 : Int32) (x2 : Int32) (x3 : Int32) : Option (Um × Int32) :=
  k4 mem x1 x2 (x3 + 1)
set_option maxRecDepth 20000 in
theorem t_X4_seenBy_b24 {l : Launch} {E : Ue} {o : Nat} (ho : o = 23 ∨ o = 25) (k4 : Um → Int32 → Int32 → Int32 → Option (Um × Int32)) (hk4 : ∀ (mem : Um) (x1 : Int32) (x2 : Int32) (x3 : Int32) (z : Um × Int32), k4 mem x1 x2 x3 = some z → ug l E 4 0 0 cX4_seenBy 4 RX4 (some .int) [] (uz_i z) 0 0 4 [(0, .ref (ue_d E o)), (1, .int x1), (2, .int x2), (3, .int x3)] [] mem) (mem : Um) (x1 : Int32) (x2 : Int32) (x3 : Int32) (z : Um × Int32) (h : f_X4_seenBy_b24 o k4 mem x1 x2 x3 = some z) : ug l E 4 0 0 cX4_seenBy 4 RX4 (some .int) [] (uz_i z) 0 0 24 [(0, .ref (ue_d E o)), (1, .int x1), (2, .int x2), (3, .int x3)] [] mem := by
  rw [f_X4_seenBy_b24] at h
  refine ug_iinc (v := (x3 + 1)) [(3, .int (x3 + 1)), (0, .ref (ue_d E o)), (1, .int x1), (2, .int x2)] 3 dX4_seenBy_24 rfl rfl (Nat.le_of_ble_eq_true rfl) rfl ?_
  refine ug_goto 4 dX4_seenBy_27 (by decide) ?_
  refine ug_sub [(0, .ref (ue_d E o)), (1, .int x1), (2, .int x2), (3, .int (x3 + 1))] [1, 2, 3, 0] rfl ?_
  exact hk4 mem x1 x2 (x3 + 1) _ h
def f_X4_seenBy_b4 (o : Nat) : Nat → Um → Int32 → Int32 → Int32 → Option (Um × Int32)
  | 0, _, _, _, _ => none
  | n + 1, mem, x1, x2, x3 =>
    if 5 ≤ x3 then (some (mem, x2)) else (ubi (f_X4_sees o mem x3 x1) (fun m2 r3 => if r3 = 0 then (f_X4_seenBy_b24 o (f_X4_seenBy_b4 o n) m2 x1 x2 x3) else (f_X4_seenBy_b24 o (f_X4_seenBy_b4 o n) m2 x1 (x2 ||| (1 <<< (x3 &&& 31))) x3)))
set_option maxRecDepth 20000 in
theorem t_X4_seenBy_b4 {l : Launch} {E : Ue} {o : Nat} (ho : o = 23 ∨ o = 25) : ∀ (n : Nat) (mem : Um) (x1 : Int32) (x2 : Int32) (x3 : Int32) (z : Um × Int32), f_X4_seenBy_b4 o n mem x1 x2 x3 = some z → ug l E 4 0 0 cX4_seenBy 4 RX4 (some .int) [] (uz_i z) 0 0 4 [(0, .ref (ue_d E o)), (1, .int x1), (2, .int x2), (3, .int x3)] [] mem := by
  intro n
  induction n with
  | zero =>
    intro mem x1 x2 x3 z h
    rw [f_X4_seenBy_b4] at h
    cases h
  | succ n ih =>
    intro mem x1 x2 x3 z h
    rw [f_X4_seenBy_b4] at h
    refine ug_iload_n 3 dX4_seenBy_4 rfl rfl ?_
    refine ug_iconst dX4_seenBy_5 un_iconst_5 ?_
    refine ug_icmp_ge 30 dX4_seenBy_6 (by decide) (fun q1 => ?_) (fun q1 => ?_)
    · rw [if_pos q1] at h
      refine ug_iload_n 2 dX4_seenBy_30 rfl rfl ?_
      obtain rfl := Option.some.inj h
      exact ug_iret dX4_seenBy_31
    · rw [if_neg q1] at h
      refine ug_aload_n 0 dX4_seenBy_9 rfl rfl ?_
      refine ug_iload_n 3 dX4_seenBy_10 rfl rfl ?_
      refine ug_iload_n 1 dX4_seenBy_11 rfl rfl ?_
      obtain ⟨m2, r3, h4, h⟩ := ubi_some h
      refine ug_callVi [.int x3, .int x1] (c_X4_sees ho h4) kc_X4_64 (sk_o ho) rfl (S := []) rfl (Nat.le_of_ble_eq_true rfl) (Nat.le_of_ble_eq_true rfl) (Nat.le_of_ble_eq_true rfl) dX4_seenBy_12 ?_
      refine ug_if_eq 24 dX4_seenBy_15 (by decide) (fun q5 => ?_) (fun q5 => ?_)
      · rw [if_pos q5] at h
        exact t_X4_seenBy_b24 ho (f_X4_seenBy_b4 o n) ih m2 x1 x2 x3 _ h
      · rw [if_neg q5] at h
        refine ug_iload_n 2 dX4_seenBy_18 rfl rfl ?_
        refine ug_iconst dX4_seenBy_19 un_iconst_1 ?_
        refine ug_iload_n 3 dX4_seenBy_20 rfl rfl ?_
        refine ug_ishl dX4_seenBy_21 ?_
        refine ug_ior dX4_seenBy_22 ?_
        refine ug_istore_n [(2, .int (x2 ||| (1 <<< (x3 &&& 31)))), (0, .ref (ue_d E o)), (1, .int x1), (3, .int x3)] dX4_seenBy_23 rfl (Nat.le_of_ble_eq_true rfl) rfl ?_
        refine ug_sub [(0, .ref (ue_d E o)), (1, .int x1), (2, .int (x2 ||| (1 <<< (x3 &&& 31)))), (3, .int x3)] [1, 2, 0, 3] rfl ?_
        exact t_X4_seenBy_b24 ho (f_X4_seenBy_b4 o n) ih m2 x1 (x2 ||| (1 <<< (x3 &&& 31))) x3 _ h
def f_X4_seenBy (o : Nat) (mem : Um) (x1 : Int32) : Option (Um × Int32) :=
  f_X4_seenBy_b4 o UF mem x1 0 0
set_option maxRecDepth 20000 in
theorem t_X4_seenBy {l : Launch} {E : Ue} {o : Nat} (ho : o = 23 ∨ o = 25) (mem : Um) (x1 : Int32) (z : Um × Int32) (h : f_X4_seenBy o mem x1 = some z) : ug l E 4 0 0 cX4_seenBy 4 RX4 (some .int) [] (uz_i z) 0 0 0 [(0, .ref (ue_d E o)), (1, .int x1)] [] mem := by
  rw [f_X4_seenBy] at h
  refine ug_iconst dX4_seenBy_0 un_iconst_0 ?_
  refine ug_istore_n [(2, .int 0), (0, .ref (ue_d E o)), (1, .int x1)] dX4_seenBy_1 rfl (Nat.le_of_ble_eq_true rfl) rfl ?_
  refine ug_iconst dX4_seenBy_2 un_iconst_0 ?_
  refine ug_istore_n [(3, .int 0), (2, .int 0), (0, .ref (ue_d E o)), (1, .int x1)] dX4_seenBy_3 rfl (Nat.le_of_ble_eq_true rfl) rfl ?_
  refine ug_sub [(0, .ref (ue_d E o)), (1, .int x1), (2, .int 0), (3, .int 0)] [2, 3, 1, 0] rfl ?_
  exact t_X4_seenBy_b4 ho UF mem x1 0 0 _ h
theorem c_X4_seenBy {l : Launch} {E : Ue} {o : Nat} (ho : o = 23 ∨ o = 25) {mem : Um} {x1 : Int32} {m1 : Um} {r : Int32} (h : f_X4_seenBy o mem x1 = some (m1, r)) : ucr l E 4 0 0 yX4_seenBy cX4_seenBy 4 (some .int) [.ref (ue_d E o), .int x1] mem (some (.int r)) m1 := ucr_of rfl (Nat.le_of_ble_eq_true rfl) (t_X4_seenBy ho mem x1 _ h)
-- X7_view
def f_X7_view (mem : Um) (x1 : Int32) (x2 : Int32) : Option (Um × (Int32 ⊕ String)) :=
  ubx (f_X7_needView mem x1) (fun m1 r2 => ubx (f_X7_need m1 x2 0 3) (fun m5 r6 => if x2 = 0 then (ugd (uin x1 8) (some (m5, .inl (m5 4 x1.toNatClampNeg)))) else (if x2 = 1 then (ugd (uin x1 8) (some (m5, .inl (m5 5 x1.toNatClampNeg)))) else (if x2 = 2 then (ubi (f_X4_owner 23 m5 x1) (fun m14 r15 => some (m14, .inl r15))) else (ubi (f_X4_seenBy 23 m5 x1) (fun m17 r18 => ubi (f_J6_bitCount_0f7a4 m17 r18) (fun m20 r21 => some (m20, .inl r21))))))))
set_option maxRecDepth 20000 in
theorem t_X7_view {l : Launch} {E : Ue} (mem : Um) (x1 : Int32) (x2 : Int32) (z : Um × (Int32 ⊕ String)) (h : f_X7_view  mem x1 x2 = some z) : ug l E 7 (uzc z) (uzs z) cX7_view 3 RX7 (some .int) [] (uzx_i z) 0 0 0 [(0, .ref (ue_d E 0)), (1, .int x1), (2, .int x2)] [] mem := by
  rw [f_X7_view] at h
  refine ug_aload_n 0 dX7_view_0 rfl rfl ?_
  refine ug_iload_n 1 dX7_view_1 rfl rfl ?_
  rcases ubx_some h with ⟨m1, r2, h3, h⟩ | ⟨m1, X4, h3, rfl⟩
  · refine ug_callVv [.int x1] (c_X7_needView_r  h3) kc_X7_193 ro_0 rfl (S := []) rfl (Nat.le_of_ble_eq_true rfl) (Nat.le_of_ble_eq_true rfl) (Nat.le_of_ble_eq_true rfl) dX7_view_2 ?_
    refine ug_aload_n 0 dX7_view_5 rfl rfl ?_
    refine ug_iload_n 2 dX7_view_6 rfl rfl ?_
    refine ug_iconst dX7_view_7 un_iconst_0 ?_
    refine ug_iconst dX7_view_8 un_iconst_3 ?_
    rcases ubx_some h with ⟨m5, r6, h7, h⟩ | ⟨m5, X8, h7, rfl⟩
    · refine ug_callVv [.int x2, .int 0, .int 3] (c_X7_need_r  h7) kc_X7_102 ro_0 rfl (S := []) rfl (Nat.le_of_ble_eq_true rfl) (Nat.le_of_ble_eq_true rfl) (Nat.le_of_ble_eq_true rfl) dX7_view_9 ?_
      refine ug_iload_n 2 dX7_view_12 rfl rfl ?_
      by_cases q9 : x2 = 0
      · rw [if_pos q9] at h
        refine ug_tswI 40 dX7_view_13 (by rw [q9]; decide) (by rw [q9]; decide) (by rw [q9]; rfl) (by decide) ?_
        refine ug_aload_n 0 dX7_view_40 rfl rfl ?_
        refine ug_getR kf_X7_21 gr_0_1 dX7_view_41 ?_
        refine ug_getR kf_X7_196 gr_3_3 dX7_view_44 ?_
        refine ug_iload_n 1 dX7_view_47 rfl rfl ?_
        obtain ⟨g10, h⟩ := ugd_some h
        refine ug_iald al_4 (uin_ok g10) dX7_view_48 ?_
        obtain rfl := Option.some.inj h
        exact ug_iret dX7_view_49
      · rw [if_neg q9] at h
        by_cases q11 : x2 = 1
        · rw [if_pos q11] at h
          refine ug_tswI 50 dX7_view_13 (by rw [q11]; decide) (by rw [q11]; decide) (by rw [q11]; rfl) (by decide) ?_
          refine ug_aload_n 0 dX7_view_50 rfl rfl ?_
          refine ug_getR kf_X7_21 gr_0_1 dX7_view_51 ?_
          refine ug_getR kf_X7_199 gr_3_4 dX7_view_54 ?_
          refine ug_iload_n 1 dX7_view_57 rfl rfl ?_
          obtain ⟨g12, h⟩ := ugd_some h
          refine ug_iald al_5 (uin_ok g12) dX7_view_58 ?_
          obtain rfl := Option.some.inj h
          exact ug_iret dX7_view_59
        · rw [if_neg q11] at h
          by_cases q13 : x2 = 2
          · rw [if_pos q13] at h
            refine ug_tswI 60 dX7_view_13 (by rw [q13]; decide) (by rw [q13]; decide) (by rw [q13]; rfl) (by decide) ?_
            refine ug_aload_n 0 dX7_view_60 rfl rfl ?_
            refine ug_getR kf_X7_54 gr_0_6 dX7_view_61 ?_
            refine ug_iload_n 1 dX7_view_64 rfl rfl ?_
            obtain ⟨m14, r15, h16, h⟩ := ubi_some h
            refine ug_callVi [.int x1] (c_X4_owner (Or.inl rfl) h16) kc_X7_202 ro_23 rfl (S := []) rfl (Nat.le_of_ble_eq_true rfl) (Nat.le_of_ble_eq_true rfl) (Nat.le_of_ble_eq_true rfl) dX7_view_65 ?_
            obtain rfl := Option.some.inj h
            exact ug_iret dX7_view_68
          · rw [if_neg q13] at h
            refine ug_tswO 69 dX7_view_13 (utsw_0_2 q9 q11 q13) (by decide) ?_
            refine ug_aload_n 0 dX7_view_69 rfl rfl ?_
            refine ug_getR kf_X7_54 gr_0_6 dX7_view_70 ?_
            refine ug_iload_n 1 dX7_view_73 rfl rfl ?_
            obtain ⟨m17, r18, h19, h⟩ := ubi_some h
            refine ug_callVi [.int x1] (c_X4_seenBy (Or.inl rfl) h19) kc_X7_206 ro_23 rfl (S := []) rfl (Nat.le_of_ble_eq_true rfl) (Nat.le_of_ble_eq_true rfl) (Nat.le_of_ble_eq_true rfl) dX7_view_74 ?_
            obtain ⟨m20, r21, h22, h⟩ := ubi_some h
            refine ug_callSi [.int r18] (c_J6_bitCount_0f7a4  h22) kc_X7_209 rfl (S := []) rfl (Nat.le_of_ble_eq_true rfl) (Nat.le_of_ble_eq_true rfl) (Nat.le_of_ble_eq_true rfl) dX7_view_77 ?_
            obtain rfl := Option.some.inj h
            exact ug_iret dX7_view_80
    · exact ug_callVx [.int x2, .int 0, .int 3] (c_X7_need_x  h7) kc_X7_102 ro_0 rfl (S := []) rfl (Nat.le_of_ble_eq_true rfl) (Nat.le_of_ble_eq_true rfl) (Nat.le_of_ble_eq_true rfl) ⟨Nat.le_refl 1, Nat.le_refl 6⟩ dX7_view_9
  · exact ug_callVx [.int x1] (c_X7_needView_x  h3) kc_X7_193 ro_0 rfl (S := []) rfl (Nat.le_of_ble_eq_true rfl) (Nat.le_of_ble_eq_true rfl) (Nat.le_of_ble_eq_true rfl) ⟨Nat.le_refl 1, Nat.le_refl 6⟩ dX7_view_2
theorem c_X7_view_r {l : Launch} {E : Ue} {mem : Um} {x1 : Int32} {x2 : Int32} {m1 : Um} {r : Int32} (h : f_X7_view  mem x1 x2 = some (m1, .inl r)) : ucr l E 7 0 0 yX7_view cX7_view 3 (some .int) [.ref (ue_d E 0), .int x1, .int x2] mem (some (.int r)) m1 := ucr_of rfl (Nat.le_of_ble_eq_true rfl) (t_X7_view  mem x1 x2 _ h)
theorem c_X7_view_x {l : Launch} {E : Ue} {mem : Um} {x1 : Int32} {x2 : Int32} {m1 : Um} {X : String} (h : f_X7_view  mem x1 x2 = some (m1, .inr X)) : ucx l E 7 1 6 yX7_view cX7_view 3 (some .int) [.ref (ue_d E 0), .int x1, .int x2] mem X m1 := ucx_of rfl (Nat.le_of_ble_eq_true rfl) (t_X7_view  mem x1 x2 _ h)
-- X7_needTenant
def f_X7_needTenant_b15 (mem : Um) : Option (Um × (Unit ⊕ String)) :=
  some ((um_w mem 0 15 ((mem 0 15) + 1)), .inr "java/util/NoSuchElementException")
set_option maxRecDepth 20000 in
theorem t_X7_needTenant_b15 {l : Launch} {E : Ue} (mem : Um) (z : Um × (Unit ⊕ String)) (h : f_X7_needTenant_b15  mem  = some z) : ug l E 6 (uzc z) (uzs z) cX7_needTenant 2 RX7 none [] (uzx_v z) 0 0 15 [(0, .ref (ue_d E 0))] [] mem := by
  rw [f_X7_needTenant_b15] at h
  refine ug_aload_n 0 dX7_needTenant_15 rfl rfl ?_
  refine ug_dup dX7_needTenant_16 rfl ?_
  refine ug_getI kf_X7_89 gi_0_15 dX7_needTenant_17 ?_
  refine ug_iconst dX7_needTenant_20 un_iconst_1 ?_
  refine ug_iadd dX7_needTenant_21 ?_
  refine ug_putI kp_X7_89 gi_0_15 dX7_needTenant_22 ?_
  obtain rfl := Option.some.inj h
  exact ug_throw0 kt_X7_364 (Nat.le_of_ble_eq_true rfl) (Nat.le_of_ble_eq_true rfl) dX7_needTenant_25 dX7_needTenant_28 dX7_needTenant_29 dX7_needTenant_32
def f_X7_needTenant (mem : Um) (x1 : Int32) : Option (Um × (Unit ⊕ String)) :=
  if x1 < 0 then (f_X7_needTenant_b15 mem) else (if x1 < (mem 3 1) then (some (mem, (.inl ()))) else (f_X7_needTenant_b15 mem))
set_option maxRecDepth 20000 in
theorem t_X7_needTenant {l : Launch} {E : Ue} (mem : Um) (x1 : Int32) (z : Um × (Unit ⊕ String)) (h : f_X7_needTenant  mem x1 = some z) : ug l E 6 (uzc z) (uzs z) cX7_needTenant 2 RX7 none [] (uzx_v z) 0 0 0 [(0, .ref (ue_d E 0)), (1, .int x1)] [] mem := by
  rw [f_X7_needTenant] at h
  refine ug_iload_n 1 dX7_needTenant_0 rfl rfl ?_
  refine ug_if_lt 15 dX7_needTenant_1 (by decide) (fun q1 => ?_) (fun q1 => ?_)
  · rw [if_pos q1] at h
    refine ug_sub [(0, .ref (ue_d E 0))] [0] rfl ?_
    exact t_X7_needTenant_b15 mem  _ h
  · rw [if_neg q1] at h
    refine ug_iload_n 1 dX7_needTenant_4 rfl rfl ?_
    refine ug_aload_n 0 dX7_needTenant_5 rfl rfl ?_
    refine ug_getR kf_X7_21 gr_0_1 dX7_needTenant_6 ?_
    refine ug_getI kf_X7_131 gi_3_1 dX7_needTenant_9 ?_
    refine ug_icmp_lt 33 dX7_needTenant_12 (by decide) (fun q2 => ?_) (fun q2 => ?_)
    · rw [if_pos q2] at h
      obtain rfl := Option.some.inj h
      exact ug_vret dX7_needTenant_33
    · rw [if_neg q2] at h
      refine ug_sub [(0, .ref (ue_d E 0))] [0] rfl ?_
      exact t_X7_needTenant_b15 mem  _ h
theorem c_X7_needTenant_r {l : Launch} {E : Ue} {mem : Um} {x1 : Int32} {m1 : Um} {r : Unit} (h : f_X7_needTenant  mem x1 = some (m1, .inl r)) : ucr l E 6 0 0 yX7_needTenant cX7_needTenant 2 none [.ref (ue_d E 0), .int x1] mem none m1 := ucr_of rfl (Nat.le_of_ble_eq_true rfl) (t_X7_needTenant  mem x1 _ h)
theorem c_X7_needTenant_x {l : Launch} {E : Ue} {mem : Um} {x1 : Int32} {m1 : Um} {X : String} (h : f_X7_needTenant  mem x1 = some (m1, .inr X)) : ucx l E 6 1 6 yX7_needTenant cX7_needTenant 2 none [.ref (ue_d E 0), .int x1] mem X m1 := ucx_of rfl (Nat.le_of_ble_eq_true rfl) (t_X7_needTenant  mem x1 _ h)
-- X4_viewsHad
def f_X4_viewsHad_b30 (o : Nat) (k4 : Um → Int32 → Int32 → Int32 → Option (Um × Int32)) (mem : Um) (x1 : Int32) (x2 : Int32) (x3 : Int32) : Option (Um × Int32) :=
  k4 mem x1 x2 (x3 + 1)
set_option maxRecDepth 20000 in
theorem t_X4_viewsHad_b30 {l : Launch} {E : Ue} {o : Nat} (ho : o = 23 ∨ o = 25) (k4 : Um → Int32 → Int32 → Int32 → Option (Um × Int32)) (hk4 : ∀ (mem : Um) (x1 : Int32) (x2 : Int32) (x3 : Int32) (z : Um × Int32), k4 mem x1 x2 x3 = some z → ug l E 3 0 0 cX4_viewsHad 4 RX4 (some .int) [] (uz_i z) 0 0 4 [(0, .ref (ue_d E o)), (1, .int x1), (2, .int x2), (3, .int x3)] [] mem) (mem : Um) (x1 : Int32) (x2 : Int32) (x3 : Int32) (z : Um × Int32) (h : f_X4_viewsHad_b30 o k4 mem x1 x2 x3 = some z) : ug l E 3 0 0 cX4_viewsHad 4 RX4 (some .int) [] (uz_i z) 0 0 30 [(0, .ref (ue_d E o)), (1, .int x1), (2, .int x2), (3, .int x3)] [] mem := by
  rw [f_X4_viewsHad_b30] at h
  refine ug_iinc (v := (x3 + 1)) [(3, .int (x3 + 1)), (0, .ref (ue_d E o)), (1, .int x1), (2, .int x2)] 3 dX4_viewsHad_30 rfl rfl (Nat.le_of_ble_eq_true rfl) rfl ?_
  refine ug_goto 4 dX4_viewsHad_33 (by decide) ?_
  refine ug_sub [(0, .ref (ue_d E o)), (1, .int x1), (2, .int x2), (3, .int (x3 + 1))] [1, 2, 3, 0] rfl ?_
  exact hk4 mem x1 x2 (x3 + 1) _ h
def f_X4_viewsHad_b4 (o : Nat) : Nat → Um → Int32 → Int32 → Int32 → Option (Um × Int32)
  | 0, _, _, _, _ => none
  | n + 1, mem, x1, x2, x3 =>
    if (mem 3 0) ≤ x3 then (some (mem, x2)) else (ubi (f_X4_owner o mem x3) (fun m2 r3 => if r3 = x1 then (f_X4_viewsHad_b30 o (f_X4_viewsHad_b4 o n) m2 x1 (x2 ||| (1 <<< (x3 &&& 31))) x3) else (f_X4_viewsHad_b30 o (f_X4_viewsHad_b4 o n) m2 x1 x2 x3)))
set_option maxRecDepth 20000 in
theorem t_X4_viewsHad_b4 {l : Launch} {E : Ue} {o : Nat} (ho : o = 23 ∨ o = 25) : ∀ (n : Nat) (mem : Um) (x1 : Int32) (x2 : Int32) (x3 : Int32) (z : Um × Int32), f_X4_viewsHad_b4 o n mem x1 x2 x3 = some z → ug l E 3 0 0 cX4_viewsHad 4 RX4 (some .int) [] (uz_i z) 0 0 4 [(0, .ref (ue_d E o)), (1, .int x1), (2, .int x2), (3, .int x3)] [] mem := by
  intro n
  induction n with
  | zero =>
    intro mem x1 x2 x3 z h
    rw [f_X4_viewsHad_b4] at h
    cases h
  | succ n ih =>
    intro mem x1 x2 x3 z h
    rw [f_X4_viewsHad_b4] at h
    refine ug_iload_n 3 dX4_viewsHad_4 rfl rfl ?_
    refine ug_aload_n 0 dX4_viewsHad_5 rfl rfl ?_
    refine ug_getR kf_X4_15 (sk_r0 ho) dX4_viewsHad_6 ?_
    refine ug_getI kf_X4_68 gi_3_0 dX4_viewsHad_9 ?_
    refine ug_icmp_ge 36 dX4_viewsHad_12 (by decide) (fun q1 => ?_) (fun q1 => ?_)
    · rw [if_pos q1] at h
      refine ug_iload_n 2 dX4_viewsHad_36 rfl rfl ?_
      obtain rfl := Option.some.inj h
      exact ug_iret dX4_viewsHad_37
    · rw [if_neg q1] at h
      refine ug_aload_n 0 dX4_viewsHad_15 rfl rfl ?_
      refine ug_iload_n 3 dX4_viewsHad_16 rfl rfl ?_
      obtain ⟨m2, r3, h4, h⟩ := ubi_some h
      refine ug_callVi [.int x3] (c_X4_owner ho h4) kc_X4_71 (sk_o ho) rfl (S := []) rfl (Nat.le_of_ble_eq_true rfl) (Nat.le_of_ble_eq_true rfl) (Nat.le_of_ble_eq_true rfl) dX4_viewsHad_17 ?_
      refine ug_iload_n 1 dX4_viewsHad_20 rfl rfl ?_
      refine ug_icmp_ne 30 dX4_viewsHad_21 (by decide) (fun q5 => ?_) (fun q5 => ?_)
      · rw [if_neg q5] at h
        exact t_X4_viewsHad_b30 ho (f_X4_viewsHad_b4 o n) ih m2 x1 x2 x3 _ h
      · rw [if_pos q5] at h
        refine ug_iload_n 2 dX4_viewsHad_24 rfl rfl ?_
        refine ug_iconst dX4_viewsHad_25 un_iconst_1 ?_
        refine ug_iload_n 3 dX4_viewsHad_26 rfl rfl ?_
        refine ug_ishl dX4_viewsHad_27 ?_
        refine ug_ior dX4_viewsHad_28 ?_
        refine ug_istore_n [(2, .int (x2 ||| (1 <<< (x3 &&& 31)))), (0, .ref (ue_d E o)), (1, .int x1), (3, .int x3)] dX4_viewsHad_29 rfl (Nat.le_of_ble_eq_true rfl) rfl ?_
        refine ug_sub [(0, .ref (ue_d E o)), (1, .int x1), (2, .int (x2 ||| (1 <<< (x3 &&& 31)))), (3, .int x3)] [1, 2, 0, 3] rfl ?_
        exact t_X4_viewsHad_b30 ho (f_X4_viewsHad_b4 o n) ih m2 x1 (x2 ||| (1 <<< (x3 &&& 31))) x3 _ h
def f_X4_viewsHad (o : Nat) (mem : Um) (x1 : Int32) : Option (Um × Int32) :=
  f_X4_viewsHad_b4 o UF mem x1 0 0
set_option maxRecDepth 20000 in
theorem t_X4_viewsHad {l : Launch} {E : Ue} {o : Nat} (ho : o = 23 ∨ o = 25) (mem : Um) (x1 : Int32) (z : Um × Int32) (h : f_X4_viewsHad o mem x1 = some z) : ug l E 3 0 0 cX4_viewsHad 4 RX4 (some .int) [] (uz_i z) 0 0 0 [(0, .ref (ue_d E o)), (1, .int x1)] [] mem := by
  rw [f_X4_viewsHad] at h
  refine ug_iconst dX4_viewsHad_0 un_iconst_0 ?_
  refine ug_istore_n [(2, .int 0), (0, .ref (ue_d E o)), (1, .int x1)] dX4_viewsHad_1 rfl (Nat.le_of_ble_eq_true rfl) rfl ?_
  refine ug_iconst dX4_viewsHad_2 un_iconst_0 ?_
  refine ug_istore_n [(3, .int 0), (2, .int 0), (0, .ref (ue_d E o)), (1, .int x1)] dX4_viewsHad_3 rfl (Nat.le_of_ble_eq_true rfl) rfl ?_
  refine ug_sub [(0, .ref (ue_d E o)), (1, .int x1), (2, .int 0), (3, .int 0)] [2, 3, 1, 0] rfl ?_
  exact t_X4_viewsHad_b4 ho UF mem x1 0 0 _ h
theorem c_X4_viewsHad {l : Launch} {E : Ue} {o : Nat} (ho : o = 23 ∨ o = 25) {mem : Um} {x1 : Int32} {m1 : Um} {r : Int32} (h : f_X4_viewsHad o mem x1 = some (m1, r)) : ucr l E 3 0 0 yX4_viewsHad cX4_viewsHad 4 (some .int) [.ref (ue_d E o), .int x1] mem (some (.int r)) m1 := ucr_of rfl (Nat.le_of_ble_eq_true rfl) (t_X4_viewsHad ho mem x1 _ h)
-- X7_tenant
def f_X7_tenant_b89 (mem : Um) (y0 : Int32) : Option (Um × (Int32 ⊕ String)) :=
  some (mem, .inl y0)
set_option maxRecDepth 20000 in
theorem t_X7_tenant_b89 {l : Launch} {E : Ue} (mem : Um) (y0 : Int32) (z : Um × (Int32 ⊕ String)) (h : f_X7_tenant_b89  mem y0 = some z) : ug l E 7 (uzc z) (uzs z) cX7_tenant 3 RX7 (some .int) [] (uzx_i z) 0 0 89 [] [.int y0] mem := by
  rw [f_X7_tenant_b89] at h
  obtain rfl := Option.some.inj h
  exact ug_iret dX7_tenant_89
def f_X7_tenant (mem : Um) (x1 : Int32) (x2 : Int32) : Option (Um × (Int32 ⊕ String)) :=
  ubx (f_X7_needTenant mem x1) (fun m1 r2 => ubx (f_X7_need m1 x2 0 5) (fun m5 r6 => if x2 = 0 then (ugd (uin (3 + x1) 28) (some (m5, .inl (m5 24 (3 + x1).toNatClampNeg)))) else (if x2 = 1 then (ugd (uin (8 + x1) 28) (some (m5, .inl (m5 24 (8 + x1).toNatClampNeg)))) else (if x2 = 2 then (ubi (f_X4_has 23 m5 x1) (fun m14 r15 => if r15 = 0 then (f_X7_tenant_b89 m14 0) else (f_X7_tenant_b89 m14 1))) else (if x2 = 3 then (ubi (f_X4_viewsHad 23 m5 x1) (fun m19 r20 => some (m19, .inl r20))) else (if x2 = 4 then (ubi (f_X4_worthOf 23 m5 x1) (fun m23 r24 => some (m23, .inl r24))) else (ubi (f_X4_touching 23 m5 x1) (fun m26 r27 => some (m26, .inl r27)))))))))
set_option maxRecDepth 20000 in
theorem t_X7_tenant {l : Launch} {E : Ue} (mem : Um) (x1 : Int32) (x2 : Int32) (z : Um × (Int32 ⊕ String)) (h : f_X7_tenant  mem x1 x2 = some z) : ug l E 7 (uzc z) (uzs z) cX7_tenant 3 RX7 (some .int) [] (uzx_i z) 0 0 0 [(0, .ref (ue_d E 0)), (1, .int x1), (2, .int x2)] [] mem := by
  rw [f_X7_tenant] at h
  refine ug_aload_n 0 dX7_tenant_0 rfl rfl ?_
  refine ug_iload_n 1 dX7_tenant_1 rfl rfl ?_
  rcases ubx_some h with ⟨m1, r2, h3, h⟩ | ⟨m1, X4, h3, rfl⟩
  · refine ug_callVv [.int x1] (c_X7_needTenant_r  h3) kc_X7_212 ro_0 rfl (S := []) rfl (Nat.le_of_ble_eq_true rfl) (Nat.le_of_ble_eq_true rfl) (Nat.le_of_ble_eq_true rfl) dX7_tenant_2 ?_
    refine ug_aload_n 0 dX7_tenant_5 rfl rfl ?_
    refine ug_iload_n 2 dX7_tenant_6 rfl rfl ?_
    refine ug_iconst dX7_tenant_7 un_iconst_0 ?_
    refine ug_iconst dX7_tenant_8 un_iconst_5 ?_
    rcases ubx_some h with ⟨m5, r6, h7, h⟩ | ⟨m5, X8, h7, rfl⟩
    · refine ug_callVv [.int x2, .int 0, .int 5] (c_X7_need_r  h7) kc_X7_102 ro_0 rfl (S := []) rfl (Nat.le_of_ble_eq_true rfl) (Nat.le_of_ble_eq_true rfl) (Nat.le_of_ble_eq_true rfl) dX7_tenant_9 ?_
      refine ug_iload_n 2 dX7_tenant_12 rfl rfl ?_
      by_cases q9 : x2 = 0
      · rw [if_pos q9] at h
        refine ug_tswI 48 dX7_tenant_13 (by rw [q9]; decide) (by rw [q9]; decide) (by rw [q9]; rfl) (by decide) ?_
        refine ug_aload_n 0 dX7_tenant_48 rfl rfl ?_
        refine ug_getR kf_X7_54 gr_0_6 dX7_tenant_49 ?_
        refine ug_getR kf_X7_144 gr_23_2 dX7_tenant_52 ?_
        refine ug_iconst dX7_tenant_55 un_iconst_3 ?_
        refine ug_iload_n 1 dX7_tenant_56 rfl rfl ?_
        refine ug_iadd dX7_tenant_57 ?_
        obtain ⟨g10, h⟩ := ugd_some h
        refine ug_iald al_24 (uin_ok g10) dX7_tenant_58 ?_
        obtain rfl := Option.some.inj h
        exact ug_iret dX7_tenant_59
      · rw [if_neg q9] at h
        by_cases q11 : x2 = 1
        · rw [if_pos q11] at h
          refine ug_tswI 60 dX7_tenant_13 (by rw [q11]; decide) (by rw [q11]; decide) (by rw [q11]; rfl) (by decide) ?_
          refine ug_aload_n 0 dX7_tenant_60 rfl rfl ?_
          refine ug_getR kf_X7_54 gr_0_6 dX7_tenant_61 ?_
          refine ug_getR kf_X7_144 gr_23_2 dX7_tenant_64 ?_
          refine ug_bipush dX7_tenant_67 un_bipush_8 ?_
          refine ug_iload_n 1 dX7_tenant_69 rfl rfl ?_
          refine ug_iadd dX7_tenant_70 ?_
          obtain ⟨g12, h⟩ := ugd_some h
          refine ug_iald al_24 (uin_ok g12) dX7_tenant_71 ?_
          obtain rfl := Option.some.inj h
          exact ug_iret dX7_tenant_72
        · rw [if_neg q11] at h
          by_cases q13 : x2 = 2
          · rw [if_pos q13] at h
            refine ug_tswI 73 dX7_tenant_13 (by rw [q13]; decide) (by rw [q13]; decide) (by rw [q13]; rfl) (by decide) ?_
            refine ug_aload_n 0 dX7_tenant_73 rfl rfl ?_
            refine ug_getR kf_X7_54 gr_0_6 dX7_tenant_74 ?_
            refine ug_iload_n 1 dX7_tenant_77 rfl rfl ?_
            obtain ⟨m14, r15, h16, h⟩ := ubi_some h
            refine ug_callVi [.int x1] (c_X4_has (Or.inl rfl) h16) kc_X7_215 ro_23 rfl (S := []) rfl (Nat.le_of_ble_eq_true rfl) (Nat.le_of_ble_eq_true rfl) (Nat.le_of_ble_eq_true rfl) dX7_tenant_78 ?_
            refine ug_if_eq 88 dX7_tenant_81 (by decide) (fun q17 => ?_) (fun q17 => ?_)
            · rw [if_pos q17] at h
              refine ug_iconst dX7_tenant_88 un_iconst_0 ?_
              refine ug_sub [] [] rfl ?_
              exact t_X7_tenant_b89 m14 0 _ h
            · rw [if_neg q17] at h
              refine ug_iconst dX7_tenant_84 un_iconst_1 ?_
              refine ug_goto 89 dX7_tenant_85 (by decide) ?_
              refine ug_sub [] [] rfl ?_
              exact t_X7_tenant_b89 m14 1 _ h
          · rw [if_neg q13] at h
            by_cases q18 : x2 = 3
            · rw [if_pos q18] at h
              refine ug_tswI 90 dX7_tenant_13 (by rw [q18]; decide) (by rw [q18]; decide) (by rw [q18]; rfl) (by decide) ?_
              refine ug_aload_n 0 dX7_tenant_90 rfl rfl ?_
              refine ug_getR kf_X7_54 gr_0_6 dX7_tenant_91 ?_
              refine ug_iload_n 1 dX7_tenant_94 rfl rfl ?_
              obtain ⟨m19, r20, h21, h⟩ := ubi_some h
              refine ug_callVi [.int x1] (c_X4_viewsHad (Or.inl rfl) h21) kc_X7_219 ro_23 rfl (S := []) rfl (Nat.le_of_ble_eq_true rfl) (Nat.le_of_ble_eq_true rfl) (Nat.le_of_ble_eq_true rfl) dX7_tenant_95 ?_
              obtain rfl := Option.some.inj h
              exact ug_iret dX7_tenant_98
            · rw [if_neg q18] at h
              by_cases q22 : x2 = 4
              · rw [if_pos q22] at h
                refine ug_tswI 99 dX7_tenant_13 (by rw [q22]; decide) (by rw [q22]; decide) (by rw [q22]; rfl) (by decide) ?_
                refine ug_aload_n 0 dX7_tenant_99 rfl rfl ?_
                refine ug_getR kf_X7_54 gr_0_6 dX7_tenant_100 ?_
                refine ug_iload_n 1 dX7_tenant_103 rfl rfl ?_
                obtain ⟨m23, r24, h25, h⟩ := ubi_some h
                refine ug_callVi [.int x1] (c_X4_worthOf (Or.inl rfl) h25) kc_X7_222 ro_23 rfl (S := []) rfl (Nat.le_of_ble_eq_true rfl) (Nat.le_of_ble_eq_true rfl) (Nat.le_of_ble_eq_true rfl) dX7_tenant_104 ?_
                obtain rfl := Option.some.inj h
                exact ug_iret dX7_tenant_107
              · rw [if_neg q22] at h
                refine ug_tswO 108 dX7_tenant_13 (utsw_0_4 q9 q11 q13 q18 q22) (by decide) ?_
                refine ug_aload_n 0 dX7_tenant_108 rfl rfl ?_
                refine ug_getR kf_X7_54 gr_0_6 dX7_tenant_109 ?_
                refine ug_iload_n 1 dX7_tenant_112 rfl rfl ?_
                obtain ⟨m26, r27, h28, h⟩ := ubi_some h
                refine ug_callVi [.int x1] (c_X4_touching (Or.inl rfl) h28) kc_X7_225 ro_23 rfl (S := []) rfl (Nat.le_of_ble_eq_true rfl) (Nat.le_of_ble_eq_true rfl) (Nat.le_of_ble_eq_true rfl) dX7_tenant_113 ?_
                obtain rfl := Option.some.inj h
                exact ug_iret dX7_tenant_116
    · exact ug_callVx [.int x2, .int 0, .int 5] (c_X7_need_x  h7) kc_X7_102 ro_0 rfl (S := []) rfl (Nat.le_of_ble_eq_true rfl) (Nat.le_of_ble_eq_true rfl) (Nat.le_of_ble_eq_true rfl) ⟨Nat.le_refl 1, Nat.le_refl 6⟩ dX7_tenant_9
  · exact ug_callVx [.int x1] (c_X7_needTenant_x  h3) kc_X7_212 ro_0 rfl (S := []) rfl (Nat.le_of_ble_eq_true rfl) (Nat.le_of_ble_eq_true rfl) (Nat.le_of_ble_eq_true rfl) ⟨Nat.le_refl 1, Nat.le_refl 6⟩ dX7_tenant_2
theorem c_X7_tenant_r {l : Launch} {E : Ue} {mem : Um} {x1 : Int32} {x2 : Int32} {m1 : Um} {r : Int32} (h : f_X7_tenant  mem x1 x2 = some (m1, .inl r)) : ucr l E 7 0 0 yX7_tenant cX7_tenant 3 (some .int) [.ref (ue_d E 0), .int x1, .int x2] mem (some (.int r)) m1 := ucr_of rfl (Nat.le_of_ble_eq_true rfl) (t_X7_tenant  mem x1 x2 _ h)
theorem c_X7_tenant_x {l : Launch} {E : Ue} {mem : Um} {x1 : Int32} {x2 : Int32} {m1 : Um} {X : String} (h : f_X7_tenant  mem x1 x2 = some (m1, .inr X)) : ucx l E 7 1 6 yX7_tenant cX7_tenant 3 (some .int) [.ref (ue_d E 0), .int x1, .int x2] mem X m1 := ucx_of rfl (Nat.le_of_ble_eq_true rfl) (t_X7_tenant  mem x1 x2 _ h)
-- X4_viewsSeen
def f_X4_viewsSeen_b30 (o : Nat) (k4 : Um → Int32 → Int32 → Int32 → Option (Um × Int32)) (mem : Um) (x1 : Int32) (x2 : Int32) (x3 : Int32) : Option (Um × Int32) :=
  k4 mem x1 x2 (x3 + 1)
set_option maxRecDepth 20000 in
theorem t_X4_viewsSeen_b30 {l : Launch} {E : Ue} {o : Nat} (ho : o = 23 ∨ o = 25) (k4 : Um → Int32 → Int32 → Int32 → Option (Um × Int32)) (hk4 : ∀ (mem : Um) (x1 : Int32) (x2 : Int32) (x3 : Int32) (z : Um × Int32), k4 mem x1 x2 x3 = some z → ug l E 4 0 0 cX4_viewsSeen 4 RX4 (some .int) [] (uz_i z) 0 0 4 [(0, .ref (ue_d E o)), (1, .int x1), (2, .int x2), (3, .int x3)] [] mem) (mem : Um) (x1 : Int32) (x2 : Int32) (x3 : Int32) (z : Um × Int32) (h : f_X4_viewsSeen_b30 o k4 mem x1 x2 x3 = some z) : ug l E 4 0 0 cX4_viewsSeen 4 RX4 (some .int) [] (uz_i z) 0 0 30 [(0, .ref (ue_d E o)), (1, .int x1), (2, .int x2), (3, .int x3)] [] mem := by
  rw [f_X4_viewsSeen_b30] at h
  refine ug_iinc (v := (x3 + 1)) [(3, .int (x3 + 1)), (0, .ref (ue_d E o)), (1, .int x1), (2, .int x2)] 3 dX4_viewsSeen_30 rfl rfl (Nat.le_of_ble_eq_true rfl) rfl ?_
  refine ug_goto 4 dX4_viewsSeen_33 (by decide) ?_
  refine ug_sub [(0, .ref (ue_d E o)), (1, .int x1), (2, .int x2), (3, .int (x3 + 1))] [1, 2, 3, 0] rfl ?_
  exact hk4 mem x1 x2 (x3 + 1) _ h
def f_X4_viewsSeen_b4 (o : Nat) : Nat → Um → Int32 → Int32 → Int32 → Option (Um × Int32)
  | 0, _, _, _, _ => none
  | n + 1, mem, x1, x2, x3 =>
    if (mem 3 0) ≤ x3 then (some (mem, x2)) else (ubi (f_X4_sees o mem x1 x3) (fun m2 r3 => if r3 = 0 then (f_X4_viewsSeen_b30 o (f_X4_viewsSeen_b4 o n) m2 x1 x2 x3) else (f_X4_viewsSeen_b30 o (f_X4_viewsSeen_b4 o n) m2 x1 (x2 ||| (1 <<< (x3 &&& 31))) x3)))
set_option maxRecDepth 20000 in
theorem t_X4_viewsSeen_b4 {l : Launch} {E : Ue} {o : Nat} (ho : o = 23 ∨ o = 25) : ∀ (n : Nat) (mem : Um) (x1 : Int32) (x2 : Int32) (x3 : Int32) (z : Um × Int32), f_X4_viewsSeen_b4 o n mem x1 x2 x3 = some z → ug l E 4 0 0 cX4_viewsSeen 4 RX4 (some .int) [] (uz_i z) 0 0 4 [(0, .ref (ue_d E o)), (1, .int x1), (2, .int x2), (3, .int x3)] [] mem := by
  intro n
  induction n with
  | zero =>
    intro mem x1 x2 x3 z h
    rw [f_X4_viewsSeen_b4] at h
    cases h
  | succ n ih =>
    intro mem x1 x2 x3 z h
    rw [f_X4_viewsSeen_b4] at h
    refine ug_iload_n 3 dX4_viewsSeen_4 rfl rfl ?_
    refine ug_aload_n 0 dX4_viewsSeen_5 rfl rfl ?_
    refine ug_getR kf_X4_15 (sk_r0 ho) dX4_viewsSeen_6 ?_
    refine ug_getI kf_X4_68 gi_3_0 dX4_viewsSeen_9 ?_
    refine ug_icmp_ge 36 dX4_viewsSeen_12 (by decide) (fun q1 => ?_) (fun q1 => ?_)
    · rw [if_pos q1] at h
      refine ug_iload_n 2 dX4_viewsSeen_36 rfl rfl ?_
      obtain rfl := Option.some.inj h
      exact ug_iret dX4_viewsSeen_37
    · rw [if_neg q1] at h
      refine ug_aload_n 0 dX4_viewsSeen_15 rfl rfl ?_
      refine ug_iload_n 1 dX4_viewsSeen_16 rfl rfl ?_
      refine ug_iload_n 3 dX4_viewsSeen_17 rfl rfl ?_
      obtain ⟨m2, r3, h4, h⟩ := ubi_some h
      refine ug_callVi [.int x1, .int x3] (c_X4_sees ho h4) kc_X4_64 (sk_o ho) rfl (S := []) rfl (Nat.le_of_ble_eq_true rfl) (Nat.le_of_ble_eq_true rfl) (Nat.le_of_ble_eq_true rfl) dX4_viewsSeen_18 ?_
      refine ug_if_eq 30 dX4_viewsSeen_21 (by decide) (fun q5 => ?_) (fun q5 => ?_)
      · rw [if_pos q5] at h
        exact t_X4_viewsSeen_b30 ho (f_X4_viewsSeen_b4 o n) ih m2 x1 x2 x3 _ h
      · rw [if_neg q5] at h
        refine ug_iload_n 2 dX4_viewsSeen_24 rfl rfl ?_
        refine ug_iconst dX4_viewsSeen_25 un_iconst_1 ?_
        refine ug_iload_n 3 dX4_viewsSeen_26 rfl rfl ?_
        refine ug_ishl dX4_viewsSeen_27 ?_
        refine ug_ior dX4_viewsSeen_28 ?_
        refine ug_istore_n [(2, .int (x2 ||| (1 <<< (x3 &&& 31)))), (0, .ref (ue_d E o)), (1, .int x1), (3, .int x3)] dX4_viewsSeen_29 rfl (Nat.le_of_ble_eq_true rfl) rfl ?_
        refine ug_sub [(0, .ref (ue_d E o)), (1, .int x1), (2, .int (x2 ||| (1 <<< (x3 &&& 31)))), (3, .int x3)] [1, 2, 0, 3] rfl ?_
        exact t_X4_viewsSeen_b30 ho (f_X4_viewsSeen_b4 o n) ih m2 x1 (x2 ||| (1 <<< (x3 &&& 31))) x3 _ h
def f_X4_viewsSeen (o : Nat) (mem : Um) (x1 : Int32) : Option (Um × Int32) :=
  f_X4_viewsSeen_b4 o UF mem x1 0 0
set_option maxRecDepth 20000 in
theorem t_X4_viewsSeen {l : Launch} {E : Ue} {o : Nat} (ho : o = 23 ∨ o = 25) (mem : Um) (x1 : Int32) (z : Um × Int32) (h : f_X4_viewsSeen o mem x1 = some z) : ug l E 4 0 0 cX4_viewsSeen 4 RX4 (some .int) [] (uz_i z) 0 0 0 [(0, .ref (ue_d E o)), (1, .int x1)] [] mem := by
  rw [f_X4_viewsSeen] at h
  refine ug_iconst dX4_viewsSeen_0 un_iconst_0 ?_
  refine ug_istore_n [(2, .int 0), (0, .ref (ue_d E o)), (1, .int x1)] dX4_viewsSeen_1 rfl (Nat.le_of_ble_eq_true rfl) rfl ?_
  refine ug_iconst dX4_viewsSeen_2 un_iconst_0 ?_
  refine ug_istore_n [(3, .int 0), (2, .int 0), (0, .ref (ue_d E o)), (1, .int x1)] dX4_viewsSeen_3 rfl (Nat.le_of_ble_eq_true rfl) rfl ?_
  refine ug_sub [(0, .ref (ue_d E o)), (1, .int x1), (2, .int 0), (3, .int 0)] [2, 3, 1, 0] rfl ?_
  exact t_X4_viewsSeen_b4 ho UF mem x1 0 0 _ h
theorem c_X4_viewsSeen {l : Launch} {E : Ue} {o : Nat} (ho : o = 23 ∨ o = 25) {mem : Um} {x1 : Int32} {m1 : Um} {r : Int32} (h : f_X4_viewsSeen o mem x1 = some (m1, r)) : ucr l E 4 0 0 yX4_viewsSeen cX4_viewsSeen 4 (some .int) [.ref (ue_d E o), .int x1] mem (some (.int r)) m1 := ucr_of rfl (Nat.le_of_ble_eq_true rfl) (t_X4_viewsSeen ho mem x1 _ h)
-- X7_bubble
def f_X7_bubble (mem : Um) (x1 : Int32) (x2 : Int32) : Option (Um × (Int32 ⊕ String)) :=
  ubx (f_X7_needTenant mem x1) (fun m1 r2 => ubx (f_X7_need m1 x2 0 4) (fun m5 r6 => ubi (f_X4_has 23 m5 x1) (fun m9 r10 => if r10 = 0 then (some (m9, .inl (-1))) else (if x2 = 0 then (ugd (uin (13 + x1) 28) (some (m9, .inl (m9 24 (13 + x1).toNatClampNeg)))) else (if x2 = 1 then (ugd (uin (18 + x1) 28) (some (m9, .inl (m9 24 (18 + x1).toNatClampNeg)))) else (if x2 = 2 then (ugd (uin (23 + x1) 28) (some (m9, .inl (m9 24 (23 + x1).toNatClampNeg)))) else (if x2 = 3 then (ubi (f_X4_life 23 m9 x1) (fun m20 r21 => some (m20, .inl r21))) else (ubi (f_X4_viewsSeen 23 m9 x1) (fun m23 r24 => some (m23, .inl r24))))))))))
set_option maxRecDepth 20000 in
theorem t_X7_bubble {l : Launch} {E : Ue} (mem : Um) (x1 : Int32) (x2 : Int32) (z : Um × (Int32 ⊕ String)) (h : f_X7_bubble  mem x1 x2 = some z) : ug l E 7 (uzc z) (uzs z) cX7_bubble 3 RX7 (some .int) [] (uzx_i z) 0 0 0 [(0, .ref (ue_d E 0)), (1, .int x1), (2, .int x2)] [] mem := by
  rw [f_X7_bubble] at h
  refine ug_aload_n 0 dX7_bubble_0 rfl rfl ?_
  refine ug_iload_n 1 dX7_bubble_1 rfl rfl ?_
  rcases ubx_some h with ⟨m1, r2, h3, h⟩ | ⟨m1, X4, h3, rfl⟩
  · refine ug_callVv [.int x1] (c_X7_needTenant_r  h3) kc_X7_212 ro_0 rfl (S := []) rfl (Nat.le_of_ble_eq_true rfl) (Nat.le_of_ble_eq_true rfl) (Nat.le_of_ble_eq_true rfl) dX7_bubble_2 ?_
    refine ug_aload_n 0 dX7_bubble_5 rfl rfl ?_
    refine ug_iload_n 2 dX7_bubble_6 rfl rfl ?_
    refine ug_iconst dX7_bubble_7 un_iconst_0 ?_
    refine ug_iconst dX7_bubble_8 un_iconst_4 ?_
    rcases ubx_some h with ⟨m5, r6, h7, h⟩ | ⟨m5, X8, h7, rfl⟩
    · refine ug_callVv [.int x2, .int 0, .int 4] (c_X7_need_r  h7) kc_X7_102 ro_0 rfl (S := []) rfl (Nat.le_of_ble_eq_true rfl) (Nat.le_of_ble_eq_true rfl) (Nat.le_of_ble_eq_true rfl) dX7_bubble_9 ?_
      refine ug_aload_n 0 dX7_bubble_12 rfl rfl ?_
      refine ug_getR kf_X7_54 gr_0_6 dX7_bubble_13 ?_
      refine ug_iload_n 1 dX7_bubble_16 rfl rfl ?_
      obtain ⟨m9, r10, h11, h⟩ := ubi_some h
      refine ug_callVi [.int x1] (c_X4_has (Or.inl rfl) h11) kc_X7_215 ro_23 rfl (S := []) rfl (Nat.le_of_ble_eq_true rfl) (Nat.le_of_ble_eq_true rfl) (Nat.le_of_ble_eq_true rfl) dX7_bubble_17 ?_
      refine ug_if_ne 25 dX7_bubble_20 (by decide) (fun q12 => ?_) (fun q12 => ?_)
      · rw [if_neg q12] at h
        refine ug_iload_n 2 dX7_bubble_25 rfl rfl ?_
        by_cases q13 : x2 = 0
        · rw [if_pos q13] at h
          refine ug_tswI 56 dX7_bubble_26 (by rw [q13]; decide) (by rw [q13]; decide) (by rw [q13]; rfl) (by decide) ?_
          refine ug_aload_n 0 dX7_bubble_56 rfl rfl ?_
          refine ug_getR kf_X7_54 gr_0_6 dX7_bubble_57 ?_
          refine ug_getR kf_X7_144 gr_23_2 dX7_bubble_60 ?_
          refine ug_bipush dX7_bubble_63 un_bipush_13 ?_
          refine ug_iload_n 1 dX7_bubble_65 rfl rfl ?_
          refine ug_iadd dX7_bubble_66 ?_
          obtain ⟨g14, h⟩ := ugd_some h
          refine ug_iald al_24 (uin_ok g14) dX7_bubble_67 ?_
          obtain rfl := Option.some.inj h
          exact ug_iret dX7_bubble_68
        · rw [if_neg q13] at h
          by_cases q15 : x2 = 1
          · rw [if_pos q15] at h
            refine ug_tswI 69 dX7_bubble_26 (by rw [q15]; decide) (by rw [q15]; decide) (by rw [q15]; rfl) (by decide) ?_
            refine ug_aload_n 0 dX7_bubble_69 rfl rfl ?_
            refine ug_getR kf_X7_54 gr_0_6 dX7_bubble_70 ?_
            refine ug_getR kf_X7_144 gr_23_2 dX7_bubble_73 ?_
            refine ug_bipush dX7_bubble_76 un_bipush_18 ?_
            refine ug_iload_n 1 dX7_bubble_78 rfl rfl ?_
            refine ug_iadd dX7_bubble_79 ?_
            obtain ⟨g16, h⟩ := ugd_some h
            refine ug_iald al_24 (uin_ok g16) dX7_bubble_80 ?_
            obtain rfl := Option.some.inj h
            exact ug_iret dX7_bubble_81
          · rw [if_neg q15] at h
            by_cases q17 : x2 = 2
            · rw [if_pos q17] at h
              refine ug_tswI 82 dX7_bubble_26 (by rw [q17]; decide) (by rw [q17]; decide) (by rw [q17]; rfl) (by decide) ?_
              refine ug_aload_n 0 dX7_bubble_82 rfl rfl ?_
              refine ug_getR kf_X7_54 gr_0_6 dX7_bubble_83 ?_
              refine ug_getR kf_X7_144 gr_23_2 dX7_bubble_86 ?_
              refine ug_bipush dX7_bubble_89 un_bipush_23 ?_
              refine ug_iload_n 1 dX7_bubble_91 rfl rfl ?_
              refine ug_iadd dX7_bubble_92 ?_
              obtain ⟨g18, h⟩ := ugd_some h
              refine ug_iald al_24 (uin_ok g18) dX7_bubble_93 ?_
              obtain rfl := Option.some.inj h
              exact ug_iret dX7_bubble_94
            · rw [if_neg q17] at h
              by_cases q19 : x2 = 3
              · rw [if_pos q19] at h
                refine ug_tswI 95 dX7_bubble_26 (by rw [q19]; decide) (by rw [q19]; decide) (by rw [q19]; rfl) (by decide) ?_
                refine ug_aload_n 0 dX7_bubble_95 rfl rfl ?_
                refine ug_getR kf_X7_54 gr_0_6 dX7_bubble_96 ?_
                refine ug_iload_n 1 dX7_bubble_99 rfl rfl ?_
                obtain ⟨m20, r21, h22, h⟩ := ubi_some h
                refine ug_callVi [.int x1] (c_X4_life (Or.inl rfl) h22) kc_X7_228 ro_23 rfl (S := []) rfl (Nat.le_of_ble_eq_true rfl) (Nat.le_of_ble_eq_true rfl) (Nat.le_of_ble_eq_true rfl) dX7_bubble_100 ?_
                obtain rfl := Option.some.inj h
                exact ug_iret dX7_bubble_103
              · rw [if_neg q19] at h
                refine ug_tswO 104 dX7_bubble_26 (utsw_0_3 q13 q15 q17 q19) (by decide) ?_
                refine ug_aload_n 0 dX7_bubble_104 rfl rfl ?_
                refine ug_getR kf_X7_54 gr_0_6 dX7_bubble_105 ?_
                refine ug_iload_n 1 dX7_bubble_108 rfl rfl ?_
                obtain ⟨m23, r24, h25, h⟩ := ubi_some h
                refine ug_callVi [.int x1] (c_X4_viewsSeen (Or.inl rfl) h25) kc_X7_231 ro_23 rfl (S := []) rfl (Nat.le_of_ble_eq_true rfl) (Nat.le_of_ble_eq_true rfl) (Nat.le_of_ble_eq_true rfl) dX7_bubble_109 ?_
                obtain rfl := Option.some.inj h
                exact ug_iret dX7_bubble_112
      · rw [if_pos q12] at h
        refine ug_iconst dX7_bubble_23 un_iconst_m1 ?_
        obtain rfl := Option.some.inj h
        exact ug_iret dX7_bubble_24
    · exact ug_callVx [.int x2, .int 0, .int 4] (c_X7_need_x  h7) kc_X7_102 ro_0 rfl (S := []) rfl (Nat.le_of_ble_eq_true rfl) (Nat.le_of_ble_eq_true rfl) (Nat.le_of_ble_eq_true rfl) ⟨Nat.le_refl 1, Nat.le_refl 6⟩ dX7_bubble_9
  · exact ug_callVx [.int x1] (c_X7_needTenant_x  h3) kc_X7_212 ro_0 rfl (S := []) rfl (Nat.le_of_ble_eq_true rfl) (Nat.le_of_ble_eq_true rfl) (Nat.le_of_ble_eq_true rfl) ⟨Nat.le_refl 1, Nat.le_refl 6⟩ dX7_bubble_2
theorem c_X7_bubble_r {l : Launch} {E : Ue} {mem : Um} {x1 : Int32} {x2 : Int32} {m1 : Um} {r : Int32} (h : f_X7_bubble  mem x1 x2 = some (m1, .inl r)) : ucr l E 7 0 0 yX7_bubble cX7_bubble 3 (some .int) [.ref (ue_d E 0), .int x1, .int x2] mem (some (.int r)) m1 := ucr_of rfl (Nat.le_of_ble_eq_true rfl) (t_X7_bubble  mem x1 x2 _ h)
theorem c_X7_bubble_x {l : Launch} {E : Ue} {mem : Um} {x1 : Int32} {x2 : Int32} {m1 : Um} {X : String} (h : f_X7_bubble  mem x1 x2 = some (m1, .inr X)) : ucx l E 7 1 6 yX7_bubble cX7_bubble 3 (some .int) [.ref (ue_d E 0), .int x1, .int x2] mem X m1 := ucx_of rfl (Nat.le_of_ble_eq_true rfl) (t_X7_bubble  mem x1 x2 _ h)
-- X7_richest
def f_X7_richest_b74 (mem : Um) (y0 : Int32) : Option (Um × (Int32 ⊕ String)) :=
  some (mem, .inl y0)
set_option maxRecDepth 20000 in
theorem t_X7_richest_b74 {l : Launch} {E : Ue} (mem : Um) (y0 : Int32) (z : Um × (Int32 ⊕ String)) (h : f_X7_richest_b74  mem y0 = some z) : ug l E 7 (uzc z) (uzs z) cX7_richest 6 RX7 (some .int) [] (uzx_i z) 0 0 74 [] [.int y0] mem := by
  rw [f_X7_richest_b74] at h
  obtain rfl := Option.some.inj h
  exact ug_iret dX7_richest_74
def f_X7_richest_b59 (k14 : Um → Int32 → Int32 → Int32 → Int32 → Option (Um × (Int32 ⊕ String))) (mem : Um) (x1 : Int32) (x2 : Int32) (x3 : Int32) (x4 : Int32) : Option (Um × (Int32 ⊕ String)) :=
  k14 mem x1 x2 x3 (x4 + 1)
set_option maxRecDepth 20000 in
theorem t_X7_richest_b59 {l : Launch} {E : Ue} (k14 : Um → Int32 → Int32 → Int32 → Int32 → Option (Um × (Int32 ⊕ String))) (hk14 : ∀ (mem : Um) (x1 : Int32) (x2 : Int32) (x3 : Int32) (x4 : Int32) (z : Um × (Int32 ⊕ String)), k14 mem x1 x2 x3 x4 = some z → ug l E 7 (uzc z) (uzs z) cX7_richest 6 RX7 (some .int) [] (uzx_i z) 0 0 14 [(0, .ref (ue_d E 0)), (1, .int x1), (2, .int x2), (3, .int x3), (4, .int x4)] [] mem) (mem : Um) (x1 : Int32) (x2 : Int32) (x3 : Int32) (x4 : Int32) (z : Um × (Int32 ⊕ String)) (h : f_X7_richest_b59 k14 mem x1 x2 x3 x4 = some z) : ug l E 7 (uzc z) (uzs z) cX7_richest 6 RX7 (some .int) [] (uzx_i z) 0 0 59 [(0, .ref (ue_d E 0)), (1, .int x1), (2, .int x2), (3, .int x3), (4, .int x4)] [] mem := by
  rw [f_X7_richest_b59] at h
  refine ug_iinc (v := (x4 + 1)) [(4, .int (x4 + 1)), (0, .ref (ue_d E 0)), (1, .int x1), (2, .int x2), (3, .int x3)] 4 dX7_richest_59 rfl rfl (Nat.le_of_ble_eq_true rfl) rfl ?_
  refine ug_goto 14 dX7_richest_62 (by decide) ?_
  refine ug_sub [(0, .ref (ue_d E 0)), (1, .int x1), (2, .int x2), (3, .int x3), (4, .int (x4 + 1))] [1, 2, 3, 4, 0] rfl ?_
  exact hk14 mem x1 x2 x3 (x4 + 1) _ h
def f_X7_richest_b45 (k14 : Um → Int32 → Int32 → Int32 → Int32 → Option (Um × (Int32 ⊕ String))) (mem : Um) (x1 : Int32) (x2 : Int32) (x3 : Int32) (x4 : Int32) (y0 : Int32) : Option (Um × (Int32 ⊕ String)) :=
  if y0 ≤ x3 then (f_X7_richest_b59 k14 mem x1 x2 x3 x4) else (f_X7_richest_b59 k14 mem x1 x4 y0 x4)
set_option maxRecDepth 20000 in
theorem t_X7_richest_b45 {l : Launch} {E : Ue} (k14 : Um → Int32 → Int32 → Int32 → Int32 → Option (Um × (Int32 ⊕ String))) (hk14 : ∀ (mem : Um) (x1 : Int32) (x2 : Int32) (x3 : Int32) (x4 : Int32) (z : Um × (Int32 ⊕ String)), k14 mem x1 x2 x3 x4 = some z → ug l E 7 (uzc z) (uzs z) cX7_richest 6 RX7 (some .int) [] (uzx_i z) 0 0 14 [(0, .ref (ue_d E 0)), (1, .int x1), (2, .int x2), (3, .int x3), (4, .int x4)] [] mem) (mem : Um) (x1 : Int32) (x2 : Int32) (x3 : Int32) (x4 : Int32) (y0 : Int32) (z : Um × (Int32 ⊕ String)) (h : f_X7_richest_b45 k14 mem x1 x2 x3 x4 y0 = some z) : ug l E 7 (uzc z) (uzs z) cX7_richest 6 RX7 (some .int) [] (uzx_i z) 0 0 45 [(0, .ref (ue_d E 0)), (1, .int x1), (2, .int x2), (3, .int x3), (4, .int x4)] [.int y0] mem := by
  rw [f_X7_richest_b45] at h
  refine ug_istore [(5, .int y0), (0, .ref (ue_d E 0)), (1, .int x1), (2, .int x2), (3, .int x3), (4, .int x4)] dX7_richest_45 (Nat.le_of_ble_eq_true rfl) rfl ?_
  refine ug_iload 0 dX7_richest_47 rfl ?_
  refine ug_iload_n 4 dX7_richest_49 rfl rfl ?_
  refine ug_icmp_le 59 dX7_richest_50 (by decide) (fun q1 => ?_) (fun q1 => ?_)
  · rw [if_pos q1] at h
    refine ug_sub [(0, .ref (ue_d E 0)), (1, .int x1), (2, .int x2), (3, .int x3), (4, .int x4)] [1, 2, 3, 4, 5] rfl ?_
    exact t_X7_richest_b59 k14 hk14 mem x1 x2 x3 x4 _ h
  · rw [if_neg q1] at h
    refine ug_iload 5 dX7_richest_53 rfl ?_
    refine ug_istore_n [(2, .int x4), (5, .int y0), (0, .ref (ue_d E 0)), (1, .int x1), (3, .int x3), (4, .int x4)] dX7_richest_55 rfl (Nat.le_of_ble_eq_true rfl) rfl ?_
    refine ug_iload 1 dX7_richest_56 rfl ?_
    refine ug_istore_n [(3, .int y0), (2, .int x4), (5, .int y0), (0, .ref (ue_d E 0)), (1, .int x1), (4, .int x4)] dX7_richest_58 rfl (Nat.le_of_ble_eq_true rfl) rfl ?_
    refine ug_sub [(0, .ref (ue_d E 0)), (1, .int x1), (2, .int x4), (3, .int y0), (4, .int x4)] [3, 4, 1, 0, 5] rfl ?_
    exact t_X7_richest_b59 k14 hk14 mem x1 x4 y0 x4 _ h
def f_X7_richest_b14 : Nat → Um → Int32 → Int32 → Int32 → Int32 → Option (Um × (Int32 ⊕ String))
  | 0, _, _, _, _, _ => none
  | n + 1, mem, x1, x2, x3, x4 =>
    if 5 ≤ x4 then (if x1 = 0 then (f_X7_richest_b74 mem x2) else (f_X7_richest_b74 mem x3)) else (ubi (f_X4_has 23 mem x4) (fun m3 r4 => if r4 = 0 then (f_X7_richest_b45 (f_X7_richest_b14  n) m3 x1 x2 x3 x4 (-1)) else (ubi (f_X4_worthOf 23 m3 x4) (fun m7 r8 => f_X7_richest_b45 (f_X7_richest_b14  n) m7 x1 x2 x3 x4 r8))))
set_option maxRecDepth 20000 in
theorem t_X7_richest_b14 {l : Launch} {E : Ue} : ∀ (n : Nat) (mem : Um) (x1 : Int32) (x2 : Int32) (x3 : Int32) (x4 : Int32) (z : Um × (Int32 ⊕ String)), f_X7_richest_b14  n mem x1 x2 x3 x4 = some z → ug l E 7 (uzc z) (uzs z) cX7_richest 6 RX7 (some .int) [] (uzx_i z) 0 0 14 [(0, .ref (ue_d E 0)), (1, .int x1), (2, .int x2), (3, .int x3), (4, .int x4)] [] mem := by
  intro n
  induction n with
  | zero =>
    intro mem x1 x2 x3 x4 z h
    rw [f_X7_richest_b14] at h
    cases h
  | succ n ih =>
    intro mem x1 x2 x3 x4 z h
    rw [f_X7_richest_b14] at h
    refine ug_iload 4 dX7_richest_14 rfl ?_
    refine ug_iconst dX7_richest_16 un_iconst_5 ?_
    refine ug_icmp_ge 65 dX7_richest_17 (by decide) (fun q1 => ?_) (fun q1 => ?_)
    · rw [if_pos q1] at h
      refine ug_iload_n 1 dX7_richest_65 rfl rfl ?_
      refine ug_if_ne 73 dX7_richest_66 (by decide) (fun q2 => ?_) (fun q2 => ?_)
      · rw [if_neg q2] at h
        refine ug_iload_n 3 dX7_richest_73 rfl rfl ?_
        refine ug_sub [] [] rfl ?_
        exact t_X7_richest_b74 mem x3 _ h
      · rw [if_pos q2] at h
        refine ug_iload_n 2 dX7_richest_69 rfl rfl ?_
        refine ug_goto 74 dX7_richest_70 (by decide) ?_
        refine ug_sub [] [] rfl ?_
        exact t_X7_richest_b74 mem x2 _ h
    · rw [if_neg q1] at h
      refine ug_aload_n 0 dX7_richest_20 rfl rfl ?_
      refine ug_getR kf_X7_54 gr_0_6 dX7_richest_21 ?_
      refine ug_iload 4 dX7_richest_24 rfl ?_
      obtain ⟨m3, r4, h5, h⟩ := ubi_some h
      refine ug_callVi [.int x4] (c_X4_has (Or.inl rfl) h5) kc_X7_215 ro_23 rfl (S := []) rfl (Nat.le_of_ble_eq_true rfl) (Nat.le_of_ble_eq_true rfl) (Nat.le_of_ble_eq_true rfl) dX7_richest_26 ?_
      refine ug_if_eq 44 dX7_richest_29 (by decide) (fun q6 => ?_) (fun q6 => ?_)
      · rw [if_pos q6] at h
        refine ug_iconst dX7_richest_44 un_iconst_m1 ?_
        exact t_X7_richest_b45 (f_X7_richest_b14  n) ih m3 x1 x2 x3 x4 (-1) _ h
      · rw [if_neg q6] at h
        refine ug_aload_n 0 dX7_richest_32 rfl rfl ?_
        refine ug_getR kf_X7_54 gr_0_6 dX7_richest_33 ?_
        refine ug_iload 4 dX7_richest_36 rfl ?_
        obtain ⟨m7, r8, h9, h⟩ := ubi_some h
        refine ug_callVi [.int x4] (c_X4_worthOf (Or.inl rfl) h9) kc_X7_222 ro_23 rfl (S := []) rfl (Nat.le_of_ble_eq_true rfl) (Nat.le_of_ble_eq_true rfl) (Nat.le_of_ble_eq_true rfl) dX7_richest_38 ?_
        refine ug_goto 45 dX7_richest_41 (by decide) ?_
        exact t_X7_richest_b45 (f_X7_richest_b14  n) ih m7 x1 x2 x3 x4 r8 _ h
def f_X7_richest (mem : Um) (x1 : Int32) : Option (Um × (Int32 ⊕ String)) :=
  ubx (f_X7_need mem x1 0 1) (fun m1 r2 => f_X7_richest_b14  UF m1 x1 (-1) (-1) 0)
set_option maxRecDepth 20000 in
theorem t_X7_richest {l : Launch} {E : Ue} (mem : Um) (x1 : Int32) (z : Um × (Int32 ⊕ String)) (h : f_X7_richest  mem x1 = some z) : ug l E 7 (uzc z) (uzs z) cX7_richest 6 RX7 (some .int) [] (uzx_i z) 0 0 0 [(0, .ref (ue_d E 0)), (1, .int x1)] [] mem := by
  rw [f_X7_richest] at h
  refine ug_aload_n 0 dX7_richest_0 rfl rfl ?_
  refine ug_iload_n 1 dX7_richest_1 rfl rfl ?_
  refine ug_iconst dX7_richest_2 un_iconst_0 ?_
  refine ug_iconst dX7_richest_3 un_iconst_1 ?_
  rcases ubx_some h with ⟨m1, r2, h3, h⟩ | ⟨m1, X4, h3, rfl⟩
  · refine ug_callVv [.int x1, .int 0, .int 1] (c_X7_need_r  h3) kc_X7_102 ro_0 rfl (S := []) rfl (Nat.le_of_ble_eq_true rfl) (Nat.le_of_ble_eq_true rfl) (Nat.le_of_ble_eq_true rfl) dX7_richest_4 ?_
    refine ug_iconst dX7_richest_7 un_iconst_m1 ?_
    refine ug_istore_n [(2, .int (-1)), (0, .ref (ue_d E 0)), (1, .int x1)] dX7_richest_8 rfl (Nat.le_of_ble_eq_true rfl) rfl ?_
    refine ug_iconst dX7_richest_9 un_iconst_m1 ?_
    refine ug_istore_n [(3, .int (-1)), (2, .int (-1)), (0, .ref (ue_d E 0)), (1, .int x1)] dX7_richest_10 rfl (Nat.le_of_ble_eq_true rfl) rfl ?_
    refine ug_iconst dX7_richest_11 un_iconst_0 ?_
    refine ug_istore [(4, .int 0), (3, .int (-1)), (2, .int (-1)), (0, .ref (ue_d E 0)), (1, .int x1)] dX7_richest_12 (Nat.le_of_ble_eq_true rfl) rfl ?_
    refine ug_sub [(0, .ref (ue_d E 0)), (1, .int x1), (2, .int (-1)), (3, .int (-1)), (4, .int 0)] [3, 4, 2, 1, 0] rfl ?_
    exact t_X7_richest_b14  UF m1 x1 (-1) (-1) 0 _ h
  · exact ug_callVx [.int x1, .int 0, .int 1] (c_X7_need_x  h3) kc_X7_102 ro_0 rfl (S := []) rfl (Nat.le_of_ble_eq_true rfl) (Nat.le_of_ble_eq_true rfl) (Nat.le_of_ble_eq_true rfl) ⟨Nat.le_refl 1, Nat.le_refl 6⟩ dX7_richest_4
theorem c_X7_richest_r {l : Launch} {E : Ue} {mem : Um} {x1 : Int32} {m1 : Um} {r : Int32} (h : f_X7_richest  mem x1 = some (m1, .inl r)) : ucr l E 7 0 0 yX7_richest cX7_richest 6 (some .int) [.ref (ue_d E 0), .int x1] mem (some (.int r)) m1 := ucr_of rfl (Nat.le_of_ble_eq_true rfl) (t_X7_richest  mem x1 _ h)
theorem c_X7_richest_x {l : Launch} {E : Ue} {mem : Um} {x1 : Int32} {m1 : Um} {X : String} (h : f_X7_richest  mem x1 = some (m1, .inr X)) : ucx l E 7 1 6 yX7_richest cX7_richest 6 (some .int) [.ref (ue_d E 0), .int x1] mem X m1 := ucx_of rfl (Nat.le_of_ble_eq_true rfl) (t_X7_richest  mem x1 _ h)
-- X7_idle
def f_X7_idle_b32 (k4 : Um → Int32 → Int32 → Option (Um × Int32)) (mem : Um) (x1 : Int32) (x2 : Int32) : Option (Um × Int32) :=
  k4 mem x1 (x2 + 1)
set_option maxRecDepth 20000 in
theorem t_X7_idle_b32 {l : Launch} {E : Ue} (k4 : Um → Int32 → Int32 → Option (Um × Int32)) (hk4 : ∀ (mem : Um) (x1 : Int32) (x2 : Int32) (z : Um × Int32), k4 mem x1 x2 = some z → ug l E 5 0 0 cX7_idle 3 RX7 (some .int) [] (uz_i z) 0 0 4 [(0, .ref (ue_d E 0)), (1, .int x1), (2, .int x2)] [] mem) (mem : Um) (x1 : Int32) (x2 : Int32) (z : Um × Int32) (h : f_X7_idle_b32 k4 mem x1 x2 = some z) : ug l E 5 0 0 cX7_idle 3 RX7 (some .int) [] (uz_i z) 0 0 32 [(0, .ref (ue_d E 0)), (1, .int x1), (2, .int x2)] [] mem := by
  rw [f_X7_idle_b32] at h
  refine ug_iinc (v := (x2 + 1)) [(2, .int (x2 + 1)), (0, .ref (ue_d E 0)), (1, .int x1)] 2 dX7_idle_32 rfl rfl (Nat.le_of_ble_eq_true rfl) rfl ?_
  refine ug_goto 4 dX7_idle_35 (by decide) ?_
  refine ug_sub [(0, .ref (ue_d E 0)), (1, .int x1), (2, .int (x2 + 1))] [1, 2, 0] rfl ?_
  exact hk4 mem x1 (x2 + 1) _ h
def f_X7_idle_b4 : Nat → Um → Int32 → Int32 → Option (Um × Int32)
  | 0, _, _, _ => none
  | n + 1, mem, x1, x2 =>
    if (mem 3 0) ≤ x2 then (some (mem, x1)) else (ubi (f_X4_seenBy 23 mem x2) (fun m2 r3 => if r3 = 0 then (f_X7_idle_b32 (f_X7_idle_b4  n) m2 (x1 ||| (1 <<< (x2 &&& 31))) x2) else (f_X7_idle_b32 (f_X7_idle_b4  n) m2 x1 x2)))
set_option maxRecDepth 20000 in
theorem t_X7_idle_b4 {l : Launch} {E : Ue} : ∀ (n : Nat) (mem : Um) (x1 : Int32) (x2 : Int32) (z : Um × Int32), f_X7_idle_b4  n mem x1 x2 = some z → ug l E 5 0 0 cX7_idle 3 RX7 (some .int) [] (uz_i z) 0 0 4 [(0, .ref (ue_d E 0)), (1, .int x1), (2, .int x2)] [] mem := by
  intro n
  induction n with
  | zero =>
    intro mem x1 x2 z h
    rw [f_X7_idle_b4] at h
    cases h
  | succ n ih =>
    intro mem x1 x2 z h
    rw [f_X7_idle_b4] at h
    refine ug_iload_n 2 dX7_idle_4 rfl rfl ?_
    refine ug_aload_n 0 dX7_idle_5 rfl rfl ?_
    refine ug_getR kf_X7_21 gr_0_1 dX7_idle_6 ?_
    refine ug_getI kf_X7_162 gi_3_0 dX7_idle_9 ?_
    refine ug_icmp_ge 38 dX7_idle_12 (by decide) (fun q1 => ?_) (fun q1 => ?_)
    · rw [if_pos q1] at h
      refine ug_iload_n 1 dX7_idle_38 rfl rfl ?_
      obtain rfl := Option.some.inj h
      exact ug_iret dX7_idle_39
    · rw [if_neg q1] at h
      refine ug_aload_n 0 dX7_idle_15 rfl rfl ?_
      refine ug_getR kf_X7_54 gr_0_6 dX7_idle_16 ?_
      refine ug_iload_n 2 dX7_idle_19 rfl rfl ?_
      obtain ⟨m2, r3, h4, h⟩ := ubi_some h
      refine ug_callVi [.int x2] (c_X4_seenBy (Or.inl rfl) h4) kc_X7_206 ro_23 rfl (S := []) rfl (Nat.le_of_ble_eq_true rfl) (Nat.le_of_ble_eq_true rfl) (Nat.le_of_ble_eq_true rfl) dX7_idle_20 ?_
      refine ug_if_ne 32 dX7_idle_23 (by decide) (fun q5 => ?_) (fun q5 => ?_)
      · rw [if_neg q5] at h
        exact t_X7_idle_b32 (f_X7_idle_b4  n) ih m2 x1 x2 _ h
      · rw [if_pos q5] at h
        refine ug_iload_n 1 dX7_idle_26 rfl rfl ?_
        refine ug_iconst dX7_idle_27 un_iconst_1 ?_
        refine ug_iload_n 2 dX7_idle_28 rfl rfl ?_
        refine ug_ishl dX7_idle_29 ?_
        refine ug_ior dX7_idle_30 ?_
        refine ug_istore_n [(1, .int (x1 ||| (1 <<< (x2 &&& 31)))), (0, .ref (ue_d E 0)), (2, .int x2)] dX7_idle_31 rfl (Nat.le_of_ble_eq_true rfl) rfl ?_
        refine ug_sub [(0, .ref (ue_d E 0)), (1, .int (x1 ||| (1 <<< (x2 &&& 31)))), (2, .int x2)] [1, 0, 2] rfl ?_
        exact t_X7_idle_b32 (f_X7_idle_b4  n) ih m2 (x1 ||| (1 <<< (x2 &&& 31))) x2 _ h
def f_X7_idle (mem : Um) : Option (Um × Int32) :=
  f_X7_idle_b4  UF mem 0 0
set_option maxRecDepth 20000 in
theorem t_X7_idle {l : Launch} {E : Ue} (mem : Um) (z : Um × Int32) (h : f_X7_idle  mem  = some z) : ug l E 5 0 0 cX7_idle 3 RX7 (some .int) [] (uz_i z) 0 0 0 [(0, .ref (ue_d E 0))] [] mem := by
  rw [f_X7_idle] at h
  refine ug_iconst dX7_idle_0 un_iconst_0 ?_
  refine ug_istore_n [(1, .int 0), (0, .ref (ue_d E 0))] dX7_idle_1 rfl (Nat.le_of_ble_eq_true rfl) rfl ?_
  refine ug_iconst dX7_idle_2 un_iconst_0 ?_
  refine ug_istore_n [(2, .int 0), (1, .int 0), (0, .ref (ue_d E 0))] dX7_idle_3 rfl (Nat.le_of_ble_eq_true rfl) rfl ?_
  refine ug_sub [(0, .ref (ue_d E 0)), (1, .int 0), (2, .int 0)] [2, 1, 0] rfl ?_
  exact t_X7_idle_b4  UF mem 0 0 _ h
theorem c_X7_idle {l : Launch} {E : Ue} {mem : Um} {m1 : Um} {r : Int32} (h : f_X7_idle  mem  = some (m1, r)) : ucr l E 5 0 0 yX7_idle cX7_idle 3 (some .int) [.ref (ue_d E 0)] mem (some (.int r)) m1 := ucr_of rfl (Nat.le_of_ble_eq_true rfl) (t_X7_idle  mem  _ h)
