-- X8_thrown
def f_X8_thrown (mem : Um) : Option (Um × Int32) :=
  some (mem, (mem 38 0))
set_option maxRecDepth 20000 in
theorem t_X8_thrown {l : Launch} {E : Ue} (mem : Um) (z : Um × Int32) (h : f_X8_thrown  mem  = some z) : ug l E 2 0 0 cX8_thrown 1 RX8 (some .int) [] (uz_i z) 0 0 0 [(0, .ref (ue_d E 38))] [] mem := by
  rw [f_X8_thrown] at h
  refine ug_aload_n 0 dX8_thrown_0 rfl rfl ?_
  refine ug_getI kf_X8_3 gi_38_0 dX8_thrown_1 ?_
  obtain rfl := Option.some.inj h
  exact ug_iret dX8_thrown_4
theorem c_X8_thrown {l : Launch} {E : Ue} {mem : Um} {m1 : Um} {r : Int32} (h : f_X8_thrown  mem  = some (m1, r)) : ucr l E 2 0 0 yX8_thrown cX8_thrown 1 (some .int) [.ref (ue_d E 38)] mem (some (.int r)) m1 := ucr_of rfl (Nat.le_of_ble_eq_true rfl) (t_X8_thrown  mem  _ h)
-- X8_may
def f_X8_may_b38 (mem : Um) (y0 : Int32) : Option (Um × Int32) :=
  ugd (ub01 y0) (some (mem, y0))
set_option maxRecDepth 20000 in
theorem t_X8_may_b38 {l : Launch} {E : Ue} (mem : Um) (y0 : Int32) (z : Um × Int32) (h : f_X8_may_b38  mem y0 = some z) : ug l E 2 0 0 cX8_may 4 RX8 (some .boolean) [] (uz_i z) 0 0 38 [] [.int y0] mem := by
  rw [f_X8_may_b38] at h
  obtain ⟨g1, h⟩ := ugd_some h
  obtain rfl := Option.some.inj h
  exact ug_zret (of_decide_eq_true g1) dX8_may_38
def f_X8_may_b26 (mem : Um) : Option (Um × Int32) :=
  if (mem 38 0) = 0 then (f_X8_may_b38 mem 1) else (f_X8_may_b38 mem 0)
set_option maxRecDepth 20000 in
theorem t_X8_may_b26 {l : Launch} {E : Ue} (mem : Um) (z : Um × Int32) (h : f_X8_may_b26  mem  = some z) : ug l E 2 0 0 cX8_may 4 RX8 (some .boolean) [] (uz_i z) 0 0 26 [(0, .ref (ue_d E 38))] [] mem := by
  rw [f_X8_may_b26] at h
  refine ug_aload_n 0 dX8_may_26 rfl rfl ?_
  refine ug_getI kf_X8_3 gi_38_0 dX8_may_27 ?_
  refine ug_if_ne 37 dX8_may_30 (by decide) (fun q1 => ?_) (fun q1 => ?_)
  · rw [if_neg q1] at h
    refine ug_iconst dX8_may_37 un_iconst_0 ?_
    refine ug_sub [] [] rfl ?_
    exact t_X8_may_b38 mem 0 _ h
  · rw [if_pos q1] at h
    refine ug_iconst dX8_may_33 un_iconst_1 ?_
    refine ug_goto 38 dX8_may_34 (by decide) ?_
    refine ug_sub [] [] rfl ?_
    exact t_X8_may_b38 mem 1 _ h
def f_X8_may (mem : Um) (x1 : Int32) (x2 : Int32) (x3 : Int32) : Option (Um × Int32) :=
  if x1 = 0 then (if (mem 38 0) = 0 then (ugd (uin x3 2) (ugd (uin x3 2) (f_X8_may_b26 (um_w (um_w mem 38 0 x2) 39 x3.toNatClampNeg (((um_w mem 38 0 x2) 39 x3.toNatClampNeg) + 1))))) else (f_X8_may_b26 mem)) else (f_X8_may_b26 mem)
set_option maxRecDepth 20000 in
theorem t_X8_may {l : Launch} {E : Ue} (mem : Um) (x1 : Int32) (x2 : Int32) (x3 : Int32) (z : Um × Int32) (h : f_X8_may  mem x1 x2 x3 = some z) : ug l E 2 0 0 cX8_may 4 RX8 (some .boolean) [] (uz_i z) 0 0 0 [(0, .ref (ue_d E 38)), (1, .int x1), (2, .int x2), (3, .int x3)] [] mem := by
  rw [f_X8_may] at h
  refine ug_iload_n 1 dX8_may_0 rfl rfl ?_
  refine ug_if_ne 26 dX8_may_1 (by decide) (fun q1 => ?_) (fun q1 => ?_)
  · rw [if_neg q1] at h
    refine ug_sub [(0, .ref (ue_d E 38))] [0] rfl ?_
    exact t_X8_may_b26 mem  _ h
  · rw [if_pos q1] at h
    refine ug_aload_n 0 dX8_may_4 rfl rfl ?_
    refine ug_getI kf_X8_3 gi_38_0 dX8_may_5 ?_
    refine ug_if_ne 26 dX8_may_8 (by decide) (fun q2 => ?_) (fun q2 => ?_)
    · rw [if_neg q2] at h
      refine ug_sub [(0, .ref (ue_d E 38))] [0] rfl ?_
      exact t_X8_may_b26 mem  _ h
    · rw [if_pos q2] at h
      refine ug_aload_n 0 dX8_may_11 rfl rfl ?_
      refine ug_iload_n 2 dX8_may_12 rfl rfl ?_
      refine ug_putI kp_X8_3 gi_38_0 dX8_may_13 ?_
      refine ug_aload_n 0 dX8_may_16 rfl rfl ?_
      refine ug_getR kf_X8_7 gr_38_1 dX8_may_17 ?_
      refine ug_iload_n 3 dX8_may_20 rfl rfl ?_
      refine ug_dup2 dX8_may_21 rfl rfl ?_
      obtain ⟨g3, h⟩ := ugd_some h
      refine ug_iald al_39 (uin_ok g3) dX8_may_22 ?_
      refine ug_iconst dX8_may_23 un_iconst_1 ?_
      refine ug_iadd dX8_may_24 ?_
      obtain ⟨g4, h⟩ := ugd_some h
      refine ug_iast al_39 (uin_ok g4) dX8_may_25 ?_
      refine ug_sub [(0, .ref (ue_d E 38))] [0] rfl ?_
      exact t_X8_may_b26 (um_w (um_w mem 38 0 x2) 39 x3.toNatClampNeg (((um_w mem 38 0 x2) 39 x3.toNatClampNeg) + 1))  _ h
theorem c_X8_may {l : Launch} {E : Ue} {mem : Um} {x1 : Int32} {x2 : Int32} {x3 : Int32} {m1 : Um} {r : Int32} (h : f_X8_may  mem x1 x2 x3 = some (m1, r)) : ucr l E 2 0 0 yX8_may cX8_may 4 (some .boolean) [.ref (ue_d E 38), .int x1, .int x2, .int x3] mem (some (.int r)) m1 := ucr_of rfl (Nat.le_of_ble_eq_true rfl) (t_X8_may  mem x1 x2 x3 _ h)
-- X8_within
def f_X8_within_b15 (mem : Um) (y0 : Int32) : Option (Um × Int32) :=
  ugd (ub01 y0) (some (mem, y0))
set_option maxRecDepth 20000 in
theorem t_X8_within_b15 {l : Launch} {E : Ue} (mem : Um) (y0 : Int32) (z : Um × Int32) (h : f_X8_within_b15  mem y0 = some z) : ug l E 2 0 0 cX8_within 3 RX8 (some .boolean) [] (uz_i z) 0 0 15 [] [.int y0] mem := by
  rw [f_X8_within_b15] at h
  obtain ⟨g1, h⟩ := ugd_some h
  obtain rfl := Option.some.inj h
  exact ug_zret (of_decide_eq_true g1) dX8_within_15
def f_X8_within_b14 (mem : Um) : Option (Um × Int32) :=
  f_X8_within_b15 mem 0
set_option maxRecDepth 20000 in
theorem t_X8_within_b14 {l : Launch} {E : Ue} (mem : Um) (z : Um × Int32) (h : f_X8_within_b14  mem  = some z) : ug l E 2 0 0 cX8_within 3 RX8 (some .boolean) [] (uz_i z) 0 0 14 [] [] mem := by
  rw [f_X8_within_b14] at h
  refine ug_iconst dX8_within_14 un_iconst_0 ?_
  exact t_X8_within_b15 mem 0 _ h
def f_X8_within (mem : Um) (x0 : Int32) (x1 : Int32) (x2 : Int32) : Option (Um × Int32) :=
  if x0 < x1 then (f_X8_within_b14 mem) else (if x2 < x0 then (f_X8_within_b14 mem) else (f_X8_within_b15 mem 1))
set_option maxRecDepth 20000 in
theorem t_X8_within {l : Launch} {E : Ue} (mem : Um) (x0 : Int32) (x1 : Int32) (x2 : Int32) (z : Um × Int32) (h : f_X8_within  mem x0 x1 x2 = some z) : ug l E 2 0 0 cX8_within 3 RX8 (some .boolean) [] (uz_i z) 0 0 0 [(0, .int x0), (1, .int x1), (2, .int x2)] [] mem := by
  rw [f_X8_within] at h
  refine ug_iload_n 0 dX8_within_0 rfl rfl ?_
  refine ug_iload_n 1 dX8_within_1 rfl rfl ?_
  refine ug_icmp_lt 14 dX8_within_2 (by decide) (fun q1 => ?_) (fun q1 => ?_)
  · rw [if_pos q1] at h
    refine ug_sub [] [] rfl ?_
    exact t_X8_within_b14 mem  _ h
  · rw [if_neg q1] at h
    refine ug_iload_n 0 dX8_within_5 rfl rfl ?_
    refine ug_iload_n 2 dX8_within_6 rfl rfl ?_
    refine ug_icmp_gt 14 dX8_within_7 (by decide) (fun q2 => ?_) (fun q2 => ?_)
    · rw [if_pos q2] at h
      refine ug_sub [] [] rfl ?_
      exact t_X8_within_b14 mem  _ h
    · rw [if_neg q2] at h
      refine ug_iconst dX8_within_10 un_iconst_1 ?_
      refine ug_goto 15 dX8_within_11 (by decide) ?_
      refine ug_sub [] [] rfl ?_
      exact t_X8_within_b15 mem 1 _ h
theorem c_X8_within {l : Launch} {E : Ue} {mem : Um} {x0 : Int32} {x1 : Int32} {x2 : Int32} {m1 : Um} {r : Int32} (h : f_X8_within  mem x0 x1 x2 = some (m1, r)) : ucr l E 2 0 0 yX8_within cX8_within 3 (some .boolean) [.int x0, .int x1, .int x2] mem (some (.int r)) m1 := ucr_of rfl (Nat.le_of_ble_eq_true rfl) (t_X8_within  mem x0 x1 x2 _ h)
-- X8_feed
def f_X8_feed_b76 (k23 : Um → Int32 → Int32 → Int32 → Int32 → Int32 → Int32 → Option (Um × Int32)) (mem : Um) (x1 : Int32) (x2 : Int32) (x3 : Int32) (x4 : Int32) (x5 : Int32) (x6 : Int32) (y0 : Int32) : Option (Um × Int32) :=
  ugd (uin (mem 38 2) 600) (k23 (um_w (um_w mem 40 (mem 38 2).toNatClampNeg ((y0 >>> ((24 - (8 * (x6 % 4))) &&& 31)) &&& 255)) 38 2 (((um_w mem 40 (mem 38 2).toNatClampNeg ((y0 >>> ((24 - (8 * (x6 % 4))) &&& 31)) &&& 255)) 38 2) + 1)) x1 x2 x3 x4 x5 (x6 + 1))
set_option maxRecDepth 20000 in
theorem t_X8_feed_b76 {l : Launch} {E : Ue} (k23 : Um → Int32 → Int32 → Int32 → Int32 → Int32 → Int32 → Option (Um × Int32)) (hk23 : ∀ (mem : Um) (x1 : Int32) (x2 : Int32) (x3 : Int32) (x4 : Int32) (x5 : Int32) (x6 : Int32) (z : Um × Int32), k23 mem x1 x2 x3 x4 x5 x6 = some z → ug l E 2 0 0 cX8_feed 8 RX8 (some .int) [] (uz_i z) 0 0 23 [(0, .ref (ue_d E 38)), (1, .int x1), (2, .int x2), (3, .int x3), (4, .int x4), (5, .int x5), (6, .int x6)] [] mem) (mem : Um) (x1 : Int32) (x2 : Int32) (x3 : Int32) (x4 : Int32) (x5 : Int32) (x6 : Int32) (y0 : Int32) (z : Um × Int32) (h : f_X8_feed_b76 k23 mem x1 x2 x3 x4 x5 x6 y0 = some z) : ug l E 2 0 0 cX8_feed 8 RX8 (some .int) [] (uz_i z) 0 0 76 [(0, .ref (ue_d E 38)), (1, .int x1), (2, .int x2), (3, .int x3), (4, .int x4), (5, .int x5), (6, .int x6)] [.int y0] mem := by
  rw [f_X8_feed_b76] at h
  refine ug_istore [(7, .int y0), (0, .ref (ue_d E 38)), (1, .int x1), (2, .int x2), (3, .int x3), (4, .int x4), (5, .int x5), (6, .int x6)] dX8_feed_76 (Nat.le_of_ble_eq_true rfl) rfl ?_
  refine ug_aload_n 1 dX8_feed_78 rfl rfl ?_
  refine ug_getR kf_X8_20 gr_38_9 dX8_feed_79 ?_
  refine ug_aload_n 1 dX8_feed_82 rfl rfl ?_
  refine ug_getI kf_X8_96 gi_38_2 dX8_feed_83 ?_
  refine ug_iload 0 dX8_feed_86 rfl ?_
  refine ug_bipush dX8_feed_88 un_bipush_24 ?_
  refine ug_bipush dX8_feed_90 un_bipush_8 ?_
  refine ug_iload 7 dX8_feed_92 rfl ?_
  refine ug_iconst dX8_feed_94 un_iconst_4 ?_
  refine ug_irem dX8_feed_95 (by decide) ?_
  refine ug_imul dX8_feed_96 ?_
  refine ug_isub dX8_feed_97 ?_
  refine ug_ishr dX8_feed_98 ?_
  refine ug_sipush dX8_feed_99 un_sipush_255 ?_
  refine ug_iand dX8_feed_102 ?_
  obtain ⟨g1, h⟩ := ugd_some h
  refine ug_iast al_40 (uin_ok g1) dX8_feed_103 ?_
  refine ug_aload_n 1 dX8_feed_104 rfl rfl ?_
  refine ug_dup dX8_feed_105 rfl ?_
  refine ug_getI kf_X8_96 gi_38_2 dX8_feed_106 ?_
  refine ug_iconst dX8_feed_109 un_iconst_1 ?_
  refine ug_iadd dX8_feed_110 ?_
  refine ug_putI kp_X8_96 gi_38_2 dX8_feed_111 ?_
  refine ug_iinc (v := (x6 + 1)) [(6, .int (x6 + 1)), (7, .int y0), (0, .ref (ue_d E 38)), (1, .int x1), (2, .int x2), (3, .int x3), (4, .int x4), (5, .int x5)] 7 dX8_feed_114 rfl rfl (Nat.le_of_ble_eq_true rfl) rfl ?_
  refine ug_goto 23 dX8_feed_117 (by decide) ?_
  refine ug_sub [(0, .ref (ue_d E 38)), (1, .int x1), (2, .int x2), (3, .int x3), (4, .int x4), (5, .int x5), (6, .int (x6 + 1))] [2, 3, 4, 5, 6, 7, 0] rfl ?_
  exact hk23 (um_w (um_w mem 40 (mem 38 2).toNatClampNeg ((y0 >>> ((24 - (8 * (x6 % 4))) &&& 31)) &&& 255)) 38 2 (((um_w mem 40 (mem 38 2).toNatClampNeg ((y0 >>> ((24 - (8 * (x6 % 4))) &&& 31)) &&& 255)) 38 2) + 1)) x1 x2 x3 x4 x5 (x6 + 1) _ h
def f_X8_feed_b23 : Nat → Um → Int32 → Int32 → Int32 → Int32 → Int32 → Int32 → Option (Um × Int32)
  | 0, _, _, _, _, _, _, _ => none
  | n + 1, mem, x1, x2, x3, x4, x5, x6 =>
    if 20 ≤ x6 then (some (mem, (mem 38 2))) else (if 4 ≤ x6 then (if 8 ≤ x6 then (if 12 ≤ x6 then (if 16 ≤ x6 then (f_X8_feed_b76 (f_X8_feed_b23  n) mem x1 x2 x3 x4 x5 x6 x5) else (f_X8_feed_b76 (f_X8_feed_b23  n) mem x1 x2 x3 x4 x5 x6 x4)) else (f_X8_feed_b76 (f_X8_feed_b23  n) mem x1 x2 x3 x4 x5 x6 x3)) else (f_X8_feed_b76 (f_X8_feed_b23  n) mem x1 x2 x3 x4 x5 x6 x2)) else (f_X8_feed_b76 (f_X8_feed_b23  n) mem x1 x2 x3 x4 x5 x6 x1))
set_option maxRecDepth 20000 in
theorem t_X8_feed_b23 {l : Launch} {E : Ue} : ∀ (n : Nat) (mem : Um) (x1 : Int32) (x2 : Int32) (x3 : Int32) (x4 : Int32) (x5 : Int32) (x6 : Int32) (z : Um × Int32), f_X8_feed_b23  n mem x1 x2 x3 x4 x5 x6 = some z → ug l E 2 0 0 cX8_feed 8 RX8 (some .int) [] (uz_i z) 0 0 23 [(0, .ref (ue_d E 38)), (1, .int x1), (2, .int x2), (3, .int x3), (4, .int x4), (5, .int x5), (6, .int x6)] [] mem := by
  intro n
  induction n with
  | zero =>
    intro mem x1 x2 x3 x4 x5 x6 z h
    rw [f_X8_feed_b23] at h
    cases h
  | succ n ih =>
    intro mem x1 x2 x3 x4 x5 x6 z h
    rw [f_X8_feed_b23] at h
    refine ug_iload 6 dX8_feed_23 rfl ?_
    refine ug_bipush dX8_feed_25 un_bipush_20 ?_
    refine ug_icmp_ge 120 dX8_feed_27 (by decide) (fun q1 => ?_) (fun q1 => ?_)
    · rw [if_pos q1] at h
      refine ug_aload_n 0 dX8_feed_120 rfl rfl ?_
      refine ug_getI kf_X8_96 gi_38_2 dX8_feed_121 ?_
      obtain rfl := Option.some.inj h
      exact ug_iret dX8_feed_124
    · rw [if_neg q1] at h
      refine ug_iload 6 dX8_feed_30 rfl ?_
      refine ug_iconst dX8_feed_32 un_iconst_4 ?_
      refine ug_icmp_ge 40 dX8_feed_33 (by decide) (fun q2 => ?_) (fun q2 => ?_)
      · rw [if_pos q2] at h
        refine ug_iload 6 dX8_feed_40 rfl ?_
        refine ug_bipush dX8_feed_42 un_bipush_8 ?_
        refine ug_icmp_ge 51 dX8_feed_44 (by decide) (fun q3 => ?_) (fun q3 => ?_)
        · rw [if_pos q3] at h
          refine ug_iload 6 dX8_feed_51 rfl ?_
          refine ug_bipush dX8_feed_53 un_bipush_12 ?_
          refine ug_icmp_ge 62 dX8_feed_55 (by decide) (fun q4 => ?_) (fun q4 => ?_)
          · rw [if_pos q4] at h
            refine ug_iload 6 dX8_feed_62 rfl ?_
            refine ug_bipush dX8_feed_64 un_bipush_16 ?_
            refine ug_icmp_ge 74 dX8_feed_66 (by decide) (fun q5 => ?_) (fun q5 => ?_)
            · rw [if_pos q5] at h
              refine ug_iload 5 dX8_feed_74 rfl ?_
              exact t_X8_feed_b76 (f_X8_feed_b23  n) ih mem x1 x2 x3 x4 x5 x6 x5 _ h
            · rw [if_neg q5] at h
              refine ug_iload 4 dX8_feed_69 rfl ?_
              refine ug_goto 76 dX8_feed_71 (by decide) ?_
              exact t_X8_feed_b76 (f_X8_feed_b23  n) ih mem x1 x2 x3 x4 x5 x6 x4 _ h
          · rw [if_neg q4] at h
            refine ug_iload_n 3 dX8_feed_58 rfl rfl ?_
            refine ug_goto 76 dX8_feed_59 (by decide) ?_
            exact t_X8_feed_b76 (f_X8_feed_b23  n) ih mem x1 x2 x3 x4 x5 x6 x3 _ h
        · rw [if_neg q3] at h
          refine ug_iload_n 2 dX8_feed_47 rfl rfl ?_
          refine ug_goto 76 dX8_feed_48 (by decide) ?_
          exact t_X8_feed_b76 (f_X8_feed_b23  n) ih mem x1 x2 x3 x4 x5 x6 x2 _ h
      · rw [if_neg q2] at h
        refine ug_iload_n 1 dX8_feed_36 rfl rfl ?_
        refine ug_goto 76 dX8_feed_37 (by decide) ?_
        exact t_X8_feed_b76 (f_X8_feed_b23  n) ih mem x1 x2 x3 x4 x5 x6 x1 _ h
def f_X8_feed (mem : Um) (x1 : Int32) (x2 : Int32) (x3 : Int32) (x4 : Int32) (x5 : Int32) : Option (Um × Int32) :=
  if (((um_w mem 38 0 0) 38 2) + 20) ≤ 600 then (f_X8_feed_b23  UF (um_w mem 38 0 0) x1 x2 x3 x4 x5 0) else (some ((um_w mem 38 0 0), (-1)))
set_option maxRecDepth 20000 in
theorem t_X8_feed {l : Launch} {E : Ue} (mem : Um) (x1 : Int32) (x2 : Int32) (x3 : Int32) (x4 : Int32) (x5 : Int32) (z : Um × Int32) (h : f_X8_feed  mem x1 x2 x3 x4 x5 = some z) : ug l E 2 0 0 cX8_feed 8 RX8 (some .int) [] (uz_i z) 0 0 0 [(0, .ref (ue_d E 38)), (1, .int x1), (2, .int x2), (3, .int x3), (4, .int x4), (5, .int x5)] [] mem := by
  rw [f_X8_feed] at h
  refine ug_aload_n 0 dX8_feed_0 rfl rfl ?_
  refine ug_iconst dX8_feed_1 un_iconst_0 ?_
  refine ug_putI kp_X8_3 gi_38_0 dX8_feed_2 ?_
  refine ug_aload_n 0 dX8_feed_5 rfl rfl ?_
  refine ug_getI kf_X8_96 gi_38_2 dX8_feed_6 ?_
  refine ug_bipush dX8_feed_9 un_bipush_20 ?_
  refine ug_iadd dX8_feed_11 ?_
  refine ug_sipush dX8_feed_12 un_sipush_600 ?_
  refine ug_icmp_le 20 dX8_feed_15 (by decide) (fun q1 => ?_) (fun q1 => ?_)
  · rw [if_pos q1] at h
    refine ug_iconst dX8_feed_20 un_iconst_0 ?_
    refine ug_istore [(6, .int 0), (0, .ref (ue_d E 38)), (1, .int x1), (2, .int x2), (3, .int x3), (4, .int x4), (5, .int x5)] dX8_feed_21 (Nat.le_of_ble_eq_true rfl) rfl ?_
    refine ug_sub [(0, .ref (ue_d E 38)), (1, .int x1), (2, .int x2), (3, .int x3), (4, .int x4), (5, .int x5), (6, .int 0)] [1, 2, 3, 4, 5, 6, 0] rfl ?_
    exact t_X8_feed_b23  UF (um_w mem 38 0 0) x1 x2 x3 x4 x5 0 _ h
  · rw [if_neg q1] at h
    refine ug_iconst dX8_feed_18 un_iconst_m1 ?_
    obtain rfl := Option.some.inj h
    exact ug_iret dX8_feed_19
theorem c_X8_feed {l : Launch} {E : Ue} {mem : Um} {x1 : Int32} {x2 : Int32} {x3 : Int32} {x4 : Int32} {x5 : Int32} {m1 : Um} {r : Int32} (h : f_X8_feed  mem x1 x2 x3 x4 x5 = some (m1, r)) : ucr l E 2 0 0 yX8_feed cX8_feed 8 (some .int) [.ref (ue_d E 38), .int x1, .int x2, .int x3, .int x4, .int x5] mem (some (.int r)) m1 := ucr_of rfl (Nat.le_of_ble_eq_true rfl) (t_X8_feed  mem x1 x2 x3 x4 x5 _ h)
-- X8_fine
def f_X8_fine_b13 (mem : Um) (y0 : Int32) : Option (Um × Int32) :=
  ugd (ub01 y0) (some (mem, y0))
set_option maxRecDepth 20000 in
theorem t_X8_fine_b13 {l : Launch} {E : Ue} (mem : Um) (y0 : Int32) (z : Um × Int32) (h : f_X8_fine_b13  mem y0 = some z) : ug l E 2 0 0 cX8_fine 1 RX8 (some .boolean) [] (uz_i z) 0 0 13 [] [.int y0] mem := by
  rw [f_X8_fine_b13] at h
  obtain ⟨g1, h⟩ := ugd_some h
  obtain rfl := Option.some.inj h
  exact ug_zret (of_decide_eq_true g1) dX8_fine_13
def f_X8_fine (mem : Um) : Option (Um × Int32) :=
  if (mem 38 5) = (-1) then (f_X8_fine_b13 mem 1) else (f_X8_fine_b13 mem 0)
set_option maxRecDepth 20000 in
theorem t_X8_fine {l : Launch} {E : Ue} (mem : Um) (z : Um × Int32) (h : f_X8_fine  mem  = some z) : ug l E 2 0 0 cX8_fine 1 RX8 (some .boolean) [] (uz_i z) 0 0 0 [(0, .ref (ue_d E 38))] [] mem := by
  rw [f_X8_fine] at h
  refine ug_aload_n 0 dX8_fine_0 rfl rfl ?_
  refine ug_getI kf_X8_99 gi_38_5 dX8_fine_1 ?_
  refine ug_iconst dX8_fine_4 un_iconst_m1 ?_
  refine ug_icmp_ne 12 dX8_fine_5 (by decide) (fun q1 => ?_) (fun q1 => ?_)
  · rw [if_neg q1] at h
    refine ug_iconst dX8_fine_12 un_iconst_0 ?_
    refine ug_sub [] [] rfl ?_
    exact t_X8_fine_b13 mem 0 _ h
  · rw [if_pos q1] at h
    refine ug_iconst dX8_fine_8 un_iconst_1 ?_
    refine ug_goto 13 dX8_fine_9 (by decide) ?_
    refine ug_sub [] [] rfl ?_
    exact t_X8_fine_b13 mem 1 _ h
theorem c_X8_fine {l : Launch} {E : Ue} {mem : Um} {m1 : Um} {r : Int32} (h : f_X8_fine  mem  = some (m1, r)) : ucr l E 2 0 0 yX8_fine cX8_fine 1 (some .boolean) [.ref (ue_d E 38)] mem (some (.int r)) m1 := ucr_of rfl (Nat.le_of_ble_eq_true rfl) (t_X8_fine  mem  _ h)
-- X8_wrong
def f_X8_wrong (mem : Um) (x1 : Int32) (x2 : Int32) : Option (Um × Unit) :=
  if (mem 38 5) = (-1) then (some ((um_w (um_w mem 38 5 x2) 38 6 x1), ())) else (some (mem, ()))
set_option maxRecDepth 20000 in
theorem t_X8_wrong {l : Launch} {E : Ue} (mem : Um) (x1 : Int32) (x2 : Int32) (z : Um × Unit) (h : f_X8_wrong  mem x1 x2 = some z) : ug l E 2 0 0 cX8_wrong 3 RX8 none [] (uz_v z) 0 0 0 [(0, .ref (ue_d E 38)), (1, .int x1), (2, .int x2)] [] mem := by
  rw [f_X8_wrong] at h
  refine ug_aload_n 0 dX8_wrong_0 rfl rfl ?_
  refine ug_getI kf_X8_99 gi_38_5 dX8_wrong_1 ?_
  refine ug_iconst dX8_wrong_4 un_iconst_m1 ?_
  refine ug_icmp_eq 9 dX8_wrong_5 (by decide) (fun q1 => ?_) (fun q1 => ?_)
  · rw [if_pos q1] at h
    refine ug_aload_n 0 dX8_wrong_9 rfl rfl ?_
    refine ug_iload_n 2 dX8_wrong_10 rfl rfl ?_
    refine ug_putI kp_X8_99 gi_38_5 dX8_wrong_11 ?_
    refine ug_aload_n 0 dX8_wrong_14 rfl rfl ?_
    refine ug_iload_n 1 dX8_wrong_15 rfl rfl ?_
    refine ug_putI kp_X8_102 gi_38_6 dX8_wrong_16 ?_
    obtain rfl := Option.some.inj h
    exact ug_vret dX8_wrong_19
  · rw [if_neg q1] at h
    obtain rfl := Option.some.inj h
    exact ug_vret dX8_wrong_8
theorem c_X8_wrong {l : Launch} {E : Ue} {mem : Um} {x1 : Int32} {x2 : Int32} {m1 : Um} {r : Unit} (h : f_X8_wrong  mem x1 x2 = some (m1, r)) : ucr l E 2 0 0 yX8_wrong cX8_wrong 3 none [.ref (ue_d E 38), .int x1, .int x2] mem none m1 := ucr_of rfl (Nat.le_of_ble_eq_true rfl) (t_X8_wrong  mem x1 x2 _ h)
-- X8_here
def f_X8_here_b62 (mem : Um) (y0 : Int32) : Option (Um × Int32) :=
  some (mem, y0)
set_option maxRecDepth 20000 in
theorem t_X8_here_b62 {l : Launch} {E : Ue} (mem : Um) (y0 : Int32) (z : Um × Int32) (h : f_X8_here_b62  mem y0 = some z) : ug l E 2 0 0 cX8_here 1 RX8 (some .int) [] (uz_i z) 0 0 62 [] [.int y0] mem := by
  rw [f_X8_here_b62] at h
  obtain rfl := Option.some.inj h
  exact ug_iret dX8_here_62
def f_X8_here_b38 (mem : Um) : Option (Um × Int32) :=
  if (mem 38 3) ≤ (mem 38 4) then (f_X8_here_b62 mem 0) else (ugd (uin (mem 38 4) 600) (f_X8_here_b62 mem (mem 40 (mem 38 4).toNatClampNeg)))
set_option maxRecDepth 20000 in
theorem t_X8_here_b38 {l : Launch} {E : Ue} (mem : Um) (z : Um × Int32) (h : f_X8_here_b38  mem  = some z) : ug l E 2 0 0 cX8_here 1 RX8 (some .int) [] (uz_i z) 0 0 38 [(0, .ref (ue_d E 38))] [] mem := by
  rw [f_X8_here_b38] at h
  refine ug_aload_n 0 dX8_here_38 rfl rfl ?_
  refine ug_getI kf_X8_105 gi_38_4 dX8_here_39 ?_
  refine ug_aload_n 0 dX8_here_42 rfl rfl ?_
  refine ug_getI kf_X8_108 gi_38_3 dX8_here_43 ?_
  refine ug_icmp_ge 61 dX8_here_46 (by decide) (fun q1 => ?_) (fun q1 => ?_)
  · rw [if_pos q1] at h
    refine ug_iconst dX8_here_61 un_iconst_0 ?_
    refine ug_sub [] [] rfl ?_
    exact t_X8_here_b62 mem 0 _ h
  · rw [if_neg q1] at h
    refine ug_aload_n 0 dX8_here_49 rfl rfl ?_
    refine ug_getR kf_X8_20 gr_38_9 dX8_here_50 ?_
    refine ug_aload_n 0 dX8_here_53 rfl rfl ?_
    refine ug_getI kf_X8_105 gi_38_4 dX8_here_54 ?_
    obtain ⟨g2, h⟩ := ugd_some h
    refine ug_iald al_40 (uin_ok g2) dX8_here_57 ?_
    refine ug_goto 62 dX8_here_58 (by decide) ?_
    refine ug_sub [] [] rfl ?_
    exact t_X8_here_b62 mem (mem 40 (mem 38 4).toNatClampNeg) _ h
def f_X8_here_b0 : Nat → Um → Option (Um × Int32)
  | 0, _ => none
  | n + 1, mem =>
    if (mem 38 3) ≤ (mem 38 4) then (f_X8_here_b38 mem) else (ugd (uin (mem 38 4) 600) (if (mem 40 (mem 38 4).toNatClampNeg) = 32 then ((f_X8_here_b0  n) (um_w mem 38 4 ((mem 38 4) + 1))) else (f_X8_here_b38 mem)))
set_option maxRecDepth 20000 in
theorem t_X8_here_b0 {l : Launch} {E : Ue} : ∀ (n : Nat) (mem : Um) (z : Um × Int32), f_X8_here_b0  n mem  = some z → ug l E 2 0 0 cX8_here 1 RX8 (some .int) [] (uz_i z) 0 0 0 [(0, .ref (ue_d E 38))] [] mem := by
  intro n
  induction n with
  | zero =>
    intro mem z h
    rw [f_X8_here_b0] at h
    cases h
  | succ n ih =>
    intro mem z h
    rw [f_X8_here_b0] at h
    refine ug_aload_n 0 dX8_here_0 rfl rfl ?_
    refine ug_getI kf_X8_105 gi_38_4 dX8_here_1 ?_
    refine ug_aload_n 0 dX8_here_4 rfl rfl ?_
    refine ug_getI kf_X8_108 gi_38_3 dX8_here_5 ?_
    refine ug_icmp_ge 38 dX8_here_8 (by decide) (fun q1 => ?_) (fun q1 => ?_)
    · rw [if_pos q1] at h
      exact t_X8_here_b38 mem  _ h
    · rw [if_neg q1] at h
      refine ug_aload_n 0 dX8_here_11 rfl rfl ?_
      refine ug_getR kf_X8_20 gr_38_9 dX8_here_12 ?_
      refine ug_aload_n 0 dX8_here_15 rfl rfl ?_
      refine ug_getI kf_X8_105 gi_38_4 dX8_here_16 ?_
      obtain ⟨g2, h⟩ := ugd_some h
      refine ug_iald al_40 (uin_ok g2) dX8_here_19 ?_
      refine ug_bipush dX8_here_20 un_bipush_32 ?_
      refine ug_icmp_ne 38 dX8_here_22 (by decide) (fun q3 => ?_) (fun q3 => ?_)
      · rw [if_neg q3] at h
        exact t_X8_here_b38 mem  _ h
      · rw [if_pos q3] at h
        refine ug_aload_n 0 dX8_here_25 rfl rfl ?_
        refine ug_dup dX8_here_26 rfl ?_
        refine ug_getI kf_X8_105 gi_38_4 dX8_here_27 ?_
        refine ug_iconst dX8_here_30 un_iconst_1 ?_
        refine ug_iadd dX8_here_31 ?_
        refine ug_putI kp_X8_105 gi_38_4 dX8_here_32 ?_
        refine ug_goto 0 dX8_here_35 (by decide) ?_
        exact ih (um_w mem 38 4 ((mem 38 4) + 1))  _ h
def f_X8_here (mem : Um) : Option (Um × Int32) :=
  if (mem 38 3) ≤ (mem 38 4) then (f_X8_here_b38 mem) else (ugd (uin (mem 38 4) 600) (if (mem 40 (mem 38 4).toNatClampNeg) = 32 then (f_X8_here_b0  UF (um_w mem 38 4 ((mem 38 4) + 1))) else (f_X8_here_b38 mem)))
set_option maxRecDepth 20000 in
theorem t_X8_here {l : Launch} {E : Ue} (mem : Um) (z : Um × Int32) (h : f_X8_here  mem  = some z) : ug l E 2 0 0 cX8_here 1 RX8 (some .int) [] (uz_i z) 0 0 0 [(0, .ref (ue_d E 38))] [] mem := by
  rw [f_X8_here] at h
  refine ug_aload_n 0 dX8_here_0 rfl rfl ?_
  refine ug_getI kf_X8_105 gi_38_4 dX8_here_1 ?_
  refine ug_aload_n 0 dX8_here_4 rfl rfl ?_
  refine ug_getI kf_X8_108 gi_38_3 dX8_here_5 ?_
  refine ug_icmp_ge 38 dX8_here_8 (by decide) (fun q1 => ?_) (fun q1 => ?_)
  · rw [if_pos q1] at h
    exact t_X8_here_b38 mem  _ h
  · rw [if_neg q1] at h
    refine ug_aload_n 0 dX8_here_11 rfl rfl ?_
    refine ug_getR kf_X8_20 gr_38_9 dX8_here_12 ?_
    refine ug_aload_n 0 dX8_here_15 rfl rfl ?_
    refine ug_getI kf_X8_105 gi_38_4 dX8_here_16 ?_
    obtain ⟨g2, h⟩ := ugd_some h
    refine ug_iald al_40 (uin_ok g2) dX8_here_19 ?_
    refine ug_bipush dX8_here_20 un_bipush_32 ?_
    refine ug_icmp_ne 38 dX8_here_22 (by decide) (fun q3 => ?_) (fun q3 => ?_)
    · rw [if_neg q3] at h
      exact t_X8_here_b38 mem  _ h
    · rw [if_pos q3] at h
      refine ug_aload_n 0 dX8_here_25 rfl rfl ?_
      refine ug_dup dX8_here_26 rfl ?_
      refine ug_getI kf_X8_105 gi_38_4 dX8_here_27 ?_
      refine ug_iconst dX8_here_30 un_iconst_1 ?_
      refine ug_iadd dX8_here_31 ?_
      refine ug_putI kp_X8_105 gi_38_4 dX8_here_32 ?_
      refine ug_goto 0 dX8_here_35 (by decide) ?_
      exact t_X8_here_b0  UF (um_w mem 38 4 ((mem 38 4) + 1))  _ h
theorem c_X8_here {l : Launch} {E : Ue} {mem : Um} {m1 : Um} {r : Int32} (h : f_X8_here  mem  = some (m1, r)) : ucr l E 2 0 0 yX8_here cX8_here 1 (some .int) [.ref (ue_d E 38)] mem (some (.int r)) m1 := ucr_of rfl (Nat.le_of_ble_eq_true rfl) (t_X8_here  mem  _ h)
-- X8_isSmall
def f_X8_isSmall_b17 (mem : Um) (y0 : Int32) : Option (Um × Int32) :=
  ugd (ub01 y0) (some (mem, y0))
set_option maxRecDepth 20000 in
theorem t_X8_isSmall_b17 {l : Launch} {E : Ue} (mem : Um) (y0 : Int32) (z : Um × Int32) (h : f_X8_isSmall_b17  mem y0 = some z) : ug l E 2 0 0 cX8_isSmall 1 RX8 (some .boolean) [] (uz_i z) 0 0 17 [] [.int y0] mem := by
  rw [f_X8_isSmall_b17] at h
  obtain ⟨g1, h⟩ := ugd_some h
  obtain rfl := Option.some.inj h
  exact ug_zret (of_decide_eq_true g1) dX8_isSmall_17
def f_X8_isSmall_b16 (mem : Um) : Option (Um × Int32) :=
  f_X8_isSmall_b17 mem 0
set_option maxRecDepth 20000 in
theorem t_X8_isSmall_b16 {l : Launch} {E : Ue} (mem : Um) (z : Um × Int32) (h : f_X8_isSmall_b16  mem  = some z) : ug l E 2 0 0 cX8_isSmall 1 RX8 (some .boolean) [] (uz_i z) 0 0 16 [] [] mem := by
  rw [f_X8_isSmall_b16] at h
  refine ug_iconst dX8_isSmall_16 un_iconst_0 ?_
  exact t_X8_isSmall_b17 mem 0 _ h
def f_X8_isSmall (mem : Um) (x0 : Int32) : Option (Um × Int32) :=
  if x0 < 97 then (f_X8_isSmall_b16 mem) else (if 122 < x0 then (f_X8_isSmall_b16 mem) else (f_X8_isSmall_b17 mem 1))
set_option maxRecDepth 20000 in
theorem t_X8_isSmall {l : Launch} {E : Ue} (mem : Um) (x0 : Int32) (z : Um × Int32) (h : f_X8_isSmall  mem x0 = some z) : ug l E 2 0 0 cX8_isSmall 1 RX8 (some .boolean) [] (uz_i z) 0 0 0 [(0, .int x0)] [] mem := by
  rw [f_X8_isSmall] at h
  refine ug_iload_n 0 dX8_isSmall_0 rfl rfl ?_
  refine ug_bipush dX8_isSmall_1 un_bipush_97 ?_
  refine ug_icmp_lt 16 dX8_isSmall_3 (by decide) (fun q1 => ?_) (fun q1 => ?_)
  · rw [if_pos q1] at h
    refine ug_sub [] [] rfl ?_
    exact t_X8_isSmall_b16 mem  _ h
  · rw [if_neg q1] at h
    refine ug_iload_n 0 dX8_isSmall_6 rfl rfl ?_
    refine ug_bipush dX8_isSmall_7 un_bipush_122 ?_
    refine ug_icmp_gt 16 dX8_isSmall_9 (by decide) (fun q2 => ?_) (fun q2 => ?_)
    · rw [if_pos q2] at h
      refine ug_sub [] [] rfl ?_
      exact t_X8_isSmall_b16 mem  _ h
    · rw [if_neg q2] at h
      refine ug_iconst dX8_isSmall_12 un_iconst_1 ?_
      refine ug_goto 17 dX8_isSmall_13 (by decide) ?_
      refine ug_sub [] [] rfl ?_
      exact t_X8_isSmall_b17 mem 1 _ h
theorem c_X8_isSmall {l : Launch} {E : Ue} {mem : Um} {x0 : Int32} {m1 : Um} {r : Int32} (h : f_X8_isSmall  mem x0 = some (m1, r)) : ucr l E 2 0 0 yX8_isSmall cX8_isSmall 1 (some .boolean) [.int x0] mem (some (.int r)) m1 := ucr_of rfl (Nat.le_of_ble_eq_true rfl) (t_X8_isSmall  mem x0 _ h)
-- X8_isDigit
def f_X8_isDigit_b17 (mem : Um) (y0 : Int32) : Option (Um × Int32) :=
  ugd (ub01 y0) (some (mem, y0))
set_option maxRecDepth 20000 in
theorem t_X8_isDigit_b17 {l : Launch} {E : Ue} (mem : Um) (y0 : Int32) (z : Um × Int32) (h : f_X8_isDigit_b17  mem y0 = some z) : ug l E 2 0 0 cX8_isDigit 1 RX8 (some .boolean) [] (uz_i z) 0 0 17 [] [.int y0] mem := by
  rw [f_X8_isDigit_b17] at h
  obtain ⟨g1, h⟩ := ugd_some h
  obtain rfl := Option.some.inj h
  exact ug_zret (of_decide_eq_true g1) dX8_isDigit_17
def f_X8_isDigit_b16 (mem : Um) : Option (Um × Int32) :=
  f_X8_isDigit_b17 mem 0
set_option maxRecDepth 20000 in
theorem t_X8_isDigit_b16 {l : Launch} {E : Ue} (mem : Um) (z : Um × Int32) (h : f_X8_isDigit_b16  mem  = some z) : ug l E 2 0 0 cX8_isDigit 1 RX8 (some .boolean) [] (uz_i z) 0 0 16 [] [] mem := by
  rw [f_X8_isDigit_b16] at h
  refine ug_iconst dX8_isDigit_16 un_iconst_0 ?_
  exact t_X8_isDigit_b17 mem 0 _ h
def f_X8_isDigit (mem : Um) (x0 : Int32) : Option (Um × Int32) :=
  if x0 < 48 then (f_X8_isDigit_b16 mem) else (if 57 < x0 then (f_X8_isDigit_b16 mem) else (f_X8_isDigit_b17 mem 1))
set_option maxRecDepth 20000 in
theorem t_X8_isDigit {l : Launch} {E : Ue} (mem : Um) (x0 : Int32) (z : Um × Int32) (h : f_X8_isDigit  mem x0 = some z) : ug l E 2 0 0 cX8_isDigit 1 RX8 (some .boolean) [] (uz_i z) 0 0 0 [(0, .int x0)] [] mem := by
  rw [f_X8_isDigit] at h
  refine ug_iload_n 0 dX8_isDigit_0 rfl rfl ?_
  refine ug_bipush dX8_isDigit_1 un_bipush_48 ?_
  refine ug_icmp_lt 16 dX8_isDigit_3 (by decide) (fun q1 => ?_) (fun q1 => ?_)
  · rw [if_pos q1] at h
    refine ug_sub [] [] rfl ?_
    exact t_X8_isDigit_b16 mem  _ h
  · rw [if_neg q1] at h
    refine ug_iload_n 0 dX8_isDigit_6 rfl rfl ?_
    refine ug_bipush dX8_isDigit_7 un_bipush_57 ?_
    refine ug_icmp_gt 16 dX8_isDigit_9 (by decide) (fun q2 => ?_) (fun q2 => ?_)
    · rw [if_pos q2] at h
      refine ug_sub [] [] rfl ?_
      exact t_X8_isDigit_b16 mem  _ h
    · rw [if_neg q2] at h
      refine ug_iconst dX8_isDigit_12 un_iconst_1 ?_
      refine ug_goto 17 dX8_isDigit_13 (by decide) ?_
      refine ug_sub [] [] rfl ?_
      exact t_X8_isDigit_b17 mem 1 _ h
theorem c_X8_isDigit {l : Launch} {E : Ue} {mem : Um} {x0 : Int32} {m1 : Um} {r : Int32} (h : f_X8_isDigit  mem x0 = some (m1, r)) : ucr l E 2 0 0 yX8_isDigit cX8_isDigit 1 (some .boolean) [.int x0] mem (some (.int r)) m1 := ucr_of rfl (Nat.le_of_ble_eq_true rfl) (t_X8_isDigit  mem x0 _ h)
-- X8_word
def f_X8_word_b78 (mem : Um) (y0 : Int32) : Option (Um × Int32) :=
  some (mem, y0)
set_option maxRecDepth 20000 in
theorem t_X8_word_b78 {l : Launch} {E : Ue} (mem : Um) (y0 : Int32) (z : Um × Int32) (h : f_X8_word_b78  mem y0 = some z) : ug l E 3 0 0 cX8_word 4 RX8 (some .int) [] (uz_i z) 0 0 78 [] [.int y0] mem := by
  rw [f_X8_word_b78] at h
  obtain rfl := Option.some.inj h
  exact ug_iret dX8_word_78
def f_X8_word_b67 (mem : Um) (x1 : Int32) (x2 : Int32) : Option (Um × Int32) :=
  if x2 ≤ 6 then (f_X8_word_b78 mem x1) else (f_X8_word_b78 mem 0)
set_option maxRecDepth 20000 in
theorem t_X8_word_b67 {l : Launch} {E : Ue} (mem : Um) (x1 : Int32) (x2 : Int32) (z : Um × Int32) (h : f_X8_word_b67  mem x1 x2 = some z) : ug l E 3 0 0 cX8_word 4 RX8 (some .int) [] (uz_i z) 0 0 67 [(1, .int x1), (2, .int x2)] [] mem := by
  rw [f_X8_word_b67] at h
  refine ug_iload_n 1 dX8_word_67 rfl rfl ?_
  refine ug_bipush dX8_word_68 un_bipush_6 ?_
  refine ug_icmp_le 77 dX8_word_70 (by decide) (fun q1 => ?_) (fun q1 => ?_)
  · rw [if_pos q1] at h
    refine ug_iload_n 0 dX8_word_77 rfl rfl ?_
    refine ug_sub [] [] rfl ?_
    exact t_X8_word_b78 mem x1 _ h
  · rw [if_neg q1] at h
    refine ug_iconst dX8_word_73 un_iconst_0 ?_
    refine ug_goto 78 dX8_word_74 (by decide) ?_
    refine ug_sub [] [] rfl ?_
    exact t_X8_word_b78 mem 0 _ h
def f_X8_word_b57 (k14 : Um → Int32 → Int32 → Int32 → Option (Um × Int32)) (mem : Um) (x2 : Int32) (x3 : Int32) (y0 : Int32) : Option (Um × Int32) :=
  k14 mem y0 (x2 + 1) (x3 + 1)
set_option maxRecDepth 20000 in
theorem t_X8_word_b57 {l : Launch} {E : Ue} (k14 : Um → Int32 → Int32 → Int32 → Option (Um × Int32)) (hk14 : ∀ (mem : Um) (x1 : Int32) (x2 : Int32) (x3 : Int32) (z : Um × Int32), k14 mem x1 x2 x3 = some z → ug l E 3 0 0 cX8_word 4 RX8 (some .int) [] (uz_i z) 0 0 14 [(0, .ref (ue_d E 38)), (1, .int x1), (2, .int x2), (3, .int x3)] [] mem) (mem : Um) (x2 : Int32) (x3 : Int32) (y0 : Int32) (z : Um × Int32) (h : f_X8_word_b57 k14 mem x2 x3 y0 = some z) : ug l E 3 0 0 cX8_word 4 RX8 (some .int) [] (uz_i z) 0 0 57 [(0, .ref (ue_d E 38)), (2, .int x2), (3, .int x3)] [.int y0] mem := by
  rw [f_X8_word_b57] at h
  refine ug_istore_n [(1, .int y0), (0, .ref (ue_d E 38)), (2, .int x2), (3, .int x3)] dX8_word_57 rfl (Nat.le_of_ble_eq_true rfl) rfl ?_
  refine ug_iinc (v := (x2 + 1)) [(2, .int (x2 + 1)), (1, .int y0), (0, .ref (ue_d E 38)), (3, .int x3)] 2 dX8_word_58 rfl rfl (Nat.le_of_ble_eq_true rfl) rfl ?_
  refine ug_iinc (v := (x3 + 1)) [(3, .int (x3 + 1)), (2, .int (x2 + 1)), (1, .int y0), (0, .ref (ue_d E 38))] 3 dX8_word_61 rfl rfl (Nat.le_of_ble_eq_true rfl) rfl ?_
  refine ug_goto 14 dX8_word_64 (by decide) ?_
  refine ug_sub [(0, .ref (ue_d E 38)), (1, .int y0), (2, .int (x2 + 1)), (3, .int (x3 + 1))] [3, 2, 1, 0] rfl ?_
  exact hk14 mem y0 (x2 + 1) (x3 + 1) _ h
def f_X8_word_b14 : Nat → Um → Int32 → Int32 → Int32 → Option (Um × Int32)
  | 0, _, _, _, _ => none
  | n + 1, mem, x1, x2, x3 =>
    if (mem 38 3) ≤ x3 then (f_X8_word_b67 mem x1 x2) else (ugd (uin x3 600) (ubi (f_X8_isSmall mem (mem 40 x3.toNatClampNeg)) (fun m3 r4 => if r4 = 0 then (f_X8_word_b67 m3 x1 x2) else (if 6 ≤ x2 then (f_X8_word_b57 (f_X8_word_b14  n) m3 x2 x3 0) else (ugd (uin x3 600) (f_X8_word_b57 (f_X8_word_b14  n) m3 x2 x3 ((x1 <<< (5 &&& 31)) ||| ((m3 40 x3.toNatClampNeg) - 96))))))))
set_option maxRecDepth 20000 in
theorem t_X8_word_b14 {l : Launch} {E : Ue} : ∀ (n : Nat) (mem : Um) (x1 : Int32) (x2 : Int32) (x3 : Int32) (z : Um × Int32), f_X8_word_b14  n mem x1 x2 x3 = some z → ug l E 3 0 0 cX8_word 4 RX8 (some .int) [] (uz_i z) 0 0 14 [(0, .ref (ue_d E 38)), (1, .int x1), (2, .int x2), (3, .int x3)] [] mem := by
  intro n
  induction n with
  | zero =>
    intro mem x1 x2 x3 z h
    rw [f_X8_word_b14] at h
    cases h
  | succ n ih =>
    intro mem x1 x2 x3 z h
    rw [f_X8_word_b14] at h
    refine ug_iload_n 3 dX8_word_14 rfl rfl ?_
    refine ug_aload_n 0 dX8_word_15 rfl rfl ?_
    refine ug_getI kf_X8_108 gi_38_3 dX8_word_16 ?_
    refine ug_icmp_ge 67 dX8_word_19 (by decide) (fun q1 => ?_) (fun q1 => ?_)
    · rw [if_pos q1] at h
      refine ug_sub [(1, .int x1), (2, .int x2)] [1, 2] rfl ?_
      exact t_X8_word_b67 mem x1 x2 _ h
    · rw [if_neg q1] at h
      refine ug_aload_n 0 dX8_word_22 rfl rfl ?_
      refine ug_getR kf_X8_20 gr_38_9 dX8_word_23 ?_
      refine ug_iload_n 3 dX8_word_26 rfl rfl ?_
      obtain ⟨g2, h⟩ := ugd_some h
      refine ug_iald al_40 (uin_ok g2) dX8_word_27 ?_
      obtain ⟨m3, r4, h5, h⟩ := ubi_some h
      refine ug_callSi [.int (mem 40 x3.toNatClampNeg)] (c_X8_isSmall  h5) kc_X8_115 rfl (S := []) rfl (Nat.le_of_ble_eq_true rfl) (Nat.le_of_ble_eq_true rfl) (Nat.le_of_ble_eq_true rfl) dX8_word_28 ?_
      refine ug_if_eq 67 dX8_word_31 (by decide) (fun q6 => ?_) (fun q6 => ?_)
      · rw [if_pos q6] at h
        refine ug_sub [(1, .int x1), (2, .int x2)] [1, 2] rfl ?_
        exact t_X8_word_b67 m3 x1 x2 _ h
      · rw [if_neg q6] at h
        refine ug_iload_n 2 dX8_word_34 rfl rfl ?_
        refine ug_bipush dX8_word_35 un_bipush_6 ?_
        refine ug_icmp_ge 56 dX8_word_37 (by decide) (fun q7 => ?_) (fun q7 => ?_)
        · rw [if_pos q7] at h
          refine ug_iconst dX8_word_56 un_iconst_0 ?_
          refine ug_sub [(0, .ref (ue_d E 38)), (2, .int x2), (3, .int x3)] [0, 2, 3] rfl ?_
          exact t_X8_word_b57 (f_X8_word_b14  n) ih m3 x2 x3 0 _ h
        · rw [if_neg q7] at h
          refine ug_iload_n 1 dX8_word_40 rfl rfl ?_
          refine ug_iconst dX8_word_41 un_iconst_5 ?_
          refine ug_ishl dX8_word_42 ?_
          refine ug_aload_n 0 dX8_word_43 rfl rfl ?_
          refine ug_getR kf_X8_20 gr_38_9 dX8_word_44 ?_
          refine ug_iload_n 3 dX8_word_47 rfl rfl ?_
          obtain ⟨g8, h⟩ := ugd_some h
          refine ug_iald al_40 (uin_ok g8) dX8_word_48 ?_
          refine ug_bipush dX8_word_49 un_bipush_96 ?_
          refine ug_isub dX8_word_51 ?_
          refine ug_ior dX8_word_52 ?_
          refine ug_goto 57 dX8_word_53 (by decide) ?_
          refine ug_sub [(0, .ref (ue_d E 38)), (2, .int x2), (3, .int x3)] [0, 2, 3] rfl ?_
          exact t_X8_word_b57 (f_X8_word_b14  n) ih m3 x2 x3 ((x1 <<< (5 &&& 31)) ||| ((m3 40 x3.toNatClampNeg) - 96)) _ h
def f_X8_word (mem : Um) : Option (Um × Int32) :=
  ubi (f_X8_here mem) (fun m1 r2 => f_X8_word_b14  UF m1 0 0 (m1 38 4))
set_option maxRecDepth 20000 in
theorem t_X8_word {l : Launch} {E : Ue} (mem : Um) (z : Um × Int32) (h : f_X8_word  mem  = some z) : ug l E 3 0 0 cX8_word 4 RX8 (some .int) [] (uz_i z) 0 0 0 [(0, .ref (ue_d E 38))] [] mem := by
  rw [f_X8_word] at h
  refine ug_aload_n 0 dX8_word_0 rfl rfl ?_
  obtain ⟨m1, r2, h3, h⟩ := ubi_some h
  refine ug_callVi [] (c_X8_here  h3) kc_X8_111 ro_38 rfl (S := []) rfl (Nat.le_of_ble_eq_true rfl) (Nat.le_of_ble_eq_true rfl) (Nat.le_of_ble_eq_true rfl) dX8_word_1 ?_
  refine ug_pop dX8_word_4 rfl ?_
  refine ug_iconst dX8_word_5 un_iconst_0 ?_
  refine ug_istore_n [(1, .int 0), (0, .ref (ue_d E 38))] dX8_word_6 rfl (Nat.le_of_ble_eq_true rfl) rfl ?_
  refine ug_iconst dX8_word_7 un_iconst_0 ?_
  refine ug_istore_n [(2, .int 0), (1, .int 0), (0, .ref (ue_d E 38))] dX8_word_8 rfl (Nat.le_of_ble_eq_true rfl) rfl ?_
  refine ug_aload_n 2 dX8_word_9 rfl rfl ?_
  refine ug_getI kf_X8_105 gi_38_4 dX8_word_10 ?_
  refine ug_istore_n [(3, .int (m1 38 4)), (2, .int 0), (1, .int 0), (0, .ref (ue_d E 38))] dX8_word_13 rfl (Nat.le_of_ble_eq_true rfl) rfl ?_
  refine ug_sub [(0, .ref (ue_d E 38)), (1, .int 0), (2, .int 0), (3, .int (m1 38 4))] [3, 2, 1, 0] rfl ?_
  exact t_X8_word_b14  UF m1 0 0 (m1 38 4) _ h
theorem c_X8_word {l : Launch} {E : Ue} {mem : Um} {m1 : Um} {r : Int32} (h : f_X8_word  mem  = some (m1, r)) : ucr l E 3 0 0 yX8_word cX8_word 4 (some .int) [.ref (ue_d E 38)] mem (some (.int r)) m1 := ucr_of rfl (Nat.le_of_ble_eq_true rfl) (t_X8_word  mem  _ h)
-- X8_of
def f_X8_of_b4 (w : Nat) : Nat → Um → Int32 → Int32 → Option (Um × Int32)
  | 0, _, _, _ => none
  | n + 1, mem, x1, x2 =>
    if (us_l w) ≤ x2 then (some (mem, x1)) else (ugd (uin x2 (us_len.getD w 0)) ((f_X8_of_b4 w n) mem ((x1 <<< (5 &&& 31)) ||| ((us_c w x2) - 96)) (x2 + 1)))
set_option maxRecDepth 20000 in
theorem t_X8_of_b4 {l : Launch} {E : Ue} {w : Nat} (hw : w < 18) : ∀ (n : Nat) (mem : Um) (x1 : Int32) (x2 : Int32) (z : Um × Int32), f_X8_of_b4 w n mem x1 x2 = some z → ug l E 6 0 0 cX8_of 3 RX8 (some .int) [] (uz_i z) 0 0 4 [(0, .ref (ue_aK E w)), (1, .int x1), (2, .int x2)] [] mem := by
  intro n
  induction n with
  | zero =>
    intro mem x1 x2 z h
    rw [f_X8_of_b4] at h
    cases h
  | succ n ih =>
    intro mem x1 x2 z h
    rw [f_X8_of_b4] at h
    refine ug_iload_n 2 dX8_of_4 rfl rfl ?_
    refine ug_aload_n 0 dX8_of_5 rfl rfl ?_
    refine ug_slen kl_X8_119 hw (Nat.le_of_ble_eq_true rfl) (Nat.le_of_ble_eq_true rfl) dX8_of_6 ?_
    refine ug_icmp_ge 31 dX8_of_9 (by decide) (fun q1 => ?_) (fun q1 => ?_)
    · rw [if_pos q1] at h
      refine ug_iload_n 1 dX8_of_31 rfl rfl ?_
      obtain rfl := Option.some.inj h
      exact ug_iret dX8_of_32
    · rw [if_neg q1] at h
      refine ug_iload_n 1 dX8_of_12 rfl rfl ?_
      refine ug_iconst dX8_of_13 un_iconst_5 ?_
      refine ug_ishl dX8_of_14 ?_
      refine ug_aload_n 0 dX8_of_15 rfl rfl ?_
      refine ug_iload_n 2 dX8_of_16 rfl rfl ?_
      obtain ⟨g2, h⟩ := ugd_some h
      refine ug_schr kl_X8_124 hw (uin_ok g2) (Nat.le_of_ble_eq_true rfl) (Nat.le_of_ble_eq_true rfl) dX8_of_17 ?_
      refine ug_bipush dX8_of_20 un_bipush_96 ?_
      refine ug_isub dX8_of_22 ?_
      refine ug_ior dX8_of_23 ?_
      refine ug_istore_n [(1, .int ((x1 <<< (5 &&& 31)) ||| ((us_c w x2) - 96))), (0, .ref (ue_aK E w)), (2, .int x2)] dX8_of_24 rfl (Nat.le_of_ble_eq_true rfl) rfl ?_
      refine ug_iinc (v := (x2 + 1)) [(2, .int (x2 + 1)), (1, .int ((x1 <<< (5 &&& 31)) ||| ((us_c w x2) - 96))), (0, .ref (ue_aK E w))] 2 dX8_of_25 rfl rfl (Nat.le_of_ble_eq_true rfl) rfl ?_
      refine ug_goto 4 dX8_of_28 (by decide) ?_
      refine ug_sub [(0, .ref (ue_aK E w)), (1, .int ((x1 <<< (5 &&& 31)) ||| ((us_c w x2) - 96))), (2, .int (x2 + 1))] [2, 1, 0] rfl ?_
      exact ih mem ((x1 <<< (5 &&& 31)) ||| ((us_c w x2) - 96)) (x2 + 1) _ h
def f_X8_of (w : Nat) (mem : Um) : Option (Um × Int32) :=
  f_X8_of_b4 w UF mem 0 0
set_option maxRecDepth 20000 in
theorem t_X8_of {l : Launch} {E : Ue} {w : Nat} (hw : w < 18) (mem : Um) (z : Um × Int32) (h : f_X8_of w mem  = some z) : ug l E 6 0 0 cX8_of 3 RX8 (some .int) [] (uz_i z) 0 0 0 [(0, .ref (ue_aK E w))] [] mem := by
  rw [f_X8_of] at h
  refine ug_iconst dX8_of_0 un_iconst_0 ?_
  refine ug_istore_n [(1, .int 0), (0, .ref (ue_aK E w))] dX8_of_1 rfl (Nat.le_of_ble_eq_true rfl) rfl ?_
  refine ug_iconst dX8_of_2 un_iconst_0 ?_
  refine ug_istore_n [(2, .int 0), (1, .int 0), (0, .ref (ue_aK E w))] dX8_of_3 rfl (Nat.le_of_ble_eq_true rfl) rfl ?_
  refine ug_sub [(0, .ref (ue_aK E w)), (1, .int 0), (2, .int 0)] [2, 1, 0] rfl ?_
  exact t_X8_of_b4 hw UF mem 0 0 _ h
theorem c_X8_of {l : Launch} {E : Ue} {w : Nat} (hw : w < 18) {mem : Um} {m1 : Um} {r : Int32} (h : f_X8_of w mem  = some (m1, r)) : ucr l E 6 0 0 yX8_of cX8_of 3 (some .int) [.ref (ue_aK E w)] mem (some (.int r)) m1 := ucr_of rfl (Nat.le_of_ble_eq_true rfl) (t_X8_of hw mem  _ h)
-- X8_pass
def f_X8_pass_b39 (mem : Um) : Option (Um × Unit) :=
  some (mem, ())
set_option maxRecDepth 20000 in
theorem t_X8_pass_b39 {l : Launch} {E : Ue} (mem : Um) (z : Um × Unit) (h : f_X8_pass_b39  mem  = some z) : ug l E 3 0 0 cX8_pass 1 RX8 none [] (uz_v z) 0 0 39 [] [] mem := by
  rw [f_X8_pass_b39] at h
  obtain rfl := Option.some.inj h
  exact ug_vret dX8_pass_39
def f_X8_pass_b0 : Nat → Um → Option (Um × Unit)
  | 0, _ => none
  | n + 1, mem =>
    if (mem 38 3) ≤ (mem 38 4) then (f_X8_pass_b39 mem) else (ugd (uin (mem 38 4) 600) (ubi (f_X8_isSmall mem (mem 40 (mem 38 4).toNatClampNeg)) (fun m3 r4 => if r4 = 0 then (f_X8_pass_b39 m3) else ((f_X8_pass_b0  n) (um_w m3 38 4 ((m3 38 4) + 1))))))
set_option maxRecDepth 20000 in
theorem t_X8_pass_b0 {l : Launch} {E : Ue} : ∀ (n : Nat) (mem : Um) (z : Um × Unit), f_X8_pass_b0  n mem  = some z → ug l E 3 0 0 cX8_pass 1 RX8 none [] (uz_v z) 0 0 0 [(0, .ref (ue_d E 38))] [] mem := by
  intro n
  induction n with
  | zero =>
    intro mem z h
    rw [f_X8_pass_b0] at h
    cases h
  | succ n ih =>
    intro mem z h
    rw [f_X8_pass_b0] at h
    refine ug_aload_n 0 dX8_pass_0 rfl rfl ?_
    refine ug_getI kf_X8_105 gi_38_4 dX8_pass_1 ?_
    refine ug_aload_n 0 dX8_pass_4 rfl rfl ?_
    refine ug_getI kf_X8_108 gi_38_3 dX8_pass_5 ?_
    refine ug_icmp_ge 39 dX8_pass_8 (by decide) (fun q1 => ?_) (fun q1 => ?_)
    · rw [if_pos q1] at h
      refine ug_sub [] [] rfl ?_
      exact t_X8_pass_b39 mem  _ h
    · rw [if_neg q1] at h
      refine ug_aload_n 0 dX8_pass_11 rfl rfl ?_
      refine ug_getR kf_X8_20 gr_38_9 dX8_pass_12 ?_
      refine ug_aload_n 0 dX8_pass_15 rfl rfl ?_
      refine ug_getI kf_X8_105 gi_38_4 dX8_pass_16 ?_
      obtain ⟨g2, h⟩ := ugd_some h
      refine ug_iald al_40 (uin_ok g2) dX8_pass_19 ?_
      obtain ⟨m3, r4, h5, h⟩ := ubi_some h
      refine ug_callSi [.int (mem 40 (mem 38 4).toNatClampNeg)] (c_X8_isSmall  h5) kc_X8_115 rfl (S := []) rfl (Nat.le_of_ble_eq_true rfl) (Nat.le_of_ble_eq_true rfl) (Nat.le_of_ble_eq_true rfl) dX8_pass_20 ?_
      refine ug_if_eq 39 dX8_pass_23 (by decide) (fun q6 => ?_) (fun q6 => ?_)
      · rw [if_pos q6] at h
        refine ug_sub [] [] rfl ?_
        exact t_X8_pass_b39 m3  _ h
      · rw [if_neg q6] at h
        refine ug_aload_n 0 dX8_pass_26 rfl rfl ?_
        refine ug_dup dX8_pass_27 rfl ?_
        refine ug_getI kf_X8_105 gi_38_4 dX8_pass_28 ?_
        refine ug_iconst dX8_pass_31 un_iconst_1 ?_
        refine ug_iadd dX8_pass_32 ?_
        refine ug_putI kp_X8_105 gi_38_4 dX8_pass_33 ?_
        refine ug_goto 0 dX8_pass_36 (by decide) ?_
        exact ih (um_w m3 38 4 ((m3 38 4) + 1))  _ h
def f_X8_pass (mem : Um) : Option (Um × Unit) :=
  if (mem 38 3) ≤ (mem 38 4) then (f_X8_pass_b39 mem) else (ugd (uin (mem 38 4) 600) (ubi (f_X8_isSmall mem (mem 40 (mem 38 4).toNatClampNeg)) (fun m3 r4 => if r4 = 0 then (f_X8_pass_b39 m3) else (f_X8_pass_b0  UF (um_w m3 38 4 ((m3 38 4) + 1))))))
set_option maxRecDepth 20000 in
theorem t_X8_pass {l : Launch} {E : Ue} (mem : Um) (z : Um × Unit) (h : f_X8_pass  mem  = some z) : ug l E 3 0 0 cX8_pass 1 RX8 none [] (uz_v z) 0 0 0 [(0, .ref (ue_d E 38))] [] mem := by
  rw [f_X8_pass] at h
  refine ug_aload_n 0 dX8_pass_0 rfl rfl ?_
  refine ug_getI kf_X8_105 gi_38_4 dX8_pass_1 ?_
  refine ug_aload_n 0 dX8_pass_4 rfl rfl ?_
  refine ug_getI kf_X8_108 gi_38_3 dX8_pass_5 ?_
  refine ug_icmp_ge 39 dX8_pass_8 (by decide) (fun q1 => ?_) (fun q1 => ?_)
  · rw [if_pos q1] at h
    refine ug_sub [] [] rfl ?_
    exact t_X8_pass_b39 mem  _ h
  · rw [if_neg q1] at h
    refine ug_aload_n 0 dX8_pass_11 rfl rfl ?_
    refine ug_getR kf_X8_20 gr_38_9 dX8_pass_12 ?_
    refine ug_aload_n 0 dX8_pass_15 rfl rfl ?_
    refine ug_getI kf_X8_105 gi_38_4 dX8_pass_16 ?_
    obtain ⟨g2, h⟩ := ugd_some h
    refine ug_iald al_40 (uin_ok g2) dX8_pass_19 ?_
    obtain ⟨m3, r4, h5, h⟩ := ubi_some h
    refine ug_callSi [.int (mem 40 (mem 38 4).toNatClampNeg)] (c_X8_isSmall  h5) kc_X8_115 rfl (S := []) rfl (Nat.le_of_ble_eq_true rfl) (Nat.le_of_ble_eq_true rfl) (Nat.le_of_ble_eq_true rfl) dX8_pass_20 ?_
    refine ug_if_eq 39 dX8_pass_23 (by decide) (fun q6 => ?_) (fun q6 => ?_)
    · rw [if_pos q6] at h
      refine ug_sub [] [] rfl ?_
      exact t_X8_pass_b39 m3  _ h
    · rw [if_neg q6] at h
      refine ug_aload_n 0 dX8_pass_26 rfl rfl ?_
      refine ug_dup dX8_pass_27 rfl ?_
      refine ug_getI kf_X8_105 gi_38_4 dX8_pass_28 ?_
      refine ug_iconst dX8_pass_31 un_iconst_1 ?_
      refine ug_iadd dX8_pass_32 ?_
      refine ug_putI kp_X8_105 gi_38_4 dX8_pass_33 ?_
      refine ug_goto 0 dX8_pass_36 (by decide) ?_
      exact t_X8_pass_b0  UF (um_w m3 38 4 ((m3 38 4) + 1))  _ h
theorem c_X8_pass {l : Launch} {E : Ue} {mem : Um} {m1 : Um} {r : Unit} (h : f_X8_pass  mem  = some (m1, r)) : ucr l E 3 0 0 yX8_pass cX8_pass 1 none [.ref (ue_d E 38)] mem none m1 := ucr_of rfl (Nat.le_of_ble_eq_true rfl) (t_X8_pass  mem  _ h)
-- X8_readNumber
def f_X8_readNumber_b126 (mem : Um) (x4 : Int32) : Option (Um × Int32) :=
  ubi (f_X8_wrong mem 2 x4) (fun m1 r2 => some (m1, 0))
set_option maxRecDepth 20000 in
theorem t_X8_readNumber_b126 {l : Launch} {E : Ue} (mem : Um) (x4 : Int32) (z : Um × Int32) (h : f_X8_readNumber_b126  mem x4 = some z) : ug l E 3 0 0 cX8_readNumber 6 RX8 (some .int) [] (uz_i z) 0 0 126 [(0, .ref (ue_d E 38)), (4, .int x4)] [] mem := by
  rw [f_X8_readNumber_b126] at h
  refine ug_aload_n 0 dX8_readNumber_126 rfl rfl ?_
  refine ug_iconst dX8_readNumber_127 un_iconst_2 ?_
  refine ug_iload 1 dX8_readNumber_128 rfl ?_
  obtain ⟨m1, r2, h3, h⟩ := ubi_some h
  refine ug_callVv [.int 2, .int x4] (c_X8_wrong  h3) kc_X8_135 ro_38 rfl (S := []) rfl (Nat.le_of_ble_eq_true rfl) (Nat.le_of_ble_eq_true rfl) (Nat.le_of_ble_eq_true rfl) dX8_readNumber_130 ?_
  refine ug_iconst dX8_readNumber_133 un_iconst_0 ?_
  obtain rfl := Option.some.inj h
  exact ug_iret dX8_readNumber_134
def f_X8_readNumber_b114 (mem : Um) (x1 : Int32) (x2 : Int32) (x4 : Int32) (x5 : Int32) : Option (Um × Int32) :=
  if x5 < x1 then (f_X8_readNumber_b126 mem x4) else (if x5 ≤ x2 then (some (mem, x5)) else (f_X8_readNumber_b126 mem x4))
set_option maxRecDepth 20000 in
theorem t_X8_readNumber_b114 {l : Launch} {E : Ue} (mem : Um) (x1 : Int32) (x2 : Int32) (x4 : Int32) (x5 : Int32) (z : Um × Int32) (h : f_X8_readNumber_b114  mem x1 x2 x4 x5 = some z) : ug l E 3 0 0 cX8_readNumber 6 RX8 (some .int) [] (uz_i z) 0 0 114 [(0, .ref (ue_d E 38)), (1, .int x1), (2, .int x2), (4, .int x4), (5, .int x5)] [] mem := by
  rw [f_X8_readNumber_b114] at h
  refine ug_iload 4 dX8_readNumber_114 rfl ?_
  refine ug_iload_n 1 dX8_readNumber_116 rfl rfl ?_
  refine ug_icmp_lt 126 dX8_readNumber_117 (by decide) (fun q1 => ?_) (fun q1 => ?_)
  · rw [if_pos q1] at h
    refine ug_sub [(0, .ref (ue_d E 38)), (4, .int x4)] [0, 3] rfl ?_
    exact t_X8_readNumber_b126 mem x4 _ h
  · rw [if_neg q1] at h
    refine ug_iload 4 dX8_readNumber_120 rfl ?_
    refine ug_iload_n 2 dX8_readNumber_122 rfl rfl ?_
    refine ug_icmp_le 135 dX8_readNumber_123 (by decide) (fun q2 => ?_) (fun q2 => ?_)
    · rw [if_pos q2] at h
      refine ug_iload 4 dX8_readNumber_135 rfl ?_
      obtain rfl := Option.some.inj h
      exact ug_iret dX8_readNumber_137
    · rw [if_neg q2] at h
      refine ug_sub [(0, .ref (ue_d E 38)), (4, .int x4)] [0, 3] rfl ?_
      exact t_X8_readNumber_b126 mem x4 _ h
def f_X8_readNumber_b99 (k41 : Um → Int32 → Int32 → Int32 → Int32 → Option (Um × Int32)) (mem : Um) (x1 : Int32) (x2 : Int32) (x4 : Int32) (y0 : Int32) : Option (Um × Int32) :=
  k41 (um_w mem 38 4 ((mem 38 4) + 1)) x1 x2 x4 y0
set_option maxRecDepth 20000 in
theorem t_X8_readNumber_b99 {l : Launch} {E : Ue} (k41 : Um → Int32 → Int32 → Int32 → Int32 → Option (Um × Int32)) (hk41 : ∀ (mem : Um) (x1 : Int32) (x2 : Int32) (x4 : Int32) (x5 : Int32) (z : Um × Int32), k41 mem x1 x2 x4 x5 = some z → ug l E 3 0 0 cX8_readNumber 6 RX8 (some .int) [] (uz_i z) 0 0 41 [(0, .ref (ue_d E 38)), (1, .int x1), (2, .int x2), (4, .int x4), (5, .int x5)] [] mem) (mem : Um) (x1 : Int32) (x2 : Int32) (x4 : Int32) (y0 : Int32) (z : Um × Int32) (h : f_X8_readNumber_b99 k41 mem x1 x2 x4 y0 = some z) : ug l E 3 0 0 cX8_readNumber 6 RX8 (some .int) [] (uz_i z) 0 0 99 [(0, .ref (ue_d E 38)), (1, .int x1), (2, .int x2), (4, .int x4)] [.int y0] mem := by
  rw [f_X8_readNumber_b99] at h
  refine ug_istore [(5, .int y0), (0, .ref (ue_d E 38)), (1, .int x1), (2, .int x2), (4, .int x4)] dX8_readNumber_99 (Nat.le_of_ble_eq_true rfl) rfl ?_
  refine ug_aload_n 1 dX8_readNumber_101 rfl rfl ?_
  refine ug_dup dX8_readNumber_102 rfl ?_
  refine ug_getI kf_X8_105 gi_38_4 dX8_readNumber_103 ?_
  refine ug_iconst dX8_readNumber_106 un_iconst_1 ?_
  refine ug_iadd dX8_readNumber_107 ?_
  refine ug_putI kp_X8_105 gi_38_4 dX8_readNumber_108 ?_
  refine ug_goto 41 dX8_readNumber_111 (by decide) ?_
  refine ug_sub [(0, .ref (ue_d E 38)), (1, .int x1), (2, .int x2), (4, .int x4), (5, .int y0)] [1, 2, 3, 4, 0] rfl ?_
  exact hk41 (um_w mem 38 4 ((mem 38 4) + 1)) x1 x2 x4 y0 _ h
def f_X8_readNumber_b41 : Nat → Um → Int32 → Int32 → Int32 → Int32 → Option (Um × Int32)
  | 0, _, _, _, _, _ => none
  | n + 1, mem, x1, x2, x4, x5 =>
    if (mem 38 3) ≤ (mem 38 4) then (f_X8_readNumber_b114 mem x1 x2 x4 x5) else (ugd (uin (mem 38 4) 600) (ubi (f_X8_isDigit mem (mem 40 (mem 38 4).toNatClampNeg)) (fun m3 r4 => if r4 = 0 then (f_X8_readNumber_b114 m3 x1 x2 x4 x5) else (if x5 ≤ 9999 then (ugd (uin (m3 38 4) 600) (f_X8_readNumber_b99 (f_X8_readNumber_b41  n) m3 x1 x2 x4 (((10 * x5) + (m3 40 (m3 38 4).toNatClampNeg)) - 48))) else (f_X8_readNumber_b99 (f_X8_readNumber_b41  n) m3 x1 x2 x4 10000)))))
set_option maxRecDepth 20000 in
theorem t_X8_readNumber_b41 {l : Launch} {E : Ue} : ∀ (n : Nat) (mem : Um) (x1 : Int32) (x2 : Int32) (x4 : Int32) (x5 : Int32) (z : Um × Int32), f_X8_readNumber_b41  n mem x1 x2 x4 x5 = some z → ug l E 3 0 0 cX8_readNumber 6 RX8 (some .int) [] (uz_i z) 0 0 41 [(0, .ref (ue_d E 38)), (1, .int x1), (2, .int x2), (4, .int x4), (5, .int x5)] [] mem := by
  intro n
  induction n with
  | zero =>
    intro mem x1 x2 x4 x5 z h
    rw [f_X8_readNumber_b41] at h
    cases h
  | succ n ih =>
    intro mem x1 x2 x4 x5 z h
    rw [f_X8_readNumber_b41] at h
    refine ug_aload_n 0 dX8_readNumber_41 rfl rfl ?_
    refine ug_getI kf_X8_105 gi_38_4 dX8_readNumber_42 ?_
    refine ug_aload_n 0 dX8_readNumber_45 rfl rfl ?_
    refine ug_getI kf_X8_108 gi_38_3 dX8_readNumber_46 ?_
    refine ug_icmp_ge 114 dX8_readNumber_49 (by decide) (fun q1 => ?_) (fun q1 => ?_)
    · rw [if_pos q1] at h
      exact t_X8_readNumber_b114 mem x1 x2 x4 x5 _ h
    · rw [if_neg q1] at h
      refine ug_aload_n 0 dX8_readNumber_52 rfl rfl ?_
      refine ug_getR kf_X8_20 gr_38_9 dX8_readNumber_53 ?_
      refine ug_aload_n 0 dX8_readNumber_56 rfl rfl ?_
      refine ug_getI kf_X8_105 gi_38_4 dX8_readNumber_57 ?_
      obtain ⟨g2, h⟩ := ugd_some h
      refine ug_iald al_40 (uin_ok g2) dX8_readNumber_60 ?_
      obtain ⟨m3, r4, h5, h⟩ := ubi_some h
      refine ug_callSi [.int (mem 40 (mem 38 4).toNatClampNeg)] (c_X8_isDigit  h5) kc_X8_132 rfl (S := []) rfl (Nat.le_of_ble_eq_true rfl) (Nat.le_of_ble_eq_true rfl) (Nat.le_of_ble_eq_true rfl) dX8_readNumber_61 ?_
      refine ug_if_eq 114 dX8_readNumber_64 (by decide) (fun q6 => ?_) (fun q6 => ?_)
      · rw [if_pos q6] at h
        exact t_X8_readNumber_b114 m3 x1 x2 x4 x5 _ h
      · rw [if_neg q6] at h
        refine ug_iload 4 dX8_readNumber_67 rfl ?_
        refine ug_sipush dX8_readNumber_69 un_sipush_9999 ?_
        refine ug_icmp_le 81 dX8_readNumber_72 (by decide) (fun q7 => ?_) (fun q7 => ?_)
        · rw [if_pos q7] at h
          refine ug_bipush dX8_readNumber_81 un_bipush_10 ?_
          refine ug_iload 4 dX8_readNumber_83 rfl ?_
          refine ug_imul dX8_readNumber_85 ?_
          refine ug_aload_n 0 dX8_readNumber_86 rfl rfl ?_
          refine ug_getR kf_X8_20 gr_38_9 dX8_readNumber_87 ?_
          refine ug_aload_n 0 dX8_readNumber_90 rfl rfl ?_
          refine ug_getI kf_X8_105 gi_38_4 dX8_readNumber_91 ?_
          obtain ⟨g8, h⟩ := ugd_some h
          refine ug_iald al_40 (uin_ok g8) dX8_readNumber_94 ?_
          refine ug_iadd dX8_readNumber_95 ?_
          refine ug_bipush dX8_readNumber_96 un_bipush_48 ?_
          refine ug_isub dX8_readNumber_98 ?_
          refine ug_sub [(0, .ref (ue_d E 38)), (1, .int x1), (2, .int x2), (4, .int x4)] [0, 1, 2, 3] rfl ?_
          exact t_X8_readNumber_b99 (f_X8_readNumber_b41  n) ih m3 x1 x2 x4 (((10 * x5) + (m3 40 (m3 38 4).toNatClampNeg)) - 48) _ h
        · rw [if_neg q7] at h
          refine ug_sipush dX8_readNumber_75 un_sipush_10000 ?_
          refine ug_goto 99 dX8_readNumber_78 (by decide) ?_
          refine ug_sub [(0, .ref (ue_d E 38)), (1, .int x1), (2, .int x2), (4, .int x4)] [0, 1, 2, 3] rfl ?_
          exact t_X8_readNumber_b99 (f_X8_readNumber_b41  n) ih m3 x1 x2 x4 10000 _ h
def f_X8_readNumber (mem : Um) (x1 : Int32) (x2 : Int32) : Option (Um × Int32) :=
  ubi (f_X8_fine mem) (fun m1 r2 => if r2 = 0 then (some (m1, 0)) else (ubi (f_X8_here m1) (fun m5 r6 => ubi (f_X8_isDigit m5 r6) (fun m8 r9 => if r9 = 0 then (ubi (f_X8_wrong m8 1 (m8 38 4)) (fun m12 r13 => some (m12, 0))) else (f_X8_readNumber_b41  UF m8 x1 x2 (m5 38 4) 0)))))
set_option maxRecDepth 20000 in
theorem t_X8_readNumber {l : Launch} {E : Ue} (mem : Um) (x1 : Int32) (x2 : Int32) (z : Um × Int32) (h : f_X8_readNumber  mem x1 x2 = some z) : ug l E 3 0 0 cX8_readNumber 6 RX8 (some .int) [] (uz_i z) 0 0 0 [(0, .ref (ue_d E 38)), (1, .int x1), (2, .int x2)] [] mem := by
  rw [f_X8_readNumber] at h
  refine ug_aload_n 0 dX8_readNumber_0 rfl rfl ?_
  obtain ⟨m1, r2, h3, h⟩ := ubi_some h
  refine ug_callVi [] (c_X8_fine  h3) kc_X8_128 ro_38 rfl (S := []) rfl (Nat.le_of_ble_eq_true rfl) (Nat.le_of_ble_eq_true rfl) (Nat.le_of_ble_eq_true rfl) dX8_readNumber_1 ?_
  refine ug_if_ne 9 dX8_readNumber_4 (by decide) (fun q4 => ?_) (fun q4 => ?_)
  · rw [if_neg q4] at h
    refine ug_aload_n 0 dX8_readNumber_9 rfl rfl ?_
    obtain ⟨m5, r6, h7, h⟩ := ubi_some h
    refine ug_callVi [] (c_X8_here  h7) kc_X8_111 ro_38 rfl (S := []) rfl (Nat.le_of_ble_eq_true rfl) (Nat.le_of_ble_eq_true rfl) (Nat.le_of_ble_eq_true rfl) dX8_readNumber_10 ?_
    refine ug_istore_n [(3, .int r6), (0, .ref (ue_d E 38)), (1, .int x1), (2, .int x2)] dX8_readNumber_13 rfl (Nat.le_of_ble_eq_true rfl) rfl ?_
    refine ug_aload_n 1 dX8_readNumber_14 rfl rfl ?_
    refine ug_getI kf_X8_105 gi_38_4 dX8_readNumber_15 ?_
    refine ug_istore [(4, .int (m5 38 4)), (3, .int r6), (0, .ref (ue_d E 38)), (1, .int x1), (2, .int x2)] dX8_readNumber_18 (Nat.le_of_ble_eq_true rfl) rfl ?_
    refine ug_iconst dX8_readNumber_20 un_iconst_0 ?_
    refine ug_istore [(5, .int 0), (4, .int (m5 38 4)), (3, .int r6), (0, .ref (ue_d E 38)), (1, .int x1), (2, .int x2)] dX8_readNumber_21 (Nat.le_of_ble_eq_true rfl) rfl ?_
    refine ug_iload_n 2 dX8_readNumber_23 rfl rfl ?_
    obtain ⟨m8, r9, h10, h⟩ := ubi_some h
    refine ug_callSi [.int r6] (c_X8_isDigit  h10) kc_X8_132 rfl (S := []) rfl (Nat.le_of_ble_eq_true rfl) (Nat.le_of_ble_eq_true rfl) (Nat.le_of_ble_eq_true rfl) dX8_readNumber_24 ?_
    refine ug_if_ne 41 dX8_readNumber_27 (by decide) (fun q11 => ?_) (fun q11 => ?_)
    · rw [if_neg q11] at h
      refine ug_sub [(0, .ref (ue_d E 38)), (1, .int x1), (2, .int x2), (4, .int (m5 38 4)), (5, .int 0)] [3, 4, 5, 1, 0] rfl ?_
      exact t_X8_readNumber_b41  UF m8 x1 x2 (m5 38 4) 0 _ h
    · rw [if_pos q11] at h
      refine ug_aload_n 3 dX8_readNumber_30 rfl rfl ?_
      refine ug_iconst dX8_readNumber_31 un_iconst_1 ?_
      refine ug_aload_n 3 dX8_readNumber_32 rfl rfl ?_
      refine ug_getI kf_X8_105 gi_38_4 dX8_readNumber_33 ?_
      obtain ⟨m12, r13, h14, h⟩ := ubi_some h
      refine ug_callVv [.int 1, .int (m8 38 4)] (c_X8_wrong  h14) kc_X8_135 ro_38 rfl (S := []) rfl (Nat.le_of_ble_eq_true rfl) (Nat.le_of_ble_eq_true rfl) (Nat.le_of_ble_eq_true rfl) dX8_readNumber_36 ?_
      refine ug_iconst dX8_readNumber_39 un_iconst_0 ?_
      obtain rfl := Option.some.inj h
      exact ug_iret dX8_readNumber_40
  · rw [if_pos q4] at h
    refine ug_iconst dX8_readNumber_7 un_iconst_0 ?_
    obtain rfl := Option.some.inj h
    exact ug_iret dX8_readNumber_8
theorem c_X8_readNumber {l : Launch} {E : Ue} {mem : Um} {x1 : Int32} {x2 : Int32} {m1 : Um} {r : Int32} (h : f_X8_readNumber  mem x1 x2 = some (m1, r)) : ucr l E 3 0 0 yX8_readNumber cX8_readNumber 6 (some .int) [.ref (ue_d E 38), .int x1, .int x2] mem (some (.int r)) m1 := ucr_of rfl (Nat.le_of_ble_eq_true rfl) (t_X8_readNumber  mem x1 x2 _ h)
-- X8_sign
def f_X8_sign_b41 (mem : Um) : Option (Um × Unit) :=
  some (mem, ())
set_option maxRecDepth 20000 in
theorem t_X8_sign_b41 {l : Launch} {E : Ue} (mem : Um) (z : Um × Unit) (h : f_X8_sign_b41  mem  = some z) : ug l E 3 0 0 cX8_sign 2 RX8 none [] (uz_v z) 0 0 41 [] [] mem := by
  rw [f_X8_sign_b41] at h
  obtain rfl := Option.some.inj h
  exact ug_vret dX8_sign_41
def f_X8_sign_b24 (mem : Um) : Option (Um × Unit) :=
  ubi (f_X8_fine mem) (fun m1 r2 => if r2 = 0 then (f_X8_sign_b41 m1) else (f_X8_sign_b41 (um_w m1 38 4 ((m1 38 4) + 1))))
set_option maxRecDepth 20000 in
theorem t_X8_sign_b24 {l : Launch} {E : Ue} (mem : Um) (z : Um × Unit) (h : f_X8_sign_b24  mem  = some z) : ug l E 3 0 0 cX8_sign 2 RX8 none [] (uz_v z) 0 0 24 [(0, .ref (ue_d E 38))] [] mem := by
  rw [f_X8_sign_b24] at h
  refine ug_aload_n 0 dX8_sign_24 rfl rfl ?_
  obtain ⟨m1, r2, h3, h⟩ := ubi_some h
  refine ug_callVi [] (c_X8_fine  h3) kc_X8_128 ro_38 rfl (S := []) rfl (Nat.le_of_ble_eq_true rfl) (Nat.le_of_ble_eq_true rfl) (Nat.le_of_ble_eq_true rfl) dX8_sign_25 ?_
  refine ug_if_eq 41 dX8_sign_28 (by decide) (fun q4 => ?_) (fun q4 => ?_)
  · rw [if_pos q4] at h
    refine ug_sub [] [] rfl ?_
    exact t_X8_sign_b41 m1  _ h
  · rw [if_neg q4] at h
    refine ug_aload_n 0 dX8_sign_31 rfl rfl ?_
    refine ug_dup dX8_sign_32 rfl ?_
    refine ug_getI kf_X8_105 gi_38_4 dX8_sign_33 ?_
    refine ug_iconst dX8_sign_36 un_iconst_1 ?_
    refine ug_iadd dX8_sign_37 ?_
    refine ug_putI kp_X8_105 gi_38_4 dX8_sign_38 ?_
    refine ug_sub [] [] rfl ?_
    exact t_X8_sign_b41 (um_w m1 38 4 ((m1 38 4) + 1))  _ h
def f_X8_sign (mem : Um) (x1 : Int32) : Option (Um × Unit) :=
  ubi (f_X8_fine mem) (fun m1 r2 => if r2 = 0 then (f_X8_sign_b24 m1) else (ubi (f_X8_here m1) (fun m5 r6 => if r6 = x1 then (f_X8_sign_b24 m5) else (ubi (f_X8_wrong m5 1 (m5 38 4)) (fun m9 r10 => f_X8_sign_b24 m9)))))
set_option maxRecDepth 20000 in
theorem t_X8_sign {l : Launch} {E : Ue} (mem : Um) (x1 : Int32) (z : Um × Unit) (h : f_X8_sign  mem x1 = some z) : ug l E 3 0 0 cX8_sign 2 RX8 none [] (uz_v z) 0 0 0 [(0, .ref (ue_d E 38)), (1, .int x1)] [] mem := by
  rw [f_X8_sign] at h
  refine ug_aload_n 0 dX8_sign_0 rfl rfl ?_
  obtain ⟨m1, r2, h3, h⟩ := ubi_some h
  refine ug_callVi [] (c_X8_fine  h3) kc_X8_128 ro_38 rfl (S := []) rfl (Nat.le_of_ble_eq_true rfl) (Nat.le_of_ble_eq_true rfl) (Nat.le_of_ble_eq_true rfl) dX8_sign_1 ?_
  refine ug_if_eq 24 dX8_sign_4 (by decide) (fun q4 => ?_) (fun q4 => ?_)
  · rw [if_pos q4] at h
    refine ug_sub [(0, .ref (ue_d E 38))] [0] rfl ?_
    exact t_X8_sign_b24 m1  _ h
  · rw [if_neg q4] at h
    refine ug_aload_n 0 dX8_sign_7 rfl rfl ?_
    obtain ⟨m5, r6, h7, h⟩ := ubi_some h
    refine ug_callVi [] (c_X8_here  h7) kc_X8_111 ro_38 rfl (S := []) rfl (Nat.le_of_ble_eq_true rfl) (Nat.le_of_ble_eq_true rfl) (Nat.le_of_ble_eq_true rfl) dX8_sign_8 ?_
    refine ug_iload_n 1 dX8_sign_11 rfl rfl ?_
    refine ug_icmp_eq 24 dX8_sign_12 (by decide) (fun q8 => ?_) (fun q8 => ?_)
    · rw [if_pos q8] at h
      refine ug_sub [(0, .ref (ue_d E 38))] [0] rfl ?_
      exact t_X8_sign_b24 m5  _ h
    · rw [if_neg q8] at h
      refine ug_aload_n 0 dX8_sign_15 rfl rfl ?_
      refine ug_iconst dX8_sign_16 un_iconst_1 ?_
      refine ug_aload_n 0 dX8_sign_17 rfl rfl ?_
      refine ug_getI kf_X8_105 gi_38_4 dX8_sign_18 ?_
      obtain ⟨m9, r10, h11, h⟩ := ubi_some h
      refine ug_callVv [.int 1, .int (m5 38 4)] (c_X8_wrong  h11) kc_X8_135 ro_38 rfl (S := []) rfl (Nat.le_of_ble_eq_true rfl) (Nat.le_of_ble_eq_true rfl) (Nat.le_of_ble_eq_true rfl) dX8_sign_21 ?_
      refine ug_sub [(0, .ref (ue_d E 38))] [0] rfl ?_
      exact t_X8_sign_b24 m9  _ h
theorem c_X8_sign {l : Launch} {E : Ue} {mem : Um} {x1 : Int32} {m1 : Um} {r : Unit} (h : f_X8_sign  mem x1 = some (m1, r)) : ucr l E 3 0 0 yX8_sign cX8_sign 2 none [.ref (ue_d E 38), .int x1] mem none m1 := ucr_of rfl (Nat.le_of_ble_eq_true rfl) (t_X8_sign  mem x1 _ h)
-- X8_isMore
def f_X8_isMore_b21 (mem : Um) (y0 : Int32) : Option (Um × Int32) :=
  ugd (ub01 y0) (some (mem, y0))
set_option maxRecDepth 20000 in
theorem t_X8_isMore_b21 {l : Launch} {E : Ue} (mem : Um) (y0 : Int32) (z : Um × Int32) (h : f_X8_isMore_b21  mem y0 = some z) : ug l E 3 0 0 cX8_isMore 1 RX8 (some .boolean) [] (uz_i z) 0 0 21 [] [.int y0] mem := by
  rw [f_X8_isMore_b21] at h
  obtain ⟨g1, h⟩ := ugd_some h
  obtain rfl := Option.some.inj h
  exact ug_zret (of_decide_eq_true g1) dX8_isMore_21
def f_X8_isMore (mem : Um) : Option (Um × Int32) :=
  ubi (f_X8_here mem) (fun m1 r2 => if (m1 38 3) ≤ (m1 38 4) then (f_X8_isMore_b21 m1 0) else (f_X8_isMore_b21 m1 1))
set_option maxRecDepth 20000 in
theorem t_X8_isMore {l : Launch} {E : Ue} (mem : Um) (z : Um × Int32) (h : f_X8_isMore  mem  = some z) : ug l E 3 0 0 cX8_isMore 1 RX8 (some .boolean) [] (uz_i z) 0 0 0 [(0, .ref (ue_d E 38))] [] mem := by
  rw [f_X8_isMore] at h
  refine ug_aload_n 0 dX8_isMore_0 rfl rfl ?_
  obtain ⟨m1, r2, h3, h⟩ := ubi_some h
  refine ug_callVi [] (c_X8_here  h3) kc_X8_111 ro_38 rfl (S := []) rfl (Nat.le_of_ble_eq_true rfl) (Nat.le_of_ble_eq_true rfl) (Nat.le_of_ble_eq_true rfl) dX8_isMore_1 ?_
  refine ug_pop dX8_isMore_4 rfl ?_
  refine ug_aload_n 0 dX8_isMore_5 rfl rfl ?_
  refine ug_getI kf_X8_105 gi_38_4 dX8_isMore_6 ?_
  refine ug_aload_n 0 dX8_isMore_9 rfl rfl ?_
  refine ug_getI kf_X8_108 gi_38_3 dX8_isMore_10 ?_
  refine ug_icmp_ge 20 dX8_isMore_13 (by decide) (fun q4 => ?_) (fun q4 => ?_)
  · rw [if_pos q4] at h
    refine ug_iconst dX8_isMore_20 un_iconst_0 ?_
    refine ug_sub [] [] rfl ?_
    exact t_X8_isMore_b21 m1 0 _ h
  · rw [if_neg q4] at h
    refine ug_iconst dX8_isMore_16 un_iconst_1 ?_
    refine ug_goto 21 dX8_isMore_17 (by decide) ?_
    refine ug_sub [] [] rfl ?_
    exact t_X8_isMore_b21 m1 1 _ h
theorem c_X8_isMore {l : Launch} {E : Ue} {mem : Um} {m1 : Um} {r : Int32} (h : f_X8_isMore  mem  = some (m1, r)) : ucr l E 3 0 0 yX8_isMore cX8_isMore 1 (some .boolean) [.ref (ue_d E 38)] mem (some (.int r)) m1 := ucr_of rfl (Nat.le_of_ble_eq_true rfl) (t_X8_isMore  mem  _ h)
-- X8_begins
def f_X8_begins (mem : Um) (x1 : Int32) : Option (Um × Unit) :=
  some ((um_w (um_w (um_w (um_w (um_w (um_w mem 38 2 0) 38 8 (-1)) 38 3 x1) 38 4 0) 38 5 (-1)) 38 7 0), ())
set_option maxRecDepth 20000 in
theorem t_X8_begins {l : Launch} {E : Ue} (mem : Um) (x1 : Int32) (z : Um × Unit) (h : f_X8_begins  mem x1 = some z) : ug l E 2 0 0 cX8_begins 2 RX8 none [] (uz_v z) 0 0 0 [(0, .ref (ue_d E 38)), (1, .int x1)] [] mem := by
  rw [f_X8_begins] at h
  refine ug_aload_n 0 dX8_begins_0 rfl rfl ?_
  refine ug_iconst dX8_begins_1 un_iconst_0 ?_
  refine ug_putI kp_X8_96 gi_38_2 dX8_begins_2 ?_
  refine ug_aload_n 0 dX8_begins_5 rfl rfl ?_
  refine ug_iconst dX8_begins_6 un_iconst_m1 ?_
  refine ug_putI kp_X8_17 gi_38_8 dX8_begins_7 ?_
  refine ug_aload_n 0 dX8_begins_10 rfl rfl ?_
  refine ug_iload_n 1 dX8_begins_11 rfl rfl ?_
  refine ug_putI kp_X8_108 gi_38_3 dX8_begins_12 ?_
  refine ug_aload_n 0 dX8_begins_15 rfl rfl ?_
  refine ug_iconst dX8_begins_16 un_iconst_0 ?_
  refine ug_putI kp_X8_105 gi_38_4 dX8_begins_17 ?_
  refine ug_aload_n 0 dX8_begins_20 rfl rfl ?_
  refine ug_iconst dX8_begins_21 un_iconst_m1 ?_
  refine ug_putI kp_X8_99 gi_38_5 dX8_begins_22 ?_
  refine ug_aload_n 0 dX8_begins_25 rfl rfl ?_
  refine ug_iconst dX8_begins_26 un_iconst_0 ?_
  refine ug_putI kp_X8_139 gi_38_7 dX8_begins_27 ?_
  obtain rfl := Option.some.inj h
  exact ug_vret dX8_begins_30
theorem c_X8_begins {l : Launch} {E : Ue} {mem : Um} {x1 : Int32} {m1 : Um} {r : Unit} (h : f_X8_begins  mem x1 = some (m1, r)) : ucr l E 2 0 0 yX8_begins cX8_begins 2 none [.ref (ue_d E 38), .int x1] mem none m1 := ucr_of rfl (Nat.le_of_ble_eq_true rfl) (t_X8_begins  mem x1 _ h)
-- X8_result
def f_X8_result_b26 (mem : Um) (y0 : Int32) : Option (Um × Int32) :=
  some (mem, y0)
set_option maxRecDepth 20000 in
theorem t_X8_result_b26 {l : Launch} {E : Ue} (mem : Um) (y0 : Int32) (z : Um × Int32) (h : f_X8_result_b26  mem y0 = some z) : ug l E 3 0 0 cX8_result 2 RX8 (some .int) [] (uz_i z) 0 0 26 [] [.int y0] mem := by
  rw [f_X8_result_b26] at h
  obtain rfl := Option.some.inj h
  exact ug_iret dX8_result_26
def f_X8_result (mem : Um) (x1 : Int32) : Option (Um × Int32) :=
  ubi (f_X8_fine (um_w mem 38 8 (mem 38 5))) (fun m1 r2 => if r2 = 0 then (f_X8_result_b26 m1 ((m1 38 6) - 10)) else (f_X8_result_b26 m1 x1))
set_option maxRecDepth 20000 in
theorem t_X8_result {l : Launch} {E : Ue} (mem : Um) (x1 : Int32) (z : Um × Int32) (h : f_X8_result  mem x1 = some z) : ug l E 3 0 0 cX8_result 2 RX8 (some .int) [] (uz_i z) 0 0 0 [(0, .ref (ue_d E 38)), (1, .int x1)] [] mem := by
  rw [f_X8_result] at h
  refine ug_aload_n 0 dX8_result_0 rfl rfl ?_
  refine ug_aload_n 0 dX8_result_1 rfl rfl ?_
  refine ug_getI kf_X8_99 gi_38_5 dX8_result_2 ?_
  refine ug_putI kp_X8_17 gi_38_8 dX8_result_5 ?_
  refine ug_aload_n 0 dX8_result_8 rfl rfl ?_
  obtain ⟨m1, r2, h3, h⟩ := ubi_some h
  refine ug_callVi [] (c_X8_fine  h3) kc_X8_128 ro_38 rfl (S := []) rfl (Nat.le_of_ble_eq_true rfl) (Nat.le_of_ble_eq_true rfl) (Nat.le_of_ble_eq_true rfl) dX8_result_9 ?_
  refine ug_if_eq 19 dX8_result_12 (by decide) (fun q4 => ?_) (fun q4 => ?_)
  · rw [if_pos q4] at h
    refine ug_aload_n 0 dX8_result_19 rfl rfl ?_
    refine ug_getI kf_X8_102 gi_38_6 dX8_result_20 ?_
    refine ug_bipush dX8_result_23 un_bipush_10 ?_
    refine ug_isub dX8_result_25 ?_
    refine ug_sub [] [] rfl ?_
    exact t_X8_result_b26 m1 ((m1 38 6) - 10) _ h
  · rw [if_neg q4] at h
    refine ug_iload_n 1 dX8_result_15 rfl rfl ?_
    refine ug_goto 26 dX8_result_16 (by decide) ?_
    refine ug_sub [] [] rfl ?_
    exact t_X8_result_b26 m1 x1 _ h
theorem c_X8_result {l : Launch} {E : Ue} {mem : Um} {x1 : Int32} {m1 : Um} {r : Int32} (h : f_X8_result  mem x1 = some (m1, r)) : ucr l E 3 0 0 yX8_result cX8_result 2 (some .int) [.ref (ue_d E 38), .int x1] mem (some (.int r)) m1 := ucr_of rfl (Nat.le_of_ble_eq_true rfl) (t_X8_result  mem x1 _ h)
-- X8_fault
def f_X8_fault (mem : Um) : Option (Um × Int32) :=
  some ((um_w mem 38 0 0), ((um_w mem 38 0 0) 38 8))
set_option maxRecDepth 20000 in
theorem t_X8_fault {l : Launch} {E : Ue} (mem : Um) (z : Um × Int32) (h : f_X8_fault  mem  = some z) : ug l E 2 0 0 cX8_fault 1 RX8 (some .int) [] (uz_i z) 0 0 0 [(0, .ref (ue_d E 38))] [] mem := by
  rw [f_X8_fault] at h
  refine ug_aload_n 0 dX8_fault_0 rfl rfl ?_
  refine ug_iconst dX8_fault_1 un_iconst_0 ?_
  refine ug_putI kp_X8_3 gi_38_0 dX8_fault_2 ?_
  refine ug_aload_n 0 dX8_fault_5 rfl rfl ?_
  refine ug_getI kf_X8_17 gi_38_8 dX8_fault_6 ?_
  obtain rfl := Option.some.inj h
  exact ug_iret dX8_fault_9
theorem c_X8_fault {l : Launch} {E : Ue} {mem : Um} {m1 : Um} {r : Int32} (h : f_X8_fault  mem  = some (m1, r)) : ucr l E 2 0 0 yX8_fault cX8_fault 1 (some .int) [.ref (ue_d E 38)] mem (some (.int r)) m1 := ucr_of rfl (Nat.le_of_ble_eq_true rfl) (t_X8_fault  mem  _ h)
-- X8_copies
def f_X8_copies_b3 (a0 : Nat) (a1 : Nat) (n0 : Nat) (n1 : Nat) : Nat → Um → Int32 → Int32 → Option (Um × Unit)
  | 0, _, _, _ => none
  | n + 1, mem, x3, x4 =>
    if x3 ≤ x4 then (some (mem, ())) else (ugd (uin x4 n0) (ugd (uin x4 n1) ((f_X8_copies_b3 a0 a1 n0 n1 n) (um_w mem a1 x4.toNatClampNeg (mem a0 x4.toNatClampNeg)) x3 (x4 + 1))))
set_option maxRecDepth 20000 in
theorem t_X8_copies_b3 {l : Launch} {E : Ue} {a0 : Nat} {a1 : Nat} {n0 : Nat} {n1 : Nat} (ha0 : ud_all[a0]? = some (.inr (0, n0))) (ha1 : ud_all[a1]? = some (.inr (0, n1))) : ∀ (n : Nat) (mem : Um) (x3 : Int32) (x4 : Int32) (z : Um × Unit), f_X8_copies_b3 a0 a1 n0 n1 n mem x3 x4 = some z → ug l E 2 0 0 cX8_copies 5 RX8 none [] (uz_v z) 0 0 3 [(1, .ref (ue_d E a0)), (2, .ref (ue_d E a1)), (3, .int x3), (4, .int x4)] [] mem := by
  intro n
  induction n with
  | zero =>
    intro mem x3 x4 z h
    rw [f_X8_copies_b3] at h
    cases h
  | succ n ih =>
    intro mem x3 x4 z h
    rw [f_X8_copies_b3] at h
    refine ug_iload 3 dX8_copies_3 rfl ?_
    refine ug_iload_n 2 dX8_copies_5 rfl rfl ?_
    refine ug_icmp_ge 23 dX8_copies_6 (by decide) (fun q1 => ?_) (fun q1 => ?_)
    · rw [if_pos q1] at h
      obtain rfl := Option.some.inj h
      exact ug_vret dX8_copies_23
    · rw [if_neg q1] at h
      refine ug_aload_n 1 dX8_copies_9 rfl rfl ?_
      refine ug_iload 3 dX8_copies_10 rfl ?_
      refine ug_aload_n 0 dX8_copies_12 rfl rfl ?_
      refine ug_iload 3 dX8_copies_13 rfl ?_
      obtain ⟨g2, h⟩ := ugd_some h
      refine ug_iald ha0 (uin_ok g2) dX8_copies_15 ?_
      obtain ⟨g3, h⟩ := ugd_some h
      refine ug_iast ha1 (uin_ok g3) dX8_copies_16 ?_
      refine ug_iinc (v := (x4 + 1)) [(4, .int (x4 + 1)), (1, .ref (ue_d E a0)), (2, .ref (ue_d E a1)), (3, .int x3)] 3 dX8_copies_17 rfl rfl (Nat.le_of_ble_eq_true rfl) rfl ?_
      refine ug_goto 3 dX8_copies_20 (by decide) ?_
      refine ug_sub [(1, .ref (ue_d E a0)), (2, .ref (ue_d E a1)), (3, .int x3), (4, .int (x4 + 1))] [1, 2, 3, 0] rfl ?_
      exact ih (um_w mem a1 x4.toNatClampNeg (mem a0 x4.toNatClampNeg)) x3 (x4 + 1) _ h
def f_X8_copies (a0 : Nat) (a1 : Nat) (n0 : Nat) (n1 : Nat) (mem : Um) (x3 : Int32) : Option (Um × Unit) :=
  f_X8_copies_b3 a0 a1 n0 n1 UF mem x3 0
set_option maxRecDepth 20000 in
theorem t_X8_copies {l : Launch} {E : Ue} {a0 : Nat} {a1 : Nat} {n0 : Nat} {n1 : Nat} (ha0 : ud_all[a0]? = some (.inr (0, n0))) (ha1 : ud_all[a1]? = some (.inr (0, n1))) (mem : Um) (x3 : Int32) (z : Um × Unit) (h : f_X8_copies a0 a1 n0 n1 mem x3 = some z) : ug l E 2 0 0 cX8_copies 5 RX8 none [] (uz_v z) 0 0 0 [(0, .ref (ue_d E 38)), (1, .ref (ue_d E a0)), (2, .ref (ue_d E a1)), (3, .int x3)] [] mem := by
  rw [f_X8_copies] at h
  refine ug_iconst dX8_copies_0 un_iconst_0 ?_
  refine ug_istore [(4, .int 0), (0, .ref (ue_d E 38)), (1, .ref (ue_d E a0)), (2, .ref (ue_d E a1)), (3, .int x3)] dX8_copies_1 (Nat.le_of_ble_eq_true rfl) rfl ?_
  refine ug_sub [(1, .ref (ue_d E a0)), (2, .ref (ue_d E a1)), (3, .int x3), (4, .int 0)] [2, 3, 4, 0] rfl ?_
  exact t_X8_copies_b3 ha0 ha1 UF mem x3 0 _ h
theorem c_X8_copies {l : Launch} {E : Ue} {a0 : Nat} {a1 : Nat} {n0 : Nat} {n1 : Nat} (ha0 : ud_all[a0]? = some (.inr (0, n0))) (ha1 : ud_all[a1]? = some (.inr (0, n1))) {mem : Um} {x3 : Int32} {m1 : Um} {r : Unit} (h : f_X8_copies a0 a1 n0 n1 mem x3 = some (m1, r)) : ucr l E 2 0 0 yX8_copies cX8_copies 5 none [.ref (ue_d E 38), .ref (ue_d E a0), .ref (ue_d E a1), .int x3] mem none m1 := ucr_of rfl (Nat.le_of_ble_eq_true rfl) (t_X8_copies ha0 ha1 mem x3 _ h)
