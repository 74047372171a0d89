-- X8_clears
def f_X8_clears (mem : Um) : Option (Um × Unit) :=
  some ((um_w (um_w (um_w mem 38 14 0) 38 15 0) 38 16 8), ())
set_option maxRecDepth 20000 in
theorem t_X8_clears {l : Launch} {E : Ue} (mem : Um) (z : Um × Unit) (h : f_X8_clears  mem  = some z) : ug l E 2 0 0 cX8_clears 1 RX8 none [] (uz_v z) 0 0 0 [(0, .ref (ue_d E 38))] [] mem := by
  rw [f_X8_clears] at h
  refine ug_aload_n 0 dX8_clears_0 rfl rfl ?_
  refine ug_iconst dX8_clears_1 un_iconst_0 ?_
  refine ug_putI kp_X8_142 gi_38_14 dX8_clears_2 ?_
  refine ug_aload_n 0 dX8_clears_5 rfl rfl ?_
  refine ug_iconst dX8_clears_6 un_iconst_0 ?_
  refine ug_putI kp_X8_145 gi_38_15 dX8_clears_7 ?_
  refine ug_aload_n 0 dX8_clears_10 rfl rfl ?_
  refine ug_bipush dX8_clears_11 un_bipush_8 ?_
  refine ug_putI kp_X8_148 gi_38_16 dX8_clears_13 ?_
  obtain rfl := Option.some.inj h
  exact ug_vret dX8_clears_16
theorem c_X8_clears {l : Launch} {E : Ue} {mem : Um} {m1 : Um} {r : Unit} (h : f_X8_clears  mem  = some (m1, r)) : ucr l E 2 0 0 yX8_clears cX8_clears 1 none [.ref (ue_d E 38)] mem none m1 := ucr_of rfl (Nat.le_of_ble_eq_true rfl) (t_X8_clears  mem  _ h)
-- X8_sets
def f_X8_sets_b121 : Nat → Um → Int32 → Option (Um × Unit)
  | 0, _, _ => none
  | n + 1, mem, x1 =>
    if (mem 38 18) ≤ x1 then (some (mem, ())) else (ugd (uin (2 * x1) 10) (ugd (uin (0 + x1) 28) (ugd (uin ((2 * x1) + 1) 10) (ugd (uin (5 + x1) 28) ((f_X8_sets_b121  n) (um_w (um_w mem 53 (0 + x1).toNatClampNeg (mem 44 (2 * x1).toNatClampNeg)) 53 (5 + x1).toNatClampNeg ((um_w mem 53 (0 + x1).toNatClampNeg (mem 44 (2 * x1).toNatClampNeg)) 44 ((2 * x1) + 1).toNatClampNeg)) (x1 + 1))))))
set_option maxRecDepth 20000 in
theorem t_X8_sets_b121 {l : Launch} {E : Ue} : ∀ (n : Nat) (mem : Um) (x1 : Int32) (z : Um × Unit), f_X8_sets_b121  n mem x1 = some z → ug l E 3 0 0 cX8_sets 2 RX8 none [] (uz_v z) 0 0 121 [(0, .ref (ue_d E 38)), (1, .int x1)] [] mem := by
  intro n
  induction n with
  | zero =>
    intro mem x1 z h
    rw [f_X8_sets_b121] at h
    cases h
  | succ n ih =>
    intro mem x1 z h
    rw [f_X8_sets_b121] at h
    refine ug_iload_n 1 dX8_sets_121 rfl rfl ?_
    refine ug_aload_n 0 dX8_sets_122 rfl rfl ?_
    refine ug_getI kf_X8_154 gi_38_18 dX8_sets_123 ?_
    refine ug_icmp_ge 169 dX8_sets_126 (by decide) (fun q1 => ?_) (fun q1 => ?_)
    · rw [if_pos q1] at h
      obtain rfl := Option.some.inj h
      exact ug_vret dX8_sets_169
    · rw [if_neg q1] at h
      refine ug_aload_n 0 dX8_sets_129 rfl rfl ?_
      refine ug_getR kf_X8_59 gr_38_36 dX8_sets_130 ?_
      refine ug_iconst dX8_sets_133 un_iconst_0 ?_
      refine ug_iload_n 1 dX8_sets_134 rfl rfl ?_
      refine ug_iadd dX8_sets_135 ?_
      refine ug_aload_n 0 dX8_sets_136 rfl rfl ?_
      refine ug_getR kf_X8_32 gr_38_13 dX8_sets_137 ?_
      refine ug_iconst dX8_sets_140 un_iconst_2 ?_
      refine ug_iload_n 1 dX8_sets_141 rfl rfl ?_
      refine ug_imul dX8_sets_142 ?_
      obtain ⟨g2, h⟩ := ugd_some h
      refine ug_iald al_44 (uin_ok g2) dX8_sets_143 ?_
      obtain ⟨g3, h⟩ := ugd_some h
      refine ug_iast al_53 (uin_ok g3) dX8_sets_144 ?_
      refine ug_aload_n 0 dX8_sets_145 rfl rfl ?_
      refine ug_getR kf_X8_59 gr_38_36 dX8_sets_146 ?_
      refine ug_iconst dX8_sets_149 un_iconst_5 ?_
      refine ug_iload_n 1 dX8_sets_150 rfl rfl ?_
      refine ug_iadd dX8_sets_151 ?_
      refine ug_aload_n 0 dX8_sets_152 rfl rfl ?_
      refine ug_getR kf_X8_32 gr_38_13 dX8_sets_153 ?_
      refine ug_iconst dX8_sets_156 un_iconst_2 ?_
      refine ug_iload_n 1 dX8_sets_157 rfl rfl ?_
      refine ug_imul dX8_sets_158 ?_
      refine ug_iconst dX8_sets_159 un_iconst_1 ?_
      refine ug_iadd dX8_sets_160 ?_
      obtain ⟨g4, h⟩ := ugd_some h
      refine ug_iald al_44 (uin_ok g4) dX8_sets_161 ?_
      obtain ⟨g5, h⟩ := ugd_some h
      refine ug_iast al_53 (uin_ok g5) dX8_sets_162 ?_
      refine ug_iinc (v := (x1 + 1)) [(1, .int (x1 + 1)), (0, .ref (ue_d E 38))] 1 dX8_sets_163 rfl rfl (Nat.le_of_ble_eq_true rfl) rfl ?_
      refine ug_goto 121 dX8_sets_166 (by decide) ?_
      refine ug_sub [(0, .ref (ue_d E 38)), (1, .int (x1 + 1))] [1, 0] rfl ?_
      exact ih (um_w (um_w mem 53 (0 + x1).toNatClampNeg (mem 44 (2 * x1).toNatClampNeg)) 53 (5 + x1).toNatClampNeg ((um_w mem 53 (0 + x1).toNatClampNeg (mem 44 (2 * x1).toNatClampNeg)) 44 ((2 * x1) + 1).toNatClampNeg)) (x1 + 1) _ h
def f_X8_sets_b100 : Nat → Um → Int32 → Option (Um × Unit)
  | 0, _, _ => none
  | n + 1, mem, x1 =>
    if 28 ≤ x1 then (f_X8_sets_b121  UF mem 0) else (ugd (uin x1 28) ((f_X8_sets_b100  n) (um_w mem 53 x1.toNatClampNeg 0) (x1 + 1)))
set_option maxRecDepth 20000 in
theorem t_X8_sets_b100 {l : Launch} {E : Ue} : ∀ (n : Nat) (mem : Um) (x1 : Int32) (z : Um × Unit), f_X8_sets_b100  n mem x1 = some z → ug l E 3 0 0 cX8_sets 2 RX8 none [] (uz_v z) 0 0 100 [(0, .ref (ue_d E 38)), (1, .int x1)] [] mem := by
  intro n
  induction n with
  | zero =>
    intro mem x1 z h
    rw [f_X8_sets_b100] at h
    cases h
  | succ n ih =>
    intro mem x1 z h
    rw [f_X8_sets_b100] at h
    refine ug_iload_n 1 dX8_sets_100 rfl rfl ?_
    refine ug_bipush dX8_sets_101 un_bipush_28 ?_
    refine ug_icmp_ge 119 dX8_sets_103 (by decide) (fun q1 => ?_) (fun q1 => ?_)
    · rw [if_pos q1] at h
      refine ug_iconst dX8_sets_119 un_iconst_0 ?_
      refine ug_istore_n [(1, .int 0), (0, .ref (ue_d E 38))] dX8_sets_120 rfl (Nat.le_of_ble_eq_true rfl) rfl ?_
      refine ug_sub [(0, .ref (ue_d E 38)), (1, .int 0)] [1, 0] rfl ?_
      exact t_X8_sets_b121  UF mem 0 _ h
    · rw [if_neg q1] at h
      refine ug_aload_n 0 dX8_sets_106 rfl rfl ?_
      refine ug_getR kf_X8_59 gr_38_36 dX8_sets_107 ?_
      refine ug_iload_n 1 dX8_sets_110 rfl rfl ?_
      refine ug_iconst dX8_sets_111 un_iconst_0 ?_
      obtain ⟨g2, h⟩ := ugd_some h
      refine ug_iast al_53 (uin_ok g2) dX8_sets_112 ?_
      refine ug_iinc (v := (x1 + 1)) [(1, .int (x1 + 1)), (0, .ref (ue_d E 38))] 1 dX8_sets_113 rfl rfl (Nat.le_of_ble_eq_true rfl) rfl ?_
      refine ug_goto 100 dX8_sets_116 (by decide) ?_
      refine ug_sub [(0, .ref (ue_d E 38)), (1, .int (x1 + 1))] [1, 0] rfl ?_
      exact ih (um_w mem 53 x1.toNatClampNeg 0) (x1 + 1) _ h
def f_X8_sets_b79 : Nat → Um → Int32 → Option (Um × Unit)
  | 0, _, _ => none
  | n + 1, mem, x1 =>
    if 8 ≤ x1 then (f_X8_sets_b100  UF mem 0) else (ugd (uin x1 8) ((f_X8_sets_b79  n) (um_w mem 57 x1.toNatClampNeg (-1)) (x1 + 1)))
set_option maxRecDepth 20000 in
theorem t_X8_sets_b79 {l : Launch} {E : Ue} : ∀ (n : Nat) (mem : Um) (x1 : Int32) (z : Um × Unit), f_X8_sets_b79  n mem x1 = some z → ug l E 3 0 0 cX8_sets 2 RX8 none [] (uz_v z) 0 0 79 [(0, .ref (ue_d E 38)), (1, .int x1)] [] mem := by
  intro n
  induction n with
  | zero =>
    intro mem x1 z h
    rw [f_X8_sets_b79] at h
    cases h
  | succ n ih =>
    intro mem x1 z h
    rw [f_X8_sets_b79] at h
    refine ug_iload_n 1 dX8_sets_79 rfl rfl ?_
    refine ug_bipush dX8_sets_80 un_bipush_8 ?_
    refine ug_icmp_ge 98 dX8_sets_82 (by decide) (fun q1 => ?_) (fun q1 => ?_)
    · rw [if_pos q1] at h
      refine ug_iconst dX8_sets_98 un_iconst_0 ?_
      refine ug_istore_n [(1, .int 0), (0, .ref (ue_d E 38))] dX8_sets_99 rfl (Nat.le_of_ble_eq_true rfl) rfl ?_
      refine ug_sub [(0, .ref (ue_d E 38)), (1, .int 0)] [1, 0] rfl ?_
      exact t_X8_sets_b100  UF mem 0 _ h
    · rw [if_neg q1] at h
      refine ug_aload_n 0 dX8_sets_85 rfl rfl ?_
      refine ug_getR kf_X8_71 gr_38_40 dX8_sets_86 ?_
      refine ug_iload_n 1 dX8_sets_89 rfl rfl ?_
      refine ug_iconst dX8_sets_90 un_iconst_m1 ?_
      obtain ⟨g2, h⟩ := ugd_some h
      refine ug_iast al_57 (uin_ok g2) dX8_sets_91 ?_
      refine ug_iinc (v := (x1 + 1)) [(1, .int (x1 + 1)), (0, .ref (ue_d E 38))] 1 dX8_sets_92 rfl rfl (Nat.le_of_ble_eq_true rfl) rfl ?_
      refine ug_goto 79 dX8_sets_95 (by decide) ?_
      refine ug_sub [(0, .ref (ue_d E 38)), (1, .int (x1 + 1))] [1, 0] rfl ?_
      exact ih (um_w mem 57 x1.toNatClampNeg (-1)) (x1 + 1) _ h
def f_X8_sets (mem : Um) : Option (Um × Unit) :=
  ubi (f_X8_copies 41 43 16 16 (um_w (um_w (um_w mem 38 17 (mem 38 14)) 38 18 ((um_w mem 38 17 (mem 38 14)) 38 15)) 38 19 ((um_w (um_w mem 38 17 (mem 38 14)) 38 18 ((um_w mem 38 17 (mem 38 14)) 38 15)) 38 16)) 16) (fun m1 r2 => ubi (f_X8_copies 42 44 10 10 m1 10) (fun m4 r5 => f_X8_sets_b79  UF (um_w (um_w (um_w (um_w (um_w m4 38 26 0) 38 41 0) 38 31 0) 38 48 0) 38 32 0) 0))
set_option maxRecDepth 20000 in
theorem t_X8_sets {l : Launch} {E : Ue} (mem : Um) (z : Um × Unit) (h : f_X8_sets  mem  = some z) : ug l E 3 0 0 cX8_sets 2 RX8 none [] (uz_v z) 0 0 0 [(0, .ref (ue_d E 38))] [] mem := by
  rw [f_X8_sets] at h
  refine ug_aload_n 0 dX8_sets_0 rfl rfl ?_
  refine ug_aload_n 0 dX8_sets_1 rfl rfl ?_
  refine ug_getI kf_X8_142 gi_38_14 dX8_sets_2 ?_
  refine ug_putI kp_X8_151 gi_38_17 dX8_sets_5 ?_
  refine ug_aload_n 0 dX8_sets_8 rfl rfl ?_
  refine ug_aload_n 0 dX8_sets_9 rfl rfl ?_
  refine ug_getI kf_X8_145 gi_38_15 dX8_sets_10 ?_
  refine ug_putI kp_X8_154 gi_38_18 dX8_sets_13 ?_
  refine ug_aload_n 0 dX8_sets_16 rfl rfl ?_
  refine ug_aload_n 0 dX8_sets_17 rfl rfl ?_
  refine ug_getI kf_X8_148 gi_38_16 dX8_sets_18 ?_
  refine ug_putI kp_X8_157 gi_38_19 dX8_sets_21 ?_
  refine ug_aload_n 0 dX8_sets_24 rfl rfl ?_
  refine ug_aload_n 0 dX8_sets_25 rfl rfl ?_
  refine ug_getR kf_X8_23 gr_38_10 dX8_sets_26 ?_
  refine ug_aload_n 0 dX8_sets_29 rfl rfl ?_
  refine ug_getR kf_X8_29 gr_38_12 dX8_sets_30 ?_
  refine ug_bipush dX8_sets_33 un_bipush_16 ?_
  obtain ⟨m1, r2, h3, h⟩ := ubi_some h
  refine ug_callVv [.ref (ue_d E 41), .ref (ue_d E 43), .int 16] (c_X8_copies al_41 al_43 h3) kc_X8_160 ro_38 rfl (S := []) rfl (Nat.le_of_ble_eq_true rfl) (Nat.le_of_ble_eq_true rfl) (Nat.le_of_ble_eq_true rfl) dX8_sets_35 ?_
  refine ug_aload_n 0 dX8_sets_38 rfl rfl ?_
  refine ug_aload_n 0 dX8_sets_39 rfl rfl ?_
  refine ug_getR kf_X8_26 gr_38_11 dX8_sets_40 ?_
  refine ug_aload_n 0 dX8_sets_43 rfl rfl ?_
  refine ug_getR kf_X8_32 gr_38_13 dX8_sets_44 ?_
  refine ug_bipush dX8_sets_47 un_bipush_10 ?_
  obtain ⟨m4, r5, h6, h⟩ := ubi_some h
  refine ug_callVv [.ref (ue_d E 42), .ref (ue_d E 44), .int 10] (c_X8_copies al_42 al_44 h6) kc_X8_160 ro_38 rfl (S := []) rfl (Nat.le_of_ble_eq_true rfl) (Nat.le_of_ble_eq_true rfl) (Nat.le_of_ble_eq_true rfl) dX8_sets_49 ?_
  refine ug_aload_n 0 dX8_sets_52 rfl rfl ?_
  refine ug_iconst dX8_sets_53 un_iconst_0 ?_
  refine ug_putI kp_X8_164 gi_38_26 dX8_sets_54 ?_
  refine ug_aload_n 0 dX8_sets_57 rfl rfl ?_
  refine ug_iconst dX8_sets_58 un_iconst_0 ?_
  refine ug_putI kp_X8_167 gi_38_41 dX8_sets_59 ?_
  refine ug_aload_n 0 dX8_sets_62 rfl rfl ?_
  refine ug_iconst dX8_sets_63 un_iconst_0 ?_
  refine ug_putI kp_X8_170 gi_38_31 dX8_sets_64 ?_
  refine ug_aload_n 0 dX8_sets_67 rfl rfl ?_
  refine ug_iconst dX8_sets_68 un_iconst_0 ?_
  refine ug_putI kp_X8_173 gi_38_48 dX8_sets_69 ?_
  refine ug_aload_n 0 dX8_sets_72 rfl rfl ?_
  refine ug_iconst dX8_sets_73 un_iconst_0 ?_
  refine ug_putI kp_X8_176 gi_38_32 dX8_sets_74 ?_
  refine ug_iconst dX8_sets_77 un_iconst_0 ?_
  refine ug_istore_n [(1, .int 0), (0, .ref (ue_d E 38))] dX8_sets_78 rfl (Nat.le_of_ble_eq_true rfl) rfl ?_
  refine ug_sub [(0, .ref (ue_d E 38)), (1, .int 0)] [1, 0] rfl ?_
  exact t_X8_sets_b79  UF (um_w (um_w (um_w (um_w (um_w m4 38 26 0) 38 41 0) 38 31 0) 38 48 0) 38 32 0) 0 _ h
theorem c_X8_sets {l : Launch} {E : Ue} {mem : Um} {m1 : Um} {r : Unit} (h : f_X8_sets  mem  = some (m1, r)) : ucr l E 3 0 0 yX8_sets cX8_sets 2 none [.ref (ue_d E 38)] mem none m1 := ucr_of rfl (Nat.le_of_ble_eq_true rfl) (t_X8_sets  mem  _ h)
-- X8_isRow
def f_X8_isRow_b32 (mem : Um) (y0 : Int32) : Option (Um × Int32) :=
  ugd (ub01 y0) (some (mem, y0))
set_option maxRecDepth 20000 in
theorem t_X8_isRow_b32 {l : Launch} {E : Ue} (mem : Um) (y0 : Int32) (z : Um × Int32) (h : f_X8_isRow_b32  mem y0 = some z) : ug l E 7 0 0 cX8_isRow 1 RX8 (some .boolean) [] (uz_i z) 0 0 32 [] [.int y0] mem := by
  rw [f_X8_isRow_b32] at h
  obtain ⟨g1, h⟩ := ugd_some h
  obtain rfl := Option.some.inj h
  exact ug_zret (of_decide_eq_true g1) dX8_isRow_32
def f_X8_isRow_b27 (mem : Um) : Option (Um × Int32) :=
  f_X8_isRow_b32 mem 1
set_option maxRecDepth 20000 in
theorem t_X8_isRow_b27 {l : Launch} {E : Ue} (mem : Um) (z : Um × Int32) (h : f_X8_isRow_b27  mem  = some z) : ug l E 7 0 0 cX8_isRow 1 RX8 (some .boolean) [] (uz_i z) 0 0 27 [] [] mem := by
  rw [f_X8_isRow_b27] at h
  refine ug_iconst dX8_isRow_27 un_iconst_1 ?_
  refine ug_goto 32 dX8_isRow_28 (by decide) ?_
  exact t_X8_isRow_b32 mem 1 _ h
def f_X8_isRow (mem : Um) (x0 : Int32) : Option (Um × Int32) :=
  ubi (f_X8_of 0 mem) (fun m1 r2 => if x0 = r2 then (f_X8_isRow_b27 m1) else (ubi (f_X8_of 1 m1) (fun m5 r6 => if x0 = r6 then (f_X8_isRow_b27 m5) else (ubi (f_X8_of 2 m5) (fun m9 r10 => if x0 = r10 then (f_X8_isRow_b27 m9) else (f_X8_isRow_b32 m9 0))))))
set_option maxRecDepth 20000 in
theorem t_X8_isRow {l : Launch} {E : Ue} (mem : Um) (x0 : Int32) (z : Um × Int32) (h : f_X8_isRow  mem x0 = some z) : ug l E 7 0 0 cX8_isRow 1 RX8 (some .boolean) [] (uz_i z) 0 0 0 [(0, .int x0)] [] mem := by
  rw [f_X8_isRow] at h
  refine ug_iload_n 0 dX8_isRow_0 rfl rfl ?_
  refine ug_ldcS 21 (tx := "view") (n := 0) rfl dX8_isRow_1 ?_
  obtain ⟨m1, r2, h3, h⟩ := ubi_some h
  refine ug_callSi [.ref (ue_aK E 0)] (c_X8_of (by decide) h3) kc_X8_180 rfl (S := [.int x0]) rfl (Nat.le_of_ble_eq_true rfl) (Nat.le_of_ble_eq_true rfl) (Nat.le_of_ble_eq_true rfl) dX8_isRow_3 ?_
  refine ug_icmp_eq 27 dX8_isRow_6 (by decide) (fun q4 => ?_) (fun q4 => ?_)
  · rw [if_pos q4] at h
    refine ug_sub [] [] rfl ?_
    exact t_X8_isRow_b27 m1  _ h
  · rw [if_neg q4] at h
    refine ug_iload_n 0 dX8_isRow_9 rfl rfl ?_
    refine ug_ldcS 22 (tx := "tenant") (n := 1) rfl dX8_isRow_10 ?_
    obtain ⟨m5, r6, h7, h⟩ := ubi_some h
    refine ug_callSi [.ref (ue_aK E 1)] (c_X8_of (by decide) h7) kc_X8_180 rfl (S := [.int x0]) rfl (Nat.le_of_ble_eq_true rfl) (Nat.le_of_ble_eq_true rfl) (Nat.le_of_ble_eq_true rfl) dX8_isRow_12 ?_
    refine ug_icmp_eq 27 dX8_isRow_15 (by decide) (fun q8 => ?_) (fun q8 => ?_)
    · rw [if_pos q8] at h
      refine ug_sub [] [] rfl ?_
      exact t_X8_isRow_b27 m5  _ h
    · rw [if_neg q8] at h
      refine ug_iload_n 0 dX8_isRow_18 rfl rfl ?_
      refine ug_ldcS 23 (tx := "soap") (n := 2) rfl dX8_isRow_19 ?_
      obtain ⟨m9, r10, h11, h⟩ := ubi_some h
      refine ug_callSi [.ref (ue_aK E 2)] (c_X8_of (by decide) h11) kc_X8_180 rfl (S := [.int x0]) rfl (Nat.le_of_ble_eq_true rfl) (Nat.le_of_ble_eq_true rfl) (Nat.le_of_ble_eq_true rfl) dX8_isRow_21 ?_
      refine ug_icmp_ne 31 dX8_isRow_24 (by decide) (fun q12 => ?_) (fun q12 => ?_)
      · rw [if_neg q12] at h
        refine ug_iconst dX8_isRow_31 un_iconst_0 ?_
        refine ug_sub [] [] rfl ?_
        exact t_X8_isRow_b32 m9 0 _ h
      · rw [if_pos q12] at h
        refine ug_sub [] [] rfl ?_
        exact t_X8_isRow_b27 m9  _ h
theorem c_X8_isRow {l : Launch} {E : Ue} {mem : Um} {x0 : Int32} {m1 : Um} {r : Int32} (h : f_X8_isRow  mem x0 = some (m1, r)) : ucr l E 7 0 0 yX8_isRow cX8_isRow 1 (some .boolean) [.int x0] mem (some (.int r)) m1 := ucr_of rfl (Nat.le_of_ble_eq_true rfl) (t_X8_isRow  mem x0 _ h)
-- X8_isFull
def f_X8_isFull_b48 (mem : Um) (y0 : Int32) : Option (Um × Int32) :=
  ugd (ub01 y0) (some (mem, y0))
set_option maxRecDepth 20000 in
theorem t_X8_isFull_b48 {l : Launch} {E : Ue} (mem : Um) (y0 : Int32) (z : Um × Int32) (h : f_X8_isFull_b48  mem y0 = some z) : ug l E 7 0 0 cX8_isFull 2 RX8 (some .boolean) [] (uz_i z) 0 0 48 [] [.int y0] mem := by
  rw [f_X8_isFull_b48] at h
  obtain ⟨g1, h⟩ := ugd_some h
  obtain rfl := Option.some.inj h
  exact ug_zret (of_decide_eq_true g1) dX8_isFull_48
def f_X8_isFull_b47 (mem : Um) : Option (Um × Int32) :=
  f_X8_isFull_b48 mem 0
set_option maxRecDepth 20000 in
theorem t_X8_isFull_b47 {l : Launch} {E : Ue} (mem : Um) (z : Um × Int32) (h : f_X8_isFull_b47  mem  = some z) : ug l E 7 0 0 cX8_isFull 2 RX8 (some .boolean) [] (uz_i z) 0 0 47 [] [] mem := by
  rw [f_X8_isFull_b47] at h
  refine ug_iconst dX8_isFull_47 un_iconst_0 ?_
  exact t_X8_isFull_b48 mem 0 _ h
def f_X8_isFull (mem : Um) (x1 : Int32) : Option (Um × Int32) :=
  ubi (f_X8_of 0 mem) (fun m1 r2 => if x1 = r2 then (if (m1 38 14) = 8 then (f_X8_isFull_b48 m1 1) else (f_X8_isFull_b48 m1 0)) else (ubi (f_X8_of 1 m1) (fun m5 r6 => if x1 = r6 then (if (m5 38 15) = 5 then (f_X8_isFull_b48 m5 1) else (f_X8_isFull_b47 m5)) else (f_X8_isFull_b47 m5))))
set_option maxRecDepth 20000 in
theorem t_X8_isFull {l : Launch} {E : Ue} (mem : Um) (x1 : Int32) (z : Um × Int32) (h : f_X8_isFull  mem x1 = some z) : ug l E 7 0 0 cX8_isFull 2 RX8 (some .boolean) [] (uz_i z) 0 0 0 [(0, .ref (ue_d E 38)), (1, .int x1)] [] mem := by
  rw [f_X8_isFull] at h
  refine ug_iload_n 1 dX8_isFull_0 rfl rfl ?_
  refine ug_ldcS 21 (tx := "view") (n := 0) rfl dX8_isFull_1 ?_
  obtain ⟨m1, r2, h3, h⟩ := ubi_some h
  refine ug_callSi [.ref (ue_aK E 0)] (c_X8_of (by decide) h3) kc_X8_180 rfl (S := [.int x1]) rfl (Nat.le_of_ble_eq_true rfl) (Nat.le_of_ble_eq_true rfl) (Nat.le_of_ble_eq_true rfl) dX8_isFull_3 ?_
  refine ug_icmp_ne 26 dX8_isFull_6 (by decide) (fun q4 => ?_) (fun q4 => ?_)
  · rw [if_neg q4] at h
    refine ug_iload_n 1 dX8_isFull_26 rfl rfl ?_
    refine ug_ldcS 22 (tx := "tenant") (n := 1) rfl dX8_isFull_27 ?_
    obtain ⟨m5, r6, h7, h⟩ := ubi_some h
    refine ug_callSi [.ref (ue_aK E 1)] (c_X8_of (by decide) h7) kc_X8_180 rfl (S := [.int x1]) rfl (Nat.le_of_ble_eq_true rfl) (Nat.le_of_ble_eq_true rfl) (Nat.le_of_ble_eq_true rfl) dX8_isFull_29 ?_
    refine ug_icmp_ne 47 dX8_isFull_32 (by decide) (fun q8 => ?_) (fun q8 => ?_)
    · rw [if_neg q8] at h
      refine ug_sub [] [] rfl ?_
      exact t_X8_isFull_b47 m5  _ h
    · rw [if_pos q8] at h
      refine ug_aload_n 0 dX8_isFull_35 rfl rfl ?_
      refine ug_getI kf_X8_145 gi_38_15 dX8_isFull_36 ?_
      refine ug_iconst dX8_isFull_39 un_iconst_5 ?_
      refine ug_icmp_ne 47 dX8_isFull_40 (by decide) (fun q9 => ?_) (fun q9 => ?_)
      · rw [if_neg q9] at h
        refine ug_sub [] [] rfl ?_
        exact t_X8_isFull_b47 m5  _ h
      · rw [if_pos q9] at h
        refine ug_iconst dX8_isFull_43 un_iconst_1 ?_
        refine ug_goto 48 dX8_isFull_44 (by decide) ?_
        refine ug_sub [] [] rfl ?_
        exact t_X8_isFull_b48 m5 1 _ h
  · rw [if_pos q4] at h
    refine ug_aload_n 0 dX8_isFull_9 rfl rfl ?_
    refine ug_getI kf_X8_142 gi_38_14 dX8_isFull_10 ?_
    refine ug_bipush dX8_isFull_13 un_bipush_8 ?_
    refine ug_icmp_ne 22 dX8_isFull_15 (by decide) (fun q10 => ?_) (fun q10 => ?_)
    · rw [if_neg q10] at h
      refine ug_iconst dX8_isFull_22 un_iconst_0 ?_
      refine ug_goto 48 dX8_isFull_23 (by decide) ?_
      refine ug_sub [] [] rfl ?_
      exact t_X8_isFull_b48 m1 0 _ h
    · rw [if_pos q10] at h
      refine ug_iconst dX8_isFull_18 un_iconst_1 ?_
      refine ug_goto 48 dX8_isFull_19 (by decide) ?_
      refine ug_sub [] [] rfl ?_
      exact t_X8_isFull_b48 m1 1 _ h
theorem c_X8_isFull {l : Launch} {E : Ue} {mem : Um} {x1 : Int32} {m1 : Um} {r : Int32} (h : f_X8_isFull  mem x1 = some (m1, r)) : ucr l E 7 0 0 yX8_isFull cX8_isFull 2 (some .boolean) [.ref (ue_d E 38), .int x1] mem (some (.int r)) m1 := ucr_of rfl (Nat.le_of_ble_eq_true rfl) (t_X8_isFull  mem x1 _ h)
-- X8_readRow
def f_X8_readRow_b131 (mem : Um) : Option (Um × Unit) :=
  some (mem, ())
set_option maxRecDepth 20000 in
theorem t_X8_readRow_b131 {l : Launch} {E : Ue} (mem : Um) (z : Um × Unit) (h : f_X8_readRow_b131  mem  = some z) : ug l E 7 0 0 cX8_readRow 2 RX8 none [] (uz_v z) 0 0 131 [] [] mem := by
  rw [f_X8_readRow_b131] at h
  obtain rfl := Option.some.inj h
  exact ug_vret dX8_readRow_131
def f_X8_readRow (mem : Um) (x1 : Int32) : Option (Um × Unit) :=
  ubi (f_X8_of 0 mem) (fun m1 r2 => if x1 = r2 then (ubi (f_X8_readNumber m1 0 99) (fun m20 r21 => ugd (uin (2 * (m1 38 14)) 16) (ubi (f_X8_readNumber (um_w m20 41 (2 * (m1 38 14)).toNatClampNeg r21) 0 60) (fun m24 r25 => ugd (uin ((2 * ((um_w m20 41 (2 * (m1 38 14)).toNatClampNeg r21) 38 14)) + 1) 16) (f_X8_readRow_b131 (um_w (um_w m24 41 ((2 * ((um_w m20 41 (2 * (m1 38 14)).toNatClampNeg r21) 38 14)) + 1).toNatClampNeg r25) 38 14 (((um_w m24 41 ((2 * ((um_w m20 41 (2 * (m1 38 14)).toNatClampNeg r21) 38 14)) + 1).toNatClampNeg r25) 38 14) + 1))))))) else (ubi (f_X8_of 1 m1) (fun m5 r6 => if x1 = r6 then (ubi (f_X8_readNumber m5 0 99) (fun m12 r13 => ugd (uin (2 * (m5 38 15)) 10) (ubi (f_X8_readNumber (um_w m12 42 (2 * (m5 38 15)).toNatClampNeg r13) 0 99) (fun m16 r17 => ugd (uin ((2 * ((um_w m12 42 (2 * (m5 38 15)).toNatClampNeg r13) 38 15)) + 1) 10) (f_X8_readRow_b131 (um_w (um_w m16 42 ((2 * ((um_w m12 42 (2 * (m5 38 15)).toNatClampNeg r13) 38 15)) + 1).toNatClampNeg r17) 38 15 (((um_w m16 42 ((2 * ((um_w m12 42 (2 * (m5 38 15)).toNatClampNeg r13) 38 15)) + 1).toNatClampNeg r17) 38 15) + 1))))))) else (ubi (f_X8_readNumber m5 1 20) (fun m9 r10 => f_X8_readRow_b131 (um_w m9 38 16 r10))))))
set_option maxRecDepth 20000 in
theorem t_X8_readRow {l : Launch} {E : Ue} (mem : Um) (x1 : Int32) (z : Um × Unit) (h : f_X8_readRow  mem x1 = some z) : ug l E 7 0 0 cX8_readRow 2 RX8 none [] (uz_v z) 0 0 0 [(0, .ref (ue_d E 38)), (1, .int x1)] [] mem := by
  rw [f_X8_readRow] at h
  refine ug_iload_n 1 dX8_readRow_0 rfl rfl ?_
  refine ug_ldcS 21 (tx := "view") (n := 0) rfl dX8_readRow_1 ?_
  obtain ⟨m1, r2, h3, h⟩ := ubi_some h
  refine ug_callSi [.ref (ue_aK E 0)] (c_X8_of (by decide) h3) kc_X8_180 rfl (S := [.int x1]) rfl (Nat.le_of_ble_eq_true rfl) (Nat.le_of_ble_eq_true rfl) (Nat.le_of_ble_eq_true rfl) dX8_readRow_3 ?_
  refine ug_icmp_ne 60 dX8_readRow_6 (by decide) (fun q4 => ?_) (fun q4 => ?_)
  · rw [if_neg q4] at h
    refine ug_iload_n 1 dX8_readRow_60 rfl rfl ?_
    refine ug_ldcS 22 (tx := "tenant") (n := 1) rfl dX8_readRow_61 ?_
    obtain ⟨m5, r6, h7, h⟩ := ubi_some h
    refine ug_callSi [.ref (ue_aK E 1)] (c_X8_of (by decide) h7) kc_X8_180 rfl (S := [.int x1]) rfl (Nat.le_of_ble_eq_true rfl) (Nat.le_of_ble_eq_true rfl) (Nat.le_of_ble_eq_true rfl) dX8_readRow_63 ?_
    refine ug_icmp_ne 120 dX8_readRow_66 (by decide) (fun q8 => ?_) (fun q8 => ?_)
    · rw [if_neg q8] at h
      refine ug_aload_n 0 dX8_readRow_120 rfl rfl ?_
      refine ug_aload_n 0 dX8_readRow_121 rfl rfl ?_
      refine ug_iconst dX8_readRow_122 un_iconst_1 ?_
      refine ug_bipush dX8_readRow_123 un_bipush_20 ?_
      obtain ⟨m9, r10, h11, h⟩ := ubi_some h
      refine ug_callVi [.int 1, .int 20] (c_X8_readNumber  h11) kc_X8_186 ro_38 rfl (S := [.ref (ue_d E 38)]) rfl (Nat.le_of_ble_eq_true rfl) (Nat.le_of_ble_eq_true rfl) (Nat.le_of_ble_eq_true rfl) dX8_readRow_125 ?_
      refine ug_putI kp_X8_148 gi_38_16 dX8_readRow_128 ?_
      refine ug_sub [] [] rfl ?_
      exact t_X8_readRow_b131 (um_w m9 38 16 r10)  _ h
    · rw [if_pos q8] at h
      refine ug_aload_n 0 dX8_readRow_69 rfl rfl ?_
      refine ug_getR kf_X8_26 gr_38_11 dX8_readRow_70 ?_
      refine ug_iconst dX8_readRow_73 un_iconst_2 ?_
      refine ug_aload_n 0 dX8_readRow_74 rfl rfl ?_
      refine ug_getI kf_X8_145 gi_38_15 dX8_readRow_75 ?_
      refine ug_imul dX8_readRow_78 ?_
      refine ug_aload_n 0 dX8_readRow_79 rfl rfl ?_
      refine ug_iconst dX8_readRow_80 un_iconst_0 ?_
      refine ug_bipush dX8_readRow_81 un_bipush_99 ?_
      obtain ⟨m12, r13, h14, h⟩ := ubi_some h
      refine ug_callVi [.int 0, .int 99] (c_X8_readNumber  h14) kc_X8_186 ro_38 rfl (S := [.int (2 * (m5 38 15)), .ref (ue_d E 42)]) rfl (Nat.le_of_ble_eq_true rfl) (Nat.le_of_ble_eq_true rfl) (Nat.le_of_ble_eq_true rfl) dX8_readRow_83 ?_
      obtain ⟨g15, h⟩ := ugd_some h
      refine ug_iast al_42 (uin_ok g15) dX8_readRow_86 ?_
      refine ug_aload_n 0 dX8_readRow_87 rfl rfl ?_
      refine ug_getR kf_X8_26 gr_38_11 dX8_readRow_88 ?_
      refine ug_iconst dX8_readRow_91 un_iconst_2 ?_
      refine ug_aload_n 0 dX8_readRow_92 rfl rfl ?_
      refine ug_getI kf_X8_145 gi_38_15 dX8_readRow_93 ?_
      refine ug_imul dX8_readRow_96 ?_
      refine ug_iconst dX8_readRow_97 un_iconst_1 ?_
      refine ug_iadd dX8_readRow_98 ?_
      refine ug_aload_n 0 dX8_readRow_99 rfl rfl ?_
      refine ug_iconst dX8_readRow_100 un_iconst_0 ?_
      refine ug_bipush dX8_readRow_101 un_bipush_99 ?_
      obtain ⟨m16, r17, h18, h⟩ := ubi_some h
      refine ug_callVi [.int 0, .int 99] (c_X8_readNumber  h18) kc_X8_186 ro_38 rfl (S := [.int ((2 * ((um_w m12 42 (2 * (m5 38 15)).toNatClampNeg r13) 38 15)) + 1), .ref (ue_d E 42)]) rfl (Nat.le_of_ble_eq_true rfl) (Nat.le_of_ble_eq_true rfl) (Nat.le_of_ble_eq_true rfl) dX8_readRow_103 ?_
      obtain ⟨g19, h⟩ := ugd_some h
      refine ug_iast al_42 (uin_ok g19) dX8_readRow_106 ?_
      refine ug_aload_n 0 dX8_readRow_107 rfl rfl ?_
      refine ug_dup dX8_readRow_108 rfl ?_
      refine ug_getI kf_X8_145 gi_38_15 dX8_readRow_109 ?_
      refine ug_iconst dX8_readRow_112 un_iconst_1 ?_
      refine ug_iadd dX8_readRow_113 ?_
      refine ug_putI kp_X8_145 gi_38_15 dX8_readRow_114 ?_
      refine ug_goto 131 dX8_readRow_117 (by decide) ?_
      refine ug_sub [] [] rfl ?_
      exact t_X8_readRow_b131 (um_w (um_w m16 42 ((2 * ((um_w m12 42 (2 * (m5 38 15)).toNatClampNeg r13) 38 15)) + 1).toNatClampNeg r17) 38 15 (((um_w m16 42 ((2 * ((um_w m12 42 (2 * (m5 38 15)).toNatClampNeg r13) 38 15)) + 1).toNatClampNeg r17) 38 15) + 1))  _ h
  · rw [if_pos q4] at h
    refine ug_aload_n 0 dX8_readRow_9 rfl rfl ?_
    refine ug_getR kf_X8_23 gr_38_10 dX8_readRow_10 ?_
    refine ug_iconst dX8_readRow_13 un_iconst_2 ?_
    refine ug_aload_n 0 dX8_readRow_14 rfl rfl ?_
    refine ug_getI kf_X8_142 gi_38_14 dX8_readRow_15 ?_
    refine ug_imul dX8_readRow_18 ?_
    refine ug_aload_n 0 dX8_readRow_19 rfl rfl ?_
    refine ug_iconst dX8_readRow_20 un_iconst_0 ?_
    refine ug_bipush dX8_readRow_21 un_bipush_99 ?_
    obtain ⟨m20, r21, h22, h⟩ := ubi_some h
    refine ug_callVi [.int 0, .int 99] (c_X8_readNumber  h22) kc_X8_186 ro_38 rfl (S := [.int (2 * (m1 38 14)), .ref (ue_d E 41)]) rfl (Nat.le_of_ble_eq_true rfl) (Nat.le_of_ble_eq_true rfl) (Nat.le_of_ble_eq_true rfl) dX8_readRow_23 ?_
    obtain ⟨g23, h⟩ := ugd_some h
    refine ug_iast al_41 (uin_ok g23) dX8_readRow_26 ?_
    refine ug_aload_n 0 dX8_readRow_27 rfl rfl ?_
    refine ug_getR kf_X8_23 gr_38_10 dX8_readRow_28 ?_
    refine ug_iconst dX8_readRow_31 un_iconst_2 ?_
    refine ug_aload_n 0 dX8_readRow_32 rfl rfl ?_
    refine ug_getI kf_X8_142 gi_38_14 dX8_readRow_33 ?_
    refine ug_imul dX8_readRow_36 ?_
    refine ug_iconst dX8_readRow_37 un_iconst_1 ?_
    refine ug_iadd dX8_readRow_38 ?_
    refine ug_aload_n 0 dX8_readRow_39 rfl rfl ?_
    refine ug_iconst dX8_readRow_40 un_iconst_0 ?_
    refine ug_bipush dX8_readRow_41 un_bipush_60 ?_
    obtain ⟨m24, r25, h26, h⟩ := ubi_some h
    refine ug_callVi [.int 0, .int 60] (c_X8_readNumber  h26) kc_X8_186 ro_38 rfl (S := [.int ((2 * ((um_w m20 41 (2 * (m1 38 14)).toNatClampNeg r21) 38 14)) + 1), .ref (ue_d E 41)]) rfl (Nat.le_of_ble_eq_true rfl) (Nat.le_of_ble_eq_true rfl) (Nat.le_of_ble_eq_true rfl) dX8_readRow_43 ?_
    obtain ⟨g27, h⟩ := ugd_some h
    refine ug_iast al_41 (uin_ok g27) dX8_readRow_46 ?_
    refine ug_aload_n 0 dX8_readRow_47 rfl rfl ?_
    refine ug_dup dX8_readRow_48 rfl ?_
    refine ug_getI kf_X8_142 gi_38_14 dX8_readRow_49 ?_
    refine ug_iconst dX8_readRow_52 un_iconst_1 ?_
    refine ug_iadd dX8_readRow_53 ?_
    refine ug_putI kp_X8_142 gi_38_14 dX8_readRow_54 ?_
    refine ug_goto 131 dX8_readRow_57 (by decide) ?_
    refine ug_sub [] [] rfl ?_
    exact t_X8_readRow_b131 (um_w (um_w m24 41 ((2 * ((um_w m20 41 (2 * (m1 38 14)).toNatClampNeg r21) 38 14)) + 1).toNatClampNeg r25) 38 14 (((um_w m24 41 ((2 * ((um_w m20 41 (2 * (m1 38 14)).toNatClampNeg r21) 38 14)) + 1).toNatClampNeg r25) 38 14) + 1))  _ h
theorem c_X8_readRow {l : Launch} {E : Ue} {mem : Um} {x1 : Int32} {m1 : Um} {r : Unit} (h : f_X8_readRow  mem x1 = some (m1, r)) : ucr l E 7 0 0 yX8_readRow cX8_readRow 2 none [.ref (ue_d E 38), .int x1] mem none m1 := ucr_of rfl (Nat.le_of_ble_eq_true rfl) (t_X8_readRow  mem x1 _ h)
-- X8_corner
def f_X8_corner_b157 (mem : Um) (x3 : Int32) : Option (Um × Int32) :=
  some (mem, x3)
set_option maxRecDepth 20000 in
theorem t_X8_corner_b157 {l : Launch} {E : Ue} (mem : Um) (x3 : Int32) (z : Um × Int32) (h : f_X8_corner_b157  mem x3 = some z) : ug l E 8 0 0 cX8_corner 4 RX8 (some .int) [] (uz_i z) 0 0 157 [(3, .int x3)] [] mem := by
  rw [f_X8_corner_b157] at h
  refine ug_iload_n 0 dX8_corner_157 rfl rfl ?_
  obtain rfl := Option.some.inj h
  exact ug_iret dX8_corner_158
def f_X8_corner_b136 (mem : Um) : Option (Um × Int32) :=
  ubi (f_X8_result mem (mem 38 15)) (fun m1 r2 => if (m1 38 5) = (-1) then (ubi (f_X8_sets m1) (fun m5 r6 => f_X8_corner_b157 m5 r2)) else (f_X8_corner_b157 m1 r2))
set_option maxRecDepth 20000 in
theorem t_X8_corner_b136 {l : Launch} {E : Ue} (mem : Um) (z : Um × Int32) (h : f_X8_corner_b136  mem  = some z) : ug l E 8 0 0 cX8_corner 4 RX8 (some .int) [] (uz_i z) 0 0 136 [(0, .ref (ue_d E 38))] [] mem := by
  rw [f_X8_corner_b136] at h
  refine ug_aload_n 0 dX8_corner_136 rfl rfl ?_
  refine ug_aload_n 0 dX8_corner_137 rfl rfl ?_
  refine ug_getI kf_X8_145 gi_38_15 dX8_corner_138 ?_
  obtain ⟨m1, r2, h3, h⟩ := ubi_some h
  refine ug_callVi [.int (mem 38 15)] (c_X8_result  h3) kc_X8_219 ro_38 rfl (S := []) rfl (Nat.le_of_ble_eq_true rfl) (Nat.le_of_ble_eq_true rfl) (Nat.le_of_ble_eq_true rfl) dX8_corner_141 ?_
  refine ug_istore_n [(3, .int r2), (0, .ref (ue_d E 38))] dX8_corner_144 rfl (Nat.le_of_ble_eq_true rfl) rfl ?_
  refine ug_aload_n 1 dX8_corner_145 rfl rfl ?_
  refine ug_getI kf_X8_99 gi_38_5 dX8_corner_146 ?_
  refine ug_iconst dX8_corner_149 un_iconst_m1 ?_
  refine ug_icmp_ne 157 dX8_corner_150 (by decide) (fun q4 => ?_) (fun q4 => ?_)
  · rw [if_neg q4] at h
    refine ug_sub [(3, .int r2)] [0] rfl ?_
    exact t_X8_corner_b157 m1 r2 _ h
  · rw [if_pos q4] at h
    refine ug_aload_n 1 dX8_corner_153 rfl rfl ?_
    obtain ⟨m5, r6, h7, h⟩ := ubi_some h
    refine ug_callVv [] (c_X8_sets  h7) kc_X8_93 ro_38 rfl (S := []) rfl (Nat.le_of_ble_eq_true rfl) (Nat.le_of_ble_eq_true rfl) (Nat.le_of_ble_eq_true rfl) dX8_corner_154 ?_
    refine ug_sub [(3, .int r2)] [0] rfl ?_
    exact t_X8_corner_b157 m5 r2 _ h
def f_X8_corner_b105 (k44 : Um → Int32 → Option (Um × Int32)) (mem : Um) (x2 : Int32) (x3 : Int32) : Option (Um × Int32) :=
  ubi (f_X8_fine mem) (fun m1 r2 => if r2 = 0 then (f_X8_corner_b136 m1) else (ubi (f_X8_pass m1) (fun m5 r6 => ubi (f_X8_readRow m5 x3) (fun m8 r9 => ubi (f_X8_sign m8 59) (fun m11 r12 => k44 m11 (x2 + 1))))))
set_option maxRecDepth 20000 in
theorem t_X8_corner_b105 {l : Launch} {E : Ue} (k44 : Um → Int32 → Option (Um × Int32)) (hk44 : ∀ (mem : Um) (x2 : Int32) (z : Um × Int32), k44 mem x2 = some z → ug l E 8 0 0 cX8_corner 4 RX8 (some .int) [] (uz_i z) 0 0 44 [(0, .ref (ue_d E 38)), (2, .int x2)] [] mem) (mem : Um) (x2 : Int32) (x3 : Int32) (z : Um × Int32) (h : f_X8_corner_b105 k44 mem x2 x3 = some z) : ug l E 8 0 0 cX8_corner 4 RX8 (some .int) [] (uz_i z) 0 0 105 [(0, .ref (ue_d E 38)), (2, .int x2), (3, .int x3)] [] mem := by
  rw [f_X8_corner_b105] at h
  refine ug_aload_n 0 dX8_corner_105 rfl rfl ?_
  obtain ⟨m1, r2, h3, h⟩ := ubi_some h
  refine ug_callVi [] (c_X8_fine  h3) kc_X8_128 ro_38 rfl (S := []) rfl (Nat.le_of_ble_eq_true rfl) (Nat.le_of_ble_eq_true rfl) (Nat.le_of_ble_eq_true rfl) dX8_corner_106 ?_
  refine ug_if_ne 115 dX8_corner_109 (by decide) (fun q4 => ?_) (fun q4 => ?_)
  · rw [if_neg q4] at h
    refine ug_aload_n 0 dX8_corner_115 rfl rfl ?_
    obtain ⟨m5, r6, h7, h⟩ := ubi_some h
    refine ug_callVv [] (c_X8_pass  h7) kc_X8_210 ro_38 rfl (S := []) rfl (Nat.le_of_ble_eq_true rfl) (Nat.le_of_ble_eq_true rfl) (Nat.le_of_ble_eq_true rfl) dX8_corner_116 ?_
    refine ug_aload_n 0 dX8_corner_119 rfl rfl ?_
    refine ug_iload_n 2 dX8_corner_120 rfl rfl ?_
    obtain ⟨m8, r9, h10, h⟩ := ubi_some h
    refine ug_callVv [.int x3] (c_X8_readRow  h10) kc_X8_213 ro_38 rfl (S := []) rfl (Nat.le_of_ble_eq_true rfl) (Nat.le_of_ble_eq_true rfl) (Nat.le_of_ble_eq_true rfl) dX8_corner_121 ?_
    refine ug_aload_n 0 dX8_corner_124 rfl rfl ?_
    refine ug_bipush dX8_corner_125 un_bipush_59 ?_
    obtain ⟨m11, r12, h13, h⟩ := ubi_some h
    refine ug_callVv [.int 59] (c_X8_sign  h13) kc_X8_216 ro_38 rfl (S := []) rfl (Nat.le_of_ble_eq_true rfl) (Nat.le_of_ble_eq_true rfl) (Nat.le_of_ble_eq_true rfl) dX8_corner_127 ?_
    refine ug_iinc (v := (x2 + 1)) [(2, .int (x2 + 1)), (0, .ref (ue_d E 38)), (3, .int x3)] 1 dX8_corner_130 rfl rfl (Nat.le_of_ble_eq_true rfl) rfl ?_
    refine ug_goto 44 dX8_corner_133 (by decide) ?_
    refine ug_sub [(0, .ref (ue_d E 38)), (2, .int (x2 + 1))] [1, 0] rfl ?_
    exact hk44 m11 (x2 + 1) _ h
  · rw [if_pos q4] at h
    refine ug_goto 136 dX8_corner_112 (by decide) ?_
    refine ug_sub [(0, .ref (ue_d E 38))] [0] rfl ?_
    exact t_X8_corner_b136 m1  _ h
def f_X8_corner_b96 (k44 : Um → Int32 → Option (Um × Int32)) (mem : Um) (x2 : Int32) (x3 : Int32) : Option (Um × Int32) :=
  ubi (f_X8_wrong mem 3 (mem 38 4)) (fun m1 r2 => f_X8_corner_b105 k44 m1 x2 x3)
set_option maxRecDepth 20000 in
theorem t_X8_corner_b96 {l : Launch} {E : Ue} (k44 : Um → Int32 → Option (Um × Int32)) (hk44 : ∀ (mem : Um) (x2 : Int32) (z : Um × Int32), k44 mem x2 = some z → ug l E 8 0 0 cX8_corner 4 RX8 (some .int) [] (uz_i z) 0 0 44 [(0, .ref (ue_d E 38)), (2, .int x2)] [] mem) (mem : Um) (x2 : Int32) (x3 : Int32) (z : Um × Int32) (h : f_X8_corner_b96 k44 mem x2 x3 = some z) : ug l E 8 0 0 cX8_corner 4 RX8 (some .int) [] (uz_i z) 0 0 96 [(0, .ref (ue_d E 38)), (2, .int x2), (3, .int x3)] [] mem := by
  rw [f_X8_corner_b96] at h
  refine ug_aload_n 0 dX8_corner_96 rfl rfl ?_
  refine ug_iconst dX8_corner_97 un_iconst_3 ?_
  refine ug_aload_n 0 dX8_corner_98 rfl rfl ?_
  refine ug_getI kf_X8_105 gi_38_4 dX8_corner_99 ?_
  obtain ⟨m1, r2, h3, h⟩ := ubi_some h
  refine ug_callVv [.int 3, .int (mem 38 4)] (c_X8_wrong  h3) kc_X8_135 ro_38 rfl (S := []) rfl (Nat.le_of_ble_eq_true rfl) (Nat.le_of_ble_eq_true rfl) (Nat.le_of_ble_eq_true rfl) dX8_corner_102 ?_
  exact t_X8_corner_b105 k44 hk44 m1 x2 x3 _ h
def f_X8_corner_b44 : Nat → Um → Int32 → Option (Um × Int32)
  | 0, _, _ => none
  | n + 1, mem, x2 =>
    ubi (f_X8_fine mem) (fun m1 r2 => if r2 = 0 then (f_X8_corner_b136 m1) else (ubi (f_X8_isMore m1) (fun m5 r6 => if r6 = 0 then (f_X8_corner_b136 m5) else (ubi (f_X8_word m5) (fun m9 r10 => ubi (f_X8_isRow m9 r10) (fun m12 r13 => if r13 = 0 then (ubi (f_X8_wrong m12 1 (m12 38 4)) (fun m21 r22 => f_X8_corner_b105 (f_X8_corner_b44  n) m21 x2 r10)) else (if x2 = 60 then (f_X8_corner_b96 (f_X8_corner_b44  n) m12 x2 r10) else (ubi (f_X8_isFull m12 r10) (fun m17 r18 => if r18 = 0 then (f_X8_corner_b105 (f_X8_corner_b44  n) m17 x2 r10) else (f_X8_corner_b96 (f_X8_corner_b44  n) m17 x2 r10))))))))))
set_option maxRecDepth 20000 in
theorem t_X8_corner_b44 {l : Launch} {E : Ue} : ∀ (n : Nat) (mem : Um) (x2 : Int32) (z : Um × Int32), f_X8_corner_b44  n mem x2 = some z → ug l E 8 0 0 cX8_corner 4 RX8 (some .int) [] (uz_i z) 0 0 44 [(0, .ref (ue_d E 38)), (2, .int x2)] [] mem := by
  intro n
  induction n with
  | zero =>
    intro mem x2 z h
    rw [f_X8_corner_b44] at h
    cases h
  | succ n ih =>
    intro mem x2 z h
    rw [f_X8_corner_b44] at h
    refine ug_aload_n 0 dX8_corner_44 rfl rfl ?_
    obtain ⟨m1, r2, h3, h⟩ := ubi_some h
    refine ug_callVi [] (c_X8_fine  h3) kc_X8_128 ro_38 rfl (S := []) rfl (Nat.le_of_ble_eq_true rfl) (Nat.le_of_ble_eq_true rfl) (Nat.le_of_ble_eq_true rfl) dX8_corner_45 ?_
    refine ug_if_eq 136 dX8_corner_48 (by decide) (fun q4 => ?_) (fun q4 => ?_)
    · rw [if_pos q4] at h
      refine ug_sub [(0, .ref (ue_d E 38))] [0] rfl ?_
      exact t_X8_corner_b136 m1  _ h
    · rw [if_neg q4] at h
      refine ug_aload_n 0 dX8_corner_51 rfl rfl ?_
      obtain ⟨m5, r6, h7, h⟩ := ubi_some h
      refine ug_callVi [] (c_X8_isMore  h7) kc_X8_198 ro_38 rfl (S := []) rfl (Nat.le_of_ble_eq_true rfl) (Nat.le_of_ble_eq_true rfl) (Nat.le_of_ble_eq_true rfl) dX8_corner_52 ?_
      refine ug_if_eq 136 dX8_corner_55 (by decide) (fun q8 => ?_) (fun q8 => ?_)
      · rw [if_pos q8] at h
        refine ug_sub [(0, .ref (ue_d E 38))] [0] rfl ?_
        exact t_X8_corner_b136 m5  _ h
      · rw [if_neg q8] at h
        refine ug_aload_n 0 dX8_corner_58 rfl rfl ?_
        obtain ⟨m9, r10, h11, h⟩ := ubi_some h
        refine ug_callVi [] (c_X8_word  h11) kc_X8_201 ro_38 rfl (S := []) rfl (Nat.le_of_ble_eq_true rfl) (Nat.le_of_ble_eq_true rfl) (Nat.le_of_ble_eq_true rfl) dX8_corner_59 ?_
        refine ug_istore_n [(3, .int r10), (0, .ref (ue_d E 38)), (2, .int x2)] dX8_corner_62 rfl (Nat.le_of_ble_eq_true rfl) rfl ?_
        refine ug_iload_n 0 dX8_corner_63 rfl rfl ?_
        obtain ⟨m12, r13, h14, h⟩ := ubi_some h
        refine ug_callSi [.int r10] (c_X8_isRow  h14) kc_X8_204 rfl (S := []) rfl (Nat.le_of_ble_eq_true rfl) (Nat.le_of_ble_eq_true rfl) (Nat.le_of_ble_eq_true rfl) dX8_corner_64 ?_
        refine ug_if_ne 82 dX8_corner_67 (by decide) (fun q15 => ?_) (fun q15 => ?_)
        · rw [if_neg q15] at h
          refine ug_iload_n 2 dX8_corner_82 rfl rfl ?_
          refine ug_bipush dX8_corner_83 un_bipush_60 ?_
          refine ug_icmp_eq 96 dX8_corner_85 (by decide) (fun q16 => ?_) (fun q16 => ?_)
          · rw [if_pos q16] at h
            refine ug_sub [(0, .ref (ue_d E 38)), (2, .int x2), (3, .int r10)] [1, 2, 0] rfl ?_
            exact t_X8_corner_b96 (f_X8_corner_b44  n) ih m12 x2 r10 _ h
          · rw [if_neg q16] at h
            refine ug_aload_n 1 dX8_corner_88 rfl rfl ?_
            refine ug_iload_n 0 dX8_corner_89 rfl rfl ?_
            obtain ⟨m17, r18, h19, h⟩ := ubi_some h
            refine ug_callVi [.int r10] (c_X8_isFull  h19) kc_X8_207 ro_38 rfl (S := []) rfl (Nat.le_of_ble_eq_true rfl) (Nat.le_of_ble_eq_true rfl) (Nat.le_of_ble_eq_true rfl) dX8_corner_90 ?_
            refine ug_if_eq 105 dX8_corner_93 (by decide) (fun q20 => ?_) (fun q20 => ?_)
            · rw [if_pos q20] at h
              refine ug_sub [(0, .ref (ue_d E 38)), (2, .int x2), (3, .int r10)] [1, 2, 0] rfl ?_
              exact t_X8_corner_b105 (f_X8_corner_b44  n) ih m17 x2 r10 _ h
            · rw [if_neg q20] at h
              refine ug_sub [(0, .ref (ue_d E 38)), (2, .int x2), (3, .int r10)] [1, 2, 0] rfl ?_
              exact t_X8_corner_b96 (f_X8_corner_b44  n) ih m17 x2 r10 _ h
        · rw [if_pos q15] at h
          refine ug_aload_n 1 dX8_corner_70 rfl rfl ?_
          refine ug_iconst dX8_corner_71 un_iconst_1 ?_
          refine ug_aload_n 1 dX8_corner_72 rfl rfl ?_
          refine ug_getI kf_X8_105 gi_38_4 dX8_corner_73 ?_
          obtain ⟨m21, r22, h23, h⟩ := ubi_some h
          refine ug_callVv [.int 1, .int (m12 38 4)] (c_X8_wrong  h23) kc_X8_135 ro_38 rfl (S := []) rfl (Nat.le_of_ble_eq_true rfl) (Nat.le_of_ble_eq_true rfl) (Nat.le_of_ble_eq_true rfl) dX8_corner_76 ?_
          refine ug_goto 105 dX8_corner_79 (by decide) ?_
          refine ug_sub [(0, .ref (ue_d E 38)), (2, .int x2), (3, .int r10)] [1, 2, 0] rfl ?_
          exact t_X8_corner_b105 (f_X8_corner_b44  n) ih m21 x2 r10 _ h
def f_X8_corner_b23 (mem : Um) (x1 : Int32) (y0 : Int32) : Option (Um × Int32) :=
  ubi (f_X8_may mem y0 1 1) (fun m1 r2 => if r2 = 0 then (some (m1, 0)) else (ubi (f_X8_begins m1 x1) (fun m5 r6 => ubi (f_X8_clears m5) (fun m8 r9 => f_X8_corner_b44  UF m8 0))))
set_option maxRecDepth 20000 in
theorem t_X8_corner_b23 {l : Launch} {E : Ue} (mem : Um) (x1 : Int32) (y0 : Int32) (z : Um × Int32) (h : f_X8_corner_b23  mem x1 y0 = some z) : ug l E 8 0 0 cX8_corner 4 RX8 (some .int) [] (uz_i z) 0 0 23 [(0, .ref (ue_d E 38)), (1, .int x1)] [.int y0, .ref (ue_d E 38)] mem := by
  rw [f_X8_corner_b23] at h
  refine ug_iconst dX8_corner_23 un_iconst_1 ?_
  refine ug_iconst dX8_corner_24 un_iconst_1 ?_
  obtain ⟨m1, r2, h3, h⟩ := ubi_some h
  refine ug_callVi [.int y0, .int 1, .int 1] (c_X8_may  h3) kc_X8_190 ro_38 rfl (S := []) rfl (Nat.le_of_ble_eq_true rfl) (Nat.le_of_ble_eq_true rfl) (Nat.le_of_ble_eq_true rfl) dX8_corner_25 ?_
  refine ug_if_ne 33 dX8_corner_28 (by decide) (fun q4 => ?_) (fun q4 => ?_)
  · rw [if_neg q4] at h
    refine ug_aload_n 0 dX8_corner_33 rfl rfl ?_
    refine ug_iload_n 1 dX8_corner_34 rfl rfl ?_
    obtain ⟨m5, r6, h7, h⟩ := ubi_some h
    refine ug_callVv [.int x1] (c_X8_begins  h7) kc_X8_194 ro_38 rfl (S := []) rfl (Nat.le_of_ble_eq_true rfl) (Nat.le_of_ble_eq_true rfl) (Nat.le_of_ble_eq_true rfl) dX8_corner_35 ?_
    refine ug_aload_n 0 dX8_corner_38 rfl rfl ?_
    obtain ⟨m8, r9, h10, h⟩ := ubi_some h
    refine ug_callVv [] (c_X8_clears  h10) kc_X8_90 ro_38 rfl (S := []) rfl (Nat.le_of_ble_eq_true rfl) (Nat.le_of_ble_eq_true rfl) (Nat.le_of_ble_eq_true rfl) dX8_corner_39 ?_
    refine ug_iconst dX8_corner_42 un_iconst_0 ?_
    refine ug_istore_n [(2, .int 0), (0, .ref (ue_d E 38)), (1, .int x1)] dX8_corner_43 rfl (Nat.le_of_ble_eq_true rfl) rfl ?_
    refine ug_sub [(0, .ref (ue_d E 38)), (2, .int 0)] [1, 0] rfl ?_
    exact t_X8_corner_b44  UF m8 0 _ h
  · rw [if_pos q4] at h
    refine ug_iconst dX8_corner_31 un_iconst_0 ?_
    obtain rfl := Option.some.inj h
    exact ug_iret dX8_corner_32
def f_X8_corner_b22 (mem : Um) (x1 : Int32) : Option (Um × Int32) :=
  f_X8_corner_b23 mem x1 0
set_option maxRecDepth 20000 in
theorem t_X8_corner_b22 {l : Launch} {E : Ue} (mem : Um) (x1 : Int32) (z : Um × Int32) (h : f_X8_corner_b22  mem x1 = some z) : ug l E 8 0 0 cX8_corner 4 RX8 (some .int) [] (uz_i z) 0 0 22 [(0, .ref (ue_d E 38)), (1, .int x1)] [.ref (ue_d E 38)] mem := by
  rw [f_X8_corner_b22] at h
  refine ug_iconst dX8_corner_22 un_iconst_0 ?_
  exact t_X8_corner_b23 mem x1 0 _ h
def f_X8_corner (mem : Um) (x1 : Int32) : Option (Um × Int32) :=
  if x1 < 0 then (f_X8_corner_b22 (um_w mem 38 0 0) x1) else (if ((um_w mem 38 0 0) 38 2) < x1 then (f_X8_corner_b22 (um_w mem 38 0 0) x1) else (f_X8_corner_b23 (um_w mem 38 0 0) x1 1))
set_option maxRecDepth 20000 in
theorem t_X8_corner {l : Launch} {E : Ue} (mem : Um) (x1 : Int32) (z : Um × Int32) (h : f_X8_corner  mem x1 = some z) : ug l E 8 0 0 cX8_corner 4 RX8 (some .int) [] (uz_i z) 0 0 0 [(0, .ref (ue_d E 38)), (1, .int x1)] [] mem := by
  rw [f_X8_corner] at h
  refine ug_aload_n 0 dX8_corner_0 rfl rfl ?_
  refine ug_iconst dX8_corner_1 un_iconst_0 ?_
  refine ug_putI kp_X8_3 gi_38_0 dX8_corner_2 ?_
  refine ug_aload_n 0 dX8_corner_5 rfl rfl ?_
  refine ug_iload_n 1 dX8_corner_6 rfl rfl ?_
  refine ug_if_lt 22 dX8_corner_7 (by decide) (fun q1 => ?_) (fun q1 => ?_)
  · rw [if_pos q1] at h
    exact t_X8_corner_b22 (um_w mem 38 0 0) x1 _ h
  · rw [if_neg q1] at h
    refine ug_iload_n 1 dX8_corner_10 rfl rfl ?_
    refine ug_aload_n 0 dX8_corner_11 rfl rfl ?_
    refine ug_getI kf_X8_96 gi_38_2 dX8_corner_12 ?_
    refine ug_icmp_gt 22 dX8_corner_15 (by decide) (fun q2 => ?_) (fun q2 => ?_)
    · rw [if_pos q2] at h
      exact t_X8_corner_b22 (um_w mem 38 0 0) x1 _ h
    · rw [if_neg q2] at h
      refine ug_iconst dX8_corner_18 un_iconst_1 ?_
      refine ug_goto 23 dX8_corner_19 (by decide) ?_
      exact t_X8_corner_b23 (um_w mem 38 0 0) x1 1 _ h
theorem c_X8_corner {l : Launch} {E : Ue} {mem : Um} {x1 : Int32} {m1 : Um} {r : Int32} (h : f_X8_corner  mem x1 = some (m1, r)) : ucr l E 8 0 0 yX8_corner cX8_corner 4 (some .int) [.ref (ue_d E 38), .int x1] mem (some (.int r)) m1 := ucr_of rfl (Nat.le_of_ble_eq_true rfl) (t_X8_corner  mem x1 _ h)
-- X8_emit
def f_X8_emit (mem : Um) (x1 : Int32) (x2 : Int32) : Option (Um × Unit) :=
  ubi (f_X8_fine mem) (fun m1 r2 => if r2 = 0 then (some (m1, ())) else (ugd (uin (m1 38 25) 150) (ugd (uin ((um_w m1 45 (m1 38 25).toNatClampNeg x1) 38 25) 150) (some ((um_w (um_w (um_w m1 45 (m1 38 25).toNatClampNeg x1) 46 ((um_w m1 45 (m1 38 25).toNatClampNeg x1) 38 25).toNatClampNeg x2) 38 25 (((um_w (um_w m1 45 (m1 38 25).toNatClampNeg x1) 46 ((um_w m1 45 (m1 38 25).toNatClampNeg x1) 38 25).toNatClampNeg x2) 38 25) + 1)), ())))))
set_option maxRecDepth 20000 in
theorem t_X8_emit {l : Launch} {E : Ue} (mem : Um) (x1 : Int32) (x2 : Int32) (z : Um × Unit) (h : f_X8_emit  mem x1 x2 = some z) : ug l E 3 0 0 cX8_emit 3 RX8 none [] (uz_v z) 0 0 0 [(0, .ref (ue_d E 38)), (1, .int x1), (2, .int x2)] [] mem := by
  rw [f_X8_emit] at h
  refine ug_aload_n 0 dX8_emit_0 rfl rfl ?_
  obtain ⟨m1, r2, h3, h⟩ := ubi_some h
  refine ug_callVi [] (c_X8_fine  h3) kc_X8_128 ro_38 rfl (S := []) rfl (Nat.le_of_ble_eq_true rfl) (Nat.le_of_ble_eq_true rfl) (Nat.le_of_ble_eq_true rfl) dX8_emit_1 ?_
  refine ug_if_ne 8 dX8_emit_4 (by decide) (fun q4 => ?_) (fun q4 => ?_)
  · rw [if_neg q4] at h
    refine ug_aload_n 0 dX8_emit_8 rfl rfl ?_
    refine ug_getR kf_X8_35 gr_38_20 dX8_emit_9 ?_
    refine ug_aload_n 0 dX8_emit_12 rfl rfl ?_
    refine ug_getI kf_X8_223 gi_38_25 dX8_emit_13 ?_
    refine ug_iload_n 1 dX8_emit_16 rfl rfl ?_
    obtain ⟨g5, h⟩ := ugd_some h
    refine ug_iast al_45 (uin_ok g5) dX8_emit_17 ?_
    refine ug_aload_n 0 dX8_emit_18 rfl rfl ?_
    refine ug_getR kf_X8_38 gr_38_21 dX8_emit_19 ?_
    refine ug_aload_n 0 dX8_emit_22 rfl rfl ?_
    refine ug_getI kf_X8_223 gi_38_25 dX8_emit_23 ?_
    refine ug_iload_n 2 dX8_emit_26 rfl rfl ?_
    obtain ⟨g6, h⟩ := ugd_some h
    refine ug_iast al_46 (uin_ok g6) dX8_emit_27 ?_
    refine ug_aload_n 0 dX8_emit_28 rfl rfl ?_
    refine ug_dup dX8_emit_29 rfl ?_
    refine ug_getI kf_X8_223 gi_38_25 dX8_emit_30 ?_
    refine ug_iconst dX8_emit_33 un_iconst_1 ?_
    refine ug_iadd dX8_emit_34 ?_
    refine ug_putI kp_X8_223 gi_38_25 dX8_emit_35 ?_
    obtain rfl := Option.some.inj h
    exact ug_vret dX8_emit_38
  · rw [if_pos q4] at h
    obtain rfl := Option.some.inj h
    exact ug_vret dX8_emit_7
theorem c_X8_emit {l : Launch} {E : Ue} {mem : Um} {x1 : Int32} {x2 : Int32} {m1 : Um} {r : Unit} (h : f_X8_emit  mem x1 x2 = some (m1, r)) : ucr l E 3 0 0 yX8_emit cX8_emit 3 none [.ref (ue_d E 38), .int x1, .int x2] mem none m1 := ucr_of rfl (Nat.le_of_ble_eq_true rfl) (t_X8_emit  mem x1 x2 _ h)
-- X8_opensOne
def f_X8_opensOne_b42 (mem : Um) : Option (Um × Unit) :=
  some ((um_w mem 38 7 ((mem 38 7) + 1)), ())
set_option maxRecDepth 20000 in
theorem t_X8_opensOne_b42 {l : Launch} {E : Ue} (mem : Um) (z : Um × Unit) (h : f_X8_opensOne_b42  mem  = some z) : ug l E 3 0 0 cX8_opensOne 2 RX8 none [] (uz_v z) 0 0 42 [(0, .ref (ue_d E 38))] [] mem := by
  rw [f_X8_opensOne_b42] at h
  refine ug_aload_n 0 dX8_opensOne_42 rfl rfl ?_
  refine ug_dup dX8_opensOne_43 rfl ?_
  refine ug_getI kf_X8_139 gi_38_7 dX8_opensOne_44 ?_
  refine ug_iconst dX8_opensOne_47 un_iconst_1 ?_
  refine ug_iadd dX8_opensOne_48 ?_
  refine ug_putI kp_X8_139 gi_38_7 dX8_opensOne_49 ?_
  obtain rfl := Option.some.inj h
  exact ug_vret dX8_opensOne_52
def f_X8_opensOne_b25 (mem : Um) (x1 : Int32) : Option (Um × Unit) :=
  ubi (f_X8_fine mem) (fun m1 r2 => if r2 = 0 then (f_X8_opensOne_b42 m1) else (f_X8_opensOne_b42 (um_w m1 38 4 ((m1 38 4) + x1))))
set_option maxRecDepth 20000 in
theorem t_X8_opensOne_b25 {l : Launch} {E : Ue} (mem : Um) (x1 : Int32) (z : Um × Unit) (h : f_X8_opensOne_b25  mem x1 = some z) : ug l E 3 0 0 cX8_opensOne 2 RX8 none [] (uz_v z) 0 0 25 [(0, .ref (ue_d E 38)), (1, .int x1)] [] mem := by
  rw [f_X8_opensOne_b25] at h
  refine ug_aload_n 0 dX8_opensOne_25 rfl rfl ?_
  obtain ⟨m1, r2, h3, h⟩ := ubi_some h
  refine ug_callVi [] (c_X8_fine  h3) kc_X8_128 ro_38 rfl (S := []) rfl (Nat.le_of_ble_eq_true rfl) (Nat.le_of_ble_eq_true rfl) (Nat.le_of_ble_eq_true rfl) dX8_opensOne_26 ?_
  refine ug_if_eq 42 dX8_opensOne_29 (by decide) (fun q4 => ?_) (fun q4 => ?_)
  · rw [if_pos q4] at h
    refine ug_sub [(0, .ref (ue_d E 38))] [0] rfl ?_
    exact t_X8_opensOne_b42 m1  _ h
  · rw [if_neg q4] at h
    refine ug_aload_n 0 dX8_opensOne_32 rfl rfl ?_
    refine ug_dup dX8_opensOne_33 rfl ?_
    refine ug_getI kf_X8_105 gi_38_4 dX8_opensOne_34 ?_
    refine ug_iload_n 1 dX8_opensOne_37 rfl rfl ?_
    refine ug_iadd dX8_opensOne_38 ?_
    refine ug_putI kp_X8_105 gi_38_4 dX8_opensOne_39 ?_
    refine ug_sub [(0, .ref (ue_d E 38))] [0] rfl ?_
    exact t_X8_opensOne_b42 (um_w m1 38 4 ((m1 38 4) + x1))  _ h
def f_X8_opensOne (mem : Um) (x1 : Int32) : Option (Um × Unit) :=
  ubi (f_X8_fine mem) (fun m1 r2 => if r2 = 0 then (f_X8_opensOne_b25 m1 x1) else (if (m1 38 7) = 6 then (ubi (f_X8_wrong m1 3 (m1 38 4)) (fun m6 r7 => f_X8_opensOne_b25 m6 x1)) else (f_X8_opensOne_b25 m1 x1)))
set_option maxRecDepth 20000 in
theorem t_X8_opensOne {l : Launch} {E : Ue} (mem : Um) (x1 : Int32) (z : Um × Unit) (h : f_X8_opensOne  mem x1 = some z) : ug l E 3 0 0 cX8_opensOne 2 RX8 none [] (uz_v z) 0 0 0 [(0, .ref (ue_d E 38)), (1, .int x1)] [] mem := by
  rw [f_X8_opensOne] at h
  refine ug_aload_n 0 dX8_opensOne_0 rfl rfl ?_
  obtain ⟨m1, r2, h3, h⟩ := ubi_some h
  refine ug_callVi [] (c_X8_fine  h3) kc_X8_128 ro_38 rfl (S := []) rfl (Nat.le_of_ble_eq_true rfl) (Nat.le_of_ble_eq_true rfl) (Nat.le_of_ble_eq_true rfl) dX8_opensOne_1 ?_
  refine ug_if_eq 25 dX8_opensOne_4 (by decide) (fun q4 => ?_) (fun q4 => ?_)
  · rw [if_pos q4] at h
    exact t_X8_opensOne_b25 m1 x1 _ h
  · rw [if_neg q4] at h
    refine ug_aload_n 0 dX8_opensOne_7 rfl rfl ?_
    refine ug_getI kf_X8_139 gi_38_7 dX8_opensOne_8 ?_
    refine ug_bipush dX8_opensOne_11 un_bipush_6 ?_
    refine ug_icmp_ne 25 dX8_opensOne_13 (by decide) (fun q5 => ?_) (fun q5 => ?_)
    · rw [if_neg q5] at h
      exact t_X8_opensOne_b25 m1 x1 _ h
    · rw [if_pos q5] at h
      refine ug_aload_n 0 dX8_opensOne_16 rfl rfl ?_
      refine ug_iconst dX8_opensOne_17 un_iconst_3 ?_
      refine ug_aload_n 0 dX8_opensOne_18 rfl rfl ?_
      refine ug_getI kf_X8_105 gi_38_4 dX8_opensOne_19 ?_
      obtain ⟨m6, r7, h8, h⟩ := ubi_some h
      refine ug_callVv [.int 3, .int (m1 38 4)] (c_X8_wrong  h8) kc_X8_135 ro_38 rfl (S := []) rfl (Nat.le_of_ble_eq_true rfl) (Nat.le_of_ble_eq_true rfl) (Nat.le_of_ble_eq_true rfl) dX8_opensOne_22 ?_
      exact t_X8_opensOne_b25 m6 x1 _ h
theorem c_X8_opensOne {l : Launch} {E : Ue} {mem : Um} {x1 : Int32} {m1 : Um} {r : Unit} (h : f_X8_opensOne  mem x1 = some (m1, r)) : ucr l E 3 0 0 yX8_opensOne cX8_opensOne 2 none [.ref (ue_d E 38), .int x1] mem none m1 := ucr_of rfl (Nat.le_of_ble_eq_true rfl) (t_X8_opensOne  mem x1 _ h)
-- X8_readTwo
def f_X8_readTwo (rec : Um → Option (Um × Unit)) (mem : Um) (x1 : Int32) (x2 : Int32) : Option (Um × Unit) :=
  ubi (f_X8_opensOne mem x1) (fun m1 r2 => ubi (f_X8_sign m1 91) (fun m4 r5 => ubi (rec m4) (fun m7 r8 => ubi (f_X8_sign m7 44) (fun m10 r11 => ubi (rec m10) (fun m13 r14 => ubi (f_X8_sign m13 93) (fun m16 r17 => ubi (f_X8_emit (um_w m16 38 7 ((m16 38 7) - 1)) x2 0) (fun m19 r20 => some (m19, ()))))))))
set_option maxRecDepth 20000 in
theorem t_X8_readTwo {l : Launch} {E : Ue} {rec : Um → Option (Um × Unit)} (kr : Nat) (hrec : ∀ (mem : Um)  (m1 : Um) (r : Unit), rec mem  = some (m1, r) → ucr l E kr 0 0 yX8_readSum cX8_readSum 2 none [.ref (ue_d E 38)] mem none m1) (mem : Um) (x1 : Int32) (x2 : Int32) (z : Um × Unit) (h : f_X8_readTwo rec mem x1 x2 = some z) : ug l E (kr + 4) 0 0 cX8_readTwo 3 RX8 none [] (uz_v z) 0 0 0 [(0, .ref (ue_d E 38)), (1, .int x1), (2, .int x2)] [] mem := by
  rw [f_X8_readTwo] at h
  refine ug_aload_n 0 dX8_readTwo_0 rfl rfl ?_
  refine ug_iload_n 1 dX8_readTwo_1 rfl rfl ?_
  obtain ⟨m1, r2, h3, h⟩ := ubi_some h
  refine ug_callVv [.int x1] (c_X8_opensOne  h3) kc_X8_235 ro_38 rfl (S := []) rfl (Nat.le_of_ble_eq_true rfl) (by omega) (Nat.le_of_ble_eq_true rfl) dX8_readTwo_2 ?_
  refine ug_aload_n 0 dX8_readTwo_5 rfl rfl ?_
  refine ug_bipush dX8_readTwo_6 un_bipush_91 ?_
  obtain ⟨m4, r5, h6, h⟩ := ubi_some h
  refine ug_callVv [.int 91] (c_X8_sign  h6) kc_X8_216 ro_38 rfl (S := []) rfl (Nat.le_of_ble_eq_true rfl) (by omega) (Nat.le_of_ble_eq_true rfl) dX8_readTwo_8 ?_
  refine ug_aload_n 0 dX8_readTwo_11 rfl rfl ?_
  obtain ⟨m7, r8, h9, h⟩ := ubi_some h
  refine ug_callVv [] (hrec m4 _ _ h9) kc_X8_238 ro_38 rfl (S := []) rfl (Nat.le_of_ble_eq_true rfl) (by omega) (Nat.le_of_ble_eq_true rfl) dX8_readTwo_12 ?_
  refine ug_aload_n 0 dX8_readTwo_15 rfl rfl ?_
  refine ug_bipush dX8_readTwo_16 un_bipush_44 ?_
  obtain ⟨m10, r11, h12, h⟩ := ubi_some h
  refine ug_callVv [.int 44] (c_X8_sign  h12) kc_X8_216 ro_38 rfl (S := []) rfl (Nat.le_of_ble_eq_true rfl) (by omega) (Nat.le_of_ble_eq_true rfl) dX8_readTwo_18 ?_
  refine ug_aload_n 0 dX8_readTwo_21 rfl rfl ?_
  obtain ⟨m13, r14, h15, h⟩ := ubi_some h
  refine ug_callVv [] (hrec m10 _ _ h15) kc_X8_238 ro_38 rfl (S := []) rfl (Nat.le_of_ble_eq_true rfl) (by omega) (Nat.le_of_ble_eq_true rfl) dX8_readTwo_22 ?_
  refine ug_aload_n 0 dX8_readTwo_25 rfl rfl ?_
  refine ug_bipush dX8_readTwo_26 un_bipush_93 ?_
  obtain ⟨m16, r17, h18, h⟩ := ubi_some h
  refine ug_callVv [.int 93] (c_X8_sign  h18) kc_X8_216 ro_38 rfl (S := []) rfl (Nat.le_of_ble_eq_true rfl) (by omega) (Nat.le_of_ble_eq_true rfl) dX8_readTwo_28 ?_
  refine ug_aload_n 0 dX8_readTwo_31 rfl rfl ?_
  refine ug_dup dX8_readTwo_32 rfl ?_
  refine ug_getI kf_X8_139 gi_38_7 dX8_readTwo_33 ?_
  refine ug_iconst dX8_readTwo_36 un_iconst_1 ?_
  refine ug_isub dX8_readTwo_37 ?_
  refine ug_putI kp_X8_139 gi_38_7 dX8_readTwo_38 ?_
  refine ug_aload_n 0 dX8_readTwo_41 rfl rfl ?_
  refine ug_iload_n 2 dX8_readTwo_42 rfl rfl ?_
  refine ug_iconst dX8_readTwo_43 un_iconst_0 ?_
  obtain ⟨m19, r20, h21, h⟩ := ubi_some h
  refine ug_callVv [.int x2, .int 0] (c_X8_emit  h21) kc_X8_229 ro_38 rfl (S := []) rfl (Nat.le_of_ble_eq_true rfl) (by omega) (Nat.le_of_ble_eq_true rfl) dX8_readTwo_44 ?_
  obtain rfl := Option.some.inj h
  exact ug_vret dX8_readTwo_47
theorem c_X8_readTwo {l : Launch} {E : Ue} {rec : Um → Option (Um × Unit)} (kr : Nat) (hrec : ∀ (mem : Um)  (m1 : Um) (r : Unit), rec mem  = some (m1, r) → ucr l E kr 0 0 yX8_readSum cX8_readSum 2 none [.ref (ue_d E 38)] mem none m1) {mem : Um} {x1 : Int32} {x2 : Int32} {m1 : Um} {r : Unit} (h : f_X8_readTwo rec mem x1 x2 = some (m1, r)) : ucr l E (kr + 4) 0 0 yX8_readTwo cX8_readTwo 3 none [.ref (ue_d E 38), .int x1, .int x2] mem none m1 := ucr_of rfl (Nat.le_of_ble_eq_true rfl) (t_X8_readTwo kr hrec mem x1 x2 _ h)
-- X8_factHere
def f_X8_factHere_b112 (mem : Um) (y0 : Int32) : Option (Um × Int32) :=
  some (mem, y0)
set_option maxRecDepth 20000 in
theorem t_X8_factHere_b112 {l : Launch} {E : Ue} (mem : Um) (y0 : Int32) (z : Um × Int32) (h : f_X8_factHere_b112  mem y0 = some z) : ug l E 7 0 0 cX8_factHere 2 RX8 (some .int) [] (uz_i z) 0 0 112 [] [.int y0] mem := by
  rw [f_X8_factHere_b112] at h
  obtain rfl := Option.some.inj h
  exact ug_iret dX8_factHere_112
def f_X8_factHere (mem : Um) : Option (Um × Int32) :=
  ubi (f_X8_word mem) (fun m1 r2 => ubi (f_X8_of 5 m1) (fun m4 r5 => if r2 = r5 then (f_X8_factHere_b112 m4 0) else (ubi (f_X8_of 2 m4) (fun m8 r9 => if r2 = r9 then (f_X8_factHere_b112 m8 1) else (ubi (f_X8_of 6 m8) (fun m12 r13 => if r2 = r13 then (f_X8_factHere_b112 m12 2) else (ubi (f_X8_of 7 m12) (fun m16 r17 => if r2 = r17 then (f_X8_factHere_b112 m16 3) else (ubi (f_X8_of 8 m16) (fun m20 r21 => if r2 = r21 then (f_X8_factHere_b112 m20 4) else (ubi (f_X8_of 9 m20) (fun m24 r25 => if r2 = r25 then (f_X8_factHere_b112 m24 5) else (ubi (f_X8_of 10 m24) (fun m28 r29 => if r2 = r29 then (f_X8_factHere_b112 m28 6) else (ubi (f_X8_of 1 m28) (fun m32 r33 => if r2 = r33 then (f_X8_factHere_b112 m32 7) else (f_X8_factHere_b112 m32 (-1))))))))))))))))))
set_option maxRecDepth 20000 in
theorem t_X8_factHere {l : Launch} {E : Ue} (mem : Um) (z : Um × Int32) (h : f_X8_factHere  mem  = some z) : ug l E 7 0 0 cX8_factHere 2 RX8 (some .int) [] (uz_i z) 0 0 0 [(0, .ref (ue_d E 38))] [] mem := by
  rw [f_X8_factHere] at h
  refine ug_aload_n 0 dX8_factHere_0 rfl rfl ?_
  obtain ⟨m1, r2, h3, h⟩ := ubi_some h
  refine ug_callVi [] (c_X8_word  h3) kc_X8_201 ro_38 rfl (S := []) rfl (Nat.le_of_ble_eq_true rfl) (Nat.le_of_ble_eq_true rfl) (Nat.le_of_ble_eq_true rfl) dX8_factHere_1 ?_
  refine ug_istore_n [(1, .int r2), (0, .ref (ue_d E 38))] dX8_factHere_4 rfl (Nat.le_of_ble_eq_true rfl) rfl ?_
  refine ug_iload_n 0 dX8_factHere_5 rfl rfl ?_
  refine ug_ldcS 26 (tx := "size") (n := 5) rfl dX8_factHere_6 ?_
  obtain ⟨m4, r5, h6, h⟩ := ubi_some h
  refine ug_callSi [.ref (ue_aK E 5)] (c_X8_of (by decide) h6) kc_X8_180 rfl (S := [.int r2]) rfl (Nat.le_of_ble_eq_true rfl) (Nat.le_of_ble_eq_true rfl) (Nat.le_of_ble_eq_true rfl) dX8_factHere_8 ?_
  refine ug_icmp_ne 18 dX8_factHere_11 (by decide) (fun q7 => ?_) (fun q7 => ?_)
  · rw [if_neg q7] at h
    refine ug_iload_n 0 dX8_factHere_18 rfl rfl ?_
    refine ug_ldcS 23 (tx := "soap") (n := 2) rfl dX8_factHere_19 ?_
    obtain ⟨m8, r9, h10, h⟩ := ubi_some h
    refine ug_callSi [.ref (ue_aK E 2)] (c_X8_of (by decide) h10) kc_X8_180 rfl (S := [.int r2]) rfl (Nat.le_of_ble_eq_true rfl) (Nat.le_of_ble_eq_true rfl) (Nat.le_of_ble_eq_true rfl) dX8_factHere_21 ?_
    refine ug_icmp_ne 31 dX8_factHere_24 (by decide) (fun q11 => ?_) (fun q11 => ?_)
    · rw [if_neg q11] at h
      refine ug_iload_n 0 dX8_factHere_31 rfl rfl ?_
      refine ug_ldcS 27 (tx := "walls") (n := 6) rfl dX8_factHere_32 ?_
      obtain ⟨m12, r13, h14, h⟩ := ubi_some h
      refine ug_callSi [.ref (ue_aK E 6)] (c_X8_of (by decide) h14) kc_X8_180 rfl (S := [.int r2]) rfl (Nat.le_of_ble_eq_true rfl) (Nat.le_of_ble_eq_true rfl) (Nat.le_of_ble_eq_true rfl) dX8_factHere_34 ?_
      refine ug_icmp_ne 44 dX8_factHere_37 (by decide) (fun q15 => ?_) (fun q15 => ?_)
      · rw [if_neg q15] at h
        refine ug_iload_n 0 dX8_factHere_44 rfl rfl ?_
        refine ug_ldcS 28 (tx := "place") (n := 7) rfl dX8_factHere_45 ?_
        obtain ⟨m16, r17, h18, h⟩ := ubi_some h
        refine ug_callSi [.ref (ue_aK E 7)] (c_X8_of (by decide) h18) kc_X8_180 rfl (S := [.int r2]) rfl (Nat.le_of_ble_eq_true rfl) (Nat.le_of_ble_eq_true rfl) (Nat.le_of_ble_eq_true rfl) dX8_factHere_47 ?_
        refine ug_icmp_ne 57 dX8_factHere_50 (by decide) (fun q19 => ?_) (fun q19 => ?_)
        · rw [if_neg q19] at h
          refine ug_iload_n 0 dX8_factHere_57 rfl rfl ?_
          refine ug_ldcS 29 (tx := "worth") (n := 8) rfl dX8_factHere_58 ?_
          obtain ⟨m20, r21, h22, h⟩ := ubi_some h
          refine ug_callSi [.ref (ue_aK E 8)] (c_X8_of (by decide) h22) kc_X8_180 rfl (S := [.int r2]) rfl (Nat.le_of_ble_eq_true rfl) (Nat.le_of_ble_eq_true rfl) (Nat.le_of_ble_eq_true rfl) dX8_factHere_60 ?_
          refine ug_icmp_ne 70 dX8_factHere_63 (by decide) (fun q23 => ?_) (fun q23 => ?_)
          · rw [if_neg q23] at h
            refine ug_iload_n 0 dX8_factHere_70 rfl rfl ?_
            refine ug_ldcS 30 (tx := "breath") (n := 9) rfl dX8_factHere_71 ?_
            obtain ⟨m24, r25, h26, h⟩ := ubi_some h
            refine ug_callSi [.ref (ue_aK E 9)] (c_X8_of (by decide) h26) kc_X8_180 rfl (S := [.int r2]) rfl (Nat.le_of_ble_eq_true rfl) (Nat.le_of_ble_eq_true rfl) (Nat.le_of_ble_eq_true rfl) dX8_factHere_73 ?_
            refine ug_icmp_ne 83 dX8_factHere_76 (by decide) (fun q27 => ?_) (fun q27 => ?_)
            · rw [if_neg q27] at h
              refine ug_iload_n 0 dX8_factHere_83 rfl rfl ?_
              refine ug_ldcS 31 (tx := "blown") (n := 10) rfl dX8_factHere_84 ?_
              obtain ⟨m28, r29, h30, h⟩ := ubi_some h
              refine ug_callSi [.ref (ue_aK E 10)] (c_X8_of (by decide) h30) kc_X8_180 rfl (S := [.int r2]) rfl (Nat.le_of_ble_eq_true rfl) (Nat.le_of_ble_eq_true rfl) (Nat.le_of_ble_eq_true rfl) dX8_factHere_86 ?_
              refine ug_icmp_ne 97 dX8_factHere_89 (by decide) (fun q31 => ?_) (fun q31 => ?_)
              · rw [if_neg q31] at h
                refine ug_iload_n 0 dX8_factHere_97 rfl rfl ?_
                refine ug_ldcS 22 (tx := "tenant") (n := 1) rfl dX8_factHere_98 ?_
                obtain ⟨m32, r33, h34, h⟩ := ubi_some h
                refine ug_callSi [.ref (ue_aK E 1)] (c_X8_of (by decide) h34) kc_X8_180 rfl (S := [.int r2]) rfl (Nat.le_of_ble_eq_true rfl) (Nat.le_of_ble_eq_true rfl) (Nat.le_of_ble_eq_true rfl) dX8_factHere_100 ?_
                refine ug_icmp_ne 111 dX8_factHere_103 (by decide) (fun q35 => ?_) (fun q35 => ?_)
                · rw [if_neg q35] at h
                  refine ug_iconst dX8_factHere_111 un_iconst_m1 ?_
                  refine ug_sub [] [] rfl ?_
                  exact t_X8_factHere_b112 m32 (-1) _ h
                · rw [if_pos q35] at h
                  refine ug_bipush dX8_factHere_106 un_bipush_7 ?_
                  refine ug_goto 112 dX8_factHere_108 (by decide) ?_
                  refine ug_sub [] [] rfl ?_
                  exact t_X8_factHere_b112 m32 7 _ h
              · rw [if_pos q31] at h
                refine ug_bipush dX8_factHere_92 un_bipush_6 ?_
                refine ug_goto 112 dX8_factHere_94 (by decide) ?_
                refine ug_sub [] [] rfl ?_
                exact t_X8_factHere_b112 m28 6 _ h
            · rw [if_pos q27] at h
              refine ug_iconst dX8_factHere_79 un_iconst_5 ?_
              refine ug_goto 112 dX8_factHere_80 (by decide) ?_
              refine ug_sub [] [] rfl ?_
              exact t_X8_factHere_b112 m24 5 _ h
          · rw [if_pos q23] at h
            refine ug_iconst dX8_factHere_66 un_iconst_4 ?_
            refine ug_goto 112 dX8_factHere_67 (by decide) ?_
            refine ug_sub [] [] rfl ?_
            exact t_X8_factHere_b112 m20 4 _ h
        · rw [if_pos q19] at h
          refine ug_iconst dX8_factHere_53 un_iconst_3 ?_
          refine ug_goto 112 dX8_factHere_54 (by decide) ?_
          refine ug_sub [] [] rfl ?_
          exact t_X8_factHere_b112 m16 3 _ h
      · rw [if_pos q15] at h
        refine ug_iconst dX8_factHere_40 un_iconst_2 ?_
        refine ug_goto 112 dX8_factHere_41 (by decide) ?_
        refine ug_sub [] [] rfl ?_
        exact t_X8_factHere_b112 m12 2 _ h
    · rw [if_pos q11] at h
      refine ug_iconst dX8_factHere_27 un_iconst_1 ?_
      refine ug_goto 112 dX8_factHere_28 (by decide) ?_
      refine ug_sub [] [] rfl ?_
      exact t_X8_factHere_b112 m8 1 _ h
  · rw [if_pos q7] at h
    refine ug_iconst dX8_factHere_14 un_iconst_0 ?_
    refine ug_goto 112 dX8_factHere_15 (by decide) ?_
    refine ug_sub [] [] rfl ?_
    exact t_X8_factHere_b112 m4 0 _ h
theorem c_X8_factHere {l : Launch} {E : Ue} {mem : Um} {m1 : Um} {r : Int32} (h : f_X8_factHere  mem  = some (m1, r)) : ucr l E 7 0 0 yX8_factHere cX8_factHere 2 (some .int) [.ref (ue_d E 38)] mem (some (.int r)) m1 := ucr_of rfl (Nat.le_of_ble_eq_true rfl) (t_X8_factHere  mem  _ h)
-- X8_readUnit
def f_X8_readUnit_b153 (rec : Um → Option (Um × Unit)) (mem : Um) : Option (Um × Unit) :=
  some (mem, ())
set_option maxRecDepth 20000 in
theorem t_X8_readUnit_b153 {l : Launch} {E : Ue} {rec : Um → Option (Um × Unit)} (kr : Nat) (hrec : ∀ (mem : Um)  (m1 : Um) (r : Unit), rec mem  = some (m1, r) → ucr l E kr 0 0 yX8_readSum cX8_readSum 2 none [.ref (ue_d E 38)] mem none m1) (mem : Um) (z : Um × Unit) (h : f_X8_readUnit_b153 rec mem  = some z) : ug l E (kr + 8) 0 0 cX8_readUnit 2 RX8 none [] (uz_v z) 0 0 153 [] [] mem := by
  rw [f_X8_readUnit_b153] at h
  obtain rfl := Option.some.inj h
  exact ug_vret dX8_readUnit_153
def f_X8_readUnit_b135 (rec : Um → Option (Um × Unit)) (mem : Um) (x1 : Int32) : Option (Um × Unit) :=
  ubi (f_X8_fine mem) (fun m1 r2 => if r2 = 0 then (some (m1, ())) else (ubi (f_X8_pass m1) (fun m5 r6 => ubi (f_X8_emit m5 1 x1) (fun m8 r9 => f_X8_readUnit_b153 rec m8))))
set_option maxRecDepth 20000 in
theorem t_X8_readUnit_b135 {l : Launch} {E : Ue} {rec : Um → Option (Um × Unit)} (kr : Nat) (hrec : ∀ (mem : Um)  (m1 : Um) (r : Unit), rec mem  = some (m1, r) → ucr l E kr 0 0 yX8_readSum cX8_readSum 2 none [.ref (ue_d E 38)] mem none m1) (mem : Um) (x1 : Int32) (z : Um × Unit) (h : f_X8_readUnit_b135 rec mem x1 = some z) : ug l E (kr + 8) 0 0 cX8_readUnit 2 RX8 none [] (uz_v z) 0 0 135 [(0, .ref (ue_d E 38)), (1, .int x1)] [] mem := by
  rw [f_X8_readUnit_b135] at h
  refine ug_aload_n 0 dX8_readUnit_135 rfl rfl ?_
  obtain ⟨m1, r2, h3, h⟩ := ubi_some h
  refine ug_callVi [] (c_X8_fine  h3) kc_X8_128 ro_38 rfl (S := []) rfl (Nat.le_of_ble_eq_true rfl) (by omega) (Nat.le_of_ble_eq_true rfl) dX8_readUnit_136 ?_
  refine ug_if_ne 143 dX8_readUnit_139 (by decide) (fun q4 => ?_) (fun q4 => ?_)
  · rw [if_neg q4] at h
    refine ug_aload_n 0 dX8_readUnit_143 rfl rfl ?_
    obtain ⟨m5, r6, h7, h⟩ := ubi_some h
    refine ug_callVv [] (c_X8_pass  h7) kc_X8_210 ro_38 rfl (S := []) rfl (Nat.le_of_ble_eq_true rfl) (by omega) (Nat.le_of_ble_eq_true rfl) dX8_readUnit_144 ?_
    refine ug_aload_n 0 dX8_readUnit_147 rfl rfl ?_
    refine ug_iconst dX8_readUnit_148 un_iconst_1 ?_
    refine ug_iload_n 1 dX8_readUnit_149 rfl rfl ?_
    obtain ⟨m8, r9, h10, h⟩ := ubi_some h
    refine ug_callVv [.int 1, .int x1] (c_X8_emit  h10) kc_X8_229 ro_38 rfl (S := []) rfl (Nat.le_of_ble_eq_true rfl) (by omega) (Nat.le_of_ble_eq_true rfl) dX8_readUnit_150 ?_
    refine ug_sub [] [] rfl ?_
    exact t_X8_readUnit_b153 kr hrec m8  _ h
  · rw [if_pos q4] at h
    obtain rfl := Option.some.inj h
    exact ug_vret dX8_readUnit_142
def f_X8_readUnit (rec : Um → Option (Um × Unit)) (mem : Um) : Option (Um × Unit) :=
  ubi (f_X8_fine mem) (fun m1 r2 => if r2 = 0 then (some (m1, ())) else (ubi (f_X8_here m1) (fun m5 r6 => if r6 = 40 then (ubi (f_X8_opensOne m5 1) (fun m49 r50 => ubi (rec m49) (fun m52 r53 => ubi (f_X8_sign m52 41) (fun m55 r56 => f_X8_readUnit_b153 rec (um_w m55 38 7 ((m55 38 7) - 1)))))) else (ubi (f_X8_here m5) (fun m9 r10 => ubi (f_X8_isDigit m9 r10) (fun m12 r13 => if r13 = 0 then (ubi (f_X8_word m12) (fun m16 r17 => ubi (f_X8_of 3 m16) (fun m19 r20 => if r17 = r20 then (ubi (f_X8_readTwo rec m19 5 6) (fun m40 r41 => f_X8_readUnit_b153 rec m40)) else (ubi (f_X8_word m19) (fun m23 r24 => ubi (f_X8_of 4 m23) (fun m26 r27 => if r24 = r27 then (ubi (f_X8_readTwo rec m26 4 7) (fun m37 r38 => f_X8_readUnit_b153 rec m37)) else (ubi (f_X8_factHere m26) (fun m30 r31 => if r31 = (-1) then (ubi (f_X8_wrong m30 1 (m30 38 4)) (fun m34 r35 => f_X8_readUnit_b135 rec m34 r31)) else (f_X8_readUnit_b135 rec m30 r31))))))))) else (ubi (f_X8_readNumber m12 0 999) (fun m43 r44 => ubi (f_X8_emit m43 0 r44) (fun m46 r47 => f_X8_readUnit_b153 rec m46)))))))))
set_option maxRecDepth 20000 in
theorem t_X8_readUnit {l : Launch} {E : Ue} {rec : Um → Option (Um × Unit)} (kr : Nat) (hrec : ∀ (mem : Um)  (m1 : Um) (r : Unit), rec mem  = some (m1, r) → ucr l E kr 0 0 yX8_readSum cX8_readSum 2 none [.ref (ue_d E 38)] mem none m1) (mem : Um) (z : Um × Unit) (h : f_X8_readUnit rec mem  = some z) : ug l E (kr + 8) 0 0 cX8_readUnit 2 RX8 none [] (uz_v z) 0 0 0 [(0, .ref (ue_d E 38))] [] mem := by
  rw [f_X8_readUnit] at h
  refine ug_aload_n 0 dX8_readUnit_0 rfl rfl ?_
  obtain ⟨m1, r2, h3, h⟩ := ubi_some h
  refine ug_callVi [] (c_X8_fine  h3) kc_X8_128 ro_38 rfl (S := []) rfl (Nat.le_of_ble_eq_true rfl) (by omega) (Nat.le_of_ble_eq_true rfl) dX8_readUnit_1 ?_
  refine ug_if_ne 8 dX8_readUnit_4 (by decide) (fun q4 => ?_) (fun q4 => ?_)
  · rw [if_neg q4] at h
    refine ug_aload_n 0 dX8_readUnit_8 rfl rfl ?_
    obtain ⟨m5, r6, h7, h⟩ := ubi_some h
    refine ug_callVi [] (c_X8_here  h7) kc_X8_111 ro_38 rfl (S := []) rfl (Nat.le_of_ble_eq_true rfl) (by omega) (Nat.le_of_ble_eq_true rfl) dX8_readUnit_9 ?_
    refine ug_bipush dX8_readUnit_12 un_bipush_40 ?_
    refine ug_icmp_ne 45 dX8_readUnit_14 (by decide) (fun q8 => ?_) (fun q8 => ?_)
    · rw [if_neg q8] at h
      refine ug_aload_n 0 dX8_readUnit_45 rfl rfl ?_
      obtain ⟨m9, r10, h11, h⟩ := ubi_some h
      refine ug_callVi [] (c_X8_here  h11) kc_X8_111 ro_38 rfl (S := []) rfl (Nat.le_of_ble_eq_true rfl) (by omega) (Nat.le_of_ble_eq_true rfl) dX8_readUnit_46 ?_
      obtain ⟨m12, r13, h14, h⟩ := ubi_some h
      refine ug_callSi [.int r10] (c_X8_isDigit  h14) kc_X8_132 rfl (S := []) rfl (Nat.le_of_ble_eq_true rfl) (by omega) (Nat.le_of_ble_eq_true rfl) dX8_readUnit_49 ?_
      refine ug_if_eq 71 dX8_readUnit_52 (by decide) (fun q15 => ?_) (fun q15 => ?_)
      · rw [if_pos q15] at h
        refine ug_aload_n 0 dX8_readUnit_71 rfl rfl ?_
        obtain ⟨m16, r17, h18, h⟩ := ubi_some h
        refine ug_callVi [] (c_X8_word  h18) kc_X8_201 ro_38 rfl (S := []) rfl (Nat.le_of_ble_eq_true rfl) (by omega) (Nat.le_of_ble_eq_true rfl) dX8_readUnit_72 ?_
        refine ug_ldcS 24 (tx := "least") (n := 3) rfl dX8_readUnit_75 ?_
        obtain ⟨m19, r20, h21, h⟩ := ubi_some h
        refine ug_callSi [.ref (ue_aK E 3)] (c_X8_of (by decide) h21) kc_X8_180 rfl (S := [.int r17]) rfl (Nat.le_of_ble_eq_true rfl) (by omega) (Nat.le_of_ble_eq_true rfl) dX8_readUnit_77 ?_
        refine ug_icmp_ne 93 dX8_readUnit_80 (by decide) (fun q22 => ?_) (fun q22 => ?_)
        · rw [if_neg q22] at h
          refine ug_aload_n 0 dX8_readUnit_93 rfl rfl ?_
          obtain ⟨m23, r24, h25, h⟩ := ubi_some h
          refine ug_callVi [] (c_X8_word  h25) kc_X8_201 ro_38 rfl (S := []) rfl (Nat.le_of_ble_eq_true rfl) (by omega) (Nat.le_of_ble_eq_true rfl) dX8_readUnit_94 ?_
          refine ug_ldcSw 25 (tx := "most") (n := 4) rfl dX8_readUnit_97 ?_
          obtain ⟨m26, r27, h28, h⟩ := ubi_some h
          refine ug_callSi [.ref (ue_aK E 4)] (c_X8_of (by decide) h28) kc_X8_180 rfl (S := [.int r24]) rfl (Nat.le_of_ble_eq_true rfl) (by omega) (Nat.le_of_ble_eq_true rfl) dX8_readUnit_100 ?_
          refine ug_icmp_ne 116 dX8_readUnit_103 (by decide) (fun q29 => ?_) (fun q29 => ?_)
          · rw [if_neg q29] at h
            refine ug_aload_n 0 dX8_readUnit_116 rfl rfl ?_
            obtain ⟨m30, r31, h32, h⟩ := ubi_some h
            refine ug_callVi [] (c_X8_factHere  h32) kc_X8_259 ro_38 rfl (S := []) rfl (Nat.le_of_ble_eq_true rfl) (by omega) (Nat.le_of_ble_eq_true rfl) dX8_readUnit_117 ?_
            refine ug_istore_n [(1, .int r31), (0, .ref (ue_d E 38))] dX8_readUnit_120 rfl (Nat.le_of_ble_eq_true rfl) rfl ?_
            refine ug_iload_n 0 dX8_readUnit_121 rfl rfl ?_
            refine ug_iconst dX8_readUnit_122 un_iconst_m1 ?_
            refine ug_icmp_ne 135 dX8_readUnit_123 (by decide) (fun q33 => ?_) (fun q33 => ?_)
            · rw [if_neg q33] at h
              refine ug_sub [(0, .ref (ue_d E 38)), (1, .int r31)] [1, 0] rfl ?_
              exact t_X8_readUnit_b135 kr hrec m30 r31 _ h
            · rw [if_pos q33] at h
              refine ug_aload_n 1 dX8_readUnit_126 rfl rfl ?_
              refine ug_iconst dX8_readUnit_127 un_iconst_1 ?_
              refine ug_aload_n 1 dX8_readUnit_128 rfl rfl ?_
              refine ug_getI kf_X8_105 gi_38_4 dX8_readUnit_129 ?_
              obtain ⟨m34, r35, h36, h⟩ := ubi_some h
              refine ug_callVv [.int 1, .int (m30 38 4)] (c_X8_wrong  h36) kc_X8_135 ro_38 rfl (S := []) rfl (Nat.le_of_ble_eq_true rfl) (by omega) (Nat.le_of_ble_eq_true rfl) dX8_readUnit_132 ?_
              refine ug_sub [(0, .ref (ue_d E 38)), (1, .int r31)] [1, 0] rfl ?_
              exact t_X8_readUnit_b135 kr hrec m34 r31 _ h
          · rw [if_pos q29] at h
            refine ug_aload_n 0 dX8_readUnit_106 rfl rfl ?_
            refine ug_iconst dX8_readUnit_107 un_iconst_4 ?_
            refine ug_bipush dX8_readUnit_108 un_bipush_7 ?_
            obtain ⟨m37, r38, h39, h⟩ := ubi_some h
            refine ug_callVv [.int 4, .int 7] (c_X8_readTwo kr hrec h39) kc_X8_254 ro_38 rfl (S := []) rfl (Nat.le_of_ble_eq_true rfl) (by omega) (Nat.le_of_ble_eq_true rfl) dX8_readUnit_110 ?_
            refine ug_goto 153 dX8_readUnit_113 (by decide) ?_
            refine ug_sub [] [] rfl ?_
            exact t_X8_readUnit_b153 kr hrec m37  _ h
        · rw [if_pos q22] at h
          refine ug_aload_n 0 dX8_readUnit_83 rfl rfl ?_
          refine ug_iconst dX8_readUnit_84 un_iconst_5 ?_
          refine ug_bipush dX8_readUnit_85 un_bipush_6 ?_
          obtain ⟨m40, r41, h42, h⟩ := ubi_some h
          refine ug_callVv [.int 5, .int 6] (c_X8_readTwo kr hrec h42) kc_X8_254 ro_38 rfl (S := []) rfl (Nat.le_of_ble_eq_true rfl) (by omega) (Nat.le_of_ble_eq_true rfl) dX8_readUnit_87 ?_
          refine ug_goto 153 dX8_readUnit_90 (by decide) ?_
          refine ug_sub [] [] rfl ?_
          exact t_X8_readUnit_b153 kr hrec m40  _ h
      · rw [if_neg q15] at h
        refine ug_aload_n 0 dX8_readUnit_55 rfl rfl ?_
        refine ug_iconst dX8_readUnit_56 un_iconst_0 ?_
        refine ug_aload_n 0 dX8_readUnit_57 rfl rfl ?_
        refine ug_iconst dX8_readUnit_58 un_iconst_0 ?_
        refine ug_sipush dX8_readUnit_59 un_sipush_999 ?_
        obtain ⟨m43, r44, h45, h⟩ := ubi_some h
        refine ug_callVi [.int 0, .int 999] (c_X8_readNumber  h45) kc_X8_186 ro_38 rfl (S := [.int 0, .ref (ue_d E 38)]) rfl (Nat.le_of_ble_eq_true rfl) (by omega) (Nat.le_of_ble_eq_true rfl) dX8_readUnit_62 ?_
        obtain ⟨m46, r47, h48, h⟩ := ubi_some h
        refine ug_callVv [.int 0, .int r44] (c_X8_emit  h48) kc_X8_229 ro_38 rfl (S := []) rfl (Nat.le_of_ble_eq_true rfl) (by omega) (Nat.le_of_ble_eq_true rfl) dX8_readUnit_65 ?_
        refine ug_goto 153 dX8_readUnit_68 (by decide) ?_
        refine ug_sub [] [] rfl ?_
        exact t_X8_readUnit_b153 kr hrec m46  _ h
    · rw [if_pos q8] at h
      refine ug_aload_n 0 dX8_readUnit_17 rfl rfl ?_
      refine ug_iconst dX8_readUnit_18 un_iconst_1 ?_
      obtain ⟨m49, r50, h51, h⟩ := ubi_some h
      refine ug_callVv [.int 1] (c_X8_opensOne  h51) kc_X8_235 ro_38 rfl (S := []) rfl (Nat.le_of_ble_eq_true rfl) (by omega) (Nat.le_of_ble_eq_true rfl) dX8_readUnit_19 ?_
      refine ug_aload_n 0 dX8_readUnit_22 rfl rfl ?_
      obtain ⟨m52, r53, h54, h⟩ := ubi_some h
      refine ug_callVv [] (hrec m49 _ _ h54) kc_X8_238 ro_38 rfl (S := []) rfl (Nat.le_of_ble_eq_true rfl) (by omega) (Nat.le_of_ble_eq_true rfl) dX8_readUnit_23 ?_
      refine ug_aload_n 0 dX8_readUnit_26 rfl rfl ?_
      refine ug_bipush dX8_readUnit_27 un_bipush_41 ?_
      obtain ⟨m55, r56, h57, h⟩ := ubi_some h
      refine ug_callVv [.int 41] (c_X8_sign  h57) kc_X8_216 ro_38 rfl (S := []) rfl (Nat.le_of_ble_eq_true rfl) (by omega) (Nat.le_of_ble_eq_true rfl) dX8_readUnit_29 ?_
      refine ug_aload_n 0 dX8_readUnit_32 rfl rfl ?_
      refine ug_dup dX8_readUnit_33 rfl ?_
      refine ug_getI kf_X8_139 gi_38_7 dX8_readUnit_34 ?_
      refine ug_iconst dX8_readUnit_37 un_iconst_1 ?_
      refine ug_isub dX8_readUnit_38 ?_
      refine ug_putI kp_X8_139 gi_38_7 dX8_readUnit_39 ?_
      refine ug_goto 153 dX8_readUnit_42 (by decide) ?_
      refine ug_sub [] [] rfl ?_
      exact t_X8_readUnit_b153 kr hrec (um_w m55 38 7 ((m55 38 7) - 1))  _ h
  · rw [if_pos q4] at h
    obtain rfl := Option.some.inj h
    exact ug_vret dX8_readUnit_7
theorem c_X8_readUnit {l : Launch} {E : Ue} {rec : Um → Option (Um × Unit)} (kr : Nat) (hrec : ∀ (mem : Um)  (m1 : Um) (r : Unit), rec mem  = some (m1, r) → ucr l E kr 0 0 yX8_readSum cX8_readSum 2 none [.ref (ue_d E 38)] mem none m1) {mem : Um} {m1 : Um} {r : Unit} (h : f_X8_readUnit rec mem  = some (m1, r)) : ucr l E (kr + 8) 0 0 yX8_readUnit cX8_readUnit 2 none [.ref (ue_d E 38)] mem none m1 := ucr_of rfl (Nat.le_of_ble_eq_true rfl) (t_X8_readUnit kr hrec mem  _ h)
