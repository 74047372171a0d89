-- X8_street
def f_X8_street_b158 (k65 : Um → Int32 → Int32 → Int32 → Option (Um × Int32)) (k74 : Um → Int32 → Int32 → Int32 → Int32 → Option (Um × Int32)) (mem : Um) (x1 : Int32) (x2 : Int32) (x3 : Int32) (x4 : Int32) (y0 : Int32) (y1 : Int32) : Option (Um × Int32) :=
  ugd (uin y1 1278) (k74 (um_w mem 58 y1.toNatClampNeg y0) x1 x2 x3 (x4 + (-1)))
set_option maxRecDepth 20000 in
theorem t_X8_street_b158 {l : Launch} {E : Ue} (k65 : Um → Int32 → Int32 → Int32 → Option (Um × Int32)) (hk65 : ∀ (mem : Um) (x1 : Int32) (x2 : Int32) (x3 : Int32) (z : Um × Int32), k65 mem x1 x2 x3 = some z → ug l E 4 0 0 cX8_street 7 RX8 (some .int) [] (uz_i z) 0 0 65 [(0, .ref (ue_d E 38)), (1, .int x1), (2, .int x2), (3, .int x3)] [] mem) (k74 : Um → Int32 → Int32 → Int32 → Int32 → Option (Um × Int32)) (hk74 : ∀ (mem : Um) (x1 : Int32) (x2 : Int32) (x3 : Int32) (x4 : Int32) (z : Um × Int32), k74 mem x1 x2 x3 x4 = some z → ug l E 4 0 0 cX8_street 7 RX8 (some .int) [] (uz_i z) 0 0 74 [(0, .ref (ue_d E 38)), (1, .int x1), (2, .int x2), (3, .int x3), (4, .int x4)] [] mem) (mem : Um) (x1 : Int32) (x2 : Int32) (x3 : Int32) (x4 : Int32) (y0 : Int32) (y1 : Int32) (z : Um × Int32) (h : f_X8_street_b158 k65 k74 mem x1 x2 x3 x4 y0 y1 = some z) : ug l E 4 0 0 cX8_street 7 RX8 (some .int) [] (uz_i z) 0 0 158 [(0, .ref (ue_d E 38)), (1, .int x1), (2, .int x2), (3, .int x3), (4, .int x4)] [.int y0, .int y1, .ref (ue_d E 58)] mem := by
  rw [f_X8_street_b158] at h
  obtain ⟨g1, h⟩ := ugd_some h
  refine ug_iast al_58 (uin_ok g1) dX8_street_158 ?_
  refine ug_iinc (v := (x4 + (-1))) [(4, .int (x4 + (-1))), (0, .ref (ue_d E 38)), (1, .int x1), (2, .int x2), (3, .int x3)] 4 dX8_street_159 rfl rfl (Nat.le_of_ble_eq_true rfl) rfl ?_
  refine ug_goto 74 dX8_street_162 (by decide) ?_
  refine ug_sub [(0, .ref (ue_d E 38)), (1, .int x1), (2, .int x2), (3, .int x3), (4, .int (x4 + (-1)))] [1, 2, 3, 4, 0] rfl ?_
  exact hk74 (um_w mem 58 y1.toNatClampNeg y0) x1 x2 x3 (x4 + (-1)) _ h
def f_X8_street_b74 (k65 : Um → Int32 → Int32 → Int32 → Option (Um × Int32)) : Nat → Um → Int32 → Int32 → Int32 → Int32 → Option (Um × Int32)
  | 0, _, _, _, _, _ => none
  | n + 1, mem, x1, x2, x3, x4 =>
    if x4 < 0 then (k65 mem x1 x2 (x3 + 1)) else (ugd (uin (((142 * x3) + x4) + 1) 1278) (ubi (f_X8_worthFrom mem x4 (x4 + (2 * x1))) (fun m3 r4 => ugd (uin ((((142 * (x3 - 1)) + x4) + (2 * x1)) + 1) 1278) (if (r4 + (m3 58 ((((142 * (x3 - 1)) + x4) + (2 * x1)) + 1).toNatClampNeg)) ≤ (mem 58 (((142 * x3) + x4) + 1).toNatClampNeg) then (f_X8_street_b158 k65 (f_X8_street_b74 k65 n) m3 x1 x2 x3 x4 (mem 58 (((142 * x3) + x4) + 1).toNatClampNeg) ((142 * x3) + x4)) else (f_X8_street_b158 k65 (f_X8_street_b74 k65 n) m3 x1 x2 x3 x4 (r4 + (m3 58 ((((142 * (x3 - 1)) + x4) + (2 * x1)) + 1).toNatClampNeg)) ((142 * x3) + x4))))))
set_option maxRecDepth 20000 in
theorem t_X8_street_b74 {l : Launch} {E : Ue} (k65 : Um → Int32 → Int32 → Int32 → Option (Um × Int32)) (hk65 : ∀ (mem : Um) (x1 : Int32) (x2 : Int32) (x3 : Int32) (z : Um × Int32), k65 mem x1 x2 x3 = some z → ug l E 4 0 0 cX8_street 7 RX8 (some .int) [] (uz_i z) 0 0 65 [(0, .ref (ue_d E 38)), (1, .int x1), (2, .int x2), (3, .int x3)] [] mem) : ∀ (n : Nat) (mem : Um) (x1 : Int32) (x2 : Int32) (x3 : Int32) (x4 : Int32) (z : Um × Int32), f_X8_street_b74 k65 n mem x1 x2 x3 x4 = some z → ug l E 4 0 0 cX8_street 7 RX8 (some .int) [] (uz_i z) 0 0 74 [(0, .ref (ue_d E 38)), (1, .int x1), (2, .int x2), (3, .int x3), (4, .int x4)] [] mem := by
  intro n
  induction n with
  | zero =>
    intro mem x1 x2 x3 x4 z h
    rw [f_X8_street_b74] at h
    cases h
  | succ n ih =>
    intro mem x1 x2 x3 x4 z h
    rw [f_X8_street_b74] at h
    refine ug_iload 4 dX8_street_74 rfl ?_
    refine ug_if_lt 165 dX8_street_76 (by decide) (fun q1 => ?_) (fun q1 => ?_)
    · rw [if_pos q1] at h
      refine ug_iinc (v := (x3 + 1)) [(3, .int (x3 + 1)), (0, .ref (ue_d E 38)), (1, .int x1), (2, .int x2), (4, .int x4)] 3 dX8_street_165 rfl rfl (Nat.le_of_ble_eq_true rfl) rfl ?_
      refine ug_goto 65 dX8_street_168 (by decide) ?_
      refine ug_sub [(0, .ref (ue_d E 38)), (1, .int x1), (2, .int x2), (3, .int (x3 + 1))] [1, 2, 3, 0] rfl ?_
      exact hk65 mem x1 x2 (x3 + 1) _ h
    · rw [if_neg q1] at h
      refine ug_aload_n 0 dX8_street_79 rfl rfl ?_
      refine ug_getR kf_X8_74 gr_38_42 dX8_street_80 ?_
      refine ug_sipush dX8_street_83 un_sipush_142 ?_
      refine ug_iload_n 3 dX8_street_86 rfl rfl ?_
      refine ug_imul dX8_street_87 ?_
      refine ug_iload 4 dX8_street_88 rfl ?_
      refine ug_iadd dX8_street_90 ?_
      refine ug_iconst dX8_street_91 un_iconst_1 ?_
      refine ug_iadd dX8_street_92 ?_
      obtain ⟨g2, h⟩ := ugd_some h
      refine ug_iald al_58 (uin_ok g2) dX8_street_93 ?_
      refine ug_istore [(5, .int (mem 58 (((142 * x3) + x4) + 1).toNatClampNeg)), (0, .ref (ue_d E 38)), (1, .int x1), (2, .int x2), (3, .int x3), (4, .int x4)] dX8_street_94 (Nat.le_of_ble_eq_true rfl) rfl ?_
      refine ug_aload_n 1 dX8_street_96 rfl rfl ?_
      refine ug_iload 5 dX8_street_97 rfl ?_
      refine ug_iload 5 dX8_street_99 rfl ?_
      refine ug_iconst dX8_street_101 un_iconst_2 ?_
      refine ug_iload_n 2 dX8_street_102 rfl rfl ?_
      refine ug_imul dX8_street_103 ?_
      refine ug_iadd dX8_street_104 ?_
      obtain ⟨m3, r4, h5, h⟩ := ubi_some h
      refine ug_callVi [.int x4, .int (x4 + (2 * x1))] (c_X8_worthFrom  h5) kc_X8_404 ro_38 rfl (S := []) rfl (Nat.le_of_ble_eq_true rfl) (Nat.le_of_ble_eq_true rfl) (Nat.le_of_ble_eq_true rfl) dX8_street_105 ?_
      refine ug_aload_n 1 dX8_street_108 rfl rfl ?_
      refine ug_getR kf_X8_74 gr_38_42 dX8_street_109 ?_
      refine ug_sipush dX8_street_112 un_sipush_142 ?_
      refine ug_iload_n 4 dX8_street_115 rfl rfl ?_
      refine ug_iconst dX8_street_116 un_iconst_1 ?_
      refine ug_isub dX8_street_117 ?_
      refine ug_imul dX8_street_118 ?_
      refine ug_iload 5 dX8_street_119 rfl ?_
      refine ug_iadd dX8_street_121 ?_
      refine ug_iconst dX8_street_122 un_iconst_2 ?_
      refine ug_iload_n 2 dX8_street_123 rfl rfl ?_
      refine ug_imul dX8_street_124 ?_
      refine ug_iadd dX8_street_125 ?_
      refine ug_iconst dX8_street_126 un_iconst_1 ?_
      refine ug_iadd dX8_street_127 ?_
      obtain ⟨g6, h⟩ := ugd_some h
      refine ug_iald al_58 (uin_ok g6) dX8_street_128 ?_
      refine ug_iadd dX8_street_129 ?_
      refine ug_istore [(6, .int (r4 + (m3 58 ((((142 * (x3 - 1)) + x4) + (2 * x1)) + 1).toNatClampNeg))), (5, .int (mem 58 (((142 * x3) + x4) + 1).toNatClampNeg)), (0, .ref (ue_d E 38)), (1, .int x1), (2, .int x2), (3, .int x3), (4, .int x4)] dX8_street_130 (Nat.le_of_ble_eq_true rfl) rfl ?_
      refine ug_aload_n 2 dX8_street_132 rfl rfl ?_
      refine ug_getR kf_X8_74 gr_38_42 dX8_street_133 ?_
      refine ug_sipush dX8_street_136 un_sipush_142 ?_
      refine ug_iload_n 5 dX8_street_139 rfl rfl ?_
      refine ug_imul dX8_street_140 ?_
      refine ug_iload 6 dX8_street_141 rfl ?_
      refine ug_iadd dX8_street_143 ?_
      refine ug_iload 0 dX8_street_144 rfl ?_
      refine ug_iload 1 dX8_street_146 rfl ?_
      refine ug_icmp_le 156 dX8_street_148 (by decide) (fun q7 => ?_) (fun q7 => ?_)
      · rw [if_pos q7] at h
        refine ug_iload 1 dX8_street_156 rfl ?_
        refine ug_sub [(0, .ref (ue_d E 38)), (1, .int x1), (2, .int x2), (3, .int x3), (4, .int x4)] [2, 3, 4, 5, 6] rfl ?_
        exact t_X8_street_b158 k65 hk65 (f_X8_street_b74 k65 n) ih m3 x1 x2 x3 x4 (mem 58 (((142 * x3) + x4) + 1).toNatClampNeg) ((142 * x3) + x4) _ h
      · rw [if_neg q7] at h
        refine ug_iload 0 dX8_street_151 rfl ?_
        refine ug_goto 158 dX8_street_153 (by decide) ?_
        refine ug_sub [(0, .ref (ue_d E 38)), (1, .int x1), (2, .int x2), (3, .int x3), (4, .int x4)] [2, 3, 4, 5, 6] rfl ?_
        exact t_X8_street_b158 k65 hk65 (f_X8_street_b74 k65 n) ih m3 x1 x2 x3 x4 (r4 + (m3 58 ((((142 * (x3 - 1)) + x4) + (2 * x1)) + 1).toNatClampNeg)) ((142 * x3) + x4) _ h
def f_X8_street_b65 : Nat → Um → Int32 → Int32 → Int32 → Option (Um × Int32)
  | 0, _, _, _, _ => none
  | n + 1, mem, x1, x2, x3 =>
    if x2 < x3 then (ugd (uin (142 * x2) 1278) (some (mem, (mem 58 (142 * x2).toNatClampNeg)))) else (f_X8_street_b74 (f_X8_street_b65  n) UF mem x1 x2 x3 99)
set_option maxRecDepth 20000 in
theorem t_X8_street_b65 {l : Launch} {E : Ue} : ∀ (n : Nat) (mem : Um) (x1 : Int32) (x2 : Int32) (x3 : Int32) (z : Um × Int32), f_X8_street_b65  n mem x1 x2 x3 = some z → ug l E 4 0 0 cX8_street 7 RX8 (some .int) [] (uz_i z) 0 0 65 [(0, .ref (ue_d E 38)), (1, .int x1), (2, .int x2), (3, .int x3)] [] mem := by
  intro n
  induction n with
  | zero =>
    intro mem x1 x2 x3 z h
    rw [f_X8_street_b65] at h
    cases h
  | succ n ih =>
    intro mem x1 x2 x3 z h
    rw [f_X8_street_b65] at h
    refine ug_iload_n 3 dX8_street_65 rfl rfl ?_
    refine ug_iload_n 2 dX8_street_66 rfl rfl ?_
    refine ug_icmp_gt 171 dX8_street_67 (by decide) (fun q1 => ?_) (fun q1 => ?_)
    · rw [if_pos q1] at h
      refine ug_aload_n 0 dX8_street_171 rfl rfl ?_
      refine ug_getR kf_X8_74 gr_38_42 dX8_street_172 ?_
      refine ug_sipush dX8_street_175 un_sipush_142 ?_
      refine ug_iload_n 2 dX8_street_178 rfl rfl ?_
      refine ug_imul dX8_street_179 ?_
      obtain ⟨g2, h⟩ := ugd_some h
      refine ug_iald al_58 (uin_ok g2) dX8_street_180 ?_
      obtain rfl := Option.some.inj h
      exact ug_iret dX8_street_181
    · rw [if_neg q1] at h
      refine ug_bipush dX8_street_70 un_bipush_99 ?_
      refine ug_istore [(4, .int 99), (0, .ref (ue_d E 38)), (1, .int x1), (2, .int x2), (3, .int x3)] dX8_street_72 (Nat.le_of_ble_eq_true rfl) rfl ?_
      refine ug_sub [(0, .ref (ue_d E 38)), (1, .int x1), (2, .int x2), (3, .int x3), (4, .int 99)] [1, 2, 3, 4, 0] rfl ?_
      exact t_X8_street_b74 (f_X8_street_b65  n) ih UF mem x1 x2 x3 99 _ h
def f_X8_street_b43 : Nat → Um → Int32 → Int32 → Int32 → Option (Um × Int32)
  | 0, _, _, _, _ => none
  | n + 1, mem, x1, x2, x3 =>
    if 1278 ≤ x3 then (f_X8_street_b65  UF mem x1 x2 1) else (ugd (uin x3 1278) ((f_X8_street_b43  n) (um_w mem 58 x3.toNatClampNeg 0) x1 x2 (x3 + 1)))
set_option maxRecDepth 20000 in
theorem t_X8_street_b43 {l : Launch} {E : Ue} : ∀ (n : Nat) (mem : Um) (x1 : Int32) (x2 : Int32) (x3 : Int32) (z : Um × Int32), f_X8_street_b43  n mem x1 x2 x3 = some z → ug l E 4 0 0 cX8_street 7 RX8 (some .int) [] (uz_i z) 0 0 43 [(0, .ref (ue_d E 38)), (1, .int x1), (2, .int x2), (3, .int x3)] [] mem := by
  intro n
  induction n with
  | zero =>
    intro mem x1 x2 x3 z h
    rw [f_X8_street_b43] at h
    cases h
  | succ n ih =>
    intro mem x1 x2 x3 z h
    rw [f_X8_street_b43] at h
    refine ug_iload_n 3 dX8_street_43 rfl rfl ?_
    refine ug_sipush dX8_street_44 un_sipush_1278 ?_
    refine ug_icmp_ge 63 dX8_street_47 (by decide) (fun q1 => ?_) (fun q1 => ?_)
    · rw [if_pos q1] at h
      refine ug_iconst dX8_street_63 un_iconst_1 ?_
      refine ug_istore_n [(3, .int 1), (0, .ref (ue_d E 38)), (1, .int x1), (2, .int x2)] dX8_street_64 rfl (Nat.le_of_ble_eq_true rfl) rfl ?_
      refine ug_sub [(0, .ref (ue_d E 38)), (1, .int x1), (2, .int x2), (3, .int 1)] [1, 2, 3, 0] rfl ?_
      exact t_X8_street_b65  UF mem x1 x2 1 _ h
    · rw [if_neg q1] at h
      refine ug_aload_n 0 dX8_street_50 rfl rfl ?_
      refine ug_getR kf_X8_74 gr_38_42 dX8_street_51 ?_
      refine ug_iload_n 3 dX8_street_54 rfl rfl ?_
      refine ug_iconst dX8_street_55 un_iconst_0 ?_
      obtain ⟨g2, h⟩ := ugd_some h
      refine ug_iast al_58 (uin_ok g2) dX8_street_56 ?_
      refine ug_iinc (v := (x3 + 1)) [(3, .int (x3 + 1)), (0, .ref (ue_d E 38)), (1, .int x1), (2, .int x2)] 3 dX8_street_57 rfl rfl (Nat.le_of_ble_eq_true rfl) rfl ?_
      refine ug_goto 43 dX8_street_60 (by decide) ?_
      refine ug_sub [(0, .ref (ue_d E 38)), (1, .int x1), (2, .int x2), (3, .int (x3 + 1))] [1, 2, 3, 0] rfl ?_
      exact ih (um_w mem 58 x3.toNatClampNeg 0) x1 x2 (x3 + 1) _ h
def f_X8_street_b31 (mem : Um) (x1 : Int32) (x2 : Int32) (y0 : Int32) : Option (Um × Int32) :=
  ubi (f_X8_may mem y0 1 1) (fun m1 r2 => if r2 = 0 then (some (m1, 0)) else (f_X8_street_b43  UF m1 x1 x2 0))
set_option maxRecDepth 20000 in
theorem t_X8_street_b31 {l : Launch} {E : Ue} (mem : Um) (x1 : Int32) (x2 : Int32) (y0 : Int32) (z : Um × Int32) (h : f_X8_street_b31  mem x1 x2 y0 = some z) : ug l E 4 0 0 cX8_street 7 RX8 (some .int) [] (uz_i z) 0 0 31 [(0, .ref (ue_d E 38)), (1, .int x1), (2, .int x2)] [.int y0, .ref (ue_d E 38)] mem := by
  rw [f_X8_street_b31] at h
  refine ug_iconst dX8_street_31 un_iconst_1 ?_
  refine ug_iconst dX8_street_32 un_iconst_1 ?_
  obtain ⟨m1, r2, h3, h⟩ := ubi_some h
  refine ug_callVi [.int y0, .int 1, .int 1] (c_X8_may  h3) kc_X8_190 ro_38 rfl (S := []) rfl (Nat.le_of_ble_eq_true rfl) (Nat.le_of_ble_eq_true rfl) (Nat.le_of_ble_eq_true rfl) dX8_street_33 ?_
  refine ug_if_ne 41 dX8_street_36 (by decide) (fun q4 => ?_) (fun q4 => ?_)
  · rw [if_neg q4] at h
    refine ug_iconst dX8_street_41 un_iconst_0 ?_
    refine ug_istore_n [(3, .int 0), (0, .ref (ue_d E 38)), (1, .int x1), (2, .int x2)] dX8_street_42 rfl (Nat.le_of_ble_eq_true rfl) rfl ?_
    refine ug_sub [(0, .ref (ue_d E 38)), (1, .int x1), (2, .int x2), (3, .int 0)] [1, 2, 3, 0] rfl ?_
    exact t_X8_street_b43  UF m1 x1 x2 0 _ h
  · rw [if_pos q4] at h
    refine ug_iconst dX8_street_39 un_iconst_0 ?_
    obtain rfl := Option.some.inj h
    exact ug_iret dX8_street_40
def f_X8_street_b30 (mem : Um) (x1 : Int32) (x2 : Int32) : Option (Um × Int32) :=
  f_X8_street_b31 mem x1 x2 0
set_option maxRecDepth 20000 in
theorem t_X8_street_b30 {l : Launch} {E : Ue} (mem : Um) (x1 : Int32) (x2 : Int32) (z : Um × Int32) (h : f_X8_street_b30  mem x1 x2 = some z) : ug l E 4 0 0 cX8_street 7 RX8 (some .int) [] (uz_i z) 0 0 30 [(0, .ref (ue_d E 38)), (1, .int x1), (2, .int x2)] [.ref (ue_d E 38)] mem := by
  rw [f_X8_street_b30] at h
  refine ug_iconst dX8_street_30 un_iconst_0 ?_
  exact t_X8_street_b31 mem x1 x2 0 _ h
def f_X8_street (mem : Um) (x1 : Int32) (x2 : Int32) : Option (Um × Int32) :=
  ubi (f_X8_within (um_w mem 38 0 0) x1 1 20) (fun m1 r2 => if r2 = 0 then (f_X8_street_b30 m1 x1 x2) else (ubi (f_X8_within m1 x2 0 8) (fun m5 r6 => if r6 = 0 then (f_X8_street_b30 m5 x1 x2) else (f_X8_street_b31 m5 x1 x2 1))))
set_option maxRecDepth 20000 in
theorem t_X8_street {l : Launch} {E : Ue} (mem : Um) (x1 : Int32) (x2 : Int32) (z : Um × Int32) (h : f_X8_street  mem x1 x2 = some z) : ug l E 4 0 0 cX8_street 7 RX8 (some .int) [] (uz_i z) 0 0 0 [(0, .ref (ue_d E 38)), (1, .int x1), (2, .int x2)] [] mem := by
  rw [f_X8_street] at h
  refine ug_aload_n 0 dX8_street_0 rfl rfl ?_
  refine ug_iconst dX8_street_1 un_iconst_0 ?_
  refine ug_putI kp_X8_3 gi_38_0 dX8_street_2 ?_
  refine ug_aload_n 0 dX8_street_5 rfl rfl ?_
  refine ug_iload_n 1 dX8_street_6 rfl rfl ?_
  refine ug_iconst dX8_street_7 un_iconst_1 ?_
  refine ug_bipush dX8_street_8 un_bipush_20 ?_
  obtain ⟨m1, r2, h3, h⟩ := ubi_some h
  refine ug_callSi [.int x1, .int 1, .int 20] (c_X8_within  h3) kc_X8_352 rfl (S := [.ref (ue_d E 38)]) rfl (Nat.le_of_ble_eq_true rfl) (Nat.le_of_ble_eq_true rfl) (Nat.le_of_ble_eq_true rfl) dX8_street_10 ?_
  refine ug_if_eq 30 dX8_street_13 (by decide) (fun q4 => ?_) (fun q4 => ?_)
  · rw [if_pos q4] at h
    exact t_X8_street_b30 m1 x1 x2 _ h
  · rw [if_neg q4] at h
    refine ug_iload_n 2 dX8_street_16 rfl rfl ?_
    refine ug_iconst dX8_street_17 un_iconst_0 ?_
    refine ug_bipush dX8_street_18 un_bipush_8 ?_
    obtain ⟨m5, r6, h7, h⟩ := ubi_some h
    refine ug_callSi [.int x2, .int 0, .int 8] (c_X8_within  h7) kc_X8_352 rfl (S := [.ref (ue_d E 38)]) rfl (Nat.le_of_ble_eq_true rfl) (Nat.le_of_ble_eq_true rfl) (Nat.le_of_ble_eq_true rfl) dX8_street_20 ?_
    refine ug_if_eq 30 dX8_street_23 (by decide) (fun q8 => ?_) (fun q8 => ?_)
    · rw [if_pos q8] at h
      exact t_X8_street_b30 m5 x1 x2 _ h
    · rw [if_neg q8] at h
      refine ug_iconst dX8_street_26 un_iconst_1 ?_
      refine ug_goto 31 dX8_street_27 (by decide) ?_
      exact t_X8_street_b31 m5 x1 x2 1 _ h
theorem c_X8_street {l : Launch} {E : Ue} {mem : Um} {x1 : Int32} {x2 : Int32} {m1 : Um} {r : Int32} (h : f_X8_street  mem x1 x2 = some (m1, r)) : ucr l E 4 0 0 yX8_street cX8_street 7 (some .int) [.ref (ue_d E 38), .int x1, .int x2] mem (some (.int r)) m1 := ucr_of rfl (Nat.le_of_ble_eq_true rfl) (t_X8_street  mem x1 x2 _ h)
-- X8_laysOwners
def f_X8_laysOwners_b74 (k2 : Um → Int32 → Option (Um × Unit)) (k12 : Um → Int32 → Int32 → Option (Um × Unit)) (k31 : Um → Int32 → Int32 → Int32 → Option (Um × Unit)) (mem : Um) (x1 : Int32) (x2 : Int32) (x3 : Int32) (y0 : Int32) (y1 : Int32) : Option (Um × Unit) :=
  ugd (uin y1 800) (k31 (um_w mem 59 y1.toNatClampNeg y0) x1 x2 (x3 + 1))
set_option maxRecDepth 20000 in
theorem t_X8_laysOwners_b74 {l : Launch} {E : Ue} (k2 : Um → Int32 → Option (Um × Unit)) (hk2 : ∀ (mem : Um) (x1 : Int32) (z : Um × Unit), k2 mem x1 = some z → ug l E 5 0 0 cX8_laysOwners 4 RX8 none [] (uz_v z) 0 0 2 [(0, .ref (ue_d E 38)), (1, .int x1)] [] mem) (k12 : Um → Int32 → Int32 → Option (Um × Unit)) (hk12 : ∀ (mem : Um) (x1 : Int32) (x2 : Int32) (z : Um × Unit), k12 mem x1 x2 = some z → ug l E 5 0 0 cX8_laysOwners 4 RX8 none [] (uz_v z) 0 0 12 [(0, .ref (ue_d E 38)), (1, .int x1), (2, .int x2)] [] mem) (k31 : Um → Int32 → Int32 → Int32 → Option (Um × Unit)) (hk31 : ∀ (mem : Um) (x1 : Int32) (x2 : Int32) (x3 : Int32) (z : Um × Unit), k31 mem x1 x2 x3 = some z → ug l E 5 0 0 cX8_laysOwners 4 RX8 none [] (uz_v z) 0 0 31 [(0, .ref (ue_d E 38)), (1, .int x1), (2, .int x2), (3, .int x3)] [] mem) (mem : Um) (x1 : Int32) (x2 : Int32) (x3 : Int32) (y0 : Int32) (y1 : Int32) (z : Um × Unit) (h : f_X8_laysOwners_b74 k2 k12 k31 mem x1 x2 x3 y0 y1 = some z) : ug l E 5 0 0 cX8_laysOwners 4 RX8 none [] (uz_v z) 0 0 74 [(0, .ref (ue_d E 38)), (1, .int x1), (2, .int x2), (3, .int x3)] [.int y0, .int y1, .ref (ue_d E 59)] mem := by
  rw [f_X8_laysOwners_b74] at h
  obtain ⟨g1, h⟩ := ugd_some h
  refine ug_iast al_59 (uin_ok g1) dX8_laysOwners_74 ?_
  refine ug_iinc (v := (x3 + 1)) [(3, .int (x3 + 1)), (0, .ref (ue_d E 38)), (1, .int x1), (2, .int x2)] 3 dX8_laysOwners_75 rfl rfl (Nat.le_of_ble_eq_true rfl) rfl ?_
  refine ug_goto 31 dX8_laysOwners_78 (by decide) ?_
  refine ug_sub [(0, .ref (ue_d E 38)), (1, .int x1), (2, .int x2), (3, .int (x3 + 1))] [1, 2, 3, 0] rfl ?_
  exact hk31 (um_w mem 59 y1.toNatClampNeg y0) x1 x2 (x3 + 1) _ h
def f_X8_laysOwners_b31 (k2 : Um → Int32 → Option (Um × Unit)) (k12 : Um → Int32 → Int32 → Option (Um × Unit)) : Nat → Um → Int32 → Int32 → Int32 → Option (Um × Unit)
  | 0, _, _, _, _ => none
  | n + 1, mem, x1, x2, x3 =>
    if (mem 38 17) ≤ x3 then (k12 mem x1 (x2 + 1)) else (ubi (f_X8_ownerOf mem x3) (fun m2 r3 => if r3 = (-1) then (f_X8_laysOwners_b74 k2 k12 (f_X8_laysOwners_b31 k2 k12 n) m2 x1 x2 x3 5 ((8 * (((20 * x1) + x2) - 1)) + x3)) else (ubi (f_X8_ownerOf m2 x3) (fun m6 r7 => f_X8_laysOwners_b74 k2 k12 (f_X8_laysOwners_b31 k2 k12 n) m6 x1 x2 x3 r7 ((8 * (((20 * x1) + x2) - 1)) + x3)))))
set_option maxRecDepth 20000 in
theorem t_X8_laysOwners_b31 {l : Launch} {E : Ue} (k2 : Um → Int32 → Option (Um × Unit)) (hk2 : ∀ (mem : Um) (x1 : Int32) (z : Um × Unit), k2 mem x1 = some z → ug l E 5 0 0 cX8_laysOwners 4 RX8 none [] (uz_v z) 0 0 2 [(0, .ref (ue_d E 38)), (1, .int x1)] [] mem) (k12 : Um → Int32 → Int32 → Option (Um × Unit)) (hk12 : ∀ (mem : Um) (x1 : Int32) (x2 : Int32) (z : Um × Unit), k12 mem x1 x2 = some z → ug l E 5 0 0 cX8_laysOwners 4 RX8 none [] (uz_v z) 0 0 12 [(0, .ref (ue_d E 38)), (1, .int x1), (2, .int x2)] [] mem) : ∀ (n : Nat) (mem : Um) (x1 : Int32) (x2 : Int32) (x3 : Int32) (z : Um × Unit), f_X8_laysOwners_b31 k2 k12 n mem x1 x2 x3 = some z → ug l E 5 0 0 cX8_laysOwners 4 RX8 none [] (uz_v z) 0 0 31 [(0, .ref (ue_d E 38)), (1, .int x1), (2, .int x2), (3, .int x3)] [] mem := by
  intro n
  induction n with
  | zero =>
    intro mem x1 x2 x3 z h
    rw [f_X8_laysOwners_b31] at h
    cases h
  | succ n ih =>
    intro mem x1 x2 x3 z h
    rw [f_X8_laysOwners_b31] at h
    refine ug_iload_n 3 dX8_laysOwners_31 rfl rfl ?_
    refine ug_aload_n 0 dX8_laysOwners_32 rfl rfl ?_
    refine ug_getI kf_X8_151 gi_38_17 dX8_laysOwners_33 ?_
    refine ug_icmp_ge 81 dX8_laysOwners_36 (by decide) (fun q1 => ?_) (fun q1 => ?_)
    · rw [if_pos q1] at h
      refine ug_iinc (v := (x2 + 1)) [(2, .int (x2 + 1)), (0, .ref (ue_d E 38)), (1, .int x1), (3, .int x3)] 2 dX8_laysOwners_81 rfl rfl (Nat.le_of_ble_eq_true rfl) rfl ?_
      refine ug_goto 12 dX8_laysOwners_84 (by decide) ?_
      refine ug_sub [(0, .ref (ue_d E 38)), (1, .int x1), (2, .int (x2 + 1))] [1, 2, 0] rfl ?_
      exact hk12 mem x1 (x2 + 1) _ h
    · rw [if_neg q1] at h
      refine ug_aload_n 0 dX8_laysOwners_39 rfl rfl ?_
      refine ug_getR kf_X8_77 gr_38_43 dX8_laysOwners_40 ?_
      refine ug_bipush dX8_laysOwners_43 un_bipush_8 ?_
      refine ug_bipush dX8_laysOwners_45 un_bipush_20 ?_
      refine ug_iload_n 1 dX8_laysOwners_47 rfl rfl ?_
      refine ug_imul dX8_laysOwners_48 ?_
      refine ug_iload_n 2 dX8_laysOwners_49 rfl rfl ?_
      refine ug_iadd dX8_laysOwners_50 ?_
      refine ug_iconst dX8_laysOwners_51 un_iconst_1 ?_
      refine ug_isub dX8_laysOwners_52 ?_
      refine ug_imul dX8_laysOwners_53 ?_
      refine ug_iload_n 3 dX8_laysOwners_54 rfl rfl ?_
      refine ug_iadd dX8_laysOwners_55 ?_
      refine ug_aload_n 0 dX8_laysOwners_56 rfl rfl ?_
      refine ug_iload_n 3 dX8_laysOwners_57 rfl rfl ?_
      obtain ⟨m2, r3, h4, h⟩ := ubi_some h
      refine ug_callVi [.int x3] (c_X8_ownerOf  h4) kc_X8_327 ro_38 rfl (S := [.int ((8 * (((20 * x1) + x2) - 1)) + x3), .ref (ue_d E 59)]) rfl (Nat.le_of_ble_eq_true rfl) (Nat.le_of_ble_eq_true rfl) (Nat.le_of_ble_eq_true rfl) dX8_laysOwners_58 ?_
      refine ug_iconst dX8_laysOwners_61 un_iconst_m1 ?_
      refine ug_icmp_ne 69 dX8_laysOwners_62 (by decide) (fun q5 => ?_) (fun q5 => ?_)
      · rw [if_neg q5] at h
        refine ug_aload_n 0 dX8_laysOwners_69 rfl rfl ?_
        refine ug_iload_n 3 dX8_laysOwners_70 rfl rfl ?_
        obtain ⟨m6, r7, h8, h⟩ := ubi_some h
        refine ug_callVi [.int x3] (c_X8_ownerOf  h8) kc_X8_327 ro_38 rfl (S := [.int ((8 * (((20 * x1) + x2) - 1)) + x3), .ref (ue_d E 59)]) rfl (Nat.le_of_ble_eq_true rfl) (Nat.le_of_ble_eq_true rfl) (Nat.le_of_ble_eq_true rfl) dX8_laysOwners_71 ?_
        exact t_X8_laysOwners_b74 k2 hk2 k12 hk12 (f_X8_laysOwners_b31 k2 k12 n) ih m6 x1 x2 x3 r7 ((8 * (((20 * x1) + x2) - 1)) + x3) _ h
      · rw [if_pos q5] at h
        refine ug_iconst dX8_laysOwners_65 un_iconst_5 ?_
        refine ug_goto 74 dX8_laysOwners_66 (by decide) ?_
        exact t_X8_laysOwners_b74 k2 hk2 k12 hk12 (f_X8_laysOwners_b31 k2 k12 n) ih m2 x1 x2 x3 5 ((8 * (((20 * x1) + x2) - 1)) + x3) _ h
def f_X8_laysOwners_b12 (k2 : Um → Int32 → Option (Um × Unit)) : Nat → Um → Int32 → Int32 → Option (Um × Unit)
  | 0, _, _, _ => none
  | n + 1, mem, x1, x2 =>
    if 20 < x2 then (k2 mem (x1 + 1)) else (ubi (f_X8_take mem) (fun m2 r3 => ubi (f_X8_isBlown m2 x1 x2) (fun m5 r6 => f_X8_laysOwners_b31 k2 (f_X8_laysOwners_b12 k2 n) UF m5 x1 x2 0)))
set_option maxRecDepth 20000 in
theorem t_X8_laysOwners_b12 {l : Launch} {E : Ue} (k2 : Um → Int32 → Option (Um × Unit)) (hk2 : ∀ (mem : Um) (x1 : Int32) (z : Um × Unit), k2 mem x1 = some z → ug l E 5 0 0 cX8_laysOwners 4 RX8 none [] (uz_v z) 0 0 2 [(0, .ref (ue_d E 38)), (1, .int x1)] [] mem) : ∀ (n : Nat) (mem : Um) (x1 : Int32) (x2 : Int32) (z : Um × Unit), f_X8_laysOwners_b12 k2 n mem x1 x2 = some z → ug l E 5 0 0 cX8_laysOwners 4 RX8 none [] (uz_v z) 0 0 12 [(0, .ref (ue_d E 38)), (1, .int x1), (2, .int x2)] [] mem := by
  intro n
  induction n with
  | zero =>
    intro mem x1 x2 z h
    rw [f_X8_laysOwners_b12] at h
    cases h
  | succ n ih =>
    intro mem x1 x2 z h
    rw [f_X8_laysOwners_b12] at h
    refine ug_iload_n 2 dX8_laysOwners_12 rfl rfl ?_
    refine ug_bipush dX8_laysOwners_13 un_bipush_20 ?_
    refine ug_icmp_gt 87 dX8_laysOwners_15 (by decide) (fun q1 => ?_) (fun q1 => ?_)
    · rw [if_pos q1] at h
      refine ug_iinc (v := (x1 + 1)) [(1, .int (x1 + 1)), (0, .ref (ue_d E 38)), (2, .int x2)] 1 dX8_laysOwners_87 rfl rfl (Nat.le_of_ble_eq_true rfl) rfl ?_
      refine ug_goto 2 dX8_laysOwners_90 (by decide) ?_
      refine ug_sub [(0, .ref (ue_d E 38)), (1, .int (x1 + 1))] [1, 0] rfl ?_
      exact hk2 mem (x1 + 1) _ h
    · rw [if_neg q1] at h
      refine ug_aload_n 0 dX8_laysOwners_18 rfl rfl ?_
      obtain ⟨m2, r3, h4, h⟩ := ubi_some h
      refine ug_callVv [] (c_X8_take  h4) kc_X8_302 ro_38 rfl (S := []) rfl (Nat.le_of_ble_eq_true rfl) (Nat.le_of_ble_eq_true rfl) (Nat.le_of_ble_eq_true rfl) dX8_laysOwners_19 ?_
      refine ug_aload_n 0 dX8_laysOwners_22 rfl rfl ?_
      refine ug_iload_n 1 dX8_laysOwners_23 rfl rfl ?_
      refine ug_iload_n 2 dX8_laysOwners_24 rfl rfl ?_
      obtain ⟨m5, r6, h7, h⟩ := ubi_some h
      refine ug_callVi [.int x1, .int x2] (c_X8_isBlown  h7) kc_X8_368 ro_38 rfl (S := []) rfl (Nat.le_of_ble_eq_true rfl) (Nat.le_of_ble_eq_true rfl) (Nat.le_of_ble_eq_true rfl) dX8_laysOwners_25 ?_
      refine ug_pop dX8_laysOwners_28 rfl ?_
      refine ug_iconst dX8_laysOwners_29 un_iconst_0 ?_
      refine ug_istore_n [(3, .int 0), (0, .ref (ue_d E 38)), (1, .int x1), (2, .int x2)] dX8_laysOwners_30 rfl (Nat.le_of_ble_eq_true rfl) rfl ?_
      refine ug_sub [(0, .ref (ue_d E 38)), (1, .int x1), (2, .int x2), (3, .int 0)] [1, 2, 3, 0] rfl ?_
      exact t_X8_laysOwners_b31 k2 hk2 (f_X8_laysOwners_b12 k2 n) ih UF m5 x1 x2 0 _ h
def f_X8_laysOwners_b2 : Nat → Um → Int32 → Option (Um × Unit)
  | 0, _, _ => none
  | n + 1, mem, x1 =>
    if (mem 38 18) ≤ x1 then (some (mem, ())) else (f_X8_laysOwners_b12 (f_X8_laysOwners_b2  n) UF mem x1 1)
set_option maxRecDepth 20000 in
theorem t_X8_laysOwners_b2 {l : Launch} {E : Ue} : ∀ (n : Nat) (mem : Um) (x1 : Int32) (z : Um × Unit), f_X8_laysOwners_b2  n mem x1 = some z → ug l E 5 0 0 cX8_laysOwners 4 RX8 none [] (uz_v z) 0 0 2 [(0, .ref (ue_d E 38)), (1, .int x1)] [] mem := by
  intro n
  induction n with
  | zero =>
    intro mem x1 z h
    rw [f_X8_laysOwners_b2] at h
    cases h
  | succ n ih =>
    intro mem x1 z h
    rw [f_X8_laysOwners_b2] at h
    refine ug_iload_n 1 dX8_laysOwners_2 rfl rfl ?_
    refine ug_aload_n 0 dX8_laysOwners_3 rfl rfl ?_
    refine ug_getI kf_X8_154 gi_38_18 dX8_laysOwners_4 ?_
    refine ug_icmp_ge 93 dX8_laysOwners_7 (by decide) (fun q1 => ?_) (fun q1 => ?_)
    · rw [if_pos q1] at h
      obtain rfl := Option.some.inj h
      exact ug_vret dX8_laysOwners_93
    · rw [if_neg q1] at h
      refine ug_iconst dX8_laysOwners_10 un_iconst_1 ?_
      refine ug_istore_n [(2, .int 1), (0, .ref (ue_d E 38)), (1, .int x1)] dX8_laysOwners_11 rfl (Nat.le_of_ble_eq_true rfl) rfl ?_
      refine ug_sub [(0, .ref (ue_d E 38)), (1, .int x1), (2, .int 1)] [1, 2, 0] rfl ?_
      exact t_X8_laysOwners_b12 (f_X8_laysOwners_b2  n) ih UF mem x1 1 _ h
def f_X8_laysOwners (mem : Um) : Option (Um × Unit) :=
  f_X8_laysOwners_b2  UF mem 0
set_option maxRecDepth 20000 in
theorem t_X8_laysOwners {l : Launch} {E : Ue} (mem : Um) (z : Um × Unit) (h : f_X8_laysOwners  mem  = some z) : ug l E 5 0 0 cX8_laysOwners 4 RX8 none [] (uz_v z) 0 0 0 [(0, .ref (ue_d E 38))] [] mem := by
  rw [f_X8_laysOwners] at h
  refine ug_iconst dX8_laysOwners_0 un_iconst_0 ?_
  refine ug_istore_n [(1, .int 0), (0, .ref (ue_d E 38))] dX8_laysOwners_1 rfl (Nat.le_of_ble_eq_true rfl) rfl ?_
  refine ug_sub [(0, .ref (ue_d E 38)), (1, .int 0)] [1, 0] rfl ?_
  exact t_X8_laysOwners_b2  UF mem 0 _ h
theorem c_X8_laysOwners {l : Launch} {E : Ue} {mem : Um} {m1 : Um} {r : Unit} (h : f_X8_laysOwners  mem  = some (m1, r)) : ucr l E 5 0 0 yX8_laysOwners cX8_laysOwners 4 none [.ref (ue_d E 38)] mem none m1 := ucr_of rfl (Nat.le_of_ble_eq_true rfl) (t_X8_laysOwners  mem  _ h)
-- X8_isFit
def f_X8_isFit_b51 (k4 : Um → Int32 → Int32 → Int32 → Option (Um × Int32)) (mem : Um) (x1 : Int32) (x3 : Int32) (y0 : Int32) : Option (Um × Int32) :=
  k4 mem x1 y0 (x3 + 1)
set_option maxRecDepth 20000 in
theorem t_X8_isFit_b51 {l : Launch} {E : Ue} (k4 : Um → Int32 → Int32 → Int32 → Option (Um × Int32)) (hk4 : ∀ (mem : Um) (x1 : Int32) (x2 : Int32) (x3 : Int32) (z : Um × Int32), k4 mem x1 x2 x3 = some z → ug l E 2 0 0 cX8_isFit 4 RX8 (some .boolean) [] (uz_i z) 0 0 4 [(0, .ref (ue_d E 38)), (1, .int x1), (2, .int x2), (3, .int x3)] [] mem) (mem : Um) (x1 : Int32) (x3 : Int32) (y0 : Int32) (z : Um × Int32) (h : f_X8_isFit_b51 k4 mem x1 x3 y0 = some z) : ug l E 2 0 0 cX8_isFit 4 RX8 (some .boolean) [] (uz_i z) 0 0 51 [(0, .ref (ue_d E 38)), (1, .int x1), (3, .int x3)] [.int y0] mem := by
  rw [f_X8_isFit_b51] at h
  refine ug_istore_n [(2, .int y0), (0, .ref (ue_d E 38)), (1, .int x1), (3, .int x3)] dX8_isFit_51 rfl (Nat.le_of_ble_eq_true rfl) rfl ?_
  refine ug_iinc (v := (x3 + 1)) [(3, .int (x3 + 1)), (2, .int y0), (0, .ref (ue_d E 38)), (1, .int x1)] 3 dX8_isFit_52 rfl rfl (Nat.le_of_ble_eq_true rfl) rfl ?_
  refine ug_goto 4 dX8_isFit_55 (by decide) ?_
  refine ug_sub [(0, .ref (ue_d E 38)), (1, .int x1), (2, .int y0), (3, .int (x3 + 1))] [2, 3, 1, 0] rfl ?_
  exact hk4 mem x1 y0 (x3 + 1) _ h
def f_X8_isFit_b50 (k4 : Um → Int32 → Int32 → Int32 → Option (Um × Int32)) (mem : Um) (x1 : Int32) (x3 : Int32) : Option (Um × Int32) :=
  f_X8_isFit_b51 k4 mem x1 x3 0
set_option maxRecDepth 20000 in
theorem t_X8_isFit_b50 {l : Launch} {E : Ue} (k4 : Um → Int32 → Int32 → Int32 → Option (Um × Int32)) (hk4 : ∀ (mem : Um) (x1 : Int32) (x2 : Int32) (x3 : Int32) (z : Um × Int32), k4 mem x1 x2 x3 = some z → ug l E 2 0 0 cX8_isFit 4 RX8 (some .boolean) [] (uz_i z) 0 0 4 [(0, .ref (ue_d E 38)), (1, .int x1), (2, .int x2), (3, .int x3)] [] mem) (mem : Um) (x1 : Int32) (x3 : Int32) (z : Um × Int32) (h : f_X8_isFit_b50 k4 mem x1 x3 = some z) : ug l E 2 0 0 cX8_isFit 4 RX8 (some .boolean) [] (uz_i z) 0 0 50 [(0, .ref (ue_d E 38)), (1, .int x1), (3, .int x3)] [] mem := by
  rw [f_X8_isFit_b50] at h
  refine ug_iconst dX8_isFit_50 un_iconst_0 ?_
  exact t_X8_isFit_b51 k4 hk4 mem x1 x3 0 _ h
def f_X8_isFit_b46 (k4 : Um → Int32 → Int32 → Int32 → Option (Um × Int32)) (mem : Um) (x1 : Int32) (x3 : Int32) : Option (Um × Int32) :=
  f_X8_isFit_b51 k4 mem x1 x3 1
set_option maxRecDepth 20000 in
theorem t_X8_isFit_b46 {l : Launch} {E : Ue} (k4 : Um → Int32 → Int32 → Int32 → Option (Um × Int32)) (hk4 : ∀ (mem : Um) (x1 : Int32) (x2 : Int32) (x3 : Int32) (z : Um × Int32), k4 mem x1 x2 x3 = some z → ug l E 2 0 0 cX8_isFit 4 RX8 (some .boolean) [] (uz_i z) 0 0 4 [(0, .ref (ue_d E 38)), (1, .int x1), (2, .int x2), (3, .int x3)] [] mem) (mem : Um) (x1 : Int32) (x3 : Int32) (z : Um × Int32) (h : f_X8_isFit_b46 k4 mem x1 x3 = some z) : ug l E 2 0 0 cX8_isFit 4 RX8 (some .boolean) [] (uz_i z) 0 0 46 [(0, .ref (ue_d E 38)), (1, .int x1), (3, .int x3)] [] mem := by
  rw [f_X8_isFit_b46] at h
  refine ug_iconst dX8_isFit_46 un_iconst_1 ?_
  refine ug_goto 51 dX8_isFit_47 (by decide) ?_
  exact t_X8_isFit_b51 k4 hk4 mem x1 x3 1 _ h
def f_X8_isFit_b4 : Nat → Um → Int32 → Int32 → Int32 → Option (Um × Int32)
  | 0, _, _, _, _ => none
  | n + 1, mem, x1, x2, x3 =>
    if (mem 38 17) ≤ x3 then (ugd (ub01 x2) (some (mem, x2))) else (if x2 = 0 then (f_X8_isFit_b50 (f_X8_isFit_b4  n) mem x1 x3) else (ugd (uin x3 8) (if (mem 57 x3.toNatClampNeg) = (-1) then (f_X8_isFit_b46 (f_X8_isFit_b4  n) mem x1 x3) else (ugd (uin ((8 * x1) + x3) 800) (ugd (uin x3 8) (if (mem 59 ((8 * x1) + x3).toNatClampNeg) = (mem 57 x3.toNatClampNeg) then (f_X8_isFit_b46 (f_X8_isFit_b4  n) mem x1 x3) else (f_X8_isFit_b50 (f_X8_isFit_b4  n) mem x1 x3)))))))
set_option maxRecDepth 20000 in
theorem t_X8_isFit_b4 {l : Launch} {E : Ue} : ∀ (n : Nat) (mem : Um) (x1 : Int32) (x2 : Int32) (x3 : Int32) (z : Um × Int32), f_X8_isFit_b4  n mem x1 x2 x3 = some z → ug l E 2 0 0 cX8_isFit 4 RX8 (some .boolean) [] (uz_i z) 0 0 4 [(0, .ref (ue_d E 38)), (1, .int x1), (2, .int x2), (3, .int x3)] [] mem := by
  intro n
  induction n with
  | zero =>
    intro mem x1 x2 x3 z h
    rw [f_X8_isFit_b4] at h
    cases h
  | succ n ih =>
    intro mem x1 x2 x3 z h
    rw [f_X8_isFit_b4] at h
    refine ug_iload_n 3 dX8_isFit_4 rfl rfl ?_
    refine ug_aload_n 0 dX8_isFit_5 rfl rfl ?_
    refine ug_getI kf_X8_151 gi_38_17 dX8_isFit_6 ?_
    refine ug_icmp_ge 58 dX8_isFit_9 (by decide) (fun q1 => ?_) (fun q1 => ?_)
    · rw [if_pos q1] at h
      refine ug_iload_n 2 dX8_isFit_58 rfl rfl ?_
      obtain ⟨g2, h⟩ := ugd_some h
      obtain rfl := Option.some.inj h
      exact ug_zret (of_decide_eq_true g2) dX8_isFit_59
    · rw [if_neg q1] at h
      refine ug_iload_n 2 dX8_isFit_12 rfl rfl ?_
      refine ug_if_eq 50 dX8_isFit_13 (by decide) (fun q3 => ?_) (fun q3 => ?_)
      · rw [if_pos q3] at h
        refine ug_sub [(0, .ref (ue_d E 38)), (1, .int x1), (3, .int x3)] [0, 1, 3] rfl ?_
        exact t_X8_isFit_b50 (f_X8_isFit_b4  n) ih mem x1 x3 _ h
      · rw [if_neg q3] at h
        refine ug_aload_n 0 dX8_isFit_16 rfl rfl ?_
        refine ug_getR kf_X8_71 gr_38_40 dX8_isFit_17 ?_
        refine ug_iload_n 3 dX8_isFit_20 rfl rfl ?_
        obtain ⟨g4, h⟩ := ugd_some h
        refine ug_iald al_57 (uin_ok g4) dX8_isFit_21 ?_
        refine ug_iconst dX8_isFit_22 un_iconst_m1 ?_
        refine ug_icmp_eq 46 dX8_isFit_23 (by decide) (fun q5 => ?_) (fun q5 => ?_)
        · rw [if_pos q5] at h
          refine ug_sub [(0, .ref (ue_d E 38)), (1, .int x1), (3, .int x3)] [0, 1, 3] rfl ?_
          exact t_X8_isFit_b46 (f_X8_isFit_b4  n) ih mem x1 x3 _ h
        · rw [if_neg q5] at h
          refine ug_aload_n 0 dX8_isFit_26 rfl rfl ?_
          refine ug_getR kf_X8_77 gr_38_43 dX8_isFit_27 ?_
          refine ug_bipush dX8_isFit_30 un_bipush_8 ?_
          refine ug_iload_n 1 dX8_isFit_32 rfl rfl ?_
          refine ug_imul dX8_isFit_33 ?_
          refine ug_iload_n 3 dX8_isFit_34 rfl rfl ?_
          refine ug_iadd dX8_isFit_35 ?_
          obtain ⟨g6, h⟩ := ugd_some h
          refine ug_iald al_59 (uin_ok g6) dX8_isFit_36 ?_
          refine ug_aload_n 0 dX8_isFit_37 rfl rfl ?_
          refine ug_getR kf_X8_71 gr_38_40 dX8_isFit_38 ?_
          refine ug_iload_n 3 dX8_isFit_41 rfl rfl ?_
          obtain ⟨g7, h⟩ := ugd_some h
          refine ug_iald al_57 (uin_ok g7) dX8_isFit_42 ?_
          refine ug_icmp_ne 50 dX8_isFit_43 (by decide) (fun q8 => ?_) (fun q8 => ?_)
          · rw [if_neg q8] at h
            refine ug_sub [(0, .ref (ue_d E 38)), (1, .int x1), (3, .int x3)] [0, 1, 3] rfl ?_
            exact t_X8_isFit_b50 (f_X8_isFit_b4  n) ih mem x1 x3 _ h
          · rw [if_pos q8] at h
            refine ug_sub [(0, .ref (ue_d E 38)), (1, .int x1), (3, .int x3)] [0, 1, 3] rfl ?_
            exact t_X8_isFit_b46 (f_X8_isFit_b4  n) ih mem x1 x3 _ h
def f_X8_isFit (mem : Um) (x1 : Int32) : Option (Um × Int32) :=
  f_X8_isFit_b4  UF mem x1 1 0
set_option maxRecDepth 20000 in
theorem t_X8_isFit {l : Launch} {E : Ue} (mem : Um) (x1 : Int32) (z : Um × Int32) (h : f_X8_isFit  mem x1 = some z) : ug l E 2 0 0 cX8_isFit 4 RX8 (some .boolean) [] (uz_i z) 0 0 0 [(0, .ref (ue_d E 38)), (1, .int x1)] [] mem := by
  rw [f_X8_isFit] at h
  refine ug_iconst dX8_isFit_0 un_iconst_1 ?_
  refine ug_istore_n [(2, .int 1), (0, .ref (ue_d E 38)), (1, .int x1)] dX8_isFit_1 rfl (Nat.le_of_ble_eq_true rfl) rfl ?_
  refine ug_iconst dX8_isFit_2 un_iconst_0 ?_
  refine ug_istore_n [(3, .int 0), (2, .int 1), (0, .ref (ue_d E 38)), (1, .int x1)] dX8_isFit_3 rfl (Nat.le_of_ble_eq_true rfl) rfl ?_
  refine ug_sub [(0, .ref (ue_d E 38)), (1, .int x1), (2, .int 1), (3, .int 0)] [2, 3, 1, 0] rfl ?_
  exact t_X8_isFit_b4  UF mem x1 1 0 _ h
theorem c_X8_isFit {l : Launch} {E : Ue} {mem : Um} {x1 : Int32} {m1 : Um} {r : Int32} (h : f_X8_isFit  mem x1 = some (m1, r)) : ucr l E 2 0 0 yX8_isFit cX8_isFit 4 (some .boolean) [.ref (ue_d E 38), .int x1] mem (some (.int r)) m1 := ucr_of rfl (Nat.le_of_ble_eq_true rfl) (t_X8_isFit  mem x1 _ h)
-- X8_fits
def f_X8_fits_b101 (mem : Um) (y0 : Int32) : Option (Um × Int32) :=
  some (mem, y0)
set_option maxRecDepth 20000 in
theorem t_X8_fits_b101 {l : Launch} {E : Ue} (mem : Um) (y0 : Int32) (z : Um × Int32) (h : f_X8_fits_b101  mem y0 = some z) : ug l E 6 0 0 cX8_fits 5 RX8 (some .int) [] (uz_i z) 0 0 101 [] [.int y0] mem := by
  rw [f_X8_fits_b101] at h
  obtain rfl := Option.some.inj h
  exact ug_iret dX8_fits_101
def f_X8_fits_b86 (k33 : Um → Int32 → Int32 → Int32 → Int32 → Option (Um × Int32)) (mem : Um) (x1 : Int32) (x2 : Int32) (x3 : Int32) (x4 : Int32) : Option (Um × Int32) :=
  k33 mem x1 x2 x3 (x4 + 1)
set_option maxRecDepth 20000 in
theorem t_X8_fits_b86 {l : Launch} {E : Ue} (k33 : Um → Int32 → Int32 → Int32 → Int32 → Option (Um × Int32)) (hk33 : ∀ (mem : Um) (x1 : Int32) (x2 : Int32) (x3 : Int32) (x4 : Int32) (z : Um × Int32), k33 mem x1 x2 x3 x4 = some z → ug l E 6 0 0 cX8_fits 5 RX8 (some .int) [] (uz_i z) 0 0 33 [(0, .ref (ue_d E 38)), (1, .int x1), (2, .int x2), (3, .int x3), (4, .int x4)] [] mem) (mem : Um) (x1 : Int32) (x2 : Int32) (x3 : Int32) (x4 : Int32) (z : Um × Int32) (h : f_X8_fits_b86 k33 mem x1 x2 x3 x4 = some z) : ug l E 6 0 0 cX8_fits 5 RX8 (some .int) [] (uz_i z) 0 0 86 [(0, .ref (ue_d E 38)), (1, .int x1), (2, .int x2), (3, .int x3), (4, .int x4)] [] mem := by
  rw [f_X8_fits_b86] at h
  refine ug_iinc (v := (x4 + 1)) [(4, .int (x4 + 1)), (0, .ref (ue_d E 38)), (1, .int x1), (2, .int x2), (3, .int x3)] 4 dX8_fits_86 rfl rfl (Nat.le_of_ble_eq_true rfl) rfl ?_
  refine ug_goto 33 dX8_fits_89 (by decide) ?_
  refine ug_sub [(0, .ref (ue_d E 38)), (1, .int x1), (2, .int x2), (3, .int x3), (4, .int (x4 + 1))] [1, 2, 3, 4, 0] rfl ?_
  exact hk33 mem x1 x2 x3 (x4 + 1) _ h
def f_X8_fits_b85 (k33 : Um → Int32 → Int32 → Int32 → Int32 → Option (Um × Int32)) (mem : Um) (x1 : Int32) (x2 : Int32) (x4 : Int32) (y0 : Int32) : Option (Um × Int32) :=
  f_X8_fits_b86 k33 mem x1 x2 y0 x4
set_option maxRecDepth 20000 in
theorem t_X8_fits_b85 {l : Launch} {E : Ue} (k33 : Um → Int32 → Int32 → Int32 → Int32 → Option (Um × Int32)) (hk33 : ∀ (mem : Um) (x1 : Int32) (x2 : Int32) (x3 : Int32) (x4 : Int32) (z : Um × Int32), k33 mem x1 x2 x3 x4 = some z → ug l E 6 0 0 cX8_fits 5 RX8 (some .int) [] (uz_i z) 0 0 33 [(0, .ref (ue_d E 38)), (1, .int x1), (2, .int x2), (3, .int x3), (4, .int x4)] [] mem) (mem : Um) (x1 : Int32) (x2 : Int32) (x4 : Int32) (y0 : Int32) (z : Um × Int32) (h : f_X8_fits_b85 k33 mem x1 x2 x4 y0 = some z) : ug l E 6 0 0 cX8_fits 5 RX8 (some .int) [] (uz_i z) 0 0 85 [(0, .ref (ue_d E 38)), (1, .int x1), (2, .int x2), (4, .int x4)] [.int y0] mem := by
  rw [f_X8_fits_b85] at h
  refine ug_istore_n [(3, .int y0), (0, .ref (ue_d E 38)), (1, .int x1), (2, .int x2), (4, .int x4)] dX8_fits_85 rfl (Nat.le_of_ble_eq_true rfl) rfl ?_
  refine ug_sub [(0, .ref (ue_d E 38)), (1, .int x1), (2, .int x2), (3, .int y0), (4, .int x4)] [1, 2, 3, 0, 4] rfl ?_
  exact t_X8_fits_b86 k33 hk33 mem x1 x2 y0 x4 _ h
def f_X8_fits_b33 : Nat → Um → Int32 → Int32 → Int32 → Int32 → Option (Um × Int32)
  | 0, _, _, _, _, _ => none
  | n + 1, mem, x1, x2, x3, x4 =>
    if (20 * (mem 38 18)) ≤ x4 then (if x1 = 0 then (f_X8_fits_b101 mem x2) else (f_X8_fits_b101 mem x3)) else (ubi (f_X8_isFit mem x4) (fun m3 r4 => if r4 = 0 then (f_X8_fits_b86 (f_X8_fits_b33  n) m3 x1 x2 x3 x4) else (if x3 = (-1) then (f_X8_fits_b85 (f_X8_fits_b33  n) m3 x1 (x2 + 1) x4 (((100 * (x4 / 20)) + (x4 % 20)) + 1)) else (f_X8_fits_b85 (f_X8_fits_b33  n) m3 x1 (x2 + 1) x4 x3))))
set_option maxRecDepth 20000 in
theorem t_X8_fits_b33 {l : Launch} {E : Ue} : ∀ (n : Nat) (mem : Um) (x1 : Int32) (x2 : Int32) (x3 : Int32) (x4 : Int32) (z : Um × Int32), f_X8_fits_b33  n mem x1 x2 x3 x4 = some z → ug l E 6 0 0 cX8_fits 5 RX8 (some .int) [] (uz_i z) 0 0 33 [(0, .ref (ue_d E 38)), (1, .int x1), (2, .int x2), (3, .int x3), (4, .int x4)] [] mem := by
  intro n
  induction n with
  | zero =>
    intro mem x1 x2 x3 x4 z h
    rw [f_X8_fits_b33] at h
    cases h
  | succ n ih =>
    intro mem x1 x2 x3 x4 z h
    rw [f_X8_fits_b33] at h
    refine ug_iload 4 dX8_fits_33 rfl ?_
    refine ug_bipush dX8_fits_35 un_bipush_20 ?_
    refine ug_aload_n 0 dX8_fits_37 rfl rfl ?_
    refine ug_getI kf_X8_154 gi_38_18 dX8_fits_38 ?_
    refine ug_imul dX8_fits_41 ?_
    refine ug_icmp_ge 92 dX8_fits_42 (by decide) (fun q1 => ?_) (fun q1 => ?_)
    · rw [if_pos q1] at h
      refine ug_iload_n 1 dX8_fits_92 rfl rfl ?_
      refine ug_if_ne 100 dX8_fits_93 (by decide) (fun q2 => ?_) (fun q2 => ?_)
      · rw [if_neg q2] at h
        refine ug_iload_n 3 dX8_fits_100 rfl rfl ?_
        refine ug_sub [] [] rfl ?_
        exact t_X8_fits_b101 mem x3 _ h
      · rw [if_pos q2] at h
        refine ug_iload_n 2 dX8_fits_96 rfl rfl ?_
        refine ug_goto 101 dX8_fits_97 (by decide) ?_
        refine ug_sub [] [] rfl ?_
        exact t_X8_fits_b101 mem x2 _ h
    · rw [if_neg q1] at h
      refine ug_aload_n 0 dX8_fits_45 rfl rfl ?_
      refine ug_iload 4 dX8_fits_46 rfl ?_
      obtain ⟨m3, r4, h5, h⟩ := ubi_some h
      refine ug_callVi [.int x4] (c_X8_isFit  h5) kc_X8_410 ro_38 rfl (S := []) rfl (Nat.le_of_ble_eq_true rfl) (Nat.le_of_ble_eq_true rfl) (Nat.le_of_ble_eq_true rfl) dX8_fits_48 ?_
      refine ug_if_ne 57 dX8_fits_51 (by decide) (fun q6 => ?_) (fun q6 => ?_)
      · rw [if_neg q6] at h
        refine ug_iinc (v := (x2 + 1)) [(2, .int (x2 + 1)), (0, .ref (ue_d E 38)), (1, .int x1), (3, .int x3), (4, .int x4)] 2 dX8_fits_57 rfl rfl (Nat.le_of_ble_eq_true rfl) rfl ?_
        refine ug_iload_n 3 dX8_fits_60 rfl rfl ?_
        refine ug_iconst dX8_fits_61 un_iconst_m1 ?_
        refine ug_icmp_ne 84 dX8_fits_62 (by decide) (fun q7 => ?_) (fun q7 => ?_)
        · rw [if_neg q7] at h
          refine ug_iload_n 3 dX8_fits_84 rfl rfl ?_
          refine ug_sub [(0, .ref (ue_d E 38)), (1, .int x1), (2, .int (x2 + 1)), (4, .int x4)] [1, 2, 0, 4] rfl ?_
          exact t_X8_fits_b85 (f_X8_fits_b33  n) ih m3 x1 (x2 + 1) x4 x3 _ h
        · rw [if_pos q7] at h
          refine ug_bipush dX8_fits_65 un_bipush_100 ?_
          refine ug_iload 4 dX8_fits_67 rfl ?_
          refine ug_bipush dX8_fits_69 un_bipush_20 ?_
          refine ug_idiv dX8_fits_71 (by decide) ?_
          refine ug_imul dX8_fits_72 ?_
          refine ug_iload 4 dX8_fits_73 rfl ?_
          refine ug_bipush dX8_fits_75 un_bipush_20 ?_
          refine ug_irem dX8_fits_77 (by decide) ?_
          refine ug_iadd dX8_fits_78 ?_
          refine ug_iconst dX8_fits_79 un_iconst_1 ?_
          refine ug_iadd dX8_fits_80 ?_
          refine ug_goto 85 dX8_fits_81 (by decide) ?_
          refine ug_sub [(0, .ref (ue_d E 38)), (1, .int x1), (2, .int (x2 + 1)), (4, .int x4)] [1, 2, 0, 4] rfl ?_
          exact t_X8_fits_b85 (f_X8_fits_b33  n) ih m3 x1 (x2 + 1) x4 (((100 * (x4 / 20)) + (x4 % 20)) + 1) _ h
      · rw [if_pos q6] at h
        refine ug_goto 86 dX8_fits_54 (by decide) ?_
        exact t_X8_fits_b86 (f_X8_fits_b33  n) ih m3 x1 x2 x3 x4 _ h
def f_X8_fits (mem : Um) (x1 : Int32) : Option (Um × Int32) :=
  ubi (f_X8_within (um_w mem 38 0 0) x1 0 1) (fun m1 r2 => ubi (f_X8_may m1 r2 1 1) (fun m4 r5 => if r5 = 0 then (some (m4, 0)) else (ubi (f_X8_laysOwners m4) (fun m8 r9 => f_X8_fits_b33  UF m8 x1 0 (-1) 0))))
set_option maxRecDepth 20000 in
theorem t_X8_fits {l : Launch} {E : Ue} (mem : Um) (x1 : Int32) (z : Um × Int32) (h : f_X8_fits  mem x1 = some z) : ug l E 6 0 0 cX8_fits 5 RX8 (some .int) [] (uz_i z) 0 0 0 [(0, .ref (ue_d E 38)), (1, .int x1)] [] mem := by
  rw [f_X8_fits] at h
  refine ug_aload_n 0 dX8_fits_0 rfl rfl ?_
  refine ug_iconst dX8_fits_1 un_iconst_0 ?_
  refine ug_putI kp_X8_3 gi_38_0 dX8_fits_2 ?_
  refine ug_aload_n 0 dX8_fits_5 rfl rfl ?_
  refine ug_iload_n 1 dX8_fits_6 rfl rfl ?_
  refine ug_iconst dX8_fits_7 un_iconst_0 ?_
  refine ug_iconst dX8_fits_8 un_iconst_1 ?_
  obtain ⟨m1, r2, h3, h⟩ := ubi_some h
  refine ug_callSi [.int x1, .int 0, .int 1] (c_X8_within  h3) kc_X8_352 rfl (S := [.ref (ue_d E 38)]) rfl (Nat.le_of_ble_eq_true rfl) (Nat.le_of_ble_eq_true rfl) (Nat.le_of_ble_eq_true rfl) dX8_fits_9 ?_
  refine ug_iconst dX8_fits_12 un_iconst_1 ?_
  refine ug_iconst dX8_fits_13 un_iconst_1 ?_
  obtain ⟨m4, r5, h6, h⟩ := ubi_some h
  refine ug_callVi [.int r2, .int 1, .int 1] (c_X8_may  h6) kc_X8_190 ro_38 rfl (S := []) rfl (Nat.le_of_ble_eq_true rfl) (Nat.le_of_ble_eq_true rfl) (Nat.le_of_ble_eq_true rfl) dX8_fits_14 ?_
  refine ug_if_ne 22 dX8_fits_17 (by decide) (fun q7 => ?_) (fun q7 => ?_)
  · rw [if_neg q7] at h
    refine ug_aload_n 0 dX8_fits_22 rfl rfl ?_
    obtain ⟨m8, r9, h10, h⟩ := ubi_some h
    refine ug_callVv [] (c_X8_laysOwners  h10) kc_X8_407 ro_38 rfl (S := []) rfl (Nat.le_of_ble_eq_true rfl) (Nat.le_of_ble_eq_true rfl) (Nat.le_of_ble_eq_true rfl) dX8_fits_23 ?_
    refine ug_iconst dX8_fits_26 un_iconst_0 ?_
    refine ug_istore_n [(2, .int 0), (0, .ref (ue_d E 38)), (1, .int x1)] dX8_fits_27 rfl (Nat.le_of_ble_eq_true rfl) rfl ?_
    refine ug_iconst dX8_fits_28 un_iconst_m1 ?_
    refine ug_istore_n [(3, .int (-1)), (2, .int 0), (0, .ref (ue_d E 38)), (1, .int x1)] dX8_fits_29 rfl (Nat.le_of_ble_eq_true rfl) rfl ?_
    refine ug_iconst dX8_fits_30 un_iconst_0 ?_
    refine ug_istore [(4, .int 0), (3, .int (-1)), (2, .int 0), (0, .ref (ue_d E 38)), (1, .int x1)] dX8_fits_31 (Nat.le_of_ble_eq_true rfl) rfl ?_
    refine ug_sub [(0, .ref (ue_d E 38)), (1, .int x1), (2, .int 0), (3, .int (-1)), (4, .int 0)] [3, 4, 2, 1, 0] rfl ?_
    exact t_X8_fits_b33  UF m8 x1 0 (-1) 0 _ h
  · rw [if_pos q7] at h
    refine ug_iconst dX8_fits_20 un_iconst_0 ?_
    obtain rfl := Option.some.inj h
    exact ug_iret dX8_fits_21
theorem c_X8_fits {l : Launch} {E : Ue} {mem : Um} {x1 : Int32} {m1 : Um} {r : Int32} (h : f_X8_fits  mem x1 = some (m1, r)) : ucr l E 6 0 0 yX8_fits cX8_fits 5 (some .int) [.ref (ue_d E 38), .int x1] mem (some (.int r)) m1 := ucr_of rfl (Nat.le_of_ble_eq_true rfl) (t_X8_fits  mem x1 _ h)
-- X8_worstOf
def f_X8_worstOf_b93 (k24 : Um → Int32 → Int32 → Int32 → Option (Um × Int32)) (mem : Um) (x1 : Int32) (x2 : Int32) (x3 : Int32) : Option (Um × Int32) :=
  k24 mem x1 x2 (x3 + 1)
set_option maxRecDepth 20000 in
theorem t_X8_worstOf_b93 {l : Launch} {E : Ue} (k24 : Um → Int32 → Int32 → Int32 → Option (Um × Int32)) (hk24 : ∀ (mem : Um) (x1 : Int32) (x2 : Int32) (x3 : Int32) (z : Um × Int32), k24 mem x1 x2 x3 = some z → ug l E 3 0 0 cX8_worstOf 5 RX8 (some .int) [] (uz_i z) 0 0 24 [(0, .ref (ue_d E 38)), (1, .int x1), (2, .int x2), (3, .int x3)] [] mem) (mem : Um) (x1 : Int32) (x2 : Int32) (x3 : Int32) (z : Um × Int32) (h : f_X8_worstOf_b93 k24 mem x1 x2 x3 = some z) : ug l E 3 0 0 cX8_worstOf 5 RX8 (some .int) [] (uz_i z) 0 0 93 [(0, .ref (ue_d E 38)), (1, .int x1), (2, .int x2), (3, .int x3)] [] mem := by
  rw [f_X8_worstOf_b93] at h
  refine ug_iinc (v := (x3 + 1)) [(3, .int (x3 + 1)), (0, .ref (ue_d E 38)), (1, .int x1), (2, .int x2)] 3 dX8_worstOf_93 rfl rfl (Nat.le_of_ble_eq_true rfl) rfl ?_
  refine ug_goto 24 dX8_worstOf_96 (by decide) ?_
  refine ug_sub [(0, .ref (ue_d E 38)), (1, .int x1), (2, .int x2), (3, .int (x3 + 1))] [1, 2, 3, 0] rfl ?_
  exact hk24 mem x1 x2 (x3 + 1) _ h
def f_X8_worstOf_b92 (k24 : Um → Int32 → Int32 → Int32 → Option (Um × Int32)) (mem : Um) (x1 : Int32) (x3 : Int32) (y0 : Int32) : Option (Um × Int32) :=
  f_X8_worstOf_b93 k24 mem x1 y0 x3
set_option maxRecDepth 20000 in
theorem t_X8_worstOf_b92 {l : Launch} {E : Ue} (k24 : Um → Int32 → Int32 → Int32 → Option (Um × Int32)) (hk24 : ∀ (mem : Um) (x1 : Int32) (x2 : Int32) (x3 : Int32) (z : Um × Int32), k24 mem x1 x2 x3 = some z → ug l E 3 0 0 cX8_worstOf 5 RX8 (some .int) [] (uz_i z) 0 0 24 [(0, .ref (ue_d E 38)), (1, .int x1), (2, .int x2), (3, .int x3)] [] mem) (mem : Um) (x1 : Int32) (x3 : Int32) (y0 : Int32) (z : Um × Int32) (h : f_X8_worstOf_b92 k24 mem x1 x3 y0 = some z) : ug l E 3 0 0 cX8_worstOf 5 RX8 (some .int) [] (uz_i z) 0 0 92 [(0, .ref (ue_d E 38)), (1, .int x1), (3, .int x3)] [.int y0] mem := by
  rw [f_X8_worstOf_b92] at h
  refine ug_istore_n [(2, .int y0), (0, .ref (ue_d E 38)), (1, .int x1), (3, .int x3)] dX8_worstOf_92 rfl (Nat.le_of_ble_eq_true rfl) rfl ?_
  refine ug_sub [(0, .ref (ue_d E 38)), (1, .int x1), (2, .int y0), (3, .int x3)] [1, 2, 0, 3] rfl ?_
  exact t_X8_worstOf_b93 k24 hk24 mem x1 y0 x3 _ h
def f_X8_worstOf_b24 : Nat → Um → Int32 → Int32 → Int32 → Option (Um × Int32)
  | 0, _, _, _, _ => none
  | n + 1, mem, x1, x2, x3 =>
    if (20 * (mem 38 18)) ≤ x3 then (some (mem, x2)) else (ubi (f_X8_isFit mem x3) (fun m2 r3 => if r3 = 0 then (f_X8_worstOf_b93 (f_X8_worstOf_b24  n) m2 x1 x2 x3) else (ugd (uin ((8 * x3) + x1) 800) (ugd (uin (m2 59 ((8 * x3) + x1).toNatClampNeg) 6) (ugd (uin (m2 59 ((8 * x3) + x1).toNatClampNeg) 6) (ugd (uin (m2 59 ((8 * x3) + x1).toNatClampNeg) 6) (if ((um_w m2 60 (m2 59 ((8 * x3) + x1).toNatClampNeg).toNatClampNeg ((m2 60 (m2 59 ((8 * x3) + x1).toNatClampNeg).toNatClampNeg) + 1)) 60 (m2 59 ((8 * x3) + x1).toNatClampNeg).toNatClampNeg) ≤ x2 then (f_X8_worstOf_b92 (f_X8_worstOf_b24  n) (um_w m2 60 (m2 59 ((8 * x3) + x1).toNatClampNeg).toNatClampNeg ((m2 60 (m2 59 ((8 * x3) + x1).toNatClampNeg).toNatClampNeg) + 1)) x1 x3 x2) else (ugd (uin (m2 59 ((8 * x3) + x1).toNatClampNeg) 6) (f_X8_worstOf_b92 (f_X8_worstOf_b24  n) (um_w m2 60 (m2 59 ((8 * x3) + x1).toNatClampNeg).toNatClampNeg ((m2 60 (m2 59 ((8 * x3) + x1).toNatClampNeg).toNatClampNeg) + 1)) x1 x3 ((um_w m2 60 (m2 59 ((8 * x3) + x1).toNatClampNeg).toNatClampNeg ((m2 60 (m2 59 ((8 * x3) + x1).toNatClampNeg).toNatClampNeg) + 1)) 60 (m2 59 ((8 * x3) + x1).toNatClampNeg).toNatClampNeg))))))))))
set_option maxRecDepth 20000 in
theorem t_X8_worstOf_b24 {l : Launch} {E : Ue} : ∀ (n : Nat) (mem : Um) (x1 : Int32) (x2 : Int32) (x3 : Int32) (z : Um × Int32), f_X8_worstOf_b24  n mem x1 x2 x3 = some z → ug l E 3 0 0 cX8_worstOf 5 RX8 (some .int) [] (uz_i z) 0 0 24 [(0, .ref (ue_d E 38)), (1, .int x1), (2, .int x2), (3, .int x3)] [] mem := by
  intro n
  induction n with
  | zero =>
    intro mem x1 x2 x3 z h
    rw [f_X8_worstOf_b24] at h
    cases h
  | succ n ih =>
    intro mem x1 x2 x3 z h
    rw [f_X8_worstOf_b24] at h
    refine ug_iload_n 3 dX8_worstOf_24 rfl rfl ?_
    refine ug_bipush dX8_worstOf_25 un_bipush_20 ?_
    refine ug_aload_n 0 dX8_worstOf_27 rfl rfl ?_
    refine ug_getI kf_X8_154 gi_38_18 dX8_worstOf_28 ?_
    refine ug_imul dX8_worstOf_31 ?_
    refine ug_icmp_ge 99 dX8_worstOf_32 (by decide) (fun q1 => ?_) (fun q1 => ?_)
    · rw [if_pos q1] at h
      refine ug_iload_n 2 dX8_worstOf_99 rfl rfl ?_
      obtain rfl := Option.some.inj h
      exact ug_iret dX8_worstOf_100
    · rw [if_neg q1] at h
      refine ug_aload_n 0 dX8_worstOf_35 rfl rfl ?_
      refine ug_iload_n 3 dX8_worstOf_36 rfl rfl ?_
      obtain ⟨m2, r3, h4, h⟩ := ubi_some h
      refine ug_callVi [.int x3] (c_X8_isFit  h4) kc_X8_410 ro_38 rfl (S := []) rfl (Nat.le_of_ble_eq_true rfl) (Nat.le_of_ble_eq_true rfl) (Nat.le_of_ble_eq_true rfl) dX8_worstOf_37 ?_
      refine ug_if_ne 46 dX8_worstOf_40 (by decide) (fun q5 => ?_) (fun q5 => ?_)
      · rw [if_neg q5] at h
        refine ug_aload_n 0 dX8_worstOf_46 rfl rfl ?_
        refine ug_getR kf_X8_77 gr_38_43 dX8_worstOf_47 ?_
        refine ug_bipush dX8_worstOf_50 un_bipush_8 ?_
        refine ug_iload_n 3 dX8_worstOf_52 rfl rfl ?_
        refine ug_imul dX8_worstOf_53 ?_
        refine ug_iload_n 1 dX8_worstOf_54 rfl rfl ?_
        refine ug_iadd dX8_worstOf_55 ?_
        obtain ⟨g6, h⟩ := ugd_some h
        refine ug_iald al_59 (uin_ok g6) dX8_worstOf_56 ?_
        refine ug_istore [(4, .int (m2 59 ((8 * x3) + x1).toNatClampNeg)), (0, .ref (ue_d E 38)), (1, .int x1), (2, .int x2), (3, .int x3)] dX8_worstOf_57 (Nat.le_of_ble_eq_true rfl) rfl ?_
        refine ug_aload_n 1 dX8_worstOf_59 rfl rfl ?_
        refine ug_getR kf_X8_80 gr_38_44 dX8_worstOf_60 ?_
        refine ug_iload 0 dX8_worstOf_63 rfl ?_
        refine ug_dup2 dX8_worstOf_65 rfl rfl ?_
        obtain ⟨g7, h⟩ := ugd_some h
        refine ug_iald al_60 (uin_ok g7) dX8_worstOf_66 ?_
        refine ug_iconst dX8_worstOf_67 un_iconst_1 ?_
        refine ug_iadd dX8_worstOf_68 ?_
        obtain ⟨g8, h⟩ := ugd_some h
        refine ug_iast al_60 (uin_ok g8) dX8_worstOf_69 ?_
        refine ug_aload_n 1 dX8_worstOf_70 rfl rfl ?_
        refine ug_getR kf_X8_80 gr_38_44 dX8_worstOf_71 ?_
        refine ug_iload 0 dX8_worstOf_74 rfl ?_
        obtain ⟨g9, h⟩ := ugd_some h
        refine ug_iald al_60 (uin_ok g9) dX8_worstOf_76 ?_
        refine ug_iload_n 3 dX8_worstOf_77 rfl rfl ?_
        refine ug_icmp_le 91 dX8_worstOf_78 (by decide) (fun q10 => ?_) (fun q10 => ?_)
        · rw [if_pos q10] at h
          refine ug_iload_n 3 dX8_worstOf_91 rfl rfl ?_
          refine ug_sub [(0, .ref (ue_d E 38)), (1, .int x1), (3, .int x3)] [1, 2, 4] rfl ?_
          exact t_X8_worstOf_b92 (f_X8_worstOf_b24  n) ih (um_w m2 60 (m2 59 ((8 * x3) + x1).toNatClampNeg).toNatClampNeg ((m2 60 (m2 59 ((8 * x3) + x1).toNatClampNeg).toNatClampNeg) + 1)) x1 x3 x2 _ h
        · rw [if_neg q10] at h
          refine ug_aload_n 1 dX8_worstOf_81 rfl rfl ?_
          refine ug_getR kf_X8_80 gr_38_44 dX8_worstOf_82 ?_
          refine ug_iload 0 dX8_worstOf_85 rfl ?_
          obtain ⟨g11, h⟩ := ugd_some h
          refine ug_iald al_60 (uin_ok g11) dX8_worstOf_87 ?_
          refine ug_goto 92 dX8_worstOf_88 (by decide) ?_
          refine ug_sub [(0, .ref (ue_d E 38)), (1, .int x1), (3, .int x3)] [1, 2, 4] rfl ?_
          exact t_X8_worstOf_b92 (f_X8_worstOf_b24  n) ih (um_w m2 60 (m2 59 ((8 * x3) + x1).toNatClampNeg).toNatClampNeg ((m2 60 (m2 59 ((8 * x3) + x1).toNatClampNeg).toNatClampNeg) + 1)) x1 x3 ((um_w m2 60 (m2 59 ((8 * x3) + x1).toNatClampNeg).toNatClampNeg ((m2 60 (m2 59 ((8 * x3) + x1).toNatClampNeg).toNatClampNeg) + 1)) 60 (m2 59 ((8 * x3) + x1).toNatClampNeg).toNatClampNeg) _ h
      · rw [if_pos q5] at h
        refine ug_goto 93 dX8_worstOf_43 (by decide) ?_
        exact t_X8_worstOf_b93 (f_X8_worstOf_b24  n) ih m2 x1 x2 x3 _ h
def f_X8_worstOf_b2 : Nat → Um → Int32 → Int32 → Option (Um × Int32)
  | 0, _, _, _ => none
  | n + 1, mem, x1, x2 =>
    if 5 < x2 then (f_X8_worstOf_b24  UF mem x1 0 0) else (ugd (uin x2 6) ((f_X8_worstOf_b2  n) (um_w mem 60 x2.toNatClampNeg 0) x1 (x2 + 1)))
set_option maxRecDepth 20000 in
theorem t_X8_worstOf_b2 {l : Launch} {E : Ue} : ∀ (n : Nat) (mem : Um) (x1 : Int32) (x2 : Int32) (z : Um × Int32), f_X8_worstOf_b2  n mem x1 x2 = some z → ug l E 3 0 0 cX8_worstOf 5 RX8 (some .int) [] (uz_i z) 0 0 2 [(0, .ref (ue_d E 38)), (1, .int x1), (2, .int x2)] [] mem := by
  intro n
  induction n with
  | zero =>
    intro mem x1 x2 z h
    rw [f_X8_worstOf_b2] at h
    cases h
  | succ n ih =>
    intro mem x1 x2 z h
    rw [f_X8_worstOf_b2] at h
    refine ug_iload_n 2 dX8_worstOf_2 rfl rfl ?_
    refine ug_iconst dX8_worstOf_3 un_iconst_5 ?_
    refine ug_icmp_gt 20 dX8_worstOf_4 (by decide) (fun q1 => ?_) (fun q1 => ?_)
    · rw [if_pos q1] at h
      refine ug_iconst dX8_worstOf_20 un_iconst_0 ?_
      refine ug_istore_n [(2, .int 0), (0, .ref (ue_d E 38)), (1, .int x1)] dX8_worstOf_21 rfl (Nat.le_of_ble_eq_true rfl) rfl ?_
      refine ug_iconst dX8_worstOf_22 un_iconst_0 ?_
      refine ug_istore_n [(3, .int 0), (2, .int 0), (0, .ref (ue_d E 38)), (1, .int x1)] dX8_worstOf_23 rfl (Nat.le_of_ble_eq_true rfl) rfl ?_
      refine ug_sub [(0, .ref (ue_d E 38)), (1, .int x1), (2, .int 0), (3, .int 0)] [2, 3, 1, 0] rfl ?_
      exact t_X8_worstOf_b24  UF mem x1 0 0 _ h
    · rw [if_neg q1] at h
      refine ug_aload_n 0 dX8_worstOf_7 rfl rfl ?_
      refine ug_getR kf_X8_80 gr_38_44 dX8_worstOf_8 ?_
      refine ug_iload_n 2 dX8_worstOf_11 rfl rfl ?_
      refine ug_iconst dX8_worstOf_12 un_iconst_0 ?_
      obtain ⟨g2, h⟩ := ugd_some h
      refine ug_iast al_60 (uin_ok g2) dX8_worstOf_13 ?_
      refine ug_iinc (v := (x2 + 1)) [(2, .int (x2 + 1)), (0, .ref (ue_d E 38)), (1, .int x1)] 2 dX8_worstOf_14 rfl rfl (Nat.le_of_ble_eq_true rfl) rfl ?_
      refine ug_goto 2 dX8_worstOf_17 (by decide) ?_
      refine ug_sub [(0, .ref (ue_d E 38)), (1, .int x1), (2, .int (x2 + 1))] [1, 2, 0] rfl ?_
      exact ih (um_w mem 60 x2.toNatClampNeg 0) x1 (x2 + 1) _ h
def f_X8_worstOf (mem : Um) (x1 : Int32) : Option (Um × Int32) :=
  f_X8_worstOf_b2  UF mem x1 0
set_option maxRecDepth 20000 in
theorem t_X8_worstOf {l : Launch} {E : Ue} (mem : Um) (x1 : Int32) (z : Um × Int32) (h : f_X8_worstOf  mem x1 = some z) : ug l E 3 0 0 cX8_worstOf 5 RX8 (some .int) [] (uz_i z) 0 0 0 [(0, .ref (ue_d E 38)), (1, .int x1)] [] mem := by
  rw [f_X8_worstOf] at h
  refine ug_iconst dX8_worstOf_0 un_iconst_0 ?_
  refine ug_istore_n [(2, .int 0), (0, .ref (ue_d E 38)), (1, .int x1)] dX8_worstOf_1 rfl (Nat.le_of_ble_eq_true rfl) rfl ?_
  refine ug_sub [(0, .ref (ue_d E 38)), (1, .int x1), (2, .int 0)] [1, 2, 0] rfl ?_
  exact t_X8_worstOf_b2  UF mem x1 0 _ h
theorem c_X8_worstOf {l : Launch} {E : Ue} {mem : Um} {x1 : Int32} {m1 : Um} {r : Int32} (h : f_X8_worstOf  mem x1 = some (m1, r)) : ucr l E 3 0 0 yX8_worstOf cX8_worstOf 5 (some .int) [.ref (ue_d E 38), .int x1] mem (some (.int r)) m1 := ucr_of rfl (Nat.le_of_ble_eq_true rfl) (t_X8_worstOf  mem x1 _ h)
-- X8_look
def f_X8_look_b99 (mem : Um) (y0 : Int32) : Option (Um × Int32) :=
  some (mem, y0)
set_option maxRecDepth 20000 in
theorem t_X8_look_b99 {l : Launch} {E : Ue} (mem : Um) (y0 : Int32) (z : Um × Int32) (h : f_X8_look_b99  mem y0 = some z) : ug l E 6 0 0 cX8_look 6 RX8 (some .int) [] (uz_i z) 0 0 99 [] [.int y0] mem := by
  rw [f_X8_look_b99] at h
  obtain rfl := Option.some.inj h
  exact ug_iret dX8_look_99
def f_X8_look_b84 (k33 : Um → Int32 → Int32 → Int32 → Int32 → Option (Um × Int32)) (mem : Um) (x1 : Int32) (x2 : Int32) (x3 : Int32) (x4 : Int32) : Option (Um × Int32) :=
  k33 mem x1 x2 x3 (x4 + 1)
set_option maxRecDepth 20000 in
theorem t_X8_look_b84 {l : Launch} {E : Ue} (k33 : Um → Int32 → Int32 → Int32 → Int32 → Option (Um × Int32)) (hk33 : ∀ (mem : Um) (x1 : Int32) (x2 : Int32) (x3 : Int32) (x4 : Int32) (z : Um × Int32), k33 mem x1 x2 x3 x4 = some z → ug l E 6 0 0 cX8_look 6 RX8 (some .int) [] (uz_i z) 0 0 33 [(0, .ref (ue_d E 38)), (1, .int x1), (2, .int x2), (3, .int x3), (4, .int x4)] [] mem) (mem : Um) (x1 : Int32) (x2 : Int32) (x3 : Int32) (x4 : Int32) (z : Um × Int32) (h : f_X8_look_b84 k33 mem x1 x2 x3 x4 = some z) : ug l E 6 0 0 cX8_look 6 RX8 (some .int) [] (uz_i z) 0 0 84 [(0, .ref (ue_d E 38)), (1, .int x1), (2, .int x2), (3, .int x3), (4, .int x4)] [] mem := by
  rw [f_X8_look_b84] at h
  refine ug_iinc (v := (x4 + 1)) [(4, .int (x4 + 1)), (0, .ref (ue_d E 38)), (1, .int x1), (2, .int x2), (3, .int x3)] 4 dX8_look_84 rfl rfl (Nat.le_of_ble_eq_true rfl) rfl ?_
  refine ug_goto 33 dX8_look_87 (by decide) ?_
  refine ug_sub [(0, .ref (ue_d E 38)), (1, .int x1), (2, .int x2), (3, .int x3), (4, .int (x4 + 1))] [1, 2, 3, 4, 0] rfl ?_
  exact hk33 mem x1 x2 x3 (x4 + 1) _ h
def f_X8_look_b78 (k33 : Um → Int32 → Int32 → Int32 → Int32 → Option (Um × Int32)) (mem : Um) (x1 : Int32) (x4 : Int32) (x5 : Int32) : Option (Um × Int32) :=
  f_X8_look_b84 k33 mem x1 x4 x5 x4
set_option maxRecDepth 20000 in
theorem t_X8_look_b78 {l : Launch} {E : Ue} (k33 : Um → Int32 → Int32 → Int32 → Int32 → Option (Um × Int32)) (hk33 : ∀ (mem : Um) (x1 : Int32) (x2 : Int32) (x3 : Int32) (x4 : Int32) (z : Um × Int32), k33 mem x1 x2 x3 x4 = some z → ug l E 6 0 0 cX8_look 6 RX8 (some .int) [] (uz_i z) 0 0 33 [(0, .ref (ue_d E 38)), (1, .int x1), (2, .int x2), (3, .int x3), (4, .int x4)] [] mem) (mem : Um) (x1 : Int32) (x4 : Int32) (x5 : Int32) (z : Um × Int32) (h : f_X8_look_b78 k33 mem x1 x4 x5 = some z) : ug l E 6 0 0 cX8_look 6 RX8 (some .int) [] (uz_i z) 0 0 78 [(0, .ref (ue_d E 38)), (1, .int x1), (4, .int x4), (5, .int x5)] [] mem := by
  rw [f_X8_look_b78] at h
  refine ug_iload 2 dX8_look_78 rfl ?_
  refine ug_istore_n [(2, .int x4), (0, .ref (ue_d E 38)), (1, .int x1), (4, .int x4), (5, .int x5)] dX8_look_80 rfl (Nat.le_of_ble_eq_true rfl) rfl ?_
  refine ug_iload 4 dX8_look_81 rfl ?_
  refine ug_istore_n [(3, .int x5), (2, .int x4), (0, .ref (ue_d E 38)), (1, .int x1), (4, .int x4), (5, .int x5)] dX8_look_83 rfl (Nat.le_of_ble_eq_true rfl) rfl ?_
  refine ug_sub [(0, .ref (ue_d E 38)), (1, .int x1), (2, .int x4), (3, .int x5), (4, .int x4)] [2, 3, 1, 0, 4] rfl ?_
  exact t_X8_look_b84 k33 hk33 mem x1 x4 x5 x4 _ h
def f_X8_look_b33 : Nat → Um → Int32 → Int32 → Int32 → Int32 → Option (Um × Int32)
  | 0, _, _, _, _, _ => none
  | n + 1, mem, x1, x2, x3, x4 =>
    if (mem 38 17) ≤ x4 then (if x1 = 0 then (f_X8_look_b99 mem x2) else (f_X8_look_b99 mem x3)) else (ugd (uin x4 8) (if (mem 57 x4.toNatClampNeg) = (-1) then (ubi (f_X8_worstOf mem x4) (fun m5 r6 => if x2 = (-1) then (f_X8_look_b78 (f_X8_look_b33  n) m5 x1 x4 r6) else (if r6 < x3 then (f_X8_look_b78 (f_X8_look_b33  n) m5 x1 x4 r6) else (f_X8_look_b84 (f_X8_look_b33  n) m5 x1 x2 x3 x4)))) else (f_X8_look_b84 (f_X8_look_b33  n) mem x1 x2 x3 x4)))
set_option maxRecDepth 20000 in
theorem t_X8_look_b33 {l : Launch} {E : Ue} : ∀ (n : Nat) (mem : Um) (x1 : Int32) (x2 : Int32) (x3 : Int32) (x4 : Int32) (z : Um × Int32), f_X8_look_b33  n mem x1 x2 x3 x4 = some z → ug l E 6 0 0 cX8_look 6 RX8 (some .int) [] (uz_i z) 0 0 33 [(0, .ref (ue_d E 38)), (1, .int x1), (2, .int x2), (3, .int x3), (4, .int x4)] [] mem := by
  intro n
  induction n with
  | zero =>
    intro mem x1 x2 x3 x4 z h
    rw [f_X8_look_b33] at h
    cases h
  | succ n ih =>
    intro mem x1 x2 x3 x4 z h
    rw [f_X8_look_b33] at h
    refine ug_iload 4 dX8_look_33 rfl ?_
    refine ug_aload_n 0 dX8_look_35 rfl rfl ?_
    refine ug_getI kf_X8_151 gi_38_17 dX8_look_36 ?_
    refine ug_icmp_ge 90 dX8_look_39 (by decide) (fun q1 => ?_) (fun q1 => ?_)
    · rw [if_pos q1] at h
      refine ug_iload_n 1 dX8_look_90 rfl rfl ?_
      refine ug_if_ne 98 dX8_look_91 (by decide) (fun q2 => ?_) (fun q2 => ?_)
      · rw [if_neg q2] at h
        refine ug_iload_n 3 dX8_look_98 rfl rfl ?_
        refine ug_sub [] [] rfl ?_
        exact t_X8_look_b99 mem x3 _ h
      · rw [if_pos q2] at h
        refine ug_iload_n 2 dX8_look_94 rfl rfl ?_
        refine ug_goto 99 dX8_look_95 (by decide) ?_
        refine ug_sub [] [] rfl ?_
        exact t_X8_look_b99 mem x2 _ h
    · rw [if_neg q1] at h
      refine ug_aload_n 0 dX8_look_42 rfl rfl ?_
      refine ug_getR kf_X8_71 gr_38_40 dX8_look_43 ?_
      refine ug_iload 4 dX8_look_46 rfl ?_
      obtain ⟨g3, h⟩ := ugd_some h
      refine ug_iald al_57 (uin_ok g3) dX8_look_48 ?_
      refine ug_iconst dX8_look_49 un_iconst_m1 ?_
      refine ug_icmp_eq 56 dX8_look_50 (by decide) (fun q4 => ?_) (fun q4 => ?_)
      · rw [if_pos q4] at h
        refine ug_aload_n 0 dX8_look_56 rfl rfl ?_
        refine ug_iload 4 dX8_look_57 rfl ?_
        obtain ⟨m5, r6, h7, h⟩ := ubi_some h
        refine ug_callVi [.int x4] (c_X8_worstOf  h7) kc_X8_413 ro_38 rfl (S := []) rfl (Nat.le_of_ble_eq_true rfl) (Nat.le_of_ble_eq_true rfl) (Nat.le_of_ble_eq_true rfl) dX8_look_59 ?_
        refine ug_istore [(5, .int r6), (0, .ref (ue_d E 38)), (1, .int x1), (2, .int x2), (3, .int x3), (4, .int x4)] dX8_look_62 (Nat.le_of_ble_eq_true rfl) rfl ?_
        refine ug_iload_n 3 dX8_look_64 rfl rfl ?_
        refine ug_iconst dX8_look_65 un_iconst_m1 ?_
        refine ug_icmp_eq 78 dX8_look_66 (by decide) (fun q8 => ?_) (fun q8 => ?_)
        · rw [if_pos q8] at h
          refine ug_sub [(0, .ref (ue_d E 38)), (1, .int x1), (4, .int x4), (5, .int r6)] [1, 2, 5, 0] rfl ?_
          exact t_X8_look_b78 (f_X8_look_b33  n) ih m5 x1 x4 r6 _ h
        · rw [if_neg q8] at h
          refine ug_iload 0 dX8_look_69 rfl ?_
          refine ug_iload_n 4 dX8_look_71 rfl rfl ?_
          refine ug_icmp_lt 78 dX8_look_72 (by decide) (fun q9 => ?_) (fun q9 => ?_)
          · rw [if_pos q9] at h
            refine ug_sub [(0, .ref (ue_d E 38)), (1, .int x1), (4, .int x4), (5, .int r6)] [1, 2, 5, 0] rfl ?_
            exact t_X8_look_b78 (f_X8_look_b33  n) ih m5 x1 x4 r6 _ h
          · rw [if_neg q9] at h
            refine ug_goto 84 dX8_look_75 (by decide) ?_
            refine ug_sub [(0, .ref (ue_d E 38)), (1, .int x1), (2, .int x2), (3, .int x3), (4, .int x4)] [1, 2, 3, 4, 5] rfl ?_
            exact t_X8_look_b84 (f_X8_look_b33  n) ih m5 x1 x2 x3 x4 _ h
      · rw [if_neg q4] at h
        refine ug_goto 84 dX8_look_53 (by decide) ?_
        exact t_X8_look_b84 (f_X8_look_b33  n) ih mem x1 x2 x3 x4 _ h
def f_X8_look (mem : Um) (x1 : Int32) : Option (Um × Int32) :=
  ubi (f_X8_within (um_w mem 38 0 0) x1 0 1) (fun m1 r2 => ubi (f_X8_may m1 r2 1 1) (fun m4 r5 => if r5 = 0 then (some (m4, 0)) else (ubi (f_X8_laysOwners m4) (fun m8 r9 => f_X8_look_b33  UF m8 x1 (-1) (-1) 0))))
set_option maxRecDepth 20000 in
theorem t_X8_look {l : Launch} {E : Ue} (mem : Um) (x1 : Int32) (z : Um × Int32) (h : f_X8_look  mem x1 = some z) : ug l E 6 0 0 cX8_look 6 RX8 (some .int) [] (uz_i z) 0 0 0 [(0, .ref (ue_d E 38)), (1, .int x1)] [] mem := by
  rw [f_X8_look] at h
  refine ug_aload_n 0 dX8_look_0 rfl rfl ?_
  refine ug_iconst dX8_look_1 un_iconst_0 ?_
  refine ug_putI kp_X8_3 gi_38_0 dX8_look_2 ?_
  refine ug_aload_n 0 dX8_look_5 rfl rfl ?_
  refine ug_iload_n 1 dX8_look_6 rfl rfl ?_
  refine ug_iconst dX8_look_7 un_iconst_0 ?_
  refine ug_iconst dX8_look_8 un_iconst_1 ?_
  obtain ⟨m1, r2, h3, h⟩ := ubi_some h
  refine ug_callSi [.int x1, .int 0, .int 1] (c_X8_within  h3) kc_X8_352 rfl (S := [.ref (ue_d E 38)]) rfl (Nat.le_of_ble_eq_true rfl) (Nat.le_of_ble_eq_true rfl) (Nat.le_of_ble_eq_true rfl) dX8_look_9 ?_
  refine ug_iconst dX8_look_12 un_iconst_1 ?_
  refine ug_iconst dX8_look_13 un_iconst_1 ?_
  obtain ⟨m4, r5, h6, h⟩ := ubi_some h
  refine ug_callVi [.int r2, .int 1, .int 1] (c_X8_may  h6) kc_X8_190 ro_38 rfl (S := []) rfl (Nat.le_of_ble_eq_true rfl) (Nat.le_of_ble_eq_true rfl) (Nat.le_of_ble_eq_true rfl) dX8_look_14 ?_
  refine ug_if_ne 22 dX8_look_17 (by decide) (fun q7 => ?_) (fun q7 => ?_)
  · rw [if_neg q7] at h
    refine ug_aload_n 0 dX8_look_22 rfl rfl ?_
    obtain ⟨m8, r9, h10, h⟩ := ubi_some h
    refine ug_callVv [] (c_X8_laysOwners  h10) kc_X8_407 ro_38 rfl (S := []) rfl (Nat.le_of_ble_eq_true rfl) (Nat.le_of_ble_eq_true rfl) (Nat.le_of_ble_eq_true rfl) dX8_look_23 ?_
    refine ug_iconst dX8_look_26 un_iconst_m1 ?_
    refine ug_istore_n [(2, .int (-1)), (0, .ref (ue_d E 38)), (1, .int x1)] dX8_look_27 rfl (Nat.le_of_ble_eq_true rfl) rfl ?_
    refine ug_iconst dX8_look_28 un_iconst_m1 ?_
    refine ug_istore_n [(3, .int (-1)), (2, .int (-1)), (0, .ref (ue_d E 38)), (1, .int x1)] dX8_look_29 rfl (Nat.le_of_ble_eq_true rfl) rfl ?_
    refine ug_iconst dX8_look_30 un_iconst_0 ?_
    refine ug_istore [(4, .int 0), (3, .int (-1)), (2, .int (-1)), (0, .ref (ue_d E 38)), (1, .int x1)] dX8_look_31 (Nat.le_of_ble_eq_true rfl) rfl ?_
    refine ug_sub [(0, .ref (ue_d E 38)), (1, .int x1), (2, .int (-1)), (3, .int (-1)), (4, .int 0)] [3, 4, 2, 1, 0] rfl ?_
    exact t_X8_look_b33  UF m8 x1 (-1) (-1) 0 _ h
  · rw [if_pos q7] at h
    refine ug_iconst dX8_look_20 un_iconst_0 ?_
    obtain rfl := Option.some.inj h
    exact ug_iret dX8_look_21
theorem c_X8_look {l : Launch} {E : Ue} {mem : Um} {x1 : Int32} {m1 : Um} {r : Int32} (h : f_X8_look  mem x1 = some (m1, r)) : ucr l E 6 0 0 yX8_look cX8_look 6 (some .int) [.ref (ue_d E 38), .int x1] mem (some (.int r)) m1 := ucr_of rfl (Nat.le_of_ble_eq_true rfl) (t_X8_look  mem x1 _ h)
-- X8_numberOf
def f_X8_numberOf_b5 : Nat → Um → Int32 → Int32 → Int64 → Int32 → Option (Um × Int64)
  | 0, _, _, _, _, _ => none
  | n + 1, mem, x1, x2, x3, x5 =>
    if x1 ≤ x5 then (some (mem, x3)) else ((f_X8_numberOf_b5  n) mem x1 x2 (x3 * x2.toInt64) (x5 + 1))
set_option maxRecDepth 20000 in
theorem t_X8_numberOf_b5 {l : Launch} {E : Ue} : ∀ (n : Nat) (mem : Um) (x1 : Int32) (x2 : Int32) (x3 : Int64) (x5 : Int32) (z : Um × Int64), f_X8_numberOf_b5  n mem x1 x2 x3 x5 = some z → ug l E 2 0 0 cX8_numberOf 6 RX8 (some .long) [] (uz_l z) 0 0 5 [(1, .int x1), (2, .int x2), (3, .long x3), (5, .int x5)] [] mem := by
  intro n
  induction n with
  | zero =>
    intro mem x1 x2 x3 x5 z h
    rw [f_X8_numberOf_b5] at h
    cases h
  | succ n ih =>
    intro mem x1 x2 x3 x5 z h
    rw [f_X8_numberOf_b5] at h
    refine ug_iload 3 dX8_numberOf_5 rfl ?_
    refine ug_iload_n 0 dX8_numberOf_7 rfl rfl ?_
    refine ug_icmp_ge 22 dX8_numberOf_8 (by decide) (fun q1 => ?_) (fun q1 => ?_)
    · rw [if_pos q1] at h
      refine ug_lload_n 2 dX8_numberOf_22 rfl rfl ?_
      obtain rfl := Option.some.inj h
      exact ug_lret dX8_numberOf_23
    · rw [if_neg q1] at h
      refine ug_lload_n 2 dX8_numberOf_11 rfl rfl ?_
      refine ug_iload_n 1 dX8_numberOf_12 rfl rfl ?_
      refine ug_i2l dX8_numberOf_13 ?_
      refine ug_lmul dX8_numberOf_14 ?_
      refine ug_lstore_n [(3, .long (x3 * x2.toInt64)), (1, .int x1), (2, .int x2), (5, .int x5)] dX8_numberOf_15 rfl (Nat.le_of_ble_eq_true rfl) rfl ?_
      refine ug_iinc (v := (x5 + 1)) [(5, .int (x5 + 1)), (3, .long (x3 * x2.toInt64)), (1, .int x1), (2, .int x2)] 3 dX8_numberOf_16 rfl rfl (Nat.le_of_ble_eq_true rfl) rfl ?_
      refine ug_goto 5 dX8_numberOf_19 (by decide) ?_
      refine ug_sub [(1, .int x1), (2, .int x2), (3, .long (x3 * x2.toInt64)), (5, .int (x5 + 1))] [2, 3, 1, 0] rfl ?_
      exact ih mem x1 x2 (x3 * x2.toInt64) (x5 + 1) _ h
def f_X8_numberOf (mem : Um) (x1 : Int32) (x2 : Int32) : Option (Um × Int64) :=
  f_X8_numberOf_b5  UF mem x1 x2 1 0
set_option maxRecDepth 20000 in
theorem t_X8_numberOf {l : Launch} {E : Ue} (mem : Um) (x1 : Int32) (x2 : Int32) (z : Um × Int64) (h : f_X8_numberOf  mem x1 x2 = some z) : ug l E 2 0 0 cX8_numberOf 6 RX8 (some .long) [] (uz_l z) 0 0 0 [(0, .ref (ue_d E 38)), (1, .int x1), (2, .int x2)] [] mem := by
  rw [f_X8_numberOf] at h
  refine ug_lconst (v := 1) dX8_numberOf_0 (by decide) ?_
  refine ug_lstore_n [(3, .long 1), (0, .ref (ue_d E 38)), (1, .int x1), (2, .int x2)] dX8_numberOf_1 rfl (Nat.le_of_ble_eq_true rfl) rfl ?_
  refine ug_iconst dX8_numberOf_2 un_iconst_0 ?_
  refine ug_istore [(5, .int 0), (3, .long 1), (0, .ref (ue_d E 38)), (1, .int x1), (2, .int x2)] dX8_numberOf_3 (Nat.le_of_ble_eq_true rfl) rfl ?_
  refine ug_sub [(1, .int x1), (2, .int x2), (3, .long 1), (5, .int 0)] [3, 4, 1, 0] rfl ?_
  exact t_X8_numberOf_b5  UF mem x1 x2 1 0 _ h
theorem c_X8_numberOf {l : Launch} {E : Ue} {mem : Um} {x1 : Int32} {x2 : Int32} {m1 : Um} {r : Int64} (h : f_X8_numberOf  mem x1 x2 = some (m1, r)) : ucr l E 2 0 0 yX8_numberOf cX8_numberOf 6 (some .long) [.ref (ue_d E 38), .int x1, .int x2] mem (some (.long r)) m1 := ucr_of rfl (Nat.le_of_ble_eq_true rfl) (t_X8_numberOf  mem x1 x2 _ h)
