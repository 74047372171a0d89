-- X8_work
def f_X8_work_b123 : Nat → Um → Int32 → Option (Um × Int32)
  | 0, _, _ => none
  | n + 1, mem, x3 =>
    if 28 ≤ x3 then (ubi (f_X8_take (um_w mem 38 31 ((mem 38 31) + 1))) (fun m2 r3 => ubi (f_X8_goesSteps UD (um_w (um_w (um_w m2 38 33 0) 38 34 0) 38 35 0) 0 ((um_w (um_w (um_w m2 38 33 0) 38 34 0) 38 35 0) 38 30)) (fun m5 r6 => ubi (f_X8_copies 54 53 28 28 m5 28) (fun m8 r9 => some ((um_w m8 38 32 (m8 38 35)), ((um_w m8 38 32 (m8 38 35)) 38 34)))))) else (ugd (uin x3 28) (ugd (uin ((28 * (mem 38 31)) + x3) 448) ((f_X8_work_b123  n) (um_w mem 55 ((28 * (mem 38 31)) + x3).toNatClampNeg (mem 53 x3.toNatClampNeg)) (x3 + 1))))
set_option maxRecDepth 20000 in
theorem t_X8_work_b123 {l : Launch} {E : Ue} : ∀ (n : Nat) (mem : Um) (x3 : Int32) (z : Um × Int32), f_X8_work_b123  n mem x3 = some z → ug l E 145 0 0 cX8_work 4 RX8 (some .int) [] (uz_i z) 0 0 123 [(0, .ref (ue_d E 38)), (3, .int x3)] [] mem := by
  intro n
  induction n with
  | zero =>
    intro mem x3 z h
    rw [f_X8_work_b123] at h
    cases h
  | succ n ih =>
    intro mem x3 z h
    rw [f_X8_work_b123] at h
    refine ug_iload_n 1 dX8_work_123 rfl rfl ?_
    refine ug_bipush dX8_work_124 un_bipush_28 ?_
    refine ug_icmp_ge 155 dX8_work_126 (by decide) (fun q1 => ?_) (fun q1 => ?_)
    · rw [if_pos q1] at h
      refine ug_aload_n 0 dX8_work_155 rfl rfl ?_
      refine ug_dup dX8_work_156 rfl ?_
      refine ug_getI kf_X8_170 gi_38_31 dX8_work_157 ?_
      refine ug_iconst dX8_work_160 un_iconst_1 ?_
      refine ug_iadd dX8_work_161 ?_
      refine ug_putI kp_X8_170 gi_38_31 dX8_work_162 ?_
      refine ug_aload_n 0 dX8_work_165 rfl rfl ?_
      obtain ⟨m2, r3, h4, h⟩ := ubi_some h
      refine ug_callVv [] (c_X8_take  h4) kc_X8_302 ro_38 rfl (S := []) rfl (Nat.le_of_ble_eq_true rfl) (Nat.le_of_ble_eq_true rfl) (Nat.le_of_ble_eq_true rfl) dX8_work_166 ?_
      refine ug_aload_n 0 dX8_work_169 rfl rfl ?_
      refine ug_iconst dX8_work_170 un_iconst_0 ?_
      refine ug_putI kp_X8_305 gi_38_33 dX8_work_171 ?_
      refine ug_aload_n 0 dX8_work_174 rfl rfl ?_
      refine ug_iconst dX8_work_175 un_iconst_0 ?_
      refine ug_putI kp_X8_308 gi_38_34 dX8_work_176 ?_
      refine ug_aload_n 0 dX8_work_179 rfl rfl ?_
      refine ug_iconst dX8_work_180 un_iconst_0 ?_
      refine ug_putI kp_X8_311 gi_38_35 dX8_work_181 ?_
      refine ug_aload_n 0 dX8_work_184 rfl rfl ?_
      refine ug_iconst dX8_work_185 un_iconst_0 ?_
      refine ug_aload_n 0 dX8_work_186 rfl rfl ?_
      refine ug_getI kf_X8_269 gi_38_30 dX8_work_187 ?_
      obtain ⟨m5, r6, h7, h⟩ := ubi_some h
      refine ug_callVv [.int 0, .int ((um_w (um_w (um_w m2 38 33 0) 38 34 0) 38 35 0) 38 30)] (c_X8_goesSteps UD h7) kc_X8_314 ro_38 rfl (S := []) rfl (Nat.le_of_ble_eq_true rfl) (Nat.le_of_ble_eq_true rfl) (Nat.le_of_ble_eq_true rfl) dX8_work_190 ?_
      refine ug_aload_n 0 dX8_work_193 rfl rfl ?_
      refine ug_aload_n 0 dX8_work_194 rfl rfl ?_
      refine ug_getR kf_X8_62 gr_38_37 dX8_work_195 ?_
      refine ug_aload_n 0 dX8_work_198 rfl rfl ?_
      refine ug_getR kf_X8_59 gr_38_36 dX8_work_199 ?_
      refine ug_bipush dX8_work_202 un_bipush_28 ?_
      obtain ⟨m8, r9, h10, h⟩ := ubi_some h
      refine ug_callVv [.ref (ue_d E 54), .ref (ue_d E 53), .int 28] (c_X8_copies al_54 al_53 h10) kc_X8_160 ro_38 rfl (S := []) rfl (Nat.le_of_ble_eq_true rfl) (Nat.le_of_ble_eq_true rfl) (Nat.le_of_ble_eq_true rfl) dX8_work_204 ?_
      refine ug_aload_n 0 dX8_work_207 rfl rfl ?_
      refine ug_aload_n 0 dX8_work_208 rfl rfl ?_
      refine ug_getI kf_X8_311 gi_38_35 dX8_work_209 ?_
      refine ug_putI kp_X8_176 gi_38_32 dX8_work_212 ?_
      refine ug_aload_n 0 dX8_work_215 rfl rfl ?_
      refine ug_getI kf_X8_308 gi_38_34 dX8_work_216 ?_
      obtain rfl := Option.some.inj h
      exact ug_iret dX8_work_219
    · rw [if_neg q1] at h
      refine ug_aload_n 0 dX8_work_129 rfl rfl ?_
      refine ug_getR kf_X8_65 gr_38_38 dX8_work_130 ?_
      refine ug_bipush dX8_work_133 un_bipush_28 ?_
      refine ug_aload_n 0 dX8_work_135 rfl rfl ?_
      refine ug_getI kf_X8_170 gi_38_31 dX8_work_136 ?_
      refine ug_imul dX8_work_139 ?_
      refine ug_iload_n 1 dX8_work_140 rfl rfl ?_
      refine ug_iadd dX8_work_141 ?_
      refine ug_aload_n 0 dX8_work_142 rfl rfl ?_
      refine ug_getR kf_X8_59 gr_38_36 dX8_work_143 ?_
      refine ug_iload_n 1 dX8_work_146 rfl rfl ?_
      obtain ⟨g11, h⟩ := ugd_some h
      refine ug_iald al_53 (uin_ok g11) dX8_work_147 ?_
      obtain ⟨g12, h⟩ := ugd_some h
      refine ug_iast al_55 (uin_ok g12) dX8_work_148 ?_
      refine ug_iinc (v := (x3 + 1)) [(3, .int (x3 + 1)), (0, .ref (ue_d E 38))] 1 dX8_work_149 rfl rfl (Nat.le_of_ble_eq_true rfl) rfl ?_
      refine ug_goto 123 dX8_work_152 (by decide) ?_
      refine ug_sub [(0, .ref (ue_d E 38)), (3, .int (x3 + 1))] [1, 0] rfl ?_
      exact ih (um_w mem 55 ((28 * (mem 38 31)) + x3).toNatClampNeg (mem 53 x3.toNatClampNeg)) (x3 + 1) _ h
def f_X8_work_b89 (mem : Um) : Option (Um × Int32) :=
  ubi (f_X8_result mem 0) (fun m1 r2 => if (m1 38 5) = (-1) then (ubi (f_X8_copies 51 52 200 200 m1 (m1 38 30)) (fun m5 r6 => f_X8_work_b123  UF m5 0)) else (some (m1, r2)))
set_option maxRecDepth 20000 in
theorem t_X8_work_b89 {l : Launch} {E : Ue} (mem : Um) (z : Um × Int32) (h : f_X8_work_b89  mem  = some z) : ug l E 145 0 0 cX8_work 4 RX8 (some .int) [] (uz_i z) 0 0 89 [(0, .ref (ue_d E 38))] [] mem := by
  rw [f_X8_work_b89] at h
  refine ug_aload_n 0 dX8_work_89 rfl rfl ?_
  refine ug_iconst dX8_work_90 un_iconst_0 ?_
  obtain ⟨m1, r2, h3, h⟩ := ubi_some h
  refine ug_callVi [.int 0] (c_X8_result  h3) kc_X8_219 ro_38 rfl (S := []) rfl (Nat.le_of_ble_eq_true rfl) (Nat.le_of_ble_eq_true rfl) (Nat.le_of_ble_eq_true rfl) dX8_work_91 ?_
  refine ug_istore_n [(2, .int r2), (0, .ref (ue_d E 38))] dX8_work_94 rfl (Nat.le_of_ble_eq_true rfl) rfl ?_
  refine ug_aload_n 1 dX8_work_95 rfl rfl ?_
  refine ug_getI kf_X8_99 gi_38_5 dX8_work_96 ?_
  refine ug_iconst dX8_work_99 un_iconst_m1 ?_
  refine ug_icmp_eq 105 dX8_work_100 (by decide) (fun q4 => ?_) (fun q4 => ?_)
  · rw [if_pos q4] at h
    refine ug_aload_n 1 dX8_work_105 rfl rfl ?_
    refine ug_aload_n 1 dX8_work_106 rfl rfl ?_
    refine ug_getR kf_X8_53 gr_38_28 dX8_work_107 ?_
    refine ug_aload_n 1 dX8_work_110 rfl rfl ?_
    refine ug_getR kf_X8_56 gr_38_29 dX8_work_111 ?_
    refine ug_aload_n 1 dX8_work_114 rfl rfl ?_
    refine ug_getI kf_X8_269 gi_38_30 dX8_work_115 ?_
    obtain ⟨m5, r6, h7, h⟩ := ubi_some h
    refine ug_callVv [.ref (ue_d E 51), .ref (ue_d E 52), .int (m1 38 30)] (c_X8_copies al_51 al_52 h7) kc_X8_160 ro_38 rfl (S := []) rfl (Nat.le_of_ble_eq_true rfl) (Nat.le_of_ble_eq_true rfl) (Nat.le_of_ble_eq_true rfl) dX8_work_118 ?_
    refine ug_iconst dX8_work_121 un_iconst_0 ?_
    refine ug_istore_n [(3, .int 0), (2, .int r2), (0, .ref (ue_d E 38))] dX8_work_122 rfl (Nat.le_of_ble_eq_true rfl) rfl ?_
    refine ug_sub [(0, .ref (ue_d E 38)), (3, .int 0)] [2, 0] rfl ?_
    exact t_X8_work_b123  UF m5 0 _ h
  · rw [if_neg q4] at h
    refine ug_iload_n 0 dX8_work_103 rfl rfl ?_
    obtain rfl := Option.some.inj h
    exact ug_iret dX8_work_104
def f_X8_work_b68 : Nat → Um → Option (Um × Int32)
  | 0, _ => none
  | n + 1, mem =>
    ubi (f_X8_fine mem) (fun m1 r2 => if r2 = 0 then (f_X8_work_b89 m1) else (ubi (f_X8_isMore m1) (fun m5 r6 => if r6 = 0 then (f_X8_work_b89 m5) else (ubi (f_X8_readStep UD m5) (fun m9 r10 => (f_X8_work_b68  n) m9)))))
set_option maxRecDepth 20000 in
theorem t_X8_work_b68 {l : Launch} {E : Ue} : ∀ (n : Nat) (mem : Um) (z : Um × Int32), f_X8_work_b68  n mem  = some z → ug l E 145 0 0 cX8_work 4 RX8 (some .int) [] (uz_i z) 0 0 68 [(0, .ref (ue_d E 38))] [] mem := by
  intro n
  induction n with
  | zero =>
    intro mem z h
    rw [f_X8_work_b68] at h
    cases h
  | succ n ih =>
    intro mem z h
    rw [f_X8_work_b68] at h
    refine ug_aload_n 0 dX8_work_68 rfl rfl ?_
    obtain ⟨m1, r2, h3, h⟩ := ubi_some h
    refine ug_callVi [] (c_X8_fine  h3) kc_X8_128 ro_38 rfl (S := []) rfl (Nat.le_of_ble_eq_true rfl) (Nat.le_of_ble_eq_true rfl) (Nat.le_of_ble_eq_true rfl) dX8_work_69 ?_
    refine ug_if_eq 89 dX8_work_72 (by decide) (fun q4 => ?_) (fun q4 => ?_)
    · rw [if_pos q4] at h
      exact t_X8_work_b89 m1  _ h
    · rw [if_neg q4] at h
      refine ug_aload_n 0 dX8_work_75 rfl rfl ?_
      obtain ⟨m5, r6, h7, h⟩ := ubi_some h
      refine ug_callVi [] (c_X8_isMore  h7) kc_X8_198 ro_38 rfl (S := []) rfl (Nat.le_of_ble_eq_true rfl) (Nat.le_of_ble_eq_true rfl) (Nat.le_of_ble_eq_true rfl) dX8_work_76 ?_
      refine ug_if_eq 89 dX8_work_79 (by decide) (fun q8 => ?_) (fun q8 => ?_)
      · rw [if_pos q8] at h
        exact t_X8_work_b89 m5  _ h
      · rw [if_neg q8] at h
        refine ug_aload_n 0 dX8_work_82 rfl rfl ?_
        obtain ⟨m9, r10, h11, h⟩ := ubi_some h
        refine ug_callVv [] (c_X8_readStep UD h11) kc_X8_290 ro_38 rfl (S := []) rfl (Nat.le_of_ble_eq_true rfl) (Nat.le_of_ble_eq_true rfl) (Nat.le_of_ble_eq_true rfl) dX8_work_83 ?_
        refine ug_goto 68 dX8_work_86 (by decide) ?_
        exact ih m9  _ h
def f_X8_work_b30 (mem : Um) (x1 : Int32) (y0 : Int32) : Option (Um × Int32) :=
  ubi (f_X8_may mem y0 1 1) (fun m1 r2 => if r2 = 0 then (some (m1, 0)) else (ubi (f_X8_begins m1 x1) (fun m5 r6 => if (m5 38 31) = 16 then (ubi (f_X8_result m5 0) (fun m9 r10 => some (m9, (-20)))) else (f_X8_work_b68  UF (um_w m5 38 30 0)))))
set_option maxRecDepth 20000 in
theorem t_X8_work_b30 {l : Launch} {E : Ue} (mem : Um) (x1 : Int32) (y0 : Int32) (z : Um × Int32) (h : f_X8_work_b30  mem x1 y0 = some z) : ug l E 145 0 0 cX8_work 4 RX8 (some .int) [] (uz_i z) 0 0 30 [(0, .ref (ue_d E 38)), (1, .int x1)] [.int y0, .ref (ue_d E 38)] mem := by
  rw [f_X8_work_b30] at h
  refine ug_iconst dX8_work_30 un_iconst_1 ?_
  refine ug_iconst dX8_work_31 un_iconst_1 ?_
  obtain ⟨m1, r2, h3, h⟩ := ubi_some h
  refine ug_callVi [.int y0, .int 1, .int 1] (c_X8_may  h3) kc_X8_190 ro_38 rfl (S := []) rfl (Nat.le_of_ble_eq_true rfl) (Nat.le_of_ble_eq_true rfl) (Nat.le_of_ble_eq_true rfl) dX8_work_32 ?_
  refine ug_if_ne 40 dX8_work_35 (by decide) (fun q4 => ?_) (fun q4 => ?_)
  · rw [if_neg q4] at h
    refine ug_aload_n 0 dX8_work_40 rfl rfl ?_
    refine ug_iload_n 1 dX8_work_41 rfl rfl ?_
    obtain ⟨m5, r6, h7, h⟩ := ubi_some h
    refine ug_callVv [.int x1] (c_X8_begins  h7) kc_X8_194 ro_38 rfl (S := []) rfl (Nat.le_of_ble_eq_true rfl) (Nat.le_of_ble_eq_true rfl) (Nat.le_of_ble_eq_true rfl) dX8_work_42 ?_
    refine ug_aload_n 0 dX8_work_45 rfl rfl ?_
    refine ug_getI kf_X8_170 gi_38_31 dX8_work_46 ?_
    refine ug_bipush dX8_work_49 un_bipush_16 ?_
    refine ug_icmp_ne 63 dX8_work_51 (by decide) (fun q8 => ?_) (fun q8 => ?_)
    · rw [if_neg q8] at h
      refine ug_aload_n 0 dX8_work_63 rfl rfl ?_
      refine ug_iconst dX8_work_64 un_iconst_0 ?_
      refine ug_putI kp_X8_269 gi_38_30 dX8_work_65 ?_
      refine ug_sub [(0, .ref (ue_d E 38))] [0] rfl ?_
      exact t_X8_work_b68  UF (um_w m5 38 30 0)  _ h
    · rw [if_pos q8] at h
      refine ug_aload_n 0 dX8_work_54 rfl rfl ?_
      refine ug_iconst dX8_work_55 un_iconst_0 ?_
      obtain ⟨m9, r10, h11, h⟩ := ubi_some h
      refine ug_callVi [.int 0] (c_X8_result  h11) kc_X8_219 ro_38 rfl (S := []) rfl (Nat.le_of_ble_eq_true rfl) (Nat.le_of_ble_eq_true rfl) (Nat.le_of_ble_eq_true rfl) dX8_work_56 ?_
      refine ug_pop dX8_work_59 rfl ?_
      refine ug_bipush dX8_work_60 un_bipush_m20 ?_
      obtain rfl := Option.some.inj h
      exact ug_iret dX8_work_62
  · rw [if_pos q4] at h
    refine ug_iconst dX8_work_38 un_iconst_0 ?_
    obtain rfl := Option.some.inj h
    exact ug_iret dX8_work_39
def f_X8_work_b29 (mem : Um) (x1 : Int32) : Option (Um × Int32) :=
  f_X8_work_b30 mem x1 0
set_option maxRecDepth 20000 in
theorem t_X8_work_b29 {l : Launch} {E : Ue} (mem : Um) (x1 : Int32) (z : Um × Int32) (h : f_X8_work_b29  mem x1 = some z) : ug l E 145 0 0 cX8_work 4 RX8 (some .int) [] (uz_i z) 0 0 29 [(0, .ref (ue_d E 38)), (1, .int x1)] [.ref (ue_d E 38)] mem := by
  rw [f_X8_work_b29] at h
  refine ug_iconst dX8_work_29 un_iconst_0 ?_
  exact t_X8_work_b30 mem x1 0 _ h
def f_X8_work (mem : Um) (x1 : Int32) : Option (Um × Int32) :=
  if x1 < 0 then (f_X8_work_b29 (um_w mem 38 0 0) x1) else (if ((um_w mem 38 0 0) 38 2) < x1 then (f_X8_work_b29 (um_w mem 38 0 0) x1) else (if 150 < x1 then (f_X8_work_b29 (um_w mem 38 0 0) x1) else (f_X8_work_b30 (um_w mem 38 0 0) x1 1)))
set_option maxRecDepth 20000 in
theorem t_X8_work {l : Launch} {E : Ue} (mem : Um) (x1 : Int32) (z : Um × Int32) (h : f_X8_work  mem x1 = some z) : ug l E 145 0 0 cX8_work 4 RX8 (some .int) [] (uz_i z) 0 0 0 [(0, .ref (ue_d E 38)), (1, .int x1)] [] mem := by
  rw [f_X8_work] at h
  refine ug_aload_n 0 dX8_work_0 rfl rfl ?_
  refine ug_iconst dX8_work_1 un_iconst_0 ?_
  refine ug_putI kp_X8_3 gi_38_0 dX8_work_2 ?_
  refine ug_aload_n 0 dX8_work_5 rfl rfl ?_
  refine ug_iload_n 1 dX8_work_6 rfl rfl ?_
  refine ug_if_lt 29 dX8_work_7 (by decide) (fun q1 => ?_) (fun q1 => ?_)
  · rw [if_pos q1] at h
    exact t_X8_work_b29 (um_w mem 38 0 0) x1 _ h
  · rw [if_neg q1] at h
    refine ug_iload_n 1 dX8_work_10 rfl rfl ?_
    refine ug_aload_n 0 dX8_work_11 rfl rfl ?_
    refine ug_getI kf_X8_96 gi_38_2 dX8_work_12 ?_
    refine ug_icmp_gt 29 dX8_work_15 (by decide) (fun q2 => ?_) (fun q2 => ?_)
    · rw [if_pos q2] at h
      exact t_X8_work_b29 (um_w mem 38 0 0) x1 _ h
    · rw [if_neg q2] at h
      refine ug_iload_n 1 dX8_work_18 rfl rfl ?_
      refine ug_sipush dX8_work_19 un_sipush_150 ?_
      refine ug_icmp_gt 29 dX8_work_22 (by decide) (fun q3 => ?_) (fun q3 => ?_)
      · rw [if_pos q3] at h
        exact t_X8_work_b29 (um_w mem 38 0 0) x1 _ h
      · rw [if_neg q3] at h
        refine ug_iconst dX8_work_25 un_iconst_1 ?_
        refine ug_goto 30 dX8_work_26 (by decide) ?_
        exact t_X8_work_b30 (um_w mem 38 0 0) x1 1 _ h
theorem c_X8_work {l : Launch} {E : Ue} {mem : Um} {x1 : Int32} {m1 : Um} {r : Int32} (h : f_X8_work  mem x1 = some (m1, r)) : ucr l E 145 0 0 yX8_work cX8_work 4 (some .int) [.ref (ue_d E 38), .int x1] mem (some (.int r)) m1 := ucr_of rfl (Nat.le_of_ble_eq_true rfl) (t_X8_work  mem x1 _ h)
-- X8_book
def f_X8_book_b167 (mem : Um) (x2 : Int32) : Option (Um × Int32) :=
  ubi (f_X8_result mem x2) (fun m1 r2 => if (m1 38 5) = (-1) then (ubi (f_X8_copies 56 57 8 8 (um_w m1 38 41 x2) 8) (fun m5 r6 => some (m5, r2))) else (some (m1, r2)))
set_option maxRecDepth 20000 in
theorem t_X8_book_b167 {l : Launch} {E : Ue} (mem : Um) (x2 : Int32) (z : Um × Int32) (h : f_X8_book_b167  mem x2 = some z) : ug l E 4 0 0 cX8_book 6 RX8 (some .int) [] (uz_i z) 0 0 167 [(0, .ref (ue_d E 38)), (2, .int x2)] [] mem := by
  rw [f_X8_book_b167] at h
  refine ug_aload_n 0 dX8_book_167 rfl rfl ?_
  refine ug_iload_n 1 dX8_book_168 rfl rfl ?_
  obtain ⟨m1, r2, h3, h⟩ := ubi_some h
  refine ug_callVi [.int x2] (c_X8_result  h3) kc_X8_219 ro_38 rfl (S := []) rfl (Nat.le_of_ble_eq_true rfl) (Nat.le_of_ble_eq_true rfl) (Nat.le_of_ble_eq_true rfl) dX8_book_169 ?_
  refine ug_istore_n [(3, .int r2), (0, .ref (ue_d E 38)), (2, .int x2)] dX8_book_172 rfl (Nat.le_of_ble_eq_true rfl) rfl ?_
  refine ug_aload_n 1 dX8_book_173 rfl rfl ?_
  refine ug_getI kf_X8_99 gi_38_5 dX8_book_174 ?_
  refine ug_iconst dX8_book_177 un_iconst_m1 ?_
  refine ug_icmp_eq 183 dX8_book_178 (by decide) (fun q4 => ?_) (fun q4 => ?_)
  · rw [if_pos q4] at h
    refine ug_aload_n 1 dX8_book_183 rfl rfl ?_
    refine ug_iload_n 2 dX8_book_184 rfl rfl ?_
    refine ug_putI kp_X8_167 gi_38_41 dX8_book_185 ?_
    refine ug_aload_n 1 dX8_book_188 rfl rfl ?_
    refine ug_aload_n 1 dX8_book_189 rfl rfl ?_
    refine ug_getR kf_X8_68 gr_38_39 dX8_book_190 ?_
    refine ug_aload_n 1 dX8_book_193 rfl rfl ?_
    refine ug_getR kf_X8_71 gr_38_40 dX8_book_194 ?_
    refine ug_bipush dX8_book_197 un_bipush_8 ?_
    obtain ⟨m5, r6, h7, h⟩ := ubi_some h
    refine ug_callVv [.ref (ue_d E 56), .ref (ue_d E 57), .int 8] (c_X8_copies al_56 al_57 h7) kc_X8_160 ro_38 rfl (S := []) rfl (Nat.le_of_ble_eq_true rfl) (Nat.le_of_ble_eq_true rfl) (Nat.le_of_ble_eq_true rfl) dX8_book_199 ?_
    refine ug_iload_n 0 dX8_book_202 rfl rfl ?_
    obtain rfl := Option.some.inj h
    exact ug_iret dX8_book_203
  · rw [if_neg q4] at h
    refine ug_iload_n 0 dX8_book_181 rfl rfl ?_
    obtain rfl := Option.some.inj h
    exact ug_iret dX8_book_182
def f_X8_book_b128 (k67 : Um → Int32 → Option (Um × Int32)) (mem : Um) (x2 : Int32) (x4 : Int32) : Option (Um × Int32) :=
  ubi (f_X8_readNumber mem 0 5) (fun m1 r2 => ubi (f_X8_sign m1 59) (fun m4 r5 => ubi (f_X8_fine m4) (fun m7 r8 => if r8 = 0 then (f_X8_book_b167 m7 x2) else (ugd (uin x4 8) (k67 (um_w m7 56 x4.toNatClampNeg r2) (x2 + 1))))))
set_option maxRecDepth 20000 in
theorem t_X8_book_b128 {l : Launch} {E : Ue} (k67 : Um → Int32 → Option (Um × Int32)) (hk67 : ∀ (mem : Um) (x2 : Int32) (z : Um × Int32), k67 mem x2 = some z → ug l E 4 0 0 cX8_book 6 RX8 (some .int) [] (uz_i z) 0 0 67 [(0, .ref (ue_d E 38)), (2, .int x2)] [] mem) (mem : Um) (x2 : Int32) (x4 : Int32) (z : Um × Int32) (h : f_X8_book_b128 k67 mem x2 x4 = some z) : ug l E 4 0 0 cX8_book 6 RX8 (some .int) [] (uz_i z) 0 0 128 [(0, .ref (ue_d E 38)), (2, .int x2), (4, .int x4)] [] mem := by
  rw [f_X8_book_b128] at h
  refine ug_aload_n 0 dX8_book_128 rfl rfl ?_
  refine ug_iconst dX8_book_129 un_iconst_0 ?_
  refine ug_iconst dX8_book_130 un_iconst_5 ?_
  obtain ⟨m1, r2, h3, h⟩ := ubi_some h
  refine ug_callVi [.int 0, .int 5] (c_X8_readNumber  h3) kc_X8_186 ro_38 rfl (S := []) rfl (Nat.le_of_ble_eq_true rfl) (Nat.le_of_ble_eq_true rfl) (Nat.le_of_ble_eq_true rfl) dX8_book_131 ?_
  refine ug_istore [(5, .int r2), (0, .ref (ue_d E 38)), (2, .int x2), (4, .int x4)] dX8_book_134 (Nat.le_of_ble_eq_true rfl) rfl ?_
  refine ug_aload_n 1 dX8_book_136 rfl rfl ?_
  refine ug_bipush dX8_book_137 un_bipush_59 ?_
  obtain ⟨m4, r5, h6, h⟩ := ubi_some h
  refine ug_callVv [.int 59] (c_X8_sign  h6) kc_X8_216 ro_38 rfl (S := []) rfl (Nat.le_of_ble_eq_true rfl) (Nat.le_of_ble_eq_true rfl) (Nat.le_of_ble_eq_true rfl) dX8_book_139 ?_
  refine ug_aload_n 1 dX8_book_142 rfl rfl ?_
  obtain ⟨m7, r8, h9, h⟩ := ubi_some h
  refine ug_callVi [] (c_X8_fine  h9) kc_X8_128 ro_38 rfl (S := []) rfl (Nat.le_of_ble_eq_true rfl) (Nat.le_of_ble_eq_true rfl) (Nat.le_of_ble_eq_true rfl) dX8_book_143 ?_
  refine ug_if_ne 152 dX8_book_146 (by decide) (fun q10 => ?_) (fun q10 => ?_)
  · rw [if_neg q10] at h
    refine ug_aload_n 1 dX8_book_152 rfl rfl ?_
    refine ug_getR kf_X8_68 gr_38_39 dX8_book_153 ?_
    refine ug_iload 3 dX8_book_156 rfl ?_
    refine ug_iload 0 dX8_book_158 rfl ?_
    obtain ⟨g11, h⟩ := ugd_some h
    refine ug_iast al_56 (uin_ok g11) dX8_book_160 ?_
    refine ug_iinc (v := (x2 + 1)) [(2, .int (x2 + 1)), (5, .int r2), (0, .ref (ue_d E 38)), (4, .int x4)] 2 dX8_book_161 rfl rfl (Nat.le_of_ble_eq_true rfl) rfl ?_
    refine ug_goto 67 dX8_book_164 (by decide) ?_
    refine ug_sub [(0, .ref (ue_d E 38)), (2, .int (x2 + 1))] [2, 0] rfl ?_
    exact hk67 (um_w m7 56 x4.toNatClampNeg r2) (x2 + 1) _ h
  · rw [if_pos q10] at h
    refine ug_goto 167 dX8_book_149 (by decide) ?_
    refine ug_sub [(0, .ref (ue_d E 38)), (2, .int x2)] [1, 2] rfl ?_
    exact t_X8_book_b167 m7 x2 _ h
def f_X8_book_b67 : Nat → Um → Int32 → Option (Um × Int32)
  | 0, _, _ => none
  | n + 1, mem, x2 =>
    ubi (f_X8_fine mem) (fun m1 r2 => if r2 = 0 then (f_X8_book_b167 m1 x2) else (ubi (f_X8_isMore m1) (fun m5 r6 => if r6 = 0 then (f_X8_book_b167 m5 x2) else (ubi (f_X8_here m5) (fun m9 r10 => ubi (f_X8_readNumber m9 0 ((m9 38 17) - 1)) (fun m12 r13 => ubi (f_X8_fine m12) (fun m15 r16 => if r16 = 0 then (f_X8_book_b128 (f_X8_book_b67  n) m15 x2 r13) else (ugd (uin r13 8) (if (m15 56 r13.toNatClampNeg) = (-1) then (f_X8_book_b128 (f_X8_book_b67  n) m15 x2 r13) else (ubi (f_X8_wrong m15 2 (m9 38 4)) (fun m21 r22 => f_X8_book_b128 (f_X8_book_b67  n) m21 x2 r13)))))))))))
set_option maxRecDepth 20000 in
theorem t_X8_book_b67 {l : Launch} {E : Ue} : ∀ (n : Nat) (mem : Um) (x2 : Int32) (z : Um × Int32), f_X8_book_b67  n mem x2 = some z → ug l E 4 0 0 cX8_book 6 RX8 (some .int) [] (uz_i z) 0 0 67 [(0, .ref (ue_d E 38)), (2, .int x2)] [] mem := by
  intro n
  induction n with
  | zero =>
    intro mem x2 z h
    rw [f_X8_book_b67] at h
    cases h
  | succ n ih =>
    intro mem x2 z h
    rw [f_X8_book_b67] at h
    refine ug_aload_n 0 dX8_book_67 rfl rfl ?_
    obtain ⟨m1, r2, h3, h⟩ := ubi_some h
    refine ug_callVi [] (c_X8_fine  h3) kc_X8_128 ro_38 rfl (S := []) rfl (Nat.le_of_ble_eq_true rfl) (Nat.le_of_ble_eq_true rfl) (Nat.le_of_ble_eq_true rfl) dX8_book_68 ?_
    refine ug_if_eq 167 dX8_book_71 (by decide) (fun q4 => ?_) (fun q4 => ?_)
    · rw [if_pos q4] at h
      exact t_X8_book_b167 m1 x2 _ h
    · rw [if_neg q4] at h
      refine ug_aload_n 0 dX8_book_74 rfl rfl ?_
      obtain ⟨m5, r6, h7, h⟩ := ubi_some h
      refine ug_callVi [] (c_X8_isMore  h7) kc_X8_198 ro_38 rfl (S := []) rfl (Nat.le_of_ble_eq_true rfl) (Nat.le_of_ble_eq_true rfl) (Nat.le_of_ble_eq_true rfl) dX8_book_75 ?_
      refine ug_if_eq 167 dX8_book_78 (by decide) (fun q8 => ?_) (fun q8 => ?_)
      · rw [if_pos q8] at h
        exact t_X8_book_b167 m5 x2 _ h
      · rw [if_neg q8] at h
        refine ug_aload_n 0 dX8_book_81 rfl rfl ?_
        obtain ⟨m9, r10, h11, h⟩ := ubi_some h
        refine ug_callVi [] (c_X8_here  h11) kc_X8_111 ro_38 rfl (S := []) rfl (Nat.le_of_ble_eq_true rfl) (Nat.le_of_ble_eq_true rfl) (Nat.le_of_ble_eq_true rfl) dX8_book_82 ?_
        refine ug_pop dX8_book_85 rfl ?_
        refine ug_aload_n 0 dX8_book_86 rfl rfl ?_
        refine ug_getI kf_X8_105 gi_38_4 dX8_book_87 ?_
        refine ug_istore_n [(3, .int (m9 38 4)), (0, .ref (ue_d E 38)), (2, .int x2)] dX8_book_90 rfl (Nat.le_of_ble_eq_true rfl) rfl ?_
        refine ug_aload_n 1 dX8_book_91 rfl rfl ?_
        refine ug_iconst dX8_book_92 un_iconst_0 ?_
        refine ug_aload_n 1 dX8_book_93 rfl rfl ?_
        refine ug_getI kf_X8_151 gi_38_17 dX8_book_94 ?_
        refine ug_iconst dX8_book_97 un_iconst_1 ?_
        refine ug_isub dX8_book_98 ?_
        obtain ⟨m12, r13, h14, h⟩ := ubi_some h
        refine ug_callVi [.int 0, .int ((m9 38 17) - 1)] (c_X8_readNumber  h14) kc_X8_186 ro_38 rfl (S := []) rfl (Nat.le_of_ble_eq_true rfl) (Nat.le_of_ble_eq_true rfl) (Nat.le_of_ble_eq_true rfl) dX8_book_99 ?_
        refine ug_istore [(4, .int r13), (3, .int (m9 38 4)), (0, .ref (ue_d E 38)), (2, .int x2)] dX8_book_102 (Nat.le_of_ble_eq_true rfl) rfl ?_
        refine ug_aload_n 2 dX8_book_104 rfl rfl ?_
        obtain ⟨m15, r16, h17, h⟩ := ubi_some h
        refine ug_callVi [] (c_X8_fine  h17) kc_X8_128 ro_38 rfl (S := []) rfl (Nat.le_of_ble_eq_true rfl) (Nat.le_of_ble_eq_true rfl) (Nat.le_of_ble_eq_true rfl) dX8_book_105 ?_
        refine ug_if_eq 128 dX8_book_108 (by decide) (fun q18 => ?_) (fun q18 => ?_)
        · rw [if_pos q18] at h
          refine ug_sub [(0, .ref (ue_d E 38)), (2, .int x2), (4, .int r13)] [2, 3, 0] rfl ?_
          exact t_X8_book_b128 (f_X8_book_b67  n) ih m15 x2 r13 _ h
        · rw [if_neg q18] at h
          refine ug_aload_n 2 dX8_book_111 rfl rfl ?_
          refine ug_getR kf_X8_68 gr_38_39 dX8_book_112 ?_
          refine ug_iload 0 dX8_book_115 rfl ?_
          obtain ⟨g19, h⟩ := ugd_some h
          refine ug_iald al_56 (uin_ok g19) dX8_book_117 ?_
          refine ug_iconst dX8_book_118 un_iconst_m1 ?_
          refine ug_icmp_eq 128 dX8_book_119 (by decide) (fun q20 => ?_) (fun q20 => ?_)
          · rw [if_pos q20] at h
            refine ug_sub [(0, .ref (ue_d E 38)), (2, .int x2), (4, .int r13)] [2, 3, 0] rfl ?_
            exact t_X8_book_b128 (f_X8_book_b67  n) ih m15 x2 r13 _ h
          · rw [if_neg q20] at h
            refine ug_aload_n 2 dX8_book_122 rfl rfl ?_
            refine ug_iconst dX8_book_123 un_iconst_2 ?_
            refine ug_iload_n 1 dX8_book_124 rfl rfl ?_
            obtain ⟨m21, r22, h23, h⟩ := ubi_some h
            refine ug_callVv [.int 2, .int (m9 38 4)] (c_X8_wrong  h23) kc_X8_135 ro_38 rfl (S := []) rfl (Nat.le_of_ble_eq_true rfl) (Nat.le_of_ble_eq_true rfl) (Nat.le_of_ble_eq_true rfl) dX8_book_125 ?_
            refine ug_sub [(0, .ref (ue_d E 38)), (2, .int x2), (4, .int r13)] [2, 3, 0] rfl ?_
            exact t_X8_book_b128 (f_X8_book_b67  n) ih m21 x2 r13 _ h
def f_X8_book_b46 : Nat → Um → Int32 → Option (Um × Int32)
  | 0, _, _ => none
  | n + 1, mem, x2 =>
    if 8 ≤ x2 then (f_X8_book_b67  UF mem 0) else (ugd (uin x2 8) ((f_X8_book_b46  n) (um_w mem 56 x2.toNatClampNeg (-1)) (x2 + 1)))
set_option maxRecDepth 20000 in
theorem t_X8_book_b46 {l : Launch} {E : Ue} : ∀ (n : Nat) (mem : Um) (x2 : Int32) (z : Um × Int32), f_X8_book_b46  n mem x2 = some z → ug l E 4 0 0 cX8_book 6 RX8 (some .int) [] (uz_i z) 0 0 46 [(0, .ref (ue_d E 38)), (2, .int x2)] [] mem := by
  intro n
  induction n with
  | zero =>
    intro mem x2 z h
    rw [f_X8_book_b46] at h
    cases h
  | succ n ih =>
    intro mem x2 z h
    rw [f_X8_book_b46] at h
    refine ug_iload_n 1 dX8_book_46 rfl rfl ?_
    refine ug_bipush dX8_book_47 un_bipush_8 ?_
    refine ug_icmp_ge 65 dX8_book_49 (by decide) (fun q1 => ?_) (fun q1 => ?_)
    · rw [if_pos q1] at h
      refine ug_iconst dX8_book_65 un_iconst_0 ?_
      refine ug_istore_n [(2, .int 0), (0, .ref (ue_d E 38))] dX8_book_66 rfl (Nat.le_of_ble_eq_true rfl) rfl ?_
      refine ug_sub [(0, .ref (ue_d E 38)), (2, .int 0)] [1, 0] rfl ?_
      exact t_X8_book_b67  UF mem 0 _ h
    · rw [if_neg q1] at h
      refine ug_aload_n 0 dX8_book_52 rfl rfl ?_
      refine ug_getR kf_X8_68 gr_38_39 dX8_book_53 ?_
      refine ug_iload_n 1 dX8_book_56 rfl rfl ?_
      refine ug_iconst dX8_book_57 un_iconst_m1 ?_
      obtain ⟨g2, h⟩ := ugd_some h
      refine ug_iast al_56 (uin_ok g2) dX8_book_58 ?_
      refine ug_iinc (v := (x2 + 1)) [(2, .int (x2 + 1)), (0, .ref (ue_d E 38))] 1 dX8_book_59 rfl rfl (Nat.le_of_ble_eq_true rfl) rfl ?_
      refine ug_goto 46 dX8_book_62 (by decide) ?_
      refine ug_sub [(0, .ref (ue_d E 38)), (2, .int (x2 + 1))] [1, 0] rfl ?_
      exact ih (um_w mem 56 x2.toNatClampNeg (-1)) (x2 + 1) _ h
def f_X8_book_b29 (mem : Um) (x1 : Int32) (y0 : Int32) : Option (Um × Int32) :=
  ubi (f_X8_may mem y0 1 1) (fun m1 r2 => if r2 = 0 then (some (m1, 0)) else (ubi (f_X8_begins m1 x1) (fun m5 r6 => f_X8_book_b46  UF m5 0)))
set_option maxRecDepth 20000 in
theorem t_X8_book_b29 {l : Launch} {E : Ue} (mem : Um) (x1 : Int32) (y0 : Int32) (z : Um × Int32) (h : f_X8_book_b29  mem x1 y0 = some z) : ug l E 4 0 0 cX8_book 6 RX8 (some .int) [] (uz_i z) 0 0 29 [(0, .ref (ue_d E 38)), (1, .int x1)] [.int y0, .ref (ue_d E 38)] mem := by
  rw [f_X8_book_b29] at h
  refine ug_iconst dX8_book_29 un_iconst_1 ?_
  refine ug_iconst dX8_book_30 un_iconst_1 ?_
  obtain ⟨m1, r2, h3, h⟩ := ubi_some h
  refine ug_callVi [.int y0, .int 1, .int 1] (c_X8_may  h3) kc_X8_190 ro_38 rfl (S := []) rfl (Nat.le_of_ble_eq_true rfl) (Nat.le_of_ble_eq_true rfl) (Nat.le_of_ble_eq_true rfl) dX8_book_31 ?_
  refine ug_if_ne 39 dX8_book_34 (by decide) (fun q4 => ?_) (fun q4 => ?_)
  · rw [if_neg q4] at h
    refine ug_aload_n 0 dX8_book_39 rfl rfl ?_
    refine ug_iload_n 1 dX8_book_40 rfl rfl ?_
    obtain ⟨m5, r6, h7, h⟩ := ubi_some h
    refine ug_callVv [.int x1] (c_X8_begins  h7) kc_X8_194 ro_38 rfl (S := []) rfl (Nat.le_of_ble_eq_true rfl) (Nat.le_of_ble_eq_true rfl) (Nat.le_of_ble_eq_true rfl) dX8_book_41 ?_
    refine ug_iconst dX8_book_44 un_iconst_0 ?_
    refine ug_istore_n [(2, .int 0), (0, .ref (ue_d E 38)), (1, .int x1)] dX8_book_45 rfl (Nat.le_of_ble_eq_true rfl) rfl ?_
    refine ug_sub [(0, .ref (ue_d E 38)), (2, .int 0)] [1, 0] rfl ?_
    exact t_X8_book_b46  UF m5 0 _ h
  · rw [if_pos q4] at h
    refine ug_iconst dX8_book_37 un_iconst_0 ?_
    obtain rfl := Option.some.inj h
    exact ug_iret dX8_book_38
def f_X8_book_b28 (mem : Um) (x1 : Int32) : Option (Um × Int32) :=
  f_X8_book_b29 mem x1 0
set_option maxRecDepth 20000 in
theorem t_X8_book_b28 {l : Launch} {E : Ue} (mem : Um) (x1 : Int32) (z : Um × Int32) (h : f_X8_book_b28  mem x1 = some z) : ug l E 4 0 0 cX8_book 6 RX8 (some .int) [] (uz_i z) 0 0 28 [(0, .ref (ue_d E 38)), (1, .int x1)] [.ref (ue_d E 38)] mem := by
  rw [f_X8_book_b28] at h
  refine ug_iconst dX8_book_28 un_iconst_0 ?_
  exact t_X8_book_b29 mem x1 0 _ h
def f_X8_book (mem : Um) (x1 : Int32) : Option (Um × Int32) :=
  if x1 < 0 then (f_X8_book_b28 (um_w mem 38 0 0) x1) else (if ((um_w mem 38 0 0) 38 2) < x1 then (f_X8_book_b28 (um_w mem 38 0 0) x1) else (if 60 < x1 then (f_X8_book_b28 (um_w mem 38 0 0) x1) else (f_X8_book_b29 (um_w mem 38 0 0) x1 1)))
set_option maxRecDepth 20000 in
theorem t_X8_book {l : Launch} {E : Ue} (mem : Um) (x1 : Int32) (z : Um × Int32) (h : f_X8_book  mem x1 = some z) : ug l E 4 0 0 cX8_book 6 RX8 (some .int) [] (uz_i z) 0 0 0 [(0, .ref (ue_d E 38)), (1, .int x1)] [] mem := by
  rw [f_X8_book] at h
  refine ug_aload_n 0 dX8_book_0 rfl rfl ?_
  refine ug_iconst dX8_book_1 un_iconst_0 ?_
  refine ug_putI kp_X8_3 gi_38_0 dX8_book_2 ?_
  refine ug_aload_n 0 dX8_book_5 rfl rfl ?_
  refine ug_iload_n 1 dX8_book_6 rfl rfl ?_
  refine ug_if_lt 28 dX8_book_7 (by decide) (fun q1 => ?_) (fun q1 => ?_)
  · rw [if_pos q1] at h
    exact t_X8_book_b28 (um_w mem 38 0 0) x1 _ h
  · rw [if_neg q1] at h
    refine ug_iload_n 1 dX8_book_10 rfl rfl ?_
    refine ug_aload_n 0 dX8_book_11 rfl rfl ?_
    refine ug_getI kf_X8_96 gi_38_2 dX8_book_12 ?_
    refine ug_icmp_gt 28 dX8_book_15 (by decide) (fun q2 => ?_) (fun q2 => ?_)
    · rw [if_pos q2] at h
      exact t_X8_book_b28 (um_w mem 38 0 0) x1 _ h
    · rw [if_neg q2] at h
      refine ug_iload_n 1 dX8_book_18 rfl rfl ?_
      refine ug_bipush dX8_book_19 un_bipush_60 ?_
      refine ug_icmp_gt 28 dX8_book_21 (by decide) (fun q3 => ?_) (fun q3 => ?_)
      · rw [if_pos q3] at h
        exact t_X8_book_b28 (um_w mem 38 0 0) x1 _ h
      · rw [if_neg q3] at h
        refine ug_iconst dX8_book_24 un_iconst_1 ?_
        refine ug_goto 29 dX8_book_25 (by decide) ?_
        exact t_X8_book_b29 (um_w mem 38 0 0) x1 1 _ h
theorem c_X8_book {l : Launch} {E : Ue} {mem : Um} {x1 : Int32} {m1 : Um} {r : Int32} (h : f_X8_book  mem x1 = some (m1, r)) : ucr l E 4 0 0 yX8_book cX8_book 6 (some .int) [.ref (ue_d E 38), .int x1] mem (some (.int r)) m1 := ucr_of rfl (Nat.le_of_ble_eq_true rfl) (t_X8_book  mem x1 _ h)
-- X8_undo
def f_X8_undo_b26 : Nat → Um → Int32 → Option (Um × Int32)
  | 0, _, _ => none
  | n + 1, mem, x1 =>
    if 28 ≤ x1 then (some ((um_w mem 38 32 0), ((um_w mem 38 32 0) 38 31))) else (ugd (uin ((28 * (mem 38 31)) + x1) 448) (ugd (uin x1 28) ((f_X8_undo_b26  n) (um_w mem 53 x1.toNatClampNeg (mem 55 ((28 * (mem 38 31)) + x1).toNatClampNeg)) (x1 + 1))))
set_option maxRecDepth 20000 in
theorem t_X8_undo_b26 {l : Launch} {E : Ue} : ∀ (n : Nat) (mem : Um) (x1 : Int32) (z : Um × Int32), f_X8_undo_b26  n mem x1 = some z → ug l E 2 0 0 cX8_undo 2 RX8 (some .int) [] (uz_i z) 0 0 26 [(0, .ref (ue_d E 38)), (1, .int x1)] [] mem := by
  intro n
  induction n with
  | zero =>
    intro mem x1 z h
    rw [f_X8_undo_b26] at h
    cases h
  | succ n ih =>
    intro mem x1 z h
    rw [f_X8_undo_b26] at h
    refine ug_iload_n 1 dX8_undo_26 rfl rfl ?_
    refine ug_bipush dX8_undo_27 un_bipush_28 ?_
    refine ug_icmp_ge 58 dX8_undo_29 (by decide) (fun q1 => ?_) (fun q1 => ?_)
    · rw [if_pos q1] at h
      refine ug_aload_n 0 dX8_undo_58 rfl rfl ?_
      refine ug_iconst dX8_undo_59 un_iconst_0 ?_
      refine ug_putI kp_X8_176 gi_38_32 dX8_undo_60 ?_
      refine ug_aload_n 0 dX8_undo_63 rfl rfl ?_
      refine ug_getI kf_X8_170 gi_38_31 dX8_undo_64 ?_
      obtain rfl := Option.some.inj h
      exact ug_iret dX8_undo_67
    · rw [if_neg q1] at h
      refine ug_aload_n 0 dX8_undo_32 rfl rfl ?_
      refine ug_getR kf_X8_59 gr_38_36 dX8_undo_33 ?_
      refine ug_iload_n 1 dX8_undo_36 rfl rfl ?_
      refine ug_aload_n 0 dX8_undo_37 rfl rfl ?_
      refine ug_getR kf_X8_65 gr_38_38 dX8_undo_38 ?_
      refine ug_bipush dX8_undo_41 un_bipush_28 ?_
      refine ug_aload_n 0 dX8_undo_43 rfl rfl ?_
      refine ug_getI kf_X8_170 gi_38_31 dX8_undo_44 ?_
      refine ug_imul dX8_undo_47 ?_
      refine ug_iload_n 1 dX8_undo_48 rfl rfl ?_
      refine ug_iadd dX8_undo_49 ?_
      obtain ⟨g2, h⟩ := ugd_some h
      refine ug_iald al_55 (uin_ok g2) dX8_undo_50 ?_
      obtain ⟨g3, h⟩ := ugd_some h
      refine ug_iast al_53 (uin_ok g3) dX8_undo_51 ?_
      refine ug_iinc (v := (x1 + 1)) [(1, .int (x1 + 1)), (0, .ref (ue_d E 38))] 1 dX8_undo_52 rfl rfl (Nat.le_of_ble_eq_true rfl) rfl ?_
      refine ug_goto 26 dX8_undo_55 (by decide) ?_
      refine ug_sub [(0, .ref (ue_d E 38)), (1, .int (x1 + 1))] [1, 0] rfl ?_
      exact ih (um_w mem 53 x1.toNatClampNeg (mem 55 ((28 * (mem 38 31)) + x1).toNatClampNeg)) (x1 + 1) _ h
def f_X8_undo (mem : Um) : Option (Um × Int32) :=
  if ((um_w mem 38 0 0) 38 31) = 0 then (some ((um_w mem 38 0 0), (-1))) else (f_X8_undo_b26  UF (um_w (um_w mem 38 0 0) 38 31 (((um_w mem 38 0 0) 38 31) - 1)) 0)
set_option maxRecDepth 20000 in
theorem t_X8_undo {l : Launch} {E : Ue} (mem : Um) (z : Um × Int32) (h : f_X8_undo  mem  = some z) : ug l E 2 0 0 cX8_undo 2 RX8 (some .int) [] (uz_i z) 0 0 0 [(0, .ref (ue_d E 38))] [] mem := by
  rw [f_X8_undo] at h
  refine ug_aload_n 0 dX8_undo_0 rfl rfl ?_
  refine ug_iconst dX8_undo_1 un_iconst_0 ?_
  refine ug_putI kp_X8_3 gi_38_0 dX8_undo_2 ?_
  refine ug_aload_n 0 dX8_undo_5 rfl rfl ?_
  refine ug_getI kf_X8_170 gi_38_31 dX8_undo_6 ?_
  refine ug_if_ne 14 dX8_undo_9 (by decide) (fun q1 => ?_) (fun q1 => ?_)
  · rw [if_neg q1] at h
    refine ug_aload_n 0 dX8_undo_14 rfl rfl ?_
    refine ug_dup dX8_undo_15 rfl ?_
    refine ug_getI kf_X8_170 gi_38_31 dX8_undo_16 ?_
    refine ug_iconst dX8_undo_19 un_iconst_1 ?_
    refine ug_isub dX8_undo_20 ?_
    refine ug_putI kp_X8_170 gi_38_31 dX8_undo_21 ?_
    refine ug_iconst dX8_undo_24 un_iconst_0 ?_
    refine ug_istore_n [(1, .int 0), (0, .ref (ue_d E 38))] dX8_undo_25 rfl (Nat.le_of_ble_eq_true rfl) rfl ?_
    refine ug_sub [(0, .ref (ue_d E 38)), (1, .int 0)] [1, 0] rfl ?_
    exact t_X8_undo_b26  UF (um_w (um_w mem 38 0 0) 38 31 (((um_w mem 38 0 0) 38 31) - 1)) 0 _ h
  · rw [if_pos q1] at h
    refine ug_iconst dX8_undo_12 un_iconst_m1 ?_
    obtain rfl := Option.some.inj h
    exact ug_iret dX8_undo_13
theorem c_X8_undo {l : Launch} {E : Ue} {mem : Um} {m1 : Um} {r : Int32} (h : f_X8_undo  mem  = some (m1, r)) : ucr l E 2 0 0 yX8_undo cX8_undo 2 (some .int) [.ref (ue_d E 38)] mem (some (.int r)) m1 := ucr_of rfl (Nat.le_of_ble_eq_true rfl) (t_X8_undo  mem  _ h)
-- X8_worthAll
def f_X8_worthAll_b36 (k4 : Um → Int32 → Int32 → Option (Um × Int32)) (mem : Um) (x2 : Int32) (y0 : Int32) (y1 : Int32) : Option (Um × Int32) :=
  k4 mem (y1 + y0) (x2 + 1)
set_option maxRecDepth 20000 in
theorem t_X8_worthAll_b36 {l : Launch} {E : Ue} (k4 : Um → Int32 → Int32 → Option (Um × Int32)) (hk4 : ∀ (mem : Um) (x1 : Int32) (x2 : Int32) (z : Um × Int32), k4 mem x1 x2 = some z → ug l E 5 0 0 cX8_worthAll 3 RX8 (some .int) [] (uz_i z) 0 0 4 [(0, .ref (ue_d E 38)), (1, .int x1), (2, .int x2)] [] mem) (mem : Um) (x2 : Int32) (y0 : Int32) (y1 : Int32) (z : Um × Int32) (h : f_X8_worthAll_b36 k4 mem x2 y0 y1 = some z) : ug l E 5 0 0 cX8_worthAll 3 RX8 (some .int) [] (uz_i z) 0 0 36 [(0, .ref (ue_d E 38)), (2, .int x2)] [.int y0, .int y1] mem := by
  rw [f_X8_worthAll_b36] at h
  refine ug_iadd dX8_worthAll_36 ?_
  refine ug_istore_n [(1, .int (y1 + y0)), (0, .ref (ue_d E 38)), (2, .int x2)] dX8_worthAll_37 rfl (Nat.le_of_ble_eq_true rfl) rfl ?_
  refine ug_iinc (v := (x2 + 1)) [(2, .int (x2 + 1)), (1, .int (y1 + y0)), (0, .ref (ue_d E 38))] 2 dX8_worthAll_38 rfl rfl (Nat.le_of_ble_eq_true rfl) rfl ?_
  refine ug_goto 4 dX8_worthAll_41 (by decide) ?_
  refine ug_sub [(0, .ref (ue_d E 38)), (1, .int (y1 + y0)), (2, .int (x2 + 1))] [2, 1, 0] rfl ?_
  exact hk4 mem (y1 + y0) (x2 + 1) _ h
def f_X8_worthAll_b4 : Nat → Um → Int32 → Int32 → Option (Um × Int32)
  | 0, _, _, _ => none
  | n + 1, mem, x1, x2 =>
    if (mem 38 17) ≤ x2 then (some (mem, x1)) else (ubi (f_X8_ownerOf mem x2) (fun m2 r3 => if r3 = (-1) then (f_X8_worthAll_b36 (f_X8_worthAll_b4  n) m2 x2 0 x1) else (ugd (uin ((2 * x2) + 1) 16) (f_X8_worthAll_b36 (f_X8_worthAll_b4  n) m2 x2 (m2 43 ((2 * x2) + 1).toNatClampNeg) x1))))
set_option maxRecDepth 20000 in
theorem t_X8_worthAll_b4 {l : Launch} {E : Ue} : ∀ (n : Nat) (mem : Um) (x1 : Int32) (x2 : Int32) (z : Um × Int32), f_X8_worthAll_b4  n mem x1 x2 = some z → ug l E 5 0 0 cX8_worthAll 3 RX8 (some .int) [] (uz_i z) 0 0 4 [(0, .ref (ue_d E 38)), (1, .int x1), (2, .int x2)] [] mem := by
  intro n
  induction n with
  | zero =>
    intro mem x1 x2 z h
    rw [f_X8_worthAll_b4] at h
    cases h
  | succ n ih =>
    intro mem x1 x2 z h
    rw [f_X8_worthAll_b4] at h
    refine ug_iload_n 2 dX8_worthAll_4 rfl rfl ?_
    refine ug_aload_n 0 dX8_worthAll_5 rfl rfl ?_
    refine ug_getI kf_X8_151 gi_38_17 dX8_worthAll_6 ?_
    refine ug_icmp_ge 44 dX8_worthAll_9 (by decide) (fun q1 => ?_) (fun q1 => ?_)
    · rw [if_pos q1] at h
      refine ug_iload_n 1 dX8_worthAll_44 rfl rfl ?_
      obtain rfl := Option.some.inj h
      exact ug_iret dX8_worthAll_45
    · rw [if_neg q1] at h
      refine ug_iload_n 1 dX8_worthAll_12 rfl rfl ?_
      refine ug_aload_n 0 dX8_worthAll_13 rfl rfl ?_
      refine ug_iload_n 2 dX8_worthAll_14 rfl rfl ?_
      obtain ⟨m2, r3, h4, h⟩ := ubi_some h
      refine ug_callVi [.int x2] (c_X8_ownerOf  h4) kc_X8_327 ro_38 rfl (S := [.int x1]) rfl (Nat.le_of_ble_eq_true rfl) (Nat.le_of_ble_eq_true rfl) (Nat.le_of_ble_eq_true rfl) dX8_worthAll_15 ?_
      refine ug_iconst dX8_worthAll_18 un_iconst_m1 ?_
      refine ug_icmp_eq 35 dX8_worthAll_19 (by decide) (fun q5 => ?_) (fun q5 => ?_)
      · rw [if_pos q5] at h
        refine ug_iconst dX8_worthAll_35 un_iconst_0 ?_
        refine ug_sub [(0, .ref (ue_d E 38)), (2, .int x2)] [0, 2] rfl ?_
        exact t_X8_worthAll_b36 (f_X8_worthAll_b4  n) ih m2 x2 0 x1 _ h
      · rw [if_neg q5] at h
        refine ug_aload_n 0 dX8_worthAll_22 rfl rfl ?_
        refine ug_getR kf_X8_29 gr_38_12 dX8_worthAll_23 ?_
        refine ug_iconst dX8_worthAll_26 un_iconst_2 ?_
        refine ug_iload_n 2 dX8_worthAll_27 rfl rfl ?_
        refine ug_imul dX8_worthAll_28 ?_
        refine ug_iconst dX8_worthAll_29 un_iconst_1 ?_
        refine ug_iadd dX8_worthAll_30 ?_
        obtain ⟨g6, h⟩ := ugd_some h
        refine ug_iald al_43 (uin_ok g6) dX8_worthAll_31 ?_
        refine ug_goto 36 dX8_worthAll_32 (by decide) ?_
        refine ug_sub [(0, .ref (ue_d E 38)), (2, .int x2)] [0, 2] rfl ?_
        exact t_X8_worthAll_b36 (f_X8_worthAll_b4  n) ih m2 x2 (m2 43 ((2 * x2) + 1).toNatClampNeg) x1 _ h
def f_X8_worthAll (mem : Um) : Option (Um × Int32) :=
  f_X8_worthAll_b4  UF mem 0 0
set_option maxRecDepth 20000 in
theorem t_X8_worthAll {l : Launch} {E : Ue} (mem : Um) (z : Um × Int32) (h : f_X8_worthAll  mem  = some z) : ug l E 5 0 0 cX8_worthAll 3 RX8 (some .int) [] (uz_i z) 0 0 0 [(0, .ref (ue_d E 38))] [] mem := by
  rw [f_X8_worthAll] at h
  refine ug_iconst dX8_worthAll_0 un_iconst_0 ?_
  refine ug_istore_n [(1, .int 0), (0, .ref (ue_d E 38))] dX8_worthAll_1 rfl (Nat.le_of_ble_eq_true rfl) rfl ?_
  refine ug_iconst dX8_worthAll_2 un_iconst_0 ?_
  refine ug_istore_n [(2, .int 0), (1, .int 0), (0, .ref (ue_d E 38))] dX8_worthAll_3 rfl (Nat.le_of_ble_eq_true rfl) rfl ?_
  refine ug_sub [(0, .ref (ue_d E 38)), (1, .int 0), (2, .int 0)] [2, 1, 0] rfl ?_
  exact t_X8_worthAll_b4  UF mem 0 0 _ h
theorem c_X8_worthAll {l : Launch} {E : Ue} {mem : Um} {m1 : Um} {r : Int32} (h : f_X8_worthAll  mem  = some (m1, r)) : ucr l E 5 0 0 yX8_worthAll cX8_worthAll 3 (some .int) [.ref (ue_d E 38)] mem (some (.int r)) m1 := ucr_of rfl (Nat.le_of_ble_eq_true rfl) (t_X8_worthAll  mem  _ h)
-- X8_touchings
def f_X8_touchings_b4 : Nat → Um → Int32 → Int32 → Option (Um × Int32)
  | 0, _, _, _ => none
  | n + 1, mem, x1, x2 =>
    if (mem 38 18) ≤ x2 then (some (mem, (x1 / 2))) else (ubi (f_X8_touchingOf mem x2) (fun m2 r3 => ubi (f_X8_ones m2 r3) (fun m5 r6 => (f_X8_touchings_b4  n) m5 (x1 + r6) (x2 + 1))))
set_option maxRecDepth 20000 in
theorem t_X8_touchings_b4 {l : Launch} {E : Ue} : ∀ (n : Nat) (mem : Um) (x1 : Int32) (x2 : Int32) (z : Um × Int32), f_X8_touchings_b4  n mem x1 x2 = some z → ug l E 5 0 0 cX8_touchings 3 RX8 (some .int) [] (uz_i z) 0 0 4 [(0, .ref (ue_d E 38)), (1, .int x1), (2, .int x2)] [] mem := by
  intro n
  induction n with
  | zero =>
    intro mem x1 x2 z h
    rw [f_X8_touchings_b4] at h
    cases h
  | succ n ih =>
    intro mem x1 x2 z h
    rw [f_X8_touchings_b4] at h
    refine ug_iload_n 2 dX8_touchings_4 rfl rfl ?_
    refine ug_aload_n 0 dX8_touchings_5 rfl rfl ?_
    refine ug_getI kf_X8_154 gi_38_18 dX8_touchings_6 ?_
    refine ug_icmp_ge 29 dX8_touchings_9 (by decide) (fun q1 => ?_) (fun q1 => ?_)
    · rw [if_pos q1] at h
      refine ug_iload_n 1 dX8_touchings_29 rfl rfl ?_
      refine ug_iconst dX8_touchings_30 un_iconst_2 ?_
      refine ug_idiv dX8_touchings_31 (by decide) ?_
      obtain rfl := Option.some.inj h
      exact ug_iret dX8_touchings_32
    · rw [if_neg q1] at h
      refine ug_iload_n 1 dX8_touchings_12 rfl rfl ?_
      refine ug_aload_n 0 dX8_touchings_13 rfl rfl ?_
      refine ug_iload_n 2 dX8_touchings_14 rfl rfl ?_
      obtain ⟨m2, r3, h4, h⟩ := ubi_some h
      refine ug_callVi [.int x2] (c_X8_touchingOf  h4) kc_X8_336 ro_38 rfl (S := [.int x1]) rfl (Nat.le_of_ble_eq_true rfl) (Nat.le_of_ble_eq_true rfl) (Nat.le_of_ble_eq_true rfl) dX8_touchings_15 ?_
      obtain ⟨m5, r6, h7, h⟩ := ubi_some h
      refine ug_callSi [.int r3] (c_X8_ones  h7) kc_X8_339 rfl (S := [.int x1]) rfl (Nat.le_of_ble_eq_true rfl) (Nat.le_of_ble_eq_true rfl) (Nat.le_of_ble_eq_true rfl) dX8_touchings_18 ?_
      refine ug_iadd dX8_touchings_21 ?_
      refine ug_istore_n [(1, .int (x1 + r6)), (0, .ref (ue_d E 38)), (2, .int x2)] dX8_touchings_22 rfl (Nat.le_of_ble_eq_true rfl) rfl ?_
      refine ug_iinc (v := (x2 + 1)) [(2, .int (x2 + 1)), (1, .int (x1 + r6)), (0, .ref (ue_d E 38))] 2 dX8_touchings_23 rfl rfl (Nat.le_of_ble_eq_true rfl) rfl ?_
      refine ug_goto 4 dX8_touchings_26 (by decide) ?_
      refine ug_sub [(0, .ref (ue_d E 38)), (1, .int (x1 + r6)), (2, .int (x2 + 1))] [2, 1, 0] rfl ?_
      exact ih m5 (x1 + r6) (x2 + 1) _ h
def f_X8_touchings (mem : Um) : Option (Um × Int32) :=
  f_X8_touchings_b4  UF mem 0 0
set_option maxRecDepth 20000 in
theorem t_X8_touchings {l : Launch} {E : Ue} (mem : Um) (z : Um × Int32) (h : f_X8_touchings  mem  = some z) : ug l E 5 0 0 cX8_touchings 3 RX8 (some .int) [] (uz_i z) 0 0 0 [(0, .ref (ue_d E 38))] [] mem := by
  rw [f_X8_touchings] at h
  refine ug_iconst dX8_touchings_0 un_iconst_0 ?_
  refine ug_istore_n [(1, .int 0), (0, .ref (ue_d E 38))] dX8_touchings_1 rfl (Nat.le_of_ble_eq_true rfl) rfl ?_
  refine ug_iconst dX8_touchings_2 un_iconst_0 ?_
  refine ug_istore_n [(2, .int 0), (1, .int 0), (0, .ref (ue_d E 38))] dX8_touchings_3 rfl (Nat.le_of_ble_eq_true rfl) rfl ?_
  refine ug_sub [(0, .ref (ue_d E 38)), (1, .int 0), (2, .int 0)] [2, 1, 0] rfl ?_
  exact t_X8_touchings_b4  UF mem 0 0 _ h
theorem c_X8_touchings {l : Launch} {E : Ue} {mem : Um} {m1 : Um} {r : Int32} (h : f_X8_touchings  mem  = some (m1, r)) : ucr l E 5 0 0 yX8_touchings cX8_touchings 3 (some .int) [.ref (ue_d E 38)] mem (some (.int r)) m1 := ucr_of rfl (Nat.le_of_ble_eq_true rfl) (t_X8_touchings  mem  _ h)
-- X8_purses
def f_X8_purses_b4 : Nat → Um → Int32 → Int32 → Option (Um × Int32)
  | 0, _, _, _ => none
  | n + 1, mem, x1, x2 =>
    if (mem 38 18) ≤ x2 then (some (mem, x1)) else (ugd (uin (0 + x2) 28) ((f_X8_purses_b4  n) mem (x1 + (mem 54 (0 + x2).toNatClampNeg)) (x2 + 1)))
set_option maxRecDepth 20000 in
theorem t_X8_purses_b4 {l : Launch} {E : Ue} : ∀ (n : Nat) (mem : Um) (x1 : Int32) (x2 : Int32) (z : Um × Int32), f_X8_purses_b4  n mem x1 x2 = some z → ug l E 2 0 0 cX8_purses 3 RX8 (some .int) [] (uz_i z) 0 0 4 [(0, .ref (ue_d E 38)), (1, .int x1), (2, .int x2)] [] mem := by
  intro n
  induction n with
  | zero =>
    intro mem x1 x2 z h
    rw [f_X8_purses_b4] at h
    cases h
  | succ n ih =>
    intro mem x1 x2 z h
    rw [f_X8_purses_b4] at h
    refine ug_iload_n 2 dX8_purses_4 rfl rfl ?_
    refine ug_aload_n 0 dX8_purses_5 rfl rfl ?_
    refine ug_getI kf_X8_154 gi_38_18 dX8_purses_6 ?_
    refine ug_icmp_ge 29 dX8_purses_9 (by decide) (fun q1 => ?_) (fun q1 => ?_)
    · rw [if_pos q1] at h
      refine ug_iload_n 1 dX8_purses_29 rfl rfl ?_
      obtain rfl := Option.some.inj h
      exact ug_iret dX8_purses_30
    · rw [if_neg q1] at h
      refine ug_iload_n 1 dX8_purses_12 rfl rfl ?_
      refine ug_aload_n 0 dX8_purses_13 rfl rfl ?_
      refine ug_getR kf_X8_62 gr_38_37 dX8_purses_14 ?_
      refine ug_iconst dX8_purses_17 un_iconst_0 ?_
      refine ug_iload_n 2 dX8_purses_18 rfl rfl ?_
      refine ug_iadd dX8_purses_19 ?_
      obtain ⟨g2, h⟩ := ugd_some h
      refine ug_iald al_54 (uin_ok g2) dX8_purses_20 ?_
      refine ug_iadd dX8_purses_21 ?_
      refine ug_istore_n [(1, .int (x1 + (mem 54 (0 + x2).toNatClampNeg))), (0, .ref (ue_d E 38)), (2, .int x2)] dX8_purses_22 rfl (Nat.le_of_ble_eq_true rfl) rfl ?_
      refine ug_iinc (v := (x2 + 1)) [(2, .int (x2 + 1)), (1, .int (x1 + (mem 54 (0 + x2).toNatClampNeg))), (0, .ref (ue_d E 38))] 2 dX8_purses_23 rfl rfl (Nat.le_of_ble_eq_true rfl) rfl ?_
      refine ug_goto 4 dX8_purses_26 (by decide) ?_
      refine ug_sub [(0, .ref (ue_d E 38)), (1, .int (x1 + (mem 54 (0 + x2).toNatClampNeg))), (2, .int (x2 + 1))] [2, 1, 0] rfl ?_
      exact ih mem (x1 + (mem 54 (0 + x2).toNatClampNeg)) (x2 + 1) _ h
def f_X8_purses (mem : Um) : Option (Um × Int32) :=
  f_X8_purses_b4  UF mem 0 0
set_option maxRecDepth 20000 in
theorem t_X8_purses {l : Launch} {E : Ue} (mem : Um) (z : Um × Int32) (h : f_X8_purses  mem  = some z) : ug l E 2 0 0 cX8_purses 3 RX8 (some .int) [] (uz_i z) 0 0 0 [(0, .ref (ue_d E 38))] [] mem := by
  rw [f_X8_purses] at h
  refine ug_iconst dX8_purses_0 un_iconst_0 ?_
  refine ug_istore_n [(1, .int 0), (0, .ref (ue_d E 38))] dX8_purses_1 rfl (Nat.le_of_ble_eq_true rfl) rfl ?_
  refine ug_iconst dX8_purses_2 un_iconst_0 ?_
  refine ug_istore_n [(2, .int 0), (1, .int 0), (0, .ref (ue_d E 38))] dX8_purses_3 rfl (Nat.le_of_ble_eq_true rfl) rfl ?_
  refine ug_sub [(0, .ref (ue_d E 38)), (1, .int 0), (2, .int 0)] [2, 1, 0] rfl ?_
  exact t_X8_purses_b4  UF mem 0 0 _ h
theorem c_X8_purses {l : Launch} {E : Ue} {mem : Um} {m1 : Um} {r : Int32} (h : f_X8_purses  mem  = some (m1, r)) : ucr l E 2 0 0 yX8_purses cX8_purses 3 (some .int) [.ref (ue_d E 38)] mem (some (.int r)) m1 := ucr_of rfl (Nat.le_of_ble_eq_true rfl) (t_X8_purses  mem  _ h)
-- X8_told
def f_X8_told_b165 (mem : Um) (y0 : Int32) : Option (Um × Int32) :=
  some (mem, y0)
set_option maxRecDepth 20000 in
theorem t_X8_told_b165 {l : Launch} {E : Ue} (mem : Um) (y0 : Int32) (z : Um × Int32) (h : f_X8_told_b165  mem y0 = some z) : ug l E 6 0 0 cX8_told 2 RX8 (some .int) [] (uz_i z) 0 0 165 [] [.int y0] mem := by
  rw [f_X8_told_b165] at h
  obtain rfl := Option.some.inj h
  exact ug_iret dX8_told_165
def f_X8_told_b134 (mem : Um) (y0 : Int32) : Option (Um × Int32) :=
  some (mem, y0)
set_option maxRecDepth 20000 in
theorem t_X8_told_b134 {l : Launch} {E : Ue} (mem : Um) (y0 : Int32) (z : Um × Int32) (h : f_X8_told_b134  mem y0 = some z) : ug l E 6 0 0 cX8_told 2 RX8 (some .int) [] (uz_i z) 0 0 134 [] [.int y0] mem := by
  rw [f_X8_told_b134] at h
  obtain rfl := Option.some.inj h
  exact ug_iret dX8_told_134
def f_X8_told_b110 (mem : Um) (y0 : Int32) : Option (Um × Int32) :=
  some (mem, y0)
set_option maxRecDepth 20000 in
theorem t_X8_told_b110 {l : Launch} {E : Ue} (mem : Um) (y0 : Int32) (z : Um × Int32) (h : f_X8_told_b110  mem y0 = some z) : ug l E 6 0 0 cX8_told 2 RX8 (some .int) [] (uz_i z) 0 0 110 [] [.int y0] mem := by
  rw [f_X8_told_b110] at h
  obtain rfl := Option.some.inj h
  exact ug_iret dX8_told_110
def f_X8_told_b109 (mem : Um) (y0 : Int32) : Option (Um × Int32) :=
  ugd (uin y0 28) (f_X8_told_b110 mem (mem 54 y0.toNatClampNeg))
set_option maxRecDepth 20000 in
theorem t_X8_told_b109 {l : Launch} {E : Ue} (mem : Um) (y0 : Int32) (z : Um × Int32) (h : f_X8_told_b109  mem y0 = some z) : ug l E 6 0 0 cX8_told 2 RX8 (some .int) [] (uz_i z) 0 0 109 [] [.int y0, .ref (ue_d E 54)] mem := by
  rw [f_X8_told_b109] at h
  obtain ⟨g1, h⟩ := ugd_some h
  refine ug_iald al_54 (uin_ok g1) dX8_told_109 ?_
  exact t_X8_told_b110 mem (mem 54 y0.toNatClampNeg) _ h
def f_X8_told_b74 (mem : Um) (y0 : Int32) : Option (Um × Int32) :=
  some (mem, y0)
set_option maxRecDepth 20000 in
theorem t_X8_told_b74 {l : Launch} {E : Ue} (mem : Um) (y0 : Int32) (z : Um × Int32) (h : f_X8_told_b74  mem y0 = some z) : ug l E 6 0 0 cX8_told 2 RX8 (some .int) [] (uz_i z) 0 0 74 [] [.int y0] mem := by
  rw [f_X8_told_b74] at h
  obtain rfl := Option.some.inj h
  exact ug_iret dX8_told_74
def f_X8_told (mem : Um) (x1 : Int32) : Option (Um × Int32) :=
  ubi (f_X8_within (um_w mem 38 0 0) x1 0 11) (fun m1 r2 => ubi (f_X8_may m1 r2 1 1) (fun m4 r5 => if r5 = 0 then (some (m4, 0)) else (ubi (f_X8_take m4) (fun m8 r9 => if 4 ≤ x1 then (if 7 ≤ x1 then (if 9 ≤ x1 then (if x1 = 9 then (f_X8_told_b165 m8 (m8 38 41)) else (if x1 = 10 then (f_X8_told_b165 m8 (m8 38 32)) else (ubi (f_X8_touchings m8) (fun m16 r17 => f_X8_told_b165 m16 r17)))) else (if x1 = 7 then (ubi (f_X8_purses m8) (fun m23 r24 => f_X8_told_b134 m23 r24)) else (ubi (f_X8_worthAll m8) (fun m20 r21 => f_X8_told_b134 m20 r21)))) else (if x1 = 4 then (ubi (f_X8_withBubbles m8) (fun m28 r29 => f_X8_told_b110 m28 r29)) else (if x1 = 5 then (f_X8_told_b109 m8 25) else (f_X8_told_b109 m8 26)))) else (if x1 = 0 then (f_X8_told_b74 m8 (m8 38 17)) else (if x1 = 1 then (f_X8_told_b74 m8 (m8 38 18)) else (if x1 = 2 then (f_X8_told_b74 m8 (m8 38 19)) else (f_X8_told_b74 m8 (m8 54 27)))))))))
set_option maxRecDepth 20000 in
theorem t_X8_told {l : Launch} {E : Ue} (mem : Um) (x1 : Int32) (z : Um × Int32) (h : f_X8_told  mem x1 = some z) : ug l E 6 0 0 cX8_told 2 RX8 (some .int) [] (uz_i z) 0 0 0 [(0, .ref (ue_d E 38)), (1, .int x1)] [] mem := by
  rw [f_X8_told] at h
  refine ug_aload_n 0 dX8_told_0 rfl rfl ?_
  refine ug_iconst dX8_told_1 un_iconst_0 ?_
  refine ug_putI kp_X8_3 gi_38_0 dX8_told_2 ?_
  refine ug_aload_n 0 dX8_told_5 rfl rfl ?_
  refine ug_iload_n 1 dX8_told_6 rfl rfl ?_
  refine ug_iconst dX8_told_7 un_iconst_0 ?_
  refine ug_bipush dX8_told_8 un_bipush_11 ?_
  obtain ⟨m1, r2, h3, h⟩ := ubi_some h
  refine ug_callSi [.int x1, .int 0, .int 11] (c_X8_within  h3) kc_X8_352 rfl (S := [.ref (ue_d E 38)]) rfl (Nat.le_of_ble_eq_true rfl) (Nat.le_of_ble_eq_true rfl) (Nat.le_of_ble_eq_true rfl) dX8_told_10 ?_
  refine ug_iconst dX8_told_13 un_iconst_1 ?_
  refine ug_iconst dX8_told_14 un_iconst_1 ?_
  obtain ⟨m4, r5, h6, h⟩ := ubi_some h
  refine ug_callVi [.int r2, .int 1, .int 1] (c_X8_may  h6) kc_X8_190 ro_38 rfl (S := []) rfl (Nat.le_of_ble_eq_true rfl) (Nat.le_of_ble_eq_true rfl) (Nat.le_of_ble_eq_true rfl) dX8_told_15 ?_
  refine ug_if_ne 23 dX8_told_18 (by decide) (fun q7 => ?_) (fun q7 => ?_)
  · rw [if_neg q7] at h
    refine ug_aload_n 0 dX8_told_23 rfl rfl ?_
    obtain ⟨m8, r9, h10, h⟩ := ubi_some h
    refine ug_callVv [] (c_X8_take  h10) kc_X8_302 ro_38 rfl (S := []) rfl (Nat.le_of_ble_eq_true rfl) (Nat.le_of_ble_eq_true rfl) (Nat.le_of_ble_eq_true rfl) dX8_told_24 ?_
    refine ug_iload_n 1 dX8_told_27 rfl rfl ?_
    refine ug_iconst dX8_told_28 un_iconst_4 ?_
    refine ug_icmp_ge 75 dX8_told_29 (by decide) (fun q11 => ?_) (fun q11 => ?_)
    · rw [if_pos q11] at h
      refine ug_iload_n 1 dX8_told_75 rfl rfl ?_
      refine ug_bipush dX8_told_76 un_bipush_7 ?_
      refine ug_icmp_ge 111 dX8_told_78 (by decide) (fun q12 => ?_) (fun q12 => ?_)
      · rw [if_pos q12] at h
        refine ug_iload_n 1 dX8_told_111 rfl rfl ?_
        refine ug_bipush dX8_told_112 un_bipush_9 ?_
        refine ug_icmp_ge 135 dX8_told_114 (by decide) (fun q13 => ?_) (fun q13 => ?_)
        · rw [if_pos q13] at h
          refine ug_iload_n 1 dX8_told_135 rfl rfl ?_
          refine ug_bipush dX8_told_136 un_bipush_9 ?_
          refine ug_icmp_ne 148 dX8_told_138 (by decide) (fun q14 => ?_) (fun q14 => ?_)
          · rw [if_neg q14] at h
            refine ug_iload_n 1 dX8_told_148 rfl rfl ?_
            refine ug_bipush dX8_told_149 un_bipush_10 ?_
            refine ug_icmp_ne 161 dX8_told_151 (by decide) (fun q15 => ?_) (fun q15 => ?_)
            · rw [if_neg q15] at h
              refine ug_aload_n 0 dX8_told_161 rfl rfl ?_
              obtain ⟨m16, r17, h18, h⟩ := ubi_some h
              refine ug_callVi [] (c_X8_touchings  h18) kc_X8_389 ro_38 rfl (S := []) rfl (Nat.le_of_ble_eq_true rfl) (Nat.le_of_ble_eq_true rfl) (Nat.le_of_ble_eq_true rfl) dX8_told_162 ?_
              refine ug_sub [] [] rfl ?_
              exact t_X8_told_b165 m16 r17 _ h
            · rw [if_pos q15] at h
              refine ug_aload_n 0 dX8_told_154 rfl rfl ?_
              refine ug_getI kf_X8_176 gi_38_32 dX8_told_155 ?_
              refine ug_goto 165 dX8_told_158 (by decide) ?_
              refine ug_sub [] [] rfl ?_
              exact t_X8_told_b165 m8 (m8 38 32) _ h
          · rw [if_pos q14] at h
            refine ug_aload_n 0 dX8_told_141 rfl rfl ?_
            refine ug_getI kf_X8_167 gi_38_41 dX8_told_142 ?_
            refine ug_goto 165 dX8_told_145 (by decide) ?_
            refine ug_sub [] [] rfl ?_
            exact t_X8_told_b165 m8 (m8 38 41) _ h
        · rw [if_neg q13] at h
          refine ug_iload_n 1 dX8_told_117 rfl rfl ?_
          refine ug_bipush dX8_told_118 un_bipush_7 ?_
          refine ug_icmp_ne 130 dX8_told_120 (by decide) (fun q19 => ?_) (fun q19 => ?_)
          · rw [if_neg q19] at h
            refine ug_aload_n 0 dX8_told_130 rfl rfl ?_
            obtain ⟨m20, r21, h22, h⟩ := ubi_some h
            refine ug_callVi [] (c_X8_worthAll  h22) kc_X8_386 ro_38 rfl (S := []) rfl (Nat.le_of_ble_eq_true rfl) (Nat.le_of_ble_eq_true rfl) (Nat.le_of_ble_eq_true rfl) dX8_told_131 ?_
            refine ug_sub [] [] rfl ?_
            exact t_X8_told_b134 m20 r21 _ h
          · rw [if_pos q19] at h
            refine ug_aload_n 0 dX8_told_123 rfl rfl ?_
            obtain ⟨m23, r24, h25, h⟩ := ubi_some h
            refine ug_callVi [] (c_X8_purses  h25) kc_X8_383 ro_38 rfl (S := []) rfl (Nat.le_of_ble_eq_true rfl) (Nat.le_of_ble_eq_true rfl) (Nat.le_of_ble_eq_true rfl) dX8_told_124 ?_
            refine ug_goto 134 dX8_told_127 (by decide) ?_
            refine ug_sub [] [] rfl ?_
            exact t_X8_told_b134 m23 r24 _ h
      · rw [if_neg q12] at h
        refine ug_iload_n 1 dX8_told_81 rfl rfl ?_
        refine ug_iconst dX8_told_82 un_iconst_4 ?_
        refine ug_icmp_ne 93 dX8_told_83 (by decide) (fun q26 => ?_) (fun q26 => ?_)
        · rw [if_neg q26] at h
          refine ug_aload_n 0 dX8_told_93 rfl rfl ?_
          refine ug_getR kf_X8_62 gr_38_37 dX8_told_94 ?_
          refine ug_iload_n 1 dX8_told_97 rfl rfl ?_
          refine ug_iconst dX8_told_98 un_iconst_5 ?_
          refine ug_icmp_ne 107 dX8_told_99 (by decide) (fun q27 => ?_) (fun q27 => ?_)
          · rw [if_neg q27] at h
            refine ug_bipush dX8_told_107 un_bipush_26 ?_
            refine ug_sub [] [] rfl ?_
            exact t_X8_told_b109 m8 26 _ h
          · rw [if_pos q27] at h
            refine ug_bipush dX8_told_102 un_bipush_25 ?_
            refine ug_goto 109 dX8_told_104 (by decide) ?_
            refine ug_sub [] [] rfl ?_
            exact t_X8_told_b109 m8 25 _ h
        · rw [if_pos q26] at h
          refine ug_aload_n 0 dX8_told_86 rfl rfl ?_
          obtain ⟨m28, r29, h30, h⟩ := ubi_some h
          refine ug_callVi [] (c_X8_withBubbles  h30) kc_X8_356 ro_38 rfl (S := []) rfl (Nat.le_of_ble_eq_true rfl) (Nat.le_of_ble_eq_true rfl) (Nat.le_of_ble_eq_true rfl) dX8_told_87 ?_
          refine ug_goto 110 dX8_told_90 (by decide) ?_
          refine ug_sub [] [] rfl ?_
          exact t_X8_told_b110 m28 r29 _ h
    · rw [if_neg q11] at h
      refine ug_iload_n 1 dX8_told_32 rfl rfl ?_
      refine ug_if_ne 43 dX8_told_33 (by decide) (fun q31 => ?_) (fun q31 => ?_)
      · rw [if_neg q31] at h
        refine ug_iload_n 1 dX8_told_43 rfl rfl ?_
        refine ug_iconst dX8_told_44 un_iconst_1 ?_
        refine ug_icmp_ne 55 dX8_told_45 (by decide) (fun q32 => ?_) (fun q32 => ?_)
        · rw [if_neg q32] at h
          refine ug_iload_n 1 dX8_told_55 rfl rfl ?_
          refine ug_iconst dX8_told_56 un_iconst_2 ?_
          refine ug_icmp_ne 67 dX8_told_57 (by decide) (fun q33 => ?_) (fun q33 => ?_)
          · rw [if_neg q33] at h
            refine ug_aload_n 0 dX8_told_67 rfl rfl ?_
            refine ug_getR kf_X8_62 gr_38_37 dX8_told_68 ?_
            refine ug_bipush dX8_told_71 un_bipush_27 ?_
            refine ug_ialdK al_54 ui_27_28 uc_27 dX8_told_73 ?_
            refine ug_sub [] [] rfl ?_
            exact t_X8_told_b74 m8 (m8 54 27) _ h
          · rw [if_pos q33] at h
            refine ug_aload_n 0 dX8_told_60 rfl rfl ?_
            refine ug_getI kf_X8_157 gi_38_19 dX8_told_61 ?_
            refine ug_goto 74 dX8_told_64 (by decide) ?_
            refine ug_sub [] [] rfl ?_
            exact t_X8_told_b74 m8 (m8 38 19) _ h
        · rw [if_pos q32] at h
          refine ug_aload_n 0 dX8_told_48 rfl rfl ?_
          refine ug_getI kf_X8_154 gi_38_18 dX8_told_49 ?_
          refine ug_goto 74 dX8_told_52 (by decide) ?_
          refine ug_sub [] [] rfl ?_
          exact t_X8_told_b74 m8 (m8 38 18) _ h
      · rw [if_pos q31] at h
        refine ug_aload_n 0 dX8_told_36 rfl rfl ?_
        refine ug_getI kf_X8_151 gi_38_17 dX8_told_37 ?_
        refine ug_goto 74 dX8_told_40 (by decide) ?_
        refine ug_sub [] [] rfl ?_
        exact t_X8_told_b74 m8 (m8 38 17) _ h
  · rw [if_pos q7] at h
    refine ug_iconst dX8_told_21 un_iconst_0 ?_
    obtain rfl := Option.some.inj h
    exact ug_iret dX8_told_22
theorem c_X8_told {l : Launch} {E : Ue} {mem : Um} {x1 : Int32} {m1 : Um} {r : Int32} (h : f_X8_told  mem x1 = some (m1, r)) : ucr l E 6 0 0 yX8_told cX8_told 2 (some .int) [.ref (ue_d E 38), .int x1] mem (some (.int r)) m1 := ucr_of rfl (Nat.le_of_ble_eq_true rfl) (t_X8_told  mem x1 _ h)
-- X8_isView
def f_X8_isView (mem : Um) (x1 : Int32) (x2 : Int32) : Option (Um × Int32) :=
  ubi (f_X8_within mem x1 0 ((mem 38 17) - 1)) (fun m1 r2 => ubi (f_X8_may m1 r2 x2 0) (fun m4 r5 => ugd (ub01 r5) (some (m4, r5))))
set_option maxRecDepth 20000 in
theorem t_X8_isView {l : Launch} {E : Ue} (mem : Um) (x1 : Int32) (x2 : Int32) (z : Um × Int32) (h : f_X8_isView  mem x1 x2 = some z) : ug l E 3 0 0 cX8_isView 3 RX8 (some .boolean) [] (uz_i z) 0 0 0 [(0, .ref (ue_d E 38)), (1, .int x1), (2, .int x2)] [] mem := by
  rw [f_X8_isView] at h
  refine ug_aload_n 0 dX8_isView_0 rfl rfl ?_
  refine ug_iload_n 1 dX8_isView_1 rfl rfl ?_
  refine ug_iconst dX8_isView_2 un_iconst_0 ?_
  refine ug_aload_n 0 dX8_isView_3 rfl rfl ?_
  refine ug_getI kf_X8_151 gi_38_17 dX8_isView_4 ?_
  refine ug_iconst dX8_isView_7 un_iconst_1 ?_
  refine ug_isub dX8_isView_8 ?_
  obtain ⟨m1, r2, h3, h⟩ := ubi_some h
  refine ug_callSi [.int x1, .int 0, .int ((mem 38 17) - 1)] (c_X8_within  h3) kc_X8_352 rfl (S := [.ref (ue_d E 38)]) rfl (Nat.le_of_ble_eq_true rfl) (Nat.le_of_ble_eq_true rfl) (Nat.le_of_ble_eq_true rfl) dX8_isView_9 ?_
  refine ug_iload_n 2 dX8_isView_12 rfl rfl ?_
  refine ug_iconst dX8_isView_13 un_iconst_0 ?_
  obtain ⟨m4, r5, h6, h⟩ := ubi_some h
  refine ug_callVi [.int r2, .int x2, .int 0] (c_X8_may  h6) kc_X8_190 ro_38 rfl (S := []) rfl (Nat.le_of_ble_eq_true rfl) (Nat.le_of_ble_eq_true rfl) (Nat.le_of_ble_eq_true rfl) dX8_isView_14 ?_
  obtain ⟨g7, h⟩ := ugd_some h
  obtain rfl := Option.some.inj h
  exact ug_zret (of_decide_eq_true g7) dX8_isView_17
theorem c_X8_isView {l : Launch} {E : Ue} {mem : Um} {x1 : Int32} {x2 : Int32} {m1 : Um} {r : Int32} (h : f_X8_isView  mem x1 x2 = some (m1, r)) : ucr l E 3 0 0 yX8_isView cX8_isView 3 (some .boolean) [.ref (ue_d E 38), .int x1, .int x2] mem (some (.int r)) m1 := ucr_of rfl (Nat.le_of_ble_eq_true rfl) (t_X8_isView  mem x1 x2 _ h)
-- X8_isTenant
def f_X8_isTenant (mem : Um) (x1 : Int32) (x2 : Int32) : Option (Um × Int32) :=
  ubi (f_X8_within mem x1 0 ((mem 38 18) - 1)) (fun m1 r2 => ubi (f_X8_may m1 r2 x2 0) (fun m4 r5 => ugd (ub01 r5) (some (m4, r5))))
set_option maxRecDepth 20000 in
theorem t_X8_isTenant {l : Launch} {E : Ue} (mem : Um) (x1 : Int32) (x2 : Int32) (z : Um × Int32) (h : f_X8_isTenant  mem x1 x2 = some z) : ug l E 3 0 0 cX8_isTenant 3 RX8 (some .boolean) [] (uz_i z) 0 0 0 [(0, .ref (ue_d E 38)), (1, .int x1), (2, .int x2)] [] mem := by
  rw [f_X8_isTenant] at h
  refine ug_aload_n 0 dX8_isTenant_0 rfl rfl ?_
  refine ug_iload_n 1 dX8_isTenant_1 rfl rfl ?_
  refine ug_iconst dX8_isTenant_2 un_iconst_0 ?_
  refine ug_aload_n 0 dX8_isTenant_3 rfl rfl ?_
  refine ug_getI kf_X8_154 gi_38_18 dX8_isTenant_4 ?_
  refine ug_iconst dX8_isTenant_7 un_iconst_1 ?_
  refine ug_isub dX8_isTenant_8 ?_
  obtain ⟨m1, r2, h3, h⟩ := ubi_some h
  refine ug_callSi [.int x1, .int 0, .int ((mem 38 18) - 1)] (c_X8_within  h3) kc_X8_352 rfl (S := [.ref (ue_d E 38)]) rfl (Nat.le_of_ble_eq_true rfl) (Nat.le_of_ble_eq_true rfl) (Nat.le_of_ble_eq_true rfl) dX8_isTenant_9 ?_
  refine ug_iload_n 2 dX8_isTenant_12 rfl rfl ?_
  refine ug_iconst dX8_isTenant_13 un_iconst_0 ?_
  obtain ⟨m4, r5, h6, h⟩ := ubi_some h
  refine ug_callVi [.int r2, .int x2, .int 0] (c_X8_may  h6) kc_X8_190 ro_38 rfl (S := []) rfl (Nat.le_of_ble_eq_true rfl) (Nat.le_of_ble_eq_true rfl) (Nat.le_of_ble_eq_true rfl) dX8_isTenant_14 ?_
  obtain ⟨g7, h⟩ := ugd_some h
  obtain rfl := Option.some.inj h
  exact ug_zret (of_decide_eq_true g7) dX8_isTenant_17
theorem c_X8_isTenant {l : Launch} {E : Ue} {mem : Um} {x1 : Int32} {x2 : Int32} {m1 : Um} {r : Int32} (h : f_X8_isTenant  mem x1 x2 = some (m1, r)) : ucr l E 3 0 0 yX8_isTenant cX8_isTenant 3 (some .boolean) [.ref (ue_d E 38), .int x1, .int x2] mem (some (.int r)) m1 := ucr_of rfl (Nat.le_of_ble_eq_true rfl) (t_X8_isTenant  mem x1 x2 _ h)
-- X8_view
def f_X8_view_b29 (mem : Um) : Option (Um × Int32) :=
  some (mem, 0)
set_option maxRecDepth 20000 in
theorem t_X8_view_b29 {l : Launch} {E : Ue} (mem : Um) (z : Um × Int32) (h : f_X8_view_b29  mem  = some z) : ug l E 5 0 0 cX8_view 5 RX8 (some .int) [] (uz_i z) 0 0 29 [] [] mem := by
  rw [f_X8_view_b29] at h
  refine ug_iconst dX8_view_29 un_iconst_0 ?_
  obtain rfl := Option.some.inj h
  exact ug_iret dX8_view_30
def f_X8_view_b94 (k69 : Um → Int32 → Int32 → Int32 → Option (Um × Int32)) (mem : Um) (x1 : Int32) (x4 : Int32) (y0 : Int32) (y1 : Int32) : Option (Um × Int32) :=
  k69 mem x1 (y1 + y0) (x4 + 1)
set_option maxRecDepth 20000 in
theorem t_X8_view_b94 {l : Launch} {E : Ue} (k69 : Um → Int32 → Int32 → Int32 → Option (Um × Int32)) (hk69 : ∀ (mem : Um) (x1 : Int32) (x3 : Int32) (x4 : Int32) (z : Um × Int32), k69 mem x1 x3 x4 = some z → ug l E 5 0 0 cX8_view 5 RX8 (some .int) [] (uz_i z) 0 0 69 [(0, .ref (ue_d E 38)), (1, .int x1), (3, .int x3), (4, .int x4)] [] mem) (mem : Um) (x1 : Int32) (x4 : Int32) (y0 : Int32) (y1 : Int32) (z : Um × Int32) (h : f_X8_view_b94 k69 mem x1 x4 y0 y1 = some z) : ug l E 5 0 0 cX8_view 5 RX8 (some .int) [] (uz_i z) 0 0 94 [(0, .ref (ue_d E 38)), (1, .int x1), (4, .int x4)] [.int y0, .int y1] mem := by
  rw [f_X8_view_b94] at h
  refine ug_iadd dX8_view_94 ?_
  refine ug_istore_n [(3, .int (y1 + y0)), (0, .ref (ue_d E 38)), (1, .int x1), (4, .int x4)] dX8_view_95 rfl (Nat.le_of_ble_eq_true rfl) rfl ?_
  refine ug_iinc (v := (x4 + 1)) [(4, .int (x4 + 1)), (3, .int (y1 + y0)), (0, .ref (ue_d E 38)), (1, .int x1)] 3 dX8_view_96 rfl rfl (Nat.le_of_ble_eq_true rfl) rfl ?_
  refine ug_goto 69 dX8_view_99 (by decide) ?_
  refine ug_sub [(0, .ref (ue_d E 38)), (1, .int x1), (3, .int (y1 + y0)), (4, .int (x4 + 1))] [2, 3, 1, 0] rfl ?_
  exact hk69 mem x1 (y1 + y0) (x4 + 1) _ h
def f_X8_view_b69 : Nat → Um → Int32 → Int32 → Int32 → Option (Um × Int32)
  | 0, _, _, _, _ => none
  | n + 1, mem, x1, x3, x4 =>
    if (mem 38 18) ≤ x4 then (some (mem, x3)) else (ubi (f_X8_isSeen mem x4 x1) (fun m2 r3 => if r3 = 0 then (f_X8_view_b94 (f_X8_view_b69  n) m2 x1 x4 0 x3) else (f_X8_view_b94 (f_X8_view_b69  n) m2 x1 x4 1 x3)))
set_option maxRecDepth 20000 in
theorem t_X8_view_b69 {l : Launch} {E : Ue} : ∀ (n : Nat) (mem : Um) (x1 : Int32) (x3 : Int32) (x4 : Int32) (z : Um × Int32), f_X8_view_b69  n mem x1 x3 x4 = some z → ug l E 5 0 0 cX8_view 5 RX8 (some .int) [] (uz_i z) 0 0 69 [(0, .ref (ue_d E 38)), (1, .int x1), (3, .int x3), (4, .int x4)] [] mem := by
  intro n
  induction n with
  | zero =>
    intro mem x1 x3 x4 z h
    rw [f_X8_view_b69] at h
    cases h
  | succ n ih =>
    intro mem x1 x3 x4 z h
    rw [f_X8_view_b69] at h
    refine ug_iload 3 dX8_view_69 rfl ?_
    refine ug_aload_n 0 dX8_view_71 rfl rfl ?_
    refine ug_getI kf_X8_154 gi_38_18 dX8_view_72 ?_
    refine ug_icmp_ge 102 dX8_view_75 (by decide) (fun q1 => ?_) (fun q1 => ?_)
    · rw [if_pos q1] at h
      refine ug_iload_n 2 dX8_view_102 rfl rfl ?_
      obtain rfl := Option.some.inj h
      exact ug_iret dX8_view_103
    · rw [if_neg q1] at h
      refine ug_iload_n 2 dX8_view_78 rfl rfl ?_
      refine ug_aload_n 0 dX8_view_79 rfl rfl ?_
      refine ug_iload 3 dX8_view_80 rfl ?_
      refine ug_iload_n 1 dX8_view_82 rfl rfl ?_
      obtain ⟨m2, r3, h4, h⟩ := ubi_some h
      refine ug_callVi [.int x4, .int x1] (c_X8_isSeen  h4) kc_X8_323 ro_38 rfl (S := [.int x3]) rfl (Nat.le_of_ble_eq_true rfl) (Nat.le_of_ble_eq_true rfl) (Nat.le_of_ble_eq_true rfl) dX8_view_83 ?_
      refine ug_if_eq 93 dX8_view_86 (by decide) (fun q5 => ?_) (fun q5 => ?_)
      · rw [if_pos q5] at h
        refine ug_iconst dX8_view_93 un_iconst_0 ?_
        refine ug_sub [(0, .ref (ue_d E 38)), (1, .int x1), (4, .int x4)] [0, 1, 3] rfl ?_
        exact t_X8_view_b94 (f_X8_view_b69  n) ih m2 x1 x4 0 x3 _ h
      · rw [if_neg q5] at h
        refine ug_iconst dX8_view_89 un_iconst_1 ?_
        refine ug_goto 94 dX8_view_90 (by decide) ?_
        refine ug_sub [(0, .ref (ue_d E 38)), (1, .int x1), (4, .int x4)] [0, 1, 3] rfl ?_
        exact t_X8_view_b94 (f_X8_view_b69  n) ih m2 x1 x4 1 x3 _ h
def f_X8_view_b63 (mem : Um) (y0 : Int32) : Option (Um × Int32) :=
  some (mem, y0)
set_option maxRecDepth 20000 in
theorem t_X8_view_b63 {l : Launch} {E : Ue} (mem : Um) (y0 : Int32) (z : Um × Int32) (h : f_X8_view_b63  mem y0 = some z) : ug l E 5 0 0 cX8_view 5 RX8 (some .int) [] (uz_i z) 0 0 63 [] [.int y0] mem := by
  rw [f_X8_view_b63] at h
  obtain rfl := Option.some.inj h
  exact ug_iret dX8_view_63
def f_X8_view (mem : Um) (x1 : Int32) (x2 : Int32) : Option (Um × Int32) :=
  ubi (f_X8_isView (um_w mem 38 0 0) x1 1) (fun m1 r2 => if r2 = 0 then (f_X8_view_b29 m1) else (ubi (f_X8_within m1 x2 0 3) (fun m5 r6 => ubi (f_X8_may m5 r6 2 1) (fun m8 r9 => if r9 = 0 then (f_X8_view_b29 m8) else (ubi (f_X8_take m8) (fun m12 r13 => if 3 ≤ x2 then (f_X8_view_b69  UF m12 x1 0 0) else (if 2 ≤ x2 then (ubi (f_X8_ownerOf m12 x1) (fun m17 r18 => f_X8_view_b63 m17 r18)) else (ugd (uin ((2 * x1) + x2) 16) (f_X8_view_b63 m12 (m12 43 ((2 * x1) + x2).toNatClampNeg))))))))))
set_option maxRecDepth 20000 in
theorem t_X8_view {l : Launch} {E : Ue} (mem : Um) (x1 : Int32) (x2 : Int32) (z : Um × Int32) (h : f_X8_view  mem x1 x2 = some z) : ug l E 5 0 0 cX8_view 5 RX8 (some .int) [] (uz_i z) 0 0 0 [(0, .ref (ue_d E 38)), (1, .int x1), (2, .int x2)] [] mem := by
  rw [f_X8_view] at h
  refine ug_aload_n 0 dX8_view_0 rfl rfl ?_
  refine ug_iconst dX8_view_1 un_iconst_0 ?_
  refine ug_putI kp_X8_3 gi_38_0 dX8_view_2 ?_
  refine ug_aload_n 0 dX8_view_5 rfl rfl ?_
  refine ug_iload_n 1 dX8_view_6 rfl rfl ?_
  refine ug_iconst dX8_view_7 un_iconst_1 ?_
  obtain ⟨m1, r2, h3, h⟩ := ubi_some h
  refine ug_callVi [.int x1, .int 1] (c_X8_isView  h3) kc_X8_392 ro_38 rfl (S := []) rfl (Nat.le_of_ble_eq_true rfl) (Nat.le_of_ble_eq_true rfl) (Nat.le_of_ble_eq_true rfl) dX8_view_8 ?_
  refine ug_if_eq 29 dX8_view_11 (by decide) (fun q4 => ?_) (fun q4 => ?_)
  · rw [if_pos q4] at h
    refine ug_sub [] [] rfl ?_
    exact t_X8_view_b29 m1  _ h
  · rw [if_neg q4] at h
    refine ug_aload_n 0 dX8_view_14 rfl rfl ?_
    refine ug_iload_n 2 dX8_view_15 rfl rfl ?_
    refine ug_iconst dX8_view_16 un_iconst_0 ?_
    refine ug_iconst dX8_view_17 un_iconst_3 ?_
    obtain ⟨m5, r6, h7, h⟩ := ubi_some h
    refine ug_callSi [.int x2, .int 0, .int 3] (c_X8_within  h7) kc_X8_352 rfl (S := [.ref (ue_d E 38)]) rfl (Nat.le_of_ble_eq_true rfl) (Nat.le_of_ble_eq_true rfl) (Nat.le_of_ble_eq_true rfl) dX8_view_18 ?_
    refine ug_iconst dX8_view_21 un_iconst_2 ?_
    refine ug_iconst dX8_view_22 un_iconst_1 ?_
    obtain ⟨m8, r9, h10, h⟩ := ubi_some h
    refine ug_callVi [.int r6, .int 2, .int 1] (c_X8_may  h10) kc_X8_190 ro_38 rfl (S := []) rfl (Nat.le_of_ble_eq_true rfl) (Nat.le_of_ble_eq_true rfl) (Nat.le_of_ble_eq_true rfl) dX8_view_23 ?_
    refine ug_if_ne 31 dX8_view_26 (by decide) (fun q11 => ?_) (fun q11 => ?_)
    · rw [if_neg q11] at h
      refine ug_aload_n 0 dX8_view_31 rfl rfl ?_
      obtain ⟨m12, r13, h14, h⟩ := ubi_some h
      refine ug_callVv [] (c_X8_take  h14) kc_X8_302 ro_38 rfl (S := []) rfl (Nat.le_of_ble_eq_true rfl) (Nat.le_of_ble_eq_true rfl) (Nat.le_of_ble_eq_true rfl) dX8_view_32 ?_
      refine ug_iload_n 2 dX8_view_35 rfl rfl ?_
      refine ug_iconst dX8_view_36 un_iconst_3 ?_
      refine ug_icmp_ge 64 dX8_view_37 (by decide) (fun q15 => ?_) (fun q15 => ?_)
      · rw [if_pos q15] at h
        refine ug_iconst dX8_view_64 un_iconst_0 ?_
        refine ug_istore_n [(3, .int 0), (0, .ref (ue_d E 38)), (1, .int x1), (2, .int x2)] dX8_view_65 rfl (Nat.le_of_ble_eq_true rfl) rfl ?_
        refine ug_iconst dX8_view_66 un_iconst_0 ?_
        refine ug_istore [(4, .int 0), (3, .int 0), (0, .ref (ue_d E 38)), (1, .int x1), (2, .int x2)] dX8_view_67 (Nat.le_of_ble_eq_true rfl) rfl ?_
        refine ug_sub [(0, .ref (ue_d E 38)), (1, .int x1), (3, .int 0), (4, .int 0)] [2, 3, 1, 0] rfl ?_
        exact t_X8_view_b69  UF m12 x1 0 0 _ h
      · rw [if_neg q15] at h
        refine ug_iload_n 2 dX8_view_40 rfl rfl ?_
        refine ug_iconst dX8_view_41 un_iconst_2 ?_
        refine ug_icmp_ge 58 dX8_view_42 (by decide) (fun q16 => ?_) (fun q16 => ?_)
        · rw [if_pos q16] at h
          refine ug_aload_n 0 dX8_view_58 rfl rfl ?_
          refine ug_iload_n 1 dX8_view_59 rfl rfl ?_
          obtain ⟨m17, r18, h19, h⟩ := ubi_some h
          refine ug_callVi [.int x1] (c_X8_ownerOf  h19) kc_X8_327 ro_38 rfl (S := []) rfl (Nat.le_of_ble_eq_true rfl) (Nat.le_of_ble_eq_true rfl) (Nat.le_of_ble_eq_true rfl) dX8_view_60 ?_
          refine ug_sub [] [] rfl ?_
          exact t_X8_view_b63 m17 r18 _ h
        · rw [if_neg q16] at h
          refine ug_aload_n 0 dX8_view_45 rfl rfl ?_
          refine ug_getR kf_X8_29 gr_38_12 dX8_view_46 ?_
          refine ug_iconst dX8_view_49 un_iconst_2 ?_
          refine ug_iload_n 1 dX8_view_50 rfl rfl ?_
          refine ug_imul dX8_view_51 ?_
          refine ug_iload_n 2 dX8_view_52 rfl rfl ?_
          refine ug_iadd dX8_view_53 ?_
          obtain ⟨g20, h⟩ := ugd_some h
          refine ug_iald al_43 (uin_ok g20) dX8_view_54 ?_
          refine ug_goto 63 dX8_view_55 (by decide) ?_
          refine ug_sub [] [] rfl ?_
          exact t_X8_view_b63 m12 (m12 43 ((2 * x1) + x2).toNatClampNeg) _ h
    · rw [if_pos q11] at h
      refine ug_sub [] [] rfl ?_
      exact t_X8_view_b29 m8  _ h
theorem c_X8_view {l : Launch} {E : Ue} {mem : Um} {x1 : Int32} {x2 : Int32} {m1 : Um} {r : Int32} (h : f_X8_view  mem x1 x2 = some (m1, r)) : ucr l E 5 0 0 yX8_view cX8_view 5 (some .int) [.ref (ue_d E 38), .int x1, .int x2] mem (some (.int r)) m1 := ucr_of rfl (Nat.le_of_ble_eq_true rfl) (t_X8_view  mem x1 x2 _ h)
