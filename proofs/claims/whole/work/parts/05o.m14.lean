-- X8_readStep
def f_X8_readStep_b143 (rec : Um → Option (Um × Unit)) (mem : Um) : Option (Um × Unit) :=
  ubi (f_X8_sign mem 59) (fun m1 r2 => some (m1, ()))
set_option maxRecDepth 20000 in
theorem t_X8_readStep_b143 {l : Launch} {E : Ue} {rec : Um → Option (Um × Unit)} (kr : Nat) (hrec : ∀ (mem : Um)  (m1 : Um) (r : Unit), rec mem  = some (m1, r) → ucr l E kr 0 0 yX8_readStep cX8_readStep 4 none [.ref (ue_d E 38)] mem none m1) (mem : Um) (z : Um × Unit) (h : f_X8_readStep_b143 rec mem  = some z) : ug l E (kr + 8) 0 0 cX8_readStep 4 RX8 none [] (uz_v z) 0 0 143 [(0, .ref (ue_d E 38))] [] mem := by
  rw [f_X8_readStep_b143] at h
  refine ug_aload_n 0 dX8_readStep_143 rfl rfl ?_
  refine ug_bipush dX8_readStep_144 un_bipush_59 ?_
  obtain ⟨m1, r2, h3, h⟩ := ubi_some h
  refine ug_callVv [.int 59] (c_X8_sign  h3) kc_X8_216 ro_38 rfl (S := []) rfl (Nat.le_of_ble_eq_true rfl) (by omega) (Nat.le_of_ble_eq_true rfl) dX8_readStep_146 ?_
  obtain rfl := Option.some.inj h
  exact ug_vret dX8_readStep_149
def f_X8_readStep_b140 (rec : Um → Option (Um × Unit)) (mem : Um) (y0 : Int32) (y1 : Int32) (y2 : Int32) (y3 : Int32) : Option (Um × Unit) :=
  ubi (f_X8_tellsStep mem y3 y2 y1 y0) (fun m1 r2 => f_X8_readStep_b143 rec m1)
set_option maxRecDepth 20000 in
theorem t_X8_readStep_b140 {l : Launch} {E : Ue} {rec : Um → Option (Um × Unit)} (kr : Nat) (hrec : ∀ (mem : Um)  (m1 : Um) (r : Unit), rec mem  = some (m1, r) → ucr l E kr 0 0 yX8_readStep cX8_readStep 4 none [.ref (ue_d E 38)] mem none m1) (mem : Um) (y0 : Int32) (y1 : Int32) (y2 : Int32) (y3 : Int32) (z : Um × Unit) (h : f_X8_readStep_b140 rec mem y0 y1 y2 y3 = some z) : ug l E (kr + 8) 0 0 cX8_readStep 4 RX8 none [] (uz_v z) 0 0 140 [(0, .ref (ue_d E 38))] [.int y0, .int y1, .int y2, .int y3, .ref (ue_d E 38)] mem := by
  rw [f_X8_readStep_b140] at h
  obtain ⟨m1, r2, h3, h⟩ := ubi_some h
  refine ug_callVv [.int y3, .int y2, .int y1, .int y0] (c_X8_tellsStep  h3) kc_X8_286 ro_38 rfl (S := []) rfl (Nat.le_of_ble_eq_true rfl) (by omega) (Nat.le_of_ble_eq_true rfl) dX8_readStep_140 ?_
  exact t_X8_readStep_b143 kr hrec m1  _ h
def f_X8_readStep_b119 (rec : Um → Option (Um × Unit)) (mem : Um) (x1 : Int32) (x2 : Int32) (y0 : Int32) : Option (Um × Unit) :=
  if x1 = 4 then (ubi (f_X8_readNumber mem 0 99) (fun m2 r3 => f_X8_readStep_b140 rec m2 r3 y0 x2 x1)) else (f_X8_readStep_b140 rec mem 0 y0 x2 x1)
set_option maxRecDepth 20000 in
theorem t_X8_readStep_b119 {l : Launch} {E : Ue} {rec : Um → Option (Um × Unit)} (kr : Nat) (hrec : ∀ (mem : Um)  (m1 : Um) (r : Unit), rec mem  = some (m1, r) → ucr l E kr 0 0 yX8_readStep cX8_readStep 4 none [.ref (ue_d E 38)] mem none m1) (mem : Um) (x1 : Int32) (x2 : Int32) (y0 : Int32) (z : Um × Unit) (h : f_X8_readStep_b119 rec mem x1 x2 y0 = some z) : ug l E (kr + 8) 0 0 cX8_readStep 4 RX8 none [] (uz_v z) 0 0 119 [(0, .ref (ue_d E 38)), (1, .int x1), (2, .int x2)] [.int y0] mem := by
  rw [f_X8_readStep_b119] at h
  refine ug_istore_n [(3, .int y0), (0, .ref (ue_d E 38)), (1, .int x1), (2, .int x2)] dX8_readStep_119 rfl (Nat.le_of_ble_eq_true rfl) rfl ?_
  refine ug_aload_n 1 dX8_readStep_120 rfl rfl ?_
  refine ug_iload_n 2 dX8_readStep_121 rfl rfl ?_
  refine ug_iload_n 3 dX8_readStep_122 rfl rfl ?_
  refine ug_iload_n 0 dX8_readStep_123 rfl rfl ?_
  refine ug_iload_n 2 dX8_readStep_124 rfl rfl ?_
  refine ug_iconst dX8_readStep_125 un_iconst_4 ?_
  refine ug_icmp_ne 139 dX8_readStep_126 (by decide) (fun q1 => ?_) (fun q1 => ?_)
  · rw [if_neg q1] at h
    refine ug_iconst dX8_readStep_139 un_iconst_0 ?_
    refine ug_sub [(0, .ref (ue_d E 38))] [1] rfl ?_
    exact t_X8_readStep_b140 kr hrec mem 0 y0 x2 x1 _ h
  · rw [if_pos q1] at h
    refine ug_aload_n 1 dX8_readStep_129 rfl rfl ?_
    refine ug_iconst dX8_readStep_130 un_iconst_0 ?_
    refine ug_bipush dX8_readStep_131 un_bipush_99 ?_
    obtain ⟨m2, r3, h4, h⟩ := ubi_some h
    refine ug_callVi [.int 0, .int 99] (c_X8_readNumber  h4) kc_X8_186 ro_38 rfl (S := [.int y0, .int x2, .int x1, .ref (ue_d E 38)]) rfl (Nat.le_of_ble_eq_true rfl) (by omega) (Nat.le_of_ble_eq_true rfl) dX8_readStep_133 ?_
    refine ug_goto 140 dX8_readStep_136 (by decide) ?_
    refine ug_sub [(0, .ref (ue_d E 38))] [1] rfl ?_
    exact t_X8_readStep_b140 kr hrec m2 r3 y0 x2 x1 _ h
def f_X8_readStep_b76 (rec : Um → Option (Um × Unit)) (mem : Um) (x1 : Int32) (y0 : Int32) : Option (Um × Unit) :=
  if x1 = 0 then (ubi (f_X8_readNumber mem 1 20) (fun m10 r11 => f_X8_readStep_b119 rec m10 x1 y0 r11)) else (if x1 = 3 then (ubi (f_X8_readNumber mem 0 99) (fun m7 r8 => f_X8_readStep_b119 rec m7 x1 y0 r8)) else (if x1 = 4 then (ubi (f_X8_readTenant mem) (fun m4 r5 => f_X8_readStep_b119 rec m4 x1 y0 r5)) else (f_X8_readStep_b119 rec mem x1 y0 0)))
set_option maxRecDepth 20000 in
theorem t_X8_readStep_b76 {l : Launch} {E : Ue} {rec : Um → Option (Um × Unit)} (kr : Nat) (hrec : ∀ (mem : Um)  (m1 : Um) (r : Unit), rec mem  = some (m1, r) → ucr l E kr 0 0 yX8_readStep cX8_readStep 4 none [.ref (ue_d E 38)] mem none m1) (mem : Um) (x1 : Int32) (y0 : Int32) (z : Um × Unit) (h : f_X8_readStep_b76 rec mem x1 y0 = some z) : ug l E (kr + 8) 0 0 cX8_readStep 4 RX8 none [] (uz_v z) 0 0 76 [(0, .ref (ue_d E 38)), (1, .int x1)] [.int y0] mem := by
  rw [f_X8_readStep_b76] at h
  refine ug_istore_n [(2, .int y0), (0, .ref (ue_d E 38)), (1, .int x1)] dX8_readStep_76 rfl (Nat.le_of_ble_eq_true rfl) rfl ?_
  refine ug_iload_n 2 dX8_readStep_77 rfl rfl ?_
  refine ug_if_ne 91 dX8_readStep_78 (by decide) (fun q1 => ?_) (fun q1 => ?_)
  · rw [if_neg q1] at h
    refine ug_iload_n 2 dX8_readStep_91 rfl rfl ?_
    refine ug_iconst dX8_readStep_92 un_iconst_3 ?_
    refine ug_icmp_ne 106 dX8_readStep_93 (by decide) (fun q2 => ?_) (fun q2 => ?_)
    · rw [if_neg q2] at h
      refine ug_iload_n 2 dX8_readStep_106 rfl rfl ?_
      refine ug_iconst dX8_readStep_107 un_iconst_4 ?_
      refine ug_icmp_ne 118 dX8_readStep_108 (by decide) (fun q3 => ?_) (fun q3 => ?_)
      · rw [if_neg q3] at h
        refine ug_iconst dX8_readStep_118 un_iconst_0 ?_
        refine ug_sub [(0, .ref (ue_d E 38)), (1, .int x1), (2, .int y0)] [1, 2, 0] rfl ?_
        exact t_X8_readStep_b119 kr hrec mem x1 y0 0 _ h
      · rw [if_pos q3] at h
        refine ug_aload_n 1 dX8_readStep_111 rfl rfl ?_
        obtain ⟨m4, r5, h6, h⟩ := ubi_some h
        refine ug_callVi [] (c_X8_readTenant  h6) kc_X8_299 ro_38 rfl (S := []) rfl (Nat.le_of_ble_eq_true rfl) (by omega) (Nat.le_of_ble_eq_true rfl) dX8_readStep_112 ?_
        refine ug_goto 119 dX8_readStep_115 (by decide) ?_
        refine ug_sub [(0, .ref (ue_d E 38)), (1, .int x1), (2, .int y0)] [1, 2, 0] rfl ?_
        exact t_X8_readStep_b119 kr hrec m4 x1 y0 r5 _ h
    · rw [if_pos q2] at h
      refine ug_aload_n 1 dX8_readStep_96 rfl rfl ?_
      refine ug_iconst dX8_readStep_97 un_iconst_0 ?_
      refine ug_bipush dX8_readStep_98 un_bipush_99 ?_
      obtain ⟨m7, r8, h9, h⟩ := ubi_some h
      refine ug_callVi [.int 0, .int 99] (c_X8_readNumber  h9) kc_X8_186 ro_38 rfl (S := []) rfl (Nat.le_of_ble_eq_true rfl) (by omega) (Nat.le_of_ble_eq_true rfl) dX8_readStep_100 ?_
      refine ug_goto 119 dX8_readStep_103 (by decide) ?_
      refine ug_sub [(0, .ref (ue_d E 38)), (1, .int x1), (2, .int y0)] [1, 2, 0] rfl ?_
      exact t_X8_readStep_b119 kr hrec m7 x1 y0 r8 _ h
  · rw [if_pos q1] at h
    refine ug_aload_n 1 dX8_readStep_81 rfl rfl ?_
    refine ug_iconst dX8_readStep_82 un_iconst_1 ?_
    refine ug_bipush dX8_readStep_83 un_bipush_20 ?_
    obtain ⟨m10, r11, h12, h⟩ := ubi_some h
    refine ug_callVi [.int 1, .int 20] (c_X8_readNumber  h12) kc_X8_186 ro_38 rfl (S := []) rfl (Nat.le_of_ble_eq_true rfl) (by omega) (Nat.le_of_ble_eq_true rfl) dX8_readStep_85 ?_
    refine ug_goto 119 dX8_readStep_88 (by decide) ?_
    refine ug_sub [(0, .ref (ue_d E 38)), (1, .int x1), (2, .int y0)] [1, 2, 0] rfl ?_
    exact t_X8_readStep_b119 kr hrec m10 x1 y0 r11 _ h
def f_X8_readStep_b62 (rec : Um → Option (Um × Unit)) (mem : Um) (x1 : Int32) : Option (Um × Unit) :=
  ubi (f_X8_readNumber mem 1 20) (fun m1 r2 => f_X8_readStep_b76 rec m1 x1 r2)
set_option maxRecDepth 20000 in
theorem t_X8_readStep_b62 {l : Launch} {E : Ue} {rec : Um → Option (Um × Unit)} (kr : Nat) (hrec : ∀ (mem : Um)  (m1 : Um) (r : Unit), rec mem  = some (m1, r) → ucr l E kr 0 0 yX8_readStep cX8_readStep 4 none [.ref (ue_d E 38)] mem none m1) (mem : Um) (x1 : Int32) (z : Um × Unit) (h : f_X8_readStep_b62 rec mem x1 = some z) : ug l E (kr + 8) 0 0 cX8_readStep 4 RX8 none [] (uz_v z) 0 0 62 [(0, .ref (ue_d E 38)), (1, .int x1)] [] mem := by
  rw [f_X8_readStep_b62] at h
  refine ug_aload_n 0 dX8_readStep_62 rfl rfl ?_
  refine ug_iconst dX8_readStep_63 un_iconst_1 ?_
  refine ug_bipush dX8_readStep_64 un_bipush_20 ?_
  obtain ⟨m1, r2, h3, h⟩ := ubi_some h
  refine ug_callVi [.int 1, .int 20] (c_X8_readNumber  h3) kc_X8_186 ro_38 rfl (S := []) rfl (Nat.le_of_ble_eq_true rfl) (by omega) (Nat.le_of_ble_eq_true rfl) dX8_readStep_66 ?_
  refine ug_goto 76 dX8_readStep_69 (by decide) ?_
  exact t_X8_readStep_b76 kr hrec m1 x1 r2 _ h
def f_X8_readStep_e (rec : Um → Option (Um × Unit)) (mem : Um) : Option (Um × Unit) :=
  ubi (f_X8_word mem) (fun m1 r2 => ubi (f_X8_stepOf m1 r2) (fun m4 r5 => if r5 = (-1) then (ubi (f_X8_wrong m4 1 (m4 38 4)) (fun m21 r22 => f_X8_readStep_b143 rec m21)) else (if r5 = 7 then (ubi (f_X8_readAgain rec m4) (fun m18 r19 => f_X8_readStep_b143 rec m18)) else (ubi (f_X8_pass m4) (fun m9 r10 => if r5 = 6 then (f_X8_readStep_b76 rec m9 r5 0) else (if r5 = 1 then (f_X8_readStep_b62 rec m9 r5) else (if r5 = 2 then (f_X8_readStep_b62 rec m9 r5) else (ubi (f_X8_readTenant m9) (fun m15 r16 => f_X8_readStep_b76 rec m15 r5 r16)))))))))
set_option maxRecDepth 20000 in
theorem t_X8_readStep {l : Launch} {E : Ue} {rec : Um → Option (Um × Unit)} (kr : Nat) (hrec : ∀ (mem : Um)  (m1 : Um) (r : Unit), rec mem  = some (m1, r) → ucr l E kr 0 0 yX8_readStep cX8_readStep 4 none [.ref (ue_d E 38)] mem none m1) (mem : Um) (z : Um × Unit) (h : f_X8_readStep_e rec mem  = some z) : ug l E (kr + 8) 0 0 cX8_readStep 4 RX8 none [] (uz_v z) 0 0 0 [(0, .ref (ue_d E 38))] [] mem := by
  rw [f_X8_readStep_e] at h
  refine ug_aload_n 0 dX8_readStep_0 rfl rfl ?_
  obtain ⟨m1, r2, h3, h⟩ := ubi_some h
  refine ug_callVi [] (c_X8_word  h3) kc_X8_201 ro_38 rfl (S := []) rfl (Nat.le_of_ble_eq_true rfl) (by omega) (Nat.le_of_ble_eq_true rfl) dX8_readStep_1 ?_
  obtain ⟨m4, r5, h6, h⟩ := ubi_some h
  refine ug_callSi [.int r2] (c_X8_stepOf  h6) kc_X8_293 rfl (S := []) rfl (Nat.le_of_ble_eq_true rfl) (by omega) (Nat.le_of_ble_eq_true rfl) dX8_readStep_4 ?_
  refine ug_istore_n [(1, .int r5), (0, .ref (ue_d E 38))] dX8_readStep_7 rfl (Nat.le_of_ble_eq_true rfl) rfl ?_
  refine ug_iload_n 0 dX8_readStep_8 rfl rfl ?_
  refine ug_iconst dX8_readStep_9 un_iconst_m1 ?_
  refine ug_icmp_ne 25 dX8_readStep_10 (by decide) (fun q7 => ?_) (fun q7 => ?_)
  · rw [if_neg q7] at h
    refine ug_iload_n 0 dX8_readStep_25 rfl rfl ?_
    refine ug_bipush dX8_readStep_26 un_bipush_7 ?_
    refine ug_icmp_ne 38 dX8_readStep_28 (by decide) (fun q8 => ?_) (fun q8 => ?_)
    · rw [if_neg q8] at h
      refine ug_aload_n 1 dX8_readStep_38 rfl rfl ?_
      obtain ⟨m9, r10, h11, h⟩ := ubi_some h
      refine ug_callVv [] (c_X8_pass  h11) kc_X8_210 ro_38 rfl (S := []) rfl (Nat.le_of_ble_eq_true rfl) (by omega) (Nat.le_of_ble_eq_true rfl) dX8_readStep_39 ?_
      refine ug_iload_n 0 dX8_readStep_42 rfl rfl ?_
      refine ug_bipush dX8_readStep_43 un_bipush_6 ?_
      refine ug_icmp_ne 52 dX8_readStep_45 (by decide) (fun q12 => ?_) (fun q12 => ?_)
      · rw [if_neg q12] at h
        refine ug_iload_n 0 dX8_readStep_52 rfl rfl ?_
        refine ug_iconst dX8_readStep_53 un_iconst_1 ?_
        refine ug_icmp_eq 62 dX8_readStep_54 (by decide) (fun q13 => ?_) (fun q13 => ?_)
        · rw [if_pos q13] at h
          refine ug_sub [(0, .ref (ue_d E 38)), (1, .int r5)] [1, 0] rfl ?_
          exact t_X8_readStep_b62 kr hrec m9 r5 _ h
        · rw [if_neg q13] at h
          refine ug_iload_n 0 dX8_readStep_57 rfl rfl ?_
          refine ug_iconst dX8_readStep_58 un_iconst_2 ?_
          refine ug_icmp_ne 72 dX8_readStep_59 (by decide) (fun q14 => ?_) (fun q14 => ?_)
          · rw [if_neg q14] at h
            refine ug_aload_n 1 dX8_readStep_72 rfl rfl ?_
            obtain ⟨m15, r16, h17, h⟩ := ubi_some h
            refine ug_callVi [] (c_X8_readTenant  h17) kc_X8_299 ro_38 rfl (S := []) rfl (Nat.le_of_ble_eq_true rfl) (by omega) (Nat.le_of_ble_eq_true rfl) dX8_readStep_73 ?_
            refine ug_sub [(0, .ref (ue_d E 38)), (1, .int r5)] [1, 0] rfl ?_
            exact t_X8_readStep_b76 kr hrec m15 r5 r16 _ h
          · rw [if_pos q14] at h
            refine ug_sub [(0, .ref (ue_d E 38)), (1, .int r5)] [1, 0] rfl ?_
            exact t_X8_readStep_b62 kr hrec m9 r5 _ h
      · rw [if_pos q12] at h
        refine ug_iconst dX8_readStep_48 un_iconst_0 ?_
        refine ug_goto 76 dX8_readStep_49 (by decide) ?_
        refine ug_sub [(0, .ref (ue_d E 38)), (1, .int r5)] [1, 0] rfl ?_
        exact t_X8_readStep_b76 kr hrec m9 r5 0 _ h
    · rw [if_pos q8] at h
      refine ug_aload_n 1 dX8_readStep_31 rfl rfl ?_
      obtain ⟨m18, r19, h20, h⟩ := ubi_some h
      refine ug_callVv [] (c_X8_readAgain kr hrec h20) kc_X8_296 ro_38 rfl (S := []) rfl (Nat.le_of_ble_eq_true rfl) (by omega) (Nat.le_of_ble_eq_true rfl) dX8_readStep_32 ?_
      refine ug_goto 143 dX8_readStep_35 (by decide) ?_
      refine ug_sub [(0, .ref (ue_d E 38))] [1] rfl ?_
      exact t_X8_readStep_b143 kr hrec m18  _ h
  · rw [if_pos q7] at h
    refine ug_aload_n 1 dX8_readStep_13 rfl rfl ?_
    refine ug_iconst dX8_readStep_14 un_iconst_1 ?_
    refine ug_aload_n 1 dX8_readStep_15 rfl rfl ?_
    refine ug_getI kf_X8_105 gi_38_4 dX8_readStep_16 ?_
    obtain ⟨m21, r22, h23, h⟩ := ubi_some h
    refine ug_callVv [.int 1, .int (m4 38 4)] (c_X8_wrong  h23) kc_X8_135 ro_38 rfl (S := []) rfl (Nat.le_of_ble_eq_true rfl) (by omega) (Nat.le_of_ble_eq_true rfl) dX8_readStep_19 ?_
    refine ug_goto 143 dX8_readStep_22 (by decide) ?_
    refine ug_sub [(0, .ref (ue_d E 38))] [1] rfl ?_
    exact t_X8_readStep_b143 kr hrec m21  _ h
def f_X8_readStep : Nat → Um → Option (Um × Unit)
  | 0, _ => none
  | d + 1, mem => f_X8_readStep_e (f_X8_readStep d) mem 
theorem c_X8_readStep_d {l : Launch} {E : Ue} : ∀ (d : Nat) (mem : Um) (m1 : Um) (r : Unit), f_X8_readStep d mem  = some (m1, r) → ucr l E (8 * d) 0 0 yX8_readStep cX8_readStep 4 none [.ref (ue_d E 38)] mem none m1
  | 0, _, _, _, h => by
    rw [f_X8_readStep] at h
    cases h
  | d + 1, mem, m1, r, h => by
    rw [f_X8_readStep] at h
    exact ucr_of rfl (Nat.le_of_ble_eq_true rfl) (t_X8_readStep (8 * d) (fun mem  m1 r q => c_X8_readStep_d d mem  m1 r q) mem  _ h)
theorem c_X8_readStep {l : Launch} {E : Ue} (d : Nat) {mem : Um} {m1 : Um} {r : Unit} (h : f_X8_readStep d mem  = some (m1, r)) : ucr l E (8 * d) 0 0 yX8_readStep cX8_readStep 4 none [.ref (ue_d E 38)] mem none m1 := c_X8_readStep_d d mem  m1 r h
-- X8_take
def f_X8_take (mem : Um) : Option (Um × Unit) :=
  ubi (f_X8_copies 53 54 28 28 mem 28) (fun m1 r2 => some (m1, ()))
set_option maxRecDepth 20000 in
theorem t_X8_take {l : Launch} {E : Ue} (mem : Um) (z : Um × Unit) (h : f_X8_take  mem  = some z) : ug l E 3 0 0 cX8_take 1 RX8 none [] (uz_v z) 0 0 0 [(0, .ref (ue_d E 38))] [] mem := by
  rw [f_X8_take] at h
  refine ug_aload_n 0 dX8_take_0 rfl rfl ?_
  refine ug_aload_n 0 dX8_take_1 rfl rfl ?_
  refine ug_getR kf_X8_59 gr_38_36 dX8_take_2 ?_
  refine ug_aload_n 0 dX8_take_5 rfl rfl ?_
  refine ug_getR kf_X8_62 gr_38_37 dX8_take_6 ?_
  refine ug_bipush dX8_take_9 un_bipush_28 ?_
  obtain ⟨m1, r2, h3, h⟩ := ubi_some h
  refine ug_callVv [.ref (ue_d E 53), .ref (ue_d E 54), .int 28] (c_X8_copies al_53 al_54 h3) kc_X8_160 ro_38 rfl (S := []) rfl (Nat.le_of_ble_eq_true rfl) (Nat.le_of_ble_eq_true rfl) (Nat.le_of_ble_eq_true rfl) dX8_take_11 ?_
  obtain rfl := Option.some.inj h
  exact ug_vret dX8_take_14
theorem c_X8_take {l : Launch} {E : Ue} {mem : Um} {m1 : Um} {r : Unit} (h : f_X8_take  mem  = some (m1, r)) : ucr l E 3 0 0 yX8_take cX8_take 1 none [.ref (ue_d E 38)] mem none m1 := ucr_of rfl (Nat.le_of_ble_eq_true rfl) (t_X8_take  mem  _ h)
-- X8_isBlown
def f_X8_isBlown_b28 (mem : Um) : Option (Um × Int32) :=
  some (mem, 0)
set_option maxRecDepth 20000 in
theorem t_X8_isBlown_b28 {l : Launch} {E : Ue} (mem : Um) (z : Um × Int32) (h : f_X8_isBlown_b28  mem  = some z) : ug l E 2 0 0 cX8_isBlown 3 RX8 (some .boolean) [] (uz_i z) 0 0 28 [] [] mem := by
  rw [f_X8_isBlown_b28] at h
  refine ug_iconst dX8_isBlown_28 un_iconst_0 ?_
  obtain rfl := Option.some.inj h
  exact ug_zret (Or.inl rfl) dX8_isBlown_29
def f_X8_isBlown (mem : Um) (x1 : Int32) (x2 : Int32) : Option (Um × Int32) :=
  ugd (uin (10 + x1) 28) (if 0 < (mem 54 (10 + x1).toNatClampNeg) then (f_X8_isBlown_b28 mem) else (ugd (uin (0 + x1) 28) (if (1 + (x2 / 5)) ≤ (mem 54 (0 + x1).toNatClampNeg) then (ugd (uin (0 + x1) 28) (ugd (uin (0 + x1) 28) (ugd (uin (10 + x1) 28) (ugd (uin (5 + x1) 28) (ugd (uin (15 + x1) 28) (ugd (uin (20 + x1) 28) (some ((um_w (um_w (um_w (um_w (um_w mem 54 (0 + x1).toNatClampNeg ((mem 54 (0 + x1).toNatClampNeg) - (1 + (x2 / 5)))) 54 (10 + x1).toNatClampNeg x2) 54 (15 + x1).toNatClampNeg ((um_w (um_w mem 54 (0 + x1).toNatClampNeg ((mem 54 (0 + x1).toNatClampNeg) - (1 + (x2 / 5)))) 54 (10 + x1).toNatClampNeg x2) 54 (5 + x1).toNatClampNeg)) 54 (20 + x1).toNatClampNeg 0) 54 25 (((um_w (um_w (um_w (um_w mem 54 (0 + x1).toNatClampNeg ((mem 54 (0 + x1).toNatClampNeg) - (1 + (x2 / 5)))) 54 (10 + x1).toNatClampNeg x2) 54 (15 + x1).toNatClampNeg ((um_w (um_w mem 54 (0 + x1).toNatClampNeg ((mem 54 (0 + x1).toNatClampNeg) - (1 + (x2 / 5)))) 54 (10 + x1).toNatClampNeg x2) 54 (5 + x1).toNatClampNeg)) 54 (20 + x1).toNatClampNeg 0) 54 25) + 1)), 1)))))))) else (f_X8_isBlown_b28 mem))))
set_option maxRecDepth 20000 in
theorem t_X8_isBlown {l : Launch} {E : Ue} (mem : Um) (x1 : Int32) (x2 : Int32) (z : Um × Int32) (h : f_X8_isBlown  mem x1 x2 = some z) : ug l E 2 0 0 cX8_isBlown 3 RX8 (some .boolean) [] (uz_i z) 0 0 0 [(0, .ref (ue_d E 38)), (1, .int x1), (2, .int x2)] [] mem := by
  rw [f_X8_isBlown] at h
  refine ug_aload_n 0 dX8_isBlown_0 rfl rfl ?_
  refine ug_getR kf_X8_62 gr_38_37 dX8_isBlown_1 ?_
  refine ug_bipush dX8_isBlown_4 un_bipush_10 ?_
  refine ug_iload_n 1 dX8_isBlown_6 rfl rfl ?_
  refine ug_iadd dX8_isBlown_7 ?_
  obtain ⟨g1, h⟩ := ugd_some h
  refine ug_iald al_54 (uin_ok g1) dX8_isBlown_8 ?_
  refine ug_if_gt 28 dX8_isBlown_9 (by decide) (fun q2 => ?_) (fun q2 => ?_)
  · rw [if_pos q2] at h
    refine ug_sub [] [] rfl ?_
    exact t_X8_isBlown_b28 mem  _ h
  · rw [if_neg q2] at h
    refine ug_aload_n 0 dX8_isBlown_12 rfl rfl ?_
    refine ug_getR kf_X8_62 gr_38_37 dX8_isBlown_13 ?_
    refine ug_iconst dX8_isBlown_16 un_iconst_0 ?_
    refine ug_iload_n 1 dX8_isBlown_17 rfl rfl ?_
    refine ug_iadd dX8_isBlown_18 ?_
    obtain ⟨g3, h⟩ := ugd_some h
    refine ug_iald al_54 (uin_ok g3) dX8_isBlown_19 ?_
    refine ug_iconst dX8_isBlown_20 un_iconst_1 ?_
    refine ug_iload_n 2 dX8_isBlown_21 rfl rfl ?_
    refine ug_iconst dX8_isBlown_22 un_iconst_5 ?_
    refine ug_idiv dX8_isBlown_23 (by decide) ?_
    refine ug_iadd dX8_isBlown_24 ?_
    refine ug_icmp_ge 30 dX8_isBlown_25 (by decide) (fun q4 => ?_) (fun q4 => ?_)
    · rw [if_pos q4] at h
      refine ug_aload_n 0 dX8_isBlown_30 rfl rfl ?_
      refine ug_getR kf_X8_62 gr_38_37 dX8_isBlown_31 ?_
      refine ug_iconst dX8_isBlown_34 un_iconst_0 ?_
      refine ug_iload_n 1 dX8_isBlown_35 rfl rfl ?_
      refine ug_iadd dX8_isBlown_36 ?_
      refine ug_dup2 dX8_isBlown_37 rfl rfl ?_
      obtain ⟨g5, h⟩ := ugd_some h
      refine ug_iald al_54 (uin_ok g5) dX8_isBlown_38 ?_
      refine ug_iconst dX8_isBlown_39 un_iconst_1 ?_
      refine ug_iload_n 2 dX8_isBlown_40 rfl rfl ?_
      refine ug_iconst dX8_isBlown_41 un_iconst_5 ?_
      refine ug_idiv dX8_isBlown_42 (by decide) ?_
      refine ug_iadd dX8_isBlown_43 ?_
      refine ug_isub dX8_isBlown_44 ?_
      obtain ⟨g6, h⟩ := ugd_some h
      refine ug_iast al_54 (uin_ok g6) dX8_isBlown_45 ?_
      refine ug_aload_n 0 dX8_isBlown_46 rfl rfl ?_
      refine ug_getR kf_X8_62 gr_38_37 dX8_isBlown_47 ?_
      refine ug_bipush dX8_isBlown_50 un_bipush_10 ?_
      refine ug_iload_n 1 dX8_isBlown_52 rfl rfl ?_
      refine ug_iadd dX8_isBlown_53 ?_
      refine ug_iload_n 2 dX8_isBlown_54 rfl rfl ?_
      obtain ⟨g7, h⟩ := ugd_some h
      refine ug_iast al_54 (uin_ok g7) dX8_isBlown_55 ?_
      refine ug_aload_n 0 dX8_isBlown_56 rfl rfl ?_
      refine ug_getR kf_X8_62 gr_38_37 dX8_isBlown_57 ?_
      refine ug_bipush dX8_isBlown_60 un_bipush_15 ?_
      refine ug_iload_n 1 dX8_isBlown_62 rfl rfl ?_
      refine ug_iadd dX8_isBlown_63 ?_
      refine ug_aload_n 0 dX8_isBlown_64 rfl rfl ?_
      refine ug_getR kf_X8_62 gr_38_37 dX8_isBlown_65 ?_
      refine ug_iconst dX8_isBlown_68 un_iconst_5 ?_
      refine ug_iload_n 1 dX8_isBlown_69 rfl rfl ?_
      refine ug_iadd dX8_isBlown_70 ?_
      obtain ⟨g8, h⟩ := ugd_some h
      refine ug_iald al_54 (uin_ok g8) dX8_isBlown_71 ?_
      obtain ⟨g9, h⟩ := ugd_some h
      refine ug_iast al_54 (uin_ok g9) dX8_isBlown_72 ?_
      refine ug_aload_n 0 dX8_isBlown_73 rfl rfl ?_
      refine ug_getR kf_X8_62 gr_38_37 dX8_isBlown_74 ?_
      refine ug_bipush dX8_isBlown_77 un_bipush_20 ?_
      refine ug_iload_n 1 dX8_isBlown_79 rfl rfl ?_
      refine ug_iadd dX8_isBlown_80 ?_
      refine ug_iconst dX8_isBlown_81 un_iconst_0 ?_
      obtain ⟨g10, h⟩ := ugd_some h
      refine ug_iast al_54 (uin_ok g10) dX8_isBlown_82 ?_
      refine ug_aload_n 0 dX8_isBlown_83 rfl rfl ?_
      refine ug_getR kf_X8_62 gr_38_37 dX8_isBlown_84 ?_
      refine ug_bipush dX8_isBlown_87 un_bipush_25 ?_
      refine ug_dup2 dX8_isBlown_89 rfl rfl ?_
      refine ug_ialdK al_54 ui_25_28 uc_25 dX8_isBlown_90 ?_
      refine ug_iconst dX8_isBlown_91 un_iconst_1 ?_
      refine ug_iadd dX8_isBlown_92 ?_
      refine ug_iastK al_54 ui_25_28 uc_25 dX8_isBlown_93 ?_
      refine ug_iconst dX8_isBlown_94 un_iconst_1 ?_
      obtain rfl := Option.some.inj h
      exact ug_zret (Or.inr rfl) dX8_isBlown_95
    · rw [if_neg q4] at h
      refine ug_sub [] [] rfl ?_
      exact t_X8_isBlown_b28 mem  _ h
theorem c_X8_isBlown {l : Launch} {E : Ue} {mem : Um} {x1 : Int32} {x2 : Int32} {m1 : Um} {r : Int32} (h : f_X8_isBlown  mem x1 x2 = some (m1, r)) : ucr l E 2 0 0 yX8_isBlown cX8_isBlown 3 (some .boolean) [.ref (ue_d E 38), .int x1, .int x2] mem (some (.int r)) m1 := ucr_of rfl (Nat.le_of_ble_eq_true rfl) (t_X8_isBlown  mem x1 x2 _ h)
-- X8_withBubbles
def f_X8_withBubbles_b32 (k4 : Um → Int32 → Int32 → Option (Um × Int32)) (mem : Um) (x2 : Int32) (y0 : Int32) (y1 : Int32) : Option (Um × Int32) :=
  k4 mem (y1 ||| y0) (x2 + 1)
set_option maxRecDepth 20000 in
theorem t_X8_withBubbles_b32 {l : Launch} {E : Ue} (k4 : Um → Int32 → Int32 → Option (Um × Int32)) (hk4 : ∀ (mem : Um) (x1 : Int32) (x2 : Int32) (z : Um × Int32), k4 mem x1 x2 = some z → ug l E 2 0 0 cX8_withBubbles 3 RX8 (some .int) [] (uz_i z) 0 0 4 [(0, .ref (ue_d E 38)), (1, .int x1), (2, .int x2)] [] mem) (mem : Um) (x2 : Int32) (y0 : Int32) (y1 : Int32) (z : Um × Int32) (h : f_X8_withBubbles_b32 k4 mem x2 y0 y1 = some z) : ug l E 2 0 0 cX8_withBubbles 3 RX8 (some .int) [] (uz_i z) 0 0 32 [(0, .ref (ue_d E 38)), (2, .int x2)] [.int y0, .int y1] mem := by
  rw [f_X8_withBubbles_b32] at h
  refine ug_ior dX8_withBubbles_32 ?_
  refine ug_istore_n [(1, .int (y1 ||| y0)), (0, .ref (ue_d E 38)), (2, .int x2)] dX8_withBubbles_33 rfl (Nat.le_of_ble_eq_true rfl) rfl ?_
  refine ug_iinc (v := (x2 + 1)) [(2, .int (x2 + 1)), (1, .int (y1 ||| y0)), (0, .ref (ue_d E 38))] 2 dX8_withBubbles_34 rfl rfl (Nat.le_of_ble_eq_true rfl) rfl ?_
  refine ug_goto 4 dX8_withBubbles_37 (by decide) ?_
  refine ug_sub [(0, .ref (ue_d E 38)), (1, .int (y1 ||| y0)), (2, .int (x2 + 1))] [2, 1, 0] rfl ?_
  exact hk4 mem (y1 ||| y0) (x2 + 1) _ h
def f_X8_withBubbles_b4 : Nat → Um → Int32 → Int32 → Option (Um × Int32)
  | 0, _, _, _ => none
  | n + 1, mem, x1, x2 =>
    if (mem 38 18) ≤ x2 then (some (mem, x1)) else (ugd (uin (10 + x2) 28) (if (mem 54 (10 + x2).toNatClampNeg) ≤ 0 then (f_X8_withBubbles_b32 (f_X8_withBubbles_b4  n) mem x2 0 x1) else (f_X8_withBubbles_b32 (f_X8_withBubbles_b4  n) mem x2 (1 <<< (x2 &&& 31)) x1)))
set_option maxRecDepth 20000 in
theorem t_X8_withBubbles_b4 {l : Launch} {E : Ue} : ∀ (n : Nat) (mem : Um) (x1 : Int32) (x2 : Int32) (z : Um × Int32), f_X8_withBubbles_b4  n mem x1 x2 = some z → ug l E 2 0 0 cX8_withBubbles 3 RX8 (some .int) [] (uz_i z) 0 0 4 [(0, .ref (ue_d E 38)), (1, .int x1), (2, .int x2)] [] mem := by
  intro n
  induction n with
  | zero =>
    intro mem x1 x2 z h
    rw [f_X8_withBubbles_b4] at h
    cases h
  | succ n ih =>
    intro mem x1 x2 z h
    rw [f_X8_withBubbles_b4] at h
    refine ug_iload_n 2 dX8_withBubbles_4 rfl rfl ?_
    refine ug_aload_n 0 dX8_withBubbles_5 rfl rfl ?_
    refine ug_getI kf_X8_154 gi_38_18 dX8_withBubbles_6 ?_
    refine ug_icmp_ge 40 dX8_withBubbles_9 (by decide) (fun q1 => ?_) (fun q1 => ?_)
    · rw [if_pos q1] at h
      refine ug_iload_n 1 dX8_withBubbles_40 rfl rfl ?_
      obtain rfl := Option.some.inj h
      exact ug_iret dX8_withBubbles_41
    · rw [if_neg q1] at h
      refine ug_iload_n 1 dX8_withBubbles_12 rfl rfl ?_
      refine ug_aload_n 0 dX8_withBubbles_13 rfl rfl ?_
      refine ug_getR kf_X8_62 gr_38_37 dX8_withBubbles_14 ?_
      refine ug_bipush dX8_withBubbles_17 un_bipush_10 ?_
      refine ug_iload_n 2 dX8_withBubbles_19 rfl rfl ?_
      refine ug_iadd dX8_withBubbles_20 ?_
      obtain ⟨g2, h⟩ := ugd_some h
      refine ug_iald al_54 (uin_ok g2) dX8_withBubbles_21 ?_
      refine ug_if_le 31 dX8_withBubbles_22 (by decide) (fun q3 => ?_) (fun q3 => ?_)
      · rw [if_pos q3] at h
        refine ug_iconst dX8_withBubbles_31 un_iconst_0 ?_
        refine ug_sub [(0, .ref (ue_d E 38)), (2, .int x2)] [0, 2] rfl ?_
        exact t_X8_withBubbles_b32 (f_X8_withBubbles_b4  n) ih mem x2 0 x1 _ h
      · rw [if_neg q3] at h
        refine ug_iconst dX8_withBubbles_25 un_iconst_1 ?_
        refine ug_iload_n 2 dX8_withBubbles_26 rfl rfl ?_
        refine ug_ishl dX8_withBubbles_27 ?_
        refine ug_goto 32 dX8_withBubbles_28 (by decide) ?_
        refine ug_sub [(0, .ref (ue_d E 38)), (2, .int x2)] [0, 2] rfl ?_
        exact t_X8_withBubbles_b32 (f_X8_withBubbles_b4  n) ih mem x2 (1 <<< (x2 &&& 31)) x1 _ h
def f_X8_withBubbles (mem : Um) : Option (Um × Int32) :=
  f_X8_withBubbles_b4  UF mem 0 0
set_option maxRecDepth 20000 in
theorem t_X8_withBubbles {l : Launch} {E : Ue} (mem : Um) (z : Um × Int32) (h : f_X8_withBubbles  mem  = some z) : ug l E 2 0 0 cX8_withBubbles 3 RX8 (some .int) [] (uz_i z) 0 0 0 [(0, .ref (ue_d E 38))] [] mem := by
  rw [f_X8_withBubbles] at h
  refine ug_iconst dX8_withBubbles_0 un_iconst_0 ?_
  refine ug_istore_n [(1, .int 0), (0, .ref (ue_d E 38))] dX8_withBubbles_1 rfl (Nat.le_of_ble_eq_true rfl) rfl ?_
  refine ug_iconst dX8_withBubbles_2 un_iconst_0 ?_
  refine ug_istore_n [(2, .int 0), (1, .int 0), (0, .ref (ue_d E 38))] dX8_withBubbles_3 rfl (Nat.le_of_ble_eq_true rfl) rfl ?_
  refine ug_sub [(0, .ref (ue_d E 38)), (1, .int 0), (2, .int 0)] [2, 1, 0] rfl ?_
  exact t_X8_withBubbles_b4  UF mem 0 0 _ h
theorem c_X8_withBubbles {l : Launch} {E : Ue} {mem : Um} {m1 : Um} {r : Int32} (h : f_X8_withBubbles  mem  = some (m1, r)) : ucr l E 2 0 0 yX8_withBubbles cX8_withBubbles 3 (some .int) [.ref (ue_d E 38)] mem (some (.int r)) m1 := ucr_of rfl (Nat.le_of_ble_eq_true rfl) (t_X8_withBubbles  mem  _ h)
-- X8_isOut
def f_X8_isOut_b37 (mem : Um) (y0 : Int32) : Option (Um × Int32) :=
  ugd (ub01 y0) (some (mem, y0))
set_option maxRecDepth 20000 in
theorem t_X8_isOut_b37 {l : Launch} {E : Ue} (mem : Um) (y0 : Int32) (z : Um × Int32) (h : f_X8_isOut_b37  mem y0 = some z) : ug l E 3 0 0 cX8_isOut 3 RX8 (some .boolean) [] (uz_i z) 0 0 37 [] [.int y0] mem := by
  rw [f_X8_isOut_b37] at h
  obtain ⟨g1, h⟩ := ugd_some h
  obtain rfl := Option.some.inj h
  exact ug_zret (of_decide_eq_true g1) dX8_isOut_37
def f_X8_isOut_b36 (mem : Um) : Option (Um × Int32) :=
  f_X8_isOut_b37 mem 0
set_option maxRecDepth 20000 in
theorem t_X8_isOut_b36 {l : Launch} {E : Ue} (mem : Um) (z : Um × Int32) (h : f_X8_isOut_b36  mem  = some z) : ug l E 3 0 0 cX8_isOut 3 RX8 (some .boolean) [] (uz_i z) 0 0 36 [] [] mem := by
  rw [f_X8_isOut_b36] at h
  refine ug_iconst dX8_isOut_36 un_iconst_0 ?_
  exact t_X8_isOut_b37 mem 0 _ h
def f_X8_isOut (mem : Um) (x1 : Int32) (x2 : Int32) : Option (Um × Int32) :=
  ugd (uin (10 + x1) 28) (if (mem 54 (10 + x1).toNatClampNeg) ≤ 0 then (f_X8_isOut_b36 mem) else (ugd (uin (15 + x1) 28) (ubi (f_X8_within mem ((mem 54 (15 + x1).toNatClampNeg) + x2) 0 99) (fun m4 r5 => if r5 = 0 then (f_X8_isOut_b37 m4 1) else (f_X8_isOut_b36 m4)))))
set_option maxRecDepth 20000 in
theorem t_X8_isOut {l : Launch} {E : Ue} (mem : Um) (x1 : Int32) (x2 : Int32) (z : Um × Int32) (h : f_X8_isOut  mem x1 x2 = some z) : ug l E 3 0 0 cX8_isOut 3 RX8 (some .boolean) [] (uz_i z) 0 0 0 [(0, .ref (ue_d E 38)), (1, .int x1), (2, .int x2)] [] mem := by
  rw [f_X8_isOut] at h
  refine ug_aload_n 0 dX8_isOut_0 rfl rfl ?_
  refine ug_getR kf_X8_62 gr_38_37 dX8_isOut_1 ?_
  refine ug_bipush dX8_isOut_4 un_bipush_10 ?_
  refine ug_iload_n 1 dX8_isOut_6 rfl rfl ?_
  refine ug_iadd dX8_isOut_7 ?_
  obtain ⟨g1, h⟩ := ugd_some h
  refine ug_iald al_54 (uin_ok g1) dX8_isOut_8 ?_
  refine ug_if_le 36 dX8_isOut_9 (by decide) (fun q2 => ?_) (fun q2 => ?_)
  · rw [if_pos q2] at h
    refine ug_sub [] [] rfl ?_
    exact t_X8_isOut_b36 mem  _ h
  · rw [if_neg q2] at h
    refine ug_aload_n 0 dX8_isOut_12 rfl rfl ?_
    refine ug_getR kf_X8_62 gr_38_37 dX8_isOut_13 ?_
    refine ug_bipush dX8_isOut_16 un_bipush_15 ?_
    refine ug_iload_n 1 dX8_isOut_18 rfl rfl ?_
    refine ug_iadd dX8_isOut_19 ?_
    obtain ⟨g3, h⟩ := ugd_some h
    refine ug_iald al_54 (uin_ok g3) dX8_isOut_20 ?_
    refine ug_iload_n 2 dX8_isOut_21 rfl rfl ?_
    refine ug_iadd dX8_isOut_22 ?_
    refine ug_iconst dX8_isOut_23 un_iconst_0 ?_
    refine ug_bipush dX8_isOut_24 un_bipush_99 ?_
    obtain ⟨m4, r5, h6, h⟩ := ubi_some h
    refine ug_callSi [.int ((mem 54 (15 + x1).toNatClampNeg) + x2), .int 0, .int 99] (c_X8_within  h6) kc_X8_352 rfl (S := []) rfl (Nat.le_of_ble_eq_true rfl) (Nat.le_of_ble_eq_true rfl) (Nat.le_of_ble_eq_true rfl) dX8_isOut_26 ?_
    refine ug_if_ne 36 dX8_isOut_29 (by decide) (fun q7 => ?_) (fun q7 => ?_)
    · rw [if_neg q7] at h
      refine ug_sub [] [] rfl ?_
      exact t_X8_isOut_b36 m4  _ h
    · rw [if_pos q7] at h
      refine ug_iconst dX8_isOut_32 un_iconst_1 ?_
      refine ug_goto 37 dX8_isOut_33 (by decide) ?_
      refine ug_sub [] [] rfl ?_
      exact t_X8_isOut_b37 m4 1 _ h
theorem c_X8_isOut {l : Launch} {E : Ue} {mem : Um} {x1 : Int32} {x2 : Int32} {m1 : Um} {r : Int32} (h : f_X8_isOut  mem x1 x2 = some (m1, r)) : ucr l E 3 0 0 yX8_isOut cX8_isOut 3 (some .boolean) [.ref (ue_d E 38), .int x1, .int x2] mem (some (.int r)) m1 := ucr_of rfl (Nat.le_of_ble_eq_true rfl) (t_X8_isOut  mem x1 x2 _ h)
-- X8_bursts
def f_X8_bursts (mem : Um) (x1 : Int32) : Option (Um × Unit) :=
  ugd (uin (10 + x1) 28) (ugd (uin (15 + x1) 28) (ugd (uin (20 + x1) 28) (some ((um_w (um_w (um_w (um_w mem 54 (10 + x1).toNatClampNeg 0) 54 (15 + x1).toNatClampNeg 0) 54 (20 + x1).toNatClampNeg 0) 54 26 (((um_w (um_w (um_w mem 54 (10 + x1).toNatClampNeg 0) 54 (15 + x1).toNatClampNeg 0) 54 (20 + x1).toNatClampNeg 0) 54 26) + 1)), ()))))
set_option maxRecDepth 20000 in
theorem t_X8_bursts {l : Launch} {E : Ue} (mem : Um) (x1 : Int32) (z : Um × Unit) (h : f_X8_bursts  mem x1 = some z) : ug l E 2 0 0 cX8_bursts 2 RX8 none [] (uz_v z) 0 0 0 [(0, .ref (ue_d E 38)), (1, .int x1)] [] mem := by
  rw [f_X8_bursts] at h
  refine ug_aload_n 0 dX8_bursts_0 rfl rfl ?_
  refine ug_getR kf_X8_62 gr_38_37 dX8_bursts_1 ?_
  refine ug_bipush dX8_bursts_4 un_bipush_10 ?_
  refine ug_iload_n 1 dX8_bursts_6 rfl rfl ?_
  refine ug_iadd dX8_bursts_7 ?_
  refine ug_iconst dX8_bursts_8 un_iconst_0 ?_
  obtain ⟨g1, h⟩ := ugd_some h
  refine ug_iast al_54 (uin_ok g1) dX8_bursts_9 ?_
  refine ug_aload_n 0 dX8_bursts_10 rfl rfl ?_
  refine ug_getR kf_X8_62 gr_38_37 dX8_bursts_11 ?_
  refine ug_bipush dX8_bursts_14 un_bipush_15 ?_
  refine ug_iload_n 1 dX8_bursts_16 rfl rfl ?_
  refine ug_iadd dX8_bursts_17 ?_
  refine ug_iconst dX8_bursts_18 un_iconst_0 ?_
  obtain ⟨g2, h⟩ := ugd_some h
  refine ug_iast al_54 (uin_ok g2) dX8_bursts_19 ?_
  refine ug_aload_n 0 dX8_bursts_20 rfl rfl ?_
  refine ug_getR kf_X8_62 gr_38_37 dX8_bursts_21 ?_
  refine ug_bipush dX8_bursts_24 un_bipush_20 ?_
  refine ug_iload_n 1 dX8_bursts_26 rfl rfl ?_
  refine ug_iadd dX8_bursts_27 ?_
  refine ug_iconst dX8_bursts_28 un_iconst_0 ?_
  obtain ⟨g3, h⟩ := ugd_some h
  refine ug_iast al_54 (uin_ok g3) dX8_bursts_29 ?_
  refine ug_aload_n 0 dX8_bursts_30 rfl rfl ?_
  refine ug_getR kf_X8_62 gr_38_37 dX8_bursts_31 ?_
  refine ug_bipush dX8_bursts_34 un_bipush_26 ?_
  refine ug_dup2 dX8_bursts_36 rfl rfl ?_
  refine ug_ialdK al_54 ui_26_28 uc_26 dX8_bursts_37 ?_
  refine ug_iconst dX8_bursts_38 un_iconst_1 ?_
  refine ug_iadd dX8_bursts_39 ?_
  refine ug_iastK al_54 ui_26_28 uc_26 dX8_bursts_40 ?_
  obtain rfl := Option.some.inj h
  exact ug_vret dX8_bursts_41
theorem c_X8_bursts {l : Launch} {E : Ue} {mem : Um} {x1 : Int32} {m1 : Um} {r : Unit} (h : f_X8_bursts  mem x1 = some (m1, r)) : ucr l E 2 0 0 yX8_bursts cX8_bursts 2 none [.ref (ue_d E 38), .int x1] mem none m1 := ucr_of rfl (Nat.le_of_ble_eq_true rfl) (t_X8_bursts  mem x1 _ h)
-- X8_isDriven
def f_X8_isDriven_b71 (mem : Um) (y0 : Int32) : Option (Um × Int32) :=
  ugd (ub01 y0) (some (mem, y0))
set_option maxRecDepth 20000 in
theorem t_X8_isDriven_b71 {l : Launch} {E : Ue} (mem : Um) (y0 : Int32) (z : Um × Int32) (h : f_X8_isDriven_b71  mem y0 = some z) : ug l E 4 0 0 cX8_isDriven 4 RX8 (some .boolean) [] (uz_i z) 0 0 71 [] [.int y0] mem := by
  rw [f_X8_isDriven_b71] at h
  obtain ⟨g1, h⟩ := ugd_some h
  obtain rfl := Option.some.inj h
  exact ug_zret (of_decide_eq_true g1) dX8_isDriven_71
def f_X8_isDriven_b56 (k7 : Um → Int32 → Int32 → Int32 → Option (Um × Int32)) (mem : Um) (x1 : Int32) (x2 : Int32) (x3 : Int32) : Option (Um × Int32) :=
  k7 mem x1 x2 (x3 + 1)
set_option maxRecDepth 20000 in
theorem t_X8_isDriven_b56 {l : Launch} {E : Ue} (k7 : Um → Int32 → Int32 → Int32 → Option (Um × Int32)) (hk7 : ∀ (mem : Um) (x1 : Int32) (x2 : Int32) (x3 : Int32) (z : Um × Int32), k7 mem x1 x2 x3 = some z → ug l E 4 0 0 cX8_isDriven 4 RX8 (some .boolean) [] (uz_i z) 0 0 7 [(0, .ref (ue_d E 38)), (1, .int x1), (2, .int x2), (3, .int x3)] [] mem) (mem : Um) (x1 : Int32) (x2 : Int32) (x3 : Int32) (z : Um × Int32) (h : f_X8_isDriven_b56 k7 mem x1 x2 x3 = some z) : ug l E 4 0 0 cX8_isDriven 4 RX8 (some .boolean) [] (uz_i z) 0 0 56 [(0, .ref (ue_d E 38)), (1, .int x1), (2, .int x2), (3, .int x3)] [] mem := by
  rw [f_X8_isDriven_b56] at h
  refine ug_iinc (v := (x3 + 1)) [(3, .int (x3 + 1)), (0, .ref (ue_d E 38)), (1, .int x1), (2, .int x2)] 3 dX8_isDriven_56 rfl rfl (Nat.le_of_ble_eq_true rfl) rfl ?_
  refine ug_goto 7 dX8_isDriven_59 (by decide) ?_
  refine ug_sub [(0, .ref (ue_d E 38)), (1, .int x1), (2, .int x2), (3, .int (x3 + 1))] [1, 2, 3, 0] rfl ?_
  exact hk7 mem x1 x2 (x3 + 1) _ h
def f_X8_isDriven_b7 : Nat → Um → Int32 → Int32 → Int32 → Option (Um × Int32)
  | 0, _, _, _, _ => none
  | n + 1, mem, x1, x2, x3 =>
    if (mem 38 18) ≤ x3 then (if x2 = 0 then (f_X8_isDriven_b71 mem 0) else (f_X8_isDriven_b71 mem 1)) else (if ((x2 >>> (x3 &&& 31)) &&& 1) = 0 then (f_X8_isDriven_b56 (f_X8_isDriven_b7  n) mem x1 x2 x3) else (ubi (f_X8_isOut mem x3 x1) (fun m4 r5 => if r5 = 0 then (ugd (uin (15 + x3) 28) (ugd (uin (15 + x3) 28) (f_X8_isDriven_b56 (f_X8_isDriven_b7  n) (um_w m4 54 (15 + x3).toNatClampNeg ((m4 54 (15 + x3).toNatClampNeg) + x1)) x1 x2 x3))) else (ubi (f_X8_bursts m4 x3) (fun m10 r11 => f_X8_isDriven_b56 (f_X8_isDriven_b7  n) m10 x1 x2 x3)))))
set_option maxRecDepth 20000 in
theorem t_X8_isDriven_b7 {l : Launch} {E : Ue} : ∀ (n : Nat) (mem : Um) (x1 : Int32) (x2 : Int32) (x3 : Int32) (z : Um × Int32), f_X8_isDriven_b7  n mem x1 x2 x3 = some z → ug l E 4 0 0 cX8_isDriven 4 RX8 (some .boolean) [] (uz_i z) 0 0 7 [(0, .ref (ue_d E 38)), (1, .int x1), (2, .int x2), (3, .int x3)] [] mem := by
  intro n
  induction n with
  | zero =>
    intro mem x1 x2 x3 z h
    rw [f_X8_isDriven_b7] at h
    cases h
  | succ n ih =>
    intro mem x1 x2 x3 z h
    rw [f_X8_isDriven_b7] at h
    refine ug_iload_n 3 dX8_isDriven_7 rfl rfl ?_
    refine ug_aload_n 0 dX8_isDriven_8 rfl rfl ?_
    refine ug_getI kf_X8_154 gi_38_18 dX8_isDriven_9 ?_
    refine ug_icmp_ge 62 dX8_isDriven_12 (by decide) (fun q1 => ?_) (fun q1 => ?_)
    · rw [if_pos q1] at h
      refine ug_iload_n 2 dX8_isDriven_62 rfl rfl ?_
      refine ug_if_eq 70 dX8_isDriven_63 (by decide) (fun q2 => ?_) (fun q2 => ?_)
      · rw [if_pos q2] at h
        refine ug_iconst dX8_isDriven_70 un_iconst_0 ?_
        refine ug_sub [] [] rfl ?_
        exact t_X8_isDriven_b71 mem 0 _ h
      · rw [if_neg q2] at h
        refine ug_iconst dX8_isDriven_66 un_iconst_1 ?_
        refine ug_goto 71 dX8_isDriven_67 (by decide) ?_
        refine ug_sub [] [] rfl ?_
        exact t_X8_isDriven_b71 mem 1 _ h
    · rw [if_neg q1] at h
      refine ug_iload_n 2 dX8_isDriven_15 rfl rfl ?_
      refine ug_iload_n 3 dX8_isDriven_16 rfl rfl ?_
      refine ug_ishr dX8_isDriven_17 ?_
      refine ug_iconst dX8_isDriven_18 un_iconst_1 ?_
      refine ug_iand dX8_isDriven_19 ?_
      refine ug_if_ne 26 dX8_isDriven_20 (by decide) (fun q3 => ?_) (fun q3 => ?_)
      · rw [if_neg q3] at h
        refine ug_aload_n 0 dX8_isDriven_26 rfl rfl ?_
        refine ug_iload_n 3 dX8_isDriven_27 rfl rfl ?_
        refine ug_iload_n 1 dX8_isDriven_28 rfl rfl ?_
        obtain ⟨m4, r5, h6, h⟩ := ubi_some h
        refine ug_callVi [.int x3, .int x1] (c_X8_isOut  h6) kc_X8_359 ro_38 rfl (S := []) rfl (Nat.le_of_ble_eq_true rfl) (Nat.le_of_ble_eq_true rfl) (Nat.le_of_ble_eq_true rfl) dX8_isDriven_29 ?_
        refine ug_if_eq 43 dX8_isDriven_32 (by decide) (fun q7 => ?_) (fun q7 => ?_)
        · rw [if_pos q7] at h
          refine ug_aload_n 0 dX8_isDriven_43 rfl rfl ?_
          refine ug_getR kf_X8_62 gr_38_37 dX8_isDriven_44 ?_
          refine ug_bipush dX8_isDriven_47 un_bipush_15 ?_
          refine ug_iload_n 3 dX8_isDriven_49 rfl rfl ?_
          refine ug_iadd dX8_isDriven_50 ?_
          refine ug_dup2 dX8_isDriven_51 rfl rfl ?_
          obtain ⟨g8, h⟩ := ugd_some h
          refine ug_iald al_54 (uin_ok g8) dX8_isDriven_52 ?_
          refine ug_iload_n 1 dX8_isDriven_53 rfl rfl ?_
          refine ug_iadd dX8_isDriven_54 ?_
          obtain ⟨g9, h⟩ := ugd_some h
          refine ug_iast al_54 (uin_ok g9) dX8_isDriven_55 ?_
          exact t_X8_isDriven_b56 (f_X8_isDriven_b7  n) ih (um_w m4 54 (15 + x3).toNatClampNeg ((m4 54 (15 + x3).toNatClampNeg) + x1)) x1 x2 x3 _ h
        · rw [if_neg q7] at h
          refine ug_aload_n 0 dX8_isDriven_35 rfl rfl ?_
          refine ug_iload_n 3 dX8_isDriven_36 rfl rfl ?_
          obtain ⟨m10, r11, h12, h⟩ := ubi_some h
          refine ug_callVv [.int x3] (c_X8_bursts  h12) kc_X8_362 ro_38 rfl (S := []) rfl (Nat.le_of_ble_eq_true rfl) (Nat.le_of_ble_eq_true rfl) (Nat.le_of_ble_eq_true rfl) dX8_isDriven_37 ?_
          refine ug_goto 56 dX8_isDriven_40 (by decide) ?_
          exact t_X8_isDriven_b56 (f_X8_isDriven_b7  n) ih m10 x1 x2 x3 _ h
      · rw [if_pos q3] at h
        refine ug_goto 56 dX8_isDriven_23 (by decide) ?_
        exact t_X8_isDriven_b56 (f_X8_isDriven_b7  n) ih mem x1 x2 x3 _ h
def f_X8_isDriven (mem : Um) (x1 : Int32) : Option (Um × Int32) :=
  ubi (f_X8_withBubbles mem) (fun m1 r2 => f_X8_isDriven_b7  UF m1 x1 r2 0)
set_option maxRecDepth 20000 in
theorem t_X8_isDriven {l : Launch} {E : Ue} (mem : Um) (x1 : Int32) (z : Um × Int32) (h : f_X8_isDriven  mem x1 = some z) : ug l E 4 0 0 cX8_isDriven 4 RX8 (some .boolean) [] (uz_i z) 0 0 0 [(0, .ref (ue_d E 38)), (1, .int x1)] [] mem := by
  rw [f_X8_isDriven] at h
  refine ug_aload_n 0 dX8_isDriven_0 rfl rfl ?_
  obtain ⟨m1, r2, h3, h⟩ := ubi_some h
  refine ug_callVi [] (c_X8_withBubbles  h3) kc_X8_356 ro_38 rfl (S := []) rfl (Nat.le_of_ble_eq_true rfl) (Nat.le_of_ble_eq_true rfl) (Nat.le_of_ble_eq_true rfl) dX8_isDriven_1 ?_
  refine ug_istore_n [(2, .int r2), (0, .ref (ue_d E 38)), (1, .int x1)] dX8_isDriven_4 rfl (Nat.le_of_ble_eq_true rfl) rfl ?_
  refine ug_iconst dX8_isDriven_5 un_iconst_0 ?_
  refine ug_istore_n [(3, .int 0), (2, .int r2), (0, .ref (ue_d E 38)), (1, .int x1)] dX8_isDriven_6 rfl (Nat.le_of_ble_eq_true rfl) rfl ?_
  refine ug_sub [(0, .ref (ue_d E 38)), (1, .int x1), (2, .int r2), (3, .int 0)] [2, 3, 1, 0] rfl ?_
  exact t_X8_isDriven_b7  UF m1 x1 r2 0 _ h
theorem c_X8_isDriven {l : Launch} {E : Ue} {mem : Um} {x1 : Int32} {m1 : Um} {r : Int32} (h : f_X8_isDriven  mem x1 = some (m1, r)) : ucr l E 4 0 0 yX8_isDriven cX8_isDriven 4 (some .boolean) [.ref (ue_d E 38), .int x1] mem (some (.int r)) m1 := ucr_of rfl (Nat.le_of_ble_eq_true rfl) (t_X8_isDriven  mem x1 _ h)
-- X8_isSold
def f_X8_isSold_b41 (mem : Um) : Option (Um × Int32) :=
  some (mem, 0)
set_option maxRecDepth 20000 in
theorem t_X8_isSold_b41 {l : Launch} {E : Ue} (mem : Um) (z : Um × Int32) (h : f_X8_isSold_b41  mem  = some z) : ug l E 2 0 0 cX8_isSold 5 RX8 (some .boolean) [] (uz_i z) 0 0 41 [] [] mem := by
  rw [f_X8_isSold_b41] at h
  refine ug_iconst dX8_isSold_41 un_iconst_0 ?_
  obtain rfl := Option.some.inj h
  exact ug_zret (Or.inl rfl) dX8_isSold_42
def f_X8_isSold_b71 : Nat → Um → Int32 → Int32 → Int32 → Option (Um × Int32)
  | 0, _, _, _, _ => none
  | n + 1, mem, x1, x2, x4 =>
    if 20 < x4 then (some (mem, 1)) else (ugd (uin (x4 + x1) 28) (ugd (uin (x4 + x2) 28) (ugd (uin (x4 + x1) 28) ((f_X8_isSold_b71  n) (um_w (um_w mem 54 (x4 + x2).toNatClampNeg (mem 54 (x4 + x1).toNatClampNeg)) 54 (x4 + x1).toNatClampNeg 0) x1 x2 (x4 + 5)))))
set_option maxRecDepth 20000 in
theorem t_X8_isSold_b71 {l : Launch} {E : Ue} : ∀ (n : Nat) (mem : Um) (x1 : Int32) (x2 : Int32) (x4 : Int32) (z : Um × Int32), f_X8_isSold_b71  n mem x1 x2 x4 = some z → ug l E 2 0 0 cX8_isSold 5 RX8 (some .boolean) [] (uz_i z) 0 0 71 [(0, .ref (ue_d E 38)), (1, .int x1), (2, .int x2), (4, .int x4)] [] mem := by
  intro n
  induction n with
  | zero =>
    intro mem x1 x2 x4 z h
    rw [f_X8_isSold_b71] at h
    cases h
  | succ n ih =>
    intro mem x1 x2 x4 z h
    rw [f_X8_isSold_b71] at h
    refine ug_iload 3 dX8_isSold_71 rfl ?_
    refine ug_bipush dX8_isSold_73 un_bipush_20 ?_
    refine ug_icmp_gt 112 dX8_isSold_75 (by decide) (fun q1 => ?_) (fun q1 => ?_)
    · rw [if_pos q1] at h
      refine ug_iconst dX8_isSold_112 un_iconst_1 ?_
      obtain rfl := Option.some.inj h
      exact ug_zret (Or.inr rfl) dX8_isSold_113
    · rw [if_neg q1] at h
      refine ug_aload_n 0 dX8_isSold_78 rfl rfl ?_
      refine ug_getR kf_X8_62 gr_38_37 dX8_isSold_79 ?_
      refine ug_iload 3 dX8_isSold_82 rfl ?_
      refine ug_iload_n 2 dX8_isSold_84 rfl rfl ?_
      refine ug_iadd dX8_isSold_85 ?_
      refine ug_aload_n 0 dX8_isSold_86 rfl rfl ?_
      refine ug_getR kf_X8_62 gr_38_37 dX8_isSold_87 ?_
      refine ug_iload 3 dX8_isSold_90 rfl ?_
      refine ug_iload_n 1 dX8_isSold_92 rfl rfl ?_
      refine ug_iadd dX8_isSold_93 ?_
      obtain ⟨g2, h⟩ := ugd_some h
      refine ug_iald al_54 (uin_ok g2) dX8_isSold_94 ?_
      obtain ⟨g3, h⟩ := ugd_some h
      refine ug_iast al_54 (uin_ok g3) dX8_isSold_95 ?_
      refine ug_aload_n 0 dX8_isSold_96 rfl rfl ?_
      refine ug_getR kf_X8_62 gr_38_37 dX8_isSold_97 ?_
      refine ug_iload 3 dX8_isSold_100 rfl ?_
      refine ug_iload_n 1 dX8_isSold_102 rfl rfl ?_
      refine ug_iadd dX8_isSold_103 ?_
      refine ug_iconst dX8_isSold_104 un_iconst_0 ?_
      obtain ⟨g4, h⟩ := ugd_some h
      refine ug_iast al_54 (uin_ok g4) dX8_isSold_105 ?_
      refine ug_iinc (v := (x4 + 5)) [(4, .int (x4 + 5)), (0, .ref (ue_d E 38)), (1, .int x1), (2, .int x2)] 3 dX8_isSold_106 rfl rfl (Nat.le_of_ble_eq_true rfl) rfl ?_
      refine ug_goto 71 dX8_isSold_109 (by decide) ?_
      refine ug_sub [(0, .ref (ue_d E 38)), (1, .int x1), (2, .int x2), (4, .int (x4 + 5))] [1, 2, 3, 0] rfl ?_
      exact ih (um_w (um_w mem 54 (x4 + x2).toNatClampNeg (mem 54 (x4 + x1).toNatClampNeg)) 54 (x4 + x1).toNatClampNeg 0) x1 x2 (x4 + 5) _ h
def f_X8_isSold (mem : Um) (x1 : Int32) (x2 : Int32) (x3 : Int32) : Option (Um × Int32) :=
  if x1 = x2 then (f_X8_isSold_b41 mem) else (ugd (uin (10 + x1) 28) (if (mem 54 (10 + x1).toNatClampNeg) = 0 then (f_X8_isSold_b41 mem) else (ugd (uin (10 + x2) 28) (if 0 < (mem 54 (10 + x2).toNatClampNeg) then (f_X8_isSold_b41 mem) else (ugd (uin (0 + x2) 28) (if x3 ≤ (mem 54 (0 + x2).toNatClampNeg) then (ugd (uin (0 + x2) 28) (ugd (uin (0 + x2) 28) (ugd (uin (0 + x1) 28) (ugd (uin (0 + x1) 28) (f_X8_isSold_b71  UF (um_w (um_w mem 54 (0 + x2).toNatClampNeg ((mem 54 (0 + x2).toNatClampNeg) - x3)) 54 (0 + x1).toNatClampNeg (((um_w mem 54 (0 + x2).toNatClampNeg ((mem 54 (0 + x2).toNatClampNeg) - x3)) 54 (0 + x1).toNatClampNeg) + x3)) x1 x2 10))))) else (f_X8_isSold_b41 mem)))))))
set_option maxRecDepth 20000 in
theorem t_X8_isSold {l : Launch} {E : Ue} (mem : Um) (x1 : Int32) (x2 : Int32) (x3 : Int32) (z : Um × Int32) (h : f_X8_isSold  mem x1 x2 x3 = some z) : ug l E 2 0 0 cX8_isSold 5 RX8 (some .boolean) [] (uz_i z) 0 0 0 [(0, .ref (ue_d E 38)), (1, .int x1), (2, .int x2), (3, .int x3)] [] mem := by
  rw [f_X8_isSold] at h
  refine ug_iload_n 1 dX8_isSold_0 rfl rfl ?_
  refine ug_iload_n 2 dX8_isSold_1 rfl rfl ?_
  refine ug_icmp_eq 41 dX8_isSold_2 (by decide) (fun q1 => ?_) (fun q1 => ?_)
  · rw [if_pos q1] at h
    refine ug_sub [] [] rfl ?_
    exact t_X8_isSold_b41 mem  _ h
  · rw [if_neg q1] at h
    refine ug_aload_n 0 dX8_isSold_5 rfl rfl ?_
    refine ug_getR kf_X8_62 gr_38_37 dX8_isSold_6 ?_
    refine ug_bipush dX8_isSold_9 un_bipush_10 ?_
    refine ug_iload_n 1 dX8_isSold_11 rfl rfl ?_
    refine ug_iadd dX8_isSold_12 ?_
    obtain ⟨g2, h⟩ := ugd_some h
    refine ug_iald al_54 (uin_ok g2) dX8_isSold_13 ?_
    refine ug_if_eq 41 dX8_isSold_14 (by decide) (fun q3 => ?_) (fun q3 => ?_)
    · rw [if_pos q3] at h
      refine ug_sub [] [] rfl ?_
      exact t_X8_isSold_b41 mem  _ h
    · rw [if_neg q3] at h
      refine ug_aload_n 0 dX8_isSold_17 rfl rfl ?_
      refine ug_getR kf_X8_62 gr_38_37 dX8_isSold_18 ?_
      refine ug_bipush dX8_isSold_21 un_bipush_10 ?_
      refine ug_iload_n 2 dX8_isSold_23 rfl rfl ?_
      refine ug_iadd dX8_isSold_24 ?_
      obtain ⟨g4, h⟩ := ugd_some h
      refine ug_iald al_54 (uin_ok g4) dX8_isSold_25 ?_
      refine ug_if_gt 41 dX8_isSold_26 (by decide) (fun q5 => ?_) (fun q5 => ?_)
      · rw [if_pos q5] at h
        refine ug_sub [] [] rfl ?_
        exact t_X8_isSold_b41 mem  _ h
      · rw [if_neg q5] at h
        refine ug_aload_n 0 dX8_isSold_29 rfl rfl ?_
        refine ug_getR kf_X8_62 gr_38_37 dX8_isSold_30 ?_
        refine ug_iconst dX8_isSold_33 un_iconst_0 ?_
        refine ug_iload_n 2 dX8_isSold_34 rfl rfl ?_
        refine ug_iadd dX8_isSold_35 ?_
        obtain ⟨g6, h⟩ := ugd_some h
        refine ug_iald al_54 (uin_ok g6) dX8_isSold_36 ?_
        refine ug_iload_n 3 dX8_isSold_37 rfl rfl ?_
        refine ug_icmp_ge 43 dX8_isSold_38 (by decide) (fun q7 => ?_) (fun q7 => ?_)
        · rw [if_pos q7] at h
          refine ug_aload_n 0 dX8_isSold_43 rfl rfl ?_
          refine ug_getR kf_X8_62 gr_38_37 dX8_isSold_44 ?_
          refine ug_iconst dX8_isSold_47 un_iconst_0 ?_
          refine ug_iload_n 2 dX8_isSold_48 rfl rfl ?_
          refine ug_iadd dX8_isSold_49 ?_
          refine ug_dup2 dX8_isSold_50 rfl rfl ?_
          obtain ⟨g8, h⟩ := ugd_some h
          refine ug_iald al_54 (uin_ok g8) dX8_isSold_51 ?_
          refine ug_iload_n 3 dX8_isSold_52 rfl rfl ?_
          refine ug_isub dX8_isSold_53 ?_
          obtain ⟨g9, h⟩ := ugd_some h
          refine ug_iast al_54 (uin_ok g9) dX8_isSold_54 ?_
          refine ug_aload_n 0 dX8_isSold_55 rfl rfl ?_
          refine ug_getR kf_X8_62 gr_38_37 dX8_isSold_56 ?_
          refine ug_iconst dX8_isSold_59 un_iconst_0 ?_
          refine ug_iload_n 1 dX8_isSold_60 rfl rfl ?_
          refine ug_iadd dX8_isSold_61 ?_
          refine ug_dup2 dX8_isSold_62 rfl rfl ?_
          obtain ⟨g10, h⟩ := ugd_some h
          refine ug_iald al_54 (uin_ok g10) dX8_isSold_63 ?_
          refine ug_iload_n 3 dX8_isSold_64 rfl rfl ?_
          refine ug_iadd dX8_isSold_65 ?_
          obtain ⟨g11, h⟩ := ugd_some h
          refine ug_iast al_54 (uin_ok g11) dX8_isSold_66 ?_
          refine ug_bipush dX8_isSold_67 un_bipush_10 ?_
          refine ug_istore [(4, .int 10), (0, .ref (ue_d E 38)), (1, .int x1), (2, .int x2), (3, .int x3)] dX8_isSold_69 (Nat.le_of_ble_eq_true rfl) rfl ?_
          refine ug_sub [(0, .ref (ue_d E 38)), (1, .int x1), (2, .int x2), (4, .int 10)] [1, 2, 3, 0] rfl ?_
          exact t_X8_isSold_b71  UF (um_w (um_w mem 54 (0 + x2).toNatClampNeg ((mem 54 (0 + x2).toNatClampNeg) - x3)) 54 (0 + x1).toNatClampNeg (((um_w mem 54 (0 + x2).toNatClampNeg ((mem 54 (0 + x2).toNatClampNeg) - x3)) 54 (0 + x1).toNatClampNeg) + x3)) x1 x2 10 _ h
        · rw [if_neg q7] at h
          refine ug_sub [] [] rfl ?_
          exact t_X8_isSold_b41 mem  _ h
theorem c_X8_isSold {l : Launch} {E : Ue} {mem : Um} {x1 : Int32} {x2 : Int32} {x3 : Int32} {m1 : Um} {r : Int32} (h : f_X8_isSold  mem x1 x2 x3 = some (m1, r)) : ucr l E 2 0 0 yX8_isSold cX8_isSold 5 (some .boolean) [.ref (ue_d E 38), .int x1, .int x2, .int x3] mem (some (.int r)) m1 := ucr_of rfl (Nat.le_of_ble_eq_true rfl) (t_X8_isSold  mem x1 x2 x3 _ h)
-- X8_size
def f_X8_size_b10 (mem : Um) (y0 : Int32) : Option (Um × Int32) :=
  some (mem, y0)
set_option maxRecDepth 20000 in
theorem t_X8_size_b10 {l : Launch} {E : Ue} (mem : Um) (y0 : Int32) (z : Um × Int32) (h : f_X8_size_b10  mem y0 = some z) : ug l E 2 0 0 cX8_size 1 RX8 (some .int) [] (uz_i z) 0 0 10 [] [.int y0] mem := by
  rw [f_X8_size_b10] at h
  obtain rfl := Option.some.inj h
  exact ug_iret dX8_size_10
def f_X8_size (mem : Um) (x0 : Int32) : Option (Um × Int32) :=
  if 0 ≤ x0 then (f_X8_size_b10 mem x0) else (f_X8_size_b10 mem (-x0))
set_option maxRecDepth 20000 in
theorem t_X8_size {l : Launch} {E : Ue} (mem : Um) (x0 : Int32) (z : Um × Int32) (h : f_X8_size  mem x0 = some z) : ug l E 2 0 0 cX8_size 1 RX8 (some .int) [] (uz_i z) 0 0 0 [(0, .int x0)] [] mem := by
  rw [f_X8_size] at h
  refine ug_iload_n 0 dX8_size_0 rfl rfl ?_
  refine ug_if_ge 9 dX8_size_1 (by decide) (fun q1 => ?_) (fun q1 => ?_)
  · rw [if_pos q1] at h
    refine ug_iload_n 0 dX8_size_9 rfl rfl ?_
    refine ug_sub [] [] rfl ?_
    exact t_X8_size_b10 mem x0 _ h
  · rw [if_neg q1] at h
    refine ug_iload_n 0 dX8_size_4 rfl rfl ?_
    refine ug_ineg dX8_size_5 ?_
    refine ug_goto 10 dX8_size_6 (by decide) ?_
    refine ug_sub [] [] rfl ?_
    exact t_X8_size_b10 mem (-x0) _ h
theorem c_X8_size {l : Launch} {E : Ue} {mem : Um} {x0 : Int32} {m1 : Um} {r : Int32} (h : f_X8_size  mem x0 = some (m1, r)) : ucr l E 2 0 0 yX8_size cX8_size 1 (some .int) [.int x0] mem (some (.int r)) m1 := ucr_of rfl (Nat.le_of_ble_eq_true rfl) (t_X8_size  mem x0 _ h)
-- X8_mayKeep
def f_X8_mayKeep_b62 (mem : Um) (y0 : Int32) : Option (Um × Int32) :=
  ugd (ub01 y0) (some (mem, y0))
set_option maxRecDepth 20000 in
theorem t_X8_mayKeep_b62 {l : Launch} {E : Ue} (mem : Um) (y0 : Int32) (z : Um × Int32) (h : f_X8_mayKeep_b62  mem y0 = some z) : ug l E 3 0 0 cX8_mayKeep 2 RX8 (some .boolean) [] (uz_i z) 0 0 62 [] [.int y0] mem := by
  rw [f_X8_mayKeep_b62] at h
  obtain ⟨g1, h⟩ := ugd_some h
  obtain rfl := Option.some.inj h
  exact ug_zret (of_decide_eq_true g1) dX8_mayKeep_62
def f_X8_mayKeep_b61 (mem : Um) : Option (Um × Int32) :=
  f_X8_mayKeep_b62 mem 0
set_option maxRecDepth 20000 in
theorem t_X8_mayKeep_b61 {l : Launch} {E : Ue} (mem : Um) (z : Um × Int32) (h : f_X8_mayKeep_b61  mem  = some z) : ug l E 3 0 0 cX8_mayKeep 2 RX8 (some .boolean) [] (uz_i z) 0 0 61 [] [] mem := by
  rw [f_X8_mayKeep_b61] at h
  refine ug_iconst dX8_mayKeep_61 un_iconst_0 ?_
  exact t_X8_mayKeep_b62 mem 0 _ h
def f_X8_mayKeep (mem : Um) (x1 : Int32) : Option (Um × Int32) :=
  ugd (uin (10 + x1) 28) (if (mem 54 (10 + x1).toNatClampNeg) ≤ 0 then (f_X8_mayKeep_b61 mem) else (ugd (uin (20 + x1) 28) (if (mem 54 (20 + x1).toNatClampNeg) ≤ 0 then (f_X8_mayKeep_b61 mem) else (ugd (uin (5 + x1) 28) (ugd (uin (15 + x1) 28) (ubi (f_X8_size mem ((mem 54 (5 + x1).toNatClampNeg) - (mem 54 (15 + x1).toNatClampNeg))) (fun m7 r8 => ugd (uin (10 + x1) 28) (if (m7 54 (10 + x1).toNatClampNeg) < r8 then (f_X8_mayKeep_b61 m7) else (f_X8_mayKeep_b62 m7 1)))))))))
set_option maxRecDepth 20000 in
theorem t_X8_mayKeep {l : Launch} {E : Ue} (mem : Um) (x1 : Int32) (z : Um × Int32) (h : f_X8_mayKeep  mem x1 = some z) : ug l E 3 0 0 cX8_mayKeep 2 RX8 (some .boolean) [] (uz_i z) 0 0 0 [(0, .ref (ue_d E 38)), (1, .int x1)] [] mem := by
  rw [f_X8_mayKeep] at h
  refine ug_aload_n 0 dX8_mayKeep_0 rfl rfl ?_
  refine ug_getR kf_X8_62 gr_38_37 dX8_mayKeep_1 ?_
  refine ug_bipush dX8_mayKeep_4 un_bipush_10 ?_
  refine ug_iload_n 1 dX8_mayKeep_6 rfl rfl ?_
  refine ug_iadd dX8_mayKeep_7 ?_
  obtain ⟨g1, h⟩ := ugd_some h
  refine ug_iald al_54 (uin_ok g1) dX8_mayKeep_8 ?_
  refine ug_if_le 61 dX8_mayKeep_9 (by decide) (fun q2 => ?_) (fun q2 => ?_)
  · rw [if_pos q2] at h
    refine ug_sub [] [] rfl ?_
    exact t_X8_mayKeep_b61 mem  _ h
  · rw [if_neg q2] at h
    refine ug_aload_n 0 dX8_mayKeep_12 rfl rfl ?_
    refine ug_getR kf_X8_62 gr_38_37 dX8_mayKeep_13 ?_
    refine ug_bipush dX8_mayKeep_16 un_bipush_20 ?_
    refine ug_iload_n 1 dX8_mayKeep_18 rfl rfl ?_
    refine ug_iadd dX8_mayKeep_19 ?_
    obtain ⟨g3, h⟩ := ugd_some h
    refine ug_iald al_54 (uin_ok g3) dX8_mayKeep_20 ?_
    refine ug_if_le 61 dX8_mayKeep_21 (by decide) (fun q4 => ?_) (fun q4 => ?_)
    · rw [if_pos q4] at h
      refine ug_sub [] [] rfl ?_
      exact t_X8_mayKeep_b61 mem  _ h
    · rw [if_neg q4] at h
      refine ug_aload_n 0 dX8_mayKeep_24 rfl rfl ?_
      refine ug_getR kf_X8_62 gr_38_37 dX8_mayKeep_25 ?_
      refine ug_iconst dX8_mayKeep_28 un_iconst_5 ?_
      refine ug_iload_n 1 dX8_mayKeep_29 rfl rfl ?_
      refine ug_iadd dX8_mayKeep_30 ?_
      obtain ⟨g5, h⟩ := ugd_some h
      refine ug_iald al_54 (uin_ok g5) dX8_mayKeep_31 ?_
      refine ug_aload_n 0 dX8_mayKeep_32 rfl rfl ?_
      refine ug_getR kf_X8_62 gr_38_37 dX8_mayKeep_33 ?_
      refine ug_bipush dX8_mayKeep_36 un_bipush_15 ?_
      refine ug_iload_n 1 dX8_mayKeep_38 rfl rfl ?_
      refine ug_iadd dX8_mayKeep_39 ?_
      obtain ⟨g6, h⟩ := ugd_some h
      refine ug_iald al_54 (uin_ok g6) dX8_mayKeep_40 ?_
      refine ug_isub dX8_mayKeep_41 ?_
      obtain ⟨m7, r8, h9, h⟩ := ubi_some h
      refine ug_callSi [.int ((mem 54 (5 + x1).toNatClampNeg) - (mem 54 (15 + x1).toNatClampNeg))] (c_X8_size  h9) kc_X8_321 rfl (S := []) rfl (Nat.le_of_ble_eq_true rfl) (Nat.le_of_ble_eq_true rfl) (Nat.le_of_ble_eq_true rfl) dX8_mayKeep_42 ?_
      refine ug_aload_n 0 dX8_mayKeep_45 rfl rfl ?_
      refine ug_getR kf_X8_62 gr_38_37 dX8_mayKeep_46 ?_
      refine ug_bipush dX8_mayKeep_49 un_bipush_10 ?_
      refine ug_iload_n 1 dX8_mayKeep_51 rfl rfl ?_
      refine ug_iadd dX8_mayKeep_52 ?_
      obtain ⟨g10, h⟩ := ugd_some h
      refine ug_iald al_54 (uin_ok g10) dX8_mayKeep_53 ?_
      refine ug_icmp_gt 61 dX8_mayKeep_54 (by decide) (fun q11 => ?_) (fun q11 => ?_)
      · rw [if_pos q11] at h
        refine ug_sub [] [] rfl ?_
        exact t_X8_mayKeep_b61 m7  _ h
      · rw [if_neg q11] at h
        refine ug_iconst dX8_mayKeep_57 un_iconst_1 ?_
        refine ug_goto 62 dX8_mayKeep_58 (by decide) ?_
        refine ug_sub [] [] rfl ?_
        exact t_X8_mayKeep_b62 m7 1 _ h
theorem c_X8_mayKeep {l : Launch} {E : Ue} {mem : Um} {x1 : Int32} {m1 : Um} {r : Int32} (h : f_X8_mayKeep  mem x1 = some (m1, r)) : ucr l E 3 0 0 yX8_mayKeep cX8_mayKeep 2 (some .boolean) [.ref (ue_d E 38), .int x1] mem (some (.int r)) m1 := ucr_of rfl (Nat.le_of_ble_eq_true rfl) (t_X8_mayKeep  mem x1 _ h)
-- X8_areTouching
def f_X8_areTouching_b78 (mem : Um) (y0 : Int32) : Option (Um × Int32) :=
  ugd (ub01 y0) (some (mem, y0))
set_option maxRecDepth 20000 in
theorem t_X8_areTouching_b78 {l : Launch} {E : Ue} (mem : Um) (y0 : Int32) (z : Um × Int32) (h : f_X8_areTouching_b78  mem y0 = some z) : ug l E 3 0 0 cX8_areTouching 3 RX8 (some .boolean) [] (uz_i z) 0 0 78 [] [.int y0] mem := by
  rw [f_X8_areTouching_b78] at h
  obtain ⟨g1, h⟩ := ugd_some h
  obtain rfl := Option.some.inj h
  exact ug_zret (of_decide_eq_true g1) dX8_areTouching_78
def f_X8_areTouching_b77 (mem : Um) : Option (Um × Int32) :=
  f_X8_areTouching_b78 mem 0
set_option maxRecDepth 20000 in
theorem t_X8_areTouching_b77 {l : Launch} {E : Ue} (mem : Um) (z : Um × Int32) (h : f_X8_areTouching_b77  mem  = some z) : ug l E 3 0 0 cX8_areTouching 3 RX8 (some .boolean) [] (uz_i z) 0 0 77 [] [] mem := by
  rw [f_X8_areTouching_b77] at h
  refine ug_iconst dX8_areTouching_77 un_iconst_0 ?_
  exact t_X8_areTouching_b78 mem 0 _ h
def f_X8_areTouching (mem : Um) (x1 : Int32) (x2 : Int32) : Option (Um × Int32) :=
  if x1 = x2 then (f_X8_areTouching_b77 mem) else (ugd (uin (10 + x1) 28) (if (mem 54 (10 + x1).toNatClampNeg) ≤ 0 then (f_X8_areTouching_b77 mem) else (ugd (uin (10 + x2) 28) (if (mem 54 (10 + x2).toNatClampNeg) ≤ 0 then (f_X8_areTouching_b77 mem) else (ugd (uin (15 + x1) 28) (ugd (uin (15 + x2) 28) (ubi (f_X8_size mem ((mem 54 (15 + x1).toNatClampNeg) - (mem 54 (15 + x2).toNatClampNeg))) (fun m8 r9 => ugd (uin (10 + x1) 28) (ugd (uin (10 + x2) 28) (if ((m8 54 (10 + x1).toNatClampNeg) + (m8 54 (10 + x2).toNatClampNeg)) < r9 then (f_X8_areTouching_b77 m8) else (f_X8_areTouching_b78 m8 1)))))))))))
set_option maxRecDepth 20000 in
theorem t_X8_areTouching {l : Launch} {E : Ue} (mem : Um) (x1 : Int32) (x2 : Int32) (z : Um × Int32) (h : f_X8_areTouching  mem x1 x2 = some z) : ug l E 3 0 0 cX8_areTouching 3 RX8 (some .boolean) [] (uz_i z) 0 0 0 [(0, .ref (ue_d E 38)), (1, .int x1), (2, .int x2)] [] mem := by
  rw [f_X8_areTouching] at h
  refine ug_iload_n 1 dX8_areTouching_0 rfl rfl ?_
  refine ug_iload_n 2 dX8_areTouching_1 rfl rfl ?_
  refine ug_icmp_eq 77 dX8_areTouching_2 (by decide) (fun q1 => ?_) (fun q1 => ?_)
  · rw [if_pos q1] at h
    refine ug_sub [] [] rfl ?_
    exact t_X8_areTouching_b77 mem  _ h
  · rw [if_neg q1] at h
    refine ug_aload_n 0 dX8_areTouching_5 rfl rfl ?_
    refine ug_getR kf_X8_62 gr_38_37 dX8_areTouching_6 ?_
    refine ug_bipush dX8_areTouching_9 un_bipush_10 ?_
    refine ug_iload_n 1 dX8_areTouching_11 rfl rfl ?_
    refine ug_iadd dX8_areTouching_12 ?_
    obtain ⟨g2, h⟩ := ugd_some h
    refine ug_iald al_54 (uin_ok g2) dX8_areTouching_13 ?_
    refine ug_if_le 77 dX8_areTouching_14 (by decide) (fun q3 => ?_) (fun q3 => ?_)
    · rw [if_pos q3] at h
      refine ug_sub [] [] rfl ?_
      exact t_X8_areTouching_b77 mem  _ h
    · rw [if_neg q3] at h
      refine ug_aload_n 0 dX8_areTouching_17 rfl rfl ?_
      refine ug_getR kf_X8_62 gr_38_37 dX8_areTouching_18 ?_
      refine ug_bipush dX8_areTouching_21 un_bipush_10 ?_
      refine ug_iload_n 2 dX8_areTouching_23 rfl rfl ?_
      refine ug_iadd dX8_areTouching_24 ?_
      obtain ⟨g4, h⟩ := ugd_some h
      refine ug_iald al_54 (uin_ok g4) dX8_areTouching_25 ?_
      refine ug_if_le 77 dX8_areTouching_26 (by decide) (fun q5 => ?_) (fun q5 => ?_)
      · rw [if_pos q5] at h
        refine ug_sub [] [] rfl ?_
        exact t_X8_areTouching_b77 mem  _ h
      · rw [if_neg q5] at h
        refine ug_aload_n 0 dX8_areTouching_29 rfl rfl ?_
        refine ug_getR kf_X8_62 gr_38_37 dX8_areTouching_30 ?_
        refine ug_bipush dX8_areTouching_33 un_bipush_15 ?_
        refine ug_iload_n 1 dX8_areTouching_35 rfl rfl ?_
        refine ug_iadd dX8_areTouching_36 ?_
        obtain ⟨g6, h⟩ := ugd_some h
        refine ug_iald al_54 (uin_ok g6) dX8_areTouching_37 ?_
        refine ug_aload_n 0 dX8_areTouching_38 rfl rfl ?_
        refine ug_getR kf_X8_62 gr_38_37 dX8_areTouching_39 ?_
        refine ug_bipush dX8_areTouching_42 un_bipush_15 ?_
        refine ug_iload_n 2 dX8_areTouching_44 rfl rfl ?_
        refine ug_iadd dX8_areTouching_45 ?_
        obtain ⟨g7, h⟩ := ugd_some h
        refine ug_iald al_54 (uin_ok g7) dX8_areTouching_46 ?_
        refine ug_isub dX8_areTouching_47 ?_
        obtain ⟨m8, r9, h10, h⟩ := ubi_some h
        refine ug_callSi [.int ((mem 54 (15 + x1).toNatClampNeg) - (mem 54 (15 + x2).toNatClampNeg))] (c_X8_size  h10) kc_X8_321 rfl (S := []) rfl (Nat.le_of_ble_eq_true rfl) (Nat.le_of_ble_eq_true rfl) (Nat.le_of_ble_eq_true rfl) dX8_areTouching_48 ?_
        refine ug_aload_n 0 dX8_areTouching_51 rfl rfl ?_
        refine ug_getR kf_X8_62 gr_38_37 dX8_areTouching_52 ?_
        refine ug_bipush dX8_areTouching_55 un_bipush_10 ?_
        refine ug_iload_n 1 dX8_areTouching_57 rfl rfl ?_
        refine ug_iadd dX8_areTouching_58 ?_
        obtain ⟨g11, h⟩ := ugd_some h
        refine ug_iald al_54 (uin_ok g11) dX8_areTouching_59 ?_
        refine ug_aload_n 0 dX8_areTouching_60 rfl rfl ?_
        refine ug_getR kf_X8_62 gr_38_37 dX8_areTouching_61 ?_
        refine ug_bipush dX8_areTouching_64 un_bipush_10 ?_
        refine ug_iload_n 2 dX8_areTouching_66 rfl rfl ?_
        refine ug_iadd dX8_areTouching_67 ?_
        obtain ⟨g12, h⟩ := ugd_some h
        refine ug_iald al_54 (uin_ok g12) dX8_areTouching_68 ?_
        refine ug_iadd dX8_areTouching_69 ?_
        refine ug_icmp_gt 77 dX8_areTouching_70 (by decide) (fun q13 => ?_) (fun q13 => ?_)
        · rw [if_pos q13] at h
          refine ug_sub [] [] rfl ?_
          exact t_X8_areTouching_b77 m8  _ h
        · rw [if_neg q13] at h
          refine ug_iconst dX8_areTouching_73 un_iconst_1 ?_
          refine ug_goto 78 dX8_areTouching_74 (by decide) ?_
          refine ug_sub [] [] rfl ?_
          exact t_X8_areTouching_b78 m8 1 _ h
theorem c_X8_areTouching {l : Launch} {E : Ue} {mem : Um} {x1 : Int32} {x2 : Int32} {m1 : Um} {r : Int32} (h : f_X8_areTouching  mem x1 x2 = some (m1, r)) : ucr l E 3 0 0 yX8_areTouching cX8_areTouching 3 (some .boolean) [.ref (ue_d E 38), .int x1, .int x2] mem (some (.int r)) m1 := ucr_of rfl (Nat.le_of_ble_eq_true rfl) (t_X8_areTouching  mem x1 x2 _ h)
-- X8_touchingOf
def f_X8_touchingOf_b29 (k4 : Um → Int32 → Int32 → Int32 → Option (Um × Int32)) (mem : Um) (x1 : Int32) (x3 : Int32) (y0 : Int32) (y1 : Int32) : Option (Um × Int32) :=
  k4 mem x1 (y1 ||| y0) (x3 + 1)
set_option maxRecDepth 20000 in
theorem t_X8_touchingOf_b29 {l : Launch} {E : Ue} (k4 : Um → Int32 → Int32 → Int32 → Option (Um × Int32)) (hk4 : ∀ (mem : Um) (x1 : Int32) (x2 : Int32) (x3 : Int32) (z : Um × Int32), k4 mem x1 x2 x3 = some z → ug l E 4 0 0 cX8_touchingOf 4 RX8 (some .int) [] (uz_i z) 0 0 4 [(0, .ref (ue_d E 38)), (1, .int x1), (2, .int x2), (3, .int x3)] [] mem) (mem : Um) (x1 : Int32) (x3 : Int32) (y0 : Int32) (y1 : Int32) (z : Um × Int32) (h : f_X8_touchingOf_b29 k4 mem x1 x3 y0 y1 = some z) : ug l E 4 0 0 cX8_touchingOf 4 RX8 (some .int) [] (uz_i z) 0 0 29 [(0, .ref (ue_d E 38)), (1, .int x1), (3, .int x3)] [.int y0, .int y1] mem := by
  rw [f_X8_touchingOf_b29] at h
  refine ug_ior dX8_touchingOf_29 ?_
  refine ug_istore_n [(2, .int (y1 ||| y0)), (0, .ref (ue_d E 38)), (1, .int x1), (3, .int x3)] dX8_touchingOf_30 rfl (Nat.le_of_ble_eq_true rfl) rfl ?_
  refine ug_iinc (v := (x3 + 1)) [(3, .int (x3 + 1)), (2, .int (y1 ||| y0)), (0, .ref (ue_d E 38)), (1, .int x1)] 3 dX8_touchingOf_31 rfl rfl (Nat.le_of_ble_eq_true rfl) rfl ?_
  refine ug_goto 4 dX8_touchingOf_34 (by decide) ?_
  refine ug_sub [(0, .ref (ue_d E 38)), (1, .int x1), (2, .int (y1 ||| y0)), (3, .int (x3 + 1))] [2, 3, 1, 0] rfl ?_
  exact hk4 mem x1 (y1 ||| y0) (x3 + 1) _ h
def f_X8_touchingOf_b4 : Nat → Um → Int32 → Int32 → Int32 → Option (Um × Int32)
  | 0, _, _, _, _ => none
  | n + 1, mem, x1, x2, x3 =>
    if (mem 38 18) ≤ x3 then (some (mem, x2)) else (ubi (f_X8_areTouching mem x1 x3) (fun m2 r3 => if r3 = 0 then (f_X8_touchingOf_b29 (f_X8_touchingOf_b4  n) m2 x1 x3 0 x2) else (f_X8_touchingOf_b29 (f_X8_touchingOf_b4  n) m2 x1 x3 (1 <<< (x3 &&& 31)) x2)))
set_option maxRecDepth 20000 in
theorem t_X8_touchingOf_b4 {l : Launch} {E : Ue} : ∀ (n : Nat) (mem : Um) (x1 : Int32) (x2 : Int32) (x3 : Int32) (z : Um × Int32), f_X8_touchingOf_b4  n mem x1 x2 x3 = some z → ug l E 4 0 0 cX8_touchingOf 4 RX8 (some .int) [] (uz_i z) 0 0 4 [(0, .ref (ue_d E 38)), (1, .int x1), (2, .int x2), (3, .int x3)] [] mem := by
  intro n
  induction n with
  | zero =>
    intro mem x1 x2 x3 z h
    rw [f_X8_touchingOf_b4] at h
    cases h
  | succ n ih =>
    intro mem x1 x2 x3 z h
    rw [f_X8_touchingOf_b4] at h
    refine ug_iload_n 3 dX8_touchingOf_4 rfl rfl ?_
    refine ug_aload_n 0 dX8_touchingOf_5 rfl rfl ?_
    refine ug_getI kf_X8_154 gi_38_18 dX8_touchingOf_6 ?_
    refine ug_icmp_ge 37 dX8_touchingOf_9 (by decide) (fun q1 => ?_) (fun q1 => ?_)
    · rw [if_pos q1] at h
      refine ug_iload_n 2 dX8_touchingOf_37 rfl rfl ?_
      obtain rfl := Option.some.inj h
      exact ug_iret dX8_touchingOf_38
    · rw [if_neg q1] at h
      refine ug_iload_n 2 dX8_touchingOf_12 rfl rfl ?_
      refine ug_aload_n 0 dX8_touchingOf_13 rfl rfl ?_
      refine ug_iload_n 1 dX8_touchingOf_14 rfl rfl ?_
      refine ug_iload_n 3 dX8_touchingOf_15 rfl rfl ?_
      obtain ⟨m2, r3, h4, h⟩ := ubi_some h
      refine ug_callVi [.int x1, .int x3] (c_X8_areTouching  h4) kc_X8_330 ro_38 rfl (S := [.int x2]) rfl (Nat.le_of_ble_eq_true rfl) (Nat.le_of_ble_eq_true rfl) (Nat.le_of_ble_eq_true rfl) dX8_touchingOf_16 ?_
      refine ug_if_eq 28 dX8_touchingOf_19 (by decide) (fun q5 => ?_) (fun q5 => ?_)
      · rw [if_pos q5] at h
        refine ug_iconst dX8_touchingOf_28 un_iconst_0 ?_
        refine ug_sub [(0, .ref (ue_d E 38)), (1, .int x1), (3, .int x3)] [0, 1, 3] rfl ?_
        exact t_X8_touchingOf_b29 (f_X8_touchingOf_b4  n) ih m2 x1 x3 0 x2 _ h
      · rw [if_neg q5] at h
        refine ug_iconst dX8_touchingOf_22 un_iconst_1 ?_
        refine ug_iload_n 3 dX8_touchingOf_23 rfl rfl ?_
        refine ug_ishl dX8_touchingOf_24 ?_
        refine ug_goto 29 dX8_touchingOf_25 (by decide) ?_
        refine ug_sub [(0, .ref (ue_d E 38)), (1, .int x1), (3, .int x3)] [0, 1, 3] rfl ?_
        exact t_X8_touchingOf_b29 (f_X8_touchingOf_b4  n) ih m2 x1 x3 (1 <<< (x3 &&& 31)) x2 _ h
def f_X8_touchingOf (mem : Um) (x1 : Int32) : Option (Um × Int32) :=
  f_X8_touchingOf_b4  UF mem x1 0 0
set_option maxRecDepth 20000 in
theorem t_X8_touchingOf {l : Launch} {E : Ue} (mem : Um) (x1 : Int32) (z : Um × Int32) (h : f_X8_touchingOf  mem x1 = some z) : ug l E 4 0 0 cX8_touchingOf 4 RX8 (some .int) [] (uz_i z) 0 0 0 [(0, .ref (ue_d E 38)), (1, .int x1)] [] mem := by
  rw [f_X8_touchingOf] at h
  refine ug_iconst dX8_touchingOf_0 un_iconst_0 ?_
  refine ug_istore_n [(2, .int 0), (0, .ref (ue_d E 38)), (1, .int x1)] dX8_touchingOf_1 rfl (Nat.le_of_ble_eq_true rfl) rfl ?_
  refine ug_iconst dX8_touchingOf_2 un_iconst_0 ?_
  refine ug_istore_n [(3, .int 0), (2, .int 0), (0, .ref (ue_d E 38)), (1, .int x1)] dX8_touchingOf_3 rfl (Nat.le_of_ble_eq_true rfl) rfl ?_
  refine ug_sub [(0, .ref (ue_d E 38)), (1, .int x1), (2, .int 0), (3, .int 0)] [2, 3, 1, 0] rfl ?_
  exact t_X8_touchingOf_b4  UF mem x1 0 0 _ h
theorem c_X8_touchingOf {l : Launch} {E : Ue} {mem : Um} {x1 : Int32} {m1 : Um} {r : Int32} (h : f_X8_touchingOf  mem x1 = some (m1, r)) : ucr l E 4 0 0 yX8_touchingOf cX8_touchingOf 4 (some .int) [.ref (ue_d E 38), .int x1] mem (some (.int r)) m1 := ucr_of rfl (Nat.le_of_ble_eq_true rfl) (t_X8_touchingOf  mem x1 _ h)
-- X8_ones
def f_X8_ones_b4 : Nat → Um → Int32 → Int32 → Int32 → Option (Um × Int32)
  | 0, _, _, _, _ => none
  | n + 1, mem, x0, x1, x2 =>
    if 8 ≤ x2 then (some (mem, x1)) else ((f_X8_ones_b4  n) mem x0 (x1 + ((x0 >>> (x2 &&& 31)) &&& 1)) (x2 + 1))
set_option maxRecDepth 20000 in
theorem t_X8_ones_b4 {l : Launch} {E : Ue} : ∀ (n : Nat) (mem : Um) (x0 : Int32) (x1 : Int32) (x2 : Int32) (z : Um × Int32), f_X8_ones_b4  n mem x0 x1 x2 = some z → ug l E 2 0 0 cX8_ones 3 RX8 (some .int) [] (uz_i z) 0 0 4 [(0, .int x0), (1, .int x1), (2, .int x2)] [] mem := by
  intro n
  induction n with
  | zero =>
    intro mem x0 x1 x2 z h
    rw [f_X8_ones_b4] at h
    cases h
  | succ n ih =>
    intro mem x0 x1 x2 z h
    rw [f_X8_ones_b4] at h
    refine ug_iload_n 2 dX8_ones_4 rfl rfl ?_
    refine ug_bipush dX8_ones_5 un_bipush_8 ?_
    refine ug_icmp_ge 24 dX8_ones_7 (by decide) (fun q1 => ?_) (fun q1 => ?_)
    · rw [if_pos q1] at h
      refine ug_iload_n 1 dX8_ones_24 rfl rfl ?_
      obtain rfl := Option.some.inj h
      exact ug_iret dX8_ones_25
    · rw [if_neg q1] at h
      refine ug_iload_n 1 dX8_ones_10 rfl rfl ?_
      refine ug_iload_n 0 dX8_ones_11 rfl rfl ?_
      refine ug_iload_n 2 dX8_ones_12 rfl rfl ?_
      refine ug_ishr dX8_ones_13 ?_
      refine ug_iconst dX8_ones_14 un_iconst_1 ?_
      refine ug_iand dX8_ones_15 ?_
      refine ug_iadd dX8_ones_16 ?_
      refine ug_istore_n [(1, .int (x1 + ((x0 >>> (x2 &&& 31)) &&& 1))), (0, .int x0), (2, .int x2)] dX8_ones_17 rfl (Nat.le_of_ble_eq_true rfl) rfl ?_
      refine ug_iinc (v := (x2 + 1)) [(2, .int (x2 + 1)), (1, .int (x1 + ((x0 >>> (x2 &&& 31)) &&& 1))), (0, .int x0)] 2 dX8_ones_18 rfl rfl (Nat.le_of_ble_eq_true rfl) rfl ?_
      refine ug_goto 4 dX8_ones_21 (by decide) ?_
      refine ug_sub [(0, .int x0), (1, .int (x1 + ((x0 >>> (x2 &&& 31)) &&& 1))), (2, .int (x2 + 1))] [2, 1, 0] rfl ?_
      exact ih mem x0 (x1 + ((x0 >>> (x2 &&& 31)) &&& 1)) (x2 + 1) _ h
def f_X8_ones (mem : Um) (x0 : Int32) : Option (Um × Int32) :=
  f_X8_ones_b4  UF mem x0 0 0
set_option maxRecDepth 20000 in
theorem t_X8_ones {l : Launch} {E : Ue} (mem : Um) (x0 : Int32) (z : Um × Int32) (h : f_X8_ones  mem x0 = some z) : ug l E 2 0 0 cX8_ones 3 RX8 (some .int) [] (uz_i z) 0 0 0 [(0, .int x0)] [] mem := by
  rw [f_X8_ones] at h
  refine ug_iconst dX8_ones_0 un_iconst_0 ?_
  refine ug_istore_n [(1, .int 0), (0, .int x0)] dX8_ones_1 rfl (Nat.le_of_ble_eq_true rfl) rfl ?_
  refine ug_iconst dX8_ones_2 un_iconst_0 ?_
  refine ug_istore_n [(2, .int 0), (1, .int 0), (0, .int x0)] dX8_ones_3 rfl (Nat.le_of_ble_eq_true rfl) rfl ?_
  refine ug_sub [(0, .int x0), (1, .int 0), (2, .int 0)] [2, 1, 0] rfl ?_
  exact t_X8_ones_b4  UF mem x0 0 0 _ h
theorem c_X8_ones {l : Launch} {E : Ue} {mem : Um} {x0 : Int32} {m1 : Um} {r : Int32} (h : f_X8_ones  mem x0 = some (m1, r)) : ucr l E 2 0 0 yX8_ones cX8_ones 3 (some .int) [.int x0] mem (some (.int r)) m1 := ucr_of rfl (Nat.le_of_ble_eq_true rfl) (t_X8_ones  mem x0 _ h)
