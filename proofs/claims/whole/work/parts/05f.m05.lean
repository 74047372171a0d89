-- X6_performFrom
def f_X6_performFrom_b167 (rec : Um → Int32 → Int32 → Int32 → Option (Um × Unit)) (mem : Um) : Option (Um × Unit) :=
  some (mem, ())
set_option maxRecDepth 20000 in
theorem t_X6_performFrom_b167 {l : Launch} {E : Ue} {rec : Um → Int32 → Int32 → Int32 → Option (Um × Unit)} (kr : Nat) (hrec : ∀ (mem : Um) (x2 : Int32) (x3 : Int32) (x4 : Int32) (m1 : Um) (r : Unit), rec mem x2 x3 x4 = some (m1, r) → ucr l E kr 0 0 yX6_performFrom cX6_performFrom 8 none [.ref (ue_d E 21), .ref (ue_d E 23), .int x2, .int x3, .int x4] mem none m1) (mem : Um) (z : Um × Unit) (h : f_X6_performFrom_b167 rec mem  = some z) : ug l E (kr + 7) 0 0 cX6_performFrom 8 RX6 none [] (uz_v z) 0 0 167 [] [] mem := by
  rw [f_X6_performFrom_b167] at h
  obtain rfl := Option.some.inj h
  exact ug_vret dX6_performFrom_167
def f_X6_performFrom_b161 (rec : Um → Int32 → Int32 → Int32 → Option (Um × Unit)) (k3 : Um → Int32 → Int32 → Int32 → Option (Um × Unit)) (mem : Um) (x3 : Int32) (x4 : Int32) (x5 : Int32) : Option (Um × Unit) :=
  k3 mem x3 x4 (x5 + 1)
set_option maxRecDepth 20000 in
theorem t_X6_performFrom_b161 {l : Launch} {E : Ue} {rec : Um → Int32 → Int32 → Int32 → Option (Um × Unit)} (kr : Nat) (hrec : ∀ (mem : Um) (x2 : Int32) (x3 : Int32) (x4 : Int32) (m1 : Um) (r : Unit), rec mem x2 x3 x4 = some (m1, r) → ucr l E kr 0 0 yX6_performFrom cX6_performFrom 8 none [.ref (ue_d E 21), .ref (ue_d E 23), .int x2, .int x3, .int x4] mem none m1) (k3 : Um → Int32 → Int32 → Int32 → Option (Um × Unit)) (hk3 : ∀ (mem : Um) (x3 : Int32) (x4 : Int32) (x5 : Int32) (z : Um × Unit), k3 mem x3 x4 x5 = some z → ug l E (kr + 7) 0 0 cX6_performFrom 8 RX6 none [] (uz_v z) 0 0 3 [(0, .ref (ue_d E 21)), (1, .ref (ue_d E 23)), (3, .int x3), (4, .int x4), (5, .int x5)] [] mem) (mem : Um) (x3 : Int32) (x4 : Int32) (x5 : Int32) (z : Um × Unit) (h : f_X6_performFrom_b161 rec k3 mem x3 x4 x5 = some z) : ug l E (kr + 7) 0 0 cX6_performFrom 8 RX6 none [] (uz_v z) 0 0 161 [(0, .ref (ue_d E 21)), (1, .ref (ue_d E 23)), (3, .int x3), (4, .int x4), (5, .int x5)] [] mem := by
  rw [f_X6_performFrom_b161] at h
  refine ug_iinc (v := (x5 + 1)) [(5, .int (x5 + 1)), (0, .ref (ue_d E 21)), (1, .ref (ue_d E 23)), (3, .int x3), (4, .int x4)] 4 dX6_performFrom_161 rfl rfl (Nat.le_of_ble_eq_true rfl) rfl ?_
  refine ug_goto 3 dX6_performFrom_164 (by decide) ?_
  refine ug_sub [(0, .ref (ue_d E 21)), (1, .ref (ue_d E 23)), (3, .int x3), (4, .int x4), (5, .int (x5 + 1))] [1, 2, 3, 4, 0] rfl ?_
  exact hk3 mem x3 x4 (x5 + 1) _ h
def f_X6_performFrom_b117 (rec : Um → Int32 → Int32 → Int32 → Option (Um × Unit)) (k3 : Um → Int32 → Int32 → Int32 → Option (Um × Unit)) (mem : Um) (x3 : Int32) (x4 : Int32) (x6 : Int32) : Option (Um × Unit) :=
  f_X6_performFrom_b161 rec k3 mem x3 x4 (x6 - 1)
set_option maxRecDepth 20000 in
theorem t_X6_performFrom_b117 {l : Launch} {E : Ue} {rec : Um → Int32 → Int32 → Int32 → Option (Um × Unit)} (kr : Nat) (hrec : ∀ (mem : Um) (x2 : Int32) (x3 : Int32) (x4 : Int32) (m1 : Um) (r : Unit), rec mem x2 x3 x4 = some (m1, r) → ucr l E kr 0 0 yX6_performFrom cX6_performFrom 8 none [.ref (ue_d E 21), .ref (ue_d E 23), .int x2, .int x3, .int x4] mem none m1) (k3 : Um → Int32 → Int32 → Int32 → Option (Um × Unit)) (hk3 : ∀ (mem : Um) (x3 : Int32) (x4 : Int32) (x5 : Int32) (z : Um × Unit), k3 mem x3 x4 x5 = some z → ug l E (kr + 7) 0 0 cX6_performFrom 8 RX6 none [] (uz_v z) 0 0 3 [(0, .ref (ue_d E 21)), (1, .ref (ue_d E 23)), (3, .int x3), (4, .int x4), (5, .int x5)] [] mem) (mem : Um) (x3 : Int32) (x4 : Int32) (x6 : Int32) (z : Um × Unit) (h : f_X6_performFrom_b117 rec k3 mem x3 x4 x6 = some z) : ug l E (kr + 7) 0 0 cX6_performFrom 8 RX6 none [] (uz_v z) 0 0 117 [(0, .ref (ue_d E 21)), (1, .ref (ue_d E 23)), (3, .int x3), (4, .int x4), (6, .int x6)] [] mem := by
  rw [f_X6_performFrom_b117] at h
  refine ug_iload 4 dX6_performFrom_117 rfl ?_
  refine ug_iconst dX6_performFrom_119 un_iconst_1 ?_
  refine ug_isub dX6_performFrom_120 ?_
  refine ug_istore [(5, .int (x6 - 1)), (0, .ref (ue_d E 21)), (1, .ref (ue_d E 23)), (3, .int x3), (4, .int x4), (6, .int x6)] dX6_performFrom_121 (Nat.le_of_ble_eq_true rfl) rfl ?_
  refine ug_goto 161 dX6_performFrom_123 (by decide) ?_
  refine ug_sub [(0, .ref (ue_d E 21)), (1, .ref (ue_d E 23)), (3, .int x3), (4, .int x4), (5, .int (x6 - 1))] [1, 2, 3, 4, 0] rfl ?_
  exact t_X6_performFrom_b161 kr hrec k3 hk3 mem x3 x4 (x6 - 1) _ h
def f_X6_performFrom_b73 (rec : Um → Int32 → Int32 → Int32 → Option (Um × Unit)) (k3 : Um → Int32 → Int32 → Int32 → Option (Um × Unit)) : Nat → Um → Int32 → Int32 → Int32 → Int32 → Int32 → Option (Um × Unit)
  | 0, _, _, _, _, _, _ => none
  | n + 1, mem, x3, x4, x5, x6, x7 =>
    ugd (uin ((x5 * 4) + 1) 100) (if (mem 22 ((x5 * 4) + 1).toNatClampNeg) ≤ x7 then (f_X6_performFrom_b117 rec k3 mem x3 x4 x6) else (if 6 ≤ x4 then (f_X6_performFrom_b117 rec k3 mem x3 x4 x6) else (ubi (rec mem (x5 + 1) x6 (x4 + 1)) (fun m4 r5 => (f_X6_performFrom_b73 rec k3 n) m4 x3 x4 x5 x6 (x7 + 1)))))
set_option maxRecDepth 20000 in
theorem t_X6_performFrom_b73 {l : Launch} {E : Ue} {rec : Um → Int32 → Int32 → Int32 → Option (Um × Unit)} (kr : Nat) (hrec : ∀ (mem : Um) (x2 : Int32) (x3 : Int32) (x4 : Int32) (m1 : Um) (r : Unit), rec mem x2 x3 x4 = some (m1, r) → ucr l E kr 0 0 yX6_performFrom cX6_performFrom 8 none [.ref (ue_d E 21), .ref (ue_d E 23), .int x2, .int x3, .int x4] mem none m1) (k3 : Um → Int32 → Int32 → Int32 → Option (Um × Unit)) (hk3 : ∀ (mem : Um) (x3 : Int32) (x4 : Int32) (x5 : Int32) (z : Um × Unit), k3 mem x3 x4 x5 = some z → ug l E (kr + 7) 0 0 cX6_performFrom 8 RX6 none [] (uz_v z) 0 0 3 [(0, .ref (ue_d E 21)), (1, .ref (ue_d E 23)), (3, .int x3), (4, .int x4), (5, .int x5)] [] mem) : ∀ (n : Nat) (mem : Um) (x3 : Int32) (x4 : Int32) (x5 : Int32) (x6 : Int32) (x7 : Int32) (z : Um × Unit), f_X6_performFrom_b73 rec k3 n mem x3 x4 x5 x6 x7 = some z → ug l E (kr + 7) 0 0 cX6_performFrom 8 RX6 none [] (uz_v z) 0 0 73 [(0, .ref (ue_d E 21)), (1, .ref (ue_d E 23)), (3, .int x3), (4, .int x4), (5, .int x5), (6, .int x6), (7, .int x7)] [] mem := by
  intro n
  induction n with
  | zero =>
    intro mem x3 x4 x5 x6 x7 z h
    rw [f_X6_performFrom_b73] at h
    cases h
  | succ n ih =>
    intro mem x3 x4 x5 x6 x7 z h
    rw [f_X6_performFrom_b73] at h
    refine ug_iload 6 dX6_performFrom_73 rfl ?_
    refine ug_aload_n 0 dX6_performFrom_75 rfl rfl ?_
    refine ug_getR kf_X6_11 gr_21_0 dX6_performFrom_76 ?_
    refine ug_iload 4 dX6_performFrom_79 rfl ?_
    refine ug_iconst dX6_performFrom_81 un_iconst_4 ?_
    refine ug_imul dX6_performFrom_82 ?_
    refine ug_iconst dX6_performFrom_83 un_iconst_1 ?_
    refine ug_iadd dX6_performFrom_84 ?_
    obtain ⟨g1, h⟩ := ugd_some h
    refine ug_iald al_22 (uin_ok g1) dX6_performFrom_85 ?_
    refine ug_icmp_ge 117 dX6_performFrom_86 (by decide) (fun q2 => ?_) (fun q2 => ?_)
    · rw [if_pos q2] at h
      refine ug_sub [(0, .ref (ue_d E 21)), (1, .ref (ue_d E 23)), (3, .int x3), (4, .int x4), (6, .int x6)] [0, 1, 2, 3, 5] rfl ?_
      exact t_X6_performFrom_b117 kr hrec k3 hk3 mem x3 x4 x6 _ h
    · rw [if_neg q2] at h
      refine ug_iload 3 dX6_performFrom_89 rfl ?_
      refine ug_bipush dX6_performFrom_91 un_bipush_6 ?_
      refine ug_icmp_ge 117 dX6_performFrom_93 (by decide) (fun q3 => ?_) (fun q3 => ?_)
      · rw [if_pos q3] at h
        refine ug_sub [(0, .ref (ue_d E 21)), (1, .ref (ue_d E 23)), (3, .int x3), (4, .int x4), (6, .int x6)] [0, 1, 2, 3, 5] rfl ?_
        exact t_X6_performFrom_b117 kr hrec k3 hk3 mem x3 x4 x6 _ h
      · rw [if_neg q3] at h
        refine ug_aload_n 0 dX6_performFrom_96 rfl rfl ?_
        refine ug_aload_n 1 dX6_performFrom_97 rfl rfl ?_
        refine ug_iload 4 dX6_performFrom_98 rfl ?_
        refine ug_iconst dX6_performFrom_100 un_iconst_1 ?_
        refine ug_iadd dX6_performFrom_101 ?_
        refine ug_iload 5 dX6_performFrom_102 rfl ?_
        refine ug_iload 3 dX6_performFrom_104 rfl ?_
        refine ug_iconst dX6_performFrom_106 un_iconst_1 ?_
        refine ug_iadd dX6_performFrom_107 ?_
        obtain ⟨m4, r5, h6, h⟩ := ubi_some h
        refine ug_callVv [.ref (ue_d E 23), .int (x5 + 1), .int x6, .int (x4 + 1)] (hrec mem (x5 + 1) x6 (x4 + 1) _ _ h6) kc_X6_108 ro_21 rfl (S := []) rfl (Nat.le_of_ble_eq_true rfl) (by omega) (Nat.le_of_ble_eq_true rfl) dX6_performFrom_108 ?_
        refine ug_iinc (v := (x7 + 1)) [(7, .int (x7 + 1)), (0, .ref (ue_d E 21)), (1, .ref (ue_d E 23)), (3, .int x3), (4, .int x4), (5, .int x5), (6, .int x6)] 6 dX6_performFrom_111 rfl rfl (Nat.le_of_ble_eq_true rfl) rfl ?_
        refine ug_goto 73 dX6_performFrom_114 (by decide) ?_
        refine ug_sub [(0, .ref (ue_d E 21)), (1, .ref (ue_d E 23)), (3, .int x3), (4, .int x4), (5, .int x5), (6, .int x6), (7, .int (x7 + 1))] [1, 2, 3, 4, 5, 6, 0] rfl ?_
        exact ih m4 x3 x4 x5 x6 (x7 + 1) _ h
def f_X6_performFrom_b3 (rec : Um → Int32 → Int32 → Int32 → Option (Um × Unit)) : Nat → Um → Int32 → Int32 → Int32 → Option (Um × Unit)
  | 0, _, _, _, _ => none
  | n + 1, mem, x3, x4, x5 =>
    if x3 ≤ x5 then (f_X6_performFrom_b167 rec mem) else (if 200 ≤ (mem 21 2) then (f_X6_performFrom_b167 rec mem) else (ugd (uin (x5 * 4) 100) (if ((um_w mem 21 2 ((mem 21 2) + 1)) 22 (x5 * 4).toNatClampNeg) = 7 then (ugd (uin ((x5 * 4) + 2) 100) (f_X6_performFrom_b73 rec (f_X6_performFrom_b3 rec n) UF (um_w mem 21 2 ((mem 21 2) + 1)) x3 x4 x5 (ummax (x5 + 1) (ummin ((um_w mem 21 2 ((mem 21 2) + 1)) 21 1) ((um_w mem 21 2 ((mem 21 2) + 1)) 22 ((x5 * 4) + 2).toNatClampNeg))) 0)) else (ubi (f_X6_isDone (um_w mem 21 2 ((mem 21 2) + 1)) (x5 * 4)) (fun m5 r6 => if r6 = 0 then (f_X6_performFrom_b161 rec (f_X6_performFrom_b3 rec n) (um_w m5 21 4 ((m5 21 4) + 1)) x3 x4 x5) else (f_X6_performFrom_b161 rec (f_X6_performFrom_b3 rec n) (um_w m5 21 3 ((m5 21 3) + 1)) x3 x4 x5))))))
set_option maxRecDepth 20000 in
theorem t_X6_performFrom_b3 {l : Launch} {E : Ue} {rec : Um → Int32 → Int32 → Int32 → Option (Um × Unit)} (kr : Nat) (hrec : ∀ (mem : Um) (x2 : Int32) (x3 : Int32) (x4 : Int32) (m1 : Um) (r : Unit), rec mem x2 x3 x4 = some (m1, r) → ucr l E kr 0 0 yX6_performFrom cX6_performFrom 8 none [.ref (ue_d E 21), .ref (ue_d E 23), .int x2, .int x3, .int x4] mem none m1) : ∀ (n : Nat) (mem : Um) (x3 : Int32) (x4 : Int32) (x5 : Int32) (z : Um × Unit), f_X6_performFrom_b3 rec n mem x3 x4 x5 = some z → ug l E (kr + 7) 0 0 cX6_performFrom 8 RX6 none [] (uz_v z) 0 0 3 [(0, .ref (ue_d E 21)), (1, .ref (ue_d E 23)), (3, .int x3), (4, .int x4), (5, .int x5)] [] mem := by
  intro n
  induction n with
  | zero =>
    intro mem x3 x4 x5 z h
    rw [f_X6_performFrom_b3] at h
    cases h
  | succ n ih =>
    intro mem x3 x4 x5 z h
    rw [f_X6_performFrom_b3] at h
    refine ug_iload 4 dX6_performFrom_3 rfl ?_
    refine ug_iload_n 2 dX6_performFrom_5 rfl rfl ?_
    refine ug_icmp_ge 167 dX6_performFrom_6 (by decide) (fun q1 => ?_) (fun q1 => ?_)
    · rw [if_pos q1] at h
      refine ug_sub [] [] rfl ?_
      exact t_X6_performFrom_b167 kr hrec mem  _ h
    · rw [if_neg q1] at h
      refine ug_aload_n 0 dX6_performFrom_9 rfl rfl ?_
      refine ug_getI kf_X6_19 gi_21_2 dX6_performFrom_10 ?_
      refine ug_sipush dX6_performFrom_13 un_sipush_200 ?_
      refine ug_icmp_ge 167 dX6_performFrom_16 (by decide) (fun q2 => ?_) (fun q2 => ?_)
      · rw [if_pos q2] at h
        refine ug_sub [] [] rfl ?_
        exact t_X6_performFrom_b167 kr hrec mem  _ h
      · rw [if_neg q2] at h
        refine ug_aload_n 0 dX6_performFrom_19 rfl rfl ?_
        refine ug_dup dX6_performFrom_20 rfl ?_
        refine ug_getI kf_X6_19 gi_21_2 dX6_performFrom_21 ?_
        refine ug_iconst dX6_performFrom_24 un_iconst_1 ?_
        refine ug_iadd dX6_performFrom_25 ?_
        refine ug_putI kp_X6_19 gi_21_2 dX6_performFrom_26 ?_
        refine ug_aload_n 0 dX6_performFrom_29 rfl rfl ?_
        refine ug_getR kf_X6_11 gr_21_0 dX6_performFrom_30 ?_
        refine ug_iload 4 dX6_performFrom_33 rfl ?_
        refine ug_iconst dX6_performFrom_35 un_iconst_4 ?_
        refine ug_imul dX6_performFrom_36 ?_
        obtain ⟨g3, h⟩ := ugd_some h
        refine ug_iald al_22 (uin_ok g3) dX6_performFrom_37 ?_
        refine ug_bipush dX6_performFrom_38 un_bipush_7 ?_
        refine ug_icmp_ne 126 dX6_performFrom_40 (by decide) (fun q4 => ?_) (fun q4 => ?_)
        · rw [if_neg q4] at h
          refine ug_aload_n 0 dX6_performFrom_126 rfl rfl ?_
          refine ug_aload_n 1 dX6_performFrom_127 rfl rfl ?_
          refine ug_iload 4 dX6_performFrom_128 rfl ?_
          refine ug_iconst dX6_performFrom_130 un_iconst_4 ?_
          refine ug_imul dX6_performFrom_131 ?_
          obtain ⟨m5, r6, h7, h⟩ := ubi_some h
          refine ug_callVi [.ref (ue_d E 23), .int (x5 * 4)] (c_X6_isDone  h7) kc_X6_112 ro_21 rfl (S := []) rfl (Nat.le_of_ble_eq_true rfl) (by omega) (Nat.le_of_ble_eq_true rfl) dX6_performFrom_132 ?_
          refine ug_if_eq 151 dX6_performFrom_135 (by decide) (fun q8 => ?_) (fun q8 => ?_)
          · rw [if_pos q8] at h
            refine ug_aload_n 0 dX6_performFrom_151 rfl rfl ?_
            refine ug_dup dX6_performFrom_152 rfl ?_
            refine ug_getI kf_X6_25 gi_21_4 dX6_performFrom_153 ?_
            refine ug_iconst dX6_performFrom_156 un_iconst_1 ?_
            refine ug_iadd dX6_performFrom_157 ?_
            refine ug_putI kp_X6_25 gi_21_4 dX6_performFrom_158 ?_
            exact t_X6_performFrom_b161 kr hrec (f_X6_performFrom_b3 rec n) ih (um_w m5 21 4 ((m5 21 4) + 1)) x3 x4 x5 _ h
          · rw [if_neg q8] at h
            refine ug_aload_n 0 dX6_performFrom_138 rfl rfl ?_
            refine ug_dup dX6_performFrom_139 rfl ?_
            refine ug_getI kf_X6_22 gi_21_3 dX6_performFrom_140 ?_
            refine ug_iconst dX6_performFrom_143 un_iconst_1 ?_
            refine ug_iadd dX6_performFrom_144 ?_
            refine ug_putI kp_X6_22 gi_21_3 dX6_performFrom_145 ?_
            refine ug_goto 161 dX6_performFrom_148 (by decide) ?_
            exact t_X6_performFrom_b161 kr hrec (f_X6_performFrom_b3 rec n) ih (um_w m5 21 3 ((m5 21 3) + 1)) x3 x4 x5 _ h
        · rw [if_pos q4] at h
          refine ug_iload 4 dX6_performFrom_43 rfl ?_
          refine ug_iconst dX6_performFrom_45 un_iconst_1 ?_
          refine ug_iadd dX6_performFrom_46 ?_
          refine ug_aload_n 0 dX6_performFrom_47 rfl rfl ?_
          refine ug_getI kf_X6_15 gi_21_1 dX6_performFrom_48 ?_
          refine ug_aload_n 0 dX6_performFrom_51 rfl rfl ?_
          refine ug_getR kf_X6_11 gr_21_0 dX6_performFrom_52 ?_
          refine ug_iload 4 dX6_performFrom_55 rfl ?_
          refine ug_iconst dX6_performFrom_57 un_iconst_4 ?_
          refine ug_imul dX6_performFrom_58 ?_
          refine ug_iconst dX6_performFrom_59 un_iconst_2 ?_
          refine ug_iadd dX6_performFrom_60 ?_
          obtain ⟨g9, h⟩ := ugd_some h
          refine ug_iald al_22 (uin_ok g9) dX6_performFrom_61 ?_
          refine ug_mmin kl_X6_99 (by omega) (Nat.le_trans (m := 40) (Nat.le_of_ble_eq_true rfl) (by omega)) dX6_performFrom_62 ?_
          refine ug_mmax kl_X6_105 (by omega) (Nat.le_trans (m := 40) (Nat.le_of_ble_eq_true rfl) (by omega)) dX6_performFrom_65 ?_
          refine ug_istore [(6, .int (ummax (x5 + 1) (ummin ((um_w mem 21 2 ((mem 21 2) + 1)) 21 1) ((um_w mem 21 2 ((mem 21 2) + 1)) 22 ((x5 * 4) + 2).toNatClampNeg)))), (0, .ref (ue_d E 21)), (1, .ref (ue_d E 23)), (3, .int x3), (4, .int x4), (5, .int x5)] dX6_performFrom_68 (Nat.le_of_ble_eq_true rfl) rfl ?_
          refine ug_iconst dX6_performFrom_70 un_iconst_0 ?_
          refine ug_istore [(7, .int 0), (6, .int (ummax (x5 + 1) (ummin ((um_w mem 21 2 ((mem 21 2) + 1)) 21 1) ((um_w mem 21 2 ((mem 21 2) + 1)) 22 ((x5 * 4) + 2).toNatClampNeg)))), (0, .ref (ue_d E 21)), (1, .ref (ue_d E 23)), (3, .int x3), (4, .int x4), (5, .int x5)] dX6_performFrom_71 (Nat.le_of_ble_eq_true rfl) rfl ?_
          refine ug_sub [(0, .ref (ue_d E 21)), (1, .ref (ue_d E 23)), (3, .int x3), (4, .int x4), (5, .int x5), (6, .int (ummax (x5 + 1) (ummin ((um_w mem 21 2 ((mem 21 2) + 1)) 21 1) ((um_w mem 21 2 ((mem 21 2) + 1)) 22 ((x5 * 4) + 2).toNatClampNeg)))), (7, .int 0)] [2, 3, 4, 5, 6, 1, 0] rfl ?_
          exact t_X6_performFrom_b73 kr hrec (f_X6_performFrom_b3 rec n) ih UF (um_w mem 21 2 ((mem 21 2) + 1)) x3 x4 x5 (ummax (x5 + 1) (ummin ((um_w mem 21 2 ((mem 21 2) + 1)) 21 1) ((um_w mem 21 2 ((mem 21 2) + 1)) 22 ((x5 * 4) + 2).toNatClampNeg))) 0 _ h
def f_X6_performFrom_e (rec : Um → Int32 → Int32 → Int32 → Option (Um × Unit)) (mem : Um) (x2 : Int32) (x3 : Int32) (x4 : Int32) : Option (Um × Unit) :=
  f_X6_performFrom_b3 rec UF mem x3 x4 x2
set_option maxRecDepth 20000 in
theorem t_X6_performFrom {l : Launch} {E : Ue} {rec : Um → Int32 → Int32 → Int32 → Option (Um × Unit)} (kr : Nat) (hrec : ∀ (mem : Um) (x2 : Int32) (x3 : Int32) (x4 : Int32) (m1 : Um) (r : Unit), rec mem x2 x3 x4 = some (m1, r) → ucr l E kr 0 0 yX6_performFrom cX6_performFrom 8 none [.ref (ue_d E 21), .ref (ue_d E 23), .int x2, .int x3, .int x4] mem none m1) (mem : Um) (x2 : Int32) (x3 : Int32) (x4 : Int32) (z : Um × Unit) (h : f_X6_performFrom_e rec mem x2 x3 x4 = some z) : ug l E (kr + 7) 0 0 cX6_performFrom 8 RX6 none [] (uz_v z) 0 0 0 [(0, .ref (ue_d E 21)), (1, .ref (ue_d E 23)), (2, .int x2), (3, .int x3), (4, .int x4)] [] mem := by
  rw [f_X6_performFrom_e] at h
  refine ug_iload_n 2 dX6_performFrom_0 rfl rfl ?_
  refine ug_istore [(5, .int x2), (0, .ref (ue_d E 21)), (1, .ref (ue_d E 23)), (2, .int x2), (3, .int x3), (4, .int x4)] dX6_performFrom_1 (Nat.le_of_ble_eq_true rfl) rfl ?_
  refine ug_sub [(0, .ref (ue_d E 21)), (1, .ref (ue_d E 23)), (3, .int x3), (4, .int x4), (5, .int x2)] [1, 2, 4, 5, 0] rfl ?_
  exact t_X6_performFrom_b3 kr hrec UF mem x3 x4 x2 _ h
def f_X6_performFrom : Nat → Um → Int32 → Int32 → Int32 → Option (Um × Unit)
  | 0, _, _, _, _ => none
  | d + 1, mem, x2, x3, x4 => f_X6_performFrom_e (f_X6_performFrom d) mem x2 x3 x4
theorem c_X6_performFrom_d {l : Launch} {E : Ue} : ∀ (d : Nat) (mem : Um) (x2 : Int32) (x3 : Int32) (x4 : Int32) (m1 : Um) (r : Unit), f_X6_performFrom d mem x2 x3 x4 = some (m1, r) → ucr l E (7 * d) 0 0 yX6_performFrom cX6_performFrom 8 none [.ref (ue_d E 21), .ref (ue_d E 23), .int x2, .int x3, .int x4] mem none m1
  | 0, _, _, _, _, _, _, h => by
    rw [f_X6_performFrom] at h
    cases h
  | d + 1, mem, x2, x3, x4, m1, r, h => by
    rw [f_X6_performFrom] at h
    exact ucr_of rfl (Nat.le_of_ble_eq_true rfl) (t_X6_performFrom (7 * d) (fun mem x2 x3 x4 m1 r q => c_X6_performFrom_d d mem x2 x3 x4 m1 r q) mem x2 x3 x4 _ h)
theorem c_X6_performFrom {l : Launch} {E : Ue} (d : Nat) {mem : Um} {x2 : Int32} {x3 : Int32} {x4 : Int32} {m1 : Um} {r : Unit} (h : f_X6_performFrom d mem x2 x3 x4 = some (m1, r)) : ucr l E (7 * d) 0 0 yX6_performFrom cX6_performFrom 8 none [.ref (ue_d E 21), .ref (ue_d E 23), .int x2, .int x3, .int x4] mem none m1 := c_X6_performFrom_d d mem x2 x3 x4 m1 r h
-- X7_work
def f_X7_work (mem : Um) (x1 : Int32) : Option (Um × (Int32 ⊕ String)) :=
  ubx (f_X7_need mem x1 0 (ummin 150 (mem 1 1))) (fun m1 r2 => if (m1 27 1) < 16 then (ubi (f_X5_begin m1 x1) (fun m6 r7 => ubi (f_X6_read m6 (m6 3 1)) (fun m9 r10 => if r10 = 0 then (ubi (f_X5_faultAnswer m9) (fun m19 r20 => some (m19, .inl r20))) else (ubi (f_X3_note 27 m9) (fun m13 r14 => ubi (f_X6_performFrom UD (um_w m13 27 1 ((m13 27 1) + 1)) 0 ((um_w m13 27 1 ((m13 27 1) + 1)) 21 1) 0) (fun m16 r17 => some ((um_w m16 0 13 (m16 21 4)), .inl ((um_w m16 0 13 (m16 21 4)) 21 3)))))))) else (ubi (f_X5_begin m1 0) (fun m22 r23 => some (m22, .inl (-20)))))
set_option maxRecDepth 20000 in
theorem t_X7_work {l : Launch} {E : Ue} (mem : Um) (x1 : Int32) (z : Um × (Int32 ⊕ String)) (h : f_X7_work  mem x1 = some z) : ug l E 146 (uzc z) (uzs z) cX7_work 2 RX7 (some .int) [] (uzx_i z) 0 0 0 [(0, .ref (ue_d E 0)), (1, .int x1)] [] mem := by
  rw [f_X7_work] at h
  refine ug_aload_n 0 dX7_work_0 rfl rfl ?_
  refine ug_iload_n 1 dX7_work_1 rfl rfl ?_
  refine ug_iconst dX7_work_2 un_iconst_0 ?_
  refine ug_sipush dX7_work_3 un_sipush_150 ?_
  refine ug_aload_n 0 dX7_work_6 rfl rfl ?_
  refine ug_getR kf_X7_12 gr_0_0 dX7_work_7 ?_
  refine ug_getI kf_X7_95 gi_1_1 dX7_work_10 ?_
  refine ug_mmin kl_X7_134 (Nat.le_of_ble_eq_true rfl) (Nat.le_of_ble_eq_true rfl) dX7_work_13 ?_
  rcases ubx_some h with ⟨m1, r2, h3, h⟩ | ⟨m1, X4, h3, rfl⟩
  · refine ug_callVv [.int x1, .int 0, .int (ummin 150 (mem 1 1))] (c_X7_need_r  h3) kc_X7_102 ro_0 rfl (S := []) rfl (Nat.le_of_ble_eq_true rfl) (Nat.le_of_ble_eq_true rfl) (Nat.le_of_ble_eq_true rfl) dX7_work_16 ?_
    refine ug_aload_n 0 dX7_work_19 rfl rfl ?_
    refine ug_getR kf_X7_64 gr_0_8 dX7_work_20 ?_
    refine ug_getI kf_X7_128 gi_27_1 dX7_work_23 ?_
    refine ug_bipush dX7_work_26 un_bipush_16 ?_
    refine ug_icmp_lt 42 dX7_work_28 (by decide) (fun q5 => ?_) (fun q5 => ?_)
    · rw [if_pos q5] at h
      refine ug_aload_n 0 dX7_work_42 rfl rfl ?_
      refine ug_getR kf_X7_12 gr_0_0 dX7_work_43 ?_
      refine ug_iload_n 1 dX7_work_46 rfl rfl ?_
      obtain ⟨m6, r7, h8, h⟩ := ubi_some h
      refine ug_callVv [.int x1] (c_X5_begin  h8) kc_X7_106 ro_1 rfl (S := []) rfl (Nat.le_of_ble_eq_true rfl) (Nat.le_of_ble_eq_true rfl) (Nat.le_of_ble_eq_true rfl) dX7_work_47 ?_
      refine ug_aload_n 0 dX7_work_50 rfl rfl ?_
      refine ug_getR kf_X7_45 gr_0_5 dX7_work_51 ?_
      refine ug_aload_n 0 dX7_work_54 rfl rfl ?_
      refine ug_getR kf_X7_12 gr_0_0 dX7_work_55 ?_
      refine ug_aload_n 0 dX7_work_58 rfl rfl ?_
      refine ug_getR kf_X7_21 gr_0_1 dX7_work_59 ?_
      refine ug_getI kf_X7_131 gi_3_1 dX7_work_62 ?_
      obtain ⟨m9, r10, h11, h⟩ := ubi_some h
      refine ug_callVi [.ref (ue_d E 1), .int (m6 3 1)] (c_X6_read  h11) kc_X7_141 ro_21 rfl (S := []) rfl (Nat.le_of_ble_eq_true rfl) (Nat.le_of_ble_eq_true rfl) (Nat.le_of_ble_eq_true rfl) dX7_work_65 ?_
      refine ug_if_ne 79 dX7_work_68 (by decide) (fun q12 => ?_) (fun q12 => ?_)
      · rw [if_neg q12] at h
        refine ug_aload_n 0 dX7_work_79 rfl rfl ?_
        refine ug_getR kf_X7_64 gr_0_8 dX7_work_80 ?_
        refine ug_aload_n 0 dX7_work_83 rfl rfl ?_
        refine ug_getR kf_X7_54 gr_0_6 dX7_work_84 ?_
        refine ug_getR kf_X7_144 gr_23_2 dX7_work_87 ?_
        obtain ⟨m13, r14, h15, h⟩ := ubi_some h
        refine ug_callVv [.ref (ue_d E 24)] (c_X3_note (Or.inl rfl) h15) kc_X7_147 ro_27 rfl (S := []) rfl (Nat.le_of_ble_eq_true rfl) (Nat.le_of_ble_eq_true rfl) (Nat.le_of_ble_eq_true rfl) dX7_work_90 ?_
        refine ug_aload_n 0 dX7_work_93 rfl rfl ?_
        refine ug_getR kf_X7_64 gr_0_8 dX7_work_94 ?_
        refine ug_dup dX7_work_97 rfl ?_
        refine ug_getI kf_X7_128 gi_27_1 dX7_work_98 ?_
        refine ug_iconst dX7_work_101 un_iconst_1 ?_
        refine ug_iadd dX7_work_102 ?_
        refine ug_putI kp_X7_128 gi_27_1 dX7_work_103 ?_
        refine ug_aload_n 0 dX7_work_106 rfl rfl ?_
        refine ug_getR kf_X7_45 gr_0_5 dX7_work_107 ?_
        refine ug_aload_n 0 dX7_work_110 rfl rfl ?_
        refine ug_getR kf_X7_54 gr_0_6 dX7_work_111 ?_
        refine ug_iconst dX7_work_114 un_iconst_0 ?_
        refine ug_aload_n 0 dX7_work_115 rfl rfl ?_
        refine ug_getR kf_X7_45 gr_0_5 dX7_work_116 ?_
        refine ug_getI kf_X7_151 gi_21_1 dX7_work_119 ?_
        refine ug_iconst dX7_work_122 un_iconst_0 ?_
        obtain ⟨m16, r17, h18, h⟩ := ubi_some h
        refine ug_callNv 5 rfl [.ref (ue_d E 23), .int 0, .int ((um_w m13 27 1 ((m13 27 1) + 1)) 21 1), .int 0] (c_X6_performFrom UD h18) kn_X7_152 ro_21 rfl (S := []) rfl (Nat.le_of_ble_eq_true rfl) (Nat.le_of_ble_eq_true rfl) (Nat.le_of_ble_eq_true rfl) dX7_work_123 ?_
        refine ug_aload_n 0 dX7_work_126 rfl rfl ?_
        refine ug_aload_n 0 dX7_work_127 rfl rfl ?_
        refine ug_getR kf_X7_45 gr_0_5 dX7_work_128 ?_
        refine ug_getI kf_X7_156 gi_21_4 dX7_work_131 ?_
        refine ug_putI kp_X7_83 gi_0_13 dX7_work_134 ?_
        refine ug_aload_n 0 dX7_work_137 rfl rfl ?_
        refine ug_getR kf_X7_45 gr_0_5 dX7_work_138 ?_
        refine ug_getI kf_X7_159 gi_21_3 dX7_work_141 ?_
        obtain rfl := Option.some.inj h
        exact ug_iret dX7_work_144
      · rw [if_pos q12] at h
        refine ug_aload_n 0 dX7_work_71 rfl rfl ?_
        refine ug_getR kf_X7_12 gr_0_0 dX7_work_72 ?_
        obtain ⟨m19, r20, h21, h⟩ := ubi_some h
        refine ug_callVi [] (c_X5_faultAnswer  h21) kc_X7_113 ro_1 rfl (S := []) rfl (Nat.le_of_ble_eq_true rfl) (Nat.le_of_ble_eq_true rfl) (Nat.le_of_ble_eq_true rfl) dX7_work_75 ?_
        obtain rfl := Option.some.inj h
        exact ug_iret dX7_work_78
    · rw [if_neg q5] at h
      refine ug_aload_n 0 dX7_work_31 rfl rfl ?_
      refine ug_getR kf_X7_12 gr_0_0 dX7_work_32 ?_
      refine ug_iconst dX7_work_35 un_iconst_0 ?_
      obtain ⟨m22, r23, h24, h⟩ := ubi_some h
      refine ug_callVv [.int 0] (c_X5_begin  h24) kc_X7_106 ro_1 rfl (S := []) rfl (Nat.le_of_ble_eq_true rfl) (Nat.le_of_ble_eq_true rfl) (Nat.le_of_ble_eq_true rfl) dX7_work_36 ?_
      refine ug_bipush dX7_work_39 un_bipush_m20 ?_
      obtain rfl := Option.some.inj h
      exact ug_iret dX7_work_41
  · exact ug_callVx [.int x1, .int 0, .int (ummin 150 (mem 1 1))] (c_X7_need_x  h3) kc_X7_102 ro_0 rfl (S := []) rfl (Nat.le_of_ble_eq_true rfl) (Nat.le_of_ble_eq_true rfl) (Nat.le_of_ble_eq_true rfl) ⟨Nat.le_refl 1, Nat.le_refl 6⟩ dX7_work_16
theorem c_X7_work_r {l : Launch} {E : Ue} {mem : Um} {x1 : Int32} {m1 : Um} {r : Int32} (h : f_X7_work  mem x1 = some (m1, .inl r)) : ucr l E 146 0 0 yX7_work cX7_work 2 (some .int) [.ref (ue_d E 0), .int x1] mem (some (.int r)) m1 := ucr_of rfl (Nat.le_of_ble_eq_true rfl) (t_X7_work  mem x1 _ h)
theorem c_X7_work_x {l : Launch} {E : Ue} {mem : Um} {x1 : Int32} {m1 : Um} {X : String} (h : f_X7_work  mem x1 = some (m1, .inr X)) : ucx l E 146 1 6 yX7_work cX7_work 2 (some .int) [.ref (ue_d E 0), .int x1] mem X m1 := ucx_of rfl (Nat.le_of_ble_eq_true rfl) (t_X7_work  mem x1 _ h)
-- X0_readLine
def f_X0_readLine_b34 (mem : Um) : Option (Um × Int32) :=
  ubi (f_X5_fail mem 2 (mem 1 7)) (fun m1 r2 => ugd (ub01 r2) (some (m1, r2)))
set_option maxRecDepth 20000 in
theorem t_X0_readLine_b34 {l : Launch} {E : Ue} (mem : Um) (z : Um × Int32) (h : f_X0_readLine_b34  mem  = some z) : ug l E 4 0 0 cX0_readLine 4 RX0 (some .boolean) [] (uz_i z) 0 0 34 [(1, .ref (ue_d E 1))] [] mem := by
  rw [f_X0_readLine_b34] at h
  refine ug_aload_n 0 dX0_readLine_34 rfl rfl ?_
  refine ug_iconst dX0_readLine_35 un_iconst_2 ?_
  refine ug_aload_n 0 dX0_readLine_36 rfl rfl ?_
  refine ug_getI kf_X0_51 gi_1_7 dX0_readLine_37 ?_
  obtain ⟨m1, r2, h3, h⟩ := ubi_some h
  refine ug_callVi [.int 2, .int (mem 1 7)] (c_X5_fail  h3) kc_X0_54 ro_1 rfl (S := []) rfl (Nat.le_of_ble_eq_true rfl) (Nat.le_of_ble_eq_true rfl) (Nat.le_of_ble_eq_true rfl) dX0_readLine_40 ?_
  obtain ⟨g4, h⟩ := ugd_some h
  obtain rfl := Option.some.inj h
  exact ug_zret (of_decide_eq_true g4) dX0_readLine_43
def f_X0_readLine (mem : Um) (x2 : Int32) : Option (Um × Int32) :=
  ubi (f_X5_takeNumber mem 0 (x2 - 1)) (fun m1 r2 => if r2 = 0 then (some (m1, 0)) else (if 8 ≤ (m1 1 6) then (f_X0_readLine_b34 m1) else (ugd (uin (m1 1 6) 8) (if (m1 20 (m1 1 6).toNatClampNeg) = (-1) then (ubi (f_X5_takeNumber m1 0 5) (fun m8 r9 => if r9 = 0 then (some (m8, 0)) else (ugd (uin (m1 1 6) 8) (ubi (f_X5_takeSign (um_w m8 20 (m1 1 6).toNatClampNeg (m8 1 6)) 59) (fun m13 r14 => ugd (ub01 r14) (some (m13, r14))))))) else (f_X0_readLine_b34 m1)))))
set_option maxRecDepth 20000 in
theorem t_X0_readLine {l : Launch} {E : Ue} (mem : Um) (x2 : Int32) (z : Um × Int32) (h : f_X0_readLine  mem x2 = some z) : ug l E 4 0 0 cX0_readLine 4 RX0 (some .boolean) [] (uz_i z) 0 0 0 [(0, .ref (ue_d E 18)), (1, .ref (ue_d E 1)), (2, .int x2)] [] mem := by
  rw [f_X0_readLine] at h
  refine ug_aload_n 1 dX0_readLine_0 rfl rfl ?_
  refine ug_iconst dX0_readLine_1 un_iconst_0 ?_
  refine ug_iload_n 2 dX0_readLine_2 rfl rfl ?_
  refine ug_iconst dX0_readLine_3 un_iconst_1 ?_
  refine ug_isub dX0_readLine_4 ?_
  obtain ⟨m1, r2, h3, h⟩ := ubi_some h
  refine ug_callVi [.int 0, .int (x2 - 1)] (c_X5_takeNumber  h3) kc_X0_44 ro_1 rfl (S := []) rfl (Nat.le_of_ble_eq_true rfl) (Nat.le_of_ble_eq_true rfl) (Nat.le_of_ble_eq_true rfl) dX0_readLine_5 ?_
  refine ug_if_ne 13 dX0_readLine_8 (by decide) (fun q4 => ?_) (fun q4 => ?_)
  · rw [if_neg q4] at h
    refine ug_aload_n 1 dX0_readLine_13 rfl rfl ?_
    refine ug_getI kf_X0_48 gi_1_6 dX0_readLine_14 ?_
    refine ug_istore_n [(3, .int (m1 1 6)), (0, .ref (ue_d E 18)), (1, .ref (ue_d E 1)), (2, .int x2)] dX0_readLine_17 rfl (Nat.le_of_ble_eq_true rfl) rfl ?_
    refine ug_iload_n 0 dX0_readLine_18 rfl rfl ?_
    refine ug_bipush dX0_readLine_19 un_bipush_8 ?_
    refine ug_icmp_ge 34 dX0_readLine_21 (by decide) (fun q5 => ?_) (fun q5 => ?_)
    · rw [if_pos q5] at h
      refine ug_sub [(1, .ref (ue_d E 1))] [2] rfl ?_
      exact t_X0_readLine_b34 m1  _ h
    · rw [if_neg q5] at h
      refine ug_aload_n 1 dX0_readLine_24 rfl rfl ?_
      refine ug_getR kf_X0_19 gr_18_2 dX0_readLine_25 ?_
      refine ug_iload_n 0 dX0_readLine_28 rfl rfl ?_
      obtain ⟨g6, h⟩ := ugd_some h
      refine ug_iald al_20 (uin_ok g6) dX0_readLine_29 ?_
      refine ug_iconst dX0_readLine_30 un_iconst_m1 ?_
      refine ug_icmp_eq 44 dX0_readLine_31 (by decide) (fun q7 => ?_) (fun q7 => ?_)
      · rw [if_pos q7] at h
        refine ug_aload_n 2 dX0_readLine_44 rfl rfl ?_
        refine ug_iconst dX0_readLine_45 un_iconst_0 ?_
        refine ug_iconst dX0_readLine_46 un_iconst_5 ?_
        obtain ⟨m8, r9, h10, h⟩ := ubi_some h
        refine ug_callVi [.int 0, .int 5] (c_X5_takeNumber  h10) kc_X0_44 ro_1 rfl (S := []) rfl (Nat.le_of_ble_eq_true rfl) (Nat.le_of_ble_eq_true rfl) (Nat.le_of_ble_eq_true rfl) dX0_readLine_47 ?_
        refine ug_if_ne 55 dX0_readLine_50 (by decide) (fun q11 => ?_) (fun q11 => ?_)
        · rw [if_neg q11] at h
          refine ug_aload_n 1 dX0_readLine_55 rfl rfl ?_
          refine ug_getR kf_X0_19 gr_18_2 dX0_readLine_56 ?_
          refine ug_iload_n 0 dX0_readLine_59 rfl rfl ?_
          refine ug_aload_n 2 dX0_readLine_60 rfl rfl ?_
          refine ug_getI kf_X0_48 gi_1_6 dX0_readLine_61 ?_
          obtain ⟨g12, h⟩ := ugd_some h
          refine ug_iast al_20 (uin_ok g12) dX0_readLine_64 ?_
          refine ug_aload_n 2 dX0_readLine_65 rfl rfl ?_
          refine ug_bipush dX0_readLine_66 un_bipush_59 ?_
          obtain ⟨m13, r14, h15, h⟩ := ubi_some h
          refine ug_callVi [.int 59] (c_X5_takeSign  h15) kc_X0_57 ro_1 rfl (S := []) rfl (Nat.le_of_ble_eq_true rfl) (Nat.le_of_ble_eq_true rfl) (Nat.le_of_ble_eq_true rfl) dX0_readLine_68 ?_
          obtain ⟨g16, h⟩ := ugd_some h
          obtain rfl := Option.some.inj h
          exact ug_zret (of_decide_eq_true g16) dX0_readLine_71
        · rw [if_pos q11] at h
          refine ug_iconst dX0_readLine_53 un_iconst_0 ?_
          obtain rfl := Option.some.inj h
          exact ug_zret (Or.inl rfl) dX0_readLine_54
      · rw [if_neg q7] at h
        refine ug_sub [(1, .ref (ue_d E 1))] [2] rfl ?_
        exact t_X0_readLine_b34 m1  _ h
  · rw [if_pos q4] at h
    refine ug_iconst dX0_readLine_11 un_iconst_0 ?_
    obtain rfl := Option.some.inj h
    exact ug_zret (Or.inl rfl) dX0_readLine_12
theorem c_X0_readLine {l : Launch} {E : Ue} {mem : Um} {x2 : Int32} {m1 : Um} {r : Int32} (h : f_X0_readLine  mem x2 = some (m1, r)) : ucr l E 4 0 0 yX0_readLine cX0_readLine 4 (some .boolean) [.ref (ue_d E 18), .ref (ue_d E 1), .int x2] mem (some (.int r)) m1 := ucr_of rfl (Nat.le_of_ble_eq_true rfl) (t_X0_readLine  mem x2 _ h)
-- X0_read
def f_X0_read_b47 (mem : Um) (x3 : Int32) : Option (Um × Int32) :=
  ugd (ucp_ok 0 0 8 8 8) (some ((um_cp (um_w mem 18 1 x3) 20 0 19 0 8), 1))
set_option maxRecDepth 20000 in
theorem t_X0_read_b47 {l : Launch} {E : Ue} (mem : Um) (x3 : Int32) (z : Um × Int32) (h : f_X0_read_b47  mem x3 = some z) : ug l E 5 0 0 cX0_read 5 RX0 (some .boolean) [] (uz_i z) 0 0 47 [(0, .ref (ue_d E 18)), (3, .int x3)] [] mem := by
  rw [f_X0_read_b47] at h
  refine ug_aload_n 0 dX0_read_47 rfl rfl ?_
  refine ug_iload_n 1 dX0_read_48 rfl rfl ?_
  refine ug_putI kp_X0_15 gi_18_1 dX0_read_49 ?_
  refine ug_aload_n 0 dX0_read_52 rfl rfl ?_
  refine ug_getR kf_X0_19 gr_18_2 dX0_read_53 ?_
  refine ug_iconst dX0_read_56 un_iconst_0 ?_
  refine ug_aload_n 0 dX0_read_57 rfl rfl ?_
  refine ug_getR kf_X0_9 gr_18_0 dX0_read_58 ?_
  refine ug_iconst dX0_read_61 un_iconst_0 ?_
  refine ug_bipush dX0_read_62 un_bipush_8 ?_
  obtain ⟨g1, h⟩ := ugd_some h
  refine ug_copy kl_X0_38 al_20 al_19 g1 (Nat.le_of_ble_eq_true rfl) (Nat.le_of_ble_eq_true rfl) dX0_read_64 ?_
  refine ug_iconst dX0_read_67 un_iconst_1 ?_
  obtain rfl := Option.some.inj h
  exact ug_zret (Or.inr rfl) dX0_read_68
def f_X0_read_b13 : Nat → Um → Int32 → Int32 → Int32 → Option (Um × Int32)
  | 0, _, _, _, _ => none
  | n + 1, mem, x2, x3, x4 =>
    if 8 < x4 then (f_X0_read_b47 mem x3) else (ubi (f_X5_hasMore mem) (fun m2 r3 => if r3 = 0 then (f_X0_read_b47 m2 x3) else (ubi (f_X0_readLine m2 x2) (fun m6 r7 => if r7 = 0 then (some (m6, 0)) else ((f_X0_read_b13  n) m6 x2 (x3 + 1) (x4 + 1))))))
set_option maxRecDepth 20000 in
theorem t_X0_read_b13 {l : Launch} {E : Ue} : ∀ (n : Nat) (mem : Um) (x2 : Int32) (x3 : Int32) (x4 : Int32) (z : Um × Int32), f_X0_read_b13  n mem x2 x3 x4 = some z → ug l E 5 0 0 cX0_read 5 RX0 (some .boolean) [] (uz_i z) 0 0 13 [(0, .ref (ue_d E 18)), (1, .ref (ue_d E 1)), (2, .int x2), (3, .int x3), (4, .int x4)] [] mem := by
  intro n
  induction n with
  | zero =>
    intro mem x2 x3 x4 z h
    rw [f_X0_read_b13] at h
    cases h
  | succ n ih =>
    intro mem x2 x3 x4 z h
    rw [f_X0_read_b13] at h
    refine ug_iload 4 dX0_read_13 rfl ?_
    refine ug_bipush dX0_read_15 un_bipush_8 ?_
    refine ug_icmp_gt 47 dX0_read_17 (by decide) (fun q1 => ?_) (fun q1 => ?_)
    · rw [if_pos q1] at h
      refine ug_sub [(0, .ref (ue_d E 18)), (3, .int x3)] [0, 3] rfl ?_
      exact t_X0_read_b47 mem x3 _ h
    · rw [if_neg q1] at h
      refine ug_aload_n 1 dX0_read_20 rfl rfl ?_
      obtain ⟨m2, r3, h4, h⟩ := ubi_some h
      refine ug_callVi [] (c_X5_hasMore  h4) kc_X0_28 ro_1 rfl (S := []) rfl (Nat.le_of_ble_eq_true rfl) (Nat.le_of_ble_eq_true rfl) (Nat.le_of_ble_eq_true rfl) dX0_read_21 ?_
      refine ug_if_eq 47 dX0_read_24 (by decide) (fun q5 => ?_) (fun q5 => ?_)
      · rw [if_pos q5] at h
        refine ug_sub [(0, .ref (ue_d E 18)), (3, .int x3)] [0, 3] rfl ?_
        exact t_X0_read_b47 m2 x3 _ h
      · rw [if_neg q5] at h
        refine ug_aload_n 0 dX0_read_27 rfl rfl ?_
        refine ug_aload_n 1 dX0_read_28 rfl rfl ?_
        refine ug_iload_n 2 dX0_read_29 rfl rfl ?_
        obtain ⟨m6, r7, h8, h⟩ := ubi_some h
        refine ug_callVi [.ref (ue_d E 1), .int x2] (c_X0_readLine  h8) kc_X0_34 ro_18 rfl (S := []) rfl (Nat.le_of_ble_eq_true rfl) (Nat.le_of_ble_eq_true rfl) (Nat.le_of_ble_eq_true rfl) dX0_read_30 ?_
        refine ug_if_ne 38 dX0_read_33 (by decide) (fun q9 => ?_) (fun q9 => ?_)
        · rw [if_neg q9] at h
          refine ug_iinc (v := (x3 + 1)) [(3, .int (x3 + 1)), (0, .ref (ue_d E 18)), (1, .ref (ue_d E 1)), (2, .int x2), (4, .int x4)] 3 dX0_read_38 rfl rfl (Nat.le_of_ble_eq_true rfl) rfl ?_
          refine ug_iinc (v := (x4 + 1)) [(4, .int (x4 + 1)), (3, .int (x3 + 1)), (0, .ref (ue_d E 18)), (1, .ref (ue_d E 1)), (2, .int x2)] 4 dX0_read_41 rfl rfl (Nat.le_of_ble_eq_true rfl) rfl ?_
          refine ug_goto 13 dX0_read_44 (by decide) ?_
          refine ug_sub [(0, .ref (ue_d E 18)), (1, .ref (ue_d E 1)), (2, .int x2), (3, .int (x3 + 1)), (4, .int (x4 + 1))] [2, 3, 4, 1, 0] rfl ?_
          exact ih m6 x2 (x3 + 1) (x4 + 1) _ h
        · rw [if_pos q9] at h
          refine ug_iconst dX0_read_36 un_iconst_0 ?_
          obtain rfl := Option.some.inj h
          exact ug_zret (Or.inl rfl) dX0_read_37
def f_X0_read (mem : Um) (x2 : Int32) : Option (Um × Int32) :=
  ubi (f_J7_fill_53178 20 8 mem (-1)) (fun m1 r2 => f_X0_read_b13  UF m1 x2 0 0)
set_option maxRecDepth 20000 in
theorem t_X0_read {l : Launch} {E : Ue} (mem : Um) (x2 : Int32) (z : Um × Int32) (h : f_X0_read  mem x2 = some z) : ug l E 5 0 0 cX0_read 5 RX0 (some .boolean) [] (uz_i z) 0 0 0 [(0, .ref (ue_d E 18)), (1, .ref (ue_d E 1)), (2, .int x2)] [] mem := by
  rw [f_X0_read] at h
  refine ug_aload_n 0 dX0_read_0 rfl rfl ?_
  refine ug_getR kf_X0_19 gr_18_2 dX0_read_1 ?_
  refine ug_iconst dX0_read_4 un_iconst_m1 ?_
  obtain ⟨m1, r2, h3, h⟩ := ubi_some h
  refine ug_callSv [.ref (ue_d E 20), .int (-1)] (c_J7_fill_53178 al_20 h3) kc_X0_22 rfl (S := []) rfl (Nat.le_of_ble_eq_true rfl) (Nat.le_of_ble_eq_true rfl) (Nat.le_of_ble_eq_true rfl) dX0_read_5 ?_
  refine ug_iconst dX0_read_8 un_iconst_0 ?_
  refine ug_istore_n [(3, .int 0), (0, .ref (ue_d E 18)), (1, .ref (ue_d E 1)), (2, .int x2)] dX0_read_9 rfl (Nat.le_of_ble_eq_true rfl) rfl ?_
  refine ug_iconst dX0_read_10 un_iconst_0 ?_
  refine ug_istore [(4, .int 0), (3, .int 0), (0, .ref (ue_d E 18)), (1, .ref (ue_d E 1)), (2, .int x2)] dX0_read_11 (Nat.le_of_ble_eq_true rfl) rfl ?_
  refine ug_sub [(0, .ref (ue_d E 18)), (1, .ref (ue_d E 1)), (2, .int x2), (3, .int 0), (4, .int 0)] [2, 3, 4, 1, 0] rfl ?_
  exact t_X0_read_b13  UF m1 x2 0 0 _ h
theorem c_X0_read {l : Launch} {E : Ue} {mem : Um} {x2 : Int32} {m1 : Um} {r : Int32} (h : f_X0_read  mem x2 = some (m1, r)) : ucr l E 5 0 0 yX0_read cX0_read 5 (some .boolean) [.ref (ue_d E 18), .ref (ue_d E 1), .int x2] mem (some (.int r)) m1 := ucr_of rfl (Nat.le_of_ble_eq_true rfl) (t_X0_read  mem x2 _ h)
-- X7_book
def f_X7_book_b64 (mem : Um) (y0 : Int32) : Option (Um × (Int32 ⊕ String)) :=
  some (mem, .inl y0)
set_option maxRecDepth 20000 in
theorem t_X7_book_b64 {l : Launch} {E : Ue} (mem : Um) (y0 : Int32) (z : Um × (Int32 ⊕ String)) (h : f_X7_book_b64  mem y0 = some z) : ug l E 7 (uzc z) (uzs z) cX7_book 2 RX7 (some .int) [] (uzx_i z) 0 0 64 [] [.int y0] mem := by
  rw [f_X7_book_b64] at h
  obtain rfl := Option.some.inj h
  exact ug_iret dX7_book_64
def f_X7_book (mem : Um) (x1 : Int32) : Option (Um × (Int32 ⊕ String)) :=
  ubx (f_X7_need mem x1 0 (ummin 60 (mem 1 1))) (fun m1 r2 => ubi (f_X5_begin m1 x1) (fun m5 r6 => ubi (f_X0_read m5 (m5 3 0)) (fun m8 r9 => if r9 = 0 then (ubi (f_X5_faultAnswer m8) (fun m12 r13 => f_X7_book_b64 m12 r13)) else (f_X7_book_b64 m8 (m8 18 1)))))
set_option maxRecDepth 20000 in
theorem t_X7_book {l : Launch} {E : Ue} (mem : Um) (x1 : Int32) (z : Um × (Int32 ⊕ String)) (h : f_X7_book  mem x1 = some z) : ug l E 7 (uzc z) (uzs z) cX7_book 2 RX7 (some .int) [] (uzx_i z) 0 0 0 [(0, .ref (ue_d E 0)), (1, .int x1)] [] mem := by
  rw [f_X7_book] at h
  refine ug_aload_n 0 dX7_book_0 rfl rfl ?_
  refine ug_iload_n 1 dX7_book_1 rfl rfl ?_
  refine ug_iconst dX7_book_2 un_iconst_0 ?_
  refine ug_bipush dX7_book_3 un_bipush_60 ?_
  refine ug_aload_n 0 dX7_book_5 rfl rfl ?_
  refine ug_getR kf_X7_12 gr_0_0 dX7_book_6 ?_
  refine ug_getI kf_X7_95 gi_1_1 dX7_book_9 ?_
  refine ug_mmin kl_X7_134 (Nat.le_of_ble_eq_true rfl) (Nat.le_of_ble_eq_true rfl) dX7_book_12 ?_
  rcases ubx_some h with ⟨m1, r2, h3, h⟩ | ⟨m1, X4, h3, rfl⟩
  · refine ug_callVv [.int x1, .int 0, .int (ummin 60 (mem 1 1))] (c_X7_need_r  h3) kc_X7_102 ro_0 rfl (S := []) rfl (Nat.le_of_ble_eq_true rfl) (Nat.le_of_ble_eq_true rfl) (Nat.le_of_ble_eq_true rfl) dX7_book_15 ?_
    refine ug_aload_n 0 dX7_book_18 rfl rfl ?_
    refine ug_getR kf_X7_12 gr_0_0 dX7_book_19 ?_
    refine ug_iload_n 1 dX7_book_22 rfl rfl ?_
    obtain ⟨m5, r6, h7, h⟩ := ubi_some h
    refine ug_callVv [.int x1] (c_X5_begin  h7) kc_X7_106 ro_1 rfl (S := []) rfl (Nat.le_of_ble_eq_true rfl) (Nat.le_of_ble_eq_true rfl) (Nat.le_of_ble_eq_true rfl) dX7_book_23 ?_
    refine ug_aload_n 0 dX7_book_26 rfl rfl ?_
    refine ug_getR kf_X7_38 gr_0_4 dX7_book_27 ?_
    refine ug_aload_n 0 dX7_book_30 rfl rfl ?_
    refine ug_getR kf_X7_12 gr_0_0 dX7_book_31 ?_
    refine ug_aload_n 0 dX7_book_34 rfl rfl ?_
    refine ug_getR kf_X7_21 gr_0_1 dX7_book_35 ?_
    refine ug_getI kf_X7_162 gi_3_0 dX7_book_38 ?_
    obtain ⟨m8, r9, h10, h⟩ := ubi_some h
    refine ug_callVi [.ref (ue_d E 1), .int (m5 3 0)] (c_X0_read  h10) kc_X7_165 ro_18 rfl (S := []) rfl (Nat.le_of_ble_eq_true rfl) (Nat.le_of_ble_eq_true rfl) (Nat.le_of_ble_eq_true rfl) dX7_book_41 ?_
    refine ug_if_eq 57 dX7_book_44 (by decide) (fun q11 => ?_) (fun q11 => ?_)
    · rw [if_pos q11] at h
      refine ug_aload_n 0 dX7_book_57 rfl rfl ?_
      refine ug_getR kf_X7_12 gr_0_0 dX7_book_58 ?_
      obtain ⟨m12, r13, h14, h⟩ := ubi_some h
      refine ug_callVi [] (c_X5_faultAnswer  h14) kc_X7_113 ro_1 rfl (S := []) rfl (Nat.le_of_ble_eq_true rfl) (Nat.le_of_ble_eq_true rfl) (Nat.le_of_ble_eq_true rfl) dX7_book_61 ?_
      refine ug_sub [] [] rfl ?_
      exact t_X7_book_b64 m12 r13 _ h
    · rw [if_neg q11] at h
      refine ug_aload_n 0 dX7_book_47 rfl rfl ?_
      refine ug_getR kf_X7_38 gr_0_4 dX7_book_48 ?_
      refine ug_getI kf_X7_166 gi_18_1 dX7_book_51 ?_
      refine ug_goto 64 dX7_book_54 (by decide) ?_
      refine ug_sub [] [] rfl ?_
      exact t_X7_book_b64 m8 (m8 18 1) _ h
  · exact ug_callVx [.int x1, .int 0, .int (ummin 60 (mem 1 1))] (c_X7_need_x  h3) kc_X7_102 ro_0 rfl (S := []) rfl (Nat.le_of_ble_eq_true rfl) (Nat.le_of_ble_eq_true rfl) (Nat.le_of_ble_eq_true rfl) ⟨Nat.le_refl 1, Nat.le_refl 6⟩ dX7_book_15
theorem c_X7_book_r {l : Launch} {E : Ue} {mem : Um} {x1 : Int32} {m1 : Um} {r : Int32} (h : f_X7_book  mem x1 = some (m1, .inl r)) : ucr l E 7 0 0 yX7_book cX7_book 2 (some .int) [.ref (ue_d E 0), .int x1] mem (some (.int r)) m1 := ucr_of rfl (Nat.le_of_ble_eq_true rfl) (t_X7_book  mem x1 _ h)
theorem c_X7_book_x {l : Launch} {E : Ue} {mem : Um} {x1 : Int32} {m1 : Um} {X : String} (h : f_X7_book  mem x1 = some (m1, .inr X)) : ucx l E 7 1 6 yX7_book cX7_book 2 (some .int) [.ref (ue_d E 0), .int x1] mem X m1 := ucx_of rfl (Nat.le_of_ble_eq_true rfl) (t_X7_book  mem x1 _ h)
-- X7_fault
def f_X7_fault (mem : Um) : Option (Um × Int32) :=
  some (mem, (mem 1 5))
set_option maxRecDepth 20000 in
theorem t_X7_fault {l : Launch} {E : Ue} (mem : Um) (z : Um × Int32) (h : f_X7_fault  mem  = some z) : ug l E 2 0 0 cX7_fault 1 RX7 (some .int) [] (uz_i z) 0 0 0 [(0, .ref (ue_d E 0))] [] mem := by
  rw [f_X7_fault] at h
  refine ug_aload_n 0 dX7_fault_0 rfl rfl ?_
  refine ug_getR kf_X7_12 gr_0_0 dX7_fault_1 ?_
  refine ug_getI kf_X7_169 gi_1_5 dX7_fault_4 ?_
  obtain rfl := Option.some.inj h
  exact ug_iret dX7_fault_7
theorem c_X7_fault {l : Launch} {E : Ue} {mem : Um} {m1 : Um} {r : Int32} (h : f_X7_fault  mem  = some (m1, r)) : ucr l E 2 0 0 yX7_fault cX7_fault 1 (some .int) [.ref (ue_d E 0)] mem (some (.int r)) m1 := ucr_of rfl (Nat.le_of_ble_eq_true rfl) (t_X7_fault  mem  _ h)
-- X3_recall
def f_X3_recall_b34 (o : Nat) (mem : Um) : Option (Um × Unit) :=
  some (mem, ())
set_option maxRecDepth 20000 in
theorem t_X3_recall_b34 {l : Launch} {E : Ue} {o : Nat} (ho : o = 27 ∨ o = 30 ∨ o = 32 ∨ o = 34) (mem : Um) (z : Um × Unit) (h : f_X3_recall_b34 o mem  = some z) : ug l E 2 0 0 cX3_recall 2 RX3 none [] (uz_v z) 0 0 34 [] [] mem := by
  rw [f_X3_recall_b34] at h
  obtain rfl := Option.some.inj h
  exact ug_vret dX3_recall_34
def f_X3_recall (o : Nat) (mem : Um) : Option (Um × Unit) :=
  if (mem o 1) < 0 then (f_X3_recall_b34 o mem) else (if 16 < (mem o 1) then (f_X3_recall_b34 o mem) else (ugd (ucp_ok ((mem o 1) * 28) 0 28 476 28) (f_X3_recall_b34 o (um_cp mem (o + 1) ((mem o 1) * 28) 24 0 28))))
set_option maxRecDepth 20000 in
theorem t_X3_recall {l : Launch} {E : Ue} {o : Nat} (ho : o = 27 ∨ o = 30 ∨ o = 32 ∨ o = 34) (mem : Um) (z : Um × Unit) (h : f_X3_recall o mem  = some z) : ug l E 2 0 0 cX3_recall 2 RX3 none [] (uz_v z) 0 0 0 [(0, .ref (ue_d E o)), (1, .ref (ue_d E 24))] [] mem := by
  rw [f_X3_recall] at h
  refine ug_aload_n 0 dX3_recall_0 rfl rfl ?_
  refine ug_getI kf_X3_17 (pa_i1 ho) dX3_recall_1 ?_
  refine ug_if_lt 34 dX3_recall_4 (by decide) (fun q1 => ?_) (fun q1 => ?_)
  · rw [if_pos q1] at h
    refine ug_sub [] [] rfl ?_
    exact t_X3_recall_b34 ho mem  _ h
  · rw [if_neg q1] at h
    refine ug_aload_n 0 dX3_recall_7 rfl rfl ?_
    refine ug_getI kf_X3_17 (pa_i1 ho) dX3_recall_8 ?_
    refine ug_bipush dX3_recall_11 un_bipush_16 ?_
    refine ug_icmp_gt 34 dX3_recall_13 (by decide) (fun q2 => ?_) (fun q2 => ?_)
    · rw [if_pos q2] at h
      refine ug_sub [] [] rfl ?_
      exact t_X3_recall_b34 ho mem  _ h
    · rw [if_neg q2] at h
      refine ug_aload_n 0 dX3_recall_16 rfl rfl ?_
      refine ug_getR kf_X3_11 (pa_r0 ho) dX3_recall_17 ?_
      refine ug_aload_n 0 dX3_recall_20 rfl rfl ?_
      refine ug_getI kf_X3_17 (pa_i1 ho) dX3_recall_21 ?_
      refine ug_bipush dX3_recall_24 un_bipush_28 ?_
      refine ug_imul dX3_recall_26 ?_
      refine ug_aload_n 1 dX3_recall_27 rfl rfl ?_
      refine ug_iconst dX3_recall_28 un_iconst_0 ?_
      refine ug_bipush dX3_recall_29 un_bipush_28 ?_
      obtain ⟨g3, h⟩ := ugd_some h
      refine ug_copy kl_X3_21 (pa_a ho) al_24 g3 (Nat.le_of_ble_eq_true rfl) (Nat.le_of_ble_eq_true rfl) dX3_recall_31 ?_
      refine ug_sub [] [] rfl ?_
      exact t_X3_recall_b34 ho (um_cp mem (o + 1) ((mem o 1) * 28) 24 0 28)  _ h
theorem c_X3_recall {l : Launch} {E : Ue} {o : Nat} (ho : o = 27 ∨ o = 30 ∨ o = 32 ∨ o = 34) {mem : Um} {m1 : Um} {r : Unit} (h : f_X3_recall o mem  = some (m1, r)) : ucr l E 2 0 0 yX3_recall cX3_recall 2 none [.ref (ue_d E o), .ref (ue_d E 24)] mem none m1 := ucr_of rfl (Nat.le_of_ble_eq_true rfl) (t_X3_recall ho mem  _ h)
-- X7_undo
def f_X7_undo (mem : Um) : Option (Um × Int32) :=
  if 0 < (mem 27 1) then (ubi (f_X3_recall 27 (um_w mem 27 1 ((mem 27 1) - 1))) (fun m2 r3 => some ((um_w m2 0 13 0), ((um_w m2 0 13 0) 27 1)))) else (some (mem, (-1)))
set_option maxRecDepth 20000 in
theorem t_X7_undo {l : Launch} {E : Ue} (mem : Um) (z : Um × Int32) (h : f_X7_undo  mem  = some z) : ug l E 3 0 0 cX7_undo 1 RX7 (some .int) [] (uz_i z) 0 0 0 [(0, .ref (ue_d E 0))] [] mem := by
  rw [f_X7_undo] at h
  refine ug_aload_n 0 dX7_undo_0 rfl rfl ?_
  refine ug_getR kf_X7_64 gr_0_8 dX7_undo_1 ?_
  refine ug_getI kf_X7_128 gi_27_1 dX7_undo_4 ?_
  refine ug_if_gt 12 dX7_undo_7 (by decide) (fun q1 => ?_) (fun q1 => ?_)
  · rw [if_pos q1] at h
    refine ug_aload_n 0 dX7_undo_12 rfl rfl ?_
    refine ug_getR kf_X7_64 gr_0_8 dX7_undo_13 ?_
    refine ug_dup dX7_undo_16 rfl ?_
    refine ug_getI kf_X7_128 gi_27_1 dX7_undo_17 ?_
    refine ug_iconst dX7_undo_20 un_iconst_1 ?_
    refine ug_isub dX7_undo_21 ?_
    refine ug_putI kp_X7_128 gi_27_1 dX7_undo_22 ?_
    refine ug_aload_n 0 dX7_undo_25 rfl rfl ?_
    refine ug_getR kf_X7_64 gr_0_8 dX7_undo_26 ?_
    refine ug_aload_n 0 dX7_undo_29 rfl rfl ?_
    refine ug_getR kf_X7_54 gr_0_6 dX7_undo_30 ?_
    refine ug_getR kf_X7_144 gr_23_2 dX7_undo_33 ?_
    obtain ⟨m2, r3, h4, h⟩ := ubi_some h
    refine ug_callVv [.ref (ue_d E 24)] (c_X3_recall (Or.inl rfl) h4) kc_X7_172 ro_27 rfl (S := []) rfl (Nat.le_of_ble_eq_true rfl) (Nat.le_of_ble_eq_true rfl) (Nat.le_of_ble_eq_true rfl) dX7_undo_36 ?_
    refine ug_aload_n 0 dX7_undo_39 rfl rfl ?_
    refine ug_iconst dX7_undo_40 un_iconst_0 ?_
    refine ug_putI kp_X7_83 gi_0_13 dX7_undo_41 ?_
    refine ug_aload_n 0 dX7_undo_44 rfl rfl ?_
    refine ug_getR kf_X7_64 gr_0_8 dX7_undo_45 ?_
    refine ug_getI kf_X7_128 gi_27_1 dX7_undo_48 ?_
    obtain rfl := Option.some.inj h
    exact ug_iret dX7_undo_51
  · rw [if_neg q1] at h
    refine ug_iconst dX7_undo_10 un_iconst_m1 ?_
    obtain rfl := Option.some.inj h
    exact ug_iret dX7_undo_11
theorem c_X7_undo {l : Launch} {E : Ue} {mem : Um} {m1 : Um} {r : Int32} (h : f_X7_undo  mem  = some (m1, r)) : ucr l E 3 0 0 yX7_undo cX7_undo 1 (some .int) [.ref (ue_d E 0)] mem (some (.int r)) m1 := ucr_of rfl (Nat.le_of_ble_eq_true rfl) (t_X7_undo  mem  _ h)
-- X3_copyFrom
def f_X3_copyFrom (o : Nat) (o2 : Nat) (mem : Um) : Option (Um × Unit) :=
  ugd (ucp_ok 0 0 476 476 476) (some ((um_cp (um_w mem o 1 (mem o2 1)) (o2 + 1) 0 (o + 1) 0 476), ()))
set_option maxRecDepth 20000 in
theorem t_X3_copyFrom {l : Launch} {E : Ue} {o : Nat} {o2 : Nat} (ho : o = 27 ∨ o = 30 ∨ o = 32 ∨ o = 34) (ho2 : o2 = 27 ∨ o2 = 30 ∨ o2 = 32 ∨ o2 = 34) (mem : Um) (z : Um × Unit) (h : f_X3_copyFrom o o2 mem  = some z) : ug l E 2 0 0 cX3_copyFrom 2 RX3 none [] (uz_v z) 0 0 0 [(0, .ref (ue_d E o)), (1, .ref (ue_d E o2))] [] mem := by
  rw [f_X3_copyFrom] at h
  refine ug_aload_n 0 dX3_copyFrom_0 rfl rfl ?_
  refine ug_aload_n 1 dX3_copyFrom_1 rfl rfl ?_
  refine ug_getI kf_X3_17 (pa_i1 ho2) dX3_copyFrom_2 ?_
  refine ug_putI kp_X3_17 (pa_i1 ho) dX3_copyFrom_5 ?_
  refine ug_aload_n 1 dX3_copyFrom_8 rfl rfl ?_
  refine ug_getR kf_X3_11 (pa_r0 ho2) dX3_copyFrom_9 ?_
  refine ug_iconst dX3_copyFrom_12 un_iconst_0 ?_
  refine ug_aload_n 0 dX3_copyFrom_13 rfl rfl ?_
  refine ug_getR kf_X3_11 (pa_r0 ho) dX3_copyFrom_14 ?_
  refine ug_iconst dX3_copyFrom_17 un_iconst_0 ?_
  refine ug_aload_n 0 dX3_copyFrom_18 rfl rfl ?_
  refine ug_getR kf_X3_11 (pa_r0 ho) dX3_copyFrom_19 ?_
  refine ug_alenI (v := 476) (pa_a ho) (by decide) dX3_copyFrom_22 ?_
  obtain ⟨g1, h⟩ := ugd_some h
  refine ug_copy kl_X3_21 (pa_a ho2) (pa_a ho) g1 (Nat.le_of_ble_eq_true rfl) (Nat.le_of_ble_eq_true rfl) dX3_copyFrom_23 ?_
  obtain rfl := Option.some.inj h
  exact ug_vret dX3_copyFrom_26
theorem c_X3_copyFrom {l : Launch} {E : Ue} {o : Nat} {o2 : Nat} (ho : o = 27 ∨ o = 30 ∨ o = 32 ∨ o = 34) (ho2 : o2 = 27 ∨ o2 = 30 ∨ o2 = 32 ∨ o2 = 34) {mem : Um} {m1 : Um} {r : Unit} (h : f_X3_copyFrom o o2 mem  = some (m1, r)) : ucr l E 2 0 0 yX3_copyFrom cX3_copyFrom 2 none [.ref (ue_d E o), .ref (ue_d E o2)] mem none m1 := ucr_of rfl (Nat.le_of_ble_eq_true rfl) (t_X3_copyFrom ho ho2 mem  _ h)
-- X7_image
def f_X7_image (mem : Um) : Option (Um × Int32) :=
  if (mem 0 12) < 3 then (ugd (uin (mem 0 12) 3) (ubi (f_X3_copyFrom (30 + 2 * (mem 0 12).toNatClampNeg) 27 mem) (fun m3 r4 => ugd (uin (m3 0 12) 3) (ubi (f_X3_note (30 + 2 * (m3 0 12).toNatClampNeg) m3) (fun m7 r8 => some ((um_w m7 0 12 ((m7 0 12) + 1)), ((um_w m7 0 12 ((m7 0 12) + 1)) 0 12))))))) else (some (mem, (-1)))
set_option maxRecDepth 20000 in
theorem t_X7_image {l : Launch} {E : Ue} (mem : Um) (z : Um × Int32) (h : f_X7_image  mem  = some z) : ug l E 3 0 0 cX7_image 1 RX7 (some .int) [] (uz_i z) 0 0 0 [(0, .ref (ue_d E 0))] [] mem := by
  rw [f_X7_image] at h
  refine ug_aload_n 0 dX7_image_0 rfl rfl ?_
  refine ug_getI kf_X7_79 gi_0_12 dX7_image_1 ?_
  refine ug_iconst dX7_image_4 un_iconst_3 ?_
  refine ug_icmp_lt 10 dX7_image_5 (by decide) (fun q1 => ?_) (fun q1 => ?_)
  · rw [if_pos q1] at h
    refine ug_aload_n 0 dX7_image_10 rfl rfl ?_
    refine ug_getR kf_X7_68 gr_0_9 dX7_image_11 ?_
    refine ug_aload_n 0 dX7_image_14 rfl rfl ?_
    refine ug_getI kf_X7_79 gi_0_12 dX7_image_15 ?_
    obtain ⟨g2, h⟩ := ugd_some h
    refine ug_aald (uin_ok g2) dX7_image_18 ?_
    refine ug_aload_n 0 dX7_image_19 rfl rfl ?_
    refine ug_getR kf_X7_64 gr_0_8 dX7_image_20 ?_
    obtain ⟨m3, r4, h5, h⟩ := ubi_some h
    refine ug_callVv [.ref (ue_d E 27)] (c_X3_copyFrom (pa_of (uin_ok g2)) (Or.inl rfl) h5) kc_X7_175 (pa_o (pa_of (uin_ok g2))) rfl (S := []) rfl (Nat.le_of_ble_eq_true rfl) (Nat.le_of_ble_eq_true rfl) (Nat.le_of_ble_eq_true rfl) dX7_image_23 ?_
    refine ug_aload_n 0 dX7_image_26 rfl rfl ?_
    refine ug_getR kf_X7_68 gr_0_9 dX7_image_27 ?_
    refine ug_aload_n 0 dX7_image_30 rfl rfl ?_
    refine ug_getI kf_X7_79 gi_0_12 dX7_image_31 ?_
    obtain ⟨g6, h⟩ := ugd_some h
    refine ug_aald (uin_ok g6) dX7_image_34 ?_
    refine ug_aload_n 0 dX7_image_35 rfl rfl ?_
    refine ug_getR kf_X7_54 gr_0_6 dX7_image_36 ?_
    refine ug_getR kf_X7_144 gr_23_2 dX7_image_39 ?_
    obtain ⟨m7, r8, h9, h⟩ := ubi_some h
    refine ug_callVv [.ref (ue_d E 24)] (c_X3_note (pa_of (uin_ok g6)) h9) kc_X7_147 (pa_o (pa_of (uin_ok g6))) rfl (S := []) rfl (Nat.le_of_ble_eq_true rfl) (Nat.le_of_ble_eq_true rfl) (Nat.le_of_ble_eq_true rfl) dX7_image_42 ?_
    refine ug_aload_n 0 dX7_image_45 rfl rfl ?_
    refine ug_dup dX7_image_46 rfl ?_
    refine ug_getI kf_X7_79 gi_0_12 dX7_image_47 ?_
    refine ug_iconst dX7_image_50 un_iconst_1 ?_
    refine ug_iadd dX7_image_51 ?_
    refine ug_putI kp_X7_79 gi_0_12 dX7_image_52 ?_
    refine ug_aload_n 0 dX7_image_55 rfl rfl ?_
    refine ug_getI kf_X7_79 gi_0_12 dX7_image_56 ?_
    obtain rfl := Option.some.inj h
    exact ug_iret dX7_image_59
  · rw [if_neg q1] at h
    refine ug_iconst dX7_image_8 un_iconst_m1 ?_
    obtain rfl := Option.some.inj h
    exact ug_iret dX7_image_9
theorem c_X7_image {l : Launch} {E : Ue} {mem : Um} {m1 : Um} {r : Int32} (h : f_X7_image  mem  = some (m1, r)) : ucr l E 3 0 0 yX7_image cX7_image 1 (some .int) [.ref (ue_d E 0)] mem (some (.int r)) m1 := ucr_of rfl (Nat.le_of_ble_eq_true rfl) (t_X7_image  mem  _ h)
-- X7_restore
def f_X7_restore (mem : Um) : Option (Um × Int32) :=
  if 0 < (mem 0 12) then (ugd (uin ((um_w mem 0 12 ((mem 0 12) - 1)) 0 12) 3) (ubi (f_X3_copyFrom 27 (30 + 2 * ((um_w mem 0 12 ((mem 0 12) - 1)) 0 12).toNatClampNeg) (um_w mem 0 12 ((mem 0 12) - 1))) (fun m3 r4 => ubi (f_X3_recall 27 m3) (fun m6 r7 => some ((um_w m6 0 13 0), ((um_w m6 0 13 0) 0 12)))))) else (some (mem, (-1)))
set_option maxRecDepth 20000 in
theorem t_X7_restore {l : Launch} {E : Ue} (mem : Um) (z : Um × Int32) (h : f_X7_restore  mem  = some z) : ug l E 3 0 0 cX7_restore 1 RX7 (some .int) [] (uz_i z) 0 0 0 [(0, .ref (ue_d E 0))] [] mem := by
  rw [f_X7_restore] at h
  refine ug_aload_n 0 dX7_restore_0 rfl rfl ?_
  refine ug_getI kf_X7_79 gi_0_12 dX7_restore_1 ?_
  refine ug_if_gt 9 dX7_restore_4 (by decide) (fun q1 => ?_) (fun q1 => ?_)
  · rw [if_pos q1] at h
    refine ug_aload_n 0 dX7_restore_9 rfl rfl ?_
    refine ug_dup dX7_restore_10 rfl ?_
    refine ug_getI kf_X7_79 gi_0_12 dX7_restore_11 ?_
    refine ug_iconst dX7_restore_14 un_iconst_1 ?_
    refine ug_isub dX7_restore_15 ?_
    refine ug_putI kp_X7_79 gi_0_12 dX7_restore_16 ?_
    refine ug_aload_n 0 dX7_restore_19 rfl rfl ?_
    refine ug_getR kf_X7_64 gr_0_8 dX7_restore_20 ?_
    refine ug_aload_n 0 dX7_restore_23 rfl rfl ?_
    refine ug_getR kf_X7_68 gr_0_9 dX7_restore_24 ?_
    refine ug_aload_n 0 dX7_restore_27 rfl rfl ?_
    refine ug_getI kf_X7_79 gi_0_12 dX7_restore_28 ?_
    obtain ⟨g2, h⟩ := ugd_some h
    refine ug_aald (uin_ok g2) dX7_restore_31 ?_
    obtain ⟨m3, r4, h5, h⟩ := ubi_some h
    refine ug_callVv [.ref (ue_d E (30 + 2 * ((um_w mem 0 12 ((mem 0 12) - 1)) 0 12).toNatClampNeg))] (c_X3_copyFrom (Or.inl rfl) (pa_of (uin_ok g2)) h5) kc_X7_175 ro_27 rfl (S := []) rfl (Nat.le_of_ble_eq_true rfl) (Nat.le_of_ble_eq_true rfl) (Nat.le_of_ble_eq_true rfl) dX7_restore_32 ?_
    refine ug_aload_n 0 dX7_restore_35 rfl rfl ?_
    refine ug_getR kf_X7_64 gr_0_8 dX7_restore_36 ?_
    refine ug_aload_n 0 dX7_restore_39 rfl rfl ?_
    refine ug_getR kf_X7_54 gr_0_6 dX7_restore_40 ?_
    refine ug_getR kf_X7_144 gr_23_2 dX7_restore_43 ?_
    obtain ⟨m6, r7, h8, h⟩ := ubi_some h
    refine ug_callVv [.ref (ue_d E 24)] (c_X3_recall (Or.inl rfl) h8) kc_X7_172 ro_27 rfl (S := []) rfl (Nat.le_of_ble_eq_true rfl) (Nat.le_of_ble_eq_true rfl) (Nat.le_of_ble_eq_true rfl) dX7_restore_46 ?_
    refine ug_aload_n 0 dX7_restore_49 rfl rfl ?_
    refine ug_iconst dX7_restore_50 un_iconst_0 ?_
    refine ug_putI kp_X7_83 gi_0_13 dX7_restore_51 ?_
    refine ug_aload_n 0 dX7_restore_54 rfl rfl ?_
    refine ug_getI kf_X7_79 gi_0_12 dX7_restore_55 ?_
    obtain rfl := Option.some.inj h
    exact ug_iret dX7_restore_58
  · rw [if_neg q1] at h
    refine ug_iconst dX7_restore_7 un_iconst_m1 ?_
    obtain rfl := Option.some.inj h
    exact ug_iret dX7_restore_8
theorem c_X7_restore {l : Launch} {E : Ue} {mem : Um} {m1 : Um} {r : Int32} (h : f_X7_restore  mem  = some (m1, r)) : ucr l E 3 0 0 yX7_restore cX7_restore 1 (some .int) [.ref (ue_d E 0)] mem (some (.int r)) m1 := ucr_of rfl (Nat.le_of_ble_eq_true rfl) (t_X7_restore  mem  _ h)
-- X7_status
def f_X7_status_b22 (mem : Um) (y0 : Int32) : Option (Um × Int32) :=
  some (mem, y0)
set_option maxRecDepth 20000 in
theorem t_X7_status_b22 {l : Launch} {E : Ue} (mem : Um) (y0 : Int32) (z : Um × Int32) (h : f_X7_status_b22  mem y0 = some z) : ug l E 2 0 0 cX7_status 2 RX7 (some .int) [] (uz_i z) 0 0 22 [] [.int y0] mem := by
  rw [f_X7_status_b22] at h
  obtain rfl := Option.some.inj h
  exact ug_iret dX7_status_22
def f_X7_status (mem : Um) (x1 : Int32) : Option (Um × Int32) :=
  if x1 = 0 then (some (mem, (mem 0 15))) else (if x1 = 1 then (f_X7_status_b22 mem (mem 0 16)) else (f_X7_status_b22 mem (-1)))
set_option maxRecDepth 20000 in
theorem t_X7_status {l : Launch} {E : Ue} (mem : Um) (x1 : Int32) (z : Um × Int32) (h : f_X7_status  mem x1 = some z) : ug l E 2 0 0 cX7_status 2 RX7 (some .int) [] (uz_i z) 0 0 0 [(0, .ref (ue_d E 0)), (1, .int x1)] [] mem := by
  rw [f_X7_status] at h
  refine ug_iload_n 1 dX7_status_0 rfl rfl ?_
  refine ug_if_ne 9 dX7_status_1 (by decide) (fun q1 => ?_) (fun q1 => ?_)
  · rw [if_neg q1] at h
    refine ug_iload_n 1 dX7_status_9 rfl rfl ?_
    refine ug_iconst dX7_status_10 un_iconst_1 ?_
    refine ug_icmp_ne 21 dX7_status_11 (by decide) (fun q2 => ?_) (fun q2 => ?_)
    · rw [if_neg q2] at h
      refine ug_iconst dX7_status_21 un_iconst_m1 ?_
      refine ug_sub [] [] rfl ?_
      exact t_X7_status_b22 mem (-1) _ h
    · rw [if_pos q2] at h
      refine ug_aload_n 0 dX7_status_14 rfl rfl ?_
      refine ug_getI kf_X7_92 gi_0_16 dX7_status_15 ?_
      refine ug_goto 22 dX7_status_18 (by decide) ?_
      refine ug_sub [] [] rfl ?_
      exact t_X7_status_b22 mem (mem 0 16) _ h
  · rw [if_pos q1] at h
    refine ug_aload_n 0 dX7_status_4 rfl rfl ?_
    refine ug_getI kf_X7_89 gi_0_15 dX7_status_5 ?_
    obtain rfl := Option.some.inj h
    exact ug_iret dX7_status_8
theorem c_X7_status {l : Launch} {E : Ue} {mem : Um} {x1 : Int32} {m1 : Um} {r : Int32} (h : f_X7_status  mem x1 = some (m1, r)) : ucr l E 2 0 0 yX7_status cX7_status 2 (some .int) [.ref (ue_d E 0), .int x1] mem (some (.int r)) m1 := ucr_of rfl (Nat.le_of_ble_eq_true rfl) (t_X7_status  mem x1 _ h)
-- X7_count
def f_X7_count (mem : Um) (x1 : Int32) : Option (Um × Int32) :=
  if x1 = 0 then (some (mem, (mem 0 12))) else (if x1 = 1 then (some (mem, (mem 1 1))) else (if x1 = 2 then (some (mem, (mem 27 1))) else (some (mem, (-1)))))
set_option maxRecDepth 20000 in
theorem t_X7_count {l : Launch} {E : Ue} (mem : Um) (x1 : Int32) (z : Um × Int32) (h : f_X7_count  mem x1 = some z) : ug l E 2 0 0 cX7_count 2 RX7 (some .int) [] (uz_i z) 0 0 0 [(0, .ref (ue_d E 0)), (1, .int x1)] [] mem := by
  rw [f_X7_count] at h
  refine ug_iload_n 1 dX7_count_0 rfl rfl ?_
  by_cases q1 : x1 = 0
  · rw [if_pos q1] at h
    refine ug_tswI 28 dX7_count_1 (by rw [q1]; decide) (by rw [q1]; decide) (by rw [q1]; rfl) (by decide) ?_
    refine ug_aload_n 0 dX7_count_28 rfl rfl ?_
    refine ug_getI kf_X7_79 gi_0_12 dX7_count_29 ?_
    obtain rfl := Option.some.inj h
    exact ug_iret dX7_count_32
  · rw [if_neg q1] at h
    by_cases q2 : x1 = 1
    · rw [if_pos q2] at h
      refine ug_tswI 33 dX7_count_1 (by rw [q2]; decide) (by rw [q2]; decide) (by rw [q2]; rfl) (by decide) ?_
      refine ug_aload_n 0 dX7_count_33 rfl rfl ?_
      refine ug_getR kf_X7_12 gr_0_0 dX7_count_34 ?_
      refine ug_getI kf_X7_95 gi_1_1 dX7_count_37 ?_
      obtain rfl := Option.some.inj h
      exact ug_iret dX7_count_40
    · rw [if_neg q2] at h
      by_cases q3 : x1 = 2
      · rw [if_pos q3] at h
        refine ug_tswI 41 dX7_count_1 (by rw [q3]; decide) (by rw [q3]; decide) (by rw [q3]; rfl) (by decide) ?_
        refine ug_aload_n 0 dX7_count_41 rfl rfl ?_
        refine ug_getR kf_X7_64 gr_0_8 dX7_count_42 ?_
        refine ug_getI kf_X7_128 gi_27_1 dX7_count_45 ?_
        obtain rfl := Option.some.inj h
        exact ug_iret dX7_count_48
      · rw [if_neg q3] at h
        refine ug_tswO 49 dX7_count_1 (utsw_0_2 q1 q2 q3) (by decide) ?_
        refine ug_iconst dX7_count_49 un_iconst_m1 ?_
        obtain rfl := Option.some.inj h
        exact ug_iret dX7_count_50
theorem c_X7_count {l : Launch} {E : Ue} {mem : Um} {x1 : Int32} {m1 : Um} {r : Int32} (h : f_X7_count  mem x1 = some (m1, r)) : ucr l E 2 0 0 yX7_count cX7_count 2 (some .int) [.ref (ue_d E 0), .int x1] mem (some (.int r)) m1 := ucr_of rfl (Nat.le_of_ble_eq_true rfl) (t_X7_count  mem x1 _ h)
-- X4_moneyOfAll
def f_X4_moneyOfAll_b4 (o : Nat) : Nat → Um → Int32 → Int32 → Option (Um × Int32)
  | 0, _, _, _ => none
  | n + 1, mem, x1, x2 =>
    if 5 ≤ x2 then (some (mem, x1)) else (ugd (uin (3 + x2) 28) ((f_X4_moneyOfAll_b4 o n) mem (x1 + (mem (o + 1) (3 + x2).toNatClampNeg)) (x2 + 1)))
set_option maxRecDepth 20000 in
theorem t_X4_moneyOfAll_b4 {l : Launch} {E : Ue} {o : Nat} (ho : o = 23 ∨ o = 25) : ∀ (n : Nat) (mem : Um) (x1 : Int32) (x2 : Int32) (z : Um × Int32), f_X4_moneyOfAll_b4 o n mem x1 x2 = some z → ug l E 2 0 0 cX4_moneyOfAll 3 RX4 (some .int) [] (uz_i z) 0 0 4 [(0, .ref (ue_d E o)), (1, .int x1), (2, .int x2)] [] mem := by
  intro n
  induction n with
  | zero =>
    intro mem x1 x2 z h
    rw [f_X4_moneyOfAll_b4] at h
    cases h
  | succ n ih =>
    intro mem x1 x2 z h
    rw [f_X4_moneyOfAll_b4] at h
    refine ug_iload_n 2 dX4_moneyOfAll_4 rfl rfl ?_
    refine ug_iconst dX4_moneyOfAll_5 un_iconst_5 ?_
    refine ug_icmp_ge 26 dX4_moneyOfAll_6 (by decide) (fun q1 => ?_) (fun q1 => ?_)
    · rw [if_pos q1] at h
      refine ug_iload_n 1 dX4_moneyOfAll_26 rfl rfl ?_
      obtain rfl := Option.some.inj h
      exact ug_iret dX4_moneyOfAll_27
    · rw [if_neg q1] at h
      refine ug_iload_n 1 dX4_moneyOfAll_9 rfl rfl ?_
      refine ug_aload_n 0 dX4_moneyOfAll_10 rfl rfl ?_
      refine ug_getR kf_X4_11 (sk_r2 ho) dX4_moneyOfAll_11 ?_
      refine ug_iconst dX4_moneyOfAll_14 un_iconst_3 ?_
      refine ug_iload_n 2 dX4_moneyOfAll_15 rfl rfl ?_
      refine ug_iadd dX4_moneyOfAll_16 ?_
      obtain ⟨g2, h⟩ := ugd_some h
      refine ug_iald (sk_a ho) (uin_ok g2) dX4_moneyOfAll_17 ?_
      refine ug_iadd dX4_moneyOfAll_18 ?_
      refine ug_istore_n [(1, .int (x1 + (mem (o + 1) (3 + x2).toNatClampNeg))), (0, .ref (ue_d E o)), (2, .int x2)] dX4_moneyOfAll_19 rfl (Nat.le_of_ble_eq_true rfl) rfl ?_
      refine ug_iinc (v := (x2 + 1)) [(2, .int (x2 + 1)), (1, .int (x1 + (mem (o + 1) (3 + x2).toNatClampNeg))), (0, .ref (ue_d E o))] 2 dX4_moneyOfAll_20 rfl rfl (Nat.le_of_ble_eq_true rfl) rfl ?_
      refine ug_goto 4 dX4_moneyOfAll_23 (by decide) ?_
      refine ug_sub [(0, .ref (ue_d E o)), (1, .int (x1 + (mem (o + 1) (3 + x2).toNatClampNeg))), (2, .int (x2 + 1))] [2, 1, 0] rfl ?_
      exact ih mem (x1 + (mem (o + 1) (3 + x2).toNatClampNeg)) (x2 + 1) _ h
def f_X4_moneyOfAll (o : Nat) (mem : Um) : Option (Um × Int32) :=
  f_X4_moneyOfAll_b4 o UF mem 0 0
set_option maxRecDepth 20000 in
theorem t_X4_moneyOfAll {l : Launch} {E : Ue} {o : Nat} (ho : o = 23 ∨ o = 25) (mem : Um) (z : Um × Int32) (h : f_X4_moneyOfAll o mem  = some z) : ug l E 2 0 0 cX4_moneyOfAll 3 RX4 (some .int) [] (uz_i z) 0 0 0 [(0, .ref (ue_d E o))] [] mem := by
  rw [f_X4_moneyOfAll] at h
  refine ug_iconst dX4_moneyOfAll_0 un_iconst_0 ?_
  refine ug_istore_n [(1, .int 0), (0, .ref (ue_d E o))] dX4_moneyOfAll_1 rfl (Nat.le_of_ble_eq_true rfl) rfl ?_
  refine ug_iconst dX4_moneyOfAll_2 un_iconst_0 ?_
  refine ug_istore_n [(2, .int 0), (1, .int 0), (0, .ref (ue_d E o))] dX4_moneyOfAll_3 rfl (Nat.le_of_ble_eq_true rfl) rfl ?_
  refine ug_sub [(0, .ref (ue_d E o)), (1, .int 0), (2, .int 0)] [2, 1, 0] rfl ?_
  exact t_X4_moneyOfAll_b4 ho UF mem 0 0 _ h
theorem c_X4_moneyOfAll {l : Launch} {E : Ue} {o : Nat} (ho : o = 23 ∨ o = 25) {mem : Um} {m1 : Um} {r : Int32} (h : f_X4_moneyOfAll o mem  = some (m1, r)) : ucr l E 2 0 0 yX4_moneyOfAll cX4_moneyOfAll 3 (some .int) [.ref (ue_d E o)] mem (some (.int r)) m1 := ucr_of rfl (Nat.le_of_ble_eq_true rfl) (t_X4_moneyOfAll ho mem  _ h)
-- X4_worthHad
def f_X4_worthHad_b38 (o : Nat) (k4 : Um → Int32 → Int32 → Option (Um × Int32)) (mem : Um) (x2 : Int32) (y0 : Int32) (y1 : Int32) : Option (Um × Int32) :=
  k4 mem (y1 + y0) (x2 + 1)
set_option maxRecDepth 20000 in
theorem t_X4_worthHad_b38 {l : Launch} {E : Ue} {o : Nat} (ho : o = 23 ∨ o = 25) (k4 : Um → Int32 → Int32 → Option (Um × Int32)) (hk4 : ∀ (mem : Um) (x1 : Int32) (x2 : Int32) (z : Um × Int32), k4 mem x1 x2 = some z → ug l E 3 0 0 cX4_worthHad 3 RX4 (some .int) [] (uz_i z) 0 0 4 [(0, .ref (ue_d E o)), (1, .int x1), (2, .int x2)] [] mem) (mem : Um) (x2 : Int32) (y0 : Int32) (y1 : Int32) (z : Um × Int32) (h : f_X4_worthHad_b38 o k4 mem x2 y0 y1 = some z) : ug l E 3 0 0 cX4_worthHad 3 RX4 (some .int) [] (uz_i z) 0 0 38 [(0, .ref (ue_d E o)), (2, .int x2)] [.int y0, .int y1] mem := by
  rw [f_X4_worthHad_b38] at h
  refine ug_iadd dX4_worthHad_38 ?_
  refine ug_istore_n [(1, .int (y1 + y0)), (0, .ref (ue_d E o)), (2, .int x2)] dX4_worthHad_39 rfl (Nat.le_of_ble_eq_true rfl) rfl ?_
  refine ug_iinc (v := (x2 + 1)) [(2, .int (x2 + 1)), (1, .int (y1 + y0)), (0, .ref (ue_d E o))] 2 dX4_worthHad_40 rfl rfl (Nat.le_of_ble_eq_true rfl) rfl ?_
  refine ug_goto 4 dX4_worthHad_43 (by decide) ?_
  refine ug_sub [(0, .ref (ue_d E o)), (1, .int (y1 + y0)), (2, .int (x2 + 1))] [2, 1, 0] rfl ?_
  exact hk4 mem (y1 + y0) (x2 + 1) _ h
def f_X4_worthHad_b4 (o : Nat) : Nat → Um → Int32 → Int32 → Option (Um × Int32)
  | 0, _, _, _ => none
  | n + 1, mem, x1, x2 =>
    if (mem 3 0) ≤ x2 then (some (mem, x1)) else (ubi (f_X4_owner o mem x2) (fun m2 r3 => if r3 = (-1) then (f_X4_worthHad_b38 o (f_X4_worthHad_b4 o n) m2 x2 0 x1) else (ugd (uin x2 8) (f_X4_worthHad_b38 o (f_X4_worthHad_b4 o n) m2 x2 (m2 5 x2.toNatClampNeg) x1))))
set_option maxRecDepth 20000 in
theorem t_X4_worthHad_b4 {l : Launch} {E : Ue} {o : Nat} (ho : o = 23 ∨ o = 25) : ∀ (n : Nat) (mem : Um) (x1 : Int32) (x2 : Int32) (z : Um × Int32), f_X4_worthHad_b4 o n mem x1 x2 = some z → ug l E 3 0 0 cX4_worthHad 3 RX4 (some .int) [] (uz_i z) 0 0 4 [(0, .ref (ue_d E o)), (1, .int x1), (2, .int x2)] [] mem := by
  intro n
  induction n with
  | zero =>
    intro mem x1 x2 z h
    rw [f_X4_worthHad_b4] at h
    cases h
  | succ n ih =>
    intro mem x1 x2 z h
    rw [f_X4_worthHad_b4] at h
    refine ug_iload_n 2 dX4_worthHad_4 rfl rfl ?_
    refine ug_aload_n 0 dX4_worthHad_5 rfl rfl ?_
    refine ug_getR kf_X4_15 (sk_r0 ho) dX4_worthHad_6 ?_
    refine ug_getI kf_X4_68 gi_3_0 dX4_worthHad_9 ?_
    refine ug_icmp_ge 46 dX4_worthHad_12 (by decide) (fun q1 => ?_) (fun q1 => ?_)
    · rw [if_pos q1] at h
      refine ug_iload_n 1 dX4_worthHad_46 rfl rfl ?_
      obtain rfl := Option.some.inj h
      exact ug_iret dX4_worthHad_47
    · rw [if_neg q1] at h
      refine ug_iload_n 1 dX4_worthHad_15 rfl rfl ?_
      refine ug_aload_n 0 dX4_worthHad_16 rfl rfl ?_
      refine ug_iload_n 2 dX4_worthHad_17 rfl rfl ?_
      obtain ⟨m2, r3, h4, h⟩ := ubi_some h
      refine ug_callVi [.int x2] (c_X4_owner ho h4) kc_X4_71 (sk_o ho) rfl (S := [.int x1]) rfl (Nat.le_of_ble_eq_true rfl) (Nat.le_of_ble_eq_true rfl) (Nat.le_of_ble_eq_true rfl) dX4_worthHad_18 ?_
      refine ug_iconst dX4_worthHad_21 un_iconst_m1 ?_
      refine ug_icmp_ne 29 dX4_worthHad_22 (by decide) (fun q5 => ?_) (fun q5 => ?_)
      · rw [if_neg q5] at h
        refine ug_aload_n 0 dX4_worthHad_29 rfl rfl ?_
        refine ug_getR kf_X4_15 (sk_r0 ho) dX4_worthHad_30 ?_
        refine ug_getR kf_X4_74 gr_3_4 dX4_worthHad_33 ?_
        refine ug_iload_n 2 dX4_worthHad_36 rfl rfl ?_
        obtain ⟨g6, h⟩ := ugd_some h
        refine ug_iald al_5 (uin_ok g6) dX4_worthHad_37 ?_
        refine ug_sub [(0, .ref (ue_d E o)), (2, .int x2)] [0, 2] rfl ?_
        exact t_X4_worthHad_b38 ho (f_X4_worthHad_b4 o n) ih m2 x2 (m2 5 x2.toNatClampNeg) x1 _ h
      · rw [if_pos q5] at h
        refine ug_iconst dX4_worthHad_25 un_iconst_0 ?_
        refine ug_goto 38 dX4_worthHad_26 (by decide) ?_
        refine ug_sub [(0, .ref (ue_d E o)), (2, .int x2)] [0, 2] rfl ?_
        exact t_X4_worthHad_b38 ho (f_X4_worthHad_b4 o n) ih m2 x2 0 x1 _ h
def f_X4_worthHad (o : Nat) (mem : Um) : Option (Um × Int32) :=
  f_X4_worthHad_b4 o UF mem 0 0
set_option maxRecDepth 20000 in
theorem t_X4_worthHad {l : Launch} {E : Ue} {o : Nat} (ho : o = 23 ∨ o = 25) (mem : Um) (z : Um × Int32) (h : f_X4_worthHad o mem  = some z) : ug l E 3 0 0 cX4_worthHad 3 RX4 (some .int) [] (uz_i z) 0 0 0 [(0, .ref (ue_d E o))] [] mem := by
  rw [f_X4_worthHad] at h
  refine ug_iconst dX4_worthHad_0 un_iconst_0 ?_
  refine ug_istore_n [(1, .int 0), (0, .ref (ue_d E o))] dX4_worthHad_1 rfl (Nat.le_of_ble_eq_true rfl) rfl ?_
  refine ug_iconst dX4_worthHad_2 un_iconst_0 ?_
  refine ug_istore_n [(2, .int 0), (1, .int 0), (0, .ref (ue_d E o))] dX4_worthHad_3 rfl (Nat.le_of_ble_eq_true rfl) rfl ?_
  refine ug_sub [(0, .ref (ue_d E o)), (1, .int 0), (2, .int 0)] [2, 1, 0] rfl ?_
  exact t_X4_worthHad_b4 ho UF mem 0 0 _ h
theorem c_X4_worthHad {l : Launch} {E : Ue} {o : Nat} (ho : o = 23 ∨ o = 25) {mem : Um} {m1 : Um} {r : Int32} (h : f_X4_worthHad o mem  = some (m1, r)) : ucr l E 3 0 0 yX4_worthHad cX4_worthHad 3 (some .int) [.ref (ue_d E o)] mem (some (.int r)) m1 := ucr_of rfl (Nat.le_of_ble_eq_true rfl) (t_X4_worthHad ho mem  _ h)
-- X4_touchingTwos
def f_X4_touchingTwos_b4 (o : Nat) : Nat → Um → Int32 → Int32 → Option (Um × Int32)
  | 0, _, _, _ => none
  | n + 1, mem, x1, x2 =>
    if 5 ≤ x2 then (some (mem, (x1 / 2))) else (ubi (f_X4_touching o mem x2) (fun m2 r3 => ubi (f_J6_bitCount_0f7a4 m2 r3) (fun m5 r6 => (f_X4_touchingTwos_b4 o n) m5 (x1 + r6) (x2 + 1))))
set_option maxRecDepth 20000 in
theorem t_X4_touchingTwos_b4 {l : Launch} {E : Ue} {o : Nat} (ho : o = 23 ∨ o = 25) : ∀ (n : Nat) (mem : Um) (x1 : Int32) (x2 : Int32) (z : Um × Int32), f_X4_touchingTwos_b4 o n mem x1 x2 = some z → ug l E 4 0 0 cX4_touchingTwos 3 RX4 (some .int) [] (uz_i z) 0 0 4 [(0, .ref (ue_d E o)), (1, .int x1), (2, .int x2)] [] mem := by
  intro n
  induction n with
  | zero =>
    intro mem x1 x2 z h
    rw [f_X4_touchingTwos_b4] at h
    cases h
  | succ n ih =>
    intro mem x1 x2 z h
    rw [f_X4_touchingTwos_b4] at h
    refine ug_iload_n 2 dX4_touchingTwos_4 rfl rfl ?_
    refine ug_iconst dX4_touchingTwos_5 un_iconst_5 ?_
    refine ug_icmp_ge 26 dX4_touchingTwos_6 (by decide) (fun q1 => ?_) (fun q1 => ?_)
    · rw [if_pos q1] at h
      refine ug_iload_n 1 dX4_touchingTwos_26 rfl rfl ?_
      refine ug_iconst dX4_touchingTwos_27 un_iconst_2 ?_
      refine ug_idiv dX4_touchingTwos_28 (by decide) ?_
      obtain rfl := Option.some.inj h
      exact ug_iret dX4_touchingTwos_29
    · rw [if_neg q1] at h
      refine ug_iload_n 1 dX4_touchingTwos_9 rfl rfl ?_
      refine ug_aload_n 0 dX4_touchingTwos_10 rfl rfl ?_
      refine ug_iload_n 2 dX4_touchingTwos_11 rfl rfl ?_
      obtain ⟨m2, r3, h4, h⟩ := ubi_some h
      refine ug_callVi [.int x2] (c_X4_touching ho h4) kc_X4_80 (sk_o ho) rfl (S := [.int x1]) rfl (Nat.le_of_ble_eq_true rfl) (Nat.le_of_ble_eq_true rfl) (Nat.le_of_ble_eq_true rfl) dX4_touchingTwos_12 ?_
      obtain ⟨m5, r6, h7, h⟩ := ubi_some h
      refine ug_callSi [.int r3] (c_J6_bitCount_0f7a4  h7) kc_X4_83 rfl (S := [.int x1]) rfl (Nat.le_of_ble_eq_true rfl) (Nat.le_of_ble_eq_true rfl) (Nat.le_of_ble_eq_true rfl) dX4_touchingTwos_15 ?_
      refine ug_iadd dX4_touchingTwos_18 ?_
      refine ug_istore_n [(1, .int (x1 + r6)), (0, .ref (ue_d E o)), (2, .int x2)] dX4_touchingTwos_19 rfl (Nat.le_of_ble_eq_true rfl) rfl ?_
      refine ug_iinc (v := (x2 + 1)) [(2, .int (x2 + 1)), (1, .int (x1 + r6)), (0, .ref (ue_d E o))] 2 dX4_touchingTwos_20 rfl rfl (Nat.le_of_ble_eq_true rfl) rfl ?_
      refine ug_goto 4 dX4_touchingTwos_23 (by decide) ?_
      refine ug_sub [(0, .ref (ue_d E o)), (1, .int (x1 + r6)), (2, .int (x2 + 1))] [2, 1, 0] rfl ?_
      exact ih m5 (x1 + r6) (x2 + 1) _ h
def f_X4_touchingTwos (o : Nat) (mem : Um) : Option (Um × Int32) :=
  f_X4_touchingTwos_b4 o UF mem 0 0
set_option maxRecDepth 20000 in
theorem t_X4_touchingTwos {l : Launch} {E : Ue} {o : Nat} (ho : o = 23 ∨ o = 25) (mem : Um) (z : Um × Int32) (h : f_X4_touchingTwos o mem  = some z) : ug l E 4 0 0 cX4_touchingTwos 3 RX4 (some .int) [] (uz_i z) 0 0 0 [(0, .ref (ue_d E o))] [] mem := by
  rw [f_X4_touchingTwos] at h
  refine ug_iconst dX4_touchingTwos_0 un_iconst_0 ?_
  refine ug_istore_n [(1, .int 0), (0, .ref (ue_d E o))] dX4_touchingTwos_1 rfl (Nat.le_of_ble_eq_true rfl) rfl ?_
  refine ug_iconst dX4_touchingTwos_2 un_iconst_0 ?_
  refine ug_istore_n [(2, .int 0), (1, .int 0), (0, .ref (ue_d E o))] dX4_touchingTwos_3 rfl (Nat.le_of_ble_eq_true rfl) rfl ?_
  refine ug_sub [(0, .ref (ue_d E o)), (1, .int 0), (2, .int 0)] [2, 1, 0] rfl ?_
  exact t_X4_touchingTwos_b4 ho UF mem 0 0 _ h
theorem c_X4_touchingTwos {l : Launch} {E : Ue} {o : Nat} (ho : o = 23 ∨ o = 25) {mem : Um} {m1 : Um} {r : Int32} (h : f_X4_touchingTwos o mem  = some (m1, r)) : ucr l E 4 0 0 yX4_touchingTwos cX4_touchingTwos 3 (some .int) [.ref (ue_d E o)] mem (some (.int r)) m1 := ucr_of rfl (Nat.le_of_ble_eq_true rfl) (t_X4_touchingTwos ho mem  _ h)
