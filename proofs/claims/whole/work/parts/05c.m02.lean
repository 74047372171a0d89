-- X5_takeIf
def f_X5_takeIf (mem : Um) (x1 : Int32) : Option (Um × Int32) :=
  ubi (f_X5_peek mem) (fun m1 r2 => if r2 = x1 then (some ((um_w m1 1 3 ((m1 1 3) + 1)), 1)) else (some (m1, 0)))
set_option maxRecDepth 20000 in
theorem t_X5_takeIf {l : Launch} {E : Ue} (mem : Um) (x1 : Int32) (z : Um × Int32) (h : f_X5_takeIf  mem x1 = some z) : ug l E 3 0 0 cX5_takeIf 2 RX5 (some .boolean) [] (uz_i z) 0 0 0 [(0, .ref (ue_d E 1)), (1, .int x1)] [] mem := by
  rw [f_X5_takeIf] at h
  refine ug_aload_n 0 dX5_takeIf_0 rfl rfl ?_
  obtain ⟨m1, r2, h3, h⟩ := ubi_some h
  refine ug_callVi [] (c_X5_peek  h3) kc_X5_46 ro_1 rfl (S := []) rfl (Nat.le_of_ble_eq_true rfl) (Nat.le_of_ble_eq_true rfl) (Nat.le_of_ble_eq_true rfl) dX5_takeIf_1 ?_
  refine ug_iload_n 1 dX5_takeIf_4 rfl rfl ?_
  refine ug_icmp_eq 10 dX5_takeIf_5 (by decide) (fun q4 => ?_) (fun q4 => ?_)
  · rw [if_pos q4] at h
    refine ug_aload_n 0 dX5_takeIf_10 rfl rfl ?_
    refine ug_dup dX5_takeIf_11 rfl ?_
    refine ug_getI kf_X5_22 gi_1_3 dX5_takeIf_12 ?_
    refine ug_iconst dX5_takeIf_15 un_iconst_1 ?_
    refine ug_iadd dX5_takeIf_16 ?_
    refine ug_putI kp_X5_22 gi_1_3 dX5_takeIf_17 ?_
    refine ug_iconst dX5_takeIf_20 un_iconst_1 ?_
    obtain rfl := Option.some.inj h
    exact ug_zret (Or.inr rfl) dX5_takeIf_21
  · rw [if_neg q4] at h
    refine ug_iconst dX5_takeIf_8 un_iconst_0 ?_
    obtain rfl := Option.some.inj h
    exact ug_zret (Or.inl rfl) dX5_takeIf_9
theorem c_X5_takeIf {l : Launch} {E : Ue} {mem : Um} {x1 : Int32} {m1 : Um} {r : Int32} (h : f_X5_takeIf  mem x1 = some (m1, r)) : ucr l E 3 0 0 yX5_takeIf cX5_takeIf 2 (some .boolean) [.ref (ue_d E 1), .int x1] mem (some (.int r)) m1 := ucr_of rfl (Nat.le_of_ble_eq_true rfl) (t_X5_takeIf  mem x1 _ h)
-- X2_readProduct
def f_X2_readProduct_b66 (rec : Um → Int32 → Option (Um × Int32)) (k13 : Um → Int32 → Int32 → Option (Um × Int32)) (mem : Um) (x2 : Int32) (x3 : Int32) (y0 : Int32) : Option (Um × Int32) :=
  if y0 = (-1) then (some (mem, 1)) else (ubi (f_X2_readUnit rec mem x2) (fun m2 r3 => if r3 = 0 then (some (m2, 0)) else (ubi (f_X2_put m2 y0) (fun m6 r7 => k13 m6 x2 (x3 + 1)))))
set_option maxRecDepth 20000 in
theorem t_X2_readProduct_b66 {l : Launch} {E : Ue} {rec : Um → Int32 → Option (Um × Int32)} (kr : Nat) (hrec : ∀ (mem : Um) (x2 : Int32) (m1 : Um) (r : Int32), rec mem x2 = some (m1, r) → ucr l E kr 0 0 yX2_readSum cX2_readSum 5 (some .boolean) [.ref (ue_d E 13), .ref (ue_d E 1), .int x2] mem (some (.int r)) m1) (k13 : Um → Int32 → Int32 → Option (Um × Int32)) (hk13 : ∀ (mem : Um) (x2 : Int32) (x3 : Int32) (z : Um × Int32), k13 mem x2 x3 = some z → ug l E (kr + 9) 0 0 cX2_readProduct 5 RX2 (some .boolean) [] (uz_i z) 0 0 13 [(0, .ref (ue_d E 13)), (1, .ref (ue_d E 1)), (2, .int x2), (3, .int x3)] [] mem) (mem : Um) (x2 : Int32) (x3 : Int32) (y0 : Int32) (z : Um × Int32) (h : f_X2_readProduct_b66 rec k13 mem x2 x3 y0 = some z) : ug l E (kr + 9) 0 0 cX2_readProduct 5 RX2 (some .boolean) [] (uz_i z) 0 0 66 [(0, .ref (ue_d E 13)), (1, .ref (ue_d E 1)), (2, .int x2), (3, .int x3)] [.int y0] mem := by
  rw [f_X2_readProduct_b66] at h
  refine ug_istore [(4, .int y0), (0, .ref (ue_d E 13)), (1, .ref (ue_d E 1)), (2, .int x2), (3, .int x3)] dX2_readProduct_66 (Nat.le_of_ble_eq_true rfl) rfl ?_
  refine ug_iload 0 dX2_readProduct_68 rfl ?_
  refine ug_iconst dX2_readProduct_70 un_iconst_m1 ?_
  refine ug_icmp_ne 76 dX2_readProduct_71 (by decide) (fun q1 => ?_) (fun q1 => ?_)
  · rw [if_neg q1] at h
    refine ug_aload_n 1 dX2_readProduct_76 rfl rfl ?_
    refine ug_aload_n 2 dX2_readProduct_77 rfl rfl ?_
    refine ug_iload_n 3 dX2_readProduct_78 rfl rfl ?_
    obtain ⟨m2, r3, h4, h⟩ := ubi_some h
    refine ug_callVi [.ref (ue_d E 1), .int x2] (c_X2_readUnit kr hrec h4) kc_X2_85 ro_13 rfl (S := []) rfl (Nat.le_of_ble_eq_true rfl) (by omega) (Nat.le_of_ble_eq_true rfl) dX2_readProduct_79 ?_
    refine ug_if_ne 87 dX2_readProduct_82 (by decide) (fun q5 => ?_) (fun q5 => ?_)
    · rw [if_neg q5] at h
      refine ug_aload_n 1 dX2_readProduct_87 rfl rfl ?_
      refine ug_iload 0 dX2_readProduct_88 rfl ?_
      obtain ⟨m6, r7, h8, h⟩ := ubi_some h
      refine ug_callVi [.int y0] (c_X2_put  h8) kc_X2_82 ro_13 rfl (S := []) rfl (Nat.le_of_ble_eq_true rfl) (by omega) (Nat.le_of_ble_eq_true rfl) dX2_readProduct_90 ?_
      refine ug_pop dX2_readProduct_93 rfl ?_
      refine ug_iinc (v := (x3 + 1)) [(3, .int (x3 + 1)), (4, .int y0), (0, .ref (ue_d E 13)), (1, .ref (ue_d E 1)), (2, .int x2)] 4 dX2_readProduct_94 rfl rfl (Nat.le_of_ble_eq_true rfl) rfl ?_
      refine ug_goto 13 dX2_readProduct_97 (by decide) ?_
      refine ug_sub [(0, .ref (ue_d E 13)), (1, .ref (ue_d E 1)), (2, .int x2), (3, .int (x3 + 1))] [2, 3, 4, 0] rfl ?_
      exact hk13 m6 x2 (x3 + 1) _ h
    · rw [if_pos q5] at h
      refine ug_iconst dX2_readProduct_85 un_iconst_0 ?_
      obtain rfl := Option.some.inj h
      exact ug_zret (Or.inl rfl) dX2_readProduct_86
  · rw [if_pos q1] at h
    refine ug_iconst dX2_readProduct_74 un_iconst_1 ?_
    obtain rfl := Option.some.inj h
    exact ug_zret (Or.inr rfl) dX2_readProduct_75
def f_X2_readProduct_b13 (rec : Um → Int32 → Option (Um × Int32)) : Nat → Um → Int32 → Int32 → Option (Um × Int32)
  | 0, _, _, _ => none
  | n + 1, mem, x2, x3 =>
    if 150 ≤ x3 then (some (mem, 1)) else (ubi (f_X5_takeIf mem 42) (fun m2 r3 => if r3 = 0 then (ubi (f_X5_takeIf m2 47) (fun m6 r7 => if r7 = 0 then (ubi (f_X5_takeIf m6 37) (fun m10 r11 => if r11 = 0 then (f_X2_readProduct_b66 rec (f_X2_readProduct_b13 rec n) m10 x2 x3 (-1)) else (f_X2_readProduct_b66 rec (f_X2_readProduct_b13 rec n) m10 x2 x3 2004))) else (f_X2_readProduct_b66 rec (f_X2_readProduct_b13 rec n) m6 x2 x3 2003))) else (f_X2_readProduct_b66 rec (f_X2_readProduct_b13 rec n) m2 x2 x3 2002)))
set_option maxRecDepth 20000 in
theorem t_X2_readProduct_b13 {l : Launch} {E : Ue} {rec : Um → Int32 → Option (Um × Int32)} (kr : Nat) (hrec : ∀ (mem : Um) (x2 : Int32) (m1 : Um) (r : Int32), rec mem x2 = some (m1, r) → ucr l E kr 0 0 yX2_readSum cX2_readSum 5 (some .boolean) [.ref (ue_d E 13), .ref (ue_d E 1), .int x2] mem (some (.int r)) m1) : ∀ (n : Nat) (mem : Um) (x2 : Int32) (x3 : Int32) (z : Um × Int32), f_X2_readProduct_b13 rec n mem x2 x3 = some z → ug l E (kr + 9) 0 0 cX2_readProduct 5 RX2 (some .boolean) [] (uz_i z) 0 0 13 [(0, .ref (ue_d E 13)), (1, .ref (ue_d E 1)), (2, .int x2), (3, .int x3)] [] mem := by
  intro n
  induction n with
  | zero =>
    intro mem x2 x3 z h
    rw [f_X2_readProduct_b13] at h
    cases h
  | succ n ih =>
    intro mem x2 x3 z h
    rw [f_X2_readProduct_b13] at h
    refine ug_iload_n 3 dX2_readProduct_13 rfl rfl ?_
    refine ug_sipush dX2_readProduct_14 un_sipush_150 ?_
    refine ug_icmp_ge 100 dX2_readProduct_17 (by decide) (fun q1 => ?_) (fun q1 => ?_)
    · rw [if_pos q1] at h
      refine ug_iconst dX2_readProduct_100 un_iconst_1 ?_
      obtain rfl := Option.some.inj h
      exact ug_zret (Or.inr rfl) dX2_readProduct_101
    · rw [if_neg q1] at h
      refine ug_aload_n 1 dX2_readProduct_20 rfl rfl ?_
      refine ug_bipush dX2_readProduct_21 un_bipush_42 ?_
      obtain ⟨m2, r3, h4, h⟩ := ubi_some h
      refine ug_callVi [.int 42] (c_X5_takeIf  h4) kc_X2_79 ro_1 rfl (S := []) rfl (Nat.le_of_ble_eq_true rfl) (by omega) (Nat.le_of_ble_eq_true rfl) dX2_readProduct_23 ?_
      refine ug_if_eq 35 dX2_readProduct_26 (by decide) (fun q5 => ?_) (fun q5 => ?_)
      · rw [if_pos q5] at h
        refine ug_aload_n 1 dX2_readProduct_35 rfl rfl ?_
        refine ug_bipush dX2_readProduct_36 un_bipush_47 ?_
        obtain ⟨m6, r7, h8, h⟩ := ubi_some h
        refine ug_callVi [.int 47] (c_X5_takeIf  h8) kc_X2_79 ro_1 rfl (S := []) rfl (Nat.le_of_ble_eq_true rfl) (by omega) (Nat.le_of_ble_eq_true rfl) dX2_readProduct_38 ?_
        refine ug_if_eq 50 dX2_readProduct_41 (by decide) (fun q9 => ?_) (fun q9 => ?_)
        · rw [if_pos q9] at h
          refine ug_aload_n 1 dX2_readProduct_50 rfl rfl ?_
          refine ug_bipush dX2_readProduct_51 un_bipush_37 ?_
          obtain ⟨m10, r11, h12, h⟩ := ubi_some h
          refine ug_callVi [.int 37] (c_X5_takeIf  h12) kc_X2_79 ro_1 rfl (S := []) rfl (Nat.le_of_ble_eq_true rfl) (by omega) (Nat.le_of_ble_eq_true rfl) dX2_readProduct_53 ?_
          refine ug_if_eq 65 dX2_readProduct_56 (by decide) (fun q13 => ?_) (fun q13 => ?_)
          · rw [if_pos q13] at h
            refine ug_iconst dX2_readProduct_65 un_iconst_m1 ?_
            exact t_X2_readProduct_b66 kr hrec (f_X2_readProduct_b13 rec n) ih m10 x2 x3 (-1) _ h
          · rw [if_neg q13] at h
            refine ug_sipush dX2_readProduct_59 un_sipush_2004 ?_
            refine ug_goto 66 dX2_readProduct_62 (by decide) ?_
            exact t_X2_readProduct_b66 kr hrec (f_X2_readProduct_b13 rec n) ih m10 x2 x3 2004 _ h
        · rw [if_neg q9] at h
          refine ug_sipush dX2_readProduct_44 un_sipush_2003 ?_
          refine ug_goto 66 dX2_readProduct_47 (by decide) ?_
          exact t_X2_readProduct_b66 kr hrec (f_X2_readProduct_b13 rec n) ih m6 x2 x3 2003 _ h
      · rw [if_neg q5] at h
        refine ug_sipush dX2_readProduct_29 un_sipush_2002 ?_
        refine ug_goto 66 dX2_readProduct_32 (by decide) ?_
        exact t_X2_readProduct_b66 kr hrec (f_X2_readProduct_b13 rec n) ih m2 x2 x3 2002 _ h
def f_X2_readProduct (rec : Um → Int32 → Option (Um × Int32)) (mem : Um) (x2 : Int32) : Option (Um × Int32) :=
  ubi (f_X2_readUnit rec mem x2) (fun m1 r2 => if r2 = 0 then (some (m1, 0)) else (f_X2_readProduct_b13 rec UF m1 x2 0))
set_option maxRecDepth 20000 in
theorem t_X2_readProduct {l : Launch} {E : Ue} {rec : Um → Int32 → Option (Um × Int32)} (kr : Nat) (hrec : ∀ (mem : Um) (x2 : Int32) (m1 : Um) (r : Int32), rec mem x2 = some (m1, r) → ucr l E kr 0 0 yX2_readSum cX2_readSum 5 (some .boolean) [.ref (ue_d E 13), .ref (ue_d E 1), .int x2] mem (some (.int r)) m1) (mem : Um) (x2 : Int32) (z : Um × Int32) (h : f_X2_readProduct rec mem x2 = some z) : ug l E (kr + 9) 0 0 cX2_readProduct 5 RX2 (some .boolean) [] (uz_i z) 0 0 0 [(0, .ref (ue_d E 13)), (1, .ref (ue_d E 1)), (2, .int x2)] [] mem := by
  rw [f_X2_readProduct] at h
  refine ug_aload_n 0 dX2_readProduct_0 rfl rfl ?_
  refine ug_aload_n 1 dX2_readProduct_1 rfl rfl ?_
  refine ug_iload_n 2 dX2_readProduct_2 rfl rfl ?_
  obtain ⟨m1, r2, h3, h⟩ := ubi_some h
  refine ug_callVi [.ref (ue_d E 1), .int x2] (c_X2_readUnit kr hrec h3) kc_X2_85 ro_13 rfl (S := []) rfl (Nat.le_of_ble_eq_true rfl) (by omega) (Nat.le_of_ble_eq_true rfl) dX2_readProduct_3 ?_
  refine ug_if_ne 11 dX2_readProduct_6 (by decide) (fun q4 => ?_) (fun q4 => ?_)
  · rw [if_neg q4] at h
    refine ug_iconst dX2_readProduct_11 un_iconst_0 ?_
    refine ug_istore_n [(3, .int 0), (0, .ref (ue_d E 13)), (1, .ref (ue_d E 1)), (2, .int x2)] dX2_readProduct_12 rfl (Nat.le_of_ble_eq_true rfl) rfl ?_
    refine ug_sub [(0, .ref (ue_d E 13)), (1, .ref (ue_d E 1)), (2, .int x2), (3, .int 0)] [1, 2, 3, 0] rfl ?_
    exact t_X2_readProduct_b13 kr hrec UF m1 x2 0 _ h
  · rw [if_pos q4] at h
    refine ug_iconst dX2_readProduct_9 un_iconst_0 ?_
    obtain rfl := Option.some.inj h
    exact ug_zret (Or.inl rfl) dX2_readProduct_10
theorem c_X2_readProduct {l : Launch} {E : Ue} {rec : Um → Int32 → Option (Um × Int32)} (kr : Nat) (hrec : ∀ (mem : Um) (x2 : Int32) (m1 : Um) (r : Int32), rec mem x2 = some (m1, r) → ucr l E kr 0 0 yX2_readSum cX2_readSum 5 (some .boolean) [.ref (ue_d E 13), .ref (ue_d E 1), .int x2] mem (some (.int r)) m1) {mem : Um} {x2 : Int32} {m1 : Um} {r : Int32} (h : f_X2_readProduct rec mem x2 = some (m1, r)) : ucr l E (kr + 9) 0 0 yX2_readProduct cX2_readProduct 5 (some .boolean) [.ref (ue_d E 13), .ref (ue_d E 1), .int x2] mem (some (.int r)) m1 := ucr_of rfl (Nat.le_of_ble_eq_true rfl) (t_X2_readProduct kr hrec mem x2 _ h)
-- X2_readSum
def f_X2_readSum_b51 (rec : Um → Int32 → Option (Um × Int32)) (k13 : Um → Int32 → Int32 → Option (Um × Int32)) (mem : Um) (x2 : Int32) (x3 : Int32) (y0 : Int32) : Option (Um × Int32) :=
  if y0 = (-1) then (some (mem, 1)) else (ubi (f_X2_readProduct rec mem x2) (fun m2 r3 => if r3 = 0 then (some (m2, 0)) else (ubi (f_X2_put m2 y0) (fun m6 r7 => k13 m6 x2 (x3 + 1)))))
set_option maxRecDepth 20000 in
theorem t_X2_readSum_b51 {l : Launch} {E : Ue} {rec : Um → Int32 → Option (Um × Int32)} (kr : Nat) (hrec : ∀ (mem : Um) (x2 : Int32) (m1 : Um) (r : Int32), rec mem x2 = some (m1, r) → ucr l E kr 0 0 yX2_readSum cX2_readSum 5 (some .boolean) [.ref (ue_d E 13), .ref (ue_d E 1), .int x2] mem (some (.int r)) m1) (k13 : Um → Int32 → Int32 → Option (Um × Int32)) (hk13 : ∀ (mem : Um) (x2 : Int32) (x3 : Int32) (z : Um × Int32), k13 mem x2 x3 = some z → ug l E (kr + 10) 0 0 cX2_readSum 5 RX2 (some .boolean) [] (uz_i z) 0 0 13 [(0, .ref (ue_d E 13)), (1, .ref (ue_d E 1)), (2, .int x2), (3, .int x3)] [] mem) (mem : Um) (x2 : Int32) (x3 : Int32) (y0 : Int32) (z : Um × Int32) (h : f_X2_readSum_b51 rec k13 mem x2 x3 y0 = some z) : ug l E (kr + 10) 0 0 cX2_readSum 5 RX2 (some .boolean) [] (uz_i z) 0 0 51 [(0, .ref (ue_d E 13)), (1, .ref (ue_d E 1)), (2, .int x2), (3, .int x3)] [.int y0] mem := by
  rw [f_X2_readSum_b51] at h
  refine ug_istore [(4, .int y0), (0, .ref (ue_d E 13)), (1, .ref (ue_d E 1)), (2, .int x2), (3, .int x3)] dX2_readSum_51 (Nat.le_of_ble_eq_true rfl) rfl ?_
  refine ug_iload 0 dX2_readSum_53 rfl ?_
  refine ug_iconst dX2_readSum_55 un_iconst_m1 ?_
  refine ug_icmp_ne 61 dX2_readSum_56 (by decide) (fun q1 => ?_) (fun q1 => ?_)
  · rw [if_neg q1] at h
    refine ug_aload_n 1 dX2_readSum_61 rfl rfl ?_
    refine ug_aload_n 2 dX2_readSum_62 rfl rfl ?_
    refine ug_iload_n 3 dX2_readSum_63 rfl rfl ?_
    obtain ⟨m2, r3, h4, h⟩ := ubi_some h
    refine ug_callVi [.ref (ue_d E 1), .int x2] (c_X2_readProduct kr hrec h4) kc_X2_76 ro_13 rfl (S := []) rfl (Nat.le_of_ble_eq_true rfl) (by omega) (Nat.le_of_ble_eq_true rfl) dX2_readSum_64 ?_
    refine ug_if_ne 72 dX2_readSum_67 (by decide) (fun q5 => ?_) (fun q5 => ?_)
    · rw [if_neg q5] at h
      refine ug_aload_n 1 dX2_readSum_72 rfl rfl ?_
      refine ug_iload 0 dX2_readSum_73 rfl ?_
      obtain ⟨m6, r7, h8, h⟩ := ubi_some h
      refine ug_callVi [.int y0] (c_X2_put  h8) kc_X2_82 ro_13 rfl (S := []) rfl (Nat.le_of_ble_eq_true rfl) (by omega) (Nat.le_of_ble_eq_true rfl) dX2_readSum_75 ?_
      refine ug_pop dX2_readSum_78 rfl ?_
      refine ug_iinc (v := (x3 + 1)) [(3, .int (x3 + 1)), (4, .int y0), (0, .ref (ue_d E 13)), (1, .ref (ue_d E 1)), (2, .int x2)] 4 dX2_readSum_79 rfl rfl (Nat.le_of_ble_eq_true rfl) rfl ?_
      refine ug_goto 13 dX2_readSum_82 (by decide) ?_
      refine ug_sub [(0, .ref (ue_d E 13)), (1, .ref (ue_d E 1)), (2, .int x2), (3, .int (x3 + 1))] [2, 3, 4, 0] rfl ?_
      exact hk13 m6 x2 (x3 + 1) _ h
    · rw [if_pos q5] at h
      refine ug_iconst dX2_readSum_70 un_iconst_0 ?_
      obtain rfl := Option.some.inj h
      exact ug_zret (Or.inl rfl) dX2_readSum_71
  · rw [if_pos q1] at h
    refine ug_iconst dX2_readSum_59 un_iconst_1 ?_
    obtain rfl := Option.some.inj h
    exact ug_zret (Or.inr rfl) dX2_readSum_60
def f_X2_readSum_b13 (rec : Um → Int32 → Option (Um × Int32)) : Nat → Um → Int32 → Int32 → Option (Um × Int32)
  | 0, _, _, _ => none
  | n + 1, mem, x2, x3 =>
    if 150 ≤ x3 then (some (mem, 1)) else (ubi (f_X5_takeIf mem 43) (fun m2 r3 => if r3 = 0 then (ubi (f_X5_takeIf m2 45) (fun m6 r7 => if r7 = 0 then (f_X2_readSum_b51 rec (f_X2_readSum_b13 rec n) m6 x2 x3 (-1)) else (f_X2_readSum_b51 rec (f_X2_readSum_b13 rec n) m6 x2 x3 2001))) else (f_X2_readSum_b51 rec (f_X2_readSum_b13 rec n) m2 x2 x3 2000)))
set_option maxRecDepth 20000 in
theorem t_X2_readSum_b13 {l : Launch} {E : Ue} {rec : Um → Int32 → Option (Um × Int32)} (kr : Nat) (hrec : ∀ (mem : Um) (x2 : Int32) (m1 : Um) (r : Int32), rec mem x2 = some (m1, r) → ucr l E kr 0 0 yX2_readSum cX2_readSum 5 (some .boolean) [.ref (ue_d E 13), .ref (ue_d E 1), .int x2] mem (some (.int r)) m1) : ∀ (n : Nat) (mem : Um) (x2 : Int32) (x3 : Int32) (z : Um × Int32), f_X2_readSum_b13 rec n mem x2 x3 = some z → ug l E (kr + 10) 0 0 cX2_readSum 5 RX2 (some .boolean) [] (uz_i z) 0 0 13 [(0, .ref (ue_d E 13)), (1, .ref (ue_d E 1)), (2, .int x2), (3, .int x3)] [] mem := by
  intro n
  induction n with
  | zero =>
    intro mem x2 x3 z h
    rw [f_X2_readSum_b13] at h
    cases h
  | succ n ih =>
    intro mem x2 x3 z h
    rw [f_X2_readSum_b13] at h
    refine ug_iload_n 3 dX2_readSum_13 rfl rfl ?_
    refine ug_sipush dX2_readSum_14 un_sipush_150 ?_
    refine ug_icmp_ge 85 dX2_readSum_17 (by decide) (fun q1 => ?_) (fun q1 => ?_)
    · rw [if_pos q1] at h
      refine ug_iconst dX2_readSum_85 un_iconst_1 ?_
      obtain rfl := Option.some.inj h
      exact ug_zret (Or.inr rfl) dX2_readSum_86
    · rw [if_neg q1] at h
      refine ug_aload_n 1 dX2_readSum_20 rfl rfl ?_
      refine ug_bipush dX2_readSum_21 un_bipush_43 ?_
      obtain ⟨m2, r3, h4, h⟩ := ubi_some h
      refine ug_callVi [.int 43] (c_X5_takeIf  h4) kc_X2_79 ro_1 rfl (S := []) rfl (Nat.le_of_ble_eq_true rfl) (by omega) (Nat.le_of_ble_eq_true rfl) dX2_readSum_23 ?_
      refine ug_if_eq 35 dX2_readSum_26 (by decide) (fun q5 => ?_) (fun q5 => ?_)
      · rw [if_pos q5] at h
        refine ug_aload_n 1 dX2_readSum_35 rfl rfl ?_
        refine ug_bipush dX2_readSum_36 un_bipush_45 ?_
        obtain ⟨m6, r7, h8, h⟩ := ubi_some h
        refine ug_callVi [.int 45] (c_X5_takeIf  h8) kc_X2_79 ro_1 rfl (S := []) rfl (Nat.le_of_ble_eq_true rfl) (by omega) (Nat.le_of_ble_eq_true rfl) dX2_readSum_38 ?_
        refine ug_if_eq 50 dX2_readSum_41 (by decide) (fun q9 => ?_) (fun q9 => ?_)
        · rw [if_pos q9] at h
          refine ug_iconst dX2_readSum_50 un_iconst_m1 ?_
          exact t_X2_readSum_b51 kr hrec (f_X2_readSum_b13 rec n) ih m6 x2 x3 (-1) _ h
        · rw [if_neg q9] at h
          refine ug_sipush dX2_readSum_44 un_sipush_2001 ?_
          refine ug_goto 51 dX2_readSum_47 (by decide) ?_
          exact t_X2_readSum_b51 kr hrec (f_X2_readSum_b13 rec n) ih m6 x2 x3 2001 _ h
      · rw [if_neg q5] at h
        refine ug_sipush dX2_readSum_29 un_sipush_2000 ?_
        refine ug_goto 51 dX2_readSum_32 (by decide) ?_
        exact t_X2_readSum_b51 kr hrec (f_X2_readSum_b13 rec n) ih m2 x2 x3 2000 _ h
def f_X2_readSum_e (rec : Um → Int32 → Option (Um × Int32)) (mem : Um) (x2 : Int32) : Option (Um × Int32) :=
  ubi (f_X2_readProduct rec mem x2) (fun m1 r2 => if r2 = 0 then (some (m1, 0)) else (f_X2_readSum_b13 rec UF m1 x2 0))
set_option maxRecDepth 20000 in
theorem t_X2_readSum {l : Launch} {E : Ue} {rec : Um → Int32 → Option (Um × Int32)} (kr : Nat) (hrec : ∀ (mem : Um) (x2 : Int32) (m1 : Um) (r : Int32), rec mem x2 = some (m1, r) → ucr l E kr 0 0 yX2_readSum cX2_readSum 5 (some .boolean) [.ref (ue_d E 13), .ref (ue_d E 1), .int x2] mem (some (.int r)) m1) (mem : Um) (x2 : Int32) (z : Um × Int32) (h : f_X2_readSum_e rec mem x2 = some z) : ug l E (kr + 10) 0 0 cX2_readSum 5 RX2 (some .boolean) [] (uz_i z) 0 0 0 [(0, .ref (ue_d E 13)), (1, .ref (ue_d E 1)), (2, .int x2)] [] mem := by
  rw [f_X2_readSum_e] at h
  refine ug_aload_n 0 dX2_readSum_0 rfl rfl ?_
  refine ug_aload_n 1 dX2_readSum_1 rfl rfl ?_
  refine ug_iload_n 2 dX2_readSum_2 rfl rfl ?_
  obtain ⟨m1, r2, h3, h⟩ := ubi_some h
  refine ug_callVi [.ref (ue_d E 1), .int x2] (c_X2_readProduct kr hrec h3) kc_X2_76 ro_13 rfl (S := []) rfl (Nat.le_of_ble_eq_true rfl) (by omega) (Nat.le_of_ble_eq_true rfl) dX2_readSum_3 ?_
  refine ug_if_ne 11 dX2_readSum_6 (by decide) (fun q4 => ?_) (fun q4 => ?_)
  · rw [if_neg q4] at h
    refine ug_iconst dX2_readSum_11 un_iconst_0 ?_
    refine ug_istore_n [(3, .int 0), (0, .ref (ue_d E 13)), (1, .ref (ue_d E 1)), (2, .int x2)] dX2_readSum_12 rfl (Nat.le_of_ble_eq_true rfl) rfl ?_
    refine ug_sub [(0, .ref (ue_d E 13)), (1, .ref (ue_d E 1)), (2, .int x2), (3, .int 0)] [1, 2, 3, 0] rfl ?_
    exact t_X2_readSum_b13 kr hrec UF m1 x2 0 _ h
  · rw [if_pos q4] at h
    refine ug_iconst dX2_readSum_9 un_iconst_0 ?_
    obtain rfl := Option.some.inj h
    exact ug_zret (Or.inl rfl) dX2_readSum_10
def f_X2_readSum : Nat → Um → Int32 → Option (Um × Int32)
  | 0, _, _ => none
  | d + 1, mem, x2 => f_X2_readSum_e (f_X2_readSum d) mem x2
theorem c_X2_readSum_d {l : Launch} {E : Ue} : ∀ (d : Nat) (mem : Um) (x2 : Int32) (m1 : Um) (r : Int32), f_X2_readSum d mem x2 = some (m1, r) → ucr l E (10 * d) 0 0 yX2_readSum cX2_readSum 5 (some .boolean) [.ref (ue_d E 13), .ref (ue_d E 1), .int x2] mem (some (.int r)) m1
  | 0, _, _, _, _, h => by
    rw [f_X2_readSum] at h
    cases h
  | d + 1, mem, x2, m1, r, h => by
    rw [f_X2_readSum] at h
    exact ucr_of rfl (Nat.le_of_ble_eq_true rfl) (t_X2_readSum (10 * d) (fun mem x2 m1 r q => c_X2_readSum_d d mem x2 m1 r q) mem x2 _ h)
theorem c_X2_readSum {l : Launch} {E : Ue} (d : Nat) {mem : Um} {x2 : Int32} {m1 : Um} {r : Int32} (h : f_X2_readSum d mem x2 = some (m1, r)) : ucr l E (10 * d) 0 0 yX2_readSum cX2_readSum 5 (some .boolean) [.ref (ue_d E 13), .ref (ue_d E 1), .int x2] mem (some (.int r)) m1 := c_X2_readSum_d d mem x2 m1 r h
-- X2_read
def f_X2_read (mem : Um) : Option (Um × Int32) :=
  ubi (f_X2_readSum UD (um_w mem 13 3 0) 0) (fun m1 r2 => if r2 = 0 then (some (m1, 0)) else (ubi (f_X5_hasMore m1) (fun m5 r6 => if r6 = 0 then (ubi (f_X2_takeDraft m5) (fun m9 r10 => some (m9, 1))) else (ubi (f_X5_failHere m5 1) (fun m12 r13 => ugd (ub01 r13) (some (m12, r13)))))))
set_option maxRecDepth 20000 in
theorem t_X2_read {l : Launch} {E : Ue} (mem : Um) (z : Um × Int32) (h : f_X2_read  mem  = some z) : ug l E 161 0 0 cX2_read 2 RX2 (some .boolean) [] (uz_i z) 0 0 0 [(0, .ref (ue_d E 13)), (1, .ref (ue_d E 1))] [] mem := by
  rw [f_X2_read] at h
  refine ug_aload_n 0 dX2_read_0 rfl rfl ?_
  refine ug_iconst dX2_read_1 un_iconst_0 ?_
  refine ug_putI kp_X2_22 gi_13_3 dX2_read_2 ?_
  refine ug_aload_n 0 dX2_read_5 rfl rfl ?_
  refine ug_aload_n 1 dX2_read_6 rfl rfl ?_
  refine ug_iconst dX2_read_7 un_iconst_0 ?_
  obtain ⟨m1, r2, h3, h⟩ := ubi_some h
  refine ug_callVi [.ref (ue_d E 1), .int 0] (c_X2_readSum UD h3) kc_X2_62 ro_13 rfl (S := []) rfl (Nat.le_of_ble_eq_true rfl) (Nat.le_of_ble_eq_true rfl) (Nat.le_of_ble_eq_true rfl) dX2_read_8 ?_
  refine ug_if_ne 16 dX2_read_11 (by decide) (fun q4 => ?_) (fun q4 => ?_)
  · rw [if_neg q4] at h
    refine ug_aload_n 1 dX2_read_16 rfl rfl ?_
    obtain ⟨m5, r6, h7, h⟩ := ubi_some h
    refine ug_callVi [] (c_X5_hasMore  h7) kc_X2_66 ro_1 rfl (S := []) rfl (Nat.le_of_ble_eq_true rfl) (Nat.le_of_ble_eq_true rfl) (Nat.le_of_ble_eq_true rfl) dX2_read_17 ?_
    refine ug_if_eq 29 dX2_read_20 (by decide) (fun q8 => ?_) (fun q8 => ?_)
    · rw [if_pos q8] at h
      refine ug_aload_n 0 dX2_read_29 rfl rfl ?_
      obtain ⟨m9, r10, h11, h⟩ := ubi_some h
      refine ug_callVv [] (c_X2_takeDraft  h11) kc_X2_46 ro_13 rfl (S := []) rfl (Nat.le_of_ble_eq_true rfl) (Nat.le_of_ble_eq_true rfl) (Nat.le_of_ble_eq_true rfl) dX2_read_30 ?_
      refine ug_iconst dX2_read_33 un_iconst_1 ?_
      obtain rfl := Option.some.inj h
      exact ug_zret (Or.inr rfl) dX2_read_34
    · rw [if_neg q8] at h
      refine ug_aload_n 1 dX2_read_23 rfl rfl ?_
      refine ug_iconst dX2_read_24 un_iconst_1 ?_
      obtain ⟨m12, r13, h14, h⟩ := ubi_some h
      refine ug_callVi [.int 1] (c_X5_failHere  h14) kc_X2_72 ro_1 rfl (S := []) rfl (Nat.le_of_ble_eq_true rfl) (Nat.le_of_ble_eq_true rfl) (Nat.le_of_ble_eq_true rfl) dX2_read_25 ?_
      obtain ⟨g15, h⟩ := ugd_some h
      obtain rfl := Option.some.inj h
      exact ug_zret (of_decide_eq_true g15) dX2_read_28
  · rw [if_pos q4] at h
    refine ug_iconst dX2_read_14 un_iconst_0 ?_
    obtain rfl := Option.some.inj h
    exact ug_zret (Or.inl rfl) dX2_read_15
theorem c_X2_read {l : Launch} {E : Ue} {mem : Um} {m1 : Um} {r : Int32} (h : f_X2_read  mem  = some (m1, r)) : ucr l E 161 0 0 yX2_read cX2_read 2 (some .boolean) [.ref (ue_d E 13), .ref (ue_d E 1)] mem (some (.int r)) m1 := ucr_of rfl (Nat.le_of_ble_eq_true rfl) (t_X2_read  mem  _ h)
-- X7_law
def f_X7_law_b52 (mem : Um) (y0 : Int32) : Option (Um × (Int32 ⊕ String)) :=
  some (mem, .inl y0)
set_option maxRecDepth 20000 in
theorem t_X7_law_b52 {l : Launch} {E : Ue} (mem : Um) (y0 : Int32) (z : Um × (Int32 ⊕ String)) (h : f_X7_law_b52  mem y0 = some z) : ug l E 162 (uzc z) (uzs z) cX7_law 2 RX7 (some .int) [] (uzx_i z) 0 0 52 [] [.int y0] mem := by
  rw [f_X7_law_b52] at h
  obtain rfl := Option.some.inj h
  exact ug_iret dX7_law_52
def f_X7_law (mem : Um) (x1 : Int32) : Option (Um × (Int32 ⊕ String)) :=
  ubx (f_X7_need mem x1 0 (ummin 150 (mem 1 1))) (fun m1 r2 => ubi (f_X5_begin m1 x1) (fun m5 r6 => ubi (f_X2_read m5) (fun m8 r9 => if r9 = 0 then (ubi (f_X5_faultAnswer m8) (fun m12 r13 => f_X7_law_b52 m12 r13)) else (f_X7_law_b52 m8 1))))
set_option maxRecDepth 20000 in
theorem t_X7_law {l : Launch} {E : Ue} (mem : Um) (x1 : Int32) (z : Um × (Int32 ⊕ String)) (h : f_X7_law  mem x1 = some z) : ug l E 162 (uzc z) (uzs z) cX7_law 2 RX7 (some .int) [] (uzx_i z) 0 0 0 [(0, .ref (ue_d E 0)), (1, .int x1)] [] mem := by
  rw [f_X7_law] at h
  refine ug_aload_n 0 dX7_law_0 rfl rfl ?_
  refine ug_iload_n 1 dX7_law_1 rfl rfl ?_
  refine ug_iconst dX7_law_2 un_iconst_0 ?_
  refine ug_sipush dX7_law_3 un_sipush_150 ?_
  refine ug_aload_n 0 dX7_law_6 rfl rfl ?_
  refine ug_getR kf_X7_12 gr_0_0 dX7_law_7 ?_
  refine ug_getI kf_X7_95 gi_1_1 dX7_law_10 ?_
  refine ug_mmin kl_X7_134 (Nat.le_of_ble_eq_true rfl) (Nat.le_of_ble_eq_true rfl) dX7_law_13 ?_
  rcases ubx_some h with ⟨m1, r2, h3, h⟩ | ⟨m1, X4, h3, rfl⟩
  · refine ug_callVv [.int x1, .int 0, .int (ummin 150 (mem 1 1))] (c_X7_need_r  h3) kc_X7_102 ro_0 rfl (S := []) rfl (Nat.le_of_ble_eq_true rfl) (Nat.le_of_ble_eq_true rfl) (Nat.le_of_ble_eq_true rfl) dX7_law_16 ?_
    refine ug_aload_n 0 dX7_law_19 rfl rfl ?_
    refine ug_getR kf_X7_12 gr_0_0 dX7_law_20 ?_
    refine ug_iload_n 1 dX7_law_23 rfl rfl ?_
    obtain ⟨m5, r6, h7, h⟩ := ubi_some h
    refine ug_callVv [.int x1] (c_X5_begin  h7) kc_X7_106 ro_1 rfl (S := []) rfl (Nat.le_of_ble_eq_true rfl) (Nat.le_of_ble_eq_true rfl) (Nat.le_of_ble_eq_true rfl) dX7_law_24 ?_
    refine ug_aload_n 0 dX7_law_27 rfl rfl ?_
    refine ug_getR kf_X7_31 gr_0_3 dX7_law_28 ?_
    refine ug_aload_n 0 dX7_law_31 rfl rfl ?_
    refine ug_getR kf_X7_12 gr_0_0 dX7_law_32 ?_
    obtain ⟨m8, r9, h10, h⟩ := ubi_some h
    refine ug_callVi [.ref (ue_d E 1)] (c_X2_read  h10) kc_X7_140 ro_13 rfl (S := []) rfl (Nat.le_of_ble_eq_true rfl) (Nat.le_of_ble_eq_true rfl) (Nat.le_of_ble_eq_true rfl) dX7_law_35 ?_
    refine ug_if_eq 45 dX7_law_38 (by decide) (fun q11 => ?_) (fun q11 => ?_)
    · rw [if_pos q11] at h
      refine ug_aload_n 0 dX7_law_45 rfl rfl ?_
      refine ug_getR kf_X7_12 gr_0_0 dX7_law_46 ?_
      obtain ⟨m12, r13, h14, h⟩ := ubi_some h
      refine ug_callVi [] (c_X5_faultAnswer  h14) kc_X7_113 ro_1 rfl (S := []) rfl (Nat.le_of_ble_eq_true rfl) (Nat.le_of_ble_eq_true rfl) (Nat.le_of_ble_eq_true rfl) dX7_law_49 ?_
      refine ug_sub [] [] rfl ?_
      exact t_X7_law_b52 m12 r13 _ h
    · rw [if_neg q11] at h
      refine ug_iconst dX7_law_41 un_iconst_1 ?_
      refine ug_goto 52 dX7_law_42 (by decide) ?_
      refine ug_sub [] [] rfl ?_
      exact t_X7_law_b52 m8 1 _ h
  · exact ug_callVx [.int x1, .int 0, .int (ummin 150 (mem 1 1))] (c_X7_need_x  h3) kc_X7_102 ro_0 rfl (S := []) rfl (Nat.le_of_ble_eq_true rfl) (Nat.le_of_ble_eq_true rfl) (Nat.le_of_ble_eq_true rfl) ⟨Nat.le_refl 1, Nat.le_refl 6⟩ dX7_law_16
theorem c_X7_law_r {l : Launch} {E : Ue} {mem : Um} {x1 : Int32} {m1 : Um} {r : Int32} (h : f_X7_law  mem x1 = some (m1, .inl r)) : ucr l E 162 0 0 yX7_law cX7_law 2 (some .int) [.ref (ue_d E 0), .int x1] mem (some (.int r)) m1 := ucr_of rfl (Nat.le_of_ble_eq_true rfl) (t_X7_law  mem x1 _ h)
theorem c_X7_law_x {l : Launch} {E : Ue} {mem : Um} {x1 : Int32} {m1 : Um} {X : String} (h : f_X7_law  mem x1 = some (m1, .inr X)) : ucx l E 162 1 6 yX7_law cX7_law 2 (some .int) [.ref (ue_d E 0), .int x1] mem X m1 := ucx_of rfl (Nat.le_of_ble_eq_true rfl) (t_X7_law  mem x1 _ h)
-- X6_stepWord
def f_X6_stepWord_b93 (mem : Um) (y0 : Int32) : Option (Um × Int32) :=
  some (mem, y0)
set_option maxRecDepth 20000 in
theorem t_X6_stepWord_b93 {l : Launch} {E : Ue} (mem : Um) (y0 : Int32) (z : Um × Int32) (h : f_X6_stepWord_b93  mem y0 = some z) : ug l E 7 0 0 cX6_stepWord 1 RX6 (some .int) [] (uz_i z) 0 0 93 [] [.int y0] mem := by
  rw [f_X6_stepWord_b93] at h
  obtain rfl := Option.some.inj h
  exact ug_iret dX6_stepWord_93
def f_X6_stepWord (mem : Um) : Option (Um × Int32) :=
  ubi (f_X5_wordIs 11 mem) (fun m1 r2 => if r2 = 0 then (ubi (f_X5_wordIs 12 m1) (fun m5 r6 => if r6 = 0 then (ubi (f_X5_wordIs 13 m5) (fun m9 r10 => if r10 = 0 then (ubi (f_X5_wordIs 14 m9) (fun m13 r14 => if r14 = 0 then (ubi (f_X5_wordIs 15 m13) (fun m17 r18 => if r18 = 0 then (ubi (f_X5_wordIs 16 m17) (fun m21 r22 => if r22 = 0 then (ubi (f_X5_wordIs 9 m21) (fun m25 r26 => if r26 = 0 then (ubi (f_X5_wordIs 17 m25) (fun m29 r30 => if r30 = 0 then (f_X6_stepWord_b93 m29 (-1)) else (f_X6_stepWord_b93 m29 7))) else (some (m25, 6)))) else (some (m21, 5)))) else (some (m17, 4)))) else (some (m13, 3)))) else (some (m9, 2)))) else (some (m5, 1)))) else (some (m1, 0)))
set_option maxRecDepth 20000 in
theorem t_X6_stepWord {l : Launch} {E : Ue} (mem : Um) (z : Um × Int32) (h : f_X6_stepWord  mem  = some z) : ug l E 7 0 0 cX6_stepWord 1 RX6 (some .int) [] (uz_i z) 0 0 0 [(0, .ref (ue_d E 1))] [] mem := by
  rw [f_X6_stepWord] at h
  refine ug_aload_n 0 dX6_stepWord_0 rfl rfl ?_
  refine ug_ldcS 13 (tx := "blow") (n := 11) rfl dX6_stepWord_1 ?_
  obtain ⟨m1, r2, h3, h⟩ := ubi_some h
  refine ug_callVi [.ref (ue_aK E 11)] (c_X5_wordIs (by decide) h3) kc_X6_81 ro_1 rfl (S := []) rfl (Nat.le_of_ble_eq_true rfl) (Nat.le_of_ble_eq_true rfl) (Nat.le_of_ble_eq_true rfl) dX6_stepWord_3 ?_
  refine ug_if_eq 11 dX6_stepWord_6 (by decide) (fun q4 => ?_) (fun q4 => ?_)
  · rw [if_pos q4] at h
    refine ug_aload_n 0 dX6_stepWord_11 rfl rfl ?_
    refine ug_ldcS 14 (tx := "east") (n := 12) rfl dX6_stepWord_12 ?_
    obtain ⟨m5, r6, h7, h⟩ := ubi_some h
    refine ug_callVi [.ref (ue_aK E 12)] (c_X5_wordIs (by decide) h7) kc_X6_81 ro_1 rfl (S := []) rfl (Nat.le_of_ble_eq_true rfl) (Nat.le_of_ble_eq_true rfl) (Nat.le_of_ble_eq_true rfl) dX6_stepWord_14 ?_
    refine ug_if_eq 22 dX6_stepWord_17 (by decide) (fun q8 => ?_) (fun q8 => ?_)
    · rw [if_pos q8] at h
      refine ug_aload_n 0 dX6_stepWord_22 rfl rfl ?_
      refine ug_ldcS 15 (tx := "west") (n := 13) rfl dX6_stepWord_23 ?_
      obtain ⟨m9, r10, h11, h⟩ := ubi_some h
      refine ug_callVi [.ref (ue_aK E 13)] (c_X5_wordIs (by decide) h11) kc_X6_81 ro_1 rfl (S := []) rfl (Nat.le_of_ble_eq_true rfl) (Nat.le_of_ble_eq_true rfl) (Nat.le_of_ble_eq_true rfl) dX6_stepWord_25 ?_
      refine ug_if_eq 33 dX6_stepWord_28 (by decide) (fun q12 => ?_) (fun q12 => ?_)
      · rw [if_pos q12] at h
        refine ug_aload_n 0 dX6_stepWord_33 rfl rfl ?_
        refine ug_ldcS 16 (tx := "run") (n := 14) rfl dX6_stepWord_34 ?_
        obtain ⟨m13, r14, h15, h⟩ := ubi_some h
        refine ug_callVi [.ref (ue_aK E 14)] (c_X5_wordIs (by decide) h15) kc_X6_81 ro_1 rfl (S := []) rfl (Nat.le_of_ble_eq_true rfl) (Nat.le_of_ble_eq_true rfl) (Nat.le_of_ble_eq_true rfl) dX6_stepWord_36 ?_
        refine ug_if_eq 44 dX6_stepWord_39 (by decide) (fun q16 => ?_) (fun q16 => ?_)
        · rw [if_pos q16] at h
          refine ug_aload_n 0 dX6_stepWord_44 rfl rfl ?_
          refine ug_ldcS 17 (tx := "sell") (n := 15) rfl dX6_stepWord_45 ?_
          obtain ⟨m17, r18, h19, h⟩ := ubi_some h
          refine ug_callVi [.ref (ue_aK E 15)] (c_X5_wordIs (by decide) h19) kc_X6_81 ro_1 rfl (S := []) rfl (Nat.le_of_ble_eq_true rfl) (Nat.le_of_ble_eq_true rfl) (Nat.le_of_ble_eq_true rfl) dX6_stepWord_47 ?_
          refine ug_if_eq 55 dX6_stepWord_50 (by decide) (fun q20 => ?_) (fun q20 => ?_)
          · rw [if_pos q20] at h
            refine ug_aload_n 0 dX6_stepWord_55 rfl rfl ?_
            refine ug_ldcS 18 (tx := "keep") (n := 16) rfl dX6_stepWord_56 ?_
            obtain ⟨m21, r22, h23, h⟩ := ubi_some h
            refine ug_callVi [.ref (ue_aK E 16)] (c_X5_wordIs (by decide) h23) kc_X6_81 ro_1 rfl (S := []) rfl (Nat.le_of_ble_eq_true rfl) (Nat.le_of_ble_eq_true rfl) (Nat.le_of_ble_eq_true rfl) dX6_stepWord_58 ?_
            refine ug_if_eq 66 dX6_stepWord_61 (by decide) (fun q24 => ?_) (fun q24 => ?_)
            · rw [if_pos q24] at h
              refine ug_aload_n 0 dX6_stepWord_66 rfl rfl ?_
              refine ug_ldcS 19 (tx := "breath") (n := 9) rfl dX6_stepWord_67 ?_
              obtain ⟨m25, r26, h27, h⟩ := ubi_some h
              refine ug_callVi [.ref (ue_aK E 9)] (c_X5_wordIs (by decide) h27) kc_X6_81 ro_1 rfl (S := []) rfl (Nat.le_of_ble_eq_true rfl) (Nat.le_of_ble_eq_true rfl) (Nat.le_of_ble_eq_true rfl) dX6_stepWord_69 ?_
              refine ug_if_eq 78 dX6_stepWord_72 (by decide) (fun q28 => ?_) (fun q28 => ?_)
              · rw [if_pos q28] at h
                refine ug_aload_n 0 dX6_stepWord_78 rfl rfl ?_
                refine ug_ldcS 20 (tx := "again") (n := 17) rfl dX6_stepWord_79 ?_
                obtain ⟨m29, r30, h31, h⟩ := ubi_some h
                refine ug_callVi [.ref (ue_aK E 17)] (c_X5_wordIs (by decide) h31) kc_X6_81 ro_1 rfl (S := []) rfl (Nat.le_of_ble_eq_true rfl) (Nat.le_of_ble_eq_true rfl) (Nat.le_of_ble_eq_true rfl) dX6_stepWord_81 ?_
                refine ug_if_eq 92 dX6_stepWord_84 (by decide) (fun q32 => ?_) (fun q32 => ?_)
                · rw [if_pos q32] at h
                  refine ug_iconst dX6_stepWord_92 un_iconst_m1 ?_
                  refine ug_sub [] [] rfl ?_
                  exact t_X6_stepWord_b93 m29 (-1) _ h
                · rw [if_neg q32] at h
                  refine ug_bipush dX6_stepWord_87 un_bipush_7 ?_
                  refine ug_goto 93 dX6_stepWord_89 (by decide) ?_
                  refine ug_sub [] [] rfl ?_
                  exact t_X6_stepWord_b93 m29 7 _ h
              · rw [if_neg q28] at h
                refine ug_bipush dX6_stepWord_75 un_bipush_6 ?_
                obtain rfl := Option.some.inj h
                exact ug_iret dX6_stepWord_77
            · rw [if_neg q24] at h
              refine ug_iconst dX6_stepWord_64 un_iconst_5 ?_
              obtain rfl := Option.some.inj h
              exact ug_iret dX6_stepWord_65
          · rw [if_neg q20] at h
            refine ug_iconst dX6_stepWord_53 un_iconst_4 ?_
            obtain rfl := Option.some.inj h
            exact ug_iret dX6_stepWord_54
        · rw [if_neg q16] at h
          refine ug_iconst dX6_stepWord_42 un_iconst_3 ?_
          obtain rfl := Option.some.inj h
          exact ug_iret dX6_stepWord_43
      · rw [if_neg q12] at h
        refine ug_iconst dX6_stepWord_31 un_iconst_2 ?_
        obtain rfl := Option.some.inj h
        exact ug_iret dX6_stepWord_32
    · rw [if_neg q8] at h
      refine ug_iconst dX6_stepWord_20 un_iconst_1 ?_
      obtain rfl := Option.some.inj h
      exact ug_iret dX6_stepWord_21
  · rw [if_neg q4] at h
    refine ug_iconst dX6_stepWord_9 un_iconst_0 ?_
    obtain rfl := Option.some.inj h
    exact ug_iret dX6_stepWord_10
theorem c_X6_stepWord {l : Launch} {E : Ue} {mem : Um} {m1 : Um} {r : Int32} (h : f_X6_stepWord  mem  = some (m1, r)) : ucr l E 7 0 0 yX6_stepWord cX6_stepWord 1 (some .int) [.ref (ue_d E 1)] mem (some (.int r)) m1 := ucr_of rfl (Nat.le_of_ble_eq_true rfl) (t_X6_stepWord  mem  _ h)
-- X6_readNumber
def f_X6_readNumber (mem : Um) (x2 : Int32) (x3 : Int32) (x4 : Int32) : Option (Um × Int32) :=
  ubi (f_X5_takeNumber mem x3 x4) (fun m1 r2 => if r2 = 0 then (some (m1, 0)) else (ugd (uin x2 100) (some ((um_w m1 22 x2.toNatClampNeg (m1 1 6)), 1))))
set_option maxRecDepth 20000 in
theorem t_X6_readNumber {l : Launch} {E : Ue} (mem : Um) (x2 : Int32) (x3 : Int32) (x4 : Int32) (z : Um × Int32) (h : f_X6_readNumber  mem x2 x3 x4 = some z) : ug l E 4 0 0 cX6_readNumber 5 RX6 (some .boolean) [] (uz_i z) 0 0 0 [(0, .ref (ue_d E 21)), (1, .ref (ue_d E 1)), (2, .int x2), (3, .int x3), (4, .int x4)] [] mem := by
  rw [f_X6_readNumber] at h
  refine ug_aload_n 1 dX6_readNumber_0 rfl rfl ?_
  refine ug_iload_n 3 dX6_readNumber_1 rfl rfl ?_
  refine ug_iload 4 dX6_readNumber_2 rfl ?_
  obtain ⟨m1, r2, h3, h⟩ := ubi_some h
  refine ug_callVi [.int x3, .int x4] (c_X5_takeNumber  h3) kc_X6_72 ro_1 rfl (S := []) rfl (Nat.le_of_ble_eq_true rfl) (Nat.le_of_ble_eq_true rfl) (Nat.le_of_ble_eq_true rfl) dX6_readNumber_4 ?_
  refine ug_if_ne 12 dX6_readNumber_7 (by decide) (fun q4 => ?_) (fun q4 => ?_)
  · rw [if_neg q4] at h
    refine ug_aload_n 0 dX6_readNumber_12 rfl rfl ?_
    refine ug_getR kf_X6_11 gr_21_0 dX6_readNumber_13 ?_
    refine ug_iload_n 2 dX6_readNumber_16 rfl rfl ?_
    refine ug_aload_n 1 dX6_readNumber_17 rfl rfl ?_
    refine ug_getI kf_X6_76 gi_1_6 dX6_readNumber_18 ?_
    obtain ⟨g5, h⟩ := ugd_some h
    refine ug_iast al_22 (uin_ok g5) dX6_readNumber_21 ?_
    refine ug_iconst dX6_readNumber_22 un_iconst_1 ?_
    obtain rfl := Option.some.inj h
    exact ug_zret (Or.inr rfl) dX6_readNumber_23
  · rw [if_pos q4] at h
    refine ug_iconst dX6_readNumber_10 un_iconst_0 ?_
    obtain rfl := Option.some.inj h
    exact ug_zret (Or.inl rfl) dX6_readNumber_11
theorem c_X6_readNumber {l : Launch} {E : Ue} {mem : Um} {x2 : Int32} {x3 : Int32} {x4 : Int32} {m1 : Um} {r : Int32} (h : f_X6_readNumber  mem x2 x3 x4 = some (m1, r)) : ucr l E 4 0 0 yX6_readNumber cX6_readNumber 5 (some .boolean) [.ref (ue_d E 21), .ref (ue_d E 1), .int x2, .int x3, .int x4] mem (some (.int r)) m1 := ucr_of rfl (Nat.le_of_ble_eq_true rfl) (t_X6_readNumber  mem x2 x3 x4 _ h)
-- X6_readAgain
def f_X6_readAgain_b43 (rec : Um → Int32 → Int32 → Option (Um × Int32)) (mem : Um) : Option (Um × Int32) :=
  some (mem, 0)
set_option maxRecDepth 20000 in
theorem t_X6_readAgain_b43 {l : Launch} {E : Ue} {rec : Um → Int32 → Int32 → Option (Um × Int32)} (kr : Nat) (hrec : ∀ (mem : Um) (x2 : Int32) (x3 : Int32) (m1 : Um) (r : Int32), rec mem x2 x3 = some (m1, r) → ucr l E kr 0 0 yX6_readSteps cX6_readSteps 5 (some .boolean) [.ref (ue_d E 21), .ref (ue_d E 1), .int x2, .int x3] mem (some (.int r)) m1) (mem : Um) (z : Um × Int32) (h : f_X6_readAgain_b43 rec mem  = some z) : ug l E (kr + 5) 0 0 cX6_readAgain 5 RX6 (some .boolean) [] (uz_i z) 0 0 43 [] [] mem := by
  rw [f_X6_readAgain_b43] at h
  refine ug_iconst dX6_readAgain_43 un_iconst_0 ?_
  obtain rfl := Option.some.inj h
  exact ug_zret (Or.inl rfl) dX6_readAgain_44
def f_X6_readAgain (rec : Um → Int32 → Int32 → Option (Um × Int32)) (mem : Um) (x2 : Int32) (x3 : Int32) (x4 : Int32) : Option (Um × Int32) :=
  ubi (f_X6_readNumber mem (x2 + 1) 0 30) (fun m1 r2 => if r2 = 0 then (f_X6_readAgain_b43 rec m1) else (ubi (f_X5_takeSign m1 91) (fun m5 r6 => if r6 = 0 then (f_X6_readAgain_b43 rec m5) else (ubi (rec m5 x3 x4) (fun m9 r10 => if r10 = 0 then (f_X6_readAgain_b43 rec m9) else (ubi (f_X5_takeSign m9 93) (fun m13 r14 => if r14 = 0 then (f_X6_readAgain_b43 rec m13) else (ugd (uin (x2 + 2) 100) (some ((um_w m13 22 (x2 + 2).toNatClampNeg (m13 21 1)), 1))))))))))
set_option maxRecDepth 20000 in
theorem t_X6_readAgain {l : Launch} {E : Ue} {rec : Um → Int32 → Int32 → Option (Um × Int32)} (kr : Nat) (hrec : ∀ (mem : Um) (x2 : Int32) (x3 : Int32) (m1 : Um) (r : Int32), rec mem x2 x3 = some (m1, r) → ucr l E kr 0 0 yX6_readSteps cX6_readSteps 5 (some .boolean) [.ref (ue_d E 21), .ref (ue_d E 1), .int x2, .int x3] mem (some (.int r)) m1) (mem : Um) (x2 : Int32) (x3 : Int32) (x4 : Int32) (z : Um × Int32) (h : f_X6_readAgain rec mem x2 x3 x4 = some z) : ug l E (kr + 5) 0 0 cX6_readAgain 5 RX6 (some .boolean) [] (uz_i z) 0 0 0 [(0, .ref (ue_d E 21)), (1, .ref (ue_d E 1)), (2, .int x2), (3, .int x3), (4, .int x4)] [] mem := by
  rw [f_X6_readAgain] at h
  refine ug_aload_n 0 dX6_readAgain_0 rfl rfl ?_
  refine ug_aload_n 1 dX6_readAgain_1 rfl rfl ?_
  refine ug_iload_n 2 dX6_readAgain_2 rfl rfl ?_
  refine ug_iconst dX6_readAgain_3 un_iconst_1 ?_
  refine ug_iadd dX6_readAgain_4 ?_
  refine ug_iconst dX6_readAgain_5 un_iconst_0 ?_
  refine ug_bipush dX6_readAgain_6 un_bipush_30 ?_
  obtain ⟨m1, r2, h3, h⟩ := ubi_some h
  refine ug_callVi [.ref (ue_d E 1), .int (x2 + 1), .int 0, .int 30] (c_X6_readNumber  h3) kc_X6_69 ro_21 rfl (S := []) rfl (Nat.le_of_ble_eq_true rfl) (by omega) (Nat.le_of_ble_eq_true rfl) dX6_readAgain_8 ?_
  refine ug_if_eq 43 dX6_readAgain_11 (by decide) (fun q4 => ?_) (fun q4 => ?_)
  · rw [if_pos q4] at h
    refine ug_sub [] [] rfl ?_
    exact t_X6_readAgain_b43 kr hrec m1  _ h
  · rw [if_neg q4] at h
    refine ug_aload_n 1 dX6_readAgain_14 rfl rfl ?_
    refine ug_bipush dX6_readAgain_15 un_bipush_91 ?_
    obtain ⟨m5, r6, h7, h⟩ := ubi_some h
    refine ug_callVi [.int 91] (c_X5_takeSign  h7) kc_X6_66 ro_1 rfl (S := []) rfl (Nat.le_of_ble_eq_true rfl) (by omega) (Nat.le_of_ble_eq_true rfl) dX6_readAgain_17 ?_
    refine ug_if_eq 43 dX6_readAgain_20 (by decide) (fun q8 => ?_) (fun q8 => ?_)
    · rw [if_pos q8] at h
      refine ug_sub [] [] rfl ?_
      exact t_X6_readAgain_b43 kr hrec m5  _ h
    · rw [if_neg q8] at h
      refine ug_aload_n 0 dX6_readAgain_23 rfl rfl ?_
      refine ug_aload_n 1 dX6_readAgain_24 rfl rfl ?_
      refine ug_iload_n 3 dX6_readAgain_25 rfl rfl ?_
      refine ug_iload 4 dX6_readAgain_26 rfl ?_
      obtain ⟨m9, r10, h11, h⟩ := ubi_some h
      refine ug_callVi [.ref (ue_d E 1), .int x3, .int x4] (hrec m5 x3 x4 _ _ h11) kc_X6_28 ro_21 rfl (S := []) rfl (Nat.le_of_ble_eq_true rfl) (by omega) (Nat.le_of_ble_eq_true rfl) dX6_readAgain_28 ?_
      refine ug_if_eq 43 dX6_readAgain_31 (by decide) (fun q12 => ?_) (fun q12 => ?_)
      · rw [if_pos q12] at h
        refine ug_sub [] [] rfl ?_
        exact t_X6_readAgain_b43 kr hrec m9  _ h
      · rw [if_neg q12] at h
        refine ug_aload_n 1 dX6_readAgain_34 rfl rfl ?_
        refine ug_bipush dX6_readAgain_35 un_bipush_93 ?_
        obtain ⟨m13, r14, h15, h⟩ := ubi_some h
        refine ug_callVi [.int 93] (c_X5_takeSign  h15) kc_X6_66 ro_1 rfl (S := []) rfl (Nat.le_of_ble_eq_true rfl) (by omega) (Nat.le_of_ble_eq_true rfl) dX6_readAgain_37 ?_
        refine ug_if_ne 45 dX6_readAgain_40 (by decide) (fun q16 => ?_) (fun q16 => ?_)
        · rw [if_neg q16] at h
          refine ug_aload_n 0 dX6_readAgain_45 rfl rfl ?_
          refine ug_getR kf_X6_11 gr_21_0 dX6_readAgain_46 ?_
          refine ug_iload_n 2 dX6_readAgain_49 rfl rfl ?_
          refine ug_iconst dX6_readAgain_50 un_iconst_2 ?_
          refine ug_iadd dX6_readAgain_51 ?_
          refine ug_aload_n 0 dX6_readAgain_52 rfl rfl ?_
          refine ug_getI kf_X6_15 gi_21_1 dX6_readAgain_53 ?_
          obtain ⟨g17, h⟩ := ugd_some h
          refine ug_iast al_22 (uin_ok g17) dX6_readAgain_56 ?_
          refine ug_iconst dX6_readAgain_57 un_iconst_1 ?_
          obtain rfl := Option.some.inj h
          exact ug_zret (Or.inr rfl) dX6_readAgain_58
        · rw [if_pos q16] at h
          refine ug_sub [] [] rfl ?_
          exact t_X6_readAgain_b43 kr hrec m13  _ h
theorem c_X6_readAgain {l : Launch} {E : Ue} {rec : Um → Int32 → Int32 → Option (Um × Int32)} (kr : Nat) (hrec : ∀ (mem : Um) (x2 : Int32) (x3 : Int32) (m1 : Um) (r : Int32), rec mem x2 x3 = some (m1, r) → ucr l E kr 0 0 yX6_readSteps cX6_readSteps 5 (some .boolean) [.ref (ue_d E 21), .ref (ue_d E 1), .int x2, .int x3] mem (some (.int r)) m1) {mem : Um} {x2 : Int32} {x3 : Int32} {x4 : Int32} {m1 : Um} {r : Int32} (h : f_X6_readAgain rec mem x2 x3 x4 = some (m1, r)) : ucr l E (kr + 5) 0 0 yX6_readAgain cX6_readAgain 5 (some .boolean) [.ref (ue_d E 21), .ref (ue_d E 1), .int x2, .int x3, .int x4] mem (some (.int r)) m1 := ucr_of rfl (Nat.le_of_ble_eq_true rfl) (t_X6_readAgain kr hrec mem x2 x3 x4 _ h)
-- X6_readNumbers
def f_X6_readNumbers_b73 (mem : Um) (y0 : Int32) : Option (Um × Int32) :=
  ugd (ub01 y0) (some (mem, y0))
set_option maxRecDepth 20000 in
theorem t_X6_readNumbers_b73 {l : Launch} {E : Ue} (mem : Um) (y0 : Int32) (z : Um × Int32) (h : f_X6_readNumbers_b73  mem y0 = some z) : ug l E 5 0 0 cX6_readNumbers 5 RX6 (some .boolean) [] (uz_i z) 0 0 73 [] [.int y0] mem := by
  rw [f_X6_readNumbers_b73] at h
  obtain ⟨g1, h⟩ := ugd_some h
  obtain rfl := Option.some.inj h
  exact ug_zret (of_decide_eq_true g1) dX6_readNumbers_73
def f_X6_readNumbers_b72 (mem : Um) : Option (Um × Int32) :=
  f_X6_readNumbers_b73 mem 0
set_option maxRecDepth 20000 in
theorem t_X6_readNumbers_b72 {l : Launch} {E : Ue} (mem : Um) (z : Um × Int32) (h : f_X6_readNumbers_b72  mem  = some z) : ug l E 5 0 0 cX6_readNumbers 5 RX6 (some .boolean) [] (uz_i z) 0 0 72 [] [] mem := by
  rw [f_X6_readNumbers_b72] at h
  refine ug_iconst dX6_readNumbers_72 un_iconst_0 ?_
  exact t_X6_readNumbers_b73 mem 0 _ h
def f_X6_readNumbers_b119 (mem : Um) (y0 : Int32) : Option (Um × Int32) :=
  ugd (ub01 y0) (some (mem, y0))
set_option maxRecDepth 20000 in
theorem t_X6_readNumbers_b119 {l : Launch} {E : Ue} (mem : Um) (y0 : Int32) (z : Um × Int32) (h : f_X6_readNumbers_b119  mem y0 = some z) : ug l E 5 0 0 cX6_readNumbers 5 RX6 (some .boolean) [] (uz_i z) 0 0 119 [] [.int y0] mem := by
  rw [f_X6_readNumbers_b119] at h
  obtain ⟨g1, h⟩ := ugd_some h
  obtain rfl := Option.some.inj h
  exact ug_zret (of_decide_eq_true g1) dX6_readNumbers_119
def f_X6_readNumbers_b118 (mem : Um) : Option (Um × Int32) :=
  f_X6_readNumbers_b119 mem 0
set_option maxRecDepth 20000 in
theorem t_X6_readNumbers_b118 {l : Launch} {E : Ue} (mem : Um) (z : Um × Int32) (h : f_X6_readNumbers_b118  mem  = some z) : ug l E 5 0 0 cX6_readNumbers 5 RX6 (some .boolean) [] (uz_i z) 0 0 118 [] [] mem := by
  rw [f_X6_readNumbers_b118] at h
  refine ug_iconst dX6_readNumbers_118 un_iconst_0 ?_
  exact t_X6_readNumbers_b119 mem 0 _ h
def f_X6_readNumbers_b167 (mem : Um) (y0 : Int32) : Option (Um × Int32) :=
  ugd (ub01 y0) (some (mem, y0))
set_option maxRecDepth 20000 in
theorem t_X6_readNumbers_b167 {l : Launch} {E : Ue} (mem : Um) (y0 : Int32) (z : Um × Int32) (h : f_X6_readNumbers_b167  mem y0 = some z) : ug l E 5 0 0 cX6_readNumbers 5 RX6 (some .boolean) [] (uz_i z) 0 0 167 [] [.int y0] mem := by
  rw [f_X6_readNumbers_b167] at h
  obtain ⟨g1, h⟩ := ugd_some h
  obtain rfl := Option.some.inj h
  exact ug_zret (of_decide_eq_true g1) dX6_readNumbers_167
def f_X6_readNumbers_b166 (mem : Um) : Option (Um × Int32) :=
  f_X6_readNumbers_b167 mem 0
set_option maxRecDepth 20000 in
theorem t_X6_readNumbers_b166 {l : Launch} {E : Ue} (mem : Um) (z : Um × Int32) (h : f_X6_readNumbers_b166  mem  = some z) : ug l E 5 0 0 cX6_readNumbers 5 RX6 (some .boolean) [] (uz_i z) 0 0 166 [] [] mem := by
  rw [f_X6_readNumbers_b166] at h
  refine ug_iconst dX6_readNumbers_166 un_iconst_0 ?_
  exact t_X6_readNumbers_b167 mem 0 _ h
def f_X6_readNumbers (mem : Um) (x2 : Int32) (x3 : Int32) (x4 : Int32) : Option (Um × Int32) :=
  if x3 = 0 then (ubi (f_X6_readNumber mem (x2 + 1) 0 x4) (fun m2 r3 => if r3 = 0 then (f_X6_readNumbers_b72 m2) else (ubi (f_X6_readNumber m2 (x2 + 2) 1 20) (fun m6 r7 => if r7 = 0 then (f_X6_readNumbers_b72 m6) else (f_X6_readNumbers_b73 m6 1))))) else (if x3 = 1 then (ubi (f_X6_readNumber mem (x2 + 1) 1 20) (fun m11 r12 => ugd (ub01 r12) (some (m11, r12)))) else (if x3 = 2 then (ubi (f_X6_readNumber mem (x2 + 1) 1 20) (fun m16 r17 => ugd (ub01 r17) (some (m16, r17)))) else (if x3 = 3 then (ubi (f_X6_readNumber mem (x2 + 1) 0 x4) (fun m21 r22 => if r22 = 0 then (f_X6_readNumbers_b118 m21) else (ubi (f_X6_readNumber m21 (x2 + 2) 0 99) (fun m25 r26 => if r26 = 0 then (f_X6_readNumbers_b118 m25) else (f_X6_readNumbers_b119 m25 1))))) else (if x3 = 4 then (ubi (f_X6_readNumber mem (x2 + 1) 0 x4) (fun m30 r31 => if r31 = 0 then (f_X6_readNumbers_b166 m30) else (ubi (f_X6_readNumber m30 (x2 + 2) 0 x4) (fun m34 r35 => if r35 = 0 then (f_X6_readNumbers_b166 m34) else (ubi (f_X6_readNumber m34 (x2 + 3) 0 99) (fun m38 r39 => if r39 = 0 then (f_X6_readNumbers_b166 m38) else (f_X6_readNumbers_b167 m38 1))))))) else (if x3 = 5 then (ubi (f_X6_readNumber mem (x2 + 1) 0 x4) (fun m43 r44 => ugd (ub01 r44) (some (m43, r44)))) else (some (mem, 1)))))))
set_option maxRecDepth 20000 in
theorem t_X6_readNumbers {l : Launch} {E : Ue} (mem : Um) (x2 : Int32) (x3 : Int32) (x4 : Int32) (z : Um × Int32) (h : f_X6_readNumbers  mem x2 x3 x4 = some z) : ug l E 5 0 0 cX6_readNumbers 5 RX6 (some .boolean) [] (uz_i z) 0 0 0 [(0, .ref (ue_d E 21)), (1, .ref (ue_d E 1)), (2, .int x2), (3, .int x3), (4, .int x4)] [] mem := by
  rw [f_X6_readNumbers] at h
  refine ug_iload_n 3 dX6_readNumbers_0 rfl rfl ?_
  by_cases q1 : x3 = 0
  · rw [if_pos q1] at h
    refine ug_tswI 40 dX6_readNumbers_1 (by rw [q1]; decide) (by rw [q1]; decide) (by rw [q1]; rfl) (by decide) ?_
    refine ug_aload_n 0 dX6_readNumbers_40 rfl rfl ?_
    refine ug_aload_n 1 dX6_readNumbers_41 rfl rfl ?_
    refine ug_iload_n 2 dX6_readNumbers_42 rfl rfl ?_
    refine ug_iconst dX6_readNumbers_43 un_iconst_1 ?_
    refine ug_iadd dX6_readNumbers_44 ?_
    refine ug_iconst dX6_readNumbers_45 un_iconst_0 ?_
    refine ug_iload 4 dX6_readNumbers_46 rfl ?_
    obtain ⟨m2, r3, h4, h⟩ := ubi_some h
    refine ug_callVi [.ref (ue_d E 1), .int (x2 + 1), .int 0, .int x4] (c_X6_readNumber  h4) kc_X6_69 ro_21 rfl (S := []) rfl (Nat.le_of_ble_eq_true rfl) (Nat.le_of_ble_eq_true rfl) (Nat.le_of_ble_eq_true rfl) dX6_readNumbers_48 ?_
    refine ug_if_eq 72 dX6_readNumbers_51 (by decide) (fun q5 => ?_) (fun q5 => ?_)
    · rw [if_pos q5] at h
      refine ug_sub [] [] rfl ?_
      exact t_X6_readNumbers_b72 m2  _ h
    · rw [if_neg q5] at h
      refine ug_aload_n 0 dX6_readNumbers_54 rfl rfl ?_
      refine ug_aload_n 1 dX6_readNumbers_55 rfl rfl ?_
      refine ug_iload_n 2 dX6_readNumbers_56 rfl rfl ?_
      refine ug_iconst dX6_readNumbers_57 un_iconst_2 ?_
      refine ug_iadd dX6_readNumbers_58 ?_
      refine ug_iconst dX6_readNumbers_59 un_iconst_1 ?_
      refine ug_bipush dX6_readNumbers_60 un_bipush_20 ?_
      obtain ⟨m6, r7, h8, h⟩ := ubi_some h
      refine ug_callVi [.ref (ue_d E 1), .int (x2 + 2), .int 1, .int 20] (c_X6_readNumber  h8) kc_X6_69 ro_21 rfl (S := []) rfl (Nat.le_of_ble_eq_true rfl) (Nat.le_of_ble_eq_true rfl) (Nat.le_of_ble_eq_true rfl) dX6_readNumbers_62 ?_
      refine ug_if_eq 72 dX6_readNumbers_65 (by decide) (fun q9 => ?_) (fun q9 => ?_)
      · rw [if_pos q9] at h
        refine ug_sub [] [] rfl ?_
        exact t_X6_readNumbers_b72 m6  _ h
      · rw [if_neg q9] at h
        refine ug_iconst dX6_readNumbers_68 un_iconst_1 ?_
        refine ug_goto 73 dX6_readNumbers_69 (by decide) ?_
        refine ug_sub [] [] rfl ?_
        exact t_X6_readNumbers_b73 m6 1 _ h
  · rw [if_neg q1] at h
    by_cases q10 : x3 = 1
    · rw [if_pos q10] at h
      refine ug_tswI 74 dX6_readNumbers_1 (by rw [q10]; decide) (by rw [q10]; decide) (by rw [q10]; rfl) (by decide) ?_
      refine ug_aload_n 0 dX6_readNumbers_74 rfl rfl ?_
      refine ug_aload_n 1 dX6_readNumbers_75 rfl rfl ?_
      refine ug_iload_n 2 dX6_readNumbers_76 rfl rfl ?_
      refine ug_iconst dX6_readNumbers_77 un_iconst_1 ?_
      refine ug_iadd dX6_readNumbers_78 ?_
      refine ug_iconst dX6_readNumbers_79 un_iconst_1 ?_
      refine ug_bipush dX6_readNumbers_80 un_bipush_20 ?_
      obtain ⟨m11, r12, h13, h⟩ := ubi_some h
      refine ug_callVi [.ref (ue_d E 1), .int (x2 + 1), .int 1, .int 20] (c_X6_readNumber  h13) kc_X6_69 ro_21 rfl (S := []) rfl (Nat.le_of_ble_eq_true rfl) (Nat.le_of_ble_eq_true rfl) (Nat.le_of_ble_eq_true rfl) dX6_readNumbers_82 ?_
      obtain ⟨g14, h⟩ := ugd_some h
      obtain rfl := Option.some.inj h
      exact ug_zret (of_decide_eq_true g14) dX6_readNumbers_85
    · rw [if_neg q10] at h
      by_cases q15 : x3 = 2
      · rw [if_pos q15] at h
        refine ug_tswI 74 dX6_readNumbers_1 (by rw [q15]; decide) (by rw [q15]; decide) (by rw [q15]; rfl) (by decide) ?_
        refine ug_aload_n 0 dX6_readNumbers_74 rfl rfl ?_
        refine ug_aload_n 1 dX6_readNumbers_75 rfl rfl ?_
        refine ug_iload_n 2 dX6_readNumbers_76 rfl rfl ?_
        refine ug_iconst dX6_readNumbers_77 un_iconst_1 ?_
        refine ug_iadd dX6_readNumbers_78 ?_
        refine ug_iconst dX6_readNumbers_79 un_iconst_1 ?_
        refine ug_bipush dX6_readNumbers_80 un_bipush_20 ?_
        obtain ⟨m16, r17, h18, h⟩ := ubi_some h
        refine ug_callVi [.ref (ue_d E 1), .int (x2 + 1), .int 1, .int 20] (c_X6_readNumber  h18) kc_X6_69 ro_21 rfl (S := []) rfl (Nat.le_of_ble_eq_true rfl) (Nat.le_of_ble_eq_true rfl) (Nat.le_of_ble_eq_true rfl) dX6_readNumbers_82 ?_
        obtain ⟨g19, h⟩ := ugd_some h
        obtain rfl := Option.some.inj h
        exact ug_zret (of_decide_eq_true g19) dX6_readNumbers_85
      · rw [if_neg q15] at h
        by_cases q20 : x3 = 3
        · rw [if_pos q20] at h
          refine ug_tswI 86 dX6_readNumbers_1 (by rw [q20]; decide) (by rw [q20]; decide) (by rw [q20]; rfl) (by decide) ?_
          refine ug_aload_n 0 dX6_readNumbers_86 rfl rfl ?_
          refine ug_aload_n 1 dX6_readNumbers_87 rfl rfl ?_
          refine ug_iload_n 2 dX6_readNumbers_88 rfl rfl ?_
          refine ug_iconst dX6_readNumbers_89 un_iconst_1 ?_
          refine ug_iadd dX6_readNumbers_90 ?_
          refine ug_iconst dX6_readNumbers_91 un_iconst_0 ?_
          refine ug_iload 4 dX6_readNumbers_92 rfl ?_
          obtain ⟨m21, r22, h23, h⟩ := ubi_some h
          refine ug_callVi [.ref (ue_d E 1), .int (x2 + 1), .int 0, .int x4] (c_X6_readNumber  h23) kc_X6_69 ro_21 rfl (S := []) rfl (Nat.le_of_ble_eq_true rfl) (Nat.le_of_ble_eq_true rfl) (Nat.le_of_ble_eq_true rfl) dX6_readNumbers_94 ?_
          refine ug_if_eq 118 dX6_readNumbers_97 (by decide) (fun q24 => ?_) (fun q24 => ?_)
          · rw [if_pos q24] at h
            refine ug_sub [] [] rfl ?_
            exact t_X6_readNumbers_b118 m21  _ h
          · rw [if_neg q24] at h
            refine ug_aload_n 0 dX6_readNumbers_100 rfl rfl ?_
            refine ug_aload_n 1 dX6_readNumbers_101 rfl rfl ?_
            refine ug_iload_n 2 dX6_readNumbers_102 rfl rfl ?_
            refine ug_iconst dX6_readNumbers_103 un_iconst_2 ?_
            refine ug_iadd dX6_readNumbers_104 ?_
            refine ug_iconst dX6_readNumbers_105 un_iconst_0 ?_
            refine ug_bipush dX6_readNumbers_106 un_bipush_99 ?_
            obtain ⟨m25, r26, h27, h⟩ := ubi_some h
            refine ug_callVi [.ref (ue_d E 1), .int (x2 + 2), .int 0, .int 99] (c_X6_readNumber  h27) kc_X6_69 ro_21 rfl (S := []) rfl (Nat.le_of_ble_eq_true rfl) (Nat.le_of_ble_eq_true rfl) (Nat.le_of_ble_eq_true rfl) dX6_readNumbers_108 ?_
            refine ug_if_eq 118 dX6_readNumbers_111 (by decide) (fun q28 => ?_) (fun q28 => ?_)
            · rw [if_pos q28] at h
              refine ug_sub [] [] rfl ?_
              exact t_X6_readNumbers_b118 m25  _ h
            · rw [if_neg q28] at h
              refine ug_iconst dX6_readNumbers_114 un_iconst_1 ?_
              refine ug_goto 119 dX6_readNumbers_115 (by decide) ?_
              refine ug_sub [] [] rfl ?_
              exact t_X6_readNumbers_b119 m25 1 _ h
        · rw [if_neg q20] at h
          by_cases q29 : x3 = 4
          · rw [if_pos q29] at h
            refine ug_tswI 120 dX6_readNumbers_1 (by rw [q29]; decide) (by rw [q29]; decide) (by rw [q29]; rfl) (by decide) ?_
            refine ug_aload_n 0 dX6_readNumbers_120 rfl rfl ?_
            refine ug_aload_n 1 dX6_readNumbers_121 rfl rfl ?_
            refine ug_iload_n 2 dX6_readNumbers_122 rfl rfl ?_
            refine ug_iconst dX6_readNumbers_123 un_iconst_1 ?_
            refine ug_iadd dX6_readNumbers_124 ?_
            refine ug_iconst dX6_readNumbers_125 un_iconst_0 ?_
            refine ug_iload 4 dX6_readNumbers_126 rfl ?_
            obtain ⟨m30, r31, h32, h⟩ := ubi_some h
            refine ug_callVi [.ref (ue_d E 1), .int (x2 + 1), .int 0, .int x4] (c_X6_readNumber  h32) kc_X6_69 ro_21 rfl (S := []) rfl (Nat.le_of_ble_eq_true rfl) (Nat.le_of_ble_eq_true rfl) (Nat.le_of_ble_eq_true rfl) dX6_readNumbers_128 ?_
            refine ug_if_eq 166 dX6_readNumbers_131 (by decide) (fun q33 => ?_) (fun q33 => ?_)
            · rw [if_pos q33] at h
              refine ug_sub [] [] rfl ?_
              exact t_X6_readNumbers_b166 m30  _ h
            · rw [if_neg q33] at h
              refine ug_aload_n 0 dX6_readNumbers_134 rfl rfl ?_
              refine ug_aload_n 1 dX6_readNumbers_135 rfl rfl ?_
              refine ug_iload_n 2 dX6_readNumbers_136 rfl rfl ?_
              refine ug_iconst dX6_readNumbers_137 un_iconst_2 ?_
              refine ug_iadd dX6_readNumbers_138 ?_
              refine ug_iconst dX6_readNumbers_139 un_iconst_0 ?_
              refine ug_iload 4 dX6_readNumbers_140 rfl ?_
              obtain ⟨m34, r35, h36, h⟩ := ubi_some h
              refine ug_callVi [.ref (ue_d E 1), .int (x2 + 2), .int 0, .int x4] (c_X6_readNumber  h36) kc_X6_69 ro_21 rfl (S := []) rfl (Nat.le_of_ble_eq_true rfl) (Nat.le_of_ble_eq_true rfl) (Nat.le_of_ble_eq_true rfl) dX6_readNumbers_142 ?_
              refine ug_if_eq 166 dX6_readNumbers_145 (by decide) (fun q37 => ?_) (fun q37 => ?_)
              · rw [if_pos q37] at h
                refine ug_sub [] [] rfl ?_
                exact t_X6_readNumbers_b166 m34  _ h
              · rw [if_neg q37] at h
                refine ug_aload_n 0 dX6_readNumbers_148 rfl rfl ?_
                refine ug_aload_n 1 dX6_readNumbers_149 rfl rfl ?_
                refine ug_iload_n 2 dX6_readNumbers_150 rfl rfl ?_
                refine ug_iconst dX6_readNumbers_151 un_iconst_3 ?_
                refine ug_iadd dX6_readNumbers_152 ?_
                refine ug_iconst dX6_readNumbers_153 un_iconst_0 ?_
                refine ug_bipush dX6_readNumbers_154 un_bipush_99 ?_
                obtain ⟨m38, r39, h40, h⟩ := ubi_some h
                refine ug_callVi [.ref (ue_d E 1), .int (x2 + 3), .int 0, .int 99] (c_X6_readNumber  h40) kc_X6_69 ro_21 rfl (S := []) rfl (Nat.le_of_ble_eq_true rfl) (Nat.le_of_ble_eq_true rfl) (Nat.le_of_ble_eq_true rfl) dX6_readNumbers_156 ?_
                refine ug_if_eq 166 dX6_readNumbers_159 (by decide) (fun q41 => ?_) (fun q41 => ?_)
                · rw [if_pos q41] at h
                  refine ug_sub [] [] rfl ?_
                  exact t_X6_readNumbers_b166 m38  _ h
                · rw [if_neg q41] at h
                  refine ug_iconst dX6_readNumbers_162 un_iconst_1 ?_
                  refine ug_goto 167 dX6_readNumbers_163 (by decide) ?_
                  refine ug_sub [] [] rfl ?_
                  exact t_X6_readNumbers_b167 m38 1 _ h
          · rw [if_neg q29] at h
            by_cases q42 : x3 = 5
            · rw [if_pos q42] at h
              refine ug_tswI 168 dX6_readNumbers_1 (by rw [q42]; decide) (by rw [q42]; decide) (by rw [q42]; rfl) (by decide) ?_
              refine ug_aload_n 0 dX6_readNumbers_168 rfl rfl ?_
              refine ug_aload_n 1 dX6_readNumbers_169 rfl rfl ?_
              refine ug_iload_n 2 dX6_readNumbers_170 rfl rfl ?_
              refine ug_iconst dX6_readNumbers_171 un_iconst_1 ?_
              refine ug_iadd dX6_readNumbers_172 ?_
              refine ug_iconst dX6_readNumbers_173 un_iconst_0 ?_
              refine ug_iload 4 dX6_readNumbers_174 rfl ?_
              obtain ⟨m43, r44, h45, h⟩ := ubi_some h
              refine ug_callVi [.ref (ue_d E 1), .int (x2 + 1), .int 0, .int x4] (c_X6_readNumber  h45) kc_X6_69 ro_21 rfl (S := []) rfl (Nat.le_of_ble_eq_true rfl) (Nat.le_of_ble_eq_true rfl) (Nat.le_of_ble_eq_true rfl) dX6_readNumbers_176 ?_
              obtain ⟨g46, h⟩ := ugd_some h
              obtain rfl := Option.some.inj h
              exact ug_zret (of_decide_eq_true g46) dX6_readNumbers_179
            · rw [if_neg q42] at h
              refine ug_tswO 180 dX6_readNumbers_1 (utsw_0_5 q1 q10 q15 q20 q29 q42) (by decide) ?_
              refine ug_iconst dX6_readNumbers_180 un_iconst_1 ?_
              obtain rfl := Option.some.inj h
              exact ug_zret (Or.inr rfl) dX6_readNumbers_181
theorem c_X6_readNumbers {l : Launch} {E : Ue} {mem : Um} {x2 : Int32} {x3 : Int32} {x4 : Int32} {m1 : Um} {r : Int32} (h : f_X6_readNumbers  mem x2 x3 x4 = some (m1, r)) : ucr l E 5 0 0 yX6_readNumbers cX6_readNumbers 5 (some .boolean) [.ref (ue_d E 21), .ref (ue_d E 1), .int x2, .int x3, .int x4] mem (some (.int r)) m1 := ucr_of rfl (Nat.le_of_ble_eq_true rfl) (t_X6_readNumbers  mem x2 x3 x4 _ h)
-- X6_readStep
def f_X6_readStep_b25 (rec : Um → Int32 → Int32 → Option (Um × Int32)) (mem : Um) : Option (Um × Int32) :=
  ubi (f_X5_failAtWord mem 1) (fun m1 r2 => ugd (ub01 r2) (some (m1, r2)))
set_option maxRecDepth 20000 in
theorem t_X6_readStep_b25 {l : Launch} {E : Ue} {rec : Um → Int32 → Int32 → Option (Um × Int32)} (kr : Nat) (hrec : ∀ (mem : Um) (x2 : Int32) (x3 : Int32) (m1 : Um) (r : Int32), rec mem x2 x3 = some (m1, r) → ucr l E kr 0 0 yX6_readSteps cX6_readSteps 5 (some .boolean) [.ref (ue_d E 21), .ref (ue_d E 1), .int x2, .int x3] mem (some (.int r)) m1) (mem : Um) (z : Um × Int32) (h : f_X6_readStep_b25 rec mem  = some z) : ug l E (kr + 8) 0 0 cX6_readStep 7 RX6 (some .boolean) [] (uz_i z) 0 0 25 [(1, .ref (ue_d E 1))] [] mem := by
  rw [f_X6_readStep_b25] at h
  refine ug_aload_n 0 dX6_readStep_25 rfl rfl ?_
  refine ug_iconst dX6_readStep_26 un_iconst_1 ?_
  obtain ⟨m1, r2, h3, h⟩ := ubi_some h
  refine ug_callVi [.int 1] (c_X5_failAtWord  h3) kc_X6_56 ro_1 rfl (S := []) rfl (Nat.le_of_ble_eq_true rfl) (by omega) (Nat.le_of_ble_eq_true rfl) dX6_readStep_27 ?_
  obtain ⟨g4, h⟩ := ugd_some h
  obtain rfl := Option.some.inj h
  exact ug_zret (of_decide_eq_true g4) dX6_readStep_30
def f_X6_readStep_b131 (rec : Um → Int32 → Int32 → Option (Um × Int32)) (mem : Um) (y0 : Int32) : Option (Um × Int32) :=
  ugd (ub01 y0) (some (mem, y0))
set_option maxRecDepth 20000 in
theorem t_X6_readStep_b131 {l : Launch} {E : Ue} {rec : Um → Int32 → Int32 → Option (Um × Int32)} (kr : Nat) (hrec : ∀ (mem : Um) (x2 : Int32) (x3 : Int32) (m1 : Um) (r : Int32), rec mem x2 x3 = some (m1, r) → ucr l E kr 0 0 yX6_readSteps cX6_readSteps 5 (some .boolean) [.ref (ue_d E 21), .ref (ue_d E 1), .int x2, .int x3] mem (some (.int r)) m1) (mem : Um) (y0 : Int32) (z : Um × Int32) (h : f_X6_readStep_b131 rec mem y0 = some z) : ug l E (kr + 8) 0 0 cX6_readStep 7 RX6 (some .boolean) [] (uz_i z) 0 0 131 [] [.int y0] mem := by
  rw [f_X6_readStep_b131] at h
  obtain ⟨g1, h⟩ := ugd_some h
  obtain rfl := Option.some.inj h
  exact ug_zret (of_decide_eq_true g1) dX6_readStep_131
def f_X6_readStep_b130 (rec : Um → Int32 → Int32 → Option (Um × Int32)) (mem : Um) : Option (Um × Int32) :=
  f_X6_readStep_b131 rec mem 0
set_option maxRecDepth 20000 in
theorem t_X6_readStep_b130 {l : Launch} {E : Ue} {rec : Um → Int32 → Int32 → Option (Um × Int32)} (kr : Nat) (hrec : ∀ (mem : Um) (x2 : Int32) (x3 : Int32) (m1 : Um) (r : Int32), rec mem x2 x3 = some (m1, r) → ucr l E kr 0 0 yX6_readSteps cX6_readSteps 5 (some .boolean) [.ref (ue_d E 21), .ref (ue_d E 1), .int x2, .int x3] mem (some (.int r)) m1) (mem : Um) (z : Um × Int32) (h : f_X6_readStep_b130 rec mem  = some z) : ug l E (kr + 8) 0 0 cX6_readStep 7 RX6 (some .boolean) [] (uz_i z) 0 0 130 [] [] mem := by
  rw [f_X6_readStep_b130] at h
  refine ug_iconst dX6_readStep_130 un_iconst_0 ?_
  exact t_X6_readStep_b131 kr hrec mem 0 _ h
def f_X6_readStep_b110 (rec : Um → Int32 → Int32 → Option (Um × Int32)) (mem : Um) (y0 : Int32) : Option (Um × Int32) :=
  if y0 = 0 then (f_X6_readStep_b130 rec mem) else (ubi (f_X5_takeSign mem 59) (fun m2 r3 => if r3 = 0 then (f_X6_readStep_b130 rec m2) else (f_X6_readStep_b131 rec m2 1)))
set_option maxRecDepth 20000 in
theorem t_X6_readStep_b110 {l : Launch} {E : Ue} {rec : Um → Int32 → Int32 → Option (Um × Int32)} (kr : Nat) (hrec : ∀ (mem : Um) (x2 : Int32) (x3 : Int32) (m1 : Um) (r : Int32), rec mem x2 x3 = some (m1, r) → ucr l E kr 0 0 yX6_readSteps cX6_readSteps 5 (some .boolean) [.ref (ue_d E 21), .ref (ue_d E 1), .int x2, .int x3] mem (some (.int r)) m1) (mem : Um) (y0 : Int32) (z : Um × Int32) (h : f_X6_readStep_b110 rec mem y0 = some z) : ug l E (kr + 8) 0 0 cX6_readStep 7 RX6 (some .boolean) [] (uz_i z) 0 0 110 [(1, .ref (ue_d E 1))] [.int y0] mem := by
  rw [f_X6_readStep_b110] at h
  refine ug_istore [(6, .int y0), (1, .ref (ue_d E 1))] dX6_readStep_110 (Nat.le_of_ble_eq_true rfl) rfl ?_
  refine ug_iload 0 dX6_readStep_112 rfl ?_
  refine ug_if_eq 130 dX6_readStep_114 (by decide) (fun q1 => ?_) (fun q1 => ?_)
  · rw [if_pos q1] at h
    refine ug_sub [] [] rfl ?_
    exact t_X6_readStep_b130 kr hrec mem  _ h
  · rw [if_neg q1] at h
    refine ug_aload_n 1 dX6_readStep_117 rfl rfl ?_
    refine ug_bipush dX6_readStep_118 un_bipush_59 ?_
    obtain ⟨m2, r3, h4, h⟩ := ubi_some h
    refine ug_callVi [.int 59] (c_X5_takeSign  h4) kc_X6_66 ro_1 rfl (S := []) rfl (Nat.le_of_ble_eq_true rfl) (by omega) (Nat.le_of_ble_eq_true rfl) dX6_readStep_120 ?_
    refine ug_if_eq 130 dX6_readStep_123 (by decide) (fun q5 => ?_) (fun q5 => ?_)
    · rw [if_pos q5] at h
      refine ug_sub [] [] rfl ?_
      exact t_X6_readStep_b130 kr hrec m2  _ h
    · rw [if_neg q5] at h
      refine ug_iconst dX6_readStep_126 un_iconst_1 ?_
      refine ug_goto 131 dX6_readStep_127 (by decide) ?_
      refine ug_sub [] [] rfl ?_
      exact t_X6_readStep_b131 kr hrec m2 1 _ h
def f_X6_readStep_b50 (rec : Um → Int32 → Int32 → Option (Um × Int32)) (mem : Um) (x2 : Int32) (x3 : Int32) (x4 : Int32) : Option (Um × Int32) :=
  ugd (uin ((mem 21 1) * 4) 100) (if x4 = 7 then (ubi (f_X6_readAgain rec (um_w (um_w mem 21 1 ((mem 21 1) + 1)) 22 ((mem 21 1) * 4).toNatClampNeg x4) ((mem 21 1) * 4) x2 (x3 + 1)) (fun m6 r7 => f_X6_readStep_b110 rec m6 r7)) else (ubi (f_X6_readNumbers (um_w (um_w mem 21 1 ((mem 21 1) + 1)) 22 ((mem 21 1) * 4).toNatClampNeg x4) ((mem 21 1) * 4) x4 (x2 - 1)) (fun m3 r4 => f_X6_readStep_b110 rec m3 r4)))
set_option maxRecDepth 20000 in
theorem t_X6_readStep_b50 {l : Launch} {E : Ue} {rec : Um → Int32 → Int32 → Option (Um × Int32)} (kr : Nat) (hrec : ∀ (mem : Um) (x2 : Int32) (x3 : Int32) (m1 : Um) (r : Int32), rec mem x2 x3 = some (m1, r) → ucr l E kr 0 0 yX6_readSteps cX6_readSteps 5 (some .boolean) [.ref (ue_d E 21), .ref (ue_d E 1), .int x2, .int x3] mem (some (.int r)) m1) (mem : Um) (x2 : Int32) (x3 : Int32) (x4 : Int32) (z : Um × Int32) (h : f_X6_readStep_b50 rec mem x2 x3 x4 = some z) : ug l E (kr + 8) 0 0 cX6_readStep 7 RX6 (some .boolean) [] (uz_i z) 0 0 50 [(0, .ref (ue_d E 21)), (1, .ref (ue_d E 1)), (2, .int x2), (3, .int x3), (4, .int x4)] [] mem := by
  rw [f_X6_readStep_b50] at h
  refine ug_aload_n 0 dX6_readStep_50 rfl rfl ?_
  refine ug_getI kf_X6_15 gi_21_1 dX6_readStep_51 ?_
  refine ug_iconst dX6_readStep_54 un_iconst_4 ?_
  refine ug_imul dX6_readStep_55 ?_
  refine ug_istore [(5, .int ((mem 21 1) * 4)), (0, .ref (ue_d E 21)), (1, .ref (ue_d E 1)), (2, .int x2), (3, .int x3), (4, .int x4)] dX6_readStep_56 (Nat.le_of_ble_eq_true rfl) rfl ?_
  refine ug_aload_n 1 dX6_readStep_58 rfl rfl ?_
  refine ug_dup dX6_readStep_59 rfl ?_
  refine ug_getI kf_X6_15 gi_21_1 dX6_readStep_60 ?_
  refine ug_iconst dX6_readStep_63 un_iconst_1 ?_
  refine ug_iadd dX6_readStep_64 ?_
  refine ug_putI kp_X6_15 gi_21_1 dX6_readStep_65 ?_
  refine ug_aload_n 1 dX6_readStep_68 rfl rfl ?_
  refine ug_getR kf_X6_11 gr_21_0 dX6_readStep_69 ?_
  refine ug_iload 0 dX6_readStep_72 rfl ?_
  refine ug_iload 5 dX6_readStep_74 rfl ?_
  obtain ⟨g1, h⟩ := ugd_some h
  refine ug_iast al_22 (uin_ok g1) dX6_readStep_76 ?_
  refine ug_iload 5 dX6_readStep_77 rfl ?_
  refine ug_bipush dX6_readStep_79 un_bipush_7 ?_
  refine ug_icmp_ne 98 dX6_readStep_81 (by decide) (fun q2 => ?_) (fun q2 => ?_)
  · rw [if_neg q2] at h
    refine ug_aload_n 1 dX6_readStep_98 rfl rfl ?_
    refine ug_aload_n 2 dX6_readStep_99 rfl rfl ?_
    refine ug_iload 0 dX6_readStep_100 rfl ?_
    refine ug_iload 5 dX6_readStep_102 rfl ?_
    refine ug_iload_n 3 dX6_readStep_104 rfl rfl ?_
    refine ug_iconst dX6_readStep_105 un_iconst_1 ?_
    refine ug_isub dX6_readStep_106 ?_
    obtain ⟨m3, r4, h5, h⟩ := ubi_some h
    refine ug_callVi [.ref (ue_d E 1), .int ((mem 21 1) * 4), .int x4, .int (x2 - 1)] (c_X6_readNumbers  h5) kc_X6_63 ro_21 rfl (S := []) rfl (Nat.le_of_ble_eq_true rfl) (by omega) (Nat.le_of_ble_eq_true rfl) dX6_readStep_107 ?_
    refine ug_sub [(1, .ref (ue_d E 1))] [2] rfl ?_
    exact t_X6_readStep_b110 kr hrec m3 r4 _ h
  · rw [if_pos q2] at h
    refine ug_aload_n 1 dX6_readStep_84 rfl rfl ?_
    refine ug_aload_n 2 dX6_readStep_85 rfl rfl ?_
    refine ug_iload 0 dX6_readStep_86 rfl ?_
    refine ug_iload_n 3 dX6_readStep_88 rfl rfl ?_
    refine ug_iload_n 4 dX6_readStep_89 rfl rfl ?_
    refine ug_iconst dX6_readStep_90 un_iconst_1 ?_
    refine ug_iadd dX6_readStep_91 ?_
    obtain ⟨m6, r7, h8, h⟩ := ubi_some h
    refine ug_callVi [.ref (ue_d E 1), .int ((mem 21 1) * 4), .int x2, .int (x3 + 1)] (c_X6_readAgain kr hrec h8) kc_X6_59 ro_21 rfl (S := []) rfl (Nat.le_of_ble_eq_true rfl) (by omega) (Nat.le_of_ble_eq_true rfl) dX6_readStep_92 ?_
    refine ug_goto 110 dX6_readStep_95 (by decide) ?_
    refine ug_sub [(1, .ref (ue_d E 1))] [2] rfl ?_
    exact t_X6_readStep_b110 kr hrec m6 r7 _ h
def f_X6_readStep (rec : Um → Int32 → Int32 → Option (Um × Int32)) (mem : Um) (x2 : Int32) (x3 : Int32) : Option (Um × Int32) :=
  ubi (f_X5_takeWord mem) (fun m1 r2 => ubi (f_X6_stepWord m1) (fun m4 r5 => if r5 = (-1) then (f_X6_readStep_b25 rec m4) else (if (m4 21 1) < 25 then (if r5 = 7 then (if x3 < 6 then (f_X6_readStep_b50 rec m4 x2 x3 r5) else (ubi (f_X5_failAtWord m4 3) (fun m11 r12 => ugd (ub01 r12) (some (m11, r12))))) else (f_X6_readStep_b50 rec m4 x2 x3 r5)) else (f_X6_readStep_b25 rec m4))))
set_option maxRecDepth 20000 in
theorem t_X6_readStep {l : Launch} {E : Ue} {rec : Um → Int32 → Int32 → Option (Um × Int32)} (kr : Nat) (hrec : ∀ (mem : Um) (x2 : Int32) (x3 : Int32) (m1 : Um) (r : Int32), rec mem x2 x3 = some (m1, r) → ucr l E kr 0 0 yX6_readSteps cX6_readSteps 5 (some .boolean) [.ref (ue_d E 21), .ref (ue_d E 1), .int x2, .int x3] mem (some (.int r)) m1) (mem : Um) (x2 : Int32) (x3 : Int32) (z : Um × Int32) (h : f_X6_readStep rec mem x2 x3 = some z) : ug l E (kr + 8) 0 0 cX6_readStep 7 RX6 (some .boolean) [] (uz_i z) 0 0 0 [(0, .ref (ue_d E 21)), (1, .ref (ue_d E 1)), (2, .int x2), (3, .int x3)] [] mem := by
  rw [f_X6_readStep] at h
  refine ug_aload_n 1 dX6_readStep_0 rfl rfl ?_
  obtain ⟨m1, r2, h3, h⟩ := ubi_some h
  refine ug_callVv [] (c_X5_takeWord  h3) kc_X6_49 ro_1 rfl (S := []) rfl (Nat.le_of_ble_eq_true rfl) (by omega) (Nat.le_of_ble_eq_true rfl) dX6_readStep_1 ?_
  refine ug_aload_n 1 dX6_readStep_4 rfl rfl ?_
  obtain ⟨m4, r5, h6, h⟩ := ubi_some h
  refine ug_callSi [.ref (ue_d E 1)] (c_X6_stepWord  h6) kc_X6_52 rfl (S := []) rfl (Nat.le_of_ble_eq_true rfl) (by omega) (Nat.le_of_ble_eq_true rfl) dX6_readStep_5 ?_
  refine ug_istore [(4, .int r5), (0, .ref (ue_d E 21)), (1, .ref (ue_d E 1)), (2, .int x2), (3, .int x3)] dX6_readStep_8 (Nat.le_of_ble_eq_true rfl) rfl ?_
  refine ug_iload 0 dX6_readStep_10 rfl ?_
  refine ug_iconst dX6_readStep_12 un_iconst_m1 ?_
  refine ug_icmp_eq 25 dX6_readStep_13 (by decide) (fun q7 => ?_) (fun q7 => ?_)
  · rw [if_pos q7] at h
    refine ug_sub [(1, .ref (ue_d E 1))] [2] rfl ?_
    exact t_X6_readStep_b25 kr hrec m4  _ h
  · rw [if_neg q7] at h
    refine ug_aload_n 1 dX6_readStep_16 rfl rfl ?_
    refine ug_getI kf_X6_15 gi_21_1 dX6_readStep_17 ?_
    refine ug_bipush dX6_readStep_20 un_bipush_25 ?_
    refine ug_icmp_lt 31 dX6_readStep_22 (by decide) (fun q8 => ?_) (fun q8 => ?_)
    · rw [if_pos q8] at h
      refine ug_iload 0 dX6_readStep_31 rfl ?_
      refine ug_bipush dX6_readStep_33 un_bipush_7 ?_
      refine ug_icmp_ne 50 dX6_readStep_35 (by decide) (fun q9 => ?_) (fun q9 => ?_)
      · rw [if_neg q9] at h
        refine ug_sub [(0, .ref (ue_d E 21)), (1, .ref (ue_d E 1)), (2, .int x2), (3, .int x3), (4, .int r5)] [1, 2, 3, 4, 0] rfl ?_
        exact t_X6_readStep_b50 kr hrec m4 x2 x3 r5 _ h
      · rw [if_pos q9] at h
        refine ug_iload_n 4 dX6_readStep_38 rfl rfl ?_
        refine ug_bipush dX6_readStep_39 un_bipush_6 ?_
        refine ug_icmp_lt 50 dX6_readStep_41 (by decide) (fun q10 => ?_) (fun q10 => ?_)
        · rw [if_pos q10] at h
          refine ug_sub [(0, .ref (ue_d E 21)), (1, .ref (ue_d E 1)), (2, .int x2), (3, .int x3), (4, .int r5)] [1, 2, 3, 4, 0] rfl ?_
          exact t_X6_readStep_b50 kr hrec m4 x2 x3 r5 _ h
        · rw [if_neg q10] at h
          refine ug_aload_n 2 dX6_readStep_44 rfl rfl ?_
          refine ug_iconst dX6_readStep_45 un_iconst_3 ?_
          obtain ⟨m11, r12, h13, h⟩ := ubi_some h
          refine ug_callVi [.int 3] (c_X5_failAtWord  h13) kc_X6_56 ro_1 rfl (S := []) rfl (Nat.le_of_ble_eq_true rfl) (by omega) (Nat.le_of_ble_eq_true rfl) dX6_readStep_46 ?_
          obtain ⟨g14, h⟩ := ugd_some h
          obtain rfl := Option.some.inj h
          exact ug_zret (of_decide_eq_true g14) dX6_readStep_49
    · rw [if_neg q8] at h
      refine ug_sub [(1, .ref (ue_d E 1))] [2] rfl ?_
      exact t_X6_readStep_b25 kr hrec m4  _ h
theorem c_X6_readStep {l : Launch} {E : Ue} {rec : Um → Int32 → Int32 → Option (Um × Int32)} (kr : Nat) (hrec : ∀ (mem : Um) (x2 : Int32) (x3 : Int32) (m1 : Um) (r : Int32), rec mem x2 x3 = some (m1, r) → ucr l E kr 0 0 yX6_readSteps cX6_readSteps 5 (some .boolean) [.ref (ue_d E 21), .ref (ue_d E 1), .int x2, .int x3] mem (some (.int r)) m1) {mem : Um} {x2 : Int32} {x3 : Int32} {m1 : Um} {r : Int32} (h : f_X6_readStep rec mem x2 x3 = some (m1, r)) : ucr l E (kr + 8) 0 0 yX6_readStep cX6_readStep 7 (some .boolean) [.ref (ue_d E 21), .ref (ue_d E 1), .int x2, .int x3] mem (some (.int r)) m1 := ucr_of rfl (Nat.le_of_ble_eq_true rfl) (t_X6_readStep kr hrec mem x2 x3 _ h)
