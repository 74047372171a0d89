-- X8_readProduct
def f_X8_readProduct_b90 (rec : Um → Option (Um × Unit)) (mem : Um) : Option (Um × Unit) :=
  some (mem, ())
set_option maxRecDepth 20000 in
theorem t_X8_readProduct_b90 {l : Launch} {E : Ue} {rec : Um → Option (Um × Unit)} (kr : Nat) (hrec : ∀ (mem : Um)  (m1 : Um) (r : Unit), rec mem  = some (m1, r) → ucr l E kr 0 0 yX8_readSum cX8_readSum 2 none [.ref (ue_d E 38)] mem none m1) (mem : Um) (z : Um × Unit) (h : f_X8_readProduct_b90 rec mem  = some z) : ug l E (kr + 9) 0 0 cX8_readProduct 2 RX8 none [] (uz_v z) 0 0 90 [] [] mem := by
  rw [f_X8_readProduct_b90] at h
  obtain rfl := Option.some.inj h
  exact ug_vret dX8_readProduct_90
def f_X8_readProduct_b66 (rec : Um → Option (Um × Unit)) (k4 : Um → Option (Um × Unit)) (mem : Um) (y0 : Int32) : Option (Um × Unit) :=
  ubi (f_X8_readUnit rec (um_w mem 38 4 ((mem 38 4) + 1))) (fun m1 r2 => ubi (f_X8_emit m1 y0 0) (fun m4 r5 => k4 m4))
set_option maxRecDepth 20000 in
theorem t_X8_readProduct_b66 {l : Launch} {E : Ue} {rec : Um → Option (Um × Unit)} (kr : Nat) (hrec : ∀ (mem : Um)  (m1 : Um) (r : Unit), rec mem  = some (m1, r) → ucr l E kr 0 0 yX8_readSum cX8_readSum 2 none [.ref (ue_d E 38)] mem none m1) (k4 : Um → Option (Um × Unit)) (hk4 : ∀ (mem : Um) (z : Um × Unit), k4 mem  = some z → ug l E (kr + 9) 0 0 cX8_readProduct 2 RX8 none [] (uz_v z) 0 0 4 [(0, .ref (ue_d E 38))] [] mem) (mem : Um) (y0 : Int32) (z : Um × Unit) (h : f_X8_readProduct_b66 rec k4 mem y0 = some z) : ug l E (kr + 9) 0 0 cX8_readProduct 2 RX8 none [] (uz_v z) 0 0 66 [(0, .ref (ue_d E 38))] [.int y0] mem := by
  rw [f_X8_readProduct_b66] at h
  refine ug_istore_n [(1, .int y0), (0, .ref (ue_d E 38))] dX8_readProduct_66 rfl (Nat.le_of_ble_eq_true rfl) rfl ?_
  refine ug_aload_n 1 dX8_readProduct_67 rfl rfl ?_
  refine ug_dup dX8_readProduct_68 rfl ?_
  refine ug_getI kf_X8_105 gi_38_4 dX8_readProduct_69 ?_
  refine ug_iconst dX8_readProduct_72 un_iconst_1 ?_
  refine ug_iadd dX8_readProduct_73 ?_
  refine ug_putI kp_X8_105 gi_38_4 dX8_readProduct_74 ?_
  refine ug_aload_n 1 dX8_readProduct_77 rfl rfl ?_
  obtain ⟨m1, r2, h3, h⟩ := ubi_some h
  refine ug_callVv [] (c_X8_readUnit kr hrec h3) kc_X8_232 ro_38 rfl (S := []) rfl (Nat.le_of_ble_eq_true rfl) (by omega) (Nat.le_of_ble_eq_true rfl) dX8_readProduct_78 ?_
  refine ug_aload_n 1 dX8_readProduct_81 rfl rfl ?_
  refine ug_iload_n 0 dX8_readProduct_82 rfl rfl ?_
  refine ug_iconst dX8_readProduct_83 un_iconst_0 ?_
  obtain ⟨m4, r5, h6, h⟩ := ubi_some h
  refine ug_callVv [.int y0, .int 0] (c_X8_emit  h6) kc_X8_229 ro_38 rfl (S := []) rfl (Nat.le_of_ble_eq_true rfl) (by omega) (Nat.le_of_ble_eq_true rfl) dX8_readProduct_84 ?_
  refine ug_goto 4 dX8_readProduct_87 (by decide) ?_
  refine ug_sub [(0, .ref (ue_d E 38))] [1] rfl ?_
  exact hk4 m4  _ h
def f_X8_readProduct_b38 (rec : Um → Option (Um × Unit)) (k4 : Um → Option (Um × Unit)) (mem : Um) : Option (Um × Unit) :=
  ubi (f_X8_here mem) (fun m1 r2 => if r2 = 42 then (f_X8_readProduct_b66 rec k4 m1 4) else (ubi (f_X8_here m1) (fun m5 r6 => if r6 = 47 then (f_X8_readProduct_b66 rec k4 m5 5) else (f_X8_readProduct_b66 rec k4 m5 8))))
set_option maxRecDepth 20000 in
theorem t_X8_readProduct_b38 {l : Launch} {E : Ue} {rec : Um → Option (Um × Unit)} (kr : Nat) (hrec : ∀ (mem : Um)  (m1 : Um) (r : Unit), rec mem  = some (m1, r) → ucr l E kr 0 0 yX8_readSum cX8_readSum 2 none [.ref (ue_d E 38)] mem none m1) (k4 : Um → Option (Um × Unit)) (hk4 : ∀ (mem : Um) (z : Um × Unit), k4 mem  = some z → ug l E (kr + 9) 0 0 cX8_readProduct 2 RX8 none [] (uz_v z) 0 0 4 [(0, .ref (ue_d E 38))] [] mem) (mem : Um) (z : Um × Unit) (h : f_X8_readProduct_b38 rec k4 mem  = some z) : ug l E (kr + 9) 0 0 cX8_readProduct 2 RX8 none [] (uz_v z) 0 0 38 [(0, .ref (ue_d E 38))] [] mem := by
  rw [f_X8_readProduct_b38] at h
  refine ug_aload_n 0 dX8_readProduct_38 rfl rfl ?_
  obtain ⟨m1, r2, h3, h⟩ := ubi_some h
  refine ug_callVi [] (c_X8_here  h3) kc_X8_111 ro_38 rfl (S := []) rfl (Nat.le_of_ble_eq_true rfl) (by omega) (Nat.le_of_ble_eq_true rfl) dX8_readProduct_39 ?_
  refine ug_bipush dX8_readProduct_42 un_bipush_42 ?_
  refine ug_icmp_ne 51 dX8_readProduct_44 (by decide) (fun q4 => ?_) (fun q4 => ?_)
  · rw [if_neg q4] at h
    refine ug_aload_n 0 dX8_readProduct_51 rfl rfl ?_
    obtain ⟨m5, r6, h7, h⟩ := ubi_some h
    refine ug_callVi [] (c_X8_here  h7) kc_X8_111 ro_38 rfl (S := []) rfl (Nat.le_of_ble_eq_true rfl) (by omega) (Nat.le_of_ble_eq_true rfl) dX8_readProduct_52 ?_
    refine ug_bipush dX8_readProduct_55 un_bipush_47 ?_
    refine ug_icmp_ne 64 dX8_readProduct_57 (by decide) (fun q8 => ?_) (fun q8 => ?_)
    · rw [if_neg q8] at h
      refine ug_bipush dX8_readProduct_64 un_bipush_8 ?_
      exact t_X8_readProduct_b66 kr hrec k4 hk4 m5 8 _ h
    · rw [if_pos q8] at h
      refine ug_iconst dX8_readProduct_60 un_iconst_5 ?_
      refine ug_goto 66 dX8_readProduct_61 (by decide) ?_
      exact t_X8_readProduct_b66 kr hrec k4 hk4 m5 5 _ h
  · rw [if_pos q4] at h
    refine ug_iconst dX8_readProduct_47 un_iconst_4 ?_
    refine ug_goto 66 dX8_readProduct_48 (by decide) ?_
    exact t_X8_readProduct_b66 kr hrec k4 hk4 m1 4 _ h
def f_X8_readProduct_b4 (rec : Um → Option (Um × Unit)) : Nat → Um → Option (Um × Unit)
  | 0, _ => none
  | n + 1, mem =>
    ubi (f_X8_fine mem) (fun m1 r2 => if r2 = 0 then (f_X8_readProduct_b90 rec m1) else (ubi (f_X8_here m1) (fun m5 r6 => if r6 = 42 then (f_X8_readProduct_b38 rec (f_X8_readProduct_b4 rec n) m5) else (ubi (f_X8_here m5) (fun m9 r10 => if r10 = 47 then (f_X8_readProduct_b38 rec (f_X8_readProduct_b4 rec n) m9) else (ubi (f_X8_here m9) (fun m13 r14 => if r14 = 37 then (f_X8_readProduct_b38 rec (f_X8_readProduct_b4 rec n) m13) else (f_X8_readProduct_b90 rec m13))))))))
set_option maxRecDepth 20000 in
theorem t_X8_readProduct_b4 {l : Launch} {E : Ue} {rec : Um → Option (Um × Unit)} (kr : Nat) (hrec : ∀ (mem : Um)  (m1 : Um) (r : Unit), rec mem  = some (m1, r) → ucr l E kr 0 0 yX8_readSum cX8_readSum 2 none [.ref (ue_d E 38)] mem none m1) : ∀ (n : Nat) (mem : Um) (z : Um × Unit), f_X8_readProduct_b4 rec n mem  = some z → ug l E (kr + 9) 0 0 cX8_readProduct 2 RX8 none [] (uz_v z) 0 0 4 [(0, .ref (ue_d E 38))] [] mem := by
  intro n
  induction n with
  | zero =>
    intro mem z h
    rw [f_X8_readProduct_b4] at h
    cases h
  | succ n ih =>
    intro mem z h
    rw [f_X8_readProduct_b4] at h
    refine ug_aload_n 0 dX8_readProduct_4 rfl rfl ?_
    obtain ⟨m1, r2, h3, h⟩ := ubi_some h
    refine ug_callVi [] (c_X8_fine  h3) kc_X8_128 ro_38 rfl (S := []) rfl (Nat.le_of_ble_eq_true rfl) (by omega) (Nat.le_of_ble_eq_true rfl) dX8_readProduct_5 ?_
    refine ug_if_eq 90 dX8_readProduct_8 (by decide) (fun q4 => ?_) (fun q4 => ?_)
    · rw [if_pos q4] at h
      refine ug_sub [] [] rfl ?_
      exact t_X8_readProduct_b90 kr hrec m1  _ h
    · rw [if_neg q4] at h
      refine ug_aload_n 0 dX8_readProduct_11 rfl rfl ?_
      obtain ⟨m5, r6, h7, h⟩ := ubi_some h
      refine ug_callVi [] (c_X8_here  h7) kc_X8_111 ro_38 rfl (S := []) rfl (Nat.le_of_ble_eq_true rfl) (by omega) (Nat.le_of_ble_eq_true rfl) dX8_readProduct_12 ?_
      refine ug_bipush dX8_readProduct_15 un_bipush_42 ?_
      refine ug_icmp_eq 38 dX8_readProduct_17 (by decide) (fun q8 => ?_) (fun q8 => ?_)
      · rw [if_pos q8] at h
        exact t_X8_readProduct_b38 kr hrec (f_X8_readProduct_b4 rec n) ih m5  _ h
      · rw [if_neg q8] at h
        refine ug_aload_n 0 dX8_readProduct_20 rfl rfl ?_
        obtain ⟨m9, r10, h11, h⟩ := ubi_some h
        refine ug_callVi [] (c_X8_here  h11) kc_X8_111 ro_38 rfl (S := []) rfl (Nat.le_of_ble_eq_true rfl) (by omega) (Nat.le_of_ble_eq_true rfl) dX8_readProduct_21 ?_
        refine ug_bipush dX8_readProduct_24 un_bipush_47 ?_
        refine ug_icmp_eq 38 dX8_readProduct_26 (by decide) (fun q12 => ?_) (fun q12 => ?_)
        · rw [if_pos q12] at h
          exact t_X8_readProduct_b38 kr hrec (f_X8_readProduct_b4 rec n) ih m9  _ h
        · rw [if_neg q12] at h
          refine ug_aload_n 0 dX8_readProduct_29 rfl rfl ?_
          obtain ⟨m13, r14, h15, h⟩ := ubi_some h
          refine ug_callVi [] (c_X8_here  h15) kc_X8_111 ro_38 rfl (S := []) rfl (Nat.le_of_ble_eq_true rfl) (by omega) (Nat.le_of_ble_eq_true rfl) dX8_readProduct_30 ?_
          refine ug_bipush dX8_readProduct_33 un_bipush_37 ?_
          refine ug_icmp_ne 90 dX8_readProduct_35 (by decide) (fun q16 => ?_) (fun q16 => ?_)
          · rw [if_neg q16] at h
            refine ug_sub [] [] rfl ?_
            exact t_X8_readProduct_b90 kr hrec m13  _ h
          · rw [if_pos q16] at h
            exact t_X8_readProduct_b38 kr hrec (f_X8_readProduct_b4 rec n) ih m13  _ h
def f_X8_readProduct (rec : Um → Option (Um × Unit)) (mem : Um) : Option (Um × Unit) :=
  ubi (f_X8_readUnit rec mem) (fun m1 r2 => f_X8_readProduct_b4 rec UF m1)
set_option maxRecDepth 20000 in
theorem t_X8_readProduct {l : Launch} {E : Ue} {rec : Um → Option (Um × Unit)} (kr : Nat) (hrec : ∀ (mem : Um)  (m1 : Um) (r : Unit), rec mem  = some (m1, r) → ucr l E kr 0 0 yX8_readSum cX8_readSum 2 none [.ref (ue_d E 38)] mem none m1) (mem : Um) (z : Um × Unit) (h : f_X8_readProduct rec mem  = some z) : ug l E (kr + 9) 0 0 cX8_readProduct 2 RX8 none [] (uz_v z) 0 0 0 [(0, .ref (ue_d E 38))] [] mem := by
  rw [f_X8_readProduct] at h
  refine ug_aload_n 0 dX8_readProduct_0 rfl rfl ?_
  obtain ⟨m1, r2, h3, h⟩ := ubi_some h
  refine ug_callVv [] (c_X8_readUnit kr hrec h3) kc_X8_232 ro_38 rfl (S := []) rfl (Nat.le_of_ble_eq_true rfl) (by omega) (Nat.le_of_ble_eq_true rfl) dX8_readProduct_1 ?_
  exact t_X8_readProduct_b4 kr hrec UF m1  _ h
theorem c_X8_readProduct {l : Launch} {E : Ue} {rec : Um → Option (Um × Unit)} (kr : Nat) (hrec : ∀ (mem : Um)  (m1 : Um) (r : Unit), rec mem  = some (m1, r) → ucr l E kr 0 0 yX8_readSum cX8_readSum 2 none [.ref (ue_d E 38)] mem none m1) {mem : Um} {m1 : Um} {r : Unit} (h : f_X8_readProduct rec mem  = some (m1, r)) : ucr l E (kr + 9) 0 0 yX8_readProduct cX8_readProduct 2 none [.ref (ue_d E 38)] mem none m1 := ucr_of rfl (Nat.le_of_ble_eq_true rfl) (t_X8_readProduct kr hrec mem  _ h)
-- X8_readSum
def f_X8_readSum_b67 (rec : Um → Option (Um × Unit)) (mem : Um) : Option (Um × Unit) :=
  some (mem, ())
set_option maxRecDepth 20000 in
theorem t_X8_readSum_b67 {l : Launch} {E : Ue} {rec : Um → Option (Um × Unit)} (kr : Nat) (hrec : ∀ (mem : Um)  (m1 : Um) (r : Unit), rec mem  = some (m1, r) → ucr l E kr 0 0 yX8_readSum cX8_readSum 2 none [.ref (ue_d E 38)] mem none m1) (mem : Um) (z : Um × Unit) (h : f_X8_readSum_b67 rec mem  = some z) : ug l E (kr + 10) 0 0 cX8_readSum 2 RX8 none [] (uz_v z) 0 0 67 [] [] mem := by
  rw [f_X8_readSum_b67] at h
  obtain rfl := Option.some.inj h
  exact ug_vret dX8_readSum_67
def f_X8_readSum_b43 (rec : Um → Option (Um × Unit)) (k4 : Um → Option (Um × Unit)) (mem : Um) (y0 : Int32) : Option (Um × Unit) :=
  ubi (f_X8_readProduct rec (um_w mem 38 4 ((mem 38 4) + 1))) (fun m1 r2 => ubi (f_X8_emit m1 y0 0) (fun m4 r5 => k4 m4))
set_option maxRecDepth 20000 in
theorem t_X8_readSum_b43 {l : Launch} {E : Ue} {rec : Um → Option (Um × Unit)} (kr : Nat) (hrec : ∀ (mem : Um)  (m1 : Um) (r : Unit), rec mem  = some (m1, r) → ucr l E kr 0 0 yX8_readSum cX8_readSum 2 none [.ref (ue_d E 38)] mem none m1) (k4 : Um → Option (Um × Unit)) (hk4 : ∀ (mem : Um) (z : Um × Unit), k4 mem  = some z → ug l E (kr + 10) 0 0 cX8_readSum 2 RX8 none [] (uz_v z) 0 0 4 [(0, .ref (ue_d E 38))] [] mem) (mem : Um) (y0 : Int32) (z : Um × Unit) (h : f_X8_readSum_b43 rec k4 mem y0 = some z) : ug l E (kr + 10) 0 0 cX8_readSum 2 RX8 none [] (uz_v z) 0 0 43 [(0, .ref (ue_d E 38))] [.int y0] mem := by
  rw [f_X8_readSum_b43] at h
  refine ug_istore_n [(1, .int y0), (0, .ref (ue_d E 38))] dX8_readSum_43 rfl (Nat.le_of_ble_eq_true rfl) rfl ?_
  refine ug_aload_n 1 dX8_readSum_44 rfl rfl ?_
  refine ug_dup dX8_readSum_45 rfl ?_
  refine ug_getI kf_X8_105 gi_38_4 dX8_readSum_46 ?_
  refine ug_iconst dX8_readSum_49 un_iconst_1 ?_
  refine ug_iadd dX8_readSum_50 ?_
  refine ug_putI kp_X8_105 gi_38_4 dX8_readSum_51 ?_
  refine ug_aload_n 1 dX8_readSum_54 rfl rfl ?_
  obtain ⟨m1, r2, h3, h⟩ := ubi_some h
  refine ug_callVv [] (c_X8_readProduct kr hrec h3) kc_X8_226 ro_38 rfl (S := []) rfl (Nat.le_of_ble_eq_true rfl) (by omega) (Nat.le_of_ble_eq_true rfl) dX8_readSum_55 ?_
  refine ug_aload_n 1 dX8_readSum_58 rfl rfl ?_
  refine ug_iload_n 0 dX8_readSum_59 rfl rfl ?_
  refine ug_iconst dX8_readSum_60 un_iconst_0 ?_
  obtain ⟨m4, r5, h6, h⟩ := ubi_some h
  refine ug_callVv [.int y0, .int 0] (c_X8_emit  h6) kc_X8_229 ro_38 rfl (S := []) rfl (Nat.le_of_ble_eq_true rfl) (by omega) (Nat.le_of_ble_eq_true rfl) dX8_readSum_61 ?_
  refine ug_goto 4 dX8_readSum_64 (by decide) ?_
  refine ug_sub [(0, .ref (ue_d E 38))] [1] rfl ?_
  exact hk4 m4  _ h
def f_X8_readSum_b29 (rec : Um → Option (Um × Unit)) (k4 : Um → Option (Um × Unit)) (mem : Um) : Option (Um × Unit) :=
  ubi (f_X8_here mem) (fun m1 r2 => if r2 = 43 then (f_X8_readSum_b43 rec k4 m1 2) else (f_X8_readSum_b43 rec k4 m1 3))
set_option maxRecDepth 20000 in
theorem t_X8_readSum_b29 {l : Launch} {E : Ue} {rec : Um → Option (Um × Unit)} (kr : Nat) (hrec : ∀ (mem : Um)  (m1 : Um) (r : Unit), rec mem  = some (m1, r) → ucr l E kr 0 0 yX8_readSum cX8_readSum 2 none [.ref (ue_d E 38)] mem none m1) (k4 : Um → Option (Um × Unit)) (hk4 : ∀ (mem : Um) (z : Um × Unit), k4 mem  = some z → ug l E (kr + 10) 0 0 cX8_readSum 2 RX8 none [] (uz_v z) 0 0 4 [(0, .ref (ue_d E 38))] [] mem) (mem : Um) (z : Um × Unit) (h : f_X8_readSum_b29 rec k4 mem  = some z) : ug l E (kr + 10) 0 0 cX8_readSum 2 RX8 none [] (uz_v z) 0 0 29 [(0, .ref (ue_d E 38))] [] mem := by
  rw [f_X8_readSum_b29] at h
  refine ug_aload_n 0 dX8_readSum_29 rfl rfl ?_
  obtain ⟨m1, r2, h3, h⟩ := ubi_some h
  refine ug_callVi [] (c_X8_here  h3) kc_X8_111 ro_38 rfl (S := []) rfl (Nat.le_of_ble_eq_true rfl) (by omega) (Nat.le_of_ble_eq_true rfl) dX8_readSum_30 ?_
  refine ug_bipush dX8_readSum_33 un_bipush_43 ?_
  refine ug_icmp_ne 42 dX8_readSum_35 (by decide) (fun q4 => ?_) (fun q4 => ?_)
  · rw [if_neg q4] at h
    refine ug_iconst dX8_readSum_42 un_iconst_3 ?_
    exact t_X8_readSum_b43 kr hrec k4 hk4 m1 3 _ h
  · rw [if_pos q4] at h
    refine ug_iconst dX8_readSum_38 un_iconst_2 ?_
    refine ug_goto 43 dX8_readSum_39 (by decide) ?_
    exact t_X8_readSum_b43 kr hrec k4 hk4 m1 2 _ h
def f_X8_readSum_b4 (rec : Um → Option (Um × Unit)) : Nat → Um → Option (Um × Unit)
  | 0, _ => none
  | n + 1, mem =>
    ubi (f_X8_fine mem) (fun m1 r2 => if r2 = 0 then (f_X8_readSum_b67 rec m1) else (ubi (f_X8_here m1) (fun m5 r6 => if r6 = 43 then (f_X8_readSum_b29 rec (f_X8_readSum_b4 rec n) m5) else (ubi (f_X8_here m5) (fun m9 r10 => if r10 = 45 then (f_X8_readSum_b29 rec (f_X8_readSum_b4 rec n) m9) else (f_X8_readSum_b67 rec m9))))))
set_option maxRecDepth 20000 in
theorem t_X8_readSum_b4 {l : Launch} {E : Ue} {rec : Um → Option (Um × Unit)} (kr : Nat) (hrec : ∀ (mem : Um)  (m1 : Um) (r : Unit), rec mem  = some (m1, r) → ucr l E kr 0 0 yX8_readSum cX8_readSum 2 none [.ref (ue_d E 38)] mem none m1) : ∀ (n : Nat) (mem : Um) (z : Um × Unit), f_X8_readSum_b4 rec n mem  = some z → ug l E (kr + 10) 0 0 cX8_readSum 2 RX8 none [] (uz_v z) 0 0 4 [(0, .ref (ue_d E 38))] [] mem := by
  intro n
  induction n with
  | zero =>
    intro mem z h
    rw [f_X8_readSum_b4] at h
    cases h
  | succ n ih =>
    intro mem z h
    rw [f_X8_readSum_b4] at h
    refine ug_aload_n 0 dX8_readSum_4 rfl rfl ?_
    obtain ⟨m1, r2, h3, h⟩ := ubi_some h
    refine ug_callVi [] (c_X8_fine  h3) kc_X8_128 ro_38 rfl (S := []) rfl (Nat.le_of_ble_eq_true rfl) (by omega) (Nat.le_of_ble_eq_true rfl) dX8_readSum_5 ?_
    refine ug_if_eq 67 dX8_readSum_8 (by decide) (fun q4 => ?_) (fun q4 => ?_)
    · rw [if_pos q4] at h
      refine ug_sub [] [] rfl ?_
      exact t_X8_readSum_b67 kr hrec m1  _ h
    · rw [if_neg q4] at h
      refine ug_aload_n 0 dX8_readSum_11 rfl rfl ?_
      obtain ⟨m5, r6, h7, h⟩ := ubi_some h
      refine ug_callVi [] (c_X8_here  h7) kc_X8_111 ro_38 rfl (S := []) rfl (Nat.le_of_ble_eq_true rfl) (by omega) (Nat.le_of_ble_eq_true rfl) dX8_readSum_12 ?_
      refine ug_bipush dX8_readSum_15 un_bipush_43 ?_
      refine ug_icmp_eq 29 dX8_readSum_17 (by decide) (fun q8 => ?_) (fun q8 => ?_)
      · rw [if_pos q8] at h
        exact t_X8_readSum_b29 kr hrec (f_X8_readSum_b4 rec n) ih m5  _ h
      · rw [if_neg q8] at h
        refine ug_aload_n 0 dX8_readSum_20 rfl rfl ?_
        obtain ⟨m9, r10, h11, h⟩ := ubi_some h
        refine ug_callVi [] (c_X8_here  h11) kc_X8_111 ro_38 rfl (S := []) rfl (Nat.le_of_ble_eq_true rfl) (by omega) (Nat.le_of_ble_eq_true rfl) dX8_readSum_21 ?_
        refine ug_bipush dX8_readSum_24 un_bipush_45 ?_
        refine ug_icmp_ne 67 dX8_readSum_26 (by decide) (fun q12 => ?_) (fun q12 => ?_)
        · rw [if_neg q12] at h
          refine ug_sub [] [] rfl ?_
          exact t_X8_readSum_b67 kr hrec m9  _ h
        · rw [if_pos q12] at h
          exact t_X8_readSum_b29 kr hrec (f_X8_readSum_b4 rec n) ih m9  _ h
def f_X8_readSum_e (rec : Um → Option (Um × Unit)) (mem : Um) : Option (Um × Unit) :=
  ubi (f_X8_readProduct rec mem) (fun m1 r2 => f_X8_readSum_b4 rec UF m1)
set_option maxRecDepth 20000 in
theorem t_X8_readSum {l : Launch} {E : Ue} {rec : Um → Option (Um × Unit)} (kr : Nat) (hrec : ∀ (mem : Um)  (m1 : Um) (r : Unit), rec mem  = some (m1, r) → ucr l E kr 0 0 yX8_readSum cX8_readSum 2 none [.ref (ue_d E 38)] mem none m1) (mem : Um) (z : Um × Unit) (h : f_X8_readSum_e rec mem  = some z) : ug l E (kr + 10) 0 0 cX8_readSum 2 RX8 none [] (uz_v z) 0 0 0 [(0, .ref (ue_d E 38))] [] mem := by
  rw [f_X8_readSum_e] at h
  refine ug_aload_n 0 dX8_readSum_0 rfl rfl ?_
  obtain ⟨m1, r2, h3, h⟩ := ubi_some h
  refine ug_callVv [] (c_X8_readProduct kr hrec h3) kc_X8_226 ro_38 rfl (S := []) rfl (Nat.le_of_ble_eq_true rfl) (by omega) (Nat.le_of_ble_eq_true rfl) dX8_readSum_1 ?_
  exact t_X8_readSum_b4 kr hrec UF m1  _ h
def f_X8_readSum : Nat → Um → Option (Um × Unit)
  | 0, _ => none
  | d + 1, mem => f_X8_readSum_e (f_X8_readSum d) mem 
theorem c_X8_readSum_d {l : Launch} {E : Ue} : ∀ (d : Nat) (mem : Um) (m1 : Um) (r : Unit), f_X8_readSum d mem  = some (m1, r) → ucr l E (10 * d) 0 0 yX8_readSum cX8_readSum 2 none [.ref (ue_d E 38)] mem none m1
  | 0, _, _, _, h => by
    rw [f_X8_readSum] at h
    cases h
  | d + 1, mem, m1, r, h => by
    rw [f_X8_readSum] at h
    exact ucr_of rfl (Nat.le_of_ble_eq_true rfl) (t_X8_readSum (10 * d) (fun mem  m1 r q => c_X8_readSum_d d mem  m1 r q) mem  _ h)
theorem c_X8_readSum {l : Launch} {E : Ue} (d : Nat) {mem : Um} {m1 : Um} {r : Unit} (h : f_X8_readSum d mem  = some (m1, r)) : ucr l E (10 * d) 0 0 yX8_readSum cX8_readSum 2 none [.ref (ue_d E 38)] mem none m1 := c_X8_readSum_d d mem  m1 r h
-- X8_law
def f_X8_law_b77 (mem : Um) : Option (Um × Int32) :=
  ubi (f_X8_result mem 1) (fun m1 r2 => if (m1 38 5) = (-1) then (ubi (f_X8_copies 45 47 150 150 (um_w m1 38 26 (m1 38 25)) ((um_w m1 38 26 (m1 38 25)) 38 25)) (fun m5 r6 => ubi (f_X8_copies 46 48 150 150 m5 (m5 38 25)) (fun m8 r9 => some (m8, r2)))) else (some (m1, r2)))
set_option maxRecDepth 20000 in
theorem t_X8_law_b77 {l : Launch} {E : Ue} (mem : Um) (z : Um × Int32) (h : f_X8_law_b77  mem  = some z) : ug l E 161 0 0 cX8_law 3 RX8 (some .int) [] (uz_i z) 0 0 77 [(0, .ref (ue_d E 38))] [] mem := by
  rw [f_X8_law_b77] at h
  refine ug_aload_n 0 dX8_law_77 rfl rfl ?_
  refine ug_iconst dX8_law_78 un_iconst_1 ?_
  obtain ⟨m1, r2, h3, h⟩ := ubi_some h
  refine ug_callVi [.int 1] (c_X8_result  h3) kc_X8_219 ro_38 rfl (S := []) rfl (Nat.le_of_ble_eq_true rfl) (Nat.le_of_ble_eq_true rfl) (Nat.le_of_ble_eq_true rfl) dX8_law_79 ?_
  refine ug_istore_n [(2, .int r2), (0, .ref (ue_d E 38))] dX8_law_82 rfl (Nat.le_of_ble_eq_true rfl) rfl ?_
  refine ug_aload_n 1 dX8_law_83 rfl rfl ?_
  refine ug_getI kf_X8_99 gi_38_5 dX8_law_84 ?_
  refine ug_iconst dX8_law_87 un_iconst_m1 ?_
  refine ug_icmp_eq 93 dX8_law_88 (by decide) (fun q4 => ?_) (fun q4 => ?_)
  · rw [if_pos q4] at h
    refine ug_aload_n 1 dX8_law_93 rfl rfl ?_
    refine ug_aload_n 1 dX8_law_94 rfl rfl ?_
    refine ug_getI kf_X8_223 gi_38_25 dX8_law_95 ?_
    refine ug_putI kp_X8_164 gi_38_26 dX8_law_98 ?_
    refine ug_aload_n 1 dX8_law_101 rfl rfl ?_
    refine ug_aload_n 1 dX8_law_102 rfl rfl ?_
    refine ug_getR kf_X8_35 gr_38_20 dX8_law_103 ?_
    refine ug_aload_n 1 dX8_law_106 rfl rfl ?_
    refine ug_getR kf_X8_41 gr_38_22 dX8_law_107 ?_
    refine ug_aload_n 1 dX8_law_110 rfl rfl ?_
    refine ug_getI kf_X8_223 gi_38_25 dX8_law_111 ?_
    obtain ⟨m5, r6, h7, h⟩ := ubi_some h
    refine ug_callVv [.ref (ue_d E 45), .ref (ue_d E 47), .int ((um_w m1 38 26 (m1 38 25)) 38 25)] (c_X8_copies al_45 al_47 h7) kc_X8_160 ro_38 rfl (S := []) rfl (Nat.le_of_ble_eq_true rfl) (Nat.le_of_ble_eq_true rfl) (Nat.le_of_ble_eq_true rfl) dX8_law_114 ?_
    refine ug_aload_n 1 dX8_law_117 rfl rfl ?_
    refine ug_aload_n 1 dX8_law_118 rfl rfl ?_
    refine ug_getR kf_X8_38 gr_38_21 dX8_law_119 ?_
    refine ug_aload_n 1 dX8_law_122 rfl rfl ?_
    refine ug_getR kf_X8_44 gr_38_23 dX8_law_123 ?_
    refine ug_aload_n 1 dX8_law_126 rfl rfl ?_
    refine ug_getI kf_X8_223 gi_38_25 dX8_law_127 ?_
    obtain ⟨m8, r9, h10, h⟩ := ubi_some h
    refine ug_callVv [.ref (ue_d E 46), .ref (ue_d E 48), .int (m5 38 25)] (c_X8_copies al_46 al_48 h10) kc_X8_160 ro_38 rfl (S := []) rfl (Nat.le_of_ble_eq_true rfl) (Nat.le_of_ble_eq_true rfl) (Nat.le_of_ble_eq_true rfl) dX8_law_130 ?_
    refine ug_iload_n 0 dX8_law_133 rfl rfl ?_
    obtain rfl := Option.some.inj h
    exact ug_iret dX8_law_134
  · rw [if_neg q4] at h
    refine ug_iload_n 0 dX8_law_91 rfl rfl ?_
    obtain rfl := Option.some.inj h
    exact ug_iret dX8_law_92
def f_X8_law_b30 (mem : Um) (x1 : Int32) (y0 : Int32) : Option (Um × Int32) :=
  ubi (f_X8_may mem y0 1 1) (fun m1 r2 => if r2 = 0 then (some (m1, 0)) else (ubi (f_X8_begins m1 x1) (fun m5 r6 => ubi (f_X8_readSum UD (um_w m5 38 25 0)) (fun m8 r9 => ubi (f_X8_fine m8) (fun m11 r12 => if r12 = 0 then (f_X8_law_b77 m11) else (ubi (f_X8_isMore m11) (fun m15 r16 => if r16 = 0 then (f_X8_law_b77 m15) else (ubi (f_X8_wrong m15 1 (m15 38 4)) (fun m19 r20 => f_X8_law_b77 m19)))))))))
set_option maxRecDepth 20000 in
theorem t_X8_law_b30 {l : Launch} {E : Ue} (mem : Um) (x1 : Int32) (y0 : Int32) (z : Um × Int32) (h : f_X8_law_b30  mem x1 y0 = some z) : ug l E 161 0 0 cX8_law 3 RX8 (some .int) [] (uz_i z) 0 0 30 [(0, .ref (ue_d E 38)), (1, .int x1)] [.int y0, .ref (ue_d E 38)] mem := by
  rw [f_X8_law_b30] at h
  refine ug_iconst dX8_law_30 un_iconst_1 ?_
  refine ug_iconst dX8_law_31 un_iconst_1 ?_
  obtain ⟨m1, r2, h3, h⟩ := ubi_some h
  refine ug_callVi [.int y0, .int 1, .int 1] (c_X8_may  h3) kc_X8_190 ro_38 rfl (S := []) rfl (Nat.le_of_ble_eq_true rfl) (Nat.le_of_ble_eq_true rfl) (Nat.le_of_ble_eq_true rfl) dX8_law_32 ?_
  refine ug_if_ne 40 dX8_law_35 (by decide) (fun q4 => ?_) (fun q4 => ?_)
  · rw [if_neg q4] at h
    refine ug_aload_n 0 dX8_law_40 rfl rfl ?_
    refine ug_iload_n 1 dX8_law_41 rfl rfl ?_
    obtain ⟨m5, r6, h7, h⟩ := ubi_some h
    refine ug_callVv [.int x1] (c_X8_begins  h7) kc_X8_194 ro_38 rfl (S := []) rfl (Nat.le_of_ble_eq_true rfl) (Nat.le_of_ble_eq_true rfl) (Nat.le_of_ble_eq_true rfl) dX8_law_42 ?_
    refine ug_aload_n 0 dX8_law_45 rfl rfl ?_
    refine ug_iconst dX8_law_46 un_iconst_0 ?_
    refine ug_putI kp_X8_223 gi_38_25 dX8_law_47 ?_
    refine ug_aload_n 0 dX8_law_50 rfl rfl ?_
    obtain ⟨m8, r9, h10, h⟩ := ubi_some h
    refine ug_callVv [] (c_X8_readSum UD h10) kc_X8_238 ro_38 rfl (S := []) rfl (Nat.le_of_ble_eq_true rfl) (Nat.le_of_ble_eq_true rfl) (Nat.le_of_ble_eq_true rfl) dX8_law_51 ?_
    refine ug_aload_n 0 dX8_law_54 rfl rfl ?_
    obtain ⟨m11, r12, h13, h⟩ := ubi_some h
    refine ug_callVi [] (c_X8_fine  h13) kc_X8_128 ro_38 rfl (S := []) rfl (Nat.le_of_ble_eq_true rfl) (Nat.le_of_ble_eq_true rfl) (Nat.le_of_ble_eq_true rfl) dX8_law_55 ?_
    refine ug_if_eq 77 dX8_law_58 (by decide) (fun q14 => ?_) (fun q14 => ?_)
    · rw [if_pos q14] at h
      refine ug_sub [(0, .ref (ue_d E 38))] [0] rfl ?_
      exact t_X8_law_b77 m11  _ h
    · rw [if_neg q14] at h
      refine ug_aload_n 0 dX8_law_61 rfl rfl ?_
      obtain ⟨m15, r16, h17, h⟩ := ubi_some h
      refine ug_callVi [] (c_X8_isMore  h17) kc_X8_198 ro_38 rfl (S := []) rfl (Nat.le_of_ble_eq_true rfl) (Nat.le_of_ble_eq_true rfl) (Nat.le_of_ble_eq_true rfl) dX8_law_62 ?_
      refine ug_if_eq 77 dX8_law_65 (by decide) (fun q18 => ?_) (fun q18 => ?_)
      · rw [if_pos q18] at h
        refine ug_sub [(0, .ref (ue_d E 38))] [0] rfl ?_
        exact t_X8_law_b77 m15  _ h
      · rw [if_neg q18] at h
        refine ug_aload_n 0 dX8_law_68 rfl rfl ?_
        refine ug_iconst dX8_law_69 un_iconst_1 ?_
        refine ug_aload_n 0 dX8_law_70 rfl rfl ?_
        refine ug_getI kf_X8_105 gi_38_4 dX8_law_71 ?_
        obtain ⟨m19, r20, h21, h⟩ := ubi_some h
        refine ug_callVv [.int 1, .int (m15 38 4)] (c_X8_wrong  h21) kc_X8_135 ro_38 rfl (S := []) rfl (Nat.le_of_ble_eq_true rfl) (Nat.le_of_ble_eq_true rfl) (Nat.le_of_ble_eq_true rfl) dX8_law_74 ?_
        refine ug_sub [(0, .ref (ue_d E 38))] [0] rfl ?_
        exact t_X8_law_b77 m19  _ h
  · rw [if_pos q4] at h
    refine ug_iconst dX8_law_38 un_iconst_0 ?_
    obtain rfl := Option.some.inj h
    exact ug_iret dX8_law_39
def f_X8_law_b29 (mem : Um) (x1 : Int32) : Option (Um × Int32) :=
  f_X8_law_b30 mem x1 0
set_option maxRecDepth 20000 in
theorem t_X8_law_b29 {l : Launch} {E : Ue} (mem : Um) (x1 : Int32) (z : Um × Int32) (h : f_X8_law_b29  mem x1 = some z) : ug l E 161 0 0 cX8_law 3 RX8 (some .int) [] (uz_i z) 0 0 29 [(0, .ref (ue_d E 38)), (1, .int x1)] [.ref (ue_d E 38)] mem := by
  rw [f_X8_law_b29] at h
  refine ug_iconst dX8_law_29 un_iconst_0 ?_
  exact t_X8_law_b30 mem x1 0 _ h
def f_X8_law (mem : Um) (x1 : Int32) : Option (Um × Int32) :=
  if x1 < 0 then (f_X8_law_b29 (um_w mem 38 0 0) x1) else (if ((um_w mem 38 0 0) 38 2) < x1 then (f_X8_law_b29 (um_w mem 38 0 0) x1) else (if 150 < x1 then (f_X8_law_b29 (um_w mem 38 0 0) x1) else (f_X8_law_b30 (um_w mem 38 0 0) x1 1)))
set_option maxRecDepth 20000 in
theorem t_X8_law {l : Launch} {E : Ue} (mem : Um) (x1 : Int32) (z : Um × Int32) (h : f_X8_law  mem x1 = some z) : ug l E 161 0 0 cX8_law 3 RX8 (some .int) [] (uz_i z) 0 0 0 [(0, .ref (ue_d E 38)), (1, .int x1)] [] mem := by
  rw [f_X8_law] at h
  refine ug_aload_n 0 dX8_law_0 rfl rfl ?_
  refine ug_iconst dX8_law_1 un_iconst_0 ?_
  refine ug_putI kp_X8_3 gi_38_0 dX8_law_2 ?_
  refine ug_aload_n 0 dX8_law_5 rfl rfl ?_
  refine ug_iload_n 1 dX8_law_6 rfl rfl ?_
  refine ug_if_lt 29 dX8_law_7 (by decide) (fun q1 => ?_) (fun q1 => ?_)
  · rw [if_pos q1] at h
    exact t_X8_law_b29 (um_w mem 38 0 0) x1 _ h
  · rw [if_neg q1] at h
    refine ug_iload_n 1 dX8_law_10 rfl rfl ?_
    refine ug_aload_n 0 dX8_law_11 rfl rfl ?_
    refine ug_getI kf_X8_96 gi_38_2 dX8_law_12 ?_
    refine ug_icmp_gt 29 dX8_law_15 (by decide) (fun q2 => ?_) (fun q2 => ?_)
    · rw [if_pos q2] at h
      exact t_X8_law_b29 (um_w mem 38 0 0) x1 _ h
    · rw [if_neg q2] at h
      refine ug_iload_n 1 dX8_law_18 rfl rfl ?_
      refine ug_sipush dX8_law_19 un_sipush_150 ?_
      refine ug_icmp_gt 29 dX8_law_22 (by decide) (fun q3 => ?_) (fun q3 => ?_)
      · rw [if_pos q3] at h
        exact t_X8_law_b29 (um_w mem 38 0 0) x1 _ h
      · rw [if_neg q3] at h
        refine ug_iconst dX8_law_25 un_iconst_1 ?_
        refine ug_goto 30 dX8_law_26 (by decide) ?_
        exact t_X8_law_b30 (um_w mem 38 0 0) x1 1 _ h
theorem c_X8_law {l : Launch} {E : Ue} {mem : Um} {x1 : Int32} {m1 : Um} {r : Int32} (h : f_X8_law  mem x1 = some (m1, r)) : ucr l E 161 0 0 yX8_law cX8_law 3 (some .int) [.ref (ue_d E 38), .int x1] mem (some (.int r)) m1 := ucr_of rfl (Nat.le_of_ble_eq_true rfl) (t_X8_law  mem x1 _ h)
-- X8_both
def f_X8_both_b60 (mem : Um) (y0 : Int32) : Option (Um × Int32) :=
  some (mem, y0)
set_option maxRecDepth 20000 in
theorem t_X8_both_b60 {l : Launch} {E : Ue} (mem : Um) (y0 : Int32) (z : Um × Int32) (h : f_X8_both_b60  mem y0 = some z) : ug l E 2 0 0 cX8_both 3 RX8 (some .int) [] (uz_i z) 0 0 60 [] [.int y0] mem := by
  rw [f_X8_both_b60] at h
  obtain rfl := Option.some.inj h
  exact ug_iret dX8_both_60
def f_X8_both_b38 (mem : Um) (x0 : Int32) (x1 : Int32) (x2 : Int32) : Option (Um × Int32) :=
  if x2 = 0 then (f_X8_both_b60 mem 0) else (if x0 = 5 then (ugd (unz x2) (f_X8_both_b60 mem (x1 / x2))) else (ugd (unz x2) (f_X8_both_b60 mem (x1 % x2))))
set_option maxRecDepth 20000 in
theorem t_X8_both_b38 {l : Launch} {E : Ue} (mem : Um) (x0 : Int32) (x1 : Int32) (x2 : Int32) (z : Um × Int32) (h : f_X8_both_b38  mem x0 x1 x2 = some z) : ug l E 2 0 0 cX8_both 3 RX8 (some .int) [] (uz_i z) 0 0 38 [(0, .int x0), (1, .int x1), (2, .int x2)] [] mem := by
  rw [f_X8_both_b38] at h
  refine ug_iload_n 2 dX8_both_38 rfl rfl ?_
  refine ug_if_ne 46 dX8_both_39 (by decide) (fun q1 => ?_) (fun q1 => ?_)
  · rw [if_neg q1] at h
    refine ug_iload_n 0 dX8_both_46 rfl rfl ?_
    refine ug_iconst dX8_both_47 un_iconst_5 ?_
    refine ug_icmp_ne 57 dX8_both_48 (by decide) (fun q2 => ?_) (fun q2 => ?_)
    · rw [if_neg q2] at h
      refine ug_iload_n 1 dX8_both_57 rfl rfl ?_
      refine ug_iload_n 2 dX8_both_58 rfl rfl ?_
      obtain ⟨g3, h⟩ := ugd_some h
      refine ug_irem dX8_both_59 (of_decide_eq_true g3) ?_
      refine ug_sub [] [] rfl ?_
      exact t_X8_both_b60 mem (x1 % x2) _ h
    · rw [if_pos q2] at h
      refine ug_iload_n 1 dX8_both_51 rfl rfl ?_
      refine ug_iload_n 2 dX8_both_52 rfl rfl ?_
      obtain ⟨g4, h⟩ := ugd_some h
      refine ug_idiv dX8_both_53 (of_decide_eq_true g4) ?_
      refine ug_goto 60 dX8_both_54 (by decide) ?_
      refine ug_sub [] [] rfl ?_
      exact t_X8_both_b60 mem (x1 / x2) _ h
  · rw [if_pos q1] at h
    refine ug_iconst dX8_both_42 un_iconst_0 ?_
    refine ug_goto 60 dX8_both_43 (by decide) ?_
    refine ug_sub [] [] rfl ?_
    exact t_X8_both_b60 mem 0 _ h
def f_X8_both_b90 (mem : Um) (y0 : Int32) : Option (Um × Int32) :=
  some (mem, y0)
set_option maxRecDepth 20000 in
theorem t_X8_both_b90 {l : Launch} {E : Ue} (mem : Um) (y0 : Int32) (z : Um × Int32) (h : f_X8_both_b90  mem y0 = some z) : ug l E 2 0 0 cX8_both 3 RX8 (some .int) [] (uz_i z) 0 0 90 [] [.int y0] mem := by
  rw [f_X8_both_b90] at h
  obtain rfl := Option.some.inj h
  exact ug_iret dX8_both_90
def f_X8_both_b82 (mem : Um) (x1 : Int32) (x2 : Int32) (y0 : Int32) (y1 : Int32) : Option (Um × Int32) :=
  if y1 = y0 then (f_X8_both_b90 mem x1) else (f_X8_both_b90 mem x2)
set_option maxRecDepth 20000 in
theorem t_X8_both_b82 {l : Launch} {E : Ue} (mem : Um) (x1 : Int32) (x2 : Int32) (y0 : Int32) (y1 : Int32) (z : Um × Int32) (h : f_X8_both_b82  mem x1 x2 y0 y1 = some z) : ug l E 2 0 0 cX8_both 3 RX8 (some .int) [] (uz_i z) 0 0 82 [(1, .int x1), (2, .int x2)] [.int y0, .int y1] mem := by
  rw [f_X8_both_b82] at h
  refine ug_icmp_ne 89 dX8_both_82 (by decide) (fun q1 => ?_) (fun q1 => ?_)
  · rw [if_neg q1] at h
    refine ug_iload_n 1 dX8_both_89 rfl rfl ?_
    refine ug_sub [] [] rfl ?_
    exact t_X8_both_b90 mem x2 _ h
  · rw [if_pos q1] at h
    refine ug_iload_n 0 dX8_both_85 rfl rfl ?_
    refine ug_goto 90 dX8_both_86 (by decide) ?_
    refine ug_sub [] [] rfl ?_
    exact t_X8_both_b90 mem x1 _ h
def f_X8_both_b71 (mem : Um) (x0 : Int32) (x1 : Int32) (x2 : Int32) (y0 : Int32) : Option (Um × Int32) :=
  if x0 = 6 then (f_X8_both_b82 mem x1 x2 1 y0) else (f_X8_both_b82 mem x1 x2 0 y0)
set_option maxRecDepth 20000 in
theorem t_X8_both_b71 {l : Launch} {E : Ue} (mem : Um) (x0 : Int32) (x1 : Int32) (x2 : Int32) (y0 : Int32) (z : Um × Int32) (h : f_X8_both_b71  mem x0 x1 x2 y0 = some z) : ug l E 2 0 0 cX8_both 3 RX8 (some .int) [] (uz_i z) 0 0 71 [(0, .int x0), (1, .int x1), (2, .int x2)] [.int y0] mem := by
  rw [f_X8_both_b71] at h
  refine ug_iload_n 0 dX8_both_71 rfl rfl ?_
  refine ug_bipush dX8_both_72 un_bipush_6 ?_
  refine ug_icmp_ne 81 dX8_both_74 (by decide) (fun q1 => ?_) (fun q1 => ?_)
  · rw [if_neg q1] at h
    refine ug_iconst dX8_both_81 un_iconst_0 ?_
    refine ug_sub [(1, .int x1), (2, .int x2)] [1, 2] rfl ?_
    exact t_X8_both_b82 mem x1 x2 0 y0 _ h
  · rw [if_pos q1] at h
    refine ug_iconst dX8_both_77 un_iconst_1 ?_
    refine ug_goto 82 dX8_both_78 (by decide) ?_
    refine ug_sub [(1, .int x1), (2, .int x2)] [1, 2] rfl ?_
    exact t_X8_both_b82 mem x1 x2 1 y0 _ h
def f_X8_both (mem : Um) (x0 : Int32) (x1 : Int32) (x2 : Int32) : Option (Um × Int32) :=
  if x0 = 2 then (some (mem, (x1 + x2))) else (if x0 = 3 then (some (mem, (x1 - x2))) else (if x0 = 4 then (some (mem, (x1 * x2))) else (if x0 = 5 then (f_X8_both_b38 mem x0 x1 x2) else (if x0 = 8 then (f_X8_both_b38 mem x0 x1 x2) else (if x2 ≤ x1 then (f_X8_both_b71 mem x0 x1 x2 0) else (f_X8_both_b71 mem x0 x1 x2 1))))))
set_option maxRecDepth 20000 in
theorem t_X8_both {l : Launch} {E : Ue} (mem : Um) (x0 : Int32) (x1 : Int32) (x2 : Int32) (z : Um × Int32) (h : f_X8_both  mem x0 x1 x2 = some z) : ug l E 2 0 0 cX8_both 3 RX8 (some .int) [] (uz_i z) 0 0 0 [(0, .int x0), (1, .int x1), (2, .int x2)] [] mem := by
  rw [f_X8_both] at h
  refine ug_iload_n 0 dX8_both_0 rfl rfl ?_
  refine ug_iconst dX8_both_1 un_iconst_2 ?_
  refine ug_icmp_ne 9 dX8_both_2 (by decide) (fun q1 => ?_) (fun q1 => ?_)
  · rw [if_neg q1] at h
    refine ug_iload_n 0 dX8_both_9 rfl rfl ?_
    refine ug_iconst dX8_both_10 un_iconst_3 ?_
    refine ug_icmp_ne 18 dX8_both_11 (by decide) (fun q2 => ?_) (fun q2 => ?_)
    · rw [if_neg q2] at h
      refine ug_iload_n 0 dX8_both_18 rfl rfl ?_
      refine ug_iconst dX8_both_19 un_iconst_4 ?_
      refine ug_icmp_ne 27 dX8_both_20 (by decide) (fun q3 => ?_) (fun q3 => ?_)
      · rw [if_neg q3] at h
        refine ug_iload_n 0 dX8_both_27 rfl rfl ?_
        refine ug_iconst dX8_both_28 un_iconst_5 ?_
        refine ug_icmp_eq 38 dX8_both_29 (by decide) (fun q4 => ?_) (fun q4 => ?_)
        · rw [if_pos q4] at h
          exact t_X8_both_b38 mem x0 x1 x2 _ h
        · rw [if_neg q4] at h
          refine ug_iload_n 0 dX8_both_32 rfl rfl ?_
          refine ug_bipush dX8_both_33 un_bipush_8 ?_
          refine ug_icmp_ne 61 dX8_both_35 (by decide) (fun q5 => ?_) (fun q5 => ?_)
          · rw [if_neg q5] at h
            refine ug_iload_n 1 dX8_both_61 rfl rfl ?_
            refine ug_iload_n 2 dX8_both_62 rfl rfl ?_
            refine ug_icmp_ge 70 dX8_both_63 (by decide) (fun q6 => ?_) (fun q6 => ?_)
            · rw [if_pos q6] at h
              refine ug_iconst dX8_both_70 un_iconst_0 ?_
              exact t_X8_both_b71 mem x0 x1 x2 0 _ h
            · rw [if_neg q6] at h
              refine ug_iconst dX8_both_66 un_iconst_1 ?_
              refine ug_goto 71 dX8_both_67 (by decide) ?_
              exact t_X8_both_b71 mem x0 x1 x2 1 _ h
          · rw [if_pos q5] at h
            exact t_X8_both_b38 mem x0 x1 x2 _ h
      · rw [if_pos q3] at h
        refine ug_iload_n 1 dX8_both_23 rfl rfl ?_
        refine ug_iload_n 2 dX8_both_24 rfl rfl ?_
        refine ug_imul dX8_both_25 ?_
        obtain rfl := Option.some.inj h
        exact ug_iret dX8_both_26
    · rw [if_pos q2] at h
      refine ug_iload_n 1 dX8_both_14 rfl rfl ?_
      refine ug_iload_n 2 dX8_both_15 rfl rfl ?_
      refine ug_isub dX8_both_16 ?_
      obtain rfl := Option.some.inj h
      exact ug_iret dX8_both_17
  · rw [if_pos q1] at h
    refine ug_iload_n 1 dX8_both_5 rfl rfl ?_
    refine ug_iload_n 2 dX8_both_6 rfl rfl ?_
    refine ug_iadd dX8_both_7 ?_
    obtain rfl := Option.some.inj h
    exact ug_iret dX8_both_8
theorem c_X8_both {l : Launch} {E : Ue} {mem : Um} {x0 : Int32} {x1 : Int32} {x2 : Int32} {m1 : Um} {r : Int32} (h : f_X8_both  mem x0 x1 x2 = some (m1, r)) : ucr l E 2 0 0 yX8_both cX8_both 3 (some .int) [.int x0, .int x1, .int x2] mem (some (.int r)) m1 := ucr_of rfl (Nat.le_of_ble_eq_true rfl) (t_X8_both  mem x0 x1 x2 _ h)
-- X8_valueNow
def f_X8_valueNow_b89 (k4 : Um → Int32 → Int32 → Option (Um × Int32)) (mem : Um) (x1 : Int32) (x2 : Int32) : Option (Um × Int32) :=
  k4 mem x1 (x2 + 1)
set_option maxRecDepth 20000 in
theorem t_X8_valueNow_b89 {l : Launch} {E : Ue} (k4 : Um → Int32 → Int32 → Option (Um × Int32)) (hk4 : ∀ (mem : Um) (x1 : Int32) (x2 : Int32) (z : Um × Int32), k4 mem x1 x2 = some z → ug l E 3 0 0 cX8_valueNow 4 RX8 (some .int) [] (uz_i z) 0 0 4 [(0, .ref (ue_d E 38)), (1, .int x1), (2, .int x2)] [] mem) (mem : Um) (x1 : Int32) (x2 : Int32) (z : Um × Int32) (h : f_X8_valueNow_b89 k4 mem x1 x2 = some z) : ug l E 3 0 0 cX8_valueNow 4 RX8 (some .int) [] (uz_i z) 0 0 89 [(0, .ref (ue_d E 38)), (1, .int x1), (2, .int x2)] [] mem := by
  rw [f_X8_valueNow_b89] at h
  refine ug_iinc (v := (x2 + 1)) [(2, .int (x2 + 1)), (0, .ref (ue_d E 38)), (1, .int x1)] 2 dX8_valueNow_89 rfl rfl (Nat.le_of_ble_eq_true rfl) rfl ?_
  refine ug_goto 4 dX8_valueNow_92 (by decide) ?_
  refine ug_sub [(0, .ref (ue_d E 38)), (1, .int x1), (2, .int (x2 + 1))] [1, 2, 0] rfl ?_
  exact hk4 mem x1 (x2 + 1) _ h
def f_X8_valueNow_b53 (k4 : Um → Int32 → Int32 → Option (Um × Int32)) (mem : Um) (x1 : Int32) (x2 : Int32) (y0 : Int32) (y1 : Int32) : Option (Um × Int32) :=
  ugd (uin y1 150) (f_X8_valueNow_b89 k4 (um_w mem 49 y1.toNatClampNeg y0) (x1 + 1) x2)
set_option maxRecDepth 20000 in
theorem t_X8_valueNow_b53 {l : Launch} {E : Ue} (k4 : Um → Int32 → Int32 → Option (Um × Int32)) (hk4 : ∀ (mem : Um) (x1 : Int32) (x2 : Int32) (z : Um × Int32), k4 mem x1 x2 = some z → ug l E 3 0 0 cX8_valueNow 4 RX8 (some .int) [] (uz_i z) 0 0 4 [(0, .ref (ue_d E 38)), (1, .int x1), (2, .int x2)] [] mem) (mem : Um) (x1 : Int32) (x2 : Int32) (y0 : Int32) (y1 : Int32) (z : Um × Int32) (h : f_X8_valueNow_b53 k4 mem x1 x2 y0 y1 = some z) : ug l E 3 0 0 cX8_valueNow 4 RX8 (some .int) [] (uz_i z) 0 0 53 [(0, .ref (ue_d E 38)), (1, .int x1), (2, .int x2)] [.int y0, .int y1, .ref (ue_d E 49)] mem := by
  rw [f_X8_valueNow_b53] at h
  obtain ⟨g1, h⟩ := ugd_some h
  refine ug_iast al_49 (uin_ok g1) dX8_valueNow_53 ?_
  refine ug_iinc (v := (x1 + 1)) [(1, .int (x1 + 1)), (0, .ref (ue_d E 38)), (2, .int x2)] 1 dX8_valueNow_54 rfl rfl (Nat.le_of_ble_eq_true rfl) rfl ?_
  refine ug_goto 89 dX8_valueNow_57 (by decide) ?_
  refine ug_sub [(0, .ref (ue_d E 38)), (1, .int (x1 + 1)), (2, .int x2)] [1, 0, 2] rfl ?_
  exact t_X8_valueNow_b89 k4 hk4 (um_w mem 49 y1.toNatClampNeg y0) (x1 + 1) x2 _ h
def f_X8_valueNow_b4 : Nat → Um → Int32 → Int32 → Option (Um × Int32)
  | 0, _, _, _ => none
  | n + 1, mem, x1, x2 =>
    if (mem 38 26) ≤ x2 then (some (mem, (mem 49 0))) else (ugd (uin x2 150) (if 1 < (mem 47 x2.toNatClampNeg) then (ugd (uin ((x1 + (-1)) - 1) 150) (ugd (uin (x1 + (-1)) 150) (ubi (f_X8_both mem (mem 47 x2.toNatClampNeg) (mem 49 ((x1 + (-1)) - 1).toNatClampNeg) (mem 49 (x1 + (-1)).toNatClampNeg)) (fun m6 r7 => ugd (uin ((x1 + (-1)) - 1) 150) (f_X8_valueNow_b89 (f_X8_valueNow_b4  n) (um_w m6 49 ((x1 + (-1)) - 1).toNatClampNeg r7) (x1 + (-1)) x2))))) else (if (mem 47 x2.toNatClampNeg) = 0 then (ugd (uin x2 150) (f_X8_valueNow_b53 (f_X8_valueNow_b4  n) mem x1 x2 (mem 48 x2.toNatClampNeg) x1)) else (ugd (uin x2 150) (ugd (uin (mem 48 x2.toNatClampNeg) 8) (f_X8_valueNow_b53 (f_X8_valueNow_b4  n) mem x1 x2 (mem 50 (mem 48 x2.toNatClampNeg).toNatClampNeg) x1))))))
set_option maxRecDepth 20000 in
theorem t_X8_valueNow_b4 {l : Launch} {E : Ue} : ∀ (n : Nat) (mem : Um) (x1 : Int32) (x2 : Int32) (z : Um × Int32), f_X8_valueNow_b4  n mem x1 x2 = some z → ug l E 3 0 0 cX8_valueNow 4 RX8 (some .int) [] (uz_i z) 0 0 4 [(0, .ref (ue_d E 38)), (1, .int x1), (2, .int x2)] [] mem := by
  intro n
  induction n with
  | zero =>
    intro mem x1 x2 z h
    rw [f_X8_valueNow_b4] at h
    cases h
  | succ n ih =>
    intro mem x1 x2 z h
    rw [f_X8_valueNow_b4] at h
    refine ug_iload_n 2 dX8_valueNow_4 rfl rfl ?_
    refine ug_aload_n 0 dX8_valueNow_5 rfl rfl ?_
    refine ug_getI kf_X8_164 gi_38_26 dX8_valueNow_6 ?_
    refine ug_icmp_ge 95 dX8_valueNow_9 (by decide) (fun q1 => ?_) (fun q1 => ?_)
    · rw [if_pos q1] at h
      refine ug_aload_n 0 dX8_valueNow_95 rfl rfl ?_
      refine ug_getR kf_X8_47 gr_38_24 dX8_valueNow_96 ?_
      refine ug_iconst dX8_valueNow_99 un_iconst_0 ?_
      refine ug_ialdK al_49 ui_0_150 uc_0 dX8_valueNow_100 ?_
      obtain rfl := Option.some.inj h
      exact ug_iret dX8_valueNow_101
    · rw [if_neg q1] at h
      refine ug_aload_n 0 dX8_valueNow_12 rfl rfl ?_
      refine ug_getR kf_X8_41 gr_38_22 dX8_valueNow_13 ?_
      refine ug_iload_n 2 dX8_valueNow_16 rfl rfl ?_
      obtain ⟨g2, h⟩ := ugd_some h
      refine ug_iald al_47 (uin_ok g2) dX8_valueNow_17 ?_
      refine ug_istore_n [(3, .int (mem 47 x2.toNatClampNeg)), (0, .ref (ue_d E 38)), (1, .int x1), (2, .int x2)] dX8_valueNow_18 rfl (Nat.le_of_ble_eq_true rfl) rfl ?_
      refine ug_iload_n 0 dX8_valueNow_19 rfl rfl ?_
      refine ug_iconst dX8_valueNow_20 un_iconst_1 ?_
      refine ug_icmp_gt 60 dX8_valueNow_21 (by decide) (fun q3 => ?_) (fun q3 => ?_)
      · rw [if_pos q3] at h
        refine ug_iinc (v := (x1 + (-1))) [(1, .int (x1 + (-1))), (3, .int (mem 47 x2.toNatClampNeg)), (0, .ref (ue_d E 38)), (2, .int x2)] 2 dX8_valueNow_60 rfl rfl (Nat.le_of_ble_eq_true rfl) rfl ?_
        refine ug_aload_n 2 dX8_valueNow_63 rfl rfl ?_
        refine ug_getR kf_X8_47 gr_38_24 dX8_valueNow_64 ?_
        refine ug_iload_n 0 dX8_valueNow_67 rfl rfl ?_
        refine ug_iconst dX8_valueNow_68 un_iconst_1 ?_
        refine ug_isub dX8_valueNow_69 ?_
        refine ug_iload_n 1 dX8_valueNow_70 rfl rfl ?_
        refine ug_aload_n 2 dX8_valueNow_71 rfl rfl ?_
        refine ug_getR kf_X8_47 gr_38_24 dX8_valueNow_72 ?_
        refine ug_iload_n 0 dX8_valueNow_75 rfl rfl ?_
        refine ug_iconst dX8_valueNow_76 un_iconst_1 ?_
        refine ug_isub dX8_valueNow_77 ?_
        obtain ⟨g4, h⟩ := ugd_some h
        refine ug_iald al_49 (uin_ok g4) dX8_valueNow_78 ?_
        refine ug_aload_n 2 dX8_valueNow_79 rfl rfl ?_
        refine ug_getR kf_X8_47 gr_38_24 dX8_valueNow_80 ?_
        refine ug_iload_n 0 dX8_valueNow_83 rfl rfl ?_
        obtain ⟨g5, h⟩ := ugd_some h
        refine ug_iald al_49 (uin_ok g5) dX8_valueNow_84 ?_
        obtain ⟨m6, r7, h8, h⟩ := ubi_some h
        refine ug_callSi [.int (mem 47 x2.toNatClampNeg), .int (mem 49 ((x1 + (-1)) - 1).toNatClampNeg), .int (mem 49 (x1 + (-1)).toNatClampNeg)] (c_X8_both  h8) kc_X8_262 rfl (S := [.int ((x1 + (-1)) - 1), .ref (ue_d E 49)]) rfl (Nat.le_of_ble_eq_true rfl) (Nat.le_of_ble_eq_true rfl) (Nat.le_of_ble_eq_true rfl) dX8_valueNow_85 ?_
        obtain ⟨g9, h⟩ := ugd_some h
        refine ug_iast al_49 (uin_ok g9) dX8_valueNow_88 ?_
        refine ug_sub [(0, .ref (ue_d E 38)), (1, .int (x1 + (-1))), (2, .int x2)] [2, 0, 3] rfl ?_
        exact t_X8_valueNow_b89 (f_X8_valueNow_b4  n) ih (um_w m6 49 ((x1 + (-1)) - 1).toNatClampNeg r7) (x1 + (-1)) x2 _ h
      · rw [if_neg q3] at h
        refine ug_aload_n 1 dX8_valueNow_24 rfl rfl ?_
        refine ug_getR kf_X8_47 gr_38_24 dX8_valueNow_25 ?_
        refine ug_iload_n 2 dX8_valueNow_28 rfl rfl ?_
        refine ug_iload_n 0 dX8_valueNow_29 rfl rfl ?_
        refine ug_if_ne 42 dX8_valueNow_30 (by decide) (fun q10 => ?_) (fun q10 => ?_)
        · rw [if_neg q10] at h
          refine ug_aload_n 1 dX8_valueNow_42 rfl rfl ?_
          refine ug_getR kf_X8_50 gr_38_27 dX8_valueNow_43 ?_
          refine ug_aload_n 1 dX8_valueNow_46 rfl rfl ?_
          refine ug_getR kf_X8_44 gr_38_23 dX8_valueNow_47 ?_
          refine ug_iload_n 3 dX8_valueNow_50 rfl rfl ?_
          obtain ⟨g11, h⟩ := ugd_some h
          refine ug_iald al_48 (uin_ok g11) dX8_valueNow_51 ?_
          obtain ⟨g12, h⟩ := ugd_some h
          refine ug_iald al_50 (uin_ok g12) dX8_valueNow_52 ?_
          refine ug_sub [(0, .ref (ue_d E 38)), (1, .int x1), (2, .int x2)] [1, 2, 3] rfl ?_
          exact t_X8_valueNow_b53 (f_X8_valueNow_b4  n) ih mem x1 x2 (mem 50 (mem 48 x2.toNatClampNeg).toNatClampNeg) x1 _ h
        · rw [if_pos q10] at h
          refine ug_aload_n 1 dX8_valueNow_33 rfl rfl ?_
          refine ug_getR kf_X8_44 gr_38_23 dX8_valueNow_34 ?_
          refine ug_iload_n 3 dX8_valueNow_37 rfl rfl ?_
          obtain ⟨g13, h⟩ := ugd_some h
          refine ug_iald al_48 (uin_ok g13) dX8_valueNow_38 ?_
          refine ug_goto 53 dX8_valueNow_39 (by decide) ?_
          refine ug_sub [(0, .ref (ue_d E 38)), (1, .int x1), (2, .int x2)] [1, 2, 3] rfl ?_
          exact t_X8_valueNow_b53 (f_X8_valueNow_b4  n) ih mem x1 x2 (mem 48 x2.toNatClampNeg) x1 _ h
def f_X8_valueNow (mem : Um) : Option (Um × Int32) :=
  f_X8_valueNow_b4  UF mem 0 0
set_option maxRecDepth 20000 in
theorem t_X8_valueNow {l : Launch} {E : Ue} (mem : Um) (z : Um × Int32) (h : f_X8_valueNow  mem  = some z) : ug l E 3 0 0 cX8_valueNow 4 RX8 (some .int) [] (uz_i z) 0 0 0 [(0, .ref (ue_d E 38))] [] mem := by
  rw [f_X8_valueNow] at h
  refine ug_iconst dX8_valueNow_0 un_iconst_0 ?_
  refine ug_istore_n [(1, .int 0), (0, .ref (ue_d E 38))] dX8_valueNow_1 rfl (Nat.le_of_ble_eq_true rfl) rfl ?_
  refine ug_iconst dX8_valueNow_2 un_iconst_0 ?_
  refine ug_istore_n [(2, .int 0), (1, .int 0), (0, .ref (ue_d E 38))] dX8_valueNow_3 rfl (Nat.le_of_ble_eq_true rfl) rfl ?_
  refine ug_sub [(0, .ref (ue_d E 38)), (1, .int 0), (2, .int 0)] [2, 1, 0] rfl ?_
  exact t_X8_valueNow_b4  UF mem 0 0 _ h
theorem c_X8_valueNow {l : Launch} {E : Ue} {mem : Um} {m1 : Um} {r : Int32} (h : f_X8_valueNow  mem  = some (m1, r)) : ucr l E 3 0 0 yX8_valueNow cX8_valueNow 4 (some .int) [.ref (ue_d E 38)] mem (some (.int r)) m1 := ucr_of rfl (Nat.le_of_ble_eq_true rfl) (t_X8_valueNow  mem  _ h)
-- X8_lifeNow
def f_X8_lifeNow_b60 (mem : Um) (y0 : Int32) : Option (Um × Int32) :=
  some (mem, y0)
set_option maxRecDepth 20000 in
theorem t_X8_lifeNow_b60 {l : Launch} {E : Ue} (mem : Um) (y0 : Int32) (z : Um × Int32) (h : f_X8_lifeNow_b60  mem y0 = some z) : ug l E 4 0 0 cX8_lifeNow 2 RX8 (some .int) [] (uz_i z) 0 0 60 [] [.int y0] mem := by
  rw [f_X8_lifeNow_b60] at h
  obtain rfl := Option.some.inj h
  exact ug_iret dX8_lifeNow_60
def f_X8_lifeNow_b38 (mem : Um) (y0 : Int32) : Option (Um × Int32) :=
  if 1 ≤ y0 then (if y0 ≤ 60 then (f_X8_lifeNow_b60 mem y0) else (f_X8_lifeNow_b60 mem 60)) else (f_X8_lifeNow_b60 mem 1)
set_option maxRecDepth 20000 in
theorem t_X8_lifeNow_b38 {l : Launch} {E : Ue} (mem : Um) (y0 : Int32) (z : Um × Int32) (h : f_X8_lifeNow_b38  mem y0 = some z) : ug l E 4 0 0 cX8_lifeNow 2 RX8 (some .int) [] (uz_i z) 0 0 38 [] [.int y0] mem := by
  rw [f_X8_lifeNow_b38] at h
  refine ug_istore_n [(1, .int y0)] dX8_lifeNow_38 rfl (Nat.le_of_ble_eq_true rfl) rfl ?_
  refine ug_iload_n 0 dX8_lifeNow_39 rfl rfl ?_
  refine ug_iconst dX8_lifeNow_40 un_iconst_1 ?_
  refine ug_icmp_ge 48 dX8_lifeNow_41 (by decide) (fun q1 => ?_) (fun q1 => ?_)
  · rw [if_pos q1] at h
    refine ug_iload_n 0 dX8_lifeNow_48 rfl rfl ?_
    refine ug_bipush dX8_lifeNow_49 un_bipush_60 ?_
    refine ug_icmp_le 59 dX8_lifeNow_51 (by decide) (fun q2 => ?_) (fun q2 => ?_)
    · rw [if_pos q2] at h
      refine ug_iload_n 0 dX8_lifeNow_59 rfl rfl ?_
      refine ug_sub [] [] rfl ?_
      exact t_X8_lifeNow_b60 mem y0 _ h
    · rw [if_neg q2] at h
      refine ug_bipush dX8_lifeNow_54 un_bipush_60 ?_
      refine ug_goto 60 dX8_lifeNow_56 (by decide) ?_
      refine ug_sub [] [] rfl ?_
      exact t_X8_lifeNow_b60 mem 60 _ h
  · rw [if_neg q1] at h
    refine ug_iconst dX8_lifeNow_44 un_iconst_1 ?_
    refine ug_goto 60 dX8_lifeNow_45 (by decide) ?_
    refine ug_sub [] [] rfl ?_
    exact t_X8_lifeNow_b60 mem 1 _ h
def f_X8_lifeNow (mem : Um) : Option (Um × Int32) :=
  if (mem 38 26) = 0 then (f_X8_lifeNow_b38 mem (((2 * (mem 50 1)) - ((mem 50 0) / 2)) + (mem 50 2))) else (ubi (f_X8_valueNow mem) (fun m2 r3 => f_X8_lifeNow_b38 m2 r3))
set_option maxRecDepth 20000 in
theorem t_X8_lifeNow {l : Launch} {E : Ue} (mem : Um) (z : Um × Int32) (h : f_X8_lifeNow  mem  = some z) : ug l E 4 0 0 cX8_lifeNow 2 RX8 (some .int) [] (uz_i z) 0 0 0 [(0, .ref (ue_d E 38))] [] mem := by
  rw [f_X8_lifeNow] at h
  refine ug_aload_n 0 dX8_lifeNow_0 rfl rfl ?_
  refine ug_getI kf_X8_164 gi_38_26 dX8_lifeNow_1 ?_
  refine ug_if_ne 34 dX8_lifeNow_4 (by decide) (fun q1 => ?_) (fun q1 => ?_)
  · rw [if_neg q1] at h
    refine ug_aload_n 0 dX8_lifeNow_34 rfl rfl ?_
    obtain ⟨m2, r3, h4, h⟩ := ubi_some h
    refine ug_callVi [] (c_X8_valueNow  h4) kc_X8_266 ro_38 rfl (S := []) rfl (Nat.le_of_ble_eq_true rfl) (Nat.le_of_ble_eq_true rfl) (Nat.le_of_ble_eq_true rfl) dX8_lifeNow_35 ?_
    refine ug_sub [] [] rfl ?_
    exact t_X8_lifeNow_b38 m2 r3 _ h
  · rw [if_pos q1] at h
    refine ug_iconst dX8_lifeNow_7 un_iconst_2 ?_
    refine ug_aload_n 0 dX8_lifeNow_8 rfl rfl ?_
    refine ug_getR kf_X8_50 gr_38_27 dX8_lifeNow_9 ?_
    refine ug_iconst dX8_lifeNow_12 un_iconst_1 ?_
    refine ug_ialdK al_50 ui_1_8 uc_1 dX8_lifeNow_13 ?_
    refine ug_imul dX8_lifeNow_14 ?_
    refine ug_aload_n 0 dX8_lifeNow_15 rfl rfl ?_
    refine ug_getR kf_X8_50 gr_38_27 dX8_lifeNow_16 ?_
    refine ug_iconst dX8_lifeNow_19 un_iconst_0 ?_
    refine ug_ialdK al_50 ui_0_8 uc_0 dX8_lifeNow_20 ?_
    refine ug_iconst dX8_lifeNow_21 un_iconst_2 ?_
    refine ug_idiv dX8_lifeNow_22 (by decide) ?_
    refine ug_isub dX8_lifeNow_23 ?_
    refine ug_aload_n 0 dX8_lifeNow_24 rfl rfl ?_
    refine ug_getR kf_X8_50 gr_38_27 dX8_lifeNow_25 ?_
    refine ug_iconst dX8_lifeNow_28 un_iconst_2 ?_
    refine ug_ialdK al_50 ui_2_8 uc_2 dX8_lifeNow_29 ?_
    refine ug_iadd dX8_lifeNow_30 ?_
    refine ug_goto 38 dX8_lifeNow_31 (by decide) ?_
    refine ug_sub [] [] rfl ?_
    exact t_X8_lifeNow_b38 mem (((2 * (mem 50 1)) - ((mem 50 0) / 2)) + (mem 50 2)) _ h
theorem c_X8_lifeNow {l : Launch} {E : Ue} {mem : Um} {m1 : Um} {r : Int32} (h : f_X8_lifeNow  mem  = some (m1, r)) : ucr l E 4 0 0 yX8_lifeNow cX8_lifeNow 2 (some .int) [.ref (ue_d E 38)] mem (some (.int r)) m1 := ucr_of rfl (Nat.le_of_ble_eq_true rfl) (t_X8_lifeNow  mem  _ h)
-- X8_tellsStep
def f_X8_tellsStep (mem : Um) (x1 : Int32) (x2 : Int32) (x3 : Int32) (x4 : Int32) : Option (Um × Unit) :=
  ubi (f_X8_fine mem) (fun m1 r2 => if r2 = 0 then (some (m1, ())) else (ugd (uin (m1 38 30) 200) (ugd (uin (((um_w m1 51 (m1 38 30).toNatClampNeg x1) 38 30) + 1) 200) (ugd (uin (((um_w (um_w m1 51 (m1 38 30).toNatClampNeg x1) 51 (((um_w m1 51 (m1 38 30).toNatClampNeg x1) 38 30) + 1).toNatClampNeg x2) 38 30) + 2) 200) (ugd (uin (((um_w (um_w (um_w m1 51 (m1 38 30).toNatClampNeg x1) 51 (((um_w m1 51 (m1 38 30).toNatClampNeg x1) 38 30) + 1).toNatClampNeg x2) 51 (((um_w (um_w m1 51 (m1 38 30).toNatClampNeg x1) 51 (((um_w m1 51 (m1 38 30).toNatClampNeg x1) 38 30) + 1).toNatClampNeg x2) 38 30) + 2).toNatClampNeg x3) 38 30) + 3) 200) (some ((um_w (um_w (um_w (um_w (um_w m1 51 (m1 38 30).toNatClampNeg x1) 51 (((um_w m1 51 (m1 38 30).toNatClampNeg x1) 38 30) + 1).toNatClampNeg x2) 51 (((um_w (um_w m1 51 (m1 38 30).toNatClampNeg x1) 51 (((um_w m1 51 (m1 38 30).toNatClampNeg x1) 38 30) + 1).toNatClampNeg x2) 38 30) + 2).toNatClampNeg x3) 51 (((um_w (um_w (um_w m1 51 (m1 38 30).toNatClampNeg x1) 51 (((um_w m1 51 (m1 38 30).toNatClampNeg x1) 38 30) + 1).toNatClampNeg x2) 51 (((um_w (um_w m1 51 (m1 38 30).toNatClampNeg x1) 51 (((um_w m1 51 (m1 38 30).toNatClampNeg x1) 38 30) + 1).toNatClampNeg x2) 38 30) + 2).toNatClampNeg x3) 38 30) + 3).toNatClampNeg x4) 38 30 (((um_w (um_w (um_w (um_w m1 51 (m1 38 30).toNatClampNeg x1) 51 (((um_w m1 51 (m1 38 30).toNatClampNeg x1) 38 30) + 1).toNatClampNeg x2) 51 (((um_w (um_w m1 51 (m1 38 30).toNatClampNeg x1) 51 (((um_w m1 51 (m1 38 30).toNatClampNeg x1) 38 30) + 1).toNatClampNeg x2) 38 30) + 2).toNatClampNeg x3) 51 (((um_w (um_w (um_w m1 51 (m1 38 30).toNatClampNeg x1) 51 (((um_w m1 51 (m1 38 30).toNatClampNeg x1) 38 30) + 1).toNatClampNeg x2) 51 (((um_w (um_w m1 51 (m1 38 30).toNatClampNeg x1) 51 (((um_w m1 51 (m1 38 30).toNatClampNeg x1) 38 30) + 1).toNatClampNeg x2) 38 30) + 2).toNatClampNeg x3) 38 30) + 3).toNatClampNeg x4) 38 30) + 4)), ())))))))
set_option maxRecDepth 20000 in
theorem t_X8_tellsStep {l : Launch} {E : Ue} (mem : Um) (x1 : Int32) (x2 : Int32) (x3 : Int32) (x4 : Int32) (z : Um × Unit) (h : f_X8_tellsStep  mem x1 x2 x3 x4 = some z) : ug l E 3 0 0 cX8_tellsStep 5 RX8 none [] (uz_v z) 0 0 0 [(0, .ref (ue_d E 38)), (1, .int x1), (2, .int x2), (3, .int x3), (4, .int x4)] [] mem := by
  rw [f_X8_tellsStep] at h
  refine ug_aload_n 0 dX8_tellsStep_0 rfl rfl ?_
  obtain ⟨m1, r2, h3, h⟩ := ubi_some h
  refine ug_callVi [] (c_X8_fine  h3) kc_X8_128 ro_38 rfl (S := []) rfl (Nat.le_of_ble_eq_true rfl) (Nat.le_of_ble_eq_true rfl) (Nat.le_of_ble_eq_true rfl) dX8_tellsStep_1 ?_
  refine ug_if_ne 8 dX8_tellsStep_4 (by decide) (fun q4 => ?_) (fun q4 => ?_)
  · rw [if_neg q4] at h
    refine ug_aload_n 0 dX8_tellsStep_8 rfl rfl ?_
    refine ug_getR kf_X8_53 gr_38_28 dX8_tellsStep_9 ?_
    refine ug_aload_n 0 dX8_tellsStep_12 rfl rfl ?_
    refine ug_getI kf_X8_269 gi_38_30 dX8_tellsStep_13 ?_
    refine ug_iload_n 1 dX8_tellsStep_16 rfl rfl ?_
    obtain ⟨g5, h⟩ := ugd_some h
    refine ug_iast al_51 (uin_ok g5) dX8_tellsStep_17 ?_
    refine ug_aload_n 0 dX8_tellsStep_18 rfl rfl ?_
    refine ug_getR kf_X8_53 gr_38_28 dX8_tellsStep_19 ?_
    refine ug_aload_n 0 dX8_tellsStep_22 rfl rfl ?_
    refine ug_getI kf_X8_269 gi_38_30 dX8_tellsStep_23 ?_
    refine ug_iconst dX8_tellsStep_26 un_iconst_1 ?_
    refine ug_iadd dX8_tellsStep_27 ?_
    refine ug_iload_n 2 dX8_tellsStep_28 rfl rfl ?_
    obtain ⟨g6, h⟩ := ugd_some h
    refine ug_iast al_51 (uin_ok g6) dX8_tellsStep_29 ?_
    refine ug_aload_n 0 dX8_tellsStep_30 rfl rfl ?_
    refine ug_getR kf_X8_53 gr_38_28 dX8_tellsStep_31 ?_
    refine ug_aload_n 0 dX8_tellsStep_34 rfl rfl ?_
    refine ug_getI kf_X8_269 gi_38_30 dX8_tellsStep_35 ?_
    refine ug_iconst dX8_tellsStep_38 un_iconst_2 ?_
    refine ug_iadd dX8_tellsStep_39 ?_
    refine ug_iload_n 3 dX8_tellsStep_40 rfl rfl ?_
    obtain ⟨g7, h⟩ := ugd_some h
    refine ug_iast al_51 (uin_ok g7) dX8_tellsStep_41 ?_
    refine ug_aload_n 0 dX8_tellsStep_42 rfl rfl ?_
    refine ug_getR kf_X8_53 gr_38_28 dX8_tellsStep_43 ?_
    refine ug_aload_n 0 dX8_tellsStep_46 rfl rfl ?_
    refine ug_getI kf_X8_269 gi_38_30 dX8_tellsStep_47 ?_
    refine ug_iconst dX8_tellsStep_50 un_iconst_3 ?_
    refine ug_iadd dX8_tellsStep_51 ?_
    refine ug_iload 4 dX8_tellsStep_52 rfl ?_
    obtain ⟨g8, h⟩ := ugd_some h
    refine ug_iast al_51 (uin_ok g8) dX8_tellsStep_54 ?_
    refine ug_aload_n 0 dX8_tellsStep_55 rfl rfl ?_
    refine ug_dup dX8_tellsStep_56 rfl ?_
    refine ug_getI kf_X8_269 gi_38_30 dX8_tellsStep_57 ?_
    refine ug_iconst dX8_tellsStep_60 un_iconst_4 ?_
    refine ug_iadd dX8_tellsStep_61 ?_
    refine ug_putI kp_X8_269 gi_38_30 dX8_tellsStep_62 ?_
    obtain rfl := Option.some.inj h
    exact ug_vret dX8_tellsStep_65
  · rw [if_pos q4] at h
    obtain rfl := Option.some.inj h
    exact ug_vret dX8_tellsStep_7
theorem c_X8_tellsStep {l : Launch} {E : Ue} {mem : Um} {x1 : Int32} {x2 : Int32} {x3 : Int32} {x4 : Int32} {m1 : Um} {r : Unit} (h : f_X8_tellsStep  mem x1 x2 x3 x4 = some (m1, r)) : ucr l E 3 0 0 yX8_tellsStep cX8_tellsStep 5 none [.ref (ue_d E 38), .int x1, .int x2, .int x3, .int x4] mem none m1 := ucr_of rfl (Nat.le_of_ble_eq_true rfl) (t_X8_tellsStep  mem x1 x2 x3 x4 _ h)
-- X8_stepOf
def f_X8_stepOf_b114 (mem : Um) (y0 : Int32) : Option (Um × Int32) :=
  some (mem, y0)
set_option maxRecDepth 20000 in
theorem t_X8_stepOf_b114 {l : Launch} {E : Ue} (mem : Um) (y0 : Int32) (z : Um × Int32) (h : f_X8_stepOf_b114  mem y0 = some z) : ug l E 7 0 0 cX8_stepOf 1 RX8 (some .int) [] (uz_i z) 0 0 114 [] [.int y0] mem := by
  rw [f_X8_stepOf_b114] at h
  obtain rfl := Option.some.inj h
  exact ug_iret dX8_stepOf_114
def f_X8_stepOf (mem : Um) (x0 : Int32) : Option (Um × Int32) :=
  ubi (f_X8_of 11 mem) (fun m1 r2 => if x0 = r2 then (f_X8_stepOf_b114 m1 0) else (ubi (f_X8_of 12 m1) (fun m5 r6 => if x0 = r6 then (f_X8_stepOf_b114 m5 1) else (ubi (f_X8_of 13 m5) (fun m9 r10 => if x0 = r10 then (f_X8_stepOf_b114 m9 2) else (ubi (f_X8_of 14 m9) (fun m13 r14 => if x0 = r14 then (f_X8_stepOf_b114 m13 3) else (ubi (f_X8_of 15 m13) (fun m17 r18 => if x0 = r18 then (f_X8_stepOf_b114 m17 4) else (ubi (f_X8_of 16 m17) (fun m21 r22 => if x0 = r22 then (f_X8_stepOf_b114 m21 5) else (ubi (f_X8_of 9 m21) (fun m25 r26 => if x0 = r26 then (f_X8_stepOf_b114 m25 6) else (ubi (f_X8_of 17 m25) (fun m29 r30 => if x0 = r30 then (f_X8_stepOf_b114 m29 7) else (f_X8_stepOf_b114 m29 (-1)))))))))))))))))
set_option maxRecDepth 20000 in
theorem t_X8_stepOf {l : Launch} {E : Ue} (mem : Um) (x0 : Int32) (z : Um × Int32) (h : f_X8_stepOf  mem x0 = some z) : ug l E 7 0 0 cX8_stepOf 1 RX8 (some .int) [] (uz_i z) 0 0 0 [(0, .int x0)] [] mem := by
  rw [f_X8_stepOf] at h
  refine ug_iload_n 0 dX8_stepOf_0 rfl rfl ?_
  refine ug_ldcSw 32 (tx := "blow") (n := 11) rfl dX8_stepOf_1 ?_
  obtain ⟨m1, r2, h3, h⟩ := ubi_some h
  refine ug_callSi [.ref (ue_aK E 11)] (c_X8_of (by decide) h3) kc_X8_180 rfl (S := [.int x0]) rfl (Nat.le_of_ble_eq_true rfl) (Nat.le_of_ble_eq_true rfl) (Nat.le_of_ble_eq_true rfl) dX8_stepOf_4 ?_
  refine ug_icmp_ne 14 dX8_stepOf_7 (by decide) (fun q4 => ?_) (fun q4 => ?_)
  · rw [if_neg q4] at h
    refine ug_iload_n 0 dX8_stepOf_14 rfl rfl ?_
    refine ug_ldcSw 33 (tx := "east") (n := 12) rfl dX8_stepOf_15 ?_
    obtain ⟨m5, r6, h7, h⟩ := ubi_some h
    refine ug_callSi [.ref (ue_aK E 12)] (c_X8_of (by decide) h7) kc_X8_180 rfl (S := [.int x0]) rfl (Nat.le_of_ble_eq_true rfl) (Nat.le_of_ble_eq_true rfl) (Nat.le_of_ble_eq_true rfl) dX8_stepOf_18 ?_
    refine ug_icmp_ne 28 dX8_stepOf_21 (by decide) (fun q8 => ?_) (fun q8 => ?_)
    · rw [if_neg q8] at h
      refine ug_iload_n 0 dX8_stepOf_28 rfl rfl ?_
      refine ug_ldcSw 34 (tx := "west") (n := 13) rfl dX8_stepOf_29 ?_
      obtain ⟨m9, r10, h11, h⟩ := ubi_some h
      refine ug_callSi [.ref (ue_aK E 13)] (c_X8_of (by decide) h11) kc_X8_180 rfl (S := [.int x0]) rfl (Nat.le_of_ble_eq_true rfl) (Nat.le_of_ble_eq_true rfl) (Nat.le_of_ble_eq_true rfl) dX8_stepOf_32 ?_
      refine ug_icmp_ne 42 dX8_stepOf_35 (by decide) (fun q12 => ?_) (fun q12 => ?_)
      · rw [if_neg q12] at h
        refine ug_iload_n 0 dX8_stepOf_42 rfl rfl ?_
        refine ug_ldcSw 35 (tx := "run") (n := 14) rfl dX8_stepOf_43 ?_
        obtain ⟨m13, r14, h15, h⟩ := ubi_some h
        refine ug_callSi [.ref (ue_aK E 14)] (c_X8_of (by decide) h15) kc_X8_180 rfl (S := [.int x0]) rfl (Nat.le_of_ble_eq_true rfl) (Nat.le_of_ble_eq_true rfl) (Nat.le_of_ble_eq_true rfl) dX8_stepOf_46 ?_
        refine ug_icmp_ne 56 dX8_stepOf_49 (by decide) (fun q16 => ?_) (fun q16 => ?_)
        · rw [if_neg q16] at h
          refine ug_iload_n 0 dX8_stepOf_56 rfl rfl ?_
          refine ug_ldcSw 36 (tx := "sell") (n := 15) rfl dX8_stepOf_57 ?_
          obtain ⟨m17, r18, h19, h⟩ := ubi_some h
          refine ug_callSi [.ref (ue_aK E 15)] (c_X8_of (by decide) h19) kc_X8_180 rfl (S := [.int x0]) rfl (Nat.le_of_ble_eq_true rfl) (Nat.le_of_ble_eq_true rfl) (Nat.le_of_ble_eq_true rfl) dX8_stepOf_60 ?_
          refine ug_icmp_ne 70 dX8_stepOf_63 (by decide) (fun q20 => ?_) (fun q20 => ?_)
          · rw [if_neg q20] at h
            refine ug_iload_n 0 dX8_stepOf_70 rfl rfl ?_
            refine ug_ldcSw 37 (tx := "keep") (n := 16) rfl dX8_stepOf_71 ?_
            obtain ⟨m21, r22, h23, h⟩ := ubi_some h
            refine ug_callSi [.ref (ue_aK E 16)] (c_X8_of (by decide) h23) kc_X8_180 rfl (S := [.int x0]) rfl (Nat.le_of_ble_eq_true rfl) (Nat.le_of_ble_eq_true rfl) (Nat.le_of_ble_eq_true rfl) dX8_stepOf_74 ?_
            refine ug_icmp_ne 84 dX8_stepOf_77 (by decide) (fun q24 => ?_) (fun q24 => ?_)
            · rw [if_neg q24] at h
              refine ug_iload_n 0 dX8_stepOf_84 rfl rfl ?_
              refine ug_ldcS 30 (tx := "breath") (n := 9) rfl dX8_stepOf_85 ?_
              obtain ⟨m25, r26, h27, h⟩ := ubi_some h
              refine ug_callSi [.ref (ue_aK E 9)] (c_X8_of (by decide) h27) kc_X8_180 rfl (S := [.int x0]) rfl (Nat.le_of_ble_eq_true rfl) (Nat.le_of_ble_eq_true rfl) (Nat.le_of_ble_eq_true rfl) dX8_stepOf_87 ?_
              refine ug_icmp_ne 98 dX8_stepOf_90 (by decide) (fun q28 => ?_) (fun q28 => ?_)
              · rw [if_neg q28] at h
                refine ug_iload_n 0 dX8_stepOf_98 rfl rfl ?_
                refine ug_ldcSw 38 (tx := "again") (n := 17) rfl dX8_stepOf_99 ?_
                obtain ⟨m29, r30, h31, h⟩ := ubi_some h
                refine ug_callSi [.ref (ue_aK E 17)] (c_X8_of (by decide) h31) kc_X8_180 rfl (S := [.int x0]) rfl (Nat.le_of_ble_eq_true rfl) (Nat.le_of_ble_eq_true rfl) (Nat.le_of_ble_eq_true rfl) dX8_stepOf_102 ?_
                refine ug_icmp_ne 113 dX8_stepOf_105 (by decide) (fun q32 => ?_) (fun q32 => ?_)
                · rw [if_neg q32] at h
                  refine ug_iconst dX8_stepOf_113 un_iconst_m1 ?_
                  refine ug_sub [] [] rfl ?_
                  exact t_X8_stepOf_b114 m29 (-1) _ h
                · rw [if_pos q32] at h
                  refine ug_bipush dX8_stepOf_108 un_bipush_7 ?_
                  refine ug_goto 114 dX8_stepOf_110 (by decide) ?_
                  refine ug_sub [] [] rfl ?_
                  exact t_X8_stepOf_b114 m29 7 _ h
              · rw [if_pos q28] at h
                refine ug_bipush dX8_stepOf_93 un_bipush_6 ?_
                refine ug_goto 114 dX8_stepOf_95 (by decide) ?_
                refine ug_sub [] [] rfl ?_
                exact t_X8_stepOf_b114 m25 6 _ h
            · rw [if_pos q24] at h
              refine ug_iconst dX8_stepOf_80 un_iconst_5 ?_
              refine ug_goto 114 dX8_stepOf_81 (by decide) ?_
              refine ug_sub [] [] rfl ?_
              exact t_X8_stepOf_b114 m21 5 _ h
          · rw [if_pos q20] at h
            refine ug_iconst dX8_stepOf_66 un_iconst_4 ?_
            refine ug_goto 114 dX8_stepOf_67 (by decide) ?_
            refine ug_sub [] [] rfl ?_
            exact t_X8_stepOf_b114 m17 4 _ h
        · rw [if_pos q16] at h
          refine ug_iconst dX8_stepOf_52 un_iconst_3 ?_
          refine ug_goto 114 dX8_stepOf_53 (by decide) ?_
          refine ug_sub [] [] rfl ?_
          exact t_X8_stepOf_b114 m13 3 _ h
      · rw [if_pos q12] at h
        refine ug_iconst dX8_stepOf_38 un_iconst_2 ?_
        refine ug_goto 114 dX8_stepOf_39 (by decide) ?_
        refine ug_sub [] [] rfl ?_
        exact t_X8_stepOf_b114 m9 2 _ h
    · rw [if_pos q8] at h
      refine ug_iconst dX8_stepOf_24 un_iconst_1 ?_
      refine ug_goto 114 dX8_stepOf_25 (by decide) ?_
      refine ug_sub [] [] rfl ?_
      exact t_X8_stepOf_b114 m5 1 _ h
  · rw [if_pos q4] at h
    refine ug_iconst dX8_stepOf_10 un_iconst_0 ?_
    refine ug_goto 114 dX8_stepOf_11 (by decide) ?_
    refine ug_sub [] [] rfl ?_
    exact t_X8_stepOf_b114 m1 0 _ h
theorem c_X8_stepOf {l : Launch} {E : Ue} {mem : Um} {x0 : Int32} {m1 : Um} {r : Int32} (h : f_X8_stepOf  mem x0 = some (m1, r)) : ucr l E 7 0 0 yX8_stepOf cX8_stepOf 1 (some .int) [.int x0] mem (some (.int r)) m1 := ucr_of rfl (Nat.le_of_ble_eq_true rfl) (t_X8_stepOf  mem x0 _ h)
-- X8_readTenant
def f_X8_readTenant (mem : Um) : Option (Um × Int32) :=
  ubi (f_X8_readNumber mem 0 ((mem 38 18) - 1)) (fun m1 r2 => some (m1, r2))
set_option maxRecDepth 20000 in
theorem t_X8_readTenant {l : Launch} {E : Ue} (mem : Um) (z : Um × Int32) (h : f_X8_readTenant  mem  = some z) : ug l E 4 0 0 cX8_readTenant 1 RX8 (some .int) [] (uz_i z) 0 0 0 [(0, .ref (ue_d E 38))] [] mem := by
  rw [f_X8_readTenant] at h
  refine ug_aload_n 0 dX8_readTenant_0 rfl rfl ?_
  refine ug_iconst dX8_readTenant_1 un_iconst_0 ?_
  refine ug_aload_n 0 dX8_readTenant_2 rfl rfl ?_
  refine ug_getI kf_X8_154 gi_38_18 dX8_readTenant_3 ?_
  refine ug_iconst dX8_readTenant_6 un_iconst_1 ?_
  refine ug_isub dX8_readTenant_7 ?_
  obtain ⟨m1, r2, h3, h⟩ := ubi_some h
  refine ug_callVi [.int 0, .int ((mem 38 18) - 1)] (c_X8_readNumber  h3) kc_X8_186 ro_38 rfl (S := []) rfl (Nat.le_of_ble_eq_true rfl) (Nat.le_of_ble_eq_true rfl) (Nat.le_of_ble_eq_true rfl) dX8_readTenant_8 ?_
  obtain rfl := Option.some.inj h
  exact ug_iret dX8_readTenant_11
theorem c_X8_readTenant {l : Launch} {E : Ue} {mem : Um} {m1 : Um} {r : Int32} (h : f_X8_readTenant  mem  = some (m1, r)) : ucr l E 4 0 0 yX8_readTenant cX8_readTenant 1 (some .int) [.ref (ue_d E 38)] mem (some (.int r)) m1 := ucr_of rfl (Nat.le_of_ble_eq_true rfl) (t_X8_readTenant  mem  _ h)
-- X8_readAgain
def f_X8_readAgain_b91 (rec : Um → Option (Um × Unit)) (mem : Um) : Option (Um × Unit) :=
  some (mem, ())
set_option maxRecDepth 20000 in
theorem t_X8_readAgain_b91 {l : Launch} {E : Ue} {rec : Um → Option (Um × Unit)} (kr : Nat) (hrec : ∀ (mem : Um)  (m1 : Um) (r : Unit), rec mem  = some (m1, r) → ucr l E kr 0 0 yX8_readStep cX8_readStep 4 none [.ref (ue_d E 38)] mem none m1) (mem : Um) (z : Um × Unit) (h : f_X8_readAgain_b91 rec mem  = some z) : ug l E (kr + 4) 0 0 cX8_readAgain 3 RX8 none [] (uz_v z) 0 0 91 [] [] mem := by
  rw [f_X8_readAgain_b91] at h
  obtain rfl := Option.some.inj h
  exact ug_vret dX8_readAgain_91
def f_X8_readAgain_b56 (rec : Um → Option (Um × Unit)) (mem : Um) (x2 : Int32) : Option (Um × Unit) :=
  ubi (f_X8_sign mem 93) (fun m1 r2 => ubi (f_X8_fine (um_w m1 38 7 ((m1 38 7) - 1))) (fun m4 r5 => if r5 = 0 then (f_X8_readAgain_b91 rec m4) else (ugd (uin (x2 + 2) 200) (f_X8_readAgain_b91 rec (um_w m4 51 (x2 + 2).toNatClampNeg (m4 38 30))))))
set_option maxRecDepth 20000 in
theorem t_X8_readAgain_b56 {l : Launch} {E : Ue} {rec : Um → Option (Um × Unit)} (kr : Nat) (hrec : ∀ (mem : Um)  (m1 : Um) (r : Unit), rec mem  = some (m1, r) → ucr l E kr 0 0 yX8_readStep cX8_readStep 4 none [.ref (ue_d E 38)] mem none m1) (mem : Um) (x2 : Int32) (z : Um × Unit) (h : f_X8_readAgain_b56 rec mem x2 = some z) : ug l E (kr + 4) 0 0 cX8_readAgain 3 RX8 none [] (uz_v z) 0 0 56 [(0, .ref (ue_d E 38)), (2, .int x2)] [] mem := by
  rw [f_X8_readAgain_b56] at h
  refine ug_aload_n 0 dX8_readAgain_56 rfl rfl ?_
  refine ug_bipush dX8_readAgain_57 un_bipush_93 ?_
  obtain ⟨m1, r2, h3, h⟩ := ubi_some h
  refine ug_callVv [.int 93] (c_X8_sign  h3) kc_X8_216 ro_38 rfl (S := []) rfl (Nat.le_of_ble_eq_true rfl) (by omega) (Nat.le_of_ble_eq_true rfl) dX8_readAgain_59 ?_
  refine ug_aload_n 0 dX8_readAgain_62 rfl rfl ?_
  refine ug_dup dX8_readAgain_63 rfl ?_
  refine ug_getI kf_X8_139 gi_38_7 dX8_readAgain_64 ?_
  refine ug_iconst dX8_readAgain_67 un_iconst_1 ?_
  refine ug_isub dX8_readAgain_68 ?_
  refine ug_putI kp_X8_139 gi_38_7 dX8_readAgain_69 ?_
  refine ug_aload_n 0 dX8_readAgain_72 rfl rfl ?_
  obtain ⟨m4, r5, h6, h⟩ := ubi_some h
  refine ug_callVi [] (c_X8_fine  h6) kc_X8_128 ro_38 rfl (S := []) rfl (Nat.le_of_ble_eq_true rfl) (by omega) (Nat.le_of_ble_eq_true rfl) dX8_readAgain_73 ?_
  refine ug_if_eq 91 dX8_readAgain_76 (by decide) (fun q7 => ?_) (fun q7 => ?_)
  · rw [if_pos q7] at h
    refine ug_sub [] [] rfl ?_
    exact t_X8_readAgain_b91 kr hrec m4  _ h
  · rw [if_neg q7] at h
    refine ug_aload_n 0 dX8_readAgain_79 rfl rfl ?_
    refine ug_getR kf_X8_53 gr_38_28 dX8_readAgain_80 ?_
    refine ug_iload_n 1 dX8_readAgain_83 rfl rfl ?_
    refine ug_iconst dX8_readAgain_84 un_iconst_2 ?_
    refine ug_iadd dX8_readAgain_85 ?_
    refine ug_aload_n 0 dX8_readAgain_86 rfl rfl ?_
    refine ug_getI kf_X8_269 gi_38_30 dX8_readAgain_87 ?_
    obtain ⟨g8, h⟩ := ugd_some h
    refine ug_iast al_51 (uin_ok g8) dX8_readAgain_90 ?_
    refine ug_sub [] [] rfl ?_
    exact t_X8_readAgain_b91 kr hrec (um_w m4 51 (x2 + 2).toNatClampNeg (m4 38 30))  _ h
def f_X8_readAgain_b33 (rec : Um → Option (Um × Unit)) : Nat → Um → Int32 → Option (Um × Unit)
  | 0, _, _ => none
  | n + 1, mem, x2 =>
    ubi (f_X8_fine mem) (fun m1 r2 => if r2 = 0 then (f_X8_readAgain_b56 rec m1 x2) else (ubi (f_X8_here m1) (fun m5 r6 => if r6 = 93 then (f_X8_readAgain_b56 rec m5 x2) else (ubi (rec m5) (fun m9 r10 => (f_X8_readAgain_b33 rec n) m9 x2)))))
set_option maxRecDepth 20000 in
theorem t_X8_readAgain_b33 {l : Launch} {E : Ue} {rec : Um → Option (Um × Unit)} (kr : Nat) (hrec : ∀ (mem : Um)  (m1 : Um) (r : Unit), rec mem  = some (m1, r) → ucr l E kr 0 0 yX8_readStep cX8_readStep 4 none [.ref (ue_d E 38)] mem none m1) : ∀ (n : Nat) (mem : Um) (x2 : Int32) (z : Um × Unit), f_X8_readAgain_b33 rec n mem x2 = some z → ug l E (kr + 4) 0 0 cX8_readAgain 3 RX8 none [] (uz_v z) 0 0 33 [(0, .ref (ue_d E 38)), (2, .int x2)] [] mem := by
  intro n
  induction n with
  | zero =>
    intro mem x2 z h
    rw [f_X8_readAgain_b33] at h
    cases h
  | succ n ih =>
    intro mem x2 z h
    rw [f_X8_readAgain_b33] at h
    refine ug_aload_n 0 dX8_readAgain_33 rfl rfl ?_
    obtain ⟨m1, r2, h3, h⟩ := ubi_some h
    refine ug_callVi [] (c_X8_fine  h3) kc_X8_128 ro_38 rfl (S := []) rfl (Nat.le_of_ble_eq_true rfl) (by omega) (Nat.le_of_ble_eq_true rfl) dX8_readAgain_34 ?_
    refine ug_if_eq 56 dX8_readAgain_37 (by decide) (fun q4 => ?_) (fun q4 => ?_)
    · rw [if_pos q4] at h
      exact t_X8_readAgain_b56 kr hrec m1 x2 _ h
    · rw [if_neg q4] at h
      refine ug_aload_n 0 dX8_readAgain_40 rfl rfl ?_
      obtain ⟨m5, r6, h7, h⟩ := ubi_some h
      refine ug_callVi [] (c_X8_here  h7) kc_X8_111 ro_38 rfl (S := []) rfl (Nat.le_of_ble_eq_true rfl) (by omega) (Nat.le_of_ble_eq_true rfl) dX8_readAgain_41 ?_
      refine ug_bipush dX8_readAgain_44 un_bipush_93 ?_
      refine ug_icmp_eq 56 dX8_readAgain_46 (by decide) (fun q8 => ?_) (fun q8 => ?_)
      · rw [if_pos q8] at h
        exact t_X8_readAgain_b56 kr hrec m5 x2 _ h
      · rw [if_neg q8] at h
        refine ug_aload_n 0 dX8_readAgain_49 rfl rfl ?_
        obtain ⟨m9, r10, h11, h⟩ := ubi_some h
        refine ug_callVv [] (hrec m5 _ _ h11) kc_X8_290 ro_38 rfl (S := []) rfl (Nat.le_of_ble_eq_true rfl) (by omega) (Nat.le_of_ble_eq_true rfl) dX8_readAgain_50 ?_
        refine ug_goto 33 dX8_readAgain_53 (by decide) ?_
        exact ih m9 x2 _ h
def f_X8_readAgain (rec : Um → Option (Um × Unit)) (mem : Um) : Option (Um × Unit) :=
  ubi (f_X8_opensOne mem 5) (fun m1 r2 => ubi (f_X8_readNumber m1 0 30) (fun m4 r5 => ubi (f_X8_sign m4 91) (fun m7 r8 => ubi (f_X8_tellsStep m7 7 r5 0 0) (fun m10 r11 => f_X8_readAgain_b33 rec UF m10 (m7 38 30)))))
set_option maxRecDepth 20000 in
theorem t_X8_readAgain {l : Launch} {E : Ue} {rec : Um → Option (Um × Unit)} (kr : Nat) (hrec : ∀ (mem : Um)  (m1 : Um) (r : Unit), rec mem  = some (m1, r) → ucr l E kr 0 0 yX8_readStep cX8_readStep 4 none [.ref (ue_d E 38)] mem none m1) (mem : Um) (z : Um × Unit) (h : f_X8_readAgain rec mem  = some z) : ug l E (kr + 4) 0 0 cX8_readAgain 3 RX8 none [] (uz_v z) 0 0 0 [(0, .ref (ue_d E 38))] [] mem := by
  rw [f_X8_readAgain] at h
  refine ug_aload_n 0 dX8_readAgain_0 rfl rfl ?_
  refine ug_iconst dX8_readAgain_1 un_iconst_5 ?_
  obtain ⟨m1, r2, h3, h⟩ := ubi_some h
  refine ug_callVv [.int 5] (c_X8_opensOne  h3) kc_X8_235 ro_38 rfl (S := []) rfl (Nat.le_of_ble_eq_true rfl) (by omega) (Nat.le_of_ble_eq_true rfl) dX8_readAgain_2 ?_
  refine ug_aload_n 0 dX8_readAgain_5 rfl rfl ?_
  refine ug_iconst dX8_readAgain_6 un_iconst_0 ?_
  refine ug_bipush dX8_readAgain_7 un_bipush_30 ?_
  obtain ⟨m4, r5, h6, h⟩ := ubi_some h
  refine ug_callVi [.int 0, .int 30] (c_X8_readNumber  h6) kc_X8_186 ro_38 rfl (S := []) rfl (Nat.le_of_ble_eq_true rfl) (by omega) (Nat.le_of_ble_eq_true rfl) dX8_readAgain_9 ?_
  refine ug_istore_n [(1, .int r5), (0, .ref (ue_d E 38))] dX8_readAgain_12 rfl (Nat.le_of_ble_eq_true rfl) rfl ?_
  refine ug_aload_n 1 dX8_readAgain_13 rfl rfl ?_
  refine ug_bipush dX8_readAgain_14 un_bipush_91 ?_
  obtain ⟨m7, r8, h9, h⟩ := ubi_some h
  refine ug_callVv [.int 91] (c_X8_sign  h9) kc_X8_216 ro_38 rfl (S := []) rfl (Nat.le_of_ble_eq_true rfl) (by omega) (Nat.le_of_ble_eq_true rfl) dX8_readAgain_16 ?_
  refine ug_aload_n 1 dX8_readAgain_19 rfl rfl ?_
  refine ug_getI kf_X8_269 gi_38_30 dX8_readAgain_20 ?_
  refine ug_istore_n [(2, .int (m7 38 30)), (1, .int r5), (0, .ref (ue_d E 38))] dX8_readAgain_23 rfl (Nat.le_of_ble_eq_true rfl) rfl ?_
  refine ug_aload_n 2 dX8_readAgain_24 rfl rfl ?_
  refine ug_bipush dX8_readAgain_25 un_bipush_7 ?_
  refine ug_iload_n 1 dX8_readAgain_27 rfl rfl ?_
  refine ug_iconst dX8_readAgain_28 un_iconst_0 ?_
  refine ug_iconst dX8_readAgain_29 un_iconst_0 ?_
  obtain ⟨m10, r11, h12, h⟩ := ubi_some h
  refine ug_callVv [.int 7, .int r5, .int 0, .int 0] (c_X8_tellsStep  h12) kc_X8_286 ro_38 rfl (S := []) rfl (Nat.le_of_ble_eq_true rfl) (by omega) (Nat.le_of_ble_eq_true rfl) dX8_readAgain_30 ?_
  refine ug_sub [(0, .ref (ue_d E 38)), (2, .int (m7 38 30))] [2, 0] rfl ?_
  exact t_X8_readAgain_b33 kr hrec UF m10 (m7 38 30) _ h
theorem c_X8_readAgain {l : Launch} {E : Ue} {rec : Um → Option (Um × Unit)} (kr : Nat) (hrec : ∀ (mem : Um)  (m1 : Um) (r : Unit), rec mem  = some (m1, r) → ucr l E kr 0 0 yX8_readStep cX8_readStep 4 none [.ref (ue_d E 38)] mem none m1) {mem : Um} {m1 : Um} {r : Unit} (h : f_X8_readAgain rec mem  = some (m1, r)) : ucr l E (kr + 4) 0 0 yX8_readAgain cX8_readAgain 3 none [.ref (ue_d E 38)] mem none m1 := ucr_of rfl (Nat.le_of_ble_eq_true rfl) (t_X8_readAgain kr hrec mem  _ h)
