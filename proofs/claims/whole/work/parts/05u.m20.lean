-- X8_idle
def f_X8_idle_b38 (k13 : Um → Int32 → Int32 → Option (Um × Int32)) (mem : Um) (x2 : Int32) (y0 : Int32) (y1 : Int32) : Option (Um × Int32) :=
  k13 mem (y1 ||| y0) (x2 + 1)
set_option maxRecDepth 20000 in
theorem t_X8_idle_b38 {l : Launch} {E : Ue} (k13 : Um → Int32 → Int32 → Option (Um × Int32)) (hk13 : ∀ (mem : Um) (x1 : Int32) (x2 : Int32) (z : Um × Int32), k13 mem x1 x2 = some z → ug l E 5 0 0 cX8_idle 3 RX8 (some .int) [] (uz_i z) 0 0 13 [(0, .ref (ue_d E 38)), (1, .int x1), (2, .int x2)] [] mem) (mem : Um) (x2 : Int32) (y0 : Int32) (y1 : Int32) (z : Um × Int32) (h : f_X8_idle_b38 k13 mem x2 y0 y1 = some z) : ug l E 5 0 0 cX8_idle 3 RX8 (some .int) [] (uz_i z) 0 0 38 [(0, .ref (ue_d E 38)), (2, .int x2)] [.int y0, .int y1] mem := by
  rw [f_X8_idle_b38] at h
  refine ug_ior dX8_idle_38 ?_
  refine ug_istore_n [(1, .int (y1 ||| y0)), (0, .ref (ue_d E 38)), (2, .int x2)] dX8_idle_39 rfl (Nat.le_of_ble_eq_true rfl) rfl ?_
  refine ug_iinc (v := (x2 + 1)) [(2, .int (x2 + 1)), (1, .int (y1 ||| y0)), (0, .ref (ue_d E 38))] 2 dX8_idle_40 rfl rfl (Nat.le_of_ble_eq_true rfl) rfl ?_
  refine ug_goto 13 dX8_idle_43 (by decide) ?_
  refine ug_sub [(0, .ref (ue_d E 38)), (1, .int (y1 ||| y0)), (2, .int (x2 + 1))] [2, 1, 0] rfl ?_
  exact hk13 mem (y1 ||| y0) (x2 + 1) _ h
def f_X8_idle_b13 : Nat → Um → Int32 → Int32 → Option (Um × Int32)
  | 0, _, _, _ => none
  | n + 1, mem, x1, x2 =>
    if (mem 38 17) ≤ x2 then (some (mem, x1)) else (ubi (f_X8_ownerOf mem x2) (fun m2 r3 => if r3 = (-1) then (f_X8_idle_b38 (f_X8_idle_b13  n) m2 x2 (1 <<< (x2 &&& 31)) x1) else (f_X8_idle_b38 (f_X8_idle_b13  n) m2 x2 0 x1)))
set_option maxRecDepth 20000 in
theorem t_X8_idle_b13 {l : Launch} {E : Ue} : ∀ (n : Nat) (mem : Um) (x1 : Int32) (x2 : Int32) (z : Um × Int32), f_X8_idle_b13  n mem x1 x2 = some z → ug l E 5 0 0 cX8_idle 3 RX8 (some .int) [] (uz_i z) 0 0 13 [(0, .ref (ue_d E 38)), (1, .int x1), (2, .int x2)] [] mem := by
  intro n
  induction n with
  | zero =>
    intro mem x1 x2 z h
    rw [f_X8_idle_b13] at h
    cases h
  | succ n ih =>
    intro mem x1 x2 z h
    rw [f_X8_idle_b13] at h
    refine ug_iload_n 2 dX8_idle_13 rfl rfl ?_
    refine ug_aload_n 0 dX8_idle_14 rfl rfl ?_
    refine ug_getI kf_X8_151 gi_38_17 dX8_idle_15 ?_
    refine ug_icmp_ge 46 dX8_idle_18 (by decide) (fun q1 => ?_) (fun q1 => ?_)
    · rw [if_pos q1] at h
      refine ug_iload_n 1 dX8_idle_46 rfl rfl ?_
      obtain rfl := Option.some.inj h
      exact ug_iret dX8_idle_47
    · rw [if_neg q1] at h
      refine ug_iload_n 1 dX8_idle_21 rfl rfl ?_
      refine ug_aload_n 0 dX8_idle_22 rfl rfl ?_
      refine ug_iload_n 2 dX8_idle_23 rfl rfl ?_
      obtain ⟨m2, r3, h4, h⟩ := ubi_some h
      refine ug_callVi [.int x2] (c_X8_ownerOf  h4) kc_X8_327 ro_38 rfl (S := [.int x1]) rfl (Nat.le_of_ble_eq_true rfl) (Nat.le_of_ble_eq_true rfl) (Nat.le_of_ble_eq_true rfl) dX8_idle_24 ?_
      refine ug_iconst dX8_idle_27 un_iconst_m1 ?_
      refine ug_icmp_ne 37 dX8_idle_28 (by decide) (fun q5 => ?_) (fun q5 => ?_)
      · rw [if_neg q5] at h
        refine ug_iconst dX8_idle_37 un_iconst_0 ?_
        refine ug_sub [(0, .ref (ue_d E 38)), (2, .int x2)] [0, 2] rfl ?_
        exact t_X8_idle_b38 (f_X8_idle_b13  n) ih m2 x2 0 x1 _ h
      · rw [if_pos q5] at h
        refine ug_iconst dX8_idle_31 un_iconst_1 ?_
        refine ug_iload_n 2 dX8_idle_32 rfl rfl ?_
        refine ug_ishl dX8_idle_33 ?_
        refine ug_goto 38 dX8_idle_34 (by decide) ?_
        refine ug_sub [(0, .ref (ue_d E 38)), (2, .int x2)] [0, 2] rfl ?_
        exact t_X8_idle_b38 (f_X8_idle_b13  n) ih m2 x2 (1 <<< (x2 &&& 31)) x1 _ h
def f_X8_idle (mem : Um) : Option (Um × Int32) :=
  ubi (f_X8_take (um_w mem 38 0 0)) (fun m1 r2 => f_X8_idle_b13  UF m1 0 0)
set_option maxRecDepth 20000 in
theorem t_X8_idle {l : Launch} {E : Ue} (mem : Um) (z : Um × Int32) (h : f_X8_idle  mem  = some z) : ug l E 5 0 0 cX8_idle 3 RX8 (some .int) [] (uz_i z) 0 0 0 [(0, .ref (ue_d E 38))] [] mem := by
  rw [f_X8_idle] at h
  refine ug_aload_n 0 dX8_idle_0 rfl rfl ?_
  refine ug_iconst dX8_idle_1 un_iconst_0 ?_
  refine ug_putI kp_X8_3 gi_38_0 dX8_idle_2 ?_
  refine ug_aload_n 0 dX8_idle_5 rfl rfl ?_
  obtain ⟨m1, r2, h3, h⟩ := ubi_some h
  refine ug_callVv [] (c_X8_take  h3) kc_X8_302 ro_38 rfl (S := []) rfl (Nat.le_of_ble_eq_true rfl) (Nat.le_of_ble_eq_true rfl) (Nat.le_of_ble_eq_true rfl) dX8_idle_6 ?_
  refine ug_iconst dX8_idle_9 un_iconst_0 ?_
  refine ug_istore_n [(1, .int 0), (0, .ref (ue_d E 38))] dX8_idle_10 rfl (Nat.le_of_ble_eq_true rfl) rfl ?_
  refine ug_iconst dX8_idle_11 un_iconst_0 ?_
  refine ug_istore_n [(2, .int 0), (1, .int 0), (0, .ref (ue_d E 38))] dX8_idle_12 rfl (Nat.le_of_ble_eq_true rfl) rfl ?_
  refine ug_sub [(0, .ref (ue_d E 38)), (1, .int 0), (2, .int 0)] [2, 1, 0] rfl ?_
  exact t_X8_idle_b13  UF m1 0 0 _ h
theorem c_X8_idle {l : Launch} {E : Ue} {mem : Um} {m1 : Um} {r : Int32} (h : f_X8_idle  mem  = some (m1, r)) : ucr l E 5 0 0 yX8_idle cX8_idle 3 (some .int) [.ref (ue_d E 38)] mem (some (.int r)) m1 := ucr_of rfl (Nat.le_of_ble_eq_true rfl) (t_X8_idle  mem  _ h)
-- X8_under
def f_X8_under_b37 (k13 : Um → Int32 → Int32 → Option (Um × Int32)) (mem : Um) (x2 : Int32) (y0 : Int32) (y1 : Int32) : Option (Um × Int32) :=
  k13 mem (y1 ||| y0) (x2 + 1)
set_option maxRecDepth 20000 in
theorem t_X8_under_b37 {l : Launch} {E : Ue} (k13 : Um → Int32 → Int32 → Option (Um × Int32)) (hk13 : ∀ (mem : Um) (x1 : Int32) (x2 : Int32) (z : Um × Int32), k13 mem x1 x2 = some z → ug l E 4 0 0 cX8_under 3 RX8 (some .int) [] (uz_i z) 0 0 13 [(0, .ref (ue_d E 38)), (1, .int x1), (2, .int x2)] [] mem) (mem : Um) (x2 : Int32) (y0 : Int32) (y1 : Int32) (z : Um × Int32) (h : f_X8_under_b37 k13 mem x2 y0 y1 = some z) : ug l E 4 0 0 cX8_under 3 RX8 (some .int) [] (uz_i z) 0 0 37 [(0, .ref (ue_d E 38)), (2, .int x2)] [.int y0, .int y1] mem := by
  rw [f_X8_under_b37] at h
  refine ug_ior dX8_under_37 ?_
  refine ug_istore_n [(1, .int (y1 ||| y0)), (0, .ref (ue_d E 38)), (2, .int x2)] dX8_under_38 rfl (Nat.le_of_ble_eq_true rfl) rfl ?_
  refine ug_iinc (v := (x2 + 1)) [(2, .int (x2 + 1)), (1, .int (y1 ||| y0)), (0, .ref (ue_d E 38))] 2 dX8_under_39 rfl rfl (Nat.le_of_ble_eq_true rfl) rfl ?_
  refine ug_goto 13 dX8_under_42 (by decide) ?_
  refine ug_sub [(0, .ref (ue_d E 38)), (1, .int (y1 ||| y0)), (2, .int (x2 + 1))] [2, 1, 0] rfl ?_
  exact hk13 mem (y1 ||| y0) (x2 + 1) _ h
def f_X8_under_b13 : Nat → Um → Int32 → Int32 → Option (Um × Int32)
  | 0, _, _, _ => none
  | n + 1, mem, x1, x2 =>
    if (mem 38 18) ≤ x2 then (some (mem, x1)) else (ubi (f_X8_mayKeep mem x2) (fun m2 r3 => if r3 = 0 then (f_X8_under_b37 (f_X8_under_b13  n) m2 x2 0 x1) else (f_X8_under_b37 (f_X8_under_b13  n) m2 x2 (1 <<< (x2 &&& 31)) x1)))
set_option maxRecDepth 20000 in
theorem t_X8_under_b13 {l : Launch} {E : Ue} : ∀ (n : Nat) (mem : Um) (x1 : Int32) (x2 : Int32) (z : Um × Int32), f_X8_under_b13  n mem x1 x2 = some z → ug l E 4 0 0 cX8_under 3 RX8 (some .int) [] (uz_i z) 0 0 13 [(0, .ref (ue_d E 38)), (1, .int x1), (2, .int x2)] [] mem := by
  intro n
  induction n with
  | zero =>
    intro mem x1 x2 z h
    rw [f_X8_under_b13] at h
    cases h
  | succ n ih =>
    intro mem x1 x2 z h
    rw [f_X8_under_b13] at h
    refine ug_iload_n 2 dX8_under_13 rfl rfl ?_
    refine ug_aload_n 0 dX8_under_14 rfl rfl ?_
    refine ug_getI kf_X8_154 gi_38_18 dX8_under_15 ?_
    refine ug_icmp_ge 45 dX8_under_18 (by decide) (fun q1 => ?_) (fun q1 => ?_)
    · rw [if_pos q1] at h
      refine ug_iload_n 1 dX8_under_45 rfl rfl ?_
      obtain rfl := Option.some.inj h
      exact ug_iret dX8_under_46
    · rw [if_neg q1] at h
      refine ug_iload_n 1 dX8_under_21 rfl rfl ?_
      refine ug_aload_n 0 dX8_under_22 rfl rfl ?_
      refine ug_iload_n 2 dX8_under_23 rfl rfl ?_
      obtain ⟨m2, r3, h4, h⟩ := ubi_some h
      refine ug_callVi [.int x2] (c_X8_mayKeep  h4) kc_X8_377 ro_38 rfl (S := [.int x1]) rfl (Nat.le_of_ble_eq_true rfl) (Nat.le_of_ble_eq_true rfl) (Nat.le_of_ble_eq_true rfl) dX8_under_24 ?_
      refine ug_if_eq 36 dX8_under_27 (by decide) (fun q5 => ?_) (fun q5 => ?_)
      · rw [if_pos q5] at h
        refine ug_iconst dX8_under_36 un_iconst_0 ?_
        refine ug_sub [(0, .ref (ue_d E 38)), (2, .int x2)] [0, 2] rfl ?_
        exact t_X8_under_b37 (f_X8_under_b13  n) ih m2 x2 0 x1 _ h
      · rw [if_neg q5] at h
        refine ug_iconst dX8_under_30 un_iconst_1 ?_
        refine ug_iload_n 2 dX8_under_31 rfl rfl ?_
        refine ug_ishl dX8_under_32 ?_
        refine ug_goto 37 dX8_under_33 (by decide) ?_
        refine ug_sub [(0, .ref (ue_d E 38)), (2, .int x2)] [0, 2] rfl ?_
        exact t_X8_under_b37 (f_X8_under_b13  n) ih m2 x2 (1 <<< (x2 &&& 31)) x1 _ h
def f_X8_under (mem : Um) : Option (Um × Int32) :=
  ubi (f_X8_take (um_w mem 38 0 0)) (fun m1 r2 => f_X8_under_b13  UF m1 0 0)
set_option maxRecDepth 20000 in
theorem t_X8_under {l : Launch} {E : Ue} (mem : Um) (z : Um × Int32) (h : f_X8_under  mem  = some z) : ug l E 4 0 0 cX8_under 3 RX8 (some .int) [] (uz_i z) 0 0 0 [(0, .ref (ue_d E 38))] [] mem := by
  rw [f_X8_under] at h
  refine ug_aload_n 0 dX8_under_0 rfl rfl ?_
  refine ug_iconst dX8_under_1 un_iconst_0 ?_
  refine ug_putI kp_X8_3 gi_38_0 dX8_under_2 ?_
  refine ug_aload_n 0 dX8_under_5 rfl rfl ?_
  obtain ⟨m1, r2, h3, h⟩ := ubi_some h
  refine ug_callVv [] (c_X8_take  h3) kc_X8_302 ro_38 rfl (S := []) rfl (Nat.le_of_ble_eq_true rfl) (Nat.le_of_ble_eq_true rfl) (Nat.le_of_ble_eq_true rfl) dX8_under_6 ?_
  refine ug_iconst dX8_under_9 un_iconst_0 ?_
  refine ug_istore_n [(1, .int 0), (0, .ref (ue_d E 38))] dX8_under_10 rfl (Nat.le_of_ble_eq_true rfl) rfl ?_
  refine ug_iconst dX8_under_11 un_iconst_0 ?_
  refine ug_istore_n [(2, .int 0), (1, .int 0), (0, .ref (ue_d E 38))] dX8_under_12 rfl (Nat.le_of_ble_eq_true rfl) rfl ?_
  refine ug_sub [(0, .ref (ue_d E 38)), (1, .int 0), (2, .int 0)] [2, 1, 0] rfl ?_
  exact t_X8_under_b13  UF m1 0 0 _ h
theorem c_X8_under {l : Launch} {E : Ue} {mem : Um} {m1 : Um} {r : Int32} (h : f_X8_under  mem  = some (m1, r)) : ucr l E 4 0 0 yX8_under cX8_under 3 (some .int) [.ref (ue_d E 38)] mem (some (.int r)) m1 := ucr_of rfl (Nat.le_of_ble_eq_true rfl) (t_X8_under  mem  _ h)
-- X8_offer
def f_X8_offer_b30 (mem : Um) : Option (Um × Int32) :=
  some (mem, 0)
set_option maxRecDepth 20000 in
theorem t_X8_offer_b30 {l : Launch} {E : Ue} (mem : Um) (z : Um × Int32) (h : f_X8_offer_b30  mem  = some z) : ug l E 6 0 0 cX8_offer 3 RX8 (some .int) [] (uz_i z) 0 0 30 [] [] mem := by
  rw [f_X8_offer_b30] at h
  refine ug_iconst dX8_offer_30 un_iconst_0 ?_
  obtain rfl := Option.some.inj h
  exact ug_iret dX8_offer_31
def f_X8_offer (mem : Um) (x1 : Int32) (x2 : Int32) : Option (Um × Int32) :=
  ubi (f_X8_isTenant (um_w mem 38 0 0) x1 1) (fun m1 r2 => if r2 = 0 then (f_X8_offer_b30 m1) else (ubi (f_X8_within m1 x2 1 20) (fun m5 r6 => ubi (f_X8_may m5 r6 2 1) (fun m8 r9 => if r9 = 0 then (f_X8_offer_b30 m8) else (ubi (f_X8_take m8) (fun m12 r13 => ugd (uin (10 + x1) 28) (if (m12 54 (10 + x1).toNatClampNeg) ≤ 0 then (ugd (uin (10 + x1) 28) (ugd (uin (5 + x1) 28) (ugd (uin (15 + x1) 28) (ubi (f_X8_ownedBy (um_w (um_w m12 54 (10 + x1).toNatClampNeg x2) 54 (15 + x1).toNatClampNeg ((um_w m12 54 (10 + x1).toNatClampNeg x2) 54 (5 + x1).toNatClampNeg)) x1) (fun m20 r21 => ubi (f_X8_worthOf m20 r21) (fun m23 r24 => some (m23, r24))))))) else (some (m12, (-1))))))))))
set_option maxRecDepth 20000 in
theorem t_X8_offer {l : Launch} {E : Ue} (mem : Um) (x1 : Int32) (x2 : Int32) (z : Um × Int32) (h : f_X8_offer  mem x1 x2 = some z) : ug l E 6 0 0 cX8_offer 3 RX8 (some .int) [] (uz_i z) 0 0 0 [(0, .ref (ue_d E 38)), (1, .int x1), (2, .int x2)] [] mem := by
  rw [f_X8_offer] at h
  refine ug_aload_n 0 dX8_offer_0 rfl rfl ?_
  refine ug_iconst dX8_offer_1 un_iconst_0 ?_
  refine ug_putI kp_X8_3 gi_38_0 dX8_offer_2 ?_
  refine ug_aload_n 0 dX8_offer_5 rfl rfl ?_
  refine ug_iload_n 1 dX8_offer_6 rfl rfl ?_
  refine ug_iconst dX8_offer_7 un_iconst_1 ?_
  obtain ⟨m1, r2, h3, h⟩ := ubi_some h
  refine ug_callVi [.int x1, .int 1] (c_X8_isTenant  h3) kc_X8_395 ro_38 rfl (S := []) rfl (Nat.le_of_ble_eq_true rfl) (Nat.le_of_ble_eq_true rfl) (Nat.le_of_ble_eq_true rfl) dX8_offer_8 ?_
  refine ug_if_eq 30 dX8_offer_11 (by decide) (fun q4 => ?_) (fun q4 => ?_)
  · rw [if_pos q4] at h
    refine ug_sub [] [] rfl ?_
    exact t_X8_offer_b30 m1  _ h
  · rw [if_neg q4] at h
    refine ug_aload_n 0 dX8_offer_14 rfl rfl ?_
    refine ug_iload_n 2 dX8_offer_15 rfl rfl ?_
    refine ug_iconst dX8_offer_16 un_iconst_1 ?_
    refine ug_bipush dX8_offer_17 un_bipush_20 ?_
    obtain ⟨m5, r6, h7, h⟩ := ubi_some h
    refine ug_callSi [.int x2, .int 1, .int 20] (c_X8_within  h7) kc_X8_352 rfl (S := [.ref (ue_d E 38)]) rfl (Nat.le_of_ble_eq_true rfl) (Nat.le_of_ble_eq_true rfl) (Nat.le_of_ble_eq_true rfl) dX8_offer_19 ?_
    refine ug_iconst dX8_offer_22 un_iconst_2 ?_
    refine ug_iconst dX8_offer_23 un_iconst_1 ?_
    obtain ⟨m8, r9, h10, h⟩ := ubi_some h
    refine ug_callVi [.int r6, .int 2, .int 1] (c_X8_may  h10) kc_X8_190 ro_38 rfl (S := []) rfl (Nat.le_of_ble_eq_true rfl) (Nat.le_of_ble_eq_true rfl) (Nat.le_of_ble_eq_true rfl) dX8_offer_24 ?_
    refine ug_if_ne 32 dX8_offer_27 (by decide) (fun q11 => ?_) (fun q11 => ?_)
    · rw [if_neg q11] at h
      refine ug_aload_n 0 dX8_offer_32 rfl rfl ?_
      obtain ⟨m12, r13, h14, h⟩ := ubi_some h
      refine ug_callVv [] (c_X8_take  h14) kc_X8_302 ro_38 rfl (S := []) rfl (Nat.le_of_ble_eq_true rfl) (Nat.le_of_ble_eq_true rfl) (Nat.le_of_ble_eq_true rfl) dX8_offer_33 ?_
      refine ug_aload_n 0 dX8_offer_36 rfl rfl ?_
      refine ug_getR kf_X8_62 gr_38_37 dX8_offer_37 ?_
      refine ug_bipush dX8_offer_40 un_bipush_10 ?_
      refine ug_iload_n 1 dX8_offer_42 rfl rfl ?_
      refine ug_iadd dX8_offer_43 ?_
      obtain ⟨g15, h⟩ := ugd_some h
      refine ug_iald al_54 (uin_ok g15) dX8_offer_44 ?_
      refine ug_if_le 50 dX8_offer_45 (by decide) (fun q16 => ?_) (fun q16 => ?_)
      · rw [if_pos q16] at h
        refine ug_aload_n 0 dX8_offer_50 rfl rfl ?_
        refine ug_getR kf_X8_62 gr_38_37 dX8_offer_51 ?_
        refine ug_bipush dX8_offer_54 un_bipush_10 ?_
        refine ug_iload_n 1 dX8_offer_56 rfl rfl ?_
        refine ug_iadd dX8_offer_57 ?_
        refine ug_iload_n 2 dX8_offer_58 rfl rfl ?_
        obtain ⟨g17, h⟩ := ugd_some h
        refine ug_iast al_54 (uin_ok g17) dX8_offer_59 ?_
        refine ug_aload_n 0 dX8_offer_60 rfl rfl ?_
        refine ug_getR kf_X8_62 gr_38_37 dX8_offer_61 ?_
        refine ug_bipush dX8_offer_64 un_bipush_15 ?_
        refine ug_iload_n 1 dX8_offer_66 rfl rfl ?_
        refine ug_iadd dX8_offer_67 ?_
        refine ug_aload_n 0 dX8_offer_68 rfl rfl ?_
        refine ug_getR kf_X8_62 gr_38_37 dX8_offer_69 ?_
        refine ug_iconst dX8_offer_72 un_iconst_5 ?_
        refine ug_iload_n 1 dX8_offer_73 rfl rfl ?_
        refine ug_iadd dX8_offer_74 ?_
        obtain ⟨g18, h⟩ := ugd_some h
        refine ug_iald al_54 (uin_ok g18) dX8_offer_75 ?_
        obtain ⟨g19, h⟩ := ugd_some h
        refine ug_iast al_54 (uin_ok g19) dX8_offer_76 ?_
        refine ug_aload_n 0 dX8_offer_77 rfl rfl ?_
        refine ug_aload_n 0 dX8_offer_78 rfl rfl ?_
        refine ug_iload_n 1 dX8_offer_79 rfl rfl ?_
        obtain ⟨m20, r21, h22, h⟩ := ubi_some h
        refine ug_callVi [.int x1] (c_X8_ownedBy  h22) kc_X8_342 ro_38 rfl (S := [.ref (ue_d E 38)]) rfl (Nat.le_of_ble_eq_true rfl) (Nat.le_of_ble_eq_true rfl) (Nat.le_of_ble_eq_true rfl) dX8_offer_80 ?_
        obtain ⟨m23, r24, h25, h⟩ := ubi_some h
        refine ug_callVi [.int r21] (c_X8_worthOf  h25) kc_X8_345 ro_38 rfl (S := []) rfl (Nat.le_of_ble_eq_true rfl) (Nat.le_of_ble_eq_true rfl) (Nat.le_of_ble_eq_true rfl) dX8_offer_83 ?_
        obtain rfl := Option.some.inj h
        exact ug_iret dX8_offer_86
      · rw [if_neg q16] at h
        refine ug_iconst dX8_offer_48 un_iconst_m1 ?_
        obtain rfl := Option.some.inj h
        exact ug_iret dX8_offer_49
    · rw [if_pos q11] at h
      refine ug_sub [] [] rfl ?_
      exact t_X8_offer_b30 m8  _ h
theorem c_X8_offer {l : Launch} {E : Ue} {mem : Um} {x1 : Int32} {x2 : Int32} {m1 : Um} {r : Int32} (h : f_X8_offer  mem x1 x2 = some (m1, r)) : ucr l E 6 0 0 yX8_offer cX8_offer 3 (some .int) [.ref (ue_d E 38), .int x1, .int x2] mem (some (.int r)) m1 := ucr_of rfl (Nat.le_of_ble_eq_true rfl) (t_X8_offer  mem x1 x2 _ h)
-- X8_lost
def f_X8_lost_b86 (k49 : Um → Int32 → Int32 → Int32 → Int32 → Option (Um × Int32)) (mem : Um) (x1 : Int32) (x2 : Int32) (x4 : Int32) (y0 : Int32) (y1 : Int32) : Option (Um × Int32) :=
  k49 mem x1 x2 (y1 ||| y0) (x4 + 1)
set_option maxRecDepth 20000 in
theorem t_X8_lost_b86 {l : Launch} {E : Ue} (k49 : Um → Int32 → Int32 → Int32 → Int32 → Option (Um × Int32)) (hk49 : ∀ (mem : Um) (x1 : Int32) (x2 : Int32) (x3 : Int32) (x4 : Int32) (z : Um × Int32), k49 mem x1 x2 x3 x4 = some z → ug l E 4 0 0 cX8_lost 5 RX8 (some .int) [] (uz_i z) 0 0 49 [(0, .ref (ue_d E 38)), (1, .int x1), (2, .int x2), (3, .int x3), (4, .int x4)] [] mem) (mem : Um) (x1 : Int32) (x2 : Int32) (x4 : Int32) (y0 : Int32) (y1 : Int32) (z : Um × Int32) (h : f_X8_lost_b86 k49 mem x1 x2 x4 y0 y1 = some z) : ug l E 4 0 0 cX8_lost 5 RX8 (some .int) [] (uz_i z) 0 0 86 [(0, .ref (ue_d E 38)), (1, .int x1), (2, .int x2), (4, .int x4)] [.int y0, .int y1] mem := by
  rw [f_X8_lost_b86] at h
  refine ug_ior dX8_lost_86 ?_
  refine ug_istore_n [(3, .int (y1 ||| y0)), (0, .ref (ue_d E 38)), (1, .int x1), (2, .int x2), (4, .int x4)] dX8_lost_87 rfl (Nat.le_of_ble_eq_true rfl) rfl ?_
  refine ug_iinc (v := (x4 + 1)) [(4, .int (x4 + 1)), (3, .int (y1 ||| y0)), (0, .ref (ue_d E 38)), (1, .int x1), (2, .int x2)] 4 dX8_lost_88 rfl rfl (Nat.le_of_ble_eq_true rfl) rfl ?_
  refine ug_goto 49 dX8_lost_91 (by decide) ?_
  refine ug_sub [(0, .ref (ue_d E 38)), (1, .int x1), (2, .int x2), (3, .int (y1 ||| y0)), (4, .int (x4 + 1))] [2, 3, 4, 1, 0] rfl ?_
  exact hk49 mem x1 x2 (y1 ||| y0) (x4 + 1) _ h
def f_X8_lost_b72 (k49 : Um → Int32 → Int32 → Int32 → Int32 → Option (Um × Int32)) (mem : Um) (x1 : Int32) (x2 : Int32) (x4 : Int32) (y0 : Int32) (y1 : Int32) (y3 : Int32) : Option (Um × Int32) :=
  ubi (f_X8_isOut mem y1 y0) (fun m1 r2 => if r2 = 0 then (f_X8_lost_b86 k49 m1 x1 x2 x4 0 y3) else (f_X8_lost_b86 k49 m1 x1 x2 x4 (1 <<< (x4 &&& 31)) y3))
set_option maxRecDepth 20000 in
theorem t_X8_lost_b72 {l : Launch} {E : Ue} (k49 : Um → Int32 → Int32 → Int32 → Int32 → Option (Um × Int32)) (hk49 : ∀ (mem : Um) (x1 : Int32) (x2 : Int32) (x3 : Int32) (x4 : Int32) (z : Um × Int32), k49 mem x1 x2 x3 x4 = some z → ug l E 4 0 0 cX8_lost 5 RX8 (some .int) [] (uz_i z) 0 0 49 [(0, .ref (ue_d E 38)), (1, .int x1), (2, .int x2), (3, .int x3), (4, .int x4)] [] mem) (mem : Um) (x1 : Int32) (x2 : Int32) (x4 : Int32) (y0 : Int32) (y1 : Int32) (y3 : Int32) (z : Um × Int32) (h : f_X8_lost_b72 k49 mem x1 x2 x4 y0 y1 y3 = some z) : ug l E 4 0 0 cX8_lost 5 RX8 (some .int) [] (uz_i z) 0 0 72 [(0, .ref (ue_d E 38)), (1, .int x1), (2, .int x2), (4, .int x4)] [.int y0, .int y1, .ref (ue_d E 38), .int y3] mem := by
  rw [f_X8_lost_b72] at h
  obtain ⟨m1, r2, h3, h⟩ := ubi_some h
  refine ug_callVi [.int y1, .int y0] (c_X8_isOut  h3) kc_X8_359 ro_38 rfl (S := [.int y3]) rfl (Nat.le_of_ble_eq_true rfl) (Nat.le_of_ble_eq_true rfl) (Nat.le_of_ble_eq_true rfl) dX8_lost_72 ?_
  refine ug_if_eq 85 dX8_lost_75 (by decide) (fun q4 => ?_) (fun q4 => ?_)
  · rw [if_pos q4] at h
    refine ug_iconst dX8_lost_85 un_iconst_0 ?_
    exact t_X8_lost_b86 k49 hk49 m1 x1 x2 x4 0 y3 _ h
  · rw [if_neg q4] at h
    refine ug_iconst dX8_lost_78 un_iconst_1 ?_
    refine ug_iload 3 dX8_lost_79 rfl ?_
    refine ug_ishl dX8_lost_81 ?_
    refine ug_goto 86 dX8_lost_82 (by decide) ?_
    exact t_X8_lost_b86 k49 hk49 m1 x1 x2 x4 (1 <<< (x4 &&& 31)) y3 _ h
def f_X8_lost_b49 : Nat → Um → Int32 → Int32 → Int32 → Int32 → Option (Um × Int32)
  | 0, _, _, _, _, _ => none
  | n + 1, mem, x1, x2, x3, x4 =>
    if (mem 38 18) ≤ x4 then (some (mem, x3)) else (if x2 = 0 then (f_X8_lost_b72 (f_X8_lost_b49  n) mem x1 x2 x4 x1 x4 x3) else (f_X8_lost_b72 (f_X8_lost_b49  n) mem x1 x2 x4 (-x1) x4 x3))
set_option maxRecDepth 20000 in
theorem t_X8_lost_b49 {l : Launch} {E : Ue} : ∀ (n : Nat) (mem : Um) (x1 : Int32) (x2 : Int32) (x3 : Int32) (x4 : Int32) (z : Um × Int32), f_X8_lost_b49  n mem x1 x2 x3 x4 = some z → ug l E 4 0 0 cX8_lost 5 RX8 (some .int) [] (uz_i z) 0 0 49 [(0, .ref (ue_d E 38)), (1, .int x1), (2, .int x2), (3, .int x3), (4, .int x4)] [] mem := by
  intro n
  induction n with
  | zero =>
    intro mem x1 x2 x3 x4 z h
    rw [f_X8_lost_b49] at h
    cases h
  | succ n ih =>
    intro mem x1 x2 x3 x4 z h
    rw [f_X8_lost_b49] at h
    refine ug_iload 4 dX8_lost_49 rfl ?_
    refine ug_aload_n 0 dX8_lost_51 rfl rfl ?_
    refine ug_getI kf_X8_154 gi_38_18 dX8_lost_52 ?_
    refine ug_icmp_ge 94 dX8_lost_55 (by decide) (fun q1 => ?_) (fun q1 => ?_)
    · rw [if_pos q1] at h
      refine ug_iload_n 3 dX8_lost_94 rfl rfl ?_
      obtain rfl := Option.some.inj h
      exact ug_iret dX8_lost_95
    · rw [if_neg q1] at h
      refine ug_iload_n 3 dX8_lost_58 rfl rfl ?_
      refine ug_aload_n 0 dX8_lost_59 rfl rfl ?_
      refine ug_iload 4 dX8_lost_60 rfl ?_
      refine ug_iload_n 2 dX8_lost_62 rfl rfl ?_
      refine ug_if_ne 70 dX8_lost_63 (by decide) (fun q2 => ?_) (fun q2 => ?_)
      · rw [if_neg q2] at h
        refine ug_iload_n 1 dX8_lost_70 rfl rfl ?_
        refine ug_ineg dX8_lost_71 ?_
        refine ug_sub [(0, .ref (ue_d E 38)), (1, .int x1), (2, .int x2), (4, .int x4)] [0, 1, 2, 4] rfl ?_
        exact t_X8_lost_b72 (f_X8_lost_b49  n) ih mem x1 x2 x4 (-x1) x4 x3 _ h
      · rw [if_pos q2] at h
        refine ug_iload_n 1 dX8_lost_66 rfl rfl ?_
        refine ug_goto 72 dX8_lost_67 (by decide) ?_
        refine ug_sub [(0, .ref (ue_d E 38)), (1, .int x1), (2, .int x2), (4, .int x4)] [0, 1, 2, 4] rfl ?_
        exact t_X8_lost_b72 (f_X8_lost_b49  n) ih mem x1 x2 x4 x1 x4 x3 _ h
def f_X8_lost_b30 (mem : Um) (x1 : Int32) (x2 : Int32) (y0 : Int32) : Option (Um × Int32) :=
  ubi (f_X8_may mem y0 1 1) (fun m1 r2 => if r2 = 0 then (some (m1, 0)) else (ubi (f_X8_take m1) (fun m5 r6 => f_X8_lost_b49  UF m5 x1 x2 0 0)))
set_option maxRecDepth 20000 in
theorem t_X8_lost_b30 {l : Launch} {E : Ue} (mem : Um) (x1 : Int32) (x2 : Int32) (y0 : Int32) (z : Um × Int32) (h : f_X8_lost_b30  mem x1 x2 y0 = some z) : ug l E 4 0 0 cX8_lost 5 RX8 (some .int) [] (uz_i z) 0 0 30 [(0, .ref (ue_d E 38)), (1, .int x1), (2, .int x2)] [.int y0, .ref (ue_d E 38)] mem := by
  rw [f_X8_lost_b30] at h
  refine ug_iconst dX8_lost_30 un_iconst_1 ?_
  refine ug_iconst dX8_lost_31 un_iconst_1 ?_
  obtain ⟨m1, r2, h3, h⟩ := ubi_some h
  refine ug_callVi [.int y0, .int 1, .int 1] (c_X8_may  h3) kc_X8_190 ro_38 rfl (S := []) rfl (Nat.le_of_ble_eq_true rfl) (Nat.le_of_ble_eq_true rfl) (Nat.le_of_ble_eq_true rfl) dX8_lost_32 ?_
  refine ug_if_ne 40 dX8_lost_35 (by decide) (fun q4 => ?_) (fun q4 => ?_)
  · rw [if_neg q4] at h
    refine ug_aload_n 0 dX8_lost_40 rfl rfl ?_
    obtain ⟨m5, r6, h7, h⟩ := ubi_some h
    refine ug_callVv [] (c_X8_take  h7) kc_X8_302 ro_38 rfl (S := []) rfl (Nat.le_of_ble_eq_true rfl) (Nat.le_of_ble_eq_true rfl) (Nat.le_of_ble_eq_true rfl) dX8_lost_41 ?_
    refine ug_iconst dX8_lost_44 un_iconst_0 ?_
    refine ug_istore_n [(3, .int 0), (0, .ref (ue_d E 38)), (1, .int x1), (2, .int x2)] dX8_lost_45 rfl (Nat.le_of_ble_eq_true rfl) rfl ?_
    refine ug_iconst dX8_lost_46 un_iconst_0 ?_
    refine ug_istore [(4, .int 0), (3, .int 0), (0, .ref (ue_d E 38)), (1, .int x1), (2, .int x2)] dX8_lost_47 (Nat.le_of_ble_eq_true rfl) rfl ?_
    refine ug_sub [(0, .ref (ue_d E 38)), (1, .int x1), (2, .int x2), (3, .int 0), (4, .int 0)] [2, 3, 4, 1, 0] rfl ?_
    exact t_X8_lost_b49  UF m5 x1 x2 0 0 _ h
  · rw [if_pos q4] at h
    refine ug_iconst dX8_lost_38 un_iconst_0 ?_
    obtain rfl := Option.some.inj h
    exact ug_iret dX8_lost_39
def f_X8_lost_b29 (mem : Um) (x1 : Int32) (x2 : Int32) : Option (Um × Int32) :=
  f_X8_lost_b30 mem x1 x2 0
set_option maxRecDepth 20000 in
theorem t_X8_lost_b29 {l : Launch} {E : Ue} (mem : Um) (x1 : Int32) (x2 : Int32) (z : Um × Int32) (h : f_X8_lost_b29  mem x1 x2 = some z) : ug l E 4 0 0 cX8_lost 5 RX8 (some .int) [] (uz_i z) 0 0 29 [(0, .ref (ue_d E 38)), (1, .int x1), (2, .int x2)] [.ref (ue_d E 38)] mem := by
  rw [f_X8_lost_b29] at h
  refine ug_iconst dX8_lost_29 un_iconst_0 ?_
  exact t_X8_lost_b30 mem x1 x2 0 _ h
def f_X8_lost (mem : Um) (x1 : Int32) (x2 : Int32) : Option (Um × Int32) :=
  ubi (f_X8_within (um_w mem 38 0 0) x1 1 20) (fun m1 r2 => if r2 = 0 then (f_X8_lost_b29 m1 x1 x2) else (ubi (f_X8_within m1 x2 0 1) (fun m5 r6 => if r6 = 0 then (f_X8_lost_b29 m5 x1 x2) else (f_X8_lost_b30 m5 x1 x2 1))))
set_option maxRecDepth 20000 in
theorem t_X8_lost {l : Launch} {E : Ue} (mem : Um) (x1 : Int32) (x2 : Int32) (z : Um × Int32) (h : f_X8_lost  mem x1 x2 = some z) : ug l E 4 0 0 cX8_lost 5 RX8 (some .int) [] (uz_i z) 0 0 0 [(0, .ref (ue_d E 38)), (1, .int x1), (2, .int x2)] [] mem := by
  rw [f_X8_lost] at h
  refine ug_aload_n 0 dX8_lost_0 rfl rfl ?_
  refine ug_iconst dX8_lost_1 un_iconst_0 ?_
  refine ug_putI kp_X8_3 gi_38_0 dX8_lost_2 ?_
  refine ug_aload_n 0 dX8_lost_5 rfl rfl ?_
  refine ug_iload_n 1 dX8_lost_6 rfl rfl ?_
  refine ug_iconst dX8_lost_7 un_iconst_1 ?_
  refine ug_bipush dX8_lost_8 un_bipush_20 ?_
  obtain ⟨m1, r2, h3, h⟩ := ubi_some h
  refine ug_callSi [.int x1, .int 1, .int 20] (c_X8_within  h3) kc_X8_352 rfl (S := [.ref (ue_d E 38)]) rfl (Nat.le_of_ble_eq_true rfl) (Nat.le_of_ble_eq_true rfl) (Nat.le_of_ble_eq_true rfl) dX8_lost_10 ?_
  refine ug_if_eq 29 dX8_lost_13 (by decide) (fun q4 => ?_) (fun q4 => ?_)
  · rw [if_pos q4] at h
    exact t_X8_lost_b29 m1 x1 x2 _ h
  · rw [if_neg q4] at h
    refine ug_iload_n 2 dX8_lost_16 rfl rfl ?_
    refine ug_iconst dX8_lost_17 un_iconst_0 ?_
    refine ug_iconst dX8_lost_18 un_iconst_1 ?_
    obtain ⟨m5, r6, h7, h⟩ := ubi_some h
    refine ug_callSi [.int x2, .int 0, .int 1] (c_X8_within  h7) kc_X8_352 rfl (S := [.ref (ue_d E 38)]) rfl (Nat.le_of_ble_eq_true rfl) (Nat.le_of_ble_eq_true rfl) (Nat.le_of_ble_eq_true rfl) dX8_lost_19 ?_
    refine ug_if_eq 29 dX8_lost_22 (by decide) (fun q8 => ?_) (fun q8 => ?_)
    · rw [if_pos q8] at h
      exact t_X8_lost_b29 m5 x1 x2 _ h
    · rw [if_neg q8] at h
      refine ug_iconst dX8_lost_25 un_iconst_1 ?_
      refine ug_goto 30 dX8_lost_26 (by decide) ?_
      exact t_X8_lost_b30 m5 x1 x2 1 _ h
theorem c_X8_lost {l : Launch} {E : Ue} {mem : Um} {x1 : Int32} {x2 : Int32} {m1 : Um} {r : Int32} (h : f_X8_lost  mem x1 x2 = some (m1, r)) : ucr l E 4 0 0 yX8_lost cX8_lost 5 (some .int) [.ref (ue_d E 38), .int x1, .int x2] mem (some (.int r)) m1 := ucr_of rfl (Nat.le_of_ble_eq_true rfl) (t_X8_lost  mem x1 x2 _ h)
-- X8_terrace
def f_X8_terrace_b78 (k42 : Um → Int32 → Int32 → Option (Um × Int32)) (k50 : Um → Int32 → Int32 → Int32 → Option (Um × Int32)) (mem : Um) (x2 : Int32) (x3 : Int32) (x4 : Int32) : Option (Um × Int32) :=
  k50 mem x2 x3 (x4 + 1)
set_option maxRecDepth 20000 in
theorem t_X8_terrace_b78 {l : Launch} {E : Ue} (k42 : Um → Int32 → Int32 → Option (Um × Int32)) (hk42 : ∀ (mem : Um) (x2 : Int32) (x3 : Int32) (z : Um × Int32), k42 mem x2 x3 = some z → ug l E 5 0 0 cX8_terrace 5 RX8 (some .int) [] (uz_i z) 0 0 42 [(0, .ref (ue_d E 38)), (2, .int x2), (3, .int x3)] [] mem) (k50 : Um → Int32 → Int32 → Int32 → Option (Um × Int32)) (hk50 : ∀ (mem : Um) (x2 : Int32) (x3 : Int32) (x4 : Int32) (z : Um × Int32), k50 mem x2 x3 x4 = some z → ug l E 5 0 0 cX8_terrace 5 RX8 (some .int) [] (uz_i z) 0 0 50 [(0, .ref (ue_d E 38)), (2, .int x2), (3, .int x3), (4, .int x4)] [] mem) (mem : Um) (x2 : Int32) (x3 : Int32) (x4 : Int32) (z : Um × Int32) (h : f_X8_terrace_b78 k42 k50 mem x2 x3 x4 = some z) : ug l E 5 0 0 cX8_terrace 5 RX8 (some .int) [] (uz_i z) 0 0 78 [(0, .ref (ue_d E 38)), (2, .int x2), (3, .int x3), (4, .int x4)] [] mem := by
  rw [f_X8_terrace_b78] at h
  refine ug_iinc (v := (x4 + 1)) [(4, .int (x4 + 1)), (0, .ref (ue_d E 38)), (2, .int x2), (3, .int x3)] 3 dX8_terrace_78 rfl rfl (Nat.le_of_ble_eq_true rfl) rfl ?_
  refine ug_goto 50 dX8_terrace_81 (by decide) ?_
  refine ug_sub [(0, .ref (ue_d E 38)), (2, .int x2), (3, .int x3), (4, .int (x4 + 1))] [1, 2, 3, 0] rfl ?_
  exact hk50 mem x2 x3 (x4 + 1) _ h
def f_X8_terrace_b50 (k42 : Um → Int32 → Int32 → Option (Um × Int32)) : Nat → Um → Int32 → Int32 → Int32 → Option (Um × Int32)
  | 0, _, _, _, _ => none
  | n + 1, mem, x2, x3, x4 =>
    if (mem 38 18) ≤ x4 then (k42 mem x2 (x3 + 1)) else (if ((x2 >>> (x4 &&& 31)) &&& 1) = 1 then (ubi (f_X8_touchingOf mem x4) (fun m3 r4 => f_X8_terrace_b78 k42 (f_X8_terrace_b50 k42 n) m3 (x2 ||| r4) x3 x4)) else (f_X8_terrace_b78 k42 (f_X8_terrace_b50 k42 n) mem x2 x3 x4))
set_option maxRecDepth 20000 in
theorem t_X8_terrace_b50 {l : Launch} {E : Ue} (k42 : Um → Int32 → Int32 → Option (Um × Int32)) (hk42 : ∀ (mem : Um) (x2 : Int32) (x3 : Int32) (z : Um × Int32), k42 mem x2 x3 = some z → ug l E 5 0 0 cX8_terrace 5 RX8 (some .int) [] (uz_i z) 0 0 42 [(0, .ref (ue_d E 38)), (2, .int x2), (3, .int x3)] [] mem) : ∀ (n : Nat) (mem : Um) (x2 : Int32) (x3 : Int32) (x4 : Int32) (z : Um × Int32), f_X8_terrace_b50 k42 n mem x2 x3 x4 = some z → ug l E 5 0 0 cX8_terrace 5 RX8 (some .int) [] (uz_i z) 0 0 50 [(0, .ref (ue_d E 38)), (2, .int x2), (3, .int x3), (4, .int x4)] [] mem := by
  intro n
  induction n with
  | zero =>
    intro mem x2 x3 x4 z h
    rw [f_X8_terrace_b50] at h
    cases h
  | succ n ih =>
    intro mem x2 x3 x4 z h
    rw [f_X8_terrace_b50] at h
    refine ug_iload 3 dX8_terrace_50 rfl ?_
    refine ug_aload_n 0 dX8_terrace_52 rfl rfl ?_
    refine ug_getI kf_X8_154 gi_38_18 dX8_terrace_53 ?_
    refine ug_icmp_ge 84 dX8_terrace_56 (by decide) (fun q1 => ?_) (fun q1 => ?_)
    · rw [if_pos q1] at h
      refine ug_iinc (v := (x3 + 1)) [(3, .int (x3 + 1)), (0, .ref (ue_d E 38)), (2, .int x2), (4, .int x4)] 2 dX8_terrace_84 rfl rfl (Nat.le_of_ble_eq_true rfl) rfl ?_
      refine ug_goto 42 dX8_terrace_87 (by decide) ?_
      refine ug_sub [(0, .ref (ue_d E 38)), (2, .int x2), (3, .int (x3 + 1))] [1, 2, 0] rfl ?_
      exact hk42 mem x2 (x3 + 1) _ h
    · rw [if_neg q1] at h
      refine ug_iload_n 1 dX8_terrace_59 rfl rfl ?_
      refine ug_iload 3 dX8_terrace_60 rfl ?_
      refine ug_ishr dX8_terrace_62 ?_
      refine ug_iconst dX8_terrace_63 un_iconst_1 ?_
      refine ug_iand dX8_terrace_64 ?_
      refine ug_iconst dX8_terrace_65 un_iconst_1 ?_
      refine ug_icmp_ne 78 dX8_terrace_66 (by decide) (fun q2 => ?_) (fun q2 => ?_)
      · rw [if_neg q2] at h
        exact t_X8_terrace_b78 k42 hk42 (f_X8_terrace_b50 k42 n) ih mem x2 x3 x4 _ h
      · rw [if_pos q2] at h
        refine ug_iload_n 1 dX8_terrace_69 rfl rfl ?_
        refine ug_aload_n 0 dX8_terrace_70 rfl rfl ?_
        refine ug_iload 3 dX8_terrace_71 rfl ?_
        obtain ⟨m3, r4, h5, h⟩ := ubi_some h
        refine ug_callVi [.int x4] (c_X8_touchingOf  h5) kc_X8_336 ro_38 rfl (S := [.int x2]) rfl (Nat.le_of_ble_eq_true rfl) (Nat.le_of_ble_eq_true rfl) (Nat.le_of_ble_eq_true rfl) dX8_terrace_73 ?_
        refine ug_ior dX8_terrace_76 ?_
        refine ug_istore_n [(2, .int (x2 ||| r4)), (0, .ref (ue_d E 38)), (3, .int x3), (4, .int x4)] dX8_terrace_77 rfl (Nat.le_of_ble_eq_true rfl) rfl ?_
        refine ug_sub [(0, .ref (ue_d E 38)), (2, .int (x2 ||| r4)), (3, .int x3), (4, .int x4)] [1, 0, 2, 3] rfl ?_
        exact t_X8_terrace_b78 k42 hk42 (f_X8_terrace_b50 k42 n) ih m3 (x2 ||| r4) x3 x4 _ h
def f_X8_terrace_b42 : Nat → Um → Int32 → Int32 → Option (Um × Int32)
  | 0, _, _, _ => none
  | n + 1, mem, x2, x3 =>
    if 5 ≤ x3 then (some (mem, x2)) else (f_X8_terrace_b50 (f_X8_terrace_b42  n) UF mem x2 x3 0)
set_option maxRecDepth 20000 in
theorem t_X8_terrace_b42 {l : Launch} {E : Ue} : ∀ (n : Nat) (mem : Um) (x2 : Int32) (x3 : Int32) (z : Um × Int32), f_X8_terrace_b42  n mem x2 x3 = some z → ug l E 5 0 0 cX8_terrace 5 RX8 (some .int) [] (uz_i z) 0 0 42 [(0, .ref (ue_d E 38)), (2, .int x2), (3, .int x3)] [] mem := by
  intro n
  induction n with
  | zero =>
    intro mem x2 x3 z h
    rw [f_X8_terrace_b42] at h
    cases h
  | succ n ih =>
    intro mem x2 x3 z h
    rw [f_X8_terrace_b42] at h
    refine ug_iload_n 2 dX8_terrace_42 rfl rfl ?_
    refine ug_iconst dX8_terrace_43 un_iconst_5 ?_
    refine ug_icmp_ge 90 dX8_terrace_44 (by decide) (fun q1 => ?_) (fun q1 => ?_)
    · rw [if_pos q1] at h
      refine ug_iload_n 1 dX8_terrace_90 rfl rfl ?_
      obtain rfl := Option.some.inj h
      exact ug_iret dX8_terrace_91
    · rw [if_neg q1] at h
      refine ug_iconst dX8_terrace_47 un_iconst_0 ?_
      refine ug_istore [(4, .int 0), (0, .ref (ue_d E 38)), (2, .int x2), (3, .int x3)] dX8_terrace_48 (Nat.le_of_ble_eq_true rfl) rfl ?_
      refine ug_sub [(0, .ref (ue_d E 38)), (2, .int x2), (3, .int x3), (4, .int 0)] [1, 2, 3, 0] rfl ?_
      exact t_X8_terrace_b50 (f_X8_terrace_b42  n) ih UF mem x2 x3 0 _ h
def f_X8_terrace_b39 (mem : Um) (y0 : Int32) : Option (Um × Int32) :=
  f_X8_terrace_b42  UF mem y0 0
set_option maxRecDepth 20000 in
theorem t_X8_terrace_b39 {l : Launch} {E : Ue} (mem : Um) (y0 : Int32) (z : Um × Int32) (h : f_X8_terrace_b39  mem y0 = some z) : ug l E 5 0 0 cX8_terrace 5 RX8 (some .int) [] (uz_i z) 0 0 39 [(0, .ref (ue_d E 38))] [.int y0] mem := by
  rw [f_X8_terrace_b39] at h
  refine ug_istore_n [(2, .int y0), (0, .ref (ue_d E 38))] dX8_terrace_39 rfl (Nat.le_of_ble_eq_true rfl) rfl ?_
  refine ug_iconst dX8_terrace_40 un_iconst_0 ?_
  refine ug_istore_n [(3, .int 0), (2, .int y0), (0, .ref (ue_d E 38))] dX8_terrace_41 rfl (Nat.le_of_ble_eq_true rfl) rfl ?_
  refine ug_sub [(0, .ref (ue_d E 38)), (2, .int y0), (3, .int 0)] [2, 1, 0] rfl ?_
  exact t_X8_terrace_b42  UF mem y0 0 _ h
def f_X8_terrace (mem : Um) (x1 : Int32) : Option (Um × Int32) :=
  ubi (f_X8_isTenant (um_w mem 38 0 0) x1 1) (fun m1 r2 => if r2 = 0 then (some (m1, 0)) else (ubi (f_X8_take m1) (fun m5 r6 => ugd (uin (10 + x1) 28) (if (m5 54 (10 + x1).toNatClampNeg) ≤ 0 then (f_X8_terrace_b39 m5 0) else (f_X8_terrace_b39 m5 (1 <<< (x1 &&& 31)))))))
set_option maxRecDepth 20000 in
theorem t_X8_terrace {l : Launch} {E : Ue} (mem : Um) (x1 : Int32) (z : Um × Int32) (h : f_X8_terrace  mem x1 = some z) : ug l E 5 0 0 cX8_terrace 5 RX8 (some .int) [] (uz_i z) 0 0 0 [(0, .ref (ue_d E 38)), (1, .int x1)] [] mem := by
  rw [f_X8_terrace] at h
  refine ug_aload_n 0 dX8_terrace_0 rfl rfl ?_
  refine ug_iconst dX8_terrace_1 un_iconst_0 ?_
  refine ug_putI kp_X8_3 gi_38_0 dX8_terrace_2 ?_
  refine ug_aload_n 0 dX8_terrace_5 rfl rfl ?_
  refine ug_iload_n 1 dX8_terrace_6 rfl rfl ?_
  refine ug_iconst dX8_terrace_7 un_iconst_1 ?_
  obtain ⟨m1, r2, h3, h⟩ := ubi_some h
  refine ug_callVi [.int x1, .int 1] (c_X8_isTenant  h3) kc_X8_395 ro_38 rfl (S := []) rfl (Nat.le_of_ble_eq_true rfl) (Nat.le_of_ble_eq_true rfl) (Nat.le_of_ble_eq_true rfl) dX8_terrace_8 ?_
  refine ug_if_ne 16 dX8_terrace_11 (by decide) (fun q4 => ?_) (fun q4 => ?_)
  · rw [if_neg q4] at h
    refine ug_aload_n 0 dX8_terrace_16 rfl rfl ?_
    obtain ⟨m5, r6, h7, h⟩ := ubi_some h
    refine ug_callVv [] (c_X8_take  h7) kc_X8_302 ro_38 rfl (S := []) rfl (Nat.le_of_ble_eq_true rfl) (Nat.le_of_ble_eq_true rfl) (Nat.le_of_ble_eq_true rfl) dX8_terrace_17 ?_
    refine ug_aload_n 0 dX8_terrace_20 rfl rfl ?_
    refine ug_getR kf_X8_62 gr_38_37 dX8_terrace_21 ?_
    refine ug_bipush dX8_terrace_24 un_bipush_10 ?_
    refine ug_iload_n 1 dX8_terrace_26 rfl rfl ?_
    refine ug_iadd dX8_terrace_27 ?_
    obtain ⟨g8, h⟩ := ugd_some h
    refine ug_iald al_54 (uin_ok g8) dX8_terrace_28 ?_
    refine ug_if_le 38 dX8_terrace_29 (by decide) (fun q9 => ?_) (fun q9 => ?_)
    · rw [if_pos q9] at h
      refine ug_iconst dX8_terrace_38 un_iconst_0 ?_
      refine ug_sub [(0, .ref (ue_d E 38))] [0] rfl ?_
      exact t_X8_terrace_b39 m5 0 _ h
    · rw [if_neg q9] at h
      refine ug_iconst dX8_terrace_32 un_iconst_1 ?_
      refine ug_iload_n 1 dX8_terrace_33 rfl rfl ?_
      refine ug_ishl dX8_terrace_34 ?_
      refine ug_goto 39 dX8_terrace_35 (by decide) ?_
      refine ug_sub [(0, .ref (ue_d E 38))] [0] rfl ?_
      exact t_X8_terrace_b39 m5 (1 <<< (x1 &&& 31)) _ h
  · rw [if_pos q4] at h
    refine ug_iconst dX8_terrace_14 un_iconst_0 ?_
    obtain rfl := Option.some.inj h
    exact ug_iret dX8_terrace_15
theorem c_X8_terrace {l : Launch} {E : Ue} {mem : Um} {x1 : Int32} {m1 : Um} {r : Int32} (h : f_X8_terrace  mem x1 = some (m1, r)) : ucr l E 5 0 0 yX8_terrace cX8_terrace 5 (some .int) [.ref (ue_d E 38), .int x1] mem (some (.int r)) m1 := ucr_of rfl (Nat.le_of_ble_eq_true rfl) (t_X8_terrace  mem x1 _ h)
-- X8_overlap
def f_X8_overlap_b23 (mem : Um) : Option (Um × Int32) :=
  some (mem, 0)
set_option maxRecDepth 20000 in
theorem t_X8_overlap_b23 {l : Launch} {E : Ue} (mem : Um) (z : Um × Int32) (h : f_X8_overlap_b23  mem  = some z) : ug l E 4 0 0 cX8_overlap 3 RX8 (some .int) [] (uz_i z) 0 0 23 [] [] mem := by
  rw [f_X8_overlap_b23] at h
  refine ug_iconst dX8_overlap_23 un_iconst_0 ?_
  obtain rfl := Option.some.inj h
  exact ug_iret dX8_overlap_24
def f_X8_overlap_b54 (mem : Um) : Option (Um × Int32) :=
  some (mem, (-2147483648))
set_option maxRecDepth 20000 in
theorem t_X8_overlap_b54 {l : Launch} {E : Ue} (mem : Um) (z : Um × Int32) (h : f_X8_overlap_b54  mem  = some z) : ug l E 4 0 0 cX8_overlap 3 RX8 (some .int) [] (uz_i z) 0 0 54 [] [] mem := by
  rw [f_X8_overlap_b54] at h
  refine ug_ldcw kk_X8_432 dX8_overlap_54 ?_
  obtain rfl := Option.some.inj h
  exact ug_iret dX8_overlap_57
def f_X8_overlap (mem : Um) (x1 : Int32) (x2 : Int32) : Option (Um × Int32) :=
  ubi (f_X8_isTenant (um_w mem 38 0 0) x1 1) (fun m1 r2 => if r2 = 0 then (f_X8_overlap_b23 m1) else (ubi (f_X8_isTenant m1 x2 1) (fun m5 r6 => if r6 = 0 then (f_X8_overlap_b23 m5) else (if x1 = x2 then (f_X8_overlap_b54 m5) else (ugd (uin (10 + x1) 28) (if (m5 53 (10 + x1).toNatClampNeg) = 0 then (f_X8_overlap_b54 m5) else (ugd (uin (10 + x2) 28) (if (m5 53 (10 + x2).toNatClampNeg) = 0 then (f_X8_overlap_b54 m5) else (ugd (uin (10 + x1) 28) (ugd (uin (10 + x2) 28) (ugd (uin (15 + x1) 28) (ugd (uin (15 + x2) 28) (ubi (f_X8_size m5 ((m5 53 (15 + x1).toNatClampNeg) - (m5 53 (15 + x2).toNatClampNeg))) (fun m18 r19 => some (m18, (((m5 53 (10 + x1).toNatClampNeg) + (m5 53 (10 + x2).toNatClampNeg)) - r19))))))))))))))))
set_option maxRecDepth 20000 in
theorem t_X8_overlap {l : Launch} {E : Ue} (mem : Um) (x1 : Int32) (x2 : Int32) (z : Um × Int32) (h : f_X8_overlap  mem x1 x2 = some z) : ug l E 4 0 0 cX8_overlap 3 RX8 (some .int) [] (uz_i z) 0 0 0 [(0, .ref (ue_d E 38)), (1, .int x1), (2, .int x2)] [] mem := by
  rw [f_X8_overlap] at h
  refine ug_aload_n 0 dX8_overlap_0 rfl rfl ?_
  refine ug_iconst dX8_overlap_1 un_iconst_0 ?_
  refine ug_putI kp_X8_3 gi_38_0 dX8_overlap_2 ?_
  refine ug_aload_n 0 dX8_overlap_5 rfl rfl ?_
  refine ug_iload_n 1 dX8_overlap_6 rfl rfl ?_
  refine ug_iconst dX8_overlap_7 un_iconst_1 ?_
  obtain ⟨m1, r2, h3, h⟩ := ubi_some h
  refine ug_callVi [.int x1, .int 1] (c_X8_isTenant  h3) kc_X8_395 ro_38 rfl (S := []) rfl (Nat.le_of_ble_eq_true rfl) (Nat.le_of_ble_eq_true rfl) (Nat.le_of_ble_eq_true rfl) dX8_overlap_8 ?_
  refine ug_if_eq 23 dX8_overlap_11 (by decide) (fun q4 => ?_) (fun q4 => ?_)
  · rw [if_pos q4] at h
    refine ug_sub [] [] rfl ?_
    exact t_X8_overlap_b23 m1  _ h
  · rw [if_neg q4] at h
    refine ug_aload_n 0 dX8_overlap_14 rfl rfl ?_
    refine ug_iload_n 2 dX8_overlap_15 rfl rfl ?_
    refine ug_iconst dX8_overlap_16 un_iconst_1 ?_
    obtain ⟨m5, r6, h7, h⟩ := ubi_some h
    refine ug_callVi [.int x2, .int 1] (c_X8_isTenant  h7) kc_X8_395 ro_38 rfl (S := []) rfl (Nat.le_of_ble_eq_true rfl) (Nat.le_of_ble_eq_true rfl) (Nat.le_of_ble_eq_true rfl) dX8_overlap_17 ?_
    refine ug_if_ne 25 dX8_overlap_20 (by decide) (fun q8 => ?_) (fun q8 => ?_)
    · rw [if_neg q8] at h
      refine ug_iload_n 1 dX8_overlap_25 rfl rfl ?_
      refine ug_iload_n 2 dX8_overlap_26 rfl rfl ?_
      refine ug_icmp_eq 54 dX8_overlap_27 (by decide) (fun q9 => ?_) (fun q9 => ?_)
      · rw [if_pos q9] at h
        refine ug_sub [] [] rfl ?_
        exact t_X8_overlap_b54 m5  _ h
      · rw [if_neg q9] at h
        refine ug_aload_n 0 dX8_overlap_30 rfl rfl ?_
        refine ug_getR kf_X8_59 gr_38_36 dX8_overlap_31 ?_
        refine ug_bipush dX8_overlap_34 un_bipush_10 ?_
        refine ug_iload_n 1 dX8_overlap_36 rfl rfl ?_
        refine ug_iadd dX8_overlap_37 ?_
        obtain ⟨g10, h⟩ := ugd_some h
        refine ug_iald al_53 (uin_ok g10) dX8_overlap_38 ?_
        refine ug_if_eq 54 dX8_overlap_39 (by decide) (fun q11 => ?_) (fun q11 => ?_)
        · rw [if_pos q11] at h
          refine ug_sub [] [] rfl ?_
          exact t_X8_overlap_b54 m5  _ h
        · rw [if_neg q11] at h
          refine ug_aload_n 0 dX8_overlap_42 rfl rfl ?_
          refine ug_getR kf_X8_59 gr_38_36 dX8_overlap_43 ?_
          refine ug_bipush dX8_overlap_46 un_bipush_10 ?_
          refine ug_iload_n 2 dX8_overlap_48 rfl rfl ?_
          refine ug_iadd dX8_overlap_49 ?_
          obtain ⟨g12, h⟩ := ugd_some h
          refine ug_iald al_53 (uin_ok g12) dX8_overlap_50 ?_
          refine ug_if_ne 58 dX8_overlap_51 (by decide) (fun q13 => ?_) (fun q13 => ?_)
          · rw [if_neg q13] at h
            refine ug_aload_n 0 dX8_overlap_58 rfl rfl ?_
            refine ug_getR kf_X8_59 gr_38_36 dX8_overlap_59 ?_
            refine ug_bipush dX8_overlap_62 un_bipush_10 ?_
            refine ug_iload_n 1 dX8_overlap_64 rfl rfl ?_
            refine ug_iadd dX8_overlap_65 ?_
            obtain ⟨g14, h⟩ := ugd_some h
            refine ug_iald al_53 (uin_ok g14) dX8_overlap_66 ?_
            refine ug_aload_n 0 dX8_overlap_67 rfl rfl ?_
            refine ug_getR kf_X8_59 gr_38_36 dX8_overlap_68 ?_
            refine ug_bipush dX8_overlap_71 un_bipush_10 ?_
            refine ug_iload_n 2 dX8_overlap_73 rfl rfl ?_
            refine ug_iadd dX8_overlap_74 ?_
            obtain ⟨g15, h⟩ := ugd_some h
            refine ug_iald al_53 (uin_ok g15) dX8_overlap_75 ?_
            refine ug_iadd dX8_overlap_76 ?_
            refine ug_aload_n 0 dX8_overlap_77 rfl rfl ?_
            refine ug_getR kf_X8_59 gr_38_36 dX8_overlap_78 ?_
            refine ug_bipush dX8_overlap_81 un_bipush_15 ?_
            refine ug_iload_n 1 dX8_overlap_83 rfl rfl ?_
            refine ug_iadd dX8_overlap_84 ?_
            obtain ⟨g16, h⟩ := ugd_some h
            refine ug_iald al_53 (uin_ok g16) dX8_overlap_85 ?_
            refine ug_aload_n 0 dX8_overlap_86 rfl rfl ?_
            refine ug_getR kf_X8_59 gr_38_36 dX8_overlap_87 ?_
            refine ug_bipush dX8_overlap_90 un_bipush_15 ?_
            refine ug_iload_n 2 dX8_overlap_92 rfl rfl ?_
            refine ug_iadd dX8_overlap_93 ?_
            obtain ⟨g17, h⟩ := ugd_some h
            refine ug_iald al_53 (uin_ok g17) dX8_overlap_94 ?_
            refine ug_isub dX8_overlap_95 ?_
            obtain ⟨m18, r19, h20, h⟩ := ubi_some h
            refine ug_callSi [.int ((m5 53 (15 + x1).toNatClampNeg) - (m5 53 (15 + x2).toNatClampNeg))] (c_X8_size  h20) kc_X8_321 rfl (S := [.int ((m5 53 (10 + x1).toNatClampNeg) + (m5 53 (10 + x2).toNatClampNeg))]) rfl (Nat.le_of_ble_eq_true rfl) (Nat.le_of_ble_eq_true rfl) (Nat.le_of_ble_eq_true rfl) dX8_overlap_96 ?_
            refine ug_isub dX8_overlap_99 ?_
            obtain rfl := Option.some.inj h
            exact ug_iret dX8_overlap_100
          · rw [if_pos q13] at h
            refine ug_sub [] [] rfl ?_
            exact t_X8_overlap_b54 m5  _ h
    · rw [if_pos q8] at h
      refine ug_sub [] [] rfl ?_
      exact t_X8_overlap_b23 m5  _ h
theorem c_X8_overlap {l : Launch} {E : Ue} {mem : Um} {x1 : Int32} {x2 : Int32} {m1 : Um} {r : Int32} (h : f_X8_overlap  mem x1 x2 = some (m1, r)) : ucr l E 4 0 0 yX8_overlap cX8_overlap 3 (some .int) [.ref (ue_d E 38), .int x1, .int x2] mem (some (.int r)) m1 := ucr_of rfl (Nat.le_of_ble_eq_true rfl) (t_X8_overlap  mem x1 x2 _ h)
-- X8_vacant
def f_X8_vacant_b106 (mem : Um) (y0 : Int32) : Option (Um × Int32) :=
  some (mem, y0)
set_option maxRecDepth 20000 in
theorem t_X8_vacant_b106 {l : Launch} {E : Ue} (mem : Um) (y0 : Int32) (z : Um × Int32) (h : f_X8_vacant_b106  mem y0 = some z) : ug l E 5 0 0 cX8_vacant 4 RX8 (some .int) [] (uz_i z) 0 0 106 [] [.int y0] mem := by
  rw [f_X8_vacant_b106] at h
  obtain rfl := Option.some.inj h
  exact ug_iret dX8_vacant_106
def f_X8_vacant_b92 (mem : Um) (x2 : Int32) : Option (Um × Int32) :=
  f_X8_vacant_b106 mem x2
set_option maxRecDepth 20000 in
theorem t_X8_vacant_b92 {l : Launch} {E : Ue} (mem : Um) (x2 : Int32) (z : Um × Int32) (h : f_X8_vacant_b92  mem x2 = some z) : ug l E 5 0 0 cX8_vacant 4 RX8 (some .int) [] (uz_i z) 0 0 92 [(2, .int x2)] [] mem := by
  rw [f_X8_vacant_b92] at h
  refine ug_iload_n 0 dX8_vacant_92 rfl rfl ?_
  refine ug_goto 106 dX8_vacant_93 (by decide) ?_
  refine ug_sub [] [] rfl ?_
  exact t_X8_vacant_b106 mem x2 _ h
def f_X8_vacant_b77 (k30 : Um → Int32 → Int32 → Int32 → Option (Um × Int32)) (mem : Um) (x1 : Int32) (x2 : Int32) (x3 : Int32) : Option (Um × Int32) :=
  k30 mem x1 x2 (x3 + 1)
set_option maxRecDepth 20000 in
theorem t_X8_vacant_b77 {l : Launch} {E : Ue} (k30 : Um → Int32 → Int32 → Int32 → Option (Um × Int32)) (hk30 : ∀ (mem : Um) (x1 : Int32) (x2 : Int32) (x3 : Int32) (z : Um × Int32), k30 mem x1 x2 x3 = some z → ug l E 5 0 0 cX8_vacant 4 RX8 (some .int) [] (uz_i z) 0 0 30 [(0, .ref (ue_d E 38)), (1, .int x1), (2, .int x2), (3, .int x3)] [] mem) (mem : Um) (x1 : Int32) (x2 : Int32) (x3 : Int32) (z : Um × Int32) (h : f_X8_vacant_b77 k30 mem x1 x2 x3 = some z) : ug l E 5 0 0 cX8_vacant 4 RX8 (some .int) [] (uz_i z) 0 0 77 [(0, .ref (ue_d E 38)), (1, .int x1), (2, .int x2), (3, .int x3)] [] mem := by
  rw [f_X8_vacant_b77] at h
  refine ug_iinc (v := (x3 + 1)) [(3, .int (x3 + 1)), (0, .ref (ue_d E 38)), (1, .int x1), (2, .int x2)] 3 dX8_vacant_77 rfl rfl (Nat.le_of_ble_eq_true rfl) rfl ?_
  refine ug_goto 30 dX8_vacant_80 (by decide) ?_
  refine ug_sub [(0, .ref (ue_d E 38)), (1, .int x1), (2, .int x2), (3, .int (x3 + 1))] [1, 2, 3, 0] rfl ?_
  exact hk30 mem x1 x2 (x3 + 1) _ h
def f_X8_vacant_b75 (k30 : Um → Int32 → Int32 → Int32 → Option (Um × Int32)) (mem : Um) (x1 : Int32) (x3 : Int32) : Option (Um × Int32) :=
  f_X8_vacant_b77 k30 mem x1 x3 x3
set_option maxRecDepth 20000 in
theorem t_X8_vacant_b75 {l : Launch} {E : Ue} (k30 : Um → Int32 → Int32 → Int32 → Option (Um × Int32)) (hk30 : ∀ (mem : Um) (x1 : Int32) (x2 : Int32) (x3 : Int32) (z : Um × Int32), k30 mem x1 x2 x3 = some z → ug l E 5 0 0 cX8_vacant 4 RX8 (some .int) [] (uz_i z) 0 0 30 [(0, .ref (ue_d E 38)), (1, .int x1), (2, .int x2), (3, .int x3)] [] mem) (mem : Um) (x1 : Int32) (x3 : Int32) (z : Um × Int32) (h : f_X8_vacant_b75 k30 mem x1 x3 = some z) : ug l E 5 0 0 cX8_vacant 4 RX8 (some .int) [] (uz_i z) 0 0 75 [(0, .ref (ue_d E 38)), (1, .int x1), (3, .int x3)] [] mem := by
  rw [f_X8_vacant_b75] at h
  refine ug_iload_n 2 dX8_vacant_75 rfl rfl ?_
  refine ug_istore_n [(2, .int x3), (0, .ref (ue_d E 38)), (1, .int x1), (3, .int x3)] dX8_vacant_76 rfl (Nat.le_of_ble_eq_true rfl) rfl ?_
  refine ug_sub [(0, .ref (ue_d E 38)), (1, .int x1), (2, .int x3), (3, .int x3)] [1, 2, 0, 3] rfl ?_
  exact t_X8_vacant_b77 k30 hk30 mem x1 x3 x3 _ h
def f_X8_vacant_b30 : Nat → Um → Int32 → Int32 → Int32 → Option (Um × Int32)
  | 0, _, _, _, _ => none
  | n + 1, mem, x1, x2, x3 =>
    if (mem 38 17) ≤ x3 then (if x1 = 0 then (f_X8_vacant_b92 mem x2) else (if x2 = (-1) then (f_X8_vacant_b92 mem x2) else (ugd (uin ((2 * x2) + 1) 16) (f_X8_vacant_b106 mem (mem 43 ((2 * x2) + 1).toNatClampNeg))))) else (ubi (f_X8_ownerOf mem x3) (fun m5 r6 => if r6 = (-1) then (if x2 = (-1) then (f_X8_vacant_b75 (f_X8_vacant_b30  n) m5 x1 x3) else (ugd (uin ((2 * x3) + 1) 16) (ugd (uin ((2 * x2) + 1) 16) (if (m5 43 ((2 * x3) + 1).toNatClampNeg) ≤ (m5 43 ((2 * x2) + 1).toNatClampNeg) then (f_X8_vacant_b77 (f_X8_vacant_b30  n) m5 x1 x2 x3) else (f_X8_vacant_b75 (f_X8_vacant_b30  n) m5 x1 x3))))) else (f_X8_vacant_b77 (f_X8_vacant_b30  n) m5 x1 x2 x3)))
set_option maxRecDepth 20000 in
theorem t_X8_vacant_b30 {l : Launch} {E : Ue} : ∀ (n : Nat) (mem : Um) (x1 : Int32) (x2 : Int32) (x3 : Int32) (z : Um × Int32), f_X8_vacant_b30  n mem x1 x2 x3 = some z → ug l E 5 0 0 cX8_vacant 4 RX8 (some .int) [] (uz_i z) 0 0 30 [(0, .ref (ue_d E 38)), (1, .int x1), (2, .int x2), (3, .int x3)] [] mem := by
  intro n
  induction n with
  | zero =>
    intro mem x1 x2 x3 z h
    rw [f_X8_vacant_b30] at h
    cases h
  | succ n ih =>
    intro mem x1 x2 x3 z h
    rw [f_X8_vacant_b30] at h
    refine ug_iload_n 3 dX8_vacant_30 rfl rfl ?_
    refine ug_aload_n 0 dX8_vacant_31 rfl rfl ?_
    refine ug_getI kf_X8_151 gi_38_17 dX8_vacant_32 ?_
    refine ug_icmp_ge 83 dX8_vacant_35 (by decide) (fun q1 => ?_) (fun q1 => ?_)
    · rw [if_pos q1] at h
      refine ug_iload_n 1 dX8_vacant_83 rfl rfl ?_
      refine ug_if_eq 92 dX8_vacant_84 (by decide) (fun q2 => ?_) (fun q2 => ?_)
      · rw [if_pos q2] at h
        refine ug_sub [(2, .int x2)] [2] rfl ?_
        exact t_X8_vacant_b92 mem x2 _ h
      · rw [if_neg q2] at h
        refine ug_iload_n 2 dX8_vacant_87 rfl rfl ?_
        refine ug_iconst dX8_vacant_88 un_iconst_m1 ?_
        refine ug_icmp_ne 96 dX8_vacant_89 (by decide) (fun q3 => ?_) (fun q3 => ?_)
        · rw [if_neg q3] at h
          refine ug_aload_n 0 dX8_vacant_96 rfl rfl ?_
          refine ug_getR kf_X8_29 gr_38_12 dX8_vacant_97 ?_
          refine ug_iconst dX8_vacant_100 un_iconst_2 ?_
          refine ug_iload_n 2 dX8_vacant_101 rfl rfl ?_
          refine ug_imul dX8_vacant_102 ?_
          refine ug_iconst dX8_vacant_103 un_iconst_1 ?_
          refine ug_iadd dX8_vacant_104 ?_
          obtain ⟨g4, h⟩ := ugd_some h
          refine ug_iald al_43 (uin_ok g4) dX8_vacant_105 ?_
          refine ug_sub [] [] rfl ?_
          exact t_X8_vacant_b106 mem (mem 43 ((2 * x2) + 1).toNatClampNeg) _ h
        · rw [if_pos q3] at h
          refine ug_sub [(2, .int x2)] [2] rfl ?_
          exact t_X8_vacant_b92 mem x2 _ h
    · rw [if_neg q1] at h
      refine ug_aload_n 0 dX8_vacant_38 rfl rfl ?_
      refine ug_iload_n 3 dX8_vacant_39 rfl rfl ?_
      obtain ⟨m5, r6, h7, h⟩ := ubi_some h
      refine ug_callVi [.int x3] (c_X8_ownerOf  h7) kc_X8_327 ro_38 rfl (S := []) rfl (Nat.le_of_ble_eq_true rfl) (Nat.le_of_ble_eq_true rfl) (Nat.le_of_ble_eq_true rfl) dX8_vacant_40 ?_
      refine ug_iconst dX8_vacant_43 un_iconst_m1 ?_
      refine ug_icmp_ne 77 dX8_vacant_44 (by decide) (fun q8 => ?_) (fun q8 => ?_)
      · rw [if_neg q8] at h
        exact t_X8_vacant_b77 (f_X8_vacant_b30  n) ih m5 x1 x2 x3 _ h
      · rw [if_pos q8] at h
        refine ug_iload_n 2 dX8_vacant_47 rfl rfl ?_
        refine ug_iconst dX8_vacant_48 un_iconst_m1 ?_
        refine ug_icmp_eq 75 dX8_vacant_49 (by decide) (fun q9 => ?_) (fun q9 => ?_)
        · rw [if_pos q9] at h
          refine ug_sub [(0, .ref (ue_d E 38)), (1, .int x1), (3, .int x3)] [0, 1, 3] rfl ?_
          exact t_X8_vacant_b75 (f_X8_vacant_b30  n) ih m5 x1 x3 _ h
        · rw [if_neg q9] at h
          refine ug_aload_n 0 dX8_vacant_52 rfl rfl ?_
          refine ug_getR kf_X8_29 gr_38_12 dX8_vacant_53 ?_
          refine ug_iconst dX8_vacant_56 un_iconst_2 ?_
          refine ug_iload_n 3 dX8_vacant_57 rfl rfl ?_
          refine ug_imul dX8_vacant_58 ?_
          refine ug_iconst dX8_vacant_59 un_iconst_1 ?_
          refine ug_iadd dX8_vacant_60 ?_
          obtain ⟨g10, h⟩ := ugd_some h
          refine ug_iald al_43 (uin_ok g10) dX8_vacant_61 ?_
          refine ug_aload_n 0 dX8_vacant_62 rfl rfl ?_
          refine ug_getR kf_X8_29 gr_38_12 dX8_vacant_63 ?_
          refine ug_iconst dX8_vacant_66 un_iconst_2 ?_
          refine ug_iload_n 2 dX8_vacant_67 rfl rfl ?_
          refine ug_imul dX8_vacant_68 ?_
          refine ug_iconst dX8_vacant_69 un_iconst_1 ?_
          refine ug_iadd dX8_vacant_70 ?_
          obtain ⟨g11, h⟩ := ugd_some h
          refine ug_iald al_43 (uin_ok g11) dX8_vacant_71 ?_
          refine ug_icmp_le 77 dX8_vacant_72 (by decide) (fun q12 => ?_) (fun q12 => ?_)
          · rw [if_pos q12] at h
            exact t_X8_vacant_b77 (f_X8_vacant_b30  n) ih m5 x1 x2 x3 _ h
          · rw [if_neg q12] at h
            refine ug_sub [(0, .ref (ue_d E 38)), (1, .int x1), (3, .int x3)] [0, 1, 3] rfl ?_
            exact t_X8_vacant_b75 (f_X8_vacant_b30  n) ih m5 x1 x3 _ h
def f_X8_vacant (mem : Um) (x1 : Int32) : Option (Um × Int32) :=
  ubi (f_X8_within (um_w mem 38 0 0) x1 0 1) (fun m1 r2 => ubi (f_X8_may m1 r2 1 1) (fun m4 r5 => if r5 = 0 then (some (m4, 0)) else (ubi (f_X8_take m4) (fun m8 r9 => f_X8_vacant_b30  UF m8 x1 (-1) 0))))
set_option maxRecDepth 20000 in
theorem t_X8_vacant {l : Launch} {E : Ue} (mem : Um) (x1 : Int32) (z : Um × Int32) (h : f_X8_vacant  mem x1 = some z) : ug l E 5 0 0 cX8_vacant 4 RX8 (some .int) [] (uz_i z) 0 0 0 [(0, .ref (ue_d E 38)), (1, .int x1)] [] mem := by
  rw [f_X8_vacant] at h
  refine ug_aload_n 0 dX8_vacant_0 rfl rfl ?_
  refine ug_iconst dX8_vacant_1 un_iconst_0 ?_
  refine ug_putI kp_X8_3 gi_38_0 dX8_vacant_2 ?_
  refine ug_aload_n 0 dX8_vacant_5 rfl rfl ?_
  refine ug_iload_n 1 dX8_vacant_6 rfl rfl ?_
  refine ug_iconst dX8_vacant_7 un_iconst_0 ?_
  refine ug_iconst dX8_vacant_8 un_iconst_1 ?_
  obtain ⟨m1, r2, h3, h⟩ := ubi_some h
  refine ug_callSi [.int x1, .int 0, .int 1] (c_X8_within  h3) kc_X8_352 rfl (S := [.ref (ue_d E 38)]) rfl (Nat.le_of_ble_eq_true rfl) (Nat.le_of_ble_eq_true rfl) (Nat.le_of_ble_eq_true rfl) dX8_vacant_9 ?_
  refine ug_iconst dX8_vacant_12 un_iconst_1 ?_
  refine ug_iconst dX8_vacant_13 un_iconst_1 ?_
  obtain ⟨m4, r5, h6, h⟩ := ubi_some h
  refine ug_callVi [.int r2, .int 1, .int 1] (c_X8_may  h6) kc_X8_190 ro_38 rfl (S := []) rfl (Nat.le_of_ble_eq_true rfl) (Nat.le_of_ble_eq_true rfl) (Nat.le_of_ble_eq_true rfl) dX8_vacant_14 ?_
  refine ug_if_ne 22 dX8_vacant_17 (by decide) (fun q7 => ?_) (fun q7 => ?_)
  · rw [if_neg q7] at h
    refine ug_aload_n 0 dX8_vacant_22 rfl rfl ?_
    obtain ⟨m8, r9, h10, h⟩ := ubi_some h
    refine ug_callVv [] (c_X8_take  h10) kc_X8_302 ro_38 rfl (S := []) rfl (Nat.le_of_ble_eq_true rfl) (Nat.le_of_ble_eq_true rfl) (Nat.le_of_ble_eq_true rfl) dX8_vacant_23 ?_
    refine ug_iconst dX8_vacant_26 un_iconst_m1 ?_
    refine ug_istore_n [(2, .int (-1)), (0, .ref (ue_d E 38)), (1, .int x1)] dX8_vacant_27 rfl (Nat.le_of_ble_eq_true rfl) rfl ?_
    refine ug_iconst dX8_vacant_28 un_iconst_0 ?_
    refine ug_istore_n [(3, .int 0), (2, .int (-1)), (0, .ref (ue_d E 38)), (1, .int x1)] dX8_vacant_29 rfl (Nat.le_of_ble_eq_true rfl) rfl ?_
    refine ug_sub [(0, .ref (ue_d E 38)), (1, .int x1), (2, .int (-1)), (3, .int 0)] [2, 3, 1, 0] rfl ?_
    exact t_X8_vacant_b30  UF m8 x1 (-1) 0 _ h
  · rw [if_pos q7] at h
    refine ug_iconst dX8_vacant_20 un_iconst_0 ?_
    obtain rfl := Option.some.inj h
    exact ug_iret dX8_vacant_21
theorem c_X8_vacant {l : Launch} {E : Ue} {mem : Um} {x1 : Int32} {m1 : Um} {r : Int32} (h : f_X8_vacant  mem x1 = some (m1, r)) : ucr l E 5 0 0 yX8_vacant cX8_vacant 4 (some .int) [.ref (ue_d E 38), .int x1] mem (some (.int r)) m1 := ucr_of rfl (Nat.le_of_ble_eq_true rfl) (t_X8_vacant  mem x1 _ h)
-- X8_needs
def f_X8_needs_b23 (mem : Um) : Option (Um × Int32) :=
  some (mem, 0)
set_option maxRecDepth 20000 in
theorem t_X8_needs_b23 {l : Launch} {E : Ue} (mem : Um) (z : Um × Int32) (h : f_X8_needs_b23  mem  = some z) : ug l E 4 0 0 cX8_needs 4 RX8 (some .int) [] (uz_i z) 0 0 23 [] [] mem := by
  rw [f_X8_needs_b23] at h
  refine ug_iconst dX8_needs_23 un_iconst_0 ?_
  obtain rfl := Option.some.inj h
  exact ug_iret dX8_needs_24
def f_X8_needs_b65 (mem : Um) (y0 : Int32) : Option (Um × Int32) :=
  some (mem, y0)
set_option maxRecDepth 20000 in
theorem t_X8_needs_b65 {l : Launch} {E : Ue} (mem : Um) (y0 : Int32) (z : Um × Int32) (h : f_X8_needs_b65  mem y0 = some z) : ug l E 4 0 0 cX8_needs 4 RX8 (some .int) [] (uz_i z) 0 0 65 [] [.int y0] mem := by
  rw [f_X8_needs_b65] at h
  obtain rfl := Option.some.inj h
  exact ug_iret dX8_needs_65
def f_X8_needs (mem : Um) (x1 : Int32) (x2 : Int32) : Option (Um × Int32) :=
  ubi (f_X8_isTenant (um_w mem 38 0 0) x1 1) (fun m1 r2 => if r2 = 0 then (f_X8_needs_b23 m1) else (ubi (f_X8_isView m1 x2 1) (fun m5 r6 => if r6 = 0 then (f_X8_needs_b23 m5) else (ugd (uin (5 + x1) 28) (ugd (uin (2 * x2) 16) (ubi (f_X8_size m5 ((m5 53 (5 + x1).toNatClampNeg) - (m5 43 (2 * x2).toNatClampNeg))) (fun m11 r12 => if r12 ≤ 20 then (if r12 = 0 then (f_X8_needs_b65 m11 1) else (f_X8_needs_b65 m11 r12)) else (f_X8_needs_b65 m11 (-1)))))))))
set_option maxRecDepth 20000 in
theorem t_X8_needs {l : Launch} {E : Ue} (mem : Um) (x1 : Int32) (x2 : Int32) (z : Um × Int32) (h : f_X8_needs  mem x1 x2 = some z) : ug l E 4 0 0 cX8_needs 4 RX8 (some .int) [] (uz_i z) 0 0 0 [(0, .ref (ue_d E 38)), (1, .int x1), (2, .int x2)] [] mem := by
  rw [f_X8_needs] at h
  refine ug_aload_n 0 dX8_needs_0 rfl rfl ?_
  refine ug_iconst dX8_needs_1 un_iconst_0 ?_
  refine ug_putI kp_X8_3 gi_38_0 dX8_needs_2 ?_
  refine ug_aload_n 0 dX8_needs_5 rfl rfl ?_
  refine ug_iload_n 1 dX8_needs_6 rfl rfl ?_
  refine ug_iconst dX8_needs_7 un_iconst_1 ?_
  obtain ⟨m1, r2, h3, h⟩ := ubi_some h
  refine ug_callVi [.int x1, .int 1] (c_X8_isTenant  h3) kc_X8_395 ro_38 rfl (S := []) rfl (Nat.le_of_ble_eq_true rfl) (Nat.le_of_ble_eq_true rfl) (Nat.le_of_ble_eq_true rfl) dX8_needs_8 ?_
  refine ug_if_eq 23 dX8_needs_11 (by decide) (fun q4 => ?_) (fun q4 => ?_)
  · rw [if_pos q4] at h
    refine ug_sub [] [] rfl ?_
    exact t_X8_needs_b23 m1  _ h
  · rw [if_neg q4] at h
    refine ug_aload_n 0 dX8_needs_14 rfl rfl ?_
    refine ug_iload_n 2 dX8_needs_15 rfl rfl ?_
    refine ug_iconst dX8_needs_16 un_iconst_1 ?_
    obtain ⟨m5, r6, h7, h⟩ := ubi_some h
    refine ug_callVi [.int x2, .int 1] (c_X8_isView  h7) kc_X8_392 ro_38 rfl (S := []) rfl (Nat.le_of_ble_eq_true rfl) (Nat.le_of_ble_eq_true rfl) (Nat.le_of_ble_eq_true rfl) dX8_needs_17 ?_
    refine ug_if_ne 25 dX8_needs_20 (by decide) (fun q8 => ?_) (fun q8 => ?_)
    · rw [if_neg q8] at h
      refine ug_aload_n 0 dX8_needs_25 rfl rfl ?_
      refine ug_getR kf_X8_59 gr_38_36 dX8_needs_26 ?_
      refine ug_iconst dX8_needs_29 un_iconst_5 ?_
      refine ug_iload_n 1 dX8_needs_30 rfl rfl ?_
      refine ug_iadd dX8_needs_31 ?_
      obtain ⟨g9, h⟩ := ugd_some h
      refine ug_iald al_53 (uin_ok g9) dX8_needs_32 ?_
      refine ug_aload_n 0 dX8_needs_33 rfl rfl ?_
      refine ug_getR kf_X8_29 gr_38_12 dX8_needs_34 ?_
      refine ug_iconst dX8_needs_37 un_iconst_2 ?_
      refine ug_iload_n 2 dX8_needs_38 rfl rfl ?_
      refine ug_imul dX8_needs_39 ?_
      obtain ⟨g10, h⟩ := ugd_some h
      refine ug_iald al_43 (uin_ok g10) dX8_needs_40 ?_
      refine ug_isub dX8_needs_41 ?_
      obtain ⟨m11, r12, h13, h⟩ := ubi_some h
      refine ug_callSi [.int ((m5 53 (5 + x1).toNatClampNeg) - (m5 43 (2 * x2).toNatClampNeg))] (c_X8_size  h13) kc_X8_321 rfl (S := []) rfl (Nat.le_of_ble_eq_true rfl) (Nat.le_of_ble_eq_true rfl) (Nat.le_of_ble_eq_true rfl) dX8_needs_42 ?_
      refine ug_istore_n [(3, .int r12), (0, .ref (ue_d E 38)), (1, .int x1), (2, .int x2)] dX8_needs_45 rfl (Nat.le_of_ble_eq_true rfl) rfl ?_
      refine ug_iload_n 0 dX8_needs_46 rfl rfl ?_
      refine ug_bipush dX8_needs_47 un_bipush_20 ?_
      refine ug_icmp_le 56 dX8_needs_49 (by decide) (fun q14 => ?_) (fun q14 => ?_)
      · rw [if_pos q14] at h
        refine ug_iload_n 0 dX8_needs_56 rfl rfl ?_
        refine ug_if_ne 64 dX8_needs_57 (by decide) (fun q15 => ?_) (fun q15 => ?_)
        · rw [if_neg q15] at h
          refine ug_iload_n 0 dX8_needs_64 rfl rfl ?_
          refine ug_sub [] [] rfl ?_
          exact t_X8_needs_b65 m11 r12 _ h
        · rw [if_pos q15] at h
          refine ug_iconst dX8_needs_60 un_iconst_1 ?_
          refine ug_goto 65 dX8_needs_61 (by decide) ?_
          refine ug_sub [] [] rfl ?_
          exact t_X8_needs_b65 m11 1 _ h
      · rw [if_neg q14] at h
        refine ug_iconst dX8_needs_52 un_iconst_m1 ?_
        refine ug_goto 65 dX8_needs_53 (by decide) ?_
        refine ug_sub [] [] rfl ?_
        exact t_X8_needs_b65 m11 (-1) _ h
    · rw [if_pos q8] at h
      refine ug_sub [] [] rfl ?_
      exact t_X8_needs_b23 m5  _ h
theorem c_X8_needs {l : Launch} {E : Ue} {mem : Um} {x1 : Int32} {x2 : Int32} {m1 : Um} {r : Int32} (h : f_X8_needs  mem x1 x2 = some (m1, r)) : ucr l E 4 0 0 yX8_needs cX8_needs 4 (some .int) [.ref (ue_d E 38), .int x1, .int x2] mem (some (.int r)) m1 := ucr_of rfl (Nat.le_of_ble_eq_true rfl) (t_X8_needs  mem x1 x2 _ h)
-- X8_buyers
def f_X8_buyers_b30 (mem : Um) : Option (Um × Int32) :=
  some (mem, 0)
set_option maxRecDepth 20000 in
theorem t_X8_buyers_b30 {l : Launch} {E : Ue} (mem : Um) (z : Um × Int32) (h : f_X8_buyers_b30  mem  = some z) : ug l E 4 0 0 cX8_buyers 5 RX8 (some .int) [] (uz_i z) 0 0 30 [] [] mem := by
  rw [f_X8_buyers_b30] at h
  refine ug_iconst dX8_buyers_30 un_iconst_0 ?_
  obtain rfl := Option.some.inj h
  exact ug_iret dX8_buyers_31
def f_X8_buyers_b70 (k37 : Um → Int32 → Int32 → Int32 → Int32 → Option (Um × Int32)) (mem : Um) (x1 : Int32) (x2 : Int32) (x4 : Int32) (y0 : Int32) (y1 : Int32) : Option (Um × Int32) :=
  k37 mem x1 x2 (y1 ||| y0) (x4 + 1)
set_option maxRecDepth 20000 in
theorem t_X8_buyers_b70 {l : Launch} {E : Ue} (k37 : Um → Int32 → Int32 → Int32 → Int32 → Option (Um × Int32)) (hk37 : ∀ (mem : Um) (x1 : Int32) (x2 : Int32) (x3 : Int32) (x4 : Int32) (z : Um × Int32), k37 mem x1 x2 x3 x4 = some z → ug l E 4 0 0 cX8_buyers 5 RX8 (some .int) [] (uz_i z) 0 0 37 [(0, .ref (ue_d E 38)), (1, .int x1), (2, .int x2), (3, .int x3), (4, .int x4)] [] mem) (mem : Um) (x1 : Int32) (x2 : Int32) (x4 : Int32) (y0 : Int32) (y1 : Int32) (z : Um × Int32) (h : f_X8_buyers_b70 k37 mem x1 x2 x4 y0 y1 = some z) : ug l E 4 0 0 cX8_buyers 5 RX8 (some .int) [] (uz_i z) 0 0 70 [(0, .ref (ue_d E 38)), (1, .int x1), (2, .int x2), (4, .int x4)] [.int y0, .int y1] mem := by
  rw [f_X8_buyers_b70] at h
  refine ug_ior dX8_buyers_70 ?_
  refine ug_istore_n [(3, .int (y1 ||| y0)), (0, .ref (ue_d E 38)), (1, .int x1), (2, .int x2), (4, .int x4)] dX8_buyers_71 rfl (Nat.le_of_ble_eq_true rfl) rfl ?_
  refine ug_iinc (v := (x4 + 1)) [(4, .int (x4 + 1)), (3, .int (y1 ||| y0)), (0, .ref (ue_d E 38)), (1, .int x1), (2, .int x2)] 4 dX8_buyers_72 rfl rfl (Nat.le_of_ble_eq_true rfl) rfl ?_
  refine ug_goto 37 dX8_buyers_75 (by decide) ?_
  refine ug_sub [(0, .ref (ue_d E 38)), (1, .int x1), (2, .int x2), (3, .int (y1 ||| y0)), (4, .int (x4 + 1))] [2, 3, 4, 1, 0] rfl ?_
  exact hk37 mem x1 x2 (y1 ||| y0) (x4 + 1) _ h
def f_X8_buyers_b37 : Nat → Um → Int32 → Int32 → Int32 → Int32 → Option (Um × Int32)
  | 0, _, _, _, _, _ => none
  | n + 1, mem, x1, x2, x3, x4 =>
    if (mem 38 18) ≤ x4 then (some (mem, x3)) else (ubi (f_X8_take mem) (fun m2 r3 => ubi (f_X8_isSold m2 x1 x4 x2) (fun m5 r6 => if r6 = 0 then (f_X8_buyers_b70 (f_X8_buyers_b37  n) m5 x1 x2 x4 0 x3) else (f_X8_buyers_b70 (f_X8_buyers_b37  n) m5 x1 x2 x4 (1 <<< (x4 &&& 31)) x3))))
set_option maxRecDepth 20000 in
theorem t_X8_buyers_b37 {l : Launch} {E : Ue} : ∀ (n : Nat) (mem : Um) (x1 : Int32) (x2 : Int32) (x3 : Int32) (x4 : Int32) (z : Um × Int32), f_X8_buyers_b37  n mem x1 x2 x3 x4 = some z → ug l E 4 0 0 cX8_buyers 5 RX8 (some .int) [] (uz_i z) 0 0 37 [(0, .ref (ue_d E 38)), (1, .int x1), (2, .int x2), (3, .int x3), (4, .int x4)] [] mem := by
  intro n
  induction n with
  | zero =>
    intro mem x1 x2 x3 x4 z h
    rw [f_X8_buyers_b37] at h
    cases h
  | succ n ih =>
    intro mem x1 x2 x3 x4 z h
    rw [f_X8_buyers_b37] at h
    refine ug_iload 4 dX8_buyers_37 rfl ?_
    refine ug_aload_n 0 dX8_buyers_39 rfl rfl ?_
    refine ug_getI kf_X8_154 gi_38_18 dX8_buyers_40 ?_
    refine ug_icmp_ge 78 dX8_buyers_43 (by decide) (fun q1 => ?_) (fun q1 => ?_)
    · rw [if_pos q1] at h
      refine ug_iload_n 3 dX8_buyers_78 rfl rfl ?_
      obtain rfl := Option.some.inj h
      exact ug_iret dX8_buyers_79
    · rw [if_neg q1] at h
      refine ug_aload_n 0 dX8_buyers_46 rfl rfl ?_
      obtain ⟨m2, r3, h4, h⟩ := ubi_some h
      refine ug_callVv [] (c_X8_take  h4) kc_X8_302 ro_38 rfl (S := []) rfl (Nat.le_of_ble_eq_true rfl) (Nat.le_of_ble_eq_true rfl) (Nat.le_of_ble_eq_true rfl) dX8_buyers_47 ?_
      refine ug_iload_n 3 dX8_buyers_50 rfl rfl ?_
      refine ug_aload_n 0 dX8_buyers_51 rfl rfl ?_
      refine ug_iload_n 1 dX8_buyers_52 rfl rfl ?_
      refine ug_iload 4 dX8_buyers_53 rfl ?_
      refine ug_iload_n 2 dX8_buyers_55 rfl rfl ?_
      obtain ⟨m5, r6, h7, h⟩ := ubi_some h
      refine ug_callVi [.int x1, .int x4, .int x2] (c_X8_isSold  h7) kc_X8_374 ro_38 rfl (S := [.int x3]) rfl (Nat.le_of_ble_eq_true rfl) (Nat.le_of_ble_eq_true rfl) (Nat.le_of_ble_eq_true rfl) dX8_buyers_56 ?_
      refine ug_if_eq 69 dX8_buyers_59 (by decide) (fun q8 => ?_) (fun q8 => ?_)
      · rw [if_pos q8] at h
        refine ug_iconst dX8_buyers_69 un_iconst_0 ?_
        refine ug_sub [(0, .ref (ue_d E 38)), (1, .int x1), (2, .int x2), (4, .int x4)] [0, 1, 2, 4] rfl ?_
        exact t_X8_buyers_b70 (f_X8_buyers_b37  n) ih m5 x1 x2 x4 0 x3 _ h
      · rw [if_neg q8] at h
        refine ug_iconst dX8_buyers_62 un_iconst_1 ?_
        refine ug_iload 4 dX8_buyers_63 rfl ?_
        refine ug_ishl dX8_buyers_65 ?_
        refine ug_goto 70 dX8_buyers_66 (by decide) ?_
        refine ug_sub [(0, .ref (ue_d E 38)), (1, .int x1), (2, .int x2), (4, .int x4)] [0, 1, 2, 4] rfl ?_
        exact t_X8_buyers_b70 (f_X8_buyers_b37  n) ih m5 x1 x2 x4 (1 <<< (x4 &&& 31)) x3 _ h
def f_X8_buyers (mem : Um) (x1 : Int32) (x2 : Int32) : Option (Um × Int32) :=
  ubi (f_X8_isTenant (um_w mem 38 0 0) x1 1) (fun m1 r2 => if r2 = 0 then (f_X8_buyers_b30 m1) else (ubi (f_X8_within m1 x2 0 99) (fun m5 r6 => ubi (f_X8_may m5 r6 2 1) (fun m8 r9 => if r9 = 0 then (f_X8_buyers_b30 m8) else (f_X8_buyers_b37  UF m8 x1 x2 0 0)))))
set_option maxRecDepth 20000 in
theorem t_X8_buyers {l : Launch} {E : Ue} (mem : Um) (x1 : Int32) (x2 : Int32) (z : Um × Int32) (h : f_X8_buyers  mem x1 x2 = some z) : ug l E 4 0 0 cX8_buyers 5 RX8 (some .int) [] (uz_i z) 0 0 0 [(0, .ref (ue_d E 38)), (1, .int x1), (2, .int x2)] [] mem := by
  rw [f_X8_buyers] at h
  refine ug_aload_n 0 dX8_buyers_0 rfl rfl ?_
  refine ug_iconst dX8_buyers_1 un_iconst_0 ?_
  refine ug_putI kp_X8_3 gi_38_0 dX8_buyers_2 ?_
  refine ug_aload_n 0 dX8_buyers_5 rfl rfl ?_
  refine ug_iload_n 1 dX8_buyers_6 rfl rfl ?_
  refine ug_iconst dX8_buyers_7 un_iconst_1 ?_
  obtain ⟨m1, r2, h3, h⟩ := ubi_some h
  refine ug_callVi [.int x1, .int 1] (c_X8_isTenant  h3) kc_X8_395 ro_38 rfl (S := []) rfl (Nat.le_of_ble_eq_true rfl) (Nat.le_of_ble_eq_true rfl) (Nat.le_of_ble_eq_true rfl) dX8_buyers_8 ?_
  refine ug_if_eq 30 dX8_buyers_11 (by decide) (fun q4 => ?_) (fun q4 => ?_)
  · rw [if_pos q4] at h
    refine ug_sub [] [] rfl ?_
    exact t_X8_buyers_b30 m1  _ h
  · rw [if_neg q4] at h
    refine ug_aload_n 0 dX8_buyers_14 rfl rfl ?_
    refine ug_iload_n 2 dX8_buyers_15 rfl rfl ?_
    refine ug_iconst dX8_buyers_16 un_iconst_0 ?_
    refine ug_bipush dX8_buyers_17 un_bipush_99 ?_
    obtain ⟨m5, r6, h7, h⟩ := ubi_some h
    refine ug_callSi [.int x2, .int 0, .int 99] (c_X8_within  h7) kc_X8_352 rfl (S := [.ref (ue_d E 38)]) rfl (Nat.le_of_ble_eq_true rfl) (Nat.le_of_ble_eq_true rfl) (Nat.le_of_ble_eq_true rfl) dX8_buyers_19 ?_
    refine ug_iconst dX8_buyers_22 un_iconst_2 ?_
    refine ug_iconst dX8_buyers_23 un_iconst_1 ?_
    obtain ⟨m8, r9, h10, h⟩ := ubi_some h
    refine ug_callVi [.int r6, .int 2, .int 1] (c_X8_may  h10) kc_X8_190 ro_38 rfl (S := []) rfl (Nat.le_of_ble_eq_true rfl) (Nat.le_of_ble_eq_true rfl) (Nat.le_of_ble_eq_true rfl) dX8_buyers_24 ?_
    refine ug_if_ne 32 dX8_buyers_27 (by decide) (fun q11 => ?_) (fun q11 => ?_)
    · rw [if_neg q11] at h
      refine ug_iconst dX8_buyers_32 un_iconst_0 ?_
      refine ug_istore_n [(3, .int 0), (0, .ref (ue_d E 38)), (1, .int x1), (2, .int x2)] dX8_buyers_33 rfl (Nat.le_of_ble_eq_true rfl) rfl ?_
      refine ug_iconst dX8_buyers_34 un_iconst_0 ?_
      refine ug_istore [(4, .int 0), (3, .int 0), (0, .ref (ue_d E 38)), (1, .int x1), (2, .int x2)] dX8_buyers_35 (Nat.le_of_ble_eq_true rfl) rfl ?_
      refine ug_sub [(0, .ref (ue_d E 38)), (1, .int x1), (2, .int x2), (3, .int 0), (4, .int 0)] [2, 3, 4, 1, 0] rfl ?_
      exact t_X8_buyers_b37  UF m8 x1 x2 0 0 _ h
    · rw [if_pos q11] at h
      refine ug_sub [] [] rfl ?_
      exact t_X8_buyers_b30 m8  _ h
theorem c_X8_buyers {l : Launch} {E : Ue} {mem : Um} {x1 : Int32} {x2 : Int32} {m1 : Um} {r : Int32} (h : f_X8_buyers  mem x1 x2 = some (m1, r)) : ucr l E 4 0 0 yX8_buyers cX8_buyers 5 (some .int) [.ref (ue_d E 38), .int x1, .int x2] mem (some (.int r)) m1 := ucr_of rfl (Nat.le_of_ble_eq_true rfl) (t_X8_buyers  mem x1 x2 _ h)
-- X8_affords
def f_X8_affords_b59 (mem : Um) (x2 : Int32) : Option (Um × Int32) :=
  some (mem, x2)
set_option maxRecDepth 20000 in
theorem t_X8_affords_b59 {l : Launch} {E : Ue} (mem : Um) (x2 : Int32) (z : Um × Int32) (h : f_X8_affords_b59  mem x2 = some z) : ug l E 4 0 0 cX8_affords 3 RX8 (some .int) [] (uz_i z) 0 0 59 [(2, .int x2)] [] mem := by
  rw [f_X8_affords_b59] at h
  refine ug_iload_n 0 dX8_affords_59 rfl rfl ?_
  obtain rfl := Option.some.inj h
  exact ug_iret dX8_affords_60
def f_X8_affords_b33 : Nat → Um → Int32 → Int32 → Option (Um × Int32)
  | 0, _, _, _ => none
  | n + 1, mem, x1, x2 =>
    if x2 ≤ 0 then (f_X8_affords_b59 mem x2) else (ugd (uin (0 + x1) 28) (if (1 + (x2 / 5)) ≤ (mem 53 (0 + x1).toNatClampNeg) then (f_X8_affords_b59 mem x2) else ((f_X8_affords_b33  n) mem x1 (x2 + (-1)))))
set_option maxRecDepth 20000 in
theorem t_X8_affords_b33 {l : Launch} {E : Ue} : ∀ (n : Nat) (mem : Um) (x1 : Int32) (x2 : Int32) (z : Um × Int32), f_X8_affords_b33  n mem x1 x2 = some z → ug l E 4 0 0 cX8_affords 3 RX8 (some .int) [] (uz_i z) 0 0 33 [(0, .ref (ue_d E 38)), (1, .int x1), (2, .int x2)] [] mem := by
  intro n
  induction n with
  | zero =>
    intro mem x1 x2 z h
    rw [f_X8_affords_b33] at h
    cases h
  | succ n ih =>
    intro mem x1 x2 z h
    rw [f_X8_affords_b33] at h
    refine ug_iload_n 2 dX8_affords_33 rfl rfl ?_
    refine ug_if_le 59 dX8_affords_34 (by decide) (fun q1 => ?_) (fun q1 => ?_)
    · rw [if_pos q1] at h
      refine ug_sub [(2, .int x2)] [2] rfl ?_
      exact t_X8_affords_b59 mem x2 _ h
    · rw [if_neg q1] at h
      refine ug_iconst dX8_affords_37 un_iconst_1 ?_
      refine ug_iload_n 2 dX8_affords_38 rfl rfl ?_
      refine ug_iconst dX8_affords_39 un_iconst_5 ?_
      refine ug_idiv dX8_affords_40 (by decide) ?_
      refine ug_iadd dX8_affords_41 ?_
      refine ug_aload_n 0 dX8_affords_42 rfl rfl ?_
      refine ug_getR kf_X8_59 gr_38_36 dX8_affords_43 ?_
      refine ug_iconst dX8_affords_46 un_iconst_0 ?_
      refine ug_iload_n 1 dX8_affords_47 rfl rfl ?_
      refine ug_iadd dX8_affords_48 ?_
      obtain ⟨g2, h⟩ := ugd_some h
      refine ug_iald al_53 (uin_ok g2) dX8_affords_49 ?_
      refine ug_icmp_le 59 dX8_affords_50 (by decide) (fun q3 => ?_) (fun q3 => ?_)
      · rw [if_pos q3] at h
        refine ug_sub [(2, .int x2)] [2] rfl ?_
        exact t_X8_affords_b59 mem x2 _ h
      · rw [if_neg q3] at h
        refine ug_iinc (v := (x2 + (-1))) [(2, .int (x2 + (-1))), (0, .ref (ue_d E 38)), (1, .int x1)] 2 dX8_affords_53 rfl rfl (Nat.le_of_ble_eq_true rfl) rfl ?_
        refine ug_goto 33 dX8_affords_56 (by decide) ?_
        refine ug_sub [(0, .ref (ue_d E 38)), (1, .int x1), (2, .int (x2 + (-1)))] [1, 2, 0] rfl ?_
        exact ih mem x1 (x2 + (-1)) _ h
def f_X8_affords (mem : Um) (x1 : Int32) : Option (Um × Int32) :=
  ubi (f_X8_isTenant (um_w mem 38 0 0) x1 1) (fun m1 r2 => if r2 = 0 then (some (m1, 0)) else (ugd (uin (10 + x1) 28) (if (m1 53 (10 + x1).toNatClampNeg) ≤ 0 then (f_X8_affords_b33  UF m1 x1 20) else (some (m1, (-1))))))
set_option maxRecDepth 20000 in
theorem t_X8_affords {l : Launch} {E : Ue} (mem : Um) (x1 : Int32) (z : Um × Int32) (h : f_X8_affords  mem x1 = some z) : ug l E 4 0 0 cX8_affords 3 RX8 (some .int) [] (uz_i z) 0 0 0 [(0, .ref (ue_d E 38)), (1, .int x1)] [] mem := by
  rw [f_X8_affords] at h
  refine ug_aload_n 0 dX8_affords_0 rfl rfl ?_
  refine ug_iconst dX8_affords_1 un_iconst_0 ?_
  refine ug_putI kp_X8_3 gi_38_0 dX8_affords_2 ?_
  refine ug_aload_n 0 dX8_affords_5 rfl rfl ?_
  refine ug_iload_n 1 dX8_affords_6 rfl rfl ?_
  refine ug_iconst dX8_affords_7 un_iconst_1 ?_
  obtain ⟨m1, r2, h3, h⟩ := ubi_some h
  refine ug_callVi [.int x1, .int 1] (c_X8_isTenant  h3) kc_X8_395 ro_38 rfl (S := []) rfl (Nat.le_of_ble_eq_true rfl) (Nat.le_of_ble_eq_true rfl) (Nat.le_of_ble_eq_true rfl) dX8_affords_8 ?_
  refine ug_if_ne 16 dX8_affords_11 (by decide) (fun q4 => ?_) (fun q4 => ?_)
  · rw [if_neg q4] at h
    refine ug_aload_n 0 dX8_affords_16 rfl rfl ?_
    refine ug_getR kf_X8_59 gr_38_36 dX8_affords_17 ?_
    refine ug_bipush dX8_affords_20 un_bipush_10 ?_
    refine ug_iload_n 1 dX8_affords_22 rfl rfl ?_
    refine ug_iadd dX8_affords_23 ?_
    obtain ⟨g5, h⟩ := ugd_some h
    refine ug_iald al_53 (uin_ok g5) dX8_affords_24 ?_
    refine ug_if_le 30 dX8_affords_25 (by decide) (fun q6 => ?_) (fun q6 => ?_)
    · rw [if_pos q6] at h
      refine ug_bipush dX8_affords_30 un_bipush_20 ?_
      refine ug_istore_n [(2, .int 20), (0, .ref (ue_d E 38)), (1, .int x1)] dX8_affords_32 rfl (Nat.le_of_ble_eq_true rfl) rfl ?_
      refine ug_sub [(0, .ref (ue_d E 38)), (1, .int x1), (2, .int 20)] [1, 2, 0] rfl ?_
      exact t_X8_affords_b33  UF m1 x1 20 _ h
    · rw [if_neg q6] at h
      refine ug_iconst dX8_affords_28 un_iconst_m1 ?_
      obtain rfl := Option.some.inj h
      exact ug_iret dX8_affords_29
  · rw [if_pos q4] at h
    refine ug_iconst dX8_affords_14 un_iconst_0 ?_
    obtain rfl := Option.some.inj h
    exact ug_iret dX8_affords_15
theorem c_X8_affords {l : Launch} {E : Ue} {mem : Um} {x1 : Int32} {m1 : Um} {r : Int32} (h : f_X8_affords  mem x1 = some (m1, r)) : ucr l E 4 0 0 yX8_affords cX8_affords 3 (some .int) [.ref (ue_d E 38), .int x1] mem (some (.int r)) m1 := ucr_of rfl (Nat.le_of_ble_eq_true rfl) (t_X8_affords  mem x1 _ h)
