-- X7_sure
def f_X7_sure (mem : Um) (x1 : Int32) : Option (Um × (Int32 ⊕ String)) :=
  ubx (f_X7_need mem x1 0 999) (fun m1 r2 => ugd (uin (x1 % 7) 7) (some (m1, .inl (us_half (x1 % 7).toNatClampNeg))))
set_option maxRecDepth 20000 in
theorem t_X7_sure {l : Launch} {E : Ue} (mem : Um) (x1 : Int32) (z : Um × (Int32 ⊕ String)) (h : f_X7_sure  mem x1 = some z) : ug l E 7 (uzc z) (uzs z) cX7_sure 2 RX7 (some .int) [] (uzx_i z) 0 0 0 [(0, .ref (ue_d E 0)), (1, .int x1)] [] mem := by
  rw [f_X7_sure] at h
  refine ug_aload_n 0 dX7_sure_0 rfl rfl ?_
  refine ug_iload_n 1 dX7_sure_1 rfl rfl ?_
  refine ug_iconst dX7_sure_2 un_iconst_0 ?_
  refine ug_sipush dX7_sure_3 un_sipush_999 ?_
  rcases ubx_some h with ⟨m1, r2, h3, h⟩ | ⟨m1, X4, h3, rfl⟩
  · refine ug_callVv [.int x1, .int 0, .int 999] (c_X7_need_r  h3) kc_X7_102 ro_0 rfl (S := []) rfl (Nat.le_of_ble_eq_true rfl) (Nat.le_of_ble_eq_true rfl) (Nat.le_of_ble_eq_true rfl) dX7_sure_6 ?_
    refine ug_half kh_X7_328 dX7_sure_9 ?_
    refine ug_iload_n 1 dX7_sure_12 rfl rfl ?_
    refine ug_bipush dX7_sure_13 un_bipush_7 ?_
    refine ug_irem dX7_sure_15 (by decide) ?_
    obtain ⟨g5, h⟩ := ugd_some h
    refine ug_hald (uin_ok g5) dX7_sure_16 ?_
    obtain rfl := Option.some.inj h
    exact ug_iret dX7_sure_17
  · exact ug_callVx [.int x1, .int 0, .int 999] (c_X7_need_x  h3) kc_X7_102 ro_0 rfl (S := []) rfl (Nat.le_of_ble_eq_true rfl) (Nat.le_of_ble_eq_true rfl) (Nat.le_of_ble_eq_true rfl) ⟨Nat.le_refl 1, Nat.le_refl 6⟩ dX7_sure_6
theorem c_X7_sure_r {l : Launch} {E : Ue} {mem : Um} {x1 : Int32} {m1 : Um} {r : Int32} (h : f_X7_sure  mem x1 = some (m1, .inl r)) : ucr l E 7 0 0 yX7_sure cX7_sure 2 (some .int) [.ref (ue_d E 0), .int x1] mem (some (.int r)) m1 := ucr_of rfl (Nat.le_of_ble_eq_true rfl) (t_X7_sure  mem x1 _ h)
theorem c_X7_sure_x {l : Launch} {E : Ue} {mem : Um} {x1 : Int32} {m1 : Um} {X : String} (h : f_X7_sure  mem x1 = some (m1, .inr X)) : ucx l E 7 1 6 yX7_sure cX7_sure 2 (some .int) [.ref (ue_d E 0), .int x1] mem X m1 := ucx_of rfl (Nat.le_of_ble_eq_true rfl) (t_X7_sure  mem x1 _ h)
-- X7_gain
def f_X7_gain_b29 (mem : Um) (y0 : Int32) : Option (Um × Int32) :=
  some (mem, y0)
set_option maxRecDepth 20000 in
theorem t_X7_gain_b29 {l : Launch} {E : Ue} (mem : Um) (y0 : Int32) (z : Um × Int32) (h : f_X7_gain_b29  mem y0 = some z) : ug l E 2 0 0 cX7_gain 4 RX7 (some .int) [] (uz_i z) 0 0 29 [] [.int y0] mem := by
  rw [f_X7_gain_b29] at h
  obtain rfl := Option.some.inj h
  exact ug_iret dX7_gain_29
def f_X7_gain_b19 (mem : Um) (y0 : Int32) : Option (Um × Int32) :=
  some (mem, y0)
set_option maxRecDepth 20000 in
theorem t_X7_gain_b19 {l : Launch} {E : Ue} (mem : Um) (y0 : Int32) (z : Um × Int32) (h : f_X7_gain_b19  mem y0 = some z) : ug l E 2 0 0 cX7_gain 4 RX7 (some .int) [] (uz_i z) 0 0 19 [] [.int y0] mem := by
  rw [f_X7_gain_b19] at h
  obtain rfl := Option.some.inj h
  exact ug_iret dX7_gain_19
def f_X7_gain (mem : Um) (x0 : Int32) (x1 : Int32) (x2 : Int32) (x3 : Int32) : Option (Um × Int32) :=
  if x2 = 0 then (if x3 = 0 then (f_X7_gain_b19 mem (x0 - x1)) else (f_X7_gain_b19 mem (x0 - (2 * x1)))) else (if x3 = 0 then (f_X7_gain_b29 mem x0) else (f_X7_gain_b29 mem 0))
set_option maxRecDepth 20000 in
theorem t_X7_gain {l : Launch} {E : Ue} (mem : Um) (x0 : Int32) (x1 : Int32) (x2 : Int32) (x3 : Int32) (z : Um × Int32) (h : f_X7_gain  mem x0 x1 x2 x3 = some z) : ug l E 2 0 0 cX7_gain 4 RX7 (some .int) [] (uz_i z) 0 0 0 [(0, .int x0), (1, .int x1), (2, .int x2), (3, .int x3)] [] mem := by
  rw [f_X7_gain] at h
  refine ug_iload_n 2 dX7_gain_0 rfl rfl ?_
  refine ug_if_ne 20 dX7_gain_1 (by decide) (fun q1 => ?_) (fun q1 => ?_)
  · rw [if_neg q1] at h
    refine ug_iload_n 3 dX7_gain_20 rfl rfl ?_
    refine ug_if_ne 28 dX7_gain_21 (by decide) (fun q2 => ?_) (fun q2 => ?_)
    · rw [if_neg q2] at h
      refine ug_iconst dX7_gain_28 un_iconst_0 ?_
      refine ug_sub [] [] rfl ?_
      exact t_X7_gain_b29 mem 0 _ h
    · rw [if_pos q2] at h
      refine ug_iload_n 0 dX7_gain_24 rfl rfl ?_
      refine ug_goto 29 dX7_gain_25 (by decide) ?_
      refine ug_sub [] [] rfl ?_
      exact t_X7_gain_b29 mem x0 _ h
  · rw [if_pos q1] at h
    refine ug_iload_n 3 dX7_gain_4 rfl rfl ?_
    refine ug_if_ne 14 dX7_gain_5 (by decide) (fun q3 => ?_) (fun q3 => ?_)
    · rw [if_neg q3] at h
      refine ug_iload_n 0 dX7_gain_14 rfl rfl ?_
      refine ug_iconst dX7_gain_15 un_iconst_2 ?_
      refine ug_iload_n 1 dX7_gain_16 rfl rfl ?_
      refine ug_imul dX7_gain_17 ?_
      refine ug_isub dX7_gain_18 ?_
      refine ug_sub [] [] rfl ?_
      exact t_X7_gain_b19 mem (x0 - (2 * x1)) _ h
    · rw [if_pos q3] at h
      refine ug_iload_n 0 dX7_gain_8 rfl rfl ?_
      refine ug_iload_n 1 dX7_gain_9 rfl rfl ?_
      refine ug_isub dX7_gain_10 ?_
      refine ug_goto 19 dX7_gain_11 (by decide) ?_
      refine ug_sub [] [] rfl ?_
      exact t_X7_gain_b19 mem (x0 - x1) _ h
theorem c_X7_gain {l : Launch} {E : Ue} {mem : Um} {x0 : Int32} {x1 : Int32} {x2 : Int32} {x3 : Int32} {m1 : Um} {r : Int32} (h : f_X7_gain  mem x0 x1 x2 x3 = some (m1, r)) : ucr l E 2 0 0 yX7_gain cX7_gain 4 (some .int) [.int x0, .int x1, .int x2, .int x3] mem (some (.int r)) m1 := ucr_of rfl (Nat.le_of_ble_eq_true rfl) (t_X7_gain  mem x0 x1 x2 x3 _ h)
-- X7_isContent
def f_X7_isContent_b24 (mem : Um) (y0 : Int32) : Option (Um × Int32) :=
  ugd (ub01 y0) (some (mem, y0))
set_option maxRecDepth 20000 in
theorem t_X7_isContent_b24 {l : Launch} {E : Ue} (mem : Um) (y0 : Int32) (z : Um × Int32) (h : f_X7_isContent_b24  mem y0 = some z) : ug l E 3 0 0 cX7_isContent 4 RX7 (some .boolean) [] (uz_i z) 0 0 24 [] [.int y0] mem := by
  rw [f_X7_isContent_b24] at h
  obtain ⟨g1, h⟩ := ugd_some h
  obtain rfl := Option.some.inj h
  exact ug_zret (of_decide_eq_true g1) dX7_isContent_24
def f_X7_isContent (mem : Um) (x0 : Int32) (x1 : Int32) (x2 : Int32) (x3 : Int32) : Option (Um × Int32) :=
  ubi (f_X7_gain mem x0 x1 x2 x3) (fun m1 r2 => ubi (f_X7_gain m1 x0 x1 (1 - x2) x3) (fun m4 r5 => if r2 < r5 then (f_X7_isContent_b24 m4 0) else (f_X7_isContent_b24 m4 1)))
set_option maxRecDepth 20000 in
theorem t_X7_isContent {l : Launch} {E : Ue} (mem : Um) (x0 : Int32) (x1 : Int32) (x2 : Int32) (x3 : Int32) (z : Um × Int32) (h : f_X7_isContent  mem x0 x1 x2 x3 = some z) : ug l E 3 0 0 cX7_isContent 4 RX7 (some .boolean) [] (uz_i z) 0 0 0 [(0, .int x0), (1, .int x1), (2, .int x2), (3, .int x3)] [] mem := by
  rw [f_X7_isContent] at h
  refine ug_iload_n 0 dX7_isContent_0 rfl rfl ?_
  refine ug_iload_n 1 dX7_isContent_1 rfl rfl ?_
  refine ug_iload_n 2 dX7_isContent_2 rfl rfl ?_
  refine ug_iload_n 3 dX7_isContent_3 rfl rfl ?_
  obtain ⟨m1, r2, h3, h⟩ := ubi_some h
  refine ug_callSi [.int x0, .int x1, .int x2, .int x3] (c_X7_gain  h3) kc_X7_335 rfl (S := []) rfl (Nat.le_of_ble_eq_true rfl) (Nat.le_of_ble_eq_true rfl) (Nat.le_of_ble_eq_true rfl) dX7_isContent_4 ?_
  refine ug_iload_n 0 dX7_isContent_7 rfl rfl ?_
  refine ug_iload_n 1 dX7_isContent_8 rfl rfl ?_
  refine ug_iconst dX7_isContent_9 un_iconst_1 ?_
  refine ug_iload_n 2 dX7_isContent_10 rfl rfl ?_
  refine ug_isub dX7_isContent_11 ?_
  refine ug_iload_n 3 dX7_isContent_12 rfl rfl ?_
  obtain ⟨m4, r5, h6, h⟩ := ubi_some h
  refine ug_callSi [.int x0, .int x1, .int (1 - x2), .int x3] (c_X7_gain  h6) kc_X7_335 rfl (S := [.int r2]) rfl (Nat.le_of_ble_eq_true rfl) (Nat.le_of_ble_eq_true rfl) (Nat.le_of_ble_eq_true rfl) dX7_isContent_13 ?_
  refine ug_icmp_lt 23 dX7_isContent_16 (by decide) (fun q7 => ?_) (fun q7 => ?_)
  · rw [if_pos q7] at h
    refine ug_iconst dX7_isContent_23 un_iconst_0 ?_
    refine ug_sub [] [] rfl ?_
    exact t_X7_isContent_b24 m4 0 _ h
  · rw [if_neg q7] at h
    refine ug_iconst dX7_isContent_19 un_iconst_1 ?_
    refine ug_goto 24 dX7_isContent_20 (by decide) ?_
    refine ug_sub [] [] rfl ?_
    exact t_X7_isContent_b24 m4 1 _ h
theorem c_X7_isContent {l : Launch} {E : Ue} {mem : Um} {x0 : Int32} {x1 : Int32} {x2 : Int32} {x3 : Int32} {m1 : Um} {r : Int32} (h : f_X7_isContent  mem x0 x1 x2 x3 = some (m1, r)) : ucr l E 3 0 0 yX7_isContent cX7_isContent 4 (some .boolean) [.int x0, .int x1, .int x2, .int x3] mem (some (.int r)) m1 := ucr_of rfl (Nat.le_of_ble_eq_true rfl) (t_X7_isContent  mem x0 x1 x2 x3 _ h)
-- X7_pay
def f_X7_pay_b141 (mem : Um) (y0 : Int32) : Option (Um × (Int32 ⊕ String)) :=
  some (mem, .inl y0)
set_option maxRecDepth 20000 in
theorem t_X7_pay_b141 {l : Launch} {E : Ue} (mem : Um) (y0 : Int32) (z : Um × (Int32 ⊕ String)) (h : f_X7_pay_b141  mem y0 = some z) : ug l E 7 (uzc z) (uzs z) cX7_pay 10 RX7 (some .int) [] (uzx_i z) 0 0 141 [] [.int y0] mem := by
  rw [f_X7_pay_b141] at h
  obtain rfl := Option.some.inj h
  exact ug_iret dX7_pay_141
def f_X7_pay_b116 (k35 : Um → Int32 → Int32 → Int32 → Int32 → Int32 → Int32 → Int32 → Option (Um × (Int32 ⊕ String))) (mem : Um) (x1 : Int32) (x2 : Int32) (x3 : Int32) (x4 : Int32) (x5 : Int32) (x6 : Int32) (x7 : Int32) : Option (Um × (Int32 ⊕ String)) :=
  k35 mem x1 x2 x3 x4 x5 x6 (x7 + 1)
set_option maxRecDepth 20000 in
theorem t_X7_pay_b116 {l : Launch} {E : Ue} (k35 : Um → Int32 → Int32 → Int32 → Int32 → Int32 → Int32 → Int32 → Option (Um × (Int32 ⊕ String))) (hk35 : ∀ (mem : Um) (x1 : Int32) (x2 : Int32) (x3 : Int32) (x4 : Int32) (x5 : Int32) (x6 : Int32) (x7 : Int32) (z : Um × (Int32 ⊕ String)), k35 mem x1 x2 x3 x4 x5 x6 x7 = some z → ug l E 7 (uzc z) (uzs z) cX7_pay 10 RX7 (some .int) [] (uzx_i z) 0 0 35 [(1, .int x1), (2, .int x2), (3, .int x3), (4, .int x4), (5, .int x5), (6, .int x6), (7, .int x7)] [] mem) (mem : Um) (x1 : Int32) (x2 : Int32) (x3 : Int32) (x4 : Int32) (x5 : Int32) (x6 : Int32) (x7 : Int32) (z : Um × (Int32 ⊕ String)) (h : f_X7_pay_b116 k35 mem x1 x2 x3 x4 x5 x6 x7 = some z) : ug l E 7 (uzc z) (uzs z) cX7_pay 10 RX7 (some .int) [] (uzx_i z) 0 0 116 [(1, .int x1), (2, .int x2), (3, .int x3), (4, .int x4), (5, .int x5), (6, .int x6), (7, .int x7)] [] mem := by
  rw [f_X7_pay_b116] at h
  refine ug_iinc (v := (x7 + 1)) [(7, .int (x7 + 1)), (1, .int x1), (2, .int x2), (3, .int x3), (4, .int x4), (5, .int x5), (6, .int x6)] 6 dX7_pay_116 rfl rfl (Nat.le_of_ble_eq_true rfl) rfl ?_
  refine ug_goto 35 dX7_pay_119 (by decide) ?_
  refine ug_sub [(1, .int x1), (2, .int x2), (3, .int x3), (4, .int x4), (5, .int x5), (6, .int x6), (7, .int (x7 + 1))] [1, 2, 3, 4, 5, 6, 0] rfl ?_
  exact hk35 mem x1 x2 x3 x4 x5 x6 (x7 + 1) _ h
def f_X7_pay_b113 (k35 : Um → Int32 → Int32 → Int32 → Int32 → Int32 → Int32 → Int32 → Option (Um × (Int32 ⊕ String))) (mem : Um) (x1 : Int32) (x2 : Int32) (x3 : Int32) (x4 : Int32) (x5 : Int32) (x6 : Int32) (x7 : Int32) : Option (Um × (Int32 ⊕ String)) :=
  f_X7_pay_b116 k35 mem x1 x2 x3 (x4 + 1) x5 x6 x7
set_option maxRecDepth 20000 in
theorem t_X7_pay_b113 {l : Launch} {E : Ue} (k35 : Um → Int32 → Int32 → Int32 → Int32 → Int32 → Int32 → Int32 → Option (Um × (Int32 ⊕ String))) (hk35 : ∀ (mem : Um) (x1 : Int32) (x2 : Int32) (x3 : Int32) (x4 : Int32) (x5 : Int32) (x6 : Int32) (x7 : Int32) (z : Um × (Int32 ⊕ String)), k35 mem x1 x2 x3 x4 x5 x6 x7 = some z → ug l E 7 (uzc z) (uzs z) cX7_pay 10 RX7 (some .int) [] (uzx_i z) 0 0 35 [(1, .int x1), (2, .int x2), (3, .int x3), (4, .int x4), (5, .int x5), (6, .int x6), (7, .int x7)] [] mem) (mem : Um) (x1 : Int32) (x2 : Int32) (x3 : Int32) (x4 : Int32) (x5 : Int32) (x6 : Int32) (x7 : Int32) (z : Um × (Int32 ⊕ String)) (h : f_X7_pay_b113 k35 mem x1 x2 x3 x4 x5 x6 x7 = some z) : ug l E 7 (uzc z) (uzs z) cX7_pay 10 RX7 (some .int) [] (uzx_i z) 0 0 113 [(1, .int x1), (2, .int x2), (3, .int x3), (4, .int x4), (5, .int x5), (6, .int x6), (7, .int x7)] [] mem := by
  rw [f_X7_pay_b113] at h
  refine ug_iinc (v := (x4 + 1)) [(4, .int (x4 + 1)), (1, .int x1), (2, .int x2), (3, .int x3), (5, .int x5), (6, .int x6), (7, .int x7)] 3 dX7_pay_113 rfl rfl (Nat.le_of_ble_eq_true rfl) rfl ?_
  refine ug_sub [(1, .int x1), (2, .int x2), (3, .int x3), (4, .int (x4 + 1)), (5, .int x5), (6, .int x6), (7, .int x7)] [1, 2, 3, 0, 4, 5, 6] rfl ?_
  exact t_X7_pay_b116 k35 hk35 mem x1 x2 x3 (x4 + 1) x5 x6 x7 _ h
def f_X7_pay_b35 : Nat → Um → Int32 → Int32 → Int32 → Int32 → Int32 → Int32 → Int32 → Option (Um × (Int32 ⊕ String))
  | 0, _, _, _, _, _, _, _, _ => none
  | n + 1, mem, x1, x2, x3, x4, x5, x6, x7 =>
    if 4 ≤ x7 then (if x3 = 0 then (some (mem, .inl x4)) else (if x3 = 1 then (f_X7_pay_b141 mem x5) else (f_X7_pay_b141 mem x6))) else (ubi (f_X7_isContent mem x1 x2 (x7 / 2) (x7 % 2)) (fun m4 r5 => if r5 = 0 then (f_X7_pay_b116 (f_X7_pay_b35  n) m4 x1 x2 x3 x4 x5 x6 x7) else (ubi (f_X7_isContent m4 x1 x2 (x7 % 2) (x7 / 2)) (fun m8 r9 => if r9 = 0 then (f_X7_pay_b116 (f_X7_pay_b35  n) m8 x1 x2 x3 x4 x5 x6 x7) else (if x4 = 0 then (ubi (f_X7_gain m8 x1 x2 (x7 / 2) (x7 % 2)) (fun m13 r14 => ubi (f_X7_gain m13 x1 x2 (x7 % 2) (x7 / 2)) (fun m16 r17 => f_X7_pay_b113 (f_X7_pay_b35  n) m16 x1 x2 x3 x4 ((10 * (x7 / 2)) + (x7 % 2)) (r14 + r17) x7))) else (f_X7_pay_b113 (f_X7_pay_b35  n) m8 x1 x2 x3 x4 x5 x6 x7))))))
set_option maxRecDepth 20000 in
theorem t_X7_pay_b35 {l : Launch} {E : Ue} : ∀ (n : Nat) (mem : Um) (x1 : Int32) (x2 : Int32) (x3 : Int32) (x4 : Int32) (x5 : Int32) (x6 : Int32) (x7 : Int32) (z : Um × (Int32 ⊕ String)), f_X7_pay_b35  n mem x1 x2 x3 x4 x5 x6 x7 = some z → ug l E 7 (uzc z) (uzs z) cX7_pay 10 RX7 (some .int) [] (uzx_i z) 0 0 35 [(1, .int x1), (2, .int x2), (3, .int x3), (4, .int x4), (5, .int x5), (6, .int x6), (7, .int x7)] [] mem := by
  intro n
  induction n with
  | zero =>
    intro mem x1 x2 x3 x4 x5 x6 x7 z h
    rw [f_X7_pay_b35] at h
    cases h
  | succ n ih =>
    intro mem x1 x2 x3 x4 x5 x6 x7 z h
    rw [f_X7_pay_b35] at h
    refine ug_iload 6 dX7_pay_35 rfl ?_
    refine ug_iconst dX7_pay_37 un_iconst_4 ?_
    refine ug_icmp_ge 122 dX7_pay_38 (by decide) (fun q1 => ?_) (fun q1 => ?_)
    · rw [if_pos q1] at h
      refine ug_iload_n 2 dX7_pay_122 rfl rfl ?_
      refine ug_if_ne 129 dX7_pay_123 (by decide) (fun q2 => ?_) (fun q2 => ?_)
      · rw [if_neg q2] at h
        refine ug_iload_n 2 dX7_pay_129 rfl rfl ?_
        refine ug_iconst dX7_pay_130 un_iconst_1 ?_
        refine ug_icmp_ne 139 dX7_pay_131 (by decide) (fun q3 => ?_) (fun q3 => ?_)
        · rw [if_neg q3] at h
          refine ug_iload 5 dX7_pay_139 rfl ?_
          refine ug_sub [] [] rfl ?_
          exact t_X7_pay_b141 mem x6 _ h
        · rw [if_pos q3] at h
          refine ug_iload 4 dX7_pay_134 rfl ?_
          refine ug_goto 141 dX7_pay_136 (by decide) ?_
          refine ug_sub [] [] rfl ?_
          exact t_X7_pay_b141 mem x5 _ h
      · rw [if_pos q2] at h
        refine ug_iload 3 dX7_pay_126 rfl ?_
        obtain rfl := Option.some.inj h
        exact ug_iret dX7_pay_128
    · rw [if_neg q1] at h
      refine ug_iload 6 dX7_pay_41 rfl ?_
      refine ug_iconst dX7_pay_43 un_iconst_2 ?_
      refine ug_idiv dX7_pay_44 (by decide) ?_
      refine ug_istore [(8, .int (x7 / 2)), (1, .int x1), (2, .int x2), (3, .int x3), (4, .int x4), (5, .int x5), (6, .int x6), (7, .int x7)] dX7_pay_45 (Nat.le_of_ble_eq_true rfl) rfl ?_
      refine ug_iload 7 dX7_pay_47 rfl ?_
      refine ug_iconst dX7_pay_49 un_iconst_2 ?_
      refine ug_irem dX7_pay_50 (by decide) ?_
      refine ug_istore [(9, .int (x7 % 2)), (8, .int (x7 / 2)), (1, .int x1), (2, .int x2), (3, .int x3), (4, .int x4), (5, .int x5), (6, .int x6), (7, .int x7)] dX7_pay_51 (Nat.le_of_ble_eq_true rfl) rfl ?_
      refine ug_iload_n 2 dX7_pay_53 rfl rfl ?_
      refine ug_iload_n 3 dX7_pay_54 rfl rfl ?_
      refine ug_iload 1 dX7_pay_55 rfl ?_
      refine ug_iload 0 dX7_pay_57 rfl ?_
      obtain ⟨m4, r5, h6, h⟩ := ubi_some h
      refine ug_callSi [.int x1, .int x2, .int (x7 / 2), .int (x7 % 2)] (c_X7_isContent  h6) kc_X7_331 rfl (S := []) rfl (Nat.le_of_ble_eq_true rfl) (Nat.le_of_ble_eq_true rfl) (Nat.le_of_ble_eq_true rfl) dX7_pay_59 ?_
      refine ug_if_eq 116 dX7_pay_62 (by decide) (fun q7 => ?_) (fun q7 => ?_)
      · rw [if_pos q7] at h
        refine ug_sub [(1, .int x1), (2, .int x2), (3, .int x3), (4, .int x4), (5, .int x5), (6, .int x6), (7, .int x7)] [2, 3, 4, 5, 6, 7, 8] rfl ?_
        exact t_X7_pay_b116 (f_X7_pay_b35  n) ih m4 x1 x2 x3 x4 x5 x6 x7 _ h
      · rw [if_neg q7] at h
        refine ug_iload_n 2 dX7_pay_65 rfl rfl ?_
        refine ug_iload_n 3 dX7_pay_66 rfl rfl ?_
        refine ug_iload 0 dX7_pay_67 rfl ?_
        refine ug_iload 1 dX7_pay_69 rfl ?_
        obtain ⟨m8, r9, h10, h⟩ := ubi_some h
        refine ug_callSi [.int x1, .int x2, .int (x7 % 2), .int (x7 / 2)] (c_X7_isContent  h10) kc_X7_331 rfl (S := []) rfl (Nat.le_of_ble_eq_true rfl) (Nat.le_of_ble_eq_true rfl) (Nat.le_of_ble_eq_true rfl) dX7_pay_71 ?_
        refine ug_if_eq 116 dX7_pay_74 (by decide) (fun q11 => ?_) (fun q11 => ?_)
        · rw [if_pos q11] at h
          refine ug_sub [(1, .int x1), (2, .int x2), (3, .int x3), (4, .int x4), (5, .int x5), (6, .int x6), (7, .int x7)] [2, 3, 4, 5, 6, 7, 8] rfl ?_
          exact t_X7_pay_b116 (f_X7_pay_b35  n) ih m8 x1 x2 x3 x4 x5 x6 x7 _ h
        · rw [if_neg q11] at h
          refine ug_iload 5 dX7_pay_77 rfl ?_
          refine ug_if_ne 113 dX7_pay_79 (by decide) (fun q12 => ?_) (fun q12 => ?_)
          · rw [if_neg q12] at h
            refine ug_sub [(1, .int x1), (2, .int x2), (3, .int x3), (4, .int x4), (5, .int x5), (6, .int x6), (7, .int x7)] [2, 3, 4, 5, 6, 7, 8] rfl ?_
            exact t_X7_pay_b113 (f_X7_pay_b35  n) ih m8 x1 x2 x3 x4 x5 x6 x7 _ h
          · rw [if_pos q12] at h
            refine ug_bipush dX7_pay_82 un_bipush_10 ?_
            refine ug_iload 1 dX7_pay_84 rfl ?_
            refine ug_imul dX7_pay_86 ?_
            refine ug_iload 0 dX7_pay_87 rfl ?_
            refine ug_iadd dX7_pay_89 ?_
            refine ug_istore [(5, .int ((10 * (x7 / 2)) + (x7 % 2))), (9, .int (x7 % 2)), (8, .int (x7 / 2)), (1, .int x1), (2, .int x2), (3, .int x3), (4, .int x4), (6, .int x6), (7, .int x7)] dX7_pay_90 (Nat.le_of_ble_eq_true rfl) rfl ?_
            refine ug_iload_n 3 dX7_pay_92 rfl rfl ?_
            refine ug_iload_n 4 dX7_pay_93 rfl rfl ?_
            refine ug_iload 2 dX7_pay_94 rfl ?_
            refine ug_iload 1 dX7_pay_96 rfl ?_
            obtain ⟨m13, r14, h15, h⟩ := ubi_some h
            refine ug_callSi [.int x1, .int x2, .int (x7 / 2), .int (x7 % 2)] (c_X7_gain  h15) kc_X7_335 rfl (S := []) rfl (Nat.le_of_ble_eq_true rfl) (Nat.le_of_ble_eq_true rfl) (Nat.le_of_ble_eq_true rfl) dX7_pay_98 ?_
            refine ug_iload_n 3 dX7_pay_101 rfl rfl ?_
            refine ug_iload_n 4 dX7_pay_102 rfl rfl ?_
            refine ug_iload 1 dX7_pay_103 rfl ?_
            refine ug_iload 2 dX7_pay_105 rfl ?_
            obtain ⟨m16, r17, h18, h⟩ := ubi_some h
            refine ug_callSi [.int x1, .int x2, .int (x7 % 2), .int (x7 / 2)] (c_X7_gain  h18) kc_X7_335 rfl (S := [.int r14]) rfl (Nat.le_of_ble_eq_true rfl) (Nat.le_of_ble_eq_true rfl) (Nat.le_of_ble_eq_true rfl) dX7_pay_107 ?_
            refine ug_iadd dX7_pay_110 ?_
            refine ug_istore [(6, .int (r14 + r17)), (5, .int ((10 * (x7 / 2)) + (x7 % 2))), (9, .int (x7 % 2)), (8, .int (x7 / 2)), (1, .int x1), (2, .int x2), (3, .int x3), (4, .int x4), (7, .int x7)] dX7_pay_111 (Nat.le_of_ble_eq_true rfl) rfl ?_
            refine ug_sub [(1, .int x1), (2, .int x2), (3, .int x3), (4, .int x4), (5, .int ((10 * (x7 / 2)) + (x7 % 2))), (6, .int (r14 + r17)), (7, .int x7)] [4, 5, 6, 7, 1, 0, 8] rfl ?_
            exact t_X7_pay_b113 (f_X7_pay_b35  n) ih m16 x1 x2 x3 x4 ((10 * (x7 / 2)) + (x7 % 2)) (r14 + r17) x7 _ h
def f_X7_pay (mem : Um) (x1 : Int32) (x2 : Int32) (x3 : Int32) : Option (Um × (Int32 ⊕ String)) :=
  ubx (f_X7_need mem x1 0 99) (fun m1 r2 => ubx (f_X7_need m1 x2 0 99) (fun m5 r6 => ubx (f_X7_need m5 x3 0 2) (fun m9 r10 => f_X7_pay_b35  UF m9 x1 x2 x3 0 (-1) 0 0)))
set_option maxRecDepth 20000 in
theorem t_X7_pay {l : Launch} {E : Ue} (mem : Um) (x1 : Int32) (x2 : Int32) (x3 : Int32) (z : Um × (Int32 ⊕ String)) (h : f_X7_pay  mem x1 x2 x3 = some z) : ug l E 7 (uzc z) (uzs z) cX7_pay 10 RX7 (some .int) [] (uzx_i z) 0 0 0 [(0, .ref (ue_d E 0)), (1, .int x1), (2, .int x2), (3, .int x3)] [] mem := by
  rw [f_X7_pay] at h
  refine ug_aload_n 0 dX7_pay_0 rfl rfl ?_
  refine ug_iload_n 1 dX7_pay_1 rfl rfl ?_
  refine ug_iconst dX7_pay_2 un_iconst_0 ?_
  refine ug_bipush dX7_pay_3 un_bipush_99 ?_
  rcases ubx_some h with ⟨m1, r2, h3, h⟩ | ⟨m1, X4, h3, rfl⟩
  · refine ug_callVv [.int x1, .int 0, .int 99] (c_X7_need_r  h3) kc_X7_102 ro_0 rfl (S := []) rfl (Nat.le_of_ble_eq_true rfl) (Nat.le_of_ble_eq_true rfl) (Nat.le_of_ble_eq_true rfl) dX7_pay_5 ?_
    refine ug_aload_n 0 dX7_pay_8 rfl rfl ?_
    refine ug_iload_n 2 dX7_pay_9 rfl rfl ?_
    refine ug_iconst dX7_pay_10 un_iconst_0 ?_
    refine ug_bipush dX7_pay_11 un_bipush_99 ?_
    rcases ubx_some h with ⟨m5, r6, h7, h⟩ | ⟨m5, X8, h7, rfl⟩
    · refine ug_callVv [.int x2, .int 0, .int 99] (c_X7_need_r  h7) kc_X7_102 ro_0 rfl (S := []) rfl (Nat.le_of_ble_eq_true rfl) (Nat.le_of_ble_eq_true rfl) (Nat.le_of_ble_eq_true rfl) dX7_pay_13 ?_
      refine ug_aload_n 0 dX7_pay_16 rfl rfl ?_
      refine ug_iload_n 3 dX7_pay_17 rfl rfl ?_
      refine ug_iconst dX7_pay_18 un_iconst_0 ?_
      refine ug_iconst dX7_pay_19 un_iconst_2 ?_
      rcases ubx_some h with ⟨m9, r10, h11, h⟩ | ⟨m9, X12, h11, rfl⟩
      · refine ug_callVv [.int x3, .int 0, .int 2] (c_X7_need_r  h11) kc_X7_102 ro_0 rfl (S := []) rfl (Nat.le_of_ble_eq_true rfl) (Nat.le_of_ble_eq_true rfl) (Nat.le_of_ble_eq_true rfl) dX7_pay_20 ?_
        refine ug_iconst dX7_pay_23 un_iconst_0 ?_
        refine ug_istore [(4, .int 0), (0, .ref (ue_d E 0)), (1, .int x1), (2, .int x2), (3, .int x3)] dX7_pay_24 (Nat.le_of_ble_eq_true rfl) rfl ?_
        refine ug_iconst dX7_pay_26 un_iconst_m1 ?_
        refine ug_istore [(5, .int (-1)), (4, .int 0), (0, .ref (ue_d E 0)), (1, .int x1), (2, .int x2), (3, .int x3)] dX7_pay_27 (Nat.le_of_ble_eq_true rfl) rfl ?_
        refine ug_iconst dX7_pay_29 un_iconst_0 ?_
        refine ug_istore [(6, .int 0), (5, .int (-1)), (4, .int 0), (0, .ref (ue_d E 0)), (1, .int x1), (2, .int x2), (3, .int x3)] dX7_pay_30 (Nat.le_of_ble_eq_true rfl) rfl ?_
        refine ug_iconst dX7_pay_32 un_iconst_0 ?_
        refine ug_istore [(7, .int 0), (6, .int 0), (5, .int (-1)), (4, .int 0), (0, .ref (ue_d E 0)), (1, .int x1), (2, .int x2), (3, .int x3)] dX7_pay_33 (Nat.le_of_ble_eq_true rfl) rfl ?_
        refine ug_sub [(1, .int x1), (2, .int x2), (3, .int x3), (4, .int 0), (5, .int (-1)), (6, .int 0), (7, .int 0)] [5, 6, 7, 3, 2, 1, 0] rfl ?_
        exact t_X7_pay_b35  UF m9 x1 x2 x3 0 (-1) 0 0 _ h
      · exact ug_callVx [.int x3, .int 0, .int 2] (c_X7_need_x  h11) kc_X7_102 ro_0 rfl (S := []) rfl (Nat.le_of_ble_eq_true rfl) (Nat.le_of_ble_eq_true rfl) (Nat.le_of_ble_eq_true rfl) ⟨Nat.le_refl 1, Nat.le_refl 6⟩ dX7_pay_20
    · exact ug_callVx [.int x2, .int 0, .int 99] (c_X7_need_x  h7) kc_X7_102 ro_0 rfl (S := []) rfl (Nat.le_of_ble_eq_true rfl) (Nat.le_of_ble_eq_true rfl) (Nat.le_of_ble_eq_true rfl) ⟨Nat.le_refl 1, Nat.le_refl 6⟩ dX7_pay_13
  · exact ug_callVx [.int x1, .int 0, .int 99] (c_X7_need_x  h3) kc_X7_102 ro_0 rfl (S := []) rfl (Nat.le_of_ble_eq_true rfl) (Nat.le_of_ble_eq_true rfl) (Nat.le_of_ble_eq_true rfl) ⟨Nat.le_refl 1, Nat.le_refl 6⟩ dX7_pay_5
theorem c_X7_pay_r {l : Launch} {E : Ue} {mem : Um} {x1 : Int32} {x2 : Int32} {x3 : Int32} {m1 : Um} {r : Int32} (h : f_X7_pay  mem x1 x2 x3 = some (m1, .inl r)) : ucr l E 7 0 0 yX7_pay cX7_pay 10 (some .int) [.ref (ue_d E 0), .int x1, .int x2, .int x3] mem (some (.int r)) m1 := ucr_of rfl (Nat.le_of_ble_eq_true rfl) (t_X7_pay  mem x1 x2 x3 _ h)
theorem c_X7_pay_x {l : Launch} {E : Ue} {mem : Um} {x1 : Int32} {x2 : Int32} {x3 : Int32} {m1 : Um} {X : String} (h : f_X7_pay  mem x1 x2 x3 = some (m1, .inr X)) : ucx l E 7 1 6 yX7_pay cX7_pay 10 (some .int) [.ref (ue_d E 0), .int x1, .int x2, .int x3] mem X m1 := ucx_of rfl (Nat.le_of_ble_eq_true rfl) (t_X7_pay  mem x1 x2 x3 _ h)
-- X7_sunGiven
def f_X7_sunGiven_b4 : Nat → Um → Int32 → Int32 → Int32 → Option (Um × Int32)
  | 0, _, _, _, _ => none
  | n + 1, mem, x1, x2, x3 =>
    if 5 ≤ x3 then (some (mem, x2)) else (ugd (uin x3 5) ((f_X7_sunGiven_b4  n) mem x1 (x2 + (ummin x1 (mem 37 x3.toNatClampNeg))) (x3 + 1)))
set_option maxRecDepth 20000 in
theorem t_X7_sunGiven_b4 {l : Launch} {E : Ue} : ∀ (n : Nat) (mem : Um) (x1 : Int32) (x2 : Int32) (x3 : Int32) (z : Um × Int32), f_X7_sunGiven_b4  n mem x1 x2 x3 = some z → ug l E 2 0 0 cX7_sunGiven 4 RX7 (some .int) [] (uz_i z) 0 0 4 [(0, .ref (ue_d E 0)), (1, .int x1), (2, .int x2), (3, .int x3)] [] mem := by
  intro n
  induction n with
  | zero =>
    intro mem x1 x2 x3 z h
    rw [f_X7_sunGiven_b4] at h
    cases h
  | succ n ih =>
    intro mem x1 x2 x3 z h
    rw [f_X7_sunGiven_b4] at h
    refine ug_iload_n 3 dX7_sunGiven_4 rfl rfl ?_
    refine ug_iconst dX7_sunGiven_5 un_iconst_5 ?_
    refine ug_icmp_ge 28 dX7_sunGiven_6 (by decide) (fun q1 => ?_) (fun q1 => ?_)
    · rw [if_pos q1] at h
      refine ug_iload_n 2 dX7_sunGiven_28 rfl rfl ?_
      obtain rfl := Option.some.inj h
      exact ug_iret dX7_sunGiven_29
    · rw [if_neg q1] at h
      refine ug_iload_n 2 dX7_sunGiven_9 rfl rfl ?_
      refine ug_iload_n 1 dX7_sunGiven_10 rfl rfl ?_
      refine ug_aload_n 0 dX7_sunGiven_11 rfl rfl ?_
      refine ug_getR kf_X7_76 gr_0_11 dX7_sunGiven_12 ?_
      refine ug_iload_n 3 dX7_sunGiven_15 rfl rfl ?_
      obtain ⟨g2, h⟩ := ugd_some h
      refine ug_iald al_37 (uin_ok g2) dX7_sunGiven_16 ?_
      refine ug_mmin kl_X7_134 (Nat.le_of_ble_eq_true rfl) (Nat.le_of_ble_eq_true rfl) dX7_sunGiven_17 ?_
      refine ug_iadd dX7_sunGiven_20 ?_
      refine ug_istore_n [(2, .int (x2 + (ummin x1 (mem 37 x3.toNatClampNeg)))), (0, .ref (ue_d E 0)), (1, .int x1), (3, .int x3)] dX7_sunGiven_21 rfl (Nat.le_of_ble_eq_true rfl) rfl ?_
      refine ug_iinc (v := (x3 + 1)) [(3, .int (x3 + 1)), (2, .int (x2 + (ummin x1 (mem 37 x3.toNatClampNeg)))), (0, .ref (ue_d E 0)), (1, .int x1)] 3 dX7_sunGiven_22 rfl rfl (Nat.le_of_ble_eq_true rfl) rfl ?_
      refine ug_goto 4 dX7_sunGiven_25 (by decide) ?_
      refine ug_sub [(0, .ref (ue_d E 0)), (1, .int x1), (2, .int (x2 + (ummin x1 (mem 37 x3.toNatClampNeg)))), (3, .int (x3 + 1))] [2, 3, 1, 0] rfl ?_
      exact ih mem x1 (x2 + (ummin x1 (mem 37 x3.toNatClampNeg))) (x3 + 1) _ h
def f_X7_sunGiven (mem : Um) (x1 : Int32) : Option (Um × Int32) :=
  f_X7_sunGiven_b4  UF mem x1 0 0
set_option maxRecDepth 20000 in
theorem t_X7_sunGiven {l : Launch} {E : Ue} (mem : Um) (x1 : Int32) (z : Um × Int32) (h : f_X7_sunGiven  mem x1 = some z) : ug l E 2 0 0 cX7_sunGiven 4 RX7 (some .int) [] (uz_i z) 0 0 0 [(0, .ref (ue_d E 0)), (1, .int x1)] [] mem := by
  rw [f_X7_sunGiven] at h
  refine ug_iconst dX7_sunGiven_0 un_iconst_0 ?_
  refine ug_istore_n [(2, .int 0), (0, .ref (ue_d E 0)), (1, .int x1)] dX7_sunGiven_1 rfl (Nat.le_of_ble_eq_true rfl) rfl ?_
  refine ug_iconst dX7_sunGiven_2 un_iconst_0 ?_
  refine ug_istore_n [(3, .int 0), (2, .int 0), (0, .ref (ue_d E 0)), (1, .int x1)] dX7_sunGiven_3 rfl (Nat.le_of_ble_eq_true rfl) rfl ?_
  refine ug_sub [(0, .ref (ue_d E 0)), (1, .int x1), (2, .int 0), (3, .int 0)] [2, 3, 1, 0] rfl ?_
  exact t_X7_sunGiven_b4  UF mem x1 0 0 _ h
theorem c_X7_sunGiven {l : Launch} {E : Ue} {mem : Um} {x1 : Int32} {m1 : Um} {r : Int32} (h : f_X7_sunGiven  mem x1 = some (m1, r)) : ucr l E 2 0 0 yX7_sunGiven cX7_sunGiven 4 (some .int) [.ref (ue_d E 0), .int x1] mem (some (.int r)) m1 := ucr_of rfl (Nat.le_of_ble_eq_true rfl) (t_X7_sunGiven  mem x1 _ h)
-- X7_sunBound
def f_X7_sunBound_b25 (k6 : Um → Int32 → Int32 → Int32 → Option (Um × Int32)) (mem : Um) (x1 : Int32) (x2 : Int32) (x3 : Int32) : Option (Um × Int32) :=
  k6 mem x1 x2 (x3 / 2)
set_option maxRecDepth 20000 in
theorem t_X7_sunBound_b25 {l : Launch} {E : Ue} (k6 : Um → Int32 → Int32 → Int32 → Option (Um × Int32)) (hk6 : ∀ (mem : Um) (x1 : Int32) (x2 : Int32) (x3 : Int32) (z : Um × Int32), k6 mem x1 x2 x3 = some z → ug l E 3 0 0 cX7_sunBound 4 RX7 (some .int) [] (uz_i z) 0 0 6 [(0, .ref (ue_d E 0)), (1, .int x1), (2, .int x2), (3, .int x3)] [] mem) (mem : Um) (x1 : Int32) (x2 : Int32) (x3 : Int32) (z : Um × Int32) (h : f_X7_sunBound_b25 k6 mem x1 x2 x3 = some z) : ug l E 3 0 0 cX7_sunBound 4 RX7 (some .int) [] (uz_i z) 0 0 25 [(0, .ref (ue_d E 0)), (1, .int x1), (2, .int x2), (3, .int x3)] [] mem := by
  rw [f_X7_sunBound_b25] at h
  refine ug_iload_n 3 dX7_sunBound_25 rfl rfl ?_
  refine ug_iconst dX7_sunBound_26 un_iconst_2 ?_
  refine ug_idiv dX7_sunBound_27 (by decide) ?_
  refine ug_istore_n [(3, .int (x3 / 2)), (0, .ref (ue_d E 0)), (1, .int x1), (2, .int x2)] dX7_sunBound_28 rfl (Nat.le_of_ble_eq_true rfl) rfl ?_
  refine ug_goto 6 dX7_sunBound_29 (by decide) ?_
  refine ug_sub [(0, .ref (ue_d E 0)), (1, .int x1), (2, .int x2), (3, .int (x3 / 2))] [1, 2, 3, 0] rfl ?_
  exact hk6 mem x1 x2 (x3 / 2) _ h
def f_X7_sunBound_b6 : Nat → Um → Int32 → Int32 → Int32 → Option (Um × Int32)
  | 0, _, _, _, _ => none
  | n + 1, mem, x1, x2, x3 =>
    if x3 ≤ 0 then (some (mem, x2)) else (ubi (f_X7_sunGiven mem (x2 + x3)) (fun m2 r3 => if x1 < r3 then (f_X7_sunBound_b25 (f_X7_sunBound_b6  n) m2 x1 x2 x3) else (f_X7_sunBound_b25 (f_X7_sunBound_b6  n) m2 x1 (x2 + x3) x3)))
set_option maxRecDepth 20000 in
theorem t_X7_sunBound_b6 {l : Launch} {E : Ue} : ∀ (n : Nat) (mem : Um) (x1 : Int32) (x2 : Int32) (x3 : Int32) (z : Um × Int32), f_X7_sunBound_b6  n mem x1 x2 x3 = some z → ug l E 3 0 0 cX7_sunBound 4 RX7 (some .int) [] (uz_i z) 0 0 6 [(0, .ref (ue_d E 0)), (1, .int x1), (2, .int x2), (3, .int x3)] [] mem := by
  intro n
  induction n with
  | zero =>
    intro mem x1 x2 x3 z h
    rw [f_X7_sunBound_b6] at h
    cases h
  | succ n ih =>
    intro mem x1 x2 x3 z h
    rw [f_X7_sunBound_b6] at h
    refine ug_iload_n 3 dX7_sunBound_6 rfl rfl ?_
    refine ug_if_le 32 dX7_sunBound_7 (by decide) (fun q1 => ?_) (fun q1 => ?_)
    · rw [if_pos q1] at h
      refine ug_iload_n 2 dX7_sunBound_32 rfl rfl ?_
      obtain rfl := Option.some.inj h
      exact ug_iret dX7_sunBound_33
    · rw [if_neg q1] at h
      refine ug_aload_n 0 dX7_sunBound_10 rfl rfl ?_
      refine ug_iload_n 2 dX7_sunBound_11 rfl rfl ?_
      refine ug_iload_n 3 dX7_sunBound_12 rfl rfl ?_
      refine ug_iadd dX7_sunBound_13 ?_
      obtain ⟨m2, r3, h4, h⟩ := ubi_some h
      refine ug_callVi [.int (x2 + x3)] (c_X7_sunGiven  h4) kc_X7_342 ro_0 rfl (S := []) rfl (Nat.le_of_ble_eq_true rfl) (Nat.le_of_ble_eq_true rfl) (Nat.le_of_ble_eq_true rfl) dX7_sunBound_14 ?_
      refine ug_iload_n 1 dX7_sunBound_17 rfl rfl ?_
      refine ug_icmp_gt 25 dX7_sunBound_18 (by decide) (fun q5 => ?_) (fun q5 => ?_)
      · rw [if_pos q5] at h
        exact t_X7_sunBound_b25 (f_X7_sunBound_b6  n) ih m2 x1 x2 x3 _ h
      · rw [if_neg q5] at h
        refine ug_iload_n 2 dX7_sunBound_21 rfl rfl ?_
        refine ug_iload_n 3 dX7_sunBound_22 rfl rfl ?_
        refine ug_iadd dX7_sunBound_23 ?_
        refine ug_istore_n [(2, .int (x2 + x3)), (0, .ref (ue_d E 0)), (1, .int x1), (3, .int x3)] dX7_sunBound_24 rfl (Nat.le_of_ble_eq_true rfl) rfl ?_
        refine ug_sub [(0, .ref (ue_d E 0)), (1, .int x1), (2, .int (x2 + x3)), (3, .int x3)] [1, 2, 0, 3] rfl ?_
        exact t_X7_sunBound_b25 (f_X7_sunBound_b6  n) ih m2 x1 (x2 + x3) x3 _ h
def f_X7_sunBound (mem : Um) (x1 : Int32) : Option (Um × Int32) :=
  f_X7_sunBound_b6  UF mem x1 0 256
set_option maxRecDepth 20000 in
theorem t_X7_sunBound {l : Launch} {E : Ue} (mem : Um) (x1 : Int32) (z : Um × Int32) (h : f_X7_sunBound  mem x1 = some z) : ug l E 3 0 0 cX7_sunBound 4 RX7 (some .int) [] (uz_i z) 0 0 0 [(0, .ref (ue_d E 0)), (1, .int x1)] [] mem := by
  rw [f_X7_sunBound] at h
  refine ug_iconst dX7_sunBound_0 un_iconst_0 ?_
  refine ug_istore_n [(2, .int 0), (0, .ref (ue_d E 0)), (1, .int x1)] dX7_sunBound_1 rfl (Nat.le_of_ble_eq_true rfl) rfl ?_
  refine ug_sipush dX7_sunBound_2 un_sipush_256 ?_
  refine ug_istore_n [(3, .int 256), (2, .int 0), (0, .ref (ue_d E 0)), (1, .int x1)] dX7_sunBound_5 rfl (Nat.le_of_ble_eq_true rfl) rfl ?_
  refine ug_sub [(0, .ref (ue_d E 0)), (1, .int x1), (2, .int 0), (3, .int 256)] [2, 3, 1, 0] rfl ?_
  exact t_X7_sunBound_b6  UF mem x1 0 256 _ h
theorem c_X7_sunBound {l : Launch} {E : Ue} {mem : Um} {x1 : Int32} {m1 : Um} {r : Int32} (h : f_X7_sunBound  mem x1 = some (m1, r)) : ucr l E 3 0 0 yX7_sunBound cX7_sunBound 4 (some .int) [.ref (ue_d E 0), .int x1] mem (some (.int r)) m1 := ucr_of rfl (Nat.le_of_ble_eq_true rfl) (t_X7_sunBound  mem x1 _ h)
-- X7_sun
def f_X7_sun_b79 (k44 : Um → Int32 → Int32 → Int32 → Int32 → Option (Um × (Int32 ⊕ String))) (mem : Um) (x1 : Int32) (x2 : Int32) (x3 : Int32) (x4 : Int32) (y0 : Int32) (y1 : Int32) : Option (Um × (Int32 ⊕ String)) :=
  ugd (uin y1 5) (k44 (um_w mem 37 y1.toNatClampNeg y0) x1 x2 x3 (x4 + 1))
set_option maxRecDepth 20000 in
theorem t_X7_sun_b79 {l : Launch} {E : Ue} (k44 : Um → Int32 → Int32 → Int32 → Int32 → Option (Um × (Int32 ⊕ String))) (hk44 : ∀ (mem : Um) (x1 : Int32) (x2 : Int32) (x3 : Int32) (x4 : Int32) (z : Um × (Int32 ⊕ String)), k44 mem x1 x2 x3 x4 = some z → ug l E 7 (uzc z) (uzs z) cX7_sun 5 RX7 (some .int) [] (uzx_i z) 0 0 44 [(0, .ref (ue_d E 0)), (1, .int x1), (2, .int x2), (3, .int x3), (4, .int x4)] [] mem) (mem : Um) (x1 : Int32) (x2 : Int32) (x3 : Int32) (x4 : Int32) (y0 : Int32) (y1 : Int32) (z : Um × (Int32 ⊕ String)) (h : f_X7_sun_b79 k44 mem x1 x2 x3 x4 y0 y1 = some z) : ug l E 7 (uzc z) (uzs z) cX7_sun 5 RX7 (some .int) [] (uzx_i z) 0 0 79 [(0, .ref (ue_d E 0)), (1, .int x1), (2, .int x2), (3, .int x3), (4, .int x4)] [.int y0, .int y1, .ref (ue_d E 37)] mem := by
  rw [f_X7_sun_b79] at h
  obtain ⟨g1, h⟩ := ugd_some h
  refine ug_iast al_37 (uin_ok g1) dX7_sun_79 ?_
  refine ug_iinc (v := (x4 + 1)) [(4, .int (x4 + 1)), (0, .ref (ue_d E 0)), (1, .int x1), (2, .int x2), (3, .int x3)] 4 dX7_sun_80 rfl rfl (Nat.le_of_ble_eq_true rfl) rfl ?_
  refine ug_goto 44 dX7_sun_83 (by decide) ?_
  refine ug_sub [(0, .ref (ue_d E 0)), (1, .int x1), (2, .int x2), (3, .int x3), (4, .int (x4 + 1))] [1, 2, 3, 4, 0] rfl ?_
  exact hk44 (um_w mem 37 y1.toNatClampNeg y0) x1 x2 x3 (x4 + 1) _ h
def f_X7_sun_b44 : Nat → Um → Int32 → Int32 → Int32 → Int32 → Option (Um × (Int32 ⊕ String))
  | 0, _, _, _, _, _ => none
  | n + 1, mem, x1, x2, x3, x4 =>
    if 5 ≤ x4 then (ubi (f_X7_sunBound mem x3) (fun m2 r3 => ugd (uin x1 5) (some (m2, .inl (ummin r3 (m2 37 x1.toNatClampNeg)))))) else (if ((x2 >>> (x4 &&& 31)) &&& 1) = 1 then (ubi (f_X4_worthOf 23 mem x4) (fun m7 r8 => f_X7_sun_b79 (f_X7_sun_b44  n) m7 x1 x2 x3 x4 r8 x4)) else (f_X7_sun_b79 (f_X7_sun_b44  n) mem x1 x2 x3 x4 0 x4))
set_option maxRecDepth 20000 in
theorem t_X7_sun_b44 {l : Launch} {E : Ue} : ∀ (n : Nat) (mem : Um) (x1 : Int32) (x2 : Int32) (x3 : Int32) (x4 : Int32) (z : Um × (Int32 ⊕ String)), f_X7_sun_b44  n mem x1 x2 x3 x4 = some z → ug l E 7 (uzc z) (uzs z) cX7_sun 5 RX7 (some .int) [] (uzx_i z) 0 0 44 [(0, .ref (ue_d E 0)), (1, .int x1), (2, .int x2), (3, .int x3), (4, .int x4)] [] mem := by
  intro n
  induction n with
  | zero =>
    intro mem x1 x2 x3 x4 z h
    rw [f_X7_sun_b44] at h
    cases h
  | succ n ih =>
    intro mem x1 x2 x3 x4 z h
    rw [f_X7_sun_b44] at h
    refine ug_iload 4 dX7_sun_44 rfl ?_
    refine ug_iconst dX7_sun_46 un_iconst_5 ?_
    refine ug_icmp_ge 86 dX7_sun_47 (by decide) (fun q1 => ?_) (fun q1 => ?_)
    · rw [if_pos q1] at h
      refine ug_aload_n 0 dX7_sun_86 rfl rfl ?_
      refine ug_iload_n 3 dX7_sun_87 rfl rfl ?_
      obtain ⟨m2, r3, h4, h⟩ := ubi_some h
      refine ug_callVi [.int x3] (c_X7_sunBound  h4) kc_X7_339 ro_0 rfl (S := []) rfl (Nat.le_of_ble_eq_true rfl) (Nat.le_of_ble_eq_true rfl) (Nat.le_of_ble_eq_true rfl) dX7_sun_88 ?_
      refine ug_aload_n 0 dX7_sun_91 rfl rfl ?_
      refine ug_getR kf_X7_76 gr_0_11 dX7_sun_92 ?_
      refine ug_iload_n 1 dX7_sun_95 rfl rfl ?_
      obtain ⟨g5, h⟩ := ugd_some h
      refine ug_iald al_37 (uin_ok g5) dX7_sun_96 ?_
      refine ug_mmin kl_X7_134 (Nat.le_of_ble_eq_true rfl) (Nat.le_of_ble_eq_true rfl) dX7_sun_97 ?_
      obtain rfl := Option.some.inj h
      exact ug_iret dX7_sun_100
    · rw [if_neg q1] at h
      refine ug_aload_n 0 dX7_sun_50 rfl rfl ?_
      refine ug_getR kf_X7_76 gr_0_11 dX7_sun_51 ?_
      refine ug_iload 4 dX7_sun_54 rfl ?_
      refine ug_iload_n 2 dX7_sun_56 rfl rfl ?_
      refine ug_iload 4 dX7_sun_57 rfl ?_
      refine ug_ishr dX7_sun_59 ?_
      refine ug_iconst dX7_sun_60 un_iconst_1 ?_
      refine ug_iand dX7_sun_61 ?_
      refine ug_iconst dX7_sun_62 un_iconst_1 ?_
      refine ug_icmp_ne 78 dX7_sun_63 (by decide) (fun q6 => ?_) (fun q6 => ?_)
      · rw [if_neg q6] at h
        refine ug_iconst dX7_sun_78 un_iconst_0 ?_
        exact t_X7_sun_b79 (f_X7_sun_b44  n) ih mem x1 x2 x3 x4 0 x4 _ h
      · rw [if_pos q6] at h
        refine ug_aload_n 0 dX7_sun_66 rfl rfl ?_
        refine ug_getR kf_X7_54 gr_0_6 dX7_sun_67 ?_
        refine ug_iload 4 dX7_sun_70 rfl ?_
        obtain ⟨m7, r8, h9, h⟩ := ubi_some h
        refine ug_callVi [.int x4] (c_X4_worthOf (Or.inl rfl) h9) kc_X7_222 ro_23 rfl (S := [.int x4, .ref (ue_d E 37)]) rfl (Nat.le_of_ble_eq_true rfl) (Nat.le_of_ble_eq_true rfl) (Nat.le_of_ble_eq_true rfl) dX7_sun_72 ?_
        refine ug_goto 79 dX7_sun_75 (by decide) ?_
        exact t_X7_sun_b79 (f_X7_sun_b44  n) ih m7 x1 x2 x3 x4 r8 x4 _ h
def f_X7_sun (mem : Um) (x1 : Int32) (x2 : Int32) (x3 : Int32) : Option (Um × (Int32 ⊕ String)) :=
  ubx (f_X7_needTenant mem x1) (fun m1 r2 => ubx (f_X7_need m1 x2 0 ((1 <<< ((m1 3 1) &&& 31)) - 1)) (fun m5 r6 => ubx (f_X7_need m5 x3 0 999) (fun m9 r10 => if ((x2 >>> (x1 &&& 31)) &&& 1) = 0 then (some (m9, .inl 0)) else (f_X7_sun_b44  UF m9 x1 x2 x3 0))))
set_option maxRecDepth 20000 in
theorem t_X7_sun {l : Launch} {E : Ue} (mem : Um) (x1 : Int32) (x2 : Int32) (x3 : Int32) (z : Um × (Int32 ⊕ String)) (h : f_X7_sun  mem x1 x2 x3 = some z) : ug l E 7 (uzc z) (uzs z) cX7_sun 5 RX7 (some .int) [] (uzx_i z) 0 0 0 [(0, .ref (ue_d E 0)), (1, .int x1), (2, .int x2), (3, .int x3)] [] mem := by
  rw [f_X7_sun] at h
  refine ug_aload_n 0 dX7_sun_0 rfl rfl ?_
  refine ug_iload_n 1 dX7_sun_1 rfl rfl ?_
  rcases ubx_some h with ⟨m1, r2, h3, h⟩ | ⟨m1, X4, h3, rfl⟩
  · refine ug_callVv [.int x1] (c_X7_needTenant_r  h3) kc_X7_212 ro_0 rfl (S := []) rfl (Nat.le_of_ble_eq_true rfl) (Nat.le_of_ble_eq_true rfl) (Nat.le_of_ble_eq_true rfl) dX7_sun_2 ?_
    refine ug_aload_n 0 dX7_sun_5 rfl rfl ?_
    refine ug_iload_n 2 dX7_sun_6 rfl rfl ?_
    refine ug_iconst dX7_sun_7 un_iconst_0 ?_
    refine ug_iconst dX7_sun_8 un_iconst_1 ?_
    refine ug_aload_n 0 dX7_sun_9 rfl rfl ?_
    refine ug_getR kf_X7_21 gr_0_1 dX7_sun_10 ?_
    refine ug_getI kf_X7_131 gi_3_1 dX7_sun_13 ?_
    refine ug_ishl dX7_sun_16 ?_
    refine ug_iconst dX7_sun_17 un_iconst_1 ?_
    refine ug_isub dX7_sun_18 ?_
    rcases ubx_some h with ⟨m5, r6, h7, h⟩ | ⟨m5, X8, h7, rfl⟩
    · refine ug_callVv [.int x2, .int 0, .int ((1 <<< ((m1 3 1) &&& 31)) - 1)] (c_X7_need_r  h7) kc_X7_102 ro_0 rfl (S := []) rfl (Nat.le_of_ble_eq_true rfl) (Nat.le_of_ble_eq_true rfl) (Nat.le_of_ble_eq_true rfl) dX7_sun_19 ?_
      refine ug_aload_n 0 dX7_sun_22 rfl rfl ?_
      refine ug_iload_n 3 dX7_sun_23 rfl rfl ?_
      refine ug_iconst dX7_sun_24 un_iconst_0 ?_
      refine ug_sipush dX7_sun_25 un_sipush_999 ?_
      rcases ubx_some h with ⟨m9, r10, h11, h⟩ | ⟨m9, X12, h11, rfl⟩
      · refine ug_callVv [.int x3, .int 0, .int 999] (c_X7_need_r  h11) kc_X7_102 ro_0 rfl (S := []) rfl (Nat.le_of_ble_eq_true rfl) (Nat.le_of_ble_eq_true rfl) (Nat.le_of_ble_eq_true rfl) dX7_sun_28 ?_
        refine ug_iload_n 2 dX7_sun_31 rfl rfl ?_
        refine ug_iload_n 1 dX7_sun_32 rfl rfl ?_
        refine ug_ishr dX7_sun_33 ?_
        refine ug_iconst dX7_sun_34 un_iconst_1 ?_
        refine ug_iand dX7_sun_35 ?_
        refine ug_if_ne 41 dX7_sun_36 (by decide) (fun q13 => ?_) (fun q13 => ?_)
        · rw [if_neg q13] at h
          refine ug_iconst dX7_sun_41 un_iconst_0 ?_
          refine ug_istore [(4, .int 0), (0, .ref (ue_d E 0)), (1, .int x1), (2, .int x2), (3, .int x3)] dX7_sun_42 (Nat.le_of_ble_eq_true rfl) rfl ?_
          refine ug_sub [(0, .ref (ue_d E 0)), (1, .int x1), (2, .int x2), (3, .int x3), (4, .int 0)] [1, 2, 3, 4, 0] rfl ?_
          exact t_X7_sun_b44  UF m9 x1 x2 x3 0 _ h
        · rw [if_pos q13] at h
          refine ug_iconst dX7_sun_39 un_iconst_0 ?_
          obtain rfl := Option.some.inj h
          exact ug_iret dX7_sun_40
      · exact ug_callVx [.int x3, .int 0, .int 999] (c_X7_need_x  h11) kc_X7_102 ro_0 rfl (S := []) rfl (Nat.le_of_ble_eq_true rfl) (Nat.le_of_ble_eq_true rfl) (Nat.le_of_ble_eq_true rfl) ⟨Nat.le_refl 1, Nat.le_refl 6⟩ dX7_sun_28
    · exact ug_callVx [.int x2, .int 0, .int ((1 <<< ((m1 3 1) &&& 31)) - 1)] (c_X7_need_x  h7) kc_X7_102 ro_0 rfl (S := []) rfl (Nat.le_of_ble_eq_true rfl) (Nat.le_of_ble_eq_true rfl) (Nat.le_of_ble_eq_true rfl) ⟨Nat.le_refl 1, Nat.le_refl 6⟩ dX7_sun_19
  · exact ug_callVx [.int x1] (c_X7_needTenant_x  h3) kc_X7_212 ro_0 rfl (S := []) rfl (Nat.le_of_ble_eq_true rfl) (Nat.le_of_ble_eq_true rfl) (Nat.le_of_ble_eq_true rfl) ⟨Nat.le_refl 1, Nat.le_refl 6⟩ dX7_sun_2
theorem c_X7_sun_r {l : Launch} {E : Ue} {mem : Um} {x1 : Int32} {x2 : Int32} {x3 : Int32} {m1 : Um} {r : Int32} (h : f_X7_sun  mem x1 x2 x3 = some (m1, .inl r)) : ucr l E 7 0 0 yX7_sun cX7_sun 5 (some .int) [.ref (ue_d E 0), .int x1, .int x2, .int x3] mem (some (.int r)) m1 := ucr_of rfl (Nat.le_of_ble_eq_true rfl) (t_X7_sun  mem x1 x2 x3 _ h)
theorem c_X7_sun_x {l : Launch} {E : Ue} {mem : Um} {x1 : Int32} {x2 : Int32} {x3 : Int32} {m1 : Um} {X : String} (h : f_X7_sun  mem x1 x2 x3 = some (m1, .inr X)) : ucx l E 7 1 6 yX7_sun cX7_sun 5 (some .int) [.ref (ue_d E 0), .int x1, .int x2, .int x3] mem X m1 := ucx_of rfl (Nat.le_of_ble_eq_true rfl) (t_X7_sun  mem x1 x2 x3 _ h)
-- X7_needAfternoon
def f_X7_needAfternoon (mem : Um) (x1 : Int32) (x2 : Int32) : Option (Um × (Unit ⊕ String)) :=
  ubx (f_X7_need mem x1 0 16) (fun m1 r2 => ubx (f_X7_need m1 x2 1 48) (fun m5 r6 => some (m5, (.inl ()))))
set_option maxRecDepth 20000 in
theorem t_X7_needAfternoon {l : Launch} {E : Ue} (mem : Um) (x1 : Int32) (x2 : Int32) (z : Um × (Unit ⊕ String)) (h : f_X7_needAfternoon  mem x1 x2 = some z) : ug l E 7 (uzc z) (uzs z) cX7_needAfternoon 3 RX7 none [] (uzx_v z) 0 0 0 [(0, .ref (ue_d E 0)), (1, .int x1), (2, .int x2)] [] mem := by
  rw [f_X7_needAfternoon] at h
  refine ug_aload_n 0 dX7_needAfternoon_0 rfl rfl ?_
  refine ug_iload_n 1 dX7_needAfternoon_1 rfl rfl ?_
  refine ug_iconst dX7_needAfternoon_2 un_iconst_0 ?_
  refine ug_bipush dX7_needAfternoon_3 un_bipush_16 ?_
  rcases ubx_some h with ⟨m1, r2, h3, h⟩ | ⟨m1, X4, h3, rfl⟩
  · refine ug_callVv [.int x1, .int 0, .int 16] (c_X7_need_r  h3) kc_X7_102 ro_0 rfl (S := []) rfl (Nat.le_of_ble_eq_true rfl) (Nat.le_of_ble_eq_true rfl) (Nat.le_of_ble_eq_true rfl) dX7_needAfternoon_5 ?_
    refine ug_aload_n 0 dX7_needAfternoon_8 rfl rfl ?_
    refine ug_iload_n 2 dX7_needAfternoon_9 rfl rfl ?_
    refine ug_iconst dX7_needAfternoon_10 un_iconst_1 ?_
    refine ug_bipush dX7_needAfternoon_11 un_bipush_48 ?_
    rcases ubx_some h with ⟨m5, r6, h7, h⟩ | ⟨m5, X8, h7, rfl⟩
    · refine ug_callVv [.int x2, .int 1, .int 48] (c_X7_need_r  h7) kc_X7_102 ro_0 rfl (S := []) rfl (Nat.le_of_ble_eq_true rfl) (Nat.le_of_ble_eq_true rfl) (Nat.le_of_ble_eq_true rfl) dX7_needAfternoon_13 ?_
      obtain rfl := Option.some.inj h
      exact ug_vret dX7_needAfternoon_16
    · exact ug_callVx [.int x2, .int 1, .int 48] (c_X7_need_x  h7) kc_X7_102 ro_0 rfl (S := []) rfl (Nat.le_of_ble_eq_true rfl) (Nat.le_of_ble_eq_true rfl) (Nat.le_of_ble_eq_true rfl) ⟨Nat.le_refl 1, Nat.le_refl 6⟩ dX7_needAfternoon_13
  · exact ug_callVx [.int x1, .int 0, .int 16] (c_X7_need_x  h3) kc_X7_102 ro_0 rfl (S := []) rfl (Nat.le_of_ble_eq_true rfl) (Nat.le_of_ble_eq_true rfl) (Nat.le_of_ble_eq_true rfl) ⟨Nat.le_refl 1, Nat.le_refl 6⟩ dX7_needAfternoon_5
theorem c_X7_needAfternoon_r {l : Launch} {E : Ue} {mem : Um} {x1 : Int32} {x2 : Int32} {m1 : Um} {r : Unit} (h : f_X7_needAfternoon  mem x1 x2 = some (m1, .inl r)) : ucr l E 7 0 0 yX7_needAfternoon cX7_needAfternoon 3 none [.ref (ue_d E 0), .int x1, .int x2] mem none m1 := ucr_of rfl (Nat.le_of_ble_eq_true rfl) (t_X7_needAfternoon  mem x1 x2 _ h)
theorem c_X7_needAfternoon_x {l : Launch} {E : Ue} {mem : Um} {x1 : Int32} {x2 : Int32} {m1 : Um} {X : String} (h : f_X7_needAfternoon  mem x1 x2 = some (m1, .inr X)) : ucx l E 7 1 6 yX7_needAfternoon cX7_needAfternoon 3 none [.ref (ue_d E 0), .int x1, .int x2] mem X m1 := ucx_of rfl (Nat.le_of_ble_eq_true rfl) (t_X7_needAfternoon  mem x1 x2 _ h)
-- X7_draw
def f_X7_draw_b37 (mem : Um) (y0 : Int32) : Option (Um × Int32) :=
  some (mem, y0)
set_option maxRecDepth 20000 in
theorem t_X7_draw_b37 {l : Launch} {E : Ue} (mem : Um) (y0 : Int32) (z : Um × Int32) (h : f_X7_draw_b37  mem y0 = some z) : ug l E 2 0 0 cX7_draw 2 RX7 (some .int) [] (uz_i z) 0 0 37 [] [.int y0] mem := by
  rw [f_X7_draw_b37] at h
  obtain rfl := Option.some.inj h
  exact ug_iret dX7_draw_37
def f_X7_draw (mem : Um) (x1 : Int32) : Option (Um × Int32) :=
  if x1 ≤ 0 then (f_X7_draw_b37 (um_w mem 0 14 (((mem 0 14) * 1103515245) + 12345)) 0) else (ugd (unz x1) (f_X7_draw_b37 (um_w mem 0 14 (((mem 0 14) * 1103515245) + 12345)) (((uus ((um_w mem 0 14 (((mem 0 14) * 1103515245) + 12345)) 0 14) 16) &&& 32767) % x1)))
set_option maxRecDepth 20000 in
theorem t_X7_draw {l : Launch} {E : Ue} (mem : Um) (x1 : Int32) (z : Um × Int32) (h : f_X7_draw  mem x1 = some z) : ug l E 2 0 0 cX7_draw 2 RX7 (some .int) [] (uz_i z) 0 0 0 [(0, .ref (ue_d E 0)), (1, .int x1)] [] mem := by
  rw [f_X7_draw] at h
  refine ug_aload_n 0 dX7_draw_0 rfl rfl ?_
  refine ug_aload_n 0 dX7_draw_1 rfl rfl ?_
  refine ug_getI kf_X7_86 gi_0_14 dX7_draw_2 ?_
  refine ug_ldcw kk_X7_360 dX7_draw_5 ?_
  refine ug_imul dX7_draw_8 ?_
  refine ug_sipush dX7_draw_9 un_sipush_12345 ?_
  refine ug_iadd dX7_draw_12 ?_
  refine ug_putI kp_X7_86 gi_0_14 dX7_draw_13 ?_
  refine ug_iload_n 1 dX7_draw_16 rfl rfl ?_
  refine ug_if_le 36 dX7_draw_17 (by decide) (fun q1 => ?_) (fun q1 => ?_)
  · rw [if_pos q1] at h
    refine ug_iconst dX7_draw_36 un_iconst_0 ?_
    refine ug_sub [] [] rfl ?_
    exact t_X7_draw_b37 (um_w mem 0 14 (((mem 0 14) * 1103515245) + 12345)) 0 _ h
  · rw [if_neg q1] at h
    refine ug_aload_n 0 dX7_draw_20 rfl rfl ?_
    refine ug_getI kf_X7_86 gi_0_14 dX7_draw_21 ?_
    refine ug_bipush dX7_draw_24 un_bipush_16 ?_
    refine ug_iushr dX7_draw_26 ?_
    refine ug_sipush dX7_draw_27 un_sipush_32767 ?_
    refine ug_iand dX7_draw_30 ?_
    refine ug_iload_n 1 dX7_draw_31 rfl rfl ?_
    obtain ⟨g2, h⟩ := ugd_some h
    refine ug_irem dX7_draw_32 (of_decide_eq_true g2) ?_
    refine ug_goto 37 dX7_draw_33 (by decide) ?_
    refine ug_sub [] [] rfl ?_
    exact t_X7_draw_b37 (um_w mem 0 14 (((mem 0 14) * 1103515245) + 12345)) (((uus ((um_w mem 0 14 (((mem 0 14) * 1103515245) + 12345)) 0 14) 16) &&& 32767) % x1) _ h
theorem c_X7_draw {l : Launch} {E : Ue} {mem : Um} {x1 : Int32} {m1 : Um} {r : Int32} (h : f_X7_draw  mem x1 = some (m1, r)) : ucr l E 2 0 0 yX7_draw cX7_draw 2 (some .int) [.ref (ue_d E 0), .int x1] mem (some (.int r)) m1 := ucr_of rfl (Nat.le_of_ble_eq_true rfl) (t_X7_draw  mem x1 _ h)
-- X7_playAfternoon
def f_X7_playAfternoon_b114 (k19 : Um → Int32 → Int32 → Int32 → Option (Um × Unit)) (mem : Um) (x2 : Int32) (x3 : Int32) (x4 : Int32) : Option (Um × Unit) :=
  ubi (f_X4_breathe 25 mem 2147483647) (fun m1 r2 => k19 m1 x2 x3 (x4 + 1))
set_option maxRecDepth 20000 in
theorem t_X7_playAfternoon_b114 {l : Launch} {E : Ue} (k19 : Um → Int32 → Int32 → Int32 → Option (Um × Unit)) (hk19 : ∀ (mem : Um) (x2 : Int32) (x3 : Int32) (x4 : Int32) (z : Um × Unit), k19 mem x2 x3 x4 = some z → ug l E 6 0 0 cX7_playAfternoon 8 RX7 none [] (uz_v z) 0 0 19 [(0, .ref (ue_d E 0)), (2, .int x2), (3, .int x3), (4, .int x4)] [] mem) (mem : Um) (x2 : Int32) (x3 : Int32) (x4 : Int32) (z : Um × Unit) (h : f_X7_playAfternoon_b114 k19 mem x2 x3 x4 = some z) : ug l E 6 0 0 cX7_playAfternoon 8 RX7 none [] (uz_v z) 0 0 114 [(0, .ref (ue_d E 0)), (2, .int x2), (3, .int x3), (4, .int x4)] [] mem := by
  rw [f_X7_playAfternoon_b114] at h
  refine ug_aload_n 0 dX7_playAfternoon_114 rfl rfl ?_
  refine ug_getR kf_X7_58 gr_0_7 dX7_playAfternoon_115 ?_
  refine ug_ldcw kk_X7_262 dX7_playAfternoon_118 ?_
  obtain ⟨m1, r2, h3, h⟩ := ubi_some h
  refine ug_callVi [.int 2147483647] (c_X4_breathe (Or.inr rfl) h3) kc_X7_263 ro_25 rfl (S := []) rfl (Nat.le_of_ble_eq_true rfl) (Nat.le_of_ble_eq_true rfl) (Nat.le_of_ble_eq_true rfl) dX7_playAfternoon_121 ?_
  refine ug_pop dX7_playAfternoon_124 rfl ?_
  refine ug_iinc (v := (x4 + 1)) [(4, .int (x4 + 1)), (0, .ref (ue_d E 0)), (2, .int x2), (3, .int x3)] 3 dX7_playAfternoon_125 rfl rfl (Nat.le_of_ble_eq_true rfl) rfl ?_
  refine ug_goto 19 dX7_playAfternoon_128 (by decide) ?_
  refine ug_sub [(0, .ref (ue_d E 0)), (2, .int x2), (3, .int x3), (4, .int (x4 + 1))] [1, 2, 3, 0] rfl ?_
  exact hk19 m1 x2 x3 (x4 + 1) _ h
def f_X7_playAfternoon_b110 (k19 : Um → Int32 → Int32 → Int32 → Option (Um × Unit)) (mem : Um) (x2 : Int32) (x3 : Int32) (x4 : Int32) (y0 : Int32) : Option (Um × Unit) :=
  ubi (f_X4_drift 25 mem y0) (fun m1 r2 => f_X7_playAfternoon_b114 k19 m1 x2 x3 x4)
set_option maxRecDepth 20000 in
theorem t_X7_playAfternoon_b110 {l : Launch} {E : Ue} (k19 : Um → Int32 → Int32 → Int32 → Option (Um × Unit)) (hk19 : ∀ (mem : Um) (x2 : Int32) (x3 : Int32) (x4 : Int32) (z : Um × Unit), k19 mem x2 x3 x4 = some z → ug l E 6 0 0 cX7_playAfternoon 8 RX7 none [] (uz_v z) 0 0 19 [(0, .ref (ue_d E 0)), (2, .int x2), (3, .int x3), (4, .int x4)] [] mem) (mem : Um) (x2 : Int32) (x3 : Int32) (x4 : Int32) (y0 : Int32) (z : Um × Unit) (h : f_X7_playAfternoon_b110 k19 mem x2 x3 x4 y0 = some z) : ug l E 6 0 0 cX7_playAfternoon 8 RX7 none [] (uz_v z) 0 0 110 [(0, .ref (ue_d E 0)), (2, .int x2), (3, .int x3), (4, .int x4)] [.int y0, .ref (ue_d E 25)] mem := by
  rw [f_X7_playAfternoon_b110] at h
  obtain ⟨m1, r2, h3, h⟩ := ubi_some h
  refine ug_callVi [.int y0] (c_X4_drift (Or.inr rfl) h3) kc_X7_357 ro_25 rfl (S := []) rfl (Nat.le_of_ble_eq_true rfl) (Nat.le_of_ble_eq_true rfl) (Nat.le_of_ble_eq_true rfl) dX7_playAfternoon_110 ?_
  refine ug_pop dX7_playAfternoon_113 rfl ?_
  exact t_X7_playAfternoon_b114 k19 hk19 m1 x2 x3 x4 _ h
def f_X7_playAfternoon_b81 (k19 : Um → Int32 → Int32 → Int32 → Option (Um × Unit)) (mem : Um) (x2 : Int32) (x3 : Int32) (x4 : Int32) (y0 : Int32) : Option (Um × Unit) :=
  ubi (f_X7_draw mem 20) (fun m1 r2 => if y0 = 0 then (f_X7_playAfternoon_b110 k19 m1 x2 x3 x4 (-(1 + r2))) else (f_X7_playAfternoon_b110 k19 m1 x2 x3 x4 (1 + r2)))
set_option maxRecDepth 20000 in
theorem t_X7_playAfternoon_b81 {l : Launch} {E : Ue} (k19 : Um → Int32 → Int32 → Int32 → Option (Um × Unit)) (hk19 : ∀ (mem : Um) (x2 : Int32) (x3 : Int32) (x4 : Int32) (z : Um × Unit), k19 mem x2 x3 x4 = some z → ug l E 6 0 0 cX7_playAfternoon 8 RX7 none [] (uz_v z) 0 0 19 [(0, .ref (ue_d E 0)), (2, .int x2), (3, .int x3), (4, .int x4)] [] mem) (mem : Um) (x2 : Int32) (x3 : Int32) (x4 : Int32) (y0 : Int32) (z : Um × Unit) (h : f_X7_playAfternoon_b81 k19 mem x2 x3 x4 y0 = some z) : ug l E 6 0 0 cX7_playAfternoon 8 RX7 none [] (uz_v z) 0 0 81 [(0, .ref (ue_d E 0)), (2, .int x2), (3, .int x3), (4, .int x4)] [.int y0] mem := by
  rw [f_X7_playAfternoon_b81] at h
  refine ug_istore [(6, .int y0), (0, .ref (ue_d E 0)), (2, .int x2), (3, .int x3), (4, .int x4)] dX7_playAfternoon_81 (Nat.le_of_ble_eq_true rfl) rfl ?_
  refine ug_iconst dX7_playAfternoon_83 un_iconst_1 ?_
  refine ug_aload_n 1 dX7_playAfternoon_84 rfl rfl ?_
  refine ug_bipush dX7_playAfternoon_85 un_bipush_20 ?_
  obtain ⟨m1, r2, h3, h⟩ := ubi_some h
  refine ug_callVi [.int 20] (c_X7_draw  h3) kc_X7_354 ro_0 rfl (S := [.int 1]) rfl (Nat.le_of_ble_eq_true rfl) (Nat.le_of_ble_eq_true rfl) (Nat.le_of_ble_eq_true rfl) dX7_playAfternoon_87 ?_
  refine ug_iadd dX7_playAfternoon_90 ?_
  refine ug_istore [(7, .int (1 + r2)), (6, .int y0), (0, .ref (ue_d E 0)), (2, .int x2), (3, .int x3), (4, .int x4)] dX7_playAfternoon_91 (Nat.le_of_ble_eq_true rfl) rfl ?_
  refine ug_aload_n 2 dX7_playAfternoon_93 rfl rfl ?_
  refine ug_getR kf_X7_58 gr_0_7 dX7_playAfternoon_94 ?_
  refine ug_iload 1 dX7_playAfternoon_97 rfl ?_
  refine ug_if_eq 107 dX7_playAfternoon_99 (by decide) (fun q4 => ?_) (fun q4 => ?_)
  · rw [if_pos q4] at h
    refine ug_iload 0 dX7_playAfternoon_107 rfl ?_
    refine ug_ineg dX7_playAfternoon_109 ?_
    refine ug_sub [(0, .ref (ue_d E 0)), (2, .int x2), (3, .int x3), (4, .int x4)] [2, 3, 4, 5] rfl ?_
    exact t_X7_playAfternoon_b110 k19 hk19 m1 x2 x3 x4 (-(1 + r2)) _ h
  · rw [if_neg q4] at h
    refine ug_iload 0 dX7_playAfternoon_102 rfl ?_
    refine ug_goto 110 dX7_playAfternoon_104 (by decide) ?_
    refine ug_sub [(0, .ref (ue_d E 0)), (2, .int x2), (3, .int x3), (4, .int x4)] [2, 3, 4, 5] rfl ?_
    exact t_X7_playAfternoon_b110 k19 hk19 m1 x2 x3 x4 (1 + r2) _ h
def f_X7_playAfternoon_b19 : Nat → Um → Int32 → Int32 → Int32 → Option (Um × Unit)
  | 0, _, _, _, _ => none
  | n + 1, mem, x2, x3, x4 =>
    if x3 ≤ x4 then (some (mem, ())) else (if (mem 3 1) ≤ 0 then (f_X7_playAfternoon_b114 (f_X7_playAfternoon_b19  n) mem x2 x3 x4) else (ubi (f_X7_draw mem (mem 3 1)) (fun m3 r4 => ubi (f_X7_draw m3 20) (fun m6 r7 => ubi (f_X4_blow 25 m6 r4 (1 + r7)) (fun m9 r10 => ubi (f_X7_draw m9 16) (fun m12 r13 => if x2 ≤ r13 then (f_X7_playAfternoon_b81 (f_X7_playAfternoon_b19  n) m12 x2 x3 x4 0) else (f_X7_playAfternoon_b81 (f_X7_playAfternoon_b19  n) m12 x2 x3 x4 1)))))))
set_option maxRecDepth 20000 in
theorem t_X7_playAfternoon_b19 {l : Launch} {E : Ue} : ∀ (n : Nat) (mem : Um) (x2 : Int32) (x3 : Int32) (x4 : Int32) (z : Um × Unit), f_X7_playAfternoon_b19  n mem x2 x3 x4 = some z → ug l E 6 0 0 cX7_playAfternoon 8 RX7 none [] (uz_v z) 0 0 19 [(0, .ref (ue_d E 0)), (2, .int x2), (3, .int x3), (4, .int x4)] [] mem := by
  intro n
  induction n with
  | zero =>
    intro mem x2 x3 x4 z h
    rw [f_X7_playAfternoon_b19] at h
    cases h
  | succ n ih =>
    intro mem x2 x3 x4 z h
    rw [f_X7_playAfternoon_b19] at h
    refine ug_iload 3 dX7_playAfternoon_19 rfl ?_
    refine ug_iload_n 2 dX7_playAfternoon_21 rfl rfl ?_
    refine ug_icmp_ge 131 dX7_playAfternoon_22 (by decide) (fun q1 => ?_) (fun q1 => ?_)
    · rw [if_pos q1] at h
      obtain rfl := Option.some.inj h
      exact ug_vret dX7_playAfternoon_131
    · rw [if_neg q1] at h
      refine ug_aload_n 0 dX7_playAfternoon_25 rfl rfl ?_
      refine ug_getR kf_X7_21 gr_0_1 dX7_playAfternoon_26 ?_
      refine ug_getI kf_X7_131 gi_3_1 dX7_playAfternoon_29 ?_
      refine ug_if_le 114 dX7_playAfternoon_32 (by decide) (fun q2 => ?_) (fun q2 => ?_)
      · rw [if_pos q2] at h
        exact t_X7_playAfternoon_b114 (f_X7_playAfternoon_b19  n) ih mem x2 x3 x4 _ h
      · rw [if_neg q2] at h
        refine ug_aload_n 0 dX7_playAfternoon_35 rfl rfl ?_
        refine ug_aload_n 0 dX7_playAfternoon_36 rfl rfl ?_
        refine ug_getR kf_X7_21 gr_0_1 dX7_playAfternoon_37 ?_
        refine ug_getI kf_X7_131 gi_3_1 dX7_playAfternoon_40 ?_
        obtain ⟨m3, r4, h5, h⟩ := ubi_some h
        refine ug_callVi [.int (mem 3 1)] (c_X7_draw  h5) kc_X7_354 ro_0 rfl (S := []) rfl (Nat.le_of_ble_eq_true rfl) (Nat.le_of_ble_eq_true rfl) (Nat.le_of_ble_eq_true rfl) dX7_playAfternoon_43 ?_
        refine ug_istore [(5, .int r4), (0, .ref (ue_d E 0)), (2, .int x2), (3, .int x3), (4, .int x4)] dX7_playAfternoon_46 (Nat.le_of_ble_eq_true rfl) rfl ?_
        refine ug_aload_n 1 dX7_playAfternoon_48 rfl rfl ?_
        refine ug_getR kf_X7_58 gr_0_7 dX7_playAfternoon_49 ?_
        refine ug_iload 0 dX7_playAfternoon_52 rfl ?_
        refine ug_iconst dX7_playAfternoon_54 un_iconst_1 ?_
        refine ug_aload_n 1 dX7_playAfternoon_55 rfl rfl ?_
        refine ug_bipush dX7_playAfternoon_56 un_bipush_20 ?_
        obtain ⟨m6, r7, h8, h⟩ := ubi_some h
        refine ug_callVi [.int 20] (c_X7_draw  h8) kc_X7_354 ro_0 rfl (S := [.int 1, .int r4, .ref (ue_d E 25)]) rfl (Nat.le_of_ble_eq_true rfl) (Nat.le_of_ble_eq_true rfl) (Nat.le_of_ble_eq_true rfl) dX7_playAfternoon_58 ?_
        refine ug_iadd dX7_playAfternoon_61 ?_
        obtain ⟨m9, r10, h11, h⟩ := ubi_some h
        refine ug_callVi [.int r4, .int (1 + r7)] (c_X4_blow (Or.inr rfl) h11) kc_X7_303 ro_25 rfl (S := []) rfl (Nat.le_of_ble_eq_true rfl) (Nat.le_of_ble_eq_true rfl) (Nat.le_of_ble_eq_true rfl) dX7_playAfternoon_62 ?_
        refine ug_pop dX7_playAfternoon_65 rfl ?_
        refine ug_aload_n 1 dX7_playAfternoon_66 rfl rfl ?_
        refine ug_bipush dX7_playAfternoon_67 un_bipush_16 ?_
        obtain ⟨m12, r13, h14, h⟩ := ubi_some h
        refine ug_callVi [.int 16] (c_X7_draw  h14) kc_X7_354 ro_0 rfl (S := []) rfl (Nat.le_of_ble_eq_true rfl) (Nat.le_of_ble_eq_true rfl) (Nat.le_of_ble_eq_true rfl) dX7_playAfternoon_69 ?_
        refine ug_iload_n 2 dX7_playAfternoon_72 rfl rfl ?_
        refine ug_icmp_ge 80 dX7_playAfternoon_73 (by decide) (fun q15 => ?_) (fun q15 => ?_)
        · rw [if_pos q15] at h
          refine ug_iconst dX7_playAfternoon_80 un_iconst_0 ?_
          refine ug_sub [(0, .ref (ue_d E 0)), (2, .int x2), (3, .int x3), (4, .int x4)] [1, 2, 3, 4] rfl ?_
          exact t_X7_playAfternoon_b81 (f_X7_playAfternoon_b19  n) ih m12 x2 x3 x4 0 _ h
        · rw [if_neg q15] at h
          refine ug_iconst dX7_playAfternoon_76 un_iconst_1 ?_
          refine ug_goto 81 dX7_playAfternoon_77 (by decide) ?_
          refine ug_sub [(0, .ref (ue_d E 0)), (2, .int x2), (3, .int x3), (4, .int x4)] [1, 2, 3, 4] rfl ?_
          exact t_X7_playAfternoon_b81 (f_X7_playAfternoon_b19  n) ih m12 x2 x3 x4 1 _ h
def f_X7_playAfternoon (mem : Um) (x1 : Int32) (x2 : Int32) (x3 : Int32) : Option (Um × Unit) :=
  ubi (f_X4_copyFrom mem) (fun m1 r2 => f_X7_playAfternoon_b19  UF (um_w m1 0 14 x1) x2 x3 0)
set_option maxRecDepth 20000 in
theorem t_X7_playAfternoon {l : Launch} {E : Ue} (mem : Um) (x1 : Int32) (x2 : Int32) (x3 : Int32) (z : Um × Unit) (h : f_X7_playAfternoon  mem x1 x2 x3 = some z) : ug l E 6 0 0 cX7_playAfternoon 8 RX7 none [] (uz_v z) 0 0 0 [(0, .ref (ue_d E 0)), (1, .int x1), (2, .int x2), (3, .int x3)] [] mem := by
  rw [f_X7_playAfternoon] at h
  refine ug_aload_n 0 dX7_playAfternoon_0 rfl rfl ?_
  refine ug_getR kf_X7_58 gr_0_7 dX7_playAfternoon_1 ?_
  refine ug_aload_n 0 dX7_playAfternoon_4 rfl rfl ?_
  refine ug_getR kf_X7_54 gr_0_6 dX7_playAfternoon_5 ?_
  obtain ⟨m1, r2, h3, h⟩ := ubi_some h
  refine ug_callVv [.ref (ue_d E 23)] (c_X4_copyFrom  h3) kc_X7_259 ro_25 rfl (S := []) rfl (Nat.le_of_ble_eq_true rfl) (Nat.le_of_ble_eq_true rfl) (Nat.le_of_ble_eq_true rfl) dX7_playAfternoon_8 ?_
  refine ug_aload_n 0 dX7_playAfternoon_11 rfl rfl ?_
  refine ug_iload_n 1 dX7_playAfternoon_12 rfl rfl ?_
  refine ug_putI kp_X7_86 gi_0_14 dX7_playAfternoon_13 ?_
  refine ug_iconst dX7_playAfternoon_16 un_iconst_0 ?_
  refine ug_istore [(4, .int 0), (0, .ref (ue_d E 0)), (1, .int x1), (2, .int x2), (3, .int x3)] dX7_playAfternoon_17 (Nat.le_of_ble_eq_true rfl) rfl ?_
  refine ug_sub [(0, .ref (ue_d E 0)), (2, .int x2), (3, .int x3), (4, .int 0)] [1, 3, 4, 0] rfl ?_
  exact t_X7_playAfternoon_b19  UF (um_w m1 0 14 x1) x2 x3 0 _ h
theorem c_X7_playAfternoon {l : Launch} {E : Ue} {mem : Um} {x1 : Int32} {x2 : Int32} {x3 : Int32} {m1 : Um} {r : Unit} (h : f_X7_playAfternoon  mem x1 x2 x3 = some (m1, r)) : ucr l E 6 0 0 yX7_playAfternoon cX7_playAfternoon 8 none [.ref (ue_d E 0), .int x1, .int x2, .int x3] mem none m1 := ucr_of rfl (Nat.le_of_ble_eq_true rfl) (t_X7_playAfternoon  mem x1 x2 x3 _ h)
-- X7_afternoon
def f_X7_afternoon (mem : Um) (x1 : Int32) (x2 : Int32) (x3 : Int32) (x4 : Int32) : Option (Um × (Int32 ⊕ String)) :=
  ubx (f_X7_needAfternoon mem x2 x3) (fun m1 r2 => ubx (f_X7_need m1 x4 0 3) (fun m5 r6 => ubi (f_X7_playAfternoon m5 x1 x2 x3) (fun m9 r10 => if x4 = 0 then (ubi (f_X4_holders 25 m9) (fun m13 r14 => some (m13, .inl r14))) else (if x4 = 1 then (some (m9, .inl ((m9 26 1) - (m9 24 1)))) else (if x4 = 2 then (some (m9, .inl ((m9 26 2) - (m9 24 2)))) else (ubi (f_X4_worthHad 25 m9) (fun m18 r19 => some (m18, .inl r19))))))))
set_option maxRecDepth 20000 in
theorem t_X7_afternoon {l : Launch} {E : Ue} (mem : Um) (x1 : Int32) (x2 : Int32) (x3 : Int32) (x4 : Int32) (z : Um × (Int32 ⊕ String)) (h : f_X7_afternoon  mem x1 x2 x3 x4 = some z) : ug l E 8 (uzc z) (uzs z) cX7_afternoon 5 RX7 (some .int) [] (uzx_i z) 0 0 0 [(0, .ref (ue_d E 0)), (1, .int x1), (2, .int x2), (3, .int x3), (4, .int x4)] [] mem := by
  rw [f_X7_afternoon] at h
  refine ug_aload_n 0 dX7_afternoon_0 rfl rfl ?_
  refine ug_iload_n 2 dX7_afternoon_1 rfl rfl ?_
  refine ug_iload_n 3 dX7_afternoon_2 rfl rfl ?_
  rcases ubx_some h with ⟨m1, r2, h3, h⟩ | ⟨m1, X4, h3, rfl⟩
  · refine ug_callVv [.int x2, .int x3] (c_X7_needAfternoon_r  h3) kc_X7_347 ro_0 rfl (S := []) rfl (Nat.le_of_ble_eq_true rfl) (Nat.le_of_ble_eq_true rfl) (Nat.le_of_ble_eq_true rfl) dX7_afternoon_3 ?_
    refine ug_aload_n 0 dX7_afternoon_6 rfl rfl ?_
    refine ug_iload 4 dX7_afternoon_7 rfl ?_
    refine ug_iconst dX7_afternoon_9 un_iconst_0 ?_
    refine ug_iconst dX7_afternoon_10 un_iconst_3 ?_
    rcases ubx_some h with ⟨m5, r6, h7, h⟩ | ⟨m5, X8, h7, rfl⟩
    · refine ug_callVv [.int x4, .int 0, .int 3] (c_X7_need_r  h7) kc_X7_102 ro_0 rfl (S := []) rfl (Nat.le_of_ble_eq_true rfl) (Nat.le_of_ble_eq_true rfl) (Nat.le_of_ble_eq_true rfl) dX7_afternoon_11 ?_
      refine ug_aload_n 0 dX7_afternoon_14 rfl rfl ?_
      refine ug_iload_n 1 dX7_afternoon_15 rfl rfl ?_
      refine ug_iload_n 2 dX7_afternoon_16 rfl rfl ?_
      refine ug_iload_n 3 dX7_afternoon_17 rfl rfl ?_
      obtain ⟨m9, r10, h11, h⟩ := ubi_some h
      refine ug_callVv [.int x1, .int x2, .int x3] (c_X7_playAfternoon  h11) kc_X7_351 ro_0 rfl (S := []) rfl (Nat.le_of_ble_eq_true rfl) (Nat.le_of_ble_eq_true rfl) (Nat.le_of_ble_eq_true rfl) dX7_afternoon_18 ?_
      refine ug_iload 4 dX7_afternoon_21 rfl ?_
      by_cases q12 : x4 = 0
      · rw [if_pos q12] at h
        refine ug_tswI 48 dX7_afternoon_23 (by rw [q12]; decide) (by rw [q12]; decide) (by rw [q12]; rfl) (by decide) ?_
        refine ug_aload_n 0 dX7_afternoon_48 rfl rfl ?_
        refine ug_getR kf_X7_58 gr_0_7 dX7_afternoon_49 ?_
        obtain ⟨m13, r14, h15, h⟩ := ubi_some h
        refine ug_callVi [] (c_X4_holders (Or.inr rfl) h15) kc_X7_181 ro_25 rfl (S := []) rfl (Nat.le_of_ble_eq_true rfl) (Nat.le_of_ble_eq_true rfl) (Nat.le_of_ble_eq_true rfl) dX7_afternoon_52 ?_
        obtain rfl := Option.some.inj h
        exact ug_iret dX7_afternoon_55
      · rw [if_neg q12] at h
        by_cases q16 : x4 = 1
        · rw [if_pos q16] at h
          refine ug_tswI 56 dX7_afternoon_23 (by rw [q16]; decide) (by rw [q16]; decide) (by rw [q16]; rfl) (by decide) ?_
          refine ug_aload_n 0 dX7_afternoon_56 rfl rfl ?_
          refine ug_getR kf_X7_58 gr_0_7 dX7_afternoon_57 ?_
          refine ug_getR kf_X7_144 gr_25_2 dX7_afternoon_60 ?_
          refine ug_iconst dX7_afternoon_63 un_iconst_1 ?_
          refine ug_ialdK al_26 ui_1_28 uc_1 dX7_afternoon_64 ?_
          refine ug_aload_n 0 dX7_afternoon_65 rfl rfl ?_
          refine ug_getR kf_X7_54 gr_0_6 dX7_afternoon_66 ?_
          refine ug_getR kf_X7_144 gr_23_2 dX7_afternoon_69 ?_
          refine ug_iconst dX7_afternoon_72 un_iconst_1 ?_
          refine ug_ialdK al_24 ui_1_28 uc_1 dX7_afternoon_73 ?_
          refine ug_isub dX7_afternoon_74 ?_
          obtain rfl := Option.some.inj h
          exact ug_iret dX7_afternoon_75
        · rw [if_neg q16] at h
          by_cases q17 : x4 = 2
          · rw [if_pos q17] at h
            refine ug_tswI 76 dX7_afternoon_23 (by rw [q17]; decide) (by rw [q17]; decide) (by rw [q17]; rfl) (by decide) ?_
            refine ug_aload_n 0 dX7_afternoon_76 rfl rfl ?_
            refine ug_getR kf_X7_58 gr_0_7 dX7_afternoon_77 ?_
            refine ug_getR kf_X7_144 gr_25_2 dX7_afternoon_80 ?_
            refine ug_iconst dX7_afternoon_83 un_iconst_2 ?_
            refine ug_ialdK al_26 ui_2_28 uc_2 dX7_afternoon_84 ?_
            refine ug_aload_n 0 dX7_afternoon_85 rfl rfl ?_
            refine ug_getR kf_X7_54 gr_0_6 dX7_afternoon_86 ?_
            refine ug_getR kf_X7_144 gr_23_2 dX7_afternoon_89 ?_
            refine ug_iconst dX7_afternoon_92 un_iconst_2 ?_
            refine ug_ialdK al_24 ui_2_28 uc_2 dX7_afternoon_93 ?_
            refine ug_isub dX7_afternoon_94 ?_
            obtain rfl := Option.some.inj h
            exact ug_iret dX7_afternoon_95
          · rw [if_neg q17] at h
            refine ug_tswO 96 dX7_afternoon_23 (utsw_0_2 q12 q16 q17) (by decide) ?_
            refine ug_aload_n 0 dX7_afternoon_96 rfl rfl ?_
            refine ug_getR kf_X7_58 gr_0_7 dX7_afternoon_97 ?_
            obtain ⟨m18, r19, h20, h⟩ := ubi_some h
            refine ug_callVi [] (c_X4_worthHad (Or.inr rfl) h20) kc_X7_187 ro_25 rfl (S := []) rfl (Nat.le_of_ble_eq_true rfl) (Nat.le_of_ble_eq_true rfl) (Nat.le_of_ble_eq_true rfl) dX7_afternoon_100 ?_
            obtain rfl := Option.some.inj h
            exact ug_iret dX7_afternoon_103
    · exact ug_callVx [.int x4, .int 0, .int 3] (c_X7_need_x  h7) kc_X7_102 ro_0 rfl (S := []) rfl (Nat.le_of_ble_eq_true rfl) (Nat.le_of_ble_eq_true rfl) (Nat.le_of_ble_eq_true rfl) ⟨Nat.le_refl 1, Nat.le_refl 6⟩ dX7_afternoon_11
  · exact ug_callVx [.int x2, .int x3] (c_X7_needAfternoon_x  h3) kc_X7_347 ro_0 rfl (S := []) rfl (Nat.le_of_ble_eq_true rfl) (Nat.le_of_ble_eq_true rfl) (Nat.le_of_ble_eq_true rfl) ⟨Nat.le_refl 1, Nat.le_refl 6⟩ dX7_afternoon_3
theorem c_X7_afternoon_r {l : Launch} {E : Ue} {mem : Um} {x1 : Int32} {x2 : Int32} {x3 : Int32} {x4 : Int32} {m1 : Um} {r : Int32} (h : f_X7_afternoon  mem x1 x2 x3 x4 = some (m1, .inl r)) : ucr l E 8 0 0 yX7_afternoon cX7_afternoon 5 (some .int) [.ref (ue_d E 0), .int x1, .int x2, .int x3, .int x4] mem (some (.int r)) m1 := ucr_of rfl (Nat.le_of_ble_eq_true rfl) (t_X7_afternoon  mem x1 x2 x3 x4 _ h)
theorem c_X7_afternoon_x {l : Launch} {E : Ue} {mem : Um} {x1 : Int32} {x2 : Int32} {x3 : Int32} {x4 : Int32} {m1 : Um} {X : String} (h : f_X7_afternoon  mem x1 x2 x3 x4 = some (m1, .inr X)) : ucx l E 8 1 6 yX7_afternoon cX7_afternoon 5 (some .int) [.ref (ue_d E 0), .int x1, .int x2, .int x3, .int x4] mem X m1 := ucx_of rfl (Nat.le_of_ble_eq_true rfl) (t_X7_afternoon  mem x1 x2 x3 x4 _ h)
-- X7_span
def f_X7_span_b158 (mem : Um) (y0 : Int32) : Option (Um × (Int32 ⊕ String)) :=
  some (mem, .inl y0)
set_option maxRecDepth 20000 in
theorem t_X7_span_b158 {l : Launch} {E : Ue} (mem : Um) (y0 : Int32) (z : Um × (Int32 ⊕ String)) (h : f_X7_span_b158  mem y0 = some z) : ug l E 8 (uzc z) (uzs z) cX7_span 12 RX7 (some .int) [] (uzx_i z) 0 0 158 [] [.int y0] mem := by
  rw [f_X7_span_b158] at h
  obtain rfl := Option.some.inj h
  exact ug_iret dX7_span_158
def f_X7_span_b128 (k53 : Um → Int32 → Int32 → Int32 → Int32 → Int32 → Int32 → Int32 → Int32 → Int32 → Int32 → Option (Um × (Int32 ⊕ String))) (mem : Um) (x1 : Int32) (x2 : Int32) (x3 : Int32) (x4 : Int32) (x5 : Int32) (x6 : Int32) (x7 : Int32) (x8 : Int32) (x10 : Int32) (y0 : Int32) (y1 : Int32) : Option (Um × (Int32 ⊕ String)) :=
  k53 mem x1 x2 x3 x4 x5 x6 x7 x8 (y1 + y0) (x10 + 1)
set_option maxRecDepth 20000 in
theorem t_X7_span_b128 {l : Launch} {E : Ue} (k53 : Um → Int32 → Int32 → Int32 → Int32 → Int32 → Int32 → Int32 → Int32 → Int32 → Int32 → Option (Um × (Int32 ⊕ String))) (hk53 : ∀ (mem : Um) (x1 : Int32) (x2 : Int32) (x3 : Int32) (x4 : Int32) (x5 : Int32) (x6 : Int32) (x7 : Int32) (x8 : Int32) (x9 : Int32) (x10 : Int32) (z : Um × (Int32 ⊕ String)), k53 mem x1 x2 x3 x4 x5 x6 x7 x8 x9 x10 = some z → ug l E 8 (uzc z) (uzs z) cX7_span 12 RX7 (some .int) [] (uzx_i z) 0 0 53 [(0, .ref (ue_d E 0)), (1, .int x1), (2, .int x2), (3, .int x3), (4, .int x4), (5, .int x5), (6, .int x6), (7, .int x7), (8, .int x8), (9, .int x9), (10, .int x10)] [] mem) (mem : Um) (x1 : Int32) (x2 : Int32) (x3 : Int32) (x4 : Int32) (x5 : Int32) (x6 : Int32) (x7 : Int32) (x8 : Int32) (x10 : Int32) (y0 : Int32) (y1 : Int32) (z : Um × (Int32 ⊕ String)) (h : f_X7_span_b128 k53 mem x1 x2 x3 x4 x5 x6 x7 x8 x10 y0 y1 = some z) : ug l E 8 (uzc z) (uzs z) cX7_span 12 RX7 (some .int) [] (uzx_i z) 0 0 128 [(0, .ref (ue_d E 0)), (1, .int x1), (2, .int x2), (3, .int x3), (4, .int x4), (5, .int x5), (6, .int x6), (7, .int x7), (8, .int x8), (10, .int x10)] [.int y0, .int y1] mem := by
  rw [f_X7_span_b128] at h
  refine ug_iadd dX7_span_128 ?_
  refine ug_istore [(9, .int (y1 + y0)), (0, .ref (ue_d E 0)), (1, .int x1), (2, .int x2), (3, .int x3), (4, .int x4), (5, .int x5), (6, .int x6), (7, .int x7), (8, .int x8), (10, .int x10)] dX7_span_129 (Nat.le_of_ble_eq_true rfl) rfl ?_
  refine ug_iinc (v := (x10 + 1)) [(10, .int (x10 + 1)), (9, .int (y1 + y0)), (0, .ref (ue_d E 0)), (1, .int x1), (2, .int x2), (3, .int x3), (4, .int x4), (5, .int x5), (6, .int x6), (7, .int x7), (8, .int x8)] 10 dX7_span_131 rfl rfl (Nat.le_of_ble_eq_true rfl) rfl ?_
  refine ug_goto 53 dX7_span_134 (by decide) ?_
  refine ug_sub [(0, .ref (ue_d E 0)), (1, .int x1), (2, .int x2), (3, .int x3), (4, .int x4), (5, .int x5), (6, .int x6), (7, .int x7), (8, .int x8), (9, .int (y1 + y0)), (10, .int (x10 + 1))] [2, 3, 4, 5, 6, 7, 8, 9, 10, 1, 0] rfl ?_
  exact hk53 mem x1 x2 x3 x4 x5 x6 x7 x8 (y1 + y0) (x10 + 1) _ h
def f_X7_span_b53 : Nat → Um → Int32 → Int32 → Int32 → Int32 → Int32 → Int32 → Int32 → Int32 → Int32 → Int32 → Option (Um × (Int32 ⊕ String))
  | 0, _, _, _, _, _, _, _, _, _, _, _ => none
  | n + 1, mem, x1, x2, x3, x4, x5, x6, x7, x8, x9, x10 =>
    if x2 ≤ x10 then (if x5 = 0 then (some (mem, .inl x7)) else (if x5 = 1 then (f_X7_span_b158 mem x8) else (f_X7_span_b158 mem x9))) else (ubi (f_X7_playAfternoon mem (x1 + x10) x3 x4) (fun m4 r5 => ubi (f_X4_has 25 m4 x6) (fun m7 r8 => if r8 = 0 then (f_X7_span_b128 (f_X7_span_b53  n) m7 x1 x2 x3 x4 x5 x6 (ummin x7 ((m4 26 2) - (m4 24 2))) (ummax x8 ((m4 26 2) - (m4 24 2))) x10 0 x9) else (f_X7_span_b128 (f_X7_span_b53  n) m7 x1 x2 x3 x4 x5 x6 (ummin x7 ((m4 26 2) - (m4 24 2))) (ummax x8 ((m4 26 2) - (m4 24 2))) x10 1 x9))))
set_option maxRecDepth 20000 in
theorem t_X7_span_b53 {l : Launch} {E : Ue} : ∀ (n : Nat) (mem : Um) (x1 : Int32) (x2 : Int32) (x3 : Int32) (x4 : Int32) (x5 : Int32) (x6 : Int32) (x7 : Int32) (x8 : Int32) (x9 : Int32) (x10 : Int32) (z : Um × (Int32 ⊕ String)), f_X7_span_b53  n mem x1 x2 x3 x4 x5 x6 x7 x8 x9 x10 = some z → ug l E 8 (uzc z) (uzs z) cX7_span 12 RX7 (some .int) [] (uzx_i z) 0 0 53 [(0, .ref (ue_d E 0)), (1, .int x1), (2, .int x2), (3, .int x3), (4, .int x4), (5, .int x5), (6, .int x6), (7, .int x7), (8, .int x8), (9, .int x9), (10, .int x10)] [] mem := by
  intro n
  induction n with
  | zero =>
    intro mem x1 x2 x3 x4 x5 x6 x7 x8 x9 x10 z h
    rw [f_X7_span_b53] at h
    cases h
  | succ n ih =>
    intro mem x1 x2 x3 x4 x5 x6 x7 x8 x9 x10 z h
    rw [f_X7_span_b53] at h
    refine ug_iload 10 dX7_span_53 rfl ?_
    refine ug_iload_n 2 dX7_span_55 rfl rfl ?_
    refine ug_icmp_ge 137 dX7_span_56 (by decide) (fun q1 => ?_) (fun q1 => ?_)
    · rw [if_pos q1] at h
      refine ug_iload 5 dX7_span_137 rfl ?_
      refine ug_if_ne 145 dX7_span_139 (by decide) (fun q2 => ?_) (fun q2 => ?_)
      · rw [if_neg q2] at h
        refine ug_iload 5 dX7_span_145 rfl ?_
        refine ug_iconst dX7_span_147 un_iconst_1 ?_
        refine ug_icmp_ne 156 dX7_span_148 (by decide) (fun q3 => ?_) (fun q3 => ?_)
        · rw [if_neg q3] at h
          refine ug_iload 9 dX7_span_156 rfl ?_
          refine ug_sub [] [] rfl ?_
          exact t_X7_span_b158 mem x9 _ h
        · rw [if_pos q3] at h
          refine ug_iload 8 dX7_span_151 rfl ?_
          refine ug_goto 158 dX7_span_153 (by decide) ?_
          refine ug_sub [] [] rfl ?_
          exact t_X7_span_b158 mem x8 _ h
      · rw [if_pos q2] at h
        refine ug_iload 7 dX7_span_142 rfl ?_
        obtain rfl := Option.some.inj h
        exact ug_iret dX7_span_144
    · rw [if_neg q1] at h
      refine ug_aload_n 0 dX7_span_59 rfl rfl ?_
      refine ug_iload_n 1 dX7_span_60 rfl rfl ?_
      refine ug_iload 10 dX7_span_61 rfl ?_
      refine ug_iadd dX7_span_63 ?_
      refine ug_iload_n 3 dX7_span_64 rfl rfl ?_
      refine ug_iload 4 dX7_span_65 rfl ?_
      obtain ⟨m4, r5, h6, h⟩ := ubi_some h
      refine ug_callVv [.int (x1 + x10), .int x3, .int x4] (c_X7_playAfternoon  h6) kc_X7_351 ro_0 rfl (S := []) rfl (Nat.le_of_ble_eq_true rfl) (Nat.le_of_ble_eq_true rfl) (Nat.le_of_ble_eq_true rfl) dX7_span_67 ?_
      refine ug_aload_n 0 dX7_span_70 rfl rfl ?_
      refine ug_getR kf_X7_58 gr_0_7 dX7_span_71 ?_
      refine ug_getR kf_X7_144 gr_25_2 dX7_span_74 ?_
      refine ug_iconst dX7_span_77 un_iconst_2 ?_
      refine ug_ialdK al_26 ui_2_28 uc_2 dX7_span_78 ?_
      refine ug_aload_n 0 dX7_span_79 rfl rfl ?_
      refine ug_getR kf_X7_54 gr_0_6 dX7_span_80 ?_
      refine ug_getR kf_X7_144 gr_23_2 dX7_span_83 ?_
      refine ug_iconst dX7_span_86 un_iconst_2 ?_
      refine ug_ialdK al_24 ui_2_28 uc_2 dX7_span_87 ?_
      refine ug_isub dX7_span_88 ?_
      refine ug_istore [(11, .int ((m4 26 2) - (m4 24 2))), (0, .ref (ue_d E 0)), (1, .int x1), (2, .int x2), (3, .int x3), (4, .int x4), (5, .int x5), (6, .int x6), (7, .int x7), (8, .int x8), (9, .int x9), (10, .int x10)] dX7_span_89 (Nat.le_of_ble_eq_true rfl) rfl ?_
      refine ug_iload 8 dX7_span_91 rfl ?_
      refine ug_iload 0 dX7_span_93 rfl ?_
      refine ug_mmin kl_X7_134 (Nat.le_of_ble_eq_true rfl) (Nat.le_of_ble_eq_true rfl) dX7_span_95 ?_
      refine ug_istore [(7, .int (ummin x7 ((m4 26 2) - (m4 24 2)))), (11, .int ((m4 26 2) - (m4 24 2))), (0, .ref (ue_d E 0)), (1, .int x1), (2, .int x2), (3, .int x3), (4, .int x4), (5, .int x5), (6, .int x6), (8, .int x8), (9, .int x9), (10, .int x10)] dX7_span_98 (Nat.le_of_ble_eq_true rfl) rfl ?_
      refine ug_iload 9 dX7_span_100 rfl ?_
      refine ug_iload 1 dX7_span_102 rfl ?_
      refine ug_mmax kl_X7_273 (Nat.le_of_ble_eq_true rfl) (Nat.le_of_ble_eq_true rfl) dX7_span_104 ?_
      refine ug_istore [(8, .int (ummax x8 ((m4 26 2) - (m4 24 2)))), (7, .int (ummin x7 ((m4 26 2) - (m4 24 2)))), (11, .int ((m4 26 2) - (m4 24 2))), (0, .ref (ue_d E 0)), (1, .int x1), (2, .int x2), (3, .int x3), (4, .int x4), (5, .int x5), (6, .int x6), (9, .int x9), (10, .int x10)] dX7_span_107 (Nat.le_of_ble_eq_true rfl) rfl ?_
      refine ug_iload 10 dX7_span_109 rfl ?_
      refine ug_aload_n 3 dX7_span_111 rfl rfl ?_
      refine ug_getR kf_X7_58 gr_0_7 dX7_span_112 ?_
      refine ug_iload 9 dX7_span_115 rfl ?_
      obtain ⟨m7, r8, h9, h⟩ := ubi_some h
      refine ug_callVi [.int x6] (c_X4_has (Or.inr rfl) h9) kc_X7_215 ro_25 rfl (S := [.int x9]) rfl (Nat.le_of_ble_eq_true rfl) (Nat.le_of_ble_eq_true rfl) (Nat.le_of_ble_eq_true rfl) dX7_span_117 ?_
      refine ug_if_eq 127 dX7_span_120 (by decide) (fun q10 => ?_) (fun q10 => ?_)
      · rw [if_pos q10] at h
        refine ug_iconst dX7_span_127 un_iconst_0 ?_
        refine ug_sub [(0, .ref (ue_d E 0)), (1, .int x1), (2, .int x2), (3, .int x3), (4, .int x4), (5, .int x5), (6, .int x6), (7, .int (ummin x7 ((m4 26 2) - (m4 24 2)))), (8, .int (ummax x8 ((m4 26 2) - (m4 24 2)))), (10, .int x10)] [3, 4, 5, 6, 7, 8, 9, 1, 0, 11] rfl ?_
        exact t_X7_span_b128 (f_X7_span_b53  n) ih m7 x1 x2 x3 x4 x5 x6 (ummin x7 ((m4 26 2) - (m4 24 2))) (ummax x8 ((m4 26 2) - (m4 24 2))) x10 0 x9 _ h
      · rw [if_neg q10] at h
        refine ug_iconst dX7_span_123 un_iconst_1 ?_
        refine ug_goto 128 dX7_span_124 (by decide) ?_
        refine ug_sub [(0, .ref (ue_d E 0)), (1, .int x1), (2, .int x2), (3, .int x3), (4, .int x4), (5, .int x5), (6, .int x6), (7, .int (ummin x7 ((m4 26 2) - (m4 24 2)))), (8, .int (ummax x8 ((m4 26 2) - (m4 24 2)))), (10, .int x10)] [3, 4, 5, 6, 7, 8, 9, 1, 0, 11] rfl ?_
        exact t_X7_span_b128 (f_X7_span_b53  n) ih m7 x1 x2 x3 x4 x5 x6 (ummin x7 ((m4 26 2) - (m4 24 2))) (ummax x8 ((m4 26 2) - (m4 24 2))) x10 1 x9 _ h
def f_X7_span (mem : Um) (x1 : Int32) (x2 : Int32) (x3 : Int32) (x4 : Int32) (x5 : Int32) (x6 : Int32) : Option (Um × (Int32 ⊕ String)) :=
  ubx (f_X7_need mem x2 1 10) (fun m1 r2 => ubx (f_X7_needAfternoon m1 x3 x4) (fun m5 r6 => ubx (f_X7_need m5 x5 0 2) (fun m9 r10 => ubx (f_X7_need m9 x6 0 ((m9 3 1) - 1)) (fun m13 r14 => f_X7_span_b53  UF m13 x1 x2 x3 x4 x5 x6 2147483647 0 0 0))))
set_option maxRecDepth 20000 in
theorem t_X7_span {l : Launch} {E : Ue} (mem : Um) (x1 : Int32) (x2 : Int32) (x3 : Int32) (x4 : Int32) (x5 : Int32) (x6 : Int32) (z : Um × (Int32 ⊕ String)) (h : f_X7_span  mem x1 x2 x3 x4 x5 x6 = some z) : ug l E 8 (uzc z) (uzs z) cX7_span 12 RX7 (some .int) [] (uzx_i z) 0 0 0 [(0, .ref (ue_d E 0)), (1, .int x1), (2, .int x2), (3, .int x3), (4, .int x4), (5, .int x5), (6, .int x6)] [] mem := by
  rw [f_X7_span] at h
  refine ug_aload_n 0 dX7_span_0 rfl rfl ?_
  refine ug_iload_n 2 dX7_span_1 rfl rfl ?_
  refine ug_iconst dX7_span_2 un_iconst_1 ?_
  refine ug_bipush dX7_span_3 un_bipush_10 ?_
  rcases ubx_some h with ⟨m1, r2, h3, h⟩ | ⟨m1, X4, h3, rfl⟩
  · refine ug_callVv [.int x2, .int 1, .int 10] (c_X7_need_r  h3) kc_X7_102 ro_0 rfl (S := []) rfl (Nat.le_of_ble_eq_true rfl) (Nat.le_of_ble_eq_true rfl) (Nat.le_of_ble_eq_true rfl) dX7_span_5 ?_
    refine ug_aload_n 0 dX7_span_8 rfl rfl ?_
    refine ug_iload_n 3 dX7_span_9 rfl rfl ?_
    refine ug_iload 4 dX7_span_10 rfl ?_
    rcases ubx_some h with ⟨m5, r6, h7, h⟩ | ⟨m5, X8, h7, rfl⟩
    · refine ug_callVv [.int x3, .int x4] (c_X7_needAfternoon_r  h7) kc_X7_347 ro_0 rfl (S := []) rfl (Nat.le_of_ble_eq_true rfl) (Nat.le_of_ble_eq_true rfl) (Nat.le_of_ble_eq_true rfl) dX7_span_12 ?_
      refine ug_aload_n 0 dX7_span_15 rfl rfl ?_
      refine ug_iload 5 dX7_span_16 rfl ?_
      refine ug_iconst dX7_span_18 un_iconst_0 ?_
      refine ug_iconst dX7_span_19 un_iconst_2 ?_
      rcases ubx_some h with ⟨m9, r10, h11, h⟩ | ⟨m9, X12, h11, rfl⟩
      · refine ug_callVv [.int x5, .int 0, .int 2] (c_X7_need_r  h11) kc_X7_102 ro_0 rfl (S := []) rfl (Nat.le_of_ble_eq_true rfl) (Nat.le_of_ble_eq_true rfl) (Nat.le_of_ble_eq_true rfl) dX7_span_20 ?_
        refine ug_aload_n 0 dX7_span_23 rfl rfl ?_
        refine ug_iload 6 dX7_span_24 rfl ?_
        refine ug_iconst dX7_span_26 un_iconst_0 ?_
        refine ug_aload_n 0 dX7_span_27 rfl rfl ?_
        refine ug_getR kf_X7_21 gr_0_1 dX7_span_28 ?_
        refine ug_getI kf_X7_131 gi_3_1 dX7_span_31 ?_
        refine ug_iconst dX7_span_34 un_iconst_1 ?_
        refine ug_isub dX7_span_35 ?_
        rcases ubx_some h with ⟨m13, r14, h15, h⟩ | ⟨m13, X16, h15, rfl⟩
        · refine ug_callVv [.int x6, .int 0, .int ((m9 3 1) - 1)] (c_X7_need_r  h15) kc_X7_102 ro_0 rfl (S := []) rfl (Nat.le_of_ble_eq_true rfl) (Nat.le_of_ble_eq_true rfl) (Nat.le_of_ble_eq_true rfl) dX7_span_36 ?_
          refine ug_ldcw kk_X7_262 dX7_span_39 ?_
          refine ug_istore [(7, .int 2147483647), (0, .ref (ue_d E 0)), (1, .int x1), (2, .int x2), (3, .int x3), (4, .int x4), (5, .int x5), (6, .int x6)] dX7_span_42 (Nat.le_of_ble_eq_true rfl) rfl ?_
          refine ug_iconst dX7_span_44 un_iconst_0 ?_
          refine ug_istore [(8, .int 0), (7, .int 2147483647), (0, .ref (ue_d E 0)), (1, .int x1), (2, .int x2), (3, .int x3), (4, .int x4), (5, .int x5), (6, .int x6)] dX7_span_45 (Nat.le_of_ble_eq_true rfl) rfl ?_
          refine ug_iconst dX7_span_47 un_iconst_0 ?_
          refine ug_istore [(9, .int 0), (8, .int 0), (7, .int 2147483647), (0, .ref (ue_d E 0)), (1, .int x1), (2, .int x2), (3, .int x3), (4, .int x4), (5, .int x5), (6, .int x6)] dX7_span_48 (Nat.le_of_ble_eq_true rfl) rfl ?_
          refine ug_iconst dX7_span_50 un_iconst_0 ?_
          refine ug_istore [(10, .int 0), (9, .int 0), (8, .int 0), (7, .int 2147483647), (0, .ref (ue_d E 0)), (1, .int x1), (2, .int x2), (3, .int x3), (4, .int x4), (5, .int x5), (6, .int x6)] dX7_span_51 (Nat.le_of_ble_eq_true rfl) rfl ?_
          refine ug_sub [(0, .ref (ue_d E 0)), (1, .int x1), (2, .int x2), (3, .int x3), (4, .int x4), (5, .int x5), (6, .int x6), (7, .int 2147483647), (8, .int 0), (9, .int 0), (10, .int 0)] [4, 5, 6, 7, 8, 9, 10, 3, 2, 1, 0] rfl ?_
          exact t_X7_span_b53  UF m13 x1 x2 x3 x4 x5 x6 2147483647 0 0 0 _ h
        · exact ug_callVx [.int x6, .int 0, .int ((m9 3 1) - 1)] (c_X7_need_x  h15) kc_X7_102 ro_0 rfl (S := []) rfl (Nat.le_of_ble_eq_true rfl) (Nat.le_of_ble_eq_true rfl) (Nat.le_of_ble_eq_true rfl) ⟨Nat.le_refl 1, Nat.le_refl 6⟩ dX7_span_36
      · exact ug_callVx [.int x5, .int 0, .int 2] (c_X7_need_x  h11) kc_X7_102 ro_0 rfl (S := []) rfl (Nat.le_of_ble_eq_true rfl) (Nat.le_of_ble_eq_true rfl) (Nat.le_of_ble_eq_true rfl) ⟨Nat.le_refl 1, Nat.le_refl 6⟩ dX7_span_20
    · exact ug_callVx [.int x3, .int x4] (c_X7_needAfternoon_x  h7) kc_X7_347 ro_0 rfl (S := []) rfl (Nat.le_of_ble_eq_true rfl) (Nat.le_of_ble_eq_true rfl) (Nat.le_of_ble_eq_true rfl) ⟨Nat.le_refl 1, Nat.le_refl 6⟩ dX7_span_12
  · exact ug_callVx [.int x2, .int 1, .int 10] (c_X7_need_x  h3) kc_X7_102 ro_0 rfl (S := []) rfl (Nat.le_of_ble_eq_true rfl) (Nat.le_of_ble_eq_true rfl) (Nat.le_of_ble_eq_true rfl) ⟨Nat.le_refl 1, Nat.le_refl 6⟩ dX7_span_5
theorem c_X7_span_r {l : Launch} {E : Ue} {mem : Um} {x1 : Int32} {x2 : Int32} {x3 : Int32} {x4 : Int32} {x5 : Int32} {x6 : Int32} {m1 : Um} {r : Int32} (h : f_X7_span  mem x1 x2 x3 x4 x5 x6 = some (m1, .inl r)) : ucr l E 8 0 0 yX7_span cX7_span 12 (some .int) [.ref (ue_d E 0), .int x1, .int x2, .int x3, .int x4, .int x5, .int x6] mem (some (.int r)) m1 := ucr_of rfl (Nat.le_of_ble_eq_true rfl) (t_X7_span  mem x1 x2 x3 x4 x5 x6 _ h)
theorem c_X7_span_x {l : Launch} {E : Ue} {mem : Um} {x1 : Int32} {x2 : Int32} {x3 : Int32} {x4 : Int32} {x5 : Int32} {x6 : Int32} {m1 : Um} {X : String} (h : f_X7_span  mem x1 x2 x3 x4 x5 x6 = some (m1, .inr X)) : ucx l E 8 1 6 yX7_span cX7_span 12 (some .int) [.ref (ue_d E 0), .int x1, .int x2, .int x3, .int x4, .int x5, .int x6] mem X m1 := ucx_of rfl (Nat.le_of_ble_eq_true rfl) (t_X7_span  mem x1 x2 x3 x4 x5 x6 _ h)
