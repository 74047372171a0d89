-- X7_under
def f_X7_under_b26 (k4 : Um → Int32 → Int32 → Option (Um × Int32)) (mem : Um) (x1 : Int32) (x2 : Int32) : Option (Um × Int32) :=
  k4 mem x1 (x2 + 1)
set_option maxRecDepth 20000 in
theorem t_X7_under_b26 {l : Launch} {E : Ue} (k4 : Um → Int32 → Int32 → Option (Um × Int32)) (hk4 : ∀ (mem : Um) (x1 : Int32) (x2 : Int32) (z : Um × Int32), k4 mem x1 x2 = some z → ug l E 4 0 0 cX7_under 3 RX7 (some .int) [] (uz_i z) 0 0 4 [(0, .ref (ue_d E 0)), (1, .int x1), (2, .int x2)] [] mem) (mem : Um) (x1 : Int32) (x2 : Int32) (z : Um × Int32) (h : f_X7_under_b26 k4 mem x1 x2 = some z) : ug l E 4 0 0 cX7_under 3 RX7 (some .int) [] (uz_i z) 0 0 26 [(0, .ref (ue_d E 0)), (1, .int x1), (2, .int x2)] [] mem := by
  rw [f_X7_under_b26] at h
  refine ug_iinc (v := (x2 + 1)) [(2, .int (x2 + 1)), (0, .ref (ue_d E 0)), (1, .int x1)] 2 dX7_under_26 rfl rfl (Nat.le_of_ble_eq_true rfl) rfl ?_
  refine ug_goto 4 dX7_under_29 (by decide) ?_
  refine ug_sub [(0, .ref (ue_d E 0)), (1, .int x1), (2, .int (x2 + 1))] [1, 2, 0] rfl ?_
  exact hk4 mem x1 (x2 + 1) _ h
def f_X7_under_b4 : Nat → Um → Int32 → Int32 → Option (Um × Int32)
  | 0, _, _, _ => none
  | n + 1, mem, x1, x2 =>
    if 5 ≤ x2 then (some (mem, x1)) else (ubi (f_X4_canKeep 23 mem x2) (fun m2 r3 => if r3 = 0 then (f_X7_under_b26 (f_X7_under_b4  n) m2 x1 x2) else (f_X7_under_b26 (f_X7_under_b4  n) m2 (x1 ||| (1 <<< (x2 &&& 31))) x2)))
set_option maxRecDepth 20000 in
theorem t_X7_under_b4 {l : Launch} {E : Ue} : ∀ (n : Nat) (mem : Um) (x1 : Int32) (x2 : Int32) (z : Um × Int32), f_X7_under_b4  n mem x1 x2 = some z → ug l E 4 0 0 cX7_under 3 RX7 (some .int) [] (uz_i z) 0 0 4 [(0, .ref (ue_d E 0)), (1, .int x1), (2, .int x2)] [] mem := by
  intro n
  induction n with
  | zero =>
    intro mem x1 x2 z h
    rw [f_X7_under_b4] at h
    cases h
  | succ n ih =>
    intro mem x1 x2 z h
    rw [f_X7_under_b4] at h
    refine ug_iload_n 2 dX7_under_4 rfl rfl ?_
    refine ug_iconst dX7_under_5 un_iconst_5 ?_
    refine ug_icmp_ge 32 dX7_under_6 (by decide) (fun q1 => ?_) (fun q1 => ?_)
    · rw [if_pos q1] at h
      refine ug_iload_n 1 dX7_under_32 rfl rfl ?_
      obtain rfl := Option.some.inj h
      exact ug_iret dX7_under_33
    · rw [if_neg q1] at h
      refine ug_aload_n 0 dX7_under_9 rfl rfl ?_
      refine ug_getR kf_X7_54 gr_0_6 dX7_under_10 ?_
      refine ug_iload_n 2 dX7_under_13 rfl rfl ?_
      obtain ⟨m2, r3, h4, h⟩ := ubi_some h
      refine ug_callVi [.int x2] (c_X4_canKeep (Or.inl rfl) h4) kc_X7_234 ro_23 rfl (S := []) rfl (Nat.le_of_ble_eq_true rfl) (Nat.le_of_ble_eq_true rfl) (Nat.le_of_ble_eq_true rfl) dX7_under_14 ?_
      refine ug_if_eq 26 dX7_under_17 (by decide) (fun q5 => ?_) (fun q5 => ?_)
      · rw [if_pos q5] at h
        exact t_X7_under_b26 (f_X7_under_b4  n) ih m2 x1 x2 _ h
      · rw [if_neg q5] at h
        refine ug_iload_n 1 dX7_under_20 rfl rfl ?_
        refine ug_iconst dX7_under_21 un_iconst_1 ?_
        refine ug_iload_n 2 dX7_under_22 rfl rfl ?_
        refine ug_ishl dX7_under_23 ?_
        refine ug_ior dX7_under_24 ?_
        refine ug_istore_n [(1, .int (x1 ||| (1 <<< (x2 &&& 31)))), (0, .ref (ue_d E 0)), (2, .int x2)] dX7_under_25 rfl (Nat.le_of_ble_eq_true rfl) rfl ?_
        refine ug_sub [(0, .ref (ue_d E 0)), (1, .int (x1 ||| (1 <<< (x2 &&& 31)))), (2, .int x2)] [1, 0, 2] rfl ?_
        exact t_X7_under_b26 (f_X7_under_b4  n) ih m2 (x1 ||| (1 <<< (x2 &&& 31))) x2 _ h
def f_X7_under (mem : Um) : Option (Um × Int32) :=
  f_X7_under_b4  UF mem 0 0
set_option maxRecDepth 20000 in
theorem t_X7_under {l : Launch} {E : Ue} (mem : Um) (z : Um × Int32) (h : f_X7_under  mem  = some z) : ug l E 4 0 0 cX7_under 3 RX7 (some .int) [] (uz_i z) 0 0 0 [(0, .ref (ue_d E 0))] [] mem := by
  rw [f_X7_under] at h
  refine ug_iconst dX7_under_0 un_iconst_0 ?_
  refine ug_istore_n [(1, .int 0), (0, .ref (ue_d E 0))] dX7_under_1 rfl (Nat.le_of_ble_eq_true rfl) rfl ?_
  refine ug_iconst dX7_under_2 un_iconst_0 ?_
  refine ug_istore_n [(2, .int 0), (1, .int 0), (0, .ref (ue_d E 0))] dX7_under_3 rfl (Nat.le_of_ble_eq_true rfl) rfl ?_
  refine ug_sub [(0, .ref (ue_d E 0)), (1, .int 0), (2, .int 0)] [2, 1, 0] rfl ?_
  exact t_X7_under_b4  UF mem 0 0 _ h
theorem c_X7_under {l : Launch} {E : Ue} {mem : Um} {m1 : Um} {r : Int32} (h : f_X7_under  mem  = some (m1, r)) : ucr l E 4 0 0 yX7_under cX7_under 3 (some .int) [.ref (ue_d E 0)] mem (some (.int r)) m1 := ucr_of rfl (Nat.le_of_ble_eq_true rfl) (t_X7_under  mem  _ h)
-- X7_neighbours
def f_X7_neighbours_b29 (k4 : Um → Int32 → Int32 → Int32 → Option (Um × Int32)) (mem : Um) (x1 : Int32) (x2 : Int32) (x3 : Int32) : Option (Um × Int32) :=
  k4 mem x1 x2 (x3 + 1)
set_option maxRecDepth 20000 in
theorem t_X7_neighbours_b29 {l : Launch} {E : Ue} (k4 : Um → Int32 → Int32 → Int32 → Option (Um × Int32)) (hk4 : ∀ (mem : Um) (x1 : Int32) (x2 : Int32) (x3 : Int32) (z : Um × Int32), k4 mem x1 x2 x3 = some z → ug l E 4 0 0 cX7_neighbours 4 RX7 (some .int) [] (uz_i z) 0 0 4 [(0, .ref (ue_d E 0)), (1, .int x1), (2, .int x2), (3, .int x3)] [] mem) (mem : Um) (x1 : Int32) (x2 : Int32) (x3 : Int32) (z : Um × Int32) (h : f_X7_neighbours_b29 k4 mem x1 x2 x3 = some z) : ug l E 4 0 0 cX7_neighbours 4 RX7 (some .int) [] (uz_i z) 0 0 29 [(0, .ref (ue_d E 0)), (1, .int x1), (2, .int x2), (3, .int x3)] [] mem := by
  rw [f_X7_neighbours_b29] at h
  refine ug_iinc (v := (x3 + 1)) [(3, .int (x3 + 1)), (0, .ref (ue_d E 0)), (1, .int x1), (2, .int x2)] 3 dX7_neighbours_29 rfl rfl (Nat.le_of_ble_eq_true rfl) rfl ?_
  refine ug_goto 4 dX7_neighbours_32 (by decide) ?_
  refine ug_sub [(0, .ref (ue_d E 0)), (1, .int x1), (2, .int x2), (3, .int (x3 + 1))] [1, 2, 3, 0] rfl ?_
  exact hk4 mem x1 x2 (x3 + 1) _ h
def f_X7_neighbours_b4 : Nat → Um → Int32 → Int32 → Int32 → Option (Um × Int32)
  | 0, _, _, _, _ => none
  | n + 1, mem, x1, x2, x3 =>
    if 5 ≤ x3 then (some (mem, x2)) else (if ((x1 >>> (x3 &&& 31)) &&& 1) = 1 then (ubi (f_X4_touching 23 mem x3) (fun m3 r4 => f_X7_neighbours_b29 (f_X7_neighbours_b4  n) m3 x1 (x2 ||| r4) x3)) else (f_X7_neighbours_b29 (f_X7_neighbours_b4  n) mem x1 x2 x3))
set_option maxRecDepth 20000 in
theorem t_X7_neighbours_b4 {l : Launch} {E : Ue} : ∀ (n : Nat) (mem : Um) (x1 : Int32) (x2 : Int32) (x3 : Int32) (z : Um × Int32), f_X7_neighbours_b4  n mem x1 x2 x3 = some z → ug l E 4 0 0 cX7_neighbours 4 RX7 (some .int) [] (uz_i z) 0 0 4 [(0, .ref (ue_d E 0)), (1, .int x1), (2, .int x2), (3, .int x3)] [] mem := by
  intro n
  induction n with
  | zero =>
    intro mem x1 x2 x3 z h
    rw [f_X7_neighbours_b4] at h
    cases h
  | succ n ih =>
    intro mem x1 x2 x3 z h
    rw [f_X7_neighbours_b4] at h
    refine ug_iload_n 3 dX7_neighbours_4 rfl rfl ?_
    refine ug_iconst dX7_neighbours_5 un_iconst_5 ?_
    refine ug_icmp_ge 35 dX7_neighbours_6 (by decide) (fun q1 => ?_) (fun q1 => ?_)
    · rw [if_pos q1] at h
      refine ug_iload_n 2 dX7_neighbours_35 rfl rfl ?_
      obtain rfl := Option.some.inj h
      exact ug_iret dX7_neighbours_36
    · rw [if_neg q1] at h
      refine ug_iload_n 1 dX7_neighbours_9 rfl rfl ?_
      refine ug_iload_n 3 dX7_neighbours_10 rfl rfl ?_
      refine ug_ishr dX7_neighbours_11 ?_
      refine ug_iconst dX7_neighbours_12 un_iconst_1 ?_
      refine ug_iand dX7_neighbours_13 ?_
      refine ug_iconst dX7_neighbours_14 un_iconst_1 ?_
      refine ug_icmp_ne 29 dX7_neighbours_15 (by decide) (fun q2 => ?_) (fun q2 => ?_)
      · rw [if_neg q2] at h
        exact t_X7_neighbours_b29 (f_X7_neighbours_b4  n) ih mem x1 x2 x3 _ h
      · rw [if_pos q2] at h
        refine ug_iload_n 2 dX7_neighbours_18 rfl rfl ?_
        refine ug_aload_n 0 dX7_neighbours_19 rfl rfl ?_
        refine ug_getR kf_X7_54 gr_0_6 dX7_neighbours_20 ?_
        refine ug_iload_n 3 dX7_neighbours_23 rfl rfl ?_
        obtain ⟨m3, r4, h5, h⟩ := ubi_some h
        refine ug_callVi [.int x3] (c_X4_touching (Or.inl rfl) h5) kc_X7_225 ro_23 rfl (S := [.int x2]) rfl (Nat.le_of_ble_eq_true rfl) (Nat.le_of_ble_eq_true rfl) (Nat.le_of_ble_eq_true rfl) dX7_neighbours_24 ?_
        refine ug_ior dX7_neighbours_27 ?_
        refine ug_istore_n [(2, .int (x2 ||| r4)), (0, .ref (ue_d E 0)), (1, .int x1), (3, .int x3)] dX7_neighbours_28 rfl (Nat.le_of_ble_eq_true rfl) rfl ?_
        refine ug_sub [(0, .ref (ue_d E 0)), (1, .int x1), (2, .int (x2 ||| r4)), (3, .int x3)] [1, 2, 0, 3] rfl ?_
        exact t_X7_neighbours_b29 (f_X7_neighbours_b4  n) ih m3 x1 (x2 ||| r4) x3 _ h
def f_X7_neighbours (mem : Um) (x1 : Int32) : Option (Um × Int32) :=
  f_X7_neighbours_b4  UF mem x1 0 0
set_option maxRecDepth 20000 in
theorem t_X7_neighbours {l : Launch} {E : Ue} (mem : Um) (x1 : Int32) (z : Um × Int32) (h : f_X7_neighbours  mem x1 = some z) : ug l E 4 0 0 cX7_neighbours 4 RX7 (some .int) [] (uz_i z) 0 0 0 [(0, .ref (ue_d E 0)), (1, .int x1)] [] mem := by
  rw [f_X7_neighbours] at h
  refine ug_iconst dX7_neighbours_0 un_iconst_0 ?_
  refine ug_istore_n [(2, .int 0), (0, .ref (ue_d E 0)), (1, .int x1)] dX7_neighbours_1 rfl (Nat.le_of_ble_eq_true rfl) rfl ?_
  refine ug_iconst dX7_neighbours_2 un_iconst_0 ?_
  refine ug_istore_n [(3, .int 0), (2, .int 0), (0, .ref (ue_d E 0)), (1, .int x1)] dX7_neighbours_3 rfl (Nat.le_of_ble_eq_true rfl) rfl ?_
  refine ug_sub [(0, .ref (ue_d E 0)), (1, .int x1), (2, .int 0), (3, .int 0)] [2, 3, 1, 0] rfl ?_
  exact t_X7_neighbours_b4  UF mem x1 0 0 _ h
theorem c_X7_neighbours {l : Launch} {E : Ue} {mem : Um} {x1 : Int32} {m1 : Um} {r : Int32} (h : f_X7_neighbours  mem x1 = some (m1, r)) : ucr l E 4 0 0 yX7_neighbours cX7_neighbours 4 (some .int) [.ref (ue_d E 0), .int x1] mem (some (.int r)) m1 := ucr_of rfl (Nat.le_of_ble_eq_true rfl) (t_X7_neighbours  mem x1 _ h)
-- X7_terrace
def f_X7_terrace_b26 : Nat → Um → Int32 → Int32 → Option (Um × (Int32 ⊕ String))
  | 0, _, _, _ => none
  | n + 1, mem, x2, x3 =>
    if 5 ≤ x3 then (some (mem, .inl x2)) else (ubi (f_X7_neighbours mem x2) (fun m2 r3 => (f_X7_terrace_b26  n) m2 (x2 ||| r3) (x3 + 1)))
set_option maxRecDepth 20000 in
theorem t_X7_terrace_b26 {l : Launch} {E : Ue} : ∀ (n : Nat) (mem : Um) (x2 : Int32) (x3 : Int32) (z : Um × (Int32 ⊕ String)), f_X7_terrace_b26  n mem x2 x3 = some z → ug l E 7 (uzc z) (uzs z) cX7_terrace 4 RX7 (some .int) [] (uzx_i z) 0 0 26 [(0, .ref (ue_d E 0)), (2, .int x2), (3, .int x3)] [] mem := by
  intro n
  induction n with
  | zero =>
    intro mem x2 x3 z h
    rw [f_X7_terrace_b26] at h
    cases h
  | succ n ih =>
    intro mem x2 x3 z h
    rw [f_X7_terrace_b26] at h
    refine ug_iload_n 2 dX7_terrace_26 rfl rfl ?_
    refine ug_iconst dX7_terrace_27 un_iconst_5 ?_
    refine ug_icmp_ge 45 dX7_terrace_28 (by decide) (fun q1 => ?_) (fun q1 => ?_)
    · rw [if_pos q1] at h
      refine ug_iload_n 1 dX7_terrace_45 rfl rfl ?_
      obtain rfl := Option.some.inj h
      exact ug_iret dX7_terrace_46
    · rw [if_neg q1] at h
      refine ug_iload_n 1 dX7_terrace_31 rfl rfl ?_
      refine ug_aload_n 0 dX7_terrace_32 rfl rfl ?_
      refine ug_iload_n 1 dX7_terrace_33 rfl rfl ?_
      obtain ⟨m2, r3, h4, h⟩ := ubi_some h
      refine ug_callVi [.int x2] (c_X7_neighbours  h4) kc_X7_237 ro_0 rfl (S := [.int x2]) rfl (Nat.le_of_ble_eq_true rfl) (Nat.le_of_ble_eq_true rfl) (Nat.le_of_ble_eq_true rfl) dX7_terrace_34 ?_
      refine ug_ior dX7_terrace_37 ?_
      refine ug_istore_n [(2, .int (x2 ||| r3)), (0, .ref (ue_d E 0)), (3, .int x3)] dX7_terrace_38 rfl (Nat.le_of_ble_eq_true rfl) rfl ?_
      refine ug_iinc (v := (x3 + 1)) [(3, .int (x3 + 1)), (2, .int (x2 ||| r3)), (0, .ref (ue_d E 0))] 2 dX7_terrace_39 rfl rfl (Nat.le_of_ble_eq_true rfl) rfl ?_
      refine ug_goto 26 dX7_terrace_42 (by decide) ?_
      refine ug_sub [(0, .ref (ue_d E 0)), (2, .int (x2 ||| r3)), (3, .int (x3 + 1))] [2, 1, 0] rfl ?_
      exact ih m2 (x2 ||| r3) (x3 + 1) _ h
def f_X7_terrace_b23 (mem : Um) (y0 : Int32) : Option (Um × (Int32 ⊕ String)) :=
  f_X7_terrace_b26  UF mem y0 1
set_option maxRecDepth 20000 in
theorem t_X7_terrace_b23 {l : Launch} {E : Ue} (mem : Um) (y0 : Int32) (z : Um × (Int32 ⊕ String)) (h : f_X7_terrace_b23  mem y0 = some z) : ug l E 7 (uzc z) (uzs z) cX7_terrace 4 RX7 (some .int) [] (uzx_i z) 0 0 23 [(0, .ref (ue_d E 0))] [.int y0] mem := by
  rw [f_X7_terrace_b23] at h
  refine ug_istore_n [(2, .int y0), (0, .ref (ue_d E 0))] dX7_terrace_23 rfl (Nat.le_of_ble_eq_true rfl) rfl ?_
  refine ug_iconst dX7_terrace_24 un_iconst_1 ?_
  refine ug_istore_n [(3, .int 1), (2, .int y0), (0, .ref (ue_d E 0))] dX7_terrace_25 rfl (Nat.le_of_ble_eq_true rfl) rfl ?_
  refine ug_sub [(0, .ref (ue_d E 0)), (2, .int y0), (3, .int 1)] [2, 1, 0] rfl ?_
  exact t_X7_terrace_b26  UF mem y0 1 _ h
def f_X7_terrace (mem : Um) (x1 : Int32) : Option (Um × (Int32 ⊕ String)) :=
  ubx (f_X7_needTenant mem x1) (fun m1 r2 => ubi (f_X4_has 23 m1 x1) (fun m5 r6 => if r6 = 0 then (f_X7_terrace_b23 m5 0) else (f_X7_terrace_b23 m5 (1 <<< (x1 &&& 31)))))
set_option maxRecDepth 20000 in
theorem t_X7_terrace {l : Launch} {E : Ue} (mem : Um) (x1 : Int32) (z : Um × (Int32 ⊕ String)) (h : f_X7_terrace  mem x1 = some z) : ug l E 7 (uzc z) (uzs z) cX7_terrace 4 RX7 (some .int) [] (uzx_i z) 0 0 0 [(0, .ref (ue_d E 0)), (1, .int x1)] [] mem := by
  rw [f_X7_terrace] at h
  refine ug_aload_n 0 dX7_terrace_0 rfl rfl ?_
  refine ug_iload_n 1 dX7_terrace_1 rfl rfl ?_
  rcases ubx_some h with ⟨m1, r2, h3, h⟩ | ⟨m1, X4, h3, rfl⟩
  · refine ug_callVv [.int x1] (c_X7_needTenant_r  h3) kc_X7_212 ro_0 rfl (S := []) rfl (Nat.le_of_ble_eq_true rfl) (Nat.le_of_ble_eq_true rfl) (Nat.le_of_ble_eq_true rfl) dX7_terrace_2 ?_
    refine ug_aload_n 0 dX7_terrace_5 rfl rfl ?_
    refine ug_getR kf_X7_54 gr_0_6 dX7_terrace_6 ?_
    refine ug_iload_n 1 dX7_terrace_9 rfl rfl ?_
    obtain ⟨m5, r6, h7, h⟩ := ubi_some h
    refine ug_callVi [.int x1] (c_X4_has (Or.inl rfl) h7) kc_X7_215 ro_23 rfl (S := []) rfl (Nat.le_of_ble_eq_true rfl) (Nat.le_of_ble_eq_true rfl) (Nat.le_of_ble_eq_true rfl) dX7_terrace_10 ?_
    refine ug_if_eq 22 dX7_terrace_13 (by decide) (fun q8 => ?_) (fun q8 => ?_)
    · rw [if_pos q8] at h
      refine ug_iconst dX7_terrace_22 un_iconst_0 ?_
      refine ug_sub [(0, .ref (ue_d E 0))] [0] rfl ?_
      exact t_X7_terrace_b23 m5 0 _ h
    · rw [if_neg q8] at h
      refine ug_iconst dX7_terrace_16 un_iconst_1 ?_
      refine ug_iload_n 1 dX7_terrace_17 rfl rfl ?_
      refine ug_ishl dX7_terrace_18 ?_
      refine ug_goto 23 dX7_terrace_19 (by decide) ?_
      refine ug_sub [(0, .ref (ue_d E 0))] [0] rfl ?_
      exact t_X7_terrace_b23 m5 (1 <<< (x1 &&& 31)) _ h
  · exact ug_callVx [.int x1] (c_X7_needTenant_x  h3) kc_X7_212 ro_0 rfl (S := []) rfl (Nat.le_of_ble_eq_true rfl) (Nat.le_of_ble_eq_true rfl) (Nat.le_of_ble_eq_true rfl) ⟨Nat.le_refl 1, Nat.le_refl 6⟩ dX7_terrace_2
theorem c_X7_terrace_r {l : Launch} {E : Ue} {mem : Um} {x1 : Int32} {m1 : Um} {r : Int32} (h : f_X7_terrace  mem x1 = some (m1, .inl r)) : ucr l E 7 0 0 yX7_terrace cX7_terrace 4 (some .int) [.ref (ue_d E 0), .int x1] mem (some (.int r)) m1 := ucr_of rfl (Nat.le_of_ble_eq_true rfl) (t_X7_terrace  mem x1 _ h)
theorem c_X7_terrace_x {l : Launch} {E : Ue} {mem : Um} {x1 : Int32} {m1 : Um} {X : String} (h : f_X7_terrace  mem x1 = some (m1, .inr X)) : ucx l E 7 1 6 yX7_terrace cX7_terrace 4 (some .int) [.ref (ue_d E 0), .int x1] mem X m1 := ucx_of rfl (Nat.le_of_ble_eq_true rfl) (t_X7_terrace  mem x1 _ h)
-- X7_overlap
def f_X7_overlap_b61 (mem : Um) (y0 : Int32) : Option (Um × (Int32 ⊕ String)) :=
  some (mem, .inl y0)
set_option maxRecDepth 20000 in
theorem t_X7_overlap_b61 {l : Launch} {E : Ue} (mem : Um) (y0 : Int32) (z : Um × (Int32 ⊕ String)) (h : f_X7_overlap_b61  mem y0 = some z) : ug l E 7 (uzc z) (uzs z) cX7_overlap 4 RX7 (some .int) [] (uzx_i z) 0 0 61 [] [.int y0] mem := by
  rw [f_X7_overlap_b61] at h
  obtain rfl := Option.some.inj h
  exact ug_iret dX7_overlap_61
def f_X7_overlap_b42 (mem : Um) (x1 : Int32) (x2 : Int32) (y0 : Int32) : Option (Um × (Int32 ⊕ String)) :=
  if y0 = 0 then (f_X7_overlap_b61 mem (-2147483648)) else (ubi (f_X4_overlapOf 23 mem x1 x2) (fun m2 r3 => f_X7_overlap_b61 m2 r3))
set_option maxRecDepth 20000 in
theorem t_X7_overlap_b42 {l : Launch} {E : Ue} (mem : Um) (x1 : Int32) (x2 : Int32) (y0 : Int32) (z : Um × (Int32 ⊕ String)) (h : f_X7_overlap_b42  mem x1 x2 y0 = some z) : ug l E 7 (uzc z) (uzs z) cX7_overlap 4 RX7 (some .int) [] (uzx_i z) 0 0 42 [(0, .ref (ue_d E 0)), (1, .int x1), (2, .int x2)] [.int y0] mem := by
  rw [f_X7_overlap_b42] at h
  refine ug_istore_n [(3, .int y0), (0, .ref (ue_d E 0)), (1, .int x1), (2, .int x2)] dX7_overlap_42 rfl (Nat.le_of_ble_eq_true rfl) rfl ?_
  refine ug_iload_n 0 dX7_overlap_43 rfl rfl ?_
  refine ug_if_eq 59 dX7_overlap_44 (by decide) (fun q1 => ?_) (fun q1 => ?_)
  · rw [if_pos q1] at h
    refine ug_ldc kk_X7_243 dX7_overlap_59 ?_
    refine ug_sub [] [] rfl ?_
    exact t_X7_overlap_b61 mem (-2147483648) _ h
  · rw [if_neg q1] at h
    refine ug_aload_n 1 dX7_overlap_47 rfl rfl ?_
    refine ug_getR kf_X7_54 gr_0_6 dX7_overlap_48 ?_
    refine ug_iload_n 2 dX7_overlap_51 rfl rfl ?_
    refine ug_iload_n 3 dX7_overlap_52 rfl rfl ?_
    obtain ⟨m2, r3, h4, h⟩ := ubi_some h
    refine ug_callVi [.int x1, .int x2] (c_X4_overlapOf (Or.inl rfl) h4) kc_X7_240 ro_23 rfl (S := []) rfl (Nat.le_of_ble_eq_true rfl) (Nat.le_of_ble_eq_true rfl) (Nat.le_of_ble_eq_true rfl) dX7_overlap_53 ?_
    refine ug_goto 61 dX7_overlap_56 (by decide) ?_
    refine ug_sub [] [] rfl ?_
    exact t_X7_overlap_b61 m2 r3 _ h
def f_X7_overlap_b41 (mem : Um) (x1 : Int32) (x2 : Int32) : Option (Um × (Int32 ⊕ String)) :=
  f_X7_overlap_b42 mem x1 x2 0
set_option maxRecDepth 20000 in
theorem t_X7_overlap_b41 {l : Launch} {E : Ue} (mem : Um) (x1 : Int32) (x2 : Int32) (z : Um × (Int32 ⊕ String)) (h : f_X7_overlap_b41  mem x1 x2 = some z) : ug l E 7 (uzc z) (uzs z) cX7_overlap 4 RX7 (some .int) [] (uzx_i z) 0 0 41 [(0, .ref (ue_d E 0)), (1, .int x1), (2, .int x2)] [] mem := by
  rw [f_X7_overlap_b41] at h
  refine ug_iconst dX7_overlap_41 un_iconst_0 ?_
  exact t_X7_overlap_b42 mem x1 x2 0 _ h
def f_X7_overlap (mem : Um) (x1 : Int32) (x2 : Int32) : Option (Um × (Int32 ⊕ String)) :=
  ubx (f_X7_needTenant mem x1) (fun m1 r2 => ubx (f_X7_needTenant m1 x2) (fun m5 r6 => if x1 = x2 then (f_X7_overlap_b41 m5 x1 x2) else (ubi (f_X4_has 23 m5 x1) (fun m10 r11 => if r11 = 0 then (f_X7_overlap_b41 m10 x1 x2) else (ubi (f_X4_has 23 m10 x2) (fun m14 r15 => if r15 = 0 then (f_X7_overlap_b41 m14 x1 x2) else (f_X7_overlap_b42 m14 x1 x2 1)))))))
set_option maxRecDepth 20000 in
theorem t_X7_overlap {l : Launch} {E : Ue} (mem : Um) (x1 : Int32) (x2 : Int32) (z : Um × (Int32 ⊕ String)) (h : f_X7_overlap  mem x1 x2 = some z) : ug l E 7 (uzc z) (uzs z) cX7_overlap 4 RX7 (some .int) [] (uzx_i z) 0 0 0 [(0, .ref (ue_d E 0)), (1, .int x1), (2, .int x2)] [] mem := by
  rw [f_X7_overlap] at h
  refine ug_aload_n 0 dX7_overlap_0 rfl rfl ?_
  refine ug_iload_n 1 dX7_overlap_1 rfl rfl ?_
  rcases ubx_some h with ⟨m1, r2, h3, h⟩ | ⟨m1, X4, h3, rfl⟩
  · refine ug_callVv [.int x1] (c_X7_needTenant_r  h3) kc_X7_212 ro_0 rfl (S := []) rfl (Nat.le_of_ble_eq_true rfl) (Nat.le_of_ble_eq_true rfl) (Nat.le_of_ble_eq_true rfl) dX7_overlap_2 ?_
    refine ug_aload_n 0 dX7_overlap_5 rfl rfl ?_
    refine ug_iload_n 2 dX7_overlap_6 rfl rfl ?_
    rcases ubx_some h with ⟨m5, r6, h7, h⟩ | ⟨m5, X8, h7, rfl⟩
    · refine ug_callVv [.int x2] (c_X7_needTenant_r  h7) kc_X7_212 ro_0 rfl (S := []) rfl (Nat.le_of_ble_eq_true rfl) (Nat.le_of_ble_eq_true rfl) (Nat.le_of_ble_eq_true rfl) dX7_overlap_7 ?_
      refine ug_iload_n 1 dX7_overlap_10 rfl rfl ?_
      refine ug_iload_n 2 dX7_overlap_11 rfl rfl ?_
      refine ug_icmp_eq 41 dX7_overlap_12 (by decide) (fun q9 => ?_) (fun q9 => ?_)
      · rw [if_pos q9] at h
        exact t_X7_overlap_b41 m5 x1 x2 _ h
      · rw [if_neg q9] at h
        refine ug_aload_n 0 dX7_overlap_15 rfl rfl ?_
        refine ug_getR kf_X7_54 gr_0_6 dX7_overlap_16 ?_
        refine ug_iload_n 1 dX7_overlap_19 rfl rfl ?_
        obtain ⟨m10, r11, h12, h⟩ := ubi_some h
        refine ug_callVi [.int x1] (c_X4_has (Or.inl rfl) h12) kc_X7_215 ro_23 rfl (S := []) rfl (Nat.le_of_ble_eq_true rfl) (Nat.le_of_ble_eq_true rfl) (Nat.le_of_ble_eq_true rfl) dX7_overlap_20 ?_
        refine ug_if_eq 41 dX7_overlap_23 (by decide) (fun q13 => ?_) (fun q13 => ?_)
        · rw [if_pos q13] at h
          exact t_X7_overlap_b41 m10 x1 x2 _ h
        · rw [if_neg q13] at h
          refine ug_aload_n 0 dX7_overlap_26 rfl rfl ?_
          refine ug_getR kf_X7_54 gr_0_6 dX7_overlap_27 ?_
          refine ug_iload_n 2 dX7_overlap_30 rfl rfl ?_
          obtain ⟨m14, r15, h16, h⟩ := ubi_some h
          refine ug_callVi [.int x2] (c_X4_has (Or.inl rfl) h16) kc_X7_215 ro_23 rfl (S := []) rfl (Nat.le_of_ble_eq_true rfl) (Nat.le_of_ble_eq_true rfl) (Nat.le_of_ble_eq_true rfl) dX7_overlap_31 ?_
          refine ug_if_eq 41 dX7_overlap_34 (by decide) (fun q17 => ?_) (fun q17 => ?_)
          · rw [if_pos q17] at h
            exact t_X7_overlap_b41 m14 x1 x2 _ h
          · rw [if_neg q17] at h
            refine ug_iconst dX7_overlap_37 un_iconst_1 ?_
            refine ug_goto 42 dX7_overlap_38 (by decide) ?_
            exact t_X7_overlap_b42 m14 x1 x2 1 _ h
    · exact ug_callVx [.int x2] (c_X7_needTenant_x  h7) kc_X7_212 ro_0 rfl (S := []) rfl (Nat.le_of_ble_eq_true rfl) (Nat.le_of_ble_eq_true rfl) (Nat.le_of_ble_eq_true rfl) ⟨Nat.le_refl 1, Nat.le_refl 6⟩ dX7_overlap_7
  · exact ug_callVx [.int x1] (c_X7_needTenant_x  h3) kc_X7_212 ro_0 rfl (S := []) rfl (Nat.le_of_ble_eq_true rfl) (Nat.le_of_ble_eq_true rfl) (Nat.le_of_ble_eq_true rfl) ⟨Nat.le_refl 1, Nat.le_refl 6⟩ dX7_overlap_2
theorem c_X7_overlap_r {l : Launch} {E : Ue} {mem : Um} {x1 : Int32} {x2 : Int32} {m1 : Um} {r : Int32} (h : f_X7_overlap  mem x1 x2 = some (m1, .inl r)) : ucr l E 7 0 0 yX7_overlap cX7_overlap 4 (some .int) [.ref (ue_d E 0), .int x1, .int x2] mem (some (.int r)) m1 := ucr_of rfl (Nat.le_of_ble_eq_true rfl) (t_X7_overlap  mem x1 x2 _ h)
theorem c_X7_overlap_x {l : Launch} {E : Ue} {mem : Um} {x1 : Int32} {x2 : Int32} {m1 : Um} {X : String} (h : f_X7_overlap  mem x1 x2 = some (m1, .inr X)) : ucx l E 7 1 6 yX7_overlap cX7_overlap 4 (some .int) [.ref (ue_d E 0), .int x1, .int x2] mem X m1 := ucx_of rfl (Nat.le_of_ble_eq_true rfl) (t_X7_overlap  mem x1 x2 _ h)
-- X7_leastTerms
def f_X7_leastTerms_b65 (mem : Um) (x5 : Int64) (y0 : Int64) : Option (Um × Int64) :=
  ugd (unzl x5) (some (mem, (y0 / x5)))
set_option maxRecDepth 20000 in
theorem t_X7_leastTerms_b65 {l : Launch} {E : Ue} (mem : Um) (x5 : Int64) (y0 : Int64) (z : Um × Int64) (h : f_X7_leastTerms_b65  mem x5 y0 = some z) : ug l E 2 0 0 cX7_leastTerms 12 RX7 (some .long) [] (uz_l z) 0 0 65 [(5, .long x5)] [.long y0] mem := by
  rw [f_X7_leastTerms_b65] at h
  refine ug_lload 0 dX7_leastTerms_65 rfl ?_
  obtain ⟨g1, h⟩ := ugd_some h
  refine ug_ldiv dX7_leastTerms_67 (of_decide_eq_true g1) ?_
  obtain rfl := Option.some.inj h
  exact ug_lret dX7_leastTerms_68
def f_X7_leastTerms_b44 (mem : Um) (x0 : Int64) (x2 : Int64) (x4 : Int32) (x5 : Int64) : Option (Um × Int64) :=
  if (lg_cmp x5 0) = 0 then (some (mem, (-1))) else (if x4 = 0 then (f_X7_leastTerms_b65 mem x5 x0) else (f_X7_leastTerms_b65 mem x5 x2))
set_option maxRecDepth 20000 in
theorem t_X7_leastTerms_b44 {l : Launch} {E : Ue} (mem : Um) (x0 : Int64) (x2 : Int64) (x4 : Int32) (x5 : Int64) (z : Um × Int64) (h : f_X7_leastTerms_b44  mem x0 x2 x4 x5 = some z) : ug l E 2 0 0 cX7_leastTerms 12 RX7 (some .long) [] (uz_l z) 0 0 44 [(0, .long x0), (2, .long x2), (4, .int x4), (5, .long x5)] [] mem := by
  rw [f_X7_leastTerms_b44] at h
  refine ug_lload 3 dX7_leastTerms_44 rfl ?_
  refine ug_lconst (v := 0) dX7_leastTerms_46 (by decide) ?_
  refine ug_lcmp dX7_leastTerms_47 ?_
  refine ug_if_ne 55 dX7_leastTerms_48 (by decide) (fun q1 => ?_) (fun q1 => ?_)
  · rw [if_neg q1] at h
    refine ug_iload 2 dX7_leastTerms_55 rfl ?_
    refine ug_if_ne 64 dX7_leastTerms_57 (by decide) (fun q2 => ?_) (fun q2 => ?_)
    · rw [if_neg q2] at h
      refine ug_lload_n 1 dX7_leastTerms_64 rfl rfl ?_
      refine ug_sub [(5, .long x5)] [3] rfl ?_
      exact t_X7_leastTerms_b65 mem x5 x2 _ h
    · rw [if_pos q2] at h
      refine ug_lload_n 0 dX7_leastTerms_60 rfl rfl ?_
      refine ug_goto 65 dX7_leastTerms_61 (by decide) ?_
      refine ug_sub [(5, .long x5)] [3] rfl ?_
      exact t_X7_leastTerms_b65 mem x5 x0 _ h
  · rw [if_pos q1] at h
    refine ug_ldc2 kk_X7_345 dX7_leastTerms_51 ?_
    obtain rfl := Option.some.inj h
    exact ug_lret dX7_leastTerms_54
def f_X7_leastTerms_b9 : Nat → Um → Int64 → Int64 → Int32 → Int64 → Int64 → Int32 → Option (Um × Int64)
  | 0, _, _, _, _, _, _, _ => none
  | n + 1, mem, x0, x2, x4, x5, x7, x9 =>
    if 100 ≤ x9 then (f_X7_leastTerms_b44 mem x0 x2 x4 x5) else (if (lg_cmp x7 0) = 0 then (f_X7_leastTerms_b44 mem x0 x2 x4 x5) else (ugd (unzl x7) ((f_X7_leastTerms_b9  n) mem x0 x2 x4 x7 (x5 - x5 / x7 * x7) (x9 + 1))))
set_option maxRecDepth 20000 in
theorem t_X7_leastTerms_b9 {l : Launch} {E : Ue} : ∀ (n : Nat) (mem : Um) (x0 : Int64) (x2 : Int64) (x4 : Int32) (x5 : Int64) (x7 : Int64) (x9 : Int32) (z : Um × Int64), f_X7_leastTerms_b9  n mem x0 x2 x4 x5 x7 x9 = some z → ug l E 2 0 0 cX7_leastTerms 12 RX7 (some .long) [] (uz_l z) 0 0 9 [(0, .long x0), (2, .long x2), (4, .int x4), (5, .long x5), (7, .long x7), (9, .int x9)] [] mem := by
  intro n
  induction n with
  | zero =>
    intro mem x0 x2 x4 x5 x7 x9 z h
    rw [f_X7_leastTerms_b9] at h
    cases h
  | succ n ih =>
    intro mem x0 x2 x4 x5 x7 x9 z h
    rw [f_X7_leastTerms_b9] at h
    refine ug_iload 5 dX7_leastTerms_9 rfl ?_
    refine ug_bipush dX7_leastTerms_11 un_bipush_100 ?_
    refine ug_icmp_ge 44 dX7_leastTerms_13 (by decide) (fun q1 => ?_) (fun q1 => ?_)
    · rw [if_pos q1] at h
      refine ug_sub [(0, .long x0), (2, .long x2), (4, .int x4), (5, .long x5)] [0, 1, 2, 3] rfl ?_
      exact t_X7_leastTerms_b44 mem x0 x2 x4 x5 _ h
    · rw [if_neg q1] at h
      refine ug_lload 4 dX7_leastTerms_16 rfl ?_
      refine ug_lconst (v := 0) dX7_leastTerms_18 (by decide) ?_
      refine ug_lcmp dX7_leastTerms_19 ?_
      refine ug_if_eq 44 dX7_leastTerms_20 (by decide) (fun q2 => ?_) (fun q2 => ?_)
      · rw [if_pos q2] at h
        refine ug_sub [(0, .long x0), (2, .long x2), (4, .int x4), (5, .long x5)] [0, 1, 2, 3] rfl ?_
        exact t_X7_leastTerms_b44 mem x0 x2 x4 x5 _ h
      · rw [if_neg q2] at h
        refine ug_lload 3 dX7_leastTerms_23 rfl ?_
        refine ug_lload 4 dX7_leastTerms_25 rfl ?_
        obtain ⟨g3, h⟩ := ugd_some h
        refine ug_lrem dX7_leastTerms_27 (of_decide_eq_true g3) ?_
        refine ug_lstore [(10, .long (x5 - x5 / x7 * x7)), (0, .long x0), (2, .long x2), (4, .int x4), (5, .long x5), (7, .long x7), (9, .int x9)] dX7_leastTerms_28 (Nat.le_of_ble_eq_true rfl) rfl ?_
        refine ug_lload 5 dX7_leastTerms_30 rfl ?_
        refine ug_lstore [(5, .long x7), (10, .long (x5 - x5 / x7 * x7)), (0, .long x0), (2, .long x2), (4, .int x4), (7, .long x7), (9, .int x9)] dX7_leastTerms_32 (Nat.le_of_ble_eq_true rfl) rfl ?_
        refine ug_lload 1 dX7_leastTerms_34 rfl ?_
        refine ug_lstore [(7, .long (x5 - x5 / x7 * x7)), (5, .long x7), (10, .long (x5 - x5 / x7 * x7)), (0, .long x0), (2, .long x2), (4, .int x4), (9, .int x9)] dX7_leastTerms_36 (Nat.le_of_ble_eq_true rfl) rfl ?_
        refine ug_iinc (v := (x9 + 1)) [(9, .int (x9 + 1)), (7, .long (x5 - x5 / x7 * x7)), (5, .long x7), (10, .long (x5 - x5 / x7 * x7)), (0, .long x0), (2, .long x2), (4, .int x4)] 6 dX7_leastTerms_38 rfl rfl (Nat.le_of_ble_eq_true rfl) rfl ?_
        refine ug_goto 9 dX7_leastTerms_41 (by decide) ?_
        refine ug_sub [(0, .long x0), (2, .long x2), (4, .int x4), (5, .long x7), (7, .long (x5 - x5 / x7 * x7)), (9, .int (x9 + 1))] [4, 5, 6, 2, 1, 0] rfl ?_
        exact ih mem x0 x2 x4 x7 (x5 - x5 / x7 * x7) (x9 + 1) _ h
def f_X7_leastTerms (mem : Um) (x0 : Int64) (x2 : Int64) (x4 : Int32) : Option (Um × Int64) :=
  f_X7_leastTerms_b9  UF mem x0 x2 x4 x2 x0 0
set_option maxRecDepth 20000 in
theorem t_X7_leastTerms {l : Launch} {E : Ue} (mem : Um) (x0 : Int64) (x2 : Int64) (x4 : Int32) (z : Um × Int64) (h : f_X7_leastTerms  mem x0 x2 x4 = some z) : ug l E 2 0 0 cX7_leastTerms 12 RX7 (some .long) [] (uz_l z) 0 0 0 [(0, .long x0), (2, .long x2), (4, .int x4)] [] mem := by
  rw [f_X7_leastTerms] at h
  refine ug_lload_n 1 dX7_leastTerms_0 rfl rfl ?_
  refine ug_lstore [(5, .long x2), (0, .long x0), (2, .long x2), (4, .int x4)] dX7_leastTerms_1 (Nat.le_of_ble_eq_true rfl) rfl ?_
  refine ug_lload_n 1 dX7_leastTerms_3 rfl rfl ?_
  refine ug_lstore [(7, .long x0), (5, .long x2), (0, .long x0), (2, .long x2), (4, .int x4)] dX7_leastTerms_4 (Nat.le_of_ble_eq_true rfl) rfl ?_
  refine ug_iconst dX7_leastTerms_6 un_iconst_0 ?_
  refine ug_istore [(9, .int 0), (7, .long x0), (5, .long x2), (0, .long x0), (2, .long x2), (4, .int x4)] dX7_leastTerms_7 (Nat.le_of_ble_eq_true rfl) rfl ?_
  refine ug_sub [(0, .long x0), (2, .long x2), (4, .int x4), (5, .long x2), (7, .long x0), (9, .int 0)] [3, 4, 5, 2, 1, 0] rfl ?_
  exact t_X7_leastTerms_b9  UF mem x0 x2 x4 x2 x0 0 _ h
theorem c_X7_leastTerms {l : Launch} {E : Ue} {mem : Um} {x0 : Int64} {x2 : Int64} {x4 : Int32} {m1 : Um} {r : Int64} (h : f_X7_leastTerms  mem x0 x2 x4 = some (m1, r)) : ucr l E 2 0 0 yX7_leastTerms cX7_leastTerms 12 (some .long) [.long x0, .long x2, .int x4] mem (some (.long r)) m1 := ucr_of rfl (Nat.le_of_ble_eq_true rfl) (t_X7_leastTerms  mem x0 x2 x4 _ h)
-- X7_wall
def f_X7_wall_b93 (mem : Um) (y0 : Int32) : Option (Um × (Int32 ⊕ String)) :=
  some (mem, .inl y0)
set_option maxRecDepth 20000 in
theorem t_X7_wall_b93 {l : Launch} {E : Ue} (mem : Um) (y0 : Int32) (z : Um × (Int32 ⊕ String)) (h : f_X7_wall_b93  mem y0 = some z) : ug l E 7 (uzc z) (uzs z) cX7_wall 6 RX7 (some .int) [] (uzx_i z) 0 0 93 [] [.int y0] mem := by
  rw [f_X7_wall_b93] at h
  obtain rfl := Option.some.inj h
  exact ug_iret dX7_wall_93
def f_X7_wall (mem : Um) (x1 : Int32) (x2 : Int32) (x3 : Int32) : Option (Um × (Int32 ⊕ String)) :=
  ubx (f_X7_needTenant mem x1) (fun m1 r2 => ubx (f_X7_needTenant m1 x2) (fun m5 r6 => ubx (f_X7_need m5 x3 0 1) (fun m9 r10 => ubi (f_X4_touching 23 m9 x1) (fun m13 r14 => if ((r14 >>> (x2 &&& 31)) &&& 1) = 0 then (some (m13, .inl (-1))) else (ugd (uin (13 + x1) 28) (ugd (uin (13 + x2) 28) (if (m13 24 (13 + x1).toNatClampNeg) = (m13 24 (13 + x2).toNatClampNeg) then (f_X7_wall_b93 m13 x3) else (ubi (f_X7_leastTerms m13 (((m13 24 (13 + x1).toNatClampNeg) * (m13 24 (13 + x2).toNatClampNeg)).toInt64) ((umabs ((m13 24 (13 + x1).toNatClampNeg) - (m13 24 (13 + x2).toNatClampNeg))).toInt64) x3) (fun m20 r21 => f_X7_wall_b93 m20 r21.toInt32)))))))))
set_option maxRecDepth 20000 in
theorem t_X7_wall {l : Launch} {E : Ue} (mem : Um) (x1 : Int32) (x2 : Int32) (x3 : Int32) (z : Um × (Int32 ⊕ String)) (h : f_X7_wall  mem x1 x2 x3 = some z) : ug l E 7 (uzc z) (uzs z) cX7_wall 6 RX7 (some .int) [] (uzx_i z) 0 0 0 [(0, .ref (ue_d E 0)), (1, .int x1), (2, .int x2), (3, .int x3)] [] mem := by
  rw [f_X7_wall] at h
  refine ug_aload_n 0 dX7_wall_0 rfl rfl ?_
  refine ug_iload_n 1 dX7_wall_1 rfl rfl ?_
  rcases ubx_some h with ⟨m1, r2, h3, h⟩ | ⟨m1, X4, h3, rfl⟩
  · refine ug_callVv [.int x1] (c_X7_needTenant_r  h3) kc_X7_212 ro_0 rfl (S := []) rfl (Nat.le_of_ble_eq_true rfl) (Nat.le_of_ble_eq_true rfl) (Nat.le_of_ble_eq_true rfl) dX7_wall_2 ?_
    refine ug_aload_n 0 dX7_wall_5 rfl rfl ?_
    refine ug_iload_n 2 dX7_wall_6 rfl rfl ?_
    rcases ubx_some h with ⟨m5, r6, h7, h⟩ | ⟨m5, X8, h7, rfl⟩
    · refine ug_callVv [.int x2] (c_X7_needTenant_r  h7) kc_X7_212 ro_0 rfl (S := []) rfl (Nat.le_of_ble_eq_true rfl) (Nat.le_of_ble_eq_true rfl) (Nat.le_of_ble_eq_true rfl) dX7_wall_7 ?_
      refine ug_aload_n 0 dX7_wall_10 rfl rfl ?_
      refine ug_iload_n 3 dX7_wall_11 rfl rfl ?_
      refine ug_iconst dX7_wall_12 un_iconst_0 ?_
      refine ug_iconst dX7_wall_13 un_iconst_1 ?_
      rcases ubx_some h with ⟨m9, r10, h11, h⟩ | ⟨m9, X12, h11, rfl⟩
      · refine ug_callVv [.int x3, .int 0, .int 1] (c_X7_need_r  h11) kc_X7_102 ro_0 rfl (S := []) rfl (Nat.le_of_ble_eq_true rfl) (Nat.le_of_ble_eq_true rfl) (Nat.le_of_ble_eq_true rfl) dX7_wall_14 ?_
        refine ug_aload_n 0 dX7_wall_17 rfl rfl ?_
        refine ug_getR kf_X7_54 gr_0_6 dX7_wall_18 ?_
        refine ug_iload_n 1 dX7_wall_21 rfl rfl ?_
        obtain ⟨m13, r14, h15, h⟩ := ubi_some h
        refine ug_callVi [.int x1] (c_X4_touching (Or.inl rfl) h15) kc_X7_225 ro_23 rfl (S := []) rfl (Nat.le_of_ble_eq_true rfl) (Nat.le_of_ble_eq_true rfl) (Nat.le_of_ble_eq_true rfl) dX7_wall_22 ?_
        refine ug_iload_n 2 dX7_wall_25 rfl rfl ?_
        refine ug_ishr dX7_wall_26 ?_
        refine ug_iconst dX7_wall_27 un_iconst_1 ?_
        refine ug_iand dX7_wall_28 ?_
        refine ug_if_ne 34 dX7_wall_29 (by decide) (fun q16 => ?_) (fun q16 => ?_)
        · rw [if_neg q16] at h
          refine ug_aload_n 0 dX7_wall_34 rfl rfl ?_
          refine ug_getR kf_X7_54 gr_0_6 dX7_wall_35 ?_
          refine ug_getR kf_X7_144 gr_23_2 dX7_wall_38 ?_
          refine ug_bipush dX7_wall_41 un_bipush_13 ?_
          refine ug_iload_n 1 dX7_wall_43 rfl rfl ?_
          refine ug_iadd dX7_wall_44 ?_
          obtain ⟨g17, h⟩ := ugd_some h
          refine ug_iald al_24 (uin_ok g17) dX7_wall_45 ?_
          refine ug_istore [(4, .int (m13 24 (13 + x1).toNatClampNeg)), (0, .ref (ue_d E 0)), (1, .int x1), (2, .int x2), (3, .int x3)] dX7_wall_46 (Nat.le_of_ble_eq_true rfl) rfl ?_
          refine ug_aload_n 1 dX7_wall_48 rfl rfl ?_
          refine ug_getR kf_X7_54 gr_0_6 dX7_wall_49 ?_
          refine ug_getR kf_X7_144 gr_23_2 dX7_wall_52 ?_
          refine ug_bipush dX7_wall_55 un_bipush_13 ?_
          refine ug_iload_n 3 dX7_wall_57 rfl rfl ?_
          refine ug_iadd dX7_wall_58 ?_
          obtain ⟨g18, h⟩ := ugd_some h
          refine ug_iald al_24 (uin_ok g18) dX7_wall_59 ?_
          refine ug_istore [(5, .int (m13 24 (13 + x2).toNatClampNeg)), (4, .int (m13 24 (13 + x1).toNatClampNeg)), (0, .ref (ue_d E 0)), (1, .int x1), (2, .int x2), (3, .int x3)] dX7_wall_60 (Nat.le_of_ble_eq_true rfl) rfl ?_
          refine ug_iload 1 dX7_wall_62 rfl ?_
          refine ug_iload 0 dX7_wall_64 rfl ?_
          refine ug_icmp_ne 73 dX7_wall_66 (by decide) (fun q19 => ?_) (fun q19 => ?_)
          · rw [if_neg q19] at h
            refine ug_iload 1 dX7_wall_73 rfl ?_
            refine ug_iload 0 dX7_wall_75 rfl ?_
            refine ug_imul dX7_wall_77 ?_
            refine ug_i2l dX7_wall_78 ?_
            refine ug_iload 1 dX7_wall_79 rfl ?_
            refine ug_iload 0 dX7_wall_81 rfl ?_
            refine ug_isub dX7_wall_83 ?_
            refine ug_mabs kl_X7_244 (Nat.le_of_ble_eq_true rfl) (Nat.le_of_ble_eq_true rfl) dX7_wall_84 ?_
            refine ug_i2l dX7_wall_87 ?_
            refine ug_iload_n 5 dX7_wall_88 rfl rfl ?_
            obtain ⟨m20, r21, h22, h⟩ := ubi_some h
            refine ug_callSl [.long ((m13 24 (13 + x1).toNatClampNeg) * (m13 24 (13 + x2).toNatClampNeg)).toInt64, .long (umabs ((m13 24 (13 + x1).toNatClampNeg) - (m13 24 (13 + x2).toNatClampNeg))).toInt64, .int x3] (c_X7_leastTerms  h22) kc_X7_247 rfl (S := []) rfl (Nat.le_of_ble_eq_true rfl) (Nat.le_of_ble_eq_true rfl) (Nat.le_of_ble_eq_true rfl) dX7_wall_89 ?_
            refine ug_l2i dX7_wall_92 ?_
            refine ug_sub [] [] rfl ?_
            exact t_X7_wall_b93 m20 r21.toInt32 _ h
          · rw [if_pos q19] at h
            refine ug_iload_n 5 dX7_wall_69 rfl rfl ?_
            refine ug_goto 93 dX7_wall_70 (by decide) ?_
            refine ug_sub [] [] rfl ?_
            exact t_X7_wall_b93 m13 x3 _ h
        · rw [if_pos q16] at h
          refine ug_iconst dX7_wall_32 un_iconst_m1 ?_
          obtain rfl := Option.some.inj h
          exact ug_iret dX7_wall_33
      · exact ug_callVx [.int x3, .int 0, .int 1] (c_X7_need_x  h11) kc_X7_102 ro_0 rfl (S := []) rfl (Nat.le_of_ble_eq_true rfl) (Nat.le_of_ble_eq_true rfl) (Nat.le_of_ble_eq_true rfl) ⟨Nat.le_refl 1, Nat.le_refl 6⟩ dX7_wall_14
    · exact ug_callVx [.int x2] (c_X7_needTenant_x  h7) kc_X7_212 ro_0 rfl (S := []) rfl (Nat.le_of_ble_eq_true rfl) (Nat.le_of_ble_eq_true rfl) (Nat.le_of_ble_eq_true rfl) ⟨Nat.le_refl 1, Nat.le_refl 6⟩ dX7_wall_7
  · exact ug_callVx [.int x1] (c_X7_needTenant_x  h3) kc_X7_212 ro_0 rfl (S := []) rfl (Nat.le_of_ble_eq_true rfl) (Nat.le_of_ble_eq_true rfl) (Nat.le_of_ble_eq_true rfl) ⟨Nat.le_refl 1, Nat.le_refl 6⟩ dX7_wall_2
theorem c_X7_wall_r {l : Launch} {E : Ue} {mem : Um} {x1 : Int32} {x2 : Int32} {x3 : Int32} {m1 : Um} {r : Int32} (h : f_X7_wall  mem x1 x2 x3 = some (m1, .inl r)) : ucr l E 7 0 0 yX7_wall cX7_wall 6 (some .int) [.ref (ue_d E 0), .int x1, .int x2, .int x3] mem (some (.int r)) m1 := ucr_of rfl (Nat.le_of_ble_eq_true rfl) (t_X7_wall  mem x1 x2 x3 _ h)
theorem c_X7_wall_x {l : Launch} {E : Ue} {mem : Um} {x1 : Int32} {x2 : Int32} {x3 : Int32} {m1 : Um} {X : String} (h : f_X7_wall  mem x1 x2 x3 = some (m1, .inr X)) : ucx l E 7 1 6 yX7_wall cX7_wall 6 (some .int) [.ref (ue_d E 0), .int x1, .int x2, .int x3] mem X m1 := ucx_of rfl (Nat.le_of_ble_eq_true rfl) (t_X7_wall  mem x1 x2 x3 _ h)
-- X7_vacant
def f_X7_vacant_b81 (mem : Um) (y0 : Int32) : Option (Um × (Int32 ⊕ String)) :=
  some (mem, .inl y0)
set_option maxRecDepth 20000 in
theorem t_X7_vacant_b81 {l : Launch} {E : Ue} (mem : Um) (y0 : Int32) (z : Um × (Int32 ⊕ String)) (h : f_X7_vacant_b81  mem y0 = some z) : ug l E 7 (uzc z) (uzs z) cX7_vacant 5 RX7 (some .int) [] (uzx_i z) 0 0 81 [] [.int y0] mem := by
  rw [f_X7_vacant_b81] at h
  obtain rfl := Option.some.inj h
  exact ug_iret dX7_vacant_81
def f_X7_vacant_b66 (k14 : Um → Int32 → Int32 → Int32 → Int32 → Option (Um × (Int32 ⊕ String))) (mem : Um) (x1 : Int32) (x2 : Int32) (x3 : Int32) (x4 : Int32) : Option (Um × (Int32 ⊕ String)) :=
  k14 mem x1 x2 x3 (x4 + 1)
set_option maxRecDepth 20000 in
theorem t_X7_vacant_b66 {l : Launch} {E : Ue} (k14 : Um → Int32 → Int32 → Int32 → Int32 → Option (Um × (Int32 ⊕ String))) (hk14 : ∀ (mem : Um) (x1 : Int32) (x2 : Int32) (x3 : Int32) (x4 : Int32) (z : Um × (Int32 ⊕ String)), k14 mem x1 x2 x3 x4 = some z → ug l E 7 (uzc z) (uzs z) cX7_vacant 5 RX7 (some .int) [] (uzx_i z) 0 0 14 [(0, .ref (ue_d E 0)), (1, .int x1), (2, .int x2), (3, .int x3), (4, .int x4)] [] mem) (mem : Um) (x1 : Int32) (x2 : Int32) (x3 : Int32) (x4 : Int32) (z : Um × (Int32 ⊕ String)) (h : f_X7_vacant_b66 k14 mem x1 x2 x3 x4 = some z) : ug l E 7 (uzc z) (uzs z) cX7_vacant 5 RX7 (some .int) [] (uzx_i z) 0 0 66 [(0, .ref (ue_d E 0)), (1, .int x1), (2, .int x2), (3, .int x3), (4, .int x4)] [] mem := by
  rw [f_X7_vacant_b66] at h
  refine ug_iinc (v := (x4 + 1)) [(4, .int (x4 + 1)), (0, .ref (ue_d E 0)), (1, .int x1), (2, .int x2), (3, .int x3)] 4 dX7_vacant_66 rfl rfl (Nat.le_of_ble_eq_true rfl) rfl ?_
  refine ug_goto 14 dX7_vacant_69 (by decide) ?_
  refine ug_sub [(0, .ref (ue_d E 0)), (1, .int x1), (2, .int x2), (3, .int x3), (4, .int (x4 + 1))] [1, 2, 3, 4, 0] rfl ?_
  exact hk14 mem x1 x2 x3 (x4 + 1) _ h
def f_X7_vacant_b14 : Nat → Um → Int32 → Int32 → Int32 → Int32 → Option (Um × (Int32 ⊕ String))
  | 0, _, _, _, _, _ => none
  | n + 1, mem, x1, x2, x3, x4 =>
    if (mem 3 0) ≤ x4 then (if x1 = 0 then (f_X7_vacant_b81 mem x2) else (f_X7_vacant_b81 mem x3)) else (ubi (f_X4_seenBy 23 mem x4) (fun m3 r4 => if r4 = 0 then (ugd (uin x4 8) (if (m3 5 x4.toNatClampNeg) ≤ x3 then (f_X7_vacant_b66 (f_X7_vacant_b14  n) m3 x1 x2 x3 x4) else (ugd (uin x4 8) (f_X7_vacant_b66 (f_X7_vacant_b14  n) m3 x1 x4 (m3 5 x4.toNatClampNeg) x4)))) else (f_X7_vacant_b66 (f_X7_vacant_b14  n) m3 x1 x2 x3 x4)))
set_option maxRecDepth 20000 in
theorem t_X7_vacant_b14 {l : Launch} {E : Ue} : ∀ (n : Nat) (mem : Um) (x1 : Int32) (x2 : Int32) (x3 : Int32) (x4 : Int32) (z : Um × (Int32 ⊕ String)), f_X7_vacant_b14  n mem x1 x2 x3 x4 = some z → ug l E 7 (uzc z) (uzs z) cX7_vacant 5 RX7 (some .int) [] (uzx_i z) 0 0 14 [(0, .ref (ue_d E 0)), (1, .int x1), (2, .int x2), (3, .int x3), (4, .int x4)] [] mem := by
  intro n
  induction n with
  | zero =>
    intro mem x1 x2 x3 x4 z h
    rw [f_X7_vacant_b14] at h
    cases h
  | succ n ih =>
    intro mem x1 x2 x3 x4 z h
    rw [f_X7_vacant_b14] at h
    refine ug_iload 4 dX7_vacant_14 rfl ?_
    refine ug_aload_n 0 dX7_vacant_16 rfl rfl ?_
    refine ug_getR kf_X7_21 gr_0_1 dX7_vacant_17 ?_
    refine ug_getI kf_X7_162 gi_3_0 dX7_vacant_20 ?_
    refine ug_icmp_ge 72 dX7_vacant_23 (by decide) (fun q1 => ?_) (fun q1 => ?_)
    · rw [if_pos q1] at h
      refine ug_iload_n 1 dX7_vacant_72 rfl rfl ?_
      refine ug_if_ne 80 dX7_vacant_73 (by decide) (fun q2 => ?_) (fun q2 => ?_)
      · rw [if_neg q2] at h
        refine ug_iload_n 3 dX7_vacant_80 rfl rfl ?_
        refine ug_sub [] [] rfl ?_
        exact t_X7_vacant_b81 mem x3 _ h
      · rw [if_pos q2] at h
        refine ug_iload_n 2 dX7_vacant_76 rfl rfl ?_
        refine ug_goto 81 dX7_vacant_77 (by decide) ?_
        refine ug_sub [] [] rfl ?_
        exact t_X7_vacant_b81 mem x2 _ h
    · rw [if_neg q1] at h
      refine ug_aload_n 0 dX7_vacant_26 rfl rfl ?_
      refine ug_getR kf_X7_54 gr_0_6 dX7_vacant_27 ?_
      refine ug_iload 4 dX7_vacant_30 rfl ?_
      obtain ⟨m3, r4, h5, h⟩ := ubi_some h
      refine ug_callVi [.int x4] (c_X4_seenBy (Or.inl rfl) h5) kc_X7_206 ro_23 rfl (S := []) rfl (Nat.le_of_ble_eq_true rfl) (Nat.le_of_ble_eq_true rfl) (Nat.le_of_ble_eq_true rfl) dX7_vacant_32 ?_
      refine ug_if_ne 66 dX7_vacant_35 (by decide) (fun q6 => ?_) (fun q6 => ?_)
      · rw [if_neg q6] at h
        exact t_X7_vacant_b66 (f_X7_vacant_b14  n) ih m3 x1 x2 x3 x4 _ h
      · rw [if_pos q6] at h
        refine ug_aload_n 0 dX7_vacant_38 rfl rfl ?_
        refine ug_getR kf_X7_21 gr_0_1 dX7_vacant_39 ?_
        refine ug_getR kf_X7_199 gr_3_4 dX7_vacant_42 ?_
        refine ug_iload 4 dX7_vacant_45 rfl ?_
        obtain ⟨g7, h⟩ := ugd_some h
        refine ug_iald al_5 (uin_ok g7) dX7_vacant_47 ?_
        refine ug_iload_n 3 dX7_vacant_48 rfl rfl ?_
        refine ug_icmp_le 66 dX7_vacant_49 (by decide) (fun q8 => ?_) (fun q8 => ?_)
        · rw [if_pos q8] at h
          exact t_X7_vacant_b66 (f_X7_vacant_b14  n) ih m3 x1 x2 x3 x4 _ h
        · rw [if_neg q8] at h
          refine ug_iload 4 dX7_vacant_52 rfl ?_
          refine ug_istore_n [(2, .int x4), (0, .ref (ue_d E 0)), (1, .int x1), (3, .int x3), (4, .int x4)] dX7_vacant_54 rfl (Nat.le_of_ble_eq_true rfl) rfl ?_
          refine ug_aload_n 1 dX7_vacant_55 rfl rfl ?_
          refine ug_getR kf_X7_21 gr_0_1 dX7_vacant_56 ?_
          refine ug_getR kf_X7_199 gr_3_4 dX7_vacant_59 ?_
          refine ug_iload 4 dX7_vacant_62 rfl ?_
          obtain ⟨g9, h⟩ := ugd_some h
          refine ug_iald al_5 (uin_ok g9) dX7_vacant_64 ?_
          refine ug_istore_n [(3, .int (m3 5 x4.toNatClampNeg)), (2, .int x4), (0, .ref (ue_d E 0)), (1, .int x1), (4, .int x4)] dX7_vacant_65 rfl (Nat.le_of_ble_eq_true rfl) rfl ?_
          refine ug_sub [(0, .ref (ue_d E 0)), (1, .int x1), (2, .int x4), (3, .int (m3 5 x4.toNatClampNeg)), (4, .int x4)] [2, 3, 1, 0, 4] rfl ?_
          exact t_X7_vacant_b66 (f_X7_vacant_b14  n) ih m3 x1 x4 (m3 5 x4.toNatClampNeg) x4 _ h
def f_X7_vacant (mem : Um) (x1 : Int32) : Option (Um × (Int32 ⊕ String)) :=
  ubx (f_X7_need mem x1 0 1) (fun m1 r2 => f_X7_vacant_b14  UF m1 x1 (-1) (-1) 0)
set_option maxRecDepth 20000 in
theorem t_X7_vacant {l : Launch} {E : Ue} (mem : Um) (x1 : Int32) (z : Um × (Int32 ⊕ String)) (h : f_X7_vacant  mem x1 = some z) : ug l E 7 (uzc z) (uzs z) cX7_vacant 5 RX7 (some .int) [] (uzx_i z) 0 0 0 [(0, .ref (ue_d E 0)), (1, .int x1)] [] mem := by
  rw [f_X7_vacant] at h
  refine ug_aload_n 0 dX7_vacant_0 rfl rfl ?_
  refine ug_iload_n 1 dX7_vacant_1 rfl rfl ?_
  refine ug_iconst dX7_vacant_2 un_iconst_0 ?_
  refine ug_iconst dX7_vacant_3 un_iconst_1 ?_
  rcases ubx_some h with ⟨m1, r2, h3, h⟩ | ⟨m1, X4, h3, rfl⟩
  · refine ug_callVv [.int x1, .int 0, .int 1] (c_X7_need_r  h3) kc_X7_102 ro_0 rfl (S := []) rfl (Nat.le_of_ble_eq_true rfl) (Nat.le_of_ble_eq_true rfl) (Nat.le_of_ble_eq_true rfl) dX7_vacant_4 ?_
    refine ug_iconst dX7_vacant_7 un_iconst_m1 ?_
    refine ug_istore_n [(2, .int (-1)), (0, .ref (ue_d E 0)), (1, .int x1)] dX7_vacant_8 rfl (Nat.le_of_ble_eq_true rfl) rfl ?_
    refine ug_iconst dX7_vacant_9 un_iconst_m1 ?_
    refine ug_istore_n [(3, .int (-1)), (2, .int (-1)), (0, .ref (ue_d E 0)), (1, .int x1)] dX7_vacant_10 rfl (Nat.le_of_ble_eq_true rfl) rfl ?_
    refine ug_iconst dX7_vacant_11 un_iconst_0 ?_
    refine ug_istore [(4, .int 0), (3, .int (-1)), (2, .int (-1)), (0, .ref (ue_d E 0)), (1, .int x1)] dX7_vacant_12 (Nat.le_of_ble_eq_true rfl) rfl ?_
    refine ug_sub [(0, .ref (ue_d E 0)), (1, .int x1), (2, .int (-1)), (3, .int (-1)), (4, .int 0)] [3, 4, 2, 1, 0] rfl ?_
    exact t_X7_vacant_b14  UF m1 x1 (-1) (-1) 0 _ h
  · exact ug_callVx [.int x1, .int 0, .int 1] (c_X7_need_x  h3) kc_X7_102 ro_0 rfl (S := []) rfl (Nat.le_of_ble_eq_true rfl) (Nat.le_of_ble_eq_true rfl) (Nat.le_of_ble_eq_true rfl) ⟨Nat.le_refl 1, Nat.le_refl 6⟩ dX7_vacant_4
theorem c_X7_vacant_r {l : Launch} {E : Ue} {mem : Um} {x1 : Int32} {m1 : Um} {r : Int32} (h : f_X7_vacant  mem x1 = some (m1, .inl r)) : ucr l E 7 0 0 yX7_vacant cX7_vacant 5 (some .int) [.ref (ue_d E 0), .int x1] mem (some (.int r)) m1 := ucr_of rfl (Nat.le_of_ble_eq_true rfl) (t_X7_vacant  mem x1 _ h)
theorem c_X7_vacant_x {l : Launch} {E : Ue} {mem : Um} {x1 : Int32} {m1 : Um} {X : String} (h : f_X7_vacant  mem x1 = some (m1, .inr X)) : ucx l E 7 1 6 yX7_vacant cX7_vacant 5 (some .int) [.ref (ue_d E 0), .int x1] mem X m1 := ucx_of rfl (Nat.le_of_ble_eq_true rfl) (t_X7_vacant  mem x1 _ h)
-- X7_front
def f_X7_front_b130 (k29 : Um → Int32 → Int32 → Int32 → Int32 → Int32 → Option (Um × (Int32 ⊕ String))) (mem : Um) (x1 : Int32) (x2 : Int32) (x3 : Int32) (x4 : Int32) (x5 : Int32) : Option (Um × (Int32 ⊕ String)) :=
  k29 mem x1 x2 x3 x4 (x5 + 1)
set_option maxRecDepth 20000 in
theorem t_X7_front_b130 {l : Launch} {E : Ue} (k29 : Um → Int32 → Int32 → Int32 → Int32 → Int32 → Option (Um × (Int32 ⊕ String))) (hk29 : ∀ (mem : Um) (x1 : Int32) (x2 : Int32) (x3 : Int32) (x4 : Int32) (x5 : Int32) (z : Um × (Int32 ⊕ String)), k29 mem x1 x2 x3 x4 x5 = some z → ug l E 7 (uzc z) (uzs z) cX7_front 8 RX7 (some .int) [] (uzx_i z) 0 0 29 [(0, .ref (ue_d E 0)), (1, .int x1), (2, .int x2), (3, .int x3), (4, .int x4), (5, .int x5)] [] mem) (mem : Um) (x1 : Int32) (x2 : Int32) (x3 : Int32) (x4 : Int32) (x5 : Int32) (z : Um × (Int32 ⊕ String)) (h : f_X7_front_b130 k29 mem x1 x2 x3 x4 x5 = some z) : ug l E 7 (uzc z) (uzs z) cX7_front 8 RX7 (some .int) [] (uzx_i z) 0 0 130 [(0, .ref (ue_d E 0)), (1, .int x1), (2, .int x2), (3, .int x3), (4, .int x4), (5, .int x5)] [] mem := by
  rw [f_X7_front_b130] at h
  refine ug_iinc (v := (x5 + 1)) [(5, .int (x5 + 1)), (0, .ref (ue_d E 0)), (1, .int x1), (2, .int x2), (3, .int x3), (4, .int x4)] 5 dX7_front_130 rfl rfl (Nat.le_of_ble_eq_true rfl) rfl ?_
  refine ug_goto 29 dX7_front_133 (by decide) ?_
  refine ug_sub [(0, .ref (ue_d E 0)), (1, .int x1), (2, .int x2), (3, .int x3), (4, .int x4), (5, .int (x5 + 1))] [1, 2, 3, 4, 5, 0] rfl ?_
  exact hk29 mem x1 x2 x3 x4 (x5 + 1) _ h
def f_X7_front_b112 (k29 : Um → Int32 → Int32 → Int32 → Int32 → Int32 → Option (Um × (Int32 ⊕ String))) (mem : Um) (x1 : Int32) (x2 : Int32) (x3 : Int32) (x4 : Int32) (x5 : Int32) (y0 : Int32) (y1 : Int32) : Option (Um × (Int32 ⊕ String)) :=
  if y1 = y0 then (ugd (uin x5 8) (f_X7_front_b130 k29 mem x1 x2 x3 (x4 + (mem 5 x5.toNatClampNeg)) x5)) else (f_X7_front_b130 k29 mem x1 x2 x3 x4 x5)
set_option maxRecDepth 20000 in
theorem t_X7_front_b112 {l : Launch} {E : Ue} (k29 : Um → Int32 → Int32 → Int32 → Int32 → Int32 → Option (Um × (Int32 ⊕ String))) (hk29 : ∀ (mem : Um) (x1 : Int32) (x2 : Int32) (x3 : Int32) (x4 : Int32) (x5 : Int32) (z : Um × (Int32 ⊕ String)), k29 mem x1 x2 x3 x4 x5 = some z → ug l E 7 (uzc z) (uzs z) cX7_front 8 RX7 (some .int) [] (uzx_i z) 0 0 29 [(0, .ref (ue_d E 0)), (1, .int x1), (2, .int x2), (3, .int x3), (4, .int x4), (5, .int x5)] [] mem) (mem : Um) (x1 : Int32) (x2 : Int32) (x3 : Int32) (x4 : Int32) (x5 : Int32) (y0 : Int32) (y1 : Int32) (z : Um × (Int32 ⊕ String)) (h : f_X7_front_b112 k29 mem x1 x2 x3 x4 x5 y0 y1 = some z) : ug l E 7 (uzc z) (uzs z) cX7_front 8 RX7 (some .int) [] (uzx_i z) 0 0 112 [(0, .ref (ue_d E 0)), (1, .int x1), (2, .int x2), (3, .int x3), (4, .int x4), (5, .int x5)] [.int y0, .int y1] mem := by
  rw [f_X7_front_b112] at h
  refine ug_icmp_ne 130 dX7_front_112 (by decide) (fun q1 => ?_) (fun q1 => ?_)
  · rw [if_neg q1] at h
    exact t_X7_front_b130 k29 hk29 mem x1 x2 x3 x4 x5 _ h
  · rw [if_pos q1] at h
    refine ug_iload 4 dX7_front_115 rfl ?_
    refine ug_aload_n 0 dX7_front_117 rfl rfl ?_
    refine ug_getR kf_X7_21 gr_0_1 dX7_front_118 ?_
    refine ug_getR kf_X7_199 gr_3_4 dX7_front_121 ?_
    refine ug_iload 5 dX7_front_124 rfl ?_
    obtain ⟨g2, h⟩ := ugd_some h
    refine ug_iald al_5 (uin_ok g2) dX7_front_126 ?_
    refine ug_iadd dX7_front_127 ?_
    refine ug_istore [(4, .int (x4 + (mem 5 x5.toNatClampNeg))), (0, .ref (ue_d E 0)), (1, .int x1), (2, .int x2), (3, .int x3), (5, .int x5)] dX7_front_128 (Nat.le_of_ble_eq_true rfl) rfl ?_
    refine ug_sub [(0, .ref (ue_d E 0)), (1, .int x1), (2, .int x2), (3, .int x3), (4, .int (x4 + (mem 5 x5.toNatClampNeg))), (5, .int x5)] [1, 2, 3, 4, 0, 5] rfl ?_
    exact t_X7_front_b130 k29 hk29 mem x1 x2 x3 (x4 + (mem 5 x5.toNatClampNeg)) x5 _ h
def f_X7_front_b94 (k29 : Um → Int32 → Int32 → Int32 → Int32 → Int32 → Option (Um × (Int32 ⊕ String))) (mem : Um) (x1 : Int32) (x2 : Int32) (x3 : Int32) (x4 : Int32) (x5 : Int32) (x6 : Int32) (y0 : Int32) : Option (Um × (Int32 ⊕ String)) :=
  if x6 = 0 then (f_X7_front_b130 k29 mem x1 x2 x3 x4 x5) else (if x3 = 0 then (f_X7_front_b112 k29 mem x1 x2 x3 x4 x5 1 y0) else (f_X7_front_b112 k29 mem x1 x2 x3 x4 x5 0 y0))
set_option maxRecDepth 20000 in
theorem t_X7_front_b94 {l : Launch} {E : Ue} (k29 : Um → Int32 → Int32 → Int32 → Int32 → Int32 → Option (Um × (Int32 ⊕ String))) (hk29 : ∀ (mem : Um) (x1 : Int32) (x2 : Int32) (x3 : Int32) (x4 : Int32) (x5 : Int32) (z : Um × (Int32 ⊕ String)), k29 mem x1 x2 x3 x4 x5 = some z → ug l E 7 (uzc z) (uzs z) cX7_front 8 RX7 (some .int) [] (uzx_i z) 0 0 29 [(0, .ref (ue_d E 0)), (1, .int x1), (2, .int x2), (3, .int x3), (4, .int x4), (5, .int x5)] [] mem) (mem : Um) (x1 : Int32) (x2 : Int32) (x3 : Int32) (x4 : Int32) (x5 : Int32) (x6 : Int32) (y0 : Int32) (z : Um × (Int32 ⊕ String)) (h : f_X7_front_b94 k29 mem x1 x2 x3 x4 x5 x6 y0 = some z) : ug l E 7 (uzc z) (uzs z) cX7_front 8 RX7 (some .int) [] (uzx_i z) 0 0 94 [(0, .ref (ue_d E 0)), (1, .int x1), (2, .int x2), (3, .int x3), (4, .int x4), (5, .int x5), (6, .int x6)] [.int y0] mem := by
  rw [f_X7_front_b94] at h
  refine ug_istore [(7, .int y0), (0, .ref (ue_d E 0)), (1, .int x1), (2, .int x2), (3, .int x3), (4, .int x4), (5, .int x5), (6, .int x6)] dX7_front_94 (Nat.le_of_ble_eq_true rfl) rfl ?_
  refine ug_iload 7 dX7_front_96 rfl ?_
  refine ug_if_eq 130 dX7_front_98 (by decide) (fun q1 => ?_) (fun q1 => ?_)
  · rw [if_pos q1] at h
    refine ug_sub [(0, .ref (ue_d E 0)), (1, .int x1), (2, .int x2), (3, .int x3), (4, .int x4), (5, .int x5)] [1, 2, 3, 4, 5, 6] rfl ?_
    exact t_X7_front_b130 k29 hk29 mem x1 x2 x3 x4 x5 _ h
  · rw [if_neg q1] at h
    refine ug_iload 0 dX7_front_101 rfl ?_
    refine ug_iload_n 4 dX7_front_103 rfl rfl ?_
    refine ug_if_ne 111 dX7_front_104 (by decide) (fun q2 => ?_) (fun q2 => ?_)
    · rw [if_neg q2] at h
      refine ug_iconst dX7_front_111 un_iconst_0 ?_
      refine ug_sub [(0, .ref (ue_d E 0)), (1, .int x1), (2, .int x2), (3, .int x3), (4, .int x4), (5, .int x5)] [1, 2, 3, 4, 5, 6] rfl ?_
      exact t_X7_front_b112 k29 hk29 mem x1 x2 x3 x4 x5 0 y0 _ h
    · rw [if_pos q2] at h
      refine ug_iconst dX7_front_107 un_iconst_1 ?_
      refine ug_goto 112 dX7_front_108 (by decide) ?_
      refine ug_sub [(0, .ref (ue_d E 0)), (1, .int x1), (2, .int x2), (3, .int x3), (4, .int x4), (5, .int x5)] [1, 2, 3, 4, 5, 6] rfl ?_
      exact t_X7_front_b112 k29 hk29 mem x1 x2 x3 x4 x5 1 y0 _ h
def f_X7_front_b74 (k29 : Um → Int32 → Int32 → Int32 → Int32 → Int32 → Option (Um × (Int32 ⊕ String))) (mem : Um) (x1 : Int32) (x2 : Int32) (x3 : Int32) (x4 : Int32) (x5 : Int32) (y0 : Int32) : Option (Um × (Int32 ⊕ String)) :=
  ubi (f_X4_owner 23 mem x5) (fun m1 r2 => if r2 = (-1) then (f_X7_front_b94 k29 m1 x1 x2 x3 x4 x5 y0 0) else (f_X7_front_b94 k29 m1 x1 x2 x3 x4 x5 y0 1))
set_option maxRecDepth 20000 in
theorem t_X7_front_b74 {l : Launch} {E : Ue} (k29 : Um → Int32 → Int32 → Int32 → Int32 → Int32 → Option (Um × (Int32 ⊕ String))) (hk29 : ∀ (mem : Um) (x1 : Int32) (x2 : Int32) (x3 : Int32) (x4 : Int32) (x5 : Int32) (z : Um × (Int32 ⊕ String)), k29 mem x1 x2 x3 x4 x5 = some z → ug l E 7 (uzc z) (uzs z) cX7_front 8 RX7 (some .int) [] (uzx_i z) 0 0 29 [(0, .ref (ue_d E 0)), (1, .int x1), (2, .int x2), (3, .int x3), (4, .int x4), (5, .int x5)] [] mem) (mem : Um) (x1 : Int32) (x2 : Int32) (x3 : Int32) (x4 : Int32) (x5 : Int32) (y0 : Int32) (z : Um × (Int32 ⊕ String)) (h : f_X7_front_b74 k29 mem x1 x2 x3 x4 x5 y0 = some z) : ug l E 7 (uzc z) (uzs z) cX7_front 8 RX7 (some .int) [] (uzx_i z) 0 0 74 [(0, .ref (ue_d E 0)), (1, .int x1), (2, .int x2), (3, .int x3), (4, .int x4), (5, .int x5)] [.int y0] mem := by
  rw [f_X7_front_b74] at h
  refine ug_istore [(6, .int y0), (0, .ref (ue_d E 0)), (1, .int x1), (2, .int x2), (3, .int x3), (4, .int x4), (5, .int x5)] dX7_front_74 (Nat.le_of_ble_eq_true rfl) rfl ?_
  refine ug_aload_n 1 dX7_front_76 rfl rfl ?_
  refine ug_getR kf_X7_54 gr_0_6 dX7_front_77 ?_
  refine ug_iload 6 dX7_front_80 rfl ?_
  obtain ⟨m1, r2, h3, h⟩ := ubi_some h
  refine ug_callVi [.int x5] (c_X4_owner (Or.inl rfl) h3) kc_X7_202 ro_23 rfl (S := []) rfl (Nat.le_of_ble_eq_true rfl) (Nat.le_of_ble_eq_true rfl) (Nat.le_of_ble_eq_true rfl) dX7_front_82 ?_
  refine ug_iconst dX7_front_85 un_iconst_m1 ?_
  refine ug_icmp_eq 93 dX7_front_86 (by decide) (fun q4 => ?_) (fun q4 => ?_)
  · rw [if_pos q4] at h
    refine ug_iconst dX7_front_93 un_iconst_0 ?_
    refine ug_sub [(0, .ref (ue_d E 0)), (1, .int x1), (2, .int x2), (3, .int x3), (4, .int x4), (5, .int x5), (6, .int y0)] [1, 2, 3, 4, 5, 6, 0] rfl ?_
    exact t_X7_front_b94 k29 hk29 m1 x1 x2 x3 x4 x5 y0 0 _ h
  · rw [if_neg q4] at h
    refine ug_iconst dX7_front_89 un_iconst_1 ?_
    refine ug_goto 94 dX7_front_90 (by decide) ?_
    refine ug_sub [(0, .ref (ue_d E 0)), (1, .int x1), (2, .int x2), (3, .int x3), (4, .int x4), (5, .int x5), (6, .int y0)] [1, 2, 3, 4, 5, 6, 0] rfl ?_
    exact t_X7_front_b94 k29 hk29 m1 x1 x2 x3 x4 x5 y0 1 _ h
def f_X7_front_b73 (k29 : Um → Int32 → Int32 → Int32 → Int32 → Int32 → Option (Um × (Int32 ⊕ String))) (mem : Um) (x1 : Int32) (x2 : Int32) (x3 : Int32) (x4 : Int32) (x5 : Int32) : Option (Um × (Int32 ⊕ String)) :=
  f_X7_front_b74 k29 mem x1 x2 x3 x4 x5 0
set_option maxRecDepth 20000 in
theorem t_X7_front_b73 {l : Launch} {E : Ue} (k29 : Um → Int32 → Int32 → Int32 → Int32 → Int32 → Option (Um × (Int32 ⊕ String))) (hk29 : ∀ (mem : Um) (x1 : Int32) (x2 : Int32) (x3 : Int32) (x4 : Int32) (x5 : Int32) (z : Um × (Int32 ⊕ String)), k29 mem x1 x2 x3 x4 x5 = some z → ug l E 7 (uzc z) (uzs z) cX7_front 8 RX7 (some .int) [] (uzx_i z) 0 0 29 [(0, .ref (ue_d E 0)), (1, .int x1), (2, .int x2), (3, .int x3), (4, .int x4), (5, .int x5)] [] mem) (mem : Um) (x1 : Int32) (x2 : Int32) (x3 : Int32) (x4 : Int32) (x5 : Int32) (z : Um × (Int32 ⊕ String)) (h : f_X7_front_b73 k29 mem x1 x2 x3 x4 x5 = some z) : ug l E 7 (uzc z) (uzs z) cX7_front 8 RX7 (some .int) [] (uzx_i z) 0 0 73 [(0, .ref (ue_d E 0)), (1, .int x1), (2, .int x2), (3, .int x3), (4, .int x4), (5, .int x5)] [] mem := by
  rw [f_X7_front_b73] at h
  refine ug_iconst dX7_front_73 un_iconst_0 ?_
  exact t_X7_front_b74 k29 hk29 mem x1 x2 x3 x4 x5 0 _ h
def f_X7_front_b29 : Nat → Um → Int32 → Int32 → Int32 → Int32 → Int32 → Option (Um × (Int32 ⊕ String))
  | 0, _, _, _, _, _, _ => none
  | n + 1, mem, x1, x2, x3, x4, x5 =>
    if (mem 3 0) ≤ x5 then (some (mem, .inl x4)) else (ugd (uin x5 8) (if (mem 4 x5.toNatClampNeg) < x1 then (f_X7_front_b73 (f_X7_front_b29  n) mem x1 x2 x3 x4 x5) else (ugd (uin x5 8) (if x2 < (mem 4 x5.toNatClampNeg) then (f_X7_front_b73 (f_X7_front_b29  n) mem x1 x2 x3 x4 x5) else (f_X7_front_b74 (f_X7_front_b29  n) mem x1 x2 x3 x4 x5 1)))))
set_option maxRecDepth 20000 in
theorem t_X7_front_b29 {l : Launch} {E : Ue} : ∀ (n : Nat) (mem : Um) (x1 : Int32) (x2 : Int32) (x3 : Int32) (x4 : Int32) (x5 : Int32) (z : Um × (Int32 ⊕ String)), f_X7_front_b29  n mem x1 x2 x3 x4 x5 = some z → ug l E 7 (uzc z) (uzs z) cX7_front 8 RX7 (some .int) [] (uzx_i z) 0 0 29 [(0, .ref (ue_d E 0)), (1, .int x1), (2, .int x2), (3, .int x3), (4, .int x4), (5, .int x5)] [] mem := by
  intro n
  induction n with
  | zero =>
    intro mem x1 x2 x3 x4 x5 z h
    rw [f_X7_front_b29] at h
    cases h
  | succ n ih =>
    intro mem x1 x2 x3 x4 x5 z h
    rw [f_X7_front_b29] at h
    refine ug_iload 5 dX7_front_29 rfl ?_
    refine ug_aload_n 0 dX7_front_31 rfl rfl ?_
    refine ug_getR kf_X7_21 gr_0_1 dX7_front_32 ?_
    refine ug_getI kf_X7_162 gi_3_0 dX7_front_35 ?_
    refine ug_icmp_ge 136 dX7_front_38 (by decide) (fun q1 => ?_) (fun q1 => ?_)
    · rw [if_pos q1] at h
      refine ug_iload 4 dX7_front_136 rfl ?_
      obtain rfl := Option.some.inj h
      exact ug_iret dX7_front_138
    · rw [if_neg q1] at h
      refine ug_aload_n 0 dX7_front_41 rfl rfl ?_
      refine ug_getR kf_X7_21 gr_0_1 dX7_front_42 ?_
      refine ug_getR kf_X7_196 gr_3_3 dX7_front_45 ?_
      refine ug_iload 5 dX7_front_48 rfl ?_
      obtain ⟨g2, h⟩ := ugd_some h
      refine ug_iald al_4 (uin_ok g2) dX7_front_50 ?_
      refine ug_iload_n 1 dX7_front_51 rfl rfl ?_
      refine ug_icmp_lt 73 dX7_front_52 (by decide) (fun q3 => ?_) (fun q3 => ?_)
      · rw [if_pos q3] at h
        exact t_X7_front_b73 (f_X7_front_b29  n) ih mem x1 x2 x3 x4 x5 _ h
      · rw [if_neg q3] at h
        refine ug_aload_n 0 dX7_front_55 rfl rfl ?_
        refine ug_getR kf_X7_21 gr_0_1 dX7_front_56 ?_
        refine ug_getR kf_X7_196 gr_3_3 dX7_front_59 ?_
        refine ug_iload 5 dX7_front_62 rfl ?_
        obtain ⟨g4, h⟩ := ugd_some h
        refine ug_iald al_4 (uin_ok g4) dX7_front_64 ?_
        refine ug_iload_n 2 dX7_front_65 rfl rfl ?_
        refine ug_icmp_gt 73 dX7_front_66 (by decide) (fun q5 => ?_) (fun q5 => ?_)
        · rw [if_pos q5] at h
          exact t_X7_front_b73 (f_X7_front_b29  n) ih mem x1 x2 x3 x4 x5 _ h
        · rw [if_neg q5] at h
          refine ug_iconst dX7_front_69 un_iconst_1 ?_
          refine ug_goto 74 dX7_front_70 (by decide) ?_
          exact t_X7_front_b74 (f_X7_front_b29  n) ih mem x1 x2 x3 x4 x5 1 _ h
def f_X7_front (mem : Um) (x1 : Int32) (x2 : Int32) (x3 : Int32) : Option (Um × (Int32 ⊕ String)) :=
  ubx (f_X7_need mem x1 0 99) (fun m1 r2 => ubx (f_X7_need m1 x2 0 99) (fun m5 r6 => ubx (f_X7_need m5 x3 0 1) (fun m9 r10 => f_X7_front_b29  UF m9 x1 x2 x3 0 0)))
set_option maxRecDepth 20000 in
theorem t_X7_front {l : Launch} {E : Ue} (mem : Um) (x1 : Int32) (x2 : Int32) (x3 : Int32) (z : Um × (Int32 ⊕ String)) (h : f_X7_front  mem x1 x2 x3 = some z) : ug l E 7 (uzc z) (uzs z) cX7_front 8 RX7 (some .int) [] (uzx_i z) 0 0 0 [(0, .ref (ue_d E 0)), (1, .int x1), (2, .int x2), (3, .int x3)] [] mem := by
  rw [f_X7_front] at h
  refine ug_aload_n 0 dX7_front_0 rfl rfl ?_
  refine ug_iload_n 1 dX7_front_1 rfl rfl ?_
  refine ug_iconst dX7_front_2 un_iconst_0 ?_
  refine ug_bipush dX7_front_3 un_bipush_99 ?_
  rcases ubx_some h with ⟨m1, r2, h3, h⟩ | ⟨m1, X4, h3, rfl⟩
  · refine ug_callVv [.int x1, .int 0, .int 99] (c_X7_need_r  h3) kc_X7_102 ro_0 rfl (S := []) rfl (Nat.le_of_ble_eq_true rfl) (Nat.le_of_ble_eq_true rfl) (Nat.le_of_ble_eq_true rfl) dX7_front_5 ?_
    refine ug_aload_n 0 dX7_front_8 rfl rfl ?_
    refine ug_iload_n 2 dX7_front_9 rfl rfl ?_
    refine ug_iconst dX7_front_10 un_iconst_0 ?_
    refine ug_bipush dX7_front_11 un_bipush_99 ?_
    rcases ubx_some h with ⟨m5, r6, h7, h⟩ | ⟨m5, X8, h7, rfl⟩
    · refine ug_callVv [.int x2, .int 0, .int 99] (c_X7_need_r  h7) kc_X7_102 ro_0 rfl (S := []) rfl (Nat.le_of_ble_eq_true rfl) (Nat.le_of_ble_eq_true rfl) (Nat.le_of_ble_eq_true rfl) dX7_front_13 ?_
      refine ug_aload_n 0 dX7_front_16 rfl rfl ?_
      refine ug_iload_n 3 dX7_front_17 rfl rfl ?_
      refine ug_iconst dX7_front_18 un_iconst_0 ?_
      refine ug_iconst dX7_front_19 un_iconst_1 ?_
      rcases ubx_some h with ⟨m9, r10, h11, h⟩ | ⟨m9, X12, h11, rfl⟩
      · refine ug_callVv [.int x3, .int 0, .int 1] (c_X7_need_r  h11) kc_X7_102 ro_0 rfl (S := []) rfl (Nat.le_of_ble_eq_true rfl) (Nat.le_of_ble_eq_true rfl) (Nat.le_of_ble_eq_true rfl) dX7_front_20 ?_
        refine ug_iconst dX7_front_23 un_iconst_0 ?_
        refine ug_istore [(4, .int 0), (0, .ref (ue_d E 0)), (1, .int x1), (2, .int x2), (3, .int x3)] dX7_front_24 (Nat.le_of_ble_eq_true rfl) rfl ?_
        refine ug_iconst dX7_front_26 un_iconst_0 ?_
        refine ug_istore [(5, .int 0), (4, .int 0), (0, .ref (ue_d E 0)), (1, .int x1), (2, .int x2), (3, .int x3)] dX7_front_27 (Nat.le_of_ble_eq_true rfl) rfl ?_
        refine ug_sub [(0, .ref (ue_d E 0)), (1, .int x1), (2, .int x2), (3, .int x3), (4, .int 0), (5, .int 0)] [2, 3, 4, 5, 1, 0] rfl ?_
        exact t_X7_front_b29  UF m9 x1 x2 x3 0 0 _ h
      · exact ug_callVx [.int x3, .int 0, .int 1] (c_X7_need_x  h11) kc_X7_102 ro_0 rfl (S := []) rfl (Nat.le_of_ble_eq_true rfl) (Nat.le_of_ble_eq_true rfl) (Nat.le_of_ble_eq_true rfl) ⟨Nat.le_refl 1, Nat.le_refl 6⟩ dX7_front_20
    · exact ug_callVx [.int x2, .int 0, .int 99] (c_X7_need_x  h7) kc_X7_102 ro_0 rfl (S := []) rfl (Nat.le_of_ble_eq_true rfl) (Nat.le_of_ble_eq_true rfl) (Nat.le_of_ble_eq_true rfl) ⟨Nat.le_refl 1, Nat.le_refl 6⟩ dX7_front_13
  · exact ug_callVx [.int x1, .int 0, .int 99] (c_X7_need_x  h3) kc_X7_102 ro_0 rfl (S := []) rfl (Nat.le_of_ble_eq_true rfl) (Nat.le_of_ble_eq_true rfl) (Nat.le_of_ble_eq_true rfl) ⟨Nat.le_refl 1, Nat.le_refl 6⟩ dX7_front_5
theorem c_X7_front_r {l : Launch} {E : Ue} {mem : Um} {x1 : Int32} {x2 : Int32} {x3 : Int32} {m1 : Um} {r : Int32} (h : f_X7_front  mem x1 x2 x3 = some (m1, .inl r)) : ucr l E 7 0 0 yX7_front cX7_front 8 (some .int) [.ref (ue_d E 0), .int x1, .int x2, .int x3] mem (some (.int r)) m1 := ucr_of rfl (Nat.le_of_ble_eq_true rfl) (t_X7_front  mem x1 x2 x3 _ h)
theorem c_X7_front_x {l : Launch} {E : Ue} {mem : Um} {x1 : Int32} {x2 : Int32} {x3 : Int32} {m1 : Um} {X : String} (h : f_X7_front  mem x1 x2 x3 = some (m1, .inr X)) : ucx l E 7 1 6 yX7_front cX7_front 8 (some .int) [.ref (ue_d E 0), .int x1, .int x2, .int x3] mem X m1 := ucx_of rfl (Nat.le_of_ble_eq_true rfl) (t_X7_front  mem x1 x2 x3 _ h)
-- X7_closest
def f_X7_closest_b89 (mem : Um) (y0 : Int32) : Option (Um × (Int32 ⊕ String)) :=
  some (mem, .inl y0)
set_option maxRecDepth 20000 in
theorem t_X7_closest_b89 {l : Launch} {E : Ue} (mem : Um) (y0 : Int32) (z : Um × (Int32 ⊕ String)) (h : f_X7_closest_b89  mem y0 = some z) : ug l E 7 (uzc z) (uzs z) cX7_closest 6 RX7 (some .int) [] (uzx_i z) 0 0 89 [] [.int y0] mem := by
  rw [f_X7_closest_b89] at h
  obtain rfl := Option.some.inj h
  exact ug_iret dX7_closest_89
def f_X7_closest_b73 (k20 : Um → Int32 → Int32 → Int32 → Int32 → Int32 → Option (Um × (Int32 ⊕ String))) (mem : Um) (x1 : Int32) (x2 : Int32) (x3 : Int32) (x4 : Int32) (x5 : Int32) : Option (Um × (Int32 ⊕ String)) :=
  k20 mem x1 x2 x3 x4 (x5 + 1)
set_option maxRecDepth 20000 in
theorem t_X7_closest_b73 {l : Launch} {E : Ue} (k20 : Um → Int32 → Int32 → Int32 → Int32 → Int32 → Option (Um × (Int32 ⊕ String))) (hk20 : ∀ (mem : Um) (x1 : Int32) (x2 : Int32) (x3 : Int32) (x4 : Int32) (x5 : Int32) (z : Um × (Int32 ⊕ String)), k20 mem x1 x2 x3 x4 x5 = some z → ug l E 7 (uzc z) (uzs z) cX7_closest 6 RX7 (some .int) [] (uzx_i z) 0 0 20 [(0, .ref (ue_d E 0)), (1, .int x1), (2, .int x2), (3, .int x3), (4, .int x4), (5, .int x5)] [] mem) (mem : Um) (x1 : Int32) (x2 : Int32) (x3 : Int32) (x4 : Int32) (x5 : Int32) (z : Um × (Int32 ⊕ String)) (h : f_X7_closest_b73 k20 mem x1 x2 x3 x4 x5 = some z) : ug l E 7 (uzc z) (uzs z) cX7_closest 6 RX7 (some .int) [] (uzx_i z) 0 0 73 [(0, .ref (ue_d E 0)), (1, .int x1), (2, .int x2), (3, .int x3), (4, .int x4), (5, .int x5)] [] mem := by
  rw [f_X7_closest_b73] at h
  refine ug_iinc (v := (x5 + 1)) [(5, .int (x5 + 1)), (0, .ref (ue_d E 0)), (1, .int x1), (2, .int x2), (3, .int x3), (4, .int x4)] 5 dX7_closest_73 rfl rfl (Nat.le_of_ble_eq_true rfl) rfl ?_
  refine ug_goto 20 dX7_closest_76 (by decide) ?_
  refine ug_sub [(0, .ref (ue_d E 0)), (1, .int x1), (2, .int x2), (3, .int x3), (4, .int x4), (5, .int (x5 + 1))] [1, 2, 3, 4, 5, 0] rfl ?_
  exact hk20 mem x1 x2 x3 x4 (x5 + 1) _ h
def f_X7_closest_b58 (k20 : Um → Int32 → Int32 → Int32 → Int32 → Int32 → Option (Um × (Int32 ⊕ String))) (mem : Um) (x1 : Int32) (x2 : Int32) (x5 : Int32) : Option (Um × (Int32 ⊕ String)) :=
  ubi (f_X4_farFrom 23 mem x5 x1) (fun m1 r2 => f_X7_closest_b73 k20 m1 x1 x2 x5 r2 x5)
set_option maxRecDepth 20000 in
theorem t_X7_closest_b58 {l : Launch} {E : Ue} (k20 : Um → Int32 → Int32 → Int32 → Int32 → Int32 → Option (Um × (Int32 ⊕ String))) (hk20 : ∀ (mem : Um) (x1 : Int32) (x2 : Int32) (x3 : Int32) (x4 : Int32) (x5 : Int32) (z : Um × (Int32 ⊕ String)), k20 mem x1 x2 x3 x4 x5 = some z → ug l E 7 (uzc z) (uzs z) cX7_closest 6 RX7 (some .int) [] (uzx_i z) 0 0 20 [(0, .ref (ue_d E 0)), (1, .int x1), (2, .int x2), (3, .int x3), (4, .int x4), (5, .int x5)] [] mem) (mem : Um) (x1 : Int32) (x2 : Int32) (x5 : Int32) (z : Um × (Int32 ⊕ String)) (h : f_X7_closest_b58 k20 mem x1 x2 x5 = some z) : ug l E 7 (uzc z) (uzs z) cX7_closest 6 RX7 (some .int) [] (uzx_i z) 0 0 58 [(0, .ref (ue_d E 0)), (1, .int x1), (2, .int x2), (5, .int x5)] [] mem := by
  rw [f_X7_closest_b58] at h
  refine ug_iload 3 dX7_closest_58 rfl ?_
  refine ug_istore_n [(3, .int x5), (0, .ref (ue_d E 0)), (1, .int x1), (2, .int x2), (5, .int x5)] dX7_closest_60 rfl (Nat.le_of_ble_eq_true rfl) rfl ?_
  refine ug_aload_n 1 dX7_closest_61 rfl rfl ?_
  refine ug_getR kf_X7_54 gr_0_6 dX7_closest_62 ?_
  refine ug_iload 4 dX7_closest_65 rfl ?_
  refine ug_iload_n 2 dX7_closest_67 rfl rfl ?_
  obtain ⟨m1, r2, h3, h⟩ := ubi_some h
  refine ug_callVi [.int x5, .int x1] (c_X4_farFrom (Or.inl rfl) h3) kc_X7_251 ro_23 rfl (S := []) rfl (Nat.le_of_ble_eq_true rfl) (Nat.le_of_ble_eq_true rfl) (Nat.le_of_ble_eq_true rfl) dX7_closest_68 ?_
  refine ug_istore [(4, .int r2), (3, .int x5), (0, .ref (ue_d E 0)), (1, .int x1), (2, .int x2), (5, .int x5)] dX7_closest_71 (Nat.le_of_ble_eq_true rfl) rfl ?_
  refine ug_sub [(0, .ref (ue_d E 0)), (1, .int x1), (2, .int x2), (3, .int x5), (4, .int r2), (5, .int x5)] [2, 3, 4, 1, 0, 5] rfl ?_
  exact t_X7_closest_b73 k20 hk20 m1 x1 x2 x5 r2 x5 _ h
def f_X7_closest_b20 : Nat → Um → Int32 → Int32 → Int32 → Int32 → Int32 → Option (Um × (Int32 ⊕ String))
  | 0, _, _, _, _, _, _ => none
  | n + 1, mem, x1, x2, x3, x4, x5 =>
    if 5 ≤ x5 then (if x2 = 0 then (f_X7_closest_b89 mem x3) else (f_X7_closest_b89 mem x4)) else (ubi (f_X4_has 23 mem x5) (fun m3 r4 => if r4 = 0 then (f_X7_closest_b73 (f_X7_closest_b20  n) m3 x1 x2 x3 x4 x5) else (if x3 = (-1) then (f_X7_closest_b58 (f_X7_closest_b20  n) m3 x1 x2 x5) else (ubi (f_X4_farFrom 23 m3 x5 x1) (fun m8 r9 => if x4 ≤ r9 then (f_X7_closest_b73 (f_X7_closest_b20  n) m8 x1 x2 x3 x4 x5) else (f_X7_closest_b58 (f_X7_closest_b20  n) m8 x1 x2 x5))))))
set_option maxRecDepth 20000 in
theorem t_X7_closest_b20 {l : Launch} {E : Ue} : ∀ (n : Nat) (mem : Um) (x1 : Int32) (x2 : Int32) (x3 : Int32) (x4 : Int32) (x5 : Int32) (z : Um × (Int32 ⊕ String)), f_X7_closest_b20  n mem x1 x2 x3 x4 x5 = some z → ug l E 7 (uzc z) (uzs z) cX7_closest 6 RX7 (some .int) [] (uzx_i z) 0 0 20 [(0, .ref (ue_d E 0)), (1, .int x1), (2, .int x2), (3, .int x3), (4, .int x4), (5, .int x5)] [] mem := by
  intro n
  induction n with
  | zero =>
    intro mem x1 x2 x3 x4 x5 z h
    rw [f_X7_closest_b20] at h
    cases h
  | succ n ih =>
    intro mem x1 x2 x3 x4 x5 z h
    rw [f_X7_closest_b20] at h
    refine ug_iload 5 dX7_closest_20 rfl ?_
    refine ug_iconst dX7_closest_22 un_iconst_5 ?_
    refine ug_icmp_ge 79 dX7_closest_23 (by decide) (fun q1 => ?_) (fun q1 => ?_)
    · rw [if_pos q1] at h
      refine ug_iload_n 2 dX7_closest_79 rfl rfl ?_
      refine ug_if_ne 87 dX7_closest_80 (by decide) (fun q2 => ?_) (fun q2 => ?_)
      · rw [if_neg q2] at h
        refine ug_iload 4 dX7_closest_87 rfl ?_
        refine ug_sub [] [] rfl ?_
        exact t_X7_closest_b89 mem x4 _ h
      · rw [if_pos q2] at h
        refine ug_iload_n 3 dX7_closest_83 rfl rfl ?_
        refine ug_goto 89 dX7_closest_84 (by decide) ?_
        refine ug_sub [] [] rfl ?_
        exact t_X7_closest_b89 mem x3 _ h
    · rw [if_neg q1] at h
      refine ug_aload_n 0 dX7_closest_26 rfl rfl ?_
      refine ug_getR kf_X7_54 gr_0_6 dX7_closest_27 ?_
      refine ug_iload 5 dX7_closest_30 rfl ?_
      obtain ⟨m3, r4, h5, h⟩ := ubi_some h
      refine ug_callVi [.int x5] (c_X4_has (Or.inl rfl) h5) kc_X7_215 ro_23 rfl (S := []) rfl (Nat.le_of_ble_eq_true rfl) (Nat.le_of_ble_eq_true rfl) (Nat.le_of_ble_eq_true rfl) dX7_closest_32 ?_
      refine ug_if_eq 73 dX7_closest_35 (by decide) (fun q6 => ?_) (fun q6 => ?_)
      · rw [if_pos q6] at h
        exact t_X7_closest_b73 (f_X7_closest_b20  n) ih m3 x1 x2 x3 x4 x5 _ h
      · rw [if_neg q6] at h
        refine ug_iload_n 3 dX7_closest_38 rfl rfl ?_
        refine ug_iconst dX7_closest_39 un_iconst_m1 ?_
        refine ug_icmp_eq 58 dX7_closest_40 (by decide) (fun q7 => ?_) (fun q7 => ?_)
        · rw [if_pos q7] at h
          refine ug_sub [(0, .ref (ue_d E 0)), (1, .int x1), (2, .int x2), (5, .int x5)] [0, 1, 2, 5] rfl ?_
          exact t_X7_closest_b58 (f_X7_closest_b20  n) ih m3 x1 x2 x5 _ h
        · rw [if_neg q7] at h
          refine ug_aload_n 0 dX7_closest_43 rfl rfl ?_
          refine ug_getR kf_X7_54 gr_0_6 dX7_closest_44 ?_
          refine ug_iload 5 dX7_closest_47 rfl ?_
          refine ug_iload_n 1 dX7_closest_49 rfl rfl ?_
          obtain ⟨m8, r9, h10, h⟩ := ubi_some h
          refine ug_callVi [.int x5, .int x1] (c_X4_farFrom (Or.inl rfl) h10) kc_X7_251 ro_23 rfl (S := []) rfl (Nat.le_of_ble_eq_true rfl) (Nat.le_of_ble_eq_true rfl) (Nat.le_of_ble_eq_true rfl) dX7_closest_50 ?_
          refine ug_iload 4 dX7_closest_53 rfl ?_
          refine ug_icmp_ge 73 dX7_closest_55 (by decide) (fun q11 => ?_) (fun q11 => ?_)
          · rw [if_pos q11] at h
            exact t_X7_closest_b73 (f_X7_closest_b20  n) ih m8 x1 x2 x3 x4 x5 _ h
          · rw [if_neg q11] at h
            refine ug_sub [(0, .ref (ue_d E 0)), (1, .int x1), (2, .int x2), (5, .int x5)] [0, 1, 2, 5] rfl ?_
            exact t_X7_closest_b58 (f_X7_closest_b20  n) ih m8 x1 x2 x5 _ h
def f_X7_closest (mem : Um) (x1 : Int32) (x2 : Int32) : Option (Um × (Int32 ⊕ String)) :=
  ubx (f_X7_needView mem x1) (fun m1 r2 => ubx (f_X7_need m1 x2 0 1) (fun m5 r6 => f_X7_closest_b20  UF m5 x1 x2 (-1) (-1) 0))
set_option maxRecDepth 20000 in
theorem t_X7_closest {l : Launch} {E : Ue} (mem : Um) (x1 : Int32) (x2 : Int32) (z : Um × (Int32 ⊕ String)) (h : f_X7_closest  mem x1 x2 = some z) : ug l E 7 (uzc z) (uzs z) cX7_closest 6 RX7 (some .int) [] (uzx_i z) 0 0 0 [(0, .ref (ue_d E 0)), (1, .int x1), (2, .int x2)] [] mem := by
  rw [f_X7_closest] at h
  refine ug_aload_n 0 dX7_closest_0 rfl rfl ?_
  refine ug_iload_n 1 dX7_closest_1 rfl rfl ?_
  rcases ubx_some h with ⟨m1, r2, h3, h⟩ | ⟨m1, X4, h3, rfl⟩
  · refine ug_callVv [.int x1] (c_X7_needView_r  h3) kc_X7_193 ro_0 rfl (S := []) rfl (Nat.le_of_ble_eq_true rfl) (Nat.le_of_ble_eq_true rfl) (Nat.le_of_ble_eq_true rfl) dX7_closest_2 ?_
    refine ug_aload_n 0 dX7_closest_5 rfl rfl ?_
    refine ug_iload_n 2 dX7_closest_6 rfl rfl ?_
    refine ug_iconst dX7_closest_7 un_iconst_0 ?_
    refine ug_iconst dX7_closest_8 un_iconst_1 ?_
    rcases ubx_some h with ⟨m5, r6, h7, h⟩ | ⟨m5, X8, h7, rfl⟩
    · refine ug_callVv [.int x2, .int 0, .int 1] (c_X7_need_r  h7) kc_X7_102 ro_0 rfl (S := []) rfl (Nat.le_of_ble_eq_true rfl) (Nat.le_of_ble_eq_true rfl) (Nat.le_of_ble_eq_true rfl) dX7_closest_9 ?_
      refine ug_iconst dX7_closest_12 un_iconst_m1 ?_
      refine ug_istore_n [(3, .int (-1)), (0, .ref (ue_d E 0)), (1, .int x1), (2, .int x2)] dX7_closest_13 rfl (Nat.le_of_ble_eq_true rfl) rfl ?_
      refine ug_iconst dX7_closest_14 un_iconst_m1 ?_
      refine ug_istore [(4, .int (-1)), (3, .int (-1)), (0, .ref (ue_d E 0)), (1, .int x1), (2, .int x2)] dX7_closest_15 (Nat.le_of_ble_eq_true rfl) rfl ?_
      refine ug_iconst dX7_closest_17 un_iconst_0 ?_
      refine ug_istore [(5, .int 0), (4, .int (-1)), (3, .int (-1)), (0, .ref (ue_d E 0)), (1, .int x1), (2, .int x2)] dX7_closest_18 (Nat.le_of_ble_eq_true rfl) rfl ?_
      refine ug_sub [(0, .ref (ue_d E 0)), (1, .int x1), (2, .int x2), (3, .int (-1)), (4, .int (-1)), (5, .int 0)] [3, 4, 5, 2, 1, 0] rfl ?_
      exact t_X7_closest_b20  UF m5 x1 x2 (-1) (-1) 0 _ h
    · exact ug_callVx [.int x2, .int 0, .int 1] (c_X7_need_x  h7) kc_X7_102 ro_0 rfl (S := []) rfl (Nat.le_of_ble_eq_true rfl) (Nat.le_of_ble_eq_true rfl) (Nat.le_of_ble_eq_true rfl) ⟨Nat.le_refl 1, Nat.le_refl 6⟩ dX7_closest_9
  · exact ug_callVx [.int x1] (c_X7_needView_x  h3) kc_X7_193 ro_0 rfl (S := []) rfl (Nat.le_of_ble_eq_true rfl) (Nat.le_of_ble_eq_true rfl) (Nat.le_of_ble_eq_true rfl) ⟨Nat.le_refl 1, Nat.le_refl 6⟩ dX7_closest_2
theorem c_X7_closest_r {l : Launch} {E : Ue} {mem : Um} {x1 : Int32} {x2 : Int32} {m1 : Um} {r : Int32} (h : f_X7_closest  mem x1 x2 = some (m1, .inl r)) : ucr l E 7 0 0 yX7_closest cX7_closest 6 (some .int) [.ref (ue_d E 0), .int x1, .int x2] mem (some (.int r)) m1 := ucr_of rfl (Nat.le_of_ble_eq_true rfl) (t_X7_closest  mem x1 x2 _ h)
theorem c_X7_closest_x {l : Launch} {E : Ue} {mem : Um} {x1 : Int32} {x2 : Int32} {m1 : Um} {X : String} (h : f_X7_closest  mem x1 x2 = some (m1, .inr X)) : ucx l E 7 1 6 yX7_closest cX7_closest 6 (some .int) [.ref (ue_d E 0), .int x1, .int x2] mem X m1 := ucx_of rfl (Nat.le_of_ble_eq_true rfl) (t_X7_closest  mem x1 x2 _ h)
