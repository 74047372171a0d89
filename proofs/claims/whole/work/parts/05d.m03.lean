-- X6_readSteps
def f_X6_readSteps_b44 (rec : Um → Int32 → Int32 → Option (Um × Int32)) (mem : Um) : Option (Um × Int32) :=
  some (mem, 1)
set_option maxRecDepth 20000 in
theorem t_X6_readSteps_b44 {l : Launch} {E : Ue} {rec : Um → Int32 → Int32 → Option (Um × Int32)} (kr : Nat) (hrec : ∀ (mem : Um) (x2 : Int32) (x3 : Int32) (m1 : Um) (r : Int32), rec mem x2 x3 = some (m1, r) → ucr l E kr 0 0 yX6_readSteps cX6_readSteps 5 (some .boolean) [.ref (ue_d E 21), .ref (ue_d E 1), .int x2, .int x3] mem (some (.int r)) m1) (mem : Um) (z : Um × Int32) (h : f_X6_readSteps_b44 rec mem  = some z) : ug l E (kr + 9) 0 0 cX6_readSteps 5 RX6 (some .boolean) [] (uz_i z) 0 0 44 [] [] mem := by
  rw [f_X6_readSteps_b44] at h
  refine ug_iconst dX6_readSteps_44 un_iconst_1 ?_
  obtain rfl := Option.some.inj h
  exact ug_zret (Or.inr rfl) dX6_readSteps_45
def f_X6_readSteps_b3 (rec : Um → Int32 → Int32 → Option (Um × Int32)) : Nat → Um → Int32 → Int32 → Int32 → Option (Um × Int32)
  | 0, _, _, _, _ => none
  | n + 1, mem, x2, x3, x4 =>
    if 25 ≤ x4 then (f_X6_readSteps_b44 rec mem) else (ubi (f_X5_hasMore mem) (fun m2 r3 => if r3 = 0 then (f_X6_readSteps_b44 rec m2) else (ubi (f_X5_peek m2) (fun m6 r7 => if r7 = 93 then (f_X6_readSteps_b44 rec m6) else (ubi (f_X6_readStep rec m6 x2 x3) (fun m10 r11 => if r11 = 0 then (some (m10, 0)) else ((f_X6_readSteps_b3 rec n) m10 x2 x3 (x4 + 1))))))))
set_option maxRecDepth 20000 in
theorem t_X6_readSteps_b3 {l : Launch} {E : Ue} {rec : Um → Int32 → Int32 → Option (Um × Int32)} (kr : Nat) (hrec : ∀ (mem : Um) (x2 : Int32) (x3 : Int32) (m1 : Um) (r : Int32), rec mem x2 x3 = some (m1, r) → ucr l E kr 0 0 yX6_readSteps cX6_readSteps 5 (some .boolean) [.ref (ue_d E 21), .ref (ue_d E 1), .int x2, .int x3] mem (some (.int r)) m1) : ∀ (n : Nat) (mem : Um) (x2 : Int32) (x3 : Int32) (x4 : Int32) (z : Um × Int32), f_X6_readSteps_b3 rec n mem x2 x3 x4 = some z → ug l E (kr + 9) 0 0 cX6_readSteps 5 RX6 (some .boolean) [] (uz_i z) 0 0 3 [(0, .ref (ue_d E 21)), (1, .ref (ue_d E 1)), (2, .int x2), (3, .int x3), (4, .int x4)] [] mem := by
  intro n
  induction n with
  | zero =>
    intro mem x2 x3 x4 z h
    rw [f_X6_readSteps_b3] at h
    cases h
  | succ n ih =>
    intro mem x2 x3 x4 z h
    rw [f_X6_readSteps_b3] at h
    refine ug_iload 4 dX6_readSteps_3 rfl ?_
    refine ug_bipush dX6_readSteps_5 un_bipush_25 ?_
    refine ug_icmp_ge 44 dX6_readSteps_7 (by decide) (fun q1 => ?_) (fun q1 => ?_)
    · rw [if_pos q1] at h
      refine ug_sub [] [] rfl ?_
      exact t_X6_readSteps_b44 kr hrec mem  _ h
    · rw [if_neg q1] at h
      refine ug_aload_n 1 dX6_readSteps_10 rfl rfl ?_
      obtain ⟨m2, r3, h4, h⟩ := ubi_some h
      refine ug_callVi [] (c_X5_hasMore  h4) kc_X6_32 ro_1 rfl (S := []) rfl (Nat.le_of_ble_eq_true rfl) (by omega) (Nat.le_of_ble_eq_true rfl) dX6_readSteps_11 ?_
      refine ug_if_eq 44 dX6_readSteps_14 (by decide) (fun q5 => ?_) (fun q5 => ?_)
      · rw [if_pos q5] at h
        refine ug_sub [] [] rfl ?_
        exact t_X6_readSteps_b44 kr hrec m2  _ h
      · rw [if_neg q5] at h
        refine ug_aload_n 1 dX6_readSteps_17 rfl rfl ?_
        obtain ⟨m6, r7, h8, h⟩ := ubi_some h
        refine ug_callVi [] (c_X5_peek  h8) kc_X6_42 ro_1 rfl (S := []) rfl (Nat.le_of_ble_eq_true rfl) (by omega) (Nat.le_of_ble_eq_true rfl) dX6_readSteps_18 ?_
        refine ug_bipush dX6_readSteps_21 un_bipush_93 ?_
        refine ug_icmp_eq 44 dX6_readSteps_23 (by decide) (fun q9 => ?_) (fun q9 => ?_)
        · rw [if_pos q9] at h
          refine ug_sub [] [] rfl ?_
          exact t_X6_readSteps_b44 kr hrec m6  _ h
        · rw [if_neg q9] at h
          refine ug_aload_n 0 dX6_readSteps_26 rfl rfl ?_
          refine ug_aload_n 1 dX6_readSteps_27 rfl rfl ?_
          refine ug_iload_n 2 dX6_readSteps_28 rfl rfl ?_
          refine ug_iload_n 3 dX6_readSteps_29 rfl rfl ?_
          obtain ⟨m10, r11, h12, h⟩ := ubi_some h
          refine ug_callVi [.ref (ue_d E 1), .int x2, .int x3] (c_X6_readStep kr hrec h12) kc_X6_46 ro_21 rfl (S := []) rfl (Nat.le_of_ble_eq_true rfl) (by omega) (Nat.le_of_ble_eq_true rfl) dX6_readSteps_30 ?_
          refine ug_if_ne 38 dX6_readSteps_33 (by decide) (fun q13 => ?_) (fun q13 => ?_)
          · rw [if_neg q13] at h
            refine ug_iinc (v := (x4 + 1)) [(4, .int (x4 + 1)), (0, .ref (ue_d E 21)), (1, .ref (ue_d E 1)), (2, .int x2), (3, .int x3)] 4 dX6_readSteps_38 rfl rfl (Nat.le_of_ble_eq_true rfl) rfl ?_
            refine ug_goto 3 dX6_readSteps_41 (by decide) ?_
            refine ug_sub [(0, .ref (ue_d E 21)), (1, .ref (ue_d E 1)), (2, .int x2), (3, .int x3), (4, .int (x4 + 1))] [1, 2, 3, 4, 0] rfl ?_
            exact ih m10 x2 x3 (x4 + 1) _ h
          · rw [if_pos q13] at h
            refine ug_iconst dX6_readSteps_36 un_iconst_0 ?_
            obtain rfl := Option.some.inj h
            exact ug_zret (Or.inl rfl) dX6_readSteps_37
def f_X6_readSteps_e (rec : Um → Int32 → Int32 → Option (Um × Int32)) (mem : Um) (x2 : Int32) (x3 : Int32) : Option (Um × Int32) :=
  f_X6_readSteps_b3 rec UF mem x2 x3 0
set_option maxRecDepth 20000 in
theorem t_X6_readSteps {l : Launch} {E : Ue} {rec : Um → Int32 → Int32 → Option (Um × Int32)} (kr : Nat) (hrec : ∀ (mem : Um) (x2 : Int32) (x3 : Int32) (m1 : Um) (r : Int32), rec mem x2 x3 = some (m1, r) → ucr l E kr 0 0 yX6_readSteps cX6_readSteps 5 (some .boolean) [.ref (ue_d E 21), .ref (ue_d E 1), .int x2, .int x3] mem (some (.int r)) m1) (mem : Um) (x2 : Int32) (x3 : Int32) (z : Um × Int32) (h : f_X6_readSteps_e rec mem x2 x3 = some z) : ug l E (kr + 9) 0 0 cX6_readSteps 5 RX6 (some .boolean) [] (uz_i z) 0 0 0 [(0, .ref (ue_d E 21)), (1, .ref (ue_d E 1)), (2, .int x2), (3, .int x3)] [] mem := by
  rw [f_X6_readSteps_e] at h
  refine ug_iconst dX6_readSteps_0 un_iconst_0 ?_
  refine ug_istore [(4, .int 0), (0, .ref (ue_d E 21)), (1, .ref (ue_d E 1)), (2, .int x2), (3, .int x3)] dX6_readSteps_1 (Nat.le_of_ble_eq_true rfl) rfl ?_
  refine ug_sub [(0, .ref (ue_d E 21)), (1, .ref (ue_d E 1)), (2, .int x2), (3, .int x3), (4, .int 0)] [1, 2, 3, 4, 0] rfl ?_
  exact t_X6_readSteps_b3 kr hrec UF mem x2 x3 0 _ h
def f_X6_readSteps : Nat → Um → Int32 → Int32 → Option (Um × Int32)
  | 0, _, _, _ => none
  | d + 1, mem, x2, x3 => f_X6_readSteps_e (f_X6_readSteps d) mem x2 x3
theorem c_X6_readSteps_d {l : Launch} {E : Ue} : ∀ (d : Nat) (mem : Um) (x2 : Int32) (x3 : Int32) (m1 : Um) (r : Int32), f_X6_readSteps d mem x2 x3 = some (m1, r) → ucr l E (9 * d) 0 0 yX6_readSteps cX6_readSteps 5 (some .boolean) [.ref (ue_d E 21), .ref (ue_d E 1), .int x2, .int x3] mem (some (.int r)) m1
  | 0, _, _, _, _, _, h => by
    rw [f_X6_readSteps] at h
    cases h
  | d + 1, mem, x2, x3, m1, r, h => by
    rw [f_X6_readSteps] at h
    exact ucr_of rfl (Nat.le_of_ble_eq_true rfl) (t_X6_readSteps (9 * d) (fun mem x2 x3 m1 r q => c_X6_readSteps_d d mem x2 x3 m1 r q) mem x2 x3 _ h)
theorem c_X6_readSteps {l : Launch} {E : Ue} (d : Nat) {mem : Um} {x2 : Int32} {x3 : Int32} {m1 : Um} {r : Int32} (h : f_X6_readSteps d mem x2 x3 = some (m1, r)) : ucr l E (9 * d) 0 0 yX6_readSteps cX6_readSteps 5 (some .boolean) [.ref (ue_d E 21), .ref (ue_d E 1), .int x2, .int x3] mem (some (.int r)) m1 := c_X6_readSteps_d d mem x2 x3 m1 r h
-- X6_read
def f_X6_read_b52 (mem : Um) (y0 : Int32) : Option (Um × Int32) :=
  ugd (ub01 y0) (some (mem, y0))
set_option maxRecDepth 20000 in
theorem t_X6_read_b52 {l : Launch} {E : Ue} (mem : Um) (y0 : Int32) (z : Um × Int32) (h : f_X6_read_b52  mem y0 = some z) : ug l E 145 0 0 cX6_read 3 RX6 (some .boolean) [] (uz_i z) 0 0 52 [] [.int y0] mem := by
  rw [f_X6_read_b52] at h
  obtain ⟨g1, h⟩ := ugd_some h
  obtain rfl := Option.some.inj h
  exact ug_zret (of_decide_eq_true g1) dX6_read_52
def f_X6_read_b47 (mem : Um) : Option (Um × Int32) :=
  f_X6_read_b52 mem 1
set_option maxRecDepth 20000 in
theorem t_X6_read_b47 {l : Launch} {E : Ue} (mem : Um) (z : Um × Int32) (h : f_X6_read_b47  mem  = some z) : ug l E 145 0 0 cX6_read 3 RX6 (some .boolean) [] (uz_i z) 0 0 47 [] [] mem := by
  rw [f_X6_read_b47] at h
  refine ug_iconst dX6_read_47 un_iconst_1 ?_
  refine ug_goto 52 dX6_read_48 (by decide) ?_
  exact t_X6_read_b52 mem 1 _ h
def f_X6_read (mem : Um) (x2 : Int32) : Option (Um × Int32) :=
  ubi (f_X6_readSteps UD (um_w (um_w (um_w (um_w mem 21 1 0) 21 2 0) 21 3 0) 21 4 0) x2 0) (fun m1 r2 => if r2 = 0 then (some (m1, 0)) else (ubi (f_X5_hasMore m1) (fun m5 r6 => if r6 = 0 then (f_X6_read_b47 m5) else (ubi (f_X5_failHere m5 1) (fun m9 r10 => if r10 = 0 then (f_X6_read_b52 m9 0) else (f_X6_read_b47 m9))))))
set_option maxRecDepth 20000 in
theorem t_X6_read {l : Launch} {E : Ue} (mem : Um) (x2 : Int32) (z : Um × Int32) (h : f_X6_read  mem x2 = some z) : ug l E 145 0 0 cX6_read 3 RX6 (some .boolean) [] (uz_i z) 0 0 0 [(0, .ref (ue_d E 21)), (1, .ref (ue_d E 1)), (2, .int x2)] [] mem := by
  rw [f_X6_read] at h
  refine ug_aload_n 0 dX6_read_0 rfl rfl ?_
  refine ug_iconst dX6_read_1 un_iconst_0 ?_
  refine ug_putI kp_X6_15 gi_21_1 dX6_read_2 ?_
  refine ug_aload_n 0 dX6_read_5 rfl rfl ?_
  refine ug_iconst dX6_read_6 un_iconst_0 ?_
  refine ug_putI kp_X6_19 gi_21_2 dX6_read_7 ?_
  refine ug_aload_n 0 dX6_read_10 rfl rfl ?_
  refine ug_iconst dX6_read_11 un_iconst_0 ?_
  refine ug_putI kp_X6_22 gi_21_3 dX6_read_12 ?_
  refine ug_aload_n 0 dX6_read_15 rfl rfl ?_
  refine ug_iconst dX6_read_16 un_iconst_0 ?_
  refine ug_putI kp_X6_25 gi_21_4 dX6_read_17 ?_
  refine ug_aload_n 0 dX6_read_20 rfl rfl ?_
  refine ug_aload_n 1 dX6_read_21 rfl rfl ?_
  refine ug_iload_n 2 dX6_read_22 rfl rfl ?_
  refine ug_iconst dX6_read_23 un_iconst_0 ?_
  obtain ⟨m1, r2, h3, h⟩ := ubi_some h
  refine ug_callVi [.ref (ue_d E 1), .int x2, .int 0] (c_X6_readSteps UD h3) kc_X6_28 ro_21 rfl (S := []) rfl (Nat.le_of_ble_eq_true rfl) (Nat.le_of_ble_eq_true rfl) (Nat.le_of_ble_eq_true rfl) dX6_read_24 ?_
  refine ug_if_ne 32 dX6_read_27 (by decide) (fun q4 => ?_) (fun q4 => ?_)
  · rw [if_neg q4] at h
    refine ug_aload_n 1 dX6_read_32 rfl rfl ?_
    obtain ⟨m5, r6, h7, h⟩ := ubi_some h
    refine ug_callVi [] (c_X5_hasMore  h7) kc_X6_32 ro_1 rfl (S := []) rfl (Nat.le_of_ble_eq_true rfl) (Nat.le_of_ble_eq_true rfl) (Nat.le_of_ble_eq_true rfl) dX6_read_33 ?_
    refine ug_if_eq 47 dX6_read_36 (by decide) (fun q8 => ?_) (fun q8 => ?_)
    · rw [if_pos q8] at h
      refine ug_sub [] [] rfl ?_
      exact t_X6_read_b47 m5  _ h
    · rw [if_neg q8] at h
      refine ug_aload_n 1 dX6_read_39 rfl rfl ?_
      refine ug_iconst dX6_read_40 un_iconst_1 ?_
      obtain ⟨m9, r10, h11, h⟩ := ubi_some h
      refine ug_callVi [.int 1] (c_X5_failHere  h11) kc_X6_38 ro_1 rfl (S := []) rfl (Nat.le_of_ble_eq_true rfl) (Nat.le_of_ble_eq_true rfl) (Nat.le_of_ble_eq_true rfl) dX6_read_41 ?_
      refine ug_if_eq 51 dX6_read_44 (by decide) (fun q12 => ?_) (fun q12 => ?_)
      · rw [if_pos q12] at h
        refine ug_iconst dX6_read_51 un_iconst_0 ?_
        refine ug_sub [] [] rfl ?_
        exact t_X6_read_b52 m9 0 _ h
      · rw [if_neg q12] at h
        refine ug_sub [] [] rfl ?_
        exact t_X6_read_b47 m9  _ h
  · rw [if_pos q4] at h
    refine ug_iconst dX6_read_30 un_iconst_0 ?_
    obtain rfl := Option.some.inj h
    exact ug_zret (Or.inl rfl) dX6_read_31
theorem c_X6_read {l : Launch} {E : Ue} {mem : Um} {x2 : Int32} {m1 : Um} {r : Int32} (h : f_X6_read  mem x2 = some (m1, r)) : ucr l E 145 0 0 yX6_read cX6_read 3 (some .boolean) [.ref (ue_d E 21), .ref (ue_d E 1), .int x2] mem (some (.int r)) m1 := ucr_of rfl (Nat.le_of_ble_eq_true rfl) (t_X6_read  mem x2 _ h)
-- X3_note
def f_X3_note_b34 (o : Nat) (mem : Um) : Option (Um × Unit) :=
  some (mem, ())
set_option maxRecDepth 20000 in
theorem t_X3_note_b34 {l : Launch} {E : Ue} {o : Nat} (ho : o = 27 ∨ o = 30 ∨ o = 32 ∨ o = 34) (mem : Um) (z : Um × Unit) (h : f_X3_note_b34 o mem  = some z) : ug l E 2 0 0 cX3_note 2 RX3 none [] (uz_v z) 0 0 34 [] [] mem := by
  rw [f_X3_note_b34] at h
  obtain rfl := Option.some.inj h
  exact ug_vret dX3_note_34
def f_X3_note (o : Nat) (mem : Um) : Option (Um × Unit) :=
  if (mem o 1) < 0 then (f_X3_note_b34 o mem) else (if 16 < (mem o 1) then (f_X3_note_b34 o mem) else (ugd (ucp_ok 0 ((mem o 1) * 28) 28 28 476) (f_X3_note_b34 o (um_cp mem 24 0 (o + 1) ((mem o 1) * 28) 28))))
set_option maxRecDepth 20000 in
theorem t_X3_note {l : Launch} {E : Ue} {o : Nat} (ho : o = 27 ∨ o = 30 ∨ o = 32 ∨ o = 34) (mem : Um) (z : Um × Unit) (h : f_X3_note o mem  = some z) : ug l E 2 0 0 cX3_note 2 RX3 none [] (uz_v z) 0 0 0 [(0, .ref (ue_d E o)), (1, .ref (ue_d E 24))] [] mem := by
  rw [f_X3_note] at h
  refine ug_aload_n 0 dX3_note_0 rfl rfl ?_
  refine ug_getI kf_X3_17 (pa_i1 ho) dX3_note_1 ?_
  refine ug_if_lt 34 dX3_note_4 (by decide) (fun q1 => ?_) (fun q1 => ?_)
  · rw [if_pos q1] at h
    refine ug_sub [] [] rfl ?_
    exact t_X3_note_b34 ho mem  _ h
  · rw [if_neg q1] at h
    refine ug_aload_n 0 dX3_note_7 rfl rfl ?_
    refine ug_getI kf_X3_17 (pa_i1 ho) dX3_note_8 ?_
    refine ug_bipush dX3_note_11 un_bipush_16 ?_
    refine ug_icmp_gt 34 dX3_note_13 (by decide) (fun q2 => ?_) (fun q2 => ?_)
    · rw [if_pos q2] at h
      refine ug_sub [] [] rfl ?_
      exact t_X3_note_b34 ho mem  _ h
    · rw [if_neg q2] at h
      refine ug_aload_n 1 dX3_note_16 rfl rfl ?_
      refine ug_iconst dX3_note_17 un_iconst_0 ?_
      refine ug_aload_n 0 dX3_note_18 rfl rfl ?_
      refine ug_getR kf_X3_11 (pa_r0 ho) dX3_note_19 ?_
      refine ug_aload_n 0 dX3_note_22 rfl rfl ?_
      refine ug_getI kf_X3_17 (pa_i1 ho) dX3_note_23 ?_
      refine ug_bipush dX3_note_26 un_bipush_28 ?_
      refine ug_imul dX3_note_28 ?_
      refine ug_bipush dX3_note_29 un_bipush_28 ?_
      obtain ⟨g3, h⟩ := ugd_some h
      refine ug_copy kl_X3_21 al_24 (pa_a ho) g3 (Nat.le_of_ble_eq_true rfl) (Nat.le_of_ble_eq_true rfl) dX3_note_31 ?_
      refine ug_sub [] [] rfl ?_
      exact t_X3_note_b34 ho (um_cp mem 24 0 (o + 1) ((mem o 1) * 28) 28)  _ h
theorem c_X3_note {l : Launch} {E : Ue} {o : Nat} (ho : o = 27 ∨ o = 30 ∨ o = 32 ∨ o = 34) {mem : Um} {m1 : Um} {r : Unit} (h : f_X3_note o mem  = some (m1, r)) : ucr l E 2 0 0 yX3_note cX3_note 2 none [.ref (ue_d E o), .ref (ue_d E 24)] mem none m1 := ucr_of rfl (Nat.le_of_ble_eq_true rfl) (t_X3_note ho mem  _ h)
-- X4_has
def f_X4_has_b17 (o : Nat) (mem : Um) (y0 : Int32) : Option (Um × Int32) :=
  ugd (ub01 y0) (some (mem, y0))
set_option maxRecDepth 20000 in
theorem t_X4_has_b17 {l : Launch} {E : Ue} {o : Nat} (ho : o = 23 ∨ o = 25) (mem : Um) (y0 : Int32) (z : Um × Int32) (h : f_X4_has_b17 o mem y0 = some z) : ug l E 2 0 0 cX4_has 2 RX4 (some .boolean) [] (uz_i z) 0 0 17 [] [.int y0] mem := by
  rw [f_X4_has_b17] at h
  obtain ⟨g1, h⟩ := ugd_some h
  obtain rfl := Option.some.inj h
  exact ug_zret (of_decide_eq_true g1) dX4_has_17
def f_X4_has (o : Nat) (mem : Um) (x1 : Int32) : Option (Um × Int32) :=
  ugd (uin (13 + x1) 28) (if (mem (o + 1) (13 + x1).toNatClampNeg) ≤ 0 then (f_X4_has_b17 o mem 0) else (f_X4_has_b17 o mem 1))
set_option maxRecDepth 20000 in
theorem t_X4_has {l : Launch} {E : Ue} {o : Nat} (ho : o = 23 ∨ o = 25) (mem : Um) (x1 : Int32) (z : Um × Int32) (h : f_X4_has o mem x1 = some z) : ug l E 2 0 0 cX4_has 2 RX4 (some .boolean) [] (uz_i z) 0 0 0 [(0, .ref (ue_d E o)), (1, .int x1)] [] mem := by
  rw [f_X4_has] at h
  refine ug_aload_n 0 dX4_has_0 rfl rfl ?_
  refine ug_getR kf_X4_11 (sk_r2 ho) dX4_has_1 ?_
  refine ug_bipush dX4_has_4 un_bipush_13 ?_
  refine ug_iload_n 1 dX4_has_6 rfl rfl ?_
  refine ug_iadd dX4_has_7 ?_
  obtain ⟨g1, h⟩ := ugd_some h
  refine ug_iald (sk_a ho) (uin_ok g1) dX4_has_8 ?_
  refine ug_if_le 16 dX4_has_9 (by decide) (fun q2 => ?_) (fun q2 => ?_)
  · rw [if_pos q2] at h
    refine ug_iconst dX4_has_16 un_iconst_0 ?_
    refine ug_sub [] [] rfl ?_
    exact t_X4_has_b17 ho mem 0 _ h
  · rw [if_neg q2] at h
    refine ug_iconst dX4_has_12 un_iconst_1 ?_
    refine ug_goto 17 dX4_has_13 (by decide) ?_
    refine ug_sub [] [] rfl ?_
    exact t_X4_has_b17 ho mem 1 _ h
theorem c_X4_has {l : Launch} {E : Ue} {o : Nat} (ho : o = 23 ∨ o = 25) {mem : Um} {x1 : Int32} {m1 : Um} {r : Int32} (h : f_X4_has o mem x1 = some (m1, r)) : ucr l E 2 0 0 yX4_has cX4_has 2 (some .boolean) [.ref (ue_d E o), .int x1] mem (some (.int r)) m1 := ucr_of rfl (Nat.le_of_ble_eq_true rfl) (t_X4_has ho mem x1 _ h)
-- X4_price
def f_X4_price (mem : Um) (x0 : Int32) : Option (Um × Int32) :=
  some (mem, (1 + (x0 / 5)))
set_option maxRecDepth 20000 in
theorem t_X4_price {l : Launch} {E : Ue} (mem : Um) (x0 : Int32) (z : Um × Int32) (h : f_X4_price  mem x0 = some z) : ug l E 2 0 0 cX4_price 1 RX4 (some .int) [] (uz_i z) 0 0 0 [(0, .int x0)] [] mem := by
  rw [f_X4_price] at h
  refine ug_iconst dX4_price_0 un_iconst_1 ?_
  refine ug_iload_n 0 dX4_price_1 rfl rfl ?_
  refine ug_iconst dX4_price_2 un_iconst_5 ?_
  refine ug_idiv dX4_price_3 (by decide) ?_
  refine ug_iadd dX4_price_4 ?_
  obtain rfl := Option.some.inj h
  exact ug_iret dX4_price_5
theorem c_X4_price {l : Launch} {E : Ue} {mem : Um} {x0 : Int32} {m1 : Um} {r : Int32} (h : f_X4_price  mem x0 = some (m1, r)) : ucr l E 2 0 0 yX4_price cX4_price 1 (some .int) [.int x0] mem (some (.int r)) m1 := ucr_of rfl (Nat.le_of_ble_eq_true rfl) (t_X4_price  mem x0 _ h)
-- X4_canBlow
def f_X4_canBlow_b28 (o : Nat) (mem : Um) (y0 : Int32) : Option (Um × Int32) :=
  ugd (ub01 y0) (some (mem, y0))
set_option maxRecDepth 20000 in
theorem t_X4_canBlow_b28 {l : Launch} {E : Ue} {o : Nat} (ho : o = 23 ∨ o = 25) (mem : Um) (y0 : Int32) (z : Um × Int32) (h : f_X4_canBlow_b28 o mem y0 = some z) : ug l E 3 0 0 cX4_canBlow 3 RX4 (some .boolean) [] (uz_i z) 0 0 28 [] [.int y0] mem := by
  rw [f_X4_canBlow_b28] at h
  obtain ⟨g1, h⟩ := ugd_some h
  obtain rfl := Option.some.inj h
  exact ug_zret (of_decide_eq_true g1) dX4_canBlow_28
def f_X4_canBlow_b27 (o : Nat) (mem : Um) : Option (Um × Int32) :=
  f_X4_canBlow_b28 o mem 0
set_option maxRecDepth 20000 in
theorem t_X4_canBlow_b27 {l : Launch} {E : Ue} {o : Nat} (ho : o = 23 ∨ o = 25) (mem : Um) (z : Um × Int32) (h : f_X4_canBlow_b27 o mem  = some z) : ug l E 3 0 0 cX4_canBlow 3 RX4 (some .boolean) [] (uz_i z) 0 0 27 [] [] mem := by
  rw [f_X4_canBlow_b27] at h
  refine ug_iconst dX4_canBlow_27 un_iconst_0 ?_
  exact t_X4_canBlow_b28 ho mem 0 _ h
def f_X4_canBlow (o : Nat) (mem : Um) (x1 : Int32) (x2 : Int32) : Option (Um × Int32) :=
  ubi (f_X4_has o mem x1) (fun m1 r2 => if r2 = 0 then (ugd (uin (3 + x1) 28) (ubi (f_X4_price m1 x2) (fun m6 r7 => if (m1 (o + 1) (3 + x1).toNatClampNeg) < r7 then (f_X4_canBlow_b27 o m6) else (f_X4_canBlow_b28 o m6 1)))) else (f_X4_canBlow_b27 o m1))
set_option maxRecDepth 20000 in
theorem t_X4_canBlow {l : Launch} {E : Ue} {o : Nat} (ho : o = 23 ∨ o = 25) (mem : Um) (x1 : Int32) (x2 : Int32) (z : Um × Int32) (h : f_X4_canBlow o mem x1 x2 = some z) : ug l E 3 0 0 cX4_canBlow 3 RX4 (some .boolean) [] (uz_i z) 0 0 0 [(0, .ref (ue_d E o)), (1, .int x1), (2, .int x2)] [] mem := by
  rw [f_X4_canBlow] at h
  refine ug_aload_n 0 dX4_canBlow_0 rfl rfl ?_
  refine ug_iload_n 1 dX4_canBlow_1 rfl rfl ?_
  obtain ⟨m1, r2, h3, h⟩ := ubi_some h
  refine ug_callVi [.int x1] (c_X4_has ho h3) kc_X4_47 (sk_o ho) rfl (S := []) rfl (Nat.le_of_ble_eq_true rfl) (Nat.le_of_ble_eq_true rfl) (Nat.le_of_ble_eq_true rfl) dX4_canBlow_2 ?_
  refine ug_if_ne 27 dX4_canBlow_5 (by decide) (fun q4 => ?_) (fun q4 => ?_)
  · rw [if_neg q4] at h
    refine ug_sub [] [] rfl ?_
    exact t_X4_canBlow_b27 ho m1  _ h
  · rw [if_pos q4] at h
    refine ug_aload_n 0 dX4_canBlow_8 rfl rfl ?_
    refine ug_getR kf_X4_11 (sk_r2 ho) dX4_canBlow_9 ?_
    refine ug_iconst dX4_canBlow_12 un_iconst_3 ?_
    refine ug_iload_n 1 dX4_canBlow_13 rfl rfl ?_
    refine ug_iadd dX4_canBlow_14 ?_
    obtain ⟨g5, h⟩ := ugd_some h
    refine ug_iald (sk_a ho) (uin_ok g5) dX4_canBlow_15 ?_
    refine ug_iload_n 2 dX4_canBlow_16 rfl rfl ?_
    obtain ⟨m6, r7, h8, h⟩ := ubi_some h
    refine ug_callSi [.int x2] (c_X4_price  h8) kc_X4_106 rfl (S := [.int (m1 (o + 1) (3 + x1).toNatClampNeg)]) rfl (Nat.le_of_ble_eq_true rfl) (Nat.le_of_ble_eq_true rfl) (Nat.le_of_ble_eq_true rfl) dX4_canBlow_17 ?_
    refine ug_icmp_lt 27 dX4_canBlow_20 (by decide) (fun q9 => ?_) (fun q9 => ?_)
    · rw [if_pos q9] at h
      refine ug_sub [] [] rfl ?_
      exact t_X4_canBlow_b27 ho m6  _ h
    · rw [if_neg q9] at h
      refine ug_iconst dX4_canBlow_23 un_iconst_1 ?_
      refine ug_goto 28 dX4_canBlow_24 (by decide) ?_
      refine ug_sub [] [] rfl ?_
      exact t_X4_canBlow_b28 ho m6 1 _ h
theorem c_X4_canBlow {l : Launch} {E : Ue} {o : Nat} (ho : o = 23 ∨ o = 25) {mem : Um} {x1 : Int32} {x2 : Int32} {m1 : Um} {r : Int32} (h : f_X4_canBlow o mem x1 x2 = some (m1, r)) : ucr l E 3 0 0 yX4_canBlow cX4_canBlow 3 (some .boolean) [.ref (ue_d E o), .int x1, .int x2] mem (some (.int r)) m1 := ucr_of rfl (Nat.le_of_ble_eq_true rfl) (t_X4_canBlow ho mem x1 x2 _ h)
-- X4_putBubble
def f_X4_putBubble (o : Nat) (mem : Um) (x1 : Int32) (x2 : Int32) (x3 : Int32) (x4 : Int32) : Option (Um × Unit) :=
  ugd (uin (13 + x1) 28) (ugd (uin (18 + x1) 28) (ugd (uin (23 + x1) 28) (some ((um_w (um_w (um_w mem (o + 1) (13 + x1).toNatClampNeg x2) (o + 1) (18 + x1).toNatClampNeg x3) (o + 1) (23 + x1).toNatClampNeg x4), ()))))
set_option maxRecDepth 20000 in
theorem t_X4_putBubble {l : Launch} {E : Ue} {o : Nat} (ho : o = 23 ∨ o = 25) (mem : Um) (x1 : Int32) (x2 : Int32) (x3 : Int32) (x4 : Int32) (z : Um × Unit) (h : f_X4_putBubble o mem x1 x2 x3 x4 = some z) : ug l E 2 0 0 cX4_putBubble 5 RX4 none [] (uz_v z) 0 0 0 [(0, .ref (ue_d E o)), (1, .int x1), (2, .int x2), (3, .int x3), (4, .int x4)] [] mem := by
  rw [f_X4_putBubble] at h
  refine ug_aload_n 0 dX4_putBubble_0 rfl rfl ?_
  refine ug_getR kf_X4_11 (sk_r2 ho) dX4_putBubble_1 ?_
  refine ug_bipush dX4_putBubble_4 un_bipush_13 ?_
  refine ug_iload_n 1 dX4_putBubble_6 rfl rfl ?_
  refine ug_iadd dX4_putBubble_7 ?_
  refine ug_iload_n 2 dX4_putBubble_8 rfl rfl ?_
  obtain ⟨g1, h⟩ := ugd_some h
  refine ug_iast (sk_a ho) (uin_ok g1) dX4_putBubble_9 ?_
  refine ug_aload_n 0 dX4_putBubble_10 rfl rfl ?_
  refine ug_getR kf_X4_11 (sk_r2 ho) dX4_putBubble_11 ?_
  refine ug_bipush dX4_putBubble_14 un_bipush_18 ?_
  refine ug_iload_n 1 dX4_putBubble_16 rfl rfl ?_
  refine ug_iadd dX4_putBubble_17 ?_
  refine ug_iload_n 3 dX4_putBubble_18 rfl rfl ?_
  obtain ⟨g2, h⟩ := ugd_some h
  refine ug_iast (sk_a ho) (uin_ok g2) dX4_putBubble_19 ?_
  refine ug_aload_n 0 dX4_putBubble_20 rfl rfl ?_
  refine ug_getR kf_X4_11 (sk_r2 ho) dX4_putBubble_21 ?_
  refine ug_bipush dX4_putBubble_24 un_bipush_23 ?_
  refine ug_iload_n 1 dX4_putBubble_26 rfl rfl ?_
  refine ug_iadd dX4_putBubble_27 ?_
  refine ug_iload 4 dX4_putBubble_28 rfl ?_
  obtain ⟨g3, h⟩ := ugd_some h
  refine ug_iast (sk_a ho) (uin_ok g3) dX4_putBubble_30 ?_
  obtain rfl := Option.some.inj h
  exact ug_vret dX4_putBubble_31
theorem c_X4_putBubble {l : Launch} {E : Ue} {o : Nat} (ho : o = 23 ∨ o = 25) {mem : Um} {x1 : Int32} {x2 : Int32} {x3 : Int32} {x4 : Int32} {m1 : Um} {r : Unit} (h : f_X4_putBubble o mem x1 x2 x3 x4 = some (m1, r)) : ucr l E 2 0 0 yX4_putBubble cX4_putBubble 5 none [.ref (ue_d E o), .int x1, .int x2, .int x3, .int x4] mem none m1 := ucr_of rfl (Nat.le_of_ble_eq_true rfl) (t_X4_putBubble ho mem x1 x2 x3 x4 _ h)
-- X4_blow
def f_X4_blow (o : Nat) (mem : Um) (x1 : Int32) (x2 : Int32) : Option (Um × Int32) :=
  ubi (f_X4_canBlow o mem x1 x2) (fun m1 r2 => if r2 = 0 then (some (m1, 0)) else (ugd (uin (3 + x1) 28) (ubi (f_X4_price m1 x2) (fun m6 r7 => ugd (uin (3 + x1) 28) (ugd (uin (8 + x1) 28) (ubi (f_X4_putBubble o (um_w (um_w m6 (o + 1) (3 + x1).toNatClampNeg ((m1 (o + 1) (3 + x1).toNatClampNeg) - r7)) (o + 1) 1 (((um_w m6 (o + 1) (3 + x1).toNatClampNeg ((m1 (o + 1) (3 + x1).toNatClampNeg) - r7)) (o + 1) 1) + 1)) x1 x2 ((um_w (um_w m6 (o + 1) (3 + x1).toNatClampNeg ((m1 (o + 1) (3 + x1).toNatClampNeg) - r7)) (o + 1) 1 (((um_w m6 (o + 1) (3 + x1).toNatClampNeg ((m1 (o + 1) (3 + x1).toNatClampNeg) - r7)) (o + 1) 1) + 1)) (o + 1) (8 + x1).toNatClampNeg) 0) (fun m11 r12 => some (m11, 1))))))))
set_option maxRecDepth 20000 in
theorem t_X4_blow {l : Launch} {E : Ue} {o : Nat} (ho : o = 23 ∨ o = 25) (mem : Um) (x1 : Int32) (x2 : Int32) (z : Um × Int32) (h : f_X4_blow o mem x1 x2 = some z) : ug l E 4 0 0 cX4_blow 3 RX4 (some .boolean) [] (uz_i z) 0 0 0 [(0, .ref (ue_d E o)), (1, .int x1), (2, .int x2)] [] mem := by
  rw [f_X4_blow] at h
  refine ug_aload_n 0 dX4_blow_0 rfl rfl ?_
  refine ug_iload_n 1 dX4_blow_1 rfl rfl ?_
  refine ug_iload_n 2 dX4_blow_2 rfl rfl ?_
  obtain ⟨m1, r2, h3, h⟩ := ubi_some h
  refine ug_callVi [.int x1, .int x2] (c_X4_canBlow ho h3) kc_X4_109 (sk_o ho) rfl (S := []) rfl (Nat.le_of_ble_eq_true rfl) (Nat.le_of_ble_eq_true rfl) (Nat.le_of_ble_eq_true rfl) dX4_blow_3 ?_
  refine ug_if_ne 11 dX4_blow_6 (by decide) (fun q4 => ?_) (fun q4 => ?_)
  · rw [if_neg q4] at h
    refine ug_aload_n 0 dX4_blow_11 rfl rfl ?_
    refine ug_getR kf_X4_11 (sk_r2 ho) dX4_blow_12 ?_
    refine ug_iconst dX4_blow_15 un_iconst_3 ?_
    refine ug_iload_n 1 dX4_blow_16 rfl rfl ?_
    refine ug_iadd dX4_blow_17 ?_
    refine ug_dup2 dX4_blow_18 rfl rfl ?_
    obtain ⟨g5, h⟩ := ugd_some h
    refine ug_iald (sk_a ho) (uin_ok g5) dX4_blow_19 ?_
    refine ug_iload_n 2 dX4_blow_20 rfl rfl ?_
    obtain ⟨m6, r7, h8, h⟩ := ubi_some h
    refine ug_callSi [.int x2] (c_X4_price  h8) kc_X4_106 rfl (S := [.int (m1 (o + 1) (3 + x1).toNatClampNeg), .int (3 + x1), .ref (ue_d E (o + 1))]) rfl (Nat.le_of_ble_eq_true rfl) (Nat.le_of_ble_eq_true rfl) (Nat.le_of_ble_eq_true rfl) dX4_blow_21 ?_
    refine ug_isub dX4_blow_24 ?_
    obtain ⟨g9, h⟩ := ugd_some h
    refine ug_iast (sk_a ho) (uin_ok g9) dX4_blow_25 ?_
    refine ug_aload_n 0 dX4_blow_26 rfl rfl ?_
    refine ug_getR kf_X4_11 (sk_r2 ho) dX4_blow_27 ?_
    refine ug_iconst dX4_blow_30 un_iconst_1 ?_
    refine ug_dup2 dX4_blow_31 rfl rfl ?_
    refine ug_ialdK (sk_a ho) ui_1_28 uc_1 dX4_blow_32 ?_
    refine ug_iconst dX4_blow_33 un_iconst_1 ?_
    refine ug_iadd dX4_blow_34 ?_
    refine ug_iastK (sk_a ho) ui_1_28 uc_1 dX4_blow_35 ?_
    refine ug_aload_n 0 dX4_blow_36 rfl rfl ?_
    refine ug_iload_n 1 dX4_blow_37 rfl rfl ?_
    refine ug_iload_n 2 dX4_blow_38 rfl rfl ?_
    refine ug_aload_n 0 dX4_blow_39 rfl rfl ?_
    refine ug_getR kf_X4_11 (sk_r2 ho) dX4_blow_40 ?_
    refine ug_bipush dX4_blow_43 un_bipush_8 ?_
    refine ug_iload_n 1 dX4_blow_45 rfl rfl ?_
    refine ug_iadd dX4_blow_46 ?_
    obtain ⟨g10, h⟩ := ugd_some h
    refine ug_iald (sk_a ho) (uin_ok g10) dX4_blow_47 ?_
    refine ug_iconst dX4_blow_48 un_iconst_0 ?_
    obtain ⟨m11, r12, h13, h⟩ := ubi_some h
    refine ug_callVv [.int x1, .int x2, .int ((um_w (um_w m6 (o + 1) (3 + x1).toNatClampNeg ((m1 (o + 1) (3 + x1).toNatClampNeg) - r7)) (o + 1) 1 (((um_w m6 (o + 1) (3 + x1).toNatClampNeg ((m1 (o + 1) (3 + x1).toNatClampNeg) - r7)) (o + 1) 1) + 1)) (o + 1) (8 + x1).toNatClampNeg), .int 0] (c_X4_putBubble ho h13) kc_X4_112 (sk_o ho) rfl (S := []) rfl (Nat.le_of_ble_eq_true rfl) (Nat.le_of_ble_eq_true rfl) (Nat.le_of_ble_eq_true rfl) dX4_blow_49 ?_
    refine ug_iconst dX4_blow_52 un_iconst_1 ?_
    obtain rfl := Option.some.inj h
    exact ug_zret (Or.inr rfl) dX4_blow_53
  · rw [if_pos q4] at h
    refine ug_iconst dX4_blow_9 un_iconst_0 ?_
    obtain rfl := Option.some.inj h
    exact ug_zret (Or.inl rfl) dX4_blow_10
theorem c_X4_blow {l : Launch} {E : Ue} {o : Nat} (ho : o = 23 ∨ o = 25) {mem : Um} {x1 : Int32} {x2 : Int32} {m1 : Um} {r : Int32} (h : f_X4_blow o mem x1 x2 = some (m1, r)) : ucr l E 4 0 0 yX4_blow cX4_blow 3 (some .boolean) [.ref (ue_d E o), .int x1, .int x2] mem (some (.int r)) m1 := ucr_of rfl (Nat.le_of_ble_eq_true rfl) (t_X4_blow ho mem x1 x2 _ h)
-- X4_holders
def f_X4_holders_b23 (o : Nat) (k4 : Um → Int32 → Int32 → Option (Um × Int32)) (mem : Um) (x1 : Int32) (x2 : Int32) : Option (Um × Int32) :=
  k4 mem x1 (x2 + 1)
set_option maxRecDepth 20000 in
theorem t_X4_holders_b23 {l : Launch} {E : Ue} {o : Nat} (ho : o = 23 ∨ o = 25) (k4 : Um → Int32 → Int32 → Option (Um × Int32)) (hk4 : ∀ (mem : Um) (x1 : Int32) (x2 : Int32) (z : Um × Int32), k4 mem x1 x2 = some z → ug l E 3 0 0 cX4_holders 3 RX4 (some .int) [] (uz_i z) 0 0 4 [(0, .ref (ue_d E o)), (1, .int x1), (2, .int x2)] [] mem) (mem : Um) (x1 : Int32) (x2 : Int32) (z : Um × Int32) (h : f_X4_holders_b23 o k4 mem x1 x2 = some z) : ug l E 3 0 0 cX4_holders 3 RX4 (some .int) [] (uz_i z) 0 0 23 [(0, .ref (ue_d E o)), (1, .int x1), (2, .int x2)] [] mem := by
  rw [f_X4_holders_b23] at h
  refine ug_iinc (v := (x2 + 1)) [(2, .int (x2 + 1)), (0, .ref (ue_d E o)), (1, .int x1)] 2 dX4_holders_23 rfl rfl (Nat.le_of_ble_eq_true rfl) rfl ?_
  refine ug_goto 4 dX4_holders_26 (by decide) ?_
  refine ug_sub [(0, .ref (ue_d E o)), (1, .int x1), (2, .int (x2 + 1))] [1, 2, 0] rfl ?_
  exact hk4 mem x1 (x2 + 1) _ h
def f_X4_holders_b4 (o : Nat) : Nat → Um → Int32 → Int32 → Option (Um × Int32)
  | 0, _, _, _ => none
  | n + 1, mem, x1, x2 =>
    if 5 ≤ x2 then (some (mem, x1)) else (ubi (f_X4_has o mem x2) (fun m2 r3 => if r3 = 0 then (f_X4_holders_b23 o (f_X4_holders_b4 o n) m2 x1 x2) else (f_X4_holders_b23 o (f_X4_holders_b4 o n) m2 (x1 ||| (1 <<< (x2 &&& 31))) x2)))
set_option maxRecDepth 20000 in
theorem t_X4_holders_b4 {l : Launch} {E : Ue} {o : Nat} (ho : o = 23 ∨ o = 25) : ∀ (n : Nat) (mem : Um) (x1 : Int32) (x2 : Int32) (z : Um × Int32), f_X4_holders_b4 o n mem x1 x2 = some z → ug l E 3 0 0 cX4_holders 3 RX4 (some .int) [] (uz_i z) 0 0 4 [(0, .ref (ue_d E o)), (1, .int x1), (2, .int x2)] [] mem := by
  intro n
  induction n with
  | zero =>
    intro mem x1 x2 z h
    rw [f_X4_holders_b4] at h
    cases h
  | succ n ih =>
    intro mem x1 x2 z h
    rw [f_X4_holders_b4] at h
    refine ug_iload_n 2 dX4_holders_4 rfl rfl ?_
    refine ug_iconst dX4_holders_5 un_iconst_5 ?_
    refine ug_icmp_ge 29 dX4_holders_6 (by decide) (fun q1 => ?_) (fun q1 => ?_)
    · rw [if_pos q1] at h
      refine ug_iload_n 1 dX4_holders_29 rfl rfl ?_
      obtain rfl := Option.some.inj h
      exact ug_iret dX4_holders_30
    · rw [if_neg q1] at h
      refine ug_aload_n 0 dX4_holders_9 rfl rfl ?_
      refine ug_iload_n 2 dX4_holders_10 rfl rfl ?_
      obtain ⟨m2, r3, h4, h⟩ := ubi_some h
      refine ug_callVi [.int x2] (c_X4_has ho h4) kc_X4_47 (sk_o ho) rfl (S := []) rfl (Nat.le_of_ble_eq_true rfl) (Nat.le_of_ble_eq_true rfl) (Nat.le_of_ble_eq_true rfl) dX4_holders_11 ?_
      refine ug_if_eq 23 dX4_holders_14 (by decide) (fun q5 => ?_) (fun q5 => ?_)
      · rw [if_pos q5] at h
        exact t_X4_holders_b23 ho (f_X4_holders_b4 o n) ih m2 x1 x2 _ h
      · rw [if_neg q5] at h
        refine ug_iload_n 1 dX4_holders_17 rfl rfl ?_
        refine ug_iconst dX4_holders_18 un_iconst_1 ?_
        refine ug_iload_n 2 dX4_holders_19 rfl rfl ?_
        refine ug_ishl dX4_holders_20 ?_
        refine ug_ior dX4_holders_21 ?_
        refine ug_istore_n [(1, .int (x1 ||| (1 <<< (x2 &&& 31)))), (0, .ref (ue_d E o)), (2, .int x2)] dX4_holders_22 rfl (Nat.le_of_ble_eq_true rfl) rfl ?_
        refine ug_sub [(0, .ref (ue_d E o)), (1, .int (x1 ||| (1 <<< (x2 &&& 31)))), (2, .int x2)] [1, 0, 2] rfl ?_
        exact t_X4_holders_b23 ho (f_X4_holders_b4 o n) ih m2 (x1 ||| (1 <<< (x2 &&& 31))) x2 _ h
def f_X4_holders (o : Nat) (mem : Um) : Option (Um × Int32) :=
  f_X4_holders_b4 o UF mem 0 0
set_option maxRecDepth 20000 in
theorem t_X4_holders {l : Launch} {E : Ue} {o : Nat} (ho : o = 23 ∨ o = 25) (mem : Um) (z : Um × Int32) (h : f_X4_holders o mem  = some z) : ug l E 3 0 0 cX4_holders 3 RX4 (some .int) [] (uz_i z) 0 0 0 [(0, .ref (ue_d E o))] [] mem := by
  rw [f_X4_holders] at h
  refine ug_iconst dX4_holders_0 un_iconst_0 ?_
  refine ug_istore_n [(1, .int 0), (0, .ref (ue_d E o))] dX4_holders_1 rfl (Nat.le_of_ble_eq_true rfl) rfl ?_
  refine ug_iconst dX4_holders_2 un_iconst_0 ?_
  refine ug_istore_n [(2, .int 0), (1, .int 0), (0, .ref (ue_d E o))] dX4_holders_3 rfl (Nat.le_of_ble_eq_true rfl) rfl ?_
  refine ug_sub [(0, .ref (ue_d E o)), (1, .int 0), (2, .int 0)] [2, 1, 0] rfl ?_
  exact t_X4_holders_b4 ho UF mem 0 0 _ h
theorem c_X4_holders {l : Launch} {E : Ue} {o : Nat} (ho : o = 23 ∨ o = 25) {mem : Um} {m1 : Um} {r : Int32} (h : f_X4_holders o mem  = some (m1, r)) : ucr l E 3 0 0 yX4_holders cX4_holders 3 (some .int) [.ref (ue_d E o)] mem (some (.int r)) m1 := ucr_of rfl (Nat.le_of_ble_eq_true rfl) (t_X4_holders ho mem  _ h)
-- X4_carriedOff
def f_X4_carriedOff_b48 (o : Nat) (k4 : Um → Int32 → Int32 → Int32 → Option (Um × Int32)) (mem : Um) (x1 : Int32) (x2 : Int32) (x3 : Int32) : Option (Um × Int32) :=
  k4 mem x1 x2 (x3 + 1)
set_option maxRecDepth 20000 in
theorem t_X4_carriedOff_b48 {l : Launch} {E : Ue} {o : Nat} (ho : o = 23 ∨ o = 25) (k4 : Um → Int32 → Int32 → Int32 → Option (Um × Int32)) (hk4 : ∀ (mem : Um) (x1 : Int32) (x2 : Int32) (x3 : Int32) (z : Um × Int32), k4 mem x1 x2 x3 = some z → ug l E 3 0 0 cX4_carriedOff 5 RX4 (some .int) [] (uz_i z) 0 0 4 [(0, .ref (ue_d E o)), (1, .int x1), (2, .int x2), (3, .int x3)] [] mem) (mem : Um) (x1 : Int32) (x2 : Int32) (x3 : Int32) (z : Um × Int32) (h : f_X4_carriedOff_b48 o k4 mem x1 x2 x3 = some z) : ug l E 3 0 0 cX4_carriedOff 5 RX4 (some .int) [] (uz_i z) 0 0 48 [(0, .ref (ue_d E o)), (1, .int x1), (2, .int x2), (3, .int x3)] [] mem := by
  rw [f_X4_carriedOff_b48] at h
  refine ug_iinc (v := (x3 + 1)) [(3, .int (x3 + 1)), (0, .ref (ue_d E o)), (1, .int x1), (2, .int x2)] 3 dX4_carriedOff_48 rfl rfl (Nat.le_of_ble_eq_true rfl) rfl ?_
  refine ug_goto 4 dX4_carriedOff_51 (by decide) ?_
  refine ug_sub [(0, .ref (ue_d E o)), (1, .int x1), (2, .int x2), (3, .int (x3 + 1))] [1, 2, 3, 0] rfl ?_
  exact hk4 mem x1 x2 (x3 + 1) _ h
def f_X4_carriedOff_b42 (o : Nat) (k4 : Um → Int32 → Int32 → Int32 → Option (Um × Int32)) (mem : Um) (x1 : Int32) (x2 : Int32) (x3 : Int32) : Option (Um × Int32) :=
  f_X4_carriedOff_b48 o k4 mem x1 (x2 ||| (1 <<< (x3 &&& 31))) x3
set_option maxRecDepth 20000 in
theorem t_X4_carriedOff_b42 {l : Launch} {E : Ue} {o : Nat} (ho : o = 23 ∨ o = 25) (k4 : Um → Int32 → Int32 → Int32 → Option (Um × Int32)) (hk4 : ∀ (mem : Um) (x1 : Int32) (x2 : Int32) (x3 : Int32) (z : Um × Int32), k4 mem x1 x2 x3 = some z → ug l E 3 0 0 cX4_carriedOff 5 RX4 (some .int) [] (uz_i z) 0 0 4 [(0, .ref (ue_d E o)), (1, .int x1), (2, .int x2), (3, .int x3)] [] mem) (mem : Um) (x1 : Int32) (x2 : Int32) (x3 : Int32) (z : Um × Int32) (h : f_X4_carriedOff_b42 o k4 mem x1 x2 x3 = some z) : ug l E 3 0 0 cX4_carriedOff 5 RX4 (some .int) [] (uz_i z) 0 0 42 [(0, .ref (ue_d E o)), (1, .int x1), (2, .int x2), (3, .int x3)] [] mem := by
  rw [f_X4_carriedOff_b42] at h
  refine ug_iload_n 2 dX4_carriedOff_42 rfl rfl ?_
  refine ug_iconst dX4_carriedOff_43 un_iconst_1 ?_
  refine ug_iload_n 3 dX4_carriedOff_44 rfl rfl ?_
  refine ug_ishl dX4_carriedOff_45 ?_
  refine ug_ior dX4_carriedOff_46 ?_
  refine ug_istore_n [(2, .int (x2 ||| (1 <<< (x3 &&& 31)))), (0, .ref (ue_d E o)), (1, .int x1), (3, .int x3)] dX4_carriedOff_47 rfl (Nat.le_of_ble_eq_true rfl) rfl ?_
  refine ug_sub [(0, .ref (ue_d E o)), (1, .int x1), (2, .int (x2 ||| (1 <<< (x3 &&& 31)))), (3, .int x3)] [1, 2, 0, 3] rfl ?_
  exact t_X4_carriedOff_b48 ho k4 hk4 mem x1 (x2 ||| (1 <<< (x3 &&& 31))) x3 _ h
def f_X4_carriedOff_b4 (o : Nat) : Nat → Um → Int32 → Int32 → Int32 → Option (Um × Int32)
  | 0, _, _, _, _ => none
  | n + 1, mem, x1, x2, x3 =>
    if 5 ≤ x3 then (some (mem, x2)) else (ugd (uin (18 + x3) 28) (ubi (f_X4_has o mem x3) (fun m3 r4 => if r4 = 0 then (f_X4_carriedOff_b48 o (f_X4_carriedOff_b4 o n) m3 x1 x2 x3) else (if ((mem (o + 1) (18 + x3).toNatClampNeg) + x1) < 0 then (f_X4_carriedOff_b42 o (f_X4_carriedOff_b4 o n) m3 x1 x2 x3) else (if ((mem (o + 1) (18 + x3).toNatClampNeg) + x1) ≤ 99 then (f_X4_carriedOff_b48 o (f_X4_carriedOff_b4 o n) m3 x1 x2 x3) else (f_X4_carriedOff_b42 o (f_X4_carriedOff_b4 o n) m3 x1 x2 x3))))))
set_option maxRecDepth 20000 in
theorem t_X4_carriedOff_b4 {l : Launch} {E : Ue} {o : Nat} (ho : o = 23 ∨ o = 25) : ∀ (n : Nat) (mem : Um) (x1 : Int32) (x2 : Int32) (x3 : Int32) (z : Um × Int32), f_X4_carriedOff_b4 o n mem x1 x2 x3 = some z → ug l E 3 0 0 cX4_carriedOff 5 RX4 (some .int) [] (uz_i z) 0 0 4 [(0, .ref (ue_d E o)), (1, .int x1), (2, .int x2), (3, .int x3)] [] mem := by
  intro n
  induction n with
  | zero =>
    intro mem x1 x2 x3 z h
    rw [f_X4_carriedOff_b4] at h
    cases h
  | succ n ih =>
    intro mem x1 x2 x3 z h
    rw [f_X4_carriedOff_b4] at h
    refine ug_iload_n 3 dX4_carriedOff_4 rfl rfl ?_
    refine ug_iconst dX4_carriedOff_5 un_iconst_5 ?_
    refine ug_icmp_ge 54 dX4_carriedOff_6 (by decide) (fun q1 => ?_) (fun q1 => ?_)
    · rw [if_pos q1] at h
      refine ug_iload_n 2 dX4_carriedOff_54 rfl rfl ?_
      obtain rfl := Option.some.inj h
      exact ug_iret dX4_carriedOff_55
    · rw [if_neg q1] at h
      refine ug_aload_n 0 dX4_carriedOff_9 rfl rfl ?_
      refine ug_getR kf_X4_11 (sk_r2 ho) dX4_carriedOff_10 ?_
      refine ug_bipush dX4_carriedOff_13 un_bipush_18 ?_
      refine ug_iload_n 3 dX4_carriedOff_15 rfl rfl ?_
      refine ug_iadd dX4_carriedOff_16 ?_
      obtain ⟨g2, h⟩ := ugd_some h
      refine ug_iald (sk_a ho) (uin_ok g2) dX4_carriedOff_17 ?_
      refine ug_iload_n 1 dX4_carriedOff_18 rfl rfl ?_
      refine ug_iadd dX4_carriedOff_19 ?_
      refine ug_istore [(4, .int ((mem (o + 1) (18 + x3).toNatClampNeg) + x1)), (0, .ref (ue_d E o)), (1, .int x1), (2, .int x2), (3, .int x3)] dX4_carriedOff_20 (Nat.le_of_ble_eq_true rfl) rfl ?_
      refine ug_aload_n 1 dX4_carriedOff_22 rfl rfl ?_
      refine ug_iload_n 4 dX4_carriedOff_23 rfl rfl ?_
      obtain ⟨m3, r4, h5, h⟩ := ubi_some h
      refine ug_callVi [.int x3] (c_X4_has ho h5) kc_X4_47 (sk_o ho) rfl (S := []) rfl (Nat.le_of_ble_eq_true rfl) (Nat.le_of_ble_eq_true rfl) (Nat.le_of_ble_eq_true rfl) dX4_carriedOff_24 ?_
      refine ug_if_eq 48 dX4_carriedOff_27 (by decide) (fun q6 => ?_) (fun q6 => ?_)
      · rw [if_pos q6] at h
        refine ug_sub [(0, .ref (ue_d E o)), (1, .int x1), (2, .int x2), (3, .int x3)] [1, 2, 3, 4] rfl ?_
        exact t_X4_carriedOff_b48 ho (f_X4_carriedOff_b4 o n) ih m3 x1 x2 x3 _ h
      · rw [if_neg q6] at h
        refine ug_iload 0 dX4_carriedOff_30 rfl ?_
        refine ug_if_lt 42 dX4_carriedOff_32 (by decide) (fun q7 => ?_) (fun q7 => ?_)
        · rw [if_pos q7] at h
          refine ug_sub [(0, .ref (ue_d E o)), (1, .int x1), (2, .int x2), (3, .int x3)] [1, 2, 3, 4] rfl ?_
          exact t_X4_carriedOff_b42 ho (f_X4_carriedOff_b4 o n) ih m3 x1 x2 x3 _ h
        · rw [if_neg q7] at h
          refine ug_iload 0 dX4_carriedOff_35 rfl ?_
          refine ug_bipush dX4_carriedOff_37 un_bipush_99 ?_
          refine ug_icmp_le 48 dX4_carriedOff_39 (by decide) (fun q8 => ?_) (fun q8 => ?_)
          · rw [if_pos q8] at h
            refine ug_sub [(0, .ref (ue_d E o)), (1, .int x1), (2, .int x2), (3, .int x3)] [1, 2, 3, 4] rfl ?_
            exact t_X4_carriedOff_b48 ho (f_X4_carriedOff_b4 o n) ih m3 x1 x2 x3 _ h
          · rw [if_neg q8] at h
            refine ug_sub [(0, .ref (ue_d E o)), (1, .int x1), (2, .int x2), (3, .int x3)] [1, 2, 3, 4] rfl ?_
            exact t_X4_carriedOff_b42 ho (f_X4_carriedOff_b4 o n) ih m3 x1 x2 x3 _ h
def f_X4_carriedOff (o : Nat) (mem : Um) (x1 : Int32) : Option (Um × Int32) :=
  f_X4_carriedOff_b4 o UF mem x1 0 0
set_option maxRecDepth 20000 in
theorem t_X4_carriedOff {l : Launch} {E : Ue} {o : Nat} (ho : o = 23 ∨ o = 25) (mem : Um) (x1 : Int32) (z : Um × Int32) (h : f_X4_carriedOff o mem x1 = some z) : ug l E 3 0 0 cX4_carriedOff 5 RX4 (some .int) [] (uz_i z) 0 0 0 [(0, .ref (ue_d E o)), (1, .int x1)] [] mem := by
  rw [f_X4_carriedOff] at h
  refine ug_iconst dX4_carriedOff_0 un_iconst_0 ?_
  refine ug_istore_n [(2, .int 0), (0, .ref (ue_d E o)), (1, .int x1)] dX4_carriedOff_1 rfl (Nat.le_of_ble_eq_true rfl) rfl ?_
  refine ug_iconst dX4_carriedOff_2 un_iconst_0 ?_
  refine ug_istore_n [(3, .int 0), (2, .int 0), (0, .ref (ue_d E o)), (1, .int x1)] dX4_carriedOff_3 rfl (Nat.le_of_ble_eq_true rfl) rfl ?_
  refine ug_sub [(0, .ref (ue_d E o)), (1, .int x1), (2, .int 0), (3, .int 0)] [2, 3, 1, 0] rfl ?_
  exact t_X4_carriedOff_b4 ho UF mem x1 0 0 _ h
theorem c_X4_carriedOff {l : Launch} {E : Ue} {o : Nat} (ho : o = 23 ∨ o = 25) {mem : Um} {x1 : Int32} {m1 : Um} {r : Int32} (h : f_X4_carriedOff o mem x1 = some (m1, r)) : ucr l E 3 0 0 yX4_carriedOff cX4_carriedOff 5 (some .int) [.ref (ue_d E o), .int x1] mem (some (.int r)) m1 := ucr_of rfl (Nat.le_of_ble_eq_true rfl) (t_X4_carriedOff ho mem x1 _ h)
-- X4_burstAll
def f_X4_burstAll_b34 (o : Nat) (k2 : Um → Int32 → Int32 → Option (Um × Unit)) (mem : Um) (x1 : Int32) (x2 : Int32) : Option (Um × Unit) :=
  k2 mem x1 (x2 + 1)
set_option maxRecDepth 20000 in
theorem t_X4_burstAll_b34 {l : Launch} {E : Ue} {o : Nat} (ho : o = 23 ∨ o = 25) (k2 : Um → Int32 → Int32 → Option (Um × Unit)) (hk2 : ∀ (mem : Um) (x1 : Int32) (x2 : Int32) (z : Um × Unit), k2 mem x1 x2 = some z → ug l E 3 0 0 cX4_burstAll 3 RX4 none [] (uz_v z) 0 0 2 [(0, .ref (ue_d E o)), (1, .int x1), (2, .int x2)] [] mem) (mem : Um) (x1 : Int32) (x2 : Int32) (z : Um × Unit) (h : f_X4_burstAll_b34 o k2 mem x1 x2 = some z) : ug l E 3 0 0 cX4_burstAll 3 RX4 none [] (uz_v z) 0 0 34 [(0, .ref (ue_d E o)), (1, .int x1), (2, .int x2)] [] mem := by
  rw [f_X4_burstAll_b34] at h
  refine ug_iinc (v := (x2 + 1)) [(2, .int (x2 + 1)), (0, .ref (ue_d E o)), (1, .int x1)] 2 dX4_burstAll_34 rfl rfl (Nat.le_of_ble_eq_true rfl) rfl ?_
  refine ug_goto 2 dX4_burstAll_37 (by decide) ?_
  refine ug_sub [(0, .ref (ue_d E o)), (1, .int x1), (2, .int (x2 + 1))] [1, 2, 0] rfl ?_
  exact hk2 mem x1 (x2 + 1) _ h
def f_X4_burstAll_b2 (o : Nat) : Nat → Um → Int32 → Int32 → Option (Um × Unit)
  | 0, _, _, _ => none
  | n + 1, mem, x1, x2 =>
    if 5 ≤ x2 then (some (mem, ())) else (if ((x1 >>> (x2 &&& 31)) &&& 1) = 1 then (ubi (f_X4_putBubble o mem x2 0 0 0) (fun m3 r4 => f_X4_burstAll_b34 o (f_X4_burstAll_b2 o n) (um_w m3 (o + 1) 2 ((m3 (o + 1) 2) + 1)) x1 x2)) else (f_X4_burstAll_b34 o (f_X4_burstAll_b2 o n) mem x1 x2))
set_option maxRecDepth 20000 in
theorem t_X4_burstAll_b2 {l : Launch} {E : Ue} {o : Nat} (ho : o = 23 ∨ o = 25) : ∀ (n : Nat) (mem : Um) (x1 : Int32) (x2 : Int32) (z : Um × Unit), f_X4_burstAll_b2 o n mem x1 x2 = some z → ug l E 3 0 0 cX4_burstAll 3 RX4 none [] (uz_v z) 0 0 2 [(0, .ref (ue_d E o)), (1, .int x1), (2, .int x2)] [] mem := by
  intro n
  induction n with
  | zero =>
    intro mem x1 x2 z h
    rw [f_X4_burstAll_b2] at h
    cases h
  | succ n ih =>
    intro mem x1 x2 z h
    rw [f_X4_burstAll_b2] at h
    refine ug_iload_n 2 dX4_burstAll_2 rfl rfl ?_
    refine ug_iconst dX4_burstAll_3 un_iconst_5 ?_
    refine ug_icmp_ge 40 dX4_burstAll_4 (by decide) (fun q1 => ?_) (fun q1 => ?_)
    · rw [if_pos q1] at h
      obtain rfl := Option.some.inj h
      exact ug_vret dX4_burstAll_40
    · rw [if_neg q1] at h
      refine ug_iload_n 1 dX4_burstAll_7 rfl rfl ?_
      refine ug_iload_n 2 dX4_burstAll_8 rfl rfl ?_
      refine ug_ishr dX4_burstAll_9 ?_
      refine ug_iconst dX4_burstAll_10 un_iconst_1 ?_
      refine ug_iand dX4_burstAll_11 ?_
      refine ug_iconst dX4_burstAll_12 un_iconst_1 ?_
      refine ug_icmp_ne 34 dX4_burstAll_13 (by decide) (fun q2 => ?_) (fun q2 => ?_)
      · rw [if_neg q2] at h
        exact t_X4_burstAll_b34 ho (f_X4_burstAll_b2 o n) ih mem x1 x2 _ h
      · rw [if_pos q2] at h
        refine ug_aload_n 0 dX4_burstAll_16 rfl rfl ?_
        refine ug_iload_n 2 dX4_burstAll_17 rfl rfl ?_
        refine ug_iconst dX4_burstAll_18 un_iconst_0 ?_
        refine ug_iconst dX4_burstAll_19 un_iconst_0 ?_
        refine ug_iconst dX4_burstAll_20 un_iconst_0 ?_
        obtain ⟨m3, r4, h5, h⟩ := ubi_some h
        refine ug_callVv [.int x2, .int 0, .int 0, .int 0] (c_X4_putBubble ho h5) kc_X4_112 (sk_o ho) rfl (S := []) rfl (Nat.le_of_ble_eq_true rfl) (Nat.le_of_ble_eq_true rfl) (Nat.le_of_ble_eq_true rfl) dX4_burstAll_21 ?_
        refine ug_aload_n 0 dX4_burstAll_24 rfl rfl ?_
        refine ug_getR kf_X4_11 (sk_r2 ho) dX4_burstAll_25 ?_
        refine ug_iconst dX4_burstAll_28 un_iconst_2 ?_
        refine ug_dup2 dX4_burstAll_29 rfl rfl ?_
        refine ug_ialdK (sk_a ho) ui_2_28 uc_2 dX4_burstAll_30 ?_
        refine ug_iconst dX4_burstAll_31 un_iconst_1 ?_
        refine ug_iadd dX4_burstAll_32 ?_
        refine ug_iastK (sk_a ho) ui_2_28 uc_2 dX4_burstAll_33 ?_
        exact t_X4_burstAll_b34 ho (f_X4_burstAll_b2 o n) ih (um_w m3 (o + 1) 2 ((m3 (o + 1) 2) + 1)) x1 x2 _ h
def f_X4_burstAll (o : Nat) (mem : Um) (x1 : Int32) : Option (Um × Unit) :=
  f_X4_burstAll_b2 o UF mem x1 0
set_option maxRecDepth 20000 in
theorem t_X4_burstAll {l : Launch} {E : Ue} {o : Nat} (ho : o = 23 ∨ o = 25) (mem : Um) (x1 : Int32) (z : Um × Unit) (h : f_X4_burstAll o mem x1 = some z) : ug l E 3 0 0 cX4_burstAll 3 RX4 none [] (uz_v z) 0 0 0 [(0, .ref (ue_d E o)), (1, .int x1)] [] mem := by
  rw [f_X4_burstAll] at h
  refine ug_iconst dX4_burstAll_0 un_iconst_0 ?_
  refine ug_istore_n [(2, .int 0), (0, .ref (ue_d E o)), (1, .int x1)] dX4_burstAll_1 rfl (Nat.le_of_ble_eq_true rfl) rfl ?_
  refine ug_sub [(0, .ref (ue_d E o)), (1, .int x1), (2, .int 0)] [1, 2, 0] rfl ?_
  exact t_X4_burstAll_b2 ho UF mem x1 0 _ h
theorem c_X4_burstAll {l : Launch} {E : Ue} {o : Nat} (ho : o = 23 ∨ o = 25) {mem : Um} {x1 : Int32} {m1 : Um} {r : Unit} (h : f_X4_burstAll o mem x1 = some (m1, r)) : ucr l E 3 0 0 yX4_burstAll cX4_burstAll 3 none [.ref (ue_d E o), .int x1] mem none m1 := ucr_of rfl (Nat.le_of_ble_eq_true rfl) (t_X4_burstAll ho mem x1 _ h)
-- X4_drift
def f_X4_drift_b46 (o : Nat) (k20 : Um → Int32 → Int32 → Option (Um × Int32)) (mem : Um) (x1 : Int32) (x2 : Int32) : Option (Um × Int32) :=
  k20 mem x1 (x2 + 1)
set_option maxRecDepth 20000 in
theorem t_X4_drift_b46 {l : Launch} {E : Ue} {o : Nat} (ho : o = 23 ∨ o = 25) (k20 : Um → Int32 → Int32 → Option (Um × Int32)) (hk20 : ∀ (mem : Um) (x1 : Int32) (x2 : Int32) (z : Um × Int32), k20 mem x1 x2 = some z → ug l E 4 0 0 cX4_drift 3 RX4 (some .boolean) [] (uz_i z) 0 0 20 [(0, .ref (ue_d E o)), (1, .int x1), (2, .int x2)] [] mem) (mem : Um) (x1 : Int32) (x2 : Int32) (z : Um × Int32) (h : f_X4_drift_b46 o k20 mem x1 x2 = some z) : ug l E 4 0 0 cX4_drift 3 RX4 (some .boolean) [] (uz_i z) 0 0 46 [(0, .ref (ue_d E o)), (1, .int x1), (2, .int x2)] [] mem := by
  rw [f_X4_drift_b46] at h
  refine ug_iinc (v := (x2 + 1)) [(2, .int (x2 + 1)), (0, .ref (ue_d E o)), (1, .int x1)] 2 dX4_drift_46 rfl rfl (Nat.le_of_ble_eq_true rfl) rfl ?_
  refine ug_goto 20 dX4_drift_49 (by decide) ?_
  refine ug_sub [(0, .ref (ue_d E o)), (1, .int x1), (2, .int (x2 + 1))] [1, 2, 0] rfl ?_
  exact hk20 mem x1 (x2 + 1) _ h
def f_X4_drift_b20 (o : Nat) : Nat → Um → Int32 → Int32 → Option (Um × Int32)
  | 0, _, _, _ => none
  | n + 1, mem, x1, x2 =>
    if 5 ≤ x2 then (some (mem, 1)) else (ubi (f_X4_has o mem x2) (fun m2 r3 => if r3 = 0 then (f_X4_drift_b46 o (f_X4_drift_b20 o n) m2 x1 x2) else (ugd (uin (18 + x2) 28) (ugd (uin (18 + x2) 28) (f_X4_drift_b46 o (f_X4_drift_b20 o n) (um_w m2 (o + 1) (18 + x2).toNatClampNeg ((m2 (o + 1) (18 + x2).toNatClampNeg) + x1)) x1 x2)))))
set_option maxRecDepth 20000 in
theorem t_X4_drift_b20 {l : Launch} {E : Ue} {o : Nat} (ho : o = 23 ∨ o = 25) : ∀ (n : Nat) (mem : Um) (x1 : Int32) (x2 : Int32) (z : Um × Int32), f_X4_drift_b20 o n mem x1 x2 = some z → ug l E 4 0 0 cX4_drift 3 RX4 (some .boolean) [] (uz_i z) 0 0 20 [(0, .ref (ue_d E o)), (1, .int x1), (2, .int x2)] [] mem := by
  intro n
  induction n with
  | zero =>
    intro mem x1 x2 z h
    rw [f_X4_drift_b20] at h
    cases h
  | succ n ih =>
    intro mem x1 x2 z h
    rw [f_X4_drift_b20] at h
    refine ug_iload_n 2 dX4_drift_20 rfl rfl ?_
    refine ug_iconst dX4_drift_21 un_iconst_5 ?_
    refine ug_icmp_ge 52 dX4_drift_22 (by decide) (fun q1 => ?_) (fun q1 => ?_)
    · rw [if_pos q1] at h
      refine ug_iconst dX4_drift_52 un_iconst_1 ?_
      obtain rfl := Option.some.inj h
      exact ug_zret (Or.inr rfl) dX4_drift_53
    · rw [if_neg q1] at h
      refine ug_aload_n 0 dX4_drift_25 rfl rfl ?_
      refine ug_iload_n 2 dX4_drift_26 rfl rfl ?_
      obtain ⟨m2, r3, h4, h⟩ := ubi_some h
      refine ug_callVi [.int x2] (c_X4_has ho h4) kc_X4_47 (sk_o ho) rfl (S := []) rfl (Nat.le_of_ble_eq_true rfl) (Nat.le_of_ble_eq_true rfl) (Nat.le_of_ble_eq_true rfl) dX4_drift_27 ?_
      refine ug_if_eq 46 dX4_drift_30 (by decide) (fun q5 => ?_) (fun q5 => ?_)
      · rw [if_pos q5] at h
        exact t_X4_drift_b46 ho (f_X4_drift_b20 o n) ih m2 x1 x2 _ h
      · rw [if_neg q5] at h
        refine ug_aload_n 0 dX4_drift_33 rfl rfl ?_
        refine ug_getR kf_X4_11 (sk_r2 ho) dX4_drift_34 ?_
        refine ug_bipush dX4_drift_37 un_bipush_18 ?_
        refine ug_iload_n 2 dX4_drift_39 rfl rfl ?_
        refine ug_iadd dX4_drift_40 ?_
        refine ug_dup2 dX4_drift_41 rfl rfl ?_
        obtain ⟨g6, h⟩ := ugd_some h
        refine ug_iald (sk_a ho) (uin_ok g6) dX4_drift_42 ?_
        refine ug_iload_n 1 dX4_drift_43 rfl rfl ?_
        refine ug_iadd dX4_drift_44 ?_
        obtain ⟨g7, h⟩ := ugd_some h
        refine ug_iast (sk_a ho) (uin_ok g7) dX4_drift_45 ?_
        exact t_X4_drift_b46 ho (f_X4_drift_b20 o n) ih (um_w m2 (o + 1) (18 + x2).toNatClampNeg ((m2 (o + 1) (18 + x2).toNatClampNeg) + x1)) x1 x2 _ h
def f_X4_drift (o : Nat) (mem : Um) (x1 : Int32) : Option (Um × Int32) :=
  ubi (f_X4_holders o mem) (fun m1 r2 => if r2 = 0 then (some (m1, 0)) else (ubi (f_X4_carriedOff o m1 x1) (fun m5 r6 => ubi (f_X4_burstAll o m5 r6) (fun m8 r9 => f_X4_drift_b20 o UF m8 x1 0))))
set_option maxRecDepth 20000 in
theorem t_X4_drift {l : Launch} {E : Ue} {o : Nat} (ho : o = 23 ∨ o = 25) (mem : Um) (x1 : Int32) (z : Um × Int32) (h : f_X4_drift o mem x1 = some z) : ug l E 4 0 0 cX4_drift 3 RX4 (some .boolean) [] (uz_i z) 0 0 0 [(0, .ref (ue_d E o)), (1, .int x1)] [] mem := by
  rw [f_X4_drift] at h
  refine ug_aload_n 0 dX4_drift_0 rfl rfl ?_
  obtain ⟨m1, r2, h3, h⟩ := ubi_some h
  refine ug_callVi [] (c_X4_holders ho h3) kc_X4_116 (sk_o ho) rfl (S := []) rfl (Nat.le_of_ble_eq_true rfl) (Nat.le_of_ble_eq_true rfl) (Nat.le_of_ble_eq_true rfl) dX4_drift_1 ?_
  refine ug_if_ne 9 dX4_drift_4 (by decide) (fun q4 => ?_) (fun q4 => ?_)
  · rw [if_neg q4] at h
    refine ug_aload_n 0 dX4_drift_9 rfl rfl ?_
    refine ug_aload_n 0 dX4_drift_10 rfl rfl ?_
    refine ug_iload_n 1 dX4_drift_11 rfl rfl ?_
    obtain ⟨m5, r6, h7, h⟩ := ubi_some h
    refine ug_callVi [.int x1] (c_X4_carriedOff ho h7) kc_X4_119 (sk_o ho) rfl (S := [.ref (ue_d E o)]) rfl (Nat.le_of_ble_eq_true rfl) (Nat.le_of_ble_eq_true rfl) (Nat.le_of_ble_eq_true rfl) dX4_drift_12 ?_
    obtain ⟨m8, r9, h10, h⟩ := ubi_some h
    refine ug_callVv [.int r6] (c_X4_burstAll ho h10) kc_X4_122 (sk_o ho) rfl (S := []) rfl (Nat.le_of_ble_eq_true rfl) (Nat.le_of_ble_eq_true rfl) (Nat.le_of_ble_eq_true rfl) dX4_drift_15 ?_
    refine ug_iconst dX4_drift_18 un_iconst_0 ?_
    refine ug_istore_n [(2, .int 0), (0, .ref (ue_d E o)), (1, .int x1)] dX4_drift_19 rfl (Nat.le_of_ble_eq_true rfl) rfl ?_
    refine ug_sub [(0, .ref (ue_d E o)), (1, .int x1), (2, .int 0)] [1, 2, 0] rfl ?_
    exact t_X4_drift_b20 ho UF m8 x1 0 _ h
  · rw [if_pos q4] at h
    refine ug_iconst dX4_drift_7 un_iconst_0 ?_
    obtain rfl := Option.some.inj h
    exact ug_zret (Or.inl rfl) dX4_drift_8
theorem c_X4_drift {l : Launch} {E : Ue} {o : Nat} (ho : o = 23 ∨ o = 25) {mem : Um} {x1 : Int32} {m1 : Um} {r : Int32} (h : f_X4_drift o mem x1 = some (m1, r)) : ucr l E 4 0 0 yX4_drift cX4_drift 3 (some .boolean) [.ref (ue_d E o), .int x1] mem (some (.int r)) m1 := ucr_of rfl (Nat.le_of_ble_eq_true rfl) (t_X4_drift ho mem x1 _ h)
-- X4_runTo
def f_X4_runTo (o : Nat) (mem : Um) (x1 : Int32) (x2 : Int32) : Option (Um × Int32) :=
  ugd (uin (8 + x1) 28) (if (mem (o + 1) (8 + x1).toNatClampNeg) = x2 then (some (mem, 0)) else (ugd (uin (8 + x1) 28) (some ((um_w mem (o + 1) (8 + x1).toNatClampNeg x2), 1))))
set_option maxRecDepth 20000 in
theorem t_X4_runTo {l : Launch} {E : Ue} {o : Nat} (ho : o = 23 ∨ o = 25) (mem : Um) (x1 : Int32) (x2 : Int32) (z : Um × Int32) (h : f_X4_runTo o mem x1 x2 = some z) : ug l E 2 0 0 cX4_runTo 3 RX4 (some .boolean) [] (uz_i z) 0 0 0 [(0, .ref (ue_d E o)), (1, .int x1), (2, .int x2)] [] mem := by
  rw [f_X4_runTo] at h
  refine ug_aload_n 0 dX4_runTo_0 rfl rfl ?_
  refine ug_getR kf_X4_11 (sk_r2 ho) dX4_runTo_1 ?_
  refine ug_bipush dX4_runTo_4 un_bipush_8 ?_
  refine ug_iload_n 1 dX4_runTo_6 rfl rfl ?_
  refine ug_iadd dX4_runTo_7 ?_
  obtain ⟨g1, h⟩ := ugd_some h
  refine ug_iald (sk_a ho) (uin_ok g1) dX4_runTo_8 ?_
  refine ug_iload_n 2 dX4_runTo_9 rfl rfl ?_
  refine ug_icmp_ne 15 dX4_runTo_10 (by decide) (fun q2 => ?_) (fun q2 => ?_)
  · rw [if_neg q2] at h
    refine ug_aload_n 0 dX4_runTo_15 rfl rfl ?_
    refine ug_getR kf_X4_11 (sk_r2 ho) dX4_runTo_16 ?_
    refine ug_bipush dX4_runTo_19 un_bipush_8 ?_
    refine ug_iload_n 1 dX4_runTo_21 rfl rfl ?_
    refine ug_iadd dX4_runTo_22 ?_
    refine ug_iload_n 2 dX4_runTo_23 rfl rfl ?_
    obtain ⟨g3, h⟩ := ugd_some h
    refine ug_iast (sk_a ho) (uin_ok g3) dX4_runTo_24 ?_
    refine ug_iconst dX4_runTo_25 un_iconst_1 ?_
    obtain rfl := Option.some.inj h
    exact ug_zret (Or.inr rfl) dX4_runTo_26
  · rw [if_pos q2] at h
    refine ug_iconst dX4_runTo_13 un_iconst_0 ?_
    obtain rfl := Option.some.inj h
    exact ug_zret (Or.inl rfl) dX4_runTo_14
theorem c_X4_runTo {l : Launch} {E : Ue} {o : Nat} (ho : o = 23 ∨ o = 25) {mem : Um} {x1 : Int32} {x2 : Int32} {m1 : Um} {r : Int32} (h : f_X4_runTo o mem x1 x2 = some (m1, r)) : ucr l E 2 0 0 yX4_runTo cX4_runTo 3 (some .boolean) [.ref (ue_d E o), .int x1, .int x2] mem (some (.int r)) m1 := ucr_of rfl (Nat.le_of_ble_eq_true rfl) (t_X4_runTo ho mem x1 x2 _ h)
-- X4_canSell
def f_X4_canSell_b38 (o : Nat) (mem : Um) (y0 : Int32) : Option (Um × Int32) :=
  ugd (ub01 y0) (some (mem, y0))
set_option maxRecDepth 20000 in
theorem t_X4_canSell_b38 {l : Launch} {E : Ue} {o : Nat} (ho : o = 23 ∨ o = 25) (mem : Um) (y0 : Int32) (z : Um × Int32) (h : f_X4_canSell_b38 o mem y0 = some z) : ug l E 3 0 0 cX4_canSell 4 RX4 (some .boolean) [] (uz_i z) 0 0 38 [] [.int y0] mem := by
  rw [f_X4_canSell_b38] at h
  obtain ⟨g1, h⟩ := ugd_some h
  obtain rfl := Option.some.inj h
  exact ug_zret (of_decide_eq_true g1) dX4_canSell_38
def f_X4_canSell_b37 (o : Nat) (mem : Um) : Option (Um × Int32) :=
  f_X4_canSell_b38 o mem 0
set_option maxRecDepth 20000 in
theorem t_X4_canSell_b37 {l : Launch} {E : Ue} {o : Nat} (ho : o = 23 ∨ o = 25) (mem : Um) (z : Um × Int32) (h : f_X4_canSell_b37 o mem  = some z) : ug l E 3 0 0 cX4_canSell 4 RX4 (some .boolean) [] (uz_i z) 0 0 37 [] [] mem := by
  rw [f_X4_canSell_b37] at h
  refine ug_iconst dX4_canSell_37 un_iconst_0 ?_
  exact t_X4_canSell_b38 ho mem 0 _ h
def f_X4_canSell (o : Nat) (mem : Um) (x1 : Int32) (x2 : Int32) (x3 : Int32) : Option (Um × Int32) :=
  if x1 = x2 then (f_X4_canSell_b37 o mem) else (ubi (f_X4_has o mem x1) (fun m2 r3 => if r3 = 0 then (f_X4_canSell_b37 o m2) else (ubi (f_X4_has o m2 x2) (fun m6 r7 => if r7 = 0 then (ugd (uin (3 + x2) 28) (if (m6 (o + 1) (3 + x2).toNatClampNeg) < x3 then (f_X4_canSell_b37 o m6) else (f_X4_canSell_b38 o m6 1))) else (f_X4_canSell_b37 o m6)))))
set_option maxRecDepth 20000 in
theorem t_X4_canSell {l : Launch} {E : Ue} {o : Nat} (ho : o = 23 ∨ o = 25) (mem : Um) (x1 : Int32) (x2 : Int32) (x3 : Int32) (z : Um × Int32) (h : f_X4_canSell o mem x1 x2 x3 = some z) : ug l E 3 0 0 cX4_canSell 4 RX4 (some .boolean) [] (uz_i z) 0 0 0 [(0, .ref (ue_d E o)), (1, .int x1), (2, .int x2), (3, .int x3)] [] mem := by
  rw [f_X4_canSell] at h
  refine ug_iload_n 1 dX4_canSell_0 rfl rfl ?_
  refine ug_iload_n 2 dX4_canSell_1 rfl rfl ?_
  refine ug_icmp_eq 37 dX4_canSell_2 (by decide) (fun q1 => ?_) (fun q1 => ?_)
  · rw [if_pos q1] at h
    refine ug_sub [] [] rfl ?_
    exact t_X4_canSell_b37 ho mem  _ h
  · rw [if_neg q1] at h
    refine ug_aload_n 0 dX4_canSell_5 rfl rfl ?_
    refine ug_iload_n 1 dX4_canSell_6 rfl rfl ?_
    obtain ⟨m2, r3, h4, h⟩ := ubi_some h
    refine ug_callVi [.int x1] (c_X4_has ho h4) kc_X4_47 (sk_o ho) rfl (S := []) rfl (Nat.le_of_ble_eq_true rfl) (Nat.le_of_ble_eq_true rfl) (Nat.le_of_ble_eq_true rfl) dX4_canSell_7 ?_
    refine ug_if_eq 37 dX4_canSell_10 (by decide) (fun q5 => ?_) (fun q5 => ?_)
    · rw [if_pos q5] at h
      refine ug_sub [] [] rfl ?_
      exact t_X4_canSell_b37 ho m2  _ h
    · rw [if_neg q5] at h
      refine ug_aload_n 0 dX4_canSell_13 rfl rfl ?_
      refine ug_iload_n 2 dX4_canSell_14 rfl rfl ?_
      obtain ⟨m6, r7, h8, h⟩ := ubi_some h
      refine ug_callVi [.int x2] (c_X4_has ho h8) kc_X4_47 (sk_o ho) rfl (S := []) rfl (Nat.le_of_ble_eq_true rfl) (Nat.le_of_ble_eq_true rfl) (Nat.le_of_ble_eq_true rfl) dX4_canSell_15 ?_
      refine ug_if_ne 37 dX4_canSell_18 (by decide) (fun q9 => ?_) (fun q9 => ?_)
      · rw [if_neg q9] at h
        refine ug_sub [] [] rfl ?_
        exact t_X4_canSell_b37 ho m6  _ h
      · rw [if_pos q9] at h
        refine ug_aload_n 0 dX4_canSell_21 rfl rfl ?_
        refine ug_getR kf_X4_11 (sk_r2 ho) dX4_canSell_22 ?_
        refine ug_iconst dX4_canSell_25 un_iconst_3 ?_
        refine ug_iload_n 2 dX4_canSell_26 rfl rfl ?_
        refine ug_iadd dX4_canSell_27 ?_
        obtain ⟨g10, h⟩ := ugd_some h
        refine ug_iald (sk_a ho) (uin_ok g10) dX4_canSell_28 ?_
        refine ug_iload_n 3 dX4_canSell_29 rfl rfl ?_
        refine ug_icmp_lt 37 dX4_canSell_30 (by decide) (fun q11 => ?_) (fun q11 => ?_)
        · rw [if_pos q11] at h
          refine ug_sub [] [] rfl ?_
          exact t_X4_canSell_b37 ho m6  _ h
        · rw [if_neg q11] at h
          refine ug_iconst dX4_canSell_33 un_iconst_1 ?_
          refine ug_goto 38 dX4_canSell_34 (by decide) ?_
          refine ug_sub [] [] rfl ?_
          exact t_X4_canSell_b38 ho m6 1 _ h
theorem c_X4_canSell {l : Launch} {E : Ue} {o : Nat} (ho : o = 23 ∨ o = 25) {mem : Um} {x1 : Int32} {x2 : Int32} {x3 : Int32} {m1 : Um} {r : Int32} (h : f_X4_canSell o mem x1 x2 x3 = some (m1, r)) : ucr l E 3 0 0 yX4_canSell cX4_canSell 4 (some .boolean) [.ref (ue_d E o), .int x1, .int x2, .int x3] mem (some (.int r)) m1 := ucr_of rfl (Nat.le_of_ble_eq_true rfl) (t_X4_canSell ho mem x1 x2 x3 _ h)
-- X4_sellFor
def f_X4_sellFor (o : Nat) (mem : Um) (x1 : Int32) (x2 : Int32) (x3 : Int32) : Option (Um × Int32) :=
  ubi (f_X4_canSell o mem x1 x2 x3) (fun m1 r2 => if r2 = 0 then (some (m1, 0)) else (ugd (uin (3 + x1) 28) (ugd (uin (3 + x1) 28) (ugd (uin (3 + x2) 28) (ugd (uin (3 + x2) 28) (ugd (uin (13 + x1) 28) (ugd (uin (18 + x1) 28) (ugd (uin (23 + x1) 28) (ubi (f_X4_putBubble o (um_w (um_w m1 (o + 1) (3 + x1).toNatClampNeg ((m1 (o + 1) (3 + x1).toNatClampNeg) + x3)) (o + 1) (3 + x2).toNatClampNeg (((um_w m1 (o + 1) (3 + x1).toNatClampNeg ((m1 (o + 1) (3 + x1).toNatClampNeg) + x3)) (o + 1) (3 + x2).toNatClampNeg) - x3)) x2 ((um_w (um_w m1 (o + 1) (3 + x1).toNatClampNeg ((m1 (o + 1) (3 + x1).toNatClampNeg) + x3)) (o + 1) (3 + x2).toNatClampNeg (((um_w m1 (o + 1) (3 + x1).toNatClampNeg ((m1 (o + 1) (3 + x1).toNatClampNeg) + x3)) (o + 1) (3 + x2).toNatClampNeg) - x3)) (o + 1) (13 + x1).toNatClampNeg) ((um_w (um_w m1 (o + 1) (3 + x1).toNatClampNeg ((m1 (o + 1) (3 + x1).toNatClampNeg) + x3)) (o + 1) (3 + x2).toNatClampNeg (((um_w m1 (o + 1) (3 + x1).toNatClampNeg ((m1 (o + 1) (3 + x1).toNatClampNeg) + x3)) (o + 1) (3 + x2).toNatClampNeg) - x3)) (o + 1) (18 + x1).toNatClampNeg) ((um_w (um_w m1 (o + 1) (3 + x1).toNatClampNeg ((m1 (o + 1) (3 + x1).toNatClampNeg) + x3)) (o + 1) (3 + x2).toNatClampNeg (((um_w m1 (o + 1) (3 + x1).toNatClampNeg ((m1 (o + 1) (3 + x1).toNatClampNeg) + x3)) (o + 1) (3 + x2).toNatClampNeg) - x3)) (o + 1) (23 + x1).toNatClampNeg)) (fun m12 r13 => ubi (f_X4_putBubble o m12 x1 0 0 0) (fun m15 r16 => some (m15, 1))))))))))))
set_option maxRecDepth 20000 in
theorem t_X4_sellFor {l : Launch} {E : Ue} {o : Nat} (ho : o = 23 ∨ o = 25) (mem : Um) (x1 : Int32) (x2 : Int32) (x3 : Int32) (z : Um × Int32) (h : f_X4_sellFor o mem x1 x2 x3 = some z) : ug l E 4 0 0 cX4_sellFor 4 RX4 (some .boolean) [] (uz_i z) 0 0 0 [(0, .ref (ue_d E o)), (1, .int x1), (2, .int x2), (3, .int x3)] [] mem := by
  rw [f_X4_sellFor] at h
  refine ug_aload_n 0 dX4_sellFor_0 rfl rfl ?_
  refine ug_iload_n 1 dX4_sellFor_1 rfl rfl ?_
  refine ug_iload_n 2 dX4_sellFor_2 rfl rfl ?_
  refine ug_iload_n 3 dX4_sellFor_3 rfl rfl ?_
  obtain ⟨m1, r2, h3, h⟩ := ubi_some h
  refine ug_callVi [.int x1, .int x2, .int x3] (c_X4_canSell ho h3) kc_X4_126 (sk_o ho) rfl (S := []) rfl (Nat.le_of_ble_eq_true rfl) (Nat.le_of_ble_eq_true rfl) (Nat.le_of_ble_eq_true rfl) dX4_sellFor_4 ?_
  refine ug_if_ne 12 dX4_sellFor_7 (by decide) (fun q4 => ?_) (fun q4 => ?_)
  · rw [if_neg q4] at h
    refine ug_aload_n 0 dX4_sellFor_12 rfl rfl ?_
    refine ug_getR kf_X4_11 (sk_r2 ho) dX4_sellFor_13 ?_
    refine ug_iconst dX4_sellFor_16 un_iconst_3 ?_
    refine ug_iload_n 1 dX4_sellFor_17 rfl rfl ?_
    refine ug_iadd dX4_sellFor_18 ?_
    refine ug_dup2 dX4_sellFor_19 rfl rfl ?_
    obtain ⟨g5, h⟩ := ugd_some h
    refine ug_iald (sk_a ho) (uin_ok g5) dX4_sellFor_20 ?_
    refine ug_iload_n 3 dX4_sellFor_21 rfl rfl ?_
    refine ug_iadd dX4_sellFor_22 ?_
    obtain ⟨g6, h⟩ := ugd_some h
    refine ug_iast (sk_a ho) (uin_ok g6) dX4_sellFor_23 ?_
    refine ug_aload_n 0 dX4_sellFor_24 rfl rfl ?_
    refine ug_getR kf_X4_11 (sk_r2 ho) dX4_sellFor_25 ?_
    refine ug_iconst dX4_sellFor_28 un_iconst_3 ?_
    refine ug_iload_n 2 dX4_sellFor_29 rfl rfl ?_
    refine ug_iadd dX4_sellFor_30 ?_
    refine ug_dup2 dX4_sellFor_31 rfl rfl ?_
    obtain ⟨g7, h⟩ := ugd_some h
    refine ug_iald (sk_a ho) (uin_ok g7) dX4_sellFor_32 ?_
    refine ug_iload_n 3 dX4_sellFor_33 rfl rfl ?_
    refine ug_isub dX4_sellFor_34 ?_
    obtain ⟨g8, h⟩ := ugd_some h
    refine ug_iast (sk_a ho) (uin_ok g8) dX4_sellFor_35 ?_
    refine ug_aload_n 0 dX4_sellFor_36 rfl rfl ?_
    refine ug_iload_n 2 dX4_sellFor_37 rfl rfl ?_
    refine ug_aload_n 0 dX4_sellFor_38 rfl rfl ?_
    refine ug_getR kf_X4_11 (sk_r2 ho) dX4_sellFor_39 ?_
    refine ug_bipush dX4_sellFor_42 un_bipush_13 ?_
    refine ug_iload_n 1 dX4_sellFor_44 rfl rfl ?_
    refine ug_iadd dX4_sellFor_45 ?_
    obtain ⟨g9, h⟩ := ugd_some h
    refine ug_iald (sk_a ho) (uin_ok g9) dX4_sellFor_46 ?_
    refine ug_aload_n 0 dX4_sellFor_47 rfl rfl ?_
    refine ug_getR kf_X4_11 (sk_r2 ho) dX4_sellFor_48 ?_
    refine ug_bipush dX4_sellFor_51 un_bipush_18 ?_
    refine ug_iload_n 1 dX4_sellFor_53 rfl rfl ?_
    refine ug_iadd dX4_sellFor_54 ?_
    obtain ⟨g10, h⟩ := ugd_some h
    refine ug_iald (sk_a ho) (uin_ok g10) dX4_sellFor_55 ?_
    refine ug_aload_n 0 dX4_sellFor_56 rfl rfl ?_
    refine ug_getR kf_X4_11 (sk_r2 ho) dX4_sellFor_57 ?_
    refine ug_bipush dX4_sellFor_60 un_bipush_23 ?_
    refine ug_iload_n 1 dX4_sellFor_62 rfl rfl ?_
    refine ug_iadd dX4_sellFor_63 ?_
    obtain ⟨g11, h⟩ := ugd_some h
    refine ug_iald (sk_a ho) (uin_ok g11) dX4_sellFor_64 ?_
    obtain ⟨m12, r13, h14, h⟩ := ubi_some h
    refine ug_callVv [.int x2, .int ((um_w (um_w m1 (o + 1) (3 + x1).toNatClampNeg ((m1 (o + 1) (3 + x1).toNatClampNeg) + x3)) (o + 1) (3 + x2).toNatClampNeg (((um_w m1 (o + 1) (3 + x1).toNatClampNeg ((m1 (o + 1) (3 + x1).toNatClampNeg) + x3)) (o + 1) (3 + x2).toNatClampNeg) - x3)) (o + 1) (13 + x1).toNatClampNeg), .int ((um_w (um_w m1 (o + 1) (3 + x1).toNatClampNeg ((m1 (o + 1) (3 + x1).toNatClampNeg) + x3)) (o + 1) (3 + x2).toNatClampNeg (((um_w m1 (o + 1) (3 + x1).toNatClampNeg ((m1 (o + 1) (3 + x1).toNatClampNeg) + x3)) (o + 1) (3 + x2).toNatClampNeg) - x3)) (o + 1) (18 + x1).toNatClampNeg), .int ((um_w (um_w m1 (o + 1) (3 + x1).toNatClampNeg ((m1 (o + 1) (3 + x1).toNatClampNeg) + x3)) (o + 1) (3 + x2).toNatClampNeg (((um_w m1 (o + 1) (3 + x1).toNatClampNeg ((m1 (o + 1) (3 + x1).toNatClampNeg) + x3)) (o + 1) (3 + x2).toNatClampNeg) - x3)) (o + 1) (23 + x1).toNatClampNeg)] (c_X4_putBubble ho h14) kc_X4_112 (sk_o ho) rfl (S := []) rfl (Nat.le_of_ble_eq_true rfl) (Nat.le_of_ble_eq_true rfl) (Nat.le_of_ble_eq_true rfl) dX4_sellFor_65 ?_
    refine ug_aload_n 0 dX4_sellFor_68 rfl rfl ?_
    refine ug_iload_n 1 dX4_sellFor_69 rfl rfl ?_
    refine ug_iconst dX4_sellFor_70 un_iconst_0 ?_
    refine ug_iconst dX4_sellFor_71 un_iconst_0 ?_
    refine ug_iconst dX4_sellFor_72 un_iconst_0 ?_
    obtain ⟨m15, r16, h17, h⟩ := ubi_some h
    refine ug_callVv [.int x1, .int 0, .int 0, .int 0] (c_X4_putBubble ho h17) kc_X4_112 (sk_o ho) rfl (S := []) rfl (Nat.le_of_ble_eq_true rfl) (Nat.le_of_ble_eq_true rfl) (Nat.le_of_ble_eq_true rfl) dX4_sellFor_73 ?_
    refine ug_iconst dX4_sellFor_76 un_iconst_1 ?_
    obtain rfl := Option.some.inj h
    exact ug_zret (Or.inr rfl) dX4_sellFor_77
  · rw [if_pos q4] at h
    refine ug_iconst dX4_sellFor_10 un_iconst_0 ?_
    obtain rfl := Option.some.inj h
    exact ug_zret (Or.inl rfl) dX4_sellFor_11
theorem c_X4_sellFor {l : Launch} {E : Ue} {o : Nat} (ho : o = 23 ∨ o = 25) {mem : Um} {x1 : Int32} {x2 : Int32} {x3 : Int32} {m1 : Um} {r : Int32} (h : f_X4_sellFor o mem x1 x2 x3 = some (m1, r)) : ucr l E 4 0 0 yX4_sellFor cX4_sellFor 4 (some .boolean) [.ref (ue_d E o), .int x1, .int x2, .int x3] mem (some (.int r)) m1 := ucr_of rfl (Nat.le_of_ble_eq_true rfl) (t_X4_sellFor ho mem x1 x2 x3 _ h)
-- X4_canKeep
def f_X4_canKeep_b59 (o : Nat) (mem : Um) (y0 : Int32) : Option (Um × Int32) :=
  ugd (ub01 y0) (some (mem, y0))
set_option maxRecDepth 20000 in
theorem t_X4_canKeep_b59 {l : Launch} {E : Ue} {o : Nat} (ho : o = 23 ∨ o = 25) (mem : Um) (y0 : Int32) (z : Um × Int32) (h : f_X4_canKeep_b59 o mem y0 = some z) : ug l E 3 0 0 cX4_canKeep 2 RX4 (some .boolean) [] (uz_i z) 0 0 59 [] [.int y0] mem := by
  rw [f_X4_canKeep_b59] at h
  obtain ⟨g1, h⟩ := ugd_some h
  obtain rfl := Option.some.inj h
  exact ug_zret (of_decide_eq_true g1) dX4_canKeep_59
def f_X4_canKeep_b58 (o : Nat) (mem : Um) : Option (Um × Int32) :=
  f_X4_canKeep_b59 o mem 0
set_option maxRecDepth 20000 in
theorem t_X4_canKeep_b58 {l : Launch} {E : Ue} {o : Nat} (ho : o = 23 ∨ o = 25) (mem : Um) (z : Um × Int32) (h : f_X4_canKeep_b58 o mem  = some z) : ug l E 3 0 0 cX4_canKeep 2 RX4 (some .boolean) [] (uz_i z) 0 0 58 [] [] mem := by
  rw [f_X4_canKeep_b58] at h
  refine ug_iconst dX4_canKeep_58 un_iconst_0 ?_
  exact t_X4_canKeep_b59 ho mem 0 _ h
def f_X4_canKeep (o : Nat) (mem : Um) (x1 : Int32) : Option (Um × Int32) :=
  ubi (f_X4_has o mem x1) (fun m1 r2 => if r2 = 0 then (f_X4_canKeep_b58 o m1) else (ugd (uin (23 + x1) 28) (if (m1 (o + 1) (23 + x1).toNatClampNeg) ≤ 0 then (f_X4_canKeep_b58 o m1) else (ugd (uin (8 + x1) 28) (ugd (uin (18 + x1) 28) (ugd (uin (13 + x1) 28) (if (m1 (o + 1) (13 + x1).toNatClampNeg) < (umabs ((m1 (o + 1) (8 + x1).toNatClampNeg) - (m1 (o + 1) (18 + x1).toNatClampNeg))) then (f_X4_canKeep_b58 o m1) else (f_X4_canKeep_b59 o m1 1))))))))
set_option maxRecDepth 20000 in
theorem t_X4_canKeep {l : Launch} {E : Ue} {o : Nat} (ho : o = 23 ∨ o = 25) (mem : Um) (x1 : Int32) (z : Um × Int32) (h : f_X4_canKeep o mem x1 = some z) : ug l E 3 0 0 cX4_canKeep 2 RX4 (some .boolean) [] (uz_i z) 0 0 0 [(0, .ref (ue_d E o)), (1, .int x1)] [] mem := by
  rw [f_X4_canKeep] at h
  refine ug_aload_n 0 dX4_canKeep_0 rfl rfl ?_
  refine ug_iload_n 1 dX4_canKeep_1 rfl rfl ?_
  obtain ⟨m1, r2, h3, h⟩ := ubi_some h
  refine ug_callVi [.int x1] (c_X4_has ho h3) kc_X4_47 (sk_o ho) rfl (S := []) rfl (Nat.le_of_ble_eq_true rfl) (Nat.le_of_ble_eq_true rfl) (Nat.le_of_ble_eq_true rfl) dX4_canKeep_2 ?_
  refine ug_if_eq 58 dX4_canKeep_5 (by decide) (fun q4 => ?_) (fun q4 => ?_)
  · rw [if_pos q4] at h
    refine ug_sub [] [] rfl ?_
    exact t_X4_canKeep_b58 ho m1  _ h
  · rw [if_neg q4] at h
    refine ug_aload_n 0 dX4_canKeep_8 rfl rfl ?_
    refine ug_getR kf_X4_11 (sk_r2 ho) dX4_canKeep_9 ?_
    refine ug_bipush dX4_canKeep_12 un_bipush_23 ?_
    refine ug_iload_n 1 dX4_canKeep_14 rfl rfl ?_
    refine ug_iadd dX4_canKeep_15 ?_
    obtain ⟨g5, h⟩ := ugd_some h
    refine ug_iald (sk_a ho) (uin_ok g5) dX4_canKeep_16 ?_
    refine ug_if_le 58 dX4_canKeep_17 (by decide) (fun q6 => ?_) (fun q6 => ?_)
    · rw [if_pos q6] at h
      refine ug_sub [] [] rfl ?_
      exact t_X4_canKeep_b58 ho m1  _ h
    · rw [if_neg q6] at h
      refine ug_aload_n 0 dX4_canKeep_20 rfl rfl ?_
      refine ug_getR kf_X4_11 (sk_r2 ho) dX4_canKeep_21 ?_
      refine ug_bipush dX4_canKeep_24 un_bipush_8 ?_
      refine ug_iload_n 1 dX4_canKeep_26 rfl rfl ?_
      refine ug_iadd dX4_canKeep_27 ?_
      obtain ⟨g7, h⟩ := ugd_some h
      refine ug_iald (sk_a ho) (uin_ok g7) dX4_canKeep_28 ?_
      refine ug_aload_n 0 dX4_canKeep_29 rfl rfl ?_
      refine ug_getR kf_X4_11 (sk_r2 ho) dX4_canKeep_30 ?_
      refine ug_bipush dX4_canKeep_33 un_bipush_18 ?_
      refine ug_iload_n 1 dX4_canKeep_35 rfl rfl ?_
      refine ug_iadd dX4_canKeep_36 ?_
      obtain ⟨g8, h⟩ := ugd_some h
      refine ug_iald (sk_a ho) (uin_ok g8) dX4_canKeep_37 ?_
      refine ug_isub dX4_canKeep_38 ?_
      refine ug_mabs kl_X4_54 (Nat.le_of_ble_eq_true rfl) (Nat.le_of_ble_eq_true rfl) dX4_canKeep_39 ?_
      refine ug_aload_n 0 dX4_canKeep_42 rfl rfl ?_
      refine ug_getR kf_X4_11 (sk_r2 ho) dX4_canKeep_43 ?_
      refine ug_bipush dX4_canKeep_46 un_bipush_13 ?_
      refine ug_iload_n 1 dX4_canKeep_48 rfl rfl ?_
      refine ug_iadd dX4_canKeep_49 ?_
      obtain ⟨g9, h⟩ := ugd_some h
      refine ug_iald (sk_a ho) (uin_ok g9) dX4_canKeep_50 ?_
      refine ug_icmp_gt 58 dX4_canKeep_51 (by decide) (fun q10 => ?_) (fun q10 => ?_)
      · rw [if_pos q10] at h
        refine ug_sub [] [] rfl ?_
        exact t_X4_canKeep_b58 ho m1  _ h
      · rw [if_neg q10] at h
        refine ug_iconst dX4_canKeep_54 un_iconst_1 ?_
        refine ug_goto 59 dX4_canKeep_55 (by decide) ?_
        refine ug_sub [] [] rfl ?_
        exact t_X4_canKeep_b59 ho m1 1 _ h
theorem c_X4_canKeep {l : Launch} {E : Ue} {o : Nat} (ho : o = 23 ∨ o = 25) {mem : Um} {x1 : Int32} {m1 : Um} {r : Int32} (h : f_X4_canKeep o mem x1 = some (m1, r)) : ucr l E 3 0 0 yX4_canKeep cX4_canKeep 2 (some .boolean) [.ref (ue_d E o), .int x1] mem (some (.int r)) m1 := ucr_of rfl (Nat.le_of_ble_eq_true rfl) (t_X4_canKeep ho mem x1 _ h)
-- X4_keepUp
def f_X4_keepUp (o : Nat) (mem : Um) (x1 : Int32) : Option (Um × Int32) :=
  ubi (f_X4_canKeep o mem x1) (fun m1 r2 => if r2 = 0 then (some (m1, 0)) else (ugd (uin (23 + x1) 28) (some ((um_w m1 (o + 1) (23 + x1).toNatClampNeg 0), 1))))
set_option maxRecDepth 20000 in
theorem t_X4_keepUp {l : Launch} {E : Ue} {o : Nat} (ho : o = 23 ∨ o = 25) (mem : Um) (x1 : Int32) (z : Um × Int32) (h : f_X4_keepUp o mem x1 = some z) : ug l E 4 0 0 cX4_keepUp 2 RX4 (some .boolean) [] (uz_i z) 0 0 0 [(0, .ref (ue_d E o)), (1, .int x1)] [] mem := by
  rw [f_X4_keepUp] at h
  refine ug_aload_n 0 dX4_keepUp_0 rfl rfl ?_
  refine ug_iload_n 1 dX4_keepUp_1 rfl rfl ?_
  obtain ⟨m1, r2, h3, h⟩ := ubi_some h
  refine ug_callVi [.int x1] (c_X4_canKeep ho h3) kc_X4_130 (sk_o ho) rfl (S := []) rfl (Nat.le_of_ble_eq_true rfl) (Nat.le_of_ble_eq_true rfl) (Nat.le_of_ble_eq_true rfl) dX4_keepUp_2 ?_
  refine ug_if_ne 10 dX4_keepUp_5 (by decide) (fun q4 => ?_) (fun q4 => ?_)
  · rw [if_neg q4] at h
    refine ug_aload_n 0 dX4_keepUp_10 rfl rfl ?_
    refine ug_getR kf_X4_11 (sk_r2 ho) dX4_keepUp_11 ?_
    refine ug_bipush dX4_keepUp_14 un_bipush_23 ?_
    refine ug_iload_n 1 dX4_keepUp_16 rfl rfl ?_
    refine ug_iadd dX4_keepUp_17 ?_
    refine ug_iconst dX4_keepUp_18 un_iconst_0 ?_
    obtain ⟨g5, h⟩ := ugd_some h
    refine ug_iast (sk_a ho) (uin_ok g5) dX4_keepUp_19 ?_
    refine ug_iconst dX4_keepUp_20 un_iconst_1 ?_
    obtain rfl := Option.some.inj h
    exact ug_zret (Or.inr rfl) dX4_keepUp_21
  · rw [if_pos q4] at h
    refine ug_iconst dX4_keepUp_8 un_iconst_0 ?_
    obtain rfl := Option.some.inj h
    exact ug_zret (Or.inl rfl) dX4_keepUp_9
theorem c_X4_keepUp {l : Launch} {E : Ue} {o : Nat} (ho : o = 23 ∨ o = 25) {mem : Um} {x1 : Int32} {m1 : Um} {r : Int32} (h : f_X4_keepUp o mem x1 = some (m1, r)) : ucr l E 4 0 0 yX4_keepUp cX4_keepUp 2 (some .boolean) [.ref (ue_d E o), .int x1] mem (some (.int r)) m1 := ucr_of rfl (Nat.le_of_ble_eq_true rfl) (t_X4_keepUp ho mem x1 _ h)
