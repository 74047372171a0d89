/-! STRINGS: length and charAt of the constants -/
section UST
variable {l : Launch} {E : Ue} {k mc ms : Nat} {cc : ByteArray} {nL : Nat} {own : String} {rt : Option FieldType} {xt : List ExceptionTableEntry} {z : Uz} {ce sl pc : Nat} {L : List (Nat × Value)} {S S0 : List Value} {mem : Um}
theorem ug_tval {i w : Nat} (hw : Cond.fieldLink own i "java/lang/String" "value" "[B" ∈ uw) (hb : w < 18) (hd : decode cc pc = .ok (.getfield i, 3)) (h : ug l E k mc ms cc nL own rt xt z ce sl (pc + 3) L (.ref (ue_aV E w) :: S) mem) : ug l E k mc ms cc nL own rt xt z ce sl pc L (.ref (ue_aK E w) :: S) mem :=
  fun p e s m args below meth c C H locs ls hP hS hl => vk_getf C.1 C.2.1 (C.2.2.2.2.2.2.2.2.2.1.1.1 w hb).2.2.1 hS C.2.2.2.1 (C.2.2.2.2.1 _ hw) (fun _ q => q) hd (h p e s m args below meth c C H locs ls hP hS hl)
theorem ug_tcod {i w : Nat} (hw : Cond.fieldLink own i "java/lang/String" "coder" "B" ∈ uw) (hb : w < 18) (hd : decode cc pc = .ok (.getfield i, 3)) (h : ug l E k mc ms cc nL own rt xt z ce sl (pc + 3) L (.int 0 :: S) mem) : ug l E k mc ms cc nL own rt xt z ce sl pc L (.ref (ue_aK E w) :: S) mem :=
  fun p e s m args below meth c C H locs ls hP hS hl => vk_getf C.1 C.2.1 (C.2.2.2.2.2.2.2.2.2.1.1.1 w hb).2.1 hS C.2.2.2.1 (C.2.2.2.2.1 _ hw) (fun _ q => q) hd (h p e s m args below meth c C H locs ls hP hS hl)
theorem ug_tlen {w : Nat} (hb : w < 18) (hd : decode cc pc = .ok (.arraylength, 1)) (h : ug l E k mc ms cc nL own rt xt z ce sl (pc + 1) L (.int (us_l w) :: S) mem) : ug l E k mc ms cc nL own rt xt z ce sl pc L (.ref (ue_aV E w) :: S) mem :=
  fun p e s m args below meth c C H locs ls hP hS hl => va_tlen C.1 C.2.1 (C.2.2.2.2.2.2.2.2.2.1.1.1 w hb).2.2.2 hS rfl hd (h p e s m args below meth c C H locs ls hP hS hl)
theorem ug_tbal {w : Nat} {x : Int32} (hb : w < 18) (hx : vp_in x (us_len.getD w 0)) (hd : decode cc pc = .ok (.baload, 1)) (h : ug l E k mc ms cc nL own rt xt z ce sl (pc + 1) L (.int (us_c w x) :: S) mem) : ug l E k mc ms cc nL own rt xt z ce sl pc L (.int x :: .ref (ue_aV E w) :: S) mem :=
  fun p e s m args below meth c C H locs ls hP hS hl => va_tb C.1 C.2.1 (C.2.2.2.2.2.2.2.2.2.1.1.1 w hb).2.2.2 hS hx rfl hd (h p e s m args below meth c C H locs ls hP hS hl)
theorem ug_tcmp {i : Nat} (hw : Cond.fieldLink own i "java/lang/String" "COMPACT_STRINGS" "Z" ∈ uw) (hd : decode cc pc = .ok (.getstatic i, 3)) (h : ug l E k mc ms cc nL own rt xt z ce sl (pc + 3) L (.int 1 :: S) mem) : ug l E k mc ms cc nL own rt xt z ce sl pc L S mem :=
  fun p e s m args below meth c C H locs ls hP hS hl => va_gets C.1 C.2.1 C.2.2.2.2.2.2.2.2.2.1.2.2.2.2.2.2.1 hS C.2.2.2.1 (C.2.2.2.2.1 _ hw) (fun _ q => q) hd (h p e s m args below meth c C H locs ls hP hS hl)
theorem ug_tsio {i : Nat} (hw : Cond.fieldLink own i "jdk/internal/util/Preconditions" "SIOOBE_FORMATTER" "Ljava/util/function/BiFunction;" ∈ uw) (hd : decode cc pc = .ok (.getstatic i, 3)) (h : ∀ v : Value, (v = .null ∨ ∃ t : Nat, v = .ref t) → ug l E k mc ms cc nL own rt xt z ce sl (pc + 3) L (v :: S) mem) : ug l E k mc ms cc nL own rt xt z ce sl pc L S mem := by
  intro p e s m args below meth c C H locs ls hP hS hl
  rcases C.2.2.2.2.2.2.2.2.2.1.2.2.2.2.2.2.2.1 with q | ⟨t, q⟩
  · exact va_gets C.1 C.2.1 q hS C.2.2.2.1 (C.2.2.2.2.1 _ hw) (fun _ q => q) hd (h _ (Or.inl rfl) p e s m args below meth c C H locs ls hP hS hl)
  · exact va_gets C.1 C.2.1 q hS C.2.2.2.1 (C.2.2.2.2.1 _ hw) (fun _ q => q) hd (h _ (Or.inr ⟨t, rfl⟩) p e s m args below meth c C H locs ls hP hS hl)
theorem ug_i2c {x v : Int32} (hd : decode cc pc = .ok (.i2c, 1)) (hv : (x.toUInt32 % 65536).toInt32 = v) (h : ug l E k mc ms cc nL own rt xt z ce sl (pc + 1) L (.int v :: S) mem) : ug l E k mc ms cc nL own rt xt z ce sl pc L (.int x :: S) mem :=
  fun p e s m args below meth c C H locs ls hP hS hl => lv_i2c C.1 C.2.1 hd hv (h p e s m args below meth c C H locs ls hP hS hl)
theorem ug_nret {r : Int32} {ty : FieldType} (hr : narrow ty (.int r) = .int r) (hd : decode cc pc = .ok (.ireturn, 1)) : ug l E k ce sl cc nL own (some ty) xt (.inl (some (.int r), mem)) ce sl pc L [.int r] mem := by
  intro p e s m args below meth c C H locs ls hP hS hl
  exact W.zret C.1 C.2.1 C.2.2.2.2.2.1 hr (fun t ht _ => ⟨rfl, by rw [ht]; exact hP, hS.F ht⟩) hS.2.2 hd C.2.2.2.2.2.2.1
theorem ug_callT {k1 : Nat} {y : MethodName} {cc1 : ByteArray} {nL1 : Nat} {rt1 : Option FieldType} {m1 : Um} {n i w : Nat} {r : Int32} (As : List Value) (hM : ucr l E k1 0 0 y cc1 nL1 rt1 (.ref (ue_aK E w) :: As) mem (some (.int r)) m1) (hw : uwv own i "java/lang/String" y cc1 nL1 rt1 n) (hb : w < 18) (hn : As.length = n) (hst : S0 = As.reverse ++ .ref (ue_aK E w) :: S) (hr : (S.map fun v => v.category).sum ≤ 8) (hk : k1 + 1 ≤ k) (hl1 : nL1 ≤ 21) (hd : decode cc pc = .ok (.invokevirtual i, 3))
    (h : ug l E k mc ms cc nL own rt xt z 0 0 (pc + 3) L (.int r :: S) m1) : ug l E k mc ms cc nL own rt xt z 0 0 pc L S0 mem := by
  intro p e s m args below meth c C H locs ls hP hS hl
  subst hst
  refine uq_go (va_runV (As := As) (rest := S) (Ts := uw) ⟨C.1, C.2.1, C.2.2.1, C.2.2.2.1, C.2.2.2.2.1⟩ (hM C.2.2.2.2.2.2.2.2.2.2) (cwV (C := "java/lang/String") n C.2.2.2.2.1 (uwv_good hw) rfl rfl rfl hw.2 (ur_room hk hl1)) ⟨up_blind E mem _, ?_, up_pre C hP hS _⟩ rfl hn hl.1 rfl (lv_room hr) hd ⟨Nat.zero_le _, Nat.zero_le _⟩) hS (fun H1 locs1 hP1 hS1 => h p e s m args below meth c C H1 locs1 ls hP1 hS1 hl)
  exact vk_recv C.2.2.2.2.2.2.2.2.2.1.1 hb hS
end UST
theorem us_chr : ∀ w, w < 18 → ∀ j, j < us_len.getD w 0 → (((us_byt.getD w []).getD j 0 &&& 255).toUInt32 % 65536).toInt32 = (us_byt.getD w []).getD j 0 ∧ narrow .char (.int ((us_byt.getD w []).getD j 0)) = .int ((us_byt.getD w []).getD j 0) := by decide +kernel
theorem us_lt : ∀ w, w < 18 → us_len.getD w 0 < 2 ^ 31 := by decide +kernel
section USC
variable {l : Launch} {E : Ue} {mem : Um} {w : Nat}
theorem c_J0_coder (hb : w < 18) : ucr l E 1 0 0 yJ0_coder_7d493 cJ0_coder_7d493 1 (some .byte) [.ref (ue_aK E w)] mem (some (.int 0)) mem := by
  refine ucr_of rfl (Nat.le_of_ble_eq_true rfl) ?_
  refine ug_tcmp ks_38 dJ0_coder_7d493_0 ?_
  refine ug_if_eq 13 dJ0_coder_7d493_3 (by decide) (fun q => absurd q (by decide)) (fun q => ?_)
  refine ug_aload_n 0 dJ0_coder_7d493_6 rfl rfl ?_
  refine ug_tcod ks_15 hb dJ0_coder_7d493_7 ?_
  refine ug_goto 14 dJ0_coder_7d493_10 (by decide) ?_
  exact ug_nret rfl dJ0_coder_7d493_14
theorem c_J0_isLatin1 (hb : w < 18) : ucr l E 1 0 0 yJ0_isLatin1_aae02 cJ0_isLatin1_aae02 1 (some .boolean) [.ref (ue_aK E w)] mem (some (.int 1)) mem := by
  refine ucr_of rfl (Nat.le_of_ble_eq_true rfl) ?_
  refine ug_tcmp ks_38 dJ0_isLatin1_aae02_0 ?_
  refine ug_if_eq 17 dJ0_isLatin1_aae02_3 (by decide) (fun q => absurd q (by decide)) (fun q => ?_)
  refine ug_aload_n 0 dJ0_isLatin1_aae02_6 rfl rfl ?_
  refine ug_tcod ks_15 hb dJ0_isLatin1_aae02_7 ?_
  refine ug_if_ne 17 dJ0_isLatin1_aae02_10 (by decide) (fun q => absurd rfl q) (fun q => ?_)
  refine ug_iconst dJ0_isLatin1_aae02_13 un_iconst_1 ?_
  refine ug_goto 18 dJ0_isLatin1_aae02_14 (by decide) ?_
  exact ug_nret rfl dJ0_isLatin1_aae02_18
theorem c_J0_length (hb : w < 18) : ucr l E 2 0 0 yJ0_length_8abf5 cJ0_length_8abf5 1 (some .int) [.ref (ue_aK E w)] mem (some (.int (us_l w))) mem := by
  refine ucr_of rfl (Nat.le_of_ble_eq_true rfl) ?_
  refine ug_aload_n 0 dJ0_length_8abf5_0 rfl rfl ?_
  refine ug_tval ks_9 hb dJ0_length_8abf5_1 ?_
  refine ug_tlen hb dJ0_length_8abf5_4 ?_
  refine ug_aload_n 0 dJ0_length_8abf5_5 rfl rfl ?_
  refine ug_callT [] (c_J0_coder hb) ks_335 hb rfl (S := [.int (us_l w)]) rfl (Nat.le_of_ble_eq_true rfl) (Nat.le_of_ble_eq_true rfl) (Nat.le_of_ble_eq_true rfl) dJ0_length_8abf5_6 ?_
  refine ug_ishr dJ0_length_8abf5_9 ?_
  rw [sb_shr0]
  exact ug_iret dJ0_length_8abf5_10
theorem t_J3_checkIndex {x n : Int32} (h1 : ¬ x < 0) (h2 : x < n) : ug l E 1 0 0 cJ3_checkIndex_8e157 3 RJ3 (some .int) [] (.inl (some (.int x), mem)) 0 0 0 [(0, .int x), (1, .int n)] [] mem := by
  refine ug_iload_n 0 dJ3_checkIndex_8e157_0 rfl rfl ?_
  refine ug_if_lt 9 dJ3_checkIndex_8e157_1 (by decide) (fun q => absurd q h1) (fun q => ?_)
  refine ug_iload_n 0 dJ3_checkIndex_8e157_4 rfl rfl ?_
  refine ug_iload_n 1 dJ3_checkIndex_8e157_5 rfl rfl ?_
  refine ug_icmp_lt 16 dJ3_checkIndex_8e157_6 (by decide) (fun q => ?_) (fun q => absurd h2 q)
  refine ug_iload_n 0 dJ3_checkIndex_8e157_16 rfl rfl ?_
  exact ug_iret dJ3_checkIndex_8e157_17
theorem c_J3_checkIndex {x n : Int32} {v : Value} (hv : v = .null ∨ ∃ t : Nat, v = .ref t) (h1 : ¬ x < 0) (h2 : x < n) : ucr l E 1 0 0 yJ3_checkIndex_8e157 cJ3_checkIndex_8e157 3 (some .int) [.int x, .int n, v] mem (some (.int x)) mem := by
  rcases hv with rfl | ⟨t, rfl⟩
  · exact ucr_of rfl (Nat.le_of_ble_eq_true rfl) (ug_sub [(0, .int x), (1, .int n)] [0, 1] rfl (t_J3_checkIndex h1 h2))
  · exact ucr_of rfl (Nat.le_of_ble_eq_true rfl) (ug_sub [(0, .int x), (1, .int n)] [0, 1] rfl (t_J3_checkIndex h1 h2))
theorem c_J0_checkIndex {x n : Int32} (h1 : ¬ x < 0) (h2 : x < n) : ucr l E 2 0 0 yJ0_checkIndex_df160 cJ0_checkIndex_df160 2 none [.int x, .int n] mem none mem := by
  refine ucr_of rfl (Nat.le_of_ble_eq_true rfl) ?_
  refine ug_iload_n 0 dJ0_checkIndex_df160_0 rfl rfl ?_
  refine ug_iload_n 1 dJ0_checkIndex_df160_1 rfl rfl ?_
  refine ug_tsio ks_1053 dJ0_checkIndex_df160_2 (fun v hv => ?_)
  refine ug_callSi [.int x, .int n, v] (c_J3_checkIndex hv h1 h2) ks_1059 rfl (S := []) rfl (Nat.le_of_ble_eq_true rfl) (Nat.le_of_ble_eq_true rfl) (Nat.le_of_ble_eq_true rfl) dJ0_checkIndex_df160_5 ?_
  refine ug_pop dJ0_checkIndex_df160_8 rfl ?_
  exact ug_vret dJ0_checkIndex_df160_9
theorem c_J1_charAt {x : Int32} (hb : w < 18) (hx : vp_in x (us_len.getD w 0)) : ucr l E 3 0 0 yJ1_charAt_3b067 cJ1_charAt_3b067 2 (some .char) [.ref (ue_aV E w), .int x] mem (some (.int (us_c w x))) mem := by
  obtain ⟨j, hj, rfl⟩ := vp_in_of hx (us_lt w hb)
  have hc := us_chr w hb j hj
  have hs : us_c w (nI j) = (us_byt.getD w []).getD j 0 := by unfold us_c; rw [nI_clamp (Nat.lt_trans hj (us_lt w hb))]
  refine ucr_of rfl (Nat.le_of_ble_eq_true rfl) ?_
  refine ug_iload_n 1 dJ1_charAt_3b067_0 rfl rfl ?_
  refine ug_aload_n 0 dJ1_charAt_3b067_1 rfl rfl ?_
  refine ug_tlen hb dJ1_charAt_3b067_2 ?_
  refine ug_callSv [.int (nI j), .int (us_l w)] (c_J0_checkIndex (nI_pos (Nat.lt_trans hj (us_lt w hb))) (nI_lt hj (us_lt w hb))) ks_J1_9 rfl (S := []) rfl (Nat.le_of_ble_eq_true rfl) (Nat.le_of_ble_eq_true rfl) (Nat.le_of_ble_eq_true rfl) dJ1_charAt_3b067_3 ?_
  refine ug_aload_n 0 dJ1_charAt_3b067_6 rfl rfl ?_
  refine ug_iload_n 1 dJ1_charAt_3b067_7 rfl rfl ?_
  refine ug_tbal hb hx dJ1_charAt_3b067_8 ?_
  refine ug_sipush dJ1_charAt_3b067_9 (v := 255) (by decide) ?_
  refine ug_iand dJ1_charAt_3b067_12 ?_
  refine ug_i2c (v := us_c w (nI j)) dJ1_charAt_3b067_13 (by rw [hs]; exact hc.1) ?_
  exact ug_nret (by rw [hs]; exact hc.2) dJ1_charAt_3b067_14
theorem c_J0_charAt {x : Int32} (hb : w < 18) (hx : vp_in x (us_len.getD w 0)) : ucr l E 4 0 0 yJ0_charAt_5068e cJ0_charAt_5068e 2 (some .char) [.ref (ue_aK E w), .int x] mem (some (.int (us_c w x))) mem := by
  have hn : narrow .char (.int (us_c w x)) = .int (us_c w x) := by
    obtain ⟨j, hj, rfl⟩ := vp_in_of hx (us_lt w hb)
    have hs : us_c w (nI j) = (us_byt.getD w []).getD j 0 := by unfold us_c; rw [nI_clamp (Nat.lt_trans hj (us_lt w hb))]
    rw [hs]; exact (us_chr w hb j hj).2
  refine ucr_of rfl (Nat.le_of_ble_eq_true rfl) ?_
  refine ug_aload_n 0 dJ0_charAt_5068e_0 rfl rfl ?_
  refine ug_callT [] (c_J0_isLatin1 hb) ks_492 hb rfl (S := []) rfl (Nat.le_of_ble_eq_true rfl) (Nat.le_of_ble_eq_true rfl) (Nat.le_of_ble_eq_true rfl) dJ0_charAt_5068e_1 ?_
  refine ug_if_eq 16 dJ0_charAt_5068e_4 (by decide) (fun q => absurd q (by decide)) (fun q => ?_)
  refine ug_aload_n 0 dJ0_charAt_5068e_7 rfl rfl ?_
  refine ug_tval ks_9 hb dJ0_charAt_5068e_8 ?_
  refine ug_iload_n 1 dJ0_charAt_5068e_11 rfl rfl ?_
  refine ug_callSi [.ref (ue_aV E w), .int x] (c_J1_charAt hb hx) ks_495 rfl (S := []) rfl (Nat.le_of_ble_eq_true rfl) (Nat.le_of_ble_eq_true rfl) (Nat.le_of_ble_eq_true rfl) dJ0_charAt_5068e_12 ?_
  exact ug_nret hn dJ0_charAt_5068e_15
end USC
section USG
variable {l : Launch} {E : Ue} {k mc ms : Nat} {cc : ByteArray} {nL : Nat} {own : String} {rt : Option FieldType} {xt : List ExceptionTableEntry} {z : Uz} {ce sl pc : Nat} {L : List (Nat × Value)} {S S0 : List Value} {mem : Um}
theorem ug_slen {i w : Nat} (hw : uwv own i "java/lang/String" yJ0_length_8abf5 cJ0_length_8abf5 1 (some .int) 0) (hb : w < 18) (hk : 5 ≤ k) (hr : (S.map fun v => v.category).sum ≤ 8) (hd : decode cc pc = .ok (.invokevirtual i, 3)) (h : ug l E k mc ms cc nL own rt xt z 0 0 (pc + 3) L (.int (us_l w) :: S) mem) : ug l E k mc ms cc nL own rt xt z 0 0 pc L (.ref (ue_aK E w) :: S) mem :=
  ug_callT [] (c_J0_length hb) hw hb rfl rfl hr (by omega) (Nat.le_of_ble_eq_true rfl) hd h
theorem ug_schr {i w : Nat} {x : Int32} (hw : uwv own i "java/lang/String" yJ0_charAt_5068e cJ0_charAt_5068e 2 (some .char) 1) (hb : w < 18) (hx : vp_in x (us_len.getD w 0)) (hk : 5 ≤ k) (hr : (S.map fun v => v.category).sum ≤ 8) (hd : decode cc pc = .ok (.invokevirtual i, 3)) (h : ug l E k mc ms cc nL own rt xt z 0 0 (pc + 3) L (.int (us_c w x) :: S) mem) : ug l E k mc ms cc nL own rt xt z 0 0 pc L (.int x :: .ref (ue_aK E w) :: S) mem :=
  ug_callT [.int x] (c_J0_charAt hb hx) hw hb rfl rfl hr (by omega) (Nat.le_of_ble_eq_true rfl) hd h
end USG
