theorem u_wide : True := by
  have := @Jvm.Stand.thenCaughtThrough
  trivial
section UCA
variable {p : Program} {l : Launch} {e : Env} {R : Room} {s : State} {m : MethodId} {args : Array Value} {below : List Frame} {meth : Method} {c : Code} {H : Heap} {locs : List Loc} {cells slots : Nat} {Q : State → Prop}
variable {mc ms : Nat} {free : Addr → Prop} {A0 A1 : Nat → Prop} {H0 : Heap} {a : Array Value} {pc : Nat} {ls : Array Slot} {st0 rest : List Value}
theorem vx_catch {own name : String} {E : String} {ce : Cell} {q : Addr} (hown : s.vm.findClass own = some m.cls) (pre : List ExceptionTableEntry) (x : ExceptionTableEntry) (suf : List ExceptionTableEntry) (hsplit : c.exceptionTable.toList = pre ++ x :: suf)
    (hpass : ∀ z ∈ pre, covers z pc = false ∨ (z.catchType ≠ 0 ∧ ∃ nm : String, (Cond.classLink own z.catchType nm).before args s = true ∧ va_Nc E nm s)) (hx : covers x pc = true) (h0 : x.catchType ≠ 0)
    (hlink : (Cond.classLink own x.catchType name).before args s = true) (hcast : (Cond.castable E name).before args s = true) (hcell : H[q]? = some ce) (hv : ce.vm = .none) (hcl : s.vm.findClass E = some ce.cls)
    (kk : W p l e R s m args below meth c H locs cells slots Q (F0 m x.handlerPc ls [.ref q])) : vx_W p l e R s m args below meth c H locs cells slots Q (F0 m pc ls rest) q := by
  intro T hT X
  have hpl : e.platform.magicAccessors = ({} : Platform).magicAccessors := by rw [X.admits.platform]
  obtain ⟨c3, c4, hc3, hc4, hasg⟩ := Cond.castable_spec hcast
  cases Option.some.inj (hc3.symm.trans hcl)
  obtain ⟨c5, hc5, hcl5⟩ := Cond.classLink_spec hown hlink e.platform hpl
  cases Option.some.inj (hc4.symm.trans hc5)
  obtain ⟨vm', X', st⟩ := X.thenCaughtThrough q (g := F0 m pc ls rest) rfl (Steps.refl _) (by rw [hT]; exact hcell) (by rw [hv]; rfl) (by obtain ⟨k9, h9, -⟩ := Vm.findClass_spec hcl; exact ⟨k9, h9⟩) pre x suf hsplit
    (fun z hz => by
      rcases hpass z hz with h | ⟨hz0, nm, hl1, hn1⟩
      · exact Or.inl h
      · obtain ⟨c6, hc6, hcl6⟩ := Cond.classLink_spec hown hl1 e.platform hpl
        obtain ⟨a8, b8, h1, h2, h3⟩ := hn1
        cases Option.some.inj (h1.symm.trans hcl)
        cases Option.some.inj (h2.symm.trans hc6)
        exact Or.inr ⟨hz0, _, hcl6, h3⟩) hx (Or.inr ⟨h0, c4, hcl5, hasg⟩)
  obtain ⟨t, a1, b1⟩ := kk (T.setVm vm') hT X'
  exact ⟨t, st.trans a1, b1⟩
end UCA
def ucw (l : Launch) (E : Ue) (k : Nat) (y : MethodName) (cc : ByteArray) (nL : Nat) (rt : Option FieldType) (hh : List (Nat × Nat × Nat × Nat)) (as : List Value) (m : Um) (v : Option Value) (m1 : Um) : Prop :=
  l.stackTraces = false → Met l y (.codeWith y cc nL rt hh :: uw) (ur k 1 6) (va_Pc as (up E m)) (uq E v m1) 1 6 (ue_A E)
section UWR
variable {l : Launch} {E : Ue} {k mc ms : Nat} {cc : ByteArray} {nL : Nat} {own : String} {rt : Option FieldType} {xt : List ExceptionTableEntry} {z : Uz} {ce sl pc : Nat} {L : List (Nat × Value)} {S S0 : List Value} {mem : Um}
variable {k1 : Nat} {y : MethodName} {cc1 : ByteArray} {nL1 : Nat} {rt1 : Option FieldType} {m1 : Um} {v : Option Value} {n i o : Nat} {C0 : String}
theorem ucw_of {hh : List (Nat × Nat × Nat × Nat)} {as : List Value} (hy : plainName y.cls = true) (hlen : (lg_sl as).length ≤ nL) (h : ug l E k 1 6 cc nL y.cls rt (tableOf hh) (.inl (v, m1)) 0 0 0 (lv_args 0 as) [] mem) : ucw l E k y cc nL rt hh as mem v m1 := by
  intro hst
  have hV : vx_Met l y (.codeWith y cc nL rt hh :: uw) (ur k 1 6) (va_Pc as (up E mem)) (uq E v m1) (fun _ _ _ => False) 1 6 (ue_A E) := by
    refine vx_ofWH (cc := cc) (maxL := nL) (ret := rt) (hh := hh) hy rfl ?_
    intro p e s m args below meth c s₁ B hml hv
    obtain ⟨rfl, hP, hK, hO⟩ := hv
    have hts := atoms_spec (ws := .codeWith y cc nL rt hh :: uw) B.pre
    have hown : s.vm.findClass y.cls = some m.cls := findClass_of_methodNamed B.named
    have hxt : c.exceptionTable.toList = tableOf hh := vx_table (x := y) B (hts _ List.mem_cons_self)
    have hl := lv_entry as (n := nL) hlen
    rw [lg_entry_eq]
    exact vx_ret (h p e s m _ below meth c ⟨B.exec, B.bytes, hml, hown, fun w hw => hts w (List.mem_cons_of_mem _ hw), B.returns, B.notSynchronized, hxt, hK, hO, hst⟩ s.heap [] _ hP va_S.rf hl)
  intro p e ha hc hk s m args below hf happ hP hK
  obtain ⟨n, o, h1, h2, h3, hQ⟩ := hV p e ha hc hk s m args below hf happ hP hK
  rcases hQ with q | ⟨q, -, E', ce, L, hF, -⟩
  · exact ⟨n, o, h1, h2, h3, q⟩
  · exact hF.elim
/-- a method of an object throws, and a row of the caller's table takes it -/
theorem ug_catch {X name : String} (As : List Value) (hM : ucx l E k1 1 6 y cc1 nL1 rt1 (.ref (ue_d E o) :: As) mem X m1) (hw : uwv own i C0 y cc1 nL1 rt1 n) (ho : uro o C0) (hn : As.length = n) (hst : S0 = As.reverse ++ .ref (ue_d E o) :: S) (hr : (S.map fun v => v.category).sum ≤ 8) (hk : k1 + 1 ≤ k) (hl1 : nL1 ≤ 21) (hc : ce + 1 ≤ mc ∧ sl + 6 ≤ ms) (hd : decode cc pc = .ok (.invokevirtual i, 3))
    (pre : List ExceptionTableEntry) (x : ExceptionTableEntry) (suf : List ExceptionTableEntry) (hsp : xt = pre ++ x :: suf) (hpass : ∀ z ∈ pre, X = "java/lang/IllegalArgumentException" ∧ z.catchType ≠ 0 ∧ Cond.classLink own z.catchType "java/util/NoSuchElementException" ∈ uw) (hx : covers x pc = true) (h0 : x.catchType ≠ 0) (hlink : Cond.classLink own x.catchType name ∈ uw) (hcast : Cond.castable X name ∈ us_fw)
    (h : ∀ q : Nat, ug l E k mc ms cc nL own rt xt z (ce + 1) (sl + 6) x.handlerPc L [.ref q] m1) : ug l E k mc ms cc nL own rt xt z ce sl pc L S0 mem := by
  intro p e s m args below meth c C H locs ls hP hS hl
  subst hst
  obtain ⟨ci, rs, T0, N, ho, hci⟩ := ho
  have hO := C.2.2.2.2.2.2.2.2.2.1
  have hr1 := vx_runV (R := ur k mc ms) (below := below) (meth := meth) (e := e) (locs := locs) (cells := ce) (slots := sl) (g := F0 m pc ls (As.reverse ++ .ref (ue_d E o) :: S)) (As := As) (rest := S) (Ts := uw) (Qc := fun _ _ _ _ => False) ⟨C.1, C.2.1, C.2.2.1, C.2.2.2.1, C.2.2.2.2.1⟩ (hM C.2.2.2.2.2.2.2.2.2.2) (cwV (C := C0) n C.2.2.2.2.1 (uwv_good hw) rfl rfl rfl hw.2 (ur_room hk hl1)) ⟨up_blind E mem _, va_recv C.2.2.2.2.2.2.2.2.1 hP hci (ul_get E mem ho), up_pre C hP hS _⟩ rfl hn hl.1 rfl (lv_room hr) hd hc
  intro T hT X0
  rcases hr1 T hT X0 with ⟨v', st₀, t, T', Lc, q0, X', hL, e1, e2, hF, st⟩ | ⟨q, st₀, t, T', Lc, X2, cel, q0, X', hL, e1, e2, ⟨rfl, hP1, hF⟩, hce, hcv, hcl, st⟩
  · exact hF.elim
  · have hS1 := uq_keep q0 e1 hS hL hF
    have hW := h q p e s m args below meth c C T'.heap (locs ++ Lc) ls (by rw [e1]; exact hP1) hS1 hl
    obtain ⟨t2, a1, b1⟩ := vx_catch (E := X2) (name := name) (ls := ls) (rest := S) (pc := pc) C.2.2.2.1 pre x suf (by rw [C.2.2.2.2.2.2.2.1]; exact hsp) (fun z hz => Or.inr ⟨(hpass z hz).2.1, _, C.2.2.2.2.1 _ (hpass z hz).2.2, by rw [(hpass z hz).1]; exact hO.2.2.2.2.2.2.2.2.2.2.2⟩) hx h0 (C.2.2.2.2.1 _ hlink) (va_Nw.use (us_fw_on hcast).2 (hO.2.2.2.2.2.1 _ hcast)) (by rw [e1]; exact hce) hcv hcl hW T' rfl X'
    exact ⟨t2, st.trans a1, b1⟩
theorem ug_callVL {r : Option Value} (S1 : List Value) (As : List Value) (hM : ucr l E k1 0 0 y cc1 nL1 rt1 (.ref (ue_d E o) :: As) mem r m1) (hw : uwv own i C0 y cc1 nL1 rt1 n) (ho : uro o C0) (hn : As.length = n) (hst : S0 = As.reverse ++ .ref (ue_d E o) :: S) (hS1 : r.toList ++ S = S1) (hr : (S.map fun v => v.category).sum ≤ 8) (hk : k1 + 1 ≤ k) (hl1 : nL1 ≤ 21) (hc : ce ≤ mc ∧ sl ≤ ms) (hd : decode cc pc = .ok (.invokevirtual i, 3)) (h : ug l E k mc ms cc nL own rt xt z ce sl (pc + 3) L S1 m1) : ug l E k mc ms cc nL own rt xt z ce sl pc L S0 mem := by
  subst hS1
  exact ug_callV As hM hw ho hn hst hr hk hl1 hc hd h
/-- a wrapper, called by the law -/
def uwc (own : String) (i : Nat) (y : MethodName) (cc : ByteArray) (nL : Nat) (rt : Option FieldType) (hh : List (Nat × Nat × Nat × Nat)) (n : Nat) : Prop := (Cond.methodLink own i y ∈ uw ∧ Cond.static y ∈ uw ∧ Cond.initialized y.cls ∈ uw ∧ Cond.codeWith y cc nL rt hh ∈ uw) ∧ y.cls ≠ "java/lang/invoke/MethodHandle" ∧ y.cls ≠ "java/lang/invoke/VarHandle" ∧ (parseMethodDescriptor y.desc).map (fun d => d.parameters.length) = some n
theorem ug_callW {r : Int32} {hh : List (Nat × Nat × Nat × Nat)} (As : List Value) (hM : ucw l E k1 y cc1 nL1 rt1 hh As mem (some (.int r)) m1) (hw : uwc own i y cc1 nL1 rt1 hh n) (hn : As.length = n) (hst : S0 = As.reverse ++ S) (hr : (S.map fun v => v.category).sum ≤ 8) (hk : k1 + 1 ≤ k) (hl1 : nL1 ≤ 21) (hc : ce + 1 ≤ mc ∧ sl + 6 ≤ ms) (hd : decode cc pc = .ok (.invokestatic i, 3)) (h : ug l E k mc ms cc nL own rt xt z (ce + 1) (sl + 6) (pc + 3) L (.int r :: S) m1) : ug l E k mc ms cc nL own rt xt z ce sl pc L S0 mem := by
  intro p e s m args below meth c C H locs ls hP hS hl
  subst hst
  have hG : GoodIn uw (va_wsS own i y (.codeWith y cc1 nL1 rt1 hh :: uw)) := by
    obtain ⟨⟨h1, h2, h3, h4⟩, -⟩ := hw
    intro w hw
    unfold va_wsS at hw
    rcases List.mem_append.mp hw with q | q
    · simp only [List.mem_cons, List.mem_nil_iff, or_false] at q
      rcases q with rfl | rfl | rfl
      · exact uw_in _ h1
      · exact uw_in _ h2
      · exact uw_in _ h3
    · exact uw_inc h4 w q
  exact uq_go (vx_runSW (As := As) (rest := S) (Ts := uw) (hh := hh) ⟨C.1, C.2.1, C.2.2.1, C.2.2.2.1, C.2.2.2.2.1⟩ (hM C.2.2.2.2.2.2.2.2.2.2) (vx_cwSW n C.2.2.2.2.1 hG rfl rfl rfl hw.2 (ur_room hk hl1)) ⟨up_blind E mem _, up_pre C hP hS _⟩ rfl hn hl.1 rfl (lv_room hr) hd hc) hS (fun H1 locs1 hP1 hS1 => h p e s m args below meth c C H1 locs1 ls hP1 hS1 hl)
end UWR
theorem kx_I : Cond.castable "java/lang/IllegalArgumentException" "java/lang/IllegalArgumentException" ∈ us_fw := List.mem_filter.mpr ⟨List.mem_of_getElem? (i := 376) (by decide +kernel), rfl⟩
theorem kx_N : Cond.castable "java/util/NoSuchElementException" "java/util/NoSuchElementException" ∈ us_fw := List.mem_filter.mpr ⟨List.mem_of_getElem? (i := 846) (by decide +kernel), rfl⟩
theorem kq_13 : Cond.classLink RL 13 "java/lang/IllegalArgumentException" ∈ uw := uw_t 365 (by decide +kernel) rfl
theorem kq_31 : Cond.classLink RL 31 "java/util/NoSuchElementException" ∈ uw := uw_t 835 (by decide +kernel) rfl
theorem kc_L_7 : uwv RL 7 RX7 yX7_corner cX7_corner 2 (some .int) 1 := ⟨⟨uw_t 366 (by decide +kernel) rfl, uw_t 367 (by decide +kernel) rfl, uw_t 368 (by decide +kernel) rfl, uw_t 1 (by decide +kernel) rfl, uw_t 369 (by decide +kernel) rfl⟩, rfl, by decide +kernel, by decide +kernel, by decide +kernel⟩
theorem c_L_corner_r {l : Launch} {E : Ue} (hx : ue_x E = [.inr (3, 1)]) {mem : Um} {x1 : Int32} {m1 : Um} {r : Int32} (h : f_X7_corner mem x1 = some (m1, .inl r)) : ucw l E 10 yL_corner cL_corner 4 (some .int) [(0, 9, 12, 13)] [.ref (ue_d E 0), .int x1, .ref (ue_d E 63)] mem (some (.int 0)) (um_L m1 r.toInt64) := by
  refine ucw_of rfl (Nat.le_of_ble_eq_true rfl) ?_
  refine ug_aload_n 2 dL_corner_0 rfl rfl ?_
  refine ug_iconst dL_corner_1 un_iconst_0 ?_
  refine ug_aload_n 0 dL_corner_2 rfl rfl ?_
  refine ug_iload_n 1 dL_corner_3 rfl rfl ?_
  refine ug_callVi [.int x1] (c_X7_corner_r h) kc_L_7 ro_0 rfl (S := [.int 0, .ref (ue_d E 63)]) rfl (Nat.le_of_ble_eq_true rfl) (Nat.le_of_ble_eq_true rfl) (Nat.le_of_ble_eq_true rfl) dL_corner_4 ?_
  refine ug_i2l dL_corner_7 ?_
  refine ug_last hx dL_corner_8 ?_
  refine ug_goto 15 dL_corner_9 (by decide) ?_
  refine ug_iconst dL_corner_15 un_iconst_0 ?_
  refine ug_widen (Nat.zero_le 1) (Nat.zero_le 6) ?_
  exact ug_iret dL_corner_16
theorem c_L_corner_i {l : Launch} {E : Ue} {mem : Um} {x1 : Int32} {m1 : Um} (h : f_X7_corner mem x1 = some (m1, .inr "java/lang/IllegalArgumentException")) : ucw l E 10 yL_corner cL_corner 4 (some .int) [(0, 9, 12, 13)] [.ref (ue_d E 0), .int x1, .ref (ue_d E 63)] mem (some (.int 1)) m1 := by
  refine ucw_of rfl (Nat.le_of_ble_eq_true rfl) ?_
  refine ug_aload_n 2 dL_corner_0 rfl rfl ?_
  refine ug_iconst dL_corner_1 un_iconst_0 ?_
  refine ug_aload_n 0 dL_corner_2 rfl rfl ?_
  refine ug_iload_n 1 dL_corner_3 rfl rfl ?_
  refine ug_catch (X := "java/lang/IllegalArgumentException") (name := "java/lang/IllegalArgumentException") [.int x1] (c_X7_corner_x h) kc_L_7 ro_0 rfl (S := [.int 0, .ref (ue_d E 63)]) rfl (Nat.le_of_ble_eq_true rfl) (Nat.le_of_ble_eq_true rfl) (Nat.le_of_ble_eq_true rfl) ⟨Nat.le_refl 1, Nat.le_refl 6⟩ dL_corner_4 [] ⟨0, 9, 12, 13⟩ [] rfl (fun z hz => by cases hz) (by decide) (by decide) kq_13 kx_I (fun q => ?_)
  refine ug_astore_n [(3, .ref q), (0, .ref (ue_d E 0)), (1, .int x1), (2, .ref (ue_d E 63))] dL_corner_12 rfl (Nat.le_of_ble_eq_true rfl) rfl ?_
  refine ug_iconst dL_corner_13 un_iconst_1 ?_
  exact ug_iret dL_corner_14
theorem kc_L_15 : uwv RL 15 RX7 yX7_law cX7_law 2 (some .int) 1 := ⟨⟨uw_t 570 (by decide +kernel) rfl, uw_t 571 (by decide +kernel) rfl, uw_t 572 (by decide +kernel) rfl, uw_t 1 (by decide +kernel) rfl, uw_t 573 (by decide +kernel) rfl⟩, rfl, by decide +kernel, by decide +kernel, by decide +kernel⟩
theorem c_L_law_r {l : Launch} {E : Ue} (hx : ue_x E = [.inr (3, 1)]) {mem : Um} {x1 : Int32} {m1 : Um} {r : Int32} (h : f_X7_law mem x1 = some (m1, .inl r)) : ucw l E 163 yL_law cL_law 4 (some .int) [(0, 9, 12, 13)] [.ref (ue_d E 0), .int x1, .ref (ue_d E 63)] mem (some (.int 0)) (um_L m1 r.toInt64) := by
  refine ucw_of rfl (Nat.le_of_ble_eq_true rfl) ?_
  refine ug_aload_n 2 dL_law_0 rfl rfl ?_
  refine ug_iconst dL_law_1 un_iconst_0 ?_
  refine ug_aload_n 0 dL_law_2 rfl rfl ?_
  refine ug_iload_n 1 dL_law_3 rfl rfl ?_
  refine ug_callVi [.int x1] (c_X7_law_r h) kc_L_15 ro_0 rfl (S := [.int 0, .ref (ue_d E 63)]) rfl (Nat.le_of_ble_eq_true rfl) (Nat.le_of_ble_eq_true rfl) (Nat.le_of_ble_eq_true rfl) dL_law_4 ?_
  refine ug_i2l dL_law_7 ?_
  refine ug_last hx dL_law_8 ?_
  refine ug_goto 15 dL_law_9 (by decide) ?_
  refine ug_iconst dL_law_15 un_iconst_0 ?_
  refine ug_widen (Nat.zero_le 1) (Nat.zero_le 6) ?_
  exact ug_iret dL_law_16
theorem c_L_law_i {l : Launch} {E : Ue} {mem : Um} {x1 : Int32} {m1 : Um} (h : f_X7_law mem x1 = some (m1, .inr "java/lang/IllegalArgumentException")) : ucw l E 163 yL_law cL_law 4 (some .int) [(0, 9, 12, 13)] [.ref (ue_d E 0), .int x1, .ref (ue_d E 63)] mem (some (.int 1)) m1 := by
  refine ucw_of rfl (Nat.le_of_ble_eq_true rfl) ?_
  refine ug_aload_n 2 dL_law_0 rfl rfl ?_
  refine ug_iconst dL_law_1 un_iconst_0 ?_
  refine ug_aload_n 0 dL_law_2 rfl rfl ?_
  refine ug_iload_n 1 dL_law_3 rfl rfl ?_
  refine ug_catch (X := "java/lang/IllegalArgumentException") (name := "java/lang/IllegalArgumentException") [.int x1] (c_X7_law_x h) kc_L_15 ro_0 rfl (S := [.int 0, .ref (ue_d E 63)]) rfl (Nat.le_of_ble_eq_true rfl) (Nat.le_of_ble_eq_true rfl) (Nat.le_of_ble_eq_true rfl) ⟨Nat.le_refl 1, Nat.le_refl 6⟩ dL_law_4 [] ⟨0, 9, 12, 13⟩ [] rfl (fun z hz => by cases hz) (by decide) (by decide) kq_13 kx_I (fun q => ?_)
  refine ug_astore_n [(3, .ref q), (0, .ref (ue_d E 0)), (1, .int x1), (2, .ref (ue_d E 63))] dL_law_12 rfl (Nat.le_of_ble_eq_true rfl) rfl ?_
  refine ug_iconst dL_law_13 un_iconst_1 ?_
  exact ug_iret dL_law_14
theorem kc_L_18 : uwv RL 18 RX7 yX7_work cX7_work 2 (some .int) 1 := ⟨⟨uw_t 641 (by decide +kernel) rfl, uw_t 642 (by decide +kernel) rfl, uw_t 643 (by decide +kernel) rfl, uw_t 1 (by decide +kernel) rfl, uw_t 644 (by decide +kernel) rfl⟩, rfl, by decide +kernel, by decide +kernel, by decide +kernel⟩
theorem c_L_work_r {l : Launch} {E : Ue} (hx : ue_x E = [.inr (3, 1)]) {mem : Um} {x1 : Int32} {m1 : Um} {r : Int32} (h : f_X7_work mem x1 = some (m1, .inl r)) : ucw l E 147 yL_work cL_work 4 (some .int) [(0, 9, 12, 13)] [.ref (ue_d E 0), .int x1, .ref (ue_d E 63)] mem (some (.int 0)) (um_L m1 r.toInt64) := by
  refine ucw_of rfl (Nat.le_of_ble_eq_true rfl) ?_
  refine ug_aload_n 2 dL_work_0 rfl rfl ?_
  refine ug_iconst dL_work_1 un_iconst_0 ?_
  refine ug_aload_n 0 dL_work_2 rfl rfl ?_
  refine ug_iload_n 1 dL_work_3 rfl rfl ?_
  refine ug_callVi [.int x1] (c_X7_work_r h) kc_L_18 ro_0 rfl (S := [.int 0, .ref (ue_d E 63)]) rfl (Nat.le_of_ble_eq_true rfl) (Nat.le_of_ble_eq_true rfl) (Nat.le_of_ble_eq_true rfl) dL_work_4 ?_
  refine ug_i2l dL_work_7 ?_
  refine ug_last hx dL_work_8 ?_
  refine ug_goto 15 dL_work_9 (by decide) ?_
  refine ug_iconst dL_work_15 un_iconst_0 ?_
  refine ug_widen (Nat.zero_le 1) (Nat.zero_le 6) ?_
  exact ug_iret dL_work_16
theorem c_L_work_i {l : Launch} {E : Ue} {mem : Um} {x1 : Int32} {m1 : Um} (h : f_X7_work mem x1 = some (m1, .inr "java/lang/IllegalArgumentException")) : ucw l E 147 yL_work cL_work 4 (some .int) [(0, 9, 12, 13)] [.ref (ue_d E 0), .int x1, .ref (ue_d E 63)] mem (some (.int 1)) m1 := by
  refine ucw_of rfl (Nat.le_of_ble_eq_true rfl) ?_
  refine ug_aload_n 2 dL_work_0 rfl rfl ?_
  refine ug_iconst dL_work_1 un_iconst_0 ?_
  refine ug_aload_n 0 dL_work_2 rfl rfl ?_
  refine ug_iload_n 1 dL_work_3 rfl rfl ?_
  refine ug_catch (X := "java/lang/IllegalArgumentException") (name := "java/lang/IllegalArgumentException") [.int x1] (c_X7_work_x h) kc_L_18 ro_0 rfl (S := [.int 0, .ref (ue_d E 63)]) rfl (Nat.le_of_ble_eq_true rfl) (Nat.le_of_ble_eq_true rfl) (Nat.le_of_ble_eq_true rfl) ⟨Nat.le_refl 1, Nat.le_refl 6⟩ dL_work_4 [] ⟨0, 9, 12, 13⟩ [] rfl (fun z hz => by cases hz) (by decide) (by decide) kq_13 kx_I (fun q => ?_)
  refine ug_astore_n [(3, .ref q), (0, .ref (ue_d E 0)), (1, .int x1), (2, .ref (ue_d E 63))] dL_work_12 rfl (Nat.le_of_ble_eq_true rfl) rfl ?_
  refine ug_iconst dL_work_13 un_iconst_1 ?_
  exact ug_iret dL_work_14
theorem kc_L_21 : uwv RL 21 RX7 yX7_book cX7_book 2 (some .int) 1 := ⟨⟨uw_t 795 (by decide +kernel) rfl, uw_t 796 (by decide +kernel) rfl, uw_t 797 (by decide +kernel) rfl, uw_t 1 (by decide +kernel) rfl, uw_t 798 (by decide +kernel) rfl⟩, rfl, by decide +kernel, by decide +kernel, by decide +kernel⟩
theorem c_L_book_r {l : Launch} {E : Ue} (hx : ue_x E = [.inr (3, 1)]) {mem : Um} {x1 : Int32} {m1 : Um} {r : Int32} (h : f_X7_book mem x1 = some (m1, .inl r)) : ucw l E 8 yL_book cL_book 4 (some .int) [(0, 9, 12, 13)] [.ref (ue_d E 0), .int x1, .ref (ue_d E 63)] mem (some (.int 0)) (um_L m1 r.toInt64) := by
  refine ucw_of rfl (Nat.le_of_ble_eq_true rfl) ?_
  refine ug_aload_n 2 dL_book_0 rfl rfl ?_
  refine ug_iconst dL_book_1 un_iconst_0 ?_
  refine ug_aload_n 0 dL_book_2 rfl rfl ?_
  refine ug_iload_n 1 dL_book_3 rfl rfl ?_
  refine ug_callVi [.int x1] (c_X7_book_r h) kc_L_21 ro_0 rfl (S := [.int 0, .ref (ue_d E 63)]) rfl (Nat.le_of_ble_eq_true rfl) (Nat.le_of_ble_eq_true rfl) (Nat.le_of_ble_eq_true rfl) dL_book_4 ?_
  refine ug_i2l dL_book_7 ?_
  refine ug_last hx dL_book_8 ?_
  refine ug_goto 15 dL_book_9 (by decide) ?_
  refine ug_iconst dL_book_15 un_iconst_0 ?_
  refine ug_widen (Nat.zero_le 1) (Nat.zero_le 6) ?_
  exact ug_iret dL_book_16
theorem c_L_book_i {l : Launch} {E : Ue} {mem : Um} {x1 : Int32} {m1 : Um} (h : f_X7_book mem x1 = some (m1, .inr "java/lang/IllegalArgumentException")) : ucw l E 8 yL_book cL_book 4 (some .int) [(0, 9, 12, 13)] [.ref (ue_d E 0), .int x1, .ref (ue_d E 63)] mem (some (.int 1)) m1 := by
  refine ucw_of rfl (Nat.le_of_ble_eq_true rfl) ?_
  refine ug_aload_n 2 dL_book_0 rfl rfl ?_
  refine ug_iconst dL_book_1 un_iconst_0 ?_
  refine ug_aload_n 0 dL_book_2 rfl rfl ?_
  refine ug_iload_n 1 dL_book_3 rfl rfl ?_
  refine ug_catch (X := "java/lang/IllegalArgumentException") (name := "java/lang/IllegalArgumentException") [.int x1] (c_X7_book_x h) kc_L_21 ro_0 rfl (S := [.int 0, .ref (ue_d E 63)]) rfl (Nat.le_of_ble_eq_true rfl) (Nat.le_of_ble_eq_true rfl) (Nat.le_of_ble_eq_true rfl) ⟨Nat.le_refl 1, Nat.le_refl 6⟩ dL_book_4 [] ⟨0, 9, 12, 13⟩ [] rfl (fun z hz => by cases hz) (by decide) (by decide) kq_13 kx_I (fun q => ?_)
  refine ug_astore_n [(3, .ref q), (0, .ref (ue_d E 0)), (1, .int x1), (2, .ref (ue_d E 63))] dL_book_12 rfl (Nat.le_of_ble_eq_true rfl) rfl ?_
  refine ug_iconst dL_book_13 un_iconst_1 ?_
  exact ug_iret dL_book_14
theorem kc_L_24 : uwv RL 24 RX7 yX7_told cX7_told 2 (some .int) 1 := ⟨⟨uw_t 815 (by decide +kernel) rfl, uw_t 816 (by decide +kernel) rfl, uw_t 817 (by decide +kernel) rfl, uw_t 1 (by decide +kernel) rfl, uw_t 818 (by decide +kernel) rfl⟩, rfl, by decide +kernel, by decide +kernel, by decide +kernel⟩
theorem c_L_told_r {l : Launch} {E : Ue} (hx : ue_x E = [.inr (3, 1)]) {mem : Um} {x1 : Int32} {m1 : Um} {r : Int32} (h : f_X7_told mem x1 = some (m1, .inl r)) : ucw l E 8 yL_told cL_told 4 (some .int) [(0, 9, 12, 13)] [.ref (ue_d E 0), .int x1, .ref (ue_d E 63)] mem (some (.int 0)) (um_L m1 r.toInt64) := by
  refine ucw_of rfl (Nat.le_of_ble_eq_true rfl) ?_
  refine ug_aload_n 2 dL_told_0 rfl rfl ?_
  refine ug_iconst dL_told_1 un_iconst_0 ?_
  refine ug_aload_n 0 dL_told_2 rfl rfl ?_
  refine ug_iload_n 1 dL_told_3 rfl rfl ?_
  refine ug_callVi [.int x1] (c_X7_told_r h) kc_L_24 ro_0 rfl (S := [.int 0, .ref (ue_d E 63)]) rfl (Nat.le_of_ble_eq_true rfl) (Nat.le_of_ble_eq_true rfl) (Nat.le_of_ble_eq_true rfl) dL_told_4 ?_
  refine ug_i2l dL_told_7 ?_
  refine ug_last hx dL_told_8 ?_
  refine ug_goto 15 dL_told_9 (by decide) ?_
  refine ug_iconst dL_told_15 un_iconst_0 ?_
  refine ug_widen (Nat.zero_le 1) (Nat.zero_le 6) ?_
  exact ug_iret dL_told_16
theorem c_L_told_i {l : Launch} {E : Ue} {mem : Um} {x1 : Int32} {m1 : Um} (h : f_X7_told mem x1 = some (m1, .inr "java/lang/IllegalArgumentException")) : ucw l E 8 yL_told cL_told 4 (some .int) [(0, 9, 12, 13)] [.ref (ue_d E 0), .int x1, .ref (ue_d E 63)] mem (some (.int 1)) m1 := by
  refine ucw_of rfl (Nat.le_of_ble_eq_true rfl) ?_
  refine ug_aload_n 2 dL_told_0 rfl rfl ?_
  refine ug_iconst dL_told_1 un_iconst_0 ?_
  refine ug_aload_n 0 dL_told_2 rfl rfl ?_
  refine ug_iload_n 1 dL_told_3 rfl rfl ?_
  refine ug_catch (X := "java/lang/IllegalArgumentException") (name := "java/lang/IllegalArgumentException") [.int x1] (c_X7_told_x h) kc_L_24 ro_0 rfl (S := [.int 0, .ref (ue_d E 63)]) rfl (Nat.le_of_ble_eq_true rfl) (Nat.le_of_ble_eq_true rfl) (Nat.le_of_ble_eq_true rfl) ⟨Nat.le_refl 1, Nat.le_refl 6⟩ dL_told_4 [] ⟨0, 9, 12, 13⟩ [] rfl (fun z hz => by cases hz) (by decide) (by decide) kq_13 kx_I (fun q => ?_)
  refine ug_astore_n [(3, .ref q), (0, .ref (ue_d E 0)), (1, .int x1), (2, .ref (ue_d E 63))] dL_told_12 rfl (Nat.le_of_ble_eq_true rfl) rfl ?_
  refine ug_iconst dL_told_13 un_iconst_1 ?_
  exact ug_iret dL_told_14
theorem kc_L_27 : uwv RL 27 RX7 yX7_view cX7_view 3 (some .int) 2 := ⟨⟨uw_t 836 (by decide +kernel) rfl, uw_t 837 (by decide +kernel) rfl, uw_t 838 (by decide +kernel) rfl, uw_t 1 (by decide +kernel) rfl, uw_t 839 (by decide +kernel) rfl⟩, rfl, by decide +kernel, by decide +kernel, by decide +kernel⟩
theorem c_L_view_r {l : Launch} {E : Ue} (hx : ue_x E = [.inr (3, 1)]) {mem : Um} {x1 : Int32} {x2 : Int32} {m1 : Um} {r : Int32} (h : f_X7_view mem x1 x2 = some (m1, .inl r)) : ucw l E 8 yL_view cL_view 5 (some .int) [(0, 10, 13, 31), (0, 10, 17, 13)] [.ref (ue_d E 0), .int x1, .int x2, .ref (ue_d E 63)] mem (some (.int 0)) (um_L m1 r.toInt64) := by
  refine ucw_of rfl (Nat.le_of_ble_eq_true rfl) ?_
  refine ug_aload_n 3 dL_view_0 rfl rfl ?_
  refine ug_iconst dL_view_1 un_iconst_0 ?_
  refine ug_aload_n 0 dL_view_2 rfl rfl ?_
  refine ug_iload_n 1 dL_view_3 rfl rfl ?_
  refine ug_iload_n 2 dL_view_4 rfl rfl ?_
  refine ug_callVi [.int x1, .int x2] (c_X7_view_r h) kc_L_27 ro_0 rfl (S := [.int 0, .ref (ue_d E 63)]) rfl (Nat.le_of_ble_eq_true rfl) (Nat.le_of_ble_eq_true rfl) (Nat.le_of_ble_eq_true rfl) dL_view_5 ?_
  refine ug_i2l dL_view_8 ?_
  refine ug_last hx dL_view_9 ?_
  refine ug_goto 21 dL_view_10 (by decide) ?_
  refine ug_iconst dL_view_21 un_iconst_0 ?_
  refine ug_widen (Nat.zero_le 1) (Nat.zero_le 6) ?_
  exact ug_iret dL_view_22
theorem c_L_view_n {l : Launch} {E : Ue} {mem : Um} {x1 : Int32} {x2 : Int32} {m1 : Um} (h : f_X7_view mem x1 x2 = some (m1, .inr "java/util/NoSuchElementException")) : ucw l E 8 yL_view cL_view 5 (some .int) [(0, 10, 13, 31), (0, 10, 17, 13)] [.ref (ue_d E 0), .int x1, .int x2, .ref (ue_d E 63)] mem (some (.int 1)) m1 := by
  refine ucw_of rfl (Nat.le_of_ble_eq_true rfl) ?_
  refine ug_aload_n 3 dL_view_0 rfl rfl ?_
  refine ug_iconst dL_view_1 un_iconst_0 ?_
  refine ug_aload_n 0 dL_view_2 rfl rfl ?_
  refine ug_iload_n 1 dL_view_3 rfl rfl ?_
  refine ug_iload_n 2 dL_view_4 rfl rfl ?_
  refine ug_catch (X := "java/util/NoSuchElementException") (name := "java/util/NoSuchElementException") [.int x1, .int x2] (c_X7_view_x h) kc_L_27 ro_0 rfl (S := [.int 0, .ref (ue_d E 63)]) rfl (Nat.le_of_ble_eq_true rfl) (Nat.le_of_ble_eq_true rfl) (Nat.le_of_ble_eq_true rfl) ⟨Nat.le_refl 1, Nat.le_refl 6⟩ dL_view_5 [] ⟨0, 10, 13, 31⟩ [⟨0, 10, 17, 13⟩] rfl (fun z hz => by cases hz) (by decide) (by decide) kq_31 kx_N (fun q => ?_)
  refine ug_astore [(4, .ref q), (0, .ref (ue_d E 0)), (1, .int x1), (2, .int x2), (3, .ref (ue_d E 63))] dL_view_13 (Nat.le_of_ble_eq_true rfl) rfl ?_
  refine ug_iconst dL_view_15 un_iconst_1 ?_
  exact ug_iret dL_view_16
theorem c_L_view_i {l : Launch} {E : Ue} {mem : Um} {x1 : Int32} {x2 : Int32} {m1 : Um} (h : f_X7_view mem x1 x2 = some (m1, .inr "java/lang/IllegalArgumentException")) : ucw l E 8 yL_view cL_view 5 (some .int) [(0, 10, 13, 31), (0, 10, 17, 13)] [.ref (ue_d E 0), .int x1, .int x2, .ref (ue_d E 63)] mem (some (.int 2)) m1 := by
  refine ucw_of rfl (Nat.le_of_ble_eq_true rfl) ?_
  refine ug_aload_n 3 dL_view_0 rfl rfl ?_
  refine ug_iconst dL_view_1 un_iconst_0 ?_
  refine ug_aload_n 0 dL_view_2 rfl rfl ?_
  refine ug_iload_n 1 dL_view_3 rfl rfl ?_
  refine ug_iload_n 2 dL_view_4 rfl rfl ?_
  refine ug_catch (X := "java/lang/IllegalArgumentException") (name := "java/lang/IllegalArgumentException") [.int x1, .int x2] (c_X7_view_x h) kc_L_27 ro_0 rfl (S := [.int 0, .ref (ue_d E 63)]) rfl (Nat.le_of_ble_eq_true rfl) (Nat.le_of_ble_eq_true rfl) (Nat.le_of_ble_eq_true rfl) ⟨Nat.le_refl 1, Nat.le_refl 6⟩ dL_view_5 [⟨0, 10, 13, 31⟩] ⟨0, 10, 17, 13⟩ [] rfl (fun z hz => by rcases List.mem_singleton.mp hz with rfl; exact ⟨rfl, by decide, kq_31⟩) (by decide) (by decide) kq_13 kx_I (fun q => ?_)
  refine ug_astore [(4, .ref q), (0, .ref (ue_d E 0)), (1, .int x1), (2, .int x2), (3, .ref (ue_d E 63))] dL_view_17 (Nat.le_of_ble_eq_true rfl) rfl ?_
  refine ug_iconst dL_view_19 un_iconst_2 ?_
  exact ug_iret dL_view_20
theorem kc_L_33 : uwv RL 33 RX7 yX7_tenant cX7_tenant 3 (some .int) 2 := ⟨⟨uw_t 864 (by decide +kernel) rfl, uw_t 865 (by decide +kernel) rfl, uw_t 866 (by decide +kernel) rfl, uw_t 1 (by decide +kernel) rfl, uw_t 867 (by decide +kernel) rfl⟩, rfl, by decide +kernel, by decide +kernel, by decide +kernel⟩
theorem c_L_tenant_r {l : Launch} {E : Ue} (hx : ue_x E = [.inr (3, 1)]) {mem : Um} {x1 : Int32} {x2 : Int32} {m1 : Um} {r : Int32} (h : f_X7_tenant mem x1 x2 = some (m1, .inl r)) : ucw l E 8 yL_tenant cL_tenant 5 (some .int) [(0, 10, 13, 31), (0, 10, 17, 13)] [.ref (ue_d E 0), .int x1, .int x2, .ref (ue_d E 63)] mem (some (.int 0)) (um_L m1 r.toInt64) := by
  refine ucw_of rfl (Nat.le_of_ble_eq_true rfl) ?_
  refine ug_aload_n 3 dL_tenant_0 rfl rfl ?_
  refine ug_iconst dL_tenant_1 un_iconst_0 ?_
  refine ug_aload_n 0 dL_tenant_2 rfl rfl ?_
  refine ug_iload_n 1 dL_tenant_3 rfl rfl ?_
  refine ug_iload_n 2 dL_tenant_4 rfl rfl ?_
  refine ug_callVi [.int x1, .int x2] (c_X7_tenant_r h) kc_L_33 ro_0 rfl (S := [.int 0, .ref (ue_d E 63)]) rfl (Nat.le_of_ble_eq_true rfl) (Nat.le_of_ble_eq_true rfl) (Nat.le_of_ble_eq_true rfl) dL_tenant_5 ?_
  refine ug_i2l dL_tenant_8 ?_
  refine ug_last hx dL_tenant_9 ?_
  refine ug_goto 21 dL_tenant_10 (by decide) ?_
  refine ug_iconst dL_tenant_21 un_iconst_0 ?_
  refine ug_widen (Nat.zero_le 1) (Nat.zero_le 6) ?_
  exact ug_iret dL_tenant_22
theorem c_L_tenant_n {l : Launch} {E : Ue} {mem : Um} {x1 : Int32} {x2 : Int32} {m1 : Um} (h : f_X7_tenant mem x1 x2 = some (m1, .inr "java/util/NoSuchElementException")) : ucw l E 8 yL_tenant cL_tenant 5 (some .int) [(0, 10, 13, 31), (0, 10, 17, 13)] [.ref (ue_d E 0), .int x1, .int x2, .ref (ue_d E 63)] mem (some (.int 1)) m1 := by
  refine ucw_of rfl (Nat.le_of_ble_eq_true rfl) ?_
  refine ug_aload_n 3 dL_tenant_0 rfl rfl ?_
  refine ug_iconst dL_tenant_1 un_iconst_0 ?_
  refine ug_aload_n 0 dL_tenant_2 rfl rfl ?_
  refine ug_iload_n 1 dL_tenant_3 rfl rfl ?_
  refine ug_iload_n 2 dL_tenant_4 rfl rfl ?_
  refine ug_catch (X := "java/util/NoSuchElementException") (name := "java/util/NoSuchElementException") [.int x1, .int x2] (c_X7_tenant_x h) kc_L_33 ro_0 rfl (S := [.int 0, .ref (ue_d E 63)]) rfl (Nat.le_of_ble_eq_true rfl) (Nat.le_of_ble_eq_true rfl) (Nat.le_of_ble_eq_true rfl) ⟨Nat.le_refl 1, Nat.le_refl 6⟩ dL_tenant_5 [] ⟨0, 10, 13, 31⟩ [⟨0, 10, 17, 13⟩] rfl (fun z hz => by cases hz) (by decide) (by decide) kq_31 kx_N (fun q => ?_)
  refine ug_astore [(4, .ref q), (0, .ref (ue_d E 0)), (1, .int x1), (2, .int x2), (3, .ref (ue_d E 63))] dL_tenant_13 (Nat.le_of_ble_eq_true rfl) rfl ?_
  refine ug_iconst dL_tenant_15 un_iconst_1 ?_
  exact ug_iret dL_tenant_16
theorem c_L_tenant_i {l : Launch} {E : Ue} {mem : Um} {x1 : Int32} {x2 : Int32} {m1 : Um} (h : f_X7_tenant mem x1 x2 = some (m1, .inr "java/lang/IllegalArgumentException")) : ucw l E 8 yL_tenant cL_tenant 5 (some .int) [(0, 10, 13, 31), (0, 10, 17, 13)] [.ref (ue_d E 0), .int x1, .int x2, .ref (ue_d E 63)] mem (some (.int 2)) m1 := by
  refine ucw_of rfl (Nat.le_of_ble_eq_true rfl) ?_
  refine ug_aload_n 3 dL_tenant_0 rfl rfl ?_
  refine ug_iconst dL_tenant_1 un_iconst_0 ?_
  refine ug_aload_n 0 dL_tenant_2 rfl rfl ?_
  refine ug_iload_n 1 dL_tenant_3 rfl rfl ?_
  refine ug_iload_n 2 dL_tenant_4 rfl rfl ?_
  refine ug_catch (X := "java/lang/IllegalArgumentException") (name := "java/lang/IllegalArgumentException") [.int x1, .int x2] (c_X7_tenant_x h) kc_L_33 ro_0 rfl (S := [.int 0, .ref (ue_d E 63)]) rfl (Nat.le_of_ble_eq_true rfl) (Nat.le_of_ble_eq_true rfl) (Nat.le_of_ble_eq_true rfl) ⟨Nat.le_refl 1, Nat.le_refl 6⟩ dL_tenant_5 [⟨0, 10, 13, 31⟩] ⟨0, 10, 17, 13⟩ [] rfl (fun z hz => by rcases List.mem_singleton.mp hz with rfl; exact ⟨rfl, by decide, kq_31⟩) (by decide) (by decide) kq_13 kx_I (fun q => ?_)
  refine ug_astore [(4, .ref q), (0, .ref (ue_d E 0)), (1, .int x1), (2, .int x2), (3, .ref (ue_d E 63))] dL_tenant_17 (Nat.le_of_ble_eq_true rfl) rfl ?_
  refine ug_iconst dL_tenant_19 un_iconst_2 ?_
  exact ug_iret dL_tenant_20
theorem kc_L_36 : uwv RL 36 RX7 yX7_bubble cX7_bubble 3 (some .int) 2 := ⟨⟨uw_t 882 (by decide +kernel) rfl, uw_t 883 (by decide +kernel) rfl, uw_t 884 (by decide +kernel) rfl, uw_t 1 (by decide +kernel) rfl, uw_t 885 (by decide +kernel) rfl⟩, rfl, by decide +kernel, by decide +kernel, by decide +kernel⟩
theorem c_L_bubble_r {l : Launch} {E : Ue} (hx : ue_x E = [.inr (3, 1)]) {mem : Um} {x1 : Int32} {x2 : Int32} {m1 : Um} {r : Int32} (h : f_X7_bubble mem x1 x2 = some (m1, .inl r)) : ucw l E 8 yL_bubble cL_bubble 5 (some .int) [(0, 10, 13, 31), (0, 10, 17, 13)] [.ref (ue_d E 0), .int x1, .int x2, .ref (ue_d E 63)] mem (some (.int 0)) (um_L m1 r.toInt64) := by
  refine ucw_of rfl (Nat.le_of_ble_eq_true rfl) ?_
  refine ug_aload_n 3 dL_bubble_0 rfl rfl ?_
  refine ug_iconst dL_bubble_1 un_iconst_0 ?_
  refine ug_aload_n 0 dL_bubble_2 rfl rfl ?_
  refine ug_iload_n 1 dL_bubble_3 rfl rfl ?_
  refine ug_iload_n 2 dL_bubble_4 rfl rfl ?_
  refine ug_callVi [.int x1, .int x2] (c_X7_bubble_r h) kc_L_36 ro_0 rfl (S := [.int 0, .ref (ue_d E 63)]) rfl (Nat.le_of_ble_eq_true rfl) (Nat.le_of_ble_eq_true rfl) (Nat.le_of_ble_eq_true rfl) dL_bubble_5 ?_
  refine ug_i2l dL_bubble_8 ?_
  refine ug_last hx dL_bubble_9 ?_
  refine ug_goto 21 dL_bubble_10 (by decide) ?_
  refine ug_iconst dL_bubble_21 un_iconst_0 ?_
  refine ug_widen (Nat.zero_le 1) (Nat.zero_le 6) ?_
  exact ug_iret dL_bubble_22
theorem c_L_bubble_n {l : Launch} {E : Ue} {mem : Um} {x1 : Int32} {x2 : Int32} {m1 : Um} (h : f_X7_bubble mem x1 x2 = some (m1, .inr "java/util/NoSuchElementException")) : ucw l E 8 yL_bubble cL_bubble 5 (some .int) [(0, 10, 13, 31), (0, 10, 17, 13)] [.ref (ue_d E 0), .int x1, .int x2, .ref (ue_d E 63)] mem (some (.int 1)) m1 := by
  refine ucw_of rfl (Nat.le_of_ble_eq_true rfl) ?_
  refine ug_aload_n 3 dL_bubble_0 rfl rfl ?_
  refine ug_iconst dL_bubble_1 un_iconst_0 ?_
  refine ug_aload_n 0 dL_bubble_2 rfl rfl ?_
  refine ug_iload_n 1 dL_bubble_3 rfl rfl ?_
  refine ug_iload_n 2 dL_bubble_4 rfl rfl ?_
  refine ug_catch (X := "java/util/NoSuchElementException") (name := "java/util/NoSuchElementException") [.int x1, .int x2] (c_X7_bubble_x h) kc_L_36 ro_0 rfl (S := [.int 0, .ref (ue_d E 63)]) rfl (Nat.le_of_ble_eq_true rfl) (Nat.le_of_ble_eq_true rfl) (Nat.le_of_ble_eq_true rfl) ⟨Nat.le_refl 1, Nat.le_refl 6⟩ dL_bubble_5 [] ⟨0, 10, 13, 31⟩ [⟨0, 10, 17, 13⟩] rfl (fun z hz => by cases hz) (by decide) (by decide) kq_31 kx_N (fun q => ?_)
  refine ug_astore [(4, .ref q), (0, .ref (ue_d E 0)), (1, .int x1), (2, .int x2), (3, .ref (ue_d E 63))] dL_bubble_13 (Nat.le_of_ble_eq_true rfl) rfl ?_
  refine ug_iconst dL_bubble_15 un_iconst_1 ?_
  exact ug_iret dL_bubble_16
theorem c_L_bubble_i {l : Launch} {E : Ue} {mem : Um} {x1 : Int32} {x2 : Int32} {m1 : Um} (h : f_X7_bubble mem x1 x2 = some (m1, .inr "java/lang/IllegalArgumentException")) : ucw l E 8 yL_bubble cL_bubble 5 (some .int) [(0, 10, 13, 31), (0, 10, 17, 13)] [.ref (ue_d E 0), .int x1, .int x2, .ref (ue_d E 63)] mem (some (.int 2)) m1 := by
  refine ucw_of rfl (Nat.le_of_ble_eq_true rfl) ?_
  refine ug_aload_n 3 dL_bubble_0 rfl rfl ?_
  refine ug_iconst dL_bubble_1 un_iconst_0 ?_
  refine ug_aload_n 0 dL_bubble_2 rfl rfl ?_
  refine ug_iload_n 1 dL_bubble_3 rfl rfl ?_
  refine ug_iload_n 2 dL_bubble_4 rfl rfl ?_
  refine ug_catch (X := "java/lang/IllegalArgumentException") (name := "java/lang/IllegalArgumentException") [.int x1, .int x2] (c_X7_bubble_x h) kc_L_36 ro_0 rfl (S := [.int 0, .ref (ue_d E 63)]) rfl (Nat.le_of_ble_eq_true rfl) (Nat.le_of_ble_eq_true rfl) (Nat.le_of_ble_eq_true rfl) ⟨Nat.le_refl 1, Nat.le_refl 6⟩ dL_bubble_5 [⟨0, 10, 13, 31⟩] ⟨0, 10, 17, 13⟩ [] rfl (fun z hz => by rcases List.mem_singleton.mp hz with rfl; exact ⟨rfl, by decide, kq_31⟩) (by decide) (by decide) kq_13 kx_I (fun q => ?_)
  refine ug_astore [(4, .ref q), (0, .ref (ue_d E 0)), (1, .int x1), (2, .int x2), (3, .ref (ue_d E 63))] dL_bubble_17 (Nat.le_of_ble_eq_true rfl) rfl ?_
  refine ug_iconst dL_bubble_19 un_iconst_2 ?_
  exact ug_iret dL_bubble_20
theorem kc_L_39 : uwv RL 39 RX7 yX7_would cX7_would 9 (some .int) 8 := ⟨⟨uw_t 894 (by decide +kernel) rfl, uw_t 895 (by decide +kernel) rfl, uw_t 896 (by decide +kernel) rfl, uw_t 1 (by decide +kernel) rfl, uw_t 897 (by decide +kernel) rfl⟩, rfl, by decide +kernel, by decide +kernel, by decide +kernel⟩
theorem c_L_would_r {l : Launch} {E : Ue} (hx : ue_x E = [.inr (3, 1)]) {mem : Um} {x1 : Int32} {x2 : Int32} {x3 : Int32} {x4 : Int32} {x5 : Int32} {x6 : Int32} {x7 : Int32} {x8 : Int32} {m1 : Um} {r : Int32} (h : f_X7_would mem x1 x2 x3 x4 x5 x6 x7 x8 = some (m1, .inl r)) : ucw l E 8 yL_would cL_would 11 (some .int) [(0, 22, 25, 13)] [.ref (ue_d E 0), .int x1, .int x2, .int x3, .int x4, .int x5, .int x6, .int x7, .int x8, .ref (ue_d E 63)] mem (some (.int 0)) (um_L m1 r.toInt64) := by
  refine ucw_of rfl (Nat.le_of_ble_eq_true rfl) ?_
  refine ug_aload 9 dL_would_0 rfl ?_
  refine ug_iconst dL_would_2 un_iconst_0 ?_
  refine ug_aload_n 0 dL_would_3 rfl rfl ?_
  refine ug_iload_n 1 dL_would_4 rfl rfl ?_
  refine ug_iload_n 2 dL_would_5 rfl rfl ?_
  refine ug_iload_n 3 dL_would_6 rfl rfl ?_
  refine ug_iload 4 dL_would_7 rfl ?_
  refine ug_iload 5 dL_would_9 rfl ?_
  refine ug_iload 6 dL_would_11 rfl ?_
  refine ug_iload 7 dL_would_13 rfl ?_
  refine ug_iload 8 dL_would_15 rfl ?_
  refine ug_callVi [.int x1, .int x2, .int x3, .int x4, .int x5, .int x6, .int x7, .int x8] (c_X7_would_r h) kc_L_39 ro_0 rfl (S := [.int 0, .ref (ue_d E 63)]) rfl (Nat.le_of_ble_eq_true rfl) (Nat.le_of_ble_eq_true rfl) (Nat.le_of_ble_eq_true rfl) dL_would_17 ?_
  refine ug_i2l dL_would_20 ?_
  refine ug_last hx dL_would_21 ?_
  refine ug_goto 29 dL_would_22 (by decide) ?_
  refine ug_iconst dL_would_29 un_iconst_0 ?_
  refine ug_widen (Nat.zero_le 1) (Nat.zero_le 6) ?_
  exact ug_iret dL_would_30
theorem c_L_would_i {l : Launch} {E : Ue} {mem : Um} {x1 : Int32} {x2 : Int32} {x3 : Int32} {x4 : Int32} {x5 : Int32} {x6 : Int32} {x7 : Int32} {x8 : Int32} {m1 : Um} (h : f_X7_would mem x1 x2 x3 x4 x5 x6 x7 x8 = some (m1, .inr "java/lang/IllegalArgumentException")) : ucw l E 8 yL_would cL_would 11 (some .int) [(0, 22, 25, 13)] [.ref (ue_d E 0), .int x1, .int x2, .int x3, .int x4, .int x5, .int x6, .int x7, .int x8, .ref (ue_d E 63)] mem (some (.int 1)) m1 := by
  refine ucw_of rfl (Nat.le_of_ble_eq_true rfl) ?_
  refine ug_aload 9 dL_would_0 rfl ?_
  refine ug_iconst dL_would_2 un_iconst_0 ?_
  refine ug_aload_n 0 dL_would_3 rfl rfl ?_
  refine ug_iload_n 1 dL_would_4 rfl rfl ?_
  refine ug_iload_n 2 dL_would_5 rfl rfl ?_
  refine ug_iload_n 3 dL_would_6 rfl rfl ?_
  refine ug_iload 4 dL_would_7 rfl ?_
  refine ug_iload 5 dL_would_9 rfl ?_
  refine ug_iload 6 dL_would_11 rfl ?_
  refine ug_iload 7 dL_would_13 rfl ?_
  refine ug_iload 8 dL_would_15 rfl ?_
  refine ug_catch (X := "java/lang/IllegalArgumentException") (name := "java/lang/IllegalArgumentException") [.int x1, .int x2, .int x3, .int x4, .int x5, .int x6, .int x7, .int x8] (c_X7_would_x h) kc_L_39 ro_0 rfl (S := [.int 0, .ref (ue_d E 63)]) rfl (Nat.le_of_ble_eq_true rfl) (Nat.le_of_ble_eq_true rfl) (Nat.le_of_ble_eq_true rfl) ⟨Nat.le_refl 1, Nat.le_refl 6⟩ dL_would_17 [] ⟨0, 22, 25, 13⟩ [] rfl (fun z hz => by cases hz) (by decide) (by decide) kq_13 kx_I (fun q => ?_)
  refine ug_astore [(10, .ref q), (0, .ref (ue_d E 0)), (1, .int x1), (2, .int x2), (3, .int x3), (4, .int x4), (5, .int x5), (6, .int x6), (7, .int x7), (8, .int x8), (9, .ref (ue_d E 63))] dL_would_25 (Nat.le_of_ble_eq_true rfl) rfl ?_
  refine ug_iconst dL_would_27 un_iconst_1 ?_
  exact ug_iret dL_would_28
theorem kc_L_43 : uwv RL 43 RX7 yX7_ahead cX7_ahead 4 (some .int) 2 := ⟨⟨uw_t 902 (by decide +kernel) rfl, uw_t 903 (by decide +kernel) rfl, uw_t 904 (by decide +kernel) rfl, uw_t 1 (by decide +kernel) rfl, uw_t 905 (by decide +kernel) rfl⟩, rfl, by decide +kernel, by decide +kernel, by decide +kernel⟩
theorem c_L_ahead_r {l : Launch} {E : Ue} (hx : ue_x E = [.inr (3, 1)]) {mem : Um} {x1 : Int32} {x2 : Int32} {m1 : Um} {r : Int32} (h : f_X7_ahead mem x1 x2 = some (m1, .inl r)) : ucw l E 8 yL_ahead cL_ahead 5 (some .int) [(0, 10, 13, 13)] [.ref (ue_d E 0), .int x1, .int x2, .ref (ue_d E 63)] mem (some (.int 0)) (um_L m1 r.toInt64) := by
  refine ucw_of rfl (Nat.le_of_ble_eq_true rfl) ?_
  refine ug_aload_n 3 dL_ahead_0 rfl rfl ?_
  refine ug_iconst dL_ahead_1 un_iconst_0 ?_
  refine ug_aload_n 0 dL_ahead_2 rfl rfl ?_
  refine ug_iload_n 1 dL_ahead_3 rfl rfl ?_
  refine ug_iload_n 2 dL_ahead_4 rfl rfl ?_
  refine ug_callVi [.int x1, .int x2] (c_X7_ahead_r h) kc_L_43 ro_0 rfl (S := [.int 0, .ref (ue_d E 63)]) rfl (Nat.le_of_ble_eq_true rfl) (Nat.le_of_ble_eq_true rfl) (Nat.le_of_ble_eq_true rfl) dL_ahead_5 ?_
  refine ug_i2l dL_ahead_8 ?_
  refine ug_last hx dL_ahead_9 ?_
  refine ug_goto 17 dL_ahead_10 (by decide) ?_
  refine ug_iconst dL_ahead_17 un_iconst_0 ?_
  refine ug_widen (Nat.zero_le 1) (Nat.zero_le 6) ?_
  exact ug_iret dL_ahead_18
theorem c_L_ahead_i {l : Launch} {E : Ue} {mem : Um} {x1 : Int32} {x2 : Int32} {m1 : Um} (h : f_X7_ahead mem x1 x2 = some (m1, .inr "java/lang/IllegalArgumentException")) : ucw l E 8 yL_ahead cL_ahead 5 (some .int) [(0, 10, 13, 13)] [.ref (ue_d E 0), .int x1, .int x2, .ref (ue_d E 63)] mem (some (.int 1)) m1 := by
  refine ucw_of rfl (Nat.le_of_ble_eq_true rfl) ?_
  refine ug_aload_n 3 dL_ahead_0 rfl rfl ?_
  refine ug_iconst dL_ahead_1 un_iconst_0 ?_
  refine ug_aload_n 0 dL_ahead_2 rfl rfl ?_
  refine ug_iload_n 1 dL_ahead_3 rfl rfl ?_
  refine ug_iload_n 2 dL_ahead_4 rfl rfl ?_
  refine ug_catch (X := "java/lang/IllegalArgumentException") (name := "java/lang/IllegalArgumentException") [.int x1, .int x2] (c_X7_ahead_x h) kc_L_43 ro_0 rfl (S := [.int 0, .ref (ue_d E 63)]) rfl (Nat.le_of_ble_eq_true rfl) (Nat.le_of_ble_eq_true rfl) (Nat.le_of_ble_eq_true rfl) ⟨Nat.le_refl 1, Nat.le_refl 6⟩ dL_ahead_5 [] ⟨0, 10, 13, 13⟩ [] rfl (fun z hz => by cases hz) (by decide) (by decide) kq_13 kx_I (fun q => ?_)
  refine ug_astore [(4, .ref q), (0, .ref (ue_d E 0)), (1, .int x1), (2, .int x2), (3, .ref (ue_d E 63))] dL_ahead_13 (Nat.le_of_ble_eq_true rfl) rfl ?_
  refine ug_iconst dL_ahead_15 un_iconst_1 ?_
  exact ug_iret dL_ahead_16
theorem kc_L_46 : uwv RL 46 RX7 yX7_wall cX7_wall 6 (some .int) 3 := ⟨⟨uw_t 916 (by decide +kernel) rfl, uw_t 917 (by decide +kernel) rfl, uw_t 918 (by decide +kernel) rfl, uw_t 1 (by decide +kernel) rfl, uw_t 919 (by decide +kernel) rfl⟩, rfl, by decide +kernel, by decide +kernel, by decide +kernel⟩
theorem c_L_wall_r {l : Launch} {E : Ue} (hx : ue_x E = [.inr (3, 1)]) {mem : Um} {x1 : Int32} {x2 : Int32} {x3 : Int32} {m1 : Um} {r : Int32} (h : f_X7_wall mem x1 x2 x3 = some (m1, .inl r)) : ucw l E 8 yL_wall cL_wall 6 (some .int) [(0, 12, 15, 31), (0, 12, 19, 13)] [.ref (ue_d E 0), .int x1, .int x2, .int x3, .ref (ue_d E 63)] mem (some (.int 0)) (um_L m1 r.toInt64) := by
  refine ucw_of rfl (Nat.le_of_ble_eq_true rfl) ?_
  refine ug_aload 4 dL_wall_0 rfl ?_
  refine ug_iconst dL_wall_2 un_iconst_0 ?_
  refine ug_aload_n 0 dL_wall_3 rfl rfl ?_
  refine ug_iload_n 1 dL_wall_4 rfl rfl ?_
  refine ug_iload_n 2 dL_wall_5 rfl rfl ?_
  refine ug_iload_n 3 dL_wall_6 rfl rfl ?_
  refine ug_callVi [.int x1, .int x2, .int x3] (c_X7_wall_r h) kc_L_46 ro_0 rfl (S := [.int 0, .ref (ue_d E 63)]) rfl (Nat.le_of_ble_eq_true rfl) (Nat.le_of_ble_eq_true rfl) (Nat.le_of_ble_eq_true rfl) dL_wall_7 ?_
  refine ug_i2l dL_wall_10 ?_
  refine ug_last hx dL_wall_11 ?_
  refine ug_goto 23 dL_wall_12 (by decide) ?_
  refine ug_iconst dL_wall_23 un_iconst_0 ?_
  refine ug_widen (Nat.zero_le 1) (Nat.zero_le 6) ?_
  exact ug_iret dL_wall_24
theorem c_L_wall_n {l : Launch} {E : Ue} {mem : Um} {x1 : Int32} {x2 : Int32} {x3 : Int32} {m1 : Um} (h : f_X7_wall mem x1 x2 x3 = some (m1, .inr "java/util/NoSuchElementException")) : ucw l E 8 yL_wall cL_wall 6 (some .int) [(0, 12, 15, 31), (0, 12, 19, 13)] [.ref (ue_d E 0), .int x1, .int x2, .int x3, .ref (ue_d E 63)] mem (some (.int 1)) m1 := by
  refine ucw_of rfl (Nat.le_of_ble_eq_true rfl) ?_
  refine ug_aload 4 dL_wall_0 rfl ?_
  refine ug_iconst dL_wall_2 un_iconst_0 ?_
  refine ug_aload_n 0 dL_wall_3 rfl rfl ?_
  refine ug_iload_n 1 dL_wall_4 rfl rfl ?_
  refine ug_iload_n 2 dL_wall_5 rfl rfl ?_
  refine ug_iload_n 3 dL_wall_6 rfl rfl ?_
  refine ug_catch (X := "java/util/NoSuchElementException") (name := "java/util/NoSuchElementException") [.int x1, .int x2, .int x3] (c_X7_wall_x h) kc_L_46 ro_0 rfl (S := [.int 0, .ref (ue_d E 63)]) rfl (Nat.le_of_ble_eq_true rfl) (Nat.le_of_ble_eq_true rfl) (Nat.le_of_ble_eq_true rfl) ⟨Nat.le_refl 1, Nat.le_refl 6⟩ dL_wall_7 [] ⟨0, 12, 15, 31⟩ [⟨0, 12, 19, 13⟩] rfl (fun z hz => by cases hz) (by decide) (by decide) kq_31 kx_N (fun q => ?_)
  refine ug_astore [(5, .ref q), (0, .ref (ue_d E 0)), (1, .int x1), (2, .int x2), (3, .int x3), (4, .ref (ue_d E 63))] dL_wall_15 (Nat.le_of_ble_eq_true rfl) rfl ?_
  refine ug_iconst dL_wall_17 un_iconst_1 ?_
  exact ug_iret dL_wall_18
theorem c_L_wall_i {l : Launch} {E : Ue} {mem : Um} {x1 : Int32} {x2 : Int32} {x3 : Int32} {m1 : Um} (h : f_X7_wall mem x1 x2 x3 = some (m1, .inr "java/lang/IllegalArgumentException")) : ucw l E 8 yL_wall cL_wall 6 (some .int) [(0, 12, 15, 31), (0, 12, 19, 13)] [.ref (ue_d E 0), .int x1, .int x2, .int x3, .ref (ue_d E 63)] mem (some (.int 2)) m1 := by
  refine ucw_of rfl (Nat.le_of_ble_eq_true rfl) ?_
  refine ug_aload 4 dL_wall_0 rfl ?_
  refine ug_iconst dL_wall_2 un_iconst_0 ?_
  refine ug_aload_n 0 dL_wall_3 rfl rfl ?_
  refine ug_iload_n 1 dL_wall_4 rfl rfl ?_
  refine ug_iload_n 2 dL_wall_5 rfl rfl ?_
  refine ug_iload_n 3 dL_wall_6 rfl rfl ?_
  refine ug_catch (X := "java/lang/IllegalArgumentException") (name := "java/lang/IllegalArgumentException") [.int x1, .int x2, .int x3] (c_X7_wall_x h) kc_L_46 ro_0 rfl (S := [.int 0, .ref (ue_d E 63)]) rfl (Nat.le_of_ble_eq_true rfl) (Nat.le_of_ble_eq_true rfl) (Nat.le_of_ble_eq_true rfl) ⟨Nat.le_refl 1, Nat.le_refl 6⟩ dL_wall_7 [⟨0, 12, 15, 31⟩] ⟨0, 12, 19, 13⟩ [] rfl (fun z hz => by rcases List.mem_singleton.mp hz with rfl; exact ⟨rfl, by decide, kq_31⟩) (by decide) (by decide) kq_13 kx_I (fun q => ?_)
  refine ug_astore [(5, .ref q), (0, .ref (ue_d E 0)), (1, .int x1), (2, .int x2), (3, .int x3), (4, .ref (ue_d E 63))] dL_wall_19 (Nat.le_of_ble_eq_true rfl) rfl ?_
  refine ug_iconst dL_wall_21 un_iconst_2 ?_
  exact ug_iret dL_wall_22
theorem kc_L_50 : uwv RL 50 RX7 yX7_lasts cX7_lasts 3 (some .int) 1 := ⟨⟨uw_t 928 (by decide +kernel) rfl, uw_t 929 (by decide +kernel) rfl, uw_t 930 (by decide +kernel) rfl, uw_t 1 (by decide +kernel) rfl, uw_t 931 (by decide +kernel) rfl⟩, rfl, by decide +kernel, by decide +kernel, by decide +kernel⟩
theorem c_L_lasts_r {l : Launch} {E : Ue} (hx : ue_x E = [.inr (3, 1)]) {mem : Um} {x1 : Int32} {m1 : Um} {r : Int32} (h : f_X7_lasts mem x1 = some (m1, .inl r)) : ucw l E 8 yL_lasts cL_lasts 4 (some .int) [(0, 9, 12, 31)] [.ref (ue_d E 0), .int x1, .ref (ue_d E 63)] mem (some (.int 0)) (um_L m1 r.toInt64) := by
  refine ucw_of rfl (Nat.le_of_ble_eq_true rfl) ?_
  refine ug_aload_n 2 dL_lasts_0 rfl rfl ?_
  refine ug_iconst dL_lasts_1 un_iconst_0 ?_
  refine ug_aload_n 0 dL_lasts_2 rfl rfl ?_
  refine ug_iload_n 1 dL_lasts_3 rfl rfl ?_
  refine ug_callVi [.int x1] (c_X7_lasts_r h) kc_L_50 ro_0 rfl (S := [.int 0, .ref (ue_d E 63)]) rfl (Nat.le_of_ble_eq_true rfl) (Nat.le_of_ble_eq_true rfl) (Nat.le_of_ble_eq_true rfl) dL_lasts_4 ?_
  refine ug_i2l dL_lasts_7 ?_
  refine ug_last hx dL_lasts_8 ?_
  refine ug_goto 15 dL_lasts_9 (by decide) ?_
  refine ug_iconst dL_lasts_15 un_iconst_0 ?_
  refine ug_widen (Nat.zero_le 1) (Nat.zero_le 6) ?_
  exact ug_iret dL_lasts_16
theorem c_L_lasts_n {l : Launch} {E : Ue} {mem : Um} {x1 : Int32} {m1 : Um} (h : f_X7_lasts mem x1 = some (m1, .inr "java/util/NoSuchElementException")) : ucw l E 8 yL_lasts cL_lasts 4 (some .int) [(0, 9, 12, 31)] [.ref (ue_d E 0), .int x1, .ref (ue_d E 63)] mem (some (.int 1)) m1 := by
  refine ucw_of rfl (Nat.le_of_ble_eq_true rfl) ?_
  refine ug_aload_n 2 dL_lasts_0 rfl rfl ?_
  refine ug_iconst dL_lasts_1 un_iconst_0 ?_
  refine ug_aload_n 0 dL_lasts_2 rfl rfl ?_
  refine ug_iload_n 1 dL_lasts_3 rfl rfl ?_
  refine ug_catch (X := "java/util/NoSuchElementException") (name := "java/util/NoSuchElementException") [.int x1] (c_X7_lasts_x h) kc_L_50 ro_0 rfl (S := [.int 0, .ref (ue_d E 63)]) rfl (Nat.le_of_ble_eq_true rfl) (Nat.le_of_ble_eq_true rfl) (Nat.le_of_ble_eq_true rfl) ⟨Nat.le_refl 1, Nat.le_refl 6⟩ dL_lasts_4 [] ⟨0, 9, 12, 31⟩ [] rfl (fun z hz => by cases hz) (by decide) (by decide) kq_31 kx_N (fun q => ?_)
  refine ug_astore_n [(3, .ref q), (0, .ref (ue_d E 0)), (1, .int x1), (2, .ref (ue_d E 63))] dL_lasts_12 rfl (Nat.le_of_ble_eq_true rfl) rfl ?_
  refine ug_iconst dL_lasts_13 un_iconst_1 ?_
  exact ug_iret dL_lasts_14
theorem kc_L_53 : uwv RL 53 RX7 yX7_pitch cX7_pitch 7 (some .int) 2 := ⟨⟨uw_t 935 (by decide +kernel) rfl, uw_t 936 (by decide +kernel) rfl, uw_t 937 (by decide +kernel) rfl, uw_t 1 (by decide +kernel) rfl, uw_t 938 (by decide +kernel) rfl⟩, rfl, by decide +kernel, by decide +kernel, by decide +kernel⟩
theorem c_L_pitch_r {l : Launch} {E : Ue} (hx : ue_x E = [.inr (3, 1)]) {mem : Um} {x1 : Int32} {x2 : Int32} {m1 : Um} {r : Int32} (h : f_X7_pitch mem x1 x2 = some (m1, .inl r)) : ucw l E 8 yL_pitch cL_pitch 5 (some .int) [(0, 10, 13, 13)] [.ref (ue_d E 0), .int x1, .int x2, .ref (ue_d E 63)] mem (some (.int 0)) (um_L m1 r.toInt64) := by
  refine ucw_of rfl (Nat.le_of_ble_eq_true rfl) ?_
  refine ug_aload_n 3 dL_pitch_0 rfl rfl ?_
  refine ug_iconst dL_pitch_1 un_iconst_0 ?_
  refine ug_aload_n 0 dL_pitch_2 rfl rfl ?_
  refine ug_iload_n 1 dL_pitch_3 rfl rfl ?_
  refine ug_iload_n 2 dL_pitch_4 rfl rfl ?_
  refine ug_callVi [.int x1, .int x2] (c_X7_pitch_r h) kc_L_53 ro_0 rfl (S := [.int 0, .ref (ue_d E 63)]) rfl (Nat.le_of_ble_eq_true rfl) (Nat.le_of_ble_eq_true rfl) (Nat.le_of_ble_eq_true rfl) dL_pitch_5 ?_
  refine ug_i2l dL_pitch_8 ?_
  refine ug_last hx dL_pitch_9 ?_
  refine ug_goto 17 dL_pitch_10 (by decide) ?_
  refine ug_iconst dL_pitch_17 un_iconst_0 ?_
  refine ug_widen (Nat.zero_le 1) (Nat.zero_le 6) ?_
  exact ug_iret dL_pitch_18
theorem c_L_pitch_i {l : Launch} {E : Ue} {mem : Um} {x1 : Int32} {x2 : Int32} {m1 : Um} (h : f_X7_pitch mem x1 x2 = some (m1, .inr "java/lang/IllegalArgumentException")) : ucw l E 8 yL_pitch cL_pitch 5 (some .int) [(0, 10, 13, 13)] [.ref (ue_d E 0), .int x1, .int x2, .ref (ue_d E 63)] mem (some (.int 1)) m1 := by
  refine ucw_of rfl (Nat.le_of_ble_eq_true rfl) ?_
  refine ug_aload_n 3 dL_pitch_0 rfl rfl ?_
  refine ug_iconst dL_pitch_1 un_iconst_0 ?_
  refine ug_aload_n 0 dL_pitch_2 rfl rfl ?_
  refine ug_iload_n 1 dL_pitch_3 rfl rfl ?_
  refine ug_iload_n 2 dL_pitch_4 rfl rfl ?_
  refine ug_catch (X := "java/lang/IllegalArgumentException") (name := "java/lang/IllegalArgumentException") [.int x1, .int x2] (c_X7_pitch_x h) kc_L_53 ro_0 rfl (S := [.int 0, .ref (ue_d E 63)]) rfl (Nat.le_of_ble_eq_true rfl) (Nat.le_of_ble_eq_true rfl) (Nat.le_of_ble_eq_true rfl) ⟨Nat.le_refl 1, Nat.le_refl 6⟩ dL_pitch_5 [] ⟨0, 10, 13, 13⟩ [] rfl (fun z hz => by cases hz) (by decide) (by decide) kq_13 kx_I (fun q => ?_)
  refine ug_astore [(4, .ref q), (0, .ref (ue_d E 0)), (1, .int x1), (2, .int x2), (3, .ref (ue_d E 63))] dL_pitch_13 (Nat.le_of_ble_eq_true rfl) rfl ?_
  refine ug_iconst dL_pitch_15 un_iconst_1 ?_
  exact ug_iret dL_pitch_16
theorem kc_L_56 : uwv RL 56 RX7 yX7_street cX7_street 3 (some .int) 2 := ⟨⟨uw_t 946 (by decide +kernel) rfl, uw_t 947 (by decide +kernel) rfl, uw_t 948 (by decide +kernel) rfl, uw_t 1 (by decide +kernel) rfl, uw_t 949 (by decide +kernel) rfl⟩, rfl, by decide +kernel, by decide +kernel, by decide +kernel⟩
theorem c_L_street_r {l : Launch} {E : Ue} (hx : ue_x E = [.inr (3, 1)]) {mem : Um} {x1 : Int32} {x2 : Int32} {m1 : Um} {r : Int32} (h : f_X7_street mem x1 x2 = some (m1, .inl r)) : ucw l E 50 yL_street cL_street 5 (some .int) [(0, 10, 13, 13)] [.ref (ue_d E 0), .int x1, .int x2, .ref (ue_d E 63)] mem (some (.int 0)) (um_L m1 r.toInt64) := by
  refine ucw_of rfl (Nat.le_of_ble_eq_true rfl) ?_
  refine ug_aload_n 3 dL_street_0 rfl rfl ?_
  refine ug_iconst dL_street_1 un_iconst_0 ?_
  refine ug_aload_n 0 dL_street_2 rfl rfl ?_
  refine ug_iload_n 1 dL_street_3 rfl rfl ?_
  refine ug_iload_n 2 dL_street_4 rfl rfl ?_
  refine ug_callVi [.int x1, .int x2] (c_X7_street_r h) kc_L_56 ro_0 rfl (S := [.int 0, .ref (ue_d E 63)]) rfl (Nat.le_of_ble_eq_true rfl) (Nat.le_of_ble_eq_true rfl) (Nat.le_of_ble_eq_true rfl) dL_street_5 ?_
  refine ug_i2l dL_street_8 ?_
  refine ug_last hx dL_street_9 ?_
  refine ug_goto 17 dL_street_10 (by decide) ?_
  refine ug_iconst dL_street_17 un_iconst_0 ?_
  refine ug_widen (Nat.zero_le 1) (Nat.zero_le 6) ?_
  exact ug_iret dL_street_18
theorem c_L_street_i {l : Launch} {E : Ue} {mem : Um} {x1 : Int32} {x2 : Int32} {m1 : Um} (h : f_X7_street mem x1 x2 = some (m1, .inr "java/lang/IllegalArgumentException")) : ucw l E 50 yL_street cL_street 5 (some .int) [(0, 10, 13, 13)] [.ref (ue_d E 0), .int x1, .int x2, .ref (ue_d E 63)] mem (some (.int 1)) m1 := by
  refine ucw_of rfl (Nat.le_of_ble_eq_true rfl) ?_
  refine ug_aload_n 3 dL_street_0 rfl rfl ?_
  refine ug_iconst dL_street_1 un_iconst_0 ?_
  refine ug_aload_n 0 dL_street_2 rfl rfl ?_
  refine ug_iload_n 1 dL_street_3 rfl rfl ?_
  refine ug_iload_n 2 dL_street_4 rfl rfl ?_
  refine ug_catch (X := "java/lang/IllegalArgumentException") (name := "java/lang/IllegalArgumentException") [.int x1, .int x2] (c_X7_street_x h) kc_L_56 ro_0 rfl (S := [.int 0, .ref (ue_d E 63)]) rfl (Nat.le_of_ble_eq_true rfl) (Nat.le_of_ble_eq_true rfl) (Nat.le_of_ble_eq_true rfl) ⟨Nat.le_refl 1, Nat.le_refl 6⟩ dL_street_5 [] ⟨0, 10, 13, 13⟩ [] rfl (fun z hz => by cases hz) (by decide) (by decide) kq_13 kx_I (fun q => ?_)
  refine ug_astore [(4, .ref q), (0, .ref (ue_d E 0)), (1, .int x1), (2, .int x2), (3, .ref (ue_d E 63))] dL_street_13 (Nat.le_of_ble_eq_true rfl) rfl ?_
  refine ug_iconst dL_street_15 un_iconst_1 ?_
  exact ug_iret dL_street_16
theorem kc_L_59 : uwv RL 59 RX7 yX7_fits cX7_fits 6 (some .int) 1 := ⟨⟨uw_t 964 (by decide +kernel) rfl, uw_t 965 (by decide +kernel) rfl, uw_t 966 (by decide +kernel) rfl, uw_t 1 (by decide +kernel) rfl, uw_t 967 (by decide +kernel) rfl⟩, rfl, by decide +kernel, by decide +kernel, by decide +kernel⟩
theorem c_L_fits_r {l : Launch} {E : Ue} (hx : ue_x E = [.inr (3, 1)]) {mem : Um} {x1 : Int32} {m1 : Um} {r : Int32} (h : f_X7_fits mem x1 = some (m1, .inl r)) : ucw l E 8 yL_fits cL_fits 4 (some .int) [(0, 9, 12, 13)] [.ref (ue_d E 0), .int x1, .ref (ue_d E 63)] mem (some (.int 0)) (um_L m1 r.toInt64) := by
  refine ucw_of rfl (Nat.le_of_ble_eq_true rfl) ?_
  refine ug_aload_n 2 dL_fits_0 rfl rfl ?_
  refine ug_iconst dL_fits_1 un_iconst_0 ?_
  refine ug_aload_n 0 dL_fits_2 rfl rfl ?_
  refine ug_iload_n 1 dL_fits_3 rfl rfl ?_
  refine ug_callVi [.int x1] (c_X7_fits_r h) kc_L_59 ro_0 rfl (S := [.int 0, .ref (ue_d E 63)]) rfl (Nat.le_of_ble_eq_true rfl) (Nat.le_of_ble_eq_true rfl) (Nat.le_of_ble_eq_true rfl) dL_fits_4 ?_
  refine ug_i2l dL_fits_7 ?_
  refine ug_last hx dL_fits_8 ?_
  refine ug_goto 15 dL_fits_9 (by decide) ?_
  refine ug_iconst dL_fits_15 un_iconst_0 ?_
  refine ug_widen (Nat.zero_le 1) (Nat.zero_le 6) ?_
  exact ug_iret dL_fits_16
theorem c_L_fits_i {l : Launch} {E : Ue} {mem : Um} {x1 : Int32} {m1 : Um} (h : f_X7_fits mem x1 = some (m1, .inr "java/lang/IllegalArgumentException")) : ucw l E 8 yL_fits cL_fits 4 (some .int) [(0, 9, 12, 13)] [.ref (ue_d E 0), .int x1, .ref (ue_d E 63)] mem (some (.int 1)) m1 := by
  refine ucw_of rfl (Nat.le_of_ble_eq_true rfl) ?_
  refine ug_aload_n 2 dL_fits_0 rfl rfl ?_
  refine ug_iconst dL_fits_1 un_iconst_0 ?_
  refine ug_aload_n 0 dL_fits_2 rfl rfl ?_
  refine ug_iload_n 1 dL_fits_3 rfl rfl ?_
  refine ug_catch (X := "java/lang/IllegalArgumentException") (name := "java/lang/IllegalArgumentException") [.int x1] (c_X7_fits_x h) kc_L_59 ro_0 rfl (S := [.int 0, .ref (ue_d E 63)]) rfl (Nat.le_of_ble_eq_true rfl) (Nat.le_of_ble_eq_true rfl) (Nat.le_of_ble_eq_true rfl) ⟨Nat.le_refl 1, Nat.le_refl 6⟩ dL_fits_4 [] ⟨0, 9, 12, 13⟩ [] rfl (fun z hz => by cases hz) (by decide) (by decide) kq_13 kx_I (fun q => ?_)
  refine ug_astore_n [(3, .ref q), (0, .ref (ue_d E 0)), (1, .int x1), (2, .ref (ue_d E 63))] dL_fits_12 rfl (Nat.le_of_ble_eq_true rfl) rfl ?_
  refine ug_iconst dL_fits_13 un_iconst_1 ?_
  exact ug_iret dL_fits_14
theorem kc_L_62 : uwv RL 62 RX7 yX7_look cX7_look 6 (some .int) 1 := ⟨⟨uw_t 984 (by decide +kernel) rfl, uw_t 985 (by decide +kernel) rfl, uw_t 986 (by decide +kernel) rfl, uw_t 1 (by decide +kernel) rfl, uw_t 987 (by decide +kernel) rfl⟩, rfl, by decide +kernel, by decide +kernel, by decide +kernel⟩
theorem c_L_look_r {l : Launch} {E : Ue} (hx : ue_x E = [.inr (3, 1)]) {mem : Um} {x1 : Int32} {m1 : Um} {r : Int32} (h : f_X7_look mem x1 = some (m1, .inl r)) : ucw l E 8 yL_look cL_look 4 (some .int) [(0, 9, 12, 13)] [.ref (ue_d E 0), .int x1, .ref (ue_d E 63)] mem (some (.int 0)) (um_L m1 r.toInt64) := by
  refine ucw_of rfl (Nat.le_of_ble_eq_true rfl) ?_
  refine ug_aload_n 2 dL_look_0 rfl rfl ?_
  refine ug_iconst dL_look_1 un_iconst_0 ?_
  refine ug_aload_n 0 dL_look_2 rfl rfl ?_
  refine ug_iload_n 1 dL_look_3 rfl rfl ?_
  refine ug_callVi [.int x1] (c_X7_look_r h) kc_L_62 ro_0 rfl (S := [.int 0, .ref (ue_d E 63)]) rfl (Nat.le_of_ble_eq_true rfl) (Nat.le_of_ble_eq_true rfl) (Nat.le_of_ble_eq_true rfl) dL_look_4 ?_
  refine ug_i2l dL_look_7 ?_
  refine ug_last hx dL_look_8 ?_
  refine ug_goto 15 dL_look_9 (by decide) ?_
  refine ug_iconst dL_look_15 un_iconst_0 ?_
  refine ug_widen (Nat.zero_le 1) (Nat.zero_le 6) ?_
  exact ug_iret dL_look_16
theorem c_L_look_i {l : Launch} {E : Ue} {mem : Um} {x1 : Int32} {m1 : Um} (h : f_X7_look mem x1 = some (m1, .inr "java/lang/IllegalArgumentException")) : ucw l E 8 yL_look cL_look 4 (some .int) [(0, 9, 12, 13)] [.ref (ue_d E 0), .int x1, .ref (ue_d E 63)] mem (some (.int 1)) m1 := by
  refine ucw_of rfl (Nat.le_of_ble_eq_true rfl) ?_
  refine ug_aload_n 2 dL_look_0 rfl rfl ?_
  refine ug_iconst dL_look_1 un_iconst_0 ?_
  refine ug_aload_n 0 dL_look_2 rfl rfl ?_
  refine ug_iload_n 1 dL_look_3 rfl rfl ?_
  refine ug_catch (X := "java/lang/IllegalArgumentException") (name := "java/lang/IllegalArgumentException") [.int x1] (c_X7_look_x h) kc_L_62 ro_0 rfl (S := [.int 0, .ref (ue_d E 63)]) rfl (Nat.le_of_ble_eq_true rfl) (Nat.le_of_ble_eq_true rfl) (Nat.le_of_ble_eq_true rfl) ⟨Nat.le_refl 1, Nat.le_refl 6⟩ dL_look_4 [] ⟨0, 9, 12, 13⟩ [] rfl (fun z hz => by cases hz) (by decide) (by decide) kq_13 kx_I (fun q => ?_)
  refine ug_astore_n [(3, .ref q), (0, .ref (ue_d E 0)), (1, .int x1), (2, .ref (ue_d E 63))] dL_look_12 rfl (Nat.le_of_ble_eq_true rfl) rfl ?_
  refine ug_iconst dL_look_13 un_iconst_1 ?_
  exact ug_iret dL_look_14
theorem kc_L_65 : uwv RL 65 RX7 yX7_stands cX7_stands 4 (some .long) 3 := ⟨⟨uw_t 1006 (by decide +kernel) rfl, uw_t 1007 (by decide +kernel) rfl, uw_t 1008 (by decide +kernel) rfl, uw_t 1 (by decide +kernel) rfl, uw_t 1009 (by decide +kernel) rfl⟩, rfl, by decide +kernel, by decide +kernel, by decide +kernel⟩
theorem c_L_stands_r {l : Launch} {E : Ue} (hx : ue_x E = [.inr (3, 1)]) {mem : Um} {x1 : Int32} {x2 : Int32} {x3 : Int32} {m1 : Um} {r : Int64} (h : f_X7_stands mem x1 x2 x3 = some (m1, .inl r)) : ucw l E 8 yL_stands cL_stands 6 (some .int) [(0, 11, 14, 13)] [.ref (ue_d E 0), .int x1, .int x2, .int x3, .ref (ue_d E 63)] mem (some (.int 0)) (um_L m1 r) := by
  refine ucw_of rfl (Nat.le_of_ble_eq_true rfl) ?_
  refine ug_aload 4 dL_stands_0 rfl ?_
  refine ug_iconst dL_stands_2 un_iconst_0 ?_
  refine ug_aload_n 0 dL_stands_3 rfl rfl ?_
  refine ug_iload_n 1 dL_stands_4 rfl rfl ?_
  refine ug_iload_n 2 dL_stands_5 rfl rfl ?_
  refine ug_iload_n 3 dL_stands_6 rfl rfl ?_
  refine ug_callVl [.int x1, .int x2, .int x3] (c_X7_stands_r h) kc_L_65 ro_0 rfl (S := [.int 0, .ref (ue_d E 63)]) rfl (Nat.le_of_ble_eq_true rfl) (Nat.le_of_ble_eq_true rfl) (Nat.le_of_ble_eq_true rfl) dL_stands_7 ?_
  refine ug_last hx dL_stands_10 ?_
  refine ug_goto 18 dL_stands_11 (by decide) ?_
  refine ug_iconst dL_stands_18 un_iconst_0 ?_
  refine ug_widen (Nat.zero_le 1) (Nat.zero_le 6) ?_
  exact ug_iret dL_stands_19
theorem c_L_stands_i {l : Launch} {E : Ue} {mem : Um} {x1 : Int32} {x2 : Int32} {x3 : Int32} {m1 : Um} (h : f_X7_stands mem x1 x2 x3 = some (m1, .inr "java/lang/IllegalArgumentException")) : ucw l E 8 yL_stands cL_stands 6 (some .int) [(0, 11, 14, 13)] [.ref (ue_d E 0), .int x1, .int x2, .int x3, .ref (ue_d E 63)] mem (some (.int 1)) m1 := by
  refine ucw_of rfl (Nat.le_of_ble_eq_true rfl) ?_
  refine ug_aload 4 dL_stands_0 rfl ?_
  refine ug_iconst dL_stands_2 un_iconst_0 ?_
  refine ug_aload_n 0 dL_stands_3 rfl rfl ?_
  refine ug_iload_n 1 dL_stands_4 rfl rfl ?_
  refine ug_iload_n 2 dL_stands_5 rfl rfl ?_
  refine ug_iload_n 3 dL_stands_6 rfl rfl ?_
  refine ug_catch (X := "java/lang/IllegalArgumentException") (name := "java/lang/IllegalArgumentException") [.int x1, .int x2, .int x3] (c_X7_stands_x h) kc_L_65 ro_0 rfl (S := [.int 0, .ref (ue_d E 63)]) rfl (Nat.le_of_ble_eq_true rfl) (Nat.le_of_ble_eq_true rfl) (Nat.le_of_ble_eq_true rfl) ⟨Nat.le_refl 1, Nat.le_refl 6⟩ dL_stands_7 [] ⟨0, 11, 14, 13⟩ [] rfl (fun z hz => by cases hz) (by decide) (by decide) kq_13 kx_I (fun q => ?_)
  refine ug_astore [(5, .ref q), (0, .ref (ue_d E 0)), (1, .int x1), (2, .int x2), (3, .int x3), (4, .ref (ue_d E 63))] dL_stands_14 (Nat.le_of_ble_eq_true rfl) rfl ?_
  refine ug_iconst dL_stands_16 un_iconst_1 ?_
  exact ug_iret dL_stands_17
theorem kc_L_69 : uwv RL 69 RX7 yX7_mean cX7_mean 7 (some .long) 3 := ⟨⟨uw_t 1017 (by decide +kernel) rfl, uw_t 1018 (by decide +kernel) rfl, uw_t 1019 (by decide +kernel) rfl, uw_t 1 (by decide +kernel) rfl, uw_t 1020 (by decide +kernel) rfl⟩, rfl, by decide +kernel, by decide +kernel, by decide +kernel⟩
theorem c_L_mean_r {l : Launch} {E : Ue} (hx : ue_x E = [.inr (3, 1)]) {mem : Um} {x1 : Int32} {x2 : Int32} {x3 : Int32} {m1 : Um} {r : Int64} (h : f_X7_mean mem x1 x2 x3 = some (m1, .inl r)) : ucw l E 8 yL_mean cL_mean 6 (some .int) [(0, 11, 14, 13)] [.ref (ue_d E 0), .int x1, .int x2, .int x3, .ref (ue_d E 63)] mem (some (.int 0)) (um_L m1 r) := by
  refine ucw_of rfl (Nat.le_of_ble_eq_true rfl) ?_
  refine ug_aload 4 dL_mean_0 rfl ?_
  refine ug_iconst dL_mean_2 un_iconst_0 ?_
  refine ug_aload_n 0 dL_mean_3 rfl rfl ?_
  refine ug_iload_n 1 dL_mean_4 rfl rfl ?_
  refine ug_iload_n 2 dL_mean_5 rfl rfl ?_
  refine ug_iload_n 3 dL_mean_6 rfl rfl ?_
  refine ug_callVl [.int x1, .int x2, .int x3] (c_X7_mean_r h) kc_L_69 ro_0 rfl (S := [.int 0, .ref (ue_d E 63)]) rfl (Nat.le_of_ble_eq_true rfl) (Nat.le_of_ble_eq_true rfl) (Nat.le_of_ble_eq_true rfl) dL_mean_7 ?_
  refine ug_last hx dL_mean_10 ?_
  refine ug_goto 18 dL_mean_11 (by decide) ?_
  refine ug_iconst dL_mean_18 un_iconst_0 ?_
  refine ug_widen (Nat.zero_le 1) (Nat.zero_le 6) ?_
  exact ug_iret dL_mean_19
theorem c_L_mean_i {l : Launch} {E : Ue} {mem : Um} {x1 : Int32} {x2 : Int32} {x3 : Int32} {m1 : Um} (h : f_X7_mean mem x1 x2 x3 = some (m1, .inr "java/lang/IllegalArgumentException")) : ucw l E 8 yL_mean cL_mean 6 (some .int) [(0, 11, 14, 13)] [.ref (ue_d E 0), .int x1, .int x2, .int x3, .ref (ue_d E 63)] mem (some (.int 1)) m1 := by
  refine ucw_of rfl (Nat.le_of_ble_eq_true rfl) ?_
  refine ug_aload 4 dL_mean_0 rfl ?_
  refine ug_iconst dL_mean_2 un_iconst_0 ?_
  refine ug_aload_n 0 dL_mean_3 rfl rfl ?_
  refine ug_iload_n 1 dL_mean_4 rfl rfl ?_
  refine ug_iload_n 2 dL_mean_5 rfl rfl ?_
  refine ug_iload_n 3 dL_mean_6 rfl rfl ?_
  refine ug_catch (X := "java/lang/IllegalArgumentException") (name := "java/lang/IllegalArgumentException") [.int x1, .int x2, .int x3] (c_X7_mean_x h) kc_L_69 ro_0 rfl (S := [.int 0, .ref (ue_d E 63)]) rfl (Nat.le_of_ble_eq_true rfl) (Nat.le_of_ble_eq_true rfl) (Nat.le_of_ble_eq_true rfl) ⟨Nat.le_refl 1, Nat.le_refl 6⟩ dL_mean_7 [] ⟨0, 11, 14, 13⟩ [] rfl (fun z hz => by cases hz) (by decide) (by decide) kq_13 kx_I (fun q => ?_)
  refine ug_astore [(5, .ref q), (0, .ref (ue_d E 0)), (1, .int x1), (2, .int x2), (3, .int x3), (4, .ref (ue_d E 63))] dL_mean_14 (Nat.le_of_ble_eq_true rfl) rfl ?_
  refine ug_iconst dL_mean_16 un_iconst_1 ?_
  exact ug_iret dL_mean_17
theorem kc_L_72 : uwv RL 72 RX7 yX7_sure cX7_sure 2 (some .int) 1 := ⟨⟨uw_t 1024 (by decide +kernel) rfl, uw_t 1025 (by decide +kernel) rfl, uw_t 1026 (by decide +kernel) rfl, uw_t 1 (by decide +kernel) rfl, uw_t 1027 (by decide +kernel) rfl⟩, rfl, by decide +kernel, by decide +kernel, by decide +kernel⟩
theorem c_L_sure_r {l : Launch} {E : Ue} (hx : ue_x E = [.inr (3, 1)]) {mem : Um} {x1 : Int32} {m1 : Um} {r : Int32} (h : f_X7_sure mem x1 = some (m1, .inl r)) : ucw l E 8 yL_sure cL_sure 4 (some .int) [(0, 9, 12, 13)] [.ref (ue_d E 0), .int x1, .ref (ue_d E 63)] mem (some (.int 0)) (um_L m1 r.toInt64) := by
  refine ucw_of rfl (Nat.le_of_ble_eq_true rfl) ?_
  refine ug_aload_n 2 dL_sure_0 rfl rfl ?_
  refine ug_iconst dL_sure_1 un_iconst_0 ?_
  refine ug_aload_n 0 dL_sure_2 rfl rfl ?_
  refine ug_iload_n 1 dL_sure_3 rfl rfl ?_
  refine ug_callVi [.int x1] (c_X7_sure_r h) kc_L_72 ro_0 rfl (S := [.int 0, .ref (ue_d E 63)]) rfl (Nat.le_of_ble_eq_true rfl) (Nat.le_of_ble_eq_true rfl) (Nat.le_of_ble_eq_true rfl) dL_sure_4 ?_
  refine ug_i2l dL_sure_7 ?_
  refine ug_last hx dL_sure_8 ?_
  refine ug_goto 15 dL_sure_9 (by decide) ?_
  refine ug_iconst dL_sure_15 un_iconst_0 ?_
  refine ug_widen (Nat.zero_le 1) (Nat.zero_le 6) ?_
  exact ug_iret dL_sure_16
theorem c_L_sure_i {l : Launch} {E : Ue} {mem : Um} {x1 : Int32} {m1 : Um} (h : f_X7_sure mem x1 = some (m1, .inr "java/lang/IllegalArgumentException")) : ucw l E 8 yL_sure cL_sure 4 (some .int) [(0, 9, 12, 13)] [.ref (ue_d E 0), .int x1, .ref (ue_d E 63)] mem (some (.int 1)) m1 := by
  refine ucw_of rfl (Nat.le_of_ble_eq_true rfl) ?_
  refine ug_aload_n 2 dL_sure_0 rfl rfl ?_
  refine ug_iconst dL_sure_1 un_iconst_0 ?_
  refine ug_aload_n 0 dL_sure_2 rfl rfl ?_
  refine ug_iload_n 1 dL_sure_3 rfl rfl ?_
  refine ug_catch (X := "java/lang/IllegalArgumentException") (name := "java/lang/IllegalArgumentException") [.int x1] (c_X7_sure_x h) kc_L_72 ro_0 rfl (S := [.int 0, .ref (ue_d E 63)]) rfl (Nat.le_of_ble_eq_true rfl) (Nat.le_of_ble_eq_true rfl) (Nat.le_of_ble_eq_true rfl) ⟨Nat.le_refl 1, Nat.le_refl 6⟩ dL_sure_4 [] ⟨0, 9, 12, 13⟩ [] rfl (fun z hz => by cases hz) (by decide) (by decide) kq_13 kx_I (fun q => ?_)
  refine ug_astore_n [(3, .ref q), (0, .ref (ue_d E 0)), (1, .int x1), (2, .ref (ue_d E 63))] dL_sure_12 rfl (Nat.le_of_ble_eq_true rfl) rfl ?_
  refine ug_iconst dL_sure_13 un_iconst_1 ?_
  exact ug_iret dL_sure_14
theorem kc_L_75 : uwv RL 75 RX7 yX7_pay cX7_pay 10 (some .int) 3 := ⟨⟨uw_t 1033 (by decide +kernel) rfl, uw_t 1034 (by decide +kernel) rfl, uw_t 1035 (by decide +kernel) rfl, uw_t 1 (by decide +kernel) rfl, uw_t 1036 (by decide +kernel) rfl⟩, rfl, by decide +kernel, by decide +kernel, by decide +kernel⟩
theorem c_L_pay_r {l : Launch} {E : Ue} (hx : ue_x E = [.inr (3, 1)]) {mem : Um} {x1 : Int32} {x2 : Int32} {x3 : Int32} {m1 : Um} {r : Int32} (h : f_X7_pay mem x1 x2 x3 = some (m1, .inl r)) : ucw l E 8 yL_pay cL_pay 6 (some .int) [(0, 12, 15, 13)] [.ref (ue_d E 0), .int x1, .int x2, .int x3, .ref (ue_d E 63)] mem (some (.int 0)) (um_L m1 r.toInt64) := by
  refine ucw_of rfl (Nat.le_of_ble_eq_true rfl) ?_
  refine ug_aload 4 dL_pay_0 rfl ?_
  refine ug_iconst dL_pay_2 un_iconst_0 ?_
  refine ug_aload_n 0 dL_pay_3 rfl rfl ?_
  refine ug_iload_n 1 dL_pay_4 rfl rfl ?_
  refine ug_iload_n 2 dL_pay_5 rfl rfl ?_
  refine ug_iload_n 3 dL_pay_6 rfl rfl ?_
  refine ug_callVi [.int x1, .int x2, .int x3] (c_X7_pay_r h) kc_L_75 ro_0 rfl (S := [.int 0, .ref (ue_d E 63)]) rfl (Nat.le_of_ble_eq_true rfl) (Nat.le_of_ble_eq_true rfl) (Nat.le_of_ble_eq_true rfl) dL_pay_7 ?_
  refine ug_i2l dL_pay_10 ?_
  refine ug_last hx dL_pay_11 ?_
  refine ug_goto 19 dL_pay_12 (by decide) ?_
  refine ug_iconst dL_pay_19 un_iconst_0 ?_
  refine ug_widen (Nat.zero_le 1) (Nat.zero_le 6) ?_
  exact ug_iret dL_pay_20
theorem c_L_pay_i {l : Launch} {E : Ue} {mem : Um} {x1 : Int32} {x2 : Int32} {x3 : Int32} {m1 : Um} (h : f_X7_pay mem x1 x2 x3 = some (m1, .inr "java/lang/IllegalArgumentException")) : ucw l E 8 yL_pay cL_pay 6 (some .int) [(0, 12, 15, 13)] [.ref (ue_d E 0), .int x1, .int x2, .int x3, .ref (ue_d E 63)] mem (some (.int 1)) m1 := by
  refine ucw_of rfl (Nat.le_of_ble_eq_true rfl) ?_
  refine ug_aload 4 dL_pay_0 rfl ?_
  refine ug_iconst dL_pay_2 un_iconst_0 ?_
  refine ug_aload_n 0 dL_pay_3 rfl rfl ?_
  refine ug_iload_n 1 dL_pay_4 rfl rfl ?_
  refine ug_iload_n 2 dL_pay_5 rfl rfl ?_
  refine ug_iload_n 3 dL_pay_6 rfl rfl ?_
  refine ug_catch (X := "java/lang/IllegalArgumentException") (name := "java/lang/IllegalArgumentException") [.int x1, .int x2, .int x3] (c_X7_pay_x h) kc_L_75 ro_0 rfl (S := [.int 0, .ref (ue_d E 63)]) rfl (Nat.le_of_ble_eq_true rfl) (Nat.le_of_ble_eq_true rfl) (Nat.le_of_ble_eq_true rfl) ⟨Nat.le_refl 1, Nat.le_refl 6⟩ dL_pay_7 [] ⟨0, 12, 15, 13⟩ [] rfl (fun z hz => by cases hz) (by decide) (by decide) kq_13 kx_I (fun q => ?_)
  refine ug_astore [(5, .ref q), (0, .ref (ue_d E 0)), (1, .int x1), (2, .int x2), (3, .int x3), (4, .ref (ue_d E 63))] dL_pay_15 (Nat.le_of_ble_eq_true rfl) rfl ?_
  refine ug_iconst dL_pay_17 un_iconst_1 ?_
  exact ug_iret dL_pay_18
theorem kc_L_78 : uwv RL 78 RX7 yX7_sun cX7_sun 5 (some .int) 3 := ⟨⟨uw_t 1046 (by decide +kernel) rfl, uw_t 1047 (by decide +kernel) rfl, uw_t 1048 (by decide +kernel) rfl, uw_t 1 (by decide +kernel) rfl, uw_t 1049 (by decide +kernel) rfl⟩, rfl, by decide +kernel, by decide +kernel, by decide +kernel⟩
theorem c_L_sun_r {l : Launch} {E : Ue} (hx : ue_x E = [.inr (3, 1)]) {mem : Um} {x1 : Int32} {x2 : Int32} {x3 : Int32} {m1 : Um} {r : Int32} (h : f_X7_sun mem x1 x2 x3 = some (m1, .inl r)) : ucw l E 8 yL_sun cL_sun 6 (some .int) [(0, 12, 15, 31), (0, 12, 19, 13)] [.ref (ue_d E 0), .int x1, .int x2, .int x3, .ref (ue_d E 63)] mem (some (.int 0)) (um_L m1 r.toInt64) := by
  refine ucw_of rfl (Nat.le_of_ble_eq_true rfl) ?_
  refine ug_aload 4 dL_sun_0 rfl ?_
  refine ug_iconst dL_sun_2 un_iconst_0 ?_
  refine ug_aload_n 0 dL_sun_3 rfl rfl ?_
  refine ug_iload_n 1 dL_sun_4 rfl rfl ?_
  refine ug_iload_n 2 dL_sun_5 rfl rfl ?_
  refine ug_iload_n 3 dL_sun_6 rfl rfl ?_
  refine ug_callVi [.int x1, .int x2, .int x3] (c_X7_sun_r h) kc_L_78 ro_0 rfl (S := [.int 0, .ref (ue_d E 63)]) rfl (Nat.le_of_ble_eq_true rfl) (Nat.le_of_ble_eq_true rfl) (Nat.le_of_ble_eq_true rfl) dL_sun_7 ?_
  refine ug_i2l dL_sun_10 ?_
  refine ug_last hx dL_sun_11 ?_
  refine ug_goto 23 dL_sun_12 (by decide) ?_
  refine ug_iconst dL_sun_23 un_iconst_0 ?_
  refine ug_widen (Nat.zero_le 1) (Nat.zero_le 6) ?_
  exact ug_iret dL_sun_24
theorem c_L_sun_n {l : Launch} {E : Ue} {mem : Um} {x1 : Int32} {x2 : Int32} {x3 : Int32} {m1 : Um} (h : f_X7_sun mem x1 x2 x3 = some (m1, .inr "java/util/NoSuchElementException")) : ucw l E 8 yL_sun cL_sun 6 (some .int) [(0, 12, 15, 31), (0, 12, 19, 13)] [.ref (ue_d E 0), .int x1, .int x2, .int x3, .ref (ue_d E 63)] mem (some (.int 1)) m1 := by
  refine ucw_of rfl (Nat.le_of_ble_eq_true rfl) ?_
  refine ug_aload 4 dL_sun_0 rfl ?_
  refine ug_iconst dL_sun_2 un_iconst_0 ?_
  refine ug_aload_n 0 dL_sun_3 rfl rfl ?_
  refine ug_iload_n 1 dL_sun_4 rfl rfl ?_
  refine ug_iload_n 2 dL_sun_5 rfl rfl ?_
  refine ug_iload_n 3 dL_sun_6 rfl rfl ?_
  refine ug_catch (X := "java/util/NoSuchElementException") (name := "java/util/NoSuchElementException") [.int x1, .int x2, .int x3] (c_X7_sun_x h) kc_L_78 ro_0 rfl (S := [.int 0, .ref (ue_d E 63)]) rfl (Nat.le_of_ble_eq_true rfl) (Nat.le_of_ble_eq_true rfl) (Nat.le_of_ble_eq_true rfl) ⟨Nat.le_refl 1, Nat.le_refl 6⟩ dL_sun_7 [] ⟨0, 12, 15, 31⟩ [⟨0, 12, 19, 13⟩] rfl (fun z hz => by cases hz) (by decide) (by decide) kq_31 kx_N (fun q => ?_)
  refine ug_astore [(5, .ref q), (0, .ref (ue_d E 0)), (1, .int x1), (2, .int x2), (3, .int x3), (4, .ref (ue_d E 63))] dL_sun_15 (Nat.le_of_ble_eq_true rfl) rfl ?_
  refine ug_iconst dL_sun_17 un_iconst_1 ?_
  exact ug_iret dL_sun_18
theorem c_L_sun_i {l : Launch} {E : Ue} {mem : Um} {x1 : Int32} {x2 : Int32} {x3 : Int32} {m1 : Um} (h : f_X7_sun mem x1 x2 x3 = some (m1, .inr "java/lang/IllegalArgumentException")) : ucw l E 8 yL_sun cL_sun 6 (some .int) [(0, 12, 15, 31), (0, 12, 19, 13)] [.ref (ue_d E 0), .int x1, .int x2, .int x3, .ref (ue_d E 63)] mem (some (.int 2)) m1 := by
  refine ucw_of rfl (Nat.le_of_ble_eq_true rfl) ?_
  refine ug_aload 4 dL_sun_0 rfl ?_
  refine ug_iconst dL_sun_2 un_iconst_0 ?_
  refine ug_aload_n 0 dL_sun_3 rfl rfl ?_
  refine ug_iload_n 1 dL_sun_4 rfl rfl ?_
  refine ug_iload_n 2 dL_sun_5 rfl rfl ?_
  refine ug_iload_n 3 dL_sun_6 rfl rfl ?_
  refine ug_catch (X := "java/lang/IllegalArgumentException") (name := "java/lang/IllegalArgumentException") [.int x1, .int x2, .int x3] (c_X7_sun_x h) kc_L_78 ro_0 rfl (S := [.int 0, .ref (ue_d E 63)]) rfl (Nat.le_of_ble_eq_true rfl) (Nat.le_of_ble_eq_true rfl) (Nat.le_of_ble_eq_true rfl) ⟨Nat.le_refl 1, Nat.le_refl 6⟩ dL_sun_7 [⟨0, 12, 15, 31⟩] ⟨0, 12, 19, 13⟩ [] rfl (fun z hz => by rcases List.mem_singleton.mp hz with rfl; exact ⟨rfl, by decide, kq_31⟩) (by decide) (by decide) kq_13 kx_I (fun q => ?_)
  refine ug_astore [(5, .ref q), (0, .ref (ue_d E 0)), (1, .int x1), (2, .int x2), (3, .int x3), (4, .ref (ue_d E 63))] dL_sun_19 (Nat.le_of_ble_eq_true rfl) rfl ?_
  refine ug_iconst dL_sun_21 un_iconst_2 ?_
  exact ug_iret dL_sun_22
theorem kc_L_81 : uwv RL 81 RX7 yX7_richest cX7_richest 6 (some .int) 1 := ⟨⟨uw_t 1061 (by decide +kernel) rfl, uw_t 1062 (by decide +kernel) rfl, uw_t 1063 (by decide +kernel) rfl, uw_t 1 (by decide +kernel) rfl, uw_t 1064 (by decide +kernel) rfl⟩, rfl, by decide +kernel, by decide +kernel, by decide +kernel⟩
theorem c_L_richest_r {l : Launch} {E : Ue} (hx : ue_x E = [.inr (3, 1)]) {mem : Um} {x1 : Int32} {m1 : Um} {r : Int32} (h : f_X7_richest mem x1 = some (m1, .inl r)) : ucw l E 8 yL_richest cL_richest 4 (some .int) [(0, 9, 12, 13)] [.ref (ue_d E 0), .int x1, .ref (ue_d E 63)] mem (some (.int 0)) (um_L m1 r.toInt64) := by
  refine ucw_of rfl (Nat.le_of_ble_eq_true rfl) ?_
  refine ug_aload_n 2 dL_richest_0 rfl rfl ?_
  refine ug_iconst dL_richest_1 un_iconst_0 ?_
  refine ug_aload_n 0 dL_richest_2 rfl rfl ?_
  refine ug_iload_n 1 dL_richest_3 rfl rfl ?_
  refine ug_callVi [.int x1] (c_X7_richest_r h) kc_L_81 ro_0 rfl (S := [.int 0, .ref (ue_d E 63)]) rfl (Nat.le_of_ble_eq_true rfl) (Nat.le_of_ble_eq_true rfl) (Nat.le_of_ble_eq_true rfl) dL_richest_4 ?_
  refine ug_i2l dL_richest_7 ?_
  refine ug_last hx dL_richest_8 ?_
  refine ug_goto 15 dL_richest_9 (by decide) ?_
  refine ug_iconst dL_richest_15 un_iconst_0 ?_
  refine ug_widen (Nat.zero_le 1) (Nat.zero_le 6) ?_
  exact ug_iret dL_richest_16
theorem c_L_richest_i {l : Launch} {E : Ue} {mem : Um} {x1 : Int32} {m1 : Um} (h : f_X7_richest mem x1 = some (m1, .inr "java/lang/IllegalArgumentException")) : ucw l E 8 yL_richest cL_richest 4 (some .int) [(0, 9, 12, 13)] [.ref (ue_d E 0), .int x1, .ref (ue_d E 63)] mem (some (.int 1)) m1 := by
  refine ucw_of rfl (Nat.le_of_ble_eq_true rfl) ?_
  refine ug_aload_n 2 dL_richest_0 rfl rfl ?_
  refine ug_iconst dL_richest_1 un_iconst_0 ?_
  refine ug_aload_n 0 dL_richest_2 rfl rfl ?_
  refine ug_iload_n 1 dL_richest_3 rfl rfl ?_
  refine ug_catch (X := "java/lang/IllegalArgumentException") (name := "java/lang/IllegalArgumentException") [.int x1] (c_X7_richest_x h) kc_L_81 ro_0 rfl (S := [.int 0, .ref (ue_d E 63)]) rfl (Nat.le_of_ble_eq_true rfl) (Nat.le_of_ble_eq_true rfl) (Nat.le_of_ble_eq_true rfl) ⟨Nat.le_refl 1, Nat.le_refl 6⟩ dL_richest_4 [] ⟨0, 9, 12, 13⟩ [] rfl (fun z hz => by cases hz) (by decide) (by decide) kq_13 kx_I (fun q => ?_)
  refine ug_astore_n [(3, .ref q), (0, .ref (ue_d E 0)), (1, .int x1), (2, .ref (ue_d E 63))] dL_richest_12 rfl (Nat.le_of_ble_eq_true rfl) rfl ?_
  refine ug_iconst dL_richest_13 un_iconst_1 ?_
  exact ug_iret dL_richest_14
theorem kc_L_84 : uwv RL 84 RX7 yX7_offer cX7_offer 3 (some .int) 2 := ⟨⟨uw_t 1068 (by decide +kernel) rfl, uw_t 1069 (by decide +kernel) rfl, uw_t 1070 (by decide +kernel) rfl, uw_t 1 (by decide +kernel) rfl, uw_t 1071 (by decide +kernel) rfl⟩, rfl, by decide +kernel, by decide +kernel, by decide +kernel⟩
theorem c_L_offer_r {l : Launch} {E : Ue} (hx : ue_x E = [.inr (3, 1)]) {mem : Um} {x1 : Int32} {x2 : Int32} {m1 : Um} {r : Int32} (h : f_X7_offer mem x1 x2 = some (m1, .inl r)) : ucw l E 8 yL_offer cL_offer 5 (some .int) [(0, 10, 13, 31), (0, 10, 17, 13)] [.ref (ue_d E 0), .int x1, .int x2, .ref (ue_d E 63)] mem (some (.int 0)) (um_L m1 r.toInt64) := by
  refine ucw_of rfl (Nat.le_of_ble_eq_true rfl) ?_
  refine ug_aload_n 3 dL_offer_0 rfl rfl ?_
  refine ug_iconst dL_offer_1 un_iconst_0 ?_
  refine ug_aload_n 0 dL_offer_2 rfl rfl ?_
  refine ug_iload_n 1 dL_offer_3 rfl rfl ?_
  refine ug_iload_n 2 dL_offer_4 rfl rfl ?_
  refine ug_callVi [.int x1, .int x2] (c_X7_offer_r h) kc_L_84 ro_0 rfl (S := [.int 0, .ref (ue_d E 63)]) rfl (Nat.le_of_ble_eq_true rfl) (Nat.le_of_ble_eq_true rfl) (Nat.le_of_ble_eq_true rfl) dL_offer_5 ?_
  refine ug_i2l dL_offer_8 ?_
  refine ug_last hx dL_offer_9 ?_
  refine ug_goto 21 dL_offer_10 (by decide) ?_
  refine ug_iconst dL_offer_21 un_iconst_0 ?_
  refine ug_widen (Nat.zero_le 1) (Nat.zero_le 6) ?_
  exact ug_iret dL_offer_22
theorem c_L_offer_n {l : Launch} {E : Ue} {mem : Um} {x1 : Int32} {x2 : Int32} {m1 : Um} (h : f_X7_offer mem x1 x2 = some (m1, .inr "java/util/NoSuchElementException")) : ucw l E 8 yL_offer cL_offer 5 (some .int) [(0, 10, 13, 31), (0, 10, 17, 13)] [.ref (ue_d E 0), .int x1, .int x2, .ref (ue_d E 63)] mem (some (.int 1)) m1 := by
  refine ucw_of rfl (Nat.le_of_ble_eq_true rfl) ?_
  refine ug_aload_n 3 dL_offer_0 rfl rfl ?_
  refine ug_iconst dL_offer_1 un_iconst_0 ?_
  refine ug_aload_n 0 dL_offer_2 rfl rfl ?_
  refine ug_iload_n 1 dL_offer_3 rfl rfl ?_
  refine ug_iload_n 2 dL_offer_4 rfl rfl ?_
  refine ug_catch (X := "java/util/NoSuchElementException") (name := "java/util/NoSuchElementException") [.int x1, .int x2] (c_X7_offer_x h) kc_L_84 ro_0 rfl (S := [.int 0, .ref (ue_d E 63)]) rfl (Nat.le_of_ble_eq_true rfl) (Nat.le_of_ble_eq_true rfl) (Nat.le_of_ble_eq_true rfl) ⟨Nat.le_refl 1, Nat.le_refl 6⟩ dL_offer_5 [] ⟨0, 10, 13, 31⟩ [⟨0, 10, 17, 13⟩] rfl (fun z hz => by cases hz) (by decide) (by decide) kq_31 kx_N (fun q => ?_)
  refine ug_astore [(4, .ref q), (0, .ref (ue_d E 0)), (1, .int x1), (2, .int x2), (3, .ref (ue_d E 63))] dL_offer_13 (Nat.le_of_ble_eq_true rfl) rfl ?_
  refine ug_iconst dL_offer_15 un_iconst_1 ?_
  exact ug_iret dL_offer_16
theorem c_L_offer_i {l : Launch} {E : Ue} {mem : Um} {x1 : Int32} {x2 : Int32} {m1 : Um} (h : f_X7_offer mem x1 x2 = some (m1, .inr "java/lang/IllegalArgumentException")) : ucw l E 8 yL_offer cL_offer 5 (some .int) [(0, 10, 13, 31), (0, 10, 17, 13)] [.ref (ue_d E 0), .int x1, .int x2, .ref (ue_d E 63)] mem (some (.int 2)) m1 := by
  refine ucw_of rfl (Nat.le_of_ble_eq_true rfl) ?_
  refine ug_aload_n 3 dL_offer_0 rfl rfl ?_
  refine ug_iconst dL_offer_1 un_iconst_0 ?_
  refine ug_aload_n 0 dL_offer_2 rfl rfl ?_
  refine ug_iload_n 1 dL_offer_3 rfl rfl ?_
  refine ug_iload_n 2 dL_offer_4 rfl rfl ?_
  refine ug_catch (X := "java/lang/IllegalArgumentException") (name := "java/lang/IllegalArgumentException") [.int x1, .int x2] (c_X7_offer_x h) kc_L_84 ro_0 rfl (S := [.int 0, .ref (ue_d E 63)]) rfl (Nat.le_of_ble_eq_true rfl) (Nat.le_of_ble_eq_true rfl) (Nat.le_of_ble_eq_true rfl) ⟨Nat.le_refl 1, Nat.le_refl 6⟩ dL_offer_5 [⟨0, 10, 13, 31⟩] ⟨0, 10, 17, 13⟩ [] rfl (fun z hz => by rcases List.mem_singleton.mp hz with rfl; exact ⟨rfl, by decide, kq_31⟩) (by decide) (by decide) kq_13 kx_I (fun q => ?_)
  refine ug_astore [(4, .ref q), (0, .ref (ue_d E 0)), (1, .int x1), (2, .int x2), (3, .ref (ue_d E 63))] dL_offer_17 (Nat.le_of_ble_eq_true rfl) rfl ?_
  refine ug_iconst dL_offer_19 un_iconst_2 ?_
  exact ug_iret dL_offer_20
theorem kc_L_87 : uwv RL 87 RX7 yX7_lost cX7_lost 3 (some .int) 2 := ⟨⟨uw_t 1076 (by decide +kernel) rfl, uw_t 1077 (by decide +kernel) rfl, uw_t 1078 (by decide +kernel) rfl, uw_t 1 (by decide +kernel) rfl, uw_t 1079 (by decide +kernel) rfl⟩, rfl, by decide +kernel, by decide +kernel, by decide +kernel⟩
theorem c_L_lost_r {l : Launch} {E : Ue} (hx : ue_x E = [.inr (3, 1)]) {mem : Um} {x1 : Int32} {x2 : Int32} {m1 : Um} {r : Int32} (h : f_X7_lost mem x1 x2 = some (m1, .inl r)) : ucw l E 8 yL_lost cL_lost 5 (some .int) [(0, 10, 13, 13)] [.ref (ue_d E 0), .int x1, .int x2, .ref (ue_d E 63)] mem (some (.int 0)) (um_L m1 r.toInt64) := by
  refine ucw_of rfl (Nat.le_of_ble_eq_true rfl) ?_
  refine ug_aload_n 3 dL_lost_0 rfl rfl ?_
  refine ug_iconst dL_lost_1 un_iconst_0 ?_
  refine ug_aload_n 0 dL_lost_2 rfl rfl ?_
  refine ug_iload_n 1 dL_lost_3 rfl rfl ?_
  refine ug_iload_n 2 dL_lost_4 rfl rfl ?_
  refine ug_callVi [.int x1, .int x2] (c_X7_lost_r h) kc_L_87 ro_0 rfl (S := [.int 0, .ref (ue_d E 63)]) rfl (Nat.le_of_ble_eq_true rfl) (Nat.le_of_ble_eq_true rfl) (Nat.le_of_ble_eq_true rfl) dL_lost_5 ?_
  refine ug_i2l dL_lost_8 ?_
  refine ug_last hx dL_lost_9 ?_
  refine ug_goto 17 dL_lost_10 (by decide) ?_
  refine ug_iconst dL_lost_17 un_iconst_0 ?_
  refine ug_widen (Nat.zero_le 1) (Nat.zero_le 6) ?_
  exact ug_iret dL_lost_18
theorem c_L_lost_i {l : Launch} {E : Ue} {mem : Um} {x1 : Int32} {x2 : Int32} {m1 : Um} (h : f_X7_lost mem x1 x2 = some (m1, .inr "java/lang/IllegalArgumentException")) : ucw l E 8 yL_lost cL_lost 5 (some .int) [(0, 10, 13, 13)] [.ref (ue_d E 0), .int x1, .int x2, .ref (ue_d E 63)] mem (some (.int 1)) m1 := by
  refine ucw_of rfl (Nat.le_of_ble_eq_true rfl) ?_
  refine ug_aload_n 3 dL_lost_0 rfl rfl ?_
  refine ug_iconst dL_lost_1 un_iconst_0 ?_
  refine ug_aload_n 0 dL_lost_2 rfl rfl ?_
  refine ug_iload_n 1 dL_lost_3 rfl rfl ?_
  refine ug_iload_n 2 dL_lost_4 rfl rfl ?_
  refine ug_catch (X := "java/lang/IllegalArgumentException") (name := "java/lang/IllegalArgumentException") [.int x1, .int x2] (c_X7_lost_x h) kc_L_87 ro_0 rfl (S := [.int 0, .ref (ue_d E 63)]) rfl (Nat.le_of_ble_eq_true rfl) (Nat.le_of_ble_eq_true rfl) (Nat.le_of_ble_eq_true rfl) ⟨Nat.le_refl 1, Nat.le_refl 6⟩ dL_lost_5 [] ⟨0, 10, 13, 13⟩ [] rfl (fun z hz => by cases hz) (by decide) (by decide) kq_13 kx_I (fun q => ?_)
  refine ug_astore [(4, .ref q), (0, .ref (ue_d E 0)), (1, .int x1), (2, .int x2), (3, .ref (ue_d E 63))] dL_lost_13 (Nat.le_of_ble_eq_true rfl) rfl ?_
  refine ug_iconst dL_lost_15 un_iconst_1 ?_
  exact ug_iret dL_lost_16
theorem kc_L_90 : uwv RL 90 RX7 yX7_terrace cX7_terrace 4 (some .int) 1 := ⟨⟨uw_t 1084 (by decide +kernel) rfl, uw_t 1085 (by decide +kernel) rfl, uw_t 1086 (by decide +kernel) rfl, uw_t 1 (by decide +kernel) rfl, uw_t 1087 (by decide +kernel) rfl⟩, rfl, by decide +kernel, by decide +kernel, by decide +kernel⟩
theorem c_L_terrace_r {l : Launch} {E : Ue} (hx : ue_x E = [.inr (3, 1)]) {mem : Um} {x1 : Int32} {m1 : Um} {r : Int32} (h : f_X7_terrace mem x1 = some (m1, .inl r)) : ucw l E 8 yL_terrace cL_terrace 4 (some .int) [(0, 9, 12, 31)] [.ref (ue_d E 0), .int x1, .ref (ue_d E 63)] mem (some (.int 0)) (um_L m1 r.toInt64) := by
  refine ucw_of rfl (Nat.le_of_ble_eq_true rfl) ?_
  refine ug_aload_n 2 dL_terrace_0 rfl rfl ?_
  refine ug_iconst dL_terrace_1 un_iconst_0 ?_
  refine ug_aload_n 0 dL_terrace_2 rfl rfl ?_
  refine ug_iload_n 1 dL_terrace_3 rfl rfl ?_
  refine ug_callVi [.int x1] (c_X7_terrace_r h) kc_L_90 ro_0 rfl (S := [.int 0, .ref (ue_d E 63)]) rfl (Nat.le_of_ble_eq_true rfl) (Nat.le_of_ble_eq_true rfl) (Nat.le_of_ble_eq_true rfl) dL_terrace_4 ?_
  refine ug_i2l dL_terrace_7 ?_
  refine ug_last hx dL_terrace_8 ?_
  refine ug_goto 15 dL_terrace_9 (by decide) ?_
  refine ug_iconst dL_terrace_15 un_iconst_0 ?_
  refine ug_widen (Nat.zero_le 1) (Nat.zero_le 6) ?_
  exact ug_iret dL_terrace_16
theorem c_L_terrace_n {l : Launch} {E : Ue} {mem : Um} {x1 : Int32} {m1 : Um} (h : f_X7_terrace mem x1 = some (m1, .inr "java/util/NoSuchElementException")) : ucw l E 8 yL_terrace cL_terrace 4 (some .int) [(0, 9, 12, 31)] [.ref (ue_d E 0), .int x1, .ref (ue_d E 63)] mem (some (.int 1)) m1 := by
  refine ucw_of rfl (Nat.le_of_ble_eq_true rfl) ?_
  refine ug_aload_n 2 dL_terrace_0 rfl rfl ?_
  refine ug_iconst dL_terrace_1 un_iconst_0 ?_
  refine ug_aload_n 0 dL_terrace_2 rfl rfl ?_
  refine ug_iload_n 1 dL_terrace_3 rfl rfl ?_
  refine ug_catch (X := "java/util/NoSuchElementException") (name := "java/util/NoSuchElementException") [.int x1] (c_X7_terrace_x h) kc_L_90 ro_0 rfl (S := [.int 0, .ref (ue_d E 63)]) rfl (Nat.le_of_ble_eq_true rfl) (Nat.le_of_ble_eq_true rfl) (Nat.le_of_ble_eq_true rfl) ⟨Nat.le_refl 1, Nat.le_refl 6⟩ dL_terrace_4 [] ⟨0, 9, 12, 31⟩ [] rfl (fun z hz => by cases hz) (by decide) (by decide) kq_31 kx_N (fun q => ?_)
  refine ug_astore_n [(3, .ref q), (0, .ref (ue_d E 0)), (1, .int x1), (2, .ref (ue_d E 63))] dL_terrace_12 rfl (Nat.le_of_ble_eq_true rfl) rfl ?_
  refine ug_iconst dL_terrace_13 un_iconst_1 ?_
  exact ug_iret dL_terrace_14
theorem kc_L_93 : uwv RL 93 RX7 yX7_overlap cX7_overlap 4 (some .int) 2 := ⟨⟨uw_t 1095 (by decide +kernel) rfl, uw_t 1096 (by decide +kernel) rfl, uw_t 1097 (by decide +kernel) rfl, uw_t 1 (by decide +kernel) rfl, uw_t 1098 (by decide +kernel) rfl⟩, rfl, by decide +kernel, by decide +kernel, by decide +kernel⟩
theorem c_L_overlap_r {l : Launch} {E : Ue} (hx : ue_x E = [.inr (3, 1)]) {mem : Um} {x1 : Int32} {x2 : Int32} {m1 : Um} {r : Int32} (h : f_X7_overlap mem x1 x2 = some (m1, .inl r)) : ucw l E 8 yL_overlap cL_overlap 5 (some .int) [(0, 10, 13, 31)] [.ref (ue_d E 0), .int x1, .int x2, .ref (ue_d E 63)] mem (some (.int 0)) (um_L m1 r.toInt64) := by
  refine ucw_of rfl (Nat.le_of_ble_eq_true rfl) ?_
  refine ug_aload_n 3 dL_overlap_0 rfl rfl ?_
  refine ug_iconst dL_overlap_1 un_iconst_0 ?_
  refine ug_aload_n 0 dL_overlap_2 rfl rfl ?_
  refine ug_iload_n 1 dL_overlap_3 rfl rfl ?_
  refine ug_iload_n 2 dL_overlap_4 rfl rfl ?_
  refine ug_callVi [.int x1, .int x2] (c_X7_overlap_r h) kc_L_93 ro_0 rfl (S := [.int 0, .ref (ue_d E 63)]) rfl (Nat.le_of_ble_eq_true rfl) (Nat.le_of_ble_eq_true rfl) (Nat.le_of_ble_eq_true rfl) dL_overlap_5 ?_
  refine ug_i2l dL_overlap_8 ?_
  refine ug_last hx dL_overlap_9 ?_
  refine ug_goto 17 dL_overlap_10 (by decide) ?_
  refine ug_iconst dL_overlap_17 un_iconst_0 ?_
  refine ug_widen (Nat.zero_le 1) (Nat.zero_le 6) ?_
  exact ug_iret dL_overlap_18
theorem c_L_overlap_n {l : Launch} {E : Ue} {mem : Um} {x1 : Int32} {x2 : Int32} {m1 : Um} (h : f_X7_overlap mem x1 x2 = some (m1, .inr "java/util/NoSuchElementException")) : ucw l E 8 yL_overlap cL_overlap 5 (some .int) [(0, 10, 13, 31)] [.ref (ue_d E 0), .int x1, .int x2, .ref (ue_d E 63)] mem (some (.int 1)) m1 := by
  refine ucw_of rfl (Nat.le_of_ble_eq_true rfl) ?_
  refine ug_aload_n 3 dL_overlap_0 rfl rfl ?_
  refine ug_iconst dL_overlap_1 un_iconst_0 ?_
  refine ug_aload_n 0 dL_overlap_2 rfl rfl ?_
  refine ug_iload_n 1 dL_overlap_3 rfl rfl ?_
  refine ug_iload_n 2 dL_overlap_4 rfl rfl ?_
  refine ug_catch (X := "java/util/NoSuchElementException") (name := "java/util/NoSuchElementException") [.int x1, .int x2] (c_X7_overlap_x h) kc_L_93 ro_0 rfl (S := [.int 0, .ref (ue_d E 63)]) rfl (Nat.le_of_ble_eq_true rfl) (Nat.le_of_ble_eq_true rfl) (Nat.le_of_ble_eq_true rfl) ⟨Nat.le_refl 1, Nat.le_refl 6⟩ dL_overlap_5 [] ⟨0, 10, 13, 31⟩ [] rfl (fun z hz => by cases hz) (by decide) (by decide) kq_31 kx_N (fun q => ?_)
  refine ug_astore [(4, .ref q), (0, .ref (ue_d E 0)), (1, .int x1), (2, .int x2), (3, .ref (ue_d E 63))] dL_overlap_13 (Nat.le_of_ble_eq_true rfl) rfl ?_
  refine ug_iconst dL_overlap_15 un_iconst_1 ?_
  exact ug_iret dL_overlap_16
theorem kc_L_96 : uwv RL 96 RX7 yX7_vacant cX7_vacant 5 (some .int) 1 := ⟨⟨uw_t 1104 (by decide +kernel) rfl, uw_t 1105 (by decide +kernel) rfl, uw_t 1106 (by decide +kernel) rfl, uw_t 1 (by decide +kernel) rfl, uw_t 1107 (by decide +kernel) rfl⟩, rfl, by decide +kernel, by decide +kernel, by decide +kernel⟩
theorem c_L_vacant_r {l : Launch} {E : Ue} (hx : ue_x E = [.inr (3, 1)]) {mem : Um} {x1 : Int32} {m1 : Um} {r : Int32} (h : f_X7_vacant mem x1 = some (m1, .inl r)) : ucw l E 8 yL_vacant cL_vacant 4 (some .int) [(0, 9, 12, 13)] [.ref (ue_d E 0), .int x1, .ref (ue_d E 63)] mem (some (.int 0)) (um_L m1 r.toInt64) := by
  refine ucw_of rfl (Nat.le_of_ble_eq_true rfl) ?_
  refine ug_aload_n 2 dL_vacant_0 rfl rfl ?_
  refine ug_iconst dL_vacant_1 un_iconst_0 ?_
  refine ug_aload_n 0 dL_vacant_2 rfl rfl ?_
  refine ug_iload_n 1 dL_vacant_3 rfl rfl ?_
  refine ug_callVi [.int x1] (c_X7_vacant_r h) kc_L_96 ro_0 rfl (S := [.int 0, .ref (ue_d E 63)]) rfl (Nat.le_of_ble_eq_true rfl) (Nat.le_of_ble_eq_true rfl) (Nat.le_of_ble_eq_true rfl) dL_vacant_4 ?_
  refine ug_i2l dL_vacant_7 ?_
  refine ug_last hx dL_vacant_8 ?_
  refine ug_goto 15 dL_vacant_9 (by decide) ?_
  refine ug_iconst dL_vacant_15 un_iconst_0 ?_
  refine ug_widen (Nat.zero_le 1) (Nat.zero_le 6) ?_
  exact ug_iret dL_vacant_16
theorem c_L_vacant_i {l : Launch} {E : Ue} {mem : Um} {x1 : Int32} {m1 : Um} (h : f_X7_vacant mem x1 = some (m1, .inr "java/lang/IllegalArgumentException")) : ucw l E 8 yL_vacant cL_vacant 4 (some .int) [(0, 9, 12, 13)] [.ref (ue_d E 0), .int x1, .ref (ue_d E 63)] mem (some (.int 1)) m1 := by
  refine ucw_of rfl (Nat.le_of_ble_eq_true rfl) ?_
  refine ug_aload_n 2 dL_vacant_0 rfl rfl ?_
  refine ug_iconst dL_vacant_1 un_iconst_0 ?_
  refine ug_aload_n 0 dL_vacant_2 rfl rfl ?_
  refine ug_iload_n 1 dL_vacant_3 rfl rfl ?_
  refine ug_catch (X := "java/lang/IllegalArgumentException") (name := "java/lang/IllegalArgumentException") [.int x1] (c_X7_vacant_x h) kc_L_96 ro_0 rfl (S := [.int 0, .ref (ue_d E 63)]) rfl (Nat.le_of_ble_eq_true rfl) (Nat.le_of_ble_eq_true rfl) (Nat.le_of_ble_eq_true rfl) ⟨Nat.le_refl 1, Nat.le_refl 6⟩ dL_vacant_4 [] ⟨0, 9, 12, 13⟩ [] rfl (fun z hz => by cases hz) (by decide) (by decide) kq_13 kx_I (fun q => ?_)
  refine ug_astore_n [(3, .ref q), (0, .ref (ue_d E 0)), (1, .int x1), (2, .ref (ue_d E 63))] dL_vacant_12 rfl (Nat.le_of_ble_eq_true rfl) rfl ?_
  refine ug_iconst dL_vacant_13 un_iconst_1 ?_
  exact ug_iret dL_vacant_14
theorem kc_L_99 : uwv RL 99 RX7 yX7_needs cX7_needs 4 (some .int) 2 := ⟨⟨uw_t 1111 (by decide +kernel) rfl, uw_t 1112 (by decide +kernel) rfl, uw_t 1113 (by decide +kernel) rfl, uw_t 1 (by decide +kernel) rfl, uw_t 1114 (by decide +kernel) rfl⟩, rfl, by decide +kernel, by decide +kernel, by decide +kernel⟩
theorem c_L_needs_r {l : Launch} {E : Ue} (hx : ue_x E = [.inr (3, 1)]) {mem : Um} {x1 : Int32} {x2 : Int32} {m1 : Um} {r : Int32} (h : f_X7_needs mem x1 x2 = some (m1, .inl r)) : ucw l E 8 yL_needs cL_needs 5 (some .int) [(0, 10, 13, 31)] [.ref (ue_d E 0), .int x1, .int x2, .ref (ue_d E 63)] mem (some (.int 0)) (um_L m1 r.toInt64) := by
  refine ucw_of rfl (Nat.le_of_ble_eq_true rfl) ?_
  refine ug_aload_n 3 dL_needs_0 rfl rfl ?_
  refine ug_iconst dL_needs_1 un_iconst_0 ?_
  refine ug_aload_n 0 dL_needs_2 rfl rfl ?_
  refine ug_iload_n 1 dL_needs_3 rfl rfl ?_
  refine ug_iload_n 2 dL_needs_4 rfl rfl ?_
  refine ug_callVi [.int x1, .int x2] (c_X7_needs_r h) kc_L_99 ro_0 rfl (S := [.int 0, .ref (ue_d E 63)]) rfl (Nat.le_of_ble_eq_true rfl) (Nat.le_of_ble_eq_true rfl) (Nat.le_of_ble_eq_true rfl) dL_needs_5 ?_
  refine ug_i2l dL_needs_8 ?_
  refine ug_last hx dL_needs_9 ?_
  refine ug_goto 17 dL_needs_10 (by decide) ?_
  refine ug_iconst dL_needs_17 un_iconst_0 ?_
  refine ug_widen (Nat.zero_le 1) (Nat.zero_le 6) ?_
  exact ug_iret dL_needs_18
theorem c_L_needs_n {l : Launch} {E : Ue} {mem : Um} {x1 : Int32} {x2 : Int32} {m1 : Um} (h : f_X7_needs mem x1 x2 = some (m1, .inr "java/util/NoSuchElementException")) : ucw l E 8 yL_needs cL_needs 5 (some .int) [(0, 10, 13, 31)] [.ref (ue_d E 0), .int x1, .int x2, .ref (ue_d E 63)] mem (some (.int 1)) m1 := by
  refine ucw_of rfl (Nat.le_of_ble_eq_true rfl) ?_
  refine ug_aload_n 3 dL_needs_0 rfl rfl ?_
  refine ug_iconst dL_needs_1 un_iconst_0 ?_
  refine ug_aload_n 0 dL_needs_2 rfl rfl ?_
  refine ug_iload_n 1 dL_needs_3 rfl rfl ?_
  refine ug_iload_n 2 dL_needs_4 rfl rfl ?_
  refine ug_catch (X := "java/util/NoSuchElementException") (name := "java/util/NoSuchElementException") [.int x1, .int x2] (c_X7_needs_x h) kc_L_99 ro_0 rfl (S := [.int 0, .ref (ue_d E 63)]) rfl (Nat.le_of_ble_eq_true rfl) (Nat.le_of_ble_eq_true rfl) (Nat.le_of_ble_eq_true rfl) ⟨Nat.le_refl 1, Nat.le_refl 6⟩ dL_needs_5 [] ⟨0, 10, 13, 31⟩ [] rfl (fun z hz => by cases hz) (by decide) (by decide) kq_31 kx_N (fun q => ?_)
  refine ug_astore [(4, .ref q), (0, .ref (ue_d E 0)), (1, .int x1), (2, .int x2), (3, .ref (ue_d E 63))] dL_needs_13 (Nat.le_of_ble_eq_true rfl) rfl ?_
  refine ug_iconst dL_needs_15 un_iconst_1 ?_
  exact ug_iret dL_needs_16
theorem kc_L_102 : uwv RL 102 RX7 yX7_buyers cX7_buyers 5 (some .int) 2 := ⟨⟨uw_t 1118 (by decide +kernel) rfl, uw_t 1119 (by decide +kernel) rfl, uw_t 1120 (by decide +kernel) rfl, uw_t 1 (by decide +kernel) rfl, uw_t 1121 (by decide +kernel) rfl⟩, rfl, by decide +kernel, by decide +kernel, by decide +kernel⟩
theorem c_L_buyers_r {l : Launch} {E : Ue} (hx : ue_x E = [.inr (3, 1)]) {mem : Um} {x1 : Int32} {x2 : Int32} {m1 : Um} {r : Int32} (h : f_X7_buyers mem x1 x2 = some (m1, .inl r)) : ucw l E 8 yL_buyers cL_buyers 5 (some .int) [(0, 10, 13, 31), (0, 10, 17, 13)] [.ref (ue_d E 0), .int x1, .int x2, .ref (ue_d E 63)] mem (some (.int 0)) (um_L m1 r.toInt64) := by
  refine ucw_of rfl (Nat.le_of_ble_eq_true rfl) ?_
  refine ug_aload_n 3 dL_buyers_0 rfl rfl ?_
  refine ug_iconst dL_buyers_1 un_iconst_0 ?_
  refine ug_aload_n 0 dL_buyers_2 rfl rfl ?_
  refine ug_iload_n 1 dL_buyers_3 rfl rfl ?_
  refine ug_iload_n 2 dL_buyers_4 rfl rfl ?_
  refine ug_callVi [.int x1, .int x2] (c_X7_buyers_r h) kc_L_102 ro_0 rfl (S := [.int 0, .ref (ue_d E 63)]) rfl (Nat.le_of_ble_eq_true rfl) (Nat.le_of_ble_eq_true rfl) (Nat.le_of_ble_eq_true rfl) dL_buyers_5 ?_
  refine ug_i2l dL_buyers_8 ?_
  refine ug_last hx dL_buyers_9 ?_
  refine ug_goto 21 dL_buyers_10 (by decide) ?_
  refine ug_iconst dL_buyers_21 un_iconst_0 ?_
  refine ug_widen (Nat.zero_le 1) (Nat.zero_le 6) ?_
  exact ug_iret dL_buyers_22
theorem c_L_buyers_n {l : Launch} {E : Ue} {mem : Um} {x1 : Int32} {x2 : Int32} {m1 : Um} (h : f_X7_buyers mem x1 x2 = some (m1, .inr "java/util/NoSuchElementException")) : ucw l E 8 yL_buyers cL_buyers 5 (some .int) [(0, 10, 13, 31), (0, 10, 17, 13)] [.ref (ue_d E 0), .int x1, .int x2, .ref (ue_d E 63)] mem (some (.int 1)) m1 := by
  refine ucw_of rfl (Nat.le_of_ble_eq_true rfl) ?_
  refine ug_aload_n 3 dL_buyers_0 rfl rfl ?_
  refine ug_iconst dL_buyers_1 un_iconst_0 ?_
  refine ug_aload_n 0 dL_buyers_2 rfl rfl ?_
  refine ug_iload_n 1 dL_buyers_3 rfl rfl ?_
  refine ug_iload_n 2 dL_buyers_4 rfl rfl ?_
  refine ug_catch (X := "java/util/NoSuchElementException") (name := "java/util/NoSuchElementException") [.int x1, .int x2] (c_X7_buyers_x h) kc_L_102 ro_0 rfl (S := [.int 0, .ref (ue_d E 63)]) rfl (Nat.le_of_ble_eq_true rfl) (Nat.le_of_ble_eq_true rfl) (Nat.le_of_ble_eq_true rfl) ⟨Nat.le_refl 1, Nat.le_refl 6⟩ dL_buyers_5 [] ⟨0, 10, 13, 31⟩ [⟨0, 10, 17, 13⟩] rfl (fun z hz => by cases hz) (by decide) (by decide) kq_31 kx_N (fun q => ?_)
  refine ug_astore [(4, .ref q), (0, .ref (ue_d E 0)), (1, .int x1), (2, .int x2), (3, .ref (ue_d E 63))] dL_buyers_13 (Nat.le_of_ble_eq_true rfl) rfl ?_
  refine ug_iconst dL_buyers_15 un_iconst_1 ?_
  exact ug_iret dL_buyers_16
theorem c_L_buyers_i {l : Launch} {E : Ue} {mem : Um} {x1 : Int32} {x2 : Int32} {m1 : Um} (h : f_X7_buyers mem x1 x2 = some (m1, .inr "java/lang/IllegalArgumentException")) : ucw l E 8 yL_buyers cL_buyers 5 (some .int) [(0, 10, 13, 31), (0, 10, 17, 13)] [.ref (ue_d E 0), .int x1, .int x2, .ref (ue_d E 63)] mem (some (.int 2)) m1 := by
  refine ucw_of rfl (Nat.le_of_ble_eq_true rfl) ?_
  refine ug_aload_n 3 dL_buyers_0 rfl rfl ?_
  refine ug_iconst dL_buyers_1 un_iconst_0 ?_
  refine ug_aload_n 0 dL_buyers_2 rfl rfl ?_
  refine ug_iload_n 1 dL_buyers_3 rfl rfl ?_
  refine ug_iload_n 2 dL_buyers_4 rfl rfl ?_
  refine ug_catch (X := "java/lang/IllegalArgumentException") (name := "java/lang/IllegalArgumentException") [.int x1, .int x2] (c_X7_buyers_x h) kc_L_102 ro_0 rfl (S := [.int 0, .ref (ue_d E 63)]) rfl (Nat.le_of_ble_eq_true rfl) (Nat.le_of_ble_eq_true rfl) (Nat.le_of_ble_eq_true rfl) ⟨Nat.le_refl 1, Nat.le_refl 6⟩ dL_buyers_5 [⟨0, 10, 13, 31⟩] ⟨0, 10, 17, 13⟩ [] rfl (fun z hz => by rcases List.mem_singleton.mp hz with rfl; exact ⟨rfl, by decide, kq_31⟩) (by decide) (by decide) kq_13 kx_I (fun q => ?_)
  refine ug_astore [(4, .ref q), (0, .ref (ue_d E 0)), (1, .int x1), (2, .int x2), (3, .ref (ue_d E 63))] dL_buyers_17 (Nat.le_of_ble_eq_true rfl) rfl ?_
  refine ug_iconst dL_buyers_19 un_iconst_2 ?_
  exact ug_iret dL_buyers_20
theorem kc_L_105 : uwv RL 105 RX7 yX7_affords cX7_affords 4 (some .int) 1 := ⟨⟨uw_t 1126 (by decide +kernel) rfl, uw_t 1127 (by decide +kernel) rfl, uw_t 1128 (by decide +kernel) rfl, uw_t 1 (by decide +kernel) rfl, uw_t 1129 (by decide +kernel) rfl⟩, rfl, by decide +kernel, by decide +kernel, by decide +kernel⟩
theorem c_L_affords_r {l : Launch} {E : Ue} (hx : ue_x E = [.inr (3, 1)]) {mem : Um} {x1 : Int32} {m1 : Um} {r : Int32} (h : f_X7_affords mem x1 = some (m1, .inl r)) : ucw l E 8 yL_affords cL_affords 4 (some .int) [(0, 9, 12, 31)] [.ref (ue_d E 0), .int x1, .ref (ue_d E 63)] mem (some (.int 0)) (um_L m1 r.toInt64) := by
  refine ucw_of rfl (Nat.le_of_ble_eq_true rfl) ?_
  refine ug_aload_n 2 dL_affords_0 rfl rfl ?_
  refine ug_iconst dL_affords_1 un_iconst_0 ?_
  refine ug_aload_n 0 dL_affords_2 rfl rfl ?_
  refine ug_iload_n 1 dL_affords_3 rfl rfl ?_
  refine ug_callVi [.int x1] (c_X7_affords_r h) kc_L_105 ro_0 rfl (S := [.int 0, .ref (ue_d E 63)]) rfl (Nat.le_of_ble_eq_true rfl) (Nat.le_of_ble_eq_true rfl) (Nat.le_of_ble_eq_true rfl) dL_affords_4 ?_
  refine ug_i2l dL_affords_7 ?_
  refine ug_last hx dL_affords_8 ?_
  refine ug_goto 15 dL_affords_9 (by decide) ?_
  refine ug_iconst dL_affords_15 un_iconst_0 ?_
  refine ug_widen (Nat.zero_le 1) (Nat.zero_le 6) ?_
  exact ug_iret dL_affords_16
theorem c_L_affords_n {l : Launch} {E : Ue} {mem : Um} {x1 : Int32} {m1 : Um} (h : f_X7_affords mem x1 = some (m1, .inr "java/util/NoSuchElementException")) : ucw l E 8 yL_affords cL_affords 4 (some .int) [(0, 9, 12, 31)] [.ref (ue_d E 0), .int x1, .ref (ue_d E 63)] mem (some (.int 1)) m1 := by
  refine ucw_of rfl (Nat.le_of_ble_eq_true rfl) ?_
  refine ug_aload_n 2 dL_affords_0 rfl rfl ?_
  refine ug_iconst dL_affords_1 un_iconst_0 ?_
  refine ug_aload_n 0 dL_affords_2 rfl rfl ?_
  refine ug_iload_n 1 dL_affords_3 rfl rfl ?_
  refine ug_catch (X := "java/util/NoSuchElementException") (name := "java/util/NoSuchElementException") [.int x1] (c_X7_affords_x h) kc_L_105 ro_0 rfl (S := [.int 0, .ref (ue_d E 63)]) rfl (Nat.le_of_ble_eq_true rfl) (Nat.le_of_ble_eq_true rfl) (Nat.le_of_ble_eq_true rfl) ⟨Nat.le_refl 1, Nat.le_refl 6⟩ dL_affords_4 [] ⟨0, 9, 12, 31⟩ [] rfl (fun z hz => by cases hz) (by decide) (by decide) kq_31 kx_N (fun q => ?_)
  refine ug_astore_n [(3, .ref q), (0, .ref (ue_d E 0)), (1, .int x1), (2, .ref (ue_d E 63))] dL_affords_12 rfl (Nat.le_of_ble_eq_true rfl) rfl ?_
  refine ug_iconst dL_affords_13 un_iconst_1 ?_
  exact ug_iret dL_affords_14
theorem kc_L_108 : uwv RL 108 RX7 yX7_front cX7_front 8 (some .int) 3 := ⟨⟨uw_t 1134 (by decide +kernel) rfl, uw_t 1135 (by decide +kernel) rfl, uw_t 1136 (by decide +kernel) rfl, uw_t 1 (by decide +kernel) rfl, uw_t 1137 (by decide +kernel) rfl⟩, rfl, by decide +kernel, by decide +kernel, by decide +kernel⟩
theorem c_L_front_r {l : Launch} {E : Ue} (hx : ue_x E = [.inr (3, 1)]) {mem : Um} {x1 : Int32} {x2 : Int32} {x3 : Int32} {m1 : Um} {r : Int32} (h : f_X7_front mem x1 x2 x3 = some (m1, .inl r)) : ucw l E 8 yL_front cL_front 6 (some .int) [(0, 12, 15, 13)] [.ref (ue_d E 0), .int x1, .int x2, .int x3, .ref (ue_d E 63)] mem (some (.int 0)) (um_L m1 r.toInt64) := by
  refine ucw_of rfl (Nat.le_of_ble_eq_true rfl) ?_
  refine ug_aload 4 dL_front_0 rfl ?_
  refine ug_iconst dL_front_2 un_iconst_0 ?_
  refine ug_aload_n 0 dL_front_3 rfl rfl ?_
  refine ug_iload_n 1 dL_front_4 rfl rfl ?_
  refine ug_iload_n 2 dL_front_5 rfl rfl ?_
  refine ug_iload_n 3 dL_front_6 rfl rfl ?_
  refine ug_callVi [.int x1, .int x2, .int x3] (c_X7_front_r h) kc_L_108 ro_0 rfl (S := [.int 0, .ref (ue_d E 63)]) rfl (Nat.le_of_ble_eq_true rfl) (Nat.le_of_ble_eq_true rfl) (Nat.le_of_ble_eq_true rfl) dL_front_7 ?_
  refine ug_i2l dL_front_10 ?_
  refine ug_last hx dL_front_11 ?_
  refine ug_goto 19 dL_front_12 (by decide) ?_
  refine ug_iconst dL_front_19 un_iconst_0 ?_
  refine ug_widen (Nat.zero_le 1) (Nat.zero_le 6) ?_
  exact ug_iret dL_front_20
theorem c_L_front_i {l : Launch} {E : Ue} {mem : Um} {x1 : Int32} {x2 : Int32} {x3 : Int32} {m1 : Um} (h : f_X7_front mem x1 x2 x3 = some (m1, .inr "java/lang/IllegalArgumentException")) : ucw l E 8 yL_front cL_front 6 (some .int) [(0, 12, 15, 13)] [.ref (ue_d E 0), .int x1, .int x2, .int x3, .ref (ue_d E 63)] mem (some (.int 1)) m1 := by
  refine ucw_of rfl (Nat.le_of_ble_eq_true rfl) ?_
  refine ug_aload 4 dL_front_0 rfl ?_
  refine ug_iconst dL_front_2 un_iconst_0 ?_
  refine ug_aload_n 0 dL_front_3 rfl rfl ?_
  refine ug_iload_n 1 dL_front_4 rfl rfl ?_
  refine ug_iload_n 2 dL_front_5 rfl rfl ?_
  refine ug_iload_n 3 dL_front_6 rfl rfl ?_
  refine ug_catch (X := "java/lang/IllegalArgumentException") (name := "java/lang/IllegalArgumentException") [.int x1, .int x2, .int x3] (c_X7_front_x h) kc_L_108 ro_0 rfl (S := [.int 0, .ref (ue_d E 63)]) rfl (Nat.le_of_ble_eq_true rfl) (Nat.le_of_ble_eq_true rfl) (Nat.le_of_ble_eq_true rfl) ⟨Nat.le_refl 1, Nat.le_refl 6⟩ dL_front_7 [] ⟨0, 12, 15, 13⟩ [] rfl (fun z hz => by cases hz) (by decide) (by decide) kq_13 kx_I (fun q => ?_)
  refine ug_astore [(5, .ref q), (0, .ref (ue_d E 0)), (1, .int x1), (2, .int x2), (3, .int x3), (4, .ref (ue_d E 63))] dL_front_15 (Nat.le_of_ble_eq_true rfl) rfl ?_
  refine ug_iconst dL_front_17 un_iconst_1 ?_
  exact ug_iret dL_front_18
theorem kc_L_111 : uwv RL 111 RX7 yX7_closest cX7_closest 6 (some .int) 2 := ⟨⟨uw_t 1141 (by decide +kernel) rfl, uw_t 1142 (by decide +kernel) rfl, uw_t 1143 (by decide +kernel) rfl, uw_t 1 (by decide +kernel) rfl, uw_t 1144 (by decide +kernel) rfl⟩, rfl, by decide +kernel, by decide +kernel, by decide +kernel⟩
theorem c_L_closest_r {l : Launch} {E : Ue} (hx : ue_x E = [.inr (3, 1)]) {mem : Um} {x1 : Int32} {x2 : Int32} {m1 : Um} {r : Int32} (h : f_X7_closest mem x1 x2 = some (m1, .inl r)) : ucw l E 8 yL_closest cL_closest 5 (some .int) [(0, 10, 13, 31), (0, 10, 17, 13)] [.ref (ue_d E 0), .int x1, .int x2, .ref (ue_d E 63)] mem (some (.int 0)) (um_L m1 r.toInt64) := by
  refine ucw_of rfl (Nat.le_of_ble_eq_true rfl) ?_
  refine ug_aload_n 3 dL_closest_0 rfl rfl ?_
  refine ug_iconst dL_closest_1 un_iconst_0 ?_
  refine ug_aload_n 0 dL_closest_2 rfl rfl ?_
  refine ug_iload_n 1 dL_closest_3 rfl rfl ?_
  refine ug_iload_n 2 dL_closest_4 rfl rfl ?_
  refine ug_callVi [.int x1, .int x2] (c_X7_closest_r h) kc_L_111 ro_0 rfl (S := [.int 0, .ref (ue_d E 63)]) rfl (Nat.le_of_ble_eq_true rfl) (Nat.le_of_ble_eq_true rfl) (Nat.le_of_ble_eq_true rfl) dL_closest_5 ?_
  refine ug_i2l dL_closest_8 ?_
  refine ug_last hx dL_closest_9 ?_
  refine ug_goto 21 dL_closest_10 (by decide) ?_
  refine ug_iconst dL_closest_21 un_iconst_0 ?_
  refine ug_widen (Nat.zero_le 1) (Nat.zero_le 6) ?_
  exact ug_iret dL_closest_22
theorem c_L_closest_n {l : Launch} {E : Ue} {mem : Um} {x1 : Int32} {x2 : Int32} {m1 : Um} (h : f_X7_closest mem x1 x2 = some (m1, .inr "java/util/NoSuchElementException")) : ucw l E 8 yL_closest cL_closest 5 (some .int) [(0, 10, 13, 31), (0, 10, 17, 13)] [.ref (ue_d E 0), .int x1, .int x2, .ref (ue_d E 63)] mem (some (.int 1)) m1 := by
  refine ucw_of rfl (Nat.le_of_ble_eq_true rfl) ?_
  refine ug_aload_n 3 dL_closest_0 rfl rfl ?_
  refine ug_iconst dL_closest_1 un_iconst_0 ?_
  refine ug_aload_n 0 dL_closest_2 rfl rfl ?_
  refine ug_iload_n 1 dL_closest_3 rfl rfl ?_
  refine ug_iload_n 2 dL_closest_4 rfl rfl ?_
  refine ug_catch (X := "java/util/NoSuchElementException") (name := "java/util/NoSuchElementException") [.int x1, .int x2] (c_X7_closest_x h) kc_L_111 ro_0 rfl (S := [.int 0, .ref (ue_d E 63)]) rfl (Nat.le_of_ble_eq_true rfl) (Nat.le_of_ble_eq_true rfl) (Nat.le_of_ble_eq_true rfl) ⟨Nat.le_refl 1, Nat.le_refl 6⟩ dL_closest_5 [] ⟨0, 10, 13, 31⟩ [⟨0, 10, 17, 13⟩] rfl (fun z hz => by cases hz) (by decide) (by decide) kq_31 kx_N (fun q => ?_)
  refine ug_astore [(4, .ref q), (0, .ref (ue_d E 0)), (1, .int x1), (2, .int x2), (3, .ref (ue_d E 63))] dL_closest_13 (Nat.le_of_ble_eq_true rfl) rfl ?_
  refine ug_iconst dL_closest_15 un_iconst_1 ?_
  exact ug_iret dL_closest_16
theorem c_L_closest_i {l : Launch} {E : Ue} {mem : Um} {x1 : Int32} {x2 : Int32} {m1 : Um} (h : f_X7_closest mem x1 x2 = some (m1, .inr "java/lang/IllegalArgumentException")) : ucw l E 8 yL_closest cL_closest 5 (some .int) [(0, 10, 13, 31), (0, 10, 17, 13)] [.ref (ue_d E 0), .int x1, .int x2, .ref (ue_d E 63)] mem (some (.int 2)) m1 := by
  refine ucw_of rfl (Nat.le_of_ble_eq_true rfl) ?_
  refine ug_aload_n 3 dL_closest_0 rfl rfl ?_
  refine ug_iconst dL_closest_1 un_iconst_0 ?_
  refine ug_aload_n 0 dL_closest_2 rfl rfl ?_
  refine ug_iload_n 1 dL_closest_3 rfl rfl ?_
  refine ug_iload_n 2 dL_closest_4 rfl rfl ?_
  refine ug_catch (X := "java/lang/IllegalArgumentException") (name := "java/lang/IllegalArgumentException") [.int x1, .int x2] (c_X7_closest_x h) kc_L_111 ro_0 rfl (S := [.int 0, .ref (ue_d E 63)]) rfl (Nat.le_of_ble_eq_true rfl) (Nat.le_of_ble_eq_true rfl) (Nat.le_of_ble_eq_true rfl) ⟨Nat.le_refl 1, Nat.le_refl 6⟩ dL_closest_5 [⟨0, 10, 13, 31⟩] ⟨0, 10, 17, 13⟩ [] rfl (fun z hz => by rcases List.mem_singleton.mp hz with rfl; exact ⟨rfl, by decide, kq_31⟩) (by decide) (by decide) kq_13 kx_I (fun q => ?_)
  refine ug_astore [(4, .ref q), (0, .ref (ue_d E 0)), (1, .int x1), (2, .int x2), (3, .ref (ue_d E 63))] dL_closest_17 (Nat.le_of_ble_eq_true rfl) rfl ?_
  refine ug_iconst dL_closest_19 un_iconst_2 ?_
  exact ug_iret dL_closest_20
theorem kc_L_114 : uwv RL 114 RX7 yX7_afternoon cX7_afternoon 5 (some .int) 4 := ⟨⟨uw_t 1149 (by decide +kernel) rfl, uw_t 1150 (by decide +kernel) rfl, uw_t 1151 (by decide +kernel) rfl, uw_t 1 (by decide +kernel) rfl, uw_t 1152 (by decide +kernel) rfl⟩, rfl, by decide +kernel, by decide +kernel, by decide +kernel⟩
theorem c_L_afternoon_r {l : Launch} {E : Ue} (hx : ue_x E = [.inr (3, 1)]) {mem : Um} {x1 : Int32} {x2 : Int32} {x3 : Int32} {x4 : Int32} {m1 : Um} {r : Int32} (h : f_X7_afternoon mem x1 x2 x3 x4 = some (m1, .inl r)) : ucw l E 9 yL_afternoon cL_afternoon 7 (some .int) [(0, 14, 17, 13)] [.ref (ue_d E 0), .int x1, .int x2, .int x3, .int x4, .ref (ue_d E 63)] mem (some (.int 0)) (um_L m1 r.toInt64) := by
  refine ucw_of rfl (Nat.le_of_ble_eq_true rfl) ?_
  refine ug_aload 5 dL_afternoon_0 rfl ?_
  refine ug_iconst dL_afternoon_2 un_iconst_0 ?_
  refine ug_aload_n 0 dL_afternoon_3 rfl rfl ?_
  refine ug_iload_n 1 dL_afternoon_4 rfl rfl ?_
  refine ug_iload_n 2 dL_afternoon_5 rfl rfl ?_
  refine ug_iload_n 3 dL_afternoon_6 rfl rfl ?_
  refine ug_iload 4 dL_afternoon_7 rfl ?_
  refine ug_callVi [.int x1, .int x2, .int x3, .int x4] (c_X7_afternoon_r h) kc_L_114 ro_0 rfl (S := [.int 0, .ref (ue_d E 63)]) rfl (Nat.le_of_ble_eq_true rfl) (Nat.le_of_ble_eq_true rfl) (Nat.le_of_ble_eq_true rfl) dL_afternoon_9 ?_
  refine ug_i2l dL_afternoon_12 ?_
  refine ug_last hx dL_afternoon_13 ?_
  refine ug_goto 21 dL_afternoon_14 (by decide) ?_
  refine ug_iconst dL_afternoon_21 un_iconst_0 ?_
  refine ug_widen (Nat.zero_le 1) (Nat.zero_le 6) ?_
  exact ug_iret dL_afternoon_22
theorem c_L_afternoon_i {l : Launch} {E : Ue} {mem : Um} {x1 : Int32} {x2 : Int32} {x3 : Int32} {x4 : Int32} {m1 : Um} (h : f_X7_afternoon mem x1 x2 x3 x4 = some (m1, .inr "java/lang/IllegalArgumentException")) : ucw l E 9 yL_afternoon cL_afternoon 7 (some .int) [(0, 14, 17, 13)] [.ref (ue_d E 0), .int x1, .int x2, .int x3, .int x4, .ref (ue_d E 63)] mem (some (.int 1)) m1 := by
  refine ucw_of rfl (Nat.le_of_ble_eq_true rfl) ?_
  refine ug_aload 5 dL_afternoon_0 rfl ?_
  refine ug_iconst dL_afternoon_2 un_iconst_0 ?_
  refine ug_aload_n 0 dL_afternoon_3 rfl rfl ?_
  refine ug_iload_n 1 dL_afternoon_4 rfl rfl ?_
  refine ug_iload_n 2 dL_afternoon_5 rfl rfl ?_
  refine ug_iload_n 3 dL_afternoon_6 rfl rfl ?_
  refine ug_iload 4 dL_afternoon_7 rfl ?_
  refine ug_catch (X := "java/lang/IllegalArgumentException") (name := "java/lang/IllegalArgumentException") [.int x1, .int x2, .int x3, .int x4] (c_X7_afternoon_x h) kc_L_114 ro_0 rfl (S := [.int 0, .ref (ue_d E 63)]) rfl (Nat.le_of_ble_eq_true rfl) (Nat.le_of_ble_eq_true rfl) (Nat.le_of_ble_eq_true rfl) ⟨Nat.le_refl 1, Nat.le_refl 6⟩ dL_afternoon_9 [] ⟨0, 14, 17, 13⟩ [] rfl (fun z hz => by cases hz) (by decide) (by decide) kq_13 kx_I (fun q => ?_)
  refine ug_astore [(6, .ref q), (0, .ref (ue_d E 0)), (1, .int x1), (2, .int x2), (3, .int x3), (4, .int x4), (5, .ref (ue_d E 63))] dL_afternoon_17 (Nat.le_of_ble_eq_true rfl) rfl ?_
  refine ug_iconst dL_afternoon_19 un_iconst_1 ?_
  exact ug_iret dL_afternoon_20
theorem kc_L_118 : uwv RL 118 RX7 yX7_span cX7_span 12 (some .int) 6 := ⟨⟨uw_t 1170 (by decide +kernel) rfl, uw_t 1171 (by decide +kernel) rfl, uw_t 1172 (by decide +kernel) rfl, uw_t 1 (by decide +kernel) rfl, uw_t 1173 (by decide +kernel) rfl⟩, rfl, by decide +kernel, by decide +kernel, by decide +kernel⟩
theorem c_L_span_r {l : Launch} {E : Ue} (hx : ue_x E = [.inr (3, 1)]) {mem : Um} {x1 : Int32} {x2 : Int32} {x3 : Int32} {x4 : Int32} {x5 : Int32} {x6 : Int32} {m1 : Um} {r : Int32} (h : f_X7_span mem x1 x2 x3 x4 x5 x6 = some (m1, .inl r)) : ucw l E 9 yL_span cL_span 9 (some .int) [(0, 18, 21, 13)] [.ref (ue_d E 0), .int x1, .int x2, .int x3, .int x4, .int x5, .int x6, .ref (ue_d E 63)] mem (some (.int 0)) (um_L m1 r.toInt64) := by
  refine ucw_of rfl (Nat.le_of_ble_eq_true rfl) ?_
  refine ug_aload 7 dL_span_0 rfl ?_
  refine ug_iconst dL_span_2 un_iconst_0 ?_
  refine ug_aload_n 0 dL_span_3 rfl rfl ?_
  refine ug_iload_n 1 dL_span_4 rfl rfl ?_
  refine ug_iload_n 2 dL_span_5 rfl rfl ?_
  refine ug_iload_n 3 dL_span_6 rfl rfl ?_
  refine ug_iload 4 dL_span_7 rfl ?_
  refine ug_iload 5 dL_span_9 rfl ?_
  refine ug_iload 6 dL_span_11 rfl ?_
  refine ug_callVi [.int x1, .int x2, .int x3, .int x4, .int x5, .int x6] (c_X7_span_r h) kc_L_118 ro_0 rfl (S := [.int 0, .ref (ue_d E 63)]) rfl (Nat.le_of_ble_eq_true rfl) (Nat.le_of_ble_eq_true rfl) (Nat.le_of_ble_eq_true rfl) dL_span_13 ?_
  refine ug_i2l dL_span_16 ?_
  refine ug_last hx dL_span_17 ?_
  refine ug_goto 25 dL_span_18 (by decide) ?_
  refine ug_iconst dL_span_25 un_iconst_0 ?_
  refine ug_widen (Nat.zero_le 1) (Nat.zero_le 6) ?_
  exact ug_iret dL_span_26
theorem c_L_span_i {l : Launch} {E : Ue} {mem : Um} {x1 : Int32} {x2 : Int32} {x3 : Int32} {x4 : Int32} {x5 : Int32} {x6 : Int32} {m1 : Um} (h : f_X7_span mem x1 x2 x3 x4 x5 x6 = some (m1, .inr "java/lang/IllegalArgumentException")) : ucw l E 9 yL_span cL_span 9 (some .int) [(0, 18, 21, 13)] [.ref (ue_d E 0), .int x1, .int x2, .int x3, .int x4, .int x5, .int x6, .ref (ue_d E 63)] mem (some (.int 1)) m1 := by
  refine ucw_of rfl (Nat.le_of_ble_eq_true rfl) ?_
  refine ug_aload 7 dL_span_0 rfl ?_
  refine ug_iconst dL_span_2 un_iconst_0 ?_
  refine ug_aload_n 0 dL_span_3 rfl rfl ?_
  refine ug_iload_n 1 dL_span_4 rfl rfl ?_
  refine ug_iload_n 2 dL_span_5 rfl rfl ?_
  refine ug_iload_n 3 dL_span_6 rfl rfl ?_
  refine ug_iload 4 dL_span_7 rfl ?_
  refine ug_iload 5 dL_span_9 rfl ?_
  refine ug_iload 6 dL_span_11 rfl ?_
  refine ug_catch (X := "java/lang/IllegalArgumentException") (name := "java/lang/IllegalArgumentException") [.int x1, .int x2, .int x3, .int x4, .int x5, .int x6] (c_X7_span_x h) kc_L_118 ro_0 rfl (S := [.int 0, .ref (ue_d E 63)]) rfl (Nat.le_of_ble_eq_true rfl) (Nat.le_of_ble_eq_true rfl) (Nat.le_of_ble_eq_true rfl) ⟨Nat.le_refl 1, Nat.le_refl 6⟩ dL_span_13 [] ⟨0, 18, 21, 13⟩ [] rfl (fun z hz => by cases hz) (by decide) (by decide) kq_13 kx_I (fun q => ?_)
  refine ug_astore [(8, .ref q), (0, .ref (ue_d E 0)), (1, .int x1), (2, .int x2), (3, .int x3), (4, .int x4), (5, .int x5), (6, .int x6), (7, .ref (ue_d E 63))] dL_span_21 (Nat.le_of_ble_eq_true rfl) rfl ?_
  refine ug_iconst dL_span_23 un_iconst_1 ?_
  exact ug_iret dL_span_24
