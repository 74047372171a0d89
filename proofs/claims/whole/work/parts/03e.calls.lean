/-! CALLS -/
def uwv (own : String) (i : Nat) (C : String) (y : MethodName) (cc : ByteArray) (nL : Nat) (rt : Option FieldType) (n : Nat) : Prop := (Cond.methodLink own i y ∈ uw ∧ Cond.instanceMethod y ∈ uw ∧ Cond.selects C y y ∈ uw ∧ Cond.initialized C ∈ uw ∧ Cond.code y cc nL rt ∈ uw) ∧ y.cls = C ∧ y.cls ≠ "java/lang/invoke/MethodHandle" ∧ y.cls ≠ "java/lang/invoke/VarHandle" ∧ (parseMethodDescriptor y.desc).map (fun d => d.parameters.length) = some n
def uws (own : String) (i : Nat) (y : MethodName) (cc : ByteArray) (nL : Nat) (rt : Option FieldType) (n : Nat) : Prop := (Cond.methodLink own i y ∈ uw ∧ Cond.static y ∈ uw ∧ Cond.initialized y.cls ∈ uw ∧ Cond.code y cc nL rt ∈ uw) ∧ y.cls ≠ "java/lang/invoke/MethodHandle" ∧ y.cls ≠ "java/lang/invoke/VarHandle" ∧ (parseMethodDescriptor y.desc).map (fun d => d.parameters.length) = some n
theorem uwv_good {own : String} {i : Nat} {C : String} {y : MethodName} {cc : ByteArray} {nL : Nat} {rt : Option FieldType} {n : Nat} (h : uwv own i C y cc nL rt n) : GoodIn uw (wsV own i C y (.code y cc nL rt :: uw)) := by
  obtain ⟨⟨h1, h2, h3, h4, h5⟩, -⟩ := h
  intro w hw
  unfold wsV at hw
  rcases List.mem_append.mp hw with q | q
  · simp only [List.mem_cons, List.mem_nil_iff, or_false] at q
    rcases q with rfl | rfl | rfl | rfl
    · exact uw_in _ h1
    · exact uw_in _ h2
    · exact uw_in _ h3
    · exact uw_in _ h4
  · exact uw_inc h5 w q
theorem uws_good {own : String} {i : Nat} {y : MethodName} {cc : ByteArray} {nL : Nat} {rt : Option FieldType} {n : Nat} (h : uws own i y cc nL rt n) : GoodIn uw (va_wsS own i y (.code y cc nL rt :: uw)) := by
  obtain ⟨⟨h1, h2, h3, h4⟩, -⟩ := h
  intro w hw
  unfold va_wsS at hw
  rcases List.mem_append.mp hw with q | q
  · simp only [List.mem_cons, List.mem_nil_iff, or_false] at q
    rcases q with rfl | rfl | rfl
    · exact uw_in _ h1
    · exact uw_in _ h2
    · exact uw_in _ h3
  · exact uw_inc h4 w q
section UCL
variable {p : Program} {l : Launch} {e : Env} {R : Room} {s : State} {m : MethodId} {args : Array Value} {below : List Frame} {meth : Method} {c : Code} {H : Heap} {locs : List Loc} {ce sl mc1 ms1 pc : Nat} {Q : State → Prop} {E : Ue} {ls : Array Slot} {st0 rest : List Value} {v : Option Value} {m1 : Um} {a : Array Value} {X : String}
theorem uq_keep {st₀ t T' : State} {Lc : List Loc} (h0 : st₀.heap = H) (e1 : T'.heap = t.heap) (hS : va_S (ue_A E) s.heap H locs) (hL : ∀ q ∈ Lc, ue_A E q.base) (hF : va_F (ue_A E) st₀ t) : va_S (ue_A E) s.heap T'.heap (locs ++ Lc) := by
  obtain ⟨hz, hk⟩ := hF
  rw [h0] at hz hk
  refine ⟨Nat.le_trans hS.1 (by rw [e1]; exact hz), fun q h1 h2 => ?_, fun q hq => ?_⟩
  · rw [e1, hk q (Nat.lt_of_lt_of_le h1 hS.1) h2]
    exact hS.2.1 q h1 h2
  · rcases List.mem_append.mp hq with h | h
    · exact hS.2.2 q h
    · exact hL q h
theorem uq_go (hr : va_Run p l e R s m args below meth c H locs ce sl mc1 ms1 (F0 m pc ls st0) rest (uq E v m1 a) (ue_A E)) (hS : va_S (ue_A E) s.heap H locs)
    (kk : ∀ (H1 : Heap) (locs1 : List Loc), va_P (ue_D E) vwCl (ul E m1) H1 → va_S (ue_A E) s.heap H1 locs1 → W p l e R s m args below meth c H1 locs1 (ce + mc1) (sl + ms1) Q (F0 m (pc + 3) ls (v.toList ++ rest))) : W p l e R s m args below meth c H locs ce sl Q (F0 m pc ls st0) := by
  intro T hT X
  obtain ⟨v', st₀, t, T', Lc, h0, X', hL, e1, e2, ⟨hv, hP1, hF⟩, st⟩ := hr T hT X
  cases hv
  obtain ⟨t2, a1, b1⟩ := kk T'.heap (locs ++ Lc) (by rw [e1]; exact hP1) (uq_keep h0 e1 hS hL hF) T' rfl X'
  exact ⟨t2, st t2 a1, b1⟩
theorem ux_go {k mc ms : Nat} (hr : vx_Run p l e R s m args below meth c H locs ce sl mc1 ms1 (F0 m pc ls st0) rest (fun _ _ _ => False) (ux E X m1) (ue_A E)) (hS : va_S (ue_A E) s.heap H locs) (hx : c.exceptionTable.toList = []) (hlk : meth.locks = false) (h1 : ce + mc1 ≤ mc) (h2 : sl + ms1 ≤ ms) :
    W p l e R s m args below meth c H locs ce sl (vx_MQ below (fun _ _ _ _ => False) (ux E X m1) args s mc ms (ue_A E)) (F0 m pc ls st0) := by
  intro T hT X0
  rcases hr T hT X0 with ⟨v', st₀, t, T', Lc, h0, X', hL, e1, e2, hF, st⟩ | ⟨q, st₀, t, T', Lc, X2, cel, h0, X', hL, e1, e2, ⟨rfl, hP1, hF⟩, hce, hcv, hcl, st⟩
  · exact hF.elim
  · have hS1 := uq_keep h0 e1 hS hL hF
    obtain ⟨t2, a1, b1⟩ := vx_out (p := p) (l := l) (e := e) (R := R) (s := s) (m := m) (args := args) (below := below) (meth := meth) (c := c) (H := T'.heap) (locs := locs ++ Lc) (cells := ce + mc1) (slots := sl + ms1) (pc := pc) (ls := ls) (rest := rest) (Qc := fun _ _ _ _ => False) (XC := ux E X2 m1) (free := ue_A E) (mc := mc) (ms := ms) (by rw [hx]; intro x h; cases h) hlk (by rw [e1]; exact hce) hcv hcl
      (fun t9 h9 _ => ⟨rfl, by rw [h9, e1]; exact hP1, hS1.F h9⟩) hS1.2.2 h1 h2 T' rfl X'
    exact ⟨t2, st.trans a1, b1⟩
end UCL
section UGC
variable {l : Launch} {E : Ue} {k mc ms : Nat} {cc : ByteArray} {nL : Nat} {own : String} {rt : Option FieldType} {xt : List ExceptionTableEntry} {z : Uz} {ce sl pc : Nat} {L : List (Nat × Value)} {S S0 : List Value} {mem : Um}
variable {k1 mc1 ms1 : Nat} {y : MethodName} {cc1 : ByteArray} {nL1 : Nat} {rt1 : Option FieldType} {m1 : Um} {v : Option Value} {n i o : Nat} {C0 host : String}
theorem ur_room (hk : k1 + 1 ≤ k) (hn : nL1 ≤ 21) : (ur k1 mc1 ms1).frames + 1 ≤ (ur k mc ms).frames ∧ 8 + (nL1 + 11) + (ur k1 mc1 ms1).locals ≤ (ur k mc ms).locals := by
  refine ⟨hk, ?_⟩
  show 8 + (nL1 + 11) + (41 * k1 + 32) ≤ 41 * k + 32
  omega
theorem up_pre {p : Program} {s : State} {m : MethodId} {args : Array Value} {meth : Method} {c : Code} {H : Heap} {locs : List Loc} (C : uC p l E cc nL own rt xt s m args meth c) (hP : va_P (ue_D E) vwCl (ul E mem) H) (hS : va_S (ue_A E) s.heap H locs) (as : List Value) : ∀ U : State, U.heap = H → s.WarmedH U.vm → va_Pc as (up E mem) as.toArray U := fun U hU hW =>
  ⟨rfl, by rw [hU]; exact hP, va_K.moved hW.alike C.2.2.2.2.2.2.2.2.1, uo_go C.2.2.2.2.2.2.2.2.2.1 hW (fun q h1 h2 => by rw [hU]; exact hS.2.1 q h1 h2)⟩
/-- a method of an object: it returns -/
theorem ug_callV (As : List Value) (hM : ucr l E k1 mc1 ms1 y cc1 nL1 rt1 (.ref (ue_d E o) :: As) mem v m1) (hw : uwv own i C0 y cc1 nL1 rt1 n) (ho : uro o C0) (hn : As.length = n) (hst : S0 = As.reverse ++ .ref (ue_d E o) :: S) (hr : (S.map fun v => v.category).sum ≤ 8) (hk : k1 + 1 ≤ k) (hl1 : nL1 ≤ 21) (hc : ce + mc1 ≤ mc ∧ sl + ms1 ≤ ms) (hd : decode cc pc = .ok (.invokevirtual i, 3))
    (h : ug l E k mc ms cc nL own rt xt z (ce + mc1) (sl + ms1) (pc + 3) L (v.toList ++ S) m1) : ug l E k mc ms cc nL own rt xt z ce sl pc L S0 mem := by
  intro p e s m args below meth c C H locs ls hP hS hl
  subst hst
  obtain ⟨ci, rs, T0, N, ho, hci⟩ := ho
  refine uq_go (va_runV (As := As) (rest := S) (Ts := uw) ⟨C.1, C.2.1, C.2.2.1, C.2.2.2.1, C.2.2.2.2.1⟩ (hM C.2.2.2.2.2.2.2.2.2.2) (cwV (C := C0) n C.2.2.2.2.1 (uwv_good hw) rfl rfl rfl hw.2 (ur_room hk hl1)) ⟨up_blind E mem _, ?_, up_pre C hP hS _⟩ rfl hn hl.1 rfl (lv_room hr) hd hc) hS (fun H1 locs1 hP1 hS1 => h p e s m args below meth c C H1 locs1 ls hP1 hS1 hl)
  exact va_recv C.2.2.2.2.2.2.2.2.1 hP hci (ul_get E mem ho)
/-- a method of an object: it throws -/
theorem ug_callVx {X : String} (As : List Value) (hM : ucx l E k1 mc1 ms1 y cc1 nL1 rt1 (.ref (ue_d E o) :: As) mem X m1) (hw : uwv own i C0 y cc1 nL1 rt1 n) (ho : uro o C0) (hn : As.length = n) (hst : S0 = As.reverse ++ .ref (ue_d E o) :: S) (hr : (S.map fun v => v.category).sum ≤ 8) (hk : k1 + 1 ≤ k) (hl1 : nL1 ≤ 21) (hc : ce + mc1 ≤ mc ∧ sl + ms1 ≤ ms) (hd : decode cc pc = .ok (.invokevirtual i, 3)) :
    ug l E k mc ms cc nL own rt [] (.inr (X, m1)) ce sl pc L S0 mem := by
  intro p e s m args below meth c C H locs ls hP hS hl
  subst hst
  obtain ⟨ci, rs, T0, N, ho, hci⟩ := ho
  refine ux_go (k := k) (vx_runV (As := As) (rest := S) (Ts := uw) (Qc := fun _ _ _ _ => False) ⟨C.1, C.2.1, C.2.2.1, C.2.2.2.1, C.2.2.2.2.1⟩ (hM C.2.2.2.2.2.2.2.2.2.2) (cwV (C := C0) n C.2.2.2.2.1 (uwv_good hw) rfl rfl rfl hw.2 (ur_room hk hl1)) ⟨up_blind E mem _, ?_, up_pre C hP hS _⟩ rfl hn hl.1 rfl (lv_room hr) hd hc) hS C.2.2.2.2.2.2.2.1 C.2.2.2.2.2.2.1 hc.1 hc.2
  exact va_recv C.2.2.2.2.2.2.2.2.1 hP hci (ul_get E mem ho)
/-- a static method: it returns -/
theorem ug_callS (As : List Value) (hM : ucr l E k1 mc1 ms1 y cc1 nL1 rt1 As mem v m1) (hw : uws own i y cc1 nL1 rt1 n) (hn : As.length = n) (hst : S0 = As.reverse ++ S) (hr : (S.map fun v => v.category).sum ≤ 8) (hk : k1 + 1 ≤ k) (hl1 : nL1 ≤ 21) (hc : ce + mc1 ≤ mc ∧ sl + ms1 ≤ ms) (hd : decode cc pc = .ok (.invokestatic i, 3))
    (h : ug l E k mc ms cc nL own rt xt z (ce + mc1) (sl + ms1) (pc + 3) L (v.toList ++ S) m1) : ug l E k mc ms cc nL own rt xt z ce sl pc L S0 mem := by
  intro p e s m args below meth c C H locs ls hP hS hl
  subst hst
  exact uq_go (va_runS (As := As) (rest := S) (Ts := uw) ⟨C.1, C.2.1, C.2.2.1, C.2.2.2.1, C.2.2.2.2.1⟩ (hM C.2.2.2.2.2.2.2.2.2.2) (va_cwS n C.2.2.2.2.1 (uws_good hw) rfl rfl rfl hw.2 (ur_room hk hl1)) ⟨up_blind E mem _, up_pre C hP hS _⟩ rfl hn hl.1 rfl (lv_room hr) hd hc) hS (fun H1 locs1 hP1 hS1 => h p e s m args below meth c C H1 locs1 ls hP1 hS1 hl)
/-- a private method of a nest mate: it returns -/
theorem ug_callN (q : Nat) (hq : us_nest[q]? = some (own, i, y, host)) (As : List Value) (hM : ucr l E k1 mc1 ms1 y cc1 nL1 rt1 (.ref (ue_d E o) :: As) mem v m1) (hw : (Cond.instanceMethod y ∈ uw ∧ Cond.selects C0 y y ∈ uw ∧ Cond.initialized y.cls ∈ uw ∧ Cond.code y cc1 nL1 rt1 ∈ uw) ∧ y.cls ≠ "java/lang/invoke/MethodHandle" ∧ y.cls ≠ "java/lang/invoke/VarHandle" ∧ (parseMethodDescriptor y.desc).map (fun d => d.parameters.length) = some n) (ho : uro o C0) (hn : As.length = n) (hst : S0 = As.reverse ++ .ref (ue_d E o) :: S) (hr : (S.map fun v => v.category).sum ≤ 8) (hk : k1 + 1 ≤ k) (hl1 : nL1 ≤ 21) (hc : ce + mc1 ≤ mc ∧ sl + ms1 ≤ ms) (hd : decode cc pc = .ok (.invokevirtual i, 3))
    (h : ug l E k mc ms cc nL own rt xt z (ce + mc1) (sl + ms1) (pc + 3) L (v.toList ++ S) m1) : ug l E k mc ms cc nL own rt xt z ce sl pc L S0 mem := by
  intro p e s m args below meth c C H locs ls hP hS hl
  subst hst
  obtain ⟨ci, rs, T0, N, ho, hci⟩ := ho
  have hnw := C.2.2.2.2.2.2.2.2.2.1.2.2.2.2.1 _ (List.mem_of_getElem? hq)
  refine uq_go (va_runVN (As := As) (rest := S) (Ts := uw) (C := C0) (host := host) ⟨C.1, C.2.1, C.2.2.1, C.2.2.2.1, C.2.2.2.2.1⟩ (hM C.2.2.2.2.2.2.2.2.2.2) ⟨va_cnB n C.2.2.2.2.1 (uw_inc hw.1.2.2.2) rfl rfl rfl hnw (C.2.2.2.2.1 _ hw.1.2.2.1) hw.2 (ur_room hk hl1), C.2.2.2.2.1 _ hw.1.1, C.2.2.2.2.1 _ hw.1.2.1⟩ ⟨up_blind E mem _, ?_, up_pre C hP hS _⟩ rfl hn hl.1 rfl (lv_room hr) hd hc) hS (fun H1 locs1 hP1 hS1 => h p e s m args below meth c C H1 locs1 ls hP1 hS1 hl)
  exact va_recv C.2.2.2.2.2.2.2.2.1 hP hci (ul_get E mem ho)
/-! A CONTRACT OUT OF A WALK FROM THE ENTRY -/
theorem ucr_of {as : List Value} (hy : plainName y.cls = true) (hlen : (lg_sl as).length ≤ nL) (h : ug l E k mc ms cc nL y.cls rt [] (.inl (v, m1)) 0 0 0 (lv_args 0 as) [] mem) : ucr l E k mc ms y cc nL rt as mem v m1 := by
  intro hst
  refine Met.ofW (cc := cc) (maxL := nL) (ret := rt) hy rfl ?_
  intro p e s m args below meth c s₁ B hml hv
  obtain ⟨rfl, hP, hK, hO⟩ := hv
  have hts := atoms_spec (ws := .code y cc nL rt :: uw) B.pre
  have hown : s.vm.findClass y.cls = some m.cls := findClass_of_methodNamed B.named
  have hxt : c.exceptionTable.toList = [] := by
    obtain ⟨meth9, c9, h1, h2, -, -, -, -, h7, -⟩ := Cond.code_spec B.named (hts _ List.mem_cons_self)
    cases Option.some.inj (h1.symm.trans B.method)
    cases Option.some.inj (h2.symm.trans (Stand.of_body B).code)
    rw [Array.isEmpty_iff.mp h7]
  have hl := lv_entry as (n := nL) hlen
  rw [lg_entry_eq]
  exact h p e s m _ below meth c ⟨B.exec, B.bytes, hml, hown, fun w hw => hts w (List.mem_cons_of_mem _ hw), B.returns, B.notSynchronized, hxt, hK, hO, hst⟩ s.heap [] _ hP va_S.rf hl
theorem ucx_of {as : List Value} {X : String} (hy : plainName y.cls = true) (hlen : (lg_sl as).length ≤ nL) (h : ug l E k mc ms cc nL y.cls rt [] (.inr (X, m1)) 0 0 0 (lv_args 0 as) [] mem) : ucx l E k mc ms y cc nL rt as mem X m1 := by
  intro hst
  refine vx_ofW (cc := cc) (maxL := nL) (ret := rt) hy rfl ?_
  intro p e s m args below meth c s₁ B hml hx hv
  obtain ⟨rfl, hP, hK, hO⟩ := hv
  have hts := atoms_spec (ws := .code y cc nL rt :: uw) B.pre
  have hown : s.vm.findClass y.cls = some m.cls := findClass_of_methodNamed B.named
  have hxt : c.exceptionTable.toList = [] := List.eq_nil_iff_forall_not_mem.mpr hx
  have hl := lv_entry as (n := nL) hlen
  rw [lg_entry_eq]
  exact h p e s m _ below meth c ⟨B.exec, B.bytes, hml, hown, fun w hw => hts w (List.mem_cons_of_mem _ hw), B.returns, B.notSynchronized, hxt, hK, hO, hst⟩ s.heap [] _ hP va_S.rf hl
end UGC
