/-! CONSTRUCTORS: walks over worlds that grow -/
/-- where final fields are put: the constructors -/
def un_fin (own : String) (cc : ByteArray) : Prop := own ≠ RJ7 ∧ (own = RX2 → cc = cX2_init)
def unC (p : Program) (l : Launch) (E : Ue) (cc : ByteArray) (nL : Nat) (own : String) (rt : Option FieldType) (s : State) (m : MethodId) (args : Array Value) (meth : Method) (c : Code) : Prop :=
  p.tables.exec = Jvm.exec ∧ c.code = cc ∧ c.maxLocals = nL ∧ s.vm.findClass own = some m.cls ∧ (∀ w ∈ uw, w.before args s = true) ∧ meth.sig.returnType = rt ∧ meth.locks = false ∧ (un_fin own cc → rt = none → meth.name = "<init>") ∧ va_K (ue_D E) vwCl (ue_ty E) s ∧ uo E s ∧ l.stackTraces = false ∧ ue_b E ≤ s.heap.size ∧ va_AO RX3 s ∧ (rt ≠ none → c.exceptionTable.toList = [] ∧ ue_b E = s.heap.size)
abbrev Uf : Type := List Frame → Array Value → State → State → Prop
def un (l : Launch) (E : Ue) (k mc ms : Nat) (cc : ByteArray) (nL : Nat) (own : String) (rt : Option FieldType) (Qf : Uf) (ce sl pc : Nat) (L : List (Nat × Value)) (S : List Value) (ws : va_W) : Prop :=
  ∀ (p : Program) (e : Env) (s : State) (m : MethodId) (args : Array Value) (below : List Frame) (meth : Method) (c : Code), unC p l E cc nL own rt s m args meth c →
    ∀ (H : Heap) (locs : List Loc) (ls : Array Slot), va_P (ue_D E) vwCl ws H → va_D (ue_A E) ws → va_S (ue_A E) s.heap H locs → lv_has ls nL L →
      W p l e (ur k mc ms) s m args below meth c H locs ce sl (Qf below args s) (F0 m pc ls S)
/-- a constructor's end: the world is one of PQ -/
def unq (E : Ue) (PQ : va_W → Prop) : Array Value → State → Outcome → State → Prop := fun _ st oc t => oc = .returned none ∧ (∃ w, PQ w ∧ va_P (ue_D E) vwCl w t.heap ∧ va_D (ue_A E) w) ∧ va_F (ue_A E) st t
def unQ (E : Ue) (PQ : va_W → Prop) (mc ms : Nat) : Uf := fun below args s => MQ below (unq E PQ) args s mc ms (ue_A E)
def unp (E : Ue) (ws : va_W) (U : State) : Prop := va_P (ue_D E) vwCl ws U.heap ∧ va_D (ue_A E) ws ∧ va_K (ue_D E) vwCl (ue_ty E) U ∧ uo E U ∧ ue_b E ≤ U.heap.size ∧ va_AO RX3 U
def unc (l : Launch) (E : Ue) (k mc ms : Nat) (y : MethodName) (cc : ByteArray) (nL : Nat) (as : List Value) (ws : va_W) (PQ : va_W → Prop) : Prop :=
  l.stackTraces = false → Met l y (.code y cc nL none :: uw) (ur k mc ms) (va_Pc as (unp E ws)) (unq E PQ) mc ms (ue_A E)
theorem unp_blind (E : Ue) (ws : va_W) (as : List Value) : FrameBlind (va_Pc as (unp E ws)) := fun a U g mk q => ⟨q.1, q.2.1, q.2.2.1, va_K.moved (u := U) (U := U.calling g mk a) (Vm.Alike.refl U.vm) q.2.2.2.1, uo_same (u := U) (U := U.calling g mk a) q.2.2.2.2.1 rfl rfl, q.2.2.2.2.2.1, va_AO.moved (u := U) (U := U.calling g mk a) (Vm.Alike.refl U.vm) q.2.2.2.2.2.2⟩
section UNR
variable {l : Launch} {E : Ue} {k mc ms : Nat} {cc : ByteArray} {nL : Nat} {own : String} {rt : Option FieldType} {Qf : Uf} {ce sl pc : Nat} {L : List (Nat × Value)} {S S0 : List Value} {ws : va_W}
theorem un_iconst {n : Int} {v : Int32} (hd : decode cc pc = .ok (.iconst n, 1)) (hv : Int32.ofInt n = v) (h : un l E k mc ms cc nL own rt Qf ce sl (pc + 1) L (.int v :: S) ws) : un l E k mc ms cc nL own rt Qf ce sl pc L S ws :=
  fun p e s m args below meth c C H locs ls hP hD hS hl => lv_iconst C.1 C.2.1 hd hv (h p e s m args below meth c C H locs ls hP hD hS hl)
theorem un_bipush {n : Int} {v : Int32} (hd : decode cc pc = .ok (.bipush n, 2)) (hv : (Int8.ofInt n).toInt32 = v) (h : un l E k mc ms cc nL own rt Qf ce sl (pc + 2) L (.int v :: S) ws) : un l E k mc ms cc nL own rt Qf ce sl pc L S ws :=
  fun p e s m args below meth c C H locs ls hP hD hS hl => lv_bipush C.1 C.2.1 hd hv (h p e s m args below meth c C H locs ls hP hD hS hl)
theorem un_sipush {n : Int} {v : Int32} (hd : decode cc pc = .ok (.sipush n, 3)) (hv : (Int16.ofInt n).toInt32 = v) (h : un l E k mc ms cc nL own rt Qf ce sl (pc + 3) L (.int v :: S) ws) : un l E k mc ms cc nL own rt Qf ce sl pc L S ws :=
  fun p e s m args below meth c C H locs ls hP hD hS hl => lv_sipush C.1 C.2.1 hd hv (h p e s m args below meth c C H locs ls hP hD hS hl)
theorem un_aload_n {kf : Fin 4} {i a : Nat} (j : Nat) (hd : decode cc pc = .ok (.aload_n kf, 1)) (hi : (kf : Nat) = i) (hj : L[j]? = some (i, .ref a)) (h : un l E k mc ms cc nL own rt Qf ce sl (pc + 1) L (.ref a :: S) ws) : un l E k mc ms cc nL own rt Qf ce sl pc L S ws :=
  fun p e s m args below meth c C H locs ls hP hD hS hl => lv_aload_n C.1 C.2.1 hd hi (lv_at hl j hj) (h p e s m args below meth c C H locs ls hP hD hS hl)
theorem un_astore_n {kf : Fin 4} {i x : Nat} (L' : List (Nat × Value)) (hd : decode cc pc = .ok (.astore_n kf, 1)) (hi : (kf : Nat) = i) (hn : i < nL) (hl' : (i, Value.ref x) :: L.filter (fun q => !(q.1 == i) && !(q.1 + 1 == i && q.2.category == 2)) = L') (h : un l E k mc ms cc nL own rt Qf ce sl (pc + 1) L' S ws) : un l E k mc ms cc nL own rt Qf ce sl pc L (.ref x :: S) ws :=
  fun p e s m args below meth c C H locs ls hP hD hS hl => lv_astore_n C.1 C.2.1 hd hi hl hn hl' (fun ls hl => h p e s m args below meth c C H locs ls hP hD hS hl)
theorem un_istore {i : Nat} {x : Int32} (L' : List (Nat × Value)) (hd : decode cc pc = .ok (.istore i, 2)) (hn : i < nL) (hl' : (i, Value.int x) :: L.filter (fun q => !(q.1 == i) && !(q.1 + 1 == i && q.2.category == 2)) = L') (h : un l E k mc ms cc nL own rt Qf ce sl (pc + 2) L' S ws) : un l E k mc ms cc nL own rt Qf ce sl pc L (.int x :: S) ws :=
  fun p e s m args below meth c C H locs ls hP hD hS hl => lv_istore C.1 C.2.1 hd hl hn hl' (fun ls hl => h p e s m args below meth c C H locs ls hP hD hS hl)
theorem un_dup {v : Value} (hd : decode cc pc = .ok (.dup, 1)) (hc : v.category = 1) (h : un l E k mc ms cc nL own rt Qf ce sl (pc + 1) L (v :: v :: S) ws) : un l E k mc ms cc nL own rt Qf ce sl pc L (v :: S) ws :=
  fun p e s m args below meth c C H locs ls hP hD hS hl => lv_dup C.1 C.2.1 hd hc (h p e s m args below meth c C H locs ls hP hD hS hl)
theorem un_obj {i a : Nat} (hw : Cond.methodLink own i Lib.objectInit ∈ uw ∧ Cond.instanceMethod Lib.objectInit ∈ uw ∧ Cond.code Lib.objectInit ⟨#[0xb1]⟩ 1 none ∈ uw) (hk : 1 ≤ k) (hr : (S.map fun v => v.category).sum ≤ 8) (hd : decode cc pc = .ok (.invokespecial i, 3)) (h : un l E k mc ms cc nL own rt Qf ce sl (pc + 3) L S ws) : un l E k mc ms cc nL own rt Qf ce sl pc L (.ref a :: S) ws := by
  intro p e s m args below meth c C H locs ls hP hD hS hl
  refine W.objInit C.1 C.2.1 C.2.2.2.1 (C.2.2.2.2.1 _ hw.1) (C.2.2.2.2.1 _ hw.2.1) (C.2.2.2.2.1 _ hw.2.2) rfl (by rw [C.2.2.1]; exact hl.1) rfl hd hk ?_ ?_
  · show 2 * 0 + (S.map fun v => v.category).sum + 12 ≤ 41 * k + 32
    omega
  · exact h p e s m args below meth c C H locs ls hP hD hS hl
theorem un_A {s : State} (h : ue_b E ≤ s.heap.size) : ∀ q, s.heap.size ≤ q → ue_A E q := fun _ hq => Nat.le_trans h hq
theorem un_new {i ci N : Nat} {C0 : String} {T : u_T} {ty : Nat → FieldType} {fs : List Value} (hk : uk ci C0 T ty N) (hw : Cond.classLink own i C0 ∈ uw ∧ Cond.instantiable C0 N ∈ uw ∧ Cond.initialized C0 ∈ uw) (hfs : ∀ j, j < N → defaultValue (ty j) = vp_V fs j) (hc : ce + 1 ≤ mc) (hs : sl + N ≤ ms) (hd : decode cc pc = .ok (.new i, 3)) (h : ∀ q : Nat, un l E k mc ms cc nL own rt Qf (ce + 1) (sl + N) (pc + 3) L (.ref q :: S) (ws ++ [(q, .inr (ci, fs))])) : un l E k mc ms cc nL own rt Qf ce sl pc L S ws := by
  intro p e s m args below meth c C H locs ls hP hD hS hl
  exact va_new C.1 C.2.1 C.2.2.2.2.1 hk.2.1 ty hk.2.2.1 C.2.2.2.1 (C.2.2.2.2.1 _ hw.1) (C.2.2.2.2.1 _ hw.2.1) (C.2.2.2.2.1 _ hw.2.2) C.2.2.2.2.2.2.2.2.1 hP hD hS (un_A C.2.2.2.2.2.2.2.2.2.2.2.1) hk.1 hfs hc hs hd (fun q H1 hP1 hD1 hS1 => h q p e s m args below meth c C H1 locs ls hP1 hD1 hS1 hl)
theorem un_newI {n : Int32} {N : Nat} (hw : Cond.arrayClass .int ∈ uw) (hn : ¬ n < 0) (hN : n.toNatClampNeg = N) (hb : N * componentBytes .int ≤ 536870912) (hc : ce + 1 ≤ mc) (hs : sl + N ≤ ms) (hd : decode cc pc = .ok (.newarray .int, 2)) (h : ∀ q : Nat, un l E k mc ms cc nL own rt Qf (ce + 1) (sl + N) (pc + 2) L (.ref q :: S) (ws ++ [(q, .inl (ue_cI E, N, .inl (fun _ => 0)))])) : un l E k mc ms cc nL own rt Qf ce sl pc L (.int n :: S) ws := by
  intro p e s m args below meth c C H locs ls hP hD hS hl
  refine va_newa (atype := .int) (ty := .int) (a0 := (N, .inl (fun _ => 0))) C.1 C.2.1 (C.2.2.2.2.1 _ hw) rfl C.2.2.2.2.2.2.2.2.1 hP hD hS (un_A C.2.2.2.2.2.2.2.2.2.2.2.1) (fun _ => rfl) hn hN hb hc hs hd (fun q cA H1 hK1 hP1 hD1 hS1 => ?_)
  have e1 : cA = ue_cI E := Option.some.inj ((hK1.2 4 (cA, .int) rfl).2.symm.trans (hK1.2 0 (ue_cI E, .int) rfl).2)
  subst e1
  exact h q p e s m args below meth c C H1 locs ls hP1 hD1 hS1 hl
theorem un_newZ {n : Int32} {N : Nat} (hw : Cond.arrayClass .boolean ∈ uw) (hn : ¬ n < 0) (hN : n.toNatClampNeg = N) (hb : N * componentBytes .boolean ≤ 536870912) (hc : ce + 1 ≤ mc) (hs : sl + N ≤ ms) (hd : decode cc pc = .ok (.newarray .boolean, 2)) (h : ∀ q : Nat, un l E k mc ms cc nL own rt Qf (ce + 1) (sl + N) (pc + 2) L (.ref q :: S) (ws ++ [(q, .inl (ue_cZ E, N, .inl (fun _ => 0)))])) : un l E k mc ms cc nL own rt Qf ce sl pc L (.int n :: S) ws := by
  intro p e s m args below meth c C H locs ls hP hD hS hl
  refine va_newa (atype := .boolean) (ty := .boolean) (a0 := (N, .inl (fun _ => 0))) C.1 C.2.1 (C.2.2.2.2.1 _ hw) rfl C.2.2.2.2.2.2.2.2.1 hP hD hS (un_A C.2.2.2.2.2.2.2.2.2.2.2.1) (fun _ => rfl) hn hN hb hc hs hd (fun q cA H1 hK1 hP1 hD1 hS1 => ?_)
  have e1 : cA = ue_cZ E := Option.some.inj ((hK1.2 4 (cA, .boolean) rfl).2.symm.trans (hK1.2 1 (ue_cZ E, .boolean) rfl).2)
  subst e1
  exact h q p e s m args below meth c C H1 locs ls hP1 hD1 hS1 hl
theorem un_newL {n : Int32} {N : Nat} (hw : Cond.arrayClass .long ∈ uw) (hn : ¬ n < 0) (hN : n.toNatClampNeg = N) (hb : N * componentBytes .long ≤ 536870912) (hc : ce + 1 ≤ mc) (hs : sl + N ≤ ms) (hd : decode cc pc = .ok (.newarray .long, 2)) (h : ∀ q : Nat, un l E k mc ms cc nL own rt Qf (ce + 1) (sl + N) (pc + 2) L (.ref q :: S) (ws ++ [(q, .inl (ue_cL E, N, .inr (.inl (fun _ => 0))))])) : un l E k mc ms cc nL own rt Qf ce sl pc L (.int n :: S) ws := by
  intro p e s m args below meth c C H locs ls hP hD hS hl
  refine va_newa (atype := .long) (ty := .long) (a0 := (N, .inr (.inl (fun _ => 0)))) C.1 C.2.1 (C.2.2.2.2.1 _ hw) rfl C.2.2.2.2.2.2.2.2.1 hP hD hS (un_A C.2.2.2.2.2.2.2.2.2.2.2.1) (fun _ => rfl) hn hN hb hc hs hd (fun q cA H1 hK1 hP1 hD1 hS1 => ?_)
  have e1 : cA = ue_cL E := Option.some.inj ((hK1.2 4 (cA, .long) rfl).2.symm.trans (hK1.2 3 (ue_cL E, .long) rfl).2)
  subst e1
  exact h q p e s m args below meth c C H1 locs ls hP1 hD1 hS1 hl
theorem un_newP {i : Nat} {n : Int32} {N : Nat} (hw : Cond.classLink own i RX3 ∈ uw) (hn : ¬ n < 0) (hN : n.toNatClampNeg = N) (hb : N * 4 ≤ 536870912) (hc : ce + 1 ≤ mc) (hs : sl + N ≤ ms) (hd : decode cc pc = .ok (.anewarray i, 3)) (h : ∀ q : Nat, un l E k mc ms cc nL own rt Qf (ce + 1) (sl + N) (pc + 3) L (.ref q :: S) (ws ++ [(q, .inl (ue_cP E, N, .inr (.inr (.inr (.inr (fun _ => none))))))])) : un l E k mc ms cc nL own rt Qf ce sl pc L (.int n :: S) ws := by
  intro p e s m args below meth c C H locs ls hP hD hS hl
  refine va_newq C.1 C.2.1 C.2.2.2.1 (C.2.2.2.2.1 _ hw) C.2.2.2.2.2.2.2.2.2.2.2.2.1 C.2.2.2.2.2.2.2.2.1 hP hD hS (un_A C.2.2.2.2.2.2.2.2.2.2.2.1) hn hN hb hc hs hd (fun q cA H1 hK1 hP1 hD1 hS1 => ?_)
  have e1 : cA = ue_cP E := by
    obtain ⟨k1, c1, -, -, -, h4⟩ := (hK1.2 4 (cA, .object RX3) rfl).2
    obtain ⟨k2, c2, -, -, -, h5⟩ := (hK1.2 2 (ue_cP E, .object RX3) rfl).2
    exact Option.some.inj (h4.symm.trans h5)
  subst e1
  exact h q p e s m args below meth c C H1 locs ls hP1 hD1 hS1 hl
/-- a final field in its constructor, or any other field -/
theorem un_putF {i ci j N a : Nat} {C0 : String} {T : u_T} {ty : Nat → FieldType} {fs : List Value} {v : Value} (q0 : Nat) (hk : uk ci C0 T ty N) (he : ws[q0]? = some (a, .inr (ci, fs))) (hrt : rt = none) (hown7 : un_fin own cc) (hj : j < N) (hw : Cond.fieldLink own i (T j).1 (T j).2.1 (T j).2.2.1 ∈ uw) (hfin : (T j).2.2.2 = true) (hdecl : (T j).1 = own) (hn : narrow (ty j) v = v) (hfit : fits (ty j) v = true) (hl' : j < fs.length) (hd : decode cc pc = .ok (.putfield i, 3)) (h : un l E k mc ms cc nL own rt Qf ce sl (pc + 3) L S (ws.set q0 (a, .inr (ci, fs.set j v)))) : un l E k mc ms cc nL own rt Qf ce sl pc L (v :: .ref a :: S) ws := by
  intro p e s m args below meth c C H locs ls hP hD hS hl
  exact va_putF C.1 C.2.1 C.2.2.2.2.1 hk.2.1 ty hk.2.2.1 hk.2.2.2 C.2.2.2.1 C.2.2.2.2.2.2.2.2.1 hP hD hS q0 he hk.1 j hj (C.2.2.2.2.1 _ hw) (fun _ q => q) hfin (C.2.2.2.2.2.2.2.1 hown7 hrt) hdecl (hk.2.2.1 j hj) hn hfit hl' hd (fun H1 locs1 hP1 hD1 hS1 => h p e s m args below meth c C H1 locs1 ls hP1 hD1 hS1 hl)
theorem un_put {i ci j N a : Nat} {C0 : String} {T : u_T} {ty : Nat → FieldType} {fs : List Value} {v : Value} (q0 : Nat) (hk : uk ci C0 T ty N) (he : ws[q0]? = some (a, .inr (ci, fs))) (hj : j < N) (hw : Cond.fieldLink own i (T j).1 (T j).2.1 (T j).2.2.1 ∈ uw) (hfin : (T j).2.2.2 = false) (hn : narrow (ty j) v = v) (hfit : fits (ty j) v = true) (hl' : j < fs.length) (hd : decode cc pc = .ok (.putfield i, 3)) (h : un l E k mc ms cc nL own rt Qf ce sl (pc + 3) L S (ws.set q0 (a, .inr (ci, fs.set j v)))) : un l E k mc ms cc nL own rt Qf ce sl pc L (v :: .ref a :: S) ws := by
  intro p e s m args below meth c C H locs ls hP hD hS hl
  exact va_put C.1 C.2.1 C.2.2.2.2.1 hk.2.1 ty hk.2.2.1 hk.2.2.2 C.2.2.2.1 C.2.2.2.2.2.2.2.2.1 hP hD hS q0 he hk.1 j hj (C.2.2.2.2.1 _ hw) (fun _ q => q) hfin (hk.2.2.1 j hj) hn hfit hl' hd (fun H1 locs1 hP1 hD1 hS1 => h p e s m args below meth c C H1 locs1 ls hP1 hD1 hS1 hl)
theorem un_get {i ci j N a : Nat} {C0 : String} {T : u_T} {ty : Nat → FieldType} {fs : List Value} {v : Value} (q0 : Nat) (hk : uk ci C0 T ty N) (he : ws[q0]? = some (a, .inr (ci, fs))) (hj : j < N) (hw : Cond.fieldLink own i (T j).1 (T j).2.1 (T j).2.2.1 ∈ uw) (hv : fs[j]? = some v) (hd : decode cc pc = .ok (.getfield i, 3)) (h : un l E k mc ms cc nL own rt Qf ce sl (pc + 3) L (v :: S) ws) : un l E k mc ms cc nL own rt Qf ce sl pc L (.ref a :: S) ws := by
  intro p e s m args below meth c C H locs ls hP hD hS hl
  exact va_get C.1 C.2.1 C.2.2.2.2.1 hk.2.1 C.2.2.2.1 C.2.2.2.2.2.2.2.2.1 hP q0 he hk.1 j hj (C.2.2.2.2.1 _ hw) (fun _ q => q) hv hd (h p e s m args below meth c C H locs ls hP hD hS hl)
theorem un_ast {q0 qk n v a : Nat} {i : Int32} {vs : List Value} {f : Nat → Option Nat} (ha : ws[q0]? = some (a, .inl (ue_cP E, n, .inr (.inr (.inr (.inr f)))))) (hv : ws[qk]? = some (v, .inr (3, vs))) (hin : vp_in i n) (hd : decode cc pc = .ok (.aastore, 1)) (h : un l E k mc ms cc nL own rt Qf ce sl (pc + 1) L S (ws.set q0 (a, .inl (ue_cP E, n, .inr (.inr (.inr (.inr (va_up f i.toNatClampNeg (some v))))))))) : un l E k mc ms cc nL own rt Qf ce sl pc L (.ref v :: .int i :: .ref a :: S) ws := by
  intro p e s m args below meth c C H locs ls hP hD hS hl
  exact va_astq C.1 C.2.1 C.2.2.2.2.2.2.2.2.1 hP hD hS q0 2 qk 3 (r := (RX3, TX3, 2)) ha rfl hv rfl hin hd (fun H1 locs1 hP1 hD1 hS1 => h p e s m args below meth c C H1 locs1 ls hP1 hD1 hS1 hl)
theorem un_ws {ws' : va_W} (e : ws = ws') (h : un l E k mc ms cc nL own rt Qf ce sl pc L S ws') : un l E k mc ms cc nL own rt Qf ce sl pc L S ws := by rw [e]; exact h
theorem un_ret {PQ : va_W → Prop} (hq : PQ ws) (hc : ce ≤ mc) (hs : sl ≤ ms) (hd : decode cc pc = .ok (.return_, 1)) : un l E k mc ms cc nL own none (unQ E PQ mc ms) ce sl pc L [] ws := by
  intro p e s m args below meth c C H locs ls hP hD hS hl
  refine W.widen hc hs ?_
  exact W.vret C.1 C.2.1 C.2.2.2.2.2.1 (fun t ht _ => ⟨rfl, ⟨ws, hq, by rw [ht]; exact hP, hD⟩, hS.F ht⟩) hS.2.2 hd C.2.2.2.2.2.2.1
theorem unc_of {y : MethodName} {as : List Value} {PQ : va_W → Prop} (hy : plainName y.cls = true) (hi : un_fin y.cls cc → y.name = "<init>") (hlen : (lg_sl as).length ≤ nL) (h : un l E k mc ms cc nL y.cls none (unQ E PQ mc ms) 0 0 0 (lv_args 0 as) [] ws) : unc l E k mc ms y cc nL as ws PQ := by
  intro hst
  refine Met.ofW (cc := cc) (maxL := nL) (ret := none) hy rfl ?_
  intro p e s m args below meth c s₁ B hml hv
  obtain ⟨rfl, hP, hD, hK, hO, hb, hao⟩ := hv
  have hts := atoms_spec (ws := .code y cc nL none :: uw) B.pre
  have hown : s.vm.findClass y.cls = some m.cls := findClass_of_methodNamed B.named
  have hnm : un_fin y.cls cc → meth.name = "<init>" := fun h => ((name_of_methodNamed B.named B.method).1).trans (hi h)
  have hl := lv_entry as (n := nL) hlen
  rw [lg_entry_eq]
  exact h p e s m _ below meth c ⟨B.exec, B.bytes, hml, hown, fun w hw => hts w (List.mem_cons_of_mem _ hw), B.returns, B.notSynchronized, fun h _ => hnm h, hK, hO, hst, hb, hao, fun h => absurd rfl h⟩ s.heap [] _ hP hD va_S.rf hl
theorem unq_go {p : Program} {e : Env} {R : Room} {s : State} {m : MethodId} {args : Array Value} {below : List Frame} {meth : Method} {c : Code} {H : Heap} {locs : List Loc} {Q : State → Prop} {ls : Array Slot} {st0 rest : List Value} {a : Array Value} {mc1 ms1 : Nat} {PQ : va_W → Prop} (hr : va_Run p l e R s m args below meth c H locs ce sl mc1 ms1 (F0 m pc ls st0) rest (unq E PQ a) (ue_A E)) (hS : va_S (ue_A E) s.heap H locs)
    (kk : ∀ (w : va_W) (H1 : Heap) (locs1 : List Loc), PQ w → va_P (ue_D E) vwCl w H1 → va_D (ue_A E) w → va_S (ue_A E) s.heap H1 locs1 → W p l e R s m args below meth c H1 locs1 (ce + mc1) (sl + ms1) Q (F0 m (pc + 3) ls rest)) : W p l e R s m args below meth c H locs ce sl Q (F0 m pc ls st0) := by
  intro T hT X
  obtain ⟨v', st₀, t, T', Lc, h0, X', hL, e1, e2, ⟨hv, ⟨w, hw, hP1, hD1⟩, hF⟩, st⟩ := hr T hT X
  cases hv
  obtain ⟨t2, a1, b1⟩ := kk w T'.heap (locs ++ Lc) hw (by rw [e1]; exact hP1) hD1 (uq_keep h0 e1 hS hL hF) T' rfl X'
  exact ⟨t2, st t2 a1, b1⟩
theorem unp_pre {p : Program} {s : State} {m : MethodId} {args : Array Value} {meth : Method} {c : Code} {H : Heap} {locs : List Loc} (C : unC p l E cc nL own rt s m args meth c) (hP : va_P (ue_D E) vwCl ws H) (hD : va_D (ue_A E) ws) (hS : va_S (ue_A E) s.heap H locs) (as : List Value) : ∀ U : State, U.heap = H → s.WarmedH U.vm → va_Pc as (unp E ws) as.toArray U := fun U hU hW =>
  ⟨rfl, by rw [hU]; exact hP, hD, va_K.moved hW.alike C.2.2.2.2.2.2.2.2.1, uo_go C.2.2.2.2.2.2.2.2.2.1 hW (fun q h1 h2 => by rw [hU]; exact hS.2.1 q h1 h2), Nat.le_trans C.2.2.2.2.2.2.2.2.2.2.2.1 (by rw [hU]; exact hS.1), va_AO.moved hW.alike C.2.2.2.2.2.2.2.2.2.2.2.2.1⟩
/-- a constructor, called: its own class's, or a nest mate's private one -/
theorem un_call {k1 mc1 ms1 n i a : Nat} {y : MethodName} {cc1 : ByteArray} {nL1 : Nat} {PQ : va_W → Prop} (As : List Value) (hM : unc l E k1 mc1 ms1 y cc1 nL1 (.ref a :: As) ws PQ) (hw : (Cond.methodLink own i y ∈ uw ∧ Cond.instanceMethod y ∈ uw ∧ Cond.initialized y.cls ∈ uw ∧ Cond.code y cc1 nL1 none ∈ uw) ∧ y.name = "<init>" ∧ y.cls ≠ "java/lang/invoke/MethodHandle" ∧ y.cls ≠ "java/lang/invoke/VarHandle" ∧ (parseMethodDescriptor y.desc).map (fun d => d.parameters.length) = some n) (hn : As.length = n) (hst : S0 = As.reverse ++ .ref a :: S) (hr : (S.map fun v => v.category).sum ≤ 8) (hk : k1 + 1 ≤ k) (hl1 : nL1 ≤ 21) (hc : ce + mc1 ≤ mc ∧ sl + ms1 ≤ ms) (hd : decode cc pc = .ok (.invokespecial i, 3))
    (h : ∀ w, PQ w → un l E k mc ms cc nL own rt Qf (ce + mc1) (sl + ms1) (pc + 3) L S w) : un l E k mc ms cc nL own rt Qf ce sl pc L S0 ws := by
  intro p e s m args below meth c C H locs ls hP hD hS hl
  subst hst
  exact unq_go (va_runI (As := As) (rest := S) (Ts := uw) ⟨C.1, C.2.1, C.2.2.1, C.2.2.2.1, C.2.2.2.2.1⟩ (hM C.2.2.2.2.2.2.2.2.2.2.1) (cwI n C.2.2.2.2.1 (uw_inc hw.1.2.2.2) rfl rfl rfl (C.2.2.2.2.1 _ hw.1.2.2.1) (C.2.2.2.2.1 _ hw.1.1) (C.2.2.2.2.1 _ hw.1.2.1) hw.2.1 hw.2.2 (ur_room hk hl1)) ⟨unp_blind E ws _, unp_pre C hP hD hS _⟩ rfl hn hl.1 rfl (lv_room hr) hd hc) hS (fun w H1 locs1 hw hP1 hD1 hS1 => h w hw p e s m args below meth c C H1 locs1 ls hP1 hD1 hS1 hl)
theorem un_callN {k1 mc1 ms1 n i a : Nat} {y : MethodName} {host : String} {cc1 : ByteArray} {nL1 : Nat} {PQ : va_W → Prop} (q : Nat) (hq : us_nest[q]? = some (own, i, y, host)) (As : List Value) (hM : unc l E k1 mc1 ms1 y cc1 nL1 (.ref a :: As) ws PQ) (hw : (Cond.instanceMethod y ∈ uw ∧ Cond.initialized y.cls ∈ uw ∧ Cond.code y cc1 nL1 none ∈ uw) ∧ y.name = "<init>" ∧ y.cls ≠ "java/lang/invoke/MethodHandle" ∧ y.cls ≠ "java/lang/invoke/VarHandle" ∧ (parseMethodDescriptor y.desc).map (fun d => d.parameters.length) = some n) (hn : As.length = n) (hst : S0 = As.reverse ++ .ref a :: S) (hr : (S.map fun v => v.category).sum ≤ 8) (hk : k1 + 1 ≤ k) (hl1 : nL1 ≤ 21) (hc : ce + mc1 ≤ mc ∧ sl + ms1 ≤ ms) (hd : decode cc pc = .ok (.invokespecial i, 3))
    (h : ∀ w, PQ w → un l E k mc ms cc nL own rt Qf (ce + mc1) (sl + ms1) (pc + 3) L S w) : un l E k mc ms cc nL own rt Qf ce sl pc L S0 ws := by
  intro p e s m args below meth c C H locs ls hP hD hS hl
  subst hst
  have hnw := C.2.2.2.2.2.2.2.2.2.1.2.2.2.2.1 _ (List.mem_of_getElem? hq)
  exact unq_go (va_runIN (As := As) (rest := S) (Ts := uw) (host := host) ⟨C.1, C.2.1, C.2.2.1, C.2.2.2.1, C.2.2.2.2.1⟩ (hM C.2.2.2.2.2.2.2.2.2.2.1) ⟨va_cnB n C.2.2.2.2.1 (uw_inc hw.1.2.2) rfl rfl rfl hnw (C.2.2.2.2.1 _ hw.1.2.1) hw.2.2 (ur_room hk hl1), hw.2.1, C.2.2.2.2.1 _ hw.1.1⟩ ⟨unp_blind E ws _, unp_pre C hP hD hS _⟩ rfl hn hl.1 rfl (lv_room hr) hd hc) hS (fun w H1 locs1 hw hP1 hD1 hS1 => h w hw p e s m args below meth c C H1 locs1 ls hP1 hD1 hS1 hl)
/-! worlds with a part ahead that stays -/
theorem uap (ws0 xs : va_W) (j : Nat) : (ws0 ++ xs)[ws0.length + j]? = xs[j]? := by
  rw [List.getElem?_append_right (Nat.le_add_right _ _), Nat.add_sub_cancel_left]
theorem uas (ws0 xs : va_W) (j : Nat) (v : Nat × va_E) : (ws0 ++ xs).set (ws0.length + j) v = ws0 ++ xs.set j v := by
  rw [List.set_append_right _ _ (Nat.le_add_right _ _), Nat.add_sub_cancel_left]
theorem vn_put {ws0 xs : va_W} {i ci j N a : Nat} {C0 : String} {T : u_T} {ty : Nat → FieldType} {fs : List Value} {v : Value} (xs' : va_W) (q0 : Nat) (hk : uk ci C0 T ty N) (he : xs[q0]? = some (a, .inr (ci, fs))) (hj : j < N) (hw : Cond.fieldLink own i (T j).1 (T j).2.1 (T j).2.2.1 ∈ uw) (hfin : (T j).2.2.2 = false) (hn : narrow (ty j) v = v) (hfit : fits (ty j) v = true) (hl' : j < fs.length) (hd : decode cc pc = .ok (.putfield i, 3)) (hx : xs.set q0 (a, .inr (ci, fs.set j v)) = xs') (h : un l E k mc ms cc nL own rt Qf ce sl (pc + 3) L S (ws0 ++ xs')) : un l E k mc ms cc nL own rt Qf ce sl pc L (v :: .ref a :: S) (ws0 ++ xs) := by
  refine un_put (ws0.length + q0) hk (by rw [uap]; exact he) hj hw hfin hn hfit hl' hd ?_
  rw [uas, hx]; exact h
theorem vn_putF {ws0 xs : va_W} {i ci j N a : Nat} {C0 : String} {T : u_T} {ty : Nat → FieldType} {fs : List Value} {v : Value} (xs' : va_W) (q0 : Nat) (hk : uk ci C0 T ty N) (he : xs[q0]? = some (a, .inr (ci, fs))) (hrt : rt = none) (hown7 : un_fin own cc) (hj : j < N) (hw : Cond.fieldLink own i (T j).1 (T j).2.1 (T j).2.2.1 ∈ uw) (hfin : (T j).2.2.2 = true) (hdecl : (T j).1 = own) (hn : narrow (ty j) v = v) (hfit : fits (ty j) v = true) (hl' : j < fs.length) (hd : decode cc pc = .ok (.putfield i, 3)) (hx : xs.set q0 (a, .inr (ci, fs.set j v)) = xs') (h : un l E k mc ms cc nL own rt Qf ce sl (pc + 3) L S (ws0 ++ xs')) : un l E k mc ms cc nL own rt Qf ce sl pc L (v :: .ref a :: S) (ws0 ++ xs) := by
  refine un_putF (ws0.length + q0) hk (by rw [uap]; exact he) hrt hown7 hj hw hfin hdecl hn hfit hl' hd ?_
  rw [uas, hx]; exact h
theorem vn_newI {ws0 xs : va_W} {n : Int32} {N : Nat} (hw : Cond.arrayClass .int ∈ uw) (hn : ¬ n < 0) (hN : n.toNatClampNeg = N) (hb : N * componentBytes .int ≤ 536870912) (hc : ce + 1 ≤ mc) (hs : sl + N ≤ ms) (hd : decode cc pc = .ok (.newarray .int, 2)) (h : ∀ q : Nat, un l E k mc ms cc nL own rt Qf (ce + 1) (sl + N) (pc + 2) L (.ref q :: S) (ws0 ++ (xs ++ [(q, .inl (ue_cI E, N, .inl (fun _ => 0)))]))) : un l E k mc ms cc nL own rt Qf ce sl pc L (.int n :: S) (ws0 ++ xs) :=
  un_newI hw hn hN hb hc hs hd (fun q => by rw [List.append_assoc]; exact h q)
theorem vn_newZ {ws0 xs : va_W} {n : Int32} {N : Nat} (hw : Cond.arrayClass .boolean ∈ uw) (hn : ¬ n < 0) (hN : n.toNatClampNeg = N) (hb : N * componentBytes .boolean ≤ 536870912) (hc : ce + 1 ≤ mc) (hs : sl + N ≤ ms) (hd : decode cc pc = .ok (.newarray .boolean, 2)) (h : ∀ q : Nat, un l E k mc ms cc nL own rt Qf (ce + 1) (sl + N) (pc + 2) L (.ref q :: S) (ws0 ++ (xs ++ [(q, .inl (ue_cZ E, N, .inl (fun _ => 0)))]))) : un l E k mc ms cc nL own rt Qf ce sl pc L (.int n :: S) (ws0 ++ xs) :=
  un_newZ hw hn hN hb hc hs hd (fun q => by rw [List.append_assoc]; exact h q)
theorem vn_get {ws0 xs : va_W} {i ci j N a : Nat} {C0 : String} {T : u_T} {ty : Nat → FieldType} {fs : List Value} {v : Value} (q0 : Nat) (hk : uk ci C0 T ty N) (he : xs[q0]? = some (a, .inr (ci, fs))) (hj : j < N) (hw : Cond.fieldLink own i (T j).1 (T j).2.1 (T j).2.2.1 ∈ uw) (hv : fs[j]? = some v) (hd : decode cc pc = .ok (.getfield i, 3)) (h : un l E k mc ms cc nL own rt Qf ce sl (pc + 3) L (v :: S) (ws0 ++ xs)) : un l E k mc ms cc nL own rt Qf ce sl pc L (.ref a :: S) (ws0 ++ xs) :=
  un_get (ws0.length + q0) hk (by rw [uap]; exact he) hj hw hv hd h
/-! the library's fill, over any world -/
theorem un_iload_n {kf : Fin 4} {i : Nat} {x : Int32} (j : Nat) (hd : decode cc pc = .ok (.iload_n kf, 1)) (hi : (kf : Nat) = i) (hj : L[j]? = some (i, .int x)) (h : un l E k mc ms cc nL own rt Qf ce sl (pc + 1) L (.int x :: S) ws) : un l E k mc ms cc nL own rt Qf ce sl pc L S ws :=
  fun p e s m args below meth c C H locs ls hP hD hS hl => lv_iload_n C.1 C.2.1 hd hi (lv_at hl j hj) (h p e s m args below meth c C H locs ls hP hD hS hl)
theorem un_istore_n {kf : Fin 4} {i : Nat} {x : Int32} (L' : List (Nat × Value)) (hd : decode cc pc = .ok (.istore_n kf, 1)) (hi : (kf : Nat) = i) (hn : i < nL) (hl' : (i, Value.int x) :: L.filter (fun q => !(q.1 == i) && !(q.1 + 1 == i && q.2.category == 2)) = L') (h : un l E k mc ms cc nL own rt Qf ce sl (pc + 1) L' S ws) : un l E k mc ms cc nL own rt Qf ce sl pc L (.int x :: S) ws :=
  fun p e s m args below meth c C H locs ls hP hD hS hl => lv_istore_n C.1 C.2.1 hd hi hl hn hl' (fun ls hl => h p e s m args below meth c C H locs ls hP hD hS hl)
theorem un_iinc {i : Nat} {n : Int} {x v : Int32} (L' : List (Nat × Value)) (j : Nat) (hd : decode cc pc = .ok (.iinc i n, 3)) (hj : L[j]? = some (i, .int x)) (hv : x + Int32.ofInt n = v) (hn : i < nL) (hl' : (i, Value.int v) :: L.filter (fun q => !(q.1 == i) && !(q.1 + 1 == i && q.2.category == 2)) = L') (h : un l E k mc ms cc nL own rt Qf ce sl (pc + 3) L' S ws) : un l E k mc ms cc nL own rt Qf ce sl pc L S ws :=
  fun p e s m args below meth c C H locs ls hP hD hS hl => lv_iinc C.1 C.2.1 hd hl hj hv hn hl' (fun ls hl => h p e s m args below meth c C H locs ls hP hD hS hl)
theorem un_sub (L' : List (Nat × Value)) (ks : List Nat) (hs : lv_pick L ks = L') (h : un l E k mc ms cc nL own rt Qf ce sl pc L' S ws) : un l E k mc ms cc nL own rt Qf ce sl pc L S ws :=
  fun p e s m args below meth c C H locs ls hP hD hS hl => h p e s m args below meth c C H locs ls hP hD hS (lv_sub hl ks hs)
theorem un_icmp_ge {x y : Int32} {off : Int} (tgt : Nat) (hd : decode cc pc = .ok (.if_icmp .ge off, 3)) (ht : (pc : Int) + off = (tgt : Int)) (kt : y ≤ x → un l E k mc ms cc nL own rt Qf ce sl tgt L S ws) (kf : ¬ y ≤ x → un l E k mc ms cc nL own rt Qf ce sl (pc + 3) L S ws) : un l E k mc ms cc nL own rt Qf ce sl pc L (.int y :: .int x :: S) ws :=
  fun p e s m args below meth c C H locs ls hP hD hS hl => lv_icmp_ge C.1 C.2.1 hd ht (fun q => kt q p e s m args below meth c C H locs ls hP hD hS hl) (fun q => kf q p e s m args below meth c C H locs ls hP hD hS hl)
theorem un_goto {off : Int} (tgt : Nat) (hd : decode cc pc = .ok (.goto off, 3)) (ht : (pc : Int) + off = (tgt : Int)) (h : un l E k mc ms cc nL own rt Qf ce sl tgt L S ws) : un l E k mc ms cc nL own rt Qf ce sl pc L S ws :=
  fun p e s m args below meth c C H locs ls hP hD hS hl => lv_goto C.1 C.2.1 hd ht (h p e s m args below meth c C H locs ls hP hD hS hl)
theorem un_alen {a n : Nat} {f : Nat → Int32} (q0 : Nat) (he : ws[q0]? = some (a, .inl (ue_cI E, n, .inl f))) (hd : decode cc pc = .ok (.arraylength, 1)) (h : un l E k mc ms cc nL own rt Qf ce sl (pc + 1) L (.int (nI n) :: S) ws) : un l E k mc ms cc nL own rt Qf ce sl pc L (.ref a :: S) ws :=
  fun p e s m args below meth c C H locs ls hP hD hS hl => va_alen C.1 C.2.1 C.2.2.2.2.2.2.2.2.1 hP q0 0 (x := (n, .inl f)) he rfl rfl hd (h p e s m args below meth c C H locs ls hP hD hS hl)
theorem un_iast {a n : Nat} {f : Nat → Int32} {i x : Int32} (q0 : Nat) (he : ws[q0]? = some (a, .inl (ue_cI E, n, .inl f))) (hin : vp_in i n) (hd : decode cc pc = .ok (.iastore, 1)) (h : un l E k mc ms cc nL own rt Qf ce sl (pc + 1) L S (ws.set q0 (a, .inl (ue_cI E, n, .inl (upd f i.toNatClampNeg x))))) : un l E k mc ms cc nL own rt Qf ce sl pc L (.int x :: .int i :: .ref a :: S) ws :=
  fun p e s m args below meth c C H locs ls hP hD hS hl => va_iast C.1 C.2.1 C.2.2.2.2.2.2.2.2.1 hP hD hS q0 0 he rfl hin hd (fun H1 locs1 hP1 hD1 hS1 => h p e s m args below meth c C H1 locs1 ls hP1 hD1 hS1 hl)
end UNR
def ufl_to (f : Nat → Int32) (v : Int32) (t : Nat) : Nat → Int32 := fun j => if j < t then v else f j
theorem un_fill_loop {l : Launch} {E : Ue} {k mc ms q0 a n : Nat} {f : Nat → Int32} {v : Int32} {ws : va_W} {PQ : va_W → Prop} (he : ws[q0]? = some (a, .inl (ue_cI E, n, .inl f))) (hn : n < 2 ^ 31) (hq : PQ (ws.set q0 (a, .inl (ue_cI E, n, .inl (ufl_to f v n))))) : ∀ (r t : Nat), t + r = n → un l E k mc ms cJ7_fill_53178 4 RJ7 none (unQ E PQ mc ms) 0 0 5 [(0, .ref a), (1, .int v), (2, .int (nI t)), (3, .int (nI n))] [] (ws.set q0 (a, .inl (ue_cI E, n, .inl (ufl_to f v t)))) := by
  have hl := (List.getElem?_eq_some_iff.mp he).1
  intro r
  induction r with
  | zero =>
    intro t ht
    have e : t = n := by omega
    subst e
    refine un_iload_n 2 dJ7_fill_53178_5 rfl rfl ?_
    refine un_iload_n 3 dJ7_fill_53178_6 rfl rfl ?_
    refine un_icmp_ge 20 dJ7_fill_53178_7 (by decide) (fun _ => ?_) (fun q => absurd (nI_le (Nat.le_refl t) hn) q)
    exact un_ret hq (Nat.zero_le _) (Nat.zero_le _) dJ7_fill_53178_20
  | succ r ih =>
    intro t ht
    refine un_iload_n 2 dJ7_fill_53178_5 rfl rfl ?_
    refine un_iload_n 3 dJ7_fill_53178_6 rfl rfl ?_
    refine un_icmp_ge 20 dJ7_fill_53178_7 (by decide) (fun q => absurd q (nI_ge (by omega) hn)) (fun _ => ?_)
    refine un_aload_n 0 dJ7_fill_53178_10 rfl rfl ?_
    refine un_iload_n 2 dJ7_fill_53178_11 rfl rfl ?_
    refine un_iload_n 1 dJ7_fill_53178_12 rfl rfl ?_
    refine un_iast q0 (List.getElem?_set_self hl) (vp_in_nI (by omega) hn) dJ7_fill_53178_13 ?_
    have e1 : upd (ufl_to f v t) (nI t).toNatClampNeg v = ufl_to f v (t + 1) := by
      rw [nI_clamp (by omega)]
      funext j
      simp only [upd, ufl_to]
      split
      · rw [if_pos (by omega)]
      · split
        · rw [if_pos (by omega)]
        · rw [if_neg (by omega)]
    refine un_ws (ws' := ws.set q0 (a, .inl (ue_cI E, n, .inl (ufl_to f v (t + 1))))) (by rw [List.set_set, e1]) ?_
    refine un_iinc (v := nI (t + 1)) [(2, .int (nI (t + 1))), (0, .ref a), (1, .int v), (3, .int (nI n))] 2 dJ7_fill_53178_14 rfl (nI_1 t) (Nat.le_of_ble_eq_true rfl) rfl ?_
    refine un_goto 5 dJ7_fill_53178_17 (by decide) ?_
    refine un_sub [(0, .ref a), (1, .int v), (2, .int (nI (t + 1))), (3, .int (nI n))] [1, 2, 0, 3] rfl ?_
    exact ih (t + 1) (by omega)
theorem un_fill {l : Launch} {E : Ue} {q0 a n : Nat} {f : Nat → Int32} {v : Int32} {ws : va_W} (he : ws[q0]? = some (a, .inl (ue_cI E, n, .inl f))) (hn : n < 2 ^ 31) : unc l E 2 0 0 yJ7_fill_53178 cJ7_fill_53178 4 [.ref a, .int v] ws (fun w => w = ws.set q0 (a, .inl (ue_cI E, n, .inl (ufl_to f v n)))) := by
  intro hst
  refine Met.ofW (cc := cJ7_fill_53178) (maxL := 4) (ret := none) rfl rfl ?_
  intro p e s m args below meth c s₁ B hml hv
  obtain ⟨rfl, hP, hD, hK, hO, hb, hao⟩ := hv
  have hts := atoms_spec (ws := .code yJ7_fill_53178 cJ7_fill_53178 4 none :: uw) B.pre
  have hown : s.vm.findClass RJ7 = some m.cls := findClass_of_methodNamed B.named
  have hl := lv_entry [.ref a, .int v] (n := 4) (Nat.le_of_ble_eq_true rfl)
  rw [lg_entry_eq]
  have h0 : ws.set q0 (a, .inl (ue_cI E, n, .inl (ufl_to f v 0))) = ws := by
    have e : ufl_to f v 0 = f := by funext j; simp [ufl_to]
    rw [e]
    apply List.ext_getElem?
    intro j
    by_cases hj : q0 = j
    · subst hj
      rw [List.getElem?_set_self (List.getElem?_eq_some_iff.mp he).1, he]
    · rw [List.getElem?_set_ne hj]
  have hw : un l E 2 0 0 cJ7_fill_53178 4 RJ7 none (unQ E (fun w => w = ws.set q0 (a, .inl (ue_cI E, n, .inl (ufl_to f v n)))) 0 0) 0 0 0 [(0, .ref a), (1, .int v)] [] ws := by
    refine un_iconst dJ7_fill_53178_0 un_iconst_0 ?_
    refine un_istore_n [(2, .int 0), (0, .ref a), (1, .int v)] dJ7_fill_53178_1 rfl (Nat.le_of_ble_eq_true rfl) rfl ?_
    refine un_aload_n 1 dJ7_fill_53178_2 rfl rfl ?_
    refine un_alen q0 he dJ7_fill_53178_3 ?_
    refine un_istore_n [(3, .int (nI n)), (2, .int 0), (0, .ref a), (1, .int v)] dJ7_fill_53178_4 rfl (Nat.le_of_ble_eq_true rfl) rfl ?_
    refine un_sub [(0, .ref a), (1, .int v), (2, .int 0), (3, .int (nI n))] [2, 3, 1, 0] rfl ?_
    have := un_fill_loop (l := l) (k := 2) (mc := 0) (ms := 0) he hn (v := v) (PQ := fun w => w = ws.set q0 (a, .inl (ue_cI E, n, .inl (ufl_to f v n)))) rfl n 0 (by omega)
    rw [h0] at this
    exact this
  exact hw p e s m _ below meth c ⟨B.exec, B.bytes, hml, hown, fun w hw => hts w (List.mem_cons_of_mem _ hw), B.returns, B.notSynchronized, fun h => absurd rfl h.1, hK, hO, hst, hb, hao, fun h => absurd rfl h⟩ s.heap [] _ hP hD va_S.rf hl
theorem un_callS {l : Launch} {E : Ue} {k mc ms : Nat} {cc : ByteArray} {nL : Nat} {own : String} {rt : Option FieldType} {Qf : Uf} {ce sl pc : Nat} {L : List (Nat × Value)} {S S0 : List Value} {ws : va_W} {k1 n i : Nat} {y : MethodName} {cc1 : ByteArray} {nL1 : Nat} {PQ : va_W → Prop} (As : List Value) (hM : unc l E k1 0 0 y cc1 nL1 As ws PQ) (hw : uws own i y cc1 nL1 none n) (hn : As.length = n) (hst : S0 = As.reverse ++ S) (hr : (S.map fun v => v.category).sum ≤ 8) (hk : k1 + 1 ≤ k) (hl1 : nL1 ≤ 21) (hc : ce ≤ mc ∧ sl ≤ ms) (hd : decode cc pc = .ok (.invokestatic i, 3))
    (h : ∀ w, PQ w → un l E k mc ms cc nL own rt Qf ce sl (pc + 3) L S w) : un l E k mc ms cc nL own rt Qf ce sl pc L S0 ws := by
  intro p e s m args below meth c C H locs ls hP hD hS hl
  subst hst
  exact unq_go (va_runS (As := As) (rest := S) (Ts := uw) ⟨C.1, C.2.1, C.2.2.1, C.2.2.2.1, C.2.2.2.2.1⟩ (hM C.2.2.2.2.2.2.2.2.2.2.1) (va_cwS n C.2.2.2.2.1 (uws_good hw) rfl rfl rfl hw.2 (ur_room hk hl1)) ⟨unp_blind E ws _, unp_pre C hP hD hS _⟩ rfl hn hl.1 rfl (lv_room hr) hd hc) hS (fun w H1 locs1 hw hP1 hD1 hS1 => h w hw p e s m args below meth c C H1 locs1 ls hP1 hD1 hS1 hl)
/-! a method of an object that is being made -/
section UNT
variable {l : Launch} {E : Ue} {k mc ms : Nat} {cc : ByteArray} {nL : Nat} {own : String} {rt : Option FieldType} {Qf : Uf} {ce sl pc : Nat} {L : List (Nat × Value)} {S S0 : List Value} {ws ws0 xs : va_W}
theorem un_isub {x y v : Int32} (hd : decode cc pc = .ok (.isub, 1)) (hv : x - y = v) (h : un l E k mc ms cc nL own rt Qf ce sl (pc + 1) L (.int v :: S) ws) : un l E k mc ms cc nL own rt Qf ce sl pc L (.int y :: .int x :: S) ws := by
  subst hv
  exact fun p e s m args below meth c C H locs ls hP hD hS hl => lv_isub C.1 C.2.1 hd (h p e s m args below meth c C H locs ls hP hD hS hl)
theorem un_ior {x y v : Int32} (hd : decode cc pc = .ok (.ior, 1)) (hv : x ||| y = v) (h : un l E k mc ms cc nL own rt Qf ce sl (pc + 1) L (.int v :: S) ws) : un l E k mc ms cc nL own rt Qf ce sl pc L (.int y :: .int x :: S) ws := by
  subst hv
  exact fun p e s m args below meth c C H locs ls hP hD hS hl => lv_ior C.1 C.2.1 hd (h p e s m args below meth c C H locs ls hP hD hS hl)
theorem un_ishl {x y v : Int32} (hd : decode cc pc = .ok (.ishl, 1)) (hv : x <<< (y &&& 31) = v) (h : un l E k mc ms cc nL own rt Qf ce sl (pc + 1) L (.int v :: S) ws) : un l E k mc ms cc nL own rt Qf ce sl pc L (.int y :: .int x :: S) ws := by
  subst hv
  exact fun p e s m args below meth c C H locs ls hP hD hS hl => lv_ishl C.1 C.2.1 hd (h p e s m args below meth c C H locs ls hP hD hS hl)
theorem un_icmp_lt {x y : Int32} {off : Int} (tgt : Nat) (hd : decode cc pc = .ok (.if_icmp .lt off, 3)) (ht : (pc : Int) + off = (tgt : Int)) (kt : x < y → un l E k mc ms cc nL own rt Qf ce sl tgt L S ws) (kf : ¬ x < y → un l E k mc ms cc nL own rt Qf ce sl (pc + 3) L S ws) : un l E k mc ms cc nL own rt Qf ce sl pc L (.int y :: .int x :: S) ws :=
  fun p e s m args below meth c C H locs ls hP hD hS hl => lv_icmp_lt C.1 C.2.1 hd ht (fun q => kt q p e s m args below meth c C H locs ls hP hD hS hl) (fun q => kf q p e s m args below meth c C H locs ls hP hD hS hl)
theorem vn_iald {a n : Nat} {f : Nat → Int32} {i v : Int32} (q0 : Nat) (he : xs[q0]? = some (a, .inl (ue_cI E, n, .inl f))) (hin : vp_in i n) (hv : f i.toNatClampNeg = v) (hd : decode cc pc = .ok (.iaload, 1)) (h : un l E k mc ms cc nL own rt Qf ce sl (pc + 1) L (.int v :: S) (ws0 ++ xs)) : un l E k mc ms cc nL own rt Qf ce sl pc L (.int i :: .ref a :: S) (ws0 ++ xs) := by
  subst hv
  exact fun p e s m args below meth c C H locs ls hP hD hS hl => va_iald C.1 C.2.1 C.2.2.2.2.2.2.2.2.1 hP (ws0.length + q0) 0 (cA := ue_cI E) (n := n) (f := f) (by rw [uap]; exact he) rfl hin hd (h p e s m args below meth c C H locs ls hP hD hS hl)
theorem vn_iast {a n : Nat} {f : Nat → Int32} {i x : Int32} (xs' : va_W) (q0 : Nat) (he : xs[q0]? = some (a, .inl (ue_cI E, n, .inl f))) (hin : vp_in i n) (hd : decode cc pc = .ok (.iastore, 1)) (hx : xs.set q0 (a, .inl (ue_cI E, n, .inl (upd f i.toNatClampNeg x))) = xs') (h : un l E k mc ms cc nL own rt Qf ce sl (pc + 1) L S (ws0 ++ xs')) : un l E k mc ms cc nL own rt Qf ce sl pc L (.int x :: .int i :: .ref a :: S) (ws0 ++ xs) := by
  refine un_iast (ws0.length + q0) (by rw [uap]; exact he) hin hd ?_
  rw [uas, hx]; exact h
theorem un_plain {i : Nat} (hw : Cond.fieldLink own i RX2 "PLAIN" "[I" ∈ uw) (hd : decode cc pc = .ok (.getstatic i, 3)) (h : un l E k mc ms cc nL own rt Qf ce sl (pc + 3) L (.ref (ue_p E) :: S) ws) : un l E k mc ms cc nL own rt Qf ce sl pc L S ws :=
  fun p e s m args below meth c C H locs ls hP hD hS hl => va_gets C.1 C.2.1 C.2.2.2.2.2.2.2.2.2.1.2.2.1.2.2.1 hS C.2.2.2.1 (C.2.2.2.2.1 _ hw) (fun _ q => q) hd (h p e s m args below meth c C H locs ls hP hD hS hl)
theorem un_plen (hd : decode cc pc = .ok (.arraylength, 1)) (h : un l E k mc ms cc nL own rt Qf ce sl (pc + 1) L (.int 9 :: S) ws) : un l E k mc ms cc nL own rt Qf ce sl pc L (.ref (ue_p E) :: S) ws :=
  fun p e s m args below meth c C H locs ls hP hD hS hl => va_tlen C.1 C.2.1 C.2.2.2.2.2.2.2.2.2.1.2.2.1.2.2.2 hS (v := 9) rfl hd (h p e s m args below meth c C H locs ls hP hD hS hl)
theorem vn_copyP {i a n1 : Nat} {g : Nat → Int32} (xs' : va_W) (q0 : Nat) (he : xs[q0]? = some (a, .inl (ue_cI E, n1, .inl g))) (hw : Cond.methodLink own i arraycopyName ∈ uw ∧ Cond.native arraycopyName ∈ uw ∧ Cond.static arraycopyName ∈ uw ∧ Cond.initialized "java/lang/System" ∈ uw) (h9 : 9 ≤ n1) (hk : 1 ≤ k) (hr : (S.map fun v => v.category).sum + (nativeFrameWords "java/lang/System" "arraycopy" 5 + 11) ≤ 41 * k + 32) (hd : decode cc pc = .ok (.invokestatic i, 3)) (hx : xs.set q0 (a, .inl (ue_cI E, n1, .inl (va_cpy us_plain g 0 0 9))) = xs') (h : un l E k mc ms cc nL own rt Qf ce sl (pc + 3) L S (ws0 ++ xs')) : un l E k mc ms cc nL own rt Qf ce sl pc L (.int 9 :: .int 0 :: .ref a :: .int 0 :: .ref (ue_p E) :: S) (ws0 ++ xs) := by
  intro p e s m args below meth c C H locs ls hP hD hS hl
  refine ua_copyP C.1 C.2.1 (C.2.2.1.trans hl.1.symm) C.2.2.2.1 ⟨C.2.2.2.2.1 _ hw.1, C.2.2.2.2.1 _ hw.2.1, C.2.2.2.2.1 _ hw.2.2.1, C.2.2.2.2.1 _ hw.2.2.2⟩ C.2.2.2.2.2.2.2.2.1 hP hD hS C.2.2.2.2.2.2.2.2.2.1.2.2.1.2.2.2 (ws0.length + q0) 0 (c1 := ue_cI E) (n1 := n1) (g := g) (by rw [uap]; exact he) rfl h9 hk hr hd (fun H1 locs1 hP1 hD1 hS1 => ?_)
  rw [uas, hx] at hP1 hD1
  exact h p e s m args below meth c C H1 locs1 ls hP1 hD1 hS1 hl
theorem vn_callV {k1 n i a ci N : Nat} {y : MethodName} {cc1 : ByteArray} {nL1 : Nat} {C0 : String} {T0 : u_T} {fs : List Value} {PQ : va_W → Prop} (As : List Value) (q0 : Nat) (hM : unc l E k1 0 0 y cc1 nL1 (.ref a :: As) (ws0 ++ xs) PQ) (hw : uwv own i C0 y cc1 nL1 none n) (he : xs[q0]? = some (a, .inr (ci, fs))) (hci : vwCl[ci]? = some (C0, T0, N)) (hn : As.length = n) (hst : S0 = As.reverse ++ .ref a :: S) (hr : (S.map fun v => v.category).sum ≤ 8) (hk : k1 + 1 ≤ k) (hl1 : nL1 ≤ 21) (hc : ce ≤ mc ∧ sl ≤ ms) (hd : decode cc pc = .ok (.invokevirtual i, 3))
    (h : ∀ w, PQ w → un l E k mc ms cc nL own rt Qf ce sl (pc + 3) L S w) : un l E k mc ms cc nL own rt Qf ce sl pc L S0 (ws0 ++ xs) := by
  intro p e s m args below meth c C H locs ls hP hD hS hl
  subst hst
  refine unq_go (va_runV (As := As) (rest := S) (Ts := uw) ⟨C.1, C.2.1, C.2.2.1, C.2.2.2.1, C.2.2.2.2.1⟩ (hM C.2.2.2.2.2.2.2.2.2.2.1) (cwV (C := C0) n C.2.2.2.2.1 (uwv_good hw) rfl rfl rfl hw.2 (ur_room hk hl1)) ⟨unp_blind E (ws0 ++ xs) _, ?_, unp_pre C hP hD hS _⟩ rfl hn hl.1 rfl (lv_room hr) hd hc) hS (fun w H1 locs1 hw hP1 hD1 hS1 => h w hw p e s m args below meth c C H1 locs1 ls hP1 hD1 hS1 hl)
  exact va_recv C.2.2.2.2.2.2.2.2.1 hP hci (q0 := ws0.length + q0) (by rw [uap]; exact he)
end UNT
