/-! THE WORDS: all good words of the tables, for every method alike. -/
def uw : List Cond := lw_tbl.filter goodWord
theorem uw_t {w : Cond} (i : Nat) (h : tables_1[i]? = some w) (g : goodWord w = true) : w ∈ uw := List.mem_filter.mpr ⟨List.mem_append_right _ (List.mem_of_getElem? h), g⟩
theorem uw_s {w : Cond} (i : Nat) (h : (k2_sels lw_privs)[i]? = some w) (g : goodWord w = true) : w ∈ uw := List.mem_filter.mpr ⟨List.mem_append_left _ (List.mem_of_getElem? h), g⟩
theorem uw_good {w : Cond} (h : w ∈ uw) : (w.onTables && w.keeps) = true ∨ ∃ ty, w = .arrayClass ty := good_of_word (List.mem_filter.mp h).2
theorem uw_in : GoodIn uw uw := fun w h => ⟨h, uw_good h⟩
theorem uw_inc {w : Cond} (h : w ∈ uw) : GoodIn uw (w :: uw) := fun w' h' => (List.mem_cons.mp h').elim (fun e => by rw [e]; exact ⟨h, uw_good h⟩) (fun h2 => ⟨h2, uw_good h2⟩)
/-! what lies outside and is only read -/
def us_tx : List String := ["view", "tenant", "soap", "least", "most", "size", "walls", "place", "worth", "breath", "blown", "blow", "east", "west", "run", "sell", "keep", "again"]
def us_len : List Nat := [4, 6, 4, 5, 4, 4, 5, 5, 5, 6, 5, 4, 4, 4, 3, 4, 4, 5]
def us_byt : List (List Int32) := [[118, 105, 101, 119], [116, 101, 110, 97, 110, 116], [115, 111, 97, 112], [108, 101, 97, 115, 116], [109, 111, 115, 116], [115, 105, 122, 101], [119, 97, 108, 108, 115], [112, 108, 97, 99, 101], [119, 111, 114, 116, 104], [98, 114, 101, 97, 116, 104], [98, 108, 111, 119, 110], [98, 108, 111, 119], [101, 97, 115, 116], [119, 101, 115, 116], [114, 117, 110], [115, 101, 108, 108], [107, 101, 101, 112], [97, 103, 97, 105, 110]]
def us_ref : List (String × Nat × String × Nat) := [(RX1, 53, "view", 0), (RX1, 67, "tenant", 1), (RX1, 72, "soap", 2), (RX2, 124, "least", 3), (RX2, 130, "most", 4), (RX2, 132, "size", 5), (RX2, 134, "soap", 2), (RX2, 136, "walls", 6), (RX2, 138, "place", 7), (RX2, 140, "worth", 8), (RX2, 142, "breath", 9), (RX2, 144, "blown", 10), (RX2, 146, "tenant", 1), (RX6, 79, "blow", 11), (RX6, 85, "east", 12), (RX6, 87, "west", 13), (RX6, 89, "run", 14), (RX6, 91, "sell", 15), (RX6, 93, "keep", 16), (RX6, 95, "breath", 9), (RX6, 97, "again", 17), (RX8, 179, "view", 0), (RX8, 184, "tenant", 1), (RX8, 185, "soap", 2), (RX8, 252, "least", 3), (RX8, 257, "most", 4), (RX8, 241, "size", 5), (RX8, 242, "walls", 6), (RX8, 244, "place", 7), (RX8, 246, "worth", 8), (RX8, 248, "breath", 9), (RX8, 250, "blown", 10), (RX8, 272, "blow", 11), (RX8, 274, "east", 12), (RX8, 276, "west", 13), (RX8, 278, "run", 14), (RX8, 280, "sell", 15), (RX8, 282, "keep", 16), (RX8, 284, "again", 17)]
def us_half (j : Nat) : Int32 := ([-1, 1, -1, 1, 4, 3, 4] : List Int32).getD j 0
def us_plain (j : Nat) : Int32 := ([1001, 2, 2002, 1000, 2, 2003, 2001, 1002, 2000] : List Int32).getD j 0
def us_nest : List (String × Nat × MethodName × String) := [(RX7, 287, yX1_mostWorth, RX7), (RX7, 11, yX5_init, RX7), (RX7, 20, yX1_init, RX7), (RX7, 44, yX6_init, RX7), (RX7, 63, yX3_init, RX7), (RX7, 152, yX6_performFrom, RX7)]
def us_fw : List Cond := tables_1.filter (fun w => !goodWord w && (w.keepsFace && w.onTables))
theorem us_fw_on {w : Cond} (h : w ∈ us_fw) : w.keepsFace = true ∧ w.onTables = true := by
  have h1 := (List.mem_filter.mp h).2
  simp only [Bool.and_eq_true] at h1
  exact h1.2
theorem us_fw_warm {w : Cond} (hw : w ∈ us_fw) {s U : State} (hW : s.WarmedH U.vm) (h : va_Nw w s) : va_Nw w U := va_tabs (us_fw_on hw).2 (rfl : (s.setVm U.vm).vm = U.vm) (Cond.before_shiftedFace (State.Shifted.of_warmed hW) _ (us_fw_on hw).1 h)
def uo (E : Ue) (U : State) : Prop :=
  vk_S 18 us_len us_byt (ue_aK E) (ue_aV E) (ue_A E) U U.heap ∧
  (∀ q ∈ us_ref, vk_R q.1 q.2.1 q.2.2.1 (ue_aK E q.2.2.2) U) ∧
  (va_Z RX7 "HALFPENNIES" "[I" (.ref (ue_h E)) (ue_A E) U U.heap ∧ va_T .int (ue_h E) 7 (fun j => .int (us_half j)) (ue_A E) U U.heap ∧ va_Z RX2 "PLAIN" "[I" (.ref (ue_p E)) (ue_A E) U U.heap ∧ va_T .int (ue_p E) 9 (fun j => .int (us_plain j)) (ue_A E) U U.heap) ∧
  (vx_Zq Bundle.tN "UNASSIGNED_STACK" Bundle.steD (ue_A E) U U.heap ∧ vx_Zq Bundle.tN "SUPPRESSED_SENTINEL" Bundle.listD (ue_A E) U U.heap) ∧
  (∀ q ∈ us_nest, va_Nw (.methodLinkNest q.1 q.2.1 q.2.2.1 q.2.2.2) U) ∧
  (∀ w ∈ us_fw, va_Nw w U) ∧
  va_Z "java/lang/String" "COMPACT_STRINGS" "Z" (.int 1) (ue_A E) U U.heap ∧
  va_Zq "jdk/internal/util/Preconditions" "SIOOBE_FORMATTER" "Ljava/util/function/BiFunction;" (ue_A E) U U.heap ∧ ue_ok E ∧ va_X (ue_sb E) (ue_sn E) (ue_sx E) U U.heap ∧ ¬ ue_A E (ue_sb E) ∧ va_Nc "java/lang/IllegalArgumentException" "java/util/NoSuchElementException" U
theorem va_X_lt {b n : Nat} {xs : Nat → Int32} {U : State} {H : Heap} (h : va_X b n xs U H) : b < H.size := by
  obtain ⟨scr, h1, -⟩ := h
  exact (Array.getElem?_eq_some_iff.mp h1).1
theorem uo_go {E : Ue} {s U : State} (h : uo E s) (hW : s.WarmedH U.vm) (hk : ∀ q : Nat, q < s.heap.size → ¬ ue_A E q → U.heap[q]? = s.heap[q]?) : uo E U := by
  obtain ⟨h1, h2, ⟨h3, h4, h3p, h4p⟩, ⟨h5, h6⟩, h7, h10, h8, h9, h11, h12, h13, h14⟩ := h
  have ha := hW.alike
  exact ⟨(h1.moved ha).kept hk, fun q hq => (h2 q hq).warm hW, ⟨(h3.moved ha).kept hk, (h4.moved ha).kept hk, (h3p.moved ha).kept hk, (h4p.moved ha).kept hk⟩, ⟨(h5.moved ha).kept hk, (h6.moved ha).kept hk⟩, fun q hq => (h7 q hq).warmM hW, fun w hw => us_fw_warm hw hW (h10 w hw), (h8.moved ha).kept hk, (va_Zq.moved ha h9).kept hk, h11, (h12.moved ha).kept (hk _ (va_X_lt h12) h13), h13, h14.moved ha⟩
theorem uo_same {E : Ue} {u U : State} (h : uo E u) (hv : U.vm = u.vm) (hh : U.heap = u.heap) : uo E U := by
  obtain ⟨h1, h2, ⟨h3, h4, h3p, h4p⟩, ⟨h5, h6⟩, h7, h10, h8, h9, h11, h12, h13, h14⟩ := h
  have ha : u.vm.Alike U.vm := by rw [hv]; exact Vm.Alike.refl u.vm
  have hk : ∀ q : Nat, q < u.heap.size → ¬ ue_A E q → U.heap[q]? = u.heap[q]? := fun q _ _ => by rw [hh]
  exact ⟨(h1.moved ha).kept hk, fun q hq => (h2 q hq).same hv, ⟨(h3.moved ha).kept hk, (h4.moved ha).kept hk, (h3p.moved ha).kept hk, (h4p.moved ha).kept hk⟩, ⟨(h5.moved ha).kept hk, (h6.moved ha).kept hk⟩, fun q hq => (h7 q hq).same rfl hv.symm, fun w hw => (h10 w hw).same (us_fw_on hw).2 hv.symm, (h8.moved ha).kept hk, (va_Zq.moved ha h9).kept hk, h11, (h12.moved ha).kept (hk _ (va_X_lt h12) h13), h13, h14.moved ha⟩
/-! CONTRACTS: what a method is called with, what it comes to -/
abbrev Uz : Type := (Option Value × Um) ⊕ (String × Um)
def ur (k mc ms : Nat) : Room := { frames := k, cells := mc, slots := ms, locals := 41 * k + 32 }
def up (E : Ue) (m : Um) (U : State) : Prop := va_P (ue_D E) vwCl (ul E m) U.heap ∧ va_K (ue_D E) vwCl (ue_ty E) U ∧ uo E U
def uq (E : Ue) (v : Option Value) (m : Um) : Array Value → State → Outcome → State → Prop := fun _ st oc t => oc = .returned v ∧ va_P (ue_D E) vwCl (ul E m) t.heap ∧ va_F (ue_A E) st t
def ux (E : Ue) (X : String) (m : Um) : String → State → State → Prop := fun X' st t => X' = X ∧ va_P (ue_D E) vwCl (ul E m) t.heap ∧ va_F (ue_A E) st t
/-- it returns v with the memory m1 -/
def ucr (l : Launch) (E : Ue) (k mc ms : Nat) (y : MethodName) (cc : ByteArray) (nL : Nat) (rt : Option FieldType) (as : List Value) (m : Um) (v : Option Value) (m1 : Um) : Prop :=
  l.stackTraces = false → Met l y (.code y cc nL rt :: uw) (ur k mc ms) (va_Pc as (up E m)) (uq E v m1) mc ms (ue_A E)
/-- it throws an X with the memory m1 -/
def ucx (l : Launch) (E : Ue) (k mc ms : Nat) (y : MethodName) (cc : ByteArray) (nL : Nat) (rt : Option FieldType) (as : List Value) (m : Um) (X : String) (m1 : Um) : Prop :=
  l.stackTraces = false → vx_Met l y (.code y cc nL rt :: uw) (ur k mc ms) (va_Pc as (up E m)) (fun _ _ _ _ => False) (ux E X m1) mc ms (ue_A E)
theorem up_blind (E : Ue) (m : Um) (as : List Value) : FrameBlind (va_Pc as (up E m)) := fun a U g mk q => ⟨q.1, q.2.1, va_K.moved (u := U) (U := U.calling g mk a) (Vm.Alike.refl U.vm) q.2.2.1, uo_same (u := U) (U := U.calling g mk a) q.2.2.2 rfl rfl⟩
/-- the surroundings of a walk -/
def uC (p : Program) (l : Launch) (E : Ue) (cc : ByteArray) (nL : Nat) (own : String) (rt : Option FieldType) (xt : List ExceptionTableEntry) (s : State) (m : MethodId) (args : Array Value) (meth : Method) (c : Code) : Prop :=
  p.tables.exec = Jvm.exec ∧ c.code = cc ∧ c.maxLocals = nL ∧ s.vm.findClass own = some m.cls ∧ (∀ w ∈ uw, w.before args s = true) ∧ meth.sig.returnType = rt ∧ meth.locks = false ∧ c.exceptionTable.toList = xt ∧ va_K (ue_D E) vwCl (ue_ty E) s ∧ uo E s ∧ l.stackTraces = false
/-- what is owed at the end -/
def uQ (E : Ue) (mc ms : Nat) (z : Uz) (below : List Frame) (args : Array Value) (s : State) : State → Prop := match z with
  | .inl (v, m1) => MQ below (uq E v m1) args s mc ms (ue_A E)
  | .inr (X, m1) => vx_MQ below (fun _ _ _ _ => False) (ux E X m1) args s mc ms (ue_A E)
/-- THE WALK: at pc with locals L, operands S and the memory m, the method comes to z -/
def ug (l : Launch) (E : Ue) (k mc ms : Nat) (cc : ByteArray) (nL : Nat) (own : String) (rt : Option FieldType) (xt : List ExceptionTableEntry) (z : Uz) (ce sl pc : Nat) (L : List (Nat × Value)) (S : List Value) (mem : Um) : Prop :=
  ∀ (p : Program) (e : Env) (s : State) (m : MethodId) (args : Array Value) (below : List Frame) (meth : Method) (c : Code), uC p l E cc nL own rt xt s m args meth c →
    ∀ (H : Heap) (locs : List Loc) (ls : Array Slot), va_P (ue_D E) vwCl (ul E mem) H → va_S (ue_A E) s.heap H locs → lv_has ls nL L →
      W p l e (ur k mc ms) s m args below meth c H locs ce sl (uQ E mc ms z below args s) (F0 m pc ls S)
