/-! PURE FUNCTIONS: their words -/
def UF : Nat := 3000
def UD : Nat := 16
def ugd {α : Type} (b : Bool) (t : Option α) : Option α := match b with
  | true => t
  | false => none
theorem ugd_some {α : Type} {b : Bool} {t : Option α} {z : α} (h : ugd b t = some z) : b = true ∧ t = some z := by
  cases b with
  | true => exact ⟨rfl, h⟩
  | false => cases h
def ubi {α β : Type} (o : Option (Um × α)) (f : Um → α → Option β) : Option β := match o with
  | some (m, a) => f m a
  | none => none
theorem ubi_some {α β : Type} {o : Option (Um × α)} {f : Um → α → Option β} {z : β} (h : ubi o f = some z) : ∃ m a, o = some (m, a) ∧ f m a = some z := by
  cases o with
  | none => cases h
  | some q => exact ⟨q.1, q.2, rfl, h⟩
def ubx {α β : Type} (o : Option (Um × (α ⊕ String))) (f : Um → α → Option (Um × (β ⊕ String))) : Option (Um × (β ⊕ String)) := match o with
  | some (m, .inl a) => f m a
  | some (m, .inr X) => some (m, .inr X)
  | none => none
theorem ubx_some {α β : Type} {o : Option (Um × (α ⊕ String))} {f : Um → α → Option (Um × (β ⊕ String))} {z : Um × (β ⊕ String)} (h : ubx o f = some z) : (∃ m a, o = some (m, .inl a) ∧ f m a = some z) ∨ ∃ m X, o = some (m, .inr X) ∧ (m, .inr X) = z := by
  cases o with
  | none => cases h
  | some q =>
    obtain ⟨m, s⟩ := q
    cases s with
    | inl a => exact Or.inl ⟨m, a, rfl, h⟩
    | inr X => exact Or.inr ⟨m, X, rfl, Option.some.inj h⟩
def uin (i : Int32) (n : Nat) : Bool := decide (¬ (i < 0 ∨ n ≤ i.toNatClampNeg))
theorem uin_ok {i : Int32} {n : Nat} (h : uin i n = true) : vp_in i n := of_decide_eq_true (p := ¬ (i < 0 ∨ n ≤ i.toNatClampNeg)) h
def unz (y : Int32) : Bool := decide (¬ y = 0)
def unzl (y : Int64) : Bool := decide (¬ y = 0)
def ub01 (r : Int32) : Bool := decide (r = 0 ∨ r = 1)
abbrev uus (x y : Int32) : Int32 := (x.toUInt32 >>> (y.toUInt32 &&& Int32.toUInt32 31)).toInt32
abbrev ummax (x y : Int32) : Int32 := if x < y then y else x
abbrev ummin (x y : Int32) : Int32 := if y < x then y else x
abbrev umabs (x : Int32) : Int32 := if 0 ≤ x then x else 0 - x
def ucp_ok (sp dp n : Int32) (l0 l1 : Nat) : Bool := decide ((¬ sp < 0) ∧ (¬ dp < 0) ∧ (¬ n < 0) ∧ sp.toNatClampNeg + n.toNatClampNeg ≤ l0 ∧ dp.toNatClampNeg + n.toNatClampNeg ≤ l1)
def um_cp (m : Um) (c0 : Nat) (sp : Int32) (c1 : Nat) (dp n : Int32) : Um := um_wa m c1 (va_cpy (m c0) (m c1) sp.toNatClampNeg dp.toNatClampNeg n.toNatClampNeg)
abbrev uz_i (z : Um × Int32) : Uz := .inl (some (.int z.2), z.1)
abbrev uz_l (z : Um × Int64) : Uz := .inl (some (.long z.2), z.1)
abbrev uz_v (z : Um × Unit) : Uz := .inl (none, z.1)
def uzx_i (z : Um × (Int32 ⊕ String)) : Uz := match z.2 with
  | .inl r => .inl (some (.int r), z.1)
  | .inr X => .inr (X, z.1)
def uzx_l (z : Um × (Int64 ⊕ String)) : Uz := match z.2 with
  | .inl r => .inl (some (.long r), z.1)
  | .inr X => .inr (X, z.1)
def uzx_v (z : Um × (Unit ⊕ String)) : Uz := match z.2 with
  | .inl _ => .inl (none, z.1)
  | .inr X => .inr (X, z.1)
def uzc {α : Type} (z : Um × (α ⊕ String)) : Nat := match z.2 with
  | .inl _ => 0
  | .inr _ => 1
def uzs {α : Type} (z : Um × (α ⊕ String)) : Nat := match z.2 with
  | .inl _ => 0
  | .inr _ => 6
def us_l (w : Nat) : Int32 := Int32.ofNat (us_len.getD w 0)
def us_c (w : Nat) (i : Int32) : Int32 := (us_byt.getD w []).getD i.toNatClampNeg 0
/-! cells by a name -/
theorem sk_r0 {o : Nat} (h : o = 23 ∨ o = 25) : udr o 4 0 3 := by rcases h with rfl | rfl <;> exact ⟨_, rfl, rfl⟩
theorem sk_r1 {o : Nat} (h : o = 23 ∨ o = 25) : udr o 4 1 13 := by rcases h with rfl | rfl <;> exact ⟨_, rfl, rfl⟩
theorem sk_r2 {o : Nat} (h : o = 23 ∨ o = 25) : udr o 4 2 (o + 1) := by rcases h with rfl | rfl <;> exact ⟨_, rfl, rfl⟩
theorem sk_a {o : Nat} (h : o = 23 ∨ o = 25) : ud_all[o + 1]? = some (.inr (0, 28)) := by rcases h with rfl | rfl <;> rfl
theorem sk_o {o : Nat} (h : o = 23 ∨ o = 25) : uro o RX4 := by rcases h with rfl | rfl <;> exact ⟨_, _, _, _, rfl, rfl⟩
theorem pa_r0 {o : Nat} (h : o = 27 ∨ o = 30 ∨ o = 32 ∨ o = 34) : udr o 3 0 (o + 1) := by rcases h with rfl | rfl | rfl | rfl <;> exact ⟨_, rfl, rfl⟩
theorem pa_i1 {o : Nat} (h : o = 27 ∨ o = 30 ∨ o = 32 ∨ o = 34) : udi o 3 1 := by rcases h with rfl | rfl | rfl | rfl <;> exact ⟨_, rfl, rfl⟩
theorem pa_a {o : Nat} (h : o = 27 ∨ o = 30 ∨ o = 32 ∨ o = 34) : ud_all[o + 1]? = some (.inr (0, 476)) := by rcases h with rfl | rfl | rfl | rfl <;> rfl
theorem pa_o {o : Nat} (h : o = 27 ∨ o = 30 ∨ o = 32 ∨ o = 34) : uro o RX3 := by rcases h with rfl | rfl | rfl | rfl <;> exact ⟨_, _, _, _, rfl, rfl⟩
theorem pa_of {i : Int32} (h : vp_in i 3) : 30 + 2 * i.toNatClampNeg = 27 ∨ 30 + 2 * i.toNatClampNeg = 30 ∨ 30 + 2 * i.toNatClampNeg = 32 ∨ 30 + 2 * i.toNatClampNeg = 34 := by
  have h2 : i.toNatClampNeg < 3 := Nat.lt_of_not_le (fun q => h (Or.inr q))
  omega
/-! a copy out of a static array of nine ints, over any world -/
section UCP
variable {p : Program} {l : Launch} {e : Env} {R : Room} {s : State} {m : MethodId} {args : Array Value} {below : List Frame} {meth : Method} {c : Code} {H : Heap} {locs : List Loc} {cells slots : Nat} {Q : State → Prop}
theorem ua_copyP {cc : ByteArray} {pc : Nat} {ls : Array Slot} {rest : List Value} {D : va_G} {cl : List vw_C} {A : Nat → Prop} {a b0 : Nat} {tys : List (ClassId × FieldType)} {ws : va_W} {own : String} {index : Nat} {f g : Nat → Int32} {c1 : ClassId} {n1 : Nat} (hexec : p.tables.exec = Jvm.exec) (hb : c.code = cc) (hml : c.maxLocals = ls.size) (hown : s.vm.findClass own = some m.cls) (hw : (Cond.methodLink own index arraycopyName).before args s = true ∧ (Cond.native arraycopyName).before args s = true ∧ (Cond.static arraycopyName).before args s = true ∧ (Cond.initialized "java/lang/System").before args s = true)
    (hK : va_K D cl tys s) (hP : va_P D cl ws H) (hD : va_D A ws) (hS : va_S A s.heap H locs) (hT : va_T .int b0 9 (fun j => .int (f j)) A s s.heap) (q1 t1 : Nat) (ha1 : ws[q1]? = some (a, .inl (c1, n1, .inl g))) (ht1 : tys[t1]? = some (c1, .int)) (h9 : 9 ≤ n1)
    (hframes : 1 ≤ R.frames) (hlocals : (rest.map fun v => v.category).sum + (nativeFrameWords "java/lang/System" "arraycopy" 5 + 11) ≤ R.locals) (hdg : decode cc pc = .ok (.invokestatic index, 3))
    (kk : ∀ (H1 : Heap) (locs1 : List Loc), va_P D cl (ws.set q1 (a, .inl (c1, n1, .inl (va_cpy f g 0 0 9)))) H1 → va_D A (ws.set q1 (a, .inl (c1, n1, .inl (va_cpy f g 0 0 9)))) → va_S A s.heap H1 locs1 → W p l e R s m args below meth c H1 locs1 cells slots Q (F0 m (pc + 3) ls rest)) : W p l e R s m args below meth c H locs cells slots Q (F0 m pc ls (.int 9 :: .int 0 :: .ref a :: .int 0 :: .ref b0 :: rest)) := by
  intro T hT0 X
  obtain ⟨scr, g1, g2, g3, g4, -, g6, g7⟩ := hT
  obtain ⟨g8, k0, hk0, cm0, hkk0⟩ := g2
  have hlt : b0 < s.heap.size := (Array.getElem?_eq_some_iff.mp g1).1
  have hc0 : H[b0]? = some scr := (hS.2.1 b0 hlt g7).trans g1
  have hc1 : H[a]? = some (vp_cell c1 (n1, .inl g)) := hP q1 _ ha1
  obtain ⟨-, k1, hk1, cm1, hkk1⟩ := (hK.2 t1 _ ht1).1 n1 (fun j => .int (g j))
  have hsz : (vp_cell c1 (n1, .inl g)).slots.size = n1 := arrV_size _ _ _
  have e9 : (9 : Int32).toInt = 9 := by decide
  have e0 : (0 : Int32).toInt = 0 := by decide
  have n9 : (9 : Int32).toNatClampNeg = 9 := by decide
  have n0 : (0 : Int32).toNatClampNeg = 0 := by decide
  obtain ⟨vm', X', step⟩ := X.arraycopy hexec hown hw.1 hw.2.1 hw.2.2.1 hw.2.2.2 (src := b0) (dst := a) (cs := scr) (cd := vp_cell c1 (n1, .inl g)) (srcPos := 0) (destPos := 0) (n := 9) (by rw [hT0]; exact hc0) (by rw [hT0]; exact hc1)
    g8 (fun _ h => by cases h) g3 (fun h => by cases h) hk0 hk1 hkk0 hkk1 (by simp [refKind]) (by decide) (by decide) (by decide)
    (by rw [e0, e9]; omega) (by rw [e0, e9, hsz]; omega)
    (fun vm₁ _ i hi => by
      rw [n9] at hi
      have e : scr.slots.getD ((0 : Int32).toNatClampNeg + i) .null = .int (f i) := by
        rw [n0, Nat.zero_add, Array.getD_eq_getD_getElem?, g6 i hi]
        rfl
      rw [e]
      exact ⟨rfl, trivial⟩)
    (g := F0 m pc ls (.int 9 :: .int 0 :: .ref a :: .int 0 :: .ref b0 :: rest)) rfl (by rw [hml]) (rest := rest) rfl (by rw [hb]; exact hdg) hframes (by show 2 * 0 + _ + _ ≤ _; omega)
  have e1 : copied scr (vp_cell c1 (n1, .inl g)) 0 0 9 = vp_cell c1 (n1, .inl (va_cpy f g 0 0 9)) := va_copiedX (fun z => .int z) scr c1 (n0 := 9) (sp := 0) (dp := 0) (n := 9) f g g6 (Nat.le_refl 9)
  rw [e1] at X' step
  have hl : a < H.size := (Array.getElem?_eq_some_iff.mp hc1).1
  have hA : A a := hD.2 q1 _ ha1
  generalize hnc : vp_cell c1 (n1, .inl (va_cpy f g 0 0 9)) = nc at X' step
  have hheap : ((T.setVm vm').setCell a nc).heap = H.setIfInBounds a nc := by rw [← hT0]; rfl
  have oq : ∀ q : Nat, q ≠ a → (H.setIfInBounds a nc)[q]? = H[q]? := fun q hq => by simp [Array.getElem?_setIfInBounds, Ne.symm hq]
  have ha : (H.setIfInBounds a nc)[a]? = some (vp_cell c1 (n1, .inl (va_cpy f g 0 0 9))) := by rw [hnc]; simp [Array.getElem?_setIfInBounds, hl]
  obtain ⟨t, a1, b1⟩ := kk _ _ (hP.set hD ha1 ha oq) (hD.set ha1) ⟨by simp; exact hS.1, fun q h1 h2 => (oq q (fun e => h2 (by rw [e]; exact hA))).trans (hS.2.1 q h1 h2), fun q hq => by
      rcases List.mem_append.mp hq with h | h
      · exact hS.2.2 q h
      · obtain ⟨z, -, hz⟩ := List.mem_map.mp h
        rw [← hz]
        exact hA⟩ _ hheap X'
  exact ⟨t, step t a1, b1⟩
end UCP
def um_pl (m : Um) (o : Nat) : Um := um_wa m o (va_cpy us_plain (m o) 0 0 9)
section UGF
variable {l : Launch} {E : Ue} {k mc ms : Nat} {cc : ByteArray} {nL : Nat} {own : String} {rt : Option FieldType} {xt : List ExceptionTableEntry} {z : Uz} {ce sl pc : Nat} {L : List (Nat × Value)} {S S0 : List Value} {mem : Um}
theorem ug_ialdK {o n j : Nat} {i : Int32} (hs : ud_all[o]? = some (.inr (0, n))) (hin : vp_in i n) (hj : i.toNatClampNeg = j) (hd : decode cc pc = .ok (.iaload, 1)) (h : ug l E k mc ms cc nL own rt xt z ce sl (pc + 1) L (.int (mem o j) :: S) mem) : ug l E k mc ms cc nL own rt xt z ce sl pc L (.int i :: .ref (ue_d E o) :: S) mem := by
  subst hj; exact ug_iald hs hin hd h
theorem ug_iastK {o n j : Nat} {i x : Int32} (hs : ud_all[o]? = some (.inr (0, n))) (hin : vp_in i n) (hj : i.toNatClampNeg = j) (hd : decode cc pc = .ok (.iastore, 1)) (h : ug l E k mc ms cc nL own rt xt z ce sl (pc + 1) L S (um_w mem o j x)) : ug l E k mc ms cc nL own rt xt z ce sl pc L (.int x :: .int i :: .ref (ue_d E o) :: S) mem := by
  subst hj; exact ug_iast hs hin hd h
theorem ug_zaldK {o n j : Nat} {i : Int32} (hs : ud_all[o]? = some (.inr (1, n))) (hin : vp_in i n) (hj : i.toNatClampNeg = j) (hd : decode cc pc = .ok (.baload, 1)) (h : ug l E k mc ms cc nL own rt xt z ce sl (pc + 1) L (.int (mem o j) :: S) mem) : ug l E k mc ms cc nL own rt xt z ce sl pc L (.int i :: .ref (ue_d E o) :: S) mem := by
  subst hj; exact ug_zald hs hin hd h
/-! switches -/
theorem ug_tswI {dflt lo hi : Int} {offs : Array Int} {len : Nat} {x : Int32} {off : Int} (tgt : Nat) (hd : decode cc pc = .ok (.tableswitch dflt lo hi offs, len)) (h1 : ¬ x.toInt < lo) (h2 : ¬ hi < x.toInt) (ho : offs[(x.toInt - lo).toNat]? = some off) (ht : (pc : Int) + off = (tgt : Int)) (h : ug l E k mc ms cc nL own rt xt z ce sl tgt L S mem) : ug l E k mc ms cc nL own rt xt z ce sl pc L (.int x :: S) mem :=
  fun p e s m args below meth c C H locs ls hP hS hl => lv_tableIn C.1 C.2.1 hd h1 h2 ho ht (h p e s m args below meth c C H locs ls hP hS hl)
theorem ug_tswO {dflt lo hi : Int} {offs : Array Int} {len : Nat} {x : Int32} (tgt : Nat) (hd : decode cc pc = .ok (.tableswitch dflt lo hi offs, len)) (h1 : x.toInt < lo ∨ hi < x.toInt) (ht : (pc : Int) + dflt = (tgt : Int)) (h : ug l E k mc ms cc nL own rt xt z ce sl tgt L S mem) : ug l E k mc ms cc nL own rt xt z ce sl pc L (.int x :: S) mem :=
  fun p e s m args below meth c C H locs ls hP hS hl => lv_tableOut C.1 C.2.1 hd h1 ht (h p e s m args below meth c C H locs ls hP hS hl)
theorem ug_lsw {dflt : Int} {ps : Array (Int × Int)} {len : Nat} {x : Int32} {off : Int} (tgt : Nat) (hd : decode cc pc = .ok (.lookupswitch dflt ps, len)) (hp : (ps.toList.zip (ps.toList.drop 1)).all (fun (a, next) => a.1 < next.1) = true) (ho : Op.lookupswitch.offset ps.toList dflt x.toInt = off) (ht : (pc : Int) + off = (tgt : Int)) (h : ug l E k mc ms cc nL own rt xt z ce sl tgt L S mem) : ug l E k mc ms cc nL own rt xt z ce sl pc L (.int x :: S) mem :=
  fun p e s m args below meth c C H locs ls hP hS hl => lv_lookup C.1 C.2.1 hd hp ho ht (h p e s m args below meth c C H locs ls hP hS hl)
/-! the library's own -/
theorem ug_mmax {i : Nat} {x y : Int32} (hw : Cond.methodLink own i Lib.Math.max.name ∈ uw ∧ Cond.static Lib.Math.max.name ∈ uw ∧ Cond.initialized "java/lang/Math" ∈ uw ∧ Cond.code Lib.Math.max.name Lib.Math.max.code 2 (some .int) ∈ uw) (hk : 1 ≤ k) (hr : (S.map fun v => v.category).sum + 13 ≤ 41 * k + 32) (hd : decode cc pc = .ok (.invokestatic i, 3)) (h : ug l E k mc ms cc nL own rt xt z 0 0 (pc + 3) L (.int (ummax x y) :: S) mem) : ug l E k mc ms cc nL own rt xt z 0 0 pc L (.int y :: .int x :: S) mem :=
  fun p e s m args below meth c C H locs ls hP hS hl => va_mmax C.1 C.2.1 (C.2.2.1.trans hl.1.symm) C.2.2.2.1 (C.2.2.2.2.1 _ hw.1) (C.2.2.2.2.1 _ hw.2.1) (C.2.2.2.2.1 _ hw.2.2.1) (C.2.2.2.2.1 _ hw.2.2.2) hk hr (Nat.zero_le _) (Nat.zero_le _) hd (h p e s m args below meth c C H locs ls hP hS hl)
theorem ug_mmin {i : Nat} {x y : Int32} (hw : Cond.methodLink own i Lib.Math.min.name ∈ uw ∧ Cond.static Lib.Math.min.name ∈ uw ∧ Cond.initialized "java/lang/Math" ∈ uw ∧ Cond.code Lib.Math.min.name Lib.Math.min.code 2 (some .int) ∈ uw) (hk : 1 ≤ k) (hr : (S.map fun v => v.category).sum + 13 ≤ 41 * k + 32) (hd : decode cc pc = .ok (.invokestatic i, 3)) (h : ug l E k mc ms cc nL own rt xt z 0 0 (pc + 3) L (.int (ummin x y) :: S) mem) : ug l E k mc ms cc nL own rt xt z 0 0 pc L (.int y :: .int x :: S) mem :=
  fun p e s m args below meth c C H locs ls hP hS hl => va_mmin C.1 C.2.1 (C.2.2.1.trans hl.1.symm) C.2.2.2.1 (C.2.2.2.2.1 _ hw.1) (C.2.2.2.2.1 _ hw.2.1) (C.2.2.2.2.1 _ hw.2.2.1) (C.2.2.2.2.1 _ hw.2.2.2) hk hr (Nat.zero_le _) (Nat.zero_le _) hd (h p e s m args below meth c C H locs ls hP hS hl)
theorem ug_mabs {i : Nat} {x : Int32} (hw : Cond.methodLink own i Lib.Math.abs.name ∈ uw ∧ Cond.static Lib.Math.abs.name ∈ uw ∧ Cond.initialized "java/lang/Math" ∈ uw ∧ Cond.code Lib.Math.abs.name Lib.Math.abs.code 1 (some .int) ∈ uw) (hk : 1 ≤ k) (hr : (S.map fun v => v.category).sum + 13 ≤ 41 * k + 32) (hd : decode cc pc = .ok (.invokestatic i, 3)) (h : ug l E k mc ms cc nL own rt xt z 0 0 (pc + 3) L (.int (umabs x) :: S) mem) : ug l E k mc ms cc nL own rt xt z 0 0 pc L (.int x :: S) mem :=
  fun p e s m args below meth c C H locs ls hP hS hl => va_mabs C.1 C.2.1 (C.2.2.1.trans hl.1.symm) C.2.2.2.1 (C.2.2.2.2.1 _ hw.1) (C.2.2.2.2.1 _ hw.2.1) (C.2.2.2.2.1 _ hw.2.2.1) (C.2.2.2.2.1 _ hw.2.2.2) hk hr (Nat.zero_le _) (Nat.zero_le _) hd (h p e s m args below meth c C H locs ls hP hS hl)
theorem ug_copy {i : Nat} {o0 o1 n0 n1 : Nat} {sp dp n : Int32} (hw : Cond.methodLink own i arraycopyName ∈ uw ∧ Cond.native arraycopyName ∈ uw ∧ Cond.static arraycopyName ∈ uw ∧ Cond.initialized "java/lang/System" ∈ uw) (hs0 : ud_all[o0]? = some (.inr (0, n0))) (hs1 : ud_all[o1]? = some (.inr (0, n1))) (hg : ucp_ok sp dp n n0 n1 = true) (hk : 1 ≤ k) (hr : (S.map fun v => v.category).sum + (nativeFrameWords "java/lang/System" "arraycopy" 5 + 11) ≤ 41 * k + 32) (hd : decode cc pc = .ok (.invokestatic i, 3)) (h : ug l E k mc ms cc nL own rt xt z ce sl (pc + 3) L S (um_cp mem o0 sp o1 dp n)) : ug l E k mc ms cc nL own rt xt z ce sl pc L (.int n :: .int dp :: .ref (ue_d E o1) :: .int sp :: .ref (ue_d E o0) :: S) mem := by
  intro p e s m args below meth c C H locs ls hP hS hl
  obtain ⟨g1, g2, g3, g4, g5⟩ := of_decide_eq_true hg
  refine va_copyi C.1 C.2.1 (C.2.2.1.trans hl.1.symm) C.2.2.2.1 (C.2.2.2.2.1 _ hw.1) (C.2.2.2.2.1 _ hw.2.1) (C.2.2.2.2.1 _ hw.2.2.1) (C.2.2.2.2.1 _ hw.2.2.2) C.2.2.2.2.2.2.2.2.1 hP (ul_D C.2.2.2.2.2.2.2.2.2.1.2.2.2.2.2.2.2.2.1 mem) hS o0 o1 0 0 (c0 := ue_cI E) (c1 := ue_cI E) (n0 := n0) (n1 := n1) (f := mem o0) (g := mem o1) (ty := .int) (ul_get E mem hs0) (ul_get E mem hs1) rfl rfl rfl g1 g2 g3 g4 g5 (fun _ _ => rfl) hk hr hd (fun H1 locs1 hP1 _ hS1 => ?_)
  have e1 : (ul E mem).set o1 (ue_d E o1, .inl (ue_cI E, n1, .inl (va_cpy (mem o0) (mem o1) sp.toNatClampNeg dp.toNatClampNeg n.toNatClampNeg))) = ul E (um_cp mem o0 sp o1 dp n) := ul_set E mem _ hs1
  rw [e1] at hP1
  exact h p e s m args below meth c C H1 locs1 ls hP1 hS1 hl
theorem ug_copyP {i o1 n1 : Nat} (hw : Cond.methodLink own i arraycopyName ∈ uw ∧ Cond.native arraycopyName ∈ uw ∧ Cond.static arraycopyName ∈ uw ∧ Cond.initialized "java/lang/System" ∈ uw) (hs1 : ud_all[o1]? = some (.inr (0, n1))) (h9 : 9 ≤ n1) (hk : 1 ≤ k) (hr : (S.map fun v => v.category).sum + (nativeFrameWords "java/lang/System" "arraycopy" 5 + 11) ≤ 41 * k + 32) (hd : decode cc pc = .ok (.invokestatic i, 3)) (h : ug l E k mc ms cc nL own rt xt z ce sl (pc + 3) L S (um_pl mem o1)) : ug l E k mc ms cc nL own rt xt z ce sl pc L (.int 9 :: .int 0 :: .ref (ue_d E o1) :: .int 0 :: .ref (ue_p E) :: S) mem := by
  intro p e s m args below meth c C H locs ls hP hS hl
  refine ua_copyP C.1 C.2.1 (C.2.2.1.trans hl.1.symm) C.2.2.2.1 ⟨C.2.2.2.2.1 _ hw.1, C.2.2.2.2.1 _ hw.2.1, C.2.2.2.2.1 _ hw.2.2.1, C.2.2.2.2.1 _ hw.2.2.2⟩ C.2.2.2.2.2.2.2.2.1 hP (ul_D C.2.2.2.2.2.2.2.2.2.1.2.2.2.2.2.2.2.2.1 mem) hS C.2.2.2.2.2.2.2.2.2.1.2.2.1.2.2.2 o1 0 (c1 := ue_cI E) (n1 := n1) (g := mem o1) (ul_get E mem hs1) rfl h9 hk hr hd (fun H1 locs1 hP1 _ hS1 => ?_)
  have e1 : (ul E mem).set o1 (ue_d E o1, .inl (ue_cI E, n1, .inl (va_cpy us_plain (mem o1) 0 0 9))) = ul E (um_pl mem o1) := ul_set E mem _ hs1
  rw [e1] at hP1
  exact h p e s m args below meth c C H1 locs1 ls hP1 hS1 hl
theorem ug_ldcSw {i : Nat} {tx : String} {n : Nat} (q : Nat) (hq : us_ref[q]? = some (own, i, tx, n)) (hd : decode cc pc = .ok (.ldc_w i, 3)) (h : ug l E k mc ms cc nL own rt xt z ce sl (pc + 3) L (.ref (ue_aK E n) :: S) mem) : ug l E k mc ms cc nL own rt xt z ce sl pc L S mem := by
  intro p e s m args below meth c C H locs ls hP hS hl
  have hZ := C.2.2.2.2.2.2.2.2.2.1.2.1 _ (List.mem_of_getElem? hq)
  intro T hT X
  obtain ⟨t, a1, b1⟩ := h p e s m args below meth c C H locs ls hP hS hl T hT X
  refine ⟨t, ?_, b1⟩
  obtain ⟨k', cf, i', a', hk, hcf, hcp, -, hr, hev⟩ := Cond.stringRef_spec C.2.2.2.1 hZ.1
  cases hZ.2.symm.trans hev
  obtain ⟨k2, hk2, he⟩ := X.warmed.alike.2.2 _ _ hk
  have hr' : k2.resolved[i]? = some (some (.string (ue_aK E n))) := by
    rcases X.warmed.entry hk hk2 i with h | ⟨h, -⟩
    · rw [h]; exact hr
    · rw [hr] at h; cases h
  have hdc : decode c.code pc = .ok (.ldc_w i, 3) := by rw [C.2.1]; exact hd
  jvm_step X.here [C.1, hdc, ldc_w.wp_string (e := e) (s := T) (f := F0 m pc ls S) X.here.top hk2 (by rw [he]; exact hcf) hcp hr']
  exact a1
end UGF
section UGV
variable {l : Launch} {E : Ue} {k mc ms : Nat} {cc : ByteArray} {nL : Nat} {own : String} {rt : Option FieldType} {xt : List ExceptionTableEntry} {z : Uz} {ce sl pc : Nat} {L : List (Nat × Value)} {S S0 : List Value} {mem : Um}
variable {k1 : Nat} {y : MethodName} {cc1 : ByteArray} {nL1 : Nat} {rt1 : Option FieldType} {m1 : Um} {n i o : Nat} {C0 host : String}
theorem ug_callVi {r : Int32} (As : List Value) (hM : ucr l E k1 0 0 y cc1 nL1 rt1 (.ref (ue_d E o) :: As) mem (some (.int r)) m1) (hw : uwv own i C0 y cc1 nL1 rt1 n) (ho : uro o C0) (hn : As.length = n) (hst : S0 = As.reverse ++ .ref (ue_d E o) :: S) (hr : (S.map fun v => v.category).sum ≤ 8) (hk : k1 + 1 ≤ k) (hl1 : nL1 ≤ 21) (hd : decode cc pc = .ok (.invokevirtual i, 3)) (h : ug l E k mc ms cc nL own rt xt z 0 0 (pc + 3) L (.int r :: S) m1) : ug l E k mc ms cc nL own rt xt z 0 0 pc L S0 mem := ug_callV As hM hw ho hn hst hr hk hl1 ⟨Nat.zero_le _, Nat.zero_le _⟩ hd h
theorem ug_callVl {r : Int64} (As : List Value) (hM : ucr l E k1 0 0 y cc1 nL1 rt1 (.ref (ue_d E o) :: As) mem (some (.long r)) m1) (hw : uwv own i C0 y cc1 nL1 rt1 n) (ho : uro o C0) (hn : As.length = n) (hst : S0 = As.reverse ++ .ref (ue_d E o) :: S) (hr : (S.map fun v => v.category).sum ≤ 8) (hk : k1 + 1 ≤ k) (hl1 : nL1 ≤ 21) (hd : decode cc pc = .ok (.invokevirtual i, 3)) (h : ug l E k mc ms cc nL own rt xt z 0 0 (pc + 3) L (.long r :: S) m1) : ug l E k mc ms cc nL own rt xt z 0 0 pc L S0 mem := ug_callV As hM hw ho hn hst hr hk hl1 ⟨Nat.zero_le _, Nat.zero_le _⟩ hd h
theorem ug_callVv (As : List Value) (hM : ucr l E k1 0 0 y cc1 nL1 rt1 (.ref (ue_d E o) :: As) mem none m1) (hw : uwv own i C0 y cc1 nL1 rt1 n) (ho : uro o C0) (hn : As.length = n) (hst : S0 = As.reverse ++ .ref (ue_d E o) :: S) (hr : (S.map fun v => v.category).sum ≤ 8) (hk : k1 + 1 ≤ k) (hl1 : nL1 ≤ 21) (hd : decode cc pc = .ok (.invokevirtual i, 3)) (h : ug l E k mc ms cc nL own rt xt z 0 0 (pc + 3) L S m1) : ug l E k mc ms cc nL own rt xt z 0 0 pc L S0 mem := ug_callV As hM hw ho hn hst hr hk hl1 ⟨Nat.zero_le _, Nat.zero_le _⟩ hd h
theorem ug_callSi {r : Int32} (As : List Value) (hM : ucr l E k1 0 0 y cc1 nL1 rt1 As mem (some (.int r)) m1) (hw : uws own i y cc1 nL1 rt1 n) (hn : As.length = n) (hst : S0 = As.reverse ++ S) (hr : (S.map fun v => v.category).sum ≤ 8) (hk : k1 + 1 ≤ k) (hl1 : nL1 ≤ 21) (hd : decode cc pc = .ok (.invokestatic i, 3)) (h : ug l E k mc ms cc nL own rt xt z 0 0 (pc + 3) L (.int r :: S) m1) : ug l E k mc ms cc nL own rt xt z 0 0 pc L S0 mem := ug_callS As hM hw hn hst hr hk hl1 ⟨Nat.zero_le _, Nat.zero_le _⟩ hd h
theorem ug_callSl {r : Int64} (As : List Value) (hM : ucr l E k1 0 0 y cc1 nL1 rt1 As mem (some (.long r)) m1) (hw : uws own i y cc1 nL1 rt1 n) (hn : As.length = n) (hst : S0 = As.reverse ++ S) (hr : (S.map fun v => v.category).sum ≤ 8) (hk : k1 + 1 ≤ k) (hl1 : nL1 ≤ 21) (hd : decode cc pc = .ok (.invokestatic i, 3)) (h : ug l E k mc ms cc nL own rt xt z 0 0 (pc + 3) L (.long r :: S) m1) : ug l E k mc ms cc nL own rt xt z 0 0 pc L S0 mem := ug_callS As hM hw hn hst hr hk hl1 ⟨Nat.zero_le _, Nat.zero_le _⟩ hd h
theorem ug_callSv (As : List Value) (hM : ucr l E k1 0 0 y cc1 nL1 rt1 As mem none m1) (hw : uws own i y cc1 nL1 rt1 n) (hn : As.length = n) (hst : S0 = As.reverse ++ S) (hr : (S.map fun v => v.category).sum ≤ 8) (hk : k1 + 1 ≤ k) (hl1 : nL1 ≤ 21) (hd : decode cc pc = .ok (.invokestatic i, 3)) (h : ug l E k mc ms cc nL own rt xt z 0 0 (pc + 3) L S m1) : ug l E k mc ms cc nL own rt xt z 0 0 pc L S0 mem := ug_callS As hM hw hn hst hr hk hl1 ⟨Nat.zero_le _, Nat.zero_le _⟩ hd h
theorem ug_callNi {r : Int32} (q : Nat) (hq : us_nest[q]? = some (own, i, y, host)) (As : List Value) (hM : ucr l E k1 0 0 y cc1 nL1 rt1 (.ref (ue_d E o) :: As) mem (some (.int r)) m1) (hw : (Cond.instanceMethod y ∈ uw ∧ Cond.selects C0 y y ∈ uw ∧ Cond.initialized y.cls ∈ uw ∧ Cond.code y cc1 nL1 rt1 ∈ uw) ∧ y.cls ≠ "java/lang/invoke/MethodHandle" ∧ y.cls ≠ "java/lang/invoke/VarHandle" ∧ (parseMethodDescriptor y.desc).map (fun d => d.parameters.length) = some n) (ho : uro o C0) (hn : As.length = n) (hst : S0 = As.reverse ++ .ref (ue_d E o) :: S) (hr : (S.map fun v => v.category).sum ≤ 8) (hk : k1 + 1 ≤ k) (hl1 : nL1 ≤ 21) (hd : decode cc pc = .ok (.invokevirtual i, 3)) (h : ug l E k mc ms cc nL own rt xt z 0 0 (pc + 3) L (.int r :: S) m1) : ug l E k mc ms cc nL own rt xt z 0 0 pc L S0 mem := ug_callN q hq As hM hw ho hn hst hr hk hl1 ⟨Nat.zero_le _, Nat.zero_le _⟩ hd h
theorem ug_callNl {r : Int64} (q : Nat) (hq : us_nest[q]? = some (own, i, y, host)) (As : List Value) (hM : ucr l E k1 0 0 y cc1 nL1 rt1 (.ref (ue_d E o) :: As) mem (some (.long r)) m1) (hw : (Cond.instanceMethod y ∈ uw ∧ Cond.selects C0 y y ∈ uw ∧ Cond.initialized y.cls ∈ uw ∧ Cond.code y cc1 nL1 rt1 ∈ uw) ∧ y.cls ≠ "java/lang/invoke/MethodHandle" ∧ y.cls ≠ "java/lang/invoke/VarHandle" ∧ (parseMethodDescriptor y.desc).map (fun d => d.parameters.length) = some n) (ho : uro o C0) (hn : As.length = n) (hst : S0 = As.reverse ++ .ref (ue_d E o) :: S) (hr : (S.map fun v => v.category).sum ≤ 8) (hk : k1 + 1 ≤ k) (hl1 : nL1 ≤ 21) (hd : decode cc pc = .ok (.invokevirtual i, 3)) (h : ug l E k mc ms cc nL own rt xt z 0 0 (pc + 3) L (.long r :: S) m1) : ug l E k mc ms cc nL own rt xt z 0 0 pc L S0 mem := ug_callN q hq As hM hw ho hn hst hr hk hl1 ⟨Nat.zero_le _, Nat.zero_le _⟩ hd h
theorem ug_callNv (q : Nat) (hq : us_nest[q]? = some (own, i, y, host)) (As : List Value) (hM : ucr l E k1 0 0 y cc1 nL1 rt1 (.ref (ue_d E o) :: As) mem none m1) (hw : (Cond.instanceMethod y ∈ uw ∧ Cond.selects C0 y y ∈ uw ∧ Cond.initialized y.cls ∈ uw ∧ Cond.code y cc1 nL1 rt1 ∈ uw) ∧ y.cls ≠ "java/lang/invoke/MethodHandle" ∧ y.cls ≠ "java/lang/invoke/VarHandle" ∧ (parseMethodDescriptor y.desc).map (fun d => d.parameters.length) = some n) (ho : uro o C0) (hn : As.length = n) (hst : S0 = As.reverse ++ .ref (ue_d E o) :: S) (hr : (S.map fun v => v.category).sum ≤ 8) (hk : k1 + 1 ≤ k) (hl1 : nL1 ≤ 21) (hd : decode cc pc = .ok (.invokevirtual i, 3)) (h : ug l E k mc ms cc nL own rt xt z 0 0 (pc + 3) L S m1) : ug l E k mc ms cc nL own rt xt z 0 0 pc L S0 mem := ug_callN q hq As hM hw ho hn hst hr hk hl1 ⟨Nat.zero_le _, Nat.zero_le _⟩ hd h
end UGV
/-- throw new X() -/
def utw (own : String) (ik ic : Nat) (X : String) : Prop := Cond.classLink own ik X ∈ uw ∧ Cond.initialized X ∈ uw ∧ Bundle.fit X = true ∧ (∀ w ∈ (vx_at0 own ic X ["java/lang/RuntimeException", "java/lang/Exception"]).filter goodWord, w ∈ uw) ∧ (∀ w ∈ (vx_at0 own ic X ["java/lang/RuntimeException", "java/lang/Exception"]).filter (fun w => !goodWord w), w ∈ us_fw) ∧ ∀ w ∈ Cond.classLink own ik X :: Cond.initialized X :: vx_at0 own ic X ["java/lang/RuntimeException", "java/lang/Exception"], vx_ot w = true
theorem uw_all {L : List Cond} (h : L.all (fun w => decide (w ∈ lw_tbl) && goodWord w) = true) : ∀ w ∈ L, w ∈ uw := by
  intro w hw
  have h1 := List.all_eq_true.mp h w hw
  simp only [Bool.and_eq_true, decide_eq_true_eq] at h1
  exact List.mem_filter.mpr h1
theorem utw_c {L : List Cond} (h : L.all (fun w => decide (w ∈ tables_1) && (!goodWord w && (w.keepsFace && w.onTables))) = true) : ∀ w ∈ L, w ∈ us_fw := by
  intro w hw
  have h1 := List.all_eq_true.mp h w hw
  rw [Bool.and_eq_true] at h1
  exact List.mem_filter.mpr ⟨of_decide_eq_true h1.1, h1.2⟩
theorem utw_o {L : List Cond} (h : L.all vx_ot = true) : ∀ w ∈ L, vx_ot w = true := fun w hw => List.all_eq_true.mp h w hw
section UGT
variable {l : Launch} {E : Ue} {k mc ms : Nat} {cc : ByteArray} {nL : Nat} {own : String} {rt : Option FieldType} {pc : Nat} {L : List (Nat × Value)} {S : List Value} {mem : Um}
theorem ug_throw0 {ik ic : Nat} {X : String} (hw : utw own ik ic X) (hk : 6 ≤ k) (hr : (S.map fun v => v.category).sum ≤ 8) (d0 : decode cc pc = .ok (.new ik, 3)) (d3 : decode cc (pc + 3) = .ok (.dup, 1)) (d4 : decode cc (pc + 4) = .ok (.invokespecial ic, 3)) (d7 : decode cc (pc + 7) = .ok (.athrow, 1)) : ug l E k 1 6 cc nL own rt [] (.inr (X, mem)) 0 0 pc L S mem := by
  intro p e s m args below meth c C H locs ls hP hS hl
  obtain ⟨w1, w2, w3, w4, w5, w6⟩ := hw
  have hO := C.2.2.2.2.2.2.2.2.2.1
  refine vx_throw0 C.1 C.2.1 C.2.2.2.2.2.2.2.2.2.2 (names := ["java/lang/RuntimeException", "java/lang/Exception"]) C.2.2.2.1 w3 (by decide +kernel) (C.2.2.2.2.1 _ w1) (C.2.2.2.2.1 _ w2) (vx_hat (B := us_fw) (fun w h => C.2.2.2.2.1 _ (w4 w h)) w5 (fun w h => va_Nw.use (us_fw_on h).2 (hO.2.2.2.2.2.1 w h))) w6 hO.2.2.2.1.1 hO.2.2.2.1.2 hS (hl.1.trans C.2.2.1.symm) d0 d3 d4 d7 (by rw [C.2.2.2.2.2.2.2.1]; intro x h; cases h) ?_ ?_ (Nat.le_refl 1) (Nat.le_refl 6) C.2.2.2.2.2.2.1 (fun t ha h1 h2 => ⟨rfl, ?_, ?_⟩) hS.2.2 (Nat.le_refl 1) (Nat.le_refl 6)
  · show 2 + 3 < k
    omega
  · show (S.map fun v => v.category).sum + (13 * (2 + 1) + 42) ≤ 41 * k + 32
    omega
  · exact hP.kept (fun j q hj => h2 q.1 (hP j q hj).lt)
  · exact ⟨Nat.le_trans hS.1 h1, fun q q1 q2 => by rw [h2 q (Nat.lt_of_lt_of_le q1 hS.1)]; exact hS.2.1 q q1 q2⟩
end UGT
