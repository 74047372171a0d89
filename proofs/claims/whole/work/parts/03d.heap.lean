/-! HEAP ROWS -/
def uk (ci : Nat) (C : String) (T : u_T) (ty : Nat → FieldType) (N : Nat) : Prop := vwCl[ci]? = some (C, T, N) ∧ (∀ w ∈ u_ws C T N, w ∈ uw) ∧ (∀ k, k < N → parseFieldDescriptor (T k).2.2.1 = some (ty k)) ∧ ∀ a, a < N → ∀ b, b < N → a ≠ b → (T a).2.1 ≠ (T b).2.1
/-- a field link: the pool's number, the class's place, the slot -/
def ufl (own : String) (i ci j : Nat) : Prop := ∃ (C : String) (T : u_T) (ty : Nat → FieldType) (N : Nat), uk ci C T ty N ∧ j < N ∧ Cond.fieldLink own i (T j).1 (T j).2.1 (T j).2.2.1 ∈ uw
def ufp (own : String) (i ci j : Nat) : Prop := ∃ (C : String) (T : u_T) (ty : Nat → FieldType) (N : Nat), uk ci C T ty N ∧ j < N ∧ Cond.fieldLink own i (T j).1 (T j).2.1 (T j).2.2.1 ∈ uw ∧ (T j).2.2.2 = false ∧ ty j = .int
/-- a slot that holds an int; one that names a cell; an object's class; an int array -/
def udi (o ci j : Nat) : Prop := ∃ rs : List (Option Nat), ud_all[o]? = some (.inl (ci, rs)) ∧ rs[j]? = some none
def udr (o ci j t : Nat) : Prop := ∃ rs : List (Option Nat), ud_all[o]? = some (.inl (ci, rs)) ∧ rs[j]? = some (some t)
def uro (o : Nat) (C : String) : Prop := ∃ (ci : Nat) (rs : List (Option Nat)) (T : u_T) (N : Nat), ud_all[o]? = some (.inl (ci, rs)) ∧ vwCl[ci]? = some (C, T, N)
theorem uw_list {ws : List Cond} (ps : List Nat) (hp : ws = ps.filterMap (fun i => tables_1[i]?)) (h : ws.all goodWord = true) : ∀ w ∈ ws, w ∈ uw := by
  intro w hw
  have h1 := List.all_eq_true.mp h w hw
  rw [hp] at hw
  obtain ⟨i, -, hi⟩ := List.mem_filterMap.mp hw
  exact uw_t i hi h1
section UGH
variable {l : Launch} {E : Ue} {k mc ms : Nat} {cc : ByteArray} {nL : Nat} {own : String} {rt : Option FieldType} {xt : List ExceptionTableEntry} {z : Uz} {ce sl pc : Nat} {L : List (Nat × Value)} {S : List Value} {mem : Um}
theorem ug_getI {o ci j i : Nat} (hf : ufl own i ci j) (hx : udi o ci j) (hd : decode cc pc = .ok (.getfield i, 3)) (h : ug l E k mc ms cc nL own rt xt z ce sl (pc + 3) L (.int (mem o j) :: S) mem) : ug l E k mc ms cc nL own rt xt z ce sl pc L (.ref (ue_d E o) :: S) mem := by
  intro p e s m args below meth c C H locs ls hP hS hl
  obtain ⟨Cn, T, ty, N, ⟨g1, g2, g3, g4⟩, g5, g6⟩ := hf
  obtain ⟨rs, hs, hr⟩ := hx
  have he := ul_get E mem hs
  have hv := ud_fv_int (ue_d E) (mem o) rs 0 j hr
  rw [Nat.zero_add] at hv
  exact va_get C.1 C.2.1 (C.2.2.2.2.1) g2 C.2.2.2.1 C.2.2.2.2.2.2.2.2.1 hP o (fs := ud_fv (ue_d E) (mem o) 0 rs) he g1 j g5 (C.2.2.2.2.1 _ g6) (fun _ q => q) hv hd (h p e s m args below meth c C H locs ls hP hS hl)
theorem ug_getR {o ci j i t : Nat} (hf : ufl own i ci j) (hx : udr o ci j t) (hd : decode cc pc = .ok (.getfield i, 3)) (h : ug l E k mc ms cc nL own rt xt z ce sl (pc + 3) L (.ref (ue_d E t) :: S) mem) : ug l E k mc ms cc nL own rt xt z ce sl pc L (.ref (ue_d E o) :: S) mem := by
  intro p e s m args below meth c C H locs ls hP hS hl
  obtain ⟨Cn, T, ty, N, ⟨g1, g2, g3, g4⟩, g5, g6⟩ := hf
  obtain ⟨rs, hs, hr⟩ := hx
  have he := ul_get E mem hs
  have hv := ud_fv_ref (ue_d E) (mem o) t rs 0 j hr
  exact va_get C.1 C.2.1 (C.2.2.2.2.1) g2 C.2.2.2.1 C.2.2.2.2.2.2.2.2.1 hP o (fs := ud_fv (ue_d E) (mem o) 0 rs) he g1 j g5 (C.2.2.2.2.1 _ g6) (fun _ q => q) hv hd (h p e s m args below meth c C H locs ls hP hS hl)
theorem ug_putI {o ci j i : Nat} {x : Int32} (hf : ufp own i ci j) (hx : udi o ci j) (hd : decode cc pc = .ok (.putfield i, 3)) (h : ug l E k mc ms cc nL own rt xt z ce sl (pc + 3) L S (um_w mem o j x)) : ug l E k mc ms cc nL own rt xt z ce sl pc L (.int x :: .ref (ue_d E o) :: S) mem := by
  intro p e s m args below meth c C H locs ls hP hS hl
  obtain ⟨Cn, T, ty, N, ⟨g1, g2, g3, g4⟩, g5, g6, g7, g8⟩ := hf
  obtain ⟨rs, hs, hr⟩ := hx
  have he := ul_get E mem hs
  have hset := ud_fv_set (ue_d E) (mem o) x rs 0 j hr
  rw [Nat.zero_add] at hset
  have hlen : j < (ud_fv (ue_d E) (mem o) 0 rs).length := by
    rw [ud_fv_len]; exact (List.getElem?_eq_some_iff.mp hr).1
  have hty : parseFieldDescriptor (T j).2.2.1 = some .int := by rw [g3 j g5, g8]
  refine va_put C.1 C.2.1 (C.2.2.2.2.1) g2 ty g3 g4 C.2.2.2.1 C.2.2.2.2.2.2.2.2.1 hP (ul_D C.2.2.2.2.2.2.2.2.2.1.2.2.2.2.2.2.2.2.1 mem) hS o (fs := ud_fv (ue_d E) (mem o) 0 rs) he g1 j g5 (C.2.2.2.2.1 _ g6) (fun _ q => q) g7 hty (vp_nar_int x) rfl hlen hd (fun H1 locs1 hP1 _ hS1 => ?_)
  rw [hset] at hP1
  have e1 : (ul E mem).set o (ue_d E o, .inr (ci, ud_fv (ue_d E) (upd (mem o) j x) 0 rs)) = ul E (um_w mem o j x) := ul_set E mem (upd (mem o) j x) hs
  rw [e1] at hP1
  exact h p e s m args below meth c C H1 locs1 ls hP1 hS1 hl
theorem ug_iald {o n : Nat} {i : Int32} (hs : ud_all[o]? = some (.inr (0, n))) (hin : vp_in i n) (hd : decode cc pc = .ok (.iaload, 1)) (h : ug l E k mc ms cc nL own rt xt z ce sl (pc + 1) L (.int (mem o i.toNatClampNeg) :: S) mem) : ug l E k mc ms cc nL own rt xt z ce sl pc L (.int i :: .ref (ue_d E o) :: S) mem := by
  intro p e s m args below meth c C H locs ls hP hS hl
  exact va_iald C.1 C.2.1 C.2.2.2.2.2.2.2.2.1 hP o 0 (cA := ue_cI E) (n := n) (f := mem o) (ul_get E mem hs) rfl hin hd (h p e s m args below meth c C H locs ls hP hS hl)
theorem ug_iast {o n : Nat} {i x : Int32} (hs : ud_all[o]? = some (.inr (0, n))) (hin : vp_in i n) (hd : decode cc pc = .ok (.iastore, 1)) (h : ug l E k mc ms cc nL own rt xt z ce sl (pc + 1) L S (um_w mem o i.toNatClampNeg x)) : ug l E k mc ms cc nL own rt xt z ce sl pc L (.int x :: .int i :: .ref (ue_d E o) :: S) mem := by
  intro p e s m args below meth c C H locs ls hP hS hl
  refine va_iast C.1 C.2.1 C.2.2.2.2.2.2.2.2.1 hP (ul_D C.2.2.2.2.2.2.2.2.2.1.2.2.2.2.2.2.2.2.1 mem) hS o 0 (cA := ue_cI E) (n := n) (f := mem o) (ul_get E mem hs) rfl hin hd (fun H1 locs1 hP1 _ hS1 => ?_)
  have e1 : (ul E mem).set o (ue_d E o, .inl (ue_cI E, n, .inl (upd (mem o) i.toNatClampNeg x))) = ul E (um_w mem o i.toNatClampNeg x) := ul_set E mem (upd (mem o) i.toNatClampNeg x) hs
  rw [e1] at hP1
  exact h p e s m args below meth c C H1 locs1 ls hP1 hS1 hl
theorem ug_zald {o n : Nat} {i : Int32} (hs : ud_all[o]? = some (.inr (1, n))) (hin : vp_in i n) (hd : decode cc pc = .ok (.baload, 1)) (h : ug l E k mc ms cc nL own rt xt z ce sl (pc + 1) L (.int (mem o i.toNatClampNeg) :: S) mem) : ug l E k mc ms cc nL own rt xt z ce sl pc L (.int i :: .ref (ue_d E o) :: S) mem := by
  intro p e s m args below meth c C H locs ls hP hS hl
  exact va_zald C.1 C.2.1 C.2.2.2.2.2.2.2.2.1 hP o 1 (cA := ue_cZ E) (n := n) (f := mem o) (ul_get E mem hs) rfl hin hd (h p e s m args below meth c C H locs ls hP hS hl)
theorem ug_zast {o n : Nat} {i x : Int32} (hs : ud_all[o]? = some (.inr (1, n))) (hin : vp_in i n) (hx : x = 0 ∨ x = 1) (hd : decode cc pc = .ok (.bastore, 1)) (h : ug l E k mc ms cc nL own rt xt z ce sl (pc + 1) L S (um_w mem o i.toNatClampNeg x)) : ug l E k mc ms cc nL own rt xt z ce sl pc L (.int x :: .int i :: .ref (ue_d E o) :: S) mem := by
  intro p e s m args below meth c C H locs ls hP hS hl
  refine va_zast C.1 C.2.1 C.2.2.2.2.2.2.2.2.1 hP (ul_D C.2.2.2.2.2.2.2.2.2.1.2.2.2.2.2.2.2.2.1 mem) hS o 1 (cA := ue_cZ E) (n := n) (f := mem o) (ul_get E mem hs) rfl hin hd (fun H1 locs1 hP1 _ hS1 => ?_)
  have hn : vp_nar .boolean x = x := by rcases hx with rfl | rfl <;> rfl
  rw [hn] at hP1
  have e1 : (ul E mem).set o (ue_d E o, .inl (ue_cZ E, n, .inl (upd (mem o) i.toNatClampNeg x))) = ul E (um_w mem o i.toNatClampNeg x) := ul_set E mem (upd (mem o) i.toNatClampNeg x) hs
  rw [e1] at hP1
  exact h p e s m args below meth c C H1 locs1 ls hP1 hS1 hl
theorem ug_aald {i : Int32} (hin : vp_in i 3) (hd : decode cc pc = .ok (.aaload, 1)) (h : ug l E k mc ms cc nL own rt xt z ce sl (pc + 1) L (.ref (ue_d E (30 + 2 * i.toNatClampNeg)) :: S) mem) : ug l E k mc ms cc nL own rt xt z ce sl pc L (.int i :: .ref (ue_d E 29) :: S) mem := by
  intro p e s m args below meth c C H locs ls hP hS hl
  exact va_aldq C.1 C.2.1 C.2.2.2.2.2.2.2.2.1 hP 29 2 (cA := ue_cP E) (n := 3) (f := fun i => some (ue_d E (30 + 2 * i))) (ul_get E mem (o := 29) (d := .inr (2, 3)) rfl) rfl hin hd (h p e s m args below meth c C H locs ls hP hS hl)
theorem ug_alenI {o n : Nat} {v : Int32} (hs : ud_all[o]? = some (.inr (0, n))) (hv : Int32.ofNat n = v) (hd : decode cc pc = .ok (.arraylength, 1)) (h : ug l E k mc ms cc nL own rt xt z ce sl (pc + 1) L (.int v :: S) mem) : ug l E k mc ms cc nL own rt xt z ce sl pc L (.ref (ue_d E o) :: S) mem := by
  intro p e s m args below meth c C H locs ls hP hS hl
  exact va_alen C.1 C.2.1 C.2.2.2.2.2.2.2.2.1 hP o 0 (cA := ue_cI E) (x := (n, .inl (mem o))) (ul_get E mem hs) rfl hv hd (h p e s m args below meth c C H locs ls hP hS hl)
theorem ug_half {i : Nat} (hw : Cond.fieldLink own i RX7 "HALFPENNIES" "[I" ∈ uw) (hd : decode cc pc = .ok (.getstatic i, 3)) (h : ug l E k mc ms cc nL own rt xt z ce sl (pc + 3) L (.ref (ue_h E) :: S) mem) : ug l E k mc ms cc nL own rt xt z ce sl pc L S mem := by
  intro p e s m args below meth c C H locs ls hP hS hl
  exact va_gets C.1 C.2.1 C.2.2.2.2.2.2.2.2.2.1.2.2.1.1 hS C.2.2.2.1 (C.2.2.2.2.1 _ hw) (fun _ q => q) hd (h p e s m args below meth c C H locs ls hP hS hl)
theorem ug_hald {i : Int32} (hin : vp_in i 7) (hd : decode cc pc = .ok (.iaload, 1)) (h : ug l E k mc ms cc nL own rt xt z ce sl (pc + 1) L (.int (us_half i.toNatClampNeg) :: S) mem) : ug l E k mc ms cc nL own rt xt z ce sl pc L (.int i :: .ref (ue_h E) :: S) mem := by
  intro p e s m args below meth c C H locs ls hP hS hl
  exact va_ti C.1 C.2.1 C.2.2.2.2.2.2.2.2.2.1.2.2.1.2.1 hS hin (v := .int (us_half i.toNatClampNeg)) rfl hd (h p e s m args below meth c C H locs ls hP hS hl)
theorem ug_plain {i : Nat} (hw : Cond.fieldLink own i RX2 "PLAIN" "[I" ∈ uw) (hd : decode cc pc = .ok (.getstatic i, 3)) (h : ug l E k mc ms cc nL own rt xt z ce sl (pc + 3) L (.ref (ue_p E) :: S) mem) : ug l E k mc ms cc nL own rt xt z ce sl pc L S mem := by
  intro p e s m args below meth c C H locs ls hP hS hl
  exact va_gets C.1 C.2.1 C.2.2.2.2.2.2.2.2.2.1.2.2.1.2.2.1 hS C.2.2.2.1 (C.2.2.2.2.1 _ hw) (fun _ q => q) hd (h p e s m args below meth c C H locs ls hP hS hl)
theorem ug_plen (hd : decode cc pc = .ok (.arraylength, 1)) (h : ug l E k mc ms cc nL own rt xt z ce sl (pc + 1) L (.int 9 :: S) mem) : ug l E k mc ms cc nL own rt xt z ce sl pc L (.ref (ue_p E) :: S) mem := by
  intro p e s m args below meth c C H locs ls hP hS hl
  exact va_tlen C.1 C.2.1 C.2.2.2.2.2.2.2.2.2.1.2.2.1.2.2.2 hS (v := 9) rfl hd (h p e s m args below meth c C H locs ls hP hS hl)
/-! ENDS -/
theorem ug_iret {r : Int32} (hd : decode cc pc = .ok (.ireturn, 1)) : ug l E k ce sl cc nL own (some .int) xt (.inl (some (.int r), mem)) ce sl pc L [.int r] mem := by
  intro p e s m args below meth c C H locs ls hP hS hl
  exact W.iret C.1 C.2.1 C.2.2.2.2.2.1 (fun t ht _ => ⟨rfl, by rw [ht]; exact hP, hS.F ht⟩) hS.2.2 hd C.2.2.2.2.2.2.1
theorem ug_zret {r : Int32} (hr : r = 0 ∨ r = 1) (hd : decode cc pc = .ok (.ireturn, 1)) : ug l E k ce sl cc nL own (some .boolean) xt (.inl (some (.int r), mem)) ce sl pc L [.int r] mem := by
  intro p e s m args below meth c C H locs ls hP hS hl
  exact W.zret C.1 C.2.1 C.2.2.2.2.2.1 (by rcases hr with rfl | rfl <;> rfl) (fun t ht _ => ⟨rfl, by rw [ht]; exact hP, hS.F ht⟩) hS.2.2 hd C.2.2.2.2.2.2.1
theorem ug_lret {r : Int64} (hd : decode cc pc = .ok (.lreturn, 1)) : ug l E k ce sl cc nL own (some .long) xt (.inl (some (.long r), mem)) ce sl pc L [.long r] mem := by
  intro p e s m args below meth c C H locs ls hP hS hl
  exact W.lret C.1 C.2.1 C.2.2.2.2.2.1 (fun t ht _ => ⟨rfl, by rw [ht]; exact hP, hS.F ht⟩) hS.2.2 hd C.2.2.2.2.2.2.1
theorem ug_vret (hd : decode cc pc = .ok (.return_, 1)) : ug l E k ce sl cc nL own none xt (.inl (none, mem)) ce sl pc L [] mem := by
  intro p e s m args below meth c C H locs ls hP hS hl
  exact W.vret C.1 C.2.1 C.2.2.2.2.2.1 (fun t ht _ => ⟨rfl, by rw [ht]; exact hP, hS.F ht⟩) hS.2.2 hd C.2.2.2.2.2.2.1
end UGH
