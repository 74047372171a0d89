/-! THE LAW'S OWN ROWS -/
def um_L (m : Um) (v : Int64) : Um := um_wa m 63 (upd (upd (m 63) 0 (ul_hi v)) 1 (ul_lo v))
section ULR
variable {l : Launch} {E : Ue} {k mc ms : Nat} {cc : ByteArray} {nL : Nat} {own : String} {rt : Option FieldType} {xt : List ExceptionTableEntry} {z : Uz} {ce sl pc : Nat} {L : List (Nat × Value)} {S S0 : List Value} {mem : Um}
theorem ug_widen {ce' sl' : Nat} (h1 : ce ≤ ce') (h2 : sl ≤ sl') (h : ug l E k mc ms cc nL own rt xt z ce' sl' pc L S mem) : ug l E k mc ms cc nL own rt xt z ce sl pc L S mem :=
  fun p e s m args below meth c C H locs ls hP hS hl => W.widen h1 h2 (h p e s m args below meth c C H locs ls hP hS hl)
theorem ux63 {E : Ue} (hx : ue_x E = [.inr (3, 1)]) : (ud_all ++ ue_x E)[63]? = some (.inr (3, 1)) := by rw [hx]; rfl
theorem ug_last {v : Int64} (hx : ue_x E = [.inr (3, 1)]) (hd : decode cc pc = .ok (.lastore, 1)) (h : ug l E k mc ms cc nL own rt xt z ce sl (pc + 1) L S (um_L mem v)) : ug l E k mc ms cc nL own rt xt z ce sl pc L (.long v :: .int 0 :: .ref (ue_d E 63) :: S) mem := by
  intro p e s m args below meth c C H locs ls hP hS hl
  refine va_last C.1 C.2.1 C.2.2.2.2.2.2.2.2.1 hP (ul_D C.2.2.2.2.2.2.2.2.2.1.2.2.2.2.2.2.2.2.1 mem) hS 63 3 (cA := ue_cL E) (n := 1) (f := vp_updL (fun _ => 0) 0 (ul_of (mem 63 0) (mem 63 1))) (ul_getx E mem (ux63 hx)) rfl (by unfold vp_in; decide) hd (fun H1 locs1 hP1 _ hS1 => ?_)
  have e1 : (ul E mem).set 63 (ue_d E 63, ud_cell E (upd (upd (mem 63) 0 (ul_hi v)) 1 (ul_lo v)) (.inr (3, 1))) = ul E (um_L mem v) := ul_setx E mem _ (ux63 hx)
  have e3 : ul_of (upd (upd (mem 63) 0 (ul_hi v)) 1 (ul_lo v) 0) (upd (upd (mem 63) 0 (ul_hi v)) 1 (ul_lo v) 1) = v := by
    simp only [upd]
    exact ul_back v
  have e4 : vp_updL (vp_updL (fun _ => 0) 0 (ul_of (mem 63 0) (mem 63 1))) (0 : Int32).toNatClampNeg v = vp_updL (fun _ => 0) 0 v := by
    have h0 : (0 : Int32).toNatClampNeg = 0 := by decide
    rw [h0]
    funext j
    simp only [vp_updL]
    split <;> rfl
  have e2 : ud_cell E (upd (upd (mem 63) 0 (ul_hi v)) 1 (ul_lo v)) (.inr (3, 1)) = .inl (ue_cL E, 1, .inr (.inl (vp_updL (fun _ => 0) 0 v))) := by
    show (Sum.inl (ue_cL E, 1, .inr (.inl (vp_updL (fun _ => 0) 0 (ul_of (upd (upd (mem 63) 0 (ul_hi v)) 1 (ul_lo v) 0) (upd (upd (mem 63) 0 (ul_hi v)) 1 (ul_lo v) 1)))))  : va_E) = _
    rw [e3]
  rw [e4, ← e2, e1] at hP1
  exact h p e s m args below meth c C H1 locs1 ls hP1 hS1 hl
theorem ug_lald (hx : ue_x E = [.inr (3, 1)]) (hd : decode cc pc = .ok (.laload, 1)) (h : ug l E k mc ms cc nL own rt xt z ce sl (pc + 1) L (.long (ul_of (mem 63 0) (mem 63 1)) :: S) mem) : ug l E k mc ms cc nL own rt xt z ce sl pc L (.int 0 :: .ref (ue_d E 63) :: S) mem := by
  intro p e s m args below meth c C H locs ls hP hS hl
  exact va_lald C.1 C.2.1 C.2.2.2.2.2.2.2.2.1 hP 63 3 (cA := ue_cL E) (n := 1) (f := vp_updL (fun _ => 0) 0 (ul_of (mem 63 0) (mem 63 1))) (ul_getx E mem (ux63 hx)) rfl (by unfold vp_in; decide) hd (h p e s m args below meth c C H locs ls hP hS hl)
theorem ug_sld {i : Int32} (hin : vp_in i (ue_sn E)) (hd : decode cc pc = .ok (.iaload, 1)) (h : ug l E k mc ms cc nL own rt xt z ce sl (pc + 1) L (.int (ue_sx E i.toNatClampNeg) :: S) mem) : ug l E k mc ms cc nL own rt xt z ce sl pc L (.int i :: .ref (ue_sb E) :: S) mem := by
  intro p e s m args below meth c C H locs ls hP hS hl
  have hX := C.2.2.2.2.2.2.2.2.2.1.2.2.2.2.2.2.2.2.2
  exact va_sld C.1 C.2.1 hX.1 (va_X_lt hX.1) hX.2.1 hS hin hd (h p e s m args below meth c C H locs ls hP hS hl)
theorem ug_slenS (hd : decode cc pc = .ok (.arraylength, 1)) (h : ug l E k mc ms cc nL own rt xt z ce sl (pc + 1) L (.int (Int32.ofNat (ue_sn E)) :: S) mem) : ug l E k mc ms cc nL own rt xt z ce sl pc L (.ref (ue_sb E) :: S) mem := by
  intro p e s m args below meth c C H locs ls hP hS hl
  have hX := C.2.2.2.2.2.2.2.2.2.1.2.2.2.2.2.2.2.2.2
  exact va_slen C.1 C.2.1 hX.1 (va_X_lt hX.1) hX.2.1 hS hd (h p e s m args below meth c C H locs ls hP hS hl)
end ULR
