/-! THE LAW FROM ITS ENTRY, out of what the Statement gives -/
theorem st_off {l : Launch} (h : l.flags = flags0) : l.stackTraces = false := by
  unfold Launch.stackTraces
  rw [h]
  decide +kernel
theorem arr_of {s : State} {args : Array Value} {ty : FieldType} (h : (Cond.arrayClass ty).before args s = true) : ∃ cA, ArrOfT s cA ty ∧ s.vm.findClass ("[" ++ ty.toString) = some cA := by
  obtain ⟨cA, kA, comp, h1, h2, h3⟩ := Cond.arrayClass_spec h
  exact ⟨cA, fun n z => ⟨fun k h => (by cases h), kA, h2, comp, h3⟩, h1⟩
theorem arr_ofO {s : State} {args : Array Value} {C : String} (h : (Cond.arrayOver (.object C)).before args s = true) : ∃ cA, ArrOfT s cA (.object C) ∧ va_RA s cA (.object C) := by
  obtain ⟨comp, c, k, h1, h2, h3, h4, h5⟩ := Cond.arrayOver_spec h
  exact ⟨c, fun n z => ⟨fun k h => (by cases h), k, h3, comp, h4⟩, k, comp, h3, h4, h1, h5⟩
theorem half_in : ∀ j, j < 7 → Cond.eq (.elem (.static RX7 "HALFPENNIES" "[I") (.int (Int32.ofNat j))) (.int (us_half j)) ∈ lw_fl := by decide +kernel
theorem plain_in : ∀ j, j < 9 → Cond.eq (.elem (.static RX2 "PLAIN" "[I") (.int (Int32.ofNat j))) (.int (us_plain j)) ∈ lw_fl := by decide +kernel
set_option maxRecDepth 20000 in
set_option maxHeartbeats 4000000 in
theorem whole_start {p : Program} {e : Env} {s : State} {m : MethodId} {below : List Frame} {meth : Method} {c : Code} (l : Launch) (hflags : l.flags = flags0) {b L : Nat} {xs : Nat → Int32} (hL : L ≤ 4608) (hxt : c.exceptionTable.toList = []) (C0 : lw_At p s m meth c b L xs) : W p l e room_1 s m #[Value.ref b] below meth c s.heap [] 0 0 (lw_Z below #[Value.ref b] s) (entryFrame m ([Value.ref b] : List Value).toArray 8) := by
  obtain ⟨hx, hb, hr, hml, hown, hts, hX, hbl, hlocks, hgv⟩ := id C0
  have hA : ∀ a : Nat, a < s.heap.size → ¬ (fun q : Nat => s.heap.size ≤ q) a := fun a h => Nat.not_le.mpr h
  have hs : ∀ w ∈ lw_fl, w.before #[Value.ref b] s = true := flat_of_before _ hgv
  have huw : ∀ w ∈ uw, w.before #[Value.ref b] s = true := fun w hw => hts w (List.mem_filter.mp hw).1
  obtain ⟨c0, i0, k0⟩ := u_known huw ukX0.2.1 (lw_st (w := .instantiable RX0 3) hts 157 (by decide +kernel))
  obtain ⟨c1, i1, k1⟩ := u_known huw ukX1.2.1 (lw_st (w := .instantiable RX1 7) hts 74 (by decide +kernel))
  obtain ⟨c2, i2, k2⟩ := u_known huw ukX2.2.1 (lw_st (w := .instantiable RX2 7) hts 114 (by decide +kernel))
  obtain ⟨c3, i3, k3⟩ := u_known huw ukX3.2.1 (lw_st (w := .instantiable RX3 2) hts 220 (by decide +kernel))
  obtain ⟨c4, i4, k4⟩ := u_known huw ukX4.2.1 (lw_st (w := .instantiable RX4 3) hts 203 (by decide +kernel))
  obtain ⟨c5, i5, k5⟩ := u_known huw ukX5.2.1 (lw_st (w := .instantiable RX5 9) hts 32 (by decide +kernel))
  obtain ⟨c6, i6, k6⟩ := u_known huw ukX6.2.1 (lw_st (w := .instantiable RX6 5) hts 178 (by decide +kernel))
  obtain ⟨c7, i7, k7⟩ := u_known huw ukX7.2.1 (lw_st (w := .instantiable RX7 17) hts 24 (by decide +kernel))
  obtain ⟨c8, i8, k8⟩ := u_known huw ukX8.2.1 (lw_st (w := .instantiable RX8 49) hts 1179 (by decide +kernel))
  obtain ⟨dC, dI, hKc⟩ : ∃ (dC : Nat → ClassId) (dI : Nat → Nat → Nat), ∀ (k : Nat) (q : vw_C), vwCl[k]? = some q → u_Kn s q.1 q.2.1 q.2.2 (dC k) (dI k) := by
    refine ⟨fun k => match k with | 0 => c0 | 1 => c1 | 2 => c2 | 3 => c3 | 4 => c4 | 5 => c5 | 6 => c6 | 7 => c7 | _ => c8, fun k => match k with | 0 => i0 | 1 => i1 | 2 => i2 | 3 => i3 | 4 => i4 | 5 => i5 | 6 => i6 | 7 => i7 | _ => i8, ?_⟩
    intro k q hq
    match k, hq with
    | 0, hq => cases hq; exact k0
    | 1, hq => cases hq; exact k1
    | 2, hq => cases hq; exact k2
    | 3, hq => cases hq; exact k3
    | 4, hq => cases hq; exact k4
    | 5, hq => cases hq; exact k5
    | 6, hq => cases hq; exact k6
    | 7, hq => cases hq; exact k7
    | 8, hq => cases hq; exact k8
    | k + 9, hq => simp at hq
  obtain ⟨cI, aI, rI'⟩ := arr_of (ty := .int) (lw_st hts 72 (by decide +kernel))
  obtain ⟨cZ, aZ, rZ'⟩ := arr_of (ty := .boolean) (lw_st hts 1344 (by decide +kernel))
  obtain ⟨cJ, aJ, rJ'⟩ := arr_of (ty := .long) (lw_st hts 1823 (by decide +kernel))
  obtain ⟨cP, aP, rP'⟩ := arr_ofO (C := RX3) (lw_st hts 233 (by decide +kernel))
  obtain ⟨adK, adV, hvk, hrf⟩ := us_start hs hts hA
  obtain ⟨hh, hhe, hht⟩ := va_Tof (A := fun q : Nat => s.heap.size ≤ q) (tm := .static RX7 "HALFPENNIES" "[I") (ty := .int) (N := 7) (f := fun j => .int (us_half j)) (by decide) (hs _ (by decide +kernel)) (va_eqt (hs (.eq (.length (.static RX7 "HALFPENNIES" "[I")) (.int 7)) (by decide +kernel))) (fun j hj => va_eqt (hs _ (half_in j hj))) hA
  obtain ⟨pp, ppe, ppt⟩ := va_Tof (A := fun q : Nat => s.heap.size ≤ q) (tm := .static RX2 "PLAIN" "[I") (ty := .int) (N := 9) (f := fun j => .int (us_plain j)) (by decide) (hs _ (by decide +kernel)) (va_eqt (hs (.eq (.length (.static RX2 "PLAIN" "[I")) (.int 9)) (by decide +kernel))) (fun j hj => va_eqt (hs _ (plain_in j hj))) hA
  generalize hE : (((dC, dI, s.heap.size, (cI, cZ, cP, cJ), adK, adV, (hh, pp), (fun i => s.heap.size + i), (b, L, xs, [])) : Ue)) = E
  have hK : va_K (ue_D E) vwCl (ue_ty E) s := by
    subst hE
    refine ⟨hKc, fun k q hk => ?_⟩
    match k, hk with
    | 0, hk => cases hk; exact ⟨aI, rI'⟩
    | 1, hk => cases hk; exact ⟨aZ, rZ'⟩
    | 2, hk => cases hk; exact ⟨aP, rP'⟩
    | 3, hk => cases hk; exact ⟨aJ, rJ'⟩
    | k + 4, hk => simp at hk
  have hO : uo E s := by
    subst hE
    refine ⟨hvk, hrf, ⟨va_Zof (lw_st hts 1029 (by decide +kernel)) (lw_st hts 1 (by decide +kernel)) hhe hA, hht, va_Zof (lw_st hts 124 (by decide +kernel)) (lw_st hts 4 (by decide +kernel)) ppe hA, ppt⟩, ⟨vx_Zqof (lw_st hts 401 (by decide +kernel)) (lw_st hts 12 (by decide +kernel)) (hs _ (by decide +kernel)) hA, vx_Zqof (lw_st hts 403 (by decide +kernel)) (lw_st hts 12 (by decide +kernel)) (hs _ (by decide +kernel)) hA⟩, ?_, fun w hw => va_Nw.of (us_fw_on hw).2 (hts w (List.mem_append_right _ (List.mem_filter.mp hw).1)), va_Zof (lw_st hts 477 (by decide +kernel)) (lw_st hts 17 (by decide +kernel)) (va_eqi (hs _ (by decide +kernel))) hA, va_Zqof (lw_st hts 493 (by decide +kernel)) (lw_st hts 19 (by decide +kernel)) (hs _ (by decide +kernel)) hA, ⟨fun i j _ _ h => ?_, fun i _ => Nat.le_add_right _ _⟩, hX, hA b hbl, va_Nc.of (hs _ (by decide +kernel))⟩
    · exact List.forall_mem_cons.mpr ⟨va_Nw.of rfl (lw_st hts 950 (by decide +kernel)), List.forall_mem_cons.mpr ⟨va_Nw.of rfl (lw_st hts 33 (by decide +kernel)), List.forall_mem_cons.mpr ⟨va_Nw.of rfl (lw_st hts 75 (by decide +kernel)), List.forall_mem_cons.mpr ⟨va_Nw.of rfl (lw_st hts 179 (by decide +kernel)), List.forall_mem_cons.mpr ⟨va_Nw.of rfl (lw_st hts 221 (by decide +kernel)), List.forall_mem_cons.mpr ⟨va_Nw.of rfl (lw_st hts 688 (by decide +kernel)), fun _ h => absurd h List.not_mem_nil⟩⟩⟩⟩⟩⟩
    · have h' : s.heap.size + i = s.heap.size + j := h
      omega
  have hb1 : ue_b E = s.heap.size := by subst hE; rfl
  have hsb : ue_sb E = b := by subst hE; rfl
  have hsn : ue_sn E = L := by subst hE; rfl
  have hl := lv_entry ([.ref b]) (n := 8) (Nat.le_of_ble_eq_true rfl)
  rw [lg_entry_eq]
  have hst := law_start (l := l) (E := E) all_ops uI_0 (by rw [hsn]; exact hL)
  rw [hsb] at hst
  exact hst p e s m #[.ref b] below meth c ⟨hx, hb, hml, hown, huw, hr, hlocks, fun _ h => (by cases h), hK, hO, st_off hflags, Nat.le_of_eq hb1, va_AO.of (lw_st hts 233 (by decide +kernel)), fun _ => ⟨hxt, hb1⟩⟩ s.heap [] _ (fun k q h => by simp at h) ⟨fun i j p q h => by simp at h, fun k q h => by simp at h⟩ va_S.rf hl
