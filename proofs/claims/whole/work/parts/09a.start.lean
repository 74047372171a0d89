theorem kd_L_8 : Cond.classLink RL 8 RX7 ∈ uw ∧ Cond.instantiable RX7 17 ∈ uw ∧ Cond.initialized RX7 ∈ uw := ⟨uw_t 23 (by decide +kernel) rfl, uw_t 24 (by decide +kernel) rfl, uw_t 1 (by decide +kernel) rfl⟩
theorem kd_L_123 : Cond.classLink RL 123 RX8 ∈ uw ∧ Cond.instantiable RX8 49 ∈ uw ∧ Cond.initialized RX8 ∈ uw := ⟨uw_t 1178 (by decide +kernel) rfl, uw_t 1179 (by decide +kernel) rfl, uw_t 11 (by decide +kernel) rfl⟩
theorem ki_L_122 : (Cond.methodLink RL 122 yX7_init ∈ uw ∧ Cond.instanceMethod yX7_init ∈ uw ∧ Cond.initialized yX7_init.cls ∈ uw ∧ Cond.code yX7_init cX7_init 1 none ∈ uw) ∧ yX7_init.name = "<init>" ∧ yX7_init.cls ≠ "java/lang/invoke/MethodHandle" ∧ yX7_init.cls ≠ "java/lang/invoke/VarHandle" ∧ (parseMethodDescriptor yX7_init.desc).map (fun d => d.parameters.length) = some 0 := ⟨⟨uw_t 25 (by decide +kernel) rfl, uw_t 26 (by decide +kernel) rfl, uw_t 1 (by decide +kernel) rfl, uw_t 27 (by decide +kernel) rfl⟩, rfl, by decide +kernel, by decide +kernel, by decide +kernel⟩
theorem ki_L_125 : (Cond.methodLink RL 125 yX8_init ∈ uw ∧ Cond.instanceMethod yX8_init ∈ uw ∧ Cond.initialized yX8_init.cls ∈ uw ∧ Cond.code yX8_init cX8_init 1 none ∈ uw) ∧ yX8_init.name = "<init>" ∧ yX8_init.cls ≠ "java/lang/invoke/MethodHandle" ∧ yX8_init.cls ≠ "java/lang/invoke/VarHandle" ∧ (parseMethodDescriptor yX8_init.desc).map (fun d => d.parameters.length) = some 0 := ⟨⟨uw_t 1180 (by decide +kernel) rfl, uw_t 1181 (by decide +kernel) rfl, uw_t 11 (by decide +kernel) rfl, uw_t 1182 (by decide +kernel) rfl⟩, rfl, by decide +kernel, by decide +kernel, by decide +kernel⟩
/-! THE LAW FROM ITS ENTRY -/
theorem same_forget {s s' : State} {Ls : List Loc} {c n : Nat} (h : s.sameButNew s' Ls c n) (hL : ∀ q ∈ Ls, s.heap.size ≤ q.base) : s.sameButNew s' [] c n := by
  obtain ⟨h1, h2, h3, h4, h5, h6⟩ := h
  refine ⟨h1, h2, h3, h4, h5, fun a ce hc => ?_⟩
  obtain ⟨c', g1, g2, g3, g4⟩ := h6 a ce hc
  refine ⟨c', g1, g2, g3, fun i _ => g4 i (fun hm => ?_)⟩
  have hlt := (Array.getElem?_eq_some_iff.mp hc).1
  have := hL _ hm
  exact absurd this (Nat.not_le.mpr hlt)
def lw_Qf : Uf := fun below args s => lw_Z below args s

theorem un_loop {l : Launch} {E : Ue} {cc : ByteArray} {nL : Nat} {own : String} {ty : FieldType} {ce sl pc : Nat} {L : List (Nat × Value)} {S : List Value} {ad : Nat → Nat} {x : List Ud} {m m9 : Um} (h : ug l (ue_re E ad x) 2048 601024 7293034 cc nL own (some ty) [] (.inl (some (.int 1), m9)) ce sl pc L S m) : un l E 2048 601024 7293034 cc nL own (some ty) lw_Qf ce sl pc L S (ul (ue_re E ad x) m) := by
  intro p e s mi args below meth c C H locs ls hP hD hS hl T hT X
  have hok : ue_ok (ue_re E ad x) := ue_ok_of (E := ue_re E ad x) hD
  obtain ⟨hxt, hbe⟩ := C.2.2.2.2.2.2.2.2.2.2.2.2.2 (by intro h; cases h)
  obtain ⟨t, a1, o, b1, b2, ⟨b3, -, -⟩, Ls, ⟨f1, f2, f3⟩, hLs⟩ := h p e s mi args below meth c ⟨C.1, C.2.1, C.2.2.1, C.2.2.2.1, C.2.2.2.2.1, C.2.2.2.2.2.1, C.2.2.2.2.2.2.1, hxt, C.2.2.2.2.2.2.2.2.1, uo_re C.2.2.2.2.2.2.2.2.2.1 hok, C.2.2.2.2.2.2.2.2.2.2.1⟩ H locs ls hP hS hl T hT X
  refine ⟨t, a1, o, b1, b2, b3, f1, f2, same_forget f3 (fun q hq => ?_)⟩
  have := hLs q hq
  rw [← hbe]
  exact this
/-! the law's own array comes behind -/
theorem ud_fv_ad (b b' : Nat → Nat) (f : Nat → Int32) (hb : ∀ t, t ≠ 63 → b t = b' t) : ∀ (rs : List (Option Nat)) (j : Nat), (∀ t, some t ∈ rs → t ≠ 63) → ud_fv b f j rs = ud_fv b' f j rs
  | [], _, _ => rfl
  | none :: rs, j, h => by simp only [ud_fv]; rw [ud_fv_ad b b' f hb rs (j + 1) (fun t ht => h t (List.mem_cons_of_mem _ ht))]
  | some t :: rs, j, h => by simp only [ud_fv]; rw [hb t (h t List.mem_cons_self), ud_fv_ad b b' f hb rs (j + 1) (fun t ht => h t (List.mem_cons_of_mem _ ht))]
def ud_n63 : Ud → Bool
  | .inl (_, rs) => rs.all (fun r => decide (r ≠ some 63))
  | .inr _ => true
theorem ud_cell_ad {E : Ue} {ad ad' : Nat → Nat} {x x' : List Ud} (hb : ∀ t, t ≠ 63 → ad t = ad' t) (f : Nat → Int32) (d : Ud) (h : ud_n63 d = true) : ud_cell (ue_re E ad x) f d = ud_cell (ue_re E ad' x') f d := by
  match d, h with
  | .inl (ci, rs), h =>
    show (Sum.inr (ci, ud_fv ad f 0 rs) : va_E) = Sum.inr (ci, ud_fv ad' f 0 rs)
    rw [ud_fv_ad ad ad' f hb rs 0 (fun t ht e => by
      have h2 := List.all_eq_true.mp h (some t) ht
      exact (of_decide_eq_true h2) (by rw [e]))]
  | .inr (0, n), _ => rfl
  | .inr (1, n), _ => rfl
  | .inr (2, n), _ =>
    show (Sum.inl (ue_cP E, n, .inr (.inr (.inr (.inr (fun i => some (ad (30 + 2 * i))))))) : va_E) = Sum.inl (ue_cP E, n, .inr (.inr (.inr (.inr (fun i => some (ad' (30 + 2 * i)))))))
    have : (fun i => some (ad (30 + 2 * i))) = (fun i => some (ad' (30 + 2 * i))) := by
      funext i
      rw [hb (30 + 2 * i) (by omega)]
    rw [this]
  | .inr (k + 3, n), _ => rfl
theorem ud_lay_ad {E : Ue} {ad ad' : Nat → Nat} {x x' : List Ud} (hb : ∀ t, t ≠ 63 → ad t = ad' t) (m : Um) : ∀ (ds : List Ud) (o : Nat), (∀ d ∈ ds, ud_n63 d = true) → (∀ k, k < ds.length → o + k ≠ 63) → ud_lay (ue_re E ad x) m o ds = ud_lay (ue_re E ad' x') m o ds
  | [], _, _, _ => rfl
  | d :: ds, o, h1, h2 => by
    simp only [ud_lay]
    rw [ud_cell_ad (x' := x') hb (m o) d (h1 d List.mem_cons_self), ud_lay_ad hb m ds (o + 1) (fun d hd => h1 d (List.mem_cons_of_mem _ hd)) (fun k hk => by have := h2 (k + 1) (by simpa using hk); omega)]
    have e : ue_d (ue_re E ad x) o = ue_d (ue_re E ad' x') o := hb o (h2 0 (by simp))
    rw [e]
theorem ud_lay_app (E : Ue) (m : Um) : ∀ (a b : List Ud) (o : Nat), ud_lay E m o (a ++ b) = ud_lay E m o a ++ ud_lay E m (o + a.length) b
  | [], b, o => rfl
  | d :: a, b, o => by
    simp only [List.cons_append, ud_lay, List.length_cons]
    rw [ud_lay_app E m a b (o + 1), show o + 1 + a.length = o + (a.length + 1) by omega]
theorem ud_n63_all : ∀ d ∈ ud_all, ud_n63 d = true := by decide +kernel
theorem ul_grow {E : Ue} {ad : Nat → Nat} {q : Nat} {m : Um} (h0 : m 63 0 = 0) (h1 : m 63 1 = 0) : ul (ue_re E ad []) m ++ [(q, .inl (ue_cL E, 1, .inr (.inl (fun _ => 0))))] = ul (ue_re E (va_up ad 63 q) [.inr (3, 1)]) m := by
  show ud_lay (ue_re E ad []) m 0 (ud_all ++ []) ++ _ = ud_lay (ue_re E (va_up ad 63 q) [.inr (3, 1)]) m 0 (ud_all ++ [.inr (3, 1)])
  rw [List.append_nil, ud_lay_app, ud_lay_ad (ad' := va_up ad 63 q) (x' := [.inr (3, 1)]) (fun t ht => by simp [va_up, ht]) m ud_all 0 ud_n63_all (fun k hk => by
    have e : ud_all.length = 63 := rfl
    omega)]
  congr 1
  show [(q, (Sum.inl (ue_cL E, 1, .inr (.inl (fun _ => 0))) : va_E))] = [(va_up ad 63 q 63, (Sum.inl (ue_cL E, 1, .inr (.inl (vp_updL (fun _ => 0) 0 (ul_of (m 63 0) (m 63 1))))) : va_E))]
  have e1 : va_up ad 63 q 63 = q := by simp [va_up]
  have e2 : vp_updL (fun _ => 0) 0 (ul_of (m 63 0) (m 63 1)) = fun _ => 0 := by
    rw [h0, h1]
    funext j
    have e3 : ul_of 0 0 = 0 := by decide
    simp [vp_updL, e3]
  rw [e1, e2]
theorem umI_63 : umI 63 0 = 0 ∧ umI 63 1 = 0 := by decide +kernel
set_option maxRecDepth 40000 in
set_option maxHeartbeats 40000000 in
theorem law_start {l : Launch} {E : Ue} {I : Um → Prop} (h : uops I) (hI : I umI) (hL : ue_sn E ≤ 4608) : un l E 2048 601024 7293034 cL_law_ 8 RL (some .boolean) lw_Qf 0 0 0 [(0, .ref (ue_sb E))] [] [] := by
  refine un_new ukX7 kd_L_8 nd_X7 (Nat.le_of_ble_eq_true rfl) (Nat.le_of_ble_eq_true rfl) dL_law__0 (fun p0 => ?_)
  refine un_dup dL_law__3 rfl ?_
  refine un_call [] (n_X7 [] p0) ki_L_122 rfl (S := [.ref p0]) rfl (Nat.le_of_ble_eq_true rfl) (Nat.le_of_ble_eq_true rfl) (Nat.le_of_ble_eq_true rfl) ⟨(Nat.le_of_ble_eq_true rfl), (Nat.le_of_ble_eq_true rfl)⟩ dL_law__4 (fun w hw => ?_)
  obtain ⟨p1, p2, p3, p4, p5, p6, p7, p8, p9, p10, p11, p12, p13, p14, p15, p16, p17, p18, p19, p20, p21, p22, p23, p24, p25, p26, p27, p28, p29, p30, p31, p32, p33, p34, p35, p36, p37, rfl⟩ := hw
  refine un_astore_n [(1, .ref p0), (0, .ref (ue_sb E))] dL_law__7 rfl (Nat.le_of_ble_eq_true rfl) rfl ?_
  refine un_new ukX8 kd_L_123 nd_X8 (Nat.le_of_ble_eq_true rfl) (Nat.le_of_ble_eq_true rfl) dL_law__8 (fun h8 => ?_)
  refine un_dup dL_law__11 rfl ?_
  refine un_call [] (n_X8 (p0 := p0) (p1 := p1) (p2 := p2) (p3 := p3) (p4 := p4) (p5 := p5) (p6 := p6) (p7 := p7) (p8 := p8) (p9 := p9) (p10 := p10) (p11 := p11) (p12 := p12) (p13 := p13) (p14 := p14) (p15 := p15) (p16 := p16) (p17 := p17) (p18 := p18) (p19 := p19) (p20 := p20) (p21 := p21) (p22 := p22) (p23 := p23) (p24 := p24) (p25 := p25) (p26 := p26) (p27 := p27) (p28 := p28) (p29 := p29) (p30 := p30) (p31 := p31) (p32 := p32) (p33 := p33) (p34 := p34) (p35 := p35) (p36 := p36) (p37 := p37) _ h8 rfl) ki_L_125 rfl (S := [.ref h8]) rfl (Nat.le_of_ble_eq_true rfl) (Nat.le_of_ble_eq_true rfl) (Nat.le_of_ble_eq_true rfl) ⟨(Nat.le_of_ble_eq_true rfl), (Nat.le_of_ble_eq_true rfl)⟩ dL_law__12 (fun w hw => ?_)
  obtain ⟨ad, rfl, rfl, hok, rfl⟩ := hw
  refine un_astore_n [(2, .ref (ad 38)), (1, .ref (ad 0)), (0, .ref (ue_sb E))] dL_law__15 rfl (Nat.le_of_ble_eq_true rfl) rfl ?_
  refine un_iconst dL_law__16 un_iconst_1 ?_
  refine un_newL (N := 1) ka_long (by decide) (by decide) (Nat.le_of_ble_eq_true rfl) (Nat.le_of_ble_eq_true rfl) (Nat.le_of_ble_eq_true rfl) dL_law__17 (fun q => ?_)
  refine un_astore_n [(3, .ref q), (2, .ref (ad 38)), (1, .ref (ad 0)), (0, .ref (ue_sb E))] dL_law__19 rfl (Nat.le_of_ble_eq_true rfl) rfl ?_
  refine un_iconst dL_law__20 un_iconst_0 ?_
  refine un_istore [(4, .int 0), (3, .ref q), (2, .ref (ad 38)), (1, .ref (ad 0)), (0, .ref (ue_sb E))] dL_law__21 (Nat.le_of_ble_eq_true rfl) rfl ?_
  refine un_sub [(0, .ref (ue_sb E)), (1, .ref (ad 0)), (2, .ref (ad 38)), (3, .ref q), (4, .int 0)] [4, 3, 2, 1, 0] rfl ?_
  refine un_ws (ul_grow umI_63.1 umI_63.2) ?_
  obtain ⟨m9, hg⟩ := law_loop (l := l) (E := ue_re E (va_up ad 63 q) [.inr (3, 1)]) rfl h hL (mc := 601024) (ms := 7293034) 513 0 umI 64 10208 (by omega) (by have : ue_sn (ue_re E (va_up ad 63 q) [.inr (3, 1)]) = ue_sn E := rfl; omega) hI (by omega) (by omega)
  have e3 : va_up ad 63 q 63 = q := by simp [va_up]
  have hg2 : ug l (ue_re E (va_up ad 63 q) [.inr (3, 1)]) 2048 601024 7293034 cL_law_ 8 RL (some .boolean) [] (.inl (some (.int 1), m9)) 64 10208 23 [(0, .ref (ue_sb E)), (1, .ref (ad 0)), (2, .ref (ad 38)), (3, .ref q), (4, .int 0)] [] umI := by
    have hg3 : ug l (ue_re E (va_up ad 63 q) [.inr (3, 1)]) 2048 601024 7293034 cL_law_ 8 RL (some .boolean) [] (.inl (some (.int 1), m9)) 64 10208 23 [(0, .ref (ue_sb E)), (1, .ref (ad 0)), (2, .ref (ad 38)), (3, .ref (va_up ad 63 q 63)), (4, .int 0)] [] umI := hg
    rw [e3] at hg3
    exact hg3
  exact un_loop hg2
