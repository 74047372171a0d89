/-! THE MEMORY: the class, the reference and the law's own cell are 64 cells whose references never change; ints by cell and slot. -/
abbrev Um : Type := Nat → Nat → Int32
def um_wa (m : Um) (c : Nat) (f : Nat → Int32) : Um := fun c' => if c' = c then f else m c'
def um_w (m : Um) (c k : Nat) (v : Int32) : Um := um_wa m c (upd (m c) k v)
/-- what a cell is: an object (its class, of each slot an int or the cell it names), or an array (kind, length) -/
abbrev Ud : Type := (Nat × List (Option Nat)) ⊕ (Nat × Nat)
/-- the surroundings: classes' numbers, slots, the first cell, array classes (int, boolean, Past, long), Strings' cells and their bytes' cells, the static arrays' cells, where each cell of the memory lies, the script (its cell, its length, its ints) -/
abbrev Ue : Type := (Nat → ClassId) × (Nat → Nat → Nat) × Nat × (ClassId × ClassId × ClassId × ClassId) × (Nat → Nat) × (Nat → Nat) × (Nat × Nat) × (Nat → Nat) × (Nat × Nat × (Nat → Int32) × List Ud)
abbrev ue_D (E : Ue) : va_G := (E.1, E.2.1)
abbrev ue_b (E : Ue) : Nat := E.2.2.1
abbrev ue_cI (E : Ue) : ClassId := E.2.2.2.1.1
abbrev ue_cZ (E : Ue) : ClassId := E.2.2.2.1.2.1
abbrev ue_cP (E : Ue) : ClassId := E.2.2.2.1.2.2.1
abbrev ue_cL (E : Ue) : ClassId := E.2.2.2.1.2.2.2
abbrev ue_aK (E : Ue) : Nat → Nat := E.2.2.2.2.1
abbrev ue_aV (E : Ue) : Nat → Nat := E.2.2.2.2.2.1
abbrev ue_h (E : Ue) : Nat := E.2.2.2.2.2.2.1.1
abbrev ue_p (E : Ue) : Nat := E.2.2.2.2.2.2.1.2
abbrev ue_d (E : Ue) : Nat → Nat := E.2.2.2.2.2.2.2.1
abbrev ue_sb (E : Ue) : Nat := E.2.2.2.2.2.2.2.2.1
abbrev ue_sn (E : Ue) : Nat := E.2.2.2.2.2.2.2.2.2.1
abbrev ue_sx (E : Ue) : Nat → Int32 := E.2.2.2.2.2.2.2.2.2.2.1
/-- the law's own array, once it is made -/
abbrev ue_x (E : Ue) : List Ud := E.2.2.2.2.2.2.2.2.2.2.2
/-- the cells are apart, and of the law's own making -/
def ue_ok (E : Ue) : Prop := (∀ i j : Nat, i < 63 + (ue_x E).length → j < 63 + (ue_x E).length → ue_d E i = ue_d E j → i = j) ∧ ∀ i : Nat, i < 63 + (ue_x E).length → ue_b E ≤ ue_d E i
/-- a long out of two ints, and back -/
def ul_of (a b : Int32) : Int64 := Int64.ofBitVec (a.toBitVec ++ b.toBitVec)
def ul_hi (v : Int64) : Int32 := Int32.ofBitVec (v.toBitVec.extractLsb' 32 32)
def ul_lo (v : Int64) : Int32 := Int32.ofBitVec (v.toBitVec.extractLsb' 0 32)
theorem ul_back (v : Int64) : ul_of (ul_hi v) (ul_lo v) = v := by
  unfold ul_of ul_hi ul_lo
  have h : (Int32.ofBitVec (v.toBitVec.extractLsb' 32 32)).toBitVec ++ (Int32.ofBitVec (v.toBitVec.extractLsb' 0 32)).toBitVec = v.toBitVec := by
    show v.toBitVec.extractLsb' 32 32 ++ v.toBitVec.extractLsb' 0 32 = v.toBitVec
    apply BitVec.eq_of_getLsbD_eq
    intro i hi
    rw [BitVec.getLsbD_append, BitVec.getLsbD_extractLsb', BitVec.getLsbD_extractLsb']
    by_cases h : i < 32
    · simp [h]
    · simp [h]
      have h2 : i - 32 < 32 := by omega
      have h3 : 32 + (i - 32) = i := by omega
      simp [h2, h3]
  rw [h]
  rfl
abbrev ue_A (E : Ue) : Nat → Prop := fun q => ue_b E ≤ q
abbrev ue_ty (E : Ue) : List (ClassId × FieldType) := [(ue_cI E, .int), (ue_cZ E, .boolean), (ue_cP E, .object RX3), (ue_cL E, .long)]
def ud_all : List Ud := [
  .inl (7, [some 1, some 3, some 8, some 13, some 18, some 21, some 23, some 25, some 27, some 29, some 36, some 37, none, none, none, none, none]),
  .inl (5, [some 2, none, none, none, none, none, none, none, none]), .inr (0, 600),
  .inl (1, [none, none, none, some 4, some 5, some 6, some 7]), .inr (0, 8), .inr (0, 8), .inr (0, 5), .inr (0, 5),
  .inl (1, [none, none, none, some 9, some 10, some 11, some 12]), .inr (0, 8), .inr (0, 8), .inr (0, 5), .inr (0, 5),
  .inl (2, [some 14, none, some 15, none, some 16, none, some 17]), .inr (0, 150), .inr (0, 150), .inr (0, 150), .inr (0, 8),
  .inl (0, [some 19, none, some 20]), .inr (0, 8), .inr (0, 8),
  .inl (6, [some 22, none, none, none, none]), .inr (0, 100),
  .inl (4, [some 3, some 13, some 24]), .inr (0, 28),
  .inl (4, [some 3, some 13, some 26]), .inr (0, 28),
  .inl (3, [some 28, none]), .inr (0, 476),
  .inr (2, 3),
  .inl (3, [some 31, none]), .inr (0, 476), .inl (3, [some 33, none]), .inr (0, 476), .inl (3, [some 35, none]), .inr (0, 476),
  .inr (0, 48), .inr (0, 5),
  .inl (8, [none, some 39, none, none, none, none, none, none, none, some 40, some 41, some 42, some 43, some 44, none, none, none, none, none, none, some 45, some 46, some 47, some 48, some 49, none, none, some 50, some 51, some 52, none, none, none, none, none, none, some 53, some 54, some 55, some 56, some 57, none, some 58, some 59, some 60, some 61, none, some 62, none]),
  .inr (0, 2), .inr (0, 600), .inr (0, 16), .inr (0, 10), .inr (0, 16), .inr (0, 10),
  .inr (0, 150), .inr (0, 150), .inr (0, 150), .inr (0, 150), .inr (0, 150), .inr (0, 8), .inr (0, 200), .inr (0, 200),
  .inr (0, 28), .inr (0, 28), .inr (0, 448), .inr (0, 8), .inr (0, 8), .inr (0, 1278), .inr (0, 800), .inr (0, 6), .inr (1, 1000), .inr (0, 1431)]
def ud_fv (b : Nat → Nat) (f : Nat → Int32) : Nat → List (Option Nat) → List Value
  | _, [] => []
  | j, none :: r => .int (f j) :: ud_fv b f (j + 1) r
  | j, some t :: r => .ref (b t) :: ud_fv b f (j + 1) r
def ud_cell (E : Ue) (f : Nat → Int32) : Ud → va_E
  | .inl (ci, rs) => .inr (ci, ud_fv (ue_d E) f 0 rs)
  | .inr (0, n) => .inl (ue_cI E, n, .inl f)
  | .inr (1, n) => .inl (ue_cZ E, n, .inl f)
  | .inr (2, n) => .inl (ue_cP E, n, .inr (.inr (.inr (.inr (fun i => some (ue_d E (30 + 2 * i)))))))
  | .inr (_, n) => .inl (ue_cL E, n, .inr (.inl (vp_updL (fun _ => 0) 0 (ul_of (f 0) (f 1)))))
def ud_lay (E : Ue) (m : Um) : Nat → List Ud → va_W
  | _, [] => []
  | o, d :: r => (ue_d E o, ud_cell E (m o) d) :: ud_lay E m (o + 1) r
abbrev ul (E : Ue) (m : Um) : va_W := ud_lay E m 0 (ud_all ++ ue_x E)
theorem ud_lay_get (E : Ue) (m : Um) : ∀ (ds : List Ud) (o0 o : Nat) (d : Ud), ds[o]? = some d → (ud_lay E m o0 ds)[o]? = some (ue_d E (o0 + o), ud_cell E (m (o0 + o)) d)
  | [], o0, o, d, h => by simp at h
  | x :: ds, o0, 0, d, h => by
    simp only [List.getElem?_cons_zero, Option.some.injEq] at h
    subst h
    simp [ud_lay]
  | x :: ds, o0, o + 1, d, h => by
    simp only [List.getElem?_cons_succ] at h
    have := ud_lay_get E m ds (o0 + 1) o d h
    simp only [ud_lay, List.getElem?_cons_succ, this]
    rw [show o0 + 1 + o = o0 + (o + 1) by omega]
theorem ud_app {o : Nat} {d : Ud} (x : List Ud) (h : ud_all[o]? = some d) : (ud_all ++ x)[o]? = some d := by
  rw [List.getElem?_append_left (List.getElem?_eq_some_iff.mp h).1]
  exact h
theorem ul_getx (E : Ue) (m : Um) {o : Nat} {d : Ud} (h : (ud_all ++ ue_x E)[o]? = some d) : (ul E m)[o]? = some (ue_d E o, ud_cell E (m o) d) := by
  have := ud_lay_get E m (ud_all ++ ue_x E) 0 o d h
  rw [Nat.zero_add] at this
  exact this
theorem ul_get (E : Ue) (m : Um) {o : Nat} {d : Ud} (h : ud_all[o]? = some d) : (ul E m)[o]? = some (ue_d E o, ud_cell E (m o) d) := ul_getx E m (ud_app _ h)
theorem ud_lay_cong (E : Ue) (m m' : Um) : ∀ (ds : List Ud) (o0 : Nat), (∀ o, o0 ≤ o → m o = m' o) → ud_lay E m o0 ds = ud_lay E m' o0 ds
  | [], _, _ => rfl
  | x :: ds, o0, h => by
    simp only [ud_lay]
    rw [h o0 (Nat.le_refl _), ud_lay_cong E m m' ds (o0 + 1) (fun o ho => h o (by omega))]
theorem ud_lay_set (E : Ue) (m : Um) (f : Nat → Int32) : ∀ (ds : List Ud) (o0 o : Nat) (d : Ud), ds[o]? = some d → (ud_lay E m o0 ds).set o (ue_d E (o0 + o), ud_cell E f d) = ud_lay E (um_wa m (o0 + o) f) o0 ds
  | [], o0, o, d, h => by simp at h
  | x :: ds, o0, 0, d, h => by
    simp only [List.getElem?_cons_zero, Option.some.injEq] at h
    subst h
    simp only [ud_lay, List.set_cons_zero, Nat.add_zero]
    rw [ud_lay_cong E m (um_wa m o0 f) ds (o0 + 1) (fun o ho => by simp only [um_wa]; rw [if_neg (by omega)])]
    simp [um_wa]
  | x :: ds, o0, o + 1, d, h => by
    simp only [List.getElem?_cons_succ] at h
    have := ud_lay_set E m f ds (o0 + 1) o d h
    simp only [ud_lay, List.set_cons_succ]
    rw [show o0 + (o + 1) = o0 + 1 + o by omega, this]
    simp only [um_wa]
    rw [if_neg (by omega)]
theorem ul_setx (E : Ue) (m : Um) (f : Nat → Int32) {o : Nat} {d : Ud} (h : (ud_all ++ ue_x E)[o]? = some d) : (ul E m).set o (ue_d E o, ud_cell E f d) = ul E (um_wa m o f) := by
  have := ud_lay_set E m f (ud_all ++ ue_x E) 0 o d h
  rw [Nat.zero_add] at this
  exact this
theorem ul_set (E : Ue) (m : Um) (f : Nat → Int32) {o : Nat} {d : Ud} (h : ud_all[o]? = some d) : (ul E m).set o (ue_d E o, ud_cell E f d) = ul E (um_wa m o f) := ul_setx E m f (ud_app _ h)
theorem ud_fv_int (b : Nat → Nat) (f : Nat → Int32) : ∀ (rs : List (Option Nat)) (j0 j : Nat), rs[j]? = some none → (ud_fv b f j0 rs)[j]? = some (.int (f (j0 + j)))
  | [], j0, j, h => by simp at h
  | none :: rs, j0, 0, h => by simp [ud_fv]
  | some t :: rs, j0, 0, h => by simp at h
  | none :: rs, j0, j + 1, h => by
    simp only [List.getElem?_cons_succ] at h
    simp only [ud_fv, List.getElem?_cons_succ, ud_fv_int b f rs (j0 + 1) j h]
    rw [show j0 + 1 + j = j0 + (j + 1) by omega]
  | some t :: rs, j0, j + 1, h => by
    simp only [List.getElem?_cons_succ] at h
    simp only [ud_fv, List.getElem?_cons_succ, ud_fv_int b f rs (j0 + 1) j h]
    rw [show j0 + 1 + j = j0 + (j + 1) by omega]
theorem ud_fv_ref (b : Nat → Nat) (f : Nat → Int32) (t : Nat) : ∀ (rs : List (Option Nat)) (j0 j : Nat), rs[j]? = some (some t) → (ud_fv b f j0 rs)[j]? = some (.ref (b t))
  | [], j0, j, h => by simp at h
  | none :: rs, j0, 0, h => by simp at h
  | some t' :: rs, j0, 0, h => by
    simp only [List.getElem?_cons_zero, Option.some.injEq] at h
    subst h
    simp [ud_fv]
  | none :: rs, j0, j + 1, h => by
    simp only [List.getElem?_cons_succ] at h
    simp only [ud_fv, List.getElem?_cons_succ, ud_fv_ref b f t rs (j0 + 1) j h]
  | some t' :: rs, j0, j + 1, h => by
    simp only [List.getElem?_cons_succ] at h
    simp only [ud_fv, List.getElem?_cons_succ, ud_fv_ref b f t rs (j0 + 1) j h]
theorem ud_fv_len (b : Nat → Nat) (f : Nat → Int32) : ∀ (rs : List (Option Nat)) (j0 : Nat), (ud_fv b f j0 rs).length = rs.length
  | [], _ => rfl
  | none :: rs, j0 => by simp [ud_fv, ud_fv_len b f rs (j0 + 1)]
  | some t :: rs, j0 => by simp [ud_fv, ud_fv_len b f rs (j0 + 1)]
theorem ud_fv_cong (b : Nat → Nat) (f g : Nat → Int32) : ∀ (rs : List (Option Nat)) (j0 : Nat), (∀ j, j0 ≤ j → f j = g j) → ud_fv b f j0 rs = ud_fv b g j0 rs
  | [], _, _ => rfl
  | none :: rs, j0, h => by simp only [ud_fv]; rw [h j0 (Nat.le_refl _), ud_fv_cong b f g rs (j0 + 1) (fun j hj => h j (by omega))]
  | some t :: rs, j0, h => by simp only [ud_fv]; rw [ud_fv_cong b f g rs (j0 + 1) (fun j hj => h j (by omega))]
theorem ud_fv_set (b : Nat → Nat) (f : Nat → Int32) (v : Int32) : ∀ (rs : List (Option Nat)) (j0 j : Nat), rs[j]? = some none → (ud_fv b f j0 rs).set j (.int v) = ud_fv b (upd f (j0 + j) v) j0 rs
  | [], j0, j, h => by simp at h
  | none :: rs, j0, 0, h => by
    simp only [ud_fv, List.set_cons_zero, Nat.add_zero]
    rw [ud_fv_cong b f (upd f j0 v) rs (j0 + 1) (fun j hj => by simp only [upd]; rw [if_neg (by omega)])]
    simp [upd]
  | some t :: rs, j0, 0, h => by simp at h
  | none :: rs, j0, j + 1, h => by
    simp only [List.getElem?_cons_succ] at h
    simp only [ud_fv, List.set_cons_succ]
    rw [show j0 + (j + 1) = j0 + 1 + j by omega, ud_fv_set b f v rs (j0 + 1) j h]
    simp only [upd]
    rw [if_neg (by omega)]
  | some t :: rs, j0, j + 1, h => by
    simp only [List.getElem?_cons_succ] at h
    simp only [ud_fv, List.set_cons_succ]
    rw [show j0 + (j + 1) = j0 + 1 + j by omega, ud_fv_set b f v rs (j0 + 1) j h]
theorem ud_lay_addr (E : Ue) (m : Um) : ∀ (ds : List Ud) (o0 k : Nat) (q : Nat × va_E), (ud_lay E m o0 ds)[k]? = some q → q.1 = ue_d E (o0 + k) ∧ k < ds.length
  | [], o0, k, q, h => by simp [ud_lay] at h
  | x :: ds, o0, 0, q, h => by
    simp only [ud_lay, List.getElem?_cons_zero, Option.some.injEq] at h
    subst h
    simp
  | x :: ds, o0, k + 1, q, h => by
    simp only [ud_lay, List.getElem?_cons_succ] at h
    have := ud_lay_addr E m ds (o0 + 1) k q h
    rw [show o0 + (k + 1) = o0 + 1 + k by omega]
    exact ⟨this.1, by simpa using this.2⟩
theorem ul_D {E : Ue} (hE : ue_ok E) (m : Um) : va_D (ue_A E) (ul E m) := by
  have h64 : (ud_all ++ ue_x E).length = 63 + (ue_x E).length := by rw [List.length_append]; rfl
  refine ⟨fun i j p q hi hj hpq => ?_, fun k q hk => ?_⟩
  · have h1 := ud_lay_addr E m (ud_all ++ ue_x E) 0 i p hi
    have h2 := ud_lay_addr E m (ud_all ++ ue_x E) 0 j q hj
    rw [h64, Nat.zero_add] at h1 h2
    exact hE.1 i j h1.2 h2.2 (by rw [← h1.1, ← h2.1]; exact hpq)
  · have h1 := ud_lay_addr E m (ud_all ++ ue_x E) 0 k q hk
    rw [h64, Nat.zero_add] at h1
    show ue_b E ≤ q.1
    rw [h1.1]
    exact hE.2 k h1.2
