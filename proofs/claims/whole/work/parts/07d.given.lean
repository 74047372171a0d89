/-! WHAT THE STATEMENT GIVES AT THE START -/
def lw_fl : List Cond := flatC (Jvm.Cond.and given_1 narrow_1)
def us_one (own : String) (k L : Nat) (bs : List Int32) (A : Nat → Prop) (args : Array Value) (s : State) : Prop := ∃ a v : Nat, (Term.string own k).eval args s none [] s = some (.ref a) ∧ va_O "java/lang/String" a A s s.heap ∧ va_OF "java/lang/String" "coder" "B" (.int 0) a A s s.heap ∧ va_OF "java/lang/String" "value" "[B" (.ref v) a A s s.heap ∧ va_T .byte v L (fun j => .int (bs.getD j 0)) A s s.heap
theorem us_one_of {own : String} {k L : Nat} {bs : List Int32} {A : Nat → Prop} {args : Array Value} {s : State} (hs : ∀ w ∈ lw_fl, w.before args s = true) (hA : ∀ a : Nat, a < s.heap.size → ¬ A a) (hL : L < 2 ^ 31) (h1 : Cond.exactly (.string own k) "java/lang/String" ∈ lw_fl) (h2 : Cond.eq (.field (.string own k) "java/lang/String" "coder" "B") (.int 0) ∈ lw_fl) (h3 : Cond.arrayOf (.field (.string own k) "java/lang/String" "value" "[B") .byte ∈ lw_fl) (h4 : Cond.eq (.length (.field (.string own k) "java/lang/String" "value" "[B")) (.int (Int32.ofNat L)) ∈ lw_fl) (h5 : ∀ j, j < L → Cond.eq (.elem (.field (.string own k) "java/lang/String" "value" "[B") (.int (Int32.ofNat j))) (.int (bs.getD j 0)) ∈ lw_fl) : us_one own k L bs A args s := by
  obtain ⟨aK, aV, hS, hE⟩ := vk_Sof (args := args) (s := s) (N := 1) (tm := fun _ => .string own k) (len := [L]) (byt := [bs]) (A := A) (fun i hi => by rcases (show i = 0 by omega) with rfl; exact hL) (fun i hi => hs _ h1) (fun i hi => hs _ h2) (fun i hi => hs _ h3) (fun i hi => by rcases (show i = 0 by omega) with rfl; exact hs _ h4) (fun i hi j hj => by rcases (show i = 0 by omega) with rfl; exact hs _ (h5 j hj)) (fun i j hi hj hne => absurd (show i = j by omega) hne) hA
  have h0 := hS.1 0 (by omega)
  exact ⟨aK 0, aV 0, hE 0 (by omega), h0.1, h0.2.1, h0.2.2.1, h0.2.2.2⟩
/-- two Strings at one place hold the same bytes -/
theorem us_same {a v1 v2 L1 L2 : Nat} {b1 b2 : List Int32} {A : Nat → Prop} {s : State} {H : Heap} (hL1 : L1 < 2 ^ 31) (hL2 : L2 < 2 ^ 31) (f1 : va_OF "java/lang/String" "value" "[B" (.ref v1) a A s H) (f2 : va_OF "java/lang/String" "value" "[B" (.ref v2) a A s H) (t1 : va_T .byte v1 L1 (fun j => .int (b1.getD j 0)) A s H) (t2 : va_T .byte v2 L2 (fun j => .int (b2.getD j 0)) A s H) : L1 = L2 ∧ ∀ j, j < L1 → b1.getD j 0 = b2.getD j 0 := by
  obtain ⟨c1, k1, i1, fd1, ce1, g1, g2, g3, g4, g5, -⟩ := f1
  obtain ⟨c2, k2, i2, fd2, ce2, e1, e2, e3, e4, e5, -⟩ := f2
  cases Option.some.inj (g1.symm.trans e1)
  cases Option.some.inj (g3.symm.trans e3)
  cases Option.some.inj (g5.symm.trans e5)
  obtain ⟨d1, m1, -, -, -, m5, m6, -⟩ := t1
  obtain ⟨d2, n1, -, -, -, n5, n6, -⟩ := t2
  cases Option.some.inj (m1.symm.trans n1)
  have hL : L1 = L2 := (nI_eq hL1 hL2).mp (m5.symm.trans n5)
  subst hL
  refine ⟨rfl, fun j hj => ?_⟩
  have := Option.some.inj ((m6 j hj).symm.trans (n6 j hj))
  exact Value.int.inj this
theorem us_dist : ∀ i, i < 18 → ∀ j, j < 18 → us_len.getD i 0 = us_len.getD j 0 → (∀ q, q < us_len.getD i 0 → (us_byt.getD i []).getD q 0 = (us_byt.getD j []).getD q 0) → i = j := by decide +kernel
theorem us_s0 {A : Nat → Prop} {args : Array Value} {s : State} (hs : ∀ w ∈ lw_fl, w.before args s = true) (hA : ∀ a : Nat, a < s.heap.size → ¬ A a) : us_one RX1 53 4 (us_byt.getD 0 []) A args s := us_one_of hs hA (by decide) (by decide +kernel) (by decide +kernel) (by decide +kernel) (by decide +kernel) (by decide +kernel)
theorem us_s1 {A : Nat → Prop} {args : Array Value} {s : State} (hs : ∀ w ∈ lw_fl, w.before args s = true) (hA : ∀ a : Nat, a < s.heap.size → ¬ A a) : us_one RX1 67 6 (us_byt.getD 1 []) A args s := us_one_of hs hA (by decide) (by decide +kernel) (by decide +kernel) (by decide +kernel) (by decide +kernel) (by decide +kernel)
theorem us_s2 {A : Nat → Prop} {args : Array Value} {s : State} (hs : ∀ w ∈ lw_fl, w.before args s = true) (hA : ∀ a : Nat, a < s.heap.size → ¬ A a) : us_one RX1 72 4 (us_byt.getD 2 []) A args s := us_one_of hs hA (by decide) (by decide +kernel) (by decide +kernel) (by decide +kernel) (by decide +kernel) (by decide +kernel)
theorem us_s3 {A : Nat → Prop} {args : Array Value} {s : State} (hs : ∀ w ∈ lw_fl, w.before args s = true) (hA : ∀ a : Nat, a < s.heap.size → ¬ A a) : us_one RX2 124 5 (us_byt.getD 3 []) A args s := us_one_of hs hA (by decide) (by decide +kernel) (by decide +kernel) (by decide +kernel) (by decide +kernel) (by decide +kernel)
theorem us_s4 {A : Nat → Prop} {args : Array Value} {s : State} (hs : ∀ w ∈ lw_fl, w.before args s = true) (hA : ∀ a : Nat, a < s.heap.size → ¬ A a) : us_one RX2 130 4 (us_byt.getD 4 []) A args s := us_one_of hs hA (by decide) (by decide +kernel) (by decide +kernel) (by decide +kernel) (by decide +kernel) (by decide +kernel)
theorem us_s5 {A : Nat → Prop} {args : Array Value} {s : State} (hs : ∀ w ∈ lw_fl, w.before args s = true) (hA : ∀ a : Nat, a < s.heap.size → ¬ A a) : us_one RX2 132 4 (us_byt.getD 5 []) A args s := us_one_of hs hA (by decide) (by decide +kernel) (by decide +kernel) (by decide +kernel) (by decide +kernel) (by decide +kernel)
theorem us_s6 {A : Nat → Prop} {args : Array Value} {s : State} (hs : ∀ w ∈ lw_fl, w.before args s = true) (hA : ∀ a : Nat, a < s.heap.size → ¬ A a) : us_one RX2 136 5 (us_byt.getD 6 []) A args s := us_one_of hs hA (by decide) (by decide +kernel) (by decide +kernel) (by decide +kernel) (by decide +kernel) (by decide +kernel)
theorem us_s7 {A : Nat → Prop} {args : Array Value} {s : State} (hs : ∀ w ∈ lw_fl, w.before args s = true) (hA : ∀ a : Nat, a < s.heap.size → ¬ A a) : us_one RX2 138 5 (us_byt.getD 7 []) A args s := us_one_of hs hA (by decide) (by decide +kernel) (by decide +kernel) (by decide +kernel) (by decide +kernel) (by decide +kernel)
theorem us_s8 {A : Nat → Prop} {args : Array Value} {s : State} (hs : ∀ w ∈ lw_fl, w.before args s = true) (hA : ∀ a : Nat, a < s.heap.size → ¬ A a) : us_one RX2 140 5 (us_byt.getD 8 []) A args s := us_one_of hs hA (by decide) (by decide +kernel) (by decide +kernel) (by decide +kernel) (by decide +kernel) (by decide +kernel)
theorem us_s9 {A : Nat → Prop} {args : Array Value} {s : State} (hs : ∀ w ∈ lw_fl, w.before args s = true) (hA : ∀ a : Nat, a < s.heap.size → ¬ A a) : us_one RX2 142 6 (us_byt.getD 9 []) A args s := us_one_of hs hA (by decide) (by decide +kernel) (by decide +kernel) (by decide +kernel) (by decide +kernel) (by decide +kernel)
theorem us_s10 {A : Nat → Prop} {args : Array Value} {s : State} (hs : ∀ w ∈ lw_fl, w.before args s = true) (hA : ∀ a : Nat, a < s.heap.size → ¬ A a) : us_one RX2 144 5 (us_byt.getD 10 []) A args s := us_one_of hs hA (by decide) (by decide +kernel) (by decide +kernel) (by decide +kernel) (by decide +kernel) (by decide +kernel)
theorem us_s11 {A : Nat → Prop} {args : Array Value} {s : State} (hs : ∀ w ∈ lw_fl, w.before args s = true) (hA : ∀ a : Nat, a < s.heap.size → ¬ A a) : us_one RX6 79 4 (us_byt.getD 11 []) A args s := us_one_of hs hA (by decide) (by decide +kernel) (by decide +kernel) (by decide +kernel) (by decide +kernel) (by decide +kernel)
theorem us_s12 {A : Nat → Prop} {args : Array Value} {s : State} (hs : ∀ w ∈ lw_fl, w.before args s = true) (hA : ∀ a : Nat, a < s.heap.size → ¬ A a) : us_one RX6 85 4 (us_byt.getD 12 []) A args s := us_one_of hs hA (by decide) (by decide +kernel) (by decide +kernel) (by decide +kernel) (by decide +kernel) (by decide +kernel)
theorem us_s13 {A : Nat → Prop} {args : Array Value} {s : State} (hs : ∀ w ∈ lw_fl, w.before args s = true) (hA : ∀ a : Nat, a < s.heap.size → ¬ A a) : us_one RX6 87 4 (us_byt.getD 13 []) A args s := us_one_of hs hA (by decide) (by decide +kernel) (by decide +kernel) (by decide +kernel) (by decide +kernel) (by decide +kernel)
theorem us_s14 {A : Nat → Prop} {args : Array Value} {s : State} (hs : ∀ w ∈ lw_fl, w.before args s = true) (hA : ∀ a : Nat, a < s.heap.size → ¬ A a) : us_one RX6 89 3 (us_byt.getD 14 []) A args s := us_one_of hs hA (by decide) (by decide +kernel) (by decide +kernel) (by decide +kernel) (by decide +kernel) (by decide +kernel)
theorem us_s15 {A : Nat → Prop} {args : Array Value} {s : State} (hs : ∀ w ∈ lw_fl, w.before args s = true) (hA : ∀ a : Nat, a < s.heap.size → ¬ A a) : us_one RX6 91 4 (us_byt.getD 15 []) A args s := us_one_of hs hA (by decide) (by decide +kernel) (by decide +kernel) (by decide +kernel) (by decide +kernel) (by decide +kernel)
theorem us_s16 {A : Nat → Prop} {args : Array Value} {s : State} (hs : ∀ w ∈ lw_fl, w.before args s = true) (hA : ∀ a : Nat, a < s.heap.size → ¬ A a) : us_one RX6 93 4 (us_byt.getD 16 []) A args s := us_one_of hs hA (by decide) (by decide +kernel) (by decide +kernel) (by decide +kernel) (by decide +kernel) (by decide +kernel)
theorem us_s17 {A : Nat → Prop} {args : Array Value} {s : State} (hs : ∀ w ∈ lw_fl, w.before args s = true) (hA : ∀ a : Nat, a < s.heap.size → ¬ A a) : us_one RX6 97 5 (us_byt.getD 17 []) A args s := us_one_of hs hA (by decide) (by decide +kernel) (by decide +kernel) (by decide +kernel) (by decide +kernel) (by decide +kernel)
theorem lw_st {args : Array Value} {s : State} {w : Cond} (hts : ∀ w ∈ lw_tbl, w.before args s = true) (i : Nat) (h : tables_1[i]? = some w) : w.before args s = true := hts w (List.mem_append_right _ (List.mem_of_getElem? h))
set_option maxRecDepth 20000 in
set_option maxHeartbeats 4000000 in
theorem us_start {args : Array Value} {s : State} (hs : ∀ w ∈ lw_fl, w.before args s = true) (hts : ∀ w ∈ lw_tbl, w.before args s = true) (hA : ∀ a : Nat, a < s.heap.size → ¬ (fun q : Nat => s.heap.size ≤ q) a) : ∃ adK adV : Nat → Nat, vk_S 18 us_len us_byt adK adV (fun q => s.heap.size ≤ q) s s.heap ∧ ∀ q ∈ us_ref, vk_R q.1 q.2.1 q.2.2.1 (adK q.2.2.2) s := by
  obtain ⟨a0, v0, e0, o0, c0, f0, t0⟩ := us_s0 (A := fun q => s.heap.size ≤ q) hs hA
  obtain ⟨a1, v1, e1, o1, c1, f1, t1⟩ := us_s1 (A := fun q => s.heap.size ≤ q) hs hA
  obtain ⟨a2, v2, e2, o2, c2, f2, t2⟩ := us_s2 (A := fun q => s.heap.size ≤ q) hs hA
  obtain ⟨a3, v3, e3, o3, c3, f3, t3⟩ := us_s3 (A := fun q => s.heap.size ≤ q) hs hA
  obtain ⟨a4, v4, e4, o4, c4, f4, t4⟩ := us_s4 (A := fun q => s.heap.size ≤ q) hs hA
  obtain ⟨a5, v5, e5, o5, c5, f5, t5⟩ := us_s5 (A := fun q => s.heap.size ≤ q) hs hA
  obtain ⟨a6, v6, e6, o6, c6, f6, t6⟩ := us_s6 (A := fun q => s.heap.size ≤ q) hs hA
  obtain ⟨a7, v7, e7, o7, c7, f7, t7⟩ := us_s7 (A := fun q => s.heap.size ≤ q) hs hA
  obtain ⟨a8, v8, e8, o8, c8, f8, t8⟩ := us_s8 (A := fun q => s.heap.size ≤ q) hs hA
  obtain ⟨a9, v9, e9, o9, c9, f9, t9⟩ := us_s9 (A := fun q => s.heap.size ≤ q) hs hA
  obtain ⟨a10, v10, e10, o10, c10, f10, t10⟩ := us_s10 (A := fun q => s.heap.size ≤ q) hs hA
  obtain ⟨a11, v11, e11, o11, c11, f11, t11⟩ := us_s11 (A := fun q => s.heap.size ≤ q) hs hA
  obtain ⟨a12, v12, e12, o12, c12, f12, t12⟩ := us_s12 (A := fun q => s.heap.size ≤ q) hs hA
  obtain ⟨a13, v13, e13, o13, c13, f13, t13⟩ := us_s13 (A := fun q => s.heap.size ≤ q) hs hA
  obtain ⟨a14, v14, e14, o14, c14, f14, t14⟩ := us_s14 (A := fun q => s.heap.size ≤ q) hs hA
  obtain ⟨a15, v15, e15, o15, c15, f15, t15⟩ := us_s15 (A := fun q => s.heap.size ≤ q) hs hA
  obtain ⟨a16, v16, e16, o16, c16, f16, t16⟩ := us_s16 (A := fun q => s.heap.size ≤ q) hs hA
  obtain ⟨a17, v17, e17, o17, c17, f17, t17⟩ := us_s17 (A := fun q => s.heap.size ≤ q) hs hA
  refine ⟨fun i => ([a0, a1, a2, a3, a4, a5, a6, a7, a8, a9, a10, a11, a12, a13, a14, a15, a16, a17] : List Nat).getD i 0, fun i => ([v0, v1, v2, v3, v4, v5, v6, v7, v8, v9, v10, v11, v12, v13, v14, v15, v16, v17] : List Nat).getD i 0, ⟨?_, ?_⟩, ?_⟩
  · intro i hi
    rcases (show i = 0 ∨ i = 1 ∨ i = 2 ∨ i = 3 ∨ i = 4 ∨ i = 5 ∨ i = 6 ∨ i = 7 ∨ i = 8 ∨ i = 9 ∨ i = 10 ∨ i = 11 ∨ i = 12 ∨ i = 13 ∨ i = 14 ∨ i = 15 ∨ i = 16 ∨ i = 17 by omega) with rfl | rfl | rfl | rfl | rfl | rfl | rfl | rfl | rfl | rfl | rfl | rfl | rfl | rfl | rfl | rfl | rfl | rfl
    · exact ⟨o0, c0, f0, t0⟩
    · exact ⟨o1, c1, f1, t1⟩
    · exact ⟨o2, c2, f2, t2⟩
    · exact ⟨o3, c3, f3, t3⟩
    · exact ⟨o4, c4, f4, t4⟩
    · exact ⟨o5, c5, f5, t5⟩
    · exact ⟨o6, c6, f6, t6⟩
    · exact ⟨o7, c7, f7, t7⟩
    · exact ⟨o8, c8, f8, t8⟩
    · exact ⟨o9, c9, f9, t9⟩
    · exact ⟨o10, c10, f10, t10⟩
    · exact ⟨o11, c11, f11, t11⟩
    · exact ⟨o12, c12, f12, t12⟩
    · exact ⟨o13, c13, f13, t13⟩
    · exact ⟨o14, c14, f14, t14⟩
    · exact ⟨o15, c15, f15, t15⟩
    · exact ⟨o16, c16, f16, t16⟩
    · exact ⟨o17, c17, f17, t17⟩
  · have key : ∀ i, i < 18 → va_OF "java/lang/String" "value" "[B" (.ref (([v0, v1, v2, v3, v4, v5, v6, v7, v8, v9, v10, v11, v12, v13, v14, v15, v16, v17] : List Nat).getD i 0)) (([a0, a1, a2, a3, a4, a5, a6, a7, a8, a9, a10, a11, a12, a13, a14, a15, a16, a17] : List Nat).getD i 0) (fun q => s.heap.size ≤ q) s s.heap ∧ va_T .byte (([v0, v1, v2, v3, v4, v5, v6, v7, v8, v9, v10, v11, v12, v13, v14, v15, v16, v17] : List Nat).getD i 0) (us_len.getD i 0) (fun j => .int ((us_byt.getD i []).getD j 0)) (fun q => s.heap.size ≤ q) s s.heap := by
      intro i hi
      rcases (show i = 0 ∨ i = 1 ∨ i = 2 ∨ i = 3 ∨ i = 4 ∨ i = 5 ∨ i = 6 ∨ i = 7 ∨ i = 8 ∨ i = 9 ∨ i = 10 ∨ i = 11 ∨ i = 12 ∨ i = 13 ∨ i = 14 ∨ i = 15 ∨ i = 16 ∨ i = 17 by omega) with rfl | rfl | rfl | rfl | rfl | rfl | rfl | rfl | rfl | rfl | rfl | rfl | rfl | rfl | rfl | rfl | rfl | rfl
      · exact ⟨f0, t0⟩
      · exact ⟨f1, t1⟩
      · exact ⟨f2, t2⟩
      · exact ⟨f3, t3⟩
      · exact ⟨f4, t4⟩
      · exact ⟨f5, t5⟩
      · exact ⟨f6, t6⟩
      · exact ⟨f7, t7⟩
      · exact ⟨f8, t8⟩
      · exact ⟨f9, t9⟩
      · exact ⟨f10, t10⟩
      · exact ⟨f11, t11⟩
      · exact ⟨f12, t12⟩
      · exact ⟨f13, t13⟩
      · exact ⟨f14, t14⟩
      · exact ⟨f15, t15⟩
      · exact ⟨f16, t16⟩
      · exact ⟨f17, t17⟩
    intro i j hi hj e
    have k1 := key i hi
    have k2 := key j hj
    have e9 : ([a0, a1, a2, a3, a4, a5, a6, a7, a8, a9, a10, a11, a12, a13, a14, a15, a16, a17] : List Nat).getD i 0 = ([a0, a1, a2, a3, a4, a5, a6, a7, a8, a9, a10, a11, a12, a13, a14, a15, a16, a17] : List Nat).getD j 0 := e
    rw [e9] at k1
    obtain ⟨g1, g2⟩ := us_same (us_lt i hi) (us_lt j hj) k1.1 k2.1 k1.2 k2.2
    exact us_dist i hi j hj g1 g2
  · intro q hq
    have hm : q = (RX1, 53, "view", 0) ∨ q = (RX1, 67, "tenant", 1) ∨ q = (RX1, 72, "soap", 2) ∨ q = (RX2, 124, "least", 3) ∨ q = (RX2, 130, "most", 4) ∨ q = (RX2, 132, "size", 5) ∨ q = (RX2, 134, "soap", 2) ∨ q = (RX2, 136, "walls", 6) ∨ q = (RX2, 138, "place", 7) ∨ q = (RX2, 140, "worth", 8) ∨ q = (RX2, 142, "breath", 9) ∨ q = (RX2, 144, "blown", 10) ∨ q = (RX2, 146, "tenant", 1) ∨ q = (RX6, 79, "blow", 11) ∨ q = (RX6, 85, "east", 12) ∨ q = (RX6, 87, "west", 13) ∨ q = (RX6, 89, "run", 14) ∨ q = (RX6, 91, "sell", 15) ∨ q = (RX6, 93, "keep", 16) ∨ q = (RX6, 95, "breath", 9) ∨ q = (RX6, 97, "again", 17) ∨ q = (RX8, 179, "view", 0) ∨ q = (RX8, 184, "tenant", 1) ∨ q = (RX8, 185, "soap", 2) ∨ q = (RX8, 252, "least", 3) ∨ q = (RX8, 257, "most", 4) ∨ q = (RX8, 241, "size", 5) ∨ q = (RX8, 242, "walls", 6) ∨ q = (RX8, 244, "place", 7) ∨ q = (RX8, 246, "worth", 8) ∨ q = (RX8, 248, "breath", 9) ∨ q = (RX8, 250, "blown", 10) ∨ q = (RX8, 272, "blow", 11) ∨ q = (RX8, 274, "east", 12) ∨ q = (RX8, 276, "west", 13) ∨ q = (RX8, 278, "run", 14) ∨ q = (RX8, 280, "sell", 15) ∨ q = (RX8, 282, "keep", 16) ∨ q = (RX8, 284, "again", 17) := by simpa [us_ref] using hq
    rcases hm with rfl | rfl | rfl | rfl | rfl | rfl | rfl | rfl | rfl | rfl | rfl | rfl | rfl | rfl | rfl | rfl | rfl | rfl | rfl | rfl | rfl | rfl | rfl | rfl | rfl | rfl | rfl | rfl | rfl | rfl | rfl | rfl | rfl | rfl | rfl | rfl | rfl | rfl | rfl
    · exact vk_R.of (A := args) (lw_st hts 463 (by decide +kernel)) e0
    · exact vk_R.of (A := args) (lw_st hts 537 (by decide +kernel)) e1
    · exact vk_R.of (A := args) (lw_st hts 542 (by decide +kernel)) e2
    · exact vk_R.of (A := args) (lw_st hts 614 (by decide +kernel)) e3
    · exact vk_R.of (A := args) (lw_st hts 616 (by decide +kernel)) e4
    · exact vk_R.of (A := args) (lw_st hts 625 (by decide +kernel)) e5
    · exact vk_R.of (A := args) (lw_st hts 626 (by decide +kernel)) (va_eqR (hs (.eq (.string RX1 72) (.string RX2 134)) (by decide +kernel)) e2)
    · exact vk_R.of (A := args) (lw_st hts 627 (by decide +kernel)) e6
    · exact vk_R.of (A := args) (lw_st hts 628 (by decide +kernel)) e7
    · exact vk_R.of (A := args) (lw_st hts 629 (by decide +kernel)) e8
    · exact vk_R.of (A := args) (lw_st hts 630 (by decide +kernel)) e9
    · exact vk_R.of (A := args) (lw_st hts 631 (by decide +kernel)) e10
    · exact vk_R.of (A := args) (lw_st hts 632 (by decide +kernel)) (va_eqR (hs (.eq (.string RX1 67) (.string RX2 146)) (by decide +kernel)) e1)
    · exact vk_R.of (A := args) (lw_st hts 663 (by decide +kernel)) e11
    · exact vk_R.of (A := args) (lw_st hts 665 (by decide +kernel)) e12
    · exact vk_R.of (A := args) (lw_st hts 666 (by decide +kernel)) e13
    · exact vk_R.of (A := args) (lw_st hts 667 (by decide +kernel)) e14
    · exact vk_R.of (A := args) (lw_st hts 668 (by decide +kernel)) e15
    · exact vk_R.of (A := args) (lw_st hts 669 (by decide +kernel)) e16
    · exact vk_R.of (A := args) (lw_st hts 670 (by decide +kernel)) (va_eqR (hs (.eq (.string RX2 142) (.string RX6 95)) (by decide +kernel)) e9)
    · exact vk_R.of (A := args) (lw_st hts 671 (by decide +kernel)) e17
    · exact vk_R.of (A := args) (lw_st hts 1387 (by decide +kernel)) (va_eqR (hs (.eq (.string RX1 53) (.string RX8 179)) (by decide +kernel)) e0)
    · exact vk_R.of (A := args) (lw_st hts 1393 (by decide +kernel)) (va_eqR (hs (.eq (.string RX1 67) (.string RX8 184)) (by decide +kernel)) e1)
    · exact vk_R.of (A := args) (lw_st hts 1394 (by decide +kernel)) (va_eqR (hs (.eq (.string RX1 72) (.string RX8 185)) (by decide +kernel)) e2)
    · exact vk_R.of (A := args) (lw_st hts 1450 (by decide +kernel)) (va_eqR (hs (.eq (.string RX2 124) (.string RX8 252)) (by decide +kernel)) e3)
    · exact vk_R.of (A := args) (lw_st hts 1455 (by decide +kernel)) (va_eqR (hs (.eq (.string RX2 130) (.string RX8 257)) (by decide +kernel)) e4)
    · exact vk_R.of (A := args) (lw_st hts 1460 (by decide +kernel)) (va_eqR (hs (.eq (.string RX2 132) (.string RX8 241)) (by decide +kernel)) e5)
    · exact vk_R.of (A := args) (lw_st hts 1461 (by decide +kernel)) (va_eqR (hs (.eq (.string RX2 136) (.string RX8 242)) (by decide +kernel)) e6)
    · exact vk_R.of (A := args) (lw_st hts 1462 (by decide +kernel)) (va_eqR (hs (.eq (.string RX2 138) (.string RX8 244)) (by decide +kernel)) e7)
    · exact vk_R.of (A := args) (lw_st hts 1463 (by decide +kernel)) (va_eqR (hs (.eq (.string RX2 140) (.string RX8 246)) (by decide +kernel)) e8)
    · exact vk_R.of (A := args) (lw_st hts 1464 (by decide +kernel)) (va_eqR (hs (.eq (.string RX2 142) (.string RX8 248)) (by decide +kernel)) e9)
    · exact vk_R.of (A := args) (lw_st hts 1465 (by decide +kernel)) (va_eqR (hs (.eq (.string RX2 144) (.string RX8 250)) (by decide +kernel)) e10)
    · exact vk_R.of (A := args) (lw_st hts 1477 (by decide +kernel)) (va_eqR (hs (.eq (.string RX6 79) (.string RX8 272)) (by decide +kernel)) e11)
    · exact vk_R.of (A := args) (lw_st hts 1478 (by decide +kernel)) (va_eqR (hs (.eq (.string RX6 85) (.string RX8 274)) (by decide +kernel)) e12)
    · exact vk_R.of (A := args) (lw_st hts 1479 (by decide +kernel)) (va_eqR (hs (.eq (.string RX6 87) (.string RX8 276)) (by decide +kernel)) e13)
    · exact vk_R.of (A := args) (lw_st hts 1480 (by decide +kernel)) (va_eqR (hs (.eq (.string RX6 89) (.string RX8 278)) (by decide +kernel)) e14)
    · exact vk_R.of (A := args) (lw_st hts 1481 (by decide +kernel)) (va_eqR (hs (.eq (.string RX6 91) (.string RX8 280)) (by decide +kernel)) e15)
    · exact vk_R.of (A := args) (lw_st hts 1482 (by decide +kernel)) (va_eqR (hs (.eq (.string RX6 93) (.string RX8 282)) (by decide +kernel)) e16)
    · exact vk_R.of (A := args) (lw_st hts 1483 (by decide +kernel)) (va_eqR (hs (.eq (.string RX6 97) (.string RX8 284)) (by decide +kernel)) e17)
