/-- all that the 43 calls keep -/
def uops (I : Um → Prop) : Prop := uop_feed I ∧ uop_corner I ∧ uop_law I ∧ uop_work I ∧ uop_book I ∧ uop_fault I ∧ uop_undo I ∧ uop_told I ∧ uop_view I ∧ uop_tenant I ∧ uop_bubble I ∧ uop_would I ∧ uop_ahead I ∧ uop_wall I ∧ uop_lasts I ∧ uop_pitch I ∧ uop_street I ∧ uop_fits I ∧ uop_look I ∧ uop_stands I ∧ uop_mean I ∧ uop_sure I ∧ uop_pay I ∧ uop_sun I ∧ uop_richest I ∧ uop_idle I ∧ uop_under I ∧ uop_offer I ∧ uop_lost I ∧ uop_terrace I ∧ uop_overlap I ∧ uop_vacant I ∧ uop_needs I ∧ uop_buyers I ∧ uop_affords I ∧ uop_front I ∧ uop_closest I ∧ uop_afternoon I ∧ uop_span I ∧ uop_image I ∧ uop_restore I ∧ uop_status I ∧ uop_count I
theorem ulaw_in {i n : Nat} (h : i + 9 ≤ n) (hn : n ≤ 4608) : ∀ q, q ≤ 8 → vp_in (nI i + nI q) n := fun q hq => by
  rw [nI_add]
  exact vp_in_nI (by omega) (by omega)
theorem ulaw_gt {i n : Nat} (hi : i < 10000) (hn : n ≤ 4608) : (Int32.ofNat n - 9 < nI i) ↔ n < i + 9 := by
  have e9 : (9 : Int32).toInt = 9 := by decide
  have hN : (Int32.ofNat n).toInt = (n : Int) := nI_toInt (n := n) (by omega)
  have hI : (nI i).toInt = (i : Int) := nI_toInt (by omega)
  have hs : (Int32.ofNat n - 9).toInt = (n : Int) - 9 := by
    rw [Int32.toInt_sub, hN, e9]
    exact Int.bmod_eq_of_le (by omega) (by omega)
  rw [Int32.lt_iff_toInt_lt, hs, hI]
  omega
set_option maxRecDepth 20000 in
set_option maxHeartbeats 4000000 in
theorem law_sw {l : Launch} {E : Ue} (hx : ue_x E = [.inr (3, 1)]) {I : Um → Prop} (h : uops I) {mc ms ce sl n : Nat} {x4 x : Int32} (hin : ∀ q, q ≤ 8 → vp_in (x4 + nI q) (ue_sn E)) (ih : ∀ (m2 : Um) (ce sl : Nat), I m2 → ce + n ≤ mc → sl + 6 * n ≤ ms → ∃ m9, ug l E 2048 mc ms cL_law_ 8 RL (some .boolean) [] (.inl (some (.int 1), m9)) ce sl 23 [(0, .ref (ue_sb E)), (1, .ref (ue_d E 0)), (2, .ref (ue_d E 38)), (3, .ref (ue_d E 63)), (4, .int (x4 + 9))] [] m2) {mem : Um} (hI : I mem) (hc : ce + (n + 1) ≤ mc) (hs : sl + 6 * (n + 1) ≤ ms) : ∃ m9, ug l E 2048 mc ms cL_law_ 8 RL (some .boolean) [] (.inl (some (.int 1), m9)) ce sl 40 [(0, .ref (ue_sb E)), (1, .ref (ue_d E 0)), (2, .ref (ue_d E 38)), (3, .ref (ue_d E 63)), (4, .int x4)] [.int x] mem := by
  obtain ⟨h0, h1, h2, h3, h4, h5, h6, h7, h8, h9, h10, h11, h12, h13, h14, h15, h16, h17, h18, h19, h20, h21, h22, h23, h24, h25, h26, h27, h28, h29, h30, h31, h32, h33, h34, h35, h36, h37, h38, h39, h40, h41, h42⟩ := h
  by_cases q0 : x = 0
  · obtain ⟨m9, hg⟩ := law_feed hx h0 hin ih hI hc hs
    exact ⟨m9, ug_tswI 228 dL_law__40 (by rw [q0]; decide) (by rw [q0]; decide) (by rw [q0]; rfl) (by decide) hg⟩
  by_cases q1 : x = 1
  · obtain ⟨m9, hg⟩ := law_corner hx h1 hin ih hI hc hs
    exact ⟨m9, ug_tswI 301 dL_law__40 (by rw [q1]; decide) (by rw [q1]; decide) (by rw [q1]; rfl) (by decide) hg⟩
  by_cases q2 : x = 2
  · obtain ⟨m9, hg⟩ := law_law hx h2 hin ih hI hc hs
    exact ⟨m9, ug_tswI 357 dL_law__40 (by rw [q2]; decide) (by rw [q2]; decide) (by rw [q2]; rfl) (by decide) hg⟩
  by_cases q3 : x = 3
  · obtain ⟨m9, hg⟩ := law_work hx h3 hin ih hI hc hs
    exact ⟨m9, ug_tswI 413 dL_law__40 (by rw [q3]; decide) (by rw [q3]; decide) (by rw [q3]; rfl) (by decide) hg⟩
  by_cases q4 : x = 4
  · obtain ⟨m9, hg⟩ := law_book hx h4 hin ih hI hc hs
    exact ⟨m9, ug_tswI 469 dL_law__40 (by rw [q4]; decide) (by rw [q4]; decide) (by rw [q4]; rfl) (by decide) hg⟩
  by_cases q5 : x = 5
  · obtain ⟨m9, hg⟩ := law_fault hx h5 hin ih hI hc hs
    exact ⟨m9, ug_tswI 525 dL_law__40 (by rw [q5]; decide) (by rw [q5]; decide) (by rw [q5]; rfl) (by decide) hg⟩
  by_cases q6 : x = 6
  · obtain ⟨m9, hg⟩ := law_undo hx h6 hin ih hI hc hs
    exact ⟨m9, ug_tswI 538 dL_law__40 (by rw [q6]; decide) (by rw [q6]; decide) (by rw [q6]; rfl) (by decide) hg⟩
  by_cases q7 : x = 7
  · obtain ⟨m9, hg⟩ := law_told hx h7 hin ih hI hc hs
    exact ⟨m9, ug_tswI 551 dL_law__40 (by rw [q7]; decide) (by rw [q7]; decide) (by rw [q7]; rfl) (by decide) hg⟩
  by_cases q8 : x = 8
  · obtain ⟨m9, hg⟩ := law_view hx h8 hin ih hI hc hs
    exact ⟨m9, ug_tswI 607 dL_law__40 (by rw [q8]; decide) (by rw [q8]; decide) (by rw [q8]; rfl) (by decide) hg⟩
  by_cases q9 : x = 9
  · obtain ⟨m9, hg⟩ := law_tenant hx h9 hin ih hI hc hs
    exact ⟨m9, ug_tswI 675 dL_law__40 (by rw [q9]; decide) (by rw [q9]; decide) (by rw [q9]; rfl) (by decide) hg⟩
  by_cases q10 : x = 10
  · obtain ⟨m9, hg⟩ := law_bubble hx h10 hin ih hI hc hs
    exact ⟨m9, ug_tswI 743 dL_law__40 (by rw [q10]; decide) (by rw [q10]; decide) (by rw [q10]; rfl) (by decide) hg⟩
  by_cases q11 : x = 11
  · obtain ⟨m9, hg⟩ := law_would hx h11 hin ih hI hc hs
    exact ⟨m9, ug_tswI 811 dL_law__40 (by rw [q11]; decide) (by rw [q11]; decide) (by rw [q11]; rfl) (by decide) hg⟩
  by_cases q12 : x = 12
  · obtain ⟨m9, hg⟩ := law_ahead hx h12 hin ih hI hc hs
    exact ⟨m9, ug_tswI 957 dL_law__40 (by rw [q12]; decide) (by rw [q12]; decide) (by rw [q12]; rfl) (by decide) hg⟩
  by_cases q13 : x = 13
  · obtain ⟨m9, hg⟩ := law_wall hx h13 hin ih hI hc hs
    exact ⟨m9, ug_tswI 1025 dL_law__40 (by rw [q13]; decide) (by rw [q13]; decide) (by rw [q13]; rfl) (by decide) hg⟩
  by_cases q14 : x = 14
  · obtain ⟨m9, hg⟩ := law_lasts hx h14 hin ih hI hc hs
    exact ⟨m9, ug_tswI 1105 dL_law__40 (by rw [q14]; decide) (by rw [q14]; decide) (by rw [q14]; rfl) (by decide) hg⟩
  by_cases q15 : x = 15
  · obtain ⟨m9, hg⟩ := law_pitch hx h15 hin ih hI hc hs
    exact ⟨m9, ug_tswI 1161 dL_law__40 (by rw [q15]; decide) (by rw [q15]; decide) (by rw [q15]; rfl) (by decide) hg⟩
  by_cases q16 : x = 16
  · obtain ⟨m9, hg⟩ := law_street hx h16 hin ih hI hc hs
    exact ⟨m9, ug_tswI 1229 dL_law__40 (by rw [q16]; decide) (by rw [q16]; decide) (by rw [q16]; rfl) (by decide) hg⟩
  by_cases q17 : x = 17
  · obtain ⟨m9, hg⟩ := law_fits hx h17 hin ih hI hc hs
    exact ⟨m9, ug_tswI 1297 dL_law__40 (by rw [q17]; decide) (by rw [q17]; decide) (by rw [q17]; rfl) (by decide) hg⟩
  by_cases q18 : x = 18
  · obtain ⟨m9, hg⟩ := law_look hx h18 hin ih hI hc hs
    exact ⟨m9, ug_tswI 1353 dL_law__40 (by rw [q18]; decide) (by rw [q18]; decide) (by rw [q18]; rfl) (by decide) hg⟩
  by_cases q19 : x = 19
  · obtain ⟨m9, hg⟩ := law_stands hx h19 hin ih hI hc hs
    exact ⟨m9, ug_tswI 1409 dL_law__40 (by rw [q19]; decide) (by rw [q19]; decide) (by rw [q19]; rfl) (by decide) hg⟩
  by_cases q20 : x = 20
  · obtain ⟨m9, hg⟩ := law_mean hx h20 hin ih hI hc hs
    exact ⟨m9, ug_tswI 1488 dL_law__40 (by rw [q20]; decide) (by rw [q20]; decide) (by rw [q20]; rfl) (by decide) hg⟩
  by_cases q21 : x = 21
  · obtain ⟨m9, hg⟩ := law_sure hx h21 hin ih hI hc hs
    exact ⟨m9, ug_tswI 1567 dL_law__40 (by rw [q21]; decide) (by rw [q21]; decide) (by rw [q21]; rfl) (by decide) hg⟩
  by_cases q22 : x = 22
  · obtain ⟨m9, hg⟩ := law_pay hx h22 hin ih hI hc hs
    exact ⟨m9, ug_tswI 1623 dL_law__40 (by rw [q22]; decide) (by rw [q22]; decide) (by rw [q22]; rfl) (by decide) hg⟩
  by_cases q23 : x = 23
  · obtain ⟨m9, hg⟩ := law_sun hx h23 hin ih hI hc hs
    exact ⟨m9, ug_tswI 1703 dL_law__40 (by rw [q23]; decide) (by rw [q23]; decide) (by rw [q23]; rfl) (by decide) hg⟩
  by_cases q24 : x = 24
  · obtain ⟨m9, hg⟩ := law_richest hx h24 hin ih hI hc hs
    exact ⟨m9, ug_tswI 1783 dL_law__40 (by rw [q24]; decide) (by rw [q24]; decide) (by rw [q24]; rfl) (by decide) hg⟩
  by_cases q25 : x = 25
  · obtain ⟨m9, hg⟩ := law_idle hx h25 hin ih hI hc hs
    exact ⟨m9, ug_tswI 1839 dL_law__40 (by rw [q25]; decide) (by rw [q25]; decide) (by rw [q25]; rfl) (by decide) hg⟩
  by_cases q26 : x = 26
  · obtain ⟨m9, hg⟩ := law_under hx h26 hin ih hI hc hs
    exact ⟨m9, ug_tswI 1852 dL_law__40 (by rw [q26]; decide) (by rw [q26]; decide) (by rw [q26]; rfl) (by decide) hg⟩
  by_cases q27 : x = 27
  · obtain ⟨m9, hg⟩ := law_offer hx h27 hin ih hI hc hs
    exact ⟨m9, ug_tswI 1865 dL_law__40 (by rw [q27]; decide) (by rw [q27]; decide) (by rw [q27]; rfl) (by decide) hg⟩
  by_cases q28 : x = 28
  · obtain ⟨m9, hg⟩ := law_lost hx h28 hin ih hI hc hs
    exact ⟨m9, ug_tswI 1933 dL_law__40 (by rw [q28]; decide) (by rw [q28]; decide) (by rw [q28]; rfl) (by decide) hg⟩
  by_cases q29 : x = 29
  · obtain ⟨m9, hg⟩ := law_terrace hx h29 hin ih hI hc hs
    exact ⟨m9, ug_tswI 2001 dL_law__40 (by rw [q29]; decide) (by rw [q29]; decide) (by rw [q29]; rfl) (by decide) hg⟩
  by_cases q30 : x = 30
  · obtain ⟨m9, hg⟩ := law_overlap hx h30 hin ih hI hc hs
    exact ⟨m9, ug_tswI 2057 dL_law__40 (by rw [q30]; decide) (by rw [q30]; decide) (by rw [q30]; rfl) (by decide) hg⟩
  by_cases q31 : x = 31
  · obtain ⟨m9, hg⟩ := law_vacant hx h31 hin ih hI hc hs
    exact ⟨m9, ug_tswI 2125 dL_law__40 (by rw [q31]; decide) (by rw [q31]; decide) (by rw [q31]; rfl) (by decide) hg⟩
  by_cases q32 : x = 32
  · obtain ⟨m9, hg⟩ := law_needs hx h32 hin ih hI hc hs
    exact ⟨m9, ug_tswI 2181 dL_law__40 (by rw [q32]; decide) (by rw [q32]; decide) (by rw [q32]; rfl) (by decide) hg⟩
  by_cases q33 : x = 33
  · obtain ⟨m9, hg⟩ := law_buyers hx h33 hin ih hI hc hs
    exact ⟨m9, ug_tswI 2249 dL_law__40 (by rw [q33]; decide) (by rw [q33]; decide) (by rw [q33]; rfl) (by decide) hg⟩
  by_cases q34 : x = 34
  · obtain ⟨m9, hg⟩ := law_affords hx h34 hin ih hI hc hs
    exact ⟨m9, ug_tswI 2317 dL_law__40 (by rw [q34]; decide) (by rw [q34]; decide) (by rw [q34]; rfl) (by decide) hg⟩
  by_cases q35 : x = 35
  · obtain ⟨m9, hg⟩ := law_front hx h35 hin ih hI hc hs
    exact ⟨m9, ug_tswI 2373 dL_law__40 (by rw [q35]; decide) (by rw [q35]; decide) (by rw [q35]; rfl) (by decide) hg⟩
  by_cases q36 : x = 36
  · obtain ⟨m9, hg⟩ := law_closest hx h36 hin ih hI hc hs
    exact ⟨m9, ug_tswI 2453 dL_law__40 (by rw [q36]; decide) (by rw [q36]; decide) (by rw [q36]; rfl) (by decide) hg⟩
  by_cases q37 : x = 37
  · obtain ⟨m9, hg⟩ := law_afternoon hx h37 hin ih hI hc hs
    exact ⟨m9, ug_tswI 2521 dL_law__40 (by rw [q37]; decide) (by rw [q37]; decide) (by rw [q37]; rfl) (by decide) hg⟩
  by_cases q38 : x = 38
  · obtain ⟨m9, hg⟩ := law_span hx h38 hin ih hI hc hs
    exact ⟨m9, ug_tswI 2613 dL_law__40 (by rw [q38]; decide) (by rw [q38]; decide) (by rw [q38]; rfl) (by decide) hg⟩
  by_cases q39 : x = 39
  · obtain ⟨m9, hg⟩ := law_image hx h39 hin ih hI hc hs
    exact ⟨m9, ug_tswI 2731 dL_law__40 (by rw [q39]; decide) (by rw [q39]; decide) (by rw [q39]; rfl) (by decide) hg⟩
  by_cases q40 : x = 40
  · obtain ⟨m9, hg⟩ := law_restore hx h40 hin ih hI hc hs
    exact ⟨m9, ug_tswI 2744 dL_law__40 (by rw [q40]; decide) (by rw [q40]; decide) (by rw [q40]; rfl) (by decide) hg⟩
  by_cases q41 : x = 41
  · obtain ⟨m9, hg⟩ := law_status hx h41 hin ih hI hc hs
    exact ⟨m9, ug_tswI 2757 dL_law__40 (by rw [q41]; decide) (by rw [q41]; decide) (by rw [q41]; rfl) (by decide) hg⟩
  by_cases q42 : x = 42
  · obtain ⟨m9, hg⟩ := law_count hx h42 hin ih hI hc hs
    exact ⟨m9, ug_tswI 2782 dL_law__40 (by rw [q42]; decide) (by rw [q42]; decide) (by rw [q42]; rfl) (by decide) hg⟩
  have ho : x.toInt < 0 ∨ 42 < x.toInt := by
    have key : ∀ j : Nat, j ≤ 42 → ¬ x.toInt = (j : Int) := by
      intro j hj e
      have hx : x = nI j := by rw [← Int32.toInt_inj, nI_toInt (by omega), e]
      have hh : j = 0 ∨ j = 1 ∨ j = 2 ∨ j = 3 ∨ j = 4 ∨ j = 5 ∨ j = 6 ∨ j = 7 ∨ j = 8 ∨ j = 9 ∨ j = 10 ∨ j = 11 ∨ j = 12 ∨ j = 13 ∨ j = 14 ∨ j = 15 ∨ j = 16 ∨ j = 17 ∨ j = 18 ∨ j = 19 ∨ j = 20 ∨ j = 21 ∨ j = 22 ∨ j = 23 ∨ j = 24 ∨ j = 25 ∨ j = 26 ∨ j = 27 ∨ j = 28 ∨ j = 29 ∨ j = 30 ∨ j = 31 ∨ j = 32 ∨ j = 33 ∨ j = 34 ∨ j = 35 ∨ j = 36 ∨ j = 37 ∨ j = 38 ∨ j = 39 ∨ j = 40 ∨ j = 41 ∨ j = 42 := by omega
      rcases hh with rfl | rfl | rfl | rfl | rfl | rfl | rfl | rfl | rfl | rfl | rfl | rfl | rfl | rfl | rfl | rfl | rfl | rfl | rfl | rfl | rfl | rfl | rfl | rfl | rfl | rfl | rfl | rfl | rfl | rfl | rfl | rfl | rfl | rfl | rfl | rfl | rfl | rfl | rfl | rfl | rfl | rfl | rfl
      · exact q0 hx
      · exact q1 hx
      · exact q2 hx
      · exact q3 hx
      · exact q4 hx
      · exact q5 hx
      · exact q6 hx
      · exact q7 hx
      · exact q8 hx
      · exact q9 hx
      · exact q10 hx
      · exact q11 hx
      · exact q12 hx
      · exact q13 hx
      · exact q14 hx
      · exact q15 hx
      · exact q16 hx
      · exact q17 hx
      · exact q18 hx
      · exact q19 hx
      · exact q20 hx
      · exact q21 hx
      · exact q22 hx
      · exact q23 hx
      · exact q24 hx
      · exact q25 hx
      · exact q26 hx
      · exact q27 hx
      · exact q28 hx
      · exact q29 hx
      · exact q30 hx
      · exact q31 hx
      · exact q32 hx
      · exact q33 hx
      · exact q34 hx
      · exact q35 hx
      · exact q36 hx
      · exact q37 hx
      · exact q38 hx
      · exact q39 hx
      · exact q40 hx
      · exact q41 hx
      · exact q42 hx
    have k0 := key x.toInt.toNat
    omega
  obtain ⟨m9, hg⟩ := ih mem ce sl hI (by omega) (by omega)
  refine ⟨m9, ug_tswO 2807 dL_law__40 ho (by decide) ?_⟩
  refine ug_iinc (v := (x4 + 9)) [(4, .int (x4 + 9)), (0, .ref (ue_sb E)), (1, .ref (ue_d E 0)), (2, .ref (ue_d E 38)), (3, .ref (ue_d E 63))] 4 dL_law__2807 rfl rfl (Nat.le_of_ble_eq_true rfl) rfl ?_
  refine ug_goto 23 dL_law__2810 (by decide) ?_
  exact ug_sub _ [1, 2, 3, 4, 0] rfl hg
theorem law_loop {l : Launch} {E : Ue} (hx : ue_x E = [.inr (3, 1)]) {I : Um → Prop} (h : uops I) (hL : ue_sn E ≤ 4608) {mc ms : Nat} : ∀ (n i : Nat) (mem : Um) (ce sl : Nat), i < 10000 → ue_sn E < i + 9 * n → I mem → ce + n ≤ mc → sl + 6 * n ≤ ms → ∃ m9, ug l E 2048 mc ms cL_law_ 8 RL (some .boolean) [] (.inl (some (.int 1), m9)) ce sl 23 [(0, .ref (ue_sb E)), (1, .ref (ue_d E 0)), (2, .ref (ue_d E 38)), (3, .ref (ue_d E 63)), (4, .int (nI i))] [] mem := by
  have fin : ∀ (i : Nat) (mem : Um) (ce sl : Nat), i < 10000 → ue_sn E < i + 9 → ce ≤ mc → sl ≤ ms → ug l E 2048 mc ms cL_law_ 8 RL (some .boolean) [] (.inl (some (.int 1), mem)) ce sl 23 [(0, .ref (ue_sb E)), (1, .ref (ue_d E 0)), (2, .ref (ue_d E 38)), (3, .ref (ue_d E 63)), (4, .int (nI i))] [] mem := by
    intro i mem ce sl hi hz hc hs
    refine ug_iload 4 dL_law__23 rfl ?_
    refine ug_aload_n 0 dL_law__25 rfl rfl ?_
    refine ug_slenS dL_law__26 ?_
    refine ug_bipush dL_law__27 (v := 9) (by decide) ?_
    refine ug_isub dL_law__29 ?_
    refine ug_icmp_gt 2813 dL_law__30 (by decide) (fun _ => ?_) (fun q => absurd ((ulaw_gt hi hL).mpr hz) q)
    refine ug_iconst dL_law__2813 un_iconst_1 ?_
    refine ug_widen hc hs ?_
    exact ug_zret (Or.inr rfl) dL_law__2814
  intro n
  induction n with
  | zero =>
    intro i mem ce sl hi hn hI hc hs
    exact ⟨mem, fin i mem ce sl hi (by omega) (by omega) (by omega)⟩
  | succ n ih =>
    intro i mem ce sl hi hn hI hc hs
    by_cases hz : ue_sn E < i + 9
    · exact ⟨mem, fin i mem ce sl hi hz (by omega) (by omega)⟩
    · have hin := ulaw_in (i := i) (n := ue_sn E) (by omega) hL
      obtain ⟨m9, hg⟩ := law_sw (x := ue_sx E (nI i).toNatClampNeg &&& 63) hx h (x4 := nI i) (ce := ce) (sl := sl) (n := n) (mc := mc) (ms := ms) (l := l) hin (fun m2 ce sl hI hc hs => by
        have := ih (i + 9) m2 ce sl (by omega) (by omega) hI hc hs
        rw [← nI_add] at this
        exact this) hI hc hs
      refine ⟨m9, ?_⟩
      refine ug_iload 4 dL_law__23 rfl ?_
      refine ug_aload_n 0 dL_law__25 rfl rfl ?_
      refine ug_slenS dL_law__26 ?_
      refine ug_bipush dL_law__27 (v := 9) (by decide) ?_
      refine ug_isub dL_law__29 ?_
      refine ug_icmp_gt 2813 dL_law__30 (by decide) (fun q => absurd ((ulaw_gt hi hL).mp q) hz) (fun _ => ?_)
      refine ug_aload_n 0 dL_law__33 rfl rfl ?_
      refine ug_iload 4 dL_law__34 rfl ?_
      refine ug_sld (vp_in_nI (by omega) (by omega)) dL_law__36 ?_
      refine ug_bipush dL_law__37 (v := 63) (by decide) ?_
      refine ug_iand dL_law__39 ?_
      exact hg

