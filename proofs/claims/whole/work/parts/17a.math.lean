/-! all 43 calls, and the start -/
theorem all_ops : uops uI := ⟨op_feed, op_corner, op_law, op_work, op_book, op_fault, op_undo, op_told, op_view, op_tenant, op_bubble, op_would, op_ahead, op_wall, op_lasts, op_pitch, op_street, op_fits, op_look, op_stands, op_mean, op_sure, op_pay, op_sun, op_richest, op_idle, op_under, op_offer, op_lost, op_terrace, op_overlap, op_vacant, op_needs, op_buyers, op_affords, op_front, op_closest, op_afternoon, op_span, op_image, op_restore, op_status, op_count⟩
abbrev s0I : Ss := ((0, 0, (fun _ => 0), (fun _ => 0), 0, (fun _ => 0), nI 8), (fun _ => 0), (0, (fun _ => 0), (-1 : Int32)), ((0 : Int32), fun _ => (-1 : Int32)), (0 : Int32), ((0 : Int32), (0 : Int32)), (0, fun _ _ => 0), (0, fun _ => (0, fun _ _ => 0)))
theorem um1_eq : um1 = um_w (um_w (um_w um0 38 14 0) 38 15 0) 38 16 8 := rfl
theorem um1_c {c : Nat} (h : c ≠ 38) : um1 c = um0 c := by rw [um1_eq, um_w_c h, um_w_c h, um_w_c h]
theorem um1_rr : rr um1 cs0 := by
  rw [um1_eq]
  exact ⟨by rw [um_w_k (by omega), um_w_k (by omega), um_w_s]; rfl, by rw [um_w_k (by omega), um_w_s]; rfl, um_w_s _ _ _ _, fun v hv => absurd hv (Nat.not_lt_zero _), fun v hv => absurd hv (Nat.not_lt_zero _)⟩
theorem z0_ge : 0 ≤ (0 : Int32).toInt := by decide
theorem z0_le : (0 : Int32).toInt ≤ 20 ∧ (0 : Int32).toInt ≤ 99 ∧ (0 : Int32).toInt ≤ 255 := by decide
theorem vI_0 : vI s0I := ⟨fun v hv => absurd hv (Nat.not_lt_zero _), ⟨⟨fun t _ _ => ⟨rfl, rfl, rfl, rfl, rfl⟩, fun t _ => ⟨⟨z0_ge, z0_le.1⟩, ⟨z0_ge, z0_le.2.1⟩, z0_ge, z0_le.2.1⟩, fun _ _ => rfl⟩, (by show (0 : Int32).toInt ≤ 400; decide)⟩, ⟨Nat.zero_le _, fun _ _ => ⟨z0_ge, z0_le.2.2⟩⟩, ⟨Nat.zero_le _, fun j hj => absurd hj (Nat.not_lt_zero _)⟩, Nat.zero_le _, fun i hi => absurd hi (Nat.not_lt_zero _)⟩
theorem uI_0 : uI umI := by
  obtain ⟨M, g1, g2, g3, g4, g5, g6, g7, g8, g9, g10, g11, g12, g13, g14⟩ := r_sets um1_rr ok_cs0
  have hM : umI = M := by
    have e := umI_ok.symm.trans g1
    exact (Prod.mk.inj (Option.some.inj e)).1
  rw [hM]
  have kc : ∀ c, c ≠ 38 → c ≠ 43 → c ≠ 44 → c ≠ 53 → c ≠ 57 → M c = um0 c := fun c q1 q2 q3 q4 q5 => by rw [g2 c q1 q2 q3 q4 q5, um1_c q1]
  have kj : ∀ j, j < 14 → M 38 j = um0 38 j := fun j hj => by rw [g3 j (by omega), um1_eq, um_w_k (by omega), um_w_k (by omega), um_w_k (by omega)]
  refine ⟨s0I, ?_, ?_, vI_0⟩
  · have hu : cM um0 9 plA := ⟨by omega, rfl, by decide +kernel, plA_wf, by decide +kernel⟩
    have hcm : cM M 9 plA := cM_of hu (kc 13 (by omega) (by omega) (by omega) (by omega) (by omega)) (kc 14 (by omega) (by omega) (by omega) (by omega) (by omega))
    unfold cI cX cC
    rw [kc 3 (by omega) (by omega) (by omega) (by omega) (by omega), kc 24 (by omega) (by omega) (by omega) (by omega) (by omega), kc 26 (by omega) (by omega) (by omega) (by omega) (by omega), kc 1 (by omega) (by omega) (by omega) (by omega) (by omega), kc 2 (by omega) (by omega) (by omega) (by omega) (by omega), kc 18 (by omega) (by omega) (by omega) (by omega) (by omega), kc 19 (by omega) (by omega) (by omega) (by omega) (by omega), kc 0 (by omega) (by omega) (by omega) (by omega) (by omega), kc 27 (by omega) (by omega) (by omega) (by omega) (by omega)]
    refine ⟨⟨⟨Nat.zero_le _, Nat.zero_le _, rfl, rfl, fun v hv => absurd hv (Nat.not_lt_zero _), fun v hv => absurd hv (Nat.not_lt_zero _)⟩, cL_0 (fun _ => 0) hcm, rfl⟩, rfl, fun _ _ => rfl, ⟨rfl, fun _ _ => rfl, rfl⟩, ⟨rfl, fun v hv => ?_⟩, ⟨rfl, rfl, rfl⟩, ⟨rfl, fun j hj => absurd hj (Nat.not_lt_zero _)⟩, rfl, fun i hi => absurd hi (Nat.not_lt_zero _)⟩
    exact (by decide +kernel : ∀ v, v < 8 → um0 19 v = -1) v hv
  · unfold rI rX rC rL
    rw [kj 2 (by omega), kj 8 (by omega), kc 40 (by omega) (by omega) (by omega) (by omega) (by omega), kc 39 (by omega) (by omega) (by omega) (by omega) (by omega)]
    refine ⟨⟨⟨Nat.zero_le _, Nat.zero_le _, g4, g5, fun v hv => absurd hv (Nat.not_lt_zero _), fun v hv => absurd hv (Nat.not_lt_zero _)⟩, ⟨Nat.zero_le _, g7, fun v hv => absurd hv (Nat.not_lt_zero _), fun v hv => absurd hv (Nat.not_lt_zero _)⟩, g6⟩, ?_, ⟨rfl, fun _ _ => rfl, rfl⟩, ⟨g8, g13⟩, ⟨g11, rfl, rfl⟩, ⟨g9, fun j hj => absurd hj (Nat.not_lt_zero _)⟩, g10, fun i hi => absurd hi (Nat.not_lt_zero _)⟩
    rw [g14]
    funext i
    show (if 3 ≤ i ∧ i < 3 + 0 then _ else if 8 ≤ i ∧ i < 8 + 0 then _ else 0) = 0
    rw [if_neg (by omega), if_neg (by omega)]
