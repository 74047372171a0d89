theorem ka_int : Cond.arrayClass .int ∈ uw := uw_t 72 (by decide +kernel) rfl
theorem ka_boolean : Cond.arrayClass .boolean ∈ uw := uw_t 1344 (by decide +kernel) rfl
theorem ka_long : Cond.arrayClass .long ∈ uw := uw_t 1823 (by decide +kernel) rfl
theorem nd_X0 : ∀ j, j < 3 → defaultValue (tyX0 j) = vp_V [.null, .int 0, .null] j := by
  intro j hj
  rcases (show j = 0 ∨ j = 1 ∨ j = 2 by omega) with rfl | rfl | rfl <;> rfl
theorem nd_X1 : ∀ j, j < 7 → defaultValue (tyX1 j) = vp_V [.int 0, .int 0, .int 0, .null, .null, .null, .null] j := by
  intro j hj
  rcases (show j = 0 ∨ j = 1 ∨ j = 2 ∨ j = 3 ∨ j = 4 ∨ j = 5 ∨ j = 6 by omega) with rfl | rfl | rfl | rfl | rfl | rfl | rfl <;> rfl
theorem nd_X2 : ∀ j, j < 7 → defaultValue (tyX2 j) = vp_V [.null, .int 0, .null, .int 0, .null, .int 0, .null] j := by
  intro j hj
  rcases (show j = 0 ∨ j = 1 ∨ j = 2 ∨ j = 3 ∨ j = 4 ∨ j = 5 ∨ j = 6 by omega) with rfl | rfl | rfl | rfl | rfl | rfl | rfl <;> rfl
theorem nd_X3 : ∀ j, j < 2 → defaultValue (tyX3 j) = vp_V [.null, .int 0] j := by
  intro j hj
  rcases (show j = 0 ∨ j = 1 by omega) with rfl | rfl <;> rfl
theorem nd_X4 : ∀ j, j < 3 → defaultValue (tyX4 j) = vp_V [.null, .null, .null] j := by
  intro j hj
  rcases (show j = 0 ∨ j = 1 ∨ j = 2 by omega) with rfl | rfl | rfl <;> rfl
theorem nd_X5 : ∀ j, j < 9 → defaultValue (tyX5 j) = vp_V [.null, .int 0, .int 0, .int 0, .int 0, .int 0, .int 0, .int 0, .int 0] j := by
  intro j hj
  rcases (show j = 0 ∨ j = 1 ∨ j = 2 ∨ j = 3 ∨ j = 4 ∨ j = 5 ∨ j = 6 ∨ j = 7 ∨ j = 8 by omega) with rfl | rfl | rfl | rfl | rfl | rfl | rfl | rfl | rfl <;> rfl
theorem nd_X6 : ∀ j, j < 5 → defaultValue (tyX6 j) = vp_V [.null, .int 0, .int 0, .int 0, .int 0] j := by
  intro j hj
  rcases (show j = 0 ∨ j = 1 ∨ j = 2 ∨ j = 3 ∨ j = 4 by omega) with rfl | rfl | rfl | rfl | rfl <;> rfl
theorem nd_X7 : ∀ j, j < 17 → defaultValue (tyX7 j) = vp_V [.null, .null, .null, .null, .null, .null, .null, .null, .null, .null, .null, .null, .int 0, .int 0, .int 0, .int 0, .int 0] j := by
  intro j hj
  rcases (show j = 0 ∨ j = 1 ∨ j = 2 ∨ j = 3 ∨ j = 4 ∨ j = 5 ∨ j = 6 ∨ j = 7 ∨ j = 8 ∨ j = 9 ∨ j = 10 ∨ j = 11 ∨ j = 12 ∨ j = 13 ∨ j = 14 ∨ j = 15 ∨ j = 16 by omega) with rfl | rfl | rfl | rfl | rfl | rfl | rfl | rfl | rfl | rfl | rfl | rfl | rfl | rfl | rfl | rfl | rfl <;> rfl
theorem nd_X8 : ∀ j, j < 49 → defaultValue (tyX8 j) = vp_V [.int 0, .null, .int 0, .int 0, .int 0, .int 0, .int 0, .int 0, .int 0, .null, .null, .null, .null, .null, .int 0, .int 0, .int 0, .int 0, .int 0, .int 0, .null, .null, .null, .null, .null, .int 0, .int 0, .null, .null, .null, .int 0, .int 0, .int 0, .int 0, .int 0, .int 0, .null, .null, .null, .null, .null, .int 0, .null, .null, .null, .null, .int 0, .null, .int 0] j := by
  intro j hj
  rcases (show j = 0 ∨ j = 1 ∨ j = 2 ∨ j = 3 ∨ j = 4 ∨ j = 5 ∨ j = 6 ∨ j = 7 ∨ j = 8 ∨ j = 9 ∨ j = 10 ∨ j = 11 ∨ j = 12 ∨ j = 13 ∨ j = 14 ∨ j = 15 ∨ j = 16 ∨ j = 17 ∨ j = 18 ∨ j = 19 ∨ j = 20 ∨ j = 21 ∨ j = 22 ∨ j = 23 ∨ j = 24 ∨ j = 25 ∨ j = 26 ∨ j = 27 ∨ j = 28 ∨ j = 29 ∨ j = 30 ∨ j = 31 ∨ j = 32 ∨ j = 33 ∨ j = 34 ∨ j = 35 ∨ j = 36 ∨ j = 37 ∨ j = 38 ∨ j = 39 ∨ j = 40 ∨ j = 41 ∨ j = 42 ∨ j = 43 ∨ j = 44 ∨ j = 45 ∨ j = 46 ∨ j = 47 ∨ j = 48 by omega) with rfl | rfl | rfl | rfl | rfl | rfl | rfl | rfl | rfl | rfl | rfl | rfl | rfl | rfl | rfl | rfl | rfl | rfl | rfl | rfl | rfl | rfl | rfl | rfl | rfl | rfl | rfl | rfl | rfl | rfl | rfl | rfl | rfl | rfl | rfl | rfl | rfl | rfl | rfl | rfl | rfl | rfl | rfl | rfl | rfl | rfl | rfl | rfl | rfl <;> rfl
theorem fin_X0 : un_fin RX0 cX0_init := ⟨by decide, fun h => absurd h (by decide)⟩
theorem fin_X1 : un_fin RX1 cX1_init := ⟨by decide, fun h => absurd h (by decide)⟩
theorem fin_X2 : un_fin RX2 cX2_init := ⟨by decide, fun _ => rfl⟩
theorem fin_X3 : un_fin RX3 cX3_init := ⟨by decide, fun h => absurd h (by decide)⟩
theorem fin_X4 : un_fin RX4 cX4_init := ⟨by decide, fun h => absurd h (by decide)⟩
theorem fin_X5 : un_fin RX5 cX5_init := ⟨by decide, fun h => absurd h (by decide)⟩
theorem fin_X6 : un_fin RX6 cX6_init := ⟨by decide, fun h => absurd h (by decide)⟩
theorem fin_X7 : un_fin RX7 cX7_init := ⟨by decide, fun h => absurd h (by decide)⟩
theorem fin_X8 : un_fin RX8 cX8_init := ⟨by decide, fun h => absurd h (by decide)⟩
theorem kg_X2_15 : Cond.fieldLink RX2 15 (TX2 1).1 (TX2 1).2.1 (TX2 1).2.2.1 ∈ uw := uw_t 133 (by decide +kernel) rfl
theorem kg_X2_9 : Cond.fieldLink RX2 9 (TX2 0).1 (TX2 0).2.1 (TX2 0).2.2.1 ∈ uw := uw_t 132 (by decide +kernel) rfl
theorem kg_X2_19 : Cond.fieldLink RX2 19 (TX2 2).1 (TX2 2).2.1 (TX2 2).2.2.1 ∈ uw := uw_t 134 (by decide +kernel) rfl
theorem kg_X2_28 : Cond.fieldLink RX2 28 (TX2 5).1 (TX2 5).2.1 (TX2 5).2.2.1 ∈ uw := uw_t 137 (by decide +kernel) rfl
theorem kg_X2_22 : Cond.fieldLink RX2 22 (TX2 3).1 (TX2 3).2.1 (TX2 3).2.2.1 ∈ uw := uw_t 135 (by decide +kernel) rfl
theorem ko_X5_3 : Cond.methodLink RX5 3 Lib.objectInit ∈ uw ∧ Cond.instanceMethod Lib.objectInit ∈ uw ∧ Cond.code Lib.objectInit ⟨#[0xb1]⟩ 1 none ∈ uw := ⟨uw_t 36 (by decide +kernel) rfl, uw_t 29 (by decide +kernel) rfl, uw_t 30 (by decide +kernel) rfl⟩
theorem kg_X5_9 : Cond.fieldLink RX5 9 (TX5 0).1 (TX5 0).2.1 (TX5 0).2.2.1 ∈ uw := uw_t 37 (by decide +kernel) rfl
theorem kg_X5_15 : Cond.fieldLink RX5 15 (TX5 1).1 (TX5 1).2.1 (TX5 1).2.2.1 ∈ uw := uw_t 38 (by decide +kernel) rfl
theorem kg_X5_19 : Cond.fieldLink RX5 19 (TX5 2).1 (TX5 2).2.1 (TX5 2).2.2.1 ∈ uw := uw_t 40 (by decide +kernel) rfl
theorem kg_X5_22 : Cond.fieldLink RX5 22 (TX5 3).1 (TX5 3).2.1 (TX5 3).2.2.1 ∈ uw := uw_t 41 (by decide +kernel) rfl
theorem kg_X5_25 : Cond.fieldLink RX5 25 (TX5 4).1 (TX5 4).2.1 (TX5 4).2.2.1 ∈ uw := uw_t 42 (by decide +kernel) rfl
theorem kg_X5_28 : Cond.fieldLink RX5 28 (TX5 5).1 (TX5 5).2.1 (TX5 5).2.2.1 ∈ uw := uw_t 43 (by decide +kernel) rfl
theorem kg_X5_31 : Cond.fieldLink RX5 31 (TX5 6).1 (TX5 6).2.1 (TX5 6).2.2.1 ∈ uw := uw_t 45 (by decide +kernel) rfl
theorem kg_X5_34 : Cond.fieldLink RX5 34 (TX5 7).1 (TX5 7).2.1 (TX5 7).2.2.1 ∈ uw := uw_t 50 (by decide +kernel) rfl
theorem kg_X5_37 : Cond.fieldLink RX5 37 (TX5 8).1 (TX5 8).2.1 (TX5 8).2.2.1 ∈ uw := uw_t 52 (by decide +kernel) rfl
theorem ko_X1_3 : Cond.methodLink RX1 3 Lib.objectInit ∈ uw ∧ Cond.instanceMethod Lib.objectInit ∈ uw ∧ Cond.code Lib.objectInit ⟨#[0xb1]⟩ 1 none ∈ uw := ⟨uw_t 78 (by decide +kernel) rfl, uw_t 29 (by decide +kernel) rfl, uw_t 30 (by decide +kernel) rfl⟩
theorem kg_X1_9 : Cond.fieldLink RX1 9 (TX1 0).1 (TX1 0).2.1 (TX1 0).2.2.1 ∈ uw := uw_t 79 (by decide +kernel) rfl
theorem kg_X1_15 : Cond.fieldLink RX1 15 (TX1 1).1 (TX1 1).2.1 (TX1 1).2.2.1 ∈ uw := uw_t 82 (by decide +kernel) rfl
theorem kg_X1_18 : Cond.fieldLink RX1 18 (TX1 2).1 (TX1 2).2.1 (TX1 2).2.2.1 ∈ uw := uw_t 85 (by decide +kernel) rfl
theorem kg_X1_21 : Cond.fieldLink RX1 21 (TX1 3).1 (TX1 3).2.1 (TX1 3).2.2.1 ∈ uw := uw_t 88 (by decide +kernel) rfl
theorem kg_X1_25 : Cond.fieldLink RX1 25 (TX1 4).1 (TX1 4).2.1 (TX1 4).2.2.1 ∈ uw := uw_t 91 (by decide +kernel) rfl
theorem kg_X1_28 : Cond.fieldLink RX1 28 (TX1 5).1 (TX1 5).2.1 (TX1 5).2.2.1 ∈ uw := uw_t 94 (by decide +kernel) rfl
theorem kg_X1_31 : Cond.fieldLink RX1 31 (TX1 6).1 (TX1 6).2.1 (TX1 6).2.2.1 ∈ uw := uw_t 96 (by decide +kernel) rfl
theorem ko_X2_3 : Cond.methodLink RX2 3 Lib.objectInit ∈ uw ∧ Cond.instanceMethod Lib.objectInit ∈ uw ∧ Cond.code Lib.objectInit ⟨#[0xb1]⟩ 1 none ∈ uw := ⟨uw_t 118 (by decide +kernel) rfl, uw_t 29 (by decide +kernel) rfl, uw_t 30 (by decide +kernel) rfl⟩
theorem kg_X2_25 : Cond.fieldLink RX2 25 (TX2 4).1 (TX2 4).2.1 (TX2 4).2.2.1 ∈ uw := uw_t 136 (by decide +kernel) rfl
theorem kg_X2_31 : Cond.fieldLink RX2 31 (TX2 6).1 (TX2 6).2.1 (TX2 6).2.2.1 ∈ uw := uw_t 138 (by decide +kernel) rfl
theorem kc_X2_34 : uwv RX2 34 RX2 yX2_forget cX2_forget 1 none 0 := ⟨⟨uw_t 119 (by decide +kernel) rfl, uw_t 120 (by decide +kernel) rfl, uw_t 121 (by decide +kernel) rfl, uw_t 4 (by decide +kernel) rfl, uw_t 122 (by decide +kernel) rfl⟩, rfl, by decide +kernel, by decide +kernel, by decide +kernel⟩
theorem ko_X0_3 : Cond.methodLink RX0 3 Lib.objectInit ∈ uw ∧ Cond.instanceMethod Lib.objectInit ∈ uw ∧ Cond.code Lib.objectInit ⟨#[0xb1]⟩ 1 none ∈ uw := ⟨uw_t 161 (by decide +kernel) rfl, uw_t 29 (by decide +kernel) rfl, uw_t 30 (by decide +kernel) rfl⟩
theorem kg_X0_9 : Cond.fieldLink RX0 9 (TX0 0).1 (TX0 0).2.1 (TX0 0).2.2.1 ∈ uw := uw_t 165 (by decide +kernel) rfl
theorem kg_X0_15 : Cond.fieldLink RX0 15 (TX0 1).1 (TX0 1).2.1 (TX0 1).2.2.1 ∈ uw := uw_t 167 (by decide +kernel) rfl
theorem kg_X0_19 : Cond.fieldLink RX0 19 (TX0 2).1 (TX0 2).2.1 (TX0 2).2.2.1 ∈ uw := uw_t 169 (by decide +kernel) rfl
theorem ko_X6_3 : Cond.methodLink RX6 3 Lib.objectInit ∈ uw ∧ Cond.instanceMethod Lib.objectInit ∈ uw ∧ Cond.code Lib.objectInit ⟨#[0xb1]⟩ 1 none ∈ uw := ⟨uw_t 182 (by decide +kernel) rfl, uw_t 29 (by decide +kernel) rfl, uw_t 30 (by decide +kernel) rfl⟩
theorem kg_X6_11 : Cond.fieldLink RX6 11 (TX6 0).1 (TX6 0).2.1 (TX6 0).2.2.1 ∈ uw := uw_t 183 (by decide +kernel) rfl
theorem kg_X6_15 : Cond.fieldLink RX6 15 (TX6 1).1 (TX6 1).2.1 (TX6 1).2.2.1 ∈ uw := uw_t 184 (by decide +kernel) rfl
theorem kg_X6_19 : Cond.fieldLink RX6 19 (TX6 2).1 (TX6 2).2.1 (TX6 2).2.2.1 ∈ uw := uw_t 186 (by decide +kernel) rfl
theorem kg_X6_22 : Cond.fieldLink RX6 22 (TX6 3).1 (TX6 3).2.1 (TX6 3).2.2.1 ∈ uw := uw_t 187 (by decide +kernel) rfl
theorem kg_X6_25 : Cond.fieldLink RX6 25 (TX6 4).1 (TX6 4).2.1 (TX6 4).2.2.1 ∈ uw := uw_t 189 (by decide +kernel) rfl
theorem ko_X4_5 : Cond.methodLink RX4 5 Lib.objectInit ∈ uw ∧ Cond.instanceMethod Lib.objectInit ∈ uw ∧ Cond.code Lib.objectInit ⟨#[0xb1]⟩ 1 none ∈ uw := ⟨uw_t 207 (by decide +kernel) rfl, uw_t 29 (by decide +kernel) rfl, uw_t 30 (by decide +kernel) rfl⟩
theorem kg_X4_11 : Cond.fieldLink RX4 11 (TX4 2).1 (TX4 2).2.1 (TX4 2).2.2.1 ∈ uw := uw_t 210 (by decide +kernel) rfl
theorem kg_X4_15 : Cond.fieldLink RX4 15 (TX4 0).1 (TX4 0).2.1 (TX4 0).2.2.1 ∈ uw := uw_t 208 (by decide +kernel) rfl
theorem kg_X4_19 : Cond.fieldLink RX4 19 (TX4 1).1 (TX4 1).2.1 (TX4 1).2.2.1 ∈ uw := uw_t 209 (by decide +kernel) rfl
theorem ko_X3_3 : Cond.methodLink RX3 3 Lib.objectInit ∈ uw ∧ Cond.instanceMethod Lib.objectInit ∈ uw ∧ Cond.code Lib.objectInit ⟨#[0xb1]⟩ 1 none ∈ uw := ⟨uw_t 224 (by decide +kernel) rfl, uw_t 29 (by decide +kernel) rfl, uw_t 30 (by decide +kernel) rfl⟩
theorem kg_X3_11 : Cond.fieldLink RX3 11 (TX3 0).1 (TX3 0).2.1 (TX3 0).2.2.1 ∈ uw := uw_t 225 (by decide +kernel) rfl
theorem kg_X3_17 : Cond.fieldLink RX3 17 (TX3 1).1 (TX3 1).2.1 (TX3 1).2.2.1 ∈ uw := uw_t 226 (by decide +kernel) rfl
theorem ko_X7_3 : Cond.methodLink RX7 3 Lib.objectInit ∈ uw ∧ Cond.instanceMethod Lib.objectInit ∈ uw ∧ Cond.code Lib.objectInit ⟨#[0xb1]⟩ 1 none ∈ uw := ⟨uw_t 28 (by decide +kernel) rfl, uw_t 29 (by decide +kernel) rfl, uw_t 30 (by decide +kernel) rfl⟩
theorem kd_X7_9 : Cond.classLink RX7 9 RX5 ∈ uw ∧ Cond.instantiable RX5 9 ∈ uw ∧ Cond.initialized RX5 ∈ uw := ⟨uw_t 31 (by decide +kernel) rfl, uw_t 32 (by decide +kernel) rfl, uw_t 2 (by decide +kernel) rfl⟩
theorem ki_X7_11 : (Cond.instanceMethod yX5_init ∈ uw ∧ Cond.initialized yX5_init.cls ∈ uw ∧ Cond.code yX5_init cX5_init 1 none ∈ uw) ∧ yX5_init.name = "<init>" ∧ yX5_init.cls ≠ "java/lang/invoke/MethodHandle" ∧ yX5_init.cls ≠ "java/lang/invoke/VarHandle" ∧ (parseMethodDescriptor yX5_init.desc).map (fun d => d.parameters.length) = some 0 := ⟨⟨uw_t 34 (by decide +kernel) rfl, uw_t 2 (by decide +kernel) rfl, uw_t 35 (by decide +kernel) rfl⟩, rfl, by decide +kernel, by decide +kernel, by decide +kernel⟩
theorem kg_X7_12 : Cond.fieldLink RX7 12 (TX7 0).1 (TX7 0).2.1 (TX7 0).2.2.1 ∈ uw := uw_t 234 (by decide +kernel) rfl
theorem kd_X7_18 : Cond.classLink RX7 18 RX1 ∈ uw ∧ Cond.instantiable RX1 7 ∈ uw ∧ Cond.initialized RX1 ∈ uw := ⟨uw_t 73 (by decide +kernel) rfl, uw_t 74 (by decide +kernel) rfl, uw_t 3 (by decide +kernel) rfl⟩
theorem ki_X7_20 : (Cond.instanceMethod yX1_init ∈ uw ∧ Cond.initialized yX1_init.cls ∈ uw ∧ Cond.code yX1_init cX1_init 1 none ∈ uw) ∧ yX1_init.name = "<init>" ∧ yX1_init.cls ≠ "java/lang/invoke/MethodHandle" ∧ yX1_init.cls ≠ "java/lang/invoke/VarHandle" ∧ (parseMethodDescriptor yX1_init.desc).map (fun d => d.parameters.length) = some 0 := ⟨⟨uw_t 76 (by decide +kernel) rfl, uw_t 3 (by decide +kernel) rfl, uw_t 77 (by decide +kernel) rfl⟩, rfl, by decide +kernel, by decide +kernel, by decide +kernel⟩
theorem kg_X7_21 : Cond.fieldLink RX7 21 (TX7 1).1 (TX7 1).2.1 (TX7 1).2.2.1 ∈ uw := uw_t 235 (by decide +kernel) rfl
theorem kg_X7_25 : Cond.fieldLink RX7 25 (TX7 2).1 (TX7 2).2.1 (TX7 2).2.2.1 ∈ uw := uw_t 236 (by decide +kernel) rfl
theorem kd_X7_28 : Cond.classLink RX7 28 RX2 ∈ uw ∧ Cond.instantiable RX2 7 ∈ uw ∧ Cond.initialized RX2 ∈ uw := ⟨uw_t 113 (by decide +kernel) rfl, uw_t 114 (by decide +kernel) rfl, uw_t 4 (by decide +kernel) rfl⟩
theorem ki_X7_30 : (Cond.methodLink RX7 30 yX2_init ∈ uw ∧ Cond.instanceMethod yX2_init ∈ uw ∧ Cond.initialized yX2_init.cls ∈ uw ∧ Cond.code yX2_init cX2_init 1 none ∈ uw) ∧ yX2_init.name = "<init>" ∧ yX2_init.cls ≠ "java/lang/invoke/MethodHandle" ∧ yX2_init.cls ≠ "java/lang/invoke/VarHandle" ∧ (parseMethodDescriptor yX2_init.desc).map (fun d => d.parameters.length) = some 0 := ⟨⟨uw_t 115 (by decide +kernel) rfl, uw_t 116 (by decide +kernel) rfl, uw_t 4 (by decide +kernel) rfl, uw_t 117 (by decide +kernel) rfl⟩, rfl, by decide +kernel, by decide +kernel, by decide +kernel⟩
theorem kg_X7_31 : Cond.fieldLink RX7 31 (TX7 3).1 (TX7 3).2.1 (TX7 3).2.2.1 ∈ uw := uw_t 237 (by decide +kernel) rfl
theorem kd_X7_35 : Cond.classLink RX7 35 RX0 ∈ uw ∧ Cond.instantiable RX0 3 ∈ uw ∧ Cond.initialized RX0 ∈ uw := ⟨uw_t 156 (by decide +kernel) rfl, uw_t 157 (by decide +kernel) rfl, uw_t 6 (by decide +kernel) rfl⟩
theorem ki_X7_37 : (Cond.methodLink RX7 37 yX0_init ∈ uw ∧ Cond.instanceMethod yX0_init ∈ uw ∧ Cond.initialized yX0_init.cls ∈ uw ∧ Cond.code yX0_init cX0_init 1 none ∈ uw) ∧ yX0_init.name = "<init>" ∧ yX0_init.cls ≠ "java/lang/invoke/MethodHandle" ∧ yX0_init.cls ≠ "java/lang/invoke/VarHandle" ∧ (parseMethodDescriptor yX0_init.desc).map (fun d => d.parameters.length) = some 0 := ⟨⟨uw_t 158 (by decide +kernel) rfl, uw_t 159 (by decide +kernel) rfl, uw_t 6 (by decide +kernel) rfl, uw_t 160 (by decide +kernel) rfl⟩, rfl, by decide +kernel, by decide +kernel, by decide +kernel⟩
theorem kg_X7_38 : Cond.fieldLink RX7 38 (TX7 4).1 (TX7 4).2.1 (TX7 4).2.2.1 ∈ uw := uw_t 238 (by decide +kernel) rfl
theorem kd_X7_42 : Cond.classLink RX7 42 RX6 ∈ uw ∧ Cond.instantiable RX6 5 ∈ uw ∧ Cond.initialized RX6 ∈ uw := ⟨uw_t 177 (by decide +kernel) rfl, uw_t 178 (by decide +kernel) rfl, uw_t 8 (by decide +kernel) rfl⟩
theorem ki_X7_44 : (Cond.instanceMethod yX6_init ∈ uw ∧ Cond.initialized yX6_init.cls ∈ uw ∧ Cond.code yX6_init cX6_init 1 none ∈ uw) ∧ yX6_init.name = "<init>" ∧ yX6_init.cls ≠ "java/lang/invoke/MethodHandle" ∧ yX6_init.cls ≠ "java/lang/invoke/VarHandle" ∧ (parseMethodDescriptor yX6_init.desc).map (fun d => d.parameters.length) = some 0 := ⟨⟨uw_t 180 (by decide +kernel) rfl, uw_t 8 (by decide +kernel) rfl, uw_t 181 (by decide +kernel) rfl⟩, rfl, by decide +kernel, by decide +kernel, by decide +kernel⟩
theorem kg_X7_45 : Cond.fieldLink RX7 45 (TX7 5).1 (TX7 5).2.1 (TX7 5).2.2.1 ∈ uw := uw_t 239 (by decide +kernel) rfl
theorem kd_X7_49 : Cond.classLink RX7 49 RX4 ∈ uw ∧ Cond.instantiable RX4 3 ∈ uw ∧ Cond.initialized RX4 ∈ uw := ⟨uw_t 202 (by decide +kernel) rfl, uw_t 203 (by decide +kernel) rfl, uw_t 9 (by decide +kernel) rfl⟩
theorem ki_X7_51 : (Cond.methodLink RX7 51 yX4_init ∈ uw ∧ Cond.instanceMethod yX4_init ∈ uw ∧ Cond.initialized yX4_init.cls ∈ uw ∧ Cond.code yX4_init cX4_init 3 none ∈ uw) ∧ yX4_init.name = "<init>" ∧ yX4_init.cls ≠ "java/lang/invoke/MethodHandle" ∧ yX4_init.cls ≠ "java/lang/invoke/VarHandle" ∧ (parseMethodDescriptor yX4_init.desc).map (fun d => d.parameters.length) = some 2 := ⟨⟨uw_t 204 (by decide +kernel) rfl, uw_t 205 (by decide +kernel) rfl, uw_t 9 (by decide +kernel) rfl, uw_t 206 (by decide +kernel) rfl⟩, rfl, by decide +kernel, by decide +kernel, by decide +kernel⟩
theorem kg_X7_54 : Cond.fieldLink RX7 54 (TX7 6).1 (TX7 6).2.1 (TX7 6).2.2.1 ∈ uw := uw_t 240 (by decide +kernel) rfl
theorem kg_X7_58 : Cond.fieldLink RX7 58 (TX7 7).1 (TX7 7).2.1 (TX7 7).2.2.1 ∈ uw := uw_t 241 (by decide +kernel) rfl
theorem kd_X7_61 : Cond.classLink RX7 61 RX3 ∈ uw ∧ Cond.instantiable RX3 2 ∈ uw ∧ Cond.initialized RX3 ∈ uw := ⟨uw_t 219 (by decide +kernel) rfl, uw_t 220 (by decide +kernel) rfl, uw_t 10 (by decide +kernel) rfl⟩
theorem ki_X7_63 : (Cond.instanceMethod yX3_init ∈ uw ∧ Cond.initialized yX3_init.cls ∈ uw ∧ Cond.code yX3_init cX3_init 1 none ∈ uw) ∧ yX3_init.name = "<init>" ∧ yX3_init.cls ≠ "java/lang/invoke/MethodHandle" ∧ yX3_init.cls ≠ "java/lang/invoke/VarHandle" ∧ (parseMethodDescriptor yX3_init.desc).map (fun d => d.parameters.length) = some 0 := ⟨⟨uw_t 222 (by decide +kernel) rfl, uw_t 10 (by decide +kernel) rfl, uw_t 223 (by decide +kernel) rfl⟩, rfl, by decide +kernel, by decide +kernel, by decide +kernel⟩
theorem kg_X7_64 : Cond.fieldLink RX7 64 (TX7 8).1 (TX7 8).2.1 (TX7 8).2.2.1 ∈ uw := uw_t 242 (by decide +kernel) rfl
theorem kl_X7_c61 : Cond.classLink RX7 61 RX3 ∈ uw := uw_t 219 (by decide +kernel) rfl
theorem kg_X7_68 : Cond.fieldLink RX7 68 (TX7 9).1 (TX7 9).2.1 (TX7 9).2.2.1 ∈ uw := uw_t 243 (by decide +kernel) rfl
theorem kg_X7_72 : Cond.fieldLink RX7 72 (TX7 10).1 (TX7 10).2.1 (TX7 10).2.2.1 ∈ uw := uw_t 244 (by decide +kernel) rfl
theorem kg_X7_76 : Cond.fieldLink RX7 76 (TX7 11).1 (TX7 11).2.1 (TX7 11).2.2.1 ∈ uw := uw_t 245 (by decide +kernel) rfl
theorem kg_X7_79 : Cond.fieldLink RX7 79 (TX7 12).1 (TX7 12).2.1 (TX7 12).2.2.1 ∈ uw := uw_t 246 (by decide +kernel) rfl
theorem kg_X7_83 : Cond.fieldLink RX7 83 (TX7 13).1 (TX7 13).2.1 (TX7 13).2.2.1 ∈ uw := uw_t 247 (by decide +kernel) rfl
theorem kg_X7_86 : Cond.fieldLink RX7 86 (TX7 14).1 (TX7 14).2.1 (TX7 14).2.2.1 ∈ uw := uw_t 248 (by decide +kernel) rfl
theorem kg_X7_89 : Cond.fieldLink RX7 89 (TX7 15).1 (TX7 15).2.1 (TX7 15).2.2.1 ∈ uw := uw_t 249 (by decide +kernel) rfl
theorem kg_X7_92 : Cond.fieldLink RX7 92 (TX7 16).1 (TX7 16).2.1 (TX7 16).2.2.1 ∈ uw := uw_t 250 (by decide +kernel) rfl
theorem ko_X8_11 : Cond.methodLink RX8 11 Lib.objectInit ∈ uw ∧ Cond.instanceMethod Lib.objectInit ∈ uw ∧ Cond.code Lib.objectInit ⟨#[0xb1]⟩ 1 none ∈ uw := ⟨uw_t 1183 (by decide +kernel) rfl, uw_t 29 (by decide +kernel) rfl, uw_t 30 (by decide +kernel) rfl⟩
theorem kg_X8_7 : Cond.fieldLink RX8 7 (TX8 1).1 (TX8 1).2.1 (TX8 1).2.2.1 ∈ uw := uw_t 1197 (by decide +kernel) rfl
theorem kg_X8_17 : Cond.fieldLink RX8 17 (TX8 8).1 (TX8 8).2.1 (TX8 8).2.2.1 ∈ uw := uw_t 1204 (by decide +kernel) rfl
theorem kg_X8_20 : Cond.fieldLink RX8 20 (TX8 9).1 (TX8 9).2.1 (TX8 9).2.2.1 ∈ uw := uw_t 1205 (by decide +kernel) rfl
theorem kg_X8_23 : Cond.fieldLink RX8 23 (TX8 10).1 (TX8 10).2.1 (TX8 10).2.2.1 ∈ uw := uw_t 1206 (by decide +kernel) rfl
theorem kg_X8_26 : Cond.fieldLink RX8 26 (TX8 11).1 (TX8 11).2.1 (TX8 11).2.2.1 ∈ uw := uw_t 1207 (by decide +kernel) rfl
theorem kg_X8_29 : Cond.fieldLink RX8 29 (TX8 12).1 (TX8 12).2.1 (TX8 12).2.2.1 ∈ uw := uw_t 1208 (by decide +kernel) rfl
theorem kg_X8_32 : Cond.fieldLink RX8 32 (TX8 13).1 (TX8 13).2.1 (TX8 13).2.2.1 ∈ uw := uw_t 1209 (by decide +kernel) rfl
theorem kg_X8_35 : Cond.fieldLink RX8 35 (TX8 20).1 (TX8 20).2.1 (TX8 20).2.2.1 ∈ uw := uw_t 1216 (by decide +kernel) rfl
theorem kg_X8_38 : Cond.fieldLink RX8 38 (TX8 21).1 (TX8 21).2.1 (TX8 21).2.2.1 ∈ uw := uw_t 1217 (by decide +kernel) rfl
theorem kg_X8_41 : Cond.fieldLink RX8 41 (TX8 22).1 (TX8 22).2.1 (TX8 22).2.2.1 ∈ uw := uw_t 1218 (by decide +kernel) rfl
theorem kg_X8_44 : Cond.fieldLink RX8 44 (TX8 23).1 (TX8 23).2.1 (TX8 23).2.2.1 ∈ uw := uw_t 1219 (by decide +kernel) rfl
theorem kg_X8_47 : Cond.fieldLink RX8 47 (TX8 24).1 (TX8 24).2.1 (TX8 24).2.2.1 ∈ uw := uw_t 1220 (by decide +kernel) rfl
theorem kg_X8_50 : Cond.fieldLink RX8 50 (TX8 27).1 (TX8 27).2.1 (TX8 27).2.2.1 ∈ uw := uw_t 1223 (by decide +kernel) rfl
theorem kg_X8_53 : Cond.fieldLink RX8 53 (TX8 28).1 (TX8 28).2.1 (TX8 28).2.2.1 ∈ uw := uw_t 1224 (by decide +kernel) rfl
theorem kg_X8_56 : Cond.fieldLink RX8 56 (TX8 29).1 (TX8 29).2.1 (TX8 29).2.2.1 ∈ uw := uw_t 1225 (by decide +kernel) rfl
theorem kg_X8_59 : Cond.fieldLink RX8 59 (TX8 36).1 (TX8 36).2.1 (TX8 36).2.2.1 ∈ uw := uw_t 1232 (by decide +kernel) rfl
theorem kg_X8_62 : Cond.fieldLink RX8 62 (TX8 37).1 (TX8 37).2.1 (TX8 37).2.2.1 ∈ uw := uw_t 1233 (by decide +kernel) rfl
theorem kg_X8_65 : Cond.fieldLink RX8 65 (TX8 38).1 (TX8 38).2.1 (TX8 38).2.2.1 ∈ uw := uw_t 1234 (by decide +kernel) rfl
theorem kg_X8_68 : Cond.fieldLink RX8 68 (TX8 39).1 (TX8 39).2.1 (TX8 39).2.2.1 ∈ uw := uw_t 1235 (by decide +kernel) rfl
theorem kg_X8_71 : Cond.fieldLink RX8 71 (TX8 40).1 (TX8 40).2.1 (TX8 40).2.2.1 ∈ uw := uw_t 1236 (by decide +kernel) rfl
theorem kg_X8_74 : Cond.fieldLink RX8 74 (TX8 42).1 (TX8 42).2.1 (TX8 42).2.2.1 ∈ uw := uw_t 1238 (by decide +kernel) rfl
theorem kg_X8_77 : Cond.fieldLink RX8 77 (TX8 43).1 (TX8 43).2.1 (TX8 43).2.2.1 ∈ uw := uw_t 1239 (by decide +kernel) rfl
theorem kg_X8_80 : Cond.fieldLink RX8 80 (TX8 44).1 (TX8 44).2.1 (TX8 44).2.2.1 ∈ uw := uw_t 1240 (by decide +kernel) rfl
theorem kg_X8_83 : Cond.fieldLink RX8 83 (TX8 45).1 (TX8 45).2.1 (TX8 45).2.2.1 ∈ uw := uw_t 1241 (by decide +kernel) rfl
theorem kg_X8_87 : Cond.fieldLink RX8 87 (TX8 47).1 (TX8 47).2.1 (TX8 47).2.2.1 ∈ uw := uw_t 1243 (by decide +kernel) rfl
def upl (t : Nat) : Nat → Int32 := fun j => if j < t then us_plain j else 0
theorem upl_0 : upl 0 = fun _ => 0 := rfl
theorem upl_s (t : Nat) : upd (upl t) t (us_plain t) = upl (t + 1) := by
  funext j
  simp only [upd, upl]
  by_cases h : j = t
  · subst h
    simp
  · rw [if_neg h]
    by_cases h2 : j < t
    · rw [if_pos h2, if_pos (by omega)]
    · rw [if_neg h2, if_neg (by omega)]
theorem tk_w0 (E : Ue) (h0 q1 q2 q3 q4 : Nat) : ([(h0, .inr (2, [.ref q1, .int 9, .ref q2, .int 9, .ref q3, .int 0, .ref q4])), (q1, .inl (ue_cI E, 150, .inl (upl 0))), (q2, .inl (ue_cI E, 150, .inl (va_cpy us_plain (fun _ => 0) 0 0 9))), (q3, .inl (ue_cI E, 150, .inl (fun _ => 0))), (q4, .inl (ue_cI E, 8, .inl (fun _ => 0)))] : va_W).set 1 (q1, .inl (ue_cI E, 150, .inl (upd (upl 0) (0 : Int32).toNatClampNeg 1001))) = [(h0, .inr (2, [.ref q1, .int 9, .ref q2, .int 9, .ref q3, .int 0, .ref q4])), (q1, .inl (ue_cI E, 150, .inl (upl 1))), (q2, .inl (ue_cI E, 150, .inl (va_cpy us_plain (fun _ => 0) 0 0 9))), (q3, .inl (ue_cI E, 150, .inl (fun _ => 0))), (q4, .inl (ue_cI E, 8, .inl (fun _ => 0)))] := by
  have e : upd (upl 0) (0 : Int32).toNatClampNeg 1001 = upl 1 := upl_s 0
  rw [e]
  rfl
set_option maxRecDepth 20000 in
theorem tk_0 {l : Launch} {E : Ue} {k mc ms : Nat} {Qf : Uf} (ws0 : va_W) (h0 q1 q2 q3 q4 : Nat) (h : un l E k mc ms cX2_takeDraft 2 RX2 none Qf 0 0 15 [(0, .ref h0), (1, .int 1)] [] (ws0 ++ [(h0, .inr (2, [.ref q1, .int 9, .ref q2, .int 9, .ref q3, .int 2, .ref q4])), (q1, .inl (ue_cI E, 150, .inl (upl 1))), (q2, .inl (ue_cI E, 150, .inl (va_cpy us_plain (fun _ => 0) 0 0 9))), (q3, .inl (ue_cI E, 150, .inl (fun _ => 0))), (q4, .inl (ue_cI E, 8, .inl (fun _ => 0)))])) : un l E k mc ms cX2_takeDraft 2 RX2 none Qf 0 0 15 [(0, .ref h0), (1, .int 0)] [] (ws0 ++ [(h0, .inr (2, [.ref q1, .int 9, .ref q2, .int 9, .ref q3, .int 0, .ref q4])), (q1, .inl (ue_cI E, 150, .inl (upl 0))), (q2, .inl (ue_cI E, 150, .inl (va_cpy us_plain (fun _ => 0) 0 0 9))), (q3, .inl (ue_cI E, 150, .inl (fun _ => 0))), (q4, .inl (ue_cI E, 8, .inl (fun _ => 0)))]) := by
  refine un_iload_n 1 dX2_takeDraft_15 rfl rfl ?_
  refine un_aload_n 0 dX2_takeDraft_16 rfl rfl ?_
  refine vn_get (j := 1) (fs := [.ref q1, .int 9, .ref q2, .int 9, .ref q3, .int 0, .ref q4]) (v := .int 9) 0 ukX2 rfl (Nat.le_of_ble_eq_true rfl) kg_X2_15 rfl dX2_takeDraft_17 ?_
  refine un_icmp_ge 86 dX2_takeDraft_20 (by decide) (fun q => absurd q (by decide)) (fun _ => ?_)
  refine un_aload_n 0 dX2_takeDraft_23 rfl rfl ?_
  refine vn_get (j := 0) (fs := [.ref q1, .int 9, .ref q2, .int 9, .ref q3, .int 0, .ref q4]) (v := .ref q1) 0 ukX2 rfl (Nat.le_of_ble_eq_true rfl) kg_X2_9 rfl dX2_takeDraft_24 ?_
  refine un_iload_n 1 dX2_takeDraft_27 rfl rfl ?_
  refine un_aload_n 0 dX2_takeDraft_28 rfl rfl ?_
  refine vn_get (j := 2) (fs := [.ref q1, .int 9, .ref q2, .int 9, .ref q3, .int 0, .ref q4]) (v := .ref q2) 0 ukX2 rfl (Nat.le_of_ble_eq_true rfl) kg_X2_19 rfl dX2_takeDraft_29 ?_
  refine un_iload_n 1 dX2_takeDraft_32 rfl rfl ?_
  refine vn_iald (v := 1001) 2 rfl (by unfold vp_in; decide) (by decide +kernel) dX2_takeDraft_33 ?_
  refine vn_iast [(h0, .inr (2, [.ref q1, .int 9, .ref q2, .int 9, .ref q3, .int 0, .ref q4])), (q1, .inl (ue_cI E, 150, .inl (upl 1))), (q2, .inl (ue_cI E, 150, .inl (va_cpy us_plain (fun _ => 0) 0 0 9))), (q3, .inl (ue_cI E, 150, .inl (fun _ => 0))), (q4, .inl (ue_cI E, 8, .inl (fun _ => 0)))] 1 rfl (by unfold vp_in; decide) dX2_takeDraft_34 (tk_w0 E h0 q1 q2 q3 q4) ?_
  refine un_aload_n 0 dX2_takeDraft_35 rfl rfl ?_
  refine vn_get (j := 0) (fs := [.ref q1, .int 9, .ref q2, .int 9, .ref q3, .int 0, .ref q4]) (v := .ref q1) 0 ukX2 rfl (Nat.le_of_ble_eq_true rfl) kg_X2_9 rfl dX2_takeDraft_36 ?_
  refine un_iload_n 1 dX2_takeDraft_39 rfl rfl ?_
  refine vn_iald (v := 1001) 1 rfl (by unfold vp_in; decide) (by decide +kernel) dX2_takeDraft_40 ?_
  refine un_sipush dX2_takeDraft_41 (v := 1000) (by decide) ?_
  refine un_icmp_lt 80 dX2_takeDraft_44 (by decide) (fun q => absurd q (by decide)) (fun _ => ?_)
  refine un_aload_n 0 dX2_takeDraft_47 rfl rfl ?_
  refine vn_get (j := 0) (fs := [.ref q1, .int 9, .ref q2, .int 9, .ref q3, .int 0, .ref q4]) (v := .ref q1) 0 ukX2 rfl (Nat.le_of_ble_eq_true rfl) kg_X2_9 rfl dX2_takeDraft_48 ?_
  refine un_iload_n 1 dX2_takeDraft_51 rfl rfl ?_
  refine vn_iald (v := 1001) 1 rfl (by unfold vp_in; decide) (by decide +kernel) dX2_takeDraft_52 ?_
  refine un_sipush dX2_takeDraft_53 (v := 2000) (by decide) ?_
  refine un_icmp_ge 80 dX2_takeDraft_56 (by decide) (fun q => absurd q (by decide)) (fun _ => ?_)
  refine un_aload_n 0 dX2_takeDraft_59 rfl rfl ?_
  refine un_dup dX2_takeDraft_60 rfl ?_
  refine vn_get (j := 5) (fs := [.ref q1, .int 9, .ref q2, .int 9, .ref q3, .int 0, .ref q4]) (v := .int 0) 0 ukX2 rfl (Nat.le_of_ble_eq_true rfl) kg_X2_28 rfl dX2_takeDraft_61 ?_
  refine un_iconst dX2_takeDraft_64 un_iconst_1 ?_
  refine un_aload_n 0 dX2_takeDraft_65 rfl rfl ?_
  refine vn_get (j := 0) (fs := [.ref q1, .int 9, .ref q2, .int 9, .ref q3, .int 0, .ref q4]) (v := .ref q1) 0 ukX2 rfl (Nat.le_of_ble_eq_true rfl) kg_X2_9 rfl dX2_takeDraft_66 ?_
  refine un_iload_n 1 dX2_takeDraft_69 rfl rfl ?_
  refine vn_iald (v := 1001) 1 rfl (by unfold vp_in; decide) (by decide +kernel) dX2_takeDraft_70 ?_
  refine un_sipush dX2_takeDraft_71 (v := 1000) (by decide) ?_
  refine un_isub (v := 1) dX2_takeDraft_74 (by decide) ?_
  refine un_ishl (v := 2) dX2_takeDraft_75 (by decide) ?_
  refine un_ior (v := 2) dX2_takeDraft_76 (by decide) ?_
  refine vn_put (j := 5) [(h0, .inr (2, [.ref q1, .int 9, .ref q2, .int 9, .ref q3, .int 2, .ref q4])), (q1, .inl (ue_cI E, 150, .inl (upl 1))), (q2, .inl (ue_cI E, 150, .inl (va_cpy us_plain (fun _ => 0) 0 0 9))), (q3, .inl (ue_cI E, 150, .inl (fun _ => 0))), (q4, .inl (ue_cI E, 8, .inl (fun _ => 0)))] 0 ukX2 rfl (Nat.le_of_ble_eq_true rfl) kg_X2_28 rfl rfl rfl (Nat.le_of_ble_eq_true rfl) dX2_takeDraft_77 rfl ?_
  refine un_iinc (v := 1) [(1, .int 1), (0, .ref h0)] 1 dX2_takeDraft_80 rfl (by decide) (Nat.le_of_ble_eq_true rfl) rfl ?_
  refine un_goto 15 dX2_takeDraft_83 (by decide) ?_
  refine un_sub [(0, .ref h0), (1, .int 1)] [1, 0] rfl ?_
  exact h
theorem tk_w1 (E : Ue) (h0 q1 q2 q3 q4 : Nat) : ([(h0, .inr (2, [.ref q1, .int 9, .ref q2, .int 9, .ref q3, .int 2, .ref q4])), (q1, .inl (ue_cI E, 150, .inl (upl 1))), (q2, .inl (ue_cI E, 150, .inl (va_cpy us_plain (fun _ => 0) 0 0 9))), (q3, .inl (ue_cI E, 150, .inl (fun _ => 0))), (q4, .inl (ue_cI E, 8, .inl (fun _ => 0)))] : va_W).set 1 (q1, .inl (ue_cI E, 150, .inl (upd (upl 1) (1 : Int32).toNatClampNeg 2))) = [(h0, .inr (2, [.ref q1, .int 9, .ref q2, .int 9, .ref q3, .int 2, .ref q4])), (q1, .inl (ue_cI E, 150, .inl (upl 2))), (q2, .inl (ue_cI E, 150, .inl (va_cpy us_plain (fun _ => 0) 0 0 9))), (q3, .inl (ue_cI E, 150, .inl (fun _ => 0))), (q4, .inl (ue_cI E, 8, .inl (fun _ => 0)))] := by
  have e : upd (upl 1) (1 : Int32).toNatClampNeg 2 = upl 2 := upl_s 1
  rw [e]
  rfl
set_option maxRecDepth 20000 in
theorem tk_1 {l : Launch} {E : Ue} {k mc ms : Nat} {Qf : Uf} (ws0 : va_W) (h0 q1 q2 q3 q4 : Nat) (h : un l E k mc ms cX2_takeDraft 2 RX2 none Qf 0 0 15 [(0, .ref h0), (1, .int 2)] [] (ws0 ++ [(h0, .inr (2, [.ref q1, .int 9, .ref q2, .int 9, .ref q3, .int 2, .ref q4])), (q1, .inl (ue_cI E, 150, .inl (upl 2))), (q2, .inl (ue_cI E, 150, .inl (va_cpy us_plain (fun _ => 0) 0 0 9))), (q3, .inl (ue_cI E, 150, .inl (fun _ => 0))), (q4, .inl (ue_cI E, 8, .inl (fun _ => 0)))])) : un l E k mc ms cX2_takeDraft 2 RX2 none Qf 0 0 15 [(0, .ref h0), (1, .int 1)] [] (ws0 ++ [(h0, .inr (2, [.ref q1, .int 9, .ref q2, .int 9, .ref q3, .int 2, .ref q4])), (q1, .inl (ue_cI E, 150, .inl (upl 1))), (q2, .inl (ue_cI E, 150, .inl (va_cpy us_plain (fun _ => 0) 0 0 9))), (q3, .inl (ue_cI E, 150, .inl (fun _ => 0))), (q4, .inl (ue_cI E, 8, .inl (fun _ => 0)))]) := by
  refine un_iload_n 1 dX2_takeDraft_15 rfl rfl ?_
  refine un_aload_n 0 dX2_takeDraft_16 rfl rfl ?_
  refine vn_get (j := 1) (fs := [.ref q1, .int 9, .ref q2, .int 9, .ref q3, .int 2, .ref q4]) (v := .int 9) 0 ukX2 rfl (Nat.le_of_ble_eq_true rfl) kg_X2_15 rfl dX2_takeDraft_17 ?_
  refine un_icmp_ge 86 dX2_takeDraft_20 (by decide) (fun q => absurd q (by decide)) (fun _ => ?_)
  refine un_aload_n 0 dX2_takeDraft_23 rfl rfl ?_
  refine vn_get (j := 0) (fs := [.ref q1, .int 9, .ref q2, .int 9, .ref q3, .int 2, .ref q4]) (v := .ref q1) 0 ukX2 rfl (Nat.le_of_ble_eq_true rfl) kg_X2_9 rfl dX2_takeDraft_24 ?_
  refine un_iload_n 1 dX2_takeDraft_27 rfl rfl ?_
  refine un_aload_n 0 dX2_takeDraft_28 rfl rfl ?_
  refine vn_get (j := 2) (fs := [.ref q1, .int 9, .ref q2, .int 9, .ref q3, .int 2, .ref q4]) (v := .ref q2) 0 ukX2 rfl (Nat.le_of_ble_eq_true rfl) kg_X2_19 rfl dX2_takeDraft_29 ?_
  refine un_iload_n 1 dX2_takeDraft_32 rfl rfl ?_
  refine vn_iald (v := 2) 2 rfl (by unfold vp_in; decide) (by decide +kernel) dX2_takeDraft_33 ?_
  refine vn_iast [(h0, .inr (2, [.ref q1, .int 9, .ref q2, .int 9, .ref q3, .int 2, .ref q4])), (q1, .inl (ue_cI E, 150, .inl (upl 2))), (q2, .inl (ue_cI E, 150, .inl (va_cpy us_plain (fun _ => 0) 0 0 9))), (q3, .inl (ue_cI E, 150, .inl (fun _ => 0))), (q4, .inl (ue_cI E, 8, .inl (fun _ => 0)))] 1 rfl (by unfold vp_in; decide) dX2_takeDraft_34 (tk_w1 E h0 q1 q2 q3 q4) ?_
  refine un_aload_n 0 dX2_takeDraft_35 rfl rfl ?_
  refine vn_get (j := 0) (fs := [.ref q1, .int 9, .ref q2, .int 9, .ref q3, .int 2, .ref q4]) (v := .ref q1) 0 ukX2 rfl (Nat.le_of_ble_eq_true rfl) kg_X2_9 rfl dX2_takeDraft_36 ?_
  refine un_iload_n 1 dX2_takeDraft_39 rfl rfl ?_
  refine vn_iald (v := 2) 1 rfl (by unfold vp_in; decide) (by decide +kernel) dX2_takeDraft_40 ?_
  refine un_sipush dX2_takeDraft_41 (v := 1000) (by decide) ?_
  refine un_icmp_lt 80 dX2_takeDraft_44 (by decide) (fun _ => ?_) (fun q => absurd (by decide) q)
  refine un_iinc (v := 2) [(1, .int 2), (0, .ref h0)] 1 dX2_takeDraft_80 rfl (by decide) (Nat.le_of_ble_eq_true rfl) rfl ?_
  refine un_goto 15 dX2_takeDraft_83 (by decide) ?_
  refine un_sub [(0, .ref h0), (1, .int 2)] [1, 0] rfl ?_
  exact h
theorem tk_w2 (E : Ue) (h0 q1 q2 q3 q4 : Nat) : ([(h0, .inr (2, [.ref q1, .int 9, .ref q2, .int 9, .ref q3, .int 2, .ref q4])), (q1, .inl (ue_cI E, 150, .inl (upl 2))), (q2, .inl (ue_cI E, 150, .inl (va_cpy us_plain (fun _ => 0) 0 0 9))), (q3, .inl (ue_cI E, 150, .inl (fun _ => 0))), (q4, .inl (ue_cI E, 8, .inl (fun _ => 0)))] : va_W).set 1 (q1, .inl (ue_cI E, 150, .inl (upd (upl 2) (2 : Int32).toNatClampNeg 2002))) = [(h0, .inr (2, [.ref q1, .int 9, .ref q2, .int 9, .ref q3, .int 2, .ref q4])), (q1, .inl (ue_cI E, 150, .inl (upl 3))), (q2, .inl (ue_cI E, 150, .inl (va_cpy us_plain (fun _ => 0) 0 0 9))), (q3, .inl (ue_cI E, 150, .inl (fun _ => 0))), (q4, .inl (ue_cI E, 8, .inl (fun _ => 0)))] := by
  have e : upd (upl 2) (2 : Int32).toNatClampNeg 2002 = upl 3 := upl_s 2
  rw [e]
  rfl
set_option maxRecDepth 20000 in
theorem tk_2 {l : Launch} {E : Ue} {k mc ms : Nat} {Qf : Uf} (ws0 : va_W) (h0 q1 q2 q3 q4 : Nat) (h : un l E k mc ms cX2_takeDraft 2 RX2 none Qf 0 0 15 [(0, .ref h0), (1, .int 3)] [] (ws0 ++ [(h0, .inr (2, [.ref q1, .int 9, .ref q2, .int 9, .ref q3, .int 2, .ref q4])), (q1, .inl (ue_cI E, 150, .inl (upl 3))), (q2, .inl (ue_cI E, 150, .inl (va_cpy us_plain (fun _ => 0) 0 0 9))), (q3, .inl (ue_cI E, 150, .inl (fun _ => 0))), (q4, .inl (ue_cI E, 8, .inl (fun _ => 0)))])) : un l E k mc ms cX2_takeDraft 2 RX2 none Qf 0 0 15 [(0, .ref h0), (1, .int 2)] [] (ws0 ++ [(h0, .inr (2, [.ref q1, .int 9, .ref q2, .int 9, .ref q3, .int 2, .ref q4])), (q1, .inl (ue_cI E, 150, .inl (upl 2))), (q2, .inl (ue_cI E, 150, .inl (va_cpy us_plain (fun _ => 0) 0 0 9))), (q3, .inl (ue_cI E, 150, .inl (fun _ => 0))), (q4, .inl (ue_cI E, 8, .inl (fun _ => 0)))]) := by
  refine un_iload_n 1 dX2_takeDraft_15 rfl rfl ?_
  refine un_aload_n 0 dX2_takeDraft_16 rfl rfl ?_
  refine vn_get (j := 1) (fs := [.ref q1, .int 9, .ref q2, .int 9, .ref q3, .int 2, .ref q4]) (v := .int 9) 0 ukX2 rfl (Nat.le_of_ble_eq_true rfl) kg_X2_15 rfl dX2_takeDraft_17 ?_
  refine un_icmp_ge 86 dX2_takeDraft_20 (by decide) (fun q => absurd q (by decide)) (fun _ => ?_)
  refine un_aload_n 0 dX2_takeDraft_23 rfl rfl ?_
  refine vn_get (j := 0) (fs := [.ref q1, .int 9, .ref q2, .int 9, .ref q3, .int 2, .ref q4]) (v := .ref q1) 0 ukX2 rfl (Nat.le_of_ble_eq_true rfl) kg_X2_9 rfl dX2_takeDraft_24 ?_
  refine un_iload_n 1 dX2_takeDraft_27 rfl rfl ?_
  refine un_aload_n 0 dX2_takeDraft_28 rfl rfl ?_
  refine vn_get (j := 2) (fs := [.ref q1, .int 9, .ref q2, .int 9, .ref q3, .int 2, .ref q4]) (v := .ref q2) 0 ukX2 rfl (Nat.le_of_ble_eq_true rfl) kg_X2_19 rfl dX2_takeDraft_29 ?_
  refine un_iload_n 1 dX2_takeDraft_32 rfl rfl ?_
  refine vn_iald (v := 2002) 2 rfl (by unfold vp_in; decide) (by decide +kernel) dX2_takeDraft_33 ?_
  refine vn_iast [(h0, .inr (2, [.ref q1, .int 9, .ref q2, .int 9, .ref q3, .int 2, .ref q4])), (q1, .inl (ue_cI E, 150, .inl (upl 3))), (q2, .inl (ue_cI E, 150, .inl (va_cpy us_plain (fun _ => 0) 0 0 9))), (q3, .inl (ue_cI E, 150, .inl (fun _ => 0))), (q4, .inl (ue_cI E, 8, .inl (fun _ => 0)))] 1 rfl (by unfold vp_in; decide) dX2_takeDraft_34 (tk_w2 E h0 q1 q2 q3 q4) ?_
  refine un_aload_n 0 dX2_takeDraft_35 rfl rfl ?_
  refine vn_get (j := 0) (fs := [.ref q1, .int 9, .ref q2, .int 9, .ref q3, .int 2, .ref q4]) (v := .ref q1) 0 ukX2 rfl (Nat.le_of_ble_eq_true rfl) kg_X2_9 rfl dX2_takeDraft_36 ?_
  refine un_iload_n 1 dX2_takeDraft_39 rfl rfl ?_
  refine vn_iald (v := 2002) 1 rfl (by unfold vp_in; decide) (by decide +kernel) dX2_takeDraft_40 ?_
  refine un_sipush dX2_takeDraft_41 (v := 1000) (by decide) ?_
  refine un_icmp_lt 80 dX2_takeDraft_44 (by decide) (fun q => absurd q (by decide)) (fun _ => ?_)
  refine un_aload_n 0 dX2_takeDraft_47 rfl rfl ?_
  refine vn_get (j := 0) (fs := [.ref q1, .int 9, .ref q2, .int 9, .ref q3, .int 2, .ref q4]) (v := .ref q1) 0 ukX2 rfl (Nat.le_of_ble_eq_true rfl) kg_X2_9 rfl dX2_takeDraft_48 ?_
  refine un_iload_n 1 dX2_takeDraft_51 rfl rfl ?_
  refine vn_iald (v := 2002) 1 rfl (by unfold vp_in; decide) (by decide +kernel) dX2_takeDraft_52 ?_
  refine un_sipush dX2_takeDraft_53 (v := 2000) (by decide) ?_
  refine un_icmp_ge 80 dX2_takeDraft_56 (by decide) (fun _ => ?_) (fun q => absurd (by decide) q)
  refine un_iinc (v := 3) [(1, .int 3), (0, .ref h0)] 1 dX2_takeDraft_80 rfl (by decide) (Nat.le_of_ble_eq_true rfl) rfl ?_
  refine un_goto 15 dX2_takeDraft_83 (by decide) ?_
  refine un_sub [(0, .ref h0), (1, .int 3)] [1, 0] rfl ?_
  exact h
theorem tk_w3 (E : Ue) (h0 q1 q2 q3 q4 : Nat) : ([(h0, .inr (2, [.ref q1, .int 9, .ref q2, .int 9, .ref q3, .int 2, .ref q4])), (q1, .inl (ue_cI E, 150, .inl (upl 3))), (q2, .inl (ue_cI E, 150, .inl (va_cpy us_plain (fun _ => 0) 0 0 9))), (q3, .inl (ue_cI E, 150, .inl (fun _ => 0))), (q4, .inl (ue_cI E, 8, .inl (fun _ => 0)))] : va_W).set 1 (q1, .inl (ue_cI E, 150, .inl (upd (upl 3) (3 : Int32).toNatClampNeg 1000))) = [(h0, .inr (2, [.ref q1, .int 9, .ref q2, .int 9, .ref q3, .int 2, .ref q4])), (q1, .inl (ue_cI E, 150, .inl (upl 4))), (q2, .inl (ue_cI E, 150, .inl (va_cpy us_plain (fun _ => 0) 0 0 9))), (q3, .inl (ue_cI E, 150, .inl (fun _ => 0))), (q4, .inl (ue_cI E, 8, .inl (fun _ => 0)))] := by
  have e : upd (upl 3) (3 : Int32).toNatClampNeg 1000 = upl 4 := upl_s 3
  rw [e]
  rfl
set_option maxRecDepth 20000 in
theorem tk_3 {l : Launch} {E : Ue} {k mc ms : Nat} {Qf : Uf} (ws0 : va_W) (h0 q1 q2 q3 q4 : Nat) (h : un l E k mc ms cX2_takeDraft 2 RX2 none Qf 0 0 15 [(0, .ref h0), (1, .int 4)] [] (ws0 ++ [(h0, .inr (2, [.ref q1, .int 9, .ref q2, .int 9, .ref q3, .int 3, .ref q4])), (q1, .inl (ue_cI E, 150, .inl (upl 4))), (q2, .inl (ue_cI E, 150, .inl (va_cpy us_plain (fun _ => 0) 0 0 9))), (q3, .inl (ue_cI E, 150, .inl (fun _ => 0))), (q4, .inl (ue_cI E, 8, .inl (fun _ => 0)))])) : un l E k mc ms cX2_takeDraft 2 RX2 none Qf 0 0 15 [(0, .ref h0), (1, .int 3)] [] (ws0 ++ [(h0, .inr (2, [.ref q1, .int 9, .ref q2, .int 9, .ref q3, .int 2, .ref q4])), (q1, .inl (ue_cI E, 150, .inl (upl 3))), (q2, .inl (ue_cI E, 150, .inl (va_cpy us_plain (fun _ => 0) 0 0 9))), (q3, .inl (ue_cI E, 150, .inl (fun _ => 0))), (q4, .inl (ue_cI E, 8, .inl (fun _ => 0)))]) := by
  refine un_iload_n 1 dX2_takeDraft_15 rfl rfl ?_
  refine un_aload_n 0 dX2_takeDraft_16 rfl rfl ?_
  refine vn_get (j := 1) (fs := [.ref q1, .int 9, .ref q2, .int 9, .ref q3, .int 2, .ref q4]) (v := .int 9) 0 ukX2 rfl (Nat.le_of_ble_eq_true rfl) kg_X2_15 rfl dX2_takeDraft_17 ?_
  refine un_icmp_ge 86 dX2_takeDraft_20 (by decide) (fun q => absurd q (by decide)) (fun _ => ?_)
  refine un_aload_n 0 dX2_takeDraft_23 rfl rfl ?_
  refine vn_get (j := 0) (fs := [.ref q1, .int 9, .ref q2, .int 9, .ref q3, .int 2, .ref q4]) (v := .ref q1) 0 ukX2 rfl (Nat.le_of_ble_eq_true rfl) kg_X2_9 rfl dX2_takeDraft_24 ?_
  refine un_iload_n 1 dX2_takeDraft_27 rfl rfl ?_
  refine un_aload_n 0 dX2_takeDraft_28 rfl rfl ?_
  refine vn_get (j := 2) (fs := [.ref q1, .int 9, .ref q2, .int 9, .ref q3, .int 2, .ref q4]) (v := .ref q2) 0 ukX2 rfl (Nat.le_of_ble_eq_true rfl) kg_X2_19 rfl dX2_takeDraft_29 ?_
  refine un_iload_n 1 dX2_takeDraft_32 rfl rfl ?_
  refine vn_iald (v := 1000) 2 rfl (by unfold vp_in; decide) (by decide +kernel) dX2_takeDraft_33 ?_
  refine vn_iast [(h0, .inr (2, [.ref q1, .int 9, .ref q2, .int 9, .ref q3, .int 2, .ref q4])), (q1, .inl (ue_cI E, 150, .inl (upl 4))), (q2, .inl (ue_cI E, 150, .inl (va_cpy us_plain (fun _ => 0) 0 0 9))), (q3, .inl (ue_cI E, 150, .inl (fun _ => 0))), (q4, .inl (ue_cI E, 8, .inl (fun _ => 0)))] 1 rfl (by unfold vp_in; decide) dX2_takeDraft_34 (tk_w3 E h0 q1 q2 q3 q4) ?_
  refine un_aload_n 0 dX2_takeDraft_35 rfl rfl ?_
  refine vn_get (j := 0) (fs := [.ref q1, .int 9, .ref q2, .int 9, .ref q3, .int 2, .ref q4]) (v := .ref q1) 0 ukX2 rfl (Nat.le_of_ble_eq_true rfl) kg_X2_9 rfl dX2_takeDraft_36 ?_
  refine un_iload_n 1 dX2_takeDraft_39 rfl rfl ?_
  refine vn_iald (v := 1000) 1 rfl (by unfold vp_in; decide) (by decide +kernel) dX2_takeDraft_40 ?_
  refine un_sipush dX2_takeDraft_41 (v := 1000) (by decide) ?_
  refine un_icmp_lt 80 dX2_takeDraft_44 (by decide) (fun q => absurd q (by decide)) (fun _ => ?_)
  refine un_aload_n 0 dX2_takeDraft_47 rfl rfl ?_
  refine vn_get (j := 0) (fs := [.ref q1, .int 9, .ref q2, .int 9, .ref q3, .int 2, .ref q4]) (v := .ref q1) 0 ukX2 rfl (Nat.le_of_ble_eq_true rfl) kg_X2_9 rfl dX2_takeDraft_48 ?_
  refine un_iload_n 1 dX2_takeDraft_51 rfl rfl ?_
  refine vn_iald (v := 1000) 1 rfl (by unfold vp_in; decide) (by decide +kernel) dX2_takeDraft_52 ?_
  refine un_sipush dX2_takeDraft_53 (v := 2000) (by decide) ?_
  refine un_icmp_ge 80 dX2_takeDraft_56 (by decide) (fun q => absurd q (by decide)) (fun _ => ?_)
  refine un_aload_n 0 dX2_takeDraft_59 rfl rfl ?_
  refine un_dup dX2_takeDraft_60 rfl ?_
  refine vn_get (j := 5) (fs := [.ref q1, .int 9, .ref q2, .int 9, .ref q3, .int 2, .ref q4]) (v := .int 2) 0 ukX2 rfl (Nat.le_of_ble_eq_true rfl) kg_X2_28 rfl dX2_takeDraft_61 ?_
  refine un_iconst dX2_takeDraft_64 un_iconst_1 ?_
  refine un_aload_n 0 dX2_takeDraft_65 rfl rfl ?_
  refine vn_get (j := 0) (fs := [.ref q1, .int 9, .ref q2, .int 9, .ref q3, .int 2, .ref q4]) (v := .ref q1) 0 ukX2 rfl (Nat.le_of_ble_eq_true rfl) kg_X2_9 rfl dX2_takeDraft_66 ?_
  refine un_iload_n 1 dX2_takeDraft_69 rfl rfl ?_
  refine vn_iald (v := 1000) 1 rfl (by unfold vp_in; decide) (by decide +kernel) dX2_takeDraft_70 ?_
  refine un_sipush dX2_takeDraft_71 (v := 1000) (by decide) ?_
  refine un_isub (v := 0) dX2_takeDraft_74 (by decide) ?_
  refine un_ishl (v := 1) dX2_takeDraft_75 (by decide) ?_
  refine un_ior (v := 3) dX2_takeDraft_76 (by decide) ?_
  refine vn_put (j := 5) [(h0, .inr (2, [.ref q1, .int 9, .ref q2, .int 9, .ref q3, .int 3, .ref q4])), (q1, .inl (ue_cI E, 150, .inl (upl 4))), (q2, .inl (ue_cI E, 150, .inl (va_cpy us_plain (fun _ => 0) 0 0 9))), (q3, .inl (ue_cI E, 150, .inl (fun _ => 0))), (q4, .inl (ue_cI E, 8, .inl (fun _ => 0)))] 0 ukX2 rfl (Nat.le_of_ble_eq_true rfl) kg_X2_28 rfl rfl rfl (Nat.le_of_ble_eq_true rfl) dX2_takeDraft_77 rfl ?_
  refine un_iinc (v := 4) [(1, .int 4), (0, .ref h0)] 1 dX2_takeDraft_80 rfl (by decide) (Nat.le_of_ble_eq_true rfl) rfl ?_
  refine un_goto 15 dX2_takeDraft_83 (by decide) ?_
  refine un_sub [(0, .ref h0), (1, .int 4)] [1, 0] rfl ?_
  exact h
theorem tk_w4 (E : Ue) (h0 q1 q2 q3 q4 : Nat) : ([(h0, .inr (2, [.ref q1, .int 9, .ref q2, .int 9, .ref q3, .int 3, .ref q4])), (q1, .inl (ue_cI E, 150, .inl (upl 4))), (q2, .inl (ue_cI E, 150, .inl (va_cpy us_plain (fun _ => 0) 0 0 9))), (q3, .inl (ue_cI E, 150, .inl (fun _ => 0))), (q4, .inl (ue_cI E, 8, .inl (fun _ => 0)))] : va_W).set 1 (q1, .inl (ue_cI E, 150, .inl (upd (upl 4) (4 : Int32).toNatClampNeg 2))) = [(h0, .inr (2, [.ref q1, .int 9, .ref q2, .int 9, .ref q3, .int 3, .ref q4])), (q1, .inl (ue_cI E, 150, .inl (upl 5))), (q2, .inl (ue_cI E, 150, .inl (va_cpy us_plain (fun _ => 0) 0 0 9))), (q3, .inl (ue_cI E, 150, .inl (fun _ => 0))), (q4, .inl (ue_cI E, 8, .inl (fun _ => 0)))] := by
  have e : upd (upl 4) (4 : Int32).toNatClampNeg 2 = upl 5 := upl_s 4
  rw [e]
  rfl
set_option maxRecDepth 20000 in
theorem tk_4 {l : Launch} {E : Ue} {k mc ms : Nat} {Qf : Uf} (ws0 : va_W) (h0 q1 q2 q3 q4 : Nat) (h : un l E k mc ms cX2_takeDraft 2 RX2 none Qf 0 0 15 [(0, .ref h0), (1, .int 5)] [] (ws0 ++ [(h0, .inr (2, [.ref q1, .int 9, .ref q2, .int 9, .ref q3, .int 3, .ref q4])), (q1, .inl (ue_cI E, 150, .inl (upl 5))), (q2, .inl (ue_cI E, 150, .inl (va_cpy us_plain (fun _ => 0) 0 0 9))), (q3, .inl (ue_cI E, 150, .inl (fun _ => 0))), (q4, .inl (ue_cI E, 8, .inl (fun _ => 0)))])) : un l E k mc ms cX2_takeDraft 2 RX2 none Qf 0 0 15 [(0, .ref h0), (1, .int 4)] [] (ws0 ++ [(h0, .inr (2, [.ref q1, .int 9, .ref q2, .int 9, .ref q3, .int 3, .ref q4])), (q1, .inl (ue_cI E, 150, .inl (upl 4))), (q2, .inl (ue_cI E, 150, .inl (va_cpy us_plain (fun _ => 0) 0 0 9))), (q3, .inl (ue_cI E, 150, .inl (fun _ => 0))), (q4, .inl (ue_cI E, 8, .inl (fun _ => 0)))]) := by
  refine un_iload_n 1 dX2_takeDraft_15 rfl rfl ?_
  refine un_aload_n 0 dX2_takeDraft_16 rfl rfl ?_
  refine vn_get (j := 1) (fs := [.ref q1, .int 9, .ref q2, .int 9, .ref q3, .int 3, .ref q4]) (v := .int 9) 0 ukX2 rfl (Nat.le_of_ble_eq_true rfl) kg_X2_15 rfl dX2_takeDraft_17 ?_
  refine un_icmp_ge 86 dX2_takeDraft_20 (by decide) (fun q => absurd q (by decide)) (fun _ => ?_)
  refine un_aload_n 0 dX2_takeDraft_23 rfl rfl ?_
  refine vn_get (j := 0) (fs := [.ref q1, .int 9, .ref q2, .int 9, .ref q3, .int 3, .ref q4]) (v := .ref q1) 0 ukX2 rfl (Nat.le_of_ble_eq_true rfl) kg_X2_9 rfl dX2_takeDraft_24 ?_
  refine un_iload_n 1 dX2_takeDraft_27 rfl rfl ?_
  refine un_aload_n 0 dX2_takeDraft_28 rfl rfl ?_
  refine vn_get (j := 2) (fs := [.ref q1, .int 9, .ref q2, .int 9, .ref q3, .int 3, .ref q4]) (v := .ref q2) 0 ukX2 rfl (Nat.le_of_ble_eq_true rfl) kg_X2_19 rfl dX2_takeDraft_29 ?_
  refine un_iload_n 1 dX2_takeDraft_32 rfl rfl ?_
  refine vn_iald (v := 2) 2 rfl (by unfold vp_in; decide) (by decide +kernel) dX2_takeDraft_33 ?_
  refine vn_iast [(h0, .inr (2, [.ref q1, .int 9, .ref q2, .int 9, .ref q3, .int 3, .ref q4])), (q1, .inl (ue_cI E, 150, .inl (upl 5))), (q2, .inl (ue_cI E, 150, .inl (va_cpy us_plain (fun _ => 0) 0 0 9))), (q3, .inl (ue_cI E, 150, .inl (fun _ => 0))), (q4, .inl (ue_cI E, 8, .inl (fun _ => 0)))] 1 rfl (by unfold vp_in; decide) dX2_takeDraft_34 (tk_w4 E h0 q1 q2 q3 q4) ?_
  refine un_aload_n 0 dX2_takeDraft_35 rfl rfl ?_
  refine vn_get (j := 0) (fs := [.ref q1, .int 9, .ref q2, .int 9, .ref q3, .int 3, .ref q4]) (v := .ref q1) 0 ukX2 rfl (Nat.le_of_ble_eq_true rfl) kg_X2_9 rfl dX2_takeDraft_36 ?_
  refine un_iload_n 1 dX2_takeDraft_39 rfl rfl ?_
  refine vn_iald (v := 2) 1 rfl (by unfold vp_in; decide) (by decide +kernel) dX2_takeDraft_40 ?_
  refine un_sipush dX2_takeDraft_41 (v := 1000) (by decide) ?_
  refine un_icmp_lt 80 dX2_takeDraft_44 (by decide) (fun _ => ?_) (fun q => absurd (by decide) q)
  refine un_iinc (v := 5) [(1, .int 5), (0, .ref h0)] 1 dX2_takeDraft_80 rfl (by decide) (Nat.le_of_ble_eq_true rfl) rfl ?_
  refine un_goto 15 dX2_takeDraft_83 (by decide) ?_
  refine un_sub [(0, .ref h0), (1, .int 5)] [1, 0] rfl ?_
  exact h
theorem tk_w5 (E : Ue) (h0 q1 q2 q3 q4 : Nat) : ([(h0, .inr (2, [.ref q1, .int 9, .ref q2, .int 9, .ref q3, .int 3, .ref q4])), (q1, .inl (ue_cI E, 150, .inl (upl 5))), (q2, .inl (ue_cI E, 150, .inl (va_cpy us_plain (fun _ => 0) 0 0 9))), (q3, .inl (ue_cI E, 150, .inl (fun _ => 0))), (q4, .inl (ue_cI E, 8, .inl (fun _ => 0)))] : va_W).set 1 (q1, .inl (ue_cI E, 150, .inl (upd (upl 5) (5 : Int32).toNatClampNeg 2003))) = [(h0, .inr (2, [.ref q1, .int 9, .ref q2, .int 9, .ref q3, .int 3, .ref q4])), (q1, .inl (ue_cI E, 150, .inl (upl 6))), (q2, .inl (ue_cI E, 150, .inl (va_cpy us_plain (fun _ => 0) 0 0 9))), (q3, .inl (ue_cI E, 150, .inl (fun _ => 0))), (q4, .inl (ue_cI E, 8, .inl (fun _ => 0)))] := by
  have e : upd (upl 5) (5 : Int32).toNatClampNeg 2003 = upl 6 := upl_s 5
  rw [e]
  rfl
set_option maxRecDepth 20000 in
theorem tk_5 {l : Launch} {E : Ue} {k mc ms : Nat} {Qf : Uf} (ws0 : va_W) (h0 q1 q2 q3 q4 : Nat) (h : un l E k mc ms cX2_takeDraft 2 RX2 none Qf 0 0 15 [(0, .ref h0), (1, .int 6)] [] (ws0 ++ [(h0, .inr (2, [.ref q1, .int 9, .ref q2, .int 9, .ref q3, .int 3, .ref q4])), (q1, .inl (ue_cI E, 150, .inl (upl 6))), (q2, .inl (ue_cI E, 150, .inl (va_cpy us_plain (fun _ => 0) 0 0 9))), (q3, .inl (ue_cI E, 150, .inl (fun _ => 0))), (q4, .inl (ue_cI E, 8, .inl (fun _ => 0)))])) : un l E k mc ms cX2_takeDraft 2 RX2 none Qf 0 0 15 [(0, .ref h0), (1, .int 5)] [] (ws0 ++ [(h0, .inr (2, [.ref q1, .int 9, .ref q2, .int 9, .ref q3, .int 3, .ref q4])), (q1, .inl (ue_cI E, 150, .inl (upl 5))), (q2, .inl (ue_cI E, 150, .inl (va_cpy us_plain (fun _ => 0) 0 0 9))), (q3, .inl (ue_cI E, 150, .inl (fun _ => 0))), (q4, .inl (ue_cI E, 8, .inl (fun _ => 0)))]) := by
  refine un_iload_n 1 dX2_takeDraft_15 rfl rfl ?_
  refine un_aload_n 0 dX2_takeDraft_16 rfl rfl ?_
  refine vn_get (j := 1) (fs := [.ref q1, .int 9, .ref q2, .int 9, .ref q3, .int 3, .ref q4]) (v := .int 9) 0 ukX2 rfl (Nat.le_of_ble_eq_true rfl) kg_X2_15 rfl dX2_takeDraft_17 ?_
  refine un_icmp_ge 86 dX2_takeDraft_20 (by decide) (fun q => absurd q (by decide)) (fun _ => ?_)
  refine un_aload_n 0 dX2_takeDraft_23 rfl rfl ?_
  refine vn_get (j := 0) (fs := [.ref q1, .int 9, .ref q2, .int 9, .ref q3, .int 3, .ref q4]) (v := .ref q1) 0 ukX2 rfl (Nat.le_of_ble_eq_true rfl) kg_X2_9 rfl dX2_takeDraft_24 ?_
  refine un_iload_n 1 dX2_takeDraft_27 rfl rfl ?_
  refine un_aload_n 0 dX2_takeDraft_28 rfl rfl ?_
  refine vn_get (j := 2) (fs := [.ref q1, .int 9, .ref q2, .int 9, .ref q3, .int 3, .ref q4]) (v := .ref q2) 0 ukX2 rfl (Nat.le_of_ble_eq_true rfl) kg_X2_19 rfl dX2_takeDraft_29 ?_
  refine un_iload_n 1 dX2_takeDraft_32 rfl rfl ?_
  refine vn_iald (v := 2003) 2 rfl (by unfold vp_in; decide) (by decide +kernel) dX2_takeDraft_33 ?_
  refine vn_iast [(h0, .inr (2, [.ref q1, .int 9, .ref q2, .int 9, .ref q3, .int 3, .ref q4])), (q1, .inl (ue_cI E, 150, .inl (upl 6))), (q2, .inl (ue_cI E, 150, .inl (va_cpy us_plain (fun _ => 0) 0 0 9))), (q3, .inl (ue_cI E, 150, .inl (fun _ => 0))), (q4, .inl (ue_cI E, 8, .inl (fun _ => 0)))] 1 rfl (by unfold vp_in; decide) dX2_takeDraft_34 (tk_w5 E h0 q1 q2 q3 q4) ?_
  refine un_aload_n 0 dX2_takeDraft_35 rfl rfl ?_
  refine vn_get (j := 0) (fs := [.ref q1, .int 9, .ref q2, .int 9, .ref q3, .int 3, .ref q4]) (v := .ref q1) 0 ukX2 rfl (Nat.le_of_ble_eq_true rfl) kg_X2_9 rfl dX2_takeDraft_36 ?_
  refine un_iload_n 1 dX2_takeDraft_39 rfl rfl ?_
  refine vn_iald (v := 2003) 1 rfl (by unfold vp_in; decide) (by decide +kernel) dX2_takeDraft_40 ?_
  refine un_sipush dX2_takeDraft_41 (v := 1000) (by decide) ?_
  refine un_icmp_lt 80 dX2_takeDraft_44 (by decide) (fun q => absurd q (by decide)) (fun _ => ?_)
  refine un_aload_n 0 dX2_takeDraft_47 rfl rfl ?_
  refine vn_get (j := 0) (fs := [.ref q1, .int 9, .ref q2, .int 9, .ref q3, .int 3, .ref q4]) (v := .ref q1) 0 ukX2 rfl (Nat.le_of_ble_eq_true rfl) kg_X2_9 rfl dX2_takeDraft_48 ?_
  refine un_iload_n 1 dX2_takeDraft_51 rfl rfl ?_
  refine vn_iald (v := 2003) 1 rfl (by unfold vp_in; decide) (by decide +kernel) dX2_takeDraft_52 ?_
  refine un_sipush dX2_takeDraft_53 (v := 2000) (by decide) ?_
  refine un_icmp_ge 80 dX2_takeDraft_56 (by decide) (fun _ => ?_) (fun q => absurd (by decide) q)
  refine un_iinc (v := 6) [(1, .int 6), (0, .ref h0)] 1 dX2_takeDraft_80 rfl (by decide) (Nat.le_of_ble_eq_true rfl) rfl ?_
  refine un_goto 15 dX2_takeDraft_83 (by decide) ?_
  refine un_sub [(0, .ref h0), (1, .int 6)] [1, 0] rfl ?_
  exact h
theorem tk_w6 (E : Ue) (h0 q1 q2 q3 q4 : Nat) : ([(h0, .inr (2, [.ref q1, .int 9, .ref q2, .int 9, .ref q3, .int 3, .ref q4])), (q1, .inl (ue_cI E, 150, .inl (upl 6))), (q2, .inl (ue_cI E, 150, .inl (va_cpy us_plain (fun _ => 0) 0 0 9))), (q3, .inl (ue_cI E, 150, .inl (fun _ => 0))), (q4, .inl (ue_cI E, 8, .inl (fun _ => 0)))] : va_W).set 1 (q1, .inl (ue_cI E, 150, .inl (upd (upl 6) (6 : Int32).toNatClampNeg 2001))) = [(h0, .inr (2, [.ref q1, .int 9, .ref q2, .int 9, .ref q3, .int 3, .ref q4])), (q1, .inl (ue_cI E, 150, .inl (upl 7))), (q2, .inl (ue_cI E, 150, .inl (va_cpy us_plain (fun _ => 0) 0 0 9))), (q3, .inl (ue_cI E, 150, .inl (fun _ => 0))), (q4, .inl (ue_cI E, 8, .inl (fun _ => 0)))] := by
  have e : upd (upl 6) (6 : Int32).toNatClampNeg 2001 = upl 7 := upl_s 6
  rw [e]
  rfl
set_option maxRecDepth 20000 in
theorem tk_6 {l : Launch} {E : Ue} {k mc ms : Nat} {Qf : Uf} (ws0 : va_W) (h0 q1 q2 q3 q4 : Nat) (h : un l E k mc ms cX2_takeDraft 2 RX2 none Qf 0 0 15 [(0, .ref h0), (1, .int 7)] [] (ws0 ++ [(h0, .inr (2, [.ref q1, .int 9, .ref q2, .int 9, .ref q3, .int 3, .ref q4])), (q1, .inl (ue_cI E, 150, .inl (upl 7))), (q2, .inl (ue_cI E, 150, .inl (va_cpy us_plain (fun _ => 0) 0 0 9))), (q3, .inl (ue_cI E, 150, .inl (fun _ => 0))), (q4, .inl (ue_cI E, 8, .inl (fun _ => 0)))])) : un l E k mc ms cX2_takeDraft 2 RX2 none Qf 0 0 15 [(0, .ref h0), (1, .int 6)] [] (ws0 ++ [(h0, .inr (2, [.ref q1, .int 9, .ref q2, .int 9, .ref q3, .int 3, .ref q4])), (q1, .inl (ue_cI E, 150, .inl (upl 6))), (q2, .inl (ue_cI E, 150, .inl (va_cpy us_plain (fun _ => 0) 0 0 9))), (q3, .inl (ue_cI E, 150, .inl (fun _ => 0))), (q4, .inl (ue_cI E, 8, .inl (fun _ => 0)))]) := by
  refine un_iload_n 1 dX2_takeDraft_15 rfl rfl ?_
  refine un_aload_n 0 dX2_takeDraft_16 rfl rfl ?_
  refine vn_get (j := 1) (fs := [.ref q1, .int 9, .ref q2, .int 9, .ref q3, .int 3, .ref q4]) (v := .int 9) 0 ukX2 rfl (Nat.le_of_ble_eq_true rfl) kg_X2_15 rfl dX2_takeDraft_17 ?_
  refine un_icmp_ge 86 dX2_takeDraft_20 (by decide) (fun q => absurd q (by decide)) (fun _ => ?_)
  refine un_aload_n 0 dX2_takeDraft_23 rfl rfl ?_
  refine vn_get (j := 0) (fs := [.ref q1, .int 9, .ref q2, .int 9, .ref q3, .int 3, .ref q4]) (v := .ref q1) 0 ukX2 rfl (Nat.le_of_ble_eq_true rfl) kg_X2_9 rfl dX2_takeDraft_24 ?_
  refine un_iload_n 1 dX2_takeDraft_27 rfl rfl ?_
  refine un_aload_n 0 dX2_takeDraft_28 rfl rfl ?_
  refine vn_get (j := 2) (fs := [.ref q1, .int 9, .ref q2, .int 9, .ref q3, .int 3, .ref q4]) (v := .ref q2) 0 ukX2 rfl (Nat.le_of_ble_eq_true rfl) kg_X2_19 rfl dX2_takeDraft_29 ?_
  refine un_iload_n 1 dX2_takeDraft_32 rfl rfl ?_
  refine vn_iald (v := 2001) 2 rfl (by unfold vp_in; decide) (by decide +kernel) dX2_takeDraft_33 ?_
  refine vn_iast [(h0, .inr (2, [.ref q1, .int 9, .ref q2, .int 9, .ref q3, .int 3, .ref q4])), (q1, .inl (ue_cI E, 150, .inl (upl 7))), (q2, .inl (ue_cI E, 150, .inl (va_cpy us_plain (fun _ => 0) 0 0 9))), (q3, .inl (ue_cI E, 150, .inl (fun _ => 0))), (q4, .inl (ue_cI E, 8, .inl (fun _ => 0)))] 1 rfl (by unfold vp_in; decide) dX2_takeDraft_34 (tk_w6 E h0 q1 q2 q3 q4) ?_
  refine un_aload_n 0 dX2_takeDraft_35 rfl rfl ?_
  refine vn_get (j := 0) (fs := [.ref q1, .int 9, .ref q2, .int 9, .ref q3, .int 3, .ref q4]) (v := .ref q1) 0 ukX2 rfl (Nat.le_of_ble_eq_true rfl) kg_X2_9 rfl dX2_takeDraft_36 ?_
  refine un_iload_n 1 dX2_takeDraft_39 rfl rfl ?_
  refine vn_iald (v := 2001) 1 rfl (by unfold vp_in; decide) (by decide +kernel) dX2_takeDraft_40 ?_
  refine un_sipush dX2_takeDraft_41 (v := 1000) (by decide) ?_
  refine un_icmp_lt 80 dX2_takeDraft_44 (by decide) (fun q => absurd q (by decide)) (fun _ => ?_)
  refine un_aload_n 0 dX2_takeDraft_47 rfl rfl ?_
  refine vn_get (j := 0) (fs := [.ref q1, .int 9, .ref q2, .int 9, .ref q3, .int 3, .ref q4]) (v := .ref q1) 0 ukX2 rfl (Nat.le_of_ble_eq_true rfl) kg_X2_9 rfl dX2_takeDraft_48 ?_
  refine un_iload_n 1 dX2_takeDraft_51 rfl rfl ?_
  refine vn_iald (v := 2001) 1 rfl (by unfold vp_in; decide) (by decide +kernel) dX2_takeDraft_52 ?_
  refine un_sipush dX2_takeDraft_53 (v := 2000) (by decide) ?_
  refine un_icmp_ge 80 dX2_takeDraft_56 (by decide) (fun _ => ?_) (fun q => absurd (by decide) q)
  refine un_iinc (v := 7) [(1, .int 7), (0, .ref h0)] 1 dX2_takeDraft_80 rfl (by decide) (Nat.le_of_ble_eq_true rfl) rfl ?_
  refine un_goto 15 dX2_takeDraft_83 (by decide) ?_
  refine un_sub [(0, .ref h0), (1, .int 7)] [1, 0] rfl ?_
  exact h
theorem tk_w7 (E : Ue) (h0 q1 q2 q3 q4 : Nat) : ([(h0, .inr (2, [.ref q1, .int 9, .ref q2, .int 9, .ref q3, .int 3, .ref q4])), (q1, .inl (ue_cI E, 150, .inl (upl 7))), (q2, .inl (ue_cI E, 150, .inl (va_cpy us_plain (fun _ => 0) 0 0 9))), (q3, .inl (ue_cI E, 150, .inl (fun _ => 0))), (q4, .inl (ue_cI E, 8, .inl (fun _ => 0)))] : va_W).set 1 (q1, .inl (ue_cI E, 150, .inl (upd (upl 7) (7 : Int32).toNatClampNeg 1002))) = [(h0, .inr (2, [.ref q1, .int 9, .ref q2, .int 9, .ref q3, .int 3, .ref q4])), (q1, .inl (ue_cI E, 150, .inl (upl 8))), (q2, .inl (ue_cI E, 150, .inl (va_cpy us_plain (fun _ => 0) 0 0 9))), (q3, .inl (ue_cI E, 150, .inl (fun _ => 0))), (q4, .inl (ue_cI E, 8, .inl (fun _ => 0)))] := by
  have e : upd (upl 7) (7 : Int32).toNatClampNeg 1002 = upl 8 := upl_s 7
  rw [e]
  rfl
set_option maxRecDepth 20000 in
theorem tk_7 {l : Launch} {E : Ue} {k mc ms : Nat} {Qf : Uf} (ws0 : va_W) (h0 q1 q2 q3 q4 : Nat) (h : un l E k mc ms cX2_takeDraft 2 RX2 none Qf 0 0 15 [(0, .ref h0), (1, .int 8)] [] (ws0 ++ [(h0, .inr (2, [.ref q1, .int 9, .ref q2, .int 9, .ref q3, .int 7, .ref q4])), (q1, .inl (ue_cI E, 150, .inl (upl 8))), (q2, .inl (ue_cI E, 150, .inl (va_cpy us_plain (fun _ => 0) 0 0 9))), (q3, .inl (ue_cI E, 150, .inl (fun _ => 0))), (q4, .inl (ue_cI E, 8, .inl (fun _ => 0)))])) : un l E k mc ms cX2_takeDraft 2 RX2 none Qf 0 0 15 [(0, .ref h0), (1, .int 7)] [] (ws0 ++ [(h0, .inr (2, [.ref q1, .int 9, .ref q2, .int 9, .ref q3, .int 3, .ref q4])), (q1, .inl (ue_cI E, 150, .inl (upl 7))), (q2, .inl (ue_cI E, 150, .inl (va_cpy us_plain (fun _ => 0) 0 0 9))), (q3, .inl (ue_cI E, 150, .inl (fun _ => 0))), (q4, .inl (ue_cI E, 8, .inl (fun _ => 0)))]) := by
  refine un_iload_n 1 dX2_takeDraft_15 rfl rfl ?_
  refine un_aload_n 0 dX2_takeDraft_16 rfl rfl ?_
  refine vn_get (j := 1) (fs := [.ref q1, .int 9, .ref q2, .int 9, .ref q3, .int 3, .ref q4]) (v := .int 9) 0 ukX2 rfl (Nat.le_of_ble_eq_true rfl) kg_X2_15 rfl dX2_takeDraft_17 ?_
  refine un_icmp_ge 86 dX2_takeDraft_20 (by decide) (fun q => absurd q (by decide)) (fun _ => ?_)
  refine un_aload_n 0 dX2_takeDraft_23 rfl rfl ?_
  refine vn_get (j := 0) (fs := [.ref q1, .int 9, .ref q2, .int 9, .ref q3, .int 3, .ref q4]) (v := .ref q1) 0 ukX2 rfl (Nat.le_of_ble_eq_true rfl) kg_X2_9 rfl dX2_takeDraft_24 ?_
  refine un_iload_n 1 dX2_takeDraft_27 rfl rfl ?_
  refine un_aload_n 0 dX2_takeDraft_28 rfl rfl ?_
  refine vn_get (j := 2) (fs := [.ref q1, .int 9, .ref q2, .int 9, .ref q3, .int 3, .ref q4]) (v := .ref q2) 0 ukX2 rfl (Nat.le_of_ble_eq_true rfl) kg_X2_19 rfl dX2_takeDraft_29 ?_
  refine un_iload_n 1 dX2_takeDraft_32 rfl rfl ?_
  refine vn_iald (v := 1002) 2 rfl (by unfold vp_in; decide) (by decide +kernel) dX2_takeDraft_33 ?_
  refine vn_iast [(h0, .inr (2, [.ref q1, .int 9, .ref q2, .int 9, .ref q3, .int 3, .ref q4])), (q1, .inl (ue_cI E, 150, .inl (upl 8))), (q2, .inl (ue_cI E, 150, .inl (va_cpy us_plain (fun _ => 0) 0 0 9))), (q3, .inl (ue_cI E, 150, .inl (fun _ => 0))), (q4, .inl (ue_cI E, 8, .inl (fun _ => 0)))] 1 rfl (by unfold vp_in; decide) dX2_takeDraft_34 (tk_w7 E h0 q1 q2 q3 q4) ?_
  refine un_aload_n 0 dX2_takeDraft_35 rfl rfl ?_
  refine vn_get (j := 0) (fs := [.ref q1, .int 9, .ref q2, .int 9, .ref q3, .int 3, .ref q4]) (v := .ref q1) 0 ukX2 rfl (Nat.le_of_ble_eq_true rfl) kg_X2_9 rfl dX2_takeDraft_36 ?_
  refine un_iload_n 1 dX2_takeDraft_39 rfl rfl ?_
  refine vn_iald (v := 1002) 1 rfl (by unfold vp_in; decide) (by decide +kernel) dX2_takeDraft_40 ?_
  refine un_sipush dX2_takeDraft_41 (v := 1000) (by decide) ?_
  refine un_icmp_lt 80 dX2_takeDraft_44 (by decide) (fun q => absurd q (by decide)) (fun _ => ?_)
  refine un_aload_n 0 dX2_takeDraft_47 rfl rfl ?_
  refine vn_get (j := 0) (fs := [.ref q1, .int 9, .ref q2, .int 9, .ref q3, .int 3, .ref q4]) (v := .ref q1) 0 ukX2 rfl (Nat.le_of_ble_eq_true rfl) kg_X2_9 rfl dX2_takeDraft_48 ?_
  refine un_iload_n 1 dX2_takeDraft_51 rfl rfl ?_
  refine vn_iald (v := 1002) 1 rfl (by unfold vp_in; decide) (by decide +kernel) dX2_takeDraft_52 ?_
  refine un_sipush dX2_takeDraft_53 (v := 2000) (by decide) ?_
  refine un_icmp_ge 80 dX2_takeDraft_56 (by decide) (fun q => absurd q (by decide)) (fun _ => ?_)
  refine un_aload_n 0 dX2_takeDraft_59 rfl rfl ?_
  refine un_dup dX2_takeDraft_60 rfl ?_
  refine vn_get (j := 5) (fs := [.ref q1, .int 9, .ref q2, .int 9, .ref q3, .int 3, .ref q4]) (v := .int 3) 0 ukX2 rfl (Nat.le_of_ble_eq_true rfl) kg_X2_28 rfl dX2_takeDraft_61 ?_
  refine un_iconst dX2_takeDraft_64 un_iconst_1 ?_
  refine un_aload_n 0 dX2_takeDraft_65 rfl rfl ?_
  refine vn_get (j := 0) (fs := [.ref q1, .int 9, .ref q2, .int 9, .ref q3, .int 3, .ref q4]) (v := .ref q1) 0 ukX2 rfl (Nat.le_of_ble_eq_true rfl) kg_X2_9 rfl dX2_takeDraft_66 ?_
  refine un_iload_n 1 dX2_takeDraft_69 rfl rfl ?_
  refine vn_iald (v := 1002) 1 rfl (by unfold vp_in; decide) (by decide +kernel) dX2_takeDraft_70 ?_
  refine un_sipush dX2_takeDraft_71 (v := 1000) (by decide) ?_
  refine un_isub (v := 2) dX2_takeDraft_74 (by decide) ?_
  refine un_ishl (v := 4) dX2_takeDraft_75 (by decide) ?_
  refine un_ior (v := 7) dX2_takeDraft_76 (by decide) ?_
  refine vn_put (j := 5) [(h0, .inr (2, [.ref q1, .int 9, .ref q2, .int 9, .ref q3, .int 7, .ref q4])), (q1, .inl (ue_cI E, 150, .inl (upl 8))), (q2, .inl (ue_cI E, 150, .inl (va_cpy us_plain (fun _ => 0) 0 0 9))), (q3, .inl (ue_cI E, 150, .inl (fun _ => 0))), (q4, .inl (ue_cI E, 8, .inl (fun _ => 0)))] 0 ukX2 rfl (Nat.le_of_ble_eq_true rfl) kg_X2_28 rfl rfl rfl (Nat.le_of_ble_eq_true rfl) dX2_takeDraft_77 rfl ?_
  refine un_iinc (v := 8) [(1, .int 8), (0, .ref h0)] 1 dX2_takeDraft_80 rfl (by decide) (Nat.le_of_ble_eq_true rfl) rfl ?_
  refine un_goto 15 dX2_takeDraft_83 (by decide) ?_
  refine un_sub [(0, .ref h0), (1, .int 8)] [1, 0] rfl ?_
  exact h
theorem tk_w8 (E : Ue) (h0 q1 q2 q3 q4 : Nat) : ([(h0, .inr (2, [.ref q1, .int 9, .ref q2, .int 9, .ref q3, .int 7, .ref q4])), (q1, .inl (ue_cI E, 150, .inl (upl 8))), (q2, .inl (ue_cI E, 150, .inl (va_cpy us_plain (fun _ => 0) 0 0 9))), (q3, .inl (ue_cI E, 150, .inl (fun _ => 0))), (q4, .inl (ue_cI E, 8, .inl (fun _ => 0)))] : va_W).set 1 (q1, .inl (ue_cI E, 150, .inl (upd (upl 8) (8 : Int32).toNatClampNeg 2000))) = [(h0, .inr (2, [.ref q1, .int 9, .ref q2, .int 9, .ref q3, .int 7, .ref q4])), (q1, .inl (ue_cI E, 150, .inl (upl 9))), (q2, .inl (ue_cI E, 150, .inl (va_cpy us_plain (fun _ => 0) 0 0 9))), (q3, .inl (ue_cI E, 150, .inl (fun _ => 0))), (q4, .inl (ue_cI E, 8, .inl (fun _ => 0)))] := by
  have e : upd (upl 8) (8 : Int32).toNatClampNeg 2000 = upl 9 := upl_s 8
  rw [e]
  rfl
set_option maxRecDepth 20000 in
theorem tk_8 {l : Launch} {E : Ue} {k mc ms : Nat} {Qf : Uf} (ws0 : va_W) (h0 q1 q2 q3 q4 : Nat) (h : un l E k mc ms cX2_takeDraft 2 RX2 none Qf 0 0 15 [(0, .ref h0), (1, .int 9)] [] (ws0 ++ [(h0, .inr (2, [.ref q1, .int 9, .ref q2, .int 9, .ref q3, .int 7, .ref q4])), (q1, .inl (ue_cI E, 150, .inl (upl 9))), (q2, .inl (ue_cI E, 150, .inl (va_cpy us_plain (fun _ => 0) 0 0 9))), (q3, .inl (ue_cI E, 150, .inl (fun _ => 0))), (q4, .inl (ue_cI E, 8, .inl (fun _ => 0)))])) : un l E k mc ms cX2_takeDraft 2 RX2 none Qf 0 0 15 [(0, .ref h0), (1, .int 8)] [] (ws0 ++ [(h0, .inr (2, [.ref q1, .int 9, .ref q2, .int 9, .ref q3, .int 7, .ref q4])), (q1, .inl (ue_cI E, 150, .inl (upl 8))), (q2, .inl (ue_cI E, 150, .inl (va_cpy us_plain (fun _ => 0) 0 0 9))), (q3, .inl (ue_cI E, 150, .inl (fun _ => 0))), (q4, .inl (ue_cI E, 8, .inl (fun _ => 0)))]) := by
  refine un_iload_n 1 dX2_takeDraft_15 rfl rfl ?_
  refine un_aload_n 0 dX2_takeDraft_16 rfl rfl ?_
  refine vn_get (j := 1) (fs := [.ref q1, .int 9, .ref q2, .int 9, .ref q3, .int 7, .ref q4]) (v := .int 9) 0 ukX2 rfl (Nat.le_of_ble_eq_true rfl) kg_X2_15 rfl dX2_takeDraft_17 ?_
  refine un_icmp_ge 86 dX2_takeDraft_20 (by decide) (fun q => absurd q (by decide)) (fun _ => ?_)
  refine un_aload_n 0 dX2_takeDraft_23 rfl rfl ?_
  refine vn_get (j := 0) (fs := [.ref q1, .int 9, .ref q2, .int 9, .ref q3, .int 7, .ref q4]) (v := .ref q1) 0 ukX2 rfl (Nat.le_of_ble_eq_true rfl) kg_X2_9 rfl dX2_takeDraft_24 ?_
  refine un_iload_n 1 dX2_takeDraft_27 rfl rfl ?_
  refine un_aload_n 0 dX2_takeDraft_28 rfl rfl ?_
  refine vn_get (j := 2) (fs := [.ref q1, .int 9, .ref q2, .int 9, .ref q3, .int 7, .ref q4]) (v := .ref q2) 0 ukX2 rfl (Nat.le_of_ble_eq_true rfl) kg_X2_19 rfl dX2_takeDraft_29 ?_
  refine un_iload_n 1 dX2_takeDraft_32 rfl rfl ?_
  refine vn_iald (v := 2000) 2 rfl (by unfold vp_in; decide) (by decide +kernel) dX2_takeDraft_33 ?_
  refine vn_iast [(h0, .inr (2, [.ref q1, .int 9, .ref q2, .int 9, .ref q3, .int 7, .ref q4])), (q1, .inl (ue_cI E, 150, .inl (upl 9))), (q2, .inl (ue_cI E, 150, .inl (va_cpy us_plain (fun _ => 0) 0 0 9))), (q3, .inl (ue_cI E, 150, .inl (fun _ => 0))), (q4, .inl (ue_cI E, 8, .inl (fun _ => 0)))] 1 rfl (by unfold vp_in; decide) dX2_takeDraft_34 (tk_w8 E h0 q1 q2 q3 q4) ?_
  refine un_aload_n 0 dX2_takeDraft_35 rfl rfl ?_
  refine vn_get (j := 0) (fs := [.ref q1, .int 9, .ref q2, .int 9, .ref q3, .int 7, .ref q4]) (v := .ref q1) 0 ukX2 rfl (Nat.le_of_ble_eq_true rfl) kg_X2_9 rfl dX2_takeDraft_36 ?_
  refine un_iload_n 1 dX2_takeDraft_39 rfl rfl ?_
  refine vn_iald (v := 2000) 1 rfl (by unfold vp_in; decide) (by decide +kernel) dX2_takeDraft_40 ?_
  refine un_sipush dX2_takeDraft_41 (v := 1000) (by decide) ?_
  refine un_icmp_lt 80 dX2_takeDraft_44 (by decide) (fun q => absurd q (by decide)) (fun _ => ?_)
  refine un_aload_n 0 dX2_takeDraft_47 rfl rfl ?_
  refine vn_get (j := 0) (fs := [.ref q1, .int 9, .ref q2, .int 9, .ref q3, .int 7, .ref q4]) (v := .ref q1) 0 ukX2 rfl (Nat.le_of_ble_eq_true rfl) kg_X2_9 rfl dX2_takeDraft_48 ?_
  refine un_iload_n 1 dX2_takeDraft_51 rfl rfl ?_
  refine vn_iald (v := 2000) 1 rfl (by unfold vp_in; decide) (by decide +kernel) dX2_takeDraft_52 ?_
  refine un_sipush dX2_takeDraft_53 (v := 2000) (by decide) ?_
  refine un_icmp_ge 80 dX2_takeDraft_56 (by decide) (fun _ => ?_) (fun q => absurd (by decide) q)
  refine un_iinc (v := 9) [(1, .int 9), (0, .ref h0)] 1 dX2_takeDraft_80 rfl (by decide) (Nat.le_of_ble_eq_true rfl) rfl ?_
  refine un_goto 15 dX2_takeDraft_83 (by decide) ?_
  refine un_sub [(0, .ref h0), (1, .int 9)] [1, 0] rfl ?_
  exact h
set_option maxRecDepth 20000 in
theorem n_take {l : Launch} {E : Ue} (ws0 : va_W) (h0 q1 q2 q3 q4 : Nat) : unc l E 2 0 0 yX2_takeDraft cX2_takeDraft 2 [.ref h0] (ws0 ++ [(h0, .inr (2, [.ref q1, .int 0, .ref q2, .int 9, .ref q3, .int 0, .ref q4])), (q1, .inl (ue_cI E, 150, .inl (fun _ => 0))), (q2, .inl (ue_cI E, 150, .inl (va_cpy us_plain (fun _ => 0) 0 0 9))), (q3, .inl (ue_cI E, 150, .inl (fun _ => 0))), (q4, .inl (ue_cI E, 8, .inl (fun _ => 0)))]) (fun w => w = ws0 ++ [(h0, .inr (2, [.ref q1, .int 9, .ref q2, .int 9, .ref q3, .int 7, .ref q4])), (q1, .inl (ue_cI E, 150, .inl (upl 9))), (q2, .inl (ue_cI E, 150, .inl (va_cpy us_plain (fun _ => 0) 0 0 9))), (q3, .inl (ue_cI E, 150, .inl (fun _ => 0))), (q4, .inl (ue_cI E, 8, .inl (fun _ => 0)))]) := by
  refine unc_of rfl (fun h => absurd (congrArg ByteArray.size (h.2 rfl)) (by decide)) (Nat.le_of_ble_eq_true rfl) ?_
  refine un_aload_n 0 dX2_takeDraft_0 rfl rfl ?_
  refine un_iconst dX2_takeDraft_1 un_iconst_0 ?_
  refine vn_put (j := 5) [(h0, .inr (2, [.ref q1, .int 0, .ref q2, .int 9, .ref q3, .int 0, .ref q4])), (q1, .inl (ue_cI E, 150, .inl (fun _ => 0))), (q2, .inl (ue_cI E, 150, .inl (va_cpy us_plain (fun _ => 0) 0 0 9))), (q3, .inl (ue_cI E, 150, .inl (fun _ => 0))), (q4, .inl (ue_cI E, 8, .inl (fun _ => 0)))] 0 ukX2 rfl (Nat.le_of_ble_eq_true rfl) kg_X2_28 rfl rfl rfl (Nat.le_of_ble_eq_true rfl) dX2_takeDraft_2 rfl ?_
  refine un_aload_n 0 dX2_takeDraft_5 rfl rfl ?_
  refine un_aload_n 0 dX2_takeDraft_6 rfl rfl ?_
  refine vn_get (j := 3) (fs := [.ref q1, .int 0, .ref q2, .int 9, .ref q3, .int 0, .ref q4]) (v := .int 9) 0 ukX2 rfl (Nat.le_of_ble_eq_true rfl) kg_X2_22 rfl dX2_takeDraft_7 ?_
  refine vn_put (j := 1) [(h0, .inr (2, [.ref q1, .int 9, .ref q2, .int 9, .ref q3, .int 0, .ref q4])), (q1, .inl (ue_cI E, 150, .inl (fun _ => 0))), (q2, .inl (ue_cI E, 150, .inl (va_cpy us_plain (fun _ => 0) 0 0 9))), (q3, .inl (ue_cI E, 150, .inl (fun _ => 0))), (q4, .inl (ue_cI E, 8, .inl (fun _ => 0)))] 0 ukX2 rfl (Nat.le_of_ble_eq_true rfl) kg_X2_15 rfl rfl rfl (Nat.le_of_ble_eq_true rfl) dX2_takeDraft_10 rfl ?_
  refine un_iconst dX2_takeDraft_13 un_iconst_0 ?_
  refine un_istore_n [(1, .int 0), (0, .ref h0)] dX2_takeDraft_14 rfl (Nat.le_of_ble_eq_true rfl) rfl ?_
  refine un_sub [(0, .ref h0), (1, .int 0)] [1, 0] rfl ?_
  refine un_ws (ws' := ws0 ++ [(h0, .inr (2, [.ref q1, .int 9, .ref q2, .int 9, .ref q3, .int 0, .ref q4])), (q1, .inl (ue_cI E, 150, .inl (upl 0))), (q2, .inl (ue_cI E, 150, .inl (va_cpy us_plain (fun _ => 0) 0 0 9))), (q3, .inl (ue_cI E, 150, .inl (fun _ => 0))), (q4, .inl (ue_cI E, 8, .inl (fun _ => 0)))]) rfl ?_
  refine tk_0 ws0 h0 q1 q2 q3 q4 ?_
  refine tk_1 ws0 h0 q1 q2 q3 q4 ?_
  refine tk_2 ws0 h0 q1 q2 q3 q4 ?_
  refine tk_3 ws0 h0 q1 q2 q3 q4 ?_
  refine tk_4 ws0 h0 q1 q2 q3 q4 ?_
  refine tk_5 ws0 h0 q1 q2 q3 q4 ?_
  refine tk_6 ws0 h0 q1 q2 q3 q4 ?_
  refine tk_7 ws0 h0 q1 q2 q3 q4 ?_
  refine tk_8 ws0 h0 q1 q2 q3 q4 ?_
  refine un_iload_n 1 dX2_takeDraft_15 rfl rfl ?_
  refine un_aload_n 0 dX2_takeDraft_16 rfl rfl ?_
  refine vn_get (j := 1) (fs := [.ref q1, .int 9, .ref q2, .int 9, .ref q3, .int 7, .ref q4]) (v := .int 9) 0 ukX2 rfl (Nat.le_of_ble_eq_true rfl) kg_X2_15 rfl dX2_takeDraft_17 ?_
  refine un_icmp_ge 86 dX2_takeDraft_20 (by decide) (fun _ => ?_) (fun q => absurd (by decide) q)
  exact un_ret rfl (Nat.zero_le _) (Nat.zero_le _) dX2_takeDraft_86
set_option maxRecDepth 20000 in
theorem n_forget {l : Launch} {E : Ue} (ws0 : va_W) (h0 q1 q2 q3 q4 : Nat) : unc l E 4 0 0 yX2_forget cX2_forget 1 [.ref h0] (ws0 ++ [(h0, .inr (2, [.ref q1, .int 0, .ref q2, .int 0, .ref q3, .int 0, .ref q4])), (q1, .inl (ue_cI E, 150, .inl (fun _ => 0))), (q2, .inl (ue_cI E, 150, .inl (fun _ => 0))), (q3, .inl (ue_cI E, 150, .inl (fun _ => 0))), (q4, .inl (ue_cI E, 8, .inl (fun _ => 0)))]) (fun w => w = ws0 ++ [(h0, .inr (2, [.ref q1, .int 9, .ref q2, .int 9, .ref q3, .int 7, .ref q4])), (q1, .inl (ue_cI E, 150, .inl (upl 9))), (q2, .inl (ue_cI E, 150, .inl (va_cpy us_plain (fun _ => 0) 0 0 9))), (q3, .inl (ue_cI E, 150, .inl (fun _ => 0))), (q4, .inl (ue_cI E, 8, .inl (fun _ => 0)))]) := by
  refine unc_of rfl (fun h => absurd (congrArg ByteArray.size (h.2 rfl)) (by decide)) (Nat.le_of_ble_eq_true rfl) ?_
  refine un_plain kh_X2_37 dX2_forget_0 ?_
  refine un_iconst dX2_forget_3 un_iconst_0 ?_
  refine un_aload_n 0 dX2_forget_4 rfl rfl ?_
  refine vn_get (j := 2) (fs := [.ref q1, .int 0, .ref q2, .int 0, .ref q3, .int 0, .ref q4]) (v := .ref q2) 0 ukX2 rfl (Nat.le_of_ble_eq_true rfl) kg_X2_19 rfl dX2_forget_5 ?_
  refine un_iconst dX2_forget_8 un_iconst_0 ?_
  refine un_plain kh_X2_37 dX2_forget_9 ?_
  refine un_plen dX2_forget_12 ?_
  refine vn_copyP [(h0, .inr (2, [.ref q1, .int 0, .ref q2, .int 0, .ref q3, .int 0, .ref q4])), (q1, .inl (ue_cI E, 150, .inl (fun _ => 0))), (q2, .inl (ue_cI E, 150, .inl (va_cpy us_plain (fun _ => 0) 0 0 9))), (q3, .inl (ue_cI E, 150, .inl (fun _ => 0))), (q4, .inl (ue_cI E, 8, .inl (fun _ => 0)))] 2 rfl kl_X2_40 (Nat.le_of_ble_eq_true rfl) (Nat.le_of_ble_eq_true rfl) (Nat.le_of_ble_eq_true rfl) dX2_forget_13 rfl ?_
  refine un_aload_n 0 dX2_forget_16 rfl rfl ?_
  refine un_plain kh_X2_37 dX2_forget_17 ?_
  refine un_plen dX2_forget_20 ?_
  refine vn_put (j := 3) [(h0, .inr (2, [.ref q1, .int 0, .ref q2, .int 9, .ref q3, .int 0, .ref q4])), (q1, .inl (ue_cI E, 150, .inl (fun _ => 0))), (q2, .inl (ue_cI E, 150, .inl (va_cpy us_plain (fun _ => 0) 0 0 9))), (q3, .inl (ue_cI E, 150, .inl (fun _ => 0))), (q4, .inl (ue_cI E, 8, .inl (fun _ => 0)))] 0 ukX2 rfl (Nat.le_of_ble_eq_true rfl) kg_X2_22 rfl rfl rfl (Nat.le_of_ble_eq_true rfl) dX2_forget_21 rfl ?_
  refine un_aload_n 0 dX2_forget_24 rfl rfl ?_
  refine vn_callV [] 0 (n_take ws0 h0 q1 q2 q3 q4) kc_X2_46 rfl rfl rfl (S := []) rfl (Nat.le_of_ble_eq_true rfl) (Nat.le_of_ble_eq_true rfl) (Nat.le_of_ble_eq_true rfl) ⟨(Nat.le_of_ble_eq_true rfl), (Nat.le_of_ble_eq_true rfl)⟩ dX2_forget_25 (fun w hw => ?_)
  exact un_ret hw (Nat.zero_le _) (Nat.zero_le _) dX2_forget_28
set_option maxRecDepth 20000 in
set_option maxHeartbeats 4000000 in
theorem n_X5 {l : Launch} {E : Ue} (ws0 : va_W) (h0 : Nat) : unc l E 2 1 600 yX5_init cX5_init 1 [.ref h0] (ws0 ++ [(h0, .inr (5, [.null, .int 0, .int 0, .int 0, .int 0, .int 0, .int 0, .int 0, .int 0]))]) (fun w => ∃ q1 : Nat, w = ws0 ++ [(h0, .inr (5, [.ref q1, .int 0, .int 0, .int 0, .int 0, .int (-1), .int 0, .int 0, .int 0])), (q1, .inl (ue_cI E, 600, .inl (fun _ => 0)))]) := by
  refine unc_of rfl (fun _ => rfl) (Nat.le_of_ble_eq_true rfl) ?_
  refine un_aload_n 0 dX5_init_0 rfl rfl ?_
  refine un_obj ko_X5_3 (Nat.le_of_ble_eq_true rfl) (Nat.le_of_ble_eq_true rfl) dX5_init_1 ?_
  refine un_aload_n 0 dX5_init_4 rfl rfl ?_
  refine un_sipush dX5_init_5 (v := 600) (by decide) ?_
  refine vn_newI (N := 600) ka_int (by decide) (by decide) (Nat.le_of_ble_eq_true rfl) (Nat.le_of_ble_eq_true rfl) (Nat.le_of_ble_eq_true rfl) dX5_init_8 (fun q1 => ?_)
  refine vn_putF (j := 0) [(h0, .inr (5, [.ref q1, .int 0, .int 0, .int 0, .int 0, .int 0, .int 0, .int 0, .int 0])), (q1, .inl (ue_cI E, 600, .inl (fun _ => 0)))] 0 ukX5 rfl rfl fin_X5 (Nat.le_of_ble_eq_true rfl) kg_X5_9 rfl rfl rfl rfl (Nat.le_of_ble_eq_true rfl) dX5_init_10 rfl ?_
  refine un_aload_n 0 dX5_init_13 rfl rfl ?_
  refine un_iconst dX5_init_14 un_iconst_0 ?_
  refine vn_put (j := 1) [(h0, .inr (5, [.ref q1, .int 0, .int 0, .int 0, .int 0, .int 0, .int 0, .int 0, .int 0])), (q1, .inl (ue_cI E, 600, .inl (fun _ => 0)))] 0 ukX5 rfl (Nat.le_of_ble_eq_true rfl) kg_X5_15 rfl rfl rfl (Nat.le_of_ble_eq_true rfl) dX5_init_15 rfl ?_
  refine un_aload_n 0 dX5_init_18 rfl rfl ?_
  refine un_iconst dX5_init_19 un_iconst_0 ?_
  refine vn_put (j := 2) [(h0, .inr (5, [.ref q1, .int 0, .int 0, .int 0, .int 0, .int 0, .int 0, .int 0, .int 0])), (q1, .inl (ue_cI E, 600, .inl (fun _ => 0)))] 0 ukX5 rfl (Nat.le_of_ble_eq_true rfl) kg_X5_19 rfl rfl rfl (Nat.le_of_ble_eq_true rfl) dX5_init_20 rfl ?_
  refine un_aload_n 0 dX5_init_23 rfl rfl ?_
  refine un_iconst dX5_init_24 un_iconst_0 ?_
  refine vn_put (j := 3) [(h0, .inr (5, [.ref q1, .int 0, .int 0, .int 0, .int 0, .int 0, .int 0, .int 0, .int 0])), (q1, .inl (ue_cI E, 600, .inl (fun _ => 0)))] 0 ukX5 rfl (Nat.le_of_ble_eq_true rfl) kg_X5_22 rfl rfl rfl (Nat.le_of_ble_eq_true rfl) dX5_init_25 rfl ?_
  refine un_aload_n 0 dX5_init_28 rfl rfl ?_
  refine un_iconst dX5_init_29 un_iconst_0 ?_
  refine vn_put (j := 4) [(h0, .inr (5, [.ref q1, .int 0, .int 0, .int 0, .int 0, .int 0, .int 0, .int 0, .int 0])), (q1, .inl (ue_cI E, 600, .inl (fun _ => 0)))] 0 ukX5 rfl (Nat.le_of_ble_eq_true rfl) kg_X5_25 rfl rfl rfl (Nat.le_of_ble_eq_true rfl) dX5_init_30 rfl ?_
  refine un_aload_n 0 dX5_init_33 rfl rfl ?_
  refine un_iconst dX5_init_34 un_iconst_m1 ?_
  refine vn_put (j := 5) [(h0, .inr (5, [.ref q1, .int 0, .int 0, .int 0, .int 0, .int (-1), .int 0, .int 0, .int 0])), (q1, .inl (ue_cI E, 600, .inl (fun _ => 0)))] 0 ukX5 rfl (Nat.le_of_ble_eq_true rfl) kg_X5_28 rfl rfl rfl (Nat.le_of_ble_eq_true rfl) dX5_init_35 rfl ?_
  refine un_aload_n 0 dX5_init_38 rfl rfl ?_
  refine un_iconst dX5_init_39 un_iconst_0 ?_
  refine vn_put (j := 6) [(h0, .inr (5, [.ref q1, .int 0, .int 0, .int 0, .int 0, .int (-1), .int 0, .int 0, .int 0])), (q1, .inl (ue_cI E, 600, .inl (fun _ => 0)))] 0 ukX5 rfl (Nat.le_of_ble_eq_true rfl) kg_X5_31 rfl rfl rfl (Nat.le_of_ble_eq_true rfl) dX5_init_40 rfl ?_
  refine un_aload_n 0 dX5_init_43 rfl rfl ?_
  refine un_iconst dX5_init_44 un_iconst_0 ?_
  refine vn_put (j := 7) [(h0, .inr (5, [.ref q1, .int 0, .int 0, .int 0, .int 0, .int (-1), .int 0, .int 0, .int 0])), (q1, .inl (ue_cI E, 600, .inl (fun _ => 0)))] 0 ukX5 rfl (Nat.le_of_ble_eq_true rfl) kg_X5_34 rfl rfl rfl (Nat.le_of_ble_eq_true rfl) dX5_init_45 rfl ?_
  refine un_aload_n 0 dX5_init_48 rfl rfl ?_
  refine un_iconst dX5_init_49 un_iconst_0 ?_
  refine vn_put (j := 8) [(h0, .inr (5, [.ref q1, .int 0, .int 0, .int 0, .int 0, .int (-1), .int 0, .int 0, .int 0])), (q1, .inl (ue_cI E, 600, .inl (fun _ => 0)))] 0 ukX5 rfl (Nat.le_of_ble_eq_true rfl) kg_X5_37 rfl rfl rfl (Nat.le_of_ble_eq_true rfl) dX5_init_50 rfl ?_
  exact un_ret ⟨q1, rfl⟩ (Nat.le_of_ble_eq_true rfl) (Nat.le_of_ble_eq_true rfl) dX5_init_53
set_option maxRecDepth 20000 in
set_option maxHeartbeats 4000000 in
theorem n_X1 {l : Launch} {E : Ue} (ws0 : va_W) (h0 : Nat) : unc l E 2 4 26 yX1_init cX1_init 1 [.ref h0] (ws0 ++ [(h0, .inr (1, [.int 0, .int 0, .int 0, .null, .null, .null, .null]))]) (fun w => ∃ q1 q2 q3 q4 : Nat, w = ws0 ++ [(h0, .inr (1, [.int 0, .int 0, .int 8, .ref q1, .ref q2, .ref q3, .ref q4])), (q1, .inl (ue_cI E, 8, .inl (fun _ => 0))), (q2, .inl (ue_cI E, 8, .inl (fun _ => 0))), (q3, .inl (ue_cI E, 5, .inl (fun _ => 0))), (q4, .inl (ue_cI E, 5, .inl (fun _ => 0)))]) := by
  refine unc_of rfl (fun _ => rfl) (Nat.le_of_ble_eq_true rfl) ?_
  refine un_aload_n 0 dX1_init_0 rfl rfl ?_
  refine un_obj ko_X1_3 (Nat.le_of_ble_eq_true rfl) (Nat.le_of_ble_eq_true rfl) dX1_init_1 ?_
  refine un_aload_n 0 dX1_init_4 rfl rfl ?_
  refine un_iconst dX1_init_5 un_iconst_0 ?_
  refine vn_put (j := 0) [(h0, .inr (1, [.int 0, .int 0, .int 0, .null, .null, .null, .null]))] 0 ukX1 rfl (Nat.le_of_ble_eq_true rfl) kg_X1_9 rfl rfl rfl (Nat.le_of_ble_eq_true rfl) dX1_init_6 rfl ?_
  refine un_aload_n 0 dX1_init_9 rfl rfl ?_
  refine un_iconst dX1_init_10 un_iconst_0 ?_
  refine vn_put (j := 1) [(h0, .inr (1, [.int 0, .int 0, .int 0, .null, .null, .null, .null]))] 0 ukX1 rfl (Nat.le_of_ble_eq_true rfl) kg_X1_15 rfl rfl rfl (Nat.le_of_ble_eq_true rfl) dX1_init_11 rfl ?_
  refine un_aload_n 0 dX1_init_14 rfl rfl ?_
  refine un_bipush dX1_init_15 (v := 8) (by decide) ?_
  refine vn_put (j := 2) [(h0, .inr (1, [.int 0, .int 0, .int 8, .null, .null, .null, .null]))] 0 ukX1 rfl (Nat.le_of_ble_eq_true rfl) kg_X1_18 rfl rfl rfl (Nat.le_of_ble_eq_true rfl) dX1_init_17 rfl ?_
  refine un_aload_n 0 dX1_init_20 rfl rfl ?_
  refine un_bipush dX1_init_21 (v := 8) (by decide) ?_
  refine vn_newI (N := 8) ka_int (by decide) (by decide) (Nat.le_of_ble_eq_true rfl) (Nat.le_of_ble_eq_true rfl) (Nat.le_of_ble_eq_true rfl) dX1_init_23 (fun q1 => ?_)
  refine vn_putF (j := 3) [(h0, .inr (1, [.int 0, .int 0, .int 8, .ref q1, .null, .null, .null])), (q1, .inl (ue_cI E, 8, .inl (fun _ => 0)))] 0 ukX1 rfl rfl fin_X1 (Nat.le_of_ble_eq_true rfl) kg_X1_21 rfl rfl rfl rfl (Nat.le_of_ble_eq_true rfl) dX1_init_25 rfl ?_
  refine un_aload_n 0 dX1_init_28 rfl rfl ?_
  refine un_bipush dX1_init_29 (v := 8) (by decide) ?_
  refine vn_newI (N := 8) ka_int (by decide) (by decide) (Nat.le_of_ble_eq_true rfl) (Nat.le_of_ble_eq_true rfl) (Nat.le_of_ble_eq_true rfl) dX1_init_31 (fun q2 => ?_)
  refine vn_putF (j := 4) [(h0, .inr (1, [.int 0, .int 0, .int 8, .ref q1, .ref q2, .null, .null])), (q1, .inl (ue_cI E, 8, .inl (fun _ => 0))), (q2, .inl (ue_cI E, 8, .inl (fun _ => 0)))] 0 ukX1 rfl rfl fin_X1 (Nat.le_of_ble_eq_true rfl) kg_X1_25 rfl rfl rfl rfl (Nat.le_of_ble_eq_true rfl) dX1_init_33 rfl ?_
  refine un_aload_n 0 dX1_init_36 rfl rfl ?_
  refine un_iconst dX1_init_37 un_iconst_5 ?_
  refine vn_newI (N := 5) ka_int (by decide) (by decide) (Nat.le_of_ble_eq_true rfl) (Nat.le_of_ble_eq_true rfl) (Nat.le_of_ble_eq_true rfl) dX1_init_38 (fun q3 => ?_)
  refine vn_putF (j := 5) [(h0, .inr (1, [.int 0, .int 0, .int 8, .ref q1, .ref q2, .ref q3, .null])), (q1, .inl (ue_cI E, 8, .inl (fun _ => 0))), (q2, .inl (ue_cI E, 8, .inl (fun _ => 0))), (q3, .inl (ue_cI E, 5, .inl (fun _ => 0)))] 0 ukX1 rfl rfl fin_X1 (Nat.le_of_ble_eq_true rfl) kg_X1_28 rfl rfl rfl rfl (Nat.le_of_ble_eq_true rfl) dX1_init_40 rfl ?_
  refine un_aload_n 0 dX1_init_43 rfl rfl ?_
  refine un_iconst dX1_init_44 un_iconst_5 ?_
  refine vn_newI (N := 5) ka_int (by decide) (by decide) (Nat.le_of_ble_eq_true rfl) (Nat.le_of_ble_eq_true rfl) (Nat.le_of_ble_eq_true rfl) dX1_init_45 (fun q4 => ?_)
  refine vn_putF (j := 6) [(h0, .inr (1, [.int 0, .int 0, .int 8, .ref q1, .ref q2, .ref q3, .ref q4])), (q1, .inl (ue_cI E, 8, .inl (fun _ => 0))), (q2, .inl (ue_cI E, 8, .inl (fun _ => 0))), (q3, .inl (ue_cI E, 5, .inl (fun _ => 0))), (q4, .inl (ue_cI E, 5, .inl (fun _ => 0)))] 0 ukX1 rfl rfl fin_X1 (Nat.le_of_ble_eq_true rfl) kg_X1_31 rfl rfl rfl rfl (Nat.le_of_ble_eq_true rfl) dX1_init_47 rfl ?_
  exact un_ret ⟨q1, q2, q3, q4, rfl⟩ (Nat.le_of_ble_eq_true rfl) (Nat.le_of_ble_eq_true rfl) dX1_init_50
set_option maxRecDepth 20000 in
set_option maxHeartbeats 4000000 in
theorem n_X2 {l : Launch} {E : Ue} (ws0 : va_W) (h0 : Nat) : unc l E 6 4 458 yX2_init cX2_init 1 [.ref h0] (ws0 ++ [(h0, .inr (2, [.null, .int 0, .null, .int 0, .null, .int 0, .null]))]) (fun w => ∃ q1 q2 q3 q4 : Nat, w = ws0 ++ [(h0, .inr (2, [.ref q1, .int 9, .ref q2, .int 9, .ref q3, .int 7, .ref q4])), (q1, .inl (ue_cI E, 150, .inl (upl 9))), (q2, .inl (ue_cI E, 150, .inl (va_cpy us_plain (fun _ => 0) 0 0 9))), (q3, .inl (ue_cI E, 150, .inl (fun _ => 0))), (q4, .inl (ue_cI E, 8, .inl (fun _ => 0)))]) := by
  refine unc_of rfl (fun _ => rfl) (Nat.le_of_ble_eq_true rfl) ?_
  refine un_aload_n 0 dX2_init_0 rfl rfl ?_
  refine un_obj ko_X2_3 (Nat.le_of_ble_eq_true rfl) (Nat.le_of_ble_eq_true rfl) dX2_init_1 ?_
  refine un_aload_n 0 dX2_init_4 rfl rfl ?_
  refine un_sipush dX2_init_5 (v := 150) (by decide) ?_
  refine vn_newI (N := 150) ka_int (by decide) (by decide) (Nat.le_of_ble_eq_true rfl) (Nat.le_of_ble_eq_true rfl) (Nat.le_of_ble_eq_true rfl) dX2_init_8 (fun q1 => ?_)
  refine vn_putF (j := 0) [(h0, .inr (2, [.ref q1, .int 0, .null, .int 0, .null, .int 0, .null])), (q1, .inl (ue_cI E, 150, .inl (fun _ => 0)))] 0 ukX2 rfl rfl fin_X2 (Nat.le_of_ble_eq_true rfl) kg_X2_9 rfl rfl rfl rfl (Nat.le_of_ble_eq_true rfl) dX2_init_10 rfl ?_
  refine un_aload_n 0 dX2_init_13 rfl rfl ?_
  refine un_iconst dX2_init_14 un_iconst_0 ?_
  refine vn_put (j := 1) [(h0, .inr (2, [.ref q1, .int 0, .null, .int 0, .null, .int 0, .null])), (q1, .inl (ue_cI E, 150, .inl (fun _ => 0)))] 0 ukX2 rfl (Nat.le_of_ble_eq_true rfl) kg_X2_15 rfl rfl rfl (Nat.le_of_ble_eq_true rfl) dX2_init_15 rfl ?_
  refine un_aload_n 0 dX2_init_18 rfl rfl ?_
  refine un_sipush dX2_init_19 (v := 150) (by decide) ?_
  refine vn_newI (N := 150) ka_int (by decide) (by decide) (Nat.le_of_ble_eq_true rfl) (Nat.le_of_ble_eq_true rfl) (Nat.le_of_ble_eq_true rfl) dX2_init_22 (fun q2 => ?_)
  refine vn_putF (j := 2) [(h0, .inr (2, [.ref q1, .int 0, .ref q2, .int 0, .null, .int 0, .null])), (q1, .inl (ue_cI E, 150, .inl (fun _ => 0))), (q2, .inl (ue_cI E, 150, .inl (fun _ => 0)))] 0 ukX2 rfl rfl fin_X2 (Nat.le_of_ble_eq_true rfl) kg_X2_19 rfl rfl rfl rfl (Nat.le_of_ble_eq_true rfl) dX2_init_24 rfl ?_
  refine un_aload_n 0 dX2_init_27 rfl rfl ?_
  refine un_iconst dX2_init_28 un_iconst_0 ?_
  refine vn_put (j := 3) [(h0, .inr (2, [.ref q1, .int 0, .ref q2, .int 0, .null, .int 0, .null])), (q1, .inl (ue_cI E, 150, .inl (fun _ => 0))), (q2, .inl (ue_cI E, 150, .inl (fun _ => 0)))] 0 ukX2 rfl (Nat.le_of_ble_eq_true rfl) kg_X2_22 rfl rfl rfl (Nat.le_of_ble_eq_true rfl) dX2_init_29 rfl ?_
  refine un_aload_n 0 dX2_init_32 rfl rfl ?_
  refine un_sipush dX2_init_33 (v := 150) (by decide) ?_
  refine vn_newI (N := 150) ka_int (by decide) (by decide) (Nat.le_of_ble_eq_true rfl) (Nat.le_of_ble_eq_true rfl) (Nat.le_of_ble_eq_true rfl) dX2_init_36 (fun q3 => ?_)
  refine vn_putF (j := 4) [(h0, .inr (2, [.ref q1, .int 0, .ref q2, .int 0, .ref q3, .int 0, .null])), (q1, .inl (ue_cI E, 150, .inl (fun _ => 0))), (q2, .inl (ue_cI E, 150, .inl (fun _ => 0))), (q3, .inl (ue_cI E, 150, .inl (fun _ => 0)))] 0 ukX2 rfl rfl fin_X2 (Nat.le_of_ble_eq_true rfl) kg_X2_25 rfl rfl rfl rfl (Nat.le_of_ble_eq_true rfl) dX2_init_38 rfl ?_
  refine un_aload_n 0 dX2_init_41 rfl rfl ?_
  refine un_iconst dX2_init_42 un_iconst_0 ?_
  refine vn_put (j := 5) [(h0, .inr (2, [.ref q1, .int 0, .ref q2, .int 0, .ref q3, .int 0, .null])), (q1, .inl (ue_cI E, 150, .inl (fun _ => 0))), (q2, .inl (ue_cI E, 150, .inl (fun _ => 0))), (q3, .inl (ue_cI E, 150, .inl (fun _ => 0)))] 0 ukX2 rfl (Nat.le_of_ble_eq_true rfl) kg_X2_28 rfl rfl rfl (Nat.le_of_ble_eq_true rfl) dX2_init_43 rfl ?_
  refine un_aload_n 0 dX2_init_46 rfl rfl ?_
  refine un_bipush dX2_init_47 (v := 8) (by decide) ?_
  refine vn_newI (N := 8) ka_int (by decide) (by decide) (Nat.le_of_ble_eq_true rfl) (Nat.le_of_ble_eq_true rfl) (Nat.le_of_ble_eq_true rfl) dX2_init_49 (fun q4 => ?_)
  refine vn_putF (j := 6) [(h0, .inr (2, [.ref q1, .int 0, .ref q2, .int 0, .ref q3, .int 0, .ref q4])), (q1, .inl (ue_cI E, 150, .inl (fun _ => 0))), (q2, .inl (ue_cI E, 150, .inl (fun _ => 0))), (q3, .inl (ue_cI E, 150, .inl (fun _ => 0))), (q4, .inl (ue_cI E, 8, .inl (fun _ => 0)))] 0 ukX2 rfl rfl fin_X2 (Nat.le_of_ble_eq_true rfl) kg_X2_31 rfl rfl rfl rfl (Nat.le_of_ble_eq_true rfl) dX2_init_51 rfl ?_
  refine un_aload_n 0 dX2_init_54 rfl rfl ?_
  refine vn_callV [] 0 (n_forget ws0 h0 q1 q2 q3 q4) kc_X2_34 rfl rfl rfl (S := []) rfl (Nat.le_of_ble_eq_true rfl) (Nat.le_of_ble_eq_true rfl) (Nat.le_of_ble_eq_true rfl) ⟨(Nat.le_of_ble_eq_true rfl), (Nat.le_of_ble_eq_true rfl)⟩ dX2_init_55 (fun w hw => ?_)
  subst hw
  exact un_ret ⟨q1, q2, q3, q4, rfl⟩ (Nat.le_of_ble_eq_true rfl) (Nat.le_of_ble_eq_true rfl) dX2_init_58
set_option maxRecDepth 20000 in
set_option maxHeartbeats 4000000 in
theorem n_X0 {l : Launch} {E : Ue} (ws0 : va_W) (h0 : Nat) : unc l E 4 2 16 yX0_init cX0_init 1 [.ref h0] (ws0 ++ [(h0, .inr (0, [.null, .int 0, .null]))]) (fun w => ∃ q1 q2 : Nat, w = ws0 ++ [(h0, .inr (0, [.ref q1, .int 0, .ref q2])), (q1, .inl (ue_cI E, 8, .inl (ufl_to (fun _ => 0) (-1) 8))), (q2, .inl (ue_cI E, 8, .inl (fun _ => 0)))]) := by
  refine unc_of rfl (fun _ => rfl) (Nat.le_of_ble_eq_true rfl) ?_
  refine un_aload_n 0 dX0_init_0 rfl rfl ?_
  refine un_obj ko_X0_3 (Nat.le_of_ble_eq_true rfl) (Nat.le_of_ble_eq_true rfl) dX0_init_1 ?_
  refine un_aload_n 0 dX0_init_4 rfl rfl ?_
  refine un_bipush dX0_init_5 (v := 8) (by decide) ?_
  refine vn_newI (N := 8) ka_int (by decide) (by decide) (Nat.le_of_ble_eq_true rfl) (Nat.le_of_ble_eq_true rfl) (Nat.le_of_ble_eq_true rfl) dX0_init_7 (fun q1 => ?_)
  refine vn_putF (j := 0) [(h0, .inr (0, [.ref q1, .int 0, .null])), (q1, .inl (ue_cI E, 8, .inl (fun _ => 0)))] 0 ukX0 rfl rfl fin_X0 (Nat.le_of_ble_eq_true rfl) kg_X0_9 rfl rfl rfl rfl (Nat.le_of_ble_eq_true rfl) dX0_init_9 rfl ?_
  refine un_aload_n 0 dX0_init_12 rfl rfl ?_
  refine un_iconst dX0_init_13 un_iconst_0 ?_
  refine vn_put (j := 1) [(h0, .inr (0, [.ref q1, .int 0, .null])), (q1, .inl (ue_cI E, 8, .inl (fun _ => 0)))] 0 ukX0 rfl (Nat.le_of_ble_eq_true rfl) kg_X0_15 rfl rfl rfl (Nat.le_of_ble_eq_true rfl) dX0_init_14 rfl ?_
  refine un_aload_n 0 dX0_init_17 rfl rfl ?_
  refine un_bipush dX0_init_18 (v := 8) (by decide) ?_
  refine vn_newI (N := 8) ka_int (by decide) (by decide) (Nat.le_of_ble_eq_true rfl) (Nat.le_of_ble_eq_true rfl) (Nat.le_of_ble_eq_true rfl) dX0_init_20 (fun q2 => ?_)
  refine vn_putF (j := 2) [(h0, .inr (0, [.ref q1, .int 0, .ref q2])), (q1, .inl (ue_cI E, 8, .inl (fun _ => 0))), (q2, .inl (ue_cI E, 8, .inl (fun _ => 0)))] 0 ukX0 rfl rfl fin_X0 (Nat.le_of_ble_eq_true rfl) kg_X0_19 rfl rfl rfl rfl (Nat.le_of_ble_eq_true rfl) dX0_init_22 rfl ?_
  refine un_aload_n 0 dX0_init_25 rfl rfl ?_
  refine vn_get (j := 0) (fs := [.ref q1, .int 0, .ref q2]) (v := .ref q1) 0 ukX0 rfl (Nat.le_of_ble_eq_true rfl) kg_X0_9 rfl dX0_init_26 ?_
  refine un_iconst dX0_init_29 un_iconst_m1 ?_
  refine un_callS [.ref q1, .int (-1)] (un_fill (q0 := ws0.length + 1) (n := 8) (f := fun _ => 0) (by rw [uap]; rfl) (by decide)) kc_X0_22 rfl (S := []) rfl (Nat.le_of_ble_eq_true rfl) (Nat.le_of_ble_eq_true rfl) (Nat.le_of_ble_eq_true rfl) ⟨(Nat.le_of_ble_eq_true rfl), (Nat.le_of_ble_eq_true rfl)⟩ dX0_init_30 (fun w hw => ?_)
  subst hw
  refine un_ws (ws' := ws0 ++ [(h0, .inr (0, [.ref q1, .int 0, .ref q2])), (q1, .inl (ue_cI E, 8, .inl (ufl_to (fun _ => 0) (-1) 8))), (q2, .inl (ue_cI E, 8, .inl (fun _ => 0)))]) (by rw [uas]; rfl) ?_
  exact un_ret ⟨q1, q2, rfl⟩ (Nat.le_of_ble_eq_true rfl) (Nat.le_of_ble_eq_true rfl) dX0_init_33
set_option maxRecDepth 20000 in
set_option maxHeartbeats 4000000 in
theorem n_X6 {l : Launch} {E : Ue} (ws0 : va_W) (h0 : Nat) : unc l E 2 1 100 yX6_init cX6_init 1 [.ref h0] (ws0 ++ [(h0, .inr (6, [.null, .int 0, .int 0, .int 0, .int 0]))]) (fun w => ∃ q1 : Nat, w = ws0 ++ [(h0, .inr (6, [.ref q1, .int 0, .int 0, .int 0, .int 0])), (q1, .inl (ue_cI E, 100, .inl (fun _ => 0)))]) := by
  refine unc_of rfl (fun _ => rfl) (Nat.le_of_ble_eq_true rfl) ?_
  refine un_aload_n 0 dX6_init_0 rfl rfl ?_
  refine un_obj ko_X6_3 (Nat.le_of_ble_eq_true rfl) (Nat.le_of_ble_eq_true rfl) dX6_init_1 ?_
  refine un_aload_n 0 dX6_init_4 rfl rfl ?_
  refine un_bipush dX6_init_5 (v := 100) (by decide) ?_
  refine vn_newI (N := 100) ka_int (by decide) (by decide) (Nat.le_of_ble_eq_true rfl) (Nat.le_of_ble_eq_true rfl) (Nat.le_of_ble_eq_true rfl) dX6_init_7 (fun q1 => ?_)
  refine vn_putF (j := 0) [(h0, .inr (6, [.ref q1, .int 0, .int 0, .int 0, .int 0])), (q1, .inl (ue_cI E, 100, .inl (fun _ => 0)))] 0 ukX6 rfl rfl fin_X6 (Nat.le_of_ble_eq_true rfl) kg_X6_11 rfl rfl rfl rfl (Nat.le_of_ble_eq_true rfl) dX6_init_9 rfl ?_
  refine un_aload_n 0 dX6_init_12 rfl rfl ?_
  refine un_iconst dX6_init_13 un_iconst_0 ?_
  refine vn_put (j := 1) [(h0, .inr (6, [.ref q1, .int 0, .int 0, .int 0, .int 0])), (q1, .inl (ue_cI E, 100, .inl (fun _ => 0)))] 0 ukX6 rfl (Nat.le_of_ble_eq_true rfl) kg_X6_15 rfl rfl rfl (Nat.le_of_ble_eq_true rfl) dX6_init_14 rfl ?_
  refine un_aload_n 0 dX6_init_17 rfl rfl ?_
  refine un_iconst dX6_init_18 un_iconst_0 ?_
  refine vn_put (j := 2) [(h0, .inr (6, [.ref q1, .int 0, .int 0, .int 0, .int 0])), (q1, .inl (ue_cI E, 100, .inl (fun _ => 0)))] 0 ukX6 rfl (Nat.le_of_ble_eq_true rfl) kg_X6_19 rfl rfl rfl (Nat.le_of_ble_eq_true rfl) dX6_init_19 rfl ?_
  refine un_aload_n 0 dX6_init_22 rfl rfl ?_
  refine un_iconst dX6_init_23 un_iconst_0 ?_
  refine vn_put (j := 3) [(h0, .inr (6, [.ref q1, .int 0, .int 0, .int 0, .int 0])), (q1, .inl (ue_cI E, 100, .inl (fun _ => 0)))] 0 ukX6 rfl (Nat.le_of_ble_eq_true rfl) kg_X6_22 rfl rfl rfl (Nat.le_of_ble_eq_true rfl) dX6_init_24 rfl ?_
  refine un_aload_n 0 dX6_init_27 rfl rfl ?_
  refine un_iconst dX6_init_28 un_iconst_0 ?_
  refine vn_put (j := 4) [(h0, .inr (6, [.ref q1, .int 0, .int 0, .int 0, .int 0])), (q1, .inl (ue_cI E, 100, .inl (fun _ => 0)))] 0 ukX6 rfl (Nat.le_of_ble_eq_true rfl) kg_X6_25 rfl rfl rfl (Nat.le_of_ble_eq_true rfl) dX6_init_29 rfl ?_
  exact un_ret ⟨q1, rfl⟩ (Nat.le_of_ble_eq_true rfl) (Nat.le_of_ble_eq_true rfl) dX6_init_32
set_option maxRecDepth 20000 in
set_option maxHeartbeats 4000000 in
theorem n_X4 {l : Launch} {E : Ue} (ws0 : va_W) (h0 a1 a2 : Nat) : unc l E 2 1 28 yX4_init cX4_init 3 [.ref h0, .ref a1, .ref a2] (ws0 ++ [(h0, .inr (4, [.null, .null, .null]))]) (fun w => ∃ q1 : Nat, w = ws0 ++ [(h0, .inr (4, [.ref a1, .ref a2, .ref q1])), (q1, .inl (ue_cI E, 28, .inl (fun _ => 0)))]) := by
  refine unc_of rfl (fun _ => rfl) (Nat.le_of_ble_eq_true rfl) ?_
  refine un_aload_n 0 dX4_init_0 rfl rfl ?_
  refine un_obj ko_X4_5 (Nat.le_of_ble_eq_true rfl) (Nat.le_of_ble_eq_true rfl) dX4_init_1 ?_
  refine un_aload_n 0 dX4_init_4 rfl rfl ?_
  refine un_bipush dX4_init_5 (v := 28) (by decide) ?_
  refine vn_newI (N := 28) ka_int (by decide) (by decide) (Nat.le_of_ble_eq_true rfl) (Nat.le_of_ble_eq_true rfl) (Nat.le_of_ble_eq_true rfl) dX4_init_7 (fun q1 => ?_)
  refine vn_putF (j := 2) [(h0, .inr (4, [.null, .null, .ref q1])), (q1, .inl (ue_cI E, 28, .inl (fun _ => 0)))] 0 ukX4 rfl rfl fin_X4 (Nat.le_of_ble_eq_true rfl) kg_X4_11 rfl rfl rfl rfl (Nat.le_of_ble_eq_true rfl) dX4_init_9 rfl ?_
  refine un_aload_n 0 dX4_init_12 rfl rfl ?_
  refine un_aload_n 1 dX4_init_13 rfl rfl ?_
  refine vn_putF (j := 0) [(h0, .inr (4, [.ref a1, .null, .ref q1])), (q1, .inl (ue_cI E, 28, .inl (fun _ => 0)))] 0 ukX4 rfl rfl fin_X4 (Nat.le_of_ble_eq_true rfl) kg_X4_15 rfl rfl rfl rfl (Nat.le_of_ble_eq_true rfl) dX4_init_14 rfl ?_
  refine un_aload_n 0 dX4_init_17 rfl rfl ?_
  refine un_aload_n 2 dX4_init_18 rfl rfl ?_
  refine vn_putF (j := 1) [(h0, .inr (4, [.ref a1, .ref a2, .ref q1])), (q1, .inl (ue_cI E, 28, .inl (fun _ => 0)))] 0 ukX4 rfl rfl fin_X4 (Nat.le_of_ble_eq_true rfl) kg_X4_19 rfl rfl rfl rfl (Nat.le_of_ble_eq_true rfl) dX4_init_19 rfl ?_
  exact un_ret ⟨q1, rfl⟩ (Nat.le_of_ble_eq_true rfl) (Nat.le_of_ble_eq_true rfl) dX4_init_22
set_option maxRecDepth 20000 in
set_option maxHeartbeats 4000000 in
theorem n_X3 {l : Launch} {E : Ue} (ws0 : va_W) (h0 : Nat) : unc l E 2 1 476 yX3_init cX3_init 1 [.ref h0] (ws0 ++ [(h0, .inr (3, [.null, .int 0]))]) (fun w => ∃ q1 : Nat, w = ws0 ++ [(h0, .inr (3, [.ref q1, .int 0])), (q1, .inl (ue_cI E, 476, .inl (fun _ => 0)))]) := by
  refine unc_of rfl (fun _ => rfl) (Nat.le_of_ble_eq_true rfl) ?_
  refine un_aload_n 0 dX3_init_0 rfl rfl ?_
  refine un_obj ko_X3_3 (Nat.le_of_ble_eq_true rfl) (Nat.le_of_ble_eq_true rfl) dX3_init_1 ?_
  refine un_aload_n 0 dX3_init_4 rfl rfl ?_
  refine un_sipush dX3_init_5 (v := 476) (by decide) ?_
  refine vn_newI (N := 476) ka_int (by decide) (by decide) (Nat.le_of_ble_eq_true rfl) (Nat.le_of_ble_eq_true rfl) (Nat.le_of_ble_eq_true rfl) dX3_init_8 (fun q1 => ?_)
  refine vn_putF (j := 0) [(h0, .inr (3, [.ref q1, .int 0])), (q1, .inl (ue_cI E, 476, .inl (fun _ => 0)))] 0 ukX3 rfl rfl fin_X3 (Nat.le_of_ble_eq_true rfl) kg_X3_11 rfl rfl rfl rfl (Nat.le_of_ble_eq_true rfl) dX3_init_10 rfl ?_
  refine un_aload_n 0 dX3_init_13 rfl rfl ?_
  refine un_iconst dX3_init_14 un_iconst_0 ?_
  refine vn_put (j := 1) [(h0, .inr (3, [.ref q1, .int 0])), (q1, .inl (ue_cI E, 476, .inl (fun _ => 0)))] 0 ukX3 rfl (Nat.le_of_ble_eq_true rfl) kg_X3_17 rfl rfl rfl (Nat.le_of_ble_eq_true rfl) dX3_init_15 rfl ?_
  exact un_ret ⟨q1, rfl⟩ (Nat.le_of_ble_eq_true rfl) (Nat.le_of_ble_eq_true rfl) dX3_init_18
set_option maxRecDepth 20000 in
set_option maxHeartbeats 4000000 in
theorem n_X7 {l : Launch} {E : Ue} (ws0 : va_W) (h0 : Nat) : unc l E 8 37 3294 yX7_init cX7_init 1 [.ref h0] (ws0 ++ [(h0, .inr (7, [.null, .null, .null, .null, .null, .null, .null, .null, .null, .null, .null, .null, .int 0, .int 0, .int 0, .int 0, .int 0]))]) (fun w => ∃ q1 q2 q3 q4 q5 q6 q7 q8 q9 q10 q11 q12 q13 q14 q15 q16 q17 q18 q19 q20 q21 q22 q23 q24 q25 q26 q27 q28 q29 q30 q31 q32 q33 q34 q35 q36 q37 : Nat, w = ws0 ++ [(h0, .inr (7, [.ref q1, .ref q3, .ref q8, .ref q13, .ref q18, .ref q21, .ref q23, .ref q25, .ref q27, .ref q29, .ref q36, .ref q37, .int 0, .int 0, .int 0, .int 0, .int 0])), (q1, .inr (5, [.ref q2, .int 0, .int 0, .int 0, .int 0, .int (-1), .int 0, .int 0, .int 0])), (q2, .inl (ue_cI E, 600, .inl (fun _ => 0))), (q3, .inr (1, [.int 0, .int 0, .int 8, .ref q4, .ref q5, .ref q6, .ref q7])), (q4, .inl (ue_cI E, 8, .inl (fun _ => 0))), (q5, .inl (ue_cI E, 8, .inl (fun _ => 0))), (q6, .inl (ue_cI E, 5, .inl (fun _ => 0))), (q7, .inl (ue_cI E, 5, .inl (fun _ => 0))), (q8, .inr (1, [.int 0, .int 0, .int 8, .ref q9, .ref q10, .ref q11, .ref q12])), (q9, .inl (ue_cI E, 8, .inl (fun _ => 0))), (q10, .inl (ue_cI E, 8, .inl (fun _ => 0))), (q11, .inl (ue_cI E, 5, .inl (fun _ => 0))), (q12, .inl (ue_cI E, 5, .inl (fun _ => 0))), (q13, .inr (2, [.ref q14, .int 9, .ref q15, .int 9, .ref q16, .int 7, .ref q17])), (q14, .inl (ue_cI E, 150, .inl (upl 9))), (q15, .inl (ue_cI E, 150, .inl (va_cpy us_plain (fun _ => 0) 0 0 9))), (q16, .inl (ue_cI E, 150, .inl (fun _ => 0))), (q17, .inl (ue_cI E, 8, .inl (fun _ => 0))), (q18, .inr (0, [.ref q19, .int 0, .ref q20])), (q19, .inl (ue_cI E, 8, .inl (ufl_to (fun _ => 0) (-1) 8))), (q20, .inl (ue_cI E, 8, .inl (fun _ => 0))), (q21, .inr (6, [.ref q22, .int 0, .int 0, .int 0, .int 0])), (q22, .inl (ue_cI E, 100, .inl (fun _ => 0))), (q23, .inr (4, [.ref q3, .ref q13, .ref q24])), (q24, .inl (ue_cI E, 28, .inl (fun _ => 0))), (q25, .inr (4, [.ref q3, .ref q13, .ref q26])), (q26, .inl (ue_cI E, 28, .inl (fun _ => 0))), (q27, .inr (3, [.ref q28, .int 0])), (q28, .inl (ue_cI E, 476, .inl (fun _ => 0))), (q29, .inl (ue_cP E, 3, .inr (.inr (.inr (.inr (va_up (va_up (va_up (fun _ => none) 0 (some q30)) 1 (some q32)) 2 (some q34))))))), (q30, .inr (3, [.ref q31, .int 0])), (q31, .inl (ue_cI E, 476, .inl (fun _ => 0))), (q32, .inr (3, [.ref q33, .int 0])), (q33, .inl (ue_cI E, 476, .inl (fun _ => 0))), (q34, .inr (3, [.ref q35, .int 0])), (q35, .inl (ue_cI E, 476, .inl (fun _ => 0))), (q36, .inl (ue_cI E, 48, .inl (fun _ => 0))), (q37, .inl (ue_cI E, 5, .inl (fun _ => 0)))]) := by
  refine unc_of rfl (fun _ => rfl) (Nat.le_of_ble_eq_true rfl) ?_
  refine un_aload_n 0 dX7_init_0 rfl rfl ?_
  refine un_obj ko_X7_3 (Nat.le_of_ble_eq_true rfl) (Nat.le_of_ble_eq_true rfl) dX7_init_1 ?_
  refine un_aload_n 0 dX7_init_4 rfl rfl ?_
  refine un_new ukX5 kd_X7_9 nd_X5 (Nat.le_of_ble_eq_true rfl) (Nat.le_of_ble_eq_true rfl) dX7_init_5 (fun q1 => ?_)
  refine un_dup dX7_init_8 rfl ?_
  refine un_callN 1 rfl [] (n_X5 (ws0 ++ [(h0, .inr (7, [.null, .null, .null, .null, .null, .null, .null, .null, .null, .null, .null, .null, .int 0, .int 0, .int 0, .int 0, .int 0]))]) q1 ) ki_X7_11 rfl (S := [.ref q1, .ref h0]) rfl (Nat.le_of_ble_eq_true rfl) (Nat.le_of_ble_eq_true rfl) (Nat.le_of_ble_eq_true rfl) ⟨(Nat.le_of_ble_eq_true rfl), (Nat.le_of_ble_eq_true rfl)⟩ dX7_init_9 (fun w hw => ?_)
  obtain ⟨q2, rfl⟩ := hw
  refine un_ws (List.append_assoc _ _ _) ?_
  refine vn_putF (j := 0) [(h0, .inr (7, [.ref q1, .null, .null, .null, .null, .null, .null, .null, .null, .null, .null, .null, .int 0, .int 0, .int 0, .int 0, .int 0])), (q1, .inr (5, [.ref q2, .int 0, .int 0, .int 0, .int 0, .int (-1), .int 0, .int 0, .int 0])), (q2, .inl (ue_cI E, 600, .inl (fun _ => 0)))] 0 ukX7 rfl rfl fin_X7 (Nat.le_of_ble_eq_true rfl) kg_X7_12 rfl rfl rfl rfl (Nat.le_of_ble_eq_true rfl) dX7_init_12 rfl ?_
  refine un_aload_n 0 dX7_init_15 rfl rfl ?_
  refine un_new ukX1 kd_X7_18 nd_X1 (Nat.le_of_ble_eq_true rfl) (Nat.le_of_ble_eq_true rfl) dX7_init_16 (fun q3 => ?_)
  refine un_dup dX7_init_19 rfl ?_
  refine un_callN 2 rfl [] (n_X1 (ws0 ++ [(h0, .inr (7, [.ref q1, .null, .null, .null, .null, .null, .null, .null, .null, .null, .null, .null, .int 0, .int 0, .int 0, .int 0, .int 0])), (q1, .inr (5, [.ref q2, .int 0, .int 0, .int 0, .int 0, .int (-1), .int 0, .int 0, .int 0])), (q2, .inl (ue_cI E, 600, .inl (fun _ => 0)))]) q3 ) ki_X7_20 rfl (S := [.ref q3, .ref h0]) rfl (Nat.le_of_ble_eq_true rfl) (Nat.le_of_ble_eq_true rfl) (Nat.le_of_ble_eq_true rfl) ⟨(Nat.le_of_ble_eq_true rfl), (Nat.le_of_ble_eq_true rfl)⟩ dX7_init_20 (fun w hw => ?_)
  obtain ⟨q4, q5, q6, q7, rfl⟩ := hw
  refine un_ws (List.append_assoc _ _ _) ?_
  refine vn_putF (j := 1) [(h0, .inr (7, [.ref q1, .ref q3, .null, .null, .null, .null, .null, .null, .null, .null, .null, .null, .int 0, .int 0, .int 0, .int 0, .int 0])), (q1, .inr (5, [.ref q2, .int 0, .int 0, .int 0, .int 0, .int (-1), .int 0, .int 0, .int 0])), (q2, .inl (ue_cI E, 600, .inl (fun _ => 0))), (q3, .inr (1, [.int 0, .int 0, .int 8, .ref q4, .ref q5, .ref q6, .ref q7])), (q4, .inl (ue_cI E, 8, .inl (fun _ => 0))), (q5, .inl (ue_cI E, 8, .inl (fun _ => 0))), (q6, .inl (ue_cI E, 5, .inl (fun _ => 0))), (q7, .inl (ue_cI E, 5, .inl (fun _ => 0)))] 0 ukX7 rfl rfl fin_X7 (Nat.le_of_ble_eq_true rfl) kg_X7_21 rfl rfl rfl rfl (Nat.le_of_ble_eq_true rfl) dX7_init_23 rfl ?_
  refine un_aload_n 0 dX7_init_26 rfl rfl ?_
  refine un_new ukX1 kd_X7_18 nd_X1 (Nat.le_of_ble_eq_true rfl) (Nat.le_of_ble_eq_true rfl) dX7_init_27 (fun q8 => ?_)
  refine un_dup dX7_init_30 rfl ?_
  refine un_callN 2 rfl [] (n_X1 (ws0 ++ [(h0, .inr (7, [.ref q1, .ref q3, .null, .null, .null, .null, .null, .null, .null, .null, .null, .null, .int 0, .int 0, .int 0, .int 0, .int 0])), (q1, .inr (5, [.ref q2, .int 0, .int 0, .int 0, .int 0, .int (-1), .int 0, .int 0, .int 0])), (q2, .inl (ue_cI E, 600, .inl (fun _ => 0))), (q3, .inr (1, [.int 0, .int 0, .int 8, .ref q4, .ref q5, .ref q6, .ref q7])), (q4, .inl (ue_cI E, 8, .inl (fun _ => 0))), (q5, .inl (ue_cI E, 8, .inl (fun _ => 0))), (q6, .inl (ue_cI E, 5, .inl (fun _ => 0))), (q7, .inl (ue_cI E, 5, .inl (fun _ => 0)))]) q8 ) ki_X7_20 rfl (S := [.ref q8, .ref h0]) rfl (Nat.le_of_ble_eq_true rfl) (Nat.le_of_ble_eq_true rfl) (Nat.le_of_ble_eq_true rfl) ⟨(Nat.le_of_ble_eq_true rfl), (Nat.le_of_ble_eq_true rfl)⟩ dX7_init_31 (fun w hw => ?_)
  obtain ⟨q9, q10, q11, q12, rfl⟩ := hw
  refine un_ws (List.append_assoc _ _ _) ?_
  refine vn_putF (j := 2) [(h0, .inr (7, [.ref q1, .ref q3, .ref q8, .null, .null, .null, .null, .null, .null, .null, .null, .null, .int 0, .int 0, .int 0, .int 0, .int 0])), (q1, .inr (5, [.ref q2, .int 0, .int 0, .int 0, .int 0, .int (-1), .int 0, .int 0, .int 0])), (q2, .inl (ue_cI E, 600, .inl (fun _ => 0))), (q3, .inr (1, [.int 0, .int 0, .int 8, .ref q4, .ref q5, .ref q6, .ref q7])), (q4, .inl (ue_cI E, 8, .inl (fun _ => 0))), (q5, .inl (ue_cI E, 8, .inl (fun _ => 0))), (q6, .inl (ue_cI E, 5, .inl (fun _ => 0))), (q7, .inl (ue_cI E, 5, .inl (fun _ => 0))), (q8, .inr (1, [.int 0, .int 0, .int 8, .ref q9, .ref q10, .ref q11, .ref q12])), (q9, .inl (ue_cI E, 8, .inl (fun _ => 0))), (q10, .inl (ue_cI E, 8, .inl (fun _ => 0))), (q11, .inl (ue_cI E, 5, .inl (fun _ => 0))), (q12, .inl (ue_cI E, 5, .inl (fun _ => 0)))] 0 ukX7 rfl rfl fin_X7 (Nat.le_of_ble_eq_true rfl) kg_X7_25 rfl rfl rfl rfl (Nat.le_of_ble_eq_true rfl) dX7_init_34 rfl ?_
  refine un_aload_n 0 dX7_init_37 rfl rfl ?_
  refine un_new ukX2 kd_X7_28 nd_X2 (Nat.le_of_ble_eq_true rfl) (Nat.le_of_ble_eq_true rfl) dX7_init_38 (fun q13 => ?_)
  refine un_dup dX7_init_41 rfl ?_
  refine un_call [] (n_X2 (ws0 ++ [(h0, .inr (7, [.ref q1, .ref q3, .ref q8, .null, .null, .null, .null, .null, .null, .null, .null, .null, .int 0, .int 0, .int 0, .int 0, .int 0])), (q1, .inr (5, [.ref q2, .int 0, .int 0, .int 0, .int 0, .int (-1), .int 0, .int 0, .int 0])), (q2, .inl (ue_cI E, 600, .inl (fun _ => 0))), (q3, .inr (1, [.int 0, .int 0, .int 8, .ref q4, .ref q5, .ref q6, .ref q7])), (q4, .inl (ue_cI E, 8, .inl (fun _ => 0))), (q5, .inl (ue_cI E, 8, .inl (fun _ => 0))), (q6, .inl (ue_cI E, 5, .inl (fun _ => 0))), (q7, .inl (ue_cI E, 5, .inl (fun _ => 0))), (q8, .inr (1, [.int 0, .int 0, .int 8, .ref q9, .ref q10, .ref q11, .ref q12])), (q9, .inl (ue_cI E, 8, .inl (fun _ => 0))), (q10, .inl (ue_cI E, 8, .inl (fun _ => 0))), (q11, .inl (ue_cI E, 5, .inl (fun _ => 0))), (q12, .inl (ue_cI E, 5, .inl (fun _ => 0)))]) q13 ) ki_X7_30 rfl (S := [.ref q13, .ref h0]) rfl (Nat.le_of_ble_eq_true rfl) (Nat.le_of_ble_eq_true rfl) (Nat.le_of_ble_eq_true rfl) ⟨(Nat.le_of_ble_eq_true rfl), (Nat.le_of_ble_eq_true rfl)⟩ dX7_init_42 (fun w hw => ?_)
  obtain ⟨q14, q15, q16, q17, rfl⟩ := hw
  refine un_ws (List.append_assoc _ _ _) ?_
  refine vn_putF (j := 3) [(h0, .inr (7, [.ref q1, .ref q3, .ref q8, .ref q13, .null, .null, .null, .null, .null, .null, .null, .null, .int 0, .int 0, .int 0, .int 0, .int 0])), (q1, .inr (5, [.ref q2, .int 0, .int 0, .int 0, .int 0, .int (-1), .int 0, .int 0, .int 0])), (q2, .inl (ue_cI E, 600, .inl (fun _ => 0))), (q3, .inr (1, [.int 0, .int 0, .int 8, .ref q4, .ref q5, .ref q6, .ref q7])), (q4, .inl (ue_cI E, 8, .inl (fun _ => 0))), (q5, .inl (ue_cI E, 8, .inl (fun _ => 0))), (q6, .inl (ue_cI E, 5, .inl (fun _ => 0))), (q7, .inl (ue_cI E, 5, .inl (fun _ => 0))), (q8, .inr (1, [.int 0, .int 0, .int 8, .ref q9, .ref q10, .ref q11, .ref q12])), (q9, .inl (ue_cI E, 8, .inl (fun _ => 0))), (q10, .inl (ue_cI E, 8, .inl (fun _ => 0))), (q11, .inl (ue_cI E, 5, .inl (fun _ => 0))), (q12, .inl (ue_cI E, 5, .inl (fun _ => 0))), (q13, .inr (2, [.ref q14, .int 9, .ref q15, .int 9, .ref q16, .int 7, .ref q17])), (q14, .inl (ue_cI E, 150, .inl (upl 9))), (q15, .inl (ue_cI E, 150, .inl (va_cpy us_plain (fun _ => 0) 0 0 9))), (q16, .inl (ue_cI E, 150, .inl (fun _ => 0))), (q17, .inl (ue_cI E, 8, .inl (fun _ => 0)))] 0 ukX7 rfl rfl fin_X7 (Nat.le_of_ble_eq_true rfl) kg_X7_31 rfl rfl rfl rfl (Nat.le_of_ble_eq_true rfl) dX7_init_45 rfl ?_
  refine un_aload_n 0 dX7_init_48 rfl rfl ?_
  refine un_new ukX0 kd_X7_35 nd_X0 (Nat.le_of_ble_eq_true rfl) (Nat.le_of_ble_eq_true rfl) dX7_init_49 (fun q18 => ?_)
  refine un_dup dX7_init_52 rfl ?_
  refine un_call [] (n_X0 (ws0 ++ [(h0, .inr (7, [.ref q1, .ref q3, .ref q8, .ref q13, .null, .null, .null, .null, .null, .null, .null, .null, .int 0, .int 0, .int 0, .int 0, .int 0])), (q1, .inr (5, [.ref q2, .int 0, .int 0, .int 0, .int 0, .int (-1), .int 0, .int 0, .int 0])), (q2, .inl (ue_cI E, 600, .inl (fun _ => 0))), (q3, .inr (1, [.int 0, .int 0, .int 8, .ref q4, .ref q5, .ref q6, .ref q7])), (q4, .inl (ue_cI E, 8, .inl (fun _ => 0))), (q5, .inl (ue_cI E, 8, .inl (fun _ => 0))), (q6, .inl (ue_cI E, 5, .inl (fun _ => 0))), (q7, .inl (ue_cI E, 5, .inl (fun _ => 0))), (q8, .inr (1, [.int 0, .int 0, .int 8, .ref q9, .ref q10, .ref q11, .ref q12])), (q9, .inl (ue_cI E, 8, .inl (fun _ => 0))), (q10, .inl (ue_cI E, 8, .inl (fun _ => 0))), (q11, .inl (ue_cI E, 5, .inl (fun _ => 0))), (q12, .inl (ue_cI E, 5, .inl (fun _ => 0))), (q13, .inr (2, [.ref q14, .int 9, .ref q15, .int 9, .ref q16, .int 7, .ref q17])), (q14, .inl (ue_cI E, 150, .inl (upl 9))), (q15, .inl (ue_cI E, 150, .inl (va_cpy us_plain (fun _ => 0) 0 0 9))), (q16, .inl (ue_cI E, 150, .inl (fun _ => 0))), (q17, .inl (ue_cI E, 8, .inl (fun _ => 0)))]) q18 ) ki_X7_37 rfl (S := [.ref q18, .ref h0]) rfl (Nat.le_of_ble_eq_true rfl) (Nat.le_of_ble_eq_true rfl) (Nat.le_of_ble_eq_true rfl) ⟨(Nat.le_of_ble_eq_true rfl), (Nat.le_of_ble_eq_true rfl)⟩ dX7_init_53 (fun w hw => ?_)
  obtain ⟨q19, q20, rfl⟩ := hw
  refine un_ws (List.append_assoc _ _ _) ?_
  refine vn_putF (j := 4) [(h0, .inr (7, [.ref q1, .ref q3, .ref q8, .ref q13, .ref q18, .null, .null, .null, .null, .null, .null, .null, .int 0, .int 0, .int 0, .int 0, .int 0])), (q1, .inr (5, [.ref q2, .int 0, .int 0, .int 0, .int 0, .int (-1), .int 0, .int 0, .int 0])), (q2, .inl (ue_cI E, 600, .inl (fun _ => 0))), (q3, .inr (1, [.int 0, .int 0, .int 8, .ref q4, .ref q5, .ref q6, .ref q7])), (q4, .inl (ue_cI E, 8, .inl (fun _ => 0))), (q5, .inl (ue_cI E, 8, .inl (fun _ => 0))), (q6, .inl (ue_cI E, 5, .inl (fun _ => 0))), (q7, .inl (ue_cI E, 5, .inl (fun _ => 0))), (q8, .inr (1, [.int 0, .int 0, .int 8, .ref q9, .ref q10, .ref q11, .ref q12])), (q9, .inl (ue_cI E, 8, .inl (fun _ => 0))), (q10, .inl (ue_cI E, 8, .inl (fun _ => 0))), (q11, .inl (ue_cI E, 5, .inl (fun _ => 0))), (q12, .inl (ue_cI E, 5, .inl (fun _ => 0))), (q13, .inr (2, [.ref q14, .int 9, .ref q15, .int 9, .ref q16, .int 7, .ref q17])), (q14, .inl (ue_cI E, 150, .inl (upl 9))), (q15, .inl (ue_cI E, 150, .inl (va_cpy us_plain (fun _ => 0) 0 0 9))), (q16, .inl (ue_cI E, 150, .inl (fun _ => 0))), (q17, .inl (ue_cI E, 8, .inl (fun _ => 0))), (q18, .inr (0, [.ref q19, .int 0, .ref q20])), (q19, .inl (ue_cI E, 8, .inl (ufl_to (fun _ => 0) (-1) 8))), (q20, .inl (ue_cI E, 8, .inl (fun _ => 0)))] 0 ukX7 rfl rfl fin_X7 (Nat.le_of_ble_eq_true rfl) kg_X7_38 rfl rfl rfl rfl (Nat.le_of_ble_eq_true rfl) dX7_init_56 rfl ?_
  refine un_aload_n 0 dX7_init_59 rfl rfl ?_
  refine un_new ukX6 kd_X7_42 nd_X6 (Nat.le_of_ble_eq_true rfl) (Nat.le_of_ble_eq_true rfl) dX7_init_60 (fun q21 => ?_)
  refine un_dup dX7_init_63 rfl ?_
  refine un_callN 3 rfl [] (n_X6 (ws0 ++ [(h0, .inr (7, [.ref q1, .ref q3, .ref q8, .ref q13, .ref q18, .null, .null, .null, .null, .null, .null, .null, .int 0, .int 0, .int 0, .int 0, .int 0])), (q1, .inr (5, [.ref q2, .int 0, .int 0, .int 0, .int 0, .int (-1), .int 0, .int 0, .int 0])), (q2, .inl (ue_cI E, 600, .inl (fun _ => 0))), (q3, .inr (1, [.int 0, .int 0, .int 8, .ref q4, .ref q5, .ref q6, .ref q7])), (q4, .inl (ue_cI E, 8, .inl (fun _ => 0))), (q5, .inl (ue_cI E, 8, .inl (fun _ => 0))), (q6, .inl (ue_cI E, 5, .inl (fun _ => 0))), (q7, .inl (ue_cI E, 5, .inl (fun _ => 0))), (q8, .inr (1, [.int 0, .int 0, .int 8, .ref q9, .ref q10, .ref q11, .ref q12])), (q9, .inl (ue_cI E, 8, .inl (fun _ => 0))), (q10, .inl (ue_cI E, 8, .inl (fun _ => 0))), (q11, .inl (ue_cI E, 5, .inl (fun _ => 0))), (q12, .inl (ue_cI E, 5, .inl (fun _ => 0))), (q13, .inr (2, [.ref q14, .int 9, .ref q15, .int 9, .ref q16, .int 7, .ref q17])), (q14, .inl (ue_cI E, 150, .inl (upl 9))), (q15, .inl (ue_cI E, 150, .inl (va_cpy us_plain (fun _ => 0) 0 0 9))), (q16, .inl (ue_cI E, 150, .inl (fun _ => 0))), (q17, .inl (ue_cI E, 8, .inl (fun _ => 0))), (q18, .inr (0, [.ref q19, .int 0, .ref q20])), (q19, .inl (ue_cI E, 8, .inl (ufl_to (fun _ => 0) (-1) 8))), (q20, .inl (ue_cI E, 8, .inl (fun _ => 0)))]) q21 ) ki_X7_44 rfl (S := [.ref q21, .ref h0]) rfl (Nat.le_of_ble_eq_true rfl) (Nat.le_of_ble_eq_true rfl) (Nat.le_of_ble_eq_true rfl) ⟨(Nat.le_of_ble_eq_true rfl), (Nat.le_of_ble_eq_true rfl)⟩ dX7_init_64 (fun w hw => ?_)
  obtain ⟨q22, rfl⟩ := hw
  refine un_ws (List.append_assoc _ _ _) ?_
  refine vn_putF (j := 5) [(h0, .inr (7, [.ref q1, .ref q3, .ref q8, .ref q13, .ref q18, .ref q21, .null, .null, .null, .null, .null, .null, .int 0, .int 0, .int 0, .int 0, .int 0])), (q1, .inr (5, [.ref q2, .int 0, .int 0, .int 0, .int 0, .int (-1), .int 0, .int 0, .int 0])), (q2, .inl (ue_cI E, 600, .inl (fun _ => 0))), (q3, .inr (1, [.int 0, .int 0, .int 8, .ref q4, .ref q5, .ref q6, .ref q7])), (q4, .inl (ue_cI E, 8, .inl (fun _ => 0))), (q5, .inl (ue_cI E, 8, .inl (fun _ => 0))), (q6, .inl (ue_cI E, 5, .inl (fun _ => 0))), (q7, .inl (ue_cI E, 5, .inl (fun _ => 0))), (q8, .inr (1, [.int 0, .int 0, .int 8, .ref q9, .ref q10, .ref q11, .ref q12])), (q9, .inl (ue_cI E, 8, .inl (fun _ => 0))), (q10, .inl (ue_cI E, 8, .inl (fun _ => 0))), (q11, .inl (ue_cI E, 5, .inl (fun _ => 0))), (q12, .inl (ue_cI E, 5, .inl (fun _ => 0))), (q13, .inr (2, [.ref q14, .int 9, .ref q15, .int 9, .ref q16, .int 7, .ref q17])), (q14, .inl (ue_cI E, 150, .inl (upl 9))), (q15, .inl (ue_cI E, 150, .inl (va_cpy us_plain (fun _ => 0) 0 0 9))), (q16, .inl (ue_cI E, 150, .inl (fun _ => 0))), (q17, .inl (ue_cI E, 8, .inl (fun _ => 0))), (q18, .inr (0, [.ref q19, .int 0, .ref q20])), (q19, .inl (ue_cI E, 8, .inl (ufl_to (fun _ => 0) (-1) 8))), (q20, .inl (ue_cI E, 8, .inl (fun _ => 0))), (q21, .inr (6, [.ref q22, .int 0, .int 0, .int 0, .int 0])), (q22, .inl (ue_cI E, 100, .inl (fun _ => 0)))] 0 ukX7 rfl rfl fin_X7 (Nat.le_of_ble_eq_true rfl) kg_X7_45 rfl rfl rfl rfl (Nat.le_of_ble_eq_true rfl) dX7_init_67 rfl ?_
  refine un_aload_n 0 dX7_init_70 rfl rfl ?_
  refine un_new ukX4 kd_X7_49 nd_X4 (Nat.le_of_ble_eq_true rfl) (Nat.le_of_ble_eq_true rfl) dX7_init_71 (fun q23 => ?_)
  refine un_ws (List.append_assoc _ _ _) ?_
  refine un_dup dX7_init_74 rfl ?_
  refine un_aload_n 0 dX7_init_75 rfl rfl ?_
  refine vn_get (j := 1) (fs := [.ref q1, .ref q3, .ref q8, .ref q13, .ref q18, .ref q21, .null, .null, .null, .null, .null, .null, .int 0, .int 0, .int 0, .int 0, .int 0]) (v := .ref q3) 0 ukX7 rfl (Nat.le_of_ble_eq_true rfl) kg_X7_21 rfl dX7_init_76 ?_
  refine un_aload_n 0 dX7_init_79 rfl rfl ?_
  refine vn_get (j := 3) (fs := [.ref q1, .ref q3, .ref q8, .ref q13, .ref q18, .ref q21, .null, .null, .null, .null, .null, .null, .int 0, .int 0, .int 0, .int 0, .int 0]) (v := .ref q13) 0 ukX7 rfl (Nat.le_of_ble_eq_true rfl) kg_X7_31 rfl dX7_init_80 ?_
  refine un_ws (List.append_assoc _ _ _).symm ?_
  refine un_call [.ref q3, .ref q13] (n_X4 (ws0 ++ [(h0, .inr (7, [.ref q1, .ref q3, .ref q8, .ref q13, .ref q18, .ref q21, .null, .null, .null, .null, .null, .null, .int 0, .int 0, .int 0, .int 0, .int 0])), (q1, .inr (5, [.ref q2, .int 0, .int 0, .int 0, .int 0, .int (-1), .int 0, .int 0, .int 0])), (q2, .inl (ue_cI E, 600, .inl (fun _ => 0))), (q3, .inr (1, [.int 0, .int 0, .int 8, .ref q4, .ref q5, .ref q6, .ref q7])), (q4, .inl (ue_cI E, 8, .inl (fun _ => 0))), (q5, .inl (ue_cI E, 8, .inl (fun _ => 0))), (q6, .inl (ue_cI E, 5, .inl (fun _ => 0))), (q7, .inl (ue_cI E, 5, .inl (fun _ => 0))), (q8, .inr (1, [.int 0, .int 0, .int 8, .ref q9, .ref q10, .ref q11, .ref q12])), (q9, .inl (ue_cI E, 8, .inl (fun _ => 0))), (q10, .inl (ue_cI E, 8, .inl (fun _ => 0))), (q11, .inl (ue_cI E, 5, .inl (fun _ => 0))), (q12, .inl (ue_cI E, 5, .inl (fun _ => 0))), (q13, .inr (2, [.ref q14, .int 9, .ref q15, .int 9, .ref q16, .int 7, .ref q17])), (q14, .inl (ue_cI E, 150, .inl (upl 9))), (q15, .inl (ue_cI E, 150, .inl (va_cpy us_plain (fun _ => 0) 0 0 9))), (q16, .inl (ue_cI E, 150, .inl (fun _ => 0))), (q17, .inl (ue_cI E, 8, .inl (fun _ => 0))), (q18, .inr (0, [.ref q19, .int 0, .ref q20])), (q19, .inl (ue_cI E, 8, .inl (ufl_to (fun _ => 0) (-1) 8))), (q20, .inl (ue_cI E, 8, .inl (fun _ => 0))), (q21, .inr (6, [.ref q22, .int 0, .int 0, .int 0, .int 0])), (q22, .inl (ue_cI E, 100, .inl (fun _ => 0)))]) q23 q3 q13) ki_X7_51 rfl (S := [.ref q23, .ref h0]) rfl (Nat.le_of_ble_eq_true rfl) (Nat.le_of_ble_eq_true rfl) (Nat.le_of_ble_eq_true rfl) ⟨(Nat.le_of_ble_eq_true rfl), (Nat.le_of_ble_eq_true rfl)⟩ dX7_init_83 (fun w hw => ?_)
  obtain ⟨q24, rfl⟩ := hw
  refine un_ws (List.append_assoc _ _ _) ?_
  refine vn_putF (j := 6) [(h0, .inr (7, [.ref q1, .ref q3, .ref q8, .ref q13, .ref q18, .ref q21, .ref q23, .null, .null, .null, .null, .null, .int 0, .int 0, .int 0, .int 0, .int 0])), (q1, .inr (5, [.ref q2, .int 0, .int 0, .int 0, .int 0, .int (-1), .int 0, .int 0, .int 0])), (q2, .inl (ue_cI E, 600, .inl (fun _ => 0))), (q3, .inr (1, [.int 0, .int 0, .int 8, .ref q4, .ref q5, .ref q6, .ref q7])), (q4, .inl (ue_cI E, 8, .inl (fun _ => 0))), (q5, .inl (ue_cI E, 8, .inl (fun _ => 0))), (q6, .inl (ue_cI E, 5, .inl (fun _ => 0))), (q7, .inl (ue_cI E, 5, .inl (fun _ => 0))), (q8, .inr (1, [.int 0, .int 0, .int 8, .ref q9, .ref q10, .ref q11, .ref q12])), (q9, .inl (ue_cI E, 8, .inl (fun _ => 0))), (q10, .inl (ue_cI E, 8, .inl (fun _ => 0))), (q11, .inl (ue_cI E, 5, .inl (fun _ => 0))), (q12, .inl (ue_cI E, 5, .inl (fun _ => 0))), (q13, .inr (2, [.ref q14, .int 9, .ref q15, .int 9, .ref q16, .int 7, .ref q17])), (q14, .inl (ue_cI E, 150, .inl (upl 9))), (q15, .inl (ue_cI E, 150, .inl (va_cpy us_plain (fun _ => 0) 0 0 9))), (q16, .inl (ue_cI E, 150, .inl (fun _ => 0))), (q17, .inl (ue_cI E, 8, .inl (fun _ => 0))), (q18, .inr (0, [.ref q19, .int 0, .ref q20])), (q19, .inl (ue_cI E, 8, .inl (ufl_to (fun _ => 0) (-1) 8))), (q20, .inl (ue_cI E, 8, .inl (fun _ => 0))), (q21, .inr (6, [.ref q22, .int 0, .int 0, .int 0, .int 0])), (q22, .inl (ue_cI E, 100, .inl (fun _ => 0))), (q23, .inr (4, [.ref q3, .ref q13, .ref q24])), (q24, .inl (ue_cI E, 28, .inl (fun _ => 0)))] 0 ukX7 rfl rfl fin_X7 (Nat.le_of_ble_eq_true rfl) kg_X7_54 rfl rfl rfl rfl (Nat.le_of_ble_eq_true rfl) dX7_init_86 rfl ?_
  refine un_aload_n 0 dX7_init_89 rfl rfl ?_
  refine un_new ukX4 kd_X7_49 nd_X4 (Nat.le_of_ble_eq_true rfl) (Nat.le_of_ble_eq_true rfl) dX7_init_90 (fun q25 => ?_)
  refine un_ws (List.append_assoc _ _ _) ?_
  refine un_dup dX7_init_93 rfl ?_
  refine un_aload_n 0 dX7_init_94 rfl rfl ?_
  refine vn_get (j := 1) (fs := [.ref q1, .ref q3, .ref q8, .ref q13, .ref q18, .ref q21, .ref q23, .null, .null, .null, .null, .null, .int 0, .int 0, .int 0, .int 0, .int 0]) (v := .ref q3) 0 ukX7 rfl (Nat.le_of_ble_eq_true rfl) kg_X7_21 rfl dX7_init_95 ?_
  refine un_aload_n 0 dX7_init_98 rfl rfl ?_
  refine vn_get (j := 3) (fs := [.ref q1, .ref q3, .ref q8, .ref q13, .ref q18, .ref q21, .ref q23, .null, .null, .null, .null, .null, .int 0, .int 0, .int 0, .int 0, .int 0]) (v := .ref q13) 0 ukX7 rfl (Nat.le_of_ble_eq_true rfl) kg_X7_31 rfl dX7_init_99 ?_
  refine un_ws (List.append_assoc _ _ _).symm ?_
  refine un_call [.ref q3, .ref q13] (n_X4 (ws0 ++ [(h0, .inr (7, [.ref q1, .ref q3, .ref q8, .ref q13, .ref q18, .ref q21, .ref q23, .null, .null, .null, .null, .null, .int 0, .int 0, .int 0, .int 0, .int 0])), (q1, .inr (5, [.ref q2, .int 0, .int 0, .int 0, .int 0, .int (-1), .int 0, .int 0, .int 0])), (q2, .inl (ue_cI E, 600, .inl (fun _ => 0))), (q3, .inr (1, [.int 0, .int 0, .int 8, .ref q4, .ref q5, .ref q6, .ref q7])), (q4, .inl (ue_cI E, 8, .inl (fun _ => 0))), (q5, .inl (ue_cI E, 8, .inl (fun _ => 0))), (q6, .inl (ue_cI E, 5, .inl (fun _ => 0))), (q7, .inl (ue_cI E, 5, .inl (fun _ => 0))), (q8, .inr (1, [.int 0, .int 0, .int 8, .ref q9, .ref q10, .ref q11, .ref q12])), (q9, .inl (ue_cI E, 8, .inl (fun _ => 0))), (q10, .inl (ue_cI E, 8, .inl (fun _ => 0))), (q11, .inl (ue_cI E, 5, .inl (fun _ => 0))), (q12, .inl (ue_cI E, 5, .inl (fun _ => 0))), (q13, .inr (2, [.ref q14, .int 9, .ref q15, .int 9, .ref q16, .int 7, .ref q17])), (q14, .inl (ue_cI E, 150, .inl (upl 9))), (q15, .inl (ue_cI E, 150, .inl (va_cpy us_plain (fun _ => 0) 0 0 9))), (q16, .inl (ue_cI E, 150, .inl (fun _ => 0))), (q17, .inl (ue_cI E, 8, .inl (fun _ => 0))), (q18, .inr (0, [.ref q19, .int 0, .ref q20])), (q19, .inl (ue_cI E, 8, .inl (ufl_to (fun _ => 0) (-1) 8))), (q20, .inl (ue_cI E, 8, .inl (fun _ => 0))), (q21, .inr (6, [.ref q22, .int 0, .int 0, .int 0, .int 0])), (q22, .inl (ue_cI E, 100, .inl (fun _ => 0))), (q23, .inr (4, [.ref q3, .ref q13, .ref q24])), (q24, .inl (ue_cI E, 28, .inl (fun _ => 0)))]) q25 q3 q13) ki_X7_51 rfl (S := [.ref q25, .ref h0]) rfl (Nat.le_of_ble_eq_true rfl) (Nat.le_of_ble_eq_true rfl) (Nat.le_of_ble_eq_true rfl) ⟨(Nat.le_of_ble_eq_true rfl), (Nat.le_of_ble_eq_true rfl)⟩ dX7_init_102 (fun w hw => ?_)
  obtain ⟨q26, rfl⟩ := hw
  refine un_ws (List.append_assoc _ _ _) ?_
  refine vn_putF (j := 7) [(h0, .inr (7, [.ref q1, .ref q3, .ref q8, .ref q13, .ref q18, .ref q21, .ref q23, .ref q25, .null, .null, .null, .null, .int 0, .int 0, .int 0, .int 0, .int 0])), (q1, .inr (5, [.ref q2, .int 0, .int 0, .int 0, .int 0, .int (-1), .int 0, .int 0, .int 0])), (q2, .inl (ue_cI E, 600, .inl (fun _ => 0))), (q3, .inr (1, [.int 0, .int 0, .int 8, .ref q4, .ref q5, .ref q6, .ref q7])), (q4, .inl (ue_cI E, 8, .inl (fun _ => 0))), (q5, .inl (ue_cI E, 8, .inl (fun _ => 0))), (q6, .inl (ue_cI E, 5, .inl (fun _ => 0))), (q7, .inl (ue_cI E, 5, .inl (fun _ => 0))), (q8, .inr (1, [.int 0, .int 0, .int 8, .ref q9, .ref q10, .ref q11, .ref q12])), (q9, .inl (ue_cI E, 8, .inl (fun _ => 0))), (q10, .inl (ue_cI E, 8, .inl (fun _ => 0))), (q11, .inl (ue_cI E, 5, .inl (fun _ => 0))), (q12, .inl (ue_cI E, 5, .inl (fun _ => 0))), (q13, .inr (2, [.ref q14, .int 9, .ref q15, .int 9, .ref q16, .int 7, .ref q17])), (q14, .inl (ue_cI E, 150, .inl (upl 9))), (q15, .inl (ue_cI E, 150, .inl (va_cpy us_plain (fun _ => 0) 0 0 9))), (q16, .inl (ue_cI E, 150, .inl (fun _ => 0))), (q17, .inl (ue_cI E, 8, .inl (fun _ => 0))), (q18, .inr (0, [.ref q19, .int 0, .ref q20])), (q19, .inl (ue_cI E, 8, .inl (ufl_to (fun _ => 0) (-1) 8))), (q20, .inl (ue_cI E, 8, .inl (fun _ => 0))), (q21, .inr (6, [.ref q22, .int 0, .int 0, .int 0, .int 0])), (q22, .inl (ue_cI E, 100, .inl (fun _ => 0))), (q23, .inr (4, [.ref q3, .ref q13, .ref q24])), (q24, .inl (ue_cI E, 28, .inl (fun _ => 0))), (q25, .inr (4, [.ref q3, .ref q13, .ref q26])), (q26, .inl (ue_cI E, 28, .inl (fun _ => 0)))] 0 ukX7 rfl rfl fin_X7 (Nat.le_of_ble_eq_true rfl) kg_X7_58 rfl rfl rfl rfl (Nat.le_of_ble_eq_true rfl) dX7_init_105 rfl ?_
  refine un_aload_n 0 dX7_init_108 rfl rfl ?_
  refine un_new ukX3 kd_X7_61 nd_X3 (Nat.le_of_ble_eq_true rfl) (Nat.le_of_ble_eq_true rfl) dX7_init_109 (fun q27 => ?_)
  refine un_dup dX7_init_112 rfl ?_
  refine un_callN 4 rfl [] (n_X3 (ws0 ++ [(h0, .inr (7, [.ref q1, .ref q3, .ref q8, .ref q13, .ref q18, .ref q21, .ref q23, .ref q25, .null, .null, .null, .null, .int 0, .int 0, .int 0, .int 0, .int 0])), (q1, .inr (5, [.ref q2, .int 0, .int 0, .int 0, .int 0, .int (-1), .int 0, .int 0, .int 0])), (q2, .inl (ue_cI E, 600, .inl (fun _ => 0))), (q3, .inr (1, [.int 0, .int 0, .int 8, .ref q4, .ref q5, .ref q6, .ref q7])), (q4, .inl (ue_cI E, 8, .inl (fun _ => 0))), (q5, .inl (ue_cI E, 8, .inl (fun _ => 0))), (q6, .inl (ue_cI E, 5, .inl (fun _ => 0))), (q7, .inl (ue_cI E, 5, .inl (fun _ => 0))), (q8, .inr (1, [.int 0, .int 0, .int 8, .ref q9, .ref q10, .ref q11, .ref q12])), (q9, .inl (ue_cI E, 8, .inl (fun _ => 0))), (q10, .inl (ue_cI E, 8, .inl (fun _ => 0))), (q11, .inl (ue_cI E, 5, .inl (fun _ => 0))), (q12, .inl (ue_cI E, 5, .inl (fun _ => 0))), (q13, .inr (2, [.ref q14, .int 9, .ref q15, .int 9, .ref q16, .int 7, .ref q17])), (q14, .inl (ue_cI E, 150, .inl (upl 9))), (q15, .inl (ue_cI E, 150, .inl (va_cpy us_plain (fun _ => 0) 0 0 9))), (q16, .inl (ue_cI E, 150, .inl (fun _ => 0))), (q17, .inl (ue_cI E, 8, .inl (fun _ => 0))), (q18, .inr (0, [.ref q19, .int 0, .ref q20])), (q19, .inl (ue_cI E, 8, .inl (ufl_to (fun _ => 0) (-1) 8))), (q20, .inl (ue_cI E, 8, .inl (fun _ => 0))), (q21, .inr (6, [.ref q22, .int 0, .int 0, .int 0, .int 0])), (q22, .inl (ue_cI E, 100, .inl (fun _ => 0))), (q23, .inr (4, [.ref q3, .ref q13, .ref q24])), (q24, .inl (ue_cI E, 28, .inl (fun _ => 0))), (q25, .inr (4, [.ref q3, .ref q13, .ref q26])), (q26, .inl (ue_cI E, 28, .inl (fun _ => 0)))]) q27 ) ki_X7_63 rfl (S := [.ref q27, .ref h0]) rfl (Nat.le_of_ble_eq_true rfl) (Nat.le_of_ble_eq_true rfl) (Nat.le_of_ble_eq_true rfl) ⟨(Nat.le_of_ble_eq_true rfl), (Nat.le_of_ble_eq_true rfl)⟩ dX7_init_113 (fun w hw => ?_)
  obtain ⟨q28, rfl⟩ := hw
  refine un_ws (List.append_assoc _ _ _) ?_
  refine vn_putF (j := 8) [(h0, .inr (7, [.ref q1, .ref q3, .ref q8, .ref q13, .ref q18, .ref q21, .ref q23, .ref q25, .ref q27, .null, .null, .null, .int 0, .int 0, .int 0, .int 0, .int 0])), (q1, .inr (5, [.ref q2, .int 0, .int 0, .int 0, .int 0, .int (-1), .int 0, .int 0, .int 0])), (q2, .inl (ue_cI E, 600, .inl (fun _ => 0))), (q3, .inr (1, [.int 0, .int 0, .int 8, .ref q4, .ref q5, .ref q6, .ref q7])), (q4, .inl (ue_cI E, 8, .inl (fun _ => 0))), (q5, .inl (ue_cI E, 8, .inl (fun _ => 0))), (q6, .inl (ue_cI E, 5, .inl (fun _ => 0))), (q7, .inl (ue_cI E, 5, .inl (fun _ => 0))), (q8, .inr (1, [.int 0, .int 0, .int 8, .ref q9, .ref q10, .ref q11, .ref q12])), (q9, .inl (ue_cI E, 8, .inl (fun _ => 0))), (q10, .inl (ue_cI E, 8, .inl (fun _ => 0))), (q11, .inl (ue_cI E, 5, .inl (fun _ => 0))), (q12, .inl (ue_cI E, 5, .inl (fun _ => 0))), (q13, .inr (2, [.ref q14, .int 9, .ref q15, .int 9, .ref q16, .int 7, .ref q17])), (q14, .inl (ue_cI E, 150, .inl (upl 9))), (q15, .inl (ue_cI E, 150, .inl (va_cpy us_plain (fun _ => 0) 0 0 9))), (q16, .inl (ue_cI E, 150, .inl (fun _ => 0))), (q17, .inl (ue_cI E, 8, .inl (fun _ => 0))), (q18, .inr (0, [.ref q19, .int 0, .ref q20])), (q19, .inl (ue_cI E, 8, .inl (ufl_to (fun _ => 0) (-1) 8))), (q20, .inl (ue_cI E, 8, .inl (fun _ => 0))), (q21, .inr (6, [.ref q22, .int 0, .int 0, .int 0, .int 0])), (q22, .inl (ue_cI E, 100, .inl (fun _ => 0))), (q23, .inr (4, [.ref q3, .ref q13, .ref q24])), (q24, .inl (ue_cI E, 28, .inl (fun _ => 0))), (q25, .inr (4, [.ref q3, .ref q13, .ref q26])), (q26, .inl (ue_cI E, 28, .inl (fun _ => 0))), (q27, .inr (3, [.ref q28, .int 0])), (q28, .inl (ue_cI E, 476, .inl (fun _ => 0)))] 0 ukX7 rfl rfl fin_X7 (Nat.le_of_ble_eq_true rfl) kg_X7_64 rfl rfl rfl rfl (Nat.le_of_ble_eq_true rfl) dX7_init_116 rfl ?_
  refine un_aload_n 0 dX7_init_119 rfl rfl ?_
  refine un_iconst dX7_init_120 un_iconst_3 ?_
  refine un_newP (N := 3) kl_X7_c61 (by decide) (by decide) (Nat.le_of_ble_eq_true rfl) (Nat.le_of_ble_eq_true rfl) (Nat.le_of_ble_eq_true rfl) dX7_init_121 (fun q29 => ?_)
  refine un_ws (List.append_assoc _ _ _) ?_
  refine un_dup dX7_init_124 rfl ?_
  refine un_iconst dX7_init_125 un_iconst_0 ?_
  refine un_new ukX3 kd_X7_61 nd_X3 (Nat.le_of_ble_eq_true rfl) (Nat.le_of_ble_eq_true rfl) dX7_init_126 (fun q30 => ?_)
  refine un_dup dX7_init_129 rfl ?_
  refine un_callN 4 rfl [] (n_X3 (ws0 ++ [(h0, .inr (7, [.ref q1, .ref q3, .ref q8, .ref q13, .ref q18, .ref q21, .ref q23, .ref q25, .ref q27, .null, .null, .null, .int 0, .int 0, .int 0, .int 0, .int 0])), (q1, .inr (5, [.ref q2, .int 0, .int 0, .int 0, .int 0, .int (-1), .int 0, .int 0, .int 0])), (q2, .inl (ue_cI E, 600, .inl (fun _ => 0))), (q3, .inr (1, [.int 0, .int 0, .int 8, .ref q4, .ref q5, .ref q6, .ref q7])), (q4, .inl (ue_cI E, 8, .inl (fun _ => 0))), (q5, .inl (ue_cI E, 8, .inl (fun _ => 0))), (q6, .inl (ue_cI E, 5, .inl (fun _ => 0))), (q7, .inl (ue_cI E, 5, .inl (fun _ => 0))), (q8, .inr (1, [.int 0, .int 0, .int 8, .ref q9, .ref q10, .ref q11, .ref q12])), (q9, .inl (ue_cI E, 8, .inl (fun _ => 0))), (q10, .inl (ue_cI E, 8, .inl (fun _ => 0))), (q11, .inl (ue_cI E, 5, .inl (fun _ => 0))), (q12, .inl (ue_cI E, 5, .inl (fun _ => 0))), (q13, .inr (2, [.ref q14, .int 9, .ref q15, .int 9, .ref q16, .int 7, .ref q17])), (q14, .inl (ue_cI E, 150, .inl (upl 9))), (q15, .inl (ue_cI E, 150, .inl (va_cpy us_plain (fun _ => 0) 0 0 9))), (q16, .inl (ue_cI E, 150, .inl (fun _ => 0))), (q17, .inl (ue_cI E, 8, .inl (fun _ => 0))), (q18, .inr (0, [.ref q19, .int 0, .ref q20])), (q19, .inl (ue_cI E, 8, .inl (ufl_to (fun _ => 0) (-1) 8))), (q20, .inl (ue_cI E, 8, .inl (fun _ => 0))), (q21, .inr (6, [.ref q22, .int 0, .int 0, .int 0, .int 0])), (q22, .inl (ue_cI E, 100, .inl (fun _ => 0))), (q23, .inr (4, [.ref q3, .ref q13, .ref q24])), (q24, .inl (ue_cI E, 28, .inl (fun _ => 0))), (q25, .inr (4, [.ref q3, .ref q13, .ref q26])), (q26, .inl (ue_cI E, 28, .inl (fun _ => 0))), (q27, .inr (3, [.ref q28, .int 0])), (q28, .inl (ue_cI E, 476, .inl (fun _ => 0))), (q29, .inl (ue_cP E, 3, .inr (.inr (.inr (.inr (fun _ => none))))))]) q30 ) ki_X7_63 rfl (S := [.ref q30, .int 0, .ref q29, .ref q29, .ref h0]) rfl (Nat.le_of_ble_eq_true rfl) (Nat.le_of_ble_eq_true rfl) (Nat.le_of_ble_eq_true rfl) ⟨(Nat.le_of_ble_eq_true rfl), (Nat.le_of_ble_eq_true rfl)⟩ dX7_init_130 (fun w hw => ?_)
  obtain ⟨q31, rfl⟩ := hw
  refine un_ws (List.append_assoc _ _ _) ?_
  refine un_ast (q0 := ws0.length + 29) (qk := ws0.length + 30) (by rw [uap]; rfl) (by rw [uap]; rfl) (by unfold vp_in; decide) dX7_init_133 ?_
  refine un_ws (ws' := ws0 ++ [(h0, .inr (7, [.ref q1, .ref q3, .ref q8, .ref q13, .ref q18, .ref q21, .ref q23, .ref q25, .ref q27, .null, .null, .null, .int 0, .int 0, .int 0, .int 0, .int 0])), (q1, .inr (5, [.ref q2, .int 0, .int 0, .int 0, .int 0, .int (-1), .int 0, .int 0, .int 0])), (q2, .inl (ue_cI E, 600, .inl (fun _ => 0))), (q3, .inr (1, [.int 0, .int 0, .int 8, .ref q4, .ref q5, .ref q6, .ref q7])), (q4, .inl (ue_cI E, 8, .inl (fun _ => 0))), (q5, .inl (ue_cI E, 8, .inl (fun _ => 0))), (q6, .inl (ue_cI E, 5, .inl (fun _ => 0))), (q7, .inl (ue_cI E, 5, .inl (fun _ => 0))), (q8, .inr (1, [.int 0, .int 0, .int 8, .ref q9, .ref q10, .ref q11, .ref q12])), (q9, .inl (ue_cI E, 8, .inl (fun _ => 0))), (q10, .inl (ue_cI E, 8, .inl (fun _ => 0))), (q11, .inl (ue_cI E, 5, .inl (fun _ => 0))), (q12, .inl (ue_cI E, 5, .inl (fun _ => 0))), (q13, .inr (2, [.ref q14, .int 9, .ref q15, .int 9, .ref q16, .int 7, .ref q17])), (q14, .inl (ue_cI E, 150, .inl (upl 9))), (q15, .inl (ue_cI E, 150, .inl (va_cpy us_plain (fun _ => 0) 0 0 9))), (q16, .inl (ue_cI E, 150, .inl (fun _ => 0))), (q17, .inl (ue_cI E, 8, .inl (fun _ => 0))), (q18, .inr (0, [.ref q19, .int 0, .ref q20])), (q19, .inl (ue_cI E, 8, .inl (ufl_to (fun _ => 0) (-1) 8))), (q20, .inl (ue_cI E, 8, .inl (fun _ => 0))), (q21, .inr (6, [.ref q22, .int 0, .int 0, .int 0, .int 0])), (q22, .inl (ue_cI E, 100, .inl (fun _ => 0))), (q23, .inr (4, [.ref q3, .ref q13, .ref q24])), (q24, .inl (ue_cI E, 28, .inl (fun _ => 0))), (q25, .inr (4, [.ref q3, .ref q13, .ref q26])), (q26, .inl (ue_cI E, 28, .inl (fun _ => 0))), (q27, .inr (3, [.ref q28, .int 0])), (q28, .inl (ue_cI E, 476, .inl (fun _ => 0))), (q29, .inl (ue_cP E, 3, .inr (.inr (.inr (.inr (va_up (fun _ => none) 0 (some q30))))))), (q30, .inr (3, [.ref q31, .int 0])), (q31, .inl (ue_cI E, 476, .inl (fun _ => 0)))]) (by rw [uas]; rfl) ?_
  refine un_dup dX7_init_134 rfl ?_
  refine un_iconst dX7_init_135 un_iconst_1 ?_
  refine un_new ukX3 kd_X7_61 nd_X3 (Nat.le_of_ble_eq_true rfl) (Nat.le_of_ble_eq_true rfl) dX7_init_136 (fun q32 => ?_)
  refine un_dup dX7_init_139 rfl ?_
  refine un_callN 4 rfl [] (n_X3 (ws0 ++ [(h0, .inr (7, [.ref q1, .ref q3, .ref q8, .ref q13, .ref q18, .ref q21, .ref q23, .ref q25, .ref q27, .null, .null, .null, .int 0, .int 0, .int 0, .int 0, .int 0])), (q1, .inr (5, [.ref q2, .int 0, .int 0, .int 0, .int 0, .int (-1), .int 0, .int 0, .int 0])), (q2, .inl (ue_cI E, 600, .inl (fun _ => 0))), (q3, .inr (1, [.int 0, .int 0, .int 8, .ref q4, .ref q5, .ref q6, .ref q7])), (q4, .inl (ue_cI E, 8, .inl (fun _ => 0))), (q5, .inl (ue_cI E, 8, .inl (fun _ => 0))), (q6, .inl (ue_cI E, 5, .inl (fun _ => 0))), (q7, .inl (ue_cI E, 5, .inl (fun _ => 0))), (q8, .inr (1, [.int 0, .int 0, .int 8, .ref q9, .ref q10, .ref q11, .ref q12])), (q9, .inl (ue_cI E, 8, .inl (fun _ => 0))), (q10, .inl (ue_cI E, 8, .inl (fun _ => 0))), (q11, .inl (ue_cI E, 5, .inl (fun _ => 0))), (q12, .inl (ue_cI E, 5, .inl (fun _ => 0))), (q13, .inr (2, [.ref q14, .int 9, .ref q15, .int 9, .ref q16, .int 7, .ref q17])), (q14, .inl (ue_cI E, 150, .inl (upl 9))), (q15, .inl (ue_cI E, 150, .inl (va_cpy us_plain (fun _ => 0) 0 0 9))), (q16, .inl (ue_cI E, 150, .inl (fun _ => 0))), (q17, .inl (ue_cI E, 8, .inl (fun _ => 0))), (q18, .inr (0, [.ref q19, .int 0, .ref q20])), (q19, .inl (ue_cI E, 8, .inl (ufl_to (fun _ => 0) (-1) 8))), (q20, .inl (ue_cI E, 8, .inl (fun _ => 0))), (q21, .inr (6, [.ref q22, .int 0, .int 0, .int 0, .int 0])), (q22, .inl (ue_cI E, 100, .inl (fun _ => 0))), (q23, .inr (4, [.ref q3, .ref q13, .ref q24])), (q24, .inl (ue_cI E, 28, .inl (fun _ => 0))), (q25, .inr (4, [.ref q3, .ref q13, .ref q26])), (q26, .inl (ue_cI E, 28, .inl (fun _ => 0))), (q27, .inr (3, [.ref q28, .int 0])), (q28, .inl (ue_cI E, 476, .inl (fun _ => 0))), (q29, .inl (ue_cP E, 3, .inr (.inr (.inr (.inr (va_up (fun _ => none) 0 (some q30))))))), (q30, .inr (3, [.ref q31, .int 0])), (q31, .inl (ue_cI E, 476, .inl (fun _ => 0)))]) q32 ) ki_X7_63 rfl (S := [.ref q32, .int 1, .ref q29, .ref q29, .ref h0]) rfl (Nat.le_of_ble_eq_true rfl) (Nat.le_of_ble_eq_true rfl) (Nat.le_of_ble_eq_true rfl) ⟨(Nat.le_of_ble_eq_true rfl), (Nat.le_of_ble_eq_true rfl)⟩ dX7_init_140 (fun w hw => ?_)
  obtain ⟨q33, rfl⟩ := hw
  refine un_ws (List.append_assoc _ _ _) ?_
  refine un_ast (q0 := ws0.length + 29) (qk := ws0.length + 32) (by rw [uap]; rfl) (by rw [uap]; rfl) (by unfold vp_in; decide) dX7_init_143 ?_
  refine un_ws (ws' := ws0 ++ [(h0, .inr (7, [.ref q1, .ref q3, .ref q8, .ref q13, .ref q18, .ref q21, .ref q23, .ref q25, .ref q27, .null, .null, .null, .int 0, .int 0, .int 0, .int 0, .int 0])), (q1, .inr (5, [.ref q2, .int 0, .int 0, .int 0, .int 0, .int (-1), .int 0, .int 0, .int 0])), (q2, .inl (ue_cI E, 600, .inl (fun _ => 0))), (q3, .inr (1, [.int 0, .int 0, .int 8, .ref q4, .ref q5, .ref q6, .ref q7])), (q4, .inl (ue_cI E, 8, .inl (fun _ => 0))), (q5, .inl (ue_cI E, 8, .inl (fun _ => 0))), (q6, .inl (ue_cI E, 5, .inl (fun _ => 0))), (q7, .inl (ue_cI E, 5, .inl (fun _ => 0))), (q8, .inr (1, [.int 0, .int 0, .int 8, .ref q9, .ref q10, .ref q11, .ref q12])), (q9, .inl (ue_cI E, 8, .inl (fun _ => 0))), (q10, .inl (ue_cI E, 8, .inl (fun _ => 0))), (q11, .inl (ue_cI E, 5, .inl (fun _ => 0))), (q12, .inl (ue_cI E, 5, .inl (fun _ => 0))), (q13, .inr (2, [.ref q14, .int 9, .ref q15, .int 9, .ref q16, .int 7, .ref q17])), (q14, .inl (ue_cI E, 150, .inl (upl 9))), (q15, .inl (ue_cI E, 150, .inl (va_cpy us_plain (fun _ => 0) 0 0 9))), (q16, .inl (ue_cI E, 150, .inl (fun _ => 0))), (q17, .inl (ue_cI E, 8, .inl (fun _ => 0))), (q18, .inr (0, [.ref q19, .int 0, .ref q20])), (q19, .inl (ue_cI E, 8, .inl (ufl_to (fun _ => 0) (-1) 8))), (q20, .inl (ue_cI E, 8, .inl (fun _ => 0))), (q21, .inr (6, [.ref q22, .int 0, .int 0, .int 0, .int 0])), (q22, .inl (ue_cI E, 100, .inl (fun _ => 0))), (q23, .inr (4, [.ref q3, .ref q13, .ref q24])), (q24, .inl (ue_cI E, 28, .inl (fun _ => 0))), (q25, .inr (4, [.ref q3, .ref q13, .ref q26])), (q26, .inl (ue_cI E, 28, .inl (fun _ => 0))), (q27, .inr (3, [.ref q28, .int 0])), (q28, .inl (ue_cI E, 476, .inl (fun _ => 0))), (q29, .inl (ue_cP E, 3, .inr (.inr (.inr (.inr (va_up (va_up (fun _ => none) 0 (some q30)) 1 (some q32))))))), (q30, .inr (3, [.ref q31, .int 0])), (q31, .inl (ue_cI E, 476, .inl (fun _ => 0))), (q32, .inr (3, [.ref q33, .int 0])), (q33, .inl (ue_cI E, 476, .inl (fun _ => 0)))]) (by rw [uas]; rfl) ?_
  refine un_dup dX7_init_144 rfl ?_
  refine un_iconst dX7_init_145 un_iconst_2 ?_
  refine un_new ukX3 kd_X7_61 nd_X3 (Nat.le_of_ble_eq_true rfl) (Nat.le_of_ble_eq_true rfl) dX7_init_146 (fun q34 => ?_)
  refine un_dup dX7_init_149 rfl ?_
  refine un_callN 4 rfl [] (n_X3 (ws0 ++ [(h0, .inr (7, [.ref q1, .ref q3, .ref q8, .ref q13, .ref q18, .ref q21, .ref q23, .ref q25, .ref q27, .null, .null, .null, .int 0, .int 0, .int 0, .int 0, .int 0])), (q1, .inr (5, [.ref q2, .int 0, .int 0, .int 0, .int 0, .int (-1), .int 0, .int 0, .int 0])), (q2, .inl (ue_cI E, 600, .inl (fun _ => 0))), (q3, .inr (1, [.int 0, .int 0, .int 8, .ref q4, .ref q5, .ref q6, .ref q7])), (q4, .inl (ue_cI E, 8, .inl (fun _ => 0))), (q5, .inl (ue_cI E, 8, .inl (fun _ => 0))), (q6, .inl (ue_cI E, 5, .inl (fun _ => 0))), (q7, .inl (ue_cI E, 5, .inl (fun _ => 0))), (q8, .inr (1, [.int 0, .int 0, .int 8, .ref q9, .ref q10, .ref q11, .ref q12])), (q9, .inl (ue_cI E, 8, .inl (fun _ => 0))), (q10, .inl (ue_cI E, 8, .inl (fun _ => 0))), (q11, .inl (ue_cI E, 5, .inl (fun _ => 0))), (q12, .inl (ue_cI E, 5, .inl (fun _ => 0))), (q13, .inr (2, [.ref q14, .int 9, .ref q15, .int 9, .ref q16, .int 7, .ref q17])), (q14, .inl (ue_cI E, 150, .inl (upl 9))), (q15, .inl (ue_cI E, 150, .inl (va_cpy us_plain (fun _ => 0) 0 0 9))), (q16, .inl (ue_cI E, 150, .inl (fun _ => 0))), (q17, .inl (ue_cI E, 8, .inl (fun _ => 0))), (q18, .inr (0, [.ref q19, .int 0, .ref q20])), (q19, .inl (ue_cI E, 8, .inl (ufl_to (fun _ => 0) (-1) 8))), (q20, .inl (ue_cI E, 8, .inl (fun _ => 0))), (q21, .inr (6, [.ref q22, .int 0, .int 0, .int 0, .int 0])), (q22, .inl (ue_cI E, 100, .inl (fun _ => 0))), (q23, .inr (4, [.ref q3, .ref q13, .ref q24])), (q24, .inl (ue_cI E, 28, .inl (fun _ => 0))), (q25, .inr (4, [.ref q3, .ref q13, .ref q26])), (q26, .inl (ue_cI E, 28, .inl (fun _ => 0))), (q27, .inr (3, [.ref q28, .int 0])), (q28, .inl (ue_cI E, 476, .inl (fun _ => 0))), (q29, .inl (ue_cP E, 3, .inr (.inr (.inr (.inr (va_up (va_up (fun _ => none) 0 (some q30)) 1 (some q32))))))), (q30, .inr (3, [.ref q31, .int 0])), (q31, .inl (ue_cI E, 476, .inl (fun _ => 0))), (q32, .inr (3, [.ref q33, .int 0])), (q33, .inl (ue_cI E, 476, .inl (fun _ => 0)))]) q34 ) ki_X7_63 rfl (S := [.ref q34, .int 2, .ref q29, .ref q29, .ref h0]) rfl (Nat.le_of_ble_eq_true rfl) (Nat.le_of_ble_eq_true rfl) (Nat.le_of_ble_eq_true rfl) ⟨(Nat.le_of_ble_eq_true rfl), (Nat.le_of_ble_eq_true rfl)⟩ dX7_init_150 (fun w hw => ?_)
  obtain ⟨q35, rfl⟩ := hw
  refine un_ws (List.append_assoc _ _ _) ?_
  refine un_ast (q0 := ws0.length + 29) (qk := ws0.length + 34) (by rw [uap]; rfl) (by rw [uap]; rfl) (by unfold vp_in; decide) dX7_init_153 ?_
  refine un_ws (ws' := ws0 ++ [(h0, .inr (7, [.ref q1, .ref q3, .ref q8, .ref q13, .ref q18, .ref q21, .ref q23, .ref q25, .ref q27, .null, .null, .null, .int 0, .int 0, .int 0, .int 0, .int 0])), (q1, .inr (5, [.ref q2, .int 0, .int 0, .int 0, .int 0, .int (-1), .int 0, .int 0, .int 0])), (q2, .inl (ue_cI E, 600, .inl (fun _ => 0))), (q3, .inr (1, [.int 0, .int 0, .int 8, .ref q4, .ref q5, .ref q6, .ref q7])), (q4, .inl (ue_cI E, 8, .inl (fun _ => 0))), (q5, .inl (ue_cI E, 8, .inl (fun _ => 0))), (q6, .inl (ue_cI E, 5, .inl (fun _ => 0))), (q7, .inl (ue_cI E, 5, .inl (fun _ => 0))), (q8, .inr (1, [.int 0, .int 0, .int 8, .ref q9, .ref q10, .ref q11, .ref q12])), (q9, .inl (ue_cI E, 8, .inl (fun _ => 0))), (q10, .inl (ue_cI E, 8, .inl (fun _ => 0))), (q11, .inl (ue_cI E, 5, .inl (fun _ => 0))), (q12, .inl (ue_cI E, 5, .inl (fun _ => 0))), (q13, .inr (2, [.ref q14, .int 9, .ref q15, .int 9, .ref q16, .int 7, .ref q17])), (q14, .inl (ue_cI E, 150, .inl (upl 9))), (q15, .inl (ue_cI E, 150, .inl (va_cpy us_plain (fun _ => 0) 0 0 9))), (q16, .inl (ue_cI E, 150, .inl (fun _ => 0))), (q17, .inl (ue_cI E, 8, .inl (fun _ => 0))), (q18, .inr (0, [.ref q19, .int 0, .ref q20])), (q19, .inl (ue_cI E, 8, .inl (ufl_to (fun _ => 0) (-1) 8))), (q20, .inl (ue_cI E, 8, .inl (fun _ => 0))), (q21, .inr (6, [.ref q22, .int 0, .int 0, .int 0, .int 0])), (q22, .inl (ue_cI E, 100, .inl (fun _ => 0))), (q23, .inr (4, [.ref q3, .ref q13, .ref q24])), (q24, .inl (ue_cI E, 28, .inl (fun _ => 0))), (q25, .inr (4, [.ref q3, .ref q13, .ref q26])), (q26, .inl (ue_cI E, 28, .inl (fun _ => 0))), (q27, .inr (3, [.ref q28, .int 0])), (q28, .inl (ue_cI E, 476, .inl (fun _ => 0))), (q29, .inl (ue_cP E, 3, .inr (.inr (.inr (.inr (va_up (va_up (va_up (fun _ => none) 0 (some q30)) 1 (some q32)) 2 (some q34))))))), (q30, .inr (3, [.ref q31, .int 0])), (q31, .inl (ue_cI E, 476, .inl (fun _ => 0))), (q32, .inr (3, [.ref q33, .int 0])), (q33, .inl (ue_cI E, 476, .inl (fun _ => 0))), (q34, .inr (3, [.ref q35, .int 0])), (q35, .inl (ue_cI E, 476, .inl (fun _ => 0)))]) (by rw [uas]; rfl) ?_
  refine vn_putF (j := 9) [(h0, .inr (7, [.ref q1, .ref q3, .ref q8, .ref q13, .ref q18, .ref q21, .ref q23, .ref q25, .ref q27, .ref q29, .null, .null, .int 0, .int 0, .int 0, .int 0, .int 0])), (q1, .inr (5, [.ref q2, .int 0, .int 0, .int 0, .int 0, .int (-1), .int 0, .int 0, .int 0])), (q2, .inl (ue_cI E, 600, .inl (fun _ => 0))), (q3, .inr (1, [.int 0, .int 0, .int 8, .ref q4, .ref q5, .ref q6, .ref q7])), (q4, .inl (ue_cI E, 8, .inl (fun _ => 0))), (q5, .inl (ue_cI E, 8, .inl (fun _ => 0))), (q6, .inl (ue_cI E, 5, .inl (fun _ => 0))), (q7, .inl (ue_cI E, 5, .inl (fun _ => 0))), (q8, .inr (1, [.int 0, .int 0, .int 8, .ref q9, .ref q10, .ref q11, .ref q12])), (q9, .inl (ue_cI E, 8, .inl (fun _ => 0))), (q10, .inl (ue_cI E, 8, .inl (fun _ => 0))), (q11, .inl (ue_cI E, 5, .inl (fun _ => 0))), (q12, .inl (ue_cI E, 5, .inl (fun _ => 0))), (q13, .inr (2, [.ref q14, .int 9, .ref q15, .int 9, .ref q16, .int 7, .ref q17])), (q14, .inl (ue_cI E, 150, .inl (upl 9))), (q15, .inl (ue_cI E, 150, .inl (va_cpy us_plain (fun _ => 0) 0 0 9))), (q16, .inl (ue_cI E, 150, .inl (fun _ => 0))), (q17, .inl (ue_cI E, 8, .inl (fun _ => 0))), (q18, .inr (0, [.ref q19, .int 0, .ref q20])), (q19, .inl (ue_cI E, 8, .inl (ufl_to (fun _ => 0) (-1) 8))), (q20, .inl (ue_cI E, 8, .inl (fun _ => 0))), (q21, .inr (6, [.ref q22, .int 0, .int 0, .int 0, .int 0])), (q22, .inl (ue_cI E, 100, .inl (fun _ => 0))), (q23, .inr (4, [.ref q3, .ref q13, .ref q24])), (q24, .inl (ue_cI E, 28, .inl (fun _ => 0))), (q25, .inr (4, [.ref q3, .ref q13, .ref q26])), (q26, .inl (ue_cI E, 28, .inl (fun _ => 0))), (q27, .inr (3, [.ref q28, .int 0])), (q28, .inl (ue_cI E, 476, .inl (fun _ => 0))), (q29, .inl (ue_cP E, 3, .inr (.inr (.inr (.inr (va_up (va_up (va_up (fun _ => none) 0 (some q30)) 1 (some q32)) 2 (some q34))))))), (q30, .inr (3, [.ref q31, .int 0])), (q31, .inl (ue_cI E, 476, .inl (fun _ => 0))), (q32, .inr (3, [.ref q33, .int 0])), (q33, .inl (ue_cI E, 476, .inl (fun _ => 0))), (q34, .inr (3, [.ref q35, .int 0])), (q35, .inl (ue_cI E, 476, .inl (fun _ => 0)))] 0 ukX7 rfl rfl fin_X7 (Nat.le_of_ble_eq_true rfl) kg_X7_68 rfl rfl rfl rfl (Nat.le_of_ble_eq_true rfl) dX7_init_154 rfl ?_
  refine un_aload_n 0 dX7_init_157 rfl rfl ?_
  refine un_bipush dX7_init_158 (v := 48) (by decide) ?_
  refine vn_newI (N := 48) ka_int (by decide) (by decide) (Nat.le_of_ble_eq_true rfl) (Nat.le_of_ble_eq_true rfl) (Nat.le_of_ble_eq_true rfl) dX7_init_160 (fun q36 => ?_)
  refine vn_putF (j := 10) [(h0, .inr (7, [.ref q1, .ref q3, .ref q8, .ref q13, .ref q18, .ref q21, .ref q23, .ref q25, .ref q27, .ref q29, .ref q36, .null, .int 0, .int 0, .int 0, .int 0, .int 0])), (q1, .inr (5, [.ref q2, .int 0, .int 0, .int 0, .int 0, .int (-1), .int 0, .int 0, .int 0])), (q2, .inl (ue_cI E, 600, .inl (fun _ => 0))), (q3, .inr (1, [.int 0, .int 0, .int 8, .ref q4, .ref q5, .ref q6, .ref q7])), (q4, .inl (ue_cI E, 8, .inl (fun _ => 0))), (q5, .inl (ue_cI E, 8, .inl (fun _ => 0))), (q6, .inl (ue_cI E, 5, .inl (fun _ => 0))), (q7, .inl (ue_cI E, 5, .inl (fun _ => 0))), (q8, .inr (1, [.int 0, .int 0, .int 8, .ref q9, .ref q10, .ref q11, .ref q12])), (q9, .inl (ue_cI E, 8, .inl (fun _ => 0))), (q10, .inl (ue_cI E, 8, .inl (fun _ => 0))), (q11, .inl (ue_cI E, 5, .inl (fun _ => 0))), (q12, .inl (ue_cI E, 5, .inl (fun _ => 0))), (q13, .inr (2, [.ref q14, .int 9, .ref q15, .int 9, .ref q16, .int 7, .ref q17])), (q14, .inl (ue_cI E, 150, .inl (upl 9))), (q15, .inl (ue_cI E, 150, .inl (va_cpy us_plain (fun _ => 0) 0 0 9))), (q16, .inl (ue_cI E, 150, .inl (fun _ => 0))), (q17, .inl (ue_cI E, 8, .inl (fun _ => 0))), (q18, .inr (0, [.ref q19, .int 0, .ref q20])), (q19, .inl (ue_cI E, 8, .inl (ufl_to (fun _ => 0) (-1) 8))), (q20, .inl (ue_cI E, 8, .inl (fun _ => 0))), (q21, .inr (6, [.ref q22, .int 0, .int 0, .int 0, .int 0])), (q22, .inl (ue_cI E, 100, .inl (fun _ => 0))), (q23, .inr (4, [.ref q3, .ref q13, .ref q24])), (q24, .inl (ue_cI E, 28, .inl (fun _ => 0))), (q25, .inr (4, [.ref q3, .ref q13, .ref q26])), (q26, .inl (ue_cI E, 28, .inl (fun _ => 0))), (q27, .inr (3, [.ref q28, .int 0])), (q28, .inl (ue_cI E, 476, .inl (fun _ => 0))), (q29, .inl (ue_cP E, 3, .inr (.inr (.inr (.inr (va_up (va_up (va_up (fun _ => none) 0 (some q30)) 1 (some q32)) 2 (some q34))))))), (q30, .inr (3, [.ref q31, .int 0])), (q31, .inl (ue_cI E, 476, .inl (fun _ => 0))), (q32, .inr (3, [.ref q33, .int 0])), (q33, .inl (ue_cI E, 476, .inl (fun _ => 0))), (q34, .inr (3, [.ref q35, .int 0])), (q35, .inl (ue_cI E, 476, .inl (fun _ => 0))), (q36, .inl (ue_cI E, 48, .inl (fun _ => 0)))] 0 ukX7 rfl rfl fin_X7 (Nat.le_of_ble_eq_true rfl) kg_X7_72 rfl rfl rfl rfl (Nat.le_of_ble_eq_true rfl) dX7_init_162 rfl ?_
  refine un_aload_n 0 dX7_init_165 rfl rfl ?_
  refine un_iconst dX7_init_166 un_iconst_5 ?_
  refine vn_newI (N := 5) ka_int (by decide) (by decide) (Nat.le_of_ble_eq_true rfl) (Nat.le_of_ble_eq_true rfl) (Nat.le_of_ble_eq_true rfl) dX7_init_167 (fun q37 => ?_)
  refine vn_putF (j := 11) [(h0, .inr (7, [.ref q1, .ref q3, .ref q8, .ref q13, .ref q18, .ref q21, .ref q23, .ref q25, .ref q27, .ref q29, .ref q36, .ref q37, .int 0, .int 0, .int 0, .int 0, .int 0])), (q1, .inr (5, [.ref q2, .int 0, .int 0, .int 0, .int 0, .int (-1), .int 0, .int 0, .int 0])), (q2, .inl (ue_cI E, 600, .inl (fun _ => 0))), (q3, .inr (1, [.int 0, .int 0, .int 8, .ref q4, .ref q5, .ref q6, .ref q7])), (q4, .inl (ue_cI E, 8, .inl (fun _ => 0))), (q5, .inl (ue_cI E, 8, .inl (fun _ => 0))), (q6, .inl (ue_cI E, 5, .inl (fun _ => 0))), (q7, .inl (ue_cI E, 5, .inl (fun _ => 0))), (q8, .inr (1, [.int 0, .int 0, .int 8, .ref q9, .ref q10, .ref q11, .ref q12])), (q9, .inl (ue_cI E, 8, .inl (fun _ => 0))), (q10, .inl (ue_cI E, 8, .inl (fun _ => 0))), (q11, .inl (ue_cI E, 5, .inl (fun _ => 0))), (q12, .inl (ue_cI E, 5, .inl (fun _ => 0))), (q13, .inr (2, [.ref q14, .int 9, .ref q15, .int 9, .ref q16, .int 7, .ref q17])), (q14, .inl (ue_cI E, 150, .inl (upl 9))), (q15, .inl (ue_cI E, 150, .inl (va_cpy us_plain (fun _ => 0) 0 0 9))), (q16, .inl (ue_cI E, 150, .inl (fun _ => 0))), (q17, .inl (ue_cI E, 8, .inl (fun _ => 0))), (q18, .inr (0, [.ref q19, .int 0, .ref q20])), (q19, .inl (ue_cI E, 8, .inl (ufl_to (fun _ => 0) (-1) 8))), (q20, .inl (ue_cI E, 8, .inl (fun _ => 0))), (q21, .inr (6, [.ref q22, .int 0, .int 0, .int 0, .int 0])), (q22, .inl (ue_cI E, 100, .inl (fun _ => 0))), (q23, .inr (4, [.ref q3, .ref q13, .ref q24])), (q24, .inl (ue_cI E, 28, .inl (fun _ => 0))), (q25, .inr (4, [.ref q3, .ref q13, .ref q26])), (q26, .inl (ue_cI E, 28, .inl (fun _ => 0))), (q27, .inr (3, [.ref q28, .int 0])), (q28, .inl (ue_cI E, 476, .inl (fun _ => 0))), (q29, .inl (ue_cP E, 3, .inr (.inr (.inr (.inr (va_up (va_up (va_up (fun _ => none) 0 (some q30)) 1 (some q32)) 2 (some q34))))))), (q30, .inr (3, [.ref q31, .int 0])), (q31, .inl (ue_cI E, 476, .inl (fun _ => 0))), (q32, .inr (3, [.ref q33, .int 0])), (q33, .inl (ue_cI E, 476, .inl (fun _ => 0))), (q34, .inr (3, [.ref q35, .int 0])), (q35, .inl (ue_cI E, 476, .inl (fun _ => 0))), (q36, .inl (ue_cI E, 48, .inl (fun _ => 0))), (q37, .inl (ue_cI E, 5, .inl (fun _ => 0)))] 0 ukX7 rfl rfl fin_X7 (Nat.le_of_ble_eq_true rfl) kg_X7_76 rfl rfl rfl rfl (Nat.le_of_ble_eq_true rfl) dX7_init_169 rfl ?_
  refine un_aload_n 0 dX7_init_172 rfl rfl ?_
  refine un_iconst dX7_init_173 un_iconst_0 ?_
  refine vn_put (j := 12) [(h0, .inr (7, [.ref q1, .ref q3, .ref q8, .ref q13, .ref q18, .ref q21, .ref q23, .ref q25, .ref q27, .ref q29, .ref q36, .ref q37, .int 0, .int 0, .int 0, .int 0, .int 0])), (q1, .inr (5, [.ref q2, .int 0, .int 0, .int 0, .int 0, .int (-1), .int 0, .int 0, .int 0])), (q2, .inl (ue_cI E, 600, .inl (fun _ => 0))), (q3, .inr (1, [.int 0, .int 0, .int 8, .ref q4, .ref q5, .ref q6, .ref q7])), (q4, .inl (ue_cI E, 8, .inl (fun _ => 0))), (q5, .inl (ue_cI E, 8, .inl (fun _ => 0))), (q6, .inl (ue_cI E, 5, .inl (fun _ => 0))), (q7, .inl (ue_cI E, 5, .inl (fun _ => 0))), (q8, .inr (1, [.int 0, .int 0, .int 8, .ref q9, .ref q10, .ref q11, .ref q12])), (q9, .inl (ue_cI E, 8, .inl (fun _ => 0))), (q10, .inl (ue_cI E, 8, .inl (fun _ => 0))), (q11, .inl (ue_cI E, 5, .inl (fun _ => 0))), (q12, .inl (ue_cI E, 5, .inl (fun _ => 0))), (q13, .inr (2, [.ref q14, .int 9, .ref q15, .int 9, .ref q16, .int 7, .ref q17])), (q14, .inl (ue_cI E, 150, .inl (upl 9))), (q15, .inl (ue_cI E, 150, .inl (va_cpy us_plain (fun _ => 0) 0 0 9))), (q16, .inl (ue_cI E, 150, .inl (fun _ => 0))), (q17, .inl (ue_cI E, 8, .inl (fun _ => 0))), (q18, .inr (0, [.ref q19, .int 0, .ref q20])), (q19, .inl (ue_cI E, 8, .inl (ufl_to (fun _ => 0) (-1) 8))), (q20, .inl (ue_cI E, 8, .inl (fun _ => 0))), (q21, .inr (6, [.ref q22, .int 0, .int 0, .int 0, .int 0])), (q22, .inl (ue_cI E, 100, .inl (fun _ => 0))), (q23, .inr (4, [.ref q3, .ref q13, .ref q24])), (q24, .inl (ue_cI E, 28, .inl (fun _ => 0))), (q25, .inr (4, [.ref q3, .ref q13, .ref q26])), (q26, .inl (ue_cI E, 28, .inl (fun _ => 0))), (q27, .inr (3, [.ref q28, .int 0])), (q28, .inl (ue_cI E, 476, .inl (fun _ => 0))), (q29, .inl (ue_cP E, 3, .inr (.inr (.inr (.inr (va_up (va_up (va_up (fun _ => none) 0 (some q30)) 1 (some q32)) 2 (some q34))))))), (q30, .inr (3, [.ref q31, .int 0])), (q31, .inl (ue_cI E, 476, .inl (fun _ => 0))), (q32, .inr (3, [.ref q33, .int 0])), (q33, .inl (ue_cI E, 476, .inl (fun _ => 0))), (q34, .inr (3, [.ref q35, .int 0])), (q35, .inl (ue_cI E, 476, .inl (fun _ => 0))), (q36, .inl (ue_cI E, 48, .inl (fun _ => 0))), (q37, .inl (ue_cI E, 5, .inl (fun _ => 0)))] 0 ukX7 rfl (Nat.le_of_ble_eq_true rfl) kg_X7_79 rfl rfl rfl (Nat.le_of_ble_eq_true rfl) dX7_init_174 rfl ?_
  refine un_aload_n 0 dX7_init_177 rfl rfl ?_
  refine un_iconst dX7_init_178 un_iconst_0 ?_
  refine vn_put (j := 13) [(h0, .inr (7, [.ref q1, .ref q3, .ref q8, .ref q13, .ref q18, .ref q21, .ref q23, .ref q25, .ref q27, .ref q29, .ref q36, .ref q37, .int 0, .int 0, .int 0, .int 0, .int 0])), (q1, .inr (5, [.ref q2, .int 0, .int 0, .int 0, .int 0, .int (-1), .int 0, .int 0, .int 0])), (q2, .inl (ue_cI E, 600, .inl (fun _ => 0))), (q3, .inr (1, [.int 0, .int 0, .int 8, .ref q4, .ref q5, .ref q6, .ref q7])), (q4, .inl (ue_cI E, 8, .inl (fun _ => 0))), (q5, .inl (ue_cI E, 8, .inl (fun _ => 0))), (q6, .inl (ue_cI E, 5, .inl (fun _ => 0))), (q7, .inl (ue_cI E, 5, .inl (fun _ => 0))), (q8, .inr (1, [.int 0, .int 0, .int 8, .ref q9, .ref q10, .ref q11, .ref q12])), (q9, .inl (ue_cI E, 8, .inl (fun _ => 0))), (q10, .inl (ue_cI E, 8, .inl (fun _ => 0))), (q11, .inl (ue_cI E, 5, .inl (fun _ => 0))), (q12, .inl (ue_cI E, 5, .inl (fun _ => 0))), (q13, .inr (2, [.ref q14, .int 9, .ref q15, .int 9, .ref q16, .int 7, .ref q17])), (q14, .inl (ue_cI E, 150, .inl (upl 9))), (q15, .inl (ue_cI E, 150, .inl (va_cpy us_plain (fun _ => 0) 0 0 9))), (q16, .inl (ue_cI E, 150, .inl (fun _ => 0))), (q17, .inl (ue_cI E, 8, .inl (fun _ => 0))), (q18, .inr (0, [.ref q19, .int 0, .ref q20])), (q19, .inl (ue_cI E, 8, .inl (ufl_to (fun _ => 0) (-1) 8))), (q20, .inl (ue_cI E, 8, .inl (fun _ => 0))), (q21, .inr (6, [.ref q22, .int 0, .int 0, .int 0, .int 0])), (q22, .inl (ue_cI E, 100, .inl (fun _ => 0))), (q23, .inr (4, [.ref q3, .ref q13, .ref q24])), (q24, .inl (ue_cI E, 28, .inl (fun _ => 0))), (q25, .inr (4, [.ref q3, .ref q13, .ref q26])), (q26, .inl (ue_cI E, 28, .inl (fun _ => 0))), (q27, .inr (3, [.ref q28, .int 0])), (q28, .inl (ue_cI E, 476, .inl (fun _ => 0))), (q29, .inl (ue_cP E, 3, .inr (.inr (.inr (.inr (va_up (va_up (va_up (fun _ => none) 0 (some q30)) 1 (some q32)) 2 (some q34))))))), (q30, .inr (3, [.ref q31, .int 0])), (q31, .inl (ue_cI E, 476, .inl (fun _ => 0))), (q32, .inr (3, [.ref q33, .int 0])), (q33, .inl (ue_cI E, 476, .inl (fun _ => 0))), (q34, .inr (3, [.ref q35, .int 0])), (q35, .inl (ue_cI E, 476, .inl (fun _ => 0))), (q36, .inl (ue_cI E, 48, .inl (fun _ => 0))), (q37, .inl (ue_cI E, 5, .inl (fun _ => 0)))] 0 ukX7 rfl (Nat.le_of_ble_eq_true rfl) kg_X7_83 rfl rfl rfl (Nat.le_of_ble_eq_true rfl) dX7_init_179 rfl ?_
  refine un_aload_n 0 dX7_init_182 rfl rfl ?_
  refine un_iconst dX7_init_183 un_iconst_0 ?_
  refine vn_put (j := 14) [(h0, .inr (7, [.ref q1, .ref q3, .ref q8, .ref q13, .ref q18, .ref q21, .ref q23, .ref q25, .ref q27, .ref q29, .ref q36, .ref q37, .int 0, .int 0, .int 0, .int 0, .int 0])), (q1, .inr (5, [.ref q2, .int 0, .int 0, .int 0, .int 0, .int (-1), .int 0, .int 0, .int 0])), (q2, .inl (ue_cI E, 600, .inl (fun _ => 0))), (q3, .inr (1, [.int 0, .int 0, .int 8, .ref q4, .ref q5, .ref q6, .ref q7])), (q4, .inl (ue_cI E, 8, .inl (fun _ => 0))), (q5, .inl (ue_cI E, 8, .inl (fun _ => 0))), (q6, .inl (ue_cI E, 5, .inl (fun _ => 0))), (q7, .inl (ue_cI E, 5, .inl (fun _ => 0))), (q8, .inr (1, [.int 0, .int 0, .int 8, .ref q9, .ref q10, .ref q11, .ref q12])), (q9, .inl (ue_cI E, 8, .inl (fun _ => 0))), (q10, .inl (ue_cI E, 8, .inl (fun _ => 0))), (q11, .inl (ue_cI E, 5, .inl (fun _ => 0))), (q12, .inl (ue_cI E, 5, .inl (fun _ => 0))), (q13, .inr (2, [.ref q14, .int 9, .ref q15, .int 9, .ref q16, .int 7, .ref q17])), (q14, .inl (ue_cI E, 150, .inl (upl 9))), (q15, .inl (ue_cI E, 150, .inl (va_cpy us_plain (fun _ => 0) 0 0 9))), (q16, .inl (ue_cI E, 150, .inl (fun _ => 0))), (q17, .inl (ue_cI E, 8, .inl (fun _ => 0))), (q18, .inr (0, [.ref q19, .int 0, .ref q20])), (q19, .inl (ue_cI E, 8, .inl (ufl_to (fun _ => 0) (-1) 8))), (q20, .inl (ue_cI E, 8, .inl (fun _ => 0))), (q21, .inr (6, [.ref q22, .int 0, .int 0, .int 0, .int 0])), (q22, .inl (ue_cI E, 100, .inl (fun _ => 0))), (q23, .inr (4, [.ref q3, .ref q13, .ref q24])), (q24, .inl (ue_cI E, 28, .inl (fun _ => 0))), (q25, .inr (4, [.ref q3, .ref q13, .ref q26])), (q26, .inl (ue_cI E, 28, .inl (fun _ => 0))), (q27, .inr (3, [.ref q28, .int 0])), (q28, .inl (ue_cI E, 476, .inl (fun _ => 0))), (q29, .inl (ue_cP E, 3, .inr (.inr (.inr (.inr (va_up (va_up (va_up (fun _ => none) 0 (some q30)) 1 (some q32)) 2 (some q34))))))), (q30, .inr (3, [.ref q31, .int 0])), (q31, .inl (ue_cI E, 476, .inl (fun _ => 0))), (q32, .inr (3, [.ref q33, .int 0])), (q33, .inl (ue_cI E, 476, .inl (fun _ => 0))), (q34, .inr (3, [.ref q35, .int 0])), (q35, .inl (ue_cI E, 476, .inl (fun _ => 0))), (q36, .inl (ue_cI E, 48, .inl (fun _ => 0))), (q37, .inl (ue_cI E, 5, .inl (fun _ => 0)))] 0 ukX7 rfl (Nat.le_of_ble_eq_true rfl) kg_X7_86 rfl rfl rfl (Nat.le_of_ble_eq_true rfl) dX7_init_184 rfl ?_
  refine un_aload_n 0 dX7_init_187 rfl rfl ?_
  refine un_iconst dX7_init_188 un_iconst_0 ?_
  refine vn_put (j := 15) [(h0, .inr (7, [.ref q1, .ref q3, .ref q8, .ref q13, .ref q18, .ref q21, .ref q23, .ref q25, .ref q27, .ref q29, .ref q36, .ref q37, .int 0, .int 0, .int 0, .int 0, .int 0])), (q1, .inr (5, [.ref q2, .int 0, .int 0, .int 0, .int 0, .int (-1), .int 0, .int 0, .int 0])), (q2, .inl (ue_cI E, 600, .inl (fun _ => 0))), (q3, .inr (1, [.int 0, .int 0, .int 8, .ref q4, .ref q5, .ref q6, .ref q7])), (q4, .inl (ue_cI E, 8, .inl (fun _ => 0))), (q5, .inl (ue_cI E, 8, .inl (fun _ => 0))), (q6, .inl (ue_cI E, 5, .inl (fun _ => 0))), (q7, .inl (ue_cI E, 5, .inl (fun _ => 0))), (q8, .inr (1, [.int 0, .int 0, .int 8, .ref q9, .ref q10, .ref q11, .ref q12])), (q9, .inl (ue_cI E, 8, .inl (fun _ => 0))), (q10, .inl (ue_cI E, 8, .inl (fun _ => 0))), (q11, .inl (ue_cI E, 5, .inl (fun _ => 0))), (q12, .inl (ue_cI E, 5, .inl (fun _ => 0))), (q13, .inr (2, [.ref q14, .int 9, .ref q15, .int 9, .ref q16, .int 7, .ref q17])), (q14, .inl (ue_cI E, 150, .inl (upl 9))), (q15, .inl (ue_cI E, 150, .inl (va_cpy us_plain (fun _ => 0) 0 0 9))), (q16, .inl (ue_cI E, 150, .inl (fun _ => 0))), (q17, .inl (ue_cI E, 8, .inl (fun _ => 0))), (q18, .inr (0, [.ref q19, .int 0, .ref q20])), (q19, .inl (ue_cI E, 8, .inl (ufl_to (fun _ => 0) (-1) 8))), (q20, .inl (ue_cI E, 8, .inl (fun _ => 0))), (q21, .inr (6, [.ref q22, .int 0, .int 0, .int 0, .int 0])), (q22, .inl (ue_cI E, 100, .inl (fun _ => 0))), (q23, .inr (4, [.ref q3, .ref q13, .ref q24])), (q24, .inl (ue_cI E, 28, .inl (fun _ => 0))), (q25, .inr (4, [.ref q3, .ref q13, .ref q26])), (q26, .inl (ue_cI E, 28, .inl (fun _ => 0))), (q27, .inr (3, [.ref q28, .int 0])), (q28, .inl (ue_cI E, 476, .inl (fun _ => 0))), (q29, .inl (ue_cP E, 3, .inr (.inr (.inr (.inr (va_up (va_up (va_up (fun _ => none) 0 (some q30)) 1 (some q32)) 2 (some q34))))))), (q30, .inr (3, [.ref q31, .int 0])), (q31, .inl (ue_cI E, 476, .inl (fun _ => 0))), (q32, .inr (3, [.ref q33, .int 0])), (q33, .inl (ue_cI E, 476, .inl (fun _ => 0))), (q34, .inr (3, [.ref q35, .int 0])), (q35, .inl (ue_cI E, 476, .inl (fun _ => 0))), (q36, .inl (ue_cI E, 48, .inl (fun _ => 0))), (q37, .inl (ue_cI E, 5, .inl (fun _ => 0)))] 0 ukX7 rfl (Nat.le_of_ble_eq_true rfl) kg_X7_89 rfl rfl rfl (Nat.le_of_ble_eq_true rfl) dX7_init_189 rfl ?_
  refine un_aload_n 0 dX7_init_192 rfl rfl ?_
  refine un_iconst dX7_init_193 un_iconst_0 ?_
  refine vn_put (j := 16) [(h0, .inr (7, [.ref q1, .ref q3, .ref q8, .ref q13, .ref q18, .ref q21, .ref q23, .ref q25, .ref q27, .ref q29, .ref q36, .ref q37, .int 0, .int 0, .int 0, .int 0, .int 0])), (q1, .inr (5, [.ref q2, .int 0, .int 0, .int 0, .int 0, .int (-1), .int 0, .int 0, .int 0])), (q2, .inl (ue_cI E, 600, .inl (fun _ => 0))), (q3, .inr (1, [.int 0, .int 0, .int 8, .ref q4, .ref q5, .ref q6, .ref q7])), (q4, .inl (ue_cI E, 8, .inl (fun _ => 0))), (q5, .inl (ue_cI E, 8, .inl (fun _ => 0))), (q6, .inl (ue_cI E, 5, .inl (fun _ => 0))), (q7, .inl (ue_cI E, 5, .inl (fun _ => 0))), (q8, .inr (1, [.int 0, .int 0, .int 8, .ref q9, .ref q10, .ref q11, .ref q12])), (q9, .inl (ue_cI E, 8, .inl (fun _ => 0))), (q10, .inl (ue_cI E, 8, .inl (fun _ => 0))), (q11, .inl (ue_cI E, 5, .inl (fun _ => 0))), (q12, .inl (ue_cI E, 5, .inl (fun _ => 0))), (q13, .inr (2, [.ref q14, .int 9, .ref q15, .int 9, .ref q16, .int 7, .ref q17])), (q14, .inl (ue_cI E, 150, .inl (upl 9))), (q15, .inl (ue_cI E, 150, .inl (va_cpy us_plain (fun _ => 0) 0 0 9))), (q16, .inl (ue_cI E, 150, .inl (fun _ => 0))), (q17, .inl (ue_cI E, 8, .inl (fun _ => 0))), (q18, .inr (0, [.ref q19, .int 0, .ref q20])), (q19, .inl (ue_cI E, 8, .inl (ufl_to (fun _ => 0) (-1) 8))), (q20, .inl (ue_cI E, 8, .inl (fun _ => 0))), (q21, .inr (6, [.ref q22, .int 0, .int 0, .int 0, .int 0])), (q22, .inl (ue_cI E, 100, .inl (fun _ => 0))), (q23, .inr (4, [.ref q3, .ref q13, .ref q24])), (q24, .inl (ue_cI E, 28, .inl (fun _ => 0))), (q25, .inr (4, [.ref q3, .ref q13, .ref q26])), (q26, .inl (ue_cI E, 28, .inl (fun _ => 0))), (q27, .inr (3, [.ref q28, .int 0])), (q28, .inl (ue_cI E, 476, .inl (fun _ => 0))), (q29, .inl (ue_cP E, 3, .inr (.inr (.inr (.inr (va_up (va_up (va_up (fun _ => none) 0 (some q30)) 1 (some q32)) 2 (some q34))))))), (q30, .inr (3, [.ref q31, .int 0])), (q31, .inl (ue_cI E, 476, .inl (fun _ => 0))), (q32, .inr (3, [.ref q33, .int 0])), (q33, .inl (ue_cI E, 476, .inl (fun _ => 0))), (q34, .inr (3, [.ref q35, .int 0])), (q35, .inl (ue_cI E, 476, .inl (fun _ => 0))), (q36, .inl (ue_cI E, 48, .inl (fun _ => 0))), (q37, .inl (ue_cI E, 5, .inl (fun _ => 0)))] 0 ukX7 rfl (Nat.le_of_ble_eq_true rfl) kg_X7_92 rfl rfl rfl (Nat.le_of_ble_eq_true rfl) dX7_init_194 rfl ?_
  exact un_ret ⟨q1, q2, q3, q4, q5, q6, q7, q8, q9, q10, q11, q12, q13, q14, q15, q16, q17, q18, q19, q20, q21, q22, q23, q24, q25, q26, q27, q28, q29, q30, q31, q32, q33, q34, q35, q36, q37, rfl⟩ (Nat.le_of_ble_eq_true rfl) (Nat.le_of_ble_eq_true rfl) dX7_init_197
