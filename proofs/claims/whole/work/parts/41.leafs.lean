theorem wi_ob1 : Cond.instanceMethod Lib.objectInit ∈ z_TB := (z_tm 18 (by decide +kernel) (by decide +kernel))
theorem wi_ob2 : Cond.code Lib.objectInit ⟨#[0xb1]⟩ 1 none ∈ z_TB := (z_tm 19 (by decide +kernel) (by decide +kernel))
theorem wi_aI : Cond.arrayClass .int ∈ z_TB := (z_tm 49 (by decide +kernel) (by decide +kernel))
theorem wi_aZ : Cond.arrayClass .boolean ∈ z_TB := (z_tm 111 (by decide +kernel) (by decide +kernel))
theorem wi_X0_ob : Cond.methodLink RX0 3 Lib.objectInit ∈ z_TB := (z_tm 140 (by decide +kernel) (by decide +kernel))
theorem wi_X0_i : Cond.instanceMethod yX0_init ∈ z_TB := (z_tm 138 (by decide +kernel) (by decide +kernel))
theorem wi_X0_n : Cond.initialized yX0_init.cls ∈ z_TB := (z_tm 6 (by decide +kernel) (by decide +kernel))
theorem wi_X0_c : Cond.code yX0_init cX0_init 1 none ∈ z_TB := (z_tm 139 (by decide +kernel) (by decide +kernel))
theorem wi_X0_k : Cond.instantiable RX0 3 ∈ z_TB := (z_tm 136 (by decide +kernel) (by decide +kernel))
theorem wi_X0_y : yX0_init.name = "<init>" ∧ yX0_init.cls ≠ "java/lang/invoke/MethodHandle" ∧ yX0_init.cls ≠ "java/lang/invoke/VarHandle" ∧ (parseMethodDescriptor yX0_init.desc).map (fun d => d.parameters.length) = some 0 := by decide +kernel
theorem wi_X0_d : ∀ j, j < 3 → defaultValue (tyX0 j) = vp_V [.int 0, .null, .null] j := by decide +kernel
theorem wi_X1_ob : Cond.methodLink RX1 3 Lib.objectInit ∈ z_TB := (z_tm 55 (by decide +kernel) (by decide +kernel))
theorem wi_X1_i : Cond.instanceMethod yX1_init ∈ z_TB := (z_tm 53 (by decide +kernel) (by decide +kernel))
theorem wi_X1_n : Cond.initialized yX1_init.cls ∈ z_TB := (z_tm 3 (by decide +kernel) (by decide +kernel))
theorem wi_X1_c : Cond.code yX1_init cX1_init 1 none ∈ z_TB := (z_tm 54 (by decide +kernel) (by decide +kernel))
theorem wi_X1_k : Cond.instantiable RX1 6 ∈ z_TB := (z_tm 51 (by decide +kernel) (by decide +kernel))
theorem wi_X1_y : yX1_init.name = "<init>" ∧ yX1_init.cls ≠ "java/lang/invoke/MethodHandle" ∧ yX1_init.cls ≠ "java/lang/invoke/VarHandle" ∧ (parseMethodDescriptor yX1_init.desc).map (fun d => d.parameters.length) = some 0 := by decide +kernel
theorem wi_X1_d : ∀ j, j < 6 → defaultValue (tyX1 j) = vp_V [.int 0, .null, .null, .null, .null, .null] j := by decide +kernel
theorem wi_X2_ob : Cond.methodLink RX2 3 Lib.objectInit ∈ z_TB := (z_tm 86 (by decide +kernel) (by decide +kernel))
theorem wi_X2_i : Cond.instanceMethod yX2_init ∈ z_TB := (z_tm 84 (by decide +kernel) (by decide +kernel))
theorem wi_X2_n : Cond.initialized yX2_init.cls ∈ z_TB := (z_tm 4 (by decide +kernel) (by decide +kernel))
theorem wi_X2_c : Cond.code yX2_init cX2_init 1 none ∈ z_TB := (z_tm 85 (by decide +kernel) (by decide +kernel))
theorem wi_X2_k : Cond.instantiable RX2 6 ∈ z_TB := (z_tm 82 (by decide +kernel) (by decide +kernel))
theorem wi_X2_y : yX2_init.name = "<init>" ∧ yX2_init.cls ≠ "java/lang/invoke/MethodHandle" ∧ yX2_init.cls ≠ "java/lang/invoke/VarHandle" ∧ (parseMethodDescriptor yX2_init.desc).map (fun d => d.parameters.length) = some 0 := by decide +kernel
theorem wi_X2_d : ∀ j, j < 6 → defaultValue (tyX2 j) = vp_V [.int 0, .null, .null, .null, .null, .null] j := by decide +kernel
theorem wi_X3_ob : Cond.methodLink RX3 3 Lib.objectInit ∈ z_TB := (z_tm 25 (by decide +kernel) (by decide +kernel))
theorem wi_X3_i : Cond.instanceMethod yX3_init ∈ z_TB := (z_tm 23 (by decide +kernel) (by decide +kernel))
theorem wi_X3_n : Cond.initialized yX3_init.cls ∈ z_TB := (z_tm 2 (by decide +kernel) (by decide +kernel))
theorem wi_X3_c : Cond.code yX3_init cX3_init 1 none ∈ z_TB := (z_tm 24 (by decide +kernel) (by decide +kernel))
theorem wi_X3_k : Cond.instantiable RX3 6 ∈ z_TB := (z_tm 21 (by decide +kernel) (by decide +kernel))
theorem wi_X3_y : yX3_init.name = "<init>" ∧ yX3_init.cls ≠ "java/lang/invoke/MethodHandle" ∧ yX3_init.cls ≠ "java/lang/invoke/VarHandle" ∧ (parseMethodDescriptor yX3_init.desc).map (fun d => d.parameters.length) = some 0 := by decide +kernel
theorem wi_X3_d : ∀ j, j < 6 → defaultValue (tyX3 j) = vp_V [.int 0, .int 0, .int 0, .null, .null, .null] j := by decide +kernel
theorem wi_X4_ob : Cond.methodLink RX4 3 Lib.objectInit ∈ z_TB := (z_tm 159 (by decide +kernel) (by decide +kernel))
theorem wi_X4_i : Cond.instanceMethod yX4_init ∈ z_TB := (z_tm 157 (by decide +kernel) (by decide +kernel))
theorem wi_X4_n : Cond.initialized yX4_init.cls ∈ z_TB := (z_tm 7 (by decide +kernel) (by decide +kernel))
theorem wi_X4_c : Cond.code yX4_init cX4_init 1 none ∈ z_TB := (z_tm 158 (by decide +kernel) (by decide +kernel))
theorem wi_X4_k : Cond.instantiable RX4 15 ∈ z_TB := (z_tm 155 (by decide +kernel) (by decide +kernel))
theorem wi_X4_y : yX4_init.name = "<init>" ∧ yX4_init.cls ≠ "java/lang/invoke/MethodHandle" ∧ yX4_init.cls ≠ "java/lang/invoke/VarHandle" ∧ (parseMethodDescriptor yX4_init.desc).map (fun d => d.parameters.length) = some 0 := by decide +kernel
theorem wi_X4_d : ∀ j, j < 15 → defaultValue (tyX4 j) = vp_V [.int 0, .int 0, .int 0, .int 0, .int 0, .int 0, .null, .null, .null, .null, .null, .null, .null, .null, .null] j := by decide +kernel
theorem wi_X5_ob : Cond.methodLink RX5 3 Lib.objectInit ∈ z_TB := (z_tm 226 (by decide +kernel) (by decide +kernel))
theorem wi_X5_i : Cond.instanceMethod yX5_init ∈ z_TB := (z_tm 224 (by decide +kernel) (by decide +kernel))
theorem wi_X5_n : Cond.initialized yX5_init.cls ∈ z_TB := (z_tm 8 (by decide +kernel) (by decide +kernel))
theorem wi_X5_c : Cond.code yX5_init cX5_init 2 none ∈ z_TB := (z_tm 225 (by decide +kernel) (by decide +kernel))
theorem wi_X5_k : Cond.instantiable RX5 2 ∈ z_TB := (z_tm 222 (by decide +kernel) (by decide +kernel))
theorem wi_X5_y : yX5_init.name = "<init>" ∧ yX5_init.cls ≠ "java/lang/invoke/MethodHandle" ∧ yX5_init.cls ≠ "java/lang/invoke/VarHandle" ∧ (parseMethodDescriptor yX5_init.desc).map (fun d => d.parameters.length) = some 0 := by decide +kernel
theorem wi_X5_d : ∀ j, j < 2 → defaultValue (tyX5 j) = vp_V [.int 0, .null] j := by decide +kernel
theorem wi_X6_ob : Cond.methodLink RX6 3 Lib.objectInit ∈ z_TB := (z_tm 117 (by decide +kernel) (by decide +kernel))
theorem wi_X6_i : Cond.instanceMethod yX6_init ∈ z_TB := (z_tm 115 (by decide +kernel) (by decide +kernel))
theorem wi_X6_n : Cond.initialized yX6_init.cls ∈ z_TB := (z_tm 5 (by decide +kernel) (by decide +kernel))
theorem wi_X6_c : Cond.code yX6_init cX6_init 1 none ∈ z_TB := (z_tm 116 (by decide +kernel) (by decide +kernel))
theorem wi_X6_k : Cond.instantiable RX6 4 ∈ z_TB := (z_tm 113 (by decide +kernel) (by decide +kernel))
theorem wi_X6_y : yX6_init.name = "<init>" ∧ yX6_init.cls ≠ "java/lang/invoke/MethodHandle" ∧ yX6_init.cls ≠ "java/lang/invoke/VarHandle" ∧ (parseMethodDescriptor yX6_init.desc).map (fun d => d.parameters.length) = some 0 := by decide +kernel
theorem wi_X6_d : ∀ j, j < 4 → defaultValue (tyX6 j) = vp_V [.int 0, .null, .null, .null] j := by decide +kernel
theorem wi_X7_ob : Cond.methodLink RX7 3 Lib.objectInit ∈ z_TB := (z_tm 17 (by decide +kernel) (by decide +kernel))
theorem wi_X7_i : Cond.instanceMethod yX7_init ∈ z_TB := (z_tm 15 (by decide +kernel) (by decide +kernel))
theorem wi_X7_n : Cond.initialized yX7_init.cls ∈ z_TB := (z_tm 1 (by decide +kernel) (by decide +kernel))
theorem wi_X7_c : Cond.code yX7_init cX7_init 1 none ∈ z_TB := (z_tm 16 (by decide +kernel) (by decide +kernel))
theorem wi_X7_k : Cond.instantiable RX7 9 ∈ z_TB := (z_tm 13 (by decide +kernel) (by decide +kernel))
theorem wi_X7_y : yX7_init.name = "<init>" ∧ yX7_init.cls ≠ "java/lang/invoke/MethodHandle" ∧ yX7_init.cls ≠ "java/lang/invoke/VarHandle" ∧ (parseMethodDescriptor yX7_init.desc).map (fun d => d.parameters.length) = some 0 := by decide +kernel
theorem wi_X7_d : ∀ j, j < 9 → defaultValue (tyX7 j) = vp_V [.null, .null, .null, .null, .null, .null, .null, .null, .int 0] j := by decide +kernel
theorem wi_X8_ob : Cond.methodLink RX8 1 Lib.objectInit ∈ z_TB := (z_tm 537 (by decide +kernel) (by decide +kernel))
theorem wi_X8_i : Cond.instanceMethod yX8_init ∈ z_TB := (z_tm 535 (by decide +kernel) (by decide +kernel))
theorem wi_X8_n : Cond.initialized yX8_init.cls ∈ z_TB := (z_tm 9 (by decide +kernel) (by decide +kernel))
theorem wi_X8_c : Cond.code yX8_init cX8_init 1 none ∈ z_TB := (z_tm 536 (by decide +kernel) (by decide +kernel))
theorem wi_X8_k : Cond.instantiable RX8 32 ∈ z_TB := (z_tm 533 (by decide +kernel) (by decide +kernel))
theorem wi_X8_y : yX8_init.name = "<init>" ∧ yX8_init.cls ≠ "java/lang/invoke/MethodHandle" ∧ yX8_init.cls ≠ "java/lang/invoke/VarHandle" ∧ (parseMethodDescriptor yX8_init.desc).map (fun d => d.parameters.length) = some 0 := by decide +kernel
theorem wi_X8_d : ∀ j, j < 32 → defaultValue (tyX8 j) = vp_V [.null, .null, .int 0, .int 0, .int 0, .int 0, .null, .null, .int 0, .int 0, .null, .null, .null, .null, .null, .int 0, .null, .null, .null, .int 0, .null, .null, .null, .int 0, .null, .null, .int 0, .int 0, .int 0, .null, .null, .null] j := by decide +kernel
theorem wi_cl_L_7 : Cond.classLink RL 7 RX7 ∈ z_TB := (z_tm 12 (by decide +kernel) (by decide +kernel))
theorem wi_cl_X7_9 : Cond.classLink RX7 9 RX3 ∈ z_TB := (z_tm 20 (by decide +kernel) (by decide +kernel))
theorem wi_cl_X7_16 : Cond.classLink RX7 16 RX1 ∈ z_TB := (z_tm 50 (by decide +kernel) (by decide +kernel))
theorem wi_cl_X7_23 : Cond.classLink RX7 23 RX2 ∈ z_TB := (z_tm 81 (by decide +kernel) (by decide +kernel))
theorem wi_cl_X7_30 : Cond.classLink RX7 30 RX6 ∈ z_TB := (z_tm 112 (by decide +kernel) (by decide +kernel))
theorem wi_cl_X7_37 : Cond.classLink RX7 37 RX0 ∈ z_TB := (z_tm 135 (by decide +kernel) (by decide +kernel))
theorem wi_cl_X7_44 : Cond.classLink RX7 44 RX4 ∈ z_TB := (z_tm 154 (by decide +kernel) (by decide +kernel))
theorem wi_cl_X7_51 : Cond.classLink RX7 51 RX5 ∈ z_TB := (z_tm 221 (by decide +kernel) (by decide +kernel))
theorem wi_cl_X5_9 : Cond.classLink RX5 9 RX4 ∈ z_TB := (z_tm 227 (by decide +kernel) (by decide +kernel))
theorem wi_cl_L_10 : Cond.classLink RL 10 RX8 ∈ z_TB := (z_tm 532 (by decide +kernel) (by decide +kernel))
theorem wi_X7_past : Cond.methodLink RX7 53 yX5_init ∈ z_TB := (z_tm 223 (by decide +kernel) (by decide +kernel))
theorem wi_L_X7 : Cond.methodLink RL 9 yX7_init ∈ z_TB := (z_tm 14 (by decide +kernel) (by decide +kernel))
theorem wi_L_X8 : Cond.methodLink RL 12 yX8_init ∈ z_TB := (z_tm 534 (by decide +kernel) (by decide +kernel))
def k_X0 (cA : Nat → ClassId) (a : Nat → Nat) : va_W := [(a 0, .inr (0, [.int 0, .ref (a 1), .ref (a 2)])), (a 1, .inl (cA 0, 12, .inl (fun _ => 0))), (a 2, .inl (cA 0, 12, .inl (fun _ => 0)))]
set_option maxRecDepth 100000 in
set_option maxHeartbeats 4000000 in
theorem i_X0 : yM yX0_init cX0_init 1 { frames := 1, cells := 2, slots := 24, locals := 12 } 2 24 0 [.int 0, .null, .null] k_X0 := by
  refine yM_of (own := RX0) (by decide) rfl rfl (by decide) (fun Γ h0 hC => ?_)
  refine y_aload_n hC dX0_init_0 rfl ?_
  refine y_objI hC wi_X0_ob wi_ob1 wi_ob2 dX0_init_1 (by decide) ?_
  refine y_aload_n hC dX0_init_4 rfl ?_
  refine y_bipush hC dX0_init_5 kb_12 ?_
  refine y_newI (N := 12) hC wi_aI dX0_init_7 (by decide) (by decide) (fun q1 => ?_)
  show yK Γ 1 _ _ _ _ _ _ ([(h0, .inr (0, [.int 0, .null, .null])), (q1, .inl (y_cA Γ 0, 12, .inl (fun _ => 0)))] ++ y_W0 Γ)
  refine y_putF (ty := .array .int) hC wf_X0_9 tyX0 tyX0_ok nmX0 rfl rfl (by decide +kernel) rfl rfl (Nat.le_of_ble_eq_true rfl) dX0_init_9 ?_
  show yK Γ 1 _ _ _ _ _ _ ([(h0, .inr (0, [.int 0, .ref q1, .null])), (q1, .inl (y_cA Γ 0, 12, .inl (fun _ => 0)))] ++ y_W0 Γ)
  refine y_aload_n hC dX0_init_12 rfl ?_
  refine y_bipush hC dX0_init_13 kb_12 ?_
  refine y_newI (N := 12) hC wi_aI dX0_init_15 (by decide) (by decide) (fun q2 => ?_)
  show yK Γ 1 _ _ _ _ _ _ ([(h0, .inr (0, [.int 0, .ref q1, .null])), (q1, .inl (y_cA Γ 0, 12, .inl (fun _ => 0))), (q2, .inl (y_cA Γ 0, 12, .inl (fun _ => 0)))] ++ y_W0 Γ)
  refine y_putF (ty := .array .int) hC wf_X0_15 tyX0 tyX0_ok nmX0 rfl rfl (by decide +kernel) rfl rfl (Nat.le_of_ble_eq_true rfl) dX0_init_17 ?_
  show yK Γ 1 _ _ _ _ _ _ ([(h0, .inr (0, [.int 0, .ref q1, .ref q2])), (q1, .inl (y_cA Γ 0, 12, .inl (fun _ => 0))), (q2, .inl (y_cA Γ 0, 12, .inl (fun _ => 0)))] ++ y_W0 Γ)
  exact y_vret hC (fun j => ([h0, q1, q2] : List Nat).getD j 0) rfl rfl dX0_init_20
def k_X1 (cA : Nat → ClassId) (a : Nat → Nat) : va_W := [(a 0, .inr (1, [.int 0, .ref (a 1), .ref (a 2), .ref (a 3), .ref (a 4), .ref (a 5)])), (a 1, .inl (cA 0, 40, .inl (fun _ => 0))), (a 2, .inl (cA 0, 40, .inl (fun _ => 0))), (a 3, .inl (cA 0, 40, .inl (fun _ => 0))), (a 4, .inl (cA 0, 40, .inl (fun _ => 0))), (a 5, .inl (cA 0, 40, .inl (fun _ => 0)))]
set_option maxRecDepth 100000 in
set_option maxHeartbeats 4000000 in
theorem i_X1 : yM yX1_init cX1_init 1 { frames := 1, cells := 5, slots := 200, locals := 12 } 5 200 1 [.int 0, .null, .null, .null, .null, .null] k_X1 := by
  refine yM_of (own := RX1) (by decide) rfl rfl (by decide) (fun Γ h0 hC => ?_)
  refine y_aload_n hC dX1_init_0 rfl ?_
  refine y_objI hC wi_X1_ob wi_ob1 wi_ob2 dX1_init_1 (by decide) ?_
  refine y_aload_n hC dX1_init_4 rfl ?_
  refine y_bipush hC dX1_init_5 kb_40 ?_
  refine y_newI (N := 40) hC wi_aI dX1_init_7 (by decide) (by decide) (fun q1 => ?_)
  show yK Γ 1 _ _ _ _ _ _ ([(h0, .inr (1, [.int 0, .null, .null, .null, .null, .null])), (q1, .inl (y_cA Γ 0, 40, .inl (fun _ => 0)))] ++ y_W0 Γ)
  refine y_putF (ty := .array .int) hC wf_X1_9 tyX1 tyX1_ok nmX1 rfl rfl (by decide +kernel) rfl rfl (Nat.le_of_ble_eq_true rfl) dX1_init_9 ?_
  show yK Γ 1 _ _ _ _ _ _ ([(h0, .inr (1, [.int 0, .ref q1, .null, .null, .null, .null])), (q1, .inl (y_cA Γ 0, 40, .inl (fun _ => 0)))] ++ y_W0 Γ)
  refine y_aload_n hC dX1_init_12 rfl ?_
  refine y_bipush hC dX1_init_13 kb_40 ?_
  refine y_newI (N := 40) hC wi_aI dX1_init_15 (by decide) (by decide) (fun q2 => ?_)
  show yK Γ 1 _ _ _ _ _ _ ([(h0, .inr (1, [.int 0, .ref q1, .null, .null, .null, .null])), (q1, .inl (y_cA Γ 0, 40, .inl (fun _ => 0))), (q2, .inl (y_cA Γ 0, 40, .inl (fun _ => 0)))] ++ y_W0 Γ)
  refine y_putF (ty := .array .int) hC wf_X1_15 tyX1 tyX1_ok nmX1 rfl rfl (by decide +kernel) rfl rfl (Nat.le_of_ble_eq_true rfl) dX1_init_17 ?_
  show yK Γ 1 _ _ _ _ _ _ ([(h0, .inr (1, [.int 0, .ref q1, .ref q2, .null, .null, .null])), (q1, .inl (y_cA Γ 0, 40, .inl (fun _ => 0))), (q2, .inl (y_cA Γ 0, 40, .inl (fun _ => 0)))] ++ y_W0 Γ)
  refine y_aload_n hC dX1_init_20 rfl ?_
  refine y_bipush hC dX1_init_21 kb_40 ?_
  refine y_newI (N := 40) hC wi_aI dX1_init_23 (by decide) (by decide) (fun q3 => ?_)
  show yK Γ 1 _ _ _ _ _ _ ([(h0, .inr (1, [.int 0, .ref q1, .ref q2, .null, .null, .null])), (q1, .inl (y_cA Γ 0, 40, .inl (fun _ => 0))), (q2, .inl (y_cA Γ 0, 40, .inl (fun _ => 0))), (q3, .inl (y_cA Γ 0, 40, .inl (fun _ => 0)))] ++ y_W0 Γ)
  refine y_putF (ty := .array .int) hC wf_X1_18 tyX1 tyX1_ok nmX1 rfl rfl (by decide +kernel) rfl rfl (Nat.le_of_ble_eq_true rfl) dX1_init_25 ?_
  show yK Γ 1 _ _ _ _ _ _ ([(h0, .inr (1, [.int 0, .ref q1, .ref q2, .ref q3, .null, .null])), (q1, .inl (y_cA Γ 0, 40, .inl (fun _ => 0))), (q2, .inl (y_cA Γ 0, 40, .inl (fun _ => 0))), (q3, .inl (y_cA Γ 0, 40, .inl (fun _ => 0)))] ++ y_W0 Γ)
  refine y_aload_n hC dX1_init_28 rfl ?_
  refine y_bipush hC dX1_init_29 kb_40 ?_
  refine y_newI (N := 40) hC wi_aI dX1_init_31 (by decide) (by decide) (fun q4 => ?_)
  show yK Γ 1 _ _ _ _ _ _ ([(h0, .inr (1, [.int 0, .ref q1, .ref q2, .ref q3, .null, .null])), (q1, .inl (y_cA Γ 0, 40, .inl (fun _ => 0))), (q2, .inl (y_cA Γ 0, 40, .inl (fun _ => 0))), (q3, .inl (y_cA Γ 0, 40, .inl (fun _ => 0))), (q4, .inl (y_cA Γ 0, 40, .inl (fun _ => 0)))] ++ y_W0 Γ)
  refine y_putF (ty := .array .int) hC wf_X1_21 tyX1 tyX1_ok nmX1 rfl rfl (by decide +kernel) rfl rfl (Nat.le_of_ble_eq_true rfl) dX1_init_33 ?_
  show yK Γ 1 _ _ _ _ _ _ ([(h0, .inr (1, [.int 0, .ref q1, .ref q2, .ref q3, .ref q4, .null])), (q1, .inl (y_cA Γ 0, 40, .inl (fun _ => 0))), (q2, .inl (y_cA Γ 0, 40, .inl (fun _ => 0))), (q3, .inl (y_cA Γ 0, 40, .inl (fun _ => 0))), (q4, .inl (y_cA Γ 0, 40, .inl (fun _ => 0)))] ++ y_W0 Γ)
  refine y_aload_n hC dX1_init_36 rfl ?_
  refine y_bipush hC dX1_init_37 kb_40 ?_
  refine y_newI (N := 40) hC wi_aI dX1_init_39 (by decide) (by decide) (fun q5 => ?_)
  show yK Γ 1 _ _ _ _ _ _ ([(h0, .inr (1, [.int 0, .ref q1, .ref q2, .ref q3, .ref q4, .null])), (q1, .inl (y_cA Γ 0, 40, .inl (fun _ => 0))), (q2, .inl (y_cA Γ 0, 40, .inl (fun _ => 0))), (q3, .inl (y_cA Γ 0, 40, .inl (fun _ => 0))), (q4, .inl (y_cA Γ 0, 40, .inl (fun _ => 0))), (q5, .inl (y_cA Γ 0, 40, .inl (fun _ => 0)))] ++ y_W0 Γ)
  refine y_putF (ty := .array .int) hC wf_X1_24 tyX1 tyX1_ok nmX1 rfl rfl (by decide +kernel) rfl rfl (Nat.le_of_ble_eq_true rfl) dX1_init_41 ?_
  show yK Γ 1 _ _ _ _ _ _ ([(h0, .inr (1, [.int 0, .ref q1, .ref q2, .ref q3, .ref q4, .ref q5])), (q1, .inl (y_cA Γ 0, 40, .inl (fun _ => 0))), (q2, .inl (y_cA Γ 0, 40, .inl (fun _ => 0))), (q3, .inl (y_cA Γ 0, 40, .inl (fun _ => 0))), (q4, .inl (y_cA Γ 0, 40, .inl (fun _ => 0))), (q5, .inl (y_cA Γ 0, 40, .inl (fun _ => 0)))] ++ y_W0 Γ)
  exact y_vret hC (fun j => ([h0, q1, q2, q3, q4, q5] : List Nat).getD j 0) rfl rfl dX1_init_44
def k_X2 (cA : Nat → ClassId) (a : Nat → Nat) : va_W := [(a 0, .inr (2, [.int 0, .ref (a 1), .ref (a 2), .ref (a 3), .ref (a 4), .ref (a 5)])), (a 1, .inl (cA 0, 12, .inl (fun _ => 0))), (a 2, .inl (cA 0, 12, .inl (fun _ => 0))), (a 3, .inl (cA 1, 12, .inl (fun _ => 0))), (a 4, .inl (cA 0, 12, .inl (fun _ => 0))), (a 5, .inl (cA 0, 12, .inl (fun _ => 0)))]
set_option maxRecDepth 100000 in
set_option maxHeartbeats 4000000 in
theorem i_X2 : yM yX2_init cX2_init 1 { frames := 1, cells := 5, slots := 60, locals := 12 } 5 60 2 [.int 0, .null, .null, .null, .null, .null] k_X2 := by
  refine yM_of (own := RX2) (by decide) rfl rfl (by decide) (fun Γ h0 hC => ?_)
  refine y_aload_n hC dX2_init_0 rfl ?_
  refine y_objI hC wi_X2_ob wi_ob1 wi_ob2 dX2_init_1 (by decide) ?_
  refine y_aload_n hC dX2_init_4 rfl ?_
  refine y_bipush hC dX2_init_5 kb_12 ?_
  refine y_newI (N := 12) hC wi_aI dX2_init_7 (by decide) (by decide) (fun q1 => ?_)
  show yK Γ 1 _ _ _ _ _ _ ([(h0, .inr (2, [.int 0, .null, .null, .null, .null, .null])), (q1, .inl (y_cA Γ 0, 12, .inl (fun _ => 0)))] ++ y_W0 Γ)
  refine y_putF (ty := .array .int) hC wf_X2_9 tyX2 tyX2_ok nmX2 rfl rfl (by decide +kernel) rfl rfl (Nat.le_of_ble_eq_true rfl) dX2_init_9 ?_
  show yK Γ 1 _ _ _ _ _ _ ([(h0, .inr (2, [.int 0, .ref q1, .null, .null, .null, .null])), (q1, .inl (y_cA Γ 0, 12, .inl (fun _ => 0)))] ++ y_W0 Γ)
  refine y_aload_n hC dX2_init_12 rfl ?_
  refine y_bipush hC dX2_init_13 kb_12 ?_
  refine y_newI (N := 12) hC wi_aI dX2_init_15 (by decide) (by decide) (fun q2 => ?_)
  show yK Γ 1 _ _ _ _ _ _ ([(h0, .inr (2, [.int 0, .ref q1, .null, .null, .null, .null])), (q1, .inl (y_cA Γ 0, 12, .inl (fun _ => 0))), (q2, .inl (y_cA Γ 0, 12, .inl (fun _ => 0)))] ++ y_W0 Γ)
  refine y_putF (ty := .array .int) hC wf_X2_15 tyX2 tyX2_ok nmX2 rfl rfl (by decide +kernel) rfl rfl (Nat.le_of_ble_eq_true rfl) dX2_init_17 ?_
  show yK Γ 1 _ _ _ _ _ _ ([(h0, .inr (2, [.int 0, .ref q1, .ref q2, .null, .null, .null])), (q1, .inl (y_cA Γ 0, 12, .inl (fun _ => 0))), (q2, .inl (y_cA Γ 0, 12, .inl (fun _ => 0)))] ++ y_W0 Γ)
  refine y_aload_n hC dX2_init_20 rfl ?_
  refine y_bipush hC dX2_init_21 kb_12 ?_
  refine y_newZ (N := 12) hC wi_aZ dX2_init_23 (by decide) (by decide) (fun q3 => ?_)
  show yK Γ 1 _ _ _ _ _ _ ([(h0, .inr (2, [.int 0, .ref q1, .ref q2, .null, .null, .null])), (q1, .inl (y_cA Γ 0, 12, .inl (fun _ => 0))), (q2, .inl (y_cA Γ 0, 12, .inl (fun _ => 0))), (q3, .inl (y_cA Γ 1, 12, .inl (fun _ => 0)))] ++ y_W0 Γ)
  refine y_putF (ty := .array .boolean) hC wf_X2_18 tyX2 tyX2_ok nmX2 rfl rfl (by decide +kernel) rfl rfl (Nat.le_of_ble_eq_true rfl) dX2_init_25 ?_
  show yK Γ 1 _ _ _ _ _ _ ([(h0, .inr (2, [.int 0, .ref q1, .ref q2, .ref q3, .null, .null])), (q1, .inl (y_cA Γ 0, 12, .inl (fun _ => 0))), (q2, .inl (y_cA Γ 0, 12, .inl (fun _ => 0))), (q3, .inl (y_cA Γ 1, 12, .inl (fun _ => 0)))] ++ y_W0 Γ)
  refine y_aload_n hC dX2_init_28 rfl ?_
  refine y_bipush hC dX2_init_29 kb_12 ?_
  refine y_newI (N := 12) hC wi_aI dX2_init_31 (by decide) (by decide) (fun q4 => ?_)
  show yK Γ 1 _ _ _ _ _ _ ([(h0, .inr (2, [.int 0, .ref q1, .ref q2, .ref q3, .null, .null])), (q1, .inl (y_cA Γ 0, 12, .inl (fun _ => 0))), (q2, .inl (y_cA Γ 0, 12, .inl (fun _ => 0))), (q3, .inl (y_cA Γ 1, 12, .inl (fun _ => 0))), (q4, .inl (y_cA Γ 0, 12, .inl (fun _ => 0)))] ++ y_W0 Γ)
  refine y_putF (ty := .array .int) hC wf_X2_22 tyX2 tyX2_ok nmX2 rfl rfl (by decide +kernel) rfl rfl (Nat.le_of_ble_eq_true rfl) dX2_init_33 ?_
  show yK Γ 1 _ _ _ _ _ _ ([(h0, .inr (2, [.int 0, .ref q1, .ref q2, .ref q3, .ref q4, .null])), (q1, .inl (y_cA Γ 0, 12, .inl (fun _ => 0))), (q2, .inl (y_cA Γ 0, 12, .inl (fun _ => 0))), (q3, .inl (y_cA Γ 1, 12, .inl (fun _ => 0))), (q4, .inl (y_cA Γ 0, 12, .inl (fun _ => 0)))] ++ y_W0 Γ)
  refine y_aload_n hC dX2_init_36 rfl ?_
  refine y_bipush hC dX2_init_37 kb_12 ?_
  refine y_newI (N := 12) hC wi_aI dX2_init_39 (by decide) (by decide) (fun q5 => ?_)
  show yK Γ 1 _ _ _ _ _ _ ([(h0, .inr (2, [.int 0, .ref q1, .ref q2, .ref q3, .ref q4, .null])), (q1, .inl (y_cA Γ 0, 12, .inl (fun _ => 0))), (q2, .inl (y_cA Γ 0, 12, .inl (fun _ => 0))), (q3, .inl (y_cA Γ 1, 12, .inl (fun _ => 0))), (q4, .inl (y_cA Γ 0, 12, .inl (fun _ => 0))), (q5, .inl (y_cA Γ 0, 12, .inl (fun _ => 0)))] ++ y_W0 Γ)
  refine y_putF (ty := .array .int) hC wf_X2_25 tyX2 tyX2_ok nmX2 rfl rfl (by decide +kernel) rfl rfl (Nat.le_of_ble_eq_true rfl) dX2_init_41 ?_
  show yK Γ 1 _ _ _ _ _ _ ([(h0, .inr (2, [.int 0, .ref q1, .ref q2, .ref q3, .ref q4, .ref q5])), (q1, .inl (y_cA Γ 0, 12, .inl (fun _ => 0))), (q2, .inl (y_cA Γ 0, 12, .inl (fun _ => 0))), (q3, .inl (y_cA Γ 1, 12, .inl (fun _ => 0))), (q4, .inl (y_cA Γ 0, 12, .inl (fun _ => 0))), (q5, .inl (y_cA Γ 0, 12, .inl (fun _ => 0)))] ++ y_W0 Γ)
  exact y_vret hC (fun j => ([h0, q1, q2, q3, q4, q5] : List Nat).getD j 0) rfl rfl dX2_init_44
def k_X3 (cA : Nat → ClassId) (a : Nat → Nat) : va_W := [(a 0, .inr (3, [.int 0, .int 0, .int 0, .ref (a 1), .ref (a 2), .ref (a 3)])), (a 1, .inl (cA 0, 15, .inl (fun _ => 0))), (a 2, .inl (cA 0, 15, .inl (fun _ => 0))), (a 3, .inl (cA 0, 10, .inl (fun _ => 0)))]
set_option maxRecDepth 100000 in
set_option maxHeartbeats 4000000 in
theorem i_X3 : yM yX3_init cX3_init 1 { frames := 1, cells := 3, slots := 40, locals := 12 } 3 40 3 [.int 0, .int 0, .int 0, .null, .null, .null] k_X3 := by
  refine yM_of (own := RX3) (by decide) rfl rfl (by decide) (fun Γ h0 hC => ?_)
  refine y_aload_n hC dX3_init_0 rfl ?_
  refine y_objI hC wi_X3_ob wi_ob1 wi_ob2 dX3_init_1 (by decide) ?_
  refine y_aload_n hC dX3_init_4 rfl ?_
  refine y_bipush hC dX3_init_5 kb_15 ?_
  refine y_newI (N := 15) hC wi_aI dX3_init_7 (by decide) (by decide) (fun q1 => ?_)
  show yK Γ 1 _ _ _ _ _ _ ([(h0, .inr (3, [.int 0, .int 0, .int 0, .null, .null, .null])), (q1, .inl (y_cA Γ 0, 15, .inl (fun _ => 0)))] ++ y_W0 Γ)
  refine y_putF (ty := .array .int) hC wf_X3_9 tyX3 tyX3_ok nmX3 rfl rfl (by decide +kernel) rfl rfl (Nat.le_of_ble_eq_true rfl) dX3_init_9 ?_
  show yK Γ 1 _ _ _ _ _ _ ([(h0, .inr (3, [.int 0, .int 0, .int 0, .ref q1, .null, .null])), (q1, .inl (y_cA Γ 0, 15, .inl (fun _ => 0)))] ++ y_W0 Γ)
  refine y_aload_n hC dX3_init_12 rfl ?_
  refine y_bipush hC dX3_init_13 kb_15 ?_
  refine y_newI (N := 15) hC wi_aI dX3_init_15 (by decide) (by decide) (fun q2 => ?_)
  show yK Γ 1 _ _ _ _ _ _ ([(h0, .inr (3, [.int 0, .int 0, .int 0, .ref q1, .null, .null])), (q1, .inl (y_cA Γ 0, 15, .inl (fun _ => 0))), (q2, .inl (y_cA Γ 0, 15, .inl (fun _ => 0)))] ++ y_W0 Γ)
  refine y_putF (ty := .array .int) hC wf_X3_15 tyX3 tyX3_ok nmX3 rfl rfl (by decide +kernel) rfl rfl (Nat.le_of_ble_eq_true rfl) dX3_init_17 ?_
  show yK Γ 1 _ _ _ _ _ _ ([(h0, .inr (3, [.int 0, .int 0, .int 0, .ref q1, .ref q2, .null])), (q1, .inl (y_cA Γ 0, 15, .inl (fun _ => 0))), (q2, .inl (y_cA Γ 0, 15, .inl (fun _ => 0)))] ++ y_W0 Γ)
  refine y_aload_n hC dX3_init_20 rfl ?_
  refine y_bipush hC dX3_init_21 kb_10 ?_
  refine y_newI (N := 10) hC wi_aI dX3_init_23 (by decide) (by decide) (fun q3 => ?_)
  show yK Γ 1 _ _ _ _ _ _ ([(h0, .inr (3, [.int 0, .int 0, .int 0, .ref q1, .ref q2, .null])), (q1, .inl (y_cA Γ 0, 15, .inl (fun _ => 0))), (q2, .inl (y_cA Γ 0, 15, .inl (fun _ => 0))), (q3, .inl (y_cA Γ 0, 10, .inl (fun _ => 0)))] ++ y_W0 Γ)
  refine y_putF (ty := .array .int) hC wf_X3_18 tyX3 tyX3_ok nmX3 rfl rfl (by decide +kernel) rfl rfl (Nat.le_of_ble_eq_true rfl) dX3_init_25 ?_
  show yK Γ 1 _ _ _ _ _ _ ([(h0, .inr (3, [.int 0, .int 0, .int 0, .ref q1, .ref q2, .ref q3])), (q1, .inl (y_cA Γ 0, 15, .inl (fun _ => 0))), (q2, .inl (y_cA Γ 0, 15, .inl (fun _ => 0))), (q3, .inl (y_cA Γ 0, 10, .inl (fun _ => 0)))] ++ y_W0 Γ)
  exact y_vret hC (fun j => ([h0, q1, q2, q3] : List Nat).getD j 0) rfl rfl dX3_init_28
def k_X4 (cA : Nat → ClassId) (a : Nat → Nat) : va_W := [(a 0, .inr (4, [.int 0, .int 0, .int 0, .int 1, .int 0, .int 0, .ref (a 1), .ref (a 2), .ref (a 3), .ref (a 4), .ref (a 5), .ref (a 6), .ref (a 7), .ref (a 8), .ref (a 9)])), (a 1, .inl (cA 0, 40, .inl (fun _ => 0))), (a 2, .inl (cA 0, 40, .inl (fun _ => 0))), (a 3, .inl (cA 0, 8, .inl (fun _ => 0))), (a 4, .inl (cA 1, 15, .inl (fun _ => 0))), (a 5, .inl (cA 0, 4, .inl (fun _ => 0))), (a 6, .inl (cA 0, 4, .inl (fun _ => 0))), (a 7, .inl (cA 0, 12, .inl (fun _ => 0))), (a 8, .inl (cA 1, 12, .inl (fun _ => 0))), (a 9, .inl (cA 1, 12, .inl (fun _ => 0)))]
set_option maxRecDepth 100000 in
set_option maxHeartbeats 4000000 in
theorem i_X4 : yM yX4_init cX4_init 1 { frames := 1, cells := 9, slots := 147, locals := 12 } 9 147 4 [.int 0, .int 0, .int 0, .int 0, .int 0, .int 0, .null, .null, .null, .null, .null, .null, .null, .null, .null] k_X4 := by
  refine yM_of (own := RX4) (by decide) rfl rfl (by decide) (fun Γ h0 hC => ?_)
  refine y_aload_n hC dX4_init_0 rfl ?_
  refine y_objI hC wi_X4_ob wi_ob1 wi_ob2 dX4_init_1 (by decide) ?_
  refine y_aload_n hC dX4_init_4 rfl ?_
  refine y_iconst hC dX4_init_5 ki_1 ?_
  refine y_puti hC wp_X4_9 (Nat.le_of_ble_eq_true rfl) dX4_init_6 ?_
  show yK Γ 1 _ _ _ _ _ _ ([(h0, .inr (4, [.int 0, .int 0, .int 0, .int 1, .int 0, .int 0, .null, .null, .null, .null, .null, .null, .null, .null, .null]))] ++ y_W0 Γ)
  refine y_aload_n hC dX4_init_9 rfl ?_
  refine y_bipush hC dX4_init_10 kb_40 ?_
  refine y_newI (N := 40) hC wi_aI dX4_init_12 (by decide) (by decide) (fun q1 => ?_)
  show yK Γ 1 _ _ _ _ _ _ ([(h0, .inr (4, [.int 0, .int 0, .int 0, .int 1, .int 0, .int 0, .null, .null, .null, .null, .null, .null, .null, .null, .null])), (q1, .inl (y_cA Γ 0, 40, .inl (fun _ => 0)))] ++ y_W0 Γ)
  refine y_putF (ty := .array .int) hC wf_X4_15 tyX4 tyX4_ok nmX4 rfl rfl (by decide +kernel) rfl rfl (Nat.le_of_ble_eq_true rfl) dX4_init_14 ?_
  show yK Γ 1 _ _ _ _ _ _ ([(h0, .inr (4, [.int 0, .int 0, .int 0, .int 1, .int 0, .int 0, .ref q1, .null, .null, .null, .null, .null, .null, .null, .null])), (q1, .inl (y_cA Γ 0, 40, .inl (fun _ => 0)))] ++ y_W0 Γ)
  refine y_aload_n hC dX4_init_17 rfl ?_
  refine y_bipush hC dX4_init_18 kb_40 ?_
  refine y_newI (N := 40) hC wi_aI dX4_init_20 (by decide) (by decide) (fun q2 => ?_)
  show yK Γ 1 _ _ _ _ _ _ ([(h0, .inr (4, [.int 0, .int 0, .int 0, .int 1, .int 0, .int 0, .ref q1, .null, .null, .null, .null, .null, .null, .null, .null])), (q1, .inl (y_cA Γ 0, 40, .inl (fun _ => 0))), (q2, .inl (y_cA Γ 0, 40, .inl (fun _ => 0)))] ++ y_W0 Γ)
  refine y_putF (ty := .array .int) hC wf_X4_19 tyX4 tyX4_ok nmX4 rfl rfl (by decide +kernel) rfl rfl (Nat.le_of_ble_eq_true rfl) dX4_init_22 ?_
  show yK Γ 1 _ _ _ _ _ _ ([(h0, .inr (4, [.int 0, .int 0, .int 0, .int 1, .int 0, .int 0, .ref q1, .ref q2, .null, .null, .null, .null, .null, .null, .null])), (q1, .inl (y_cA Γ 0, 40, .inl (fun _ => 0))), (q2, .inl (y_cA Γ 0, 40, .inl (fun _ => 0)))] ++ y_W0 Γ)
  refine y_aload_n hC dX4_init_25 rfl ?_
  refine y_bipush hC dX4_init_26 kb_8 ?_
  refine y_newI (N := 8) hC wi_aI dX4_init_28 (by decide) (by decide) (fun q3 => ?_)
  show yK Γ 1 _ _ _ _ _ _ ([(h0, .inr (4, [.int 0, .int 0, .int 0, .int 1, .int 0, .int 0, .ref q1, .ref q2, .null, .null, .null, .null, .null, .null, .null])), (q1, .inl (y_cA Γ 0, 40, .inl (fun _ => 0))), (q2, .inl (y_cA Γ 0, 40, .inl (fun _ => 0))), (q3, .inl (y_cA Γ 0, 8, .inl (fun _ => 0)))] ++ y_W0 Γ)
  refine y_putF (ty := .array .int) hC wf_X4_22 tyX4 tyX4_ok nmX4 rfl rfl (by decide +kernel) rfl rfl (Nat.le_of_ble_eq_true rfl) dX4_init_30 ?_
  show yK Γ 1 _ _ _ _ _ _ ([(h0, .inr (4, [.int 0, .int 0, .int 0, .int 1, .int 0, .int 0, .ref q1, .ref q2, .ref q3, .null, .null, .null, .null, .null, .null])), (q1, .inl (y_cA Γ 0, 40, .inl (fun _ => 0))), (q2, .inl (y_cA Γ 0, 40, .inl (fun _ => 0))), (q3, .inl (y_cA Γ 0, 8, .inl (fun _ => 0)))] ++ y_W0 Γ)
  refine y_aload_n hC dX4_init_33 rfl ?_
  refine y_bipush hC dX4_init_34 kb_15 ?_
  refine y_newZ (N := 15) hC wi_aZ dX4_init_36 (by decide) (by decide) (fun q4 => ?_)
  show yK Γ 1 _ _ _ _ _ _ ([(h0, .inr (4, [.int 0, .int 0, .int 0, .int 1, .int 0, .int 0, .ref q1, .ref q2, .ref q3, .null, .null, .null, .null, .null, .null])), (q1, .inl (y_cA Γ 0, 40, .inl (fun _ => 0))), (q2, .inl (y_cA Γ 0, 40, .inl (fun _ => 0))), (q3, .inl (y_cA Γ 0, 8, .inl (fun _ => 0))), (q4, .inl (y_cA Γ 1, 15, .inl (fun _ => 0)))] ++ y_W0 Γ)
  refine y_putF (ty := .array .boolean) hC wf_X4_25 tyX4 tyX4_ok nmX4 rfl rfl (by decide +kernel) rfl rfl (Nat.le_of_ble_eq_true rfl) dX4_init_38 ?_
  show yK Γ 1 _ _ _ _ _ _ ([(h0, .inr (4, [.int 0, .int 0, .int 0, .int 1, .int 0, .int 0, .ref q1, .ref q2, .ref q3, .ref q4, .null, .null, .null, .null, .null])), (q1, .inl (y_cA Γ 0, 40, .inl (fun _ => 0))), (q2, .inl (y_cA Γ 0, 40, .inl (fun _ => 0))), (q3, .inl (y_cA Γ 0, 8, .inl (fun _ => 0))), (q4, .inl (y_cA Γ 1, 15, .inl (fun _ => 0)))] ++ y_W0 Γ)
  refine y_aload_n hC dX4_init_41 rfl ?_
  refine y_iconst hC dX4_init_42 ki_4 ?_
  refine y_newI (N := 4) hC wi_aI dX4_init_43 (by decide) (by decide) (fun q5 => ?_)
  show yK Γ 1 _ _ _ _ _ _ ([(h0, .inr (4, [.int 0, .int 0, .int 0, .int 1, .int 0, .int 0, .ref q1, .ref q2, .ref q3, .ref q4, .null, .null, .null, .null, .null])), (q1, .inl (y_cA Γ 0, 40, .inl (fun _ => 0))), (q2, .inl (y_cA Γ 0, 40, .inl (fun _ => 0))), (q3, .inl (y_cA Γ 0, 8, .inl (fun _ => 0))), (q4, .inl (y_cA Γ 1, 15, .inl (fun _ => 0))), (q5, .inl (y_cA Γ 0, 4, .inl (fun _ => 0)))] ++ y_W0 Γ)
  refine y_putF (ty := .array .int) hC wf_X4_29 tyX4 tyX4_ok nmX4 rfl rfl (by decide +kernel) rfl rfl (Nat.le_of_ble_eq_true rfl) dX4_init_45 ?_
  show yK Γ 1 _ _ _ _ _ _ ([(h0, .inr (4, [.int 0, .int 0, .int 0, .int 1, .int 0, .int 0, .ref q1, .ref q2, .ref q3, .ref q4, .ref q5, .null, .null, .null, .null])), (q1, .inl (y_cA Γ 0, 40, .inl (fun _ => 0))), (q2, .inl (y_cA Γ 0, 40, .inl (fun _ => 0))), (q3, .inl (y_cA Γ 0, 8, .inl (fun _ => 0))), (q4, .inl (y_cA Γ 1, 15, .inl (fun _ => 0))), (q5, .inl (y_cA Γ 0, 4, .inl (fun _ => 0)))] ++ y_W0 Γ)
  refine y_aload_n hC dX4_init_48 rfl ?_
  refine y_iconst hC dX4_init_49 ki_4 ?_
  refine y_newI (N := 4) hC wi_aI dX4_init_50 (by decide) (by decide) (fun q6 => ?_)
  show yK Γ 1 _ _ _ _ _ _ ([(h0, .inr (4, [.int 0, .int 0, .int 0, .int 1, .int 0, .int 0, .ref q1, .ref q2, .ref q3, .ref q4, .ref q5, .null, .null, .null, .null])), (q1, .inl (y_cA Γ 0, 40, .inl (fun _ => 0))), (q2, .inl (y_cA Γ 0, 40, .inl (fun _ => 0))), (q3, .inl (y_cA Γ 0, 8, .inl (fun _ => 0))), (q4, .inl (y_cA Γ 1, 15, .inl (fun _ => 0))), (q5, .inl (y_cA Γ 0, 4, .inl (fun _ => 0))), (q6, .inl (y_cA Γ 0, 4, .inl (fun _ => 0)))] ++ y_W0 Γ)
  refine y_putF (ty := .array .int) hC wf_X4_32 tyX4 tyX4_ok nmX4 rfl rfl (by decide +kernel) rfl rfl (Nat.le_of_ble_eq_true rfl) dX4_init_52 ?_
  show yK Γ 1 _ _ _ _ _ _ ([(h0, .inr (4, [.int 0, .int 0, .int 0, .int 1, .int 0, .int 0, .ref q1, .ref q2, .ref q3, .ref q4, .ref q5, .ref q6, .null, .null, .null])), (q1, .inl (y_cA Γ 0, 40, .inl (fun _ => 0))), (q2, .inl (y_cA Γ 0, 40, .inl (fun _ => 0))), (q3, .inl (y_cA Γ 0, 8, .inl (fun _ => 0))), (q4, .inl (y_cA Γ 1, 15, .inl (fun _ => 0))), (q5, .inl (y_cA Γ 0, 4, .inl (fun _ => 0))), (q6, .inl (y_cA Γ 0, 4, .inl (fun _ => 0)))] ++ y_W0 Γ)
  refine y_aload_n hC dX4_init_55 rfl ?_
  refine y_bipush hC dX4_init_56 kb_12 ?_
  refine y_newI (N := 12) hC wi_aI dX4_init_58 (by decide) (by decide) (fun q7 => ?_)
  show yK Γ 1 _ _ _ _ _ _ ([(h0, .inr (4, [.int 0, .int 0, .int 0, .int 1, .int 0, .int 0, .ref q1, .ref q2, .ref q3, .ref q4, .ref q5, .ref q6, .null, .null, .null])), (q1, .inl (y_cA Γ 0, 40, .inl (fun _ => 0))), (q2, .inl (y_cA Γ 0, 40, .inl (fun _ => 0))), (q3, .inl (y_cA Γ 0, 8, .inl (fun _ => 0))), (q4, .inl (y_cA Γ 1, 15, .inl (fun _ => 0))), (q5, .inl (y_cA Γ 0, 4, .inl (fun _ => 0))), (q6, .inl (y_cA Γ 0, 4, .inl (fun _ => 0))), (q7, .inl (y_cA Γ 0, 12, .inl (fun _ => 0)))] ++ y_W0 Γ)
  refine y_putF (ty := .array .int) hC wf_X4_35 tyX4 tyX4_ok nmX4 rfl rfl (by decide +kernel) rfl rfl (Nat.le_of_ble_eq_true rfl) dX4_init_60 ?_
  show yK Γ 1 _ _ _ _ _ _ ([(h0, .inr (4, [.int 0, .int 0, .int 0, .int 1, .int 0, .int 0, .ref q1, .ref q2, .ref q3, .ref q4, .ref q5, .ref q6, .ref q7, .null, .null])), (q1, .inl (y_cA Γ 0, 40, .inl (fun _ => 0))), (q2, .inl (y_cA Γ 0, 40, .inl (fun _ => 0))), (q3, .inl (y_cA Γ 0, 8, .inl (fun _ => 0))), (q4, .inl (y_cA Γ 1, 15, .inl (fun _ => 0))), (q5, .inl (y_cA Γ 0, 4, .inl (fun _ => 0))), (q6, .inl (y_cA Γ 0, 4, .inl (fun _ => 0))), (q7, .inl (y_cA Γ 0, 12, .inl (fun _ => 0)))] ++ y_W0 Γ)
  refine y_aload_n hC dX4_init_63 rfl ?_
  refine y_bipush hC dX4_init_64 kb_12 ?_
  refine y_newZ (N := 12) hC wi_aZ dX4_init_66 (by decide) (by decide) (fun q8 => ?_)
  show yK Γ 1 _ _ _ _ _ _ ([(h0, .inr (4, [.int 0, .int 0, .int 0, .int 1, .int 0, .int 0, .ref q1, .ref q2, .ref q3, .ref q4, .ref q5, .ref q6, .ref q7, .null, .null])), (q1, .inl (y_cA Γ 0, 40, .inl (fun _ => 0))), (q2, .inl (y_cA Γ 0, 40, .inl (fun _ => 0))), (q3, .inl (y_cA Γ 0, 8, .inl (fun _ => 0))), (q4, .inl (y_cA Γ 1, 15, .inl (fun _ => 0))), (q5, .inl (y_cA Γ 0, 4, .inl (fun _ => 0))), (q6, .inl (y_cA Γ 0, 4, .inl (fun _ => 0))), (q7, .inl (y_cA Γ 0, 12, .inl (fun _ => 0))), (q8, .inl (y_cA Γ 1, 12, .inl (fun _ => 0)))] ++ y_W0 Γ)
  refine y_putF (ty := .array .boolean) hC wf_X4_38 tyX4 tyX4_ok nmX4 rfl rfl (by decide +kernel) rfl rfl (Nat.le_of_ble_eq_true rfl) dX4_init_68 ?_
  show yK Γ 1 _ _ _ _ _ _ ([(h0, .inr (4, [.int 0, .int 0, .int 0, .int 1, .int 0, .int 0, .ref q1, .ref q2, .ref q3, .ref q4, .ref q5, .ref q6, .ref q7, .ref q8, .null])), (q1, .inl (y_cA Γ 0, 40, .inl (fun _ => 0))), (q2, .inl (y_cA Γ 0, 40, .inl (fun _ => 0))), (q3, .inl (y_cA Γ 0, 8, .inl (fun _ => 0))), (q4, .inl (y_cA Γ 1, 15, .inl (fun _ => 0))), (q5, .inl (y_cA Γ 0, 4, .inl (fun _ => 0))), (q6, .inl (y_cA Γ 0, 4, .inl (fun _ => 0))), (q7, .inl (y_cA Γ 0, 12, .inl (fun _ => 0))), (q8, .inl (y_cA Γ 1, 12, .inl (fun _ => 0)))] ++ y_W0 Γ)
  refine y_aload_n hC dX4_init_71 rfl ?_
  refine y_bipush hC dX4_init_72 kb_12 ?_
  refine y_newZ (N := 12) hC wi_aZ dX4_init_74 (by decide) (by decide) (fun q9 => ?_)
  show yK Γ 1 _ _ _ _ _ _ ([(h0, .inr (4, [.int 0, .int 0, .int 0, .int 1, .int 0, .int 0, .ref q1, .ref q2, .ref q3, .ref q4, .ref q5, .ref q6, .ref q7, .ref q8, .null])), (q1, .inl (y_cA Γ 0, 40, .inl (fun _ => 0))), (q2, .inl (y_cA Γ 0, 40, .inl (fun _ => 0))), (q3, .inl (y_cA Γ 0, 8, .inl (fun _ => 0))), (q4, .inl (y_cA Γ 1, 15, .inl (fun _ => 0))), (q5, .inl (y_cA Γ 0, 4, .inl (fun _ => 0))), (q6, .inl (y_cA Γ 0, 4, .inl (fun _ => 0))), (q7, .inl (y_cA Γ 0, 12, .inl (fun _ => 0))), (q8, .inl (y_cA Γ 1, 12, .inl (fun _ => 0))), (q9, .inl (y_cA Γ 1, 12, .inl (fun _ => 0)))] ++ y_W0 Γ)
  refine y_putF (ty := .array .boolean) hC wf_X4_41 tyX4 tyX4_ok nmX4 rfl rfl (by decide +kernel) rfl rfl (Nat.le_of_ble_eq_true rfl) dX4_init_76 ?_
  show yK Γ 1 _ _ _ _ _ _ ([(h0, .inr (4, [.int 0, .int 0, .int 0, .int 1, .int 0, .int 0, .ref q1, .ref q2, .ref q3, .ref q4, .ref q5, .ref q6, .ref q7, .ref q8, .ref q9])), (q1, .inl (y_cA Γ 0, 40, .inl (fun _ => 0))), (q2, .inl (y_cA Γ 0, 40, .inl (fun _ => 0))), (q3, .inl (y_cA Γ 0, 8, .inl (fun _ => 0))), (q4, .inl (y_cA Γ 1, 15, .inl (fun _ => 0))), (q5, .inl (y_cA Γ 0, 4, .inl (fun _ => 0))), (q6, .inl (y_cA Γ 0, 4, .inl (fun _ => 0))), (q7, .inl (y_cA Γ 0, 12, .inl (fun _ => 0))), (q8, .inl (y_cA Γ 1, 12, .inl (fun _ => 0))), (q9, .inl (y_cA Γ 1, 12, .inl (fun _ => 0)))] ++ y_W0 Γ)
  exact y_vret hC (fun j => ([h0, q1, q2, q3, q4, q5, q6, q7, q8, q9] : List Nat).getD j 0) rfl rfl dX4_init_79
def k_X6 (cA : Nat → ClassId) (a : Nat → Nat) : va_W := [(a 0, .inr (6, [.int 0, .ref (a 1), .ref (a 2), .ref (a 3)])), (a 1, .inl (cA 0, 12, .inl (fun _ => 0))), (a 2, .inl (cA 0, 12, .inl (fun _ => 0))), (a 3, .inl (cA 1, 12, .inl (fun _ => 0)))]
set_option maxRecDepth 100000 in
set_option maxHeartbeats 4000000 in
theorem i_X6 : yM yX6_init cX6_init 1 { frames := 1, cells := 3, slots := 36, locals := 12 } 3 36 6 [.int 0, .null, .null, .null] k_X6 := by
  refine yM_of (own := RX6) (by decide) rfl rfl (by decide) (fun Γ h0 hC => ?_)
  refine y_aload_n hC dX6_init_0 rfl ?_
  refine y_objI hC wi_X6_ob wi_ob1 wi_ob2 dX6_init_1 (by decide) ?_
  refine y_aload_n hC dX6_init_4 rfl ?_
  refine y_bipush hC dX6_init_5 kb_12 ?_
  refine y_newI (N := 12) hC wi_aI dX6_init_7 (by decide) (by decide) (fun q1 => ?_)
  show yK Γ 1 _ _ _ _ _ _ ([(h0, .inr (6, [.int 0, .null, .null, .null])), (q1, .inl (y_cA Γ 0, 12, .inl (fun _ => 0)))] ++ y_W0 Γ)
  refine y_putF (ty := .array .int) hC wf_X6_9 tyX6 tyX6_ok nmX6 rfl rfl (by decide +kernel) rfl rfl (Nat.le_of_ble_eq_true rfl) dX6_init_9 ?_
  show yK Γ 1 _ _ _ _ _ _ ([(h0, .inr (6, [.int 0, .ref q1, .null, .null])), (q1, .inl (y_cA Γ 0, 12, .inl (fun _ => 0)))] ++ y_W0 Γ)
  refine y_aload_n hC dX6_init_12 rfl ?_
  refine y_bipush hC dX6_init_13 kb_12 ?_
  refine y_newI (N := 12) hC wi_aI dX6_init_15 (by decide) (by decide) (fun q2 => ?_)
  show yK Γ 1 _ _ _ _ _ _ ([(h0, .inr (6, [.int 0, .ref q1, .null, .null])), (q1, .inl (y_cA Γ 0, 12, .inl (fun _ => 0))), (q2, .inl (y_cA Γ 0, 12, .inl (fun _ => 0)))] ++ y_W0 Γ)
  refine y_putF (ty := .array .int) hC wf_X6_15 tyX6 tyX6_ok nmX6 rfl rfl (by decide +kernel) rfl rfl (Nat.le_of_ble_eq_true rfl) dX6_init_17 ?_
  show yK Γ 1 _ _ _ _ _ _ ([(h0, .inr (6, [.int 0, .ref q1, .ref q2, .null])), (q1, .inl (y_cA Γ 0, 12, .inl (fun _ => 0))), (q2, .inl (y_cA Γ 0, 12, .inl (fun _ => 0)))] ++ y_W0 Γ)
  refine y_aload_n hC dX6_init_20 rfl ?_
  refine y_bipush hC dX6_init_21 kb_12 ?_
  refine y_newZ (N := 12) hC wi_aZ dX6_init_23 (by decide) (by decide) (fun q3 => ?_)
  show yK Γ 1 _ _ _ _ _ _ ([(h0, .inr (6, [.int 0, .ref q1, .ref q2, .null])), (q1, .inl (y_cA Γ 0, 12, .inl (fun _ => 0))), (q2, .inl (y_cA Γ 0, 12, .inl (fun _ => 0))), (q3, .inl (y_cA Γ 1, 12, .inl (fun _ => 0)))] ++ y_W0 Γ)
  refine y_putF (ty := .array .boolean) hC wf_X6_18 tyX6 tyX6_ok nmX6 rfl rfl (by decide +kernel) rfl rfl (Nat.le_of_ble_eq_true rfl) dX6_init_25 ?_
  show yK Γ 1 _ _ _ _ _ _ ([(h0, .inr (6, [.int 0, .ref q1, .ref q2, .ref q3])), (q1, .inl (y_cA Γ 0, 12, .inl (fun _ => 0))), (q2, .inl (y_cA Γ 0, 12, .inl (fun _ => 0))), (q3, .inl (y_cA Γ 1, 12, .inl (fun _ => 0)))] ++ y_W0 Γ)
  exact y_vret hC (fun j => ([h0, q1, q2, q3] : List Nat).getD j 0) rfl rfl dX6_init_28
def k_X8 (cA : Nat → ClassId) (a : Nat → Nat) : va_W := [(a 0, .inr (8, [.ref (a 1), .ref (a 2), .int 0, .int 1, .int 0, .int 0, .ref (a 3), .ref (a 4), .int 0, .int 0, .ref (a 5), .ref (a 6), .ref (a 7), .ref (a 8), .ref (a 9), .int 0, .ref (a 10), .ref (a 11), .ref (a 12), .int 0, .ref (a 13), .ref (a 14), .ref (a 15), .int 0, .ref (a 16), .ref (a 17), .int 0, .int 0, .int 0, .ref (a 18), .ref (a 19), .ref (a 20)])), (a 1, .inl (cA 0, 192, .inl (fun _ => 0))), (a 2, .inl (cA 0, 1536, .inl (fun _ => 0))), (a 3, .inl (cA 0, 15, .inl (fun _ => 0))), (a 4, .inl (cA 0, 15, .inl (fun _ => 0))), (a 5, .inl (cA 0, 40, .inl (fun _ => 0))), (a 6, .inl (cA 0, 40, .inl (fun _ => 0))), (a 7, .inl (cA 0, 40, .inl (fun _ => 0))), (a 8, .inl (cA 0, 40, .inl (fun _ => 0))), (a 9, .inl (cA 0, 40, .inl (fun _ => 0))), (a 10, .inl (cA 0, 12, .inl (fun _ => 0))), (a 11, .inl (cA 0, 12, .inl (fun _ => 0))), (a 12, .inl (cA 1, 12, .inl (fun _ => 0))), (a 13, .inl (cA 0, 12, .inl (fun _ => 0))), (a 14, .inl (cA 0, 12, .inl (fun _ => 0))), (a 15, .inl (cA 1, 12, .inl (fun _ => 0))), (a 16, .inl (cA 0, 12, .inl (fun _ => 0))), (a 17, .inl (cA 0, 12, .inl (fun _ => 0))), (a 18, .inl (cA 1, 12, .inl (fun _ => 0))), (a 19, .inl (cA 1, 12, .inl (fun _ => 0))), (a 20, .inl (cA 0, 10, .inl (fun _ => 0)))]
set_option maxRecDepth 100000 in
set_option maxHeartbeats 4000000 in
theorem i_X8 : yM yX8_init cX8_init 1 { frames := 1, cells := 20, slots := 2088, locals := 12 } 20 2088 8 [.null, .null, .int 0, .int 0, .int 0, .int 0, .null, .null, .int 0, .int 0, .null, .null, .null, .null, .null, .int 0, .null, .null, .null, .int 0, .null, .null, .null, .int 0, .null, .null, .int 0, .int 0, .int 0, .null, .null, .null] k_X8 := by
  refine yM_of (own := RX8) (by decide) rfl rfl (by decide) (fun Γ h0 hC => ?_)
  refine y_aload_n hC dX8_init_0 rfl ?_
  refine y_objI hC wi_X8_ob wi_ob1 wi_ob2 dX8_init_1 (by decide) ?_
  refine y_aload_n hC dX8_init_4 rfl ?_
  refine y_sipush hC dX8_init_5 ks_192 ?_
  refine y_newI (N := 192) hC wi_aI dX8_init_8 (by decide) (by decide) (fun q1 => ?_)
  show yK Γ 1 _ _ _ _ _ _ ([(h0, .inr (8, [.null, .null, .int 0, .int 0, .int 0, .int 0, .null, .null, .int 0, .int 0, .null, .null, .null, .null, .null, .int 0, .null, .null, .null, .int 0, .null, .null, .null, .int 0, .null, .null, .int 0, .int 0, .int 0, .null, .null, .null])), (q1, .inl (y_cA Γ 0, 192, .inl (fun _ => 0)))] ++ y_W0 Γ)
  refine y_putF (ty := .array .int) hC wf_X8_7 tyX8 tyX8_ok nmX8 rfl rfl (by decide +kernel) rfl rfl (Nat.le_of_ble_eq_true rfl) dX8_init_10 ?_
  show yK Γ 1 _ _ _ _ _ _ ([(h0, .inr (8, [.ref q1, .null, .int 0, .int 0, .int 0, .int 0, .null, .null, .int 0, .int 0, .null, .null, .null, .null, .null, .int 0, .null, .null, .null, .int 0, .null, .null, .null, .int 0, .null, .null, .int 0, .int 0, .int 0, .null, .null, .null])), (q1, .inl (y_cA Γ 0, 192, .inl (fun _ => 0)))] ++ y_W0 Γ)
  refine y_aload_n hC dX8_init_13 rfl ?_
  refine y_sipush hC dX8_init_14 ks_1536 ?_
  refine y_newI (N := 1536) hC wi_aI dX8_init_17 (by decide) (by decide) (fun q2 => ?_)
  show yK Γ 1 _ _ _ _ _ _ ([(h0, .inr (8, [.ref q1, .null, .int 0, .int 0, .int 0, .int 0, .null, .null, .int 0, .int 0, .null, .null, .null, .null, .null, .int 0, .null, .null, .null, .int 0, .null, .null, .null, .int 0, .null, .null, .int 0, .int 0, .int 0, .null, .null, .null])), (q1, .inl (y_cA Γ 0, 192, .inl (fun _ => 0))), (q2, .inl (y_cA Γ 0, 1536, .inl (fun _ => 0)))] ++ y_W0 Γ)
  refine y_putF (ty := .array .int) hC wf_X8_13 tyX8 tyX8_ok nmX8 rfl rfl (by decide +kernel) rfl rfl (Nat.le_of_ble_eq_true rfl) dX8_init_19 ?_
  show yK Γ 1 _ _ _ _ _ _ ([(h0, .inr (8, [.ref q1, .ref q2, .int 0, .int 0, .int 0, .int 0, .null, .null, .int 0, .int 0, .null, .null, .null, .null, .null, .int 0, .null, .null, .null, .int 0, .null, .null, .null, .int 0, .null, .null, .int 0, .int 0, .int 0, .null, .null, .null])), (q1, .inl (y_cA Γ 0, 192, .inl (fun _ => 0))), (q2, .inl (y_cA Γ 0, 1536, .inl (fun _ => 0)))] ++ y_W0 Γ)
  refine y_aload_n hC dX8_init_22 rfl ?_
  refine y_iconst hC dX8_init_23 ki_1 ?_
  refine y_puti hC wp_X8_16 (Nat.le_of_ble_eq_true rfl) dX8_init_24 ?_
  show yK Γ 1 _ _ _ _ _ _ ([(h0, .inr (8, [.ref q1, .ref q2, .int 0, .int 1, .int 0, .int 0, .null, .null, .int 0, .int 0, .null, .null, .null, .null, .null, .int 0, .null, .null, .null, .int 0, .null, .null, .null, .int 0, .null, .null, .int 0, .int 0, .int 0, .null, .null, .null])), (q1, .inl (y_cA Γ 0, 192, .inl (fun _ => 0))), (q2, .inl (y_cA Γ 0, 1536, .inl (fun _ => 0)))] ++ y_W0 Γ)
  refine y_aload_n hC dX8_init_27 rfl ?_
  refine y_bipush hC dX8_init_28 kb_15 ?_
  refine y_newI (N := 15) hC wi_aI dX8_init_30 (by decide) (by decide) (fun q3 => ?_)
  show yK Γ 1 _ _ _ _ _ _ ([(h0, .inr (8, [.ref q1, .ref q2, .int 0, .int 1, .int 0, .int 0, .null, .null, .int 0, .int 0, .null, .null, .null, .null, .null, .int 0, .null, .null, .null, .int 0, .null, .null, .null, .int 0, .null, .null, .int 0, .int 0, .int 0, .null, .null, .null])), (q1, .inl (y_cA Γ 0, 192, .inl (fun _ => 0))), (q2, .inl (y_cA Γ 0, 1536, .inl (fun _ => 0))), (q3, .inl (y_cA Γ 0, 15, .inl (fun _ => 0)))] ++ y_W0 Γ)
  refine y_putF (ty := .array .int) hC wf_X8_20 tyX8 tyX8_ok nmX8 rfl rfl (by decide +kernel) rfl rfl (Nat.le_of_ble_eq_true rfl) dX8_init_32 ?_
  show yK Γ 1 _ _ _ _ _ _ ([(h0, .inr (8, [.ref q1, .ref q2, .int 0, .int 1, .int 0, .int 0, .ref q3, .null, .int 0, .int 0, .null, .null, .null, .null, .null, .int 0, .null, .null, .null, .int 0, .null, .null, .null, .int 0, .null, .null, .int 0, .int 0, .int 0, .null, .null, .null])), (q1, .inl (y_cA Γ 0, 192, .inl (fun _ => 0))), (q2, .inl (y_cA Γ 0, 1536, .inl (fun _ => 0))), (q3, .inl (y_cA Γ 0, 15, .inl (fun _ => 0)))] ++ y_W0 Γ)
  refine y_aload_n hC dX8_init_35 rfl ?_
  refine y_bipush hC dX8_init_36 kb_15 ?_
  refine y_newI (N := 15) hC wi_aI dX8_init_38 (by decide) (by decide) (fun q4 => ?_)
  show yK Γ 1 _ _ _ _ _ _ ([(h0, .inr (8, [.ref q1, .ref q2, .int 0, .int 1, .int 0, .int 0, .ref q3, .null, .int 0, .int 0, .null, .null, .null, .null, .null, .int 0, .null, .null, .null, .int 0, .null, .null, .null, .int 0, .null, .null, .int 0, .int 0, .int 0, .null, .null, .null])), (q1, .inl (y_cA Γ 0, 192, .inl (fun _ => 0))), (q2, .inl (y_cA Γ 0, 1536, .inl (fun _ => 0))), (q3, .inl (y_cA Γ 0, 15, .inl (fun _ => 0))), (q4, .inl (y_cA Γ 0, 15, .inl (fun _ => 0)))] ++ y_W0 Γ)
  refine y_putF (ty := .array .int) hC wf_X8_23 tyX8 tyX8_ok nmX8 rfl rfl (by decide +kernel) rfl rfl (Nat.le_of_ble_eq_true rfl) dX8_init_40 ?_
  show yK Γ 1 _ _ _ _ _ _ ([(h0, .inr (8, [.ref q1, .ref q2, .int 0, .int 1, .int 0, .int 0, .ref q3, .ref q4, .int 0, .int 0, .null, .null, .null, .null, .null, .int 0, .null, .null, .null, .int 0, .null, .null, .null, .int 0, .null, .null, .int 0, .int 0, .int 0, .null, .null, .null])), (q1, .inl (y_cA Γ 0, 192, .inl (fun _ => 0))), (q2, .inl (y_cA Γ 0, 1536, .inl (fun _ => 0))), (q3, .inl (y_cA Γ 0, 15, .inl (fun _ => 0))), (q4, .inl (y_cA Γ 0, 15, .inl (fun _ => 0)))] ++ y_W0 Γ)
  refine y_aload_n hC dX8_init_43 rfl ?_
  refine y_bipush hC dX8_init_44 kb_40 ?_
  refine y_newI (N := 40) hC wi_aI dX8_init_46 (by decide) (by decide) (fun q5 => ?_)
  show yK Γ 1 _ _ _ _ _ _ ([(h0, .inr (8, [.ref q1, .ref q2, .int 0, .int 1, .int 0, .int 0, .ref q3, .ref q4, .int 0, .int 0, .null, .null, .null, .null, .null, .int 0, .null, .null, .null, .int 0, .null, .null, .null, .int 0, .null, .null, .int 0, .int 0, .int 0, .null, .null, .null])), (q1, .inl (y_cA Γ 0, 192, .inl (fun _ => 0))), (q2, .inl (y_cA Γ 0, 1536, .inl (fun _ => 0))), (q3, .inl (y_cA Γ 0, 15, .inl (fun _ => 0))), (q4, .inl (y_cA Γ 0, 15, .inl (fun _ => 0))), (q5, .inl (y_cA Γ 0, 40, .inl (fun _ => 0)))] ++ y_W0 Γ)
  refine y_putF (ty := .array .int) hC wf_X8_26 tyX8 tyX8_ok nmX8 rfl rfl (by decide +kernel) rfl rfl (Nat.le_of_ble_eq_true rfl) dX8_init_48 ?_
  show yK Γ 1 _ _ _ _ _ _ ([(h0, .inr (8, [.ref q1, .ref q2, .int 0, .int 1, .int 0, .int 0, .ref q3, .ref q4, .int 0, .int 0, .ref q5, .null, .null, .null, .null, .int 0, .null, .null, .null, .int 0, .null, .null, .null, .int 0, .null, .null, .int 0, .int 0, .int 0, .null, .null, .null])), (q1, .inl (y_cA Γ 0, 192, .inl (fun _ => 0))), (q2, .inl (y_cA Γ 0, 1536, .inl (fun _ => 0))), (q3, .inl (y_cA Γ 0, 15, .inl (fun _ => 0))), (q4, .inl (y_cA Γ 0, 15, .inl (fun _ => 0))), (q5, .inl (y_cA Γ 0, 40, .inl (fun _ => 0)))] ++ y_W0 Γ)
  refine y_aload_n hC dX8_init_51 rfl ?_
  refine y_bipush hC dX8_init_52 kb_40 ?_
  refine y_newI (N := 40) hC wi_aI dX8_init_54 (by decide) (by decide) (fun q6 => ?_)
  show yK Γ 1 _ _ _ _ _ _ ([(h0, .inr (8, [.ref q1, .ref q2, .int 0, .int 1, .int 0, .int 0, .ref q3, .ref q4, .int 0, .int 0, .ref q5, .null, .null, .null, .null, .int 0, .null, .null, .null, .int 0, .null, .null, .null, .int 0, .null, .null, .int 0, .int 0, .int 0, .null, .null, .null])), (q1, .inl (y_cA Γ 0, 192, .inl (fun _ => 0))), (q2, .inl (y_cA Γ 0, 1536, .inl (fun _ => 0))), (q3, .inl (y_cA Γ 0, 15, .inl (fun _ => 0))), (q4, .inl (y_cA Γ 0, 15, .inl (fun _ => 0))), (q5, .inl (y_cA Γ 0, 40, .inl (fun _ => 0))), (q6, .inl (y_cA Γ 0, 40, .inl (fun _ => 0)))] ++ y_W0 Γ)
  refine y_putF (ty := .array .int) hC wf_X8_29 tyX8 tyX8_ok nmX8 rfl rfl (by decide +kernel) rfl rfl (Nat.le_of_ble_eq_true rfl) dX8_init_56 ?_
  show yK Γ 1 _ _ _ _ _ _ ([(h0, .inr (8, [.ref q1, .ref q2, .int 0, .int 1, .int 0, .int 0, .ref q3, .ref q4, .int 0, .int 0, .ref q5, .ref q6, .null, .null, .null, .int 0, .null, .null, .null, .int 0, .null, .null, .null, .int 0, .null, .null, .int 0, .int 0, .int 0, .null, .null, .null])), (q1, .inl (y_cA Γ 0, 192, .inl (fun _ => 0))), (q2, .inl (y_cA Γ 0, 1536, .inl (fun _ => 0))), (q3, .inl (y_cA Γ 0, 15, .inl (fun _ => 0))), (q4, .inl (y_cA Γ 0, 15, .inl (fun _ => 0))), (q5, .inl (y_cA Γ 0, 40, .inl (fun _ => 0))), (q6, .inl (y_cA Γ 0, 40, .inl (fun _ => 0)))] ++ y_W0 Γ)
  refine y_aload_n hC dX8_init_59 rfl ?_
  refine y_bipush hC dX8_init_60 kb_40 ?_
  refine y_newI (N := 40) hC wi_aI dX8_init_62 (by decide) (by decide) (fun q7 => ?_)
  show yK Γ 1 _ _ _ _ _ _ ([(h0, .inr (8, [.ref q1, .ref q2, .int 0, .int 1, .int 0, .int 0, .ref q3, .ref q4, .int 0, .int 0, .ref q5, .ref q6, .null, .null, .null, .int 0, .null, .null, .null, .int 0, .null, .null, .null, .int 0, .null, .null, .int 0, .int 0, .int 0, .null, .null, .null])), (q1, .inl (y_cA Γ 0, 192, .inl (fun _ => 0))), (q2, .inl (y_cA Γ 0, 1536, .inl (fun _ => 0))), (q3, .inl (y_cA Γ 0, 15, .inl (fun _ => 0))), (q4, .inl (y_cA Γ 0, 15, .inl (fun _ => 0))), (q5, .inl (y_cA Γ 0, 40, .inl (fun _ => 0))), (q6, .inl (y_cA Γ 0, 40, .inl (fun _ => 0))), (q7, .inl (y_cA Γ 0, 40, .inl (fun _ => 0)))] ++ y_W0 Γ)
  refine y_putF (ty := .array .int) hC wf_X8_32 tyX8 tyX8_ok nmX8 rfl rfl (by decide +kernel) rfl rfl (Nat.le_of_ble_eq_true rfl) dX8_init_64 ?_
  show yK Γ 1 _ _ _ _ _ _ ([(h0, .inr (8, [.ref q1, .ref q2, .int 0, .int 1, .int 0, .int 0, .ref q3, .ref q4, .int 0, .int 0, .ref q5, .ref q6, .ref q7, .null, .null, .int 0, .null, .null, .null, .int 0, .null, .null, .null, .int 0, .null, .null, .int 0, .int 0, .int 0, .null, .null, .null])), (q1, .inl (y_cA Γ 0, 192, .inl (fun _ => 0))), (q2, .inl (y_cA Γ 0, 1536, .inl (fun _ => 0))), (q3, .inl (y_cA Γ 0, 15, .inl (fun _ => 0))), (q4, .inl (y_cA Γ 0, 15, .inl (fun _ => 0))), (q5, .inl (y_cA Γ 0, 40, .inl (fun _ => 0))), (q6, .inl (y_cA Γ 0, 40, .inl (fun _ => 0))), (q7, .inl (y_cA Γ 0, 40, .inl (fun _ => 0)))] ++ y_W0 Γ)
  refine y_aload_n hC dX8_init_67 rfl ?_
  refine y_bipush hC dX8_init_68 kb_40 ?_
  refine y_newI (N := 40) hC wi_aI dX8_init_70 (by decide) (by decide) (fun q8 => ?_)
  show yK Γ 1 _ _ _ _ _ _ ([(h0, .inr (8, [.ref q1, .ref q2, .int 0, .int 1, .int 0, .int 0, .ref q3, .ref q4, .int 0, .int 0, .ref q5, .ref q6, .ref q7, .null, .null, .int 0, .null, .null, .null, .int 0, .null, .null, .null, .int 0, .null, .null, .int 0, .int 0, .int 0, .null, .null, .null])), (q1, .inl (y_cA Γ 0, 192, .inl (fun _ => 0))), (q2, .inl (y_cA Γ 0, 1536, .inl (fun _ => 0))), (q3, .inl (y_cA Γ 0, 15, .inl (fun _ => 0))), (q4, .inl (y_cA Γ 0, 15, .inl (fun _ => 0))), (q5, .inl (y_cA Γ 0, 40, .inl (fun _ => 0))), (q6, .inl (y_cA Γ 0, 40, .inl (fun _ => 0))), (q7, .inl (y_cA Γ 0, 40, .inl (fun _ => 0))), (q8, .inl (y_cA Γ 0, 40, .inl (fun _ => 0)))] ++ y_W0 Γ)
  refine y_putF (ty := .array .int) hC wf_X8_35 tyX8 tyX8_ok nmX8 rfl rfl (by decide +kernel) rfl rfl (Nat.le_of_ble_eq_true rfl) dX8_init_72 ?_
  show yK Γ 1 _ _ _ _ _ _ ([(h0, .inr (8, [.ref q1, .ref q2, .int 0, .int 1, .int 0, .int 0, .ref q3, .ref q4, .int 0, .int 0, .ref q5, .ref q6, .ref q7, .ref q8, .null, .int 0, .null, .null, .null, .int 0, .null, .null, .null, .int 0, .null, .null, .int 0, .int 0, .int 0, .null, .null, .null])), (q1, .inl (y_cA Γ 0, 192, .inl (fun _ => 0))), (q2, .inl (y_cA Γ 0, 1536, .inl (fun _ => 0))), (q3, .inl (y_cA Γ 0, 15, .inl (fun _ => 0))), (q4, .inl (y_cA Γ 0, 15, .inl (fun _ => 0))), (q5, .inl (y_cA Γ 0, 40, .inl (fun _ => 0))), (q6, .inl (y_cA Γ 0, 40, .inl (fun _ => 0))), (q7, .inl (y_cA Γ 0, 40, .inl (fun _ => 0))), (q8, .inl (y_cA Γ 0, 40, .inl (fun _ => 0)))] ++ y_W0 Γ)
  refine y_aload_n hC dX8_init_75 rfl ?_
  refine y_bipush hC dX8_init_76 kb_40 ?_
  refine y_newI (N := 40) hC wi_aI dX8_init_78 (by decide) (by decide) (fun q9 => ?_)
  show yK Γ 1 _ _ _ _ _ _ ([(h0, .inr (8, [.ref q1, .ref q2, .int 0, .int 1, .int 0, .int 0, .ref q3, .ref q4, .int 0, .int 0, .ref q5, .ref q6, .ref q7, .ref q8, .null, .int 0, .null, .null, .null, .int 0, .null, .null, .null, .int 0, .null, .null, .int 0, .int 0, .int 0, .null, .null, .null])), (q1, .inl (y_cA Γ 0, 192, .inl (fun _ => 0))), (q2, .inl (y_cA Γ 0, 1536, .inl (fun _ => 0))), (q3, .inl (y_cA Γ 0, 15, .inl (fun _ => 0))), (q4, .inl (y_cA Γ 0, 15, .inl (fun _ => 0))), (q5, .inl (y_cA Γ 0, 40, .inl (fun _ => 0))), (q6, .inl (y_cA Γ 0, 40, .inl (fun _ => 0))), (q7, .inl (y_cA Γ 0, 40, .inl (fun _ => 0))), (q8, .inl (y_cA Γ 0, 40, .inl (fun _ => 0))), (q9, .inl (y_cA Γ 0, 40, .inl (fun _ => 0)))] ++ y_W0 Γ)
  refine y_putF (ty := .array .int) hC wf_X8_38 tyX8 tyX8_ok nmX8 rfl rfl (by decide +kernel) rfl rfl (Nat.le_of_ble_eq_true rfl) dX8_init_80 ?_
  show yK Γ 1 _ _ _ _ _ _ ([(h0, .inr (8, [.ref q1, .ref q2, .int 0, .int 1, .int 0, .int 0, .ref q3, .ref q4, .int 0, .int 0, .ref q5, .ref q6, .ref q7, .ref q8, .ref q9, .int 0, .null, .null, .null, .int 0, .null, .null, .null, .int 0, .null, .null, .int 0, .int 0, .int 0, .null, .null, .null])), (q1, .inl (y_cA Γ 0, 192, .inl (fun _ => 0))), (q2, .inl (y_cA Γ 0, 1536, .inl (fun _ => 0))), (q3, .inl (y_cA Γ 0, 15, .inl (fun _ => 0))), (q4, .inl (y_cA Γ 0, 15, .inl (fun _ => 0))), (q5, .inl (y_cA Γ 0, 40, .inl (fun _ => 0))), (q6, .inl (y_cA Γ 0, 40, .inl (fun _ => 0))), (q7, .inl (y_cA Γ 0, 40, .inl (fun _ => 0))), (q8, .inl (y_cA Γ 0, 40, .inl (fun _ => 0))), (q9, .inl (y_cA Γ 0, 40, .inl (fun _ => 0)))] ++ y_W0 Γ)
  refine y_aload_n hC dX8_init_83 rfl ?_
  refine y_bipush hC dX8_init_84 kb_12 ?_
  refine y_newI (N := 12) hC wi_aI dX8_init_86 (by decide) (by decide) (fun q10 => ?_)
  show yK Γ 1 _ _ _ _ _ _ ([(h0, .inr (8, [.ref q1, .ref q2, .int 0, .int 1, .int 0, .int 0, .ref q3, .ref q4, .int 0, .int 0, .ref q5, .ref q6, .ref q7, .ref q8, .ref q9, .int 0, .null, .null, .null, .int 0, .null, .null, .null, .int 0, .null, .null, .int 0, .int 0, .int 0, .null, .null, .null])), (q1, .inl (y_cA Γ 0, 192, .inl (fun _ => 0))), (q2, .inl (y_cA Γ 0, 1536, .inl (fun _ => 0))), (q3, .inl (y_cA Γ 0, 15, .inl (fun _ => 0))), (q4, .inl (y_cA Γ 0, 15, .inl (fun _ => 0))), (q5, .inl (y_cA Γ 0, 40, .inl (fun _ => 0))), (q6, .inl (y_cA Γ 0, 40, .inl (fun _ => 0))), (q7, .inl (y_cA Γ 0, 40, .inl (fun _ => 0))), (q8, .inl (y_cA Γ 0, 40, .inl (fun _ => 0))), (q9, .inl (y_cA Γ 0, 40, .inl (fun _ => 0))), (q10, .inl (y_cA Γ 0, 12, .inl (fun _ => 0)))] ++ y_W0 Γ)
  refine y_putF (ty := .array .int) hC wf_X8_41 tyX8 tyX8_ok nmX8 rfl rfl (by decide +kernel) rfl rfl (Nat.le_of_ble_eq_true rfl) dX8_init_88 ?_
  show yK Γ 1 _ _ _ _ _ _ ([(h0, .inr (8, [.ref q1, .ref q2, .int 0, .int 1, .int 0, .int 0, .ref q3, .ref q4, .int 0, .int 0, .ref q5, .ref q6, .ref q7, .ref q8, .ref q9, .int 0, .ref q10, .null, .null, .int 0, .null, .null, .null, .int 0, .null, .null, .int 0, .int 0, .int 0, .null, .null, .null])), (q1, .inl (y_cA Γ 0, 192, .inl (fun _ => 0))), (q2, .inl (y_cA Γ 0, 1536, .inl (fun _ => 0))), (q3, .inl (y_cA Γ 0, 15, .inl (fun _ => 0))), (q4, .inl (y_cA Γ 0, 15, .inl (fun _ => 0))), (q5, .inl (y_cA Γ 0, 40, .inl (fun _ => 0))), (q6, .inl (y_cA Γ 0, 40, .inl (fun _ => 0))), (q7, .inl (y_cA Γ 0, 40, .inl (fun _ => 0))), (q8, .inl (y_cA Γ 0, 40, .inl (fun _ => 0))), (q9, .inl (y_cA Γ 0, 40, .inl (fun _ => 0))), (q10, .inl (y_cA Γ 0, 12, .inl (fun _ => 0)))] ++ y_W0 Γ)
  refine y_aload_n hC dX8_init_91 rfl ?_
  refine y_bipush hC dX8_init_92 kb_12 ?_
  refine y_newI (N := 12) hC wi_aI dX8_init_94 (by decide) (by decide) (fun q11 => ?_)
  show yK Γ 1 _ _ _ _ _ _ ([(h0, .inr (8, [.ref q1, .ref q2, .int 0, .int 1, .int 0, .int 0, .ref q3, .ref q4, .int 0, .int 0, .ref q5, .ref q6, .ref q7, .ref q8, .ref q9, .int 0, .ref q10, .null, .null, .int 0, .null, .null, .null, .int 0, .null, .null, .int 0, .int 0, .int 0, .null, .null, .null])), (q1, .inl (y_cA Γ 0, 192, .inl (fun _ => 0))), (q2, .inl (y_cA Γ 0, 1536, .inl (fun _ => 0))), (q3, .inl (y_cA Γ 0, 15, .inl (fun _ => 0))), (q4, .inl (y_cA Γ 0, 15, .inl (fun _ => 0))), (q5, .inl (y_cA Γ 0, 40, .inl (fun _ => 0))), (q6, .inl (y_cA Γ 0, 40, .inl (fun _ => 0))), (q7, .inl (y_cA Γ 0, 40, .inl (fun _ => 0))), (q8, .inl (y_cA Γ 0, 40, .inl (fun _ => 0))), (q9, .inl (y_cA Γ 0, 40, .inl (fun _ => 0))), (q10, .inl (y_cA Γ 0, 12, .inl (fun _ => 0))), (q11, .inl (y_cA Γ 0, 12, .inl (fun _ => 0)))] ++ y_W0 Γ)
  refine y_putF (ty := .array .int) hC wf_X8_44 tyX8 tyX8_ok nmX8 rfl rfl (by decide +kernel) rfl rfl (Nat.le_of_ble_eq_true rfl) dX8_init_96 ?_
  show yK Γ 1 _ _ _ _ _ _ ([(h0, .inr (8, [.ref q1, .ref q2, .int 0, .int 1, .int 0, .int 0, .ref q3, .ref q4, .int 0, .int 0, .ref q5, .ref q6, .ref q7, .ref q8, .ref q9, .int 0, .ref q10, .ref q11, .null, .int 0, .null, .null, .null, .int 0, .null, .null, .int 0, .int 0, .int 0, .null, .null, .null])), (q1, .inl (y_cA Γ 0, 192, .inl (fun _ => 0))), (q2, .inl (y_cA Γ 0, 1536, .inl (fun _ => 0))), (q3, .inl (y_cA Γ 0, 15, .inl (fun _ => 0))), (q4, .inl (y_cA Γ 0, 15, .inl (fun _ => 0))), (q5, .inl (y_cA Γ 0, 40, .inl (fun _ => 0))), (q6, .inl (y_cA Γ 0, 40, .inl (fun _ => 0))), (q7, .inl (y_cA Γ 0, 40, .inl (fun _ => 0))), (q8, .inl (y_cA Γ 0, 40, .inl (fun _ => 0))), (q9, .inl (y_cA Γ 0, 40, .inl (fun _ => 0))), (q10, .inl (y_cA Γ 0, 12, .inl (fun _ => 0))), (q11, .inl (y_cA Γ 0, 12, .inl (fun _ => 0)))] ++ y_W0 Γ)
  refine y_aload_n hC dX8_init_99 rfl ?_
  refine y_bipush hC dX8_init_100 kb_12 ?_
  refine y_newZ (N := 12) hC wi_aZ dX8_init_102 (by decide) (by decide) (fun q12 => ?_)
  show yK Γ 1 _ _ _ _ _ _ ([(h0, .inr (8, [.ref q1, .ref q2, .int 0, .int 1, .int 0, .int 0, .ref q3, .ref q4, .int 0, .int 0, .ref q5, .ref q6, .ref q7, .ref q8, .ref q9, .int 0, .ref q10, .ref q11, .null, .int 0, .null, .null, .null, .int 0, .null, .null, .int 0, .int 0, .int 0, .null, .null, .null])), (q1, .inl (y_cA Γ 0, 192, .inl (fun _ => 0))), (q2, .inl (y_cA Γ 0, 1536, .inl (fun _ => 0))), (q3, .inl (y_cA Γ 0, 15, .inl (fun _ => 0))), (q4, .inl (y_cA Γ 0, 15, .inl (fun _ => 0))), (q5, .inl (y_cA Γ 0, 40, .inl (fun _ => 0))), (q6, .inl (y_cA Γ 0, 40, .inl (fun _ => 0))), (q7, .inl (y_cA Γ 0, 40, .inl (fun _ => 0))), (q8, .inl (y_cA Γ 0, 40, .inl (fun _ => 0))), (q9, .inl (y_cA Γ 0, 40, .inl (fun _ => 0))), (q10, .inl (y_cA Γ 0, 12, .inl (fun _ => 0))), (q11, .inl (y_cA Γ 0, 12, .inl (fun _ => 0))), (q12, .inl (y_cA Γ 1, 12, .inl (fun _ => 0)))] ++ y_W0 Γ)
  refine y_putF (ty := .array .boolean) hC wf_X8_47 tyX8 tyX8_ok nmX8 rfl rfl (by decide +kernel) rfl rfl (Nat.le_of_ble_eq_true rfl) dX8_init_104 ?_
  show yK Γ 1 _ _ _ _ _ _ ([(h0, .inr (8, [.ref q1, .ref q2, .int 0, .int 1, .int 0, .int 0, .ref q3, .ref q4, .int 0, .int 0, .ref q5, .ref q6, .ref q7, .ref q8, .ref q9, .int 0, .ref q10, .ref q11, .ref q12, .int 0, .null, .null, .null, .int 0, .null, .null, .int 0, .int 0, .int 0, .null, .null, .null])), (q1, .inl (y_cA Γ 0, 192, .inl (fun _ => 0))), (q2, .inl (y_cA Γ 0, 1536, .inl (fun _ => 0))), (q3, .inl (y_cA Γ 0, 15, .inl (fun _ => 0))), (q4, .inl (y_cA Γ 0, 15, .inl (fun _ => 0))), (q5, .inl (y_cA Γ 0, 40, .inl (fun _ => 0))), (q6, .inl (y_cA Γ 0, 40, .inl (fun _ => 0))), (q7, .inl (y_cA Γ 0, 40, .inl (fun _ => 0))), (q8, .inl (y_cA Γ 0, 40, .inl (fun _ => 0))), (q9, .inl (y_cA Γ 0, 40, .inl (fun _ => 0))), (q10, .inl (y_cA Γ 0, 12, .inl (fun _ => 0))), (q11, .inl (y_cA Γ 0, 12, .inl (fun _ => 0))), (q12, .inl (y_cA Γ 1, 12, .inl (fun _ => 0)))] ++ y_W0 Γ)
  refine y_aload_n hC dX8_init_107 rfl ?_
  refine y_bipush hC dX8_init_108 kb_12 ?_
  refine y_newI (N := 12) hC wi_aI dX8_init_110 (by decide) (by decide) (fun q13 => ?_)
  show yK Γ 1 _ _ _ _ _ _ ([(h0, .inr (8, [.ref q1, .ref q2, .int 0, .int 1, .int 0, .int 0, .ref q3, .ref q4, .int 0, .int 0, .ref q5, .ref q6, .ref q7, .ref q8, .ref q9, .int 0, .ref q10, .ref q11, .ref q12, .int 0, .null, .null, .null, .int 0, .null, .null, .int 0, .int 0, .int 0, .null, .null, .null])), (q1, .inl (y_cA Γ 0, 192, .inl (fun _ => 0))), (q2, .inl (y_cA Γ 0, 1536, .inl (fun _ => 0))), (q3, .inl (y_cA Γ 0, 15, .inl (fun _ => 0))), (q4, .inl (y_cA Γ 0, 15, .inl (fun _ => 0))), (q5, .inl (y_cA Γ 0, 40, .inl (fun _ => 0))), (q6, .inl (y_cA Γ 0, 40, .inl (fun _ => 0))), (q7, .inl (y_cA Γ 0, 40, .inl (fun _ => 0))), (q8, .inl (y_cA Γ 0, 40, .inl (fun _ => 0))), (q9, .inl (y_cA Γ 0, 40, .inl (fun _ => 0))), (q10, .inl (y_cA Γ 0, 12, .inl (fun _ => 0))), (q11, .inl (y_cA Γ 0, 12, .inl (fun _ => 0))), (q12, .inl (y_cA Γ 1, 12, .inl (fun _ => 0))), (q13, .inl (y_cA Γ 0, 12, .inl (fun _ => 0)))] ++ y_W0 Γ)
  refine y_putF (ty := .array .int) hC wf_X8_51 tyX8 tyX8_ok nmX8 rfl rfl (by decide +kernel) rfl rfl (Nat.le_of_ble_eq_true rfl) dX8_init_112 ?_
  show yK Γ 1 _ _ _ _ _ _ ([(h0, .inr (8, [.ref q1, .ref q2, .int 0, .int 1, .int 0, .int 0, .ref q3, .ref q4, .int 0, .int 0, .ref q5, .ref q6, .ref q7, .ref q8, .ref q9, .int 0, .ref q10, .ref q11, .ref q12, .int 0, .ref q13, .null, .null, .int 0, .null, .null, .int 0, .int 0, .int 0, .null, .null, .null])), (q1, .inl (y_cA Γ 0, 192, .inl (fun _ => 0))), (q2, .inl (y_cA Γ 0, 1536, .inl (fun _ => 0))), (q3, .inl (y_cA Γ 0, 15, .inl (fun _ => 0))), (q4, .inl (y_cA Γ 0, 15, .inl (fun _ => 0))), (q5, .inl (y_cA Γ 0, 40, .inl (fun _ => 0))), (q6, .inl (y_cA Γ 0, 40, .inl (fun _ => 0))), (q7, .inl (y_cA Γ 0, 40, .inl (fun _ => 0))), (q8, .inl (y_cA Γ 0, 40, .inl (fun _ => 0))), (q9, .inl (y_cA Γ 0, 40, .inl (fun _ => 0))), (q10, .inl (y_cA Γ 0, 12, .inl (fun _ => 0))), (q11, .inl (y_cA Γ 0, 12, .inl (fun _ => 0))), (q12, .inl (y_cA Γ 1, 12, .inl (fun _ => 0))), (q13, .inl (y_cA Γ 0, 12, .inl (fun _ => 0)))] ++ y_W0 Γ)
  refine y_aload_n hC dX8_init_115 rfl ?_
  refine y_bipush hC dX8_init_116 kb_12 ?_
  refine y_newI (N := 12) hC wi_aI dX8_init_118 (by decide) (by decide) (fun q14 => ?_)
  show yK Γ 1 _ _ _ _ _ _ ([(h0, .inr (8, [.ref q1, .ref q2, .int 0, .int 1, .int 0, .int 0, .ref q3, .ref q4, .int 0, .int 0, .ref q5, .ref q6, .ref q7, .ref q8, .ref q9, .int 0, .ref q10, .ref q11, .ref q12, .int 0, .ref q13, .null, .null, .int 0, .null, .null, .int 0, .int 0, .int 0, .null, .null, .null])), (q1, .inl (y_cA Γ 0, 192, .inl (fun _ => 0))), (q2, .inl (y_cA Γ 0, 1536, .inl (fun _ => 0))), (q3, .inl (y_cA Γ 0, 15, .inl (fun _ => 0))), (q4, .inl (y_cA Γ 0, 15, .inl (fun _ => 0))), (q5, .inl (y_cA Γ 0, 40, .inl (fun _ => 0))), (q6, .inl (y_cA Γ 0, 40, .inl (fun _ => 0))), (q7, .inl (y_cA Γ 0, 40, .inl (fun _ => 0))), (q8, .inl (y_cA Γ 0, 40, .inl (fun _ => 0))), (q9, .inl (y_cA Γ 0, 40, .inl (fun _ => 0))), (q10, .inl (y_cA Γ 0, 12, .inl (fun _ => 0))), (q11, .inl (y_cA Γ 0, 12, .inl (fun _ => 0))), (q12, .inl (y_cA Γ 1, 12, .inl (fun _ => 0))), (q13, .inl (y_cA Γ 0, 12, .inl (fun _ => 0))), (q14, .inl (y_cA Γ 0, 12, .inl (fun _ => 0)))] ++ y_W0 Γ)
  refine y_putF (ty := .array .int) hC wf_X8_54 tyX8 tyX8_ok nmX8 rfl rfl (by decide +kernel) rfl rfl (Nat.le_of_ble_eq_true rfl) dX8_init_120 ?_
  show yK Γ 1 _ _ _ _ _ _ ([(h0, .inr (8, [.ref q1, .ref q2, .int 0, .int 1, .int 0, .int 0, .ref q3, .ref q4, .int 0, .int 0, .ref q5, .ref q6, .ref q7, .ref q8, .ref q9, .int 0, .ref q10, .ref q11, .ref q12, .int 0, .ref q13, .ref q14, .null, .int 0, .null, .null, .int 0, .int 0, .int 0, .null, .null, .null])), (q1, .inl (y_cA Γ 0, 192, .inl (fun _ => 0))), (q2, .inl (y_cA Γ 0, 1536, .inl (fun _ => 0))), (q3, .inl (y_cA Γ 0, 15, .inl (fun _ => 0))), (q4, .inl (y_cA Γ 0, 15, .inl (fun _ => 0))), (q5, .inl (y_cA Γ 0, 40, .inl (fun _ => 0))), (q6, .inl (y_cA Γ 0, 40, .inl (fun _ => 0))), (q7, .inl (y_cA Γ 0, 40, .inl (fun _ => 0))), (q8, .inl (y_cA Γ 0, 40, .inl (fun _ => 0))), (q9, .inl (y_cA Γ 0, 40, .inl (fun _ => 0))), (q10, .inl (y_cA Γ 0, 12, .inl (fun _ => 0))), (q11, .inl (y_cA Γ 0, 12, .inl (fun _ => 0))), (q12, .inl (y_cA Γ 1, 12, .inl (fun _ => 0))), (q13, .inl (y_cA Γ 0, 12, .inl (fun _ => 0))), (q14, .inl (y_cA Γ 0, 12, .inl (fun _ => 0)))] ++ y_W0 Γ)
  refine y_aload_n hC dX8_init_123 rfl ?_
  refine y_bipush hC dX8_init_124 kb_12 ?_
  refine y_newZ (N := 12) hC wi_aZ dX8_init_126 (by decide) (by decide) (fun q15 => ?_)
  show yK Γ 1 _ _ _ _ _ _ ([(h0, .inr (8, [.ref q1, .ref q2, .int 0, .int 1, .int 0, .int 0, .ref q3, .ref q4, .int 0, .int 0, .ref q5, .ref q6, .ref q7, .ref q8, .ref q9, .int 0, .ref q10, .ref q11, .ref q12, .int 0, .ref q13, .ref q14, .null, .int 0, .null, .null, .int 0, .int 0, .int 0, .null, .null, .null])), (q1, .inl (y_cA Γ 0, 192, .inl (fun _ => 0))), (q2, .inl (y_cA Γ 0, 1536, .inl (fun _ => 0))), (q3, .inl (y_cA Γ 0, 15, .inl (fun _ => 0))), (q4, .inl (y_cA Γ 0, 15, .inl (fun _ => 0))), (q5, .inl (y_cA Γ 0, 40, .inl (fun _ => 0))), (q6, .inl (y_cA Γ 0, 40, .inl (fun _ => 0))), (q7, .inl (y_cA Γ 0, 40, .inl (fun _ => 0))), (q8, .inl (y_cA Γ 0, 40, .inl (fun _ => 0))), (q9, .inl (y_cA Γ 0, 40, .inl (fun _ => 0))), (q10, .inl (y_cA Γ 0, 12, .inl (fun _ => 0))), (q11, .inl (y_cA Γ 0, 12, .inl (fun _ => 0))), (q12, .inl (y_cA Γ 1, 12, .inl (fun _ => 0))), (q13, .inl (y_cA Γ 0, 12, .inl (fun _ => 0))), (q14, .inl (y_cA Γ 0, 12, .inl (fun _ => 0))), (q15, .inl (y_cA Γ 1, 12, .inl (fun _ => 0)))] ++ y_W0 Γ)
  refine y_putF (ty := .array .boolean) hC wf_X8_57 tyX8 tyX8_ok nmX8 rfl rfl (by decide +kernel) rfl rfl (Nat.le_of_ble_eq_true rfl) dX8_init_128 ?_
  show yK Γ 1 _ _ _ _ _ _ ([(h0, .inr (8, [.ref q1, .ref q2, .int 0, .int 1, .int 0, .int 0, .ref q3, .ref q4, .int 0, .int 0, .ref q5, .ref q6, .ref q7, .ref q8, .ref q9, .int 0, .ref q10, .ref q11, .ref q12, .int 0, .ref q13, .ref q14, .ref q15, .int 0, .null, .null, .int 0, .int 0, .int 0, .null, .null, .null])), (q1, .inl (y_cA Γ 0, 192, .inl (fun _ => 0))), (q2, .inl (y_cA Γ 0, 1536, .inl (fun _ => 0))), (q3, .inl (y_cA Γ 0, 15, .inl (fun _ => 0))), (q4, .inl (y_cA Γ 0, 15, .inl (fun _ => 0))), (q5, .inl (y_cA Γ 0, 40, .inl (fun _ => 0))), (q6, .inl (y_cA Γ 0, 40, .inl (fun _ => 0))), (q7, .inl (y_cA Γ 0, 40, .inl (fun _ => 0))), (q8, .inl (y_cA Γ 0, 40, .inl (fun _ => 0))), (q9, .inl (y_cA Γ 0, 40, .inl (fun _ => 0))), (q10, .inl (y_cA Γ 0, 12, .inl (fun _ => 0))), (q11, .inl (y_cA Γ 0, 12, .inl (fun _ => 0))), (q12, .inl (y_cA Γ 1, 12, .inl (fun _ => 0))), (q13, .inl (y_cA Γ 0, 12, .inl (fun _ => 0))), (q14, .inl (y_cA Γ 0, 12, .inl (fun _ => 0))), (q15, .inl (y_cA Γ 1, 12, .inl (fun _ => 0)))] ++ y_W0 Γ)
  refine y_aload_n hC dX8_init_131 rfl ?_
  refine y_bipush hC dX8_init_132 kb_12 ?_
  refine y_newI (N := 12) hC wi_aI dX8_init_134 (by decide) (by decide) (fun q16 => ?_)
  show yK Γ 1 _ _ _ _ _ _ ([(h0, .inr (8, [.ref q1, .ref q2, .int 0, .int 1, .int 0, .int 0, .ref q3, .ref q4, .int 0, .int 0, .ref q5, .ref q6, .ref q7, .ref q8, .ref q9, .int 0, .ref q10, .ref q11, .ref q12, .int 0, .ref q13, .ref q14, .ref q15, .int 0, .null, .null, .int 0, .int 0, .int 0, .null, .null, .null])), (q1, .inl (y_cA Γ 0, 192, .inl (fun _ => 0))), (q2, .inl (y_cA Γ 0, 1536, .inl (fun _ => 0))), (q3, .inl (y_cA Γ 0, 15, .inl (fun _ => 0))), (q4, .inl (y_cA Γ 0, 15, .inl (fun _ => 0))), (q5, .inl (y_cA Γ 0, 40, .inl (fun _ => 0))), (q6, .inl (y_cA Γ 0, 40, .inl (fun _ => 0))), (q7, .inl (y_cA Γ 0, 40, .inl (fun _ => 0))), (q8, .inl (y_cA Γ 0, 40, .inl (fun _ => 0))), (q9, .inl (y_cA Γ 0, 40, .inl (fun _ => 0))), (q10, .inl (y_cA Γ 0, 12, .inl (fun _ => 0))), (q11, .inl (y_cA Γ 0, 12, .inl (fun _ => 0))), (q12, .inl (y_cA Γ 1, 12, .inl (fun _ => 0))), (q13, .inl (y_cA Γ 0, 12, .inl (fun _ => 0))), (q14, .inl (y_cA Γ 0, 12, .inl (fun _ => 0))), (q15, .inl (y_cA Γ 1, 12, .inl (fun _ => 0))), (q16, .inl (y_cA Γ 0, 12, .inl (fun _ => 0)))] ++ y_W0 Γ)
  refine y_putF (ty := .array .int) hC wf_X8_60 tyX8 tyX8_ok nmX8 rfl rfl (by decide +kernel) rfl rfl (Nat.le_of_ble_eq_true rfl) dX8_init_136 ?_
  show yK Γ 1 _ _ _ _ _ _ ([(h0, .inr (8, [.ref q1, .ref q2, .int 0, .int 1, .int 0, .int 0, .ref q3, .ref q4, .int 0, .int 0, .ref q5, .ref q6, .ref q7, .ref q8, .ref q9, .int 0, .ref q10, .ref q11, .ref q12, .int 0, .ref q13, .ref q14, .ref q15, .int 0, .ref q16, .null, .int 0, .int 0, .int 0, .null, .null, .null])), (q1, .inl (y_cA Γ 0, 192, .inl (fun _ => 0))), (q2, .inl (y_cA Γ 0, 1536, .inl (fun _ => 0))), (q3, .inl (y_cA Γ 0, 15, .inl (fun _ => 0))), (q4, .inl (y_cA Γ 0, 15, .inl (fun _ => 0))), (q5, .inl (y_cA Γ 0, 40, .inl (fun _ => 0))), (q6, .inl (y_cA Γ 0, 40, .inl (fun _ => 0))), (q7, .inl (y_cA Γ 0, 40, .inl (fun _ => 0))), (q8, .inl (y_cA Γ 0, 40, .inl (fun _ => 0))), (q9, .inl (y_cA Γ 0, 40, .inl (fun _ => 0))), (q10, .inl (y_cA Γ 0, 12, .inl (fun _ => 0))), (q11, .inl (y_cA Γ 0, 12, .inl (fun _ => 0))), (q12, .inl (y_cA Γ 1, 12, .inl (fun _ => 0))), (q13, .inl (y_cA Γ 0, 12, .inl (fun _ => 0))), (q14, .inl (y_cA Γ 0, 12, .inl (fun _ => 0))), (q15, .inl (y_cA Γ 1, 12, .inl (fun _ => 0))), (q16, .inl (y_cA Γ 0, 12, .inl (fun _ => 0)))] ++ y_W0 Γ)
  refine y_aload_n hC dX8_init_139 rfl ?_
  refine y_bipush hC dX8_init_140 kb_12 ?_
  refine y_newI (N := 12) hC wi_aI dX8_init_142 (by decide) (by decide) (fun q17 => ?_)
  show yK Γ 1 _ _ _ _ _ _ ([(h0, .inr (8, [.ref q1, .ref q2, .int 0, .int 1, .int 0, .int 0, .ref q3, .ref q4, .int 0, .int 0, .ref q5, .ref q6, .ref q7, .ref q8, .ref q9, .int 0, .ref q10, .ref q11, .ref q12, .int 0, .ref q13, .ref q14, .ref q15, .int 0, .ref q16, .null, .int 0, .int 0, .int 0, .null, .null, .null])), (q1, .inl (y_cA Γ 0, 192, .inl (fun _ => 0))), (q2, .inl (y_cA Γ 0, 1536, .inl (fun _ => 0))), (q3, .inl (y_cA Γ 0, 15, .inl (fun _ => 0))), (q4, .inl (y_cA Γ 0, 15, .inl (fun _ => 0))), (q5, .inl (y_cA Γ 0, 40, .inl (fun _ => 0))), (q6, .inl (y_cA Γ 0, 40, .inl (fun _ => 0))), (q7, .inl (y_cA Γ 0, 40, .inl (fun _ => 0))), (q8, .inl (y_cA Γ 0, 40, .inl (fun _ => 0))), (q9, .inl (y_cA Γ 0, 40, .inl (fun _ => 0))), (q10, .inl (y_cA Γ 0, 12, .inl (fun _ => 0))), (q11, .inl (y_cA Γ 0, 12, .inl (fun _ => 0))), (q12, .inl (y_cA Γ 1, 12, .inl (fun _ => 0))), (q13, .inl (y_cA Γ 0, 12, .inl (fun _ => 0))), (q14, .inl (y_cA Γ 0, 12, .inl (fun _ => 0))), (q15, .inl (y_cA Γ 1, 12, .inl (fun _ => 0))), (q16, .inl (y_cA Γ 0, 12, .inl (fun _ => 0))), (q17, .inl (y_cA Γ 0, 12, .inl (fun _ => 0)))] ++ y_W0 Γ)
  refine y_putF (ty := .array .int) hC wf_X8_63 tyX8 tyX8_ok nmX8 rfl rfl (by decide +kernel) rfl rfl (Nat.le_of_ble_eq_true rfl) dX8_init_144 ?_
  show yK Γ 1 _ _ _ _ _ _ ([(h0, .inr (8, [.ref q1, .ref q2, .int 0, .int 1, .int 0, .int 0, .ref q3, .ref q4, .int 0, .int 0, .ref q5, .ref q6, .ref q7, .ref q8, .ref q9, .int 0, .ref q10, .ref q11, .ref q12, .int 0, .ref q13, .ref q14, .ref q15, .int 0, .ref q16, .ref q17, .int 0, .int 0, .int 0, .null, .null, .null])), (q1, .inl (y_cA Γ 0, 192, .inl (fun _ => 0))), (q2, .inl (y_cA Γ 0, 1536, .inl (fun _ => 0))), (q3, .inl (y_cA Γ 0, 15, .inl (fun _ => 0))), (q4, .inl (y_cA Γ 0, 15, .inl (fun _ => 0))), (q5, .inl (y_cA Γ 0, 40, .inl (fun _ => 0))), (q6, .inl (y_cA Γ 0, 40, .inl (fun _ => 0))), (q7, .inl (y_cA Γ 0, 40, .inl (fun _ => 0))), (q8, .inl (y_cA Γ 0, 40, .inl (fun _ => 0))), (q9, .inl (y_cA Γ 0, 40, .inl (fun _ => 0))), (q10, .inl (y_cA Γ 0, 12, .inl (fun _ => 0))), (q11, .inl (y_cA Γ 0, 12, .inl (fun _ => 0))), (q12, .inl (y_cA Γ 1, 12, .inl (fun _ => 0))), (q13, .inl (y_cA Γ 0, 12, .inl (fun _ => 0))), (q14, .inl (y_cA Γ 0, 12, .inl (fun _ => 0))), (q15, .inl (y_cA Γ 1, 12, .inl (fun _ => 0))), (q16, .inl (y_cA Γ 0, 12, .inl (fun _ => 0))), (q17, .inl (y_cA Γ 0, 12, .inl (fun _ => 0)))] ++ y_W0 Γ)
  refine y_aload_n hC dX8_init_147 rfl ?_
  refine y_bipush hC dX8_init_148 kb_12 ?_
  refine y_newZ (N := 12) hC wi_aZ dX8_init_150 (by decide) (by decide) (fun q18 => ?_)
  show yK Γ 1 _ _ _ _ _ _ ([(h0, .inr (8, [.ref q1, .ref q2, .int 0, .int 1, .int 0, .int 0, .ref q3, .ref q4, .int 0, .int 0, .ref q5, .ref q6, .ref q7, .ref q8, .ref q9, .int 0, .ref q10, .ref q11, .ref q12, .int 0, .ref q13, .ref q14, .ref q15, .int 0, .ref q16, .ref q17, .int 0, .int 0, .int 0, .null, .null, .null])), (q1, .inl (y_cA Γ 0, 192, .inl (fun _ => 0))), (q2, .inl (y_cA Γ 0, 1536, .inl (fun _ => 0))), (q3, .inl (y_cA Γ 0, 15, .inl (fun _ => 0))), (q4, .inl (y_cA Γ 0, 15, .inl (fun _ => 0))), (q5, .inl (y_cA Γ 0, 40, .inl (fun _ => 0))), (q6, .inl (y_cA Γ 0, 40, .inl (fun _ => 0))), (q7, .inl (y_cA Γ 0, 40, .inl (fun _ => 0))), (q8, .inl (y_cA Γ 0, 40, .inl (fun _ => 0))), (q9, .inl (y_cA Γ 0, 40, .inl (fun _ => 0))), (q10, .inl (y_cA Γ 0, 12, .inl (fun _ => 0))), (q11, .inl (y_cA Γ 0, 12, .inl (fun _ => 0))), (q12, .inl (y_cA Γ 1, 12, .inl (fun _ => 0))), (q13, .inl (y_cA Γ 0, 12, .inl (fun _ => 0))), (q14, .inl (y_cA Γ 0, 12, .inl (fun _ => 0))), (q15, .inl (y_cA Γ 1, 12, .inl (fun _ => 0))), (q16, .inl (y_cA Γ 0, 12, .inl (fun _ => 0))), (q17, .inl (y_cA Γ 0, 12, .inl (fun _ => 0))), (q18, .inl (y_cA Γ 1, 12, .inl (fun _ => 0)))] ++ y_W0 Γ)
  refine y_putF (ty := .array .boolean) hC wf_X8_66 tyX8 tyX8_ok nmX8 rfl rfl (by decide +kernel) rfl rfl (Nat.le_of_ble_eq_true rfl) dX8_init_152 ?_
  show yK Γ 1 _ _ _ _ _ _ ([(h0, .inr (8, [.ref q1, .ref q2, .int 0, .int 1, .int 0, .int 0, .ref q3, .ref q4, .int 0, .int 0, .ref q5, .ref q6, .ref q7, .ref q8, .ref q9, .int 0, .ref q10, .ref q11, .ref q12, .int 0, .ref q13, .ref q14, .ref q15, .int 0, .ref q16, .ref q17, .int 0, .int 0, .int 0, .ref q18, .null, .null])), (q1, .inl (y_cA Γ 0, 192, .inl (fun _ => 0))), (q2, .inl (y_cA Γ 0, 1536, .inl (fun _ => 0))), (q3, .inl (y_cA Γ 0, 15, .inl (fun _ => 0))), (q4, .inl (y_cA Γ 0, 15, .inl (fun _ => 0))), (q5, .inl (y_cA Γ 0, 40, .inl (fun _ => 0))), (q6, .inl (y_cA Γ 0, 40, .inl (fun _ => 0))), (q7, .inl (y_cA Γ 0, 40, .inl (fun _ => 0))), (q8, .inl (y_cA Γ 0, 40, .inl (fun _ => 0))), (q9, .inl (y_cA Γ 0, 40, .inl (fun _ => 0))), (q10, .inl (y_cA Γ 0, 12, .inl (fun _ => 0))), (q11, .inl (y_cA Γ 0, 12, .inl (fun _ => 0))), (q12, .inl (y_cA Γ 1, 12, .inl (fun _ => 0))), (q13, .inl (y_cA Γ 0, 12, .inl (fun _ => 0))), (q14, .inl (y_cA Γ 0, 12, .inl (fun _ => 0))), (q15, .inl (y_cA Γ 1, 12, .inl (fun _ => 0))), (q16, .inl (y_cA Γ 0, 12, .inl (fun _ => 0))), (q17, .inl (y_cA Γ 0, 12, .inl (fun _ => 0))), (q18, .inl (y_cA Γ 1, 12, .inl (fun _ => 0)))] ++ y_W0 Γ)
  refine y_aload_n hC dX8_init_155 rfl ?_
  refine y_bipush hC dX8_init_156 kb_12 ?_
  refine y_newZ (N := 12) hC wi_aZ dX8_init_158 (by decide) (by decide) (fun q19 => ?_)
  show yK Γ 1 _ _ _ _ _ _ ([(h0, .inr (8, [.ref q1, .ref q2, .int 0, .int 1, .int 0, .int 0, .ref q3, .ref q4, .int 0, .int 0, .ref q5, .ref q6, .ref q7, .ref q8, .ref q9, .int 0, .ref q10, .ref q11, .ref q12, .int 0, .ref q13, .ref q14, .ref q15, .int 0, .ref q16, .ref q17, .int 0, .int 0, .int 0, .ref q18, .null, .null])), (q1, .inl (y_cA Γ 0, 192, .inl (fun _ => 0))), (q2, .inl (y_cA Γ 0, 1536, .inl (fun _ => 0))), (q3, .inl (y_cA Γ 0, 15, .inl (fun _ => 0))), (q4, .inl (y_cA Γ 0, 15, .inl (fun _ => 0))), (q5, .inl (y_cA Γ 0, 40, .inl (fun _ => 0))), (q6, .inl (y_cA Γ 0, 40, .inl (fun _ => 0))), (q7, .inl (y_cA Γ 0, 40, .inl (fun _ => 0))), (q8, .inl (y_cA Γ 0, 40, .inl (fun _ => 0))), (q9, .inl (y_cA Γ 0, 40, .inl (fun _ => 0))), (q10, .inl (y_cA Γ 0, 12, .inl (fun _ => 0))), (q11, .inl (y_cA Γ 0, 12, .inl (fun _ => 0))), (q12, .inl (y_cA Γ 1, 12, .inl (fun _ => 0))), (q13, .inl (y_cA Γ 0, 12, .inl (fun _ => 0))), (q14, .inl (y_cA Γ 0, 12, .inl (fun _ => 0))), (q15, .inl (y_cA Γ 1, 12, .inl (fun _ => 0))), (q16, .inl (y_cA Γ 0, 12, .inl (fun _ => 0))), (q17, .inl (y_cA Γ 0, 12, .inl (fun _ => 0))), (q18, .inl (y_cA Γ 1, 12, .inl (fun _ => 0))), (q19, .inl (y_cA Γ 1, 12, .inl (fun _ => 0)))] ++ y_W0 Γ)
  refine y_putF (ty := .array .boolean) hC wf_X8_69 tyX8 tyX8_ok nmX8 rfl rfl (by decide +kernel) rfl rfl (Nat.le_of_ble_eq_true rfl) dX8_init_160 ?_
  show yK Γ 1 _ _ _ _ _ _ ([(h0, .inr (8, [.ref q1, .ref q2, .int 0, .int 1, .int 0, .int 0, .ref q3, .ref q4, .int 0, .int 0, .ref q5, .ref q6, .ref q7, .ref q8, .ref q9, .int 0, .ref q10, .ref q11, .ref q12, .int 0, .ref q13, .ref q14, .ref q15, .int 0, .ref q16, .ref q17, .int 0, .int 0, .int 0, .ref q18, .ref q19, .null])), (q1, .inl (y_cA Γ 0, 192, .inl (fun _ => 0))), (q2, .inl (y_cA Γ 0, 1536, .inl (fun _ => 0))), (q3, .inl (y_cA Γ 0, 15, .inl (fun _ => 0))), (q4, .inl (y_cA Γ 0, 15, .inl (fun _ => 0))), (q5, .inl (y_cA Γ 0, 40, .inl (fun _ => 0))), (q6, .inl (y_cA Γ 0, 40, .inl (fun _ => 0))), (q7, .inl (y_cA Γ 0, 40, .inl (fun _ => 0))), (q8, .inl (y_cA Γ 0, 40, .inl (fun _ => 0))), (q9, .inl (y_cA Γ 0, 40, .inl (fun _ => 0))), (q10, .inl (y_cA Γ 0, 12, .inl (fun _ => 0))), (q11, .inl (y_cA Γ 0, 12, .inl (fun _ => 0))), (q12, .inl (y_cA Γ 1, 12, .inl (fun _ => 0))), (q13, .inl (y_cA Γ 0, 12, .inl (fun _ => 0))), (q14, .inl (y_cA Γ 0, 12, .inl (fun _ => 0))), (q15, .inl (y_cA Γ 1, 12, .inl (fun _ => 0))), (q16, .inl (y_cA Γ 0, 12, .inl (fun _ => 0))), (q17, .inl (y_cA Γ 0, 12, .inl (fun _ => 0))), (q18, .inl (y_cA Γ 1, 12, .inl (fun _ => 0))), (q19, .inl (y_cA Γ 1, 12, .inl (fun _ => 0)))] ++ y_W0 Γ)
  refine y_aload_n hC dX8_init_163 rfl ?_
  refine y_bipush hC dX8_init_164 kb_10 ?_
  refine y_newI (N := 10) hC wi_aI dX8_init_166 (by decide) (by decide) (fun q20 => ?_)
  show yK Γ 1 _ _ _ _ _ _ ([(h0, .inr (8, [.ref q1, .ref q2, .int 0, .int 1, .int 0, .int 0, .ref q3, .ref q4, .int 0, .int 0, .ref q5, .ref q6, .ref q7, .ref q8, .ref q9, .int 0, .ref q10, .ref q11, .ref q12, .int 0, .ref q13, .ref q14, .ref q15, .int 0, .ref q16, .ref q17, .int 0, .int 0, .int 0, .ref q18, .ref q19, .null])), (q1, .inl (y_cA Γ 0, 192, .inl (fun _ => 0))), (q2, .inl (y_cA Γ 0, 1536, .inl (fun _ => 0))), (q3, .inl (y_cA Γ 0, 15, .inl (fun _ => 0))), (q4, .inl (y_cA Γ 0, 15, .inl (fun _ => 0))), (q5, .inl (y_cA Γ 0, 40, .inl (fun _ => 0))), (q6, .inl (y_cA Γ 0, 40, .inl (fun _ => 0))), (q7, .inl (y_cA Γ 0, 40, .inl (fun _ => 0))), (q8, .inl (y_cA Γ 0, 40, .inl (fun _ => 0))), (q9, .inl (y_cA Γ 0, 40, .inl (fun _ => 0))), (q10, .inl (y_cA Γ 0, 12, .inl (fun _ => 0))), (q11, .inl (y_cA Γ 0, 12, .inl (fun _ => 0))), (q12, .inl (y_cA Γ 1, 12, .inl (fun _ => 0))), (q13, .inl (y_cA Γ 0, 12, .inl (fun _ => 0))), (q14, .inl (y_cA Γ 0, 12, .inl (fun _ => 0))), (q15, .inl (y_cA Γ 1, 12, .inl (fun _ => 0))), (q16, .inl (y_cA Γ 0, 12, .inl (fun _ => 0))), (q17, .inl (y_cA Γ 0, 12, .inl (fun _ => 0))), (q18, .inl (y_cA Γ 1, 12, .inl (fun _ => 0))), (q19, .inl (y_cA Γ 1, 12, .inl (fun _ => 0))), (q20, .inl (y_cA Γ 0, 10, .inl (fun _ => 0)))] ++ y_W0 Γ)
  refine y_putF (ty := .array .int) hC wf_X8_72 tyX8 tyX8_ok nmX8 rfl rfl (by decide +kernel) rfl rfl (Nat.le_of_ble_eq_true rfl) dX8_init_168 ?_
  show yK Γ 1 _ _ _ _ _ _ ([(h0, .inr (8, [.ref q1, .ref q2, .int 0, .int 1, .int 0, .int 0, .ref q3, .ref q4, .int 0, .int 0, .ref q5, .ref q6, .ref q7, .ref q8, .ref q9, .int 0, .ref q10, .ref q11, .ref q12, .int 0, .ref q13, .ref q14, .ref q15, .int 0, .ref q16, .ref q17, .int 0, .int 0, .int 0, .ref q18, .ref q19, .ref q20])), (q1, .inl (y_cA Γ 0, 192, .inl (fun _ => 0))), (q2, .inl (y_cA Γ 0, 1536, .inl (fun _ => 0))), (q3, .inl (y_cA Γ 0, 15, .inl (fun _ => 0))), (q4, .inl (y_cA Γ 0, 15, .inl (fun _ => 0))), (q5, .inl (y_cA Γ 0, 40, .inl (fun _ => 0))), (q6, .inl (y_cA Γ 0, 40, .inl (fun _ => 0))), (q7, .inl (y_cA Γ 0, 40, .inl (fun _ => 0))), (q8, .inl (y_cA Γ 0, 40, .inl (fun _ => 0))), (q9, .inl (y_cA Γ 0, 40, .inl (fun _ => 0))), (q10, .inl (y_cA Γ 0, 12, .inl (fun _ => 0))), (q11, .inl (y_cA Γ 0, 12, .inl (fun _ => 0))), (q12, .inl (y_cA Γ 1, 12, .inl (fun _ => 0))), (q13, .inl (y_cA Γ 0, 12, .inl (fun _ => 0))), (q14, .inl (y_cA Γ 0, 12, .inl (fun _ => 0))), (q15, .inl (y_cA Γ 1, 12, .inl (fun _ => 0))), (q16, .inl (y_cA Γ 0, 12, .inl (fun _ => 0))), (q17, .inl (y_cA Γ 0, 12, .inl (fun _ => 0))), (q18, .inl (y_cA Γ 1, 12, .inl (fun _ => 0))), (q19, .inl (y_cA Γ 1, 12, .inl (fun _ => 0))), (q20, .inl (y_cA Γ 0, 10, .inl (fun _ => 0)))] ++ y_W0 Γ)
  refine y_aload_n hC dX8_init_171 rfl ?_
  refine y_iconst hC dX8_init_172 ki_0 ?_
  refine y_puti hC wp_X8_75 (Nat.le_of_ble_eq_true rfl) dX8_init_173 ?_
  show yK Γ 1 _ _ _ _ _ _ ([(h0, .inr (8, [.ref q1, .ref q2, .int 0, .int 1, .int 0, .int 0, .ref q3, .ref q4, .int 0, .int 0, .ref q5, .ref q6, .ref q7, .ref q8, .ref q9, .int 0, .ref q10, .ref q11, .ref q12, .int 0, .ref q13, .ref q14, .ref q15, .int 0, .ref q16, .ref q17, .int 0, .int 0, .int 0, .ref q18, .ref q19, .ref q20])), (q1, .inl (y_cA Γ 0, 192, .inl (fun _ => 0))), (q2, .inl (y_cA Γ 0, 1536, .inl (fun _ => 0))), (q3, .inl (y_cA Γ 0, 15, .inl (fun _ => 0))), (q4, .inl (y_cA Γ 0, 15, .inl (fun _ => 0))), (q5, .inl (y_cA Γ 0, 40, .inl (fun _ => 0))), (q6, .inl (y_cA Γ 0, 40, .inl (fun _ => 0))), (q7, .inl (y_cA Γ 0, 40, .inl (fun _ => 0))), (q8, .inl (y_cA Γ 0, 40, .inl (fun _ => 0))), (q9, .inl (y_cA Γ 0, 40, .inl (fun _ => 0))), (q10, .inl (y_cA Γ 0, 12, .inl (fun _ => 0))), (q11, .inl (y_cA Γ 0, 12, .inl (fun _ => 0))), (q12, .inl (y_cA Γ 1, 12, .inl (fun _ => 0))), (q13, .inl (y_cA Γ 0, 12, .inl (fun _ => 0))), (q14, .inl (y_cA Γ 0, 12, .inl (fun _ => 0))), (q15, .inl (y_cA Γ 1, 12, .inl (fun _ => 0))), (q16, .inl (y_cA Γ 0, 12, .inl (fun _ => 0))), (q17, .inl (y_cA Γ 0, 12, .inl (fun _ => 0))), (q18, .inl (y_cA Γ 1, 12, .inl (fun _ => 0))), (q19, .inl (y_cA Γ 1, 12, .inl (fun _ => 0))), (q20, .inl (y_cA Γ 0, 10, .inl (fun _ => 0)))] ++ y_W0 Γ)
  exact y_vret hC (fun j => ([h0, q1, q2, q3, q4, q5, q6, q7, q8, q9, q10, q11, q12, q13, q14, q15, q16, q17, q18, q19, q20] : List Nat).getD j 0) rfl rfl dX8_init_176
