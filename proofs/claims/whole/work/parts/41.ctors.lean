theorem zmo_X5 : Cond.methodLink RX5 1 objectInit ∈ lw_g := lw_in 20 (by decide +kernel) (by decide +kernel)
theorem zmo_X4 : Cond.methodLink RX4 3 objectInit ∈ lw_g := lw_in 28 (by decide +kernel) (by decide +kernel)
theorem zmo_X2 : Cond.methodLink RX2 1 objectInit ∈ lw_g := lw_in 79 (by decide +kernel) (by decide +kernel)
theorem zmo_X3 : Cond.methodLink RX3 3 objectInit ∈ lw_g := lw_in 96 (by decide +kernel) (by decide +kernel)
theorem zmo_X1 : Cond.methodLink RX1 1 objectInit ∈ lw_g := lw_in 121 (by decide +kernel) (by decide +kernel)
theorem zmo_X6 : Cond.methodLink RX6 1 objectInit ∈ lw_g := lw_in 631 (by decide +kernel) (by decide +kernel)
theorem zac_i : Cond.arrayClass .int ∈ lw_g := lw_in 73 (by decide +kernel) (by decide +kernel)
theorem zac_b : Cond.arrayClass .byte ∈ lw_g := lw_in 90 (by decide +kernel) (by decide +kernel)
theorem zac_l : Cond.arrayClass .long ∈ lw_g := lw_in 137 (by decide +kernel) (by decide +kernel)
theorem zcl_L_7 : Cond.classLink RL 7 RX5 ∈ lw_g := lw_in 15 (by decide +kernel) (by decide +kernel)
theorem zis_X5 : Cond.instantiable RX5 8 ∈ lw_g := lw_in 16 (by decide +kernel) (by decide +kernel)
theorem zcl_X5_7 : Cond.classLink RX5 7 RX4 ∈ lw_g := lw_in 23 (by decide +kernel) (by decide +kernel)
theorem zis_X4 : Cond.instantiable RX4 10 ∈ lw_g := lw_in 24 (by decide +kernel) (by decide +kernel)
theorem zcl_X5_26 : Cond.classLink RX5 26 RX2 ∈ lw_g := lw_in 74 (by decide +kernel) (by decide +kernel)
theorem zis_X2 : Cond.instantiable RX2 2 ∈ lw_g := lw_in 75 (by decide +kernel) (by decide +kernel)
theorem zcl_X5_33 : Cond.classLink RX5 33 RX3 ∈ lw_g := lw_in 91 (by decide +kernel) (by decide +kernel)
theorem zis_X3 : Cond.instantiable RX3 6 ∈ lw_g := lw_in 92 (by decide +kernel) (by decide +kernel)
theorem zcl_X5_42 : Cond.classLink RX5 42 RX1 ∈ lw_g := lw_in 116 (by decide +kernel) (by decide +kernel)
theorem zis_X1 : Cond.instantiable RX1 3 ∈ lw_g := lw_in 117 (by decide +kernel) (by decide +kernel)
theorem zcl_X1_9 : Cond.classLink RX1 9 "[[J" ∈ lw_g := lw_in 122 (by decide +kernel) (by decide +kernel)
theorem zcl_L_10 : Cond.classLink RL 10 RX6 ∈ lw_g := lw_in 626 (by decide +kernel) (by decide +kernel)
theorem zis_X6 : Cond.instantiable RX6 16 ∈ lw_g := lw_in 627 (by decide +kernel) (by decide +kernel)
theorem zit_X5 : Cond.initialized RX5 ∈ lw_g := lw_in 1 (by decide +kernel) (by decide +kernel)
theorem zit_X4 : Cond.initialized RX4 ∈ lw_g := lw_in 2 (by decide +kernel) (by decide +kernel)
theorem zit_X2 : Cond.initialized RX2 ∈ lw_g := lw_in 3 (by decide +kernel) (by decide +kernel)
theorem zit_X3 : Cond.initialized RX3 ∈ lw_g := lw_in 4 (by decide +kernel) (by decide +kernel)
theorem zit_X1 : Cond.initialized RX1 ∈ lw_g := lw_in 5 (by decide +kernel) (by decide +kernel)
theorem zit_X6 : Cond.initialized RX6 ∈ lw_g := lw_in 6 (by decide +kernel) (by decide +kernel)
theorem zii_X5 : Cond.instanceMethod yX5_init ∈ lw_g := lw_in 18 (by decide +kernel) (by decide +kernel)
theorem zii_X4 : Cond.instanceMethod yX4_init ∈ lw_g := lw_in 26 (by decide +kernel) (by decide +kernel)
theorem zii_X2 : Cond.instanceMethod yX2_init ∈ lw_g := lw_in 77 (by decide +kernel) (by decide +kernel)
theorem zii_X3 : Cond.instanceMethod yX3_init ∈ lw_g := lw_in 94 (by decide +kernel) (by decide +kernel)
theorem zii_X1 : Cond.instanceMethod yX1_init ∈ lw_g := lw_in 119 (by decide +kernel) (by decide +kernel)
theorem zii_X6 : Cond.instanceMethod yX6_init ∈ lw_g := lw_in 629 (by decide +kernel) (by decide +kernel)
theorem zff_X1_0 : zFF 0 0 (.array (.array .long)) RX1 := ⟨RX1, TX1, 3, tyX1, rfl, tyX1_ok, nmX1, rfl, rfl, (by decide +kernel)⟩
theorem zff_X1_1 : zFF 0 1 (.array .int) RX1 := ⟨RX1, TX1, 3, tyX1, rfl, tyX1_ok, nmX1, rfl, rfl, (by decide +kernel)⟩
theorem zff_X1_2 : zFF 0 2 (.array .int) RX1 := ⟨RX1, TX1, 3, tyX1, rfl, tyX1_ok, nmX1, rfl, rfl, (by decide +kernel)⟩
abbrev kF1 : List Value := [.null, .null, .null]
theorem kF1_ok : ∀ j, j < 3 → defaultValue (tyX1 j) = vp_V kF1 j := fun j hj => by rcases (show j = 0 ∨ j = 1 ∨ j = 2 by omega) with rfl | rfl | rfl <;> rfl
theorem zff_X2_0 : zFF 1 0 (.array .byte) RX2 := ⟨RX2, TX2, 2, tyX2, rfl, tyX2_ok, nmX2, rfl, rfl, (by decide +kernel)⟩
abbrev kF2 : List Value := [.null, .int 0]
theorem kF2_ok : ∀ j, j < 2 → defaultValue (tyX2 j) = vp_V kF2 j := fun j hj => by rcases (show j = 0 ∨ j = 1 by omega) with rfl | rfl <;> rfl
theorem zff_X3_0 : zFF 2 0 (.object "BasinVotes$Tape") RX3 := ⟨RX3, TX3, 6, tyX3, rfl, tyX3_ok, nmX3, rfl, rfl, (by decide +kernel)⟩
theorem zff_X3_1 : zFF 2 1 (.object "BasinVotes$Town") RX3 := ⟨RX3, TX3, 6, tyX3, rfl, tyX3_ok, nmX3, rfl, rfl, (by decide +kernel)⟩
abbrev kF3 : List Value := [.null, .null, .int 0, .int 0, .int 0, .int 0]
theorem kF3_ok : ∀ j, j < 6 → defaultValue (tyX3 j) = vp_V kF3 j := fun j hj => by rcases (show j = 0 ∨ j = 1 ∨ j = 2 ∨ j = 3 ∨ j = 4 ∨ j = 5 by omega) with rfl | rfl | rfl | rfl | rfl | rfl <;> rfl
theorem zff_X4_4 : zFF 3 4 (.array .int) RX4 := ⟨RX4, TX4, 10, tyX4, rfl, tyX4_ok, nmX4, rfl, rfl, (by decide +kernel)⟩
theorem zff_X4_5 : zFF 3 5 (.array .int) RX4 := ⟨RX4, TX4, 10, tyX4, rfl, tyX4_ok, nmX4, rfl, rfl, (by decide +kernel)⟩
theorem zff_X4_6 : zFF 3 6 (.array .int) RX4 := ⟨RX4, TX4, 10, tyX4, rfl, tyX4_ok, nmX4, rfl, rfl, (by decide +kernel)⟩
theorem zff_X4_7 : zFF 3 7 (.array .int) RX4 := ⟨RX4, TX4, 10, tyX4, rfl, tyX4_ok, nmX4, rfl, rfl, (by decide +kernel)⟩
theorem zff_X4_8 : zFF 3 8 (.array .int) RX4 := ⟨RX4, TX4, 10, tyX4, rfl, tyX4_ok, nmX4, rfl, rfl, (by decide +kernel)⟩
theorem zff_X4_9 : zFF 3 9 (.array .int) RX4 := ⟨RX4, TX4, 10, tyX4, rfl, tyX4_ok, nmX4, rfl, rfl, (by decide +kernel)⟩
abbrev kF4 : List Value := [.int 0, .int 0, .int 0, .int 0, .null, .null, .null, .null, .null, .null]
theorem kF4_ok : ∀ j, j < 10 → defaultValue (tyX4 j) = vp_V kF4 j := fun j hj => by rcases (show j = 0 ∨ j = 1 ∨ j = 2 ∨ j = 3 ∨ j = 4 ∨ j = 5 ∨ j = 6 ∨ j = 7 ∨ j = 8 ∨ j = 9 by omega) with rfl | rfl | rfl | rfl | rfl | rfl | rfl | rfl | rfl | rfl <;> rfl
theorem zff_X5_0 : zFF 4 0 (.object "BasinVotes$Town") RX5 := ⟨RX5, TX5, 8, tyX5, rfl, tyX5_ok, nmX5, rfl, rfl, (by decide +kernel)⟩
theorem zff_X5_1 : zFF 4 1 (.object "BasinVotes$Town") RX5 := ⟨RX5, TX5, 8, tyX5, rfl, tyX5_ok, nmX5, rfl, rfl, (by decide +kernel)⟩
theorem zff_X5_2 : zFF 4 2 (.object "BasinVotes$Town") RX5 := ⟨RX5, TX5, 8, tyX5, rfl, tyX5_ok, nmX5, rfl, rfl, (by decide +kernel)⟩
theorem zff_X5_4 : zFF 4 4 (.object "BasinVotes$Tape") RX5 := ⟨RX5, TX5, 8, tyX5, rfl, tyX5_ok, nmX5, rfl, rfl, (by decide +kernel)⟩
theorem zff_X5_5 : zFF 4 5 (.object "BasinVotes$TextReader") RX5 := ⟨RX5, TX5, 8, tyX5, rfl, tyX5_ok, nmX5, rfl, rfl, (by decide +kernel)⟩
theorem zff_X5_6 : zFF 4 6 (.object "BasinVotes$Sheets") RX5 := ⟨RX5, TX5, 8, tyX5, rfl, tyX5_ok, nmX5, rfl, rfl, (by decide +kernel)⟩
theorem zff_X5_7 : zFF 4 7 (.array .int) RX5 := ⟨RX5, TX5, 8, tyX5, rfl, tyX5_ok, nmX5, rfl, rfl, (by decide +kernel)⟩
abbrev kF5 : List Value := [.null, .null, .null, .int 0, .null, .null, .null, .null]
theorem kF5_ok : ∀ j, j < 8 → defaultValue (tyX5 j) = vp_V kF5 j := fun j hj => by rcases (show j = 0 ∨ j = 1 ∨ j = 2 ∨ j = 3 ∨ j = 4 ∨ j = 5 ∨ j = 6 ∨ j = 7 by omega) with rfl | rfl | rfl | rfl | rfl | rfl | rfl | rfl <;> rfl
theorem zff_X6_0 : zFF 5 0 (.array .int) RX6 := ⟨RX6, TX6, 16, tyX6, rfl, tyX6_ok, nmX6, rfl, rfl, (by decide +kernel)⟩
theorem zff_X6_1 : zFF 5 1 (.array .int) RX6 := ⟨RX6, TX6, 16, tyX6, rfl, tyX6_ok, nmX6, rfl, rfl, (by decide +kernel)⟩
theorem zff_X6_2 : zFF 5 2 (.array .int) RX6 := ⟨RX6, TX6, 16, tyX6, rfl, tyX6_ok, nmX6, rfl, rfl, (by decide +kernel)⟩
theorem zff_X6_3 : zFF 5 3 (.array .int) RX6 := ⟨RX6, TX6, 16, tyX6, rfl, tyX6_ok, nmX6, rfl, rfl, (by decide +kernel)⟩
theorem zff_X6_4 : zFF 5 4 (.array .int) RX6 := ⟨RX6, TX6, 16, tyX6, rfl, tyX6_ok, nmX6, rfl, rfl, (by decide +kernel)⟩
theorem zff_X6_6 : zFF 5 6 (.array .int) RX6 := ⟨RX6, TX6, 16, tyX6, rfl, tyX6_ok, nmX6, rfl, rfl, (by decide +kernel)⟩
theorem zff_X6_12 : zFF 5 12 (.array .int) RX6 := ⟨RX6, TX6, 16, tyX6, rfl, tyX6_ok, nmX6, rfl, rfl, (by decide +kernel)⟩
theorem zff_X6_13 : zFF 5 13 (.array .int) RX6 := ⟨RX6, TX6, 16, tyX6, rfl, tyX6_ok, nmX6, rfl, rfl, (by decide +kernel)⟩
theorem zff_X6_14 : zFF 5 14 (.array .long) RX6 := ⟨RX6, TX6, 16, tyX6, rfl, tyX6_ok, nmX6, rfl, rfl, (by decide +kernel)⟩
theorem zff_X6_15 : zFF 5 15 (.array .long) RX6 := ⟨RX6, TX6, 16, tyX6, rfl, tyX6_ok, nmX6, rfl, rfl, (by decide +kernel)⟩
abbrev kF6 : List Value := [.null, .null, .null, .null, .null, .int 0, .null, .int 0, .int 0, .int 0, .int 0, .int 0, .null, .null, .null, .null]
theorem kF6_ok : ∀ j, j < 16 → defaultValue (tyX6 j) = vp_V kF6 j := fun j hj => by rcases (show j = 0 ∨ j = 1 ∨ j = 2 ∨ j = 3 ∨ j = 4 ∨ j = 5 ∨ j = 6 ∨ j = 7 ∨ j = 8 ∨ j = 9 ∨ j = 10 ∨ j = 11 ∨ j = 12 ∨ j = 13 ∨ j = 14 ∨ j = 15 by omega) with rfl | rfl | rfl | rfl | rfl | rfl | rfl | rfl | rfl | rfl | rfl | rfl | rfl | rfl | rfl | rfl <;> rfl
abbrev kIr (cA : Nat → ClassId) (n : Nat) : va_E := .inl (cA 0, n, .inl (fun _ => 0))
abbrev kBr (cA : Nat → ClassId) (n : Nat) : va_E := .inl (cA 2, n, .inl (fun _ => 0))
theorem zmn_9 (U : State) (h : kN U) : va_Nw (.methodLinkNest RX5 9 yX4_init "BasinVotes") U := h.1
theorem zmn_28 (U : State) (h : kN U) : va_Nw (.methodLinkNest RX5 28 yX2_init "BasinVotes") U := h.2.1
theorem zmn_44 (U : State) (h : kN U) : va_Nw (.methodLinkNest RX5 44 yX1_init "BasinVotes") U := h.2.2.1
abbrev kTown (cA : Nat → ClassId) (h : Nat) (u : Nat → Nat) : va_W := [(h, .inr (3, [.int 0, .int 0, .int 0, .int 0, .ref (u 1), .ref (u 2), .ref (u 3), .ref (u 4), .ref (u 5), .ref (u 6)])), ((u 1), kIr cA 6), ((u 2), kIr cA 6), ((u 3), kIr cA 8), ((u 4), kIr cA 8), ((u 5), kIr cA 8), ((u 6), kIr cA 8)]
set_option maxHeartbeats 4000000 in
set_option maxRecDepth 100000 in
theorem k_kTown {D : va_G} {cA : Nat → ClassId} {h : Nat} : kEv D cA 1 6 44 yX4_init cX4_init 1 [.ref h] [(h, .inr (3, kF4))] (kTown cA h) := by
  refine kev_intro (own := RX4) (by decide +kernel) rfl rfl (Nat.le_of_ble_eq_true rfl) rfl (fun C hM => ?_)
  show kAW D cA C 1 cX4_init RX4 0 [some (.ref h)] [] [(h, .inr (3, kF4))] 0 0
  refine ka_aload_n dX4_init_0 rfl ?_
  refine ka_obj dX4_init_1 zmo_X4 (by decide) (Nat.le_of_ble_eq_true rfl) ?_
  refine ka_aload_n dX4_init_4 rfl ?_
  refine ka_iconst 0 dX4_init_5 (by decide) ?_
  refine ka_putI (q0 := 0) dX4_init_6 zf_X4_9 zp_X4_0 rfl (Nat.le_of_ble_eq_true rfl) (by decide) (by decide) ?_
  show kAW D cA C 1 cX4_init RX4 9 [some (.ref h)] [] [(h, .inr (3, [.int 0, .int 0, .int 0, .int 0, .null, .null, .null, .null, .null, .null]))] 0 0
  refine ka_aload_n dX4_init_9 rfl ?_
  refine ka_iconst 0 dX4_init_10 (by decide) ?_
  refine ka_putI (q0 := 0) dX4_init_11 zf_X4_15 zp_X4_1 rfl (Nat.le_of_ble_eq_true rfl) (by decide) (by decide) ?_
  show kAW D cA C 1 cX4_init RX4 14 [some (.ref h)] [] [(h, .inr (3, [.int 0, .int 0, .int 0, .int 0, .null, .null, .null, .null, .null, .null]))] 0 0
  refine ka_aload_n dX4_init_14 rfl ?_
  refine ka_iconst 0 dX4_init_15 (by decide) ?_
  refine ka_putI (q0 := 0) dX4_init_16 zf_X4_18 zp_X4_2 rfl (Nat.le_of_ble_eq_true rfl) (by decide) (by decide) ?_
  show kAW D cA C 1 cX4_init RX4 19 [some (.ref h)] [] [(h, .inr (3, [.int 0, .int 0, .int 0, .int 0, .null, .null, .null, .null, .null, .null]))] 0 0
  refine ka_aload_n dX4_init_19 rfl ?_
  refine ka_iconst 0 dX4_init_20 (by decide) ?_
  refine ka_putI (q0 := 0) dX4_init_21 zf_X4_21 zp_X4_3 rfl (Nat.le_of_ble_eq_true rfl) (by decide) (by decide) ?_
  show kAW D cA C 1 cX4_init RX4 24 [some (.ref h)] [] [(h, .inr (3, [.int 0, .int 0, .int 0, .int 0, .null, .null, .null, .null, .null, .null]))] 0 0
  refine ka_aload_n dX4_init_24 rfl ?_
  refine ka_bipush (nI 6) dX4_init_25 (by decide +kernel) ?_
  refine ka_newa (t := 0) (ty := .int) (N' := 6) (a0 := (6, .inl (fun _ => 0))) dX4_init_27 zac_i rfl rfl (fun _ => rfl) (nI_pos (by decide)) (nI_clamp (by decide)) (by decide) (hM.c (Nat.le_of_ble_eq_true rfl)) (hM.s (Nat.le_of_ble_eq_true rfl)) (fun q1 => ?_)
  show kAW D cA C 1 cX4_init RX4 29 [some (.ref h)] [.ref q1, .ref h] [(h, .inr (3, [.int 0, .int 0, .int 0, .int 0, .null, .null, .null, .null, .null, .null])), (q1, kIr cA 6)] 1 6
  refine ka_putF (q0 := 0) dX4_init_29 zf_X4_24 zff_X4_4 hM.i rfl (Nat.le_of_ble_eq_true rfl) rfl rfl ?_
  show kAW D cA C 1 cX4_init RX4 32 [some (.ref h)] [] [(h, .inr (3, [.int 0, .int 0, .int 0, .int 0, .ref q1, .null, .null, .null, .null, .null])), (q1, kIr cA 6)] 1 6
  refine ka_aload_n dX4_init_32 rfl ?_
  refine ka_bipush (nI 6) dX4_init_33 (by decide +kernel) ?_
  refine ka_newa (t := 0) (ty := .int) (N' := 6) (a0 := (6, .inl (fun _ => 0))) dX4_init_35 zac_i rfl rfl (fun _ => rfl) (nI_pos (by decide)) (nI_clamp (by decide)) (by decide) (hM.c (Nat.le_of_ble_eq_true rfl)) (hM.s (Nat.le_of_ble_eq_true rfl)) (fun q2 => ?_)
  show kAW D cA C 1 cX4_init RX4 37 [some (.ref h)] [.ref q2, .ref h] [(h, .inr (3, [.int 0, .int 0, .int 0, .int 0, .ref q1, .null, .null, .null, .null, .null])), (q1, kIr cA 6), (q2, kIr cA 6)] 2 12
  refine ka_putF (q0 := 0) dX4_init_37 zf_X4_28 zff_X4_5 hM.i rfl (Nat.le_of_ble_eq_true rfl) rfl rfl ?_
  show kAW D cA C 1 cX4_init RX4 40 [some (.ref h)] [] [(h, .inr (3, [.int 0, .int 0, .int 0, .int 0, .ref q1, .ref q2, .null, .null, .null, .null])), (q1, kIr cA 6), (q2, kIr cA 6)] 2 12
  refine ka_aload_n dX4_init_40 rfl ?_
  refine ka_bipush (nI 8) dX4_init_41 (by decide +kernel) ?_
  refine ka_newa (t := 0) (ty := .int) (N' := 8) (a0 := (8, .inl (fun _ => 0))) dX4_init_43 zac_i rfl rfl (fun _ => rfl) (nI_pos (by decide)) (nI_clamp (by decide)) (by decide) (hM.c (Nat.le_of_ble_eq_true rfl)) (hM.s (Nat.le_of_ble_eq_true rfl)) (fun q3 => ?_)
  show kAW D cA C 1 cX4_init RX4 45 [some (.ref h)] [.ref q3, .ref h] [(h, .inr (3, [.int 0, .int 0, .int 0, .int 0, .ref q1, .ref q2, .null, .null, .null, .null])), (q1, kIr cA 6), (q2, kIr cA 6), (q3, kIr cA 8)] 3 20
  refine ka_putF (q0 := 0) dX4_init_45 zf_X4_31 zff_X4_6 hM.i rfl (Nat.le_of_ble_eq_true rfl) rfl rfl ?_
  show kAW D cA C 1 cX4_init RX4 48 [some (.ref h)] [] [(h, .inr (3, [.int 0, .int 0, .int 0, .int 0, .ref q1, .ref q2, .ref q3, .null, .null, .null])), (q1, kIr cA 6), (q2, kIr cA 6), (q3, kIr cA 8)] 3 20
  refine ka_aload_n dX4_init_48 rfl ?_
  refine ka_bipush (nI 8) dX4_init_49 (by decide +kernel) ?_
  refine ka_newa (t := 0) (ty := .int) (N' := 8) (a0 := (8, .inl (fun _ => 0))) dX4_init_51 zac_i rfl rfl (fun _ => rfl) (nI_pos (by decide)) (nI_clamp (by decide)) (by decide) (hM.c (Nat.le_of_ble_eq_true rfl)) (hM.s (Nat.le_of_ble_eq_true rfl)) (fun q4 => ?_)
  show kAW D cA C 1 cX4_init RX4 53 [some (.ref h)] [.ref q4, .ref h] [(h, .inr (3, [.int 0, .int 0, .int 0, .int 0, .ref q1, .ref q2, .ref q3, .null, .null, .null])), (q1, kIr cA 6), (q2, kIr cA 6), (q3, kIr cA 8), (q4, kIr cA 8)] 4 28
  refine ka_putF (q0 := 0) dX4_init_53 zf_X4_34 zff_X4_7 hM.i rfl (Nat.le_of_ble_eq_true rfl) rfl rfl ?_
  show kAW D cA C 1 cX4_init RX4 56 [some (.ref h)] [] [(h, .inr (3, [.int 0, .int 0, .int 0, .int 0, .ref q1, .ref q2, .ref q3, .ref q4, .null, .null])), (q1, kIr cA 6), (q2, kIr cA 6), (q3, kIr cA 8), (q4, kIr cA 8)] 4 28
  refine ka_aload_n dX4_init_56 rfl ?_
  refine ka_bipush (nI 8) dX4_init_57 (by decide +kernel) ?_
  refine ka_newa (t := 0) (ty := .int) (N' := 8) (a0 := (8, .inl (fun _ => 0))) dX4_init_59 zac_i rfl rfl (fun _ => rfl) (nI_pos (by decide)) (nI_clamp (by decide)) (by decide) (hM.c (Nat.le_of_ble_eq_true rfl)) (hM.s (Nat.le_of_ble_eq_true rfl)) (fun q5 => ?_)
  show kAW D cA C 1 cX4_init RX4 61 [some (.ref h)] [.ref q5, .ref h] [(h, .inr (3, [.int 0, .int 0, .int 0, .int 0, .ref q1, .ref q2, .ref q3, .ref q4, .null, .null])), (q1, kIr cA 6), (q2, kIr cA 6), (q3, kIr cA 8), (q4, kIr cA 8), (q5, kIr cA 8)] 5 36
  refine ka_putF (q0 := 0) dX4_init_61 zf_X4_37 zff_X4_8 hM.i rfl (Nat.le_of_ble_eq_true rfl) rfl rfl ?_
  show kAW D cA C 1 cX4_init RX4 64 [some (.ref h)] [] [(h, .inr (3, [.int 0, .int 0, .int 0, .int 0, .ref q1, .ref q2, .ref q3, .ref q4, .ref q5, .null])), (q1, kIr cA 6), (q2, kIr cA 6), (q3, kIr cA 8), (q4, kIr cA 8), (q5, kIr cA 8)] 5 36
  refine ka_aload_n dX4_init_64 rfl ?_
  refine ka_bipush (nI 8) dX4_init_65 (by decide +kernel) ?_
  refine ka_newa (t := 0) (ty := .int) (N' := 8) (a0 := (8, .inl (fun _ => 0))) dX4_init_67 zac_i rfl rfl (fun _ => rfl) (nI_pos (by decide)) (nI_clamp (by decide)) (by decide) (hM.c (Nat.le_of_ble_eq_true rfl)) (hM.s (Nat.le_of_ble_eq_true rfl)) (fun q6 => ?_)
  show kAW D cA C 1 cX4_init RX4 69 [some (.ref h)] [.ref q6, .ref h] [(h, .inr (3, [.int 0, .int 0, .int 0, .int 0, .ref q1, .ref q2, .ref q3, .ref q4, .ref q5, .null])), (q1, kIr cA 6), (q2, kIr cA 6), (q3, kIr cA 8), (q4, kIr cA 8), (q5, kIr cA 8), (q6, kIr cA 8)] 6 44
  refine ka_putF (q0 := 0) dX4_init_69 zf_X4_40 zff_X4_9 hM.i rfl (Nat.le_of_ble_eq_true rfl) rfl rfl ?_
  show kAW D cA C 1 cX4_init RX4 72 [some (.ref h)] [] [(h, .inr (3, [.int 0, .int 0, .int 0, .int 0, .ref q1, .ref q2, .ref q3, .ref q4, .ref q5, .ref q6])), (q1, kIr cA 6), (q2, kIr cA 6), (q3, kIr cA 8), (q4, kIr cA 8), (q5, kIr cA 8), (q6, kIr cA 8)] 6 44
  exact ka_vret hM dX4_init_72 (fun k => [h, q1, q2, q3, q4, q5, q6].getD k 0) rfl (Nat.le_of_ble_eq_true rfl) (Nat.le_of_ble_eq_true rfl)

abbrev kTape (cA : Nat → ClassId) (h : Nat) (u : Nat → Nat) : va_W := [(h, .inr (1, [.ref (u 1), .int 0])), ((u 1), kBr cA 120)]
set_option maxHeartbeats 4000000 in
set_option maxRecDepth 100000 in
theorem k_kTape {D : va_G} {cA : Nat → ClassId} {h : Nat} : kEv D cA 1 1 120 yX2_init cX2_init 1 [.ref h] [(h, .inr (1, kF2))] (kTape cA h) := by
  refine kev_intro (own := RX2) (by decide +kernel) rfl rfl (Nat.le_of_ble_eq_true rfl) rfl (fun C hM => ?_)
  show kAW D cA C 1 cX2_init RX2 0 [some (.ref h)] [] [(h, .inr (1, kF2))] 0 0
  refine ka_aload_n dX2_init_0 rfl ?_
  refine ka_obj dX2_init_1 zmo_X2 (by decide) (Nat.le_of_ble_eq_true rfl) ?_
  refine ka_aload_n dX2_init_4 rfl ?_
  refine ka_bipush (nI 120) dX2_init_5 (by decide +kernel) ?_
  refine ka_newa (t := 2) (ty := .byte) (N' := 120) (a0 := (120, .inl (fun _ => 0))) dX2_init_7 zac_b rfl rfl (fun _ => rfl) (nI_pos (by decide)) (nI_clamp (by decide)) (by decide) (hM.c (Nat.le_of_ble_eq_true rfl)) (hM.s (Nat.le_of_ble_eq_true rfl)) (fun q1 => ?_)
  show kAW D cA C 1 cX2_init RX2 9 [some (.ref h)] [.ref q1, .ref h] [(h, .inr (1, [.null, .int 0])), (q1, kBr cA 120)] 1 120
  refine ka_putF (q0 := 0) dX2_init_9 zf_X2_9 zff_X2_0 hM.i rfl (Nat.le_of_ble_eq_true rfl) rfl rfl ?_
  show kAW D cA C 1 cX2_init RX2 12 [some (.ref h)] [] [(h, .inr (1, [.ref q1, .int 0])), (q1, kBr cA 120)] 1 120
  refine ka_aload_n dX2_init_12 rfl ?_
  refine ka_iconst 0 dX2_init_13 (by decide) ?_
  refine ka_putI (q0 := 0) dX2_init_14 zf_X2_13 zp_X2_1 rfl (Nat.le_of_ble_eq_true rfl) (by decide) (by decide) ?_
  show kAW D cA C 1 cX2_init RX2 17 [some (.ref h)] [] [(h, .inr (1, [.ref q1, .int 0])), (q1, kBr cA 120)] 1 120
  exact ka_vret hM dX2_init_17 (fun k => [h, q1].getD k 0) rfl (Nat.le_of_ble_eq_true rfl) (Nat.le_of_ble_eq_true rfl)

abbrev kRead (cA : Nat → ClassId) (h a1 a2 : Nat) (u : Nat → Nat) : va_W := [(h, .inr (2, [.ref a1, .ref a2, .int 0, .int 0, .int 0, .int 0]))]
set_option maxHeartbeats 4000000 in
set_option maxRecDepth 100000 in
theorem k_kRead {D : va_G} {cA : Nat → ClassId} {h : Nat} {a1 : Nat} {a2 : Nat} : kEv D cA 1 0 0 yX3_init cX3_init 3 [.ref h, .ref a1, .ref a2] [(h, .inr (2, kF3))] (kRead cA h a1 a2) := by
  refine kev_intro (own := RX3) (by decide +kernel) rfl rfl (Nat.le_of_ble_eq_true rfl) rfl (fun C hM => ?_)
  show kAW D cA C 1 cX3_init RX3 0 [some (.ref h), some (.ref a1), some (.ref a2)] [] [(h, .inr (2, kF3))] 0 0
  refine ka_aload_n dX3_init_0 rfl ?_
  refine ka_obj dX3_init_1 zmo_X3 (by decide) (Nat.le_of_ble_eq_true rfl) ?_
  refine ka_aload_n dX3_init_4 rfl ?_
  refine ka_aload_n dX3_init_5 rfl ?_
  refine ka_putF (q0 := 0) dX3_init_6 zf_X3_9 zff_X3_0 hM.i rfl (Nat.le_of_ble_eq_true rfl) rfl rfl ?_
  show kAW D cA C 1 cX3_init RX3 9 [some (.ref h), some (.ref a1), some (.ref a2)] [] [(h, .inr (2, [.ref a1, .null, .int 0, .int 0, .int 0, .int 0]))] 0 0
  refine ka_aload_n dX3_init_9 rfl ?_
  refine ka_aload_n dX3_init_10 rfl ?_
  refine ka_putF (q0 := 0) dX3_init_11 zf_X3_15 zff_X3_1 hM.i rfl (Nat.le_of_ble_eq_true rfl) rfl rfl ?_
  show kAW D cA C 1 cX3_init RX3 14 [some (.ref h), some (.ref a1), some (.ref a2)] [] [(h, .inr (2, [.ref a1, .ref a2, .int 0, .int 0, .int 0, .int 0]))] 0 0
  exact ka_vret hM dX3_init_14 (fun k => [h].getD k 0) rfl (Nat.le_of_ble_eq_true rfl) (Nat.le_of_ble_eq_true rfl)

abbrev kShts (cA : Nat → ClassId) (h : Nat) (u : Nat → Nat) : va_W := [(h, .inr (0, [.ref (u 1), .ref (u 6), .ref (u 7)])), ((u 1), kQr cA [(u 2), (u 3), (u 4), (u 5)]), ((u 2), kLr cA 40), ((u 3), kLr cA 40), ((u 4), kLr cA 40), ((u 5), kLr cA 40), ((u 6), kIr cA 4), ((u 7), kIr cA 4)]
set_option maxHeartbeats 4000000 in
set_option maxRecDepth 100000 in
theorem k_kShts {D : va_G} {cA : Nat → ClassId} {h : Nat} : kEv D cA 1 7 172 yX1_init cX1_init 1 [.ref h] [(h, .inr (0, kF1))] (kShts cA h) := by
  refine kev_intro (own := RX1) (by decide +kernel) rfl rfl (Nat.le_of_ble_eq_true rfl) rfl (fun C hM => ?_)
  show kAW D cA C 1 cX1_init RX1 0 [some (.ref h)] [] [(h, .inr (0, kF1))] 0 0
  refine ka_aload_n dX1_init_0 rfl ?_
  refine ka_obj dX1_init_1 zmo_X1 (by decide) (Nat.le_of_ble_eq_true rfl) ?_
  refine ka_aload_n dX1_init_4 rfl ?_
  refine ka_iconst (nI 4) dX1_init_5 (by decide) ?_
  refine ka_bipush (nI 40) dX1_init_6 (by decide +kernel) ?_
  refine ka_mna dX1_init_8 zcl_X1_9 zac_l (hM.c (Nat.le_of_ble_eq_true rfl)) (hM.s (Nat.le_of_ble_eq_true rfl)) (fun q1 q2 q3 q4 q5 => ?_)
  show kAW D cA C 1 cX1_init RX1 12 [some (.ref h)] [.ref q1, .ref h] [(h, .inr (0, [.null, .null, .null])), (q1, kQr cA [q2, q3, q4, q5]), (q2, kLr cA 40), (q3, kLr cA 40), (q4, kLr cA 40), (q5, kLr cA 40)] 5 164
  refine ka_putF (q0 := 0) dX1_init_12 zf_X1_11 zff_X1_0 hM.i rfl (Nat.le_of_ble_eq_true rfl) rfl rfl ?_
  show kAW D cA C 1 cX1_init RX1 15 [some (.ref h)] [] [(h, .inr (0, [.ref q1, .null, .null])), (q1, kQr cA [q2, q3, q4, q5]), (q2, kLr cA 40), (q3, kLr cA 40), (q4, kLr cA 40), (q5, kLr cA 40)] 5 164
  refine ka_aload_n dX1_init_15 rfl ?_
  refine ka_iconst (nI 4) dX1_init_16 (by decide) ?_
  refine ka_newa (t := 0) (ty := .int) (N' := 4) (a0 := (4, .inl (fun _ => 0))) dX1_init_17 zac_i rfl rfl (fun _ => rfl) (nI_pos (by decide)) (nI_clamp (by decide)) (by decide) (hM.c (Nat.le_of_ble_eq_true rfl)) (hM.s (Nat.le_of_ble_eq_true rfl)) (fun q6 => ?_)
  show kAW D cA C 1 cX1_init RX1 19 [some (.ref h)] [.ref q6, .ref h] [(h, .inr (0, [.ref q1, .null, .null])), (q1, kQr cA [q2, q3, q4, q5]), (q2, kLr cA 40), (q3, kLr cA 40), (q4, kLr cA 40), (q5, kLr cA 40), (q6, kIr cA 4)] 6 168
  refine ka_putF (q0 := 0) dX1_init_19 zf_X1_14 zff_X1_1 hM.i rfl (Nat.le_of_ble_eq_true rfl) rfl rfl ?_
  show kAW D cA C 1 cX1_init RX1 22 [some (.ref h)] [] [(h, .inr (0, [.ref q1, .ref q6, .null])), (q1, kQr cA [q2, q3, q4, q5]), (q2, kLr cA 40), (q3, kLr cA 40), (q4, kLr cA 40), (q5, kLr cA 40), (q6, kIr cA 4)] 6 168
  refine ka_aload_n dX1_init_22 rfl ?_
  refine ka_iconst (nI 4) dX1_init_23 (by decide) ?_
  refine ka_newa (t := 0) (ty := .int) (N' := 4) (a0 := (4, .inl (fun _ => 0))) dX1_init_24 zac_i rfl rfl (fun _ => rfl) (nI_pos (by decide)) (nI_clamp (by decide)) (by decide) (hM.c (Nat.le_of_ble_eq_true rfl)) (hM.s (Nat.le_of_ble_eq_true rfl)) (fun q7 => ?_)
  show kAW D cA C 1 cX1_init RX1 26 [some (.ref h)] [.ref q7, .ref h] [(h, .inr (0, [.ref q1, .ref q6, .null])), (q1, kQr cA [q2, q3, q4, q5]), (q2, kLr cA 40), (q3, kLr cA 40), (q4, kLr cA 40), (q5, kLr cA 40), (q6, kIr cA 4), (q7, kIr cA 4)] 7 172
  refine ka_putF (q0 := 0) dX1_init_26 zf_X1_18 zff_X1_2 hM.i rfl (Nat.le_of_ble_eq_true rfl) rfl rfl ?_
  show kAW D cA C 1 cX1_init RX1 29 [some (.ref h)] [] [(h, .inr (0, [.ref q1, .ref q6, .ref q7])), (q1, kQr cA [q2, q3, q4, q5]), (q2, kLr cA 40), (q3, kLr cA 40), (q4, kLr cA 40), (q5, kLr cA 40), (q6, kIr cA 4), (q7, kIr cA 4)] 7 172
  exact ka_vret hM dX1_init_29 (fun k => [h, q1, q2, q3, q4, q5, q6, q7].getD k 0) rfl (Nat.le_of_ble_eq_true rfl) (Nat.le_of_ble_eq_true rfl)

abbrev kBasn (cA : Nat → ClassId) (h : Nat) (u : Nat → Nat) : va_W := [(h, .inr (4, [.ref (u 1), .ref (u 8), .ref (u 15), .int 0, .ref (u 22), .ref (u 24), .ref (u 25), .ref (u 33)])), ((u 1), .inr (3, [.int 0, .int 0, .int 0, .int 0, .ref (u 2), .ref (u 3), .ref (u 4), .ref (u 5), .ref (u 6), .ref (u 7)])), ((u 2), kIr cA 6), ((u 3), kIr cA 6), ((u 4), kIr cA 8), ((u 5), kIr cA 8), ((u 6), kIr cA 8), ((u 7), kIr cA 8), ((u 8), .inr (3, [.int 0, .int 0, .int 0, .int 0, .ref (u 9), .ref (u 10), .ref (u 11), .ref (u 12), .ref (u 13), .ref (u 14)])), ((u 9), kIr cA 6), ((u 10), kIr cA 6), ((u 11), kIr cA 8), ((u 12), kIr cA 8), ((u 13), kIr cA 8), ((u 14), kIr cA 8), ((u 15), .inr (3, [.int 0, .int 0, .int 0, .int 0, .ref (u 16), .ref (u 17), .ref (u 18), .ref (u 19), .ref (u 20), .ref (u 21)])), ((u 16), kIr cA 6), ((u 17), kIr cA 6), ((u 18), kIr cA 8), ((u 19), kIr cA 8), ((u 20), kIr cA 8), ((u 21), kIr cA 8), ((u 22), .inr (1, [.ref (u 23), .int 0])), ((u 23), kBr cA 120), ((u 24), .inr (2, [.ref (u 22), .ref (u 8), .int 0, .int 0, .int 0, .int 0])), ((u 25), .inr (0, [.ref (u 26), .ref (u 31), .ref (u 32)])), ((u 26), kQr cA [(u 27), (u 28), (u 29), (u 30)]), ((u 27), kLr cA 40), ((u 28), kLr cA 40), ((u 29), kLr cA 40), ((u 30), kLr cA 40), ((u 31), kIr cA 4), ((u 32), kIr cA 4), ((u 33), kIr cA 7)]
set_option maxHeartbeats 4000000 in
set_option maxRecDepth 100000 in
theorem k_kBasn {D : va_G} {cA : Nat → ClassId} {h : Nat} : kEv D cA 2 33 472 yX5_init cX5_init 1 [.ref h] [(h, .inr (4, kF5))] (kBasn cA h) := by
  refine kev_intro (own := RX5) (by decide +kernel) rfl rfl (Nat.le_of_ble_eq_true rfl) rfl (fun C hM => ?_)
  show kAW D cA C 2 cX5_init RX5 0 [some (.ref h)] [] [(h, .inr (4, kF5))] 0 0
  refine ka_aload_n dX5_init_0 rfl ?_
  refine ka_obj dX5_init_1 zmo_X5 (by decide) (Nat.le_of_ble_eq_true rfl) ?_
  refine ka_aload_n dX5_init_4 rfl ?_
  refine ka_new (fs := kF4) dX5_init_5 (show vwCl[3]? = some (RX4, TX4, 10) from rfl) zin4 tyX4_ok zcl_X5_7 zis_X4 zit_X4 kF4_ok (hM.c (Nat.le_of_ble_eq_true rfl)) (hM.s (Nat.le_of_ble_eq_true rfl)) (fun q1 => ?_)
  show kAW D cA C 2 cX5_init RX5 8 [some (.ref h)] [.ref q1, .ref h] [(h, .inr (4, [.null, .null, .null, .int 0, .null, .null, .null, .null])), (q1, .inr (3, [.int 0, .int 0, .int 0, .int 0, .null, .null, .null, .null, .null, .null]))] 1 10
  refine ka_dup dX5_init_8 rfl ?_
  refine ka_callN [1] [0] (wr := [(h, .inr (4, [.null, .null, .null, .int 0, .null, .null, .null, .null]))]) dX5_init_9 zmn_9 zw_X4_init rfl zii_X4 (k_kTown (D := D) (cA := cA) (h := q1) ) (by decide) rfl rfl (by decide) (by decide) (by decide) rfl (Nat.le_of_ble_eq_true rfl) rfl (hM.c (Nat.le_of_ble_eq_true rfl)) (hM.s (Nat.le_of_ble_eq_true rfl)) (fun u2 => ?_)
  show kAW D cA C 2 cX5_init RX5 12 [some (.ref h)] [.ref q1, .ref h] [(h, .inr (4, [.null, .null, .null, .int 0, .null, .null, .null, .null])), (q1, .inr (3, [.int 0, .int 0, .int 0, .int 0, .ref (u2 1), .ref (u2 2), .ref (u2 3), .ref (u2 4), .ref (u2 5), .ref (u2 6)])), ((u2 1), kIr cA 6), ((u2 2), kIr cA 6), ((u2 3), kIr cA 8), ((u2 4), kIr cA 8), ((u2 5), kIr cA 8), ((u2 6), kIr cA 8)] 7 54
  refine ka_putF (q0 := 0) dX5_init_12 zf_X5_10 zff_X5_0 hM.i rfl (Nat.le_of_ble_eq_true rfl) rfl rfl ?_
  show kAW D cA C 2 cX5_init RX5 15 [some (.ref h)] [] [(h, .inr (4, [.ref q1, .null, .null, .int 0, .null, .null, .null, .null])), (q1, .inr (3, [.int 0, .int 0, .int 0, .int 0, .ref (u2 1), .ref (u2 2), .ref (u2 3), .ref (u2 4), .ref (u2 5), .ref (u2 6)])), ((u2 1), kIr cA 6), ((u2 2), kIr cA 6), ((u2 3), kIr cA 8), ((u2 4), kIr cA 8), ((u2 5), kIr cA 8), ((u2 6), kIr cA 8)] 7 54
  refine ka_aload_n dX5_init_15 rfl ?_
  refine ka_new (fs := kF4) dX5_init_16 (show vwCl[3]? = some (RX4, TX4, 10) from rfl) zin4 tyX4_ok zcl_X5_7 zis_X4 zit_X4 kF4_ok (hM.c (Nat.le_of_ble_eq_true rfl)) (hM.s (Nat.le_of_ble_eq_true rfl)) (fun q3 => ?_)
  show kAW D cA C 2 cX5_init RX5 19 [some (.ref h)] [.ref q3, .ref h] [(h, .inr (4, [.ref q1, .null, .null, .int 0, .null, .null, .null, .null])), (q1, .inr (3, [.int 0, .int 0, .int 0, .int 0, .ref (u2 1), .ref (u2 2), .ref (u2 3), .ref (u2 4), .ref (u2 5), .ref (u2 6)])), ((u2 1), kIr cA 6), ((u2 2), kIr cA 6), ((u2 3), kIr cA 8), ((u2 4), kIr cA 8), ((u2 5), kIr cA 8), ((u2 6), kIr cA 8), (q3, .inr (3, [.int 0, .int 0, .int 0, .int 0, .null, .null, .null, .null, .null, .null]))] 8 64
  refine ka_dup dX5_init_19 rfl ?_
  refine ka_callN [8] [0, 1, 2, 3, 4, 5, 6, 7] (wr := [(h, .inr (4, [.ref q1, .null, .null, .int 0, .null, .null, .null, .null])), (q1, .inr (3, [.int 0, .int 0, .int 0, .int 0, .ref (u2 1), .ref (u2 2), .ref (u2 3), .ref (u2 4), .ref (u2 5), .ref (u2 6)])), ((u2 1), kIr cA 6), ((u2 2), kIr cA 6), ((u2 3), kIr cA 8), ((u2 4), kIr cA 8), ((u2 5), kIr cA 8), ((u2 6), kIr cA 8)]) dX5_init_20 zmn_9 zw_X4_init rfl zii_X4 (k_kTown (D := D) (cA := cA) (h := q3) ) (by decide) rfl rfl (by decide) (by decide) (by decide) rfl (Nat.le_of_ble_eq_true rfl) rfl (hM.c (Nat.le_of_ble_eq_true rfl)) (hM.s (Nat.le_of_ble_eq_true rfl)) (fun u4 => ?_)
  show kAW D cA C 2 cX5_init RX5 23 [some (.ref h)] [.ref q3, .ref h] [(h, .inr (4, [.ref q1, .null, .null, .int 0, .null, .null, .null, .null])), (q1, .inr (3, [.int 0, .int 0, .int 0, .int 0, .ref (u2 1), .ref (u2 2), .ref (u2 3), .ref (u2 4), .ref (u2 5), .ref (u2 6)])), ((u2 1), kIr cA 6), ((u2 2), kIr cA 6), ((u2 3), kIr cA 8), ((u2 4), kIr cA 8), ((u2 5), kIr cA 8), ((u2 6), kIr cA 8), (q3, .inr (3, [.int 0, .int 0, .int 0, .int 0, .ref (u4 1), .ref (u4 2), .ref (u4 3), .ref (u4 4), .ref (u4 5), .ref (u4 6)])), ((u4 1), kIr cA 6), ((u4 2), kIr cA 6), ((u4 3), kIr cA 8), ((u4 4), kIr cA 8), ((u4 5), kIr cA 8), ((u4 6), kIr cA 8)] 14 108
  refine ka_putF (q0 := 0) dX5_init_23 zf_X5_16 zff_X5_1 hM.i rfl (Nat.le_of_ble_eq_true rfl) rfl rfl ?_
  show kAW D cA C 2 cX5_init RX5 26 [some (.ref h)] [] [(h, .inr (4, [.ref q1, .ref q3, .null, .int 0, .null, .null, .null, .null])), (q1, .inr (3, [.int 0, .int 0, .int 0, .int 0, .ref (u2 1), .ref (u2 2), .ref (u2 3), .ref (u2 4), .ref (u2 5), .ref (u2 6)])), ((u2 1), kIr cA 6), ((u2 2), kIr cA 6), ((u2 3), kIr cA 8), ((u2 4), kIr cA 8), ((u2 5), kIr cA 8), ((u2 6), kIr cA 8), (q3, .inr (3, [.int 0, .int 0, .int 0, .int 0, .ref (u4 1), .ref (u4 2), .ref (u4 3), .ref (u4 4), .ref (u4 5), .ref (u4 6)])), ((u4 1), kIr cA 6), ((u4 2), kIr cA 6), ((u4 3), kIr cA 8), ((u4 4), kIr cA 8), ((u4 5), kIr cA 8), ((u4 6), kIr cA 8)] 14 108
  refine ka_aload_n dX5_init_26 rfl ?_
  refine ka_new (fs := kF4) dX5_init_27 (show vwCl[3]? = some (RX4, TX4, 10) from rfl) zin4 tyX4_ok zcl_X5_7 zis_X4 zit_X4 kF4_ok (hM.c (Nat.le_of_ble_eq_true rfl)) (hM.s (Nat.le_of_ble_eq_true rfl)) (fun q5 => ?_)
  show kAW D cA C 2 cX5_init RX5 30 [some (.ref h)] [.ref q5, .ref h] [(h, .inr (4, [.ref q1, .ref q3, .null, .int 0, .null, .null, .null, .null])), (q1, .inr (3, [.int 0, .int 0, .int 0, .int 0, .ref (u2 1), .ref (u2 2), .ref (u2 3), .ref (u2 4), .ref (u2 5), .ref (u2 6)])), ((u2 1), kIr cA 6), ((u2 2), kIr cA 6), ((u2 3), kIr cA 8), ((u2 4), kIr cA 8), ((u2 5), kIr cA 8), ((u2 6), kIr cA 8), (q3, .inr (3, [.int 0, .int 0, .int 0, .int 0, .ref (u4 1), .ref (u4 2), .ref (u4 3), .ref (u4 4), .ref (u4 5), .ref (u4 6)])), ((u4 1), kIr cA 6), ((u4 2), kIr cA 6), ((u4 3), kIr cA 8), ((u4 4), kIr cA 8), ((u4 5), kIr cA 8), ((u4 6), kIr cA 8), (q5, .inr (3, [.int 0, .int 0, .int 0, .int 0, .null, .null, .null, .null, .null, .null]))] 15 118
  refine ka_dup dX5_init_30 rfl ?_
  refine ka_callN [15] [0, 1, 2, 3, 4, 5, 6, 7, 8, 9, 10, 11, 12, 13, 14] (wr := [(h, .inr (4, [.ref q1, .ref q3, .null, .int 0, .null, .null, .null, .null])), (q1, .inr (3, [.int 0, .int 0, .int 0, .int 0, .ref (u2 1), .ref (u2 2), .ref (u2 3), .ref (u2 4), .ref (u2 5), .ref (u2 6)])), ((u2 1), kIr cA 6), ((u2 2), kIr cA 6), ((u2 3), kIr cA 8), ((u2 4), kIr cA 8), ((u2 5), kIr cA 8), ((u2 6), kIr cA 8), (q3, .inr (3, [.int 0, .int 0, .int 0, .int 0, .ref (u4 1), .ref (u4 2), .ref (u4 3), .ref (u4 4), .ref (u4 5), .ref (u4 6)])), ((u4 1), kIr cA 6), ((u4 2), kIr cA 6), ((u4 3), kIr cA 8), ((u4 4), kIr cA 8), ((u4 5), kIr cA 8), ((u4 6), kIr cA 8)]) dX5_init_31 zmn_9 zw_X4_init rfl zii_X4 (k_kTown (D := D) (cA := cA) (h := q5) ) (by decide) rfl rfl (by decide) (by decide) (by decide) rfl (Nat.le_of_ble_eq_true rfl) rfl (hM.c (Nat.le_of_ble_eq_true rfl)) (hM.s (Nat.le_of_ble_eq_true rfl)) (fun u6 => ?_)
  show kAW D cA C 2 cX5_init RX5 34 [some (.ref h)] [.ref q5, .ref h] [(h, .inr (4, [.ref q1, .ref q3, .null, .int 0, .null, .null, .null, .null])), (q1, .inr (3, [.int 0, .int 0, .int 0, .int 0, .ref (u2 1), .ref (u2 2), .ref (u2 3), .ref (u2 4), .ref (u2 5), .ref (u2 6)])), ((u2 1), kIr cA 6), ((u2 2), kIr cA 6), ((u2 3), kIr cA 8), ((u2 4), kIr cA 8), ((u2 5), kIr cA 8), ((u2 6), kIr cA 8), (q3, .inr (3, [.int 0, .int 0, .int 0, .int 0, .ref (u4 1), .ref (u4 2), .ref (u4 3), .ref (u4 4), .ref (u4 5), .ref (u4 6)])), ((u4 1), kIr cA 6), ((u4 2), kIr cA 6), ((u4 3), kIr cA 8), ((u4 4), kIr cA 8), ((u4 5), kIr cA 8), ((u4 6), kIr cA 8), (q5, .inr (3, [.int 0, .int 0, .int 0, .int 0, .ref (u6 1), .ref (u6 2), .ref (u6 3), .ref (u6 4), .ref (u6 5), .ref (u6 6)])), ((u6 1), kIr cA 6), ((u6 2), kIr cA 6), ((u6 3), kIr cA 8), ((u6 4), kIr cA 8), ((u6 5), kIr cA 8), ((u6 6), kIr cA 8)] 21 162
  refine ka_putF (q0 := 0) dX5_init_34 zf_X5_19 zff_X5_2 hM.i rfl (Nat.le_of_ble_eq_true rfl) rfl rfl ?_
  show kAW D cA C 2 cX5_init RX5 37 [some (.ref h)] [] [(h, .inr (4, [.ref q1, .ref q3, .ref q5, .int 0, .null, .null, .null, .null])), (q1, .inr (3, [.int 0, .int 0, .int 0, .int 0, .ref (u2 1), .ref (u2 2), .ref (u2 3), .ref (u2 4), .ref (u2 5), .ref (u2 6)])), ((u2 1), kIr cA 6), ((u2 2), kIr cA 6), ((u2 3), kIr cA 8), ((u2 4), kIr cA 8), ((u2 5), kIr cA 8), ((u2 6), kIr cA 8), (q3, .inr (3, [.int 0, .int 0, .int 0, .int 0, .ref (u4 1), .ref (u4 2), .ref (u4 3), .ref (u4 4), .ref (u4 5), .ref (u4 6)])), ((u4 1), kIr cA 6), ((u4 2), kIr cA 6), ((u4 3), kIr cA 8), ((u4 4), kIr cA 8), ((u4 5), kIr cA 8), ((u4 6), kIr cA 8), (q5, .inr (3, [.int 0, .int 0, .int 0, .int 0, .ref (u6 1), .ref (u6 2), .ref (u6 3), .ref (u6 4), .ref (u6 5), .ref (u6 6)])), ((u6 1), kIr cA 6), ((u6 2), kIr cA 6), ((u6 3), kIr cA 8), ((u6 4), kIr cA 8), ((u6 5), kIr cA 8), ((u6 6), kIr cA 8)] 21 162
  refine ka_aload_n dX5_init_37 rfl ?_
  refine ka_iconst 0 dX5_init_38 (by decide) ?_
  refine ka_putI (q0 := 0) dX5_init_39 zf_X5_22 zp_X5_3 rfl (Nat.le_of_ble_eq_true rfl) (by decide) (by decide) ?_
  show kAW D cA C 2 cX5_init RX5 42 [some (.ref h)] [] [(h, .inr (4, [.ref q1, .ref q3, .ref q5, .int 0, .null, .null, .null, .null])), (q1, .inr (3, [.int 0, .int 0, .int 0, .int 0, .ref (u2 1), .ref (u2 2), .ref (u2 3), .ref (u2 4), .ref (u2 5), .ref (u2 6)])), ((u2 1), kIr cA 6), ((u2 2), kIr cA 6), ((u2 3), kIr cA 8), ((u2 4), kIr cA 8), ((u2 5), kIr cA 8), ((u2 6), kIr cA 8), (q3, .inr (3, [.int 0, .int 0, .int 0, .int 0, .ref (u4 1), .ref (u4 2), .ref (u4 3), .ref (u4 4), .ref (u4 5), .ref (u4 6)])), ((u4 1), kIr cA 6), ((u4 2), kIr cA 6), ((u4 3), kIr cA 8), ((u4 4), kIr cA 8), ((u4 5), kIr cA 8), ((u4 6), kIr cA 8), (q5, .inr (3, [.int 0, .int 0, .int 0, .int 0, .ref (u6 1), .ref (u6 2), .ref (u6 3), .ref (u6 4), .ref (u6 5), .ref (u6 6)])), ((u6 1), kIr cA 6), ((u6 2), kIr cA 6), ((u6 3), kIr cA 8), ((u6 4), kIr cA 8), ((u6 5), kIr cA 8), ((u6 6), kIr cA 8)] 21 162
  refine ka_aload_n dX5_init_42 rfl ?_
  refine ka_new (fs := kF2) dX5_init_43 (show vwCl[1]? = some (RX2, TX2, 2) from rfl) zin2 tyX2_ok zcl_X5_26 zis_X2 zit_X2 kF2_ok (hM.c (Nat.le_of_ble_eq_true rfl)) (hM.s (Nat.le_of_ble_eq_true rfl)) (fun q7 => ?_)
  show kAW D cA C 2 cX5_init RX5 46 [some (.ref h)] [.ref q7, .ref h] [(h, .inr (4, [.ref q1, .ref q3, .ref q5, .int 0, .null, .null, .null, .null])), (q1, .inr (3, [.int 0, .int 0, .int 0, .int 0, .ref (u2 1), .ref (u2 2), .ref (u2 3), .ref (u2 4), .ref (u2 5), .ref (u2 6)])), ((u2 1), kIr cA 6), ((u2 2), kIr cA 6), ((u2 3), kIr cA 8), ((u2 4), kIr cA 8), ((u2 5), kIr cA 8), ((u2 6), kIr cA 8), (q3, .inr (3, [.int 0, .int 0, .int 0, .int 0, .ref (u4 1), .ref (u4 2), .ref (u4 3), .ref (u4 4), .ref (u4 5), .ref (u4 6)])), ((u4 1), kIr cA 6), ((u4 2), kIr cA 6), ((u4 3), kIr cA 8), ((u4 4), kIr cA 8), ((u4 5), kIr cA 8), ((u4 6), kIr cA 8), (q5, .inr (3, [.int 0, .int 0, .int 0, .int 0, .ref (u6 1), .ref (u6 2), .ref (u6 3), .ref (u6 4), .ref (u6 5), .ref (u6 6)])), ((u6 1), kIr cA 6), ((u6 2), kIr cA 6), ((u6 3), kIr cA 8), ((u6 4), kIr cA 8), ((u6 5), kIr cA 8), ((u6 6), kIr cA 8), (q7, .inr (1, [.null, .int 0]))] 22 164
  refine ka_dup dX5_init_46 rfl ?_
  refine ka_callN [22] [0, 1, 2, 3, 4, 5, 6, 7, 8, 9, 10, 11, 12, 13, 14, 15, 16, 17, 18, 19, 20, 21] (wr := [(h, .inr (4, [.ref q1, .ref q3, .ref q5, .int 0, .null, .null, .null, .null])), (q1, .inr (3, [.int 0, .int 0, .int 0, .int 0, .ref (u2 1), .ref (u2 2), .ref (u2 3), .ref (u2 4), .ref (u2 5), .ref (u2 6)])), ((u2 1), kIr cA 6), ((u2 2), kIr cA 6), ((u2 3), kIr cA 8), ((u2 4), kIr cA 8), ((u2 5), kIr cA 8), ((u2 6), kIr cA 8), (q3, .inr (3, [.int 0, .int 0, .int 0, .int 0, .ref (u4 1), .ref (u4 2), .ref (u4 3), .ref (u4 4), .ref (u4 5), .ref (u4 6)])), ((u4 1), kIr cA 6), ((u4 2), kIr cA 6), ((u4 3), kIr cA 8), ((u4 4), kIr cA 8), ((u4 5), kIr cA 8), ((u4 6), kIr cA 8), (q5, .inr (3, [.int 0, .int 0, .int 0, .int 0, .ref (u6 1), .ref (u6 2), .ref (u6 3), .ref (u6 4), .ref (u6 5), .ref (u6 6)])), ((u6 1), kIr cA 6), ((u6 2), kIr cA 6), ((u6 3), kIr cA 8), ((u6 4), kIr cA 8), ((u6 5), kIr cA 8), ((u6 6), kIr cA 8)]) dX5_init_47 zmn_28 zw_X2_init rfl zii_X2 (k_kTape (D := D) (cA := cA) (h := q7) ) (by decide) rfl rfl (by decide) (by decide) (by decide) rfl (Nat.le_of_ble_eq_true rfl) rfl (hM.c (Nat.le_of_ble_eq_true rfl)) (hM.s (Nat.le_of_ble_eq_true rfl)) (fun u8 => ?_)
  show kAW D cA C 2 cX5_init RX5 50 [some (.ref h)] [.ref q7, .ref h] [(h, .inr (4, [.ref q1, .ref q3, .ref q5, .int 0, .null, .null, .null, .null])), (q1, .inr (3, [.int 0, .int 0, .int 0, .int 0, .ref (u2 1), .ref (u2 2), .ref (u2 3), .ref (u2 4), .ref (u2 5), .ref (u2 6)])), ((u2 1), kIr cA 6), ((u2 2), kIr cA 6), ((u2 3), kIr cA 8), ((u2 4), kIr cA 8), ((u2 5), kIr cA 8), ((u2 6), kIr cA 8), (q3, .inr (3, [.int 0, .int 0, .int 0, .int 0, .ref (u4 1), .ref (u4 2), .ref (u4 3), .ref (u4 4), .ref (u4 5), .ref (u4 6)])), ((u4 1), kIr cA 6), ((u4 2), kIr cA 6), ((u4 3), kIr cA 8), ((u4 4), kIr cA 8), ((u4 5), kIr cA 8), ((u4 6), kIr cA 8), (q5, .inr (3, [.int 0, .int 0, .int 0, .int 0, .ref (u6 1), .ref (u6 2), .ref (u6 3), .ref (u6 4), .ref (u6 5), .ref (u6 6)])), ((u6 1), kIr cA 6), ((u6 2), kIr cA 6), ((u6 3), kIr cA 8), ((u6 4), kIr cA 8), ((u6 5), kIr cA 8), ((u6 6), kIr cA 8), (q7, .inr (1, [.ref (u8 1), .int 0])), ((u8 1), kBr cA 120)] 23 284
  refine ka_putF (q0 := 0) dX5_init_50 zf_X5_29 zff_X5_4 hM.i rfl (Nat.le_of_ble_eq_true rfl) rfl rfl ?_
  show kAW D cA C 2 cX5_init RX5 53 [some (.ref h)] [] [(h, .inr (4, [.ref q1, .ref q3, .ref q5, .int 0, .ref q7, .null, .null, .null])), (q1, .inr (3, [.int 0, .int 0, .int 0, .int 0, .ref (u2 1), .ref (u2 2), .ref (u2 3), .ref (u2 4), .ref (u2 5), .ref (u2 6)])), ((u2 1), kIr cA 6), ((u2 2), kIr cA 6), ((u2 3), kIr cA 8), ((u2 4), kIr cA 8), ((u2 5), kIr cA 8), ((u2 6), kIr cA 8), (q3, .inr (3, [.int 0, .int 0, .int 0, .int 0, .ref (u4 1), .ref (u4 2), .ref (u4 3), .ref (u4 4), .ref (u4 5), .ref (u4 6)])), ((u4 1), kIr cA 6), ((u4 2), kIr cA 6), ((u4 3), kIr cA 8), ((u4 4), kIr cA 8), ((u4 5), kIr cA 8), ((u4 6), kIr cA 8), (q5, .inr (3, [.int 0, .int 0, .int 0, .int 0, .ref (u6 1), .ref (u6 2), .ref (u6 3), .ref (u6 4), .ref (u6 5), .ref (u6 6)])), ((u6 1), kIr cA 6), ((u6 2), kIr cA 6), ((u6 3), kIr cA 8), ((u6 4), kIr cA 8), ((u6 5), kIr cA 8), ((u6 6), kIr cA 8), (q7, .inr (1, [.ref (u8 1), .int 0])), ((u8 1), kBr cA 120)] 23 284
  refine ka_aload_n dX5_init_53 rfl ?_
  refine ka_new (fs := kF3) dX5_init_54 (show vwCl[2]? = some (RX3, TX3, 6) from rfl) zin3 tyX3_ok zcl_X5_33 zis_X3 zit_X3 kF3_ok (hM.c (Nat.le_of_ble_eq_true rfl)) (hM.s (Nat.le_of_ble_eq_true rfl)) (fun q9 => ?_)
  show kAW D cA C 2 cX5_init RX5 57 [some (.ref h)] [.ref q9, .ref h] [(h, .inr (4, [.ref q1, .ref q3, .ref q5, .int 0, .ref q7, .null, .null, .null])), (q1, .inr (3, [.int 0, .int 0, .int 0, .int 0, .ref (u2 1), .ref (u2 2), .ref (u2 3), .ref (u2 4), .ref (u2 5), .ref (u2 6)])), ((u2 1), kIr cA 6), ((u2 2), kIr cA 6), ((u2 3), kIr cA 8), ((u2 4), kIr cA 8), ((u2 5), kIr cA 8), ((u2 6), kIr cA 8), (q3, .inr (3, [.int 0, .int 0, .int 0, .int 0, .ref (u4 1), .ref (u4 2), .ref (u4 3), .ref (u4 4), .ref (u4 5), .ref (u4 6)])), ((u4 1), kIr cA 6), ((u4 2), kIr cA 6), ((u4 3), kIr cA 8), ((u4 4), kIr cA 8), ((u4 5), kIr cA 8), ((u4 6), kIr cA 8), (q5, .inr (3, [.int 0, .int 0, .int 0, .int 0, .ref (u6 1), .ref (u6 2), .ref (u6 3), .ref (u6 4), .ref (u6 5), .ref (u6 6)])), ((u6 1), kIr cA 6), ((u6 2), kIr cA 6), ((u6 3), kIr cA 8), ((u6 4), kIr cA 8), ((u6 5), kIr cA 8), ((u6 6), kIr cA 8), (q7, .inr (1, [.ref (u8 1), .int 0])), ((u8 1), kBr cA 120), (q9, .inr (2, [.null, .null, .int 0, .int 0, .int 0, .int 0]))] 24 290
  refine ka_dup dX5_init_57 rfl ?_
  refine ka_aload_n dX5_init_58 rfl ?_
  refine ka_getR (q0 := 0) dX5_init_59 zf_X5_29 rfl rfl ?_
  refine ka_aload_n dX5_init_62 rfl ?_
  refine ka_getR (q0 := 0) dX5_init_63 zf_X5_16 rfl rfl ?_
  refine ka_callI [24] [0, 1, 2, 3, 4, 5, 6, 7, 8, 9, 10, 11, 12, 13, 14, 15, 16, 17, 18, 19, 20, 21, 22, 23] (wr := [(h, .inr (4, [.ref q1, .ref q3, .ref q5, .int 0, .ref q7, .null, .null, .null])), (q1, .inr (3, [.int 0, .int 0, .int 0, .int 0, .ref (u2 1), .ref (u2 2), .ref (u2 3), .ref (u2 4), .ref (u2 5), .ref (u2 6)])), ((u2 1), kIr cA 6), ((u2 2), kIr cA 6), ((u2 3), kIr cA 8), ((u2 4), kIr cA 8), ((u2 5), kIr cA 8), ((u2 6), kIr cA 8), (q3, .inr (3, [.int 0, .int 0, .int 0, .int 0, .ref (u4 1), .ref (u4 2), .ref (u4 3), .ref (u4 4), .ref (u4 5), .ref (u4 6)])), ((u4 1), kIr cA 6), ((u4 2), kIr cA 6), ((u4 3), kIr cA 8), ((u4 4), kIr cA 8), ((u4 5), kIr cA 8), ((u4 6), kIr cA 8), (q5, .inr (3, [.int 0, .int 0, .int 0, .int 0, .ref (u6 1), .ref (u6 2), .ref (u6 3), .ref (u6 4), .ref (u6 5), .ref (u6 6)])), ((u6 1), kIr cA 6), ((u6 2), kIr cA 6), ((u6 3), kIr cA 8), ((u6 4), kIr cA 8), ((u6 5), kIr cA 8), ((u6 6), kIr cA 8), (q7, .inr (1, [.ref (u8 1), .int 0])), ((u8 1), kBr cA 120)]) dX5_init_66 zm_X5_35 zw_X3_init rfl zii_X3 (k_kRead (D := D) (cA := cA) (h := q9) (a1 := q7) (a2 := q3)) (by decide) rfl rfl (by decide) (by decide) (by decide) rfl (Nat.le_of_ble_eq_true rfl) rfl (hM.c (Nat.le_of_ble_eq_true rfl)) (hM.s (Nat.le_of_ble_eq_true rfl)) (fun u10 => ?_)
  show kAW D cA C 2 cX5_init RX5 69 [some (.ref h)] [.ref q9, .ref h] [(h, .inr (4, [.ref q1, .ref q3, .ref q5, .int 0, .ref q7, .null, .null, .null])), (q1, .inr (3, [.int 0, .int 0, .int 0, .int 0, .ref (u2 1), .ref (u2 2), .ref (u2 3), .ref (u2 4), .ref (u2 5), .ref (u2 6)])), ((u2 1), kIr cA 6), ((u2 2), kIr cA 6), ((u2 3), kIr cA 8), ((u2 4), kIr cA 8), ((u2 5), kIr cA 8), ((u2 6), kIr cA 8), (q3, .inr (3, [.int 0, .int 0, .int 0, .int 0, .ref (u4 1), .ref (u4 2), .ref (u4 3), .ref (u4 4), .ref (u4 5), .ref (u4 6)])), ((u4 1), kIr cA 6), ((u4 2), kIr cA 6), ((u4 3), kIr cA 8), ((u4 4), kIr cA 8), ((u4 5), kIr cA 8), ((u4 6), kIr cA 8), (q5, .inr (3, [.int 0, .int 0, .int 0, .int 0, .ref (u6 1), .ref (u6 2), .ref (u6 3), .ref (u6 4), .ref (u6 5), .ref (u6 6)])), ((u6 1), kIr cA 6), ((u6 2), kIr cA 6), ((u6 3), kIr cA 8), ((u6 4), kIr cA 8), ((u6 5), kIr cA 8), ((u6 6), kIr cA 8), (q7, .inr (1, [.ref (u8 1), .int 0])), ((u8 1), kBr cA 120), (q9, .inr (2, [.ref q7, .ref q3, .int 0, .int 0, .int 0, .int 0]))] 24 290
  refine ka_putF (q0 := 0) dX5_init_69 zf_X5_38 zff_X5_5 hM.i rfl (Nat.le_of_ble_eq_true rfl) rfl rfl ?_
  show kAW D cA C 2 cX5_init RX5 72 [some (.ref h)] [] [(h, .inr (4, [.ref q1, .ref q3, .ref q5, .int 0, .ref q7, .ref q9, .null, .null])), (q1, .inr (3, [.int 0, .int 0, .int 0, .int 0, .ref (u2 1), .ref (u2 2), .ref (u2 3), .ref (u2 4), .ref (u2 5), .ref (u2 6)])), ((u2 1), kIr cA 6), ((u2 2), kIr cA 6), ((u2 3), kIr cA 8), ((u2 4), kIr cA 8), ((u2 5), kIr cA 8), ((u2 6), kIr cA 8), (q3, .inr (3, [.int 0, .int 0, .int 0, .int 0, .ref (u4 1), .ref (u4 2), .ref (u4 3), .ref (u4 4), .ref (u4 5), .ref (u4 6)])), ((u4 1), kIr cA 6), ((u4 2), kIr cA 6), ((u4 3), kIr cA 8), ((u4 4), kIr cA 8), ((u4 5), kIr cA 8), ((u4 6), kIr cA 8), (q5, .inr (3, [.int 0, .int 0, .int 0, .int 0, .ref (u6 1), .ref (u6 2), .ref (u6 3), .ref (u6 4), .ref (u6 5), .ref (u6 6)])), ((u6 1), kIr cA 6), ((u6 2), kIr cA 6), ((u6 3), kIr cA 8), ((u6 4), kIr cA 8), ((u6 5), kIr cA 8), ((u6 6), kIr cA 8), (q7, .inr (1, [.ref (u8 1), .int 0])), ((u8 1), kBr cA 120), (q9, .inr (2, [.ref q7, .ref q3, .int 0, .int 0, .int 0, .int 0]))] 24 290
  refine ka_aload_n dX5_init_72 rfl ?_
  refine ka_new (fs := kF1) dX5_init_73 (show vwCl[0]? = some (RX1, TX1, 3) from rfl) zin1 tyX1_ok zcl_X5_42 zis_X1 zit_X1 kF1_ok (hM.c (Nat.le_of_ble_eq_true rfl)) (hM.s (Nat.le_of_ble_eq_true rfl)) (fun q11 => ?_)
  show kAW D cA C 2 cX5_init RX5 76 [some (.ref h)] [.ref q11, .ref h] [(h, .inr (4, [.ref q1, .ref q3, .ref q5, .int 0, .ref q7, .ref q9, .null, .null])), (q1, .inr (3, [.int 0, .int 0, .int 0, .int 0, .ref (u2 1), .ref (u2 2), .ref (u2 3), .ref (u2 4), .ref (u2 5), .ref (u2 6)])), ((u2 1), kIr cA 6), ((u2 2), kIr cA 6), ((u2 3), kIr cA 8), ((u2 4), kIr cA 8), ((u2 5), kIr cA 8), ((u2 6), kIr cA 8), (q3, .inr (3, [.int 0, .int 0, .int 0, .int 0, .ref (u4 1), .ref (u4 2), .ref (u4 3), .ref (u4 4), .ref (u4 5), .ref (u4 6)])), ((u4 1), kIr cA 6), ((u4 2), kIr cA 6), ((u4 3), kIr cA 8), ((u4 4), kIr cA 8), ((u4 5), kIr cA 8), ((u4 6), kIr cA 8), (q5, .inr (3, [.int 0, .int 0, .int 0, .int 0, .ref (u6 1), .ref (u6 2), .ref (u6 3), .ref (u6 4), .ref (u6 5), .ref (u6 6)])), ((u6 1), kIr cA 6), ((u6 2), kIr cA 6), ((u6 3), kIr cA 8), ((u6 4), kIr cA 8), ((u6 5), kIr cA 8), ((u6 6), kIr cA 8), (q7, .inr (1, [.ref (u8 1), .int 0])), ((u8 1), kBr cA 120), (q9, .inr (2, [.ref q7, .ref q3, .int 0, .int 0, .int 0, .int 0])), (q11, .inr (0, [.null, .null, .null]))] 25 293
  refine ka_dup dX5_init_76 rfl ?_
  refine ka_callN [25] [0, 1, 2, 3, 4, 5, 6, 7, 8, 9, 10, 11, 12, 13, 14, 15, 16, 17, 18, 19, 20, 21, 22, 23, 24] (wr := [(h, .inr (4, [.ref q1, .ref q3, .ref q5, .int 0, .ref q7, .ref q9, .null, .null])), (q1, .inr (3, [.int 0, .int 0, .int 0, .int 0, .ref (u2 1), .ref (u2 2), .ref (u2 3), .ref (u2 4), .ref (u2 5), .ref (u2 6)])), ((u2 1), kIr cA 6), ((u2 2), kIr cA 6), ((u2 3), kIr cA 8), ((u2 4), kIr cA 8), ((u2 5), kIr cA 8), ((u2 6), kIr cA 8), (q3, .inr (3, [.int 0, .int 0, .int 0, .int 0, .ref (u4 1), .ref (u4 2), .ref (u4 3), .ref (u4 4), .ref (u4 5), .ref (u4 6)])), ((u4 1), kIr cA 6), ((u4 2), kIr cA 6), ((u4 3), kIr cA 8), ((u4 4), kIr cA 8), ((u4 5), kIr cA 8), ((u4 6), kIr cA 8), (q5, .inr (3, [.int 0, .int 0, .int 0, .int 0, .ref (u6 1), .ref (u6 2), .ref (u6 3), .ref (u6 4), .ref (u6 5), .ref (u6 6)])), ((u6 1), kIr cA 6), ((u6 2), kIr cA 6), ((u6 3), kIr cA 8), ((u6 4), kIr cA 8), ((u6 5), kIr cA 8), ((u6 6), kIr cA 8), (q7, .inr (1, [.ref (u8 1), .int 0])), ((u8 1), kBr cA 120), (q9, .inr (2, [.ref q7, .ref q3, .int 0, .int 0, .int 0, .int 0]))]) dX5_init_77 zmn_44 zw_X1_init rfl zii_X1 (k_kShts (D := D) (cA := cA) (h := q11) ) (by decide) rfl rfl (by decide) (by decide) (by decide) rfl (Nat.le_of_ble_eq_true rfl) rfl (hM.c (Nat.le_of_ble_eq_true rfl)) (hM.s (Nat.le_of_ble_eq_true rfl)) (fun u12 => ?_)
  show kAW D cA C 2 cX5_init RX5 80 [some (.ref h)] [.ref q11, .ref h] [(h, .inr (4, [.ref q1, .ref q3, .ref q5, .int 0, .ref q7, .ref q9, .null, .null])), (q1, .inr (3, [.int 0, .int 0, .int 0, .int 0, .ref (u2 1), .ref (u2 2), .ref (u2 3), .ref (u2 4), .ref (u2 5), .ref (u2 6)])), ((u2 1), kIr cA 6), ((u2 2), kIr cA 6), ((u2 3), kIr cA 8), ((u2 4), kIr cA 8), ((u2 5), kIr cA 8), ((u2 6), kIr cA 8), (q3, .inr (3, [.int 0, .int 0, .int 0, .int 0, .ref (u4 1), .ref (u4 2), .ref (u4 3), .ref (u4 4), .ref (u4 5), .ref (u4 6)])), ((u4 1), kIr cA 6), ((u4 2), kIr cA 6), ((u4 3), kIr cA 8), ((u4 4), kIr cA 8), ((u4 5), kIr cA 8), ((u4 6), kIr cA 8), (q5, .inr (3, [.int 0, .int 0, .int 0, .int 0, .ref (u6 1), .ref (u6 2), .ref (u6 3), .ref (u6 4), .ref (u6 5), .ref (u6 6)])), ((u6 1), kIr cA 6), ((u6 2), kIr cA 6), ((u6 3), kIr cA 8), ((u6 4), kIr cA 8), ((u6 5), kIr cA 8), ((u6 6), kIr cA 8), (q7, .inr (1, [.ref (u8 1), .int 0])), ((u8 1), kBr cA 120), (q9, .inr (2, [.ref q7, .ref q3, .int 0, .int 0, .int 0, .int 0])), (q11, .inr (0, [.ref (u12 1), .ref (u12 6), .ref (u12 7)])), ((u12 1), kQr cA [(u12 2), (u12 3), (u12 4), (u12 5)]), ((u12 2), kLr cA 40), ((u12 3), kLr cA 40), ((u12 4), kLr cA 40), ((u12 5), kLr cA 40), ((u12 6), kIr cA 4), ((u12 7), kIr cA 4)] 32 465
  refine ka_putF (q0 := 0) dX5_init_80 zf_X5_45 zff_X5_6 hM.i rfl (Nat.le_of_ble_eq_true rfl) rfl rfl ?_
  show kAW D cA C 2 cX5_init RX5 83 [some (.ref h)] [] [(h, .inr (4, [.ref q1, .ref q3, .ref q5, .int 0, .ref q7, .ref q9, .ref q11, .null])), (q1, .inr (3, [.int 0, .int 0, .int 0, .int 0, .ref (u2 1), .ref (u2 2), .ref (u2 3), .ref (u2 4), .ref (u2 5), .ref (u2 6)])), ((u2 1), kIr cA 6), ((u2 2), kIr cA 6), ((u2 3), kIr cA 8), ((u2 4), kIr cA 8), ((u2 5), kIr cA 8), ((u2 6), kIr cA 8), (q3, .inr (3, [.int 0, .int 0, .int 0, .int 0, .ref (u4 1), .ref (u4 2), .ref (u4 3), .ref (u4 4), .ref (u4 5), .ref (u4 6)])), ((u4 1), kIr cA 6), ((u4 2), kIr cA 6), ((u4 3), kIr cA 8), ((u4 4), kIr cA 8), ((u4 5), kIr cA 8), ((u4 6), kIr cA 8), (q5, .inr (3, [.int 0, .int 0, .int 0, .int 0, .ref (u6 1), .ref (u6 2), .ref (u6 3), .ref (u6 4), .ref (u6 5), .ref (u6 6)])), ((u6 1), kIr cA 6), ((u6 2), kIr cA 6), ((u6 3), kIr cA 8), ((u6 4), kIr cA 8), ((u6 5), kIr cA 8), ((u6 6), kIr cA 8), (q7, .inr (1, [.ref (u8 1), .int 0])), ((u8 1), kBr cA 120), (q9, .inr (2, [.ref q7, .ref q3, .int 0, .int 0, .int 0, .int 0])), (q11, .inr (0, [.ref (u12 1), .ref (u12 6), .ref (u12 7)])), ((u12 1), kQr cA [(u12 2), (u12 3), (u12 4), (u12 5)]), ((u12 2), kLr cA 40), ((u12 3), kLr cA 40), ((u12 4), kLr cA 40), ((u12 5), kLr cA 40), ((u12 6), kIr cA 4), ((u12 7), kIr cA 4)] 32 465
  refine ka_aload_n dX5_init_83 rfl ?_
  refine ka_bipush (nI 7) dX5_init_84 (by decide +kernel) ?_
  refine ka_newa (t := 0) (ty := .int) (N' := 7) (a0 := (7, .inl (fun _ => 0))) dX5_init_86 zac_i rfl rfl (fun _ => rfl) (nI_pos (by decide)) (nI_clamp (by decide)) (by decide) (hM.c (Nat.le_of_ble_eq_true rfl)) (hM.s (Nat.le_of_ble_eq_true rfl)) (fun q13 => ?_)
  show kAW D cA C 2 cX5_init RX5 88 [some (.ref h)] [.ref q13, .ref h] [(h, .inr (4, [.ref q1, .ref q3, .ref q5, .int 0, .ref q7, .ref q9, .ref q11, .null])), (q1, .inr (3, [.int 0, .int 0, .int 0, .int 0, .ref (u2 1), .ref (u2 2), .ref (u2 3), .ref (u2 4), .ref (u2 5), .ref (u2 6)])), ((u2 1), kIr cA 6), ((u2 2), kIr cA 6), ((u2 3), kIr cA 8), ((u2 4), kIr cA 8), ((u2 5), kIr cA 8), ((u2 6), kIr cA 8), (q3, .inr (3, [.int 0, .int 0, .int 0, .int 0, .ref (u4 1), .ref (u4 2), .ref (u4 3), .ref (u4 4), .ref (u4 5), .ref (u4 6)])), ((u4 1), kIr cA 6), ((u4 2), kIr cA 6), ((u4 3), kIr cA 8), ((u4 4), kIr cA 8), ((u4 5), kIr cA 8), ((u4 6), kIr cA 8), (q5, .inr (3, [.int 0, .int 0, .int 0, .int 0, .ref (u6 1), .ref (u6 2), .ref (u6 3), .ref (u6 4), .ref (u6 5), .ref (u6 6)])), ((u6 1), kIr cA 6), ((u6 2), kIr cA 6), ((u6 3), kIr cA 8), ((u6 4), kIr cA 8), ((u6 5), kIr cA 8), ((u6 6), kIr cA 8), (q7, .inr (1, [.ref (u8 1), .int 0])), ((u8 1), kBr cA 120), (q9, .inr (2, [.ref q7, .ref q3, .int 0, .int 0, .int 0, .int 0])), (q11, .inr (0, [.ref (u12 1), .ref (u12 6), .ref (u12 7)])), ((u12 1), kQr cA [(u12 2), (u12 3), (u12 4), (u12 5)]), ((u12 2), kLr cA 40), ((u12 3), kLr cA 40), ((u12 4), kLr cA 40), ((u12 5), kLr cA 40), ((u12 6), kIr cA 4), ((u12 7), kIr cA 4), (q13, kIr cA 7)] 33 472
  refine ka_putF (q0 := 0) dX5_init_88 zf_X5_49 zff_X5_7 hM.i rfl (Nat.le_of_ble_eq_true rfl) rfl rfl ?_
  show kAW D cA C 2 cX5_init RX5 91 [some (.ref h)] [] [(h, .inr (4, [.ref q1, .ref q3, .ref q5, .int 0, .ref q7, .ref q9, .ref q11, .ref q13])), (q1, .inr (3, [.int 0, .int 0, .int 0, .int 0, .ref (u2 1), .ref (u2 2), .ref (u2 3), .ref (u2 4), .ref (u2 5), .ref (u2 6)])), ((u2 1), kIr cA 6), ((u2 2), kIr cA 6), ((u2 3), kIr cA 8), ((u2 4), kIr cA 8), ((u2 5), kIr cA 8), ((u2 6), kIr cA 8), (q3, .inr (3, [.int 0, .int 0, .int 0, .int 0, .ref (u4 1), .ref (u4 2), .ref (u4 3), .ref (u4 4), .ref (u4 5), .ref (u4 6)])), ((u4 1), kIr cA 6), ((u4 2), kIr cA 6), ((u4 3), kIr cA 8), ((u4 4), kIr cA 8), ((u4 5), kIr cA 8), ((u4 6), kIr cA 8), (q5, .inr (3, [.int 0, .int 0, .int 0, .int 0, .ref (u6 1), .ref (u6 2), .ref (u6 3), .ref (u6 4), .ref (u6 5), .ref (u6 6)])), ((u6 1), kIr cA 6), ((u6 2), kIr cA 6), ((u6 3), kIr cA 8), ((u6 4), kIr cA 8), ((u6 5), kIr cA 8), ((u6 6), kIr cA 8), (q7, .inr (1, [.ref (u8 1), .int 0])), ((u8 1), kBr cA 120), (q9, .inr (2, [.ref q7, .ref q3, .int 0, .int 0, .int 0, .int 0])), (q11, .inr (0, [.ref (u12 1), .ref (u12 6), .ref (u12 7)])), ((u12 1), kQr cA [(u12 2), (u12 3), (u12 4), (u12 5)]), ((u12 2), kLr cA 40), ((u12 3), kLr cA 40), ((u12 4), kLr cA 40), ((u12 5), kLr cA 40), ((u12 6), kIr cA 4), ((u12 7), kIr cA 4), (q13, kIr cA 7)] 33 472
  exact ka_vret hM dX5_init_91 (fun k => [h, q1, (u2 1), (u2 2), (u2 3), (u2 4), (u2 5), (u2 6), q3, (u4 1), (u4 2), (u4 3), (u4 4), (u4 5), (u4 6), q5, (u6 1), (u6 2), (u6 3), (u6 4), (u6 5), (u6 6), q7, (u8 1), q9, q11, (u12 1), (u12 2), (u12 3), (u12 4), (u12 5), (u12 6), (u12 7), q13].getD k 0) rfl (Nat.le_of_ble_eq_true rfl) (Nat.le_of_ble_eq_true rfl)

abbrev kModl (cA : Nat → ClassId) (h : Nat) (u : Nat → Nat) : va_W := [(h, .inr (5, [.ref (u 1), .ref (u 2), .ref (u 3), .ref (u 4), .ref (u 5), .int 0, .ref (u 6), .int 0, .int 0, .int 0, .int 0, .int 0, .ref (u 7), .ref (u 8), .ref (u 9), .ref (u 10)])), ((u 1), kIr cA 48), ((u 2), kIr cA 48), ((u 3), kIr cA 48), ((u 4), kIr cA 48), ((u 5), kIr cA 7), ((u 6), kIr cA 120), ((u 7), kIr cA 4), ((u 8), kIr cA 4), ((u 9), kLr cA 160), ((u 10), kLr cA 40)]
set_option maxHeartbeats 4000000 in
set_option maxRecDepth 100000 in
theorem k_kModl {D : va_G} {cA : Nat → ClassId} {h : Nat} : kEv D cA 1 10 527 yX6_init cX6_init 1 [.ref h] [(h, .inr (5, kF6))] (kModl cA h) := by
  refine kev_intro (own := RX6) (by decide +kernel) rfl rfl (Nat.le_of_ble_eq_true rfl) rfl (fun C hM => ?_)
  show kAW D cA C 1 cX6_init RX6 0 [some (.ref h)] [] [(h, .inr (5, kF6))] 0 0
  refine ka_aload_n dX6_init_0 rfl ?_
  refine ka_obj dX6_init_1 zmo_X6 (by decide) (Nat.le_of_ble_eq_true rfl) ?_
  refine ka_aload_n dX6_init_4 rfl ?_
  refine ka_bipush (nI 48) dX6_init_5 (by decide +kernel) ?_
  refine ka_newa (t := 0) (ty := .int) (N' := 48) (a0 := (48, .inl (fun _ => 0))) dX6_init_7 zac_i rfl rfl (fun _ => rfl) (nI_pos (by decide)) (nI_clamp (by decide)) (by decide) (hM.c (Nat.le_of_ble_eq_true rfl)) (hM.s (Nat.le_of_ble_eq_true rfl)) (fun q1 => ?_)
  show kAW D cA C 1 cX6_init RX6 9 [some (.ref h)] [.ref q1, .ref h] [(h, .inr (5, [.null, .null, .null, .null, .null, .int 0, .null, .int 0, .int 0, .int 0, .int 0, .int 0, .null, .null, .null, .null])), (q1, kIr cA 48)] 1 48
  refine ka_putF (q0 := 0) dX6_init_9 zf_X6_7 zff_X6_0 hM.i rfl (Nat.le_of_ble_eq_true rfl) rfl rfl ?_
  show kAW D cA C 1 cX6_init RX6 12 [some (.ref h)] [] [(h, .inr (5, [.ref q1, .null, .null, .null, .null, .int 0, .null, .int 0, .int 0, .int 0, .int 0, .int 0, .null, .null, .null, .null])), (q1, kIr cA 48)] 1 48
  refine ka_aload_n dX6_init_12 rfl ?_
  refine ka_bipush (nI 48) dX6_init_13 (by decide +kernel) ?_
  refine ka_newa (t := 0) (ty := .int) (N' := 48) (a0 := (48, .inl (fun _ => 0))) dX6_init_15 zac_i rfl rfl (fun _ => rfl) (nI_pos (by decide)) (nI_clamp (by decide)) (by decide) (hM.c (Nat.le_of_ble_eq_true rfl)) (hM.s (Nat.le_of_ble_eq_true rfl)) (fun q2 => ?_)
  show kAW D cA C 1 cX6_init RX6 17 [some (.ref h)] [.ref q2, .ref h] [(h, .inr (5, [.ref q1, .null, .null, .null, .null, .int 0, .null, .int 0, .int 0, .int 0, .int 0, .int 0, .null, .null, .null, .null])), (q1, kIr cA 48), (q2, kIr cA 48)] 2 96
  refine ka_putF (q0 := 0) dX6_init_17 zf_X6_13 zff_X6_1 hM.i rfl (Nat.le_of_ble_eq_true rfl) rfl rfl ?_
  show kAW D cA C 1 cX6_init RX6 20 [some (.ref h)] [] [(h, .inr (5, [.ref q1, .ref q2, .null, .null, .null, .int 0, .null, .int 0, .int 0, .int 0, .int 0, .int 0, .null, .null, .null, .null])), (q1, kIr cA 48), (q2, kIr cA 48)] 2 96
  refine ka_aload_n dX6_init_20 rfl ?_
  refine ka_bipush (nI 48) dX6_init_21 (by decide +kernel) ?_
  refine ka_newa (t := 0) (ty := .int) (N' := 48) (a0 := (48, .inl (fun _ => 0))) dX6_init_23 zac_i rfl rfl (fun _ => rfl) (nI_pos (by decide)) (nI_clamp (by decide)) (by decide) (hM.c (Nat.le_of_ble_eq_true rfl)) (hM.s (Nat.le_of_ble_eq_true rfl)) (fun q3 => ?_)
  show kAW D cA C 1 cX6_init RX6 25 [some (.ref h)] [.ref q3, .ref h] [(h, .inr (5, [.ref q1, .ref q2, .null, .null, .null, .int 0, .null, .int 0, .int 0, .int 0, .int 0, .int 0, .null, .null, .null, .null])), (q1, kIr cA 48), (q2, kIr cA 48), (q3, kIr cA 48)] 3 144
  refine ka_putF (q0 := 0) dX6_init_25 zf_X6_16 zff_X6_2 hM.i rfl (Nat.le_of_ble_eq_true rfl) rfl rfl ?_
  show kAW D cA C 1 cX6_init RX6 28 [some (.ref h)] [] [(h, .inr (5, [.ref q1, .ref q2, .ref q3, .null, .null, .int 0, .null, .int 0, .int 0, .int 0, .int 0, .int 0, .null, .null, .null, .null])), (q1, kIr cA 48), (q2, kIr cA 48), (q3, kIr cA 48)] 3 144
  refine ka_aload_n dX6_init_28 rfl ?_
  refine ka_bipush (nI 48) dX6_init_29 (by decide +kernel) ?_
  refine ka_newa (t := 0) (ty := .int) (N' := 48) (a0 := (48, .inl (fun _ => 0))) dX6_init_31 zac_i rfl rfl (fun _ => rfl) (nI_pos (by decide)) (nI_clamp (by decide)) (by decide) (hM.c (Nat.le_of_ble_eq_true rfl)) (hM.s (Nat.le_of_ble_eq_true rfl)) (fun q4 => ?_)
  show kAW D cA C 1 cX6_init RX6 33 [some (.ref h)] [.ref q4, .ref h] [(h, .inr (5, [.ref q1, .ref q2, .ref q3, .null, .null, .int 0, .null, .int 0, .int 0, .int 0, .int 0, .int 0, .null, .null, .null, .null])), (q1, kIr cA 48), (q2, kIr cA 48), (q3, kIr cA 48), (q4, kIr cA 48)] 4 192
  refine ka_putF (q0 := 0) dX6_init_33 zf_X6_19 zff_X6_3 hM.i rfl (Nat.le_of_ble_eq_true rfl) rfl rfl ?_
  show kAW D cA C 1 cX6_init RX6 36 [some (.ref h)] [] [(h, .inr (5, [.ref q1, .ref q2, .ref q3, .ref q4, .null, .int 0, .null, .int 0, .int 0, .int 0, .int 0, .int 0, .null, .null, .null, .null])), (q1, kIr cA 48), (q2, kIr cA 48), (q3, kIr cA 48), (q4, kIr cA 48)] 4 192
  refine ka_aload_n dX6_init_36 rfl ?_
  refine ka_bipush (nI 7) dX6_init_37 (by decide +kernel) ?_
  refine ka_newa (t := 0) (ty := .int) (N' := 7) (a0 := (7, .inl (fun _ => 0))) dX6_init_39 zac_i rfl rfl (fun _ => rfl) (nI_pos (by decide)) (nI_clamp (by decide)) (by decide) (hM.c (Nat.le_of_ble_eq_true rfl)) (hM.s (Nat.le_of_ble_eq_true rfl)) (fun q5 => ?_)
  show kAW D cA C 1 cX6_init RX6 41 [some (.ref h)] [.ref q5, .ref h] [(h, .inr (5, [.ref q1, .ref q2, .ref q3, .ref q4, .null, .int 0, .null, .int 0, .int 0, .int 0, .int 0, .int 0, .null, .null, .null, .null])), (q1, kIr cA 48), (q2, kIr cA 48), (q3, kIr cA 48), (q4, kIr cA 48), (q5, kIr cA 7)] 5 199
  refine ka_putF (q0 := 0) dX6_init_41 zf_X6_22 zff_X6_4 hM.i rfl (Nat.le_of_ble_eq_true rfl) rfl rfl ?_
  show kAW D cA C 1 cX6_init RX6 44 [some (.ref h)] [] [(h, .inr (5, [.ref q1, .ref q2, .ref q3, .ref q4, .ref q5, .int 0, .null, .int 0, .int 0, .int 0, .int 0, .int 0, .null, .null, .null, .null])), (q1, kIr cA 48), (q2, kIr cA 48), (q3, kIr cA 48), (q4, kIr cA 48), (q5, kIr cA 7)] 5 199
  refine ka_aload_n dX6_init_44 rfl ?_
  refine ka_bipush (nI 120) dX6_init_45 (by decide +kernel) ?_
  refine ka_newa (t := 0) (ty := .int) (N' := 120) (a0 := (120, .inl (fun _ => 0))) dX6_init_47 zac_i rfl rfl (fun _ => rfl) (nI_pos (by decide)) (nI_clamp (by decide)) (by decide) (hM.c (Nat.le_of_ble_eq_true rfl)) (hM.s (Nat.le_of_ble_eq_true rfl)) (fun q6 => ?_)
  show kAW D cA C 1 cX6_init RX6 49 [some (.ref h)] [.ref q6, .ref h] [(h, .inr (5, [.ref q1, .ref q2, .ref q3, .ref q4, .ref q5, .int 0, .null, .int 0, .int 0, .int 0, .int 0, .int 0, .null, .null, .null, .null])), (q1, kIr cA 48), (q2, kIr cA 48), (q3, kIr cA 48), (q4, kIr cA 48), (q5, kIr cA 7), (q6, kIr cA 120)] 6 319
  refine ka_putF (q0 := 0) dX6_init_49 zf_X6_25 zff_X6_6 hM.i rfl (Nat.le_of_ble_eq_true rfl) rfl rfl ?_
  show kAW D cA C 1 cX6_init RX6 52 [some (.ref h)] [] [(h, .inr (5, [.ref q1, .ref q2, .ref q3, .ref q4, .ref q5, .int 0, .ref q6, .int 0, .int 0, .int 0, .int 0, .int 0, .null, .null, .null, .null])), (q1, kIr cA 48), (q2, kIr cA 48), (q3, kIr cA 48), (q4, kIr cA 48), (q5, kIr cA 7), (q6, kIr cA 120)] 6 319
  refine ka_aload_n dX6_init_52 rfl ?_
  refine ka_iconst (nI 4) dX6_init_53 (by decide) ?_
  refine ka_newa (t := 0) (ty := .int) (N' := 4) (a0 := (4, .inl (fun _ => 0))) dX6_init_54 zac_i rfl rfl (fun _ => rfl) (nI_pos (by decide)) (nI_clamp (by decide)) (by decide) (hM.c (Nat.le_of_ble_eq_true rfl)) (hM.s (Nat.le_of_ble_eq_true rfl)) (fun q7 => ?_)
  show kAW D cA C 1 cX6_init RX6 56 [some (.ref h)] [.ref q7, .ref h] [(h, .inr (5, [.ref q1, .ref q2, .ref q3, .ref q4, .ref q5, .int 0, .ref q6, .int 0, .int 0, .int 0, .int 0, .int 0, .null, .null, .null, .null])), (q1, kIr cA 48), (q2, kIr cA 48), (q3, kIr cA 48), (q4, kIr cA 48), (q5, kIr cA 7), (q6, kIr cA 120), (q7, kIr cA 4)] 7 323
  refine ka_putF (q0 := 0) dX6_init_56 zf_X6_28 zff_X6_12 hM.i rfl (Nat.le_of_ble_eq_true rfl) rfl rfl ?_
  show kAW D cA C 1 cX6_init RX6 59 [some (.ref h)] [] [(h, .inr (5, [.ref q1, .ref q2, .ref q3, .ref q4, .ref q5, .int 0, .ref q6, .int 0, .int 0, .int 0, .int 0, .int 0, .ref q7, .null, .null, .null])), (q1, kIr cA 48), (q2, kIr cA 48), (q3, kIr cA 48), (q4, kIr cA 48), (q5, kIr cA 7), (q6, kIr cA 120), (q7, kIr cA 4)] 7 323
  refine ka_aload_n dX6_init_59 rfl ?_
  refine ka_iconst (nI 4) dX6_init_60 (by decide) ?_
  refine ka_newa (t := 0) (ty := .int) (N' := 4) (a0 := (4, .inl (fun _ => 0))) dX6_init_61 zac_i rfl rfl (fun _ => rfl) (nI_pos (by decide)) (nI_clamp (by decide)) (by decide) (hM.c (Nat.le_of_ble_eq_true rfl)) (hM.s (Nat.le_of_ble_eq_true rfl)) (fun q8 => ?_)
  show kAW D cA C 1 cX6_init RX6 63 [some (.ref h)] [.ref q8, .ref h] [(h, .inr (5, [.ref q1, .ref q2, .ref q3, .ref q4, .ref q5, .int 0, .ref q6, .int 0, .int 0, .int 0, .int 0, .int 0, .ref q7, .null, .null, .null])), (q1, kIr cA 48), (q2, kIr cA 48), (q3, kIr cA 48), (q4, kIr cA 48), (q5, kIr cA 7), (q6, kIr cA 120), (q7, kIr cA 4), (q8, kIr cA 4)] 8 327
  refine ka_putF (q0 := 0) dX6_init_63 zf_X6_31 zff_X6_13 hM.i rfl (Nat.le_of_ble_eq_true rfl) rfl rfl ?_
  show kAW D cA C 1 cX6_init RX6 66 [some (.ref h)] [] [(h, .inr (5, [.ref q1, .ref q2, .ref q3, .ref q4, .ref q5, .int 0, .ref q6, .int 0, .int 0, .int 0, .int 0, .int 0, .ref q7, .ref q8, .null, .null])), (q1, kIr cA 48), (q2, kIr cA 48), (q3, kIr cA 48), (q4, kIr cA 48), (q5, kIr cA 7), (q6, kIr cA 120), (q7, kIr cA 4), (q8, kIr cA 4)] 8 327
  refine ka_aload_n dX6_init_66 rfl ?_
  refine ka_sipush (nI 160) dX6_init_67 (by decide +kernel) ?_
  refine ka_newa (t := 1) (ty := .long) (N' := 160) (a0 := (160, .inr (.inl (fun _ => 0)))) dX6_init_70 zac_l rfl rfl (fun _ => rfl) (nI_pos (by decide)) (nI_clamp (by decide)) (by decide) (hM.c (Nat.le_of_ble_eq_true rfl)) (hM.s (Nat.le_of_ble_eq_true rfl)) (fun q9 => ?_)
  show kAW D cA C 1 cX6_init RX6 72 [some (.ref h)] [.ref q9, .ref h] [(h, .inr (5, [.ref q1, .ref q2, .ref q3, .ref q4, .ref q5, .int 0, .ref q6, .int 0, .int 0, .int 0, .int 0, .int 0, .ref q7, .ref q8, .null, .null])), (q1, kIr cA 48), (q2, kIr cA 48), (q3, kIr cA 48), (q4, kIr cA 48), (q5, kIr cA 7), (q6, kIr cA 120), (q7, kIr cA 4), (q8, kIr cA 4), (q9, kLr cA 160)] 9 487
  refine ka_putF (q0 := 0) dX6_init_72 zf_X6_34 zff_X6_14 hM.i rfl (Nat.le_of_ble_eq_true rfl) rfl rfl ?_
  show kAW D cA C 1 cX6_init RX6 75 [some (.ref h)] [] [(h, .inr (5, [.ref q1, .ref q2, .ref q3, .ref q4, .ref q5, .int 0, .ref q6, .int 0, .int 0, .int 0, .int 0, .int 0, .ref q7, .ref q8, .ref q9, .null])), (q1, kIr cA 48), (q2, kIr cA 48), (q3, kIr cA 48), (q4, kIr cA 48), (q5, kIr cA 7), (q6, kIr cA 120), (q7, kIr cA 4), (q8, kIr cA 4), (q9, kLr cA 160)] 9 487
  refine ka_aload_n dX6_init_75 rfl ?_
  refine ka_bipush (nI 40) dX6_init_76 (by decide +kernel) ?_
  refine ka_newa (t := 1) (ty := .long) (N' := 40) (a0 := (40, .inr (.inl (fun _ => 0)))) dX6_init_78 zac_l rfl rfl (fun _ => rfl) (nI_pos (by decide)) (nI_clamp (by decide)) (by decide) (hM.c (Nat.le_of_ble_eq_true rfl)) (hM.s (Nat.le_of_ble_eq_true rfl)) (fun q10 => ?_)
  show kAW D cA C 1 cX6_init RX6 80 [some (.ref h)] [.ref q10, .ref h] [(h, .inr (5, [.ref q1, .ref q2, .ref q3, .ref q4, .ref q5, .int 0, .ref q6, .int 0, .int 0, .int 0, .int 0, .int 0, .ref q7, .ref q8, .ref q9, .null])), (q1, kIr cA 48), (q2, kIr cA 48), (q3, kIr cA 48), (q4, kIr cA 48), (q5, kIr cA 7), (q6, kIr cA 120), (q7, kIr cA 4), (q8, kIr cA 4), (q9, kLr cA 160), (q10, kLr cA 40)] 10 527
  refine ka_putF (q0 := 0) dX6_init_80 zf_X6_38 zff_X6_15 hM.i rfl (Nat.le_of_ble_eq_true rfl) rfl rfl ?_
  show kAW D cA C 1 cX6_init RX6 83 [some (.ref h)] [] [(h, .inr (5, [.ref q1, .ref q2, .ref q3, .ref q4, .ref q5, .int 0, .ref q6, .int 0, .int 0, .int 0, .int 0, .int 0, .ref q7, .ref q8, .ref q9, .ref q10])), (q1, kIr cA 48), (q2, kIr cA 48), (q3, kIr cA 48), (q4, kIr cA 48), (q5, kIr cA 7), (q6, kIr cA 120), (q7, kIr cA 4), (q8, kIr cA 4), (q9, kLr cA 160), (q10, kLr cA 40)] 10 527
  exact ka_vret hM dX6_init_83 (fun k => [h, q1, q2, q3, q4, q5, q6, q7, q8, q9, q10].getD k 0) rfl (Nat.le_of_ble_eq_true rfl) (Nat.le_of_ble_eq_true rfl)

