set_option maxRecDepth 20000 in
set_option maxHeartbeats 4000000 in
theorem tc_lying {g : zG} {σ : zSto} {τ : zTn} {o : Nat} (hT : zTo o) {q s : Nat} (hq : q < 6) (hs : s < 2) : zEd g 0 yX4_lying cX4_lying 3 (some .int) [.ref (zad g o), .int (nI q), .int (nI s)] (zpt σ o τ) (some (.int (τ (1 + s) q))) (zpt σ o (τ)) := by
  refine zev_intro (own := RX4) (lv := [some (.ref (zad g o)), some (.int (nI q)), some (.int (nI s))]) (by decide +kernel) rfl (Nat.le_of_ble_eq_true rfl) rfl (fun C hM hN => ?_)
  rcases (show s = 0 ∨ s = 1 by omega) with rfl | rfl
  · refine za_iload_n dX4_lying_0 rfl ?_
    refine za_if_ne 13 dX4_lying_1 (by decide) (fun c1 => absurd (by decide) c1) (fun c1 => ?_)
    refine za_aload_n dX4_lying_4 rfl ?_
    refine za_getR dX4_lying_5 zf_X4_24 (tn0 hT) rfl ?_
    refine za_iload_n dX4_lying_8 rfl ?_
    refine zt_iald hT (by decide) dX4_lying_9 (zv1 hq) ?_
    refine za_goto 19 dX4_lying_10 (by decide) ?_
    exact za_iret hM dX4_lying_19 ⟨by rfl, by rfl⟩
  · refine za_iload_n dX4_lying_0 rfl ?_
    refine za_if_ne 13 dX4_lying_1 (by decide) (fun c1 => ?_) (fun c1 => absurd c1 (by decide))
    refine za_aload_n dX4_lying_13 rfl ?_
    refine za_getR dX4_lying_14 zf_X4_28 (tn0 hT) rfl ?_
    refine za_iload_n dX4_lying_17 rfl ?_
    refine zt_iald hT (by decide) dX4_lying_18 (zv2 hq) ?_
    exact za_iret hM dX4_lying_19 ⟨by rfl, by rfl⟩

set_option maxRecDepth 20000 in
set_option maxHeartbeats 4000000 in
theorem tc_lay {g : zG} {σ : zSto} {τ : zTn} {o : Nat} (hT : zTo o) {q s : Nat} {v : Int32} (hq : q < 6) (hs : s < 2) : zEd g 0 yX4_lay cX4_lay 4 none [.ref (zad g o), .int (nI q), .int (nI s), .int v] (zpt σ o τ) none (zpt σ o (zup τ (1 + s) q v)) := by
  refine zev_intro (own := RX4) (lv := [some (.ref (zad g o)), some (.int (nI q)), some (.int (nI s)), some (.int v)]) (by decide +kernel) rfl (Nat.le_of_ble_eq_true rfl) rfl (fun C hM hN => ?_)
  rcases (show s = 0 ∨ s = 1 by omega) with rfl | rfl
  · refine za_iload_n dX4_lay_0 rfl ?_
    refine za_if_ne 14 dX4_lay_1 (by decide) (fun c1 => absurd (by decide) c1) (fun c1 => ?_)
    refine za_aload_n dX4_lay_4 rfl ?_
    refine za_getR dX4_lay_5 zf_X4_24 (tn0 hT) rfl ?_
    refine za_iload_n dX4_lay_8 rfl ?_
    refine za_iload_n dX4_lay_9 rfl ?_
    refine zt_iast hT (by decide) dX4_lay_10 (zv1 hq) ?_
    refine za_goto 21 dX4_lay_11 (by decide) ?_
    exact za_vret hM dX4_lay_21 ⟨by rfl, by rfl⟩
  · refine za_iload_n dX4_lay_0 rfl ?_
    refine za_if_ne 14 dX4_lay_1 (by decide) (fun c1 => ?_) (fun c1 => absurd c1 (by decide))
    refine za_aload_n dX4_lay_14 rfl ?_
    refine za_getR dX4_lay_15 zf_X4_28 (tn0 hT) rfl ?_
    refine za_iload_n dX4_lay_18 rfl ?_
    refine za_iload_n dX4_lay_19 rfl ?_
    refine zt_iast hT (by decide) dX4_lay_20 (zv2 hq) ?_
    exact za_vret hM dX4_lay_21 ⟨by rfl, by rfl⟩

set_option maxRecDepth 20000 in
set_option maxHeartbeats 4000000 in
theorem tc_tell {g : zG} {σ : zSto} {τ : zTn} {o : Nat} (hT : zTo o) {q w : Nat} (hq : q < 6) (hw : w < 3) : zEd g 1 yX4_tell cX4_tell 3 (some .int) [.ref (zad g o), .int (nI q), .int (nI w)] (zpt σ o τ) (some (.int (p_tell τ q w))) (zpt σ o (τ)) := by
  refine zev_intro (own := RX4) (lv := [some (.ref (zad g o)), some (.int (nI q)), some (.int (nI w))]) (by decide +kernel) rfl (Nat.le_of_ble_eq_true rfl) rfl (fun C hM hN => ?_)
  rcases (show w = 0 ∨ w = 1 ∨ w = 2 by omega) with rfl | rfl | rfl
  · refine za_iload_n dX4_tell_0 rfl ?_
    refine za_iconst (nI 2) dX4_tell_1 (by decide) ?_
    refine za_icmp_ne 16 dX4_tell_2 (by decide) (fun c2 => ?_) (fun c2 => absurd c2 (by decide))
    refine za_aload_n dX4_tell_16 rfl ?_
    refine za_iload_n dX4_tell_17 rfl ?_
    refine za_iload_n dX4_tell_18 rfl ?_
    refine za_cV2 dX4_tell_19 zm_X4_49 zw_X4_lying zv_X4_lying (tc_lying hT hq (by omega)) (by decide) (tn0 hT) rfl rfl (Nat.le_of_ble_eq_true rfl) ?_
    exact za_iret hM dX4_tell_22 ⟨by rfl, by rfl⟩
  · refine za_iload_n dX4_tell_0 rfl ?_
    refine za_iconst (nI 2) dX4_tell_1 (by decide) ?_
    refine za_icmp_ne 16 dX4_tell_2 (by decide) (fun c2 => ?_) (fun c2 => absurd c2 (by decide))
    refine za_aload_n dX4_tell_16 rfl ?_
    refine za_iload_n dX4_tell_17 rfl ?_
    refine za_iload_n dX4_tell_18 rfl ?_
    refine za_cV2 dX4_tell_19 zm_X4_49 zw_X4_lying zv_X4_lying (tc_lying hT hq (by omega)) (by decide) (tn0 hT) rfl rfl (Nat.le_of_ble_eq_true rfl) ?_
    exact za_iret hM dX4_tell_22 ⟨by rfl, by rfl⟩
  · refine za_iload_n dX4_tell_0 rfl ?_
    refine za_iconst (nI 2) dX4_tell_1 (by decide) ?_
    refine za_icmp_ne 16 dX4_tell_2 (by decide) (fun c2 => absurd (by decide) c2) (fun c2 => ?_)
    refine za_aload_n dX4_tell_5 rfl ?_
    refine zt_getI hT dX4_tell_6 zf_X4_15 (by decide) ?_
    refine za_iload_n dX4_tell_9 rfl ?_
    refine za_ishr dX4_tell_10 ?_
    refine za_iconst (nI 1) dX4_tell_11 (by decide) ?_
    refine za_iand dX4_tell_12 ?_
    refine za_goto 22 dX4_tell_13 (by decide) ?_
    exact za_iret hM dX4_tell_22 ⟨by rfl, by rfl⟩

set_option maxRecDepth 20000 in
set_option maxHeartbeats 4000000 in
theorem tc_questionOfDay {g : zG} {σ : zSto} {τ : zTn} {o : Nat} (hT : zTo o) {B : Nat} (hd : zlt (τ 0 0) B) (hB : B ≤ 2000000) : zEd g 0 yX4_questionOfDay cX4_questionOfDay 1 (some .int) [.ref (zad g o)] (zpt σ o τ) (some (.int (nI (p_q τ)))) (zpt σ o (τ)) := by
  refine zev_intro (own := RX4) (lv := [some (.ref (zad g o))]) (by decide +kernel) rfl (Nat.le_of_ble_eq_true rfl) rfl (fun C hM hN => ?_)
  refine za_aload_n dX4_questionOfDay_0 rfl ?_
  refine zt_getI hT dX4_questionOfDay_1 zf_X4_9 (by decide) ?_
  refine za_bipush (nI 6) dX4_questionOfDay_4 (by decide) ?_
  refine za_irem dX4_questionOfDay_6 (by decide) ?_
  exact za_iret hM dX4_questionOfDay_7 ⟨congrArg (fun z => some (Value.int z)) (zrem hd (by omega) (by decide) (by decide)), rfl⟩

set_option maxRecDepth 20000 in
set_option maxHeartbeats 4000000 in
theorem tc_isFull {g : zG} {σ : zSto} {τ : zTn} {o : Nat} (hT : zTo o) {n : Nat} (hn : n < 9) (hp : τ 0 3 = nI n) : zEd g 0 yX4_isFull cX4_isFull 1 (some .boolean) [.ref (zad g o)] (zpt σ o τ) (some (.int (zb (n = 8)))) (zpt σ o (τ)) := by
  refine zev_intro (own := RX4) (lv := [some (.ref (zad g o))]) (by decide +kernel) rfl (Nat.le_of_ble_eq_true rfl) rfl (fun C hM hN => ?_)
  refine za_aload_n dX4_isFull_0 rfl ?_
  refine zt_getI hT dX4_isFull_1 zf_X4_21 (by decide) ?_
  refine za_bipush (nI 8) dX4_isFull_4 (by decide) ?_
  refine za_icmp_lt 13 dX4_isFull_6 (by decide) (fun c6 => ?_) (fun c6 => ?_)
  · rw [hp] at c6
    refine za_iconst (nI 0) dX4_isFull_13 (by decide) ?_
    exact za_zretG hM dX4_isFull_14 (by decide) ⟨by (first | rfl | exact congrArg (fun z => some (Value.int z)) (zb_f (fun h => by subst h; exact absurd c6 (by decide))).symm | exact congrArg (fun z => some (Value.int z)) (zb_1 (by have := mt (fun h : n < 8 => nI_lt h (by decide)) c6; omega)).symm), by (first | rfl | exact congrArg (fun z => some (Value.int z)) (zb_f (fun h => by subst h; exact absurd c6 (by decide))).symm | exact congrArg (fun z => some (Value.int z)) (zb_1 (by have := mt (fun h : n < 8 => nI_lt h (by decide)) c6; omega)).symm)⟩
  · rw [hp] at c6
    refine za_iconst (nI 1) dX4_isFull_9 (by decide) ?_
    refine za_goto 14 dX4_isFull_10 (by decide) ?_
    exact za_zretG hM dX4_isFull_14 (by decide) ⟨by (first | rfl | exact congrArg (fun z => some (Value.int z)) (zb_f (fun h => by subst h; exact absurd c6 (by decide))).symm | exact congrArg (fun z => some (Value.int z)) (zb_1 (by have := mt (fun h : n < 8 => nI_lt h (by decide)) c6; omega)).symm), by (first | rfl | exact congrArg (fun z => some (Value.int z)) (zb_f (fun h => by subst h; exact absurd c6 (by decide))).symm | exact congrArg (fun z => some (Value.int z)) (zb_1 (by have := mt (fun h : n < 8 => nI_lt h (by decide)) c6; omega)).symm)⟩

set_option maxRecDepth 20000 in
set_option maxHeartbeats 4000000 in
theorem tc_throwerSide {g : zG} {σ : zSto} {τ : zTn} {o : Nat} (hT : zTo o) {p q : Nat} (hp : p < 8) : zEd g 0 yX4_throwerSide cX4_throwerSide 3 (some .int) [.ref (zad g o), .int (nI p), .int (nI q)] (zpt σ o τ) (some (.int (nI (p_own τ p q)))) (zpt σ o (τ)) := by
  refine zev_intro (own := RX4) (lv := [some (.ref (zad g o)), some (.int (nI p)), some (.int (nI q))]) (by decide +kernel) rfl (Nat.le_of_ble_eq_true rfl) rfl (fun C hM hN => ?_)
  refine za_aload_n dX4_throwerSide_0 rfl ?_
  refine za_getR dX4_throwerSide_1 zf_X4_34 (tn0 hT) rfl ?_
  refine za_iload_n dX4_throwerSide_4 rfl ?_
  refine zt_iald hT (by decide) dX4_throwerSide_5 (zv4 hp) ?_
  refine za_iload_n dX4_throwerSide_6 rfl ?_
  refine za_ishr dX4_throwerSide_7 ?_
  refine za_iconst (nI 1) dX4_throwerSide_8 (by decide) ?_
  refine za_iand dX4_throwerSide_9 ?_
  refine za_iconst (nI 1) dX4_throwerSide_10 (by decide) ?_
  refine za_icmp_ne 18 dX4_throwerSide_11 (by decide) (fun c11 => ?_) (fun c11 => ?_)
  · refine za_iconst (nI 1) dX4_throwerSide_18 (by decide) ?_
    exact za_iret hM dX4_throwerSide_19 ⟨by (first | rfl | (unfold p_own; rw [if_pos (by assumption)]; done) | (unfold p_own; rw [if_neg (by assumption)]; done)), by (first | rfl | (unfold p_own; rw [if_pos (by assumption)]; done) | (unfold p_own; rw [if_neg (by assumption)]; done))⟩
  · refine za_iconst (nI 0) dX4_throwerSide_14 (by decide) ?_
    refine za_goto 19 dX4_throwerSide_15 (by decide) ?_
    exact za_iret hM dX4_throwerSide_19 ⟨by (first | rfl | (unfold p_own; rw [if_pos (by assumption)]; done) | (unfold p_own; rw [if_neg (by assumption)]; done)), by (first | rfl | (unfold p_own; rw [if_pos (by assumption)]; done) | (unfold p_own; rw [if_neg (by assumption)]; done))⟩

set_option maxRecDepth 20000 in
set_option maxHeartbeats 4000000 in
theorem tc_ladySide {g : zG} {σ : zSto} {τ : zTn} {o : Nat} (hT : zTo o) {p q : Nat} (hp : p < 8) (hq : q < 6) : zEd g 1 yX4_ladySide cX4_ladySide 5 (some .int) [.ref (zad g o), .int (nI p), .int (nI q)] (zpt σ o τ) (some (.int (nI (p_lady τ p q)))) (zpt σ o (τ)) := by
  refine zev_intro (own := RX4) (lv := [some (.ref (zad g o)), some (.int (nI p)), some (.int (nI q)), none, none]) (by decide +kernel) rfl (Nat.le_of_ble_eq_true rfl) rfl (fun C hM hN => ?_)
  have hs := p_own_lt (τ := τ) (p := p) (q := q)
  refine za_aload_n dX4_ladySide_0 rfl ?_
  refine za_iload_n dX4_ladySide_1 rfl ?_
  refine za_iload_n dX4_ladySide_2 rfl ?_
  refine za_cV2 dX4_ladySide_3 zm_X4_63 zw_X4_throwerSide zv_X4_throwerSide (tc_throwerSide hT hp) (by decide) (tn0 hT) rfl rfl (Nat.le_of_ble_eq_true rfl) ?_
  refine za_istore_n (lv' := [_, _, _, _, _]) dX4_ladySide_6 hN (by decide) rfl ?_
  refine za_iconst (nI 1) dX4_ladySide_7 (by decide) ?_
  refine za_iload_n dX4_ladySide_8 rfl ?_
  refine za_isub dX4_ladySide_9 ?_
  rw [pk_sub (show p_own τ p q ≤ 1 by omega)]
  refine za_istore (lv' := [_, _, _, _, _]) dX4_ladySide_10 hN (by decide) rfl ?_
  refine za_aload_n dX4_ladySide_12 rfl ?_
  refine za_iload_n dX4_ladySide_13 rfl ?_
  refine za_iload_n dX4_ladySide_14 rfl ?_
  refine za_cV2 dX4_ladySide_15 zm_X4_49 zw_X4_lying zv_X4_lying (tc_lying hT hq (by omega)) (by decide) (tn0 hT) rfl rfl (Nat.le_of_ble_eq_true rfl) ?_
  refine za_aload_n dX4_ladySide_18 rfl ?_
  refine za_iload_n dX4_ladySide_19 rfl ?_
  refine za_iload dX4_ladySide_20 rfl ?_
  refine za_cV2 dX4_ladySide_22 zm_X4_49 zw_X4_lying zv_X4_lying (tc_lying hT hq (by omega)) (by decide) (tn0 hT) rfl rfl (Nat.le_of_ble_eq_true rfl) ?_
  refine za_isub dX4_ladySide_25 ?_
  refine za_bipush (nI 20) dX4_ladySide_26 (by decide) ?_
  refine za_icmp_le 36 dX4_ladySide_28 (by decide) (fun c28 => ?_) (fun c28 => ?_)
  · refine za_iload_n dX4_ladySide_36 rfl ?_
    exact za_iret hM dX4_ladySide_37 ⟨by (first | rfl | (unfold p_lady; rw [if_pos (by assumption)]; done) | (unfold p_lady; rw [if_pos (Int32.not_le.mp (by assumption))]; done) | (unfold p_lady; rw [if_neg (by assumption)]; done) | (unfold p_lady; rw [if_neg (Int32.not_lt.mpr (by assumption))]; done)), by (first | rfl | (unfold p_lady; rw [if_pos (by assumption)]; done) | (unfold p_lady; rw [if_pos (Int32.not_le.mp (by assumption))]; done) | (unfold p_lady; rw [if_neg (by assumption)]; done) | (unfold p_lady; rw [if_neg (Int32.not_lt.mpr (by assumption))]; done))⟩
  · refine za_iload dX4_ladySide_31 rfl ?_
    refine za_goto 37 dX4_ladySide_33 (by decide) ?_
    exact za_iret hM dX4_ladySide_37 ⟨by (first | rfl | (unfold p_lady; rw [if_pos (by assumption)]; done) | (unfold p_lady; rw [if_pos (Int32.not_le.mp (by assumption))]; done) | (unfold p_lady; rw [if_neg (by assumption)]; done) | (unfold p_lady; rw [if_neg (Int32.not_lt.mpr (by assumption))]; done)), by (first | rfl | (unfold p_lady; rw [if_pos (by assumption)]; done) | (unfold p_lady; rw [if_pos (Int32.not_le.mp (by assumption))]; done) | (unfold p_lady; rw [if_neg (by assumption)]; done) | (unfold p_lady; rw [if_neg (Int32.not_lt.mpr (by assumption))]; done))⟩

set_option maxRecDepth 20000 in
set_option maxHeartbeats 4000000 in
theorem tc_sideOf {g : zG} {σ : zSto} {τ : zTn} {o : Nat} (hT : zTo o) {p q B : Nat} (hp : p < 8) (hq : q < 6) (hk : zlt (τ 3 p) 6) (hb : zlt (τ 0 2) 2) (hdy : zlt (τ 0 0) B) (hB : B ≤ 2000000) : zEd g 2 yX4_sideOf cX4_sideOf 3 (some .int) [.ref (zad g o), .int (nI p), .int (nI q)] (zpt σ o τ) (some (.int (nI (p_side τ p q)))) (zpt σ o (τ)) := by
  refine zev_intro (own := RX4) (lv := [some (.ref (zad g o)), some (.int (nI p)), some (.int (nI q))]) (by decide +kernel) rfl (Nat.le_of_ble_eq_true rfl) rfl (fun C hM hN => ?_)
  refine za_aload_n dX4_sideOf_0 rfl ?_
  refine za_getR dX4_sideOf_1 zf_X4_31 (tn0 hT) rfl ?_
  refine za_iload_n dX4_sideOf_4 rfl ?_
  refine zt_iald hT (by decide) dX4_sideOf_5 (zv3 hp) ?_
  obtain h3 | h3 | h3 | h3 | h3 | h3 := zlt6' hk
  · rw [h3]
    refine za_tabO 80 dX4_sideOf_6 (by decide) (by decide) ?_
    refine za_aload_n dX4_sideOf_80 rfl ?_
    refine za_iload_n dX4_sideOf_81 rfl ?_
    refine za_iload_n dX4_sideOf_82 rfl ?_
    refine za_cV2 dX4_sideOf_83 zm_X4_63 zw_X4_throwerSide zv_X4_throwerSide (tc_throwerSide hT hp) (by decide) (tn0 hT) rfl rfl (Nat.le_of_ble_eq_true rfl) ?_
    exact za_iret hM dX4_sideOf_86 ⟨by rw [p_side_0 h3], rfl⟩
  · rw [h3]
    refine za_tabK (34) 40 dX4_sideOf_6 (by decide) (by decide) (by decide) (by decide) ?_
    refine za_aload_n dX4_sideOf_40 rfl ?_
    refine za_iload_n dX4_sideOf_41 rfl ?_
    refine za_iload_n dX4_sideOf_42 rfl ?_
    refine za_cV2 dX4_sideOf_43 zm_X4_60 zw_X4_ladySide zv_X4_ladySide (tc_ladySide hT hp hq) (by decide) (tn0 hT) rfl rfl (Nat.le_of_ble_eq_true rfl) ?_
    exact za_iret hM dX4_sideOf_46 ⟨by rw [p_side_1 h3], rfl⟩
  · rw [h3]
    refine za_tabK (41) 47 dX4_sideOf_6 (by decide) (by decide) (by decide) (by decide) ?_
    refine za_aload_n dX4_sideOf_47 rfl ?_
    refine za_getR dX4_sideOf_48 zf_X4_24 (tn0 hT) rfl ?_
    refine za_iload_n dX4_sideOf_51 rfl ?_
    refine zt_iald hT (by decide) dX4_sideOf_52 (zv1 hq) ?_
    refine za_aload_n dX4_sideOf_53 rfl ?_
    refine za_getR dX4_sideOf_54 zf_X4_28 (tn0 hT) rfl ?_
    refine za_iload_n dX4_sideOf_57 rfl ?_
    refine zt_iald hT (by decide) dX4_sideOf_58 (zv2 hq) ?_
    refine za_icmp_gt 66 dX4_sideOf_59 (by decide) (fun c59 => ?_) (fun c59 => ?_)
    · refine za_iconst (nI 1) dX4_sideOf_66 (by decide) ?_
      exact za_iret hM dX4_sideOf_67 ⟨by first | (rw [p_side_2 h3, if_pos (by assumption)]; done) | (rw [p_side_2 h3, if_neg (by assumption)]; done) | (rw [p_side_5 h3, if_pos (by assumption)]; done) | (rw [p_side_5 h3, if_neg (by assumption)]; done), rfl⟩
    · refine za_iconst (nI 0) dX4_sideOf_62 (by decide) ?_
      refine za_goto 67 dX4_sideOf_63 (by decide) ?_
      exact za_iret hM dX4_sideOf_67 ⟨by first | (rw [p_side_2 h3, if_pos (by assumption)]; done) | (rw [p_side_2 h3, if_neg (by assumption)]; done) | (rw [p_side_5 h3, if_pos (by assumption)]; done) | (rw [p_side_5 h3, if_neg (by assumption)]; done), rfl⟩
  · rw [h3]
    refine za_tabK (62) 68 dX4_sideOf_6 (by decide) (by decide) (by decide) (by decide) ?_
    refine za_aload_n dX4_sideOf_68 rfl ?_
    refine zt_getI hT dX4_sideOf_69 zf_X4_9 (by decide) ?_
    refine za_iconst (nI 2) dX4_sideOf_72 (by decide) ?_
    refine za_irem dX4_sideOf_73 (by decide) ?_
    exact za_iret hM dX4_sideOf_74 ⟨by rw [p_side_3 h3, zrem hdy (by omega) (by decide) (by decide)], rfl⟩
  · rw [h3]
    refine za_tabK (69) 75 dX4_sideOf_6 (by decide) (by decide) (by decide) (by decide) ?_
    refine za_aload_n dX4_sideOf_75 rfl ?_
    refine zt_getI hT dX4_sideOf_76 zf_X4_18 (by decide) ?_
    exact za_iret hM dX4_sideOf_79 ⟨by rw [p_side_4 h3, ← (zlt_zn hb (by decide)).1], rfl⟩
  · rw [h3]
    refine za_tabK (41) 47 dX4_sideOf_6 (by decide) (by decide) (by decide) (by decide) ?_
    refine za_aload_n dX4_sideOf_47 rfl ?_
    refine za_getR dX4_sideOf_48 zf_X4_24 (tn0 hT) rfl ?_
    refine za_iload_n dX4_sideOf_51 rfl ?_
    refine zt_iald hT (by decide) dX4_sideOf_52 (zv1 hq) ?_
    refine za_aload_n dX4_sideOf_53 rfl ?_
    refine za_getR dX4_sideOf_54 zf_X4_28 (tn0 hT) rfl ?_
    refine za_iload_n dX4_sideOf_57 rfl ?_
    refine zt_iald hT (by decide) dX4_sideOf_58 (zv2 hq) ?_
    refine za_icmp_gt 66 dX4_sideOf_59 (by decide) (fun c59 => ?_) (fun c59 => ?_)
    · refine za_iconst (nI 1) dX4_sideOf_66 (by decide) ?_
      exact za_iret hM dX4_sideOf_67 ⟨by first | (rw [p_side_2 h3, if_pos (by assumption)]; done) | (rw [p_side_2 h3, if_neg (by assumption)]; done) | (rw [p_side_5 h3, if_pos (by assumption)]; done) | (rw [p_side_5 h3, if_neg (by assumption)]; done), rfl⟩
    · refine za_iconst (nI 0) dX4_sideOf_62 (by decide) ?_
      refine za_goto 67 dX4_sideOf_63 (by decide) ?_
      exact za_iret hM dX4_sideOf_67 ⟨by first | (rw [p_side_2 h3, if_pos (by assumption)]; done) | (rw [p_side_2 h3, if_neg (by assumption)]; done) | (rw [p_side_5 h3, if_pos (by assumption)]; done) | (rw [p_side_5 h3, if_neg (by assumption)]; done), rfl⟩

set_option maxRecDepth 20000 in
set_option maxHeartbeats 4000000 in
theorem tc_throwsOf {g : zG} {σ : zSto} {τ : zTn} {o : Nat} (hT : zTo o) {p : Nat} (hp : p < 8) (hk : zlt (τ 3 p) 6) : zEd g 2 yX4_throwsOf cX4_throwsOf 2 (some .int) [.ref (zad g o), .int (nI p)] (zpt σ o τ) (some (.int (p_thr (τ 3 p) (τ 5 p)))) (zpt σ o (τ)) := by
  refine zev_intro (own := RX4) (lv := [some (.ref (zad g o)), some (.int (nI p))]) (by decide +kernel) rfl (Nat.le_of_ble_eq_true rfl) rfl (fun C hM hN => ?_)
  refine za_aload_n dX4_throwsOf_0 rfl ?_
  refine za_getR dX4_throwsOf_1 zf_X4_31 (tn0 hT) rfl ?_
  refine za_iload_n dX4_throwsOf_4 rfl ?_
  refine zt_iald hT (by decide) dX4_throwsOf_5 (by first | exact zv3 hp | exact zv5 hp) ?_
  refine za_aload_n dX4_throwsOf_6 rfl ?_
  refine za_getR dX4_throwsOf_7 zf_X4_37 (tn0 hT) rfl ?_
  refine za_iload_n dX4_throwsOf_10 rfl ?_
  refine zt_iald hT (by decide) dX4_throwsOf_11 (by first | exact zv3 hp | exact zv5 hp) ?_
  refine za_cS2 dX4_throwsOf_12 zm_X4_66 zw_X0_throwsWith zs_X0_throwsWith (e_throwsWith hk) (by decide) (Nat.le_of_ble_eq_true rfl) ?_
  exact za_iret hM dX4_throwsOf_15 ⟨by rfl, by rfl⟩

set_option maxRecDepth 20000 in
set_option maxHeartbeats 4000000 in
theorem tc_divesOf {g : zG} {σ : zSto} {τ : zTn} {o : Nat} (hT : zTo o) {p q : Nat} (hp : p < 8) (hq : q < 6) (hk : zlt (τ 3 p) 6) : zEd g 2 yX4_divesOf cX4_divesOf 3 (some .int) [.ref (zad g o), .int (nI p), .int (nI q)] (zpt σ o τ) (some (.int (p_div (τ 3 p) (τ 1 q) (τ 2 q)))) (zpt σ o (τ)) := by
  refine zev_intro (own := RX4) (lv := [some (.ref (zad g o)), some (.int (nI p)), some (.int (nI q))]) (by decide +kernel) rfl (Nat.le_of_ble_eq_true rfl) rfl (fun C hM hN => ?_)
  refine za_aload_n dX4_divesOf_0 rfl ?_
  refine za_getR dX4_divesOf_1 zf_X4_31 (tn0 hT) rfl ?_
  refine za_iload_n dX4_divesOf_4 rfl ?_
  refine zt_iald hT (by decide) dX4_divesOf_5 (by first | exact zv3 hp | exact zv1 hq | exact zv2 hq) ?_
  refine za_aload_n dX4_divesOf_6 rfl ?_
  refine za_getR dX4_divesOf_7 zf_X4_24 (tn0 hT) rfl ?_
  refine za_iload_n dX4_divesOf_10 rfl ?_
  refine zt_iald hT (by decide) dX4_divesOf_11 (by first | exact zv3 hp | exact zv1 hq | exact zv2 hq) ?_
  refine za_aload_n dX4_divesOf_12 rfl ?_
  refine za_getR dX4_divesOf_13 zf_X4_28 (tn0 hT) rfl ?_
  refine za_iload_n dX4_divesOf_16 rfl ?_
  refine zt_iald hT (by decide) dX4_divesOf_17 (by first | exact zv3 hp | exact zv1 hq | exact zv2 hq) ?_
  refine za_cS3 dX4_divesOf_18 zm_X4_71 zw_X0_dives zs_X0_dives (e_dives hk) (by decide) (Nat.le_of_ble_eq_true rfl) ?_
  exact za_iret hM dX4_divesOf_21 ⟨by rfl, by rfl⟩

set_option maxRecDepth 20000 in
set_option maxHeartbeats 4000000 in
theorem tc_allLying {g : zG} {σ : zSto} {τ : zTn} {o : Nat} (hT : zTo o) {s : Nat} (hs : s < 2) : zEd g 1 yX4_allLying cX4_allLying 4 (some .int) [.ref (zad g o), .int (nI s)] (zpt σ o τ) (some (.int (p_sum (τ (1 + s)) 6))) (zpt σ o (τ)) := by
  refine zev_intro (own := RX4) (lv := [some (.ref (zad g o)), some (.int (nI s)), none, none]) (by decide +kernel) rfl (Nat.le_of_ble_eq_true rfl) rfl (fun C hM hN => ?_)
  have hloop : ∀ (m : Nat) (j : Nat), j + m = 6 → zAW g C 1 cX4_allLying RX4 4 [some (.ref (zad g o)), some (.int (nI s)), some (.int (p_sum (τ (1 + s)) j)), some (.int (nI j))] [] (zpt σ o τ) := by
    intro m
    induction m with
    | zero =>
      intro j hj
      obtain rfl : j = 6 := by omega
      refine za_iload_n dX4_allLying_4 rfl ?_
      refine za_bipush (nI 6) dX4_allLying_5 (by decide) ?_
      refine za_icmp_ge 25 dX4_allLying_7 (by decide) (fun c7 => ?_) (fun c7 => absurd (by decide) c7)
      refine za_iload_n dX4_allLying_25 rfl ?_
      exact za_iret hM dX4_allLying_26 ⟨by rfl, by rfl⟩
    | succ m ih =>
      intro j hj
      refine za_iload_n dX4_allLying_4 rfl ?_
      refine za_bipush (nI 6) dX4_allLying_5 (by decide) ?_
      refine za_icmp_ge 25 dX4_allLying_7 (by decide) (fun c7 => absurd c7 (nI_ge (show j < 6 by omega) (by decide))) (fun c7 => ?_)
      refine za_iload_n dX4_allLying_10 rfl ?_
      refine za_aload_n dX4_allLying_11 rfl ?_
      refine za_iload_n dX4_allLying_12 rfl ?_
      refine za_iload_n dX4_allLying_13 rfl ?_
      refine za_cV2 dX4_allLying_14 zm_X4_49 zw_X4_lying zv_X4_lying (tc_lying hT (by omega) hs) (by decide) (tn0 hT) rfl rfl (Nat.le_of_ble_eq_true rfl) ?_
      refine za_iadd dX4_allLying_17 ?_
      refine za_istore_n (lv' := [_, _, _, _]) dX4_allLying_18 hN (by decide) rfl ?_
      refine za_iinc (nI (_ + 1)) (lv' := [_, _, _, _]) dX4_allLying_19 rfl hN (by decide) (znext _) rfl ?_
      refine za_goto 4 dX4_allLying_22 (by decide) ?_
      exact ih (j + 1) (by omega)
  refine za_iconst (nI 0) dX4_allLying_0 (by decide) ?_
  refine za_istore_n (lv' := [_, _, _, _]) dX4_allLying_1 hN (by decide) rfl ?_
  refine za_iconst (nI 0) dX4_allLying_2 (by decide) ?_
  refine za_istore_n (lv' := [_, _, _, _]) dX4_allLying_3 hN (by decide) rfl ?_
  exact hloop 6 0 rfl

set_option maxRecDepth 20000 in
set_option maxHeartbeats 4000000 in
theorem tc_allPence {g : zG} {σ : zSto} {τ : zTn} {o : Nat} (hT : zTo o) {n : Nat} (h8 : n < 9) (hn : τ 0 3 = nI n) : zEd g 0 yX4_allPence cX4_allPence 3 (some .int) [.ref (zad g o)] (zpt σ o τ) (some (.int (p_sum (τ 5) n))) (zpt σ o (τ)) := by
  refine zev_intro (own := RX4) (lv := [some (.ref (zad g o)), none, none]) (by decide +kernel) rfl (Nat.le_of_ble_eq_true rfl) rfl (fun C hM hN => ?_)
  have hloop : ∀ (m : Nat) (j : Nat), j + m = n → zAW g C 0 cX4_allPence RX4 4 [some (.ref (zad g o)), some (.int (p_sum (τ 5) j)), some (.int (nI j))] [] (zpt σ o τ) := by
    intro m
    induction m with
    | zero =>
      intro j hj
      obtain rfl : j = n := by omega
      refine za_iload_n dX4_allPence_4 rfl ?_
      refine za_aload_n dX4_allPence_5 rfl ?_
      refine zt_getI hT dX4_allPence_6 zf_X4_21 (by decide) ?_
      rw [hn]
      refine za_icmp_ge 27 dX4_allPence_9 (by decide) (fun c9 => ?_) (fun c9 => absurd (nI_le (Nat.le_refl _) (by omega)) c9)
      refine za_iload_n dX4_allPence_27 rfl ?_
      exact za_iret hM dX4_allPence_28 ⟨by rfl, by rfl⟩
    | succ m ih =>
      intro j hj
      refine za_iload_n dX4_allPence_4 rfl ?_
      refine za_aload_n dX4_allPence_5 rfl ?_
      refine zt_getI hT dX4_allPence_6 zf_X4_21 (by decide) ?_
      rw [hn]
      refine za_icmp_ge 27 dX4_allPence_9 (by decide) (fun c9 => absurd c9 (nI_ge (show j < n by omega) (by omega))) (fun c9 => ?_)
      refine za_iload_n dX4_allPence_12 rfl ?_
      refine za_aload_n dX4_allPence_13 rfl ?_
      refine za_getR dX4_allPence_14 zf_X4_37 (tn0 hT) rfl ?_
      refine za_iload_n dX4_allPence_17 rfl ?_
      refine zt_iald hT (by decide) dX4_allPence_18 (zv5 (by omega)) ?_
      refine za_iadd dX4_allPence_19 ?_
      refine za_istore_n (lv' := [_, _, _]) dX4_allPence_20 hN (by decide) rfl ?_
      refine za_iinc (nI (_ + 1)) (lv' := [_, _, _]) dX4_allPence_21 rfl hN (by decide) (znext _) rfl ?_
      refine za_goto 4 dX4_allPence_24 (by decide) ?_
      exact ih (j + 1) (by omega)
  refine za_iconst (nI 0) dX4_allPence_0 (by decide) ?_
  refine za_istore_n (lv' := [_, _, _]) dX4_allPence_1 hN (by decide) rfl ?_
  refine za_iconst (nI 0) dX4_allPence_2 (by decide) ?_
  refine za_istore_n (lv' := [_, _, _]) dX4_allPence_3 hN (by decide) rfl ?_
  exact hloop n 0 (by omega)

theorem p_lf_1 {τ : zTn} {n : Nat} (h1 : τ 6 n = 0) (h2 : p_side τ n (p_q τ) = 0) : p_lf τ (n + 1) = p_lf τ n ||| p_bit n := if_pos ⟨h1, h2⟩
theorem p_lf_0 {τ : zTn} {n : Nat} (h : ¬ (τ 6 n = 0 ∧ p_side τ n (p_q τ) = 0)) : p_lf τ (n + 1) = p_lf τ n := if_neg h
theorem zz0 {a : Nat} (h : nI a = 0) (ha : a < 1000000) : a = 0 := (nI_eq (a := a) (b := 0) (by omega) (by decide)).mp h
theorem zz1 {a : Nat} (h : ¬ nI a = 0) : ¬ a = 0 := fun q => h (by rw [q]; rfl)

set_option maxRecDepth 20000 in
set_option maxHeartbeats 4000000 in
theorem tc_thoseForLeft {g : zG} {σ : zSto} {τ : zTn} {o : Nat} (hT : zTo o) {n B : Nat} (h8 : n < 9) (hn : τ 0 3 = nI n) (hI : zTI B τ) (hB : B ≤ 2000000) : zEd g 3 yX4_thoseForLeft cX4_thoseForLeft 3 (some .int) [.ref (zad g o)] (zpt σ o τ) (some (.int (p_lf τ n))) (zpt σ o (τ)) := by
  refine zev_intro (own := RX4) (lv := [some (.ref (zad g o)), none, none]) (by decide +kernel) rfl (Nat.le_of_ble_eq_true rfl) rfl (fun C hM hN => ?_)
  have hloop : ∀ (m : Nat) (j : Nat), j + m = n → zAW g C 3 cX4_thoseForLeft RX4 4 [some (.ref (zad g o)), some (.int (p_lf τ j)), some (.int (nI j))] [] (zpt σ o τ) := by
    intro m
    induction m with
    | zero =>
      intro j hj
      obtain rfl : j = n := by omega
      refine za_iload_n dX4_thoseForLeft_4 rfl ?_
      refine za_aload_n dX4_thoseForLeft_5 rfl ?_
      refine zt_getI hT dX4_thoseForLeft_6 zf_X4_21 (by decide) ?_
      rw [hn]
      refine za_icmp_ge 45 dX4_thoseForLeft_9 (by decide) (fun c9 => ?_) (fun c9 => absurd (nI_le (Nat.le_refl _) (by omega)) c9)
      refine za_iload_n dX4_thoseForLeft_45 rfl ?_
      exact za_iret hM dX4_thoseForLeft_46 ⟨by rfl, by rfl⟩
    | succ m ih =>
      intro j hj
      refine za_iload_n dX4_thoseForLeft_4 rfl ?_
      refine za_aload_n dX4_thoseForLeft_5 rfl ?_
      refine zt_getI hT dX4_thoseForLeft_6 zf_X4_21 (by decide) ?_
      rw [hn]
      refine za_icmp_ge 45 dX4_thoseForLeft_9 (by decide) (fun c9 => absurd c9 (nI_ge (show j < n by omega) (by omega))) (fun c9 => ?_)
      refine za_aload_n dX4_thoseForLeft_12 rfl ?_
      refine za_getR dX4_thoseForLeft_13 zf_X4_40 (tn0 hT) rfl ?_
      refine za_iload_n dX4_thoseForLeft_16 rfl ?_
      refine zt_iald hT (by decide) dX4_thoseForLeft_17 (zv6 (by omega)) ?_
      refine za_if_ne 39 dX4_thoseForLeft_18 (by decide) (fun c18 => ?_) (fun c18 => ?_)
      · refine za_iinc (nI (_ + 1)) (lv' := [_, _, _]) dX4_thoseForLeft_39 rfl hN (by decide) (znext _) rfl ?_
        refine za_goto 4 dX4_thoseForLeft_42 (by decide) ?_
        have hh := ih (j + 1) (by omega)
        first
          | (rw [p_lf_1 (by assumption) (zz0 (by assumption) (by have := p_side_lt (τ := τ) (p := j) (q := p_q τ) hI.2.2.1; omega))] at hh; exact hh)
          | (rw [p_lf_0 (fun z => absurd z.1 (by assumption))] at hh; exact hh)
          | (rw [p_lf_0 (fun z => absurd z.2 (zz1 (by assumption)))] at hh; exact hh)
      · refine za_aload_n dX4_thoseForLeft_21 rfl ?_
        refine za_iload_n dX4_thoseForLeft_22 rfl ?_
        refine za_aload_n dX4_thoseForLeft_23 rfl ?_
        refine za_cV0 dX4_thoseForLeft_24 zm_X4_53 zw_X4_questionOfDay zv_X4_questionOfDay (tc_questionOfDay hT hI.1 hB) (by decide) (tn0 hT) rfl rfl (Nat.le_of_ble_eq_true rfl) ?_
        refine za_cV2 dX4_thoseForLeft_27 zm_X4_57 zw_X4_sideOf zv_X4_sideOf (tc_sideOf hT (by omega) p_q_lt (hI.2.2.2.2.2.2.1 j (by omega)) hI.2.2.1 hI.1 hB) (by decide) (tn0 hT) rfl rfl (Nat.le_of_ble_eq_true rfl) ?_
        refine za_if_ne 39 dX4_thoseForLeft_30 (by decide) (fun c30 => ?_) (fun c30 => ?_)
        · refine za_iinc (nI (_ + 1)) (lv' := [_, _, _]) dX4_thoseForLeft_39 rfl hN (by decide) (znext _) rfl ?_
          refine za_goto 4 dX4_thoseForLeft_42 (by decide) ?_
          have hh := ih (j + 1) (by omega)
          first
            | (rw [p_lf_1 (by assumption) (zz0 (by assumption) (by have := p_side_lt (τ := τ) (p := j) (q := p_q τ) hI.2.2.1; omega))] at hh; exact hh)
            | (rw [p_lf_0 (fun z => absurd z.1 (by assumption))] at hh; exact hh)
            | (rw [p_lf_0 (fun z => absurd z.2 (zz1 (by assumption)))] at hh; exact hh)
        · refine za_iload_n dX4_thoseForLeft_33 rfl ?_
          refine za_iconst (nI 1) dX4_thoseForLeft_34 (by decide) ?_
          refine za_iload_n dX4_thoseForLeft_35 rfl ?_
          refine za_ishl dX4_thoseForLeft_36 ?_
          refine za_ior dX4_thoseForLeft_37 ?_
          refine za_istore_n (lv' := [_, _, _]) dX4_thoseForLeft_38 hN (by decide) rfl ?_
          refine za_iinc (nI (_ + 1)) (lv' := [_, _, _]) dX4_thoseForLeft_39 rfl hN (by decide) (znext _) rfl ?_
          refine za_goto 4 dX4_thoseForLeft_42 (by decide) ?_
          have hh := ih (j + 1) (by omega)
          first
            | (rw [p_lf_1 (by assumption) (zz0 (by assumption) (by have := p_side_lt (τ := τ) (p := j) (q := p_q τ) hI.2.2.1; omega))] at hh; exact hh)
            | (rw [p_lf_0 (fun z => absurd z.1 (by assumption))] at hh; exact hh)
            | (rw [p_lf_0 (fun z => absurd z.2 (zz1 (by assumption)))] at hh; exact hh)
  refine za_iconst (nI 0) dX4_thoseForLeft_0 (by decide) ?_
  refine za_istore_n (lv' := [_, _, _]) dX4_thoseForLeft_1 hN (by decide) rfl ?_
  refine za_iconst (nI 0) dX4_thoseForLeft_2 (by decide) ?_
  refine za_istore_n (lv' := [_, _, _]) dX4_thoseForLeft_3 hN (by decide) rfl ?_
  exact hloop n 0 (by omega)

set_option maxRecDepth 20000 in
set_option maxHeartbeats 4000000 in
theorem tc_visit {g : zG} {σ : zSto} {τ : zTn} {o : Nat} (hT : zTo o) {p q B : Nat} (hp : p < 8) (hq : q < 6) (hk : zlt (τ 3 p) 6) (hb : zlt (τ 0 2) 2) (hdy : zlt (τ 0 0) B) (hB : B ≤ 2000000) : zEd g 3 yX4_visit cX4_visit 7 none [.ref (zad g o), .int (nI p), .int (nI q)] (zpt σ o τ) none (zpt σ o (p_visit τ p q)) := by
  refine zev_intro (own := RX4) (lv := [some (.ref (zad g o)), some (.int (nI p)), some (.int (nI q)), none, none, none, none]) (by decide +kernel) rfl (Nat.le_of_ble_eq_true rfl) rfl (fun C hM hN => ?_)
  have hs : p_side (p_v1 τ p) p q < 2 := p_side_lt hb
  have hk3 : zlt (p_v13 (p_v1 τ p) p q 3 p) 6 := by
    unfold p_v13 p_v3 p_v2
    rw [zup_ne _ _ (fun z => by omega), zup_ne _ _ (fun z => by omega)]
    exact hk
  refine za_aload_n dX4_visit_0 rfl ?_
  refine za_getR dX4_visit_1 zf_X4_37 (tn0 hT) rfl ?_
  refine za_iload_n dX4_visit_4 rfl ?_
  refine za_aload_n dX4_visit_5 rfl ?_
  refine za_getR dX4_visit_6 zf_X4_37 (tn0 hT) rfl ?_
  refine za_iload_n dX4_visit_9 rfl ?_
  refine zt_iald hT (by decide) dX4_visit_10 (by first | exact zv5 hp | exact zv3 hp | exact zv1 hq | exact zv2 hq) ?_
  refine za_aload_n dX4_visit_11 rfl ?_
  refine za_getR dX4_visit_12 zf_X4_31 (tn0 hT) rfl ?_
  refine za_iload_n dX4_visit_15 rfl ?_
  refine zt_iald hT (by decide) dX4_visit_16 (by first | exact zv5 hp | exact zv3 hp | exact zv1 hq | exact zv2 hq) ?_
  refine za_cS1 dX4_visit_17 zm_X4_86 zw_X0_earns zs_X0_earns (e_earns hk) (by decide) (Nat.le_of_ble_eq_true rfl) ?_
  refine za_iadd dX4_visit_20 ?_
  refine za_sipush (nI 9999) dX4_visit_21 (by decide) ?_
  refine za_mmin dX4_visit_24 zm_X4_90 (by decide) (Nat.le_of_ble_eq_true rfl) ?_
  refine zt_iast hT (by decide) dX4_visit_27 (by first | exact zv5 hp | exact zv3 hp | exact zv1 hq | exact zv2 hq) ?_
  refine za_aload_n dX4_visit_28 rfl ?_
  refine za_iload_n dX4_visit_29 rfl ?_
  refine za_cV1 dX4_visit_30 zm_X4_95 zw_X4_throwsOf zv_X4_throwsOf (tc_throwsOf hT hp hk) (by decide) (tn0 hT) rfl rfl (Nat.le_of_ble_eq_true rfl) ?_
  refine za_istore_n (lv' := [_, _, _, _, _, _, _]) dX4_visit_33 hN (by decide) rfl ?_
  refine za_aload_n dX4_visit_34 rfl ?_
  refine za_iload_n dX4_visit_35 rfl ?_
  refine za_iload_n dX4_visit_36 rfl ?_
  refine za_cV2 dX4_visit_37 zm_X4_57 zw_X4_sideOf zv_X4_sideOf (tc_sideOf hT hp hq hk hb hdy hB) (by decide) (tn0 hT) rfl rfl (Nat.le_of_ble_eq_true rfl) ?_
  refine za_istore (lv' := [_, _, _, _, _, _, _]) dX4_visit_40 hN (by decide) rfl ?_
  refine za_aload_n dX4_visit_42 rfl ?_
  refine za_iload_n dX4_visit_43 rfl ?_
  refine za_iload dX4_visit_44 rfl ?_
  refine za_aload_n dX4_visit_46 rfl ?_
  refine za_iload_n dX4_visit_47 rfl ?_
  refine za_iload dX4_visit_48 rfl ?_
  refine za_cV2 dX4_visit_50 zm_X4_49 zw_X4_lying zv_X4_lying (tc_lying hT hq hs) (by decide) (tn0 hT) rfl rfl (Nat.le_of_ble_eq_true rfl) ?_
  refine za_iload_n dX4_visit_53 rfl ?_
  refine za_iadd dX4_visit_54 ?_
  refine za_sipush (nI 9999) dX4_visit_55 (by decide) ?_
  refine za_mmin dX4_visit_58 zm_X4_90 (by decide) (Nat.le_of_ble_eq_true rfl) ?_
  refine za_cV3v dX4_visit_61 zm_X4_98 zw_X4_lay zv_X4_lay (tc_lay hT hq hs) (by decide) (tn0 hT) rfl rfl (Nat.le_of_ble_eq_true rfl) ?_
  refine za_aload_n dX4_visit_64 rfl ?_
  refine za_getR dX4_visit_65 zf_X4_37 (tn0 hT) rfl ?_
  refine za_iload_n dX4_visit_68 rfl ?_
  refine za_dup2 dX4_visit_69 rfl rfl ?_
  refine zt_iald hT (by decide) dX4_visit_70 (by first | exact zv5 hp | exact zv3 hp | exact zv1 hq | exact zv2 hq) ?_
  refine za_iload_n dX4_visit_71 rfl ?_
  refine za_isub dX4_visit_72 ?_
  refine zt_iast hT (by decide) dX4_visit_73 (by first | exact zv5 hp | exact zv3 hp | exact zv1 hq | exact zv2 hq) ?_
  refine za_aload_n dX4_visit_74 rfl ?_
  refine za_iload_n dX4_visit_75 rfl ?_
  refine za_iload_n dX4_visit_76 rfl ?_
  refine za_cV2 dX4_visit_77 zm_X4_102 zw_X4_divesOf zv_X4_divesOf (tc_divesOf hT hp hq hk3) (by decide) (tn0 hT) rfl rfl (Nat.le_of_ble_eq_true rfl) ?_
  refine za_istore (lv' := [_, _, _, _, _, _, _]) dX4_visit_80 hN (by decide) rfl ?_
  refine za_aload_n dX4_visit_82 rfl ?_
  refine za_getR dX4_visit_83 zf_X4_24 (tn0 hT) rfl ?_
  refine za_iload_n dX4_visit_86 rfl ?_
  refine zt_iald hT (by decide) dX4_visit_87 (by first | exact zv5 hp | exact zv3 hp | exact zv1 hq | exact zv2 hq) ?_
  refine za_aload_n dX4_visit_88 rfl ?_
  refine za_getR dX4_visit_89 zf_X4_28 (tn0 hT) rfl ?_
  refine za_iload_n dX4_visit_92 rfl ?_
  refine zt_iald hT (by decide) dX4_visit_93 (by first | exact zv5 hp | exact zv3 hp | exact zv1 hq | exact zv2 hq) ?_
  refine za_icmp_lt 101 dX4_visit_94 (by decide) (fun c94 => ?_) (fun c94 => ?_)
  · have hf : p_full (p_v13 (p_v1 τ p) p q) q = 1 := if_pos c94
    refine za_iconst (nI 1) dX4_visit_101 (by decide) ?_
    refine za_istore (lv' := [_, _, _, _, _, _, _]) dX4_visit_102 hN (by decide) rfl ?_
    refine za_aload_n dX4_visit_104 rfl ?_
    refine za_iload_n dX4_visit_105 rfl ?_
    refine za_iload dX4_visit_106 rfl ?_
    refine za_aload_n dX4_visit_108 rfl ?_
    refine za_iload_n dX4_visit_109 rfl ?_
    refine za_iload dX4_visit_110 rfl ?_
    refine za_cV2 dX4_visit_112 zm_X4_49 zw_X4_lying zv_X4_lying (tc_lying hT hq (by decide)) (by decide) (tn0 hT) rfl rfl (Nat.le_of_ble_eq_true rfl) ?_
    refine za_iload dX4_visit_115 rfl ?_
    refine za_isub dX4_visit_117 ?_
    refine za_cV3v dX4_visit_118 zm_X4_98 zw_X4_lay zv_X4_lay (tc_lay hT hq (by decide)) (by decide) (tn0 hT) rfl rfl (Nat.le_of_ble_eq_true rfl) ?_
    refine za_aload_n dX4_visit_121 rfl ?_
    refine za_getR dX4_visit_122 zf_X4_37 (tn0 hT) rfl ?_
    refine za_iload_n dX4_visit_125 rfl ?_
    refine za_aload_n dX4_visit_126 rfl ?_
    refine za_getR dX4_visit_127 zf_X4_37 (tn0 hT) rfl ?_
    refine za_iload_n dX4_visit_130 rfl ?_
    refine zt_iald hT (by decide) dX4_visit_131 (by first | exact zv5 hp | exact zv3 hp | exact zv1 hq | exact zv2 hq) ?_
    refine za_iload dX4_visit_132 rfl ?_
    refine za_iadd dX4_visit_134 ?_
    refine za_sipush (nI 9999) dX4_visit_135 (by decide) ?_
    refine za_mmin dX4_visit_138 zm_X4_90 (by decide) (Nat.le_of_ble_eq_true rfl) ?_
    refine zt_iast hT (by decide) dX4_visit_141 (by first | exact zv5 hp | exact zv3 hp | exact zv1 hq | exact zv2 hq) ?_
    exact za_vret hM dX4_visit_142 ⟨rfl, by unfold p_visit p_v35 p_v5 p_v4; rw [hf]; rfl⟩
  · have hf : p_full (p_v13 (p_v1 τ p) p q) q = 0 := if_neg c94
    refine za_iconst (nI 0) dX4_visit_97 (by decide) ?_
    refine za_goto 102 dX4_visit_98 (by decide) ?_
    refine za_istore (lv' := [_, _, _, _, _, _, _]) dX4_visit_102 hN (by decide) rfl ?_
    refine za_aload_n dX4_visit_104 rfl ?_
    refine za_iload_n dX4_visit_105 rfl ?_
    refine za_iload dX4_visit_106 rfl ?_
    refine za_aload_n dX4_visit_108 rfl ?_
    refine za_iload_n dX4_visit_109 rfl ?_
    refine za_iload dX4_visit_110 rfl ?_
    refine za_cV2 dX4_visit_112 zm_X4_49 zw_X4_lying zv_X4_lying (tc_lying hT hq (by decide)) (by decide) (tn0 hT) rfl rfl (Nat.le_of_ble_eq_true rfl) ?_
    refine za_iload dX4_visit_115 rfl ?_
    refine za_isub dX4_visit_117 ?_
    refine za_cV3v dX4_visit_118 zm_X4_98 zw_X4_lay zv_X4_lay (tc_lay hT hq (by decide)) (by decide) (tn0 hT) rfl rfl (Nat.le_of_ble_eq_true rfl) ?_
    refine za_aload_n dX4_visit_121 rfl ?_
    refine za_getR dX4_visit_122 zf_X4_37 (tn0 hT) rfl ?_
    refine za_iload_n dX4_visit_125 rfl ?_
    refine za_aload_n dX4_visit_126 rfl ?_
    refine za_getR dX4_visit_127 zf_X4_37 (tn0 hT) rfl ?_
    refine za_iload_n dX4_visit_130 rfl ?_
    refine zt_iald hT (by decide) dX4_visit_131 (by first | exact zv5 hp | exact zv3 hp | exact zv1 hq | exact zv2 hq) ?_
    refine za_iload dX4_visit_132 rfl ?_
    refine za_iadd dX4_visit_134 ?_
    refine za_sipush (nI 9999) dX4_visit_135 (by decide) ?_
    refine za_mmin dX4_visit_138 zm_X4_90 (by decide) (Nat.le_of_ble_eq_true rfl) ?_
    refine zt_iast hT (by decide) dX4_visit_141 (by first | exact zv5 hp | exact zv3 hp | exact zv1 hq | exact zv2 hq) ?_
    exact za_vret hM dX4_visit_142 ⟨rfl, by unfold p_visit p_v35 p_v5 p_v4; rw [hf]; rfl⟩

theorem p_hold_1 {τ : zTn} {q : Nat} (h : τ 2 q < τ 1 q) : p_hold τ q = τ 0 1 ||| p_bit q := if_pos h
theorem p_hold_2 {τ : zTn} {q : Nat} (h : τ 1 q < τ 2 q) : p_hold τ q = τ 0 1 &&& (p_bit q ^^^ (-1)) := by
  unfold p_hold
  rw [if_neg (Int32.lt_asymm h), if_pos h]
theorem p_hold_3 {τ : zTn} {q : Nat} (h1 : ¬ τ 2 q < τ 1 q) (h2 : ¬ τ 1 q < τ 2 q) : p_hold τ q = τ 0 1 := by
  unfold p_hold
  rw [if_neg h1, if_neg h2]

set_option maxRecDepth 20000 in
set_option maxHeartbeats 4000000 in
theorem tc_net {g : zG} {σ : zSto} {τ : zTn} {o : Nat} (hT : zTo o) {q : Nat} (hq : q < 6) : zEd g 0 yX4_net cX4_net 2 none [.ref (zad g o), .int (nI q)] (zpt σ o τ) none (zpt σ o (p_net τ q)) := by
  refine zev_intro (own := RX4) (lv := [some (.ref (zad g o)), some (.int (nI q))]) (by decide +kernel) rfl (Nat.le_of_ble_eq_true rfl) rfl (fun C hM hN => ?_)
  refine za_aload_n dX4_net_0 rfl ?_
  refine za_getR dX4_net_1 zf_X4_24 (tn0 hT) rfl ?_
  refine za_iload_n dX4_net_4 rfl ?_
  refine zt_iald hT (by decide) dX4_net_5 (by first | exact zv1 hq | exact zv2 hq) ?_
  refine za_aload_n dX4_net_6 rfl ?_
  refine za_getR dX4_net_7 zf_X4_28 (tn0 hT) rfl ?_
  refine za_iload_n dX4_net_10 rfl ?_
  refine zt_iald hT (by decide) dX4_net_11 (by first | exact zv1 hq | exact zv2 hq) ?_
  refine za_icmp_le 30 dX4_net_12 (by decide) (fun c12 => ?_) (fun c12 => ?_)
  · refine za_aload_n dX4_net_30 rfl ?_
    refine za_getR dX4_net_31 zf_X4_24 (tn0 hT) rfl ?_
    refine za_iload_n dX4_net_34 rfl ?_
    refine zt_iald hT (by decide) dX4_net_35 (by first | exact zv1 hq | exact zv2 hq) ?_
    refine za_aload_n dX4_net_36 rfl ?_
    refine za_getR dX4_net_37 zf_X4_28 (tn0 hT) rfl ?_
    refine za_iload_n dX4_net_40 rfl ?_
    refine zt_iald hT (by decide) dX4_net_41 (by first | exact zv1 hq | exact zv2 hq) ?_
    refine za_icmp_ge 59 dX4_net_42 (by decide) (fun c42 => ?_) (fun c42 => ?_)
    · refine za_aload_n dX4_net_59 rfl ?_
      refine za_getR dX4_net_60 zf_X4_24 (tn0 hT) rfl ?_
      refine za_iload_n dX4_net_63 rfl ?_
      refine za_dup2 dX4_net_64 rfl rfl ?_
      refine zt_iald hT (by decide) dX4_net_65 (by first | exact zv1 hq | exact zv2 hq) ?_
      refine za_iconst (nI 2) dX4_net_66 (by decide) ?_
      refine za_idiv dX4_net_67 (by decide) ?_
      refine zt_iast hT (by decide) dX4_net_68 (by first | exact zv1 hq | exact zv2 hq) ?_
      refine za_aload_n dX4_net_69 rfl ?_
      refine za_getR dX4_net_70 zf_X4_28 (tn0 hT) rfl ?_
      refine za_iload_n dX4_net_73 rfl ?_
      refine za_dup2 dX4_net_74 rfl rfl ?_
      refine zt_iald hT (by decide) dX4_net_75 (by first | exact zv1 hq | exact zv2 hq) ?_
      refine za_iconst (nI 2) dX4_net_76 (by decide) ?_
      refine za_idiv dX4_net_77 (by decide) ?_
      refine zt_iast hT (by decide) dX4_net_78 (by first | exact zv1 hq | exact zv2 hq) ?_
      exact za_vret hM dX4_net_79 ⟨rfl, by first | (unfold p_net; rw [p_hold_1 (Int32.not_le.mp c12)]; rfl) | (unfold p_net; rw [p_hold_2 (Int32.not_le.mp c42)]; rfl) | (unfold p_net; rw [p_hold_3 (Int32.not_lt.mpr c12) (Int32.not_lt.mpr c42), zup_self]; rfl)⟩
    · refine za_aload_n dX4_net_45 rfl ?_
      refine za_dup dX4_net_46 rfl ?_
      refine zt_getI hT dX4_net_47 zf_X4_15 (by decide) ?_
      refine za_iconst (nI 1) dX4_net_50 (by decide) ?_
      refine za_iload_n dX4_net_51 rfl ?_
      refine za_ishl dX4_net_52 ?_
      refine za_iconst (-1) dX4_net_53 (by decide) ?_
      refine za_ixor dX4_net_54 ?_
      refine za_iand dX4_net_55 ?_
      refine zt_putI hT dX4_net_56 zf_X4_15 zp_X4_1 (by decide) ?_
      refine za_aload_n dX4_net_59 rfl ?_
      refine za_getR dX4_net_60 zf_X4_24 (tn0 hT) rfl ?_
      refine za_iload_n dX4_net_63 rfl ?_
      refine za_dup2 dX4_net_64 rfl rfl ?_
      refine zt_iald hT (by decide) dX4_net_65 (by first | exact zv1 hq | exact zv2 hq) ?_
      refine za_iconst (nI 2) dX4_net_66 (by decide) ?_
      refine za_idiv dX4_net_67 (by decide) ?_
      refine zt_iast hT (by decide) dX4_net_68 (by first | exact zv1 hq | exact zv2 hq) ?_
      refine za_aload_n dX4_net_69 rfl ?_
      refine za_getR dX4_net_70 zf_X4_28 (tn0 hT) rfl ?_
      refine za_iload_n dX4_net_73 rfl ?_
      refine za_dup2 dX4_net_74 rfl rfl ?_
      refine zt_iald hT (by decide) dX4_net_75 (by first | exact zv1 hq | exact zv2 hq) ?_
      refine za_iconst (nI 2) dX4_net_76 (by decide) ?_
      refine za_idiv dX4_net_77 (by decide) ?_
      refine zt_iast hT (by decide) dX4_net_78 (by first | exact zv1 hq | exact zv2 hq) ?_
      exact za_vret hM dX4_net_79 ⟨rfl, by first | (unfold p_net; rw [p_hold_1 (Int32.not_le.mp c12)]; rfl) | (unfold p_net; rw [p_hold_2 (Int32.not_le.mp c42)]; rfl) | (unfold p_net; rw [p_hold_3 (Int32.not_lt.mpr c12) (Int32.not_lt.mpr c42), zup_self]; rfl)⟩
  · refine za_aload_n dX4_net_15 rfl ?_
    refine za_dup dX4_net_16 rfl ?_
    refine zt_getI hT dX4_net_17 zf_X4_15 (by decide) ?_
    refine za_iconst (nI 1) dX4_net_20 (by decide) ?_
    refine za_iload_n dX4_net_21 rfl ?_
    refine za_ishl dX4_net_22 ?_
    refine za_ior dX4_net_23 ?_
    refine zt_putI hT dX4_net_24 zf_X4_15 zp_X4_1 (by decide) ?_
    refine za_goto 59 dX4_net_27 (by decide) ?_
    refine za_aload_n dX4_net_59 rfl ?_
    refine za_getR dX4_net_60 zf_X4_24 (tn0 hT) rfl ?_
    refine za_iload_n dX4_net_63 rfl ?_
    refine za_dup2 dX4_net_64 rfl rfl ?_
    refine zt_iald hT (by decide) dX4_net_65 (by first | exact zv1 hq | exact zv2 hq) ?_
    refine za_iconst (nI 2) dX4_net_66 (by decide) ?_
    refine za_idiv dX4_net_67 (by decide) ?_
    refine zt_iast hT (by decide) dX4_net_68 (by first | exact zv1 hq | exact zv2 hq) ?_
    refine za_aload_n dX4_net_69 rfl ?_
    refine za_getR dX4_net_70 zf_X4_28 (tn0 hT) rfl ?_
    refine za_iload_n dX4_net_73 rfl ?_
    refine za_dup2 dX4_net_74 rfl rfl ?_
    refine zt_iald hT (by decide) dX4_net_75 (by first | exact zv1 hq | exact zv2 hq) ?_
    refine za_iconst (nI 2) dX4_net_76 (by decide) ?_
    refine za_idiv dX4_net_77 (by decide) ?_
    refine zt_iast hT (by decide) dX4_net_78 (by first | exact zv1 hq | exact zv2 hq) ?_
    exact za_vret hM dX4_net_79 ⟨rfl, by first | (unfold p_net; rw [p_hold_1 (Int32.not_le.mp c12)]; rfl) | (unfold p_net; rw [p_hold_2 (Int32.not_le.mp c42)]; rfl) | (unfold p_net; rw [p_hold_3 (Int32.not_lt.mpr c12) (Int32.not_lt.mpr c42), zup_self]; rfl)⟩

theorem p_vis_1 {τ : zTn} {q n : Nat} (h : p_vis τ q n 6 n = 0) : p_vis τ q (n + 1) = p_visit (p_vis τ q n) n q := if_pos h
theorem p_vis_n {τ : zTn} {q n : Nat} (h : ¬ p_vis τ q n 6 n = 0) : p_vis τ q (n + 1) = p_vis τ q n := if_neg h

set_option maxRecDepth 20000 in
set_option maxHeartbeats 4000000 in
theorem tc_goDay {g : zG} {σ : zSto} {τ : zTn} {o : Nat} (hT : zTo o) {B : Nat} (hI : zTI B τ) (hB : B ≤ 2000000) : zEd g 4 yX4_goDay cX4_goDay 3 none [.ref (zad g o)] (zpt σ o τ) none (zpt σ o (p_day τ)) := by
  refine zev_intro (own := RX4) (lv := [some (.ref (zad g o)), none, none]) (by decide +kernel) rfl (Nat.le_of_ble_eq_true rfl) rfl (fun C hM hN => ?_)
  obtain ⟨n, h8, hn⟩ := hI.2.2.2.1
  have hloop : ∀ (m : Nat) (j : Nat), j + m = n → zAW g C 4 cX4_goDay RX4 7 [some (.ref (zad g o)), some (.int (nI (p_q τ))), some (.int (nI j))] [] (zpt σ o (p_vis τ (p_q τ) j)) := by
    intro m
    induction m with
    | zero =>
      intro j hj
      obtain rfl : j = n := by omega
      refine za_iload_n dX4_goDay_7 rfl ?_
      refine za_aload_n dX4_goDay_8 rfl ?_
      refine zt_getI hT dX4_goDay_9 zf_X4_21 (by decide) ?_
      rw [p_vis_0 hI p_q_lt j (by omega), hn]
      refine za_icmp_ge 36 dX4_goDay_12 (by decide) (fun c12 => ?_) (fun c12 => absurd (nI_le (Nat.le_refl _) (by omega)) c12)
      refine za_aload_n dX4_goDay_36 rfl ?_
      refine za_iload_n dX4_goDay_37 rfl ?_
      refine za_cV1v dX4_goDay_38 zm_X4_82 zw_X4_net zv_X4_net (tc_net hT p_q_lt) (by decide) (tn0 hT) rfl rfl (Nat.le_of_ble_eq_true rfl) ?_
      refine za_aload_n dX4_goDay_41 rfl ?_
      refine za_dup dX4_goDay_42 rfl ?_
      refine zt_getI hT dX4_goDay_43 zf_X4_9 (by decide) ?_
      refine za_iconst (nI 1) dX4_goDay_46 (by decide) ?_
      refine za_iadd dX4_goDay_47 ?_
      refine zt_putI hT dX4_goDay_48 zf_X4_9 zp_X4_0 (by decide) ?_
      exact za_vret hM dX4_goDay_51 ⟨rfl, by unfold p_day; rw [show zn (τ 0 3) = j by rw [hn]; exact zn_nI (by omega)]; rfl⟩
    | succ m ih =>
      intro j hj
      refine za_iload_n dX4_goDay_7 rfl ?_
      refine za_aload_n dX4_goDay_8 rfl ?_
      refine zt_getI hT dX4_goDay_9 zf_X4_21 (by decide) ?_
      rw [p_vis_0 hI p_q_lt j (by omega), hn]
      refine za_icmp_ge 36 dX4_goDay_12 (by decide) (fun c12 => absurd c12 (nI_ge (show j < n by omega) (by omega))) (fun c12 => ?_)
      refine za_aload_n dX4_goDay_15 rfl ?_
      refine za_getR dX4_goDay_16 zf_X4_40 (tn0 hT) rfl ?_
      refine za_iload_n dX4_goDay_19 rfl ?_
      refine zt_iald hT (by decide) dX4_goDay_20 (zv6 (by omega)) ?_
      refine za_if_ne 30 dX4_goDay_21 (by decide) (fun c21 => ?_) (fun c21 => ?_)
      · refine za_iinc (nI (_ + 1)) (lv' := [_, _, _]) dX4_goDay_30 rfl hN (by decide) (znext _) rfl ?_
        refine za_goto 7 dX4_goDay_33 (by decide) ?_
        have hh := ih (j + 1) (by omega)
        first
          | (rw [p_vis_1 (by assumption)] at hh; exact hh)
          | (rw [p_vis_n (by assumption)] at hh; exact hh)
      · refine za_aload_n dX4_goDay_24 rfl ?_
        refine za_iload_n dX4_goDay_25 rfl ?_
        refine za_iload_n dX4_goDay_26 rfl ?_
        have hJ := zTI_vis hI (p_q_lt (τ := τ)) j (by omega)
        refine za_cV2v dX4_goDay_27 zm_X4_78 zw_X4_visit zv_X4_visit (tc_visit hT (by omega) p_q_lt (hJ.2.2.2.2.2.2.1 j (by omega)) hJ.2.2.1 hJ.1 hB) (by decide) (tn0 hT) rfl rfl (Nat.le_of_ble_eq_true rfl) ?_
        refine za_iinc (nI (_ + 1)) (lv' := [_, _, _]) dX4_goDay_30 rfl hN (by decide) (znext _) rfl ?_
        refine za_goto 7 dX4_goDay_33 (by decide) ?_
        have hh := ih (j + 1) (by omega)
        first
          | (rw [p_vis_1 (by assumption)] at hh; exact hh)
          | (rw [p_vis_n (by assumption)] at hh; exact hh)
  refine za_aload_n dX4_goDay_0 rfl ?_
  refine za_cV0 dX4_goDay_1 zm_X4_53 zw_X4_questionOfDay zv_X4_questionOfDay (tc_questionOfDay hT hI.1 hB) (by decide) (tn0 hT) rfl rfl (Nat.le_of_ble_eq_true rfl) ?_
  refine za_istore_n (lv' := [_, _, _]) dX4_goDay_4 hN (by decide) rfl ?_
  refine za_iconst (nI 0) dX4_goDay_5 (by decide) ?_
  refine za_istore_n (lv' := [_, _, _]) dX4_goDay_6 hN (by decide) rfl ?_
  exact hloop n 0 (by omega)

set_option maxRecDepth 20000 in
set_option maxHeartbeats 4000000 in
theorem tc_goDays {g : zG} {σ : zSto} {τ : zTn} {o : Nat} (hT : zTo o) {n B : Nat} (hI : zTI B τ) (hB : B ≤ 1000000) (hn : n ≤ 1000) : zEd g 5 yX4_goDays cX4_goDays 3 none [.ref (zad g o), .int (nI n)] (zpt σ o τ) none (zpt σ o (p_days τ n)) := by
  refine zev_intro (own := RX4) (lv := [some (.ref (zad g o)), some (.int (nI n)), none]) (by decide +kernel) rfl (Nat.le_of_ble_eq_true rfl) rfl (fun C hM hN => ?_)
  have hloop : ∀ (m : Nat) (j : Nat), j + m = n → zAW g C 5 cX4_goDays RX4 2 [some (.ref (zad g o)), some (.int (nI n)), some (.int (nI j))] [] (zpt σ o (p_days τ j)) := by
    intro m
    induction m with
    | zero =>
      intro j hj
      obtain rfl : j = n := by omega
      refine za_iload_n dX4_goDays_2 rfl ?_
      refine za_iload_n dX4_goDays_3 rfl ?_
      refine za_icmp_ge 17 dX4_goDays_4 (by decide) (fun c4 => ?_) (fun c4 => absurd (nI_le (Nat.le_refl _) (by omega)) c4)
      exact za_vret hM dX4_goDays_17 ⟨by rfl, by rfl⟩
    | succ m ih =>
      intro j hj
      refine za_iload_n dX4_goDays_2 rfl ?_
      refine za_iload_n dX4_goDays_3 rfl ?_
      refine za_icmp_ge 17 dX4_goDays_4 (by decide) (fun c4 => absurd c4 (nI_ge (show j < n by omega) (by omega))) (fun c4 => ?_)
      refine za_aload_n dX4_goDays_7 rfl ?_
      refine za_cV0v dX4_goDays_8 zm_X4_75 zw_X4_goDay zv_X4_goDay (tc_goDay hT (zTI_days hI j) (by omega)) (by decide) (tn0 hT) rfl rfl (Nat.le_of_ble_eq_true rfl) ?_
      refine za_iinc (nI (_ + 1)) (lv' := [_, _, _]) dX4_goDays_11 rfl hN (by decide) (znext _) rfl ?_
      refine za_goto 2 dX4_goDays_14 (by decide) ?_
      exact ih (j + 1) (by omega)
  refine za_iconst (nI 0) dX4_goDays_0 (by decide) ?_
  refine za_istore_n (lv' := [_, _, _]) dX4_goDays_1 hN (by decide) rfl ?_
  exact hloop n 0 (by omega)

set_option maxRecDepth 20000 in
set_option maxHeartbeats 4000000 in
theorem tc_add {g : zG} {σ : zSto} {τ : zTn} {o : Nat} (hT : zTo o) {n : Nat} {k : Int32} (h8 : n < 8) (hn : τ 0 3 = nI n) : zEd g 0 yX4_add cX4_add 3 (some .int) [.ref (zad g o), .int k] (zpt σ o τ) (some (.int (nI n))) (zpt σ o (p_ad τ k)) := by
  refine zev_intro (own := RX4) (lv := [some (.ref (zad g o)), some (.int k), none]) (by decide +kernel) rfl (Nat.le_of_ble_eq_true rfl) rfl (fun C hM hN => ?_)
  refine za_aload_n dX4_add_0 rfl ?_
  refine zt_getI hT dX4_add_1 zf_X4_21 (by decide) ?_
  rw [hn]
  refine za_istore_n (lv' := [_, _, _]) dX4_add_4 hN (by decide) rfl ?_
  refine za_aload_n dX4_add_5 rfl ?_
  refine za_getR dX4_add_6 zf_X4_31 (tn0 hT) rfl ?_
  refine za_iload_n dX4_add_9 rfl ?_
  refine za_iload_n dX4_add_10 rfl ?_
  refine zt_iast hT (by decide) dX4_add_11 (by first | exact zv3 h8 | exact zv4 h8 | exact zv5 h8 | exact zv6 h8) ?_
  refine za_aload_n dX4_add_12 rfl ?_
  refine za_getR dX4_add_13 zf_X4_34 (tn0 hT) rfl ?_
  refine za_iload_n dX4_add_16 rfl ?_
  refine za_iconst (nI 0) dX4_add_17 (by decide) ?_
  refine zt_iast hT (by decide) dX4_add_18 (by first | exact zv3 h8 | exact zv4 h8 | exact zv5 h8 | exact zv6 h8) ?_
  refine za_aload_n dX4_add_19 rfl ?_
  refine za_getR dX4_add_20 zf_X4_37 (tn0 hT) rfl ?_
  refine za_iload_n dX4_add_23 rfl ?_
  refine za_bipush (nI 20) dX4_add_24 (by decide) ?_
  refine zt_iast hT (by decide) dX4_add_26 (by first | exact zv3 h8 | exact zv4 h8 | exact zv5 h8 | exact zv6 h8) ?_
  refine za_aload_n dX4_add_27 rfl ?_
  refine za_getR dX4_add_28 zf_X4_40 (tn0 hT) rfl ?_
  refine za_iload_n dX4_add_31 rfl ?_
  refine za_iconst (nI 0) dX4_add_32 (by decide) ?_
  refine zt_iast hT (by decide) dX4_add_33 (by first | exact zv3 h8 | exact zv4 h8 | exact zv5 h8 | exact zv6 h8) ?_
  refine za_aload_n dX4_add_34 rfl ?_
  refine za_dup dX4_add_35 rfl ?_
  refine zt_getI hT dX4_add_36 zf_X4_21 (by decide) ?_
  refine za_iconst (nI 1) dX4_add_39 (by decide) ?_
  refine za_iadd dX4_add_40 ?_
  refine zt_putI hT dX4_add_41 zf_X4_21 zp_X4_3 (by decide) ?_
  refine za_iload_n dX4_add_44 rfl ?_
  exact za_iret hM dX4_add_45 ⟨rfl, by unfold p_ad; rw [show zn (τ 0 3) = n by rw [hn]; exact zn_nI (by omega)]; rfl⟩

def zrow (τ : zTn) (k : Nat) (f : Nat → Int32) (n : Nat) : zTn := fun a b => if a = k ∧ b < n then f b else τ a b
theorem zTo_far {o o' k j : Nat} (hT : zTo o) (hT' : zTo o') (hne : o ≠ o') (hk : k < 7) : ¬ (o ≤ o' + k ∧ zvl (o' + k - o) j) := by
  rintro ⟨h1, h2⟩
  have h3 : o' + k - o < 7 := by
    rcases h2 with h | h | h <;> omega
  rcases hT with rfl | rfl | rfl <;> rcases hT' with rfl | rfl | rfl <;> omega
theorem zpt_far {σ : zSto} {τ : zTn} {o o' k j : Nat} (hT : zTo o) (hT' : zTo o') (hne : o ≠ o') (hk : k < 7) : (zpt σ o τ).1 (o' + k) j = σ.1 (o' + k) j := if_neg (zTo_far hT hT' hne hk)
section ZTB
variable {g : zG} {C : zC} {dd : Nat} {cc : ByteArray} {own : String} {pc : Nat} {lv : List (Option Value)} {st rest : List Value} {σ : zSto} {τ : zTn} {o o' : Nat}
theorem zt_getO {idx j : Nat} (hT : zTo o) (hT' : zTo o') (hne : o ≠ o') (hd : decode cc pc = .ok (.getfield idx, 3)) (hf : zFL own idx 3 j) (hj : j < 4) (k : zAW g C dd cc own (pc + 3) lv (.int (ztw σ o' 0 j) :: st) (zpt σ o τ)) : zAW g C dd cc own pc lv (.ref (zad g o') :: st) (zpt σ o τ) := by
  refine za_getI hd hf (tn0 hT') (by rcases (show j = 0 ∨ j = 1 ∨ j = 2 ∨ j = 3 by omega) with rfl | rfl | rfl | rfl <;> rfl) ?_
  have h := zpt_far (σ := σ) (τ := τ) (k := 0) (j := j) hT hT' hne (by decide)
  rw [Nat.add_zero] at h
  rw [h]
  exact k
theorem zt_copy {idx a n : Nat} (hT : zTo o) (hT' : zTo o') (hne : o ≠ o') (hd : decode cc pc = .ok (.invokestatic idx, 3)) (hm : Cond.methodLink own idx arraycopyName ∈ lw_g) (ha : a < 7) (hv : ∀ b, b < n → zvl a b) (hs' : zsh[o' + a]? = some (.inr (.inl (0, n)))) (hs : zsh[o + a]? = some (.inr (.inl (0, n)))) (hdd : 0 < dd) (hr : (rest.map fun v => v.category).sum ≤ 8) (k : zAW g C dd cc own (pc + 3) lv rest (zpt σ o (zrow τ a (ztw σ o' a) n))) : zAW g C dd cc own pc lv (.int (nI n) :: .int (nI 0) :: .ref (zad g (o + a)) :: .int (nI 0) :: .ref (zad g (o' + a)) :: rest) (zpt σ o τ) := by
  refine za_copyi hd hm hs' hs (by omega) (by omega) hdd hr ?_
  have h : zci (zpt σ o τ) (o' + a) (o + a) 0 0 n = zpt σ o (zrow τ a (ztw σ o' a) n) := by
    refine Prod.ext (funext fun x => funext fun b => ?_) rfl
    show (if x = o + a ∧ 0 ≤ b ∧ b < 0 + n then (zpt σ o τ).1 (o' + a) (0 + (b - 0)) else (zpt σ o τ).1 x b) = (if o ≤ x ∧ zvl (x - o) b then zrow τ a (ztw σ o' a) n (x - o) b else σ.1 x b)
    by_cases h : x = o + a ∧ 0 ≤ b ∧ b < 0 + n
    · obtain ⟨rfl, -, hb⟩ := h
      rw [if_pos ⟨rfl, Nat.zero_le _, hb⟩, Nat.add_sub_cancel_left, if_pos ⟨Nat.le_add_right _ _, hv b (by omega)⟩, zpt_far hT hT' hne ha]
      unfold zrow
      rw [if_pos ⟨rfl, by omega⟩, Nat.zero_add, Nat.sub_zero]
      rfl
    · rw [if_neg h]
      show (if o ≤ x ∧ zvl (x - o) b then τ (x - o) b else σ.1 x b) = _
      by_cases h2 : o ≤ x ∧ zvl (x - o) b
      · rw [if_pos h2, if_pos h2]
        unfold zrow
        rw [if_neg (fun z => h ⟨by omega, Nat.zero_le _, by omega⟩)]
      · rw [if_neg h2, if_neg h2]
  rw [h]
  exact k
end ZTB

set_option maxRecDepth 20000 in
set_option maxHeartbeats 4000000 in
theorem tc_become0 {g : zG} {σ : zSto} {τ : zTn} {o o' : Nat} (hT : zTo o) (hT' : zTo o') (hne : o ≠ o') : zEd g 1 yX4_become cX4_become 2 none [.ref (zad g o), .ref (zad g o')] (zpt σ o τ) none (zpt σ o (ztw σ o')) := by
  refine zev_intro (own := RX4) (lv := [some (.ref (zad g o)), some (.ref (zad g o'))]) (by decide +kernel) rfl (Nat.le_of_ble_eq_true rfl) rfl (fun C hM hN => ?_)
  refine za_aload_n dX4_become_0 rfl ?_
  refine za_aload_n dX4_become_1 rfl ?_
  refine zt_getO hT hT' hne dX4_become_2 zf_X4_9 (by decide) ?_
  refine zt_putI hT dX4_become_5 zf_X4_9 zp_X4_0 (by decide) ?_
  refine za_aload_n dX4_become_8 rfl ?_
  refine za_aload_n dX4_become_9 rfl ?_
  refine zt_getO hT hT' hne dX4_become_10 zf_X4_15 (by decide) ?_
  refine zt_putI hT dX4_become_13 zf_X4_15 zp_X4_1 (by decide) ?_
  refine za_aload_n dX4_become_16 rfl ?_
  refine za_aload_n dX4_become_17 rfl ?_
  refine zt_getO hT hT' hne dX4_become_18 zf_X4_18 (by decide) ?_
  refine zt_putI hT dX4_become_21 zf_X4_18 zp_X4_2 (by decide) ?_
  refine za_aload_n dX4_become_24 rfl ?_
  refine za_aload_n dX4_become_25 rfl ?_
  refine zt_getO hT hT' hne dX4_become_26 zf_X4_21 (by decide) ?_
  refine zt_putI hT dX4_become_29 zf_X4_21 zp_X4_3 (by decide) ?_
  refine za_aload_n dX4_become_32 rfl ?_
  refine za_getR dX4_become_33 zf_X4_24 (tn0 hT') rfl ?_
  refine za_iconst (nI 0) dX4_become_36 (by decide) ?_
  refine za_aload_n dX4_become_37 rfl ?_
  refine za_getR dX4_become_38 zf_X4_24 (tn0 hT) rfl ?_
  refine za_iconst (nI 0) dX4_become_41 (by decide) ?_
  refine za_bipush (nI 6) dX4_become_42 (by decide) ?_
  refine zt_copy hT hT' hne dX4_become_44 zm_X4_43 (by decide) (fun _ h => zv1 h) (tn1 hT') (tn1 hT) (by decide) (Nat.le_of_ble_eq_true rfl) ?_
  refine za_aload_n dX4_become_47 rfl ?_
  refine za_getR dX4_become_48 zf_X4_28 (tn0 hT') rfl ?_
  refine za_iconst (nI 0) dX4_become_51 (by decide) ?_
  refine za_aload_n dX4_become_52 rfl ?_
  refine za_getR dX4_become_53 zf_X4_28 (tn0 hT) rfl ?_
  refine za_iconst (nI 0) dX4_become_56 (by decide) ?_
  refine za_bipush (nI 6) dX4_become_57 (by decide) ?_
  refine zt_copy hT hT' hne dX4_become_59 zm_X4_43 (by decide) (fun _ h => zv2 h) (tn2 hT') (tn2 hT) (by decide) (Nat.le_of_ble_eq_true rfl) ?_
  refine za_aload_n dX4_become_62 rfl ?_
  refine za_getR dX4_become_63 zf_X4_31 (tn0 hT') rfl ?_
  refine za_iconst (nI 0) dX4_become_66 (by decide) ?_
  refine za_aload_n dX4_become_67 rfl ?_
  refine za_getR dX4_become_68 zf_X4_31 (tn0 hT) rfl ?_
  refine za_iconst (nI 0) dX4_become_71 (by decide) ?_
  refine za_bipush (nI 8) dX4_become_72 (by decide) ?_
  refine zt_copy hT hT' hne dX4_become_74 zm_X4_43 (by decide) (fun _ h => zv3 h) (tn3 hT') (tn3 hT) (by decide) (Nat.le_of_ble_eq_true rfl) ?_
  refine za_aload_n dX4_become_77 rfl ?_
  refine za_getR dX4_become_78 zf_X4_34 (tn0 hT') rfl ?_
  refine za_iconst (nI 0) dX4_become_81 (by decide) ?_
  refine za_aload_n dX4_become_82 rfl ?_
  refine za_getR dX4_become_83 zf_X4_34 (tn0 hT) rfl ?_
  refine za_iconst (nI 0) dX4_become_86 (by decide) ?_
  refine za_bipush (nI 8) dX4_become_87 (by decide) ?_
  refine zt_copy hT hT' hne dX4_become_89 zm_X4_43 (by decide) (fun _ h => zv4 h) (tn4 hT') (tn4 hT) (by decide) (Nat.le_of_ble_eq_true rfl) ?_
  refine za_aload_n dX4_become_92 rfl ?_
  refine za_getR dX4_become_93 zf_X4_37 (tn0 hT') rfl ?_
  refine za_iconst (nI 0) dX4_become_96 (by decide) ?_
  refine za_aload_n dX4_become_97 rfl ?_
  refine za_getR dX4_become_98 zf_X4_37 (tn0 hT) rfl ?_
  refine za_iconst (nI 0) dX4_become_101 (by decide) ?_
  refine za_bipush (nI 8) dX4_become_102 (by decide) ?_
  refine zt_copy hT hT' hne dX4_become_104 zm_X4_43 (by decide) (fun _ h => zv5 h) (tn5 hT') (tn5 hT) (by decide) (Nat.le_of_ble_eq_true rfl) ?_
  refine za_aload_n dX4_become_107 rfl ?_
  refine za_getR dX4_become_108 zf_X4_40 (tn0 hT') rfl ?_
  refine za_iconst (nI 0) dX4_become_111 (by decide) ?_
  refine za_aload_n dX4_become_112 rfl ?_
  refine za_getR dX4_become_113 zf_X4_40 (tn0 hT) rfl ?_
  refine za_iconst (nI 0) dX4_become_116 (by decide) ?_
  refine za_bipush (nI 8) dX4_become_117 (by decide) ?_
  refine zt_copy hT hT' hne dX4_become_119 zm_X4_43 (by decide) (fun _ h => zv6 h) (tn6 hT') (tn6 hT) (by decide) (Nat.le_of_ble_eq_true rfl) ?_
  exact za_vret hM dX4_become_122 ⟨rfl, zpt_congr (fun k i hv => by
    unfold zrow zup
    rcases hv with ⟨a, b⟩ | ⟨a | a, b⟩ | ⟨a, b⟩
    · subst a
      rcases (show i = 0 ∨ i = 1 ∨ i = 2 ∨ i = 3 by omega) with rfl | rfl | rfl | rfl <;> rfl
    · subst a; simp [b]
    · subst a; simp [b]
    · rcases (show k = 3 ∨ k = 4 ∨ k = 5 ∨ k = 6 by omega) with rfl | rfl | rfl | rfl <;> simp [b])⟩

theorem tc_become {g : zG} {σ : zSto} {o o' : Nat} (hT : zTo o) (hT' : zTo o') (hne : o ≠ o') : zEd g 1 yX4_become cX4_become 2 none [.ref (zad g o), .ref (zad g o')] σ none (zpt σ o (ztw σ o')) := by
  have h := tc_become0 (g := g) (σ := σ) (τ := ztw σ o) hT hT' hne
  rw [zpt_tw] at h
  exact h
