set_option maxRecDepth 20000 in
set_option maxHeartbeats 4000000 in
theorem c_finding {g : zG} {S : zSto} {k : Nat} (hk : k < 7) : zEd g 1 yX5_finding cX5_finding 2 (some .int) [.ref (zad g 0), .int (nI k)] S (some (.int (zfd k))) (zfin S 33 k) := by
  refine zev_intro (own := RX5) (lv := [some (.ref (zad g 0)), some (.int (nI k))]) (by decide +kernel) rfl (Nat.le_of_ble_eq_true rfl) rfl (fun C hM hN => ?_)
  refine za_iload_n dX5_finding_0 rfl ?_
  refine za_iconst (nI 0) dX5_finding_1 (by decide) ?_
  refine za_bipush (nI 6) dX5_finding_2 (by decide) ?_
  refine za_cS3 dX5_finding_4 zm_X5_75 zw_X5_isWithin zs_X5_isWithin (e_isWithin _ _ _) (by decide) (Nat.le_of_ble_eq_true rfl) ?_
  refine za_if_eqB 20 dX5_finding_7 (by decide) (fun c7 => absurd (zrng (Nat.zero_le _) (by omega) (by decide)) c7) (fun c7 => ?_)
  refine za_aload_n dX5_finding_10 rfl ?_
  refine za_getR dX5_finding_11 zf_X5_49 rfl rfl ?_
  refine za_iload_n dX5_finding_14 rfl ?_
  refine za_dup2 dX5_finding_15 rfl rfl ?_
  refine za_iald dX5_finding_16 rfl hk ?_
  refine za_iconst (nI 1) dX5_finding_17 (by decide) ?_
  refine za_iadd dX5_finding_18 ?_
  refine za_iast dX5_finding_19 rfl hk ?_
  refine za_ldc dX5_finding_20 zk_X5_238 ?_
  refine za_iload_n dX5_finding_22 rfl ?_
  refine za_isub dX5_finding_23 ?_
  exact za_iret hM dX5_finding_24 ⟨by rfl, by rfl⟩

set_option maxRecDepth 20000 in
set_option maxHeartbeats 4000000 in
theorem c_isPerson {g : zG} {S : zSto} {τ : zTn} (h1 : zHd S 1 τ) {v : Int32} : zEd g 1 yX5_isPerson cX5_isPerson 2 (some .boolean) [.ref (zad g 0), .int v] S (some (.int (zb (nI 0 ≤ v ∧ v ≤ τ 0 3 - nI 1)))) S := by
  refine zev_intro (own := RX5) (lv := [some (.ref (zad g 0)), some (.int v)]) (by decide +kernel) rfl (Nat.le_of_ble_eq_true rfl) rfl (fun C hM hN => ?_)
  refine za_iload_n dX5_isPerson_0 rfl ?_
  refine za_iconst (nI 0) dX5_isPerson_1 (by decide) ?_
  refine za_aload_n dX5_isPerson_2 rfl ?_
  refine za_getR dX5_isPerson_3 zf_X5_10 rfl rfl ?_
  refine zh_getI zT1 (by first | exact h1 | exact zHd_8 h1) dX5_isPerson_6 zf_X5_175 (by decide) ?_
  refine za_iconst (nI 1) dX5_isPerson_9 (by decide) ?_
  refine za_isub dX5_isPerson_10 ?_
  refine za_cS3 dX5_isPerson_11 zm_X5_75 zw_X5_isWithin zs_X5_isWithin (e_isWithin _ _ _) (by decide) (Nat.le_of_ble_eq_true rfl) ?_
  exact za_zretG hM dX5_isPerson_14 zb_nar ⟨by rfl, by rfl⟩

set_option maxRecDepth 20000 in
set_option maxHeartbeats 4000000 in
theorem c_lies_ok {g : zG} {S : zSto} {τ : zTn} (h1 : zHd S 1 τ) {q s : Nat} {v : Int32} (hq : q < 6) (hs : s < 2) (hv : nI 0 ≤ v ∧ v ≤ nI 9999) : zEd g 8 yX5_lies cX5_lies 5 (some .int) [.ref (zad g 0), .int (nI q), .int (nI s), .int v] S (some (.int (τ (1 + s) q))) (zpt S 1 (zup τ (1 + s) q v)) := by
  refine zev_intro (own := RX5) (lv := [some (.ref (zad g 0)), some (.int (nI q)), some (.int (nI s)), some (.int v), none]) (by decide +kernel) rfl (Nat.le_of_ble_eq_true rfl) rfl (fun C hM hN => ?_)
  refine za_iload_n dX5_lies_0 rfl ?_
  refine za_cS1 dX5_lies_1 zm_X5_53 zw_X5_isQuestion zs_X5_isQuestion (e_isQuestion _) (by decide) (Nat.le_of_ble_eq_true rfl) ?_
  refine za_if_eqB 21 dX5_lies_4 (by decide) (fun c4 => absurd (zrng (Nat.zero_le _) (by omega) (by decide)) c4) (fun c4 => ?_)
  refine za_iload_n dX5_lies_7 rfl ?_
  refine za_cS1 dX5_lies_8 zm_X5_57 zw_X5_isSide zs_X5_isSide (e_isSide _) (by decide) (Nat.le_of_ble_eq_true rfl) ?_
  refine za_if_eqB 21 dX5_lies_11 (by decide) (fun c11 => absurd (zrng (Nat.zero_le _) (by omega) (by decide)) c11) (fun c11 => ?_)
  refine za_iload_n dX5_lies_14 rfl ?_
  refine za_cS1 dX5_lies_15 zm_X5_60 zw_X5_isPence zs_X5_isPence (e_isPence _) (by decide) (Nat.le_of_ble_eq_true rfl) ?_
  refine za_if_neB 27 dX5_lies_18 (by decide) (fun c18 => ?_) (fun c18 => absurd hv c18)
  refine za_aload_n dX5_lies_27 rfl ?_
  refine za_getR dX5_lies_28 zf_X5_10 rfl rfl ?_
  refine za_iload_n dX5_lies_31 rfl ?_
  refine za_iload_n dX5_lies_32 rfl ?_
  refine za_cV2 dX5_lies_33 zm_X5_67 zw_X4_lying zv_X4_lying (zhold0 h1 (tc_lying zT1 hq hs)) (by decide) (tn0 zT1) rfl rfl (Nat.le_of_ble_eq_true rfl) ?_
  refine za_istore (lv' := [_, _, _, _, _]) dX5_lies_36 hN (by decide) rfl ?_
  refine za_aload_n dX5_lies_38 rfl ?_
  refine za_getR dX5_lies_39 zf_X5_10 rfl rfl ?_
  refine za_iload_n dX5_lies_42 rfl ?_
  refine za_iload_n dX5_lies_43 rfl ?_
  refine za_iload_n dX5_lies_44 rfl ?_
  refine za_cV3v dX5_lies_45 zm_X5_71 zw_X4_lay zv_X4_lay (zhold1 h1 (tc_lay zT1 hq hs)) (by decide) (tn0 zT1) rfl rfl (Nat.le_of_ble_eq_true rfl) ?_
  refine za_iload dX5_lies_48 rfl ?_
  exact za_iret hM dX5_lies_50 ⟨by rfl, by rfl⟩

set_option maxRecDepth 20000 in
set_option maxHeartbeats 4000000 in
theorem c_lies_no {g : zG} {S : zSto} {q s v : Int32} (hno : ¬ ((nI 0 ≤ q ∧ q ≤ nI 5) ∧ (nI 0 ≤ s ∧ s ≤ nI 1) ∧ (nI 0 ≤ v ∧ v ≤ nI 9999))) : zEd g 8 yX5_lies cX5_lies 5 (some .int) [.ref (zad g 0), .int q, .int s, .int v] S (some (.int (zfd 0))) (zfin S 33 0) := by
  refine zev_intro (own := RX5) (lv := [some (.ref (zad g 0)), some (.int q), some (.int s), some (.int v), none]) (by decide +kernel) rfl (Nat.le_of_ble_eq_true rfl) rfl (fun C hM hN => ?_)
  refine za_iload_n dX5_lies_0 rfl ?_
  refine za_cS1 dX5_lies_1 zm_X5_53 zw_X5_isQuestion zs_X5_isQuestion (e_isQuestion _) (by decide) (Nat.le_of_ble_eq_true rfl) ?_
  refine za_if_eqB 21 dX5_lies_4 (by decide) (fun c4 => ?_) (fun c4 => ?_)
  · refine za_aload_n dX5_lies_21 rfl ?_
    refine za_iconst (nI 0) dX5_lies_22 (by decide) ?_
    refine za_cV1 dX5_lies_23 zm_X5_63 zw_X5_finding zv_X5_finding (c_finding (by decide)) (by decide) rfl rfl rfl (Nat.le_of_ble_eq_true rfl) ?_
    exact za_iret hM dX5_lies_26 ⟨by rfl, by rfl⟩
  · refine za_iload_n dX5_lies_7 rfl ?_
    refine za_cS1 dX5_lies_8 zm_X5_57 zw_X5_isSide zs_X5_isSide (e_isSide _) (by decide) (Nat.le_of_ble_eq_true rfl) ?_
    refine za_if_eqB 21 dX5_lies_11 (by decide) (fun c11 => ?_) (fun c11 => ?_)
    · refine za_aload_n dX5_lies_21 rfl ?_
      refine za_iconst (nI 0) dX5_lies_22 (by decide) ?_
      refine za_cV1 dX5_lies_23 zm_X5_63 zw_X5_finding zv_X5_finding (c_finding (by decide)) (by decide) rfl rfl rfl (Nat.le_of_ble_eq_true rfl) ?_
      exact za_iret hM dX5_lies_26 ⟨by rfl, by rfl⟩
    · refine za_iload_n dX5_lies_14 rfl ?_
      refine za_cS1 dX5_lies_15 zm_X5_60 zw_X5_isPence zs_X5_isPence (e_isPence _) (by decide) (Nat.le_of_ble_eq_true rfl) ?_
      refine za_if_neB 27 dX5_lies_18 (by decide) (fun c18 => ?_) (fun c18 => ?_)
      · exact absurd ⟨c4, c11, c18⟩ hno
      · refine za_aload_n dX5_lies_21 rfl ?_
        refine za_iconst (nI 0) dX5_lies_22 (by decide) ?_
        refine za_cV1 dX5_lies_23 zm_X5_63 zw_X5_finding zv_X5_finding (c_finding (by decide)) (by decide) rfl rfl rfl (Nat.le_of_ble_eq_true rfl) ?_
        exact za_iret hM dX5_lies_26 ⟨by rfl, by rfl⟩

set_option maxRecDepth 20000 in
set_option maxHeartbeats 4000000 in
theorem c_basin_ok {g : zG} {S : zSto} {τ : zTn} (h1 : zHd S 1 τ) {q w : Nat} (hq : q < 6) (hw : w < 3) : zEd g 8 yX5_basin cX5_basin 3 (some .int) [.ref (zad g 0), .int (nI q), .int (nI w)] S (some (.int (p_tell τ q w))) S := by
  refine zev_intro (own := RX5) (lv := [some (.ref (zad g 0)), some (.int (nI q)), some (.int (nI w))]) (by decide +kernel) rfl (Nat.le_of_ble_eq_true rfl) rfl (fun C hM hN => ?_)
  refine za_iload_n dX5_basin_0 rfl ?_
  refine za_cS1 dX5_basin_1 zm_X5_53 zw_X5_isQuestion zs_X5_isQuestion (e_isQuestion _) (by decide) (Nat.le_of_ble_eq_true rfl) ?_
  refine za_if_eqB 16 dX5_basin_4 (by decide) (fun c4 => absurd (zrng (Nat.zero_le _) (by omega) (by decide)) c4) (fun c4 => ?_)
  refine za_iload_n dX5_basin_7 rfl ?_
  refine za_iconst (nI 0) dX5_basin_8 (by decide) ?_
  refine za_iconst (nI 2) dX5_basin_9 (by decide) ?_
  refine za_cS3 dX5_basin_10 zm_X5_75 zw_X5_isWithin zs_X5_isWithin (e_isWithin _ _ _) (by decide) (Nat.le_of_ble_eq_true rfl) ?_
  refine za_if_neB 22 dX5_basin_13 (by decide) (fun c13 => ?_) (fun c13 => absurd (zrng (Nat.zero_le _) (by omega) (by decide)) c13)
  refine za_aload_n dX5_basin_22 rfl ?_
  refine za_getR dX5_basin_23 zf_X5_10 rfl rfl ?_
  refine za_iload_n dX5_basin_26 rfl ?_
  refine za_iload_n dX5_basin_27 rfl ?_
  refine za_cV2 dX5_basin_28 zm_X5_79 zw_X4_tell zv_X4_tell (zhold0 h1 (tc_tell zT1 hq hw)) (by decide) (tn0 zT1) rfl rfl (Nat.le_of_ble_eq_true rfl) ?_
  exact za_iret hM dX5_basin_31 ⟨by rfl, by rfl⟩

set_option maxRecDepth 20000 in
set_option maxHeartbeats 4000000 in
theorem c_basin_no {g : zG} {S : zSto} {q w : Int32} (hno : ¬ ((nI 0 ≤ q ∧ q ≤ nI 5) ∧ (nI 0 ≤ w ∧ w ≤ nI 2))) : zEd g 8 yX5_basin cX5_basin 3 (some .int) [.ref (zad g 0), .int q, .int w] S (some (.int (zfd 0))) (zfin S 33 0) := by
  refine zev_intro (own := RX5) (lv := [some (.ref (zad g 0)), some (.int q), some (.int w)]) (by decide +kernel) rfl (Nat.le_of_ble_eq_true rfl) rfl (fun C hM hN => ?_)
  refine za_iload_n dX5_basin_0 rfl ?_
  refine za_cS1 dX5_basin_1 zm_X5_53 zw_X5_isQuestion zs_X5_isQuestion (e_isQuestion _) (by decide) (Nat.le_of_ble_eq_true rfl) ?_
  refine za_if_eqB 16 dX5_basin_4 (by decide) (fun c4 => ?_) (fun c4 => ?_)
  · refine za_aload_n dX5_basin_16 rfl ?_
    refine za_iconst (nI 0) dX5_basin_17 (by decide) ?_
    refine za_cV1 dX5_basin_18 zm_X5_63 zw_X5_finding zv_X5_finding (c_finding (by decide)) (by decide) rfl rfl rfl (Nat.le_of_ble_eq_true rfl) ?_
    exact za_iret hM dX5_basin_21 ⟨by rfl, by rfl⟩
  · refine za_iload_n dX5_basin_7 rfl ?_
    refine za_iconst (nI 0) dX5_basin_8 (by decide) ?_
    refine za_iconst (nI 2) dX5_basin_9 (by decide) ?_
    refine za_cS3 dX5_basin_10 zm_X5_75 zw_X5_isWithin zs_X5_isWithin (e_isWithin _ _ _) (by decide) (Nat.le_of_ble_eq_true rfl) ?_
    refine za_if_neB 22 dX5_basin_13 (by decide) (fun c13 => ?_) (fun c13 => ?_)
    · exact absurd ⟨c4, c13⟩ hno
    · refine za_aload_n dX5_basin_16 rfl ?_
      refine za_iconst (nI 0) dX5_basin_17 (by decide) ?_
      refine za_cV1 dX5_basin_18 zm_X5_63 zw_X5_finding zv_X5_finding (c_finding (by decide)) (by decide) rfl rfl rfl (Nat.le_of_ble_eq_true rfl) ?_
      exact za_iret hM dX5_basin_21 ⟨by rfl, by rfl⟩

set_option maxRecDepth 20000 in
set_option maxHeartbeats 4000000 in
theorem c_bribe_ok {g : zG} {S : zSto} {τ : zTn} (h1 : zHd S 1 τ) {v : Int32} (hv : nI 0 ≤ v ∧ v ≤ nI 1) : zEd g 8 yX5_bribe cX5_bribe 3 (some .int) [.ref (zad g 0), .int v] S (some (.int (τ 0 2))) (zpt S 1 (zup τ 0 2 v)) := by
  refine zev_intro (own := RX5) (lv := [some (.ref (zad g 0)), some (.int v), none]) (by decide +kernel) rfl (Nat.le_of_ble_eq_true rfl) rfl (fun C hM hN => ?_)
  refine za_iload_n dX5_bribe_0 rfl ?_
  refine za_cS1 dX5_bribe_1 zm_X5_57 zw_X5_isSide zs_X5_isSide (e_isSide _) (by decide) (Nat.le_of_ble_eq_true rfl) ?_
  refine za_if_neB 13 dX5_bribe_4 (by decide) (fun c4 => ?_) (fun c4 => absurd hv c4)
  refine za_aload_n dX5_bribe_13 rfl ?_
  refine za_getR dX5_bribe_14 zf_X5_10 rfl rfl ?_
  refine zh_getI zT1 (by first | exact h1 | exact zHd_8 h1) dX5_bribe_17 zf_X5_82 (by decide) ?_
  refine za_istore_n (lv' := [_, _, _]) dX5_bribe_20 hN (by decide) rfl ?_
  refine za_aload_n dX5_bribe_21 rfl ?_
  refine za_getR dX5_bribe_22 zf_X5_10 rfl rfl ?_
  refine za_iload_n dX5_bribe_25 rfl ?_
  refine zh_putI zT1 (by first | exact h1 | exact zHd_8 h1) dX5_bribe_26 zf_X5_82 zp_X4_2 (by decide) ?_
  refine za_iload_n dX5_bribe_29 rfl ?_
  exact za_iret hM dX5_bribe_30 ⟨by rfl, by rfl⟩

set_option maxRecDepth 20000 in
set_option maxHeartbeats 4000000 in
theorem c_bribe_no {g : zG} {S : zSto} {v : Int32} (hno : ¬ (nI 0 ≤ v ∧ v ≤ nI 1)) : zEd g 8 yX5_bribe cX5_bribe 3 (some .int) [.ref (zad g 0), .int v] S (some (.int (zfd 0))) (zfin S 33 0) := by
  refine zev_intro (own := RX5) (lv := [some (.ref (zad g 0)), some (.int v), none]) (by decide +kernel) rfl (Nat.le_of_ble_eq_true rfl) rfl (fun C hM hN => ?_)
  refine za_iload_n dX5_bribe_0 rfl ?_
  refine za_cS1 dX5_bribe_1 zm_X5_57 zw_X5_isSide zs_X5_isSide (e_isSide _) (by decide) (Nat.le_of_ble_eq_true rfl) ?_
  refine za_if_neB 13 dX5_bribe_4 (by decide) (fun c4 => ?_) (fun c4 => ?_)
  · exact absurd c4 hno
  · refine za_aload_n dX5_bribe_7 rfl ?_
    refine za_iconst (nI 0) dX5_bribe_8 (by decide) ?_
    refine za_cV1 dX5_bribe_9 zm_X5_63 zw_X5_finding zv_X5_finding (c_finding (by decide)) (by decide) rfl rfl rfl (Nat.le_of_ble_eq_true rfl) ?_
    exact za_iret hM dX5_bribe_12 ⟨by rfl, by rfl⟩

set_option maxRecDepth 20000 in
set_option maxHeartbeats 4000000 in
theorem c_held_ok {g : zG} {S : zSto} {τ : zTn} (h1 : zHd S 1 τ) {v : Int32} (hv : nI 0 ≤ v ∧ v ≤ nI 63) : zEd g 8 yX5_held cX5_held 3 (some .int) [.ref (zad g 0), .int v] S (some (.int (τ 0 1))) (zpt S 1 (zup τ 0 1 v)) := by
  refine zev_intro (own := RX5) (lv := [some (.ref (zad g 0)), some (.int v), none]) (by decide +kernel) rfl (Nat.le_of_ble_eq_true rfl) rfl (fun C hM hN => ?_)
  refine za_iload_n dX5_held_0 rfl ?_
  refine za_cS1 dX5_held_1 zm_X5_86 zw_X5_isSet zs_X5_isSet (e_isSet _) (by decide) (Nat.le_of_ble_eq_true rfl) ?_
  refine za_if_neB 13 dX5_held_4 (by decide) (fun c4 => ?_) (fun c4 => absurd hv c4)
  refine za_aload_n dX5_held_13 rfl ?_
  refine za_getR dX5_held_14 zf_X5_10 rfl rfl ?_
  refine zh_getI zT1 (by first | exact h1 | exact zHd_8 h1) dX5_held_17 zf_X5_89 (by decide) ?_
  refine za_istore_n (lv' := [_, _, _]) dX5_held_20 hN (by decide) rfl ?_
  refine za_aload_n dX5_held_21 rfl ?_
  refine za_getR dX5_held_22 zf_X5_10 rfl rfl ?_
  refine za_iload_n dX5_held_25 rfl ?_
  refine zh_putI zT1 (by first | exact h1 | exact zHd_8 h1) dX5_held_26 zf_X5_89 zp_X4_1 (by decide) ?_
  refine za_iload_n dX5_held_29 rfl ?_
  exact za_iret hM dX5_held_30 ⟨by rfl, by rfl⟩

set_option maxRecDepth 20000 in
set_option maxHeartbeats 4000000 in
theorem c_held_no {g : zG} {S : zSto} {v : Int32} (hno : ¬ (nI 0 ≤ v ∧ v ≤ nI 63)) : zEd g 8 yX5_held cX5_held 3 (some .int) [.ref (zad g 0), .int v] S (some (.int (zfd 0))) (zfin S 33 0) := by
  refine zev_intro (own := RX5) (lv := [some (.ref (zad g 0)), some (.int v), none]) (by decide +kernel) rfl (Nat.le_of_ble_eq_true rfl) rfl (fun C hM hN => ?_)
  refine za_iload_n dX5_held_0 rfl ?_
  refine za_cS1 dX5_held_1 zm_X5_86 zw_X5_isSet zs_X5_isSet (e_isSet _) (by decide) (Nat.le_of_ble_eq_true rfl) ?_
  refine za_if_neB 13 dX5_held_4 (by decide) (fun c4 => ?_) (fun c4 => ?_)
  · exact absurd c4 hno
  · refine za_aload_n dX5_held_7 rfl ?_
    refine za_iconst (nI 0) dX5_held_8 (by decide) ?_
    refine za_cV1 dX5_held_9 zm_X5_63 zw_X5_finding zv_X5_finding (c_finding (by decide)) (by decide) rfl rfl rfl (Nat.le_of_ble_eq_true rfl) ?_
    exact za_iret hM dX5_held_12 ⟨by rfl, by rfl⟩

/-- what 'now' answers -/
def p_now (τ : zTn) (w : Nat) : Int32 := match w with
  | 0 => τ 0 0
  | 1 => nI (p_q τ)
  | 2 => τ 0 1
  | 3 => τ 0 2
  | 4 => p_lf τ (zn (τ 0 3))
  | 5 => p_sum (τ 5) (zn (τ 0 3))
  | _ => p_sum (τ 1) 6 + p_sum (τ 2) 6
theorem zwhat {w : Nat} {n : Nat} (h : w ≤ n) (hn : n < 7) : w = 0 ∨ w = 1 ∨ w = 2 ∨ w = 3 ∨ w = 4 ∨ w = 5 ∨ w = 6 := by omega

set_option maxRecDepth 20000 in
set_option maxHeartbeats 4000000 in
theorem c_now_ok {g : zG} {S : zSto} {τ : zTn} (h1 : zHd S 1 τ) (hI : zTI 100000 τ) {w : Nat} (hw : w ≤ 6) : zEd g 8 yX5_now cX5_now 2 (some .int) [.ref (zad g 0), .int (nI w)] S (some (.int (p_now τ w))) S := by
  refine zev_intro (own := RX5) (lv := [some (.ref (zad g 0)), some (.int (nI w))]) (by decide +kernel) rfl (Nat.le_of_ble_eq_true rfl) rfl (fun C hM hN => ?_)
  obtain ⟨n, h9, hn⟩ := hI.2.2.2.1
  have hz : zn (τ 0 3) = n := by rw [hn]; exact zn_nI (by omega)
  obtain rfl | rfl | rfl | rfl | rfl | rfl | rfl := zwhat hw (by decide)
  · refine za_iload_n dX5_now_0 rfl ?_
    skip
    · refine za_tabK (43) 44 dX5_now_1 (by decide) (by decide) (by decide) (by decide) ?_
      refine za_aload_n dX5_now_44 rfl ?_
      refine za_getR dX5_now_45 zf_X5_10 rfl rfl ?_
      refine zh_getI zT1 (by first | exact h1 | exact zHd_8 h1) dX5_now_48 zf_X5_92 (by decide) ?_
      exact za_iret hM dX5_now_51 ⟨by (first | rfl | (unfold p_now; rw [hz]; rfl)), by (first | rfl | (unfold p_now; rw [hz]; rfl))⟩
  · refine za_iload_n dX5_now_0 rfl ?_
    skip
    · refine za_tabK (51) 52 dX5_now_1 (by decide) (by decide) (by decide) (by decide) ?_
      refine za_aload_n dX5_now_52 rfl ?_
      refine za_getR dX5_now_53 zf_X5_10 rfl rfl ?_
      refine za_cV0 dX5_now_56 zm_X5_95 zw_X4_questionOfDay zv_X4_questionOfDay (zhold0 h1 (tc_questionOfDay zT1 hI.1 (by decide))) (by decide) (tn0 zT1) rfl rfl (Nat.le_of_ble_eq_true rfl) ?_
      exact za_iret hM dX5_now_59 ⟨by (first | rfl | (unfold p_now; rw [hz]; rfl)), by (first | rfl | (unfold p_now; rw [hz]; rfl))⟩
  · refine za_iload_n dX5_now_0 rfl ?_
    skip
    · refine za_tabK (59) 60 dX5_now_1 (by decide) (by decide) (by decide) (by decide) ?_
      refine za_aload_n dX5_now_60 rfl ?_
      refine za_getR dX5_now_61 zf_X5_10 rfl rfl ?_
      refine zh_getI zT1 (by first | exact h1 | exact zHd_8 h1) dX5_now_64 zf_X5_89 (by decide) ?_
      exact za_iret hM dX5_now_67 ⟨by (first | rfl | (unfold p_now; rw [hz]; rfl)), by (first | rfl | (unfold p_now; rw [hz]; rfl))⟩
  · refine za_iload_n dX5_now_0 rfl ?_
    skip
    · refine za_tabK (67) 68 dX5_now_1 (by decide) (by decide) (by decide) (by decide) ?_
      refine za_aload_n dX5_now_68 rfl ?_
      refine za_getR dX5_now_69 zf_X5_10 rfl rfl ?_
      refine zh_getI zT1 (by first | exact h1 | exact zHd_8 h1) dX5_now_72 zf_X5_82 (by decide) ?_
      exact za_iret hM dX5_now_75 ⟨by (first | rfl | (unfold p_now; rw [hz]; rfl)), by (first | rfl | (unfold p_now; rw [hz]; rfl))⟩
  · refine za_iload_n dX5_now_0 rfl ?_
    skip
    · refine za_tabK (75) 76 dX5_now_1 (by decide) (by decide) (by decide) (by decide) ?_
      refine za_aload_n dX5_now_76 rfl ?_
      refine za_getR dX5_now_77 zf_X5_10 rfl rfl ?_
      refine za_cV0 dX5_now_80 zm_X5_99 zw_X4_thoseForLeft zv_X4_thoseForLeft (zhold0 h1 (tc_thoseForLeft zT1 h9 hn hI (by decide))) (by decide) (tn0 zT1) rfl rfl (Nat.le_of_ble_eq_true rfl) ?_
      exact za_iret hM dX5_now_83 ⟨by (first | rfl | (unfold p_now; rw [hz]; rfl)), by (first | rfl | (unfold p_now; rw [hz]; rfl))⟩
  · refine za_iload_n dX5_now_0 rfl ?_
    skip
    · refine za_tabK (83) 84 dX5_now_1 (by decide) (by decide) (by decide) (by decide) ?_
      refine za_aload_n dX5_now_84 rfl ?_
      refine za_getR dX5_now_85 zf_X5_10 rfl rfl ?_
      refine za_cV0 dX5_now_88 zm_X5_102 zw_X4_allPence zv_X4_allPence (zhold0 h1 (tc_allPence zT1 h9 hn)) (by decide) (tn0 zT1) rfl rfl (Nat.le_of_ble_eq_true rfl) ?_
      exact za_iret hM dX5_now_91 ⟨by (first | rfl | (unfold p_now; rw [hz]; rfl)), by (first | rfl | (unfold p_now; rw [hz]; rfl))⟩
  · refine za_iload_n dX5_now_0 rfl ?_
    skip
    · refine za_tabK (91) 92 dX5_now_1 (by decide) (by decide) (by decide) (by decide) ?_
      refine za_aload_n dX5_now_92 rfl ?_
      refine za_getR dX5_now_93 zf_X5_10 rfl rfl ?_
      refine za_iconst (nI 0) dX5_now_96 (by decide) ?_
      refine za_cV1 dX5_now_97 zm_X5_105 zw_X4_allLying zv_X4_allLying (zhold0 h1 (tc_allLying zT1 (by decide))) (by decide) (tn0 zT1) rfl rfl (Nat.le_of_ble_eq_true rfl) ?_
      refine za_aload_n dX5_now_100 rfl ?_
      refine za_getR dX5_now_101 zf_X5_10 rfl rfl ?_
      refine za_iconst (nI 1) dX5_now_104 (by decide) ?_
      refine za_cV1 dX5_now_105 zm_X5_105 zw_X4_allLying zv_X4_allLying (zhold0 h1 (tc_allLying zT1 (by decide))) (by decide) (tn0 zT1) rfl rfl (Nat.le_of_ble_eq_true rfl) ?_
      refine za_iadd dX5_now_108 ?_
      exact za_iret hM dX5_now_109 ⟨by (first | rfl | (unfold p_now; rw [hz]; rfl)), by (first | rfl | (unfold p_now; rw [hz]; rfl))⟩

theorem zout {x : Int32} {n : Nat} (hno : ¬ (nI 0 ≤ x ∧ x ≤ nI n)) (hn : n < 2 ^ 31) : x.toInt < 0 ∨ (n : Int) < x.toInt := by
  have e2 : (nI n).toInt = (n : Int) := nI_toInt hn
  have e1 : (nI 0).toInt = 0 := by decide
  rw [Int32.le_iff_toInt_le, Int32.le_iff_toInt_le, e1, e2] at hno
  omega

set_option maxRecDepth 20000 in
set_option maxHeartbeats 4000000 in
theorem c_now_no {g : zG} {S : zSto} {w : Int32} (hno : ¬ (nI 0 ≤ w ∧ w ≤ nI 6)) : zEd g 8 yX5_now cX5_now 2 (some .int) [.ref (zad g 0), .int w] S (some (.int (zfd 0))) (zfin S 33 0) := by
  refine zev_intro (own := RX5) (lv := [some (.ref (zad g 0)), some (.int w)]) (by decide +kernel) rfl (Nat.le_of_ble_eq_true rfl) rfl (fun C hM hN => ?_)
  refine za_iload_n dX5_now_0 rfl ?_
  skip
  · refine za_tabO 110 dX5_now_1 (zout hno (by decide)) (by decide) ?_
    refine za_aload_n dX5_now_110 rfl ?_
    refine za_iconst (nI 0) dX5_now_111 (by decide) ?_
    refine za_cV1 dX5_now_112 zm_X5_63 zw_X5_finding zv_X5_finding (c_finding (by decide)) (by decide) rfl rfl rfl (Nat.le_of_ble_eq_true rfl) ?_
    exact za_iret hM dX5_now_115 ⟨by rfl, by rfl⟩

set_option maxRecDepth 20000 in
set_option maxHeartbeats 4000000 in
theorem c_person_ok {g : zG} {S : zSto} {τ : zTn} (h1 : zHd S 1 τ) {n : Nat} {k : Int32} (hn : τ 0 3 = nI n) (h8 : n < 8) (hk : nI 0 ≤ k ∧ k ≤ nI 5) : zEd g 8 yX5_person cX5_person 2 (some .int) [.ref (zad g 0), .int k] S (some (.int (nI n))) (zpt S 1 (p_ad τ k)) := by
  refine zev_intro (own := RX5) (lv := [some (.ref (zad g 0)), some (.int k)]) (by decide +kernel) rfl (Nat.le_of_ble_eq_true rfl) rfl (fun C hM hN => ?_)
  refine za_iload_n dX5_person_0 rfl ?_
  refine za_cS1 dX5_person_1 zm_X5_108 zw_X5_isKind zs_X5_isKind (e_isKind _) (by decide) (Nat.le_of_ble_eq_true rfl) ?_
  refine za_if_neB 13 dX5_person_4 (by decide) (fun c4 => ?_) (fun c4 => absurd hk c4)
  refine za_aload_n dX5_person_13 rfl ?_
  refine za_getR dX5_person_14 zf_X5_10 rfl rfl ?_
  refine za_cV0 dX5_person_17 zm_X5_111 zw_X4_isFull zv_X4_isFull (zhold0 h1 (tc_isFull zT1 (by omega) hn)) (by decide) (tn0 zT1) rfl rfl (Nat.le_of_ble_eq_true rfl) ?_
  refine za_if_eqB 29 dX5_person_20 (by decide) (fun c20 => ?_) (fun c20 => absurd c20 (by omega))
  refine za_aload_n dX5_person_29 rfl ?_
  refine za_getR dX5_person_30 zf_X5_10 rfl rfl ?_
  refine za_iload_n dX5_person_33 rfl ?_
  refine za_cV1 dX5_person_34 zm_X5_115 zw_X4_add zv_X4_add (zhold1 h1 (tc_add zT1 h8 hn)) (by decide) (tn0 zT1) rfl rfl (Nat.le_of_ble_eq_true rfl) ?_
  exact za_iret hM dX5_person_37 ⟨by rfl, by rfl⟩

set_option maxRecDepth 20000 in
set_option maxHeartbeats 4000000 in
theorem c_person_full {g : zG} {S : zSto} {τ : zTn} (h1 : zHd S 1 τ) {k : Int32} (hn : τ 0 3 = nI 8) (hk : nI 0 ≤ k ∧ k ≤ nI 5) : zEd g 8 yX5_person cX5_person 2 (some .int) [.ref (zad g 0), .int k] S (some (.int (zfd 1))) (zfin S 33 1) := by
  refine zev_intro (own := RX5) (lv := [some (.ref (zad g 0)), some (.int k)]) (by decide +kernel) rfl (Nat.le_of_ble_eq_true rfl) rfl (fun C hM hN => ?_)
  refine za_iload_n dX5_person_0 rfl ?_
  refine za_cS1 dX5_person_1 zm_X5_108 zw_X5_isKind zs_X5_isKind (e_isKind _) (by decide) (Nat.le_of_ble_eq_true rfl) ?_
  refine za_if_neB 13 dX5_person_4 (by decide) (fun c4 => ?_) (fun c4 => absurd hk c4)
  refine za_aload_n dX5_person_13 rfl ?_
  refine za_getR dX5_person_14 zf_X5_10 rfl rfl ?_
  refine za_cV0 dX5_person_17 zm_X5_111 zw_X4_isFull zv_X4_isFull (zhold0 h1 (tc_isFull zT1 (by decide) hn)) (by decide) (tn0 zT1) rfl rfl (Nat.le_of_ble_eq_true rfl) ?_
  refine za_if_eqB 29 dX5_person_20 (by decide) (fun c20 => absurd rfl c20) (fun c20 => ?_)
  refine za_aload_n dX5_person_23 rfl ?_
  refine za_iconst (nI 1) dX5_person_24 (by decide) ?_
  refine za_cV1 dX5_person_25 zm_X5_63 zw_X5_finding zv_X5_finding (c_finding (by decide)) (by decide) rfl rfl rfl (Nat.le_of_ble_eq_true rfl) ?_
  exact za_iret hM dX5_person_28 ⟨by rfl, by rfl⟩

set_option maxRecDepth 20000 in
set_option maxHeartbeats 4000000 in
theorem c_person_no {g : zG} {S : zSto} {k : Int32} (hno : ¬ (nI 0 ≤ k ∧ k ≤ nI 5)) : zEd g 8 yX5_person cX5_person 2 (some .int) [.ref (zad g 0), .int k] S (some (.int (zfd 0))) (zfin S 33 0) := by
  refine zev_intro (own := RX5) (lv := [some (.ref (zad g 0)), some (.int k)]) (by decide +kernel) rfl (Nat.le_of_ble_eq_true rfl) rfl (fun C hM hN => ?_)
  refine za_iload_n dX5_person_0 rfl ?_
  refine za_cS1 dX5_person_1 zm_X5_108 zw_X5_isKind zs_X5_isKind (e_isKind _) (by decide) (Nat.le_of_ble_eq_true rfl) ?_
  refine za_if_neB 13 dX5_person_4 (by decide) (fun c4 => ?_) (fun c4 => ?_)
  · exact absurd c4 hno
  · refine za_aload_n dX5_person_7 rfl ?_
    refine za_iconst (nI 0) dX5_person_8 (by decide) ?_
    refine za_cV1 dX5_person_9 zm_X5_63 zw_X5_finding zv_X5_finding (c_finding (by decide)) (by decide) rfl rfl rfl (Nat.le_of_ble_eq_true rfl) ?_
    exact za_iret hM dX5_person_12 ⟨by rfl, by rfl⟩

def p_of (τ : zTn) (p w : Nat) : Int32 := match w with
  | 0 => τ 3 p
  | 1 => τ 4 p
  | 2 => τ 5 p
  | 3 => τ 6 p
  | 4 => p_thr (τ 3 p) (τ 5 p)
  | _ => p_earn (τ 3 p)

set_option maxRecDepth 20000 in
set_option maxHeartbeats 4000000 in
theorem c_of_ok {g : zG} {S : zSto} {τ : zTn} (h1 : zHd S 1 τ) (hI : zTI 100000 τ) {n p : Nat} (hn : τ 0 3 = nI n) (h9 : n < 9) (hpn : p < n) {w : Nat} (hw : w ≤ 5) : zEd g 8 yX5_of cX5_of 3 (some .int) [.ref (zad g 0), .int (nI p), .int (nI w)] S (some (.int (p_of τ p w))) S := by
  refine zev_intro (own := RX5) (lv := [some (.ref (zad g 0)), some (.int (nI p)), some (.int (nI w))]) (by decide +kernel) rfl (Nat.le_of_ble_eq_true rfl) rfl (fun C hM hN => ?_)
  have hp : p < 8 := by omega
  have hP := zper hn h9 hpn
  obtain rfl | rfl | rfl | rfl | rfl | rfl := zlt6 (show w < 6 by omega)
  · refine za_aload_n dX5_of_0 rfl ?_
    refine za_iload_n dX5_of_1 rfl ?_
    refine za_cV1 dX5_of_2 zm_X5_118 zw_X5_isPerson zv_X5_isPerson (c_isPerson h1) (by decide) rfl rfl rfl (Nat.le_of_ble_eq_true rfl) ?_
    refine za_if_neB 14 dX5_of_5 (by decide) (fun c5 => ?_) (fun c5 => absurd hP c5)
    refine za_iload_n dX5_of_14 rfl ?_
    skip
    · refine za_tabK (37) 52 dX5_of_15 (by decide) (by decide) (by decide) (by decide) ?_
      refine za_aload_n dX5_of_52 rfl ?_
      refine za_getR dX5_of_53 zf_X5_10 rfl rfl ?_
      refine za_getR dX5_of_56 zf_X5_121 (tn0 zT1) rfl ?_
      refine za_iload_n dX5_of_59 rfl ?_
      refine zh_iald zT1 (by first | exact h1 | exact zHd_8 h1) (by decide) dX5_of_60 (zv3 (by omega)) ?_
      exact za_iret hM dX5_of_61 ⟨by rfl, by rfl⟩
  · refine za_aload_n dX5_of_0 rfl ?_
    refine za_iload_n dX5_of_1 rfl ?_
    refine za_cV1 dX5_of_2 zm_X5_118 zw_X5_isPerson zv_X5_isPerson (c_isPerson h1) (by decide) rfl rfl rfl (Nat.le_of_ble_eq_true rfl) ?_
    refine za_if_neB 14 dX5_of_5 (by decide) (fun c5 => ?_) (fun c5 => absurd hP c5)
    refine za_iload_n dX5_of_14 rfl ?_
    skip
    · refine za_tabK (47) 62 dX5_of_15 (by decide) (by decide) (by decide) (by decide) ?_
      refine za_aload_n dX5_of_62 rfl ?_
      refine za_getR dX5_of_63 zf_X5_10 rfl rfl ?_
      refine za_getR dX5_of_66 zf_X5_124 (tn0 zT1) rfl ?_
      refine za_iload_n dX5_of_69 rfl ?_
      refine zh_iald zT1 (by first | exact h1 | exact zHd_8 h1) (by decide) dX5_of_70 (zv4 (by omega)) ?_
      exact za_iret hM dX5_of_71 ⟨by rfl, by rfl⟩
  · refine za_aload_n dX5_of_0 rfl ?_
    refine za_iload_n dX5_of_1 rfl ?_
    refine za_cV1 dX5_of_2 zm_X5_118 zw_X5_isPerson zv_X5_isPerson (c_isPerson h1) (by decide) rfl rfl rfl (Nat.le_of_ble_eq_true rfl) ?_
    refine za_if_neB 14 dX5_of_5 (by decide) (fun c5 => ?_) (fun c5 => absurd hP c5)
    refine za_iload_n dX5_of_14 rfl ?_
    skip
    · refine za_tabK (57) 72 dX5_of_15 (by decide) (by decide) (by decide) (by decide) ?_
      refine za_aload_n dX5_of_72 rfl ?_
      refine za_getR dX5_of_73 zf_X5_10 rfl rfl ?_
      refine za_getR dX5_of_76 zf_X5_127 (tn0 zT1) rfl ?_
      refine za_iload_n dX5_of_79 rfl ?_
      refine zh_iald zT1 (by first | exact h1 | exact zHd_8 h1) (by decide) dX5_of_80 (zv5 (by omega)) ?_
      exact za_iret hM dX5_of_81 ⟨by rfl, by rfl⟩
  · refine za_aload_n dX5_of_0 rfl ?_
    refine za_iload_n dX5_of_1 rfl ?_
    refine za_cV1 dX5_of_2 zm_X5_118 zw_X5_isPerson zv_X5_isPerson (c_isPerson h1) (by decide) rfl rfl rfl (Nat.le_of_ble_eq_true rfl) ?_
    refine za_if_neB 14 dX5_of_5 (by decide) (fun c5 => ?_) (fun c5 => absurd hP c5)
    refine za_iload_n dX5_of_14 rfl ?_
    skip
    · refine za_tabK (67) 82 dX5_of_15 (by decide) (by decide) (by decide) (by decide) ?_
      refine za_aload_n dX5_of_82 rfl ?_
      refine za_getR dX5_of_83 zf_X5_10 rfl rfl ?_
      refine za_getR dX5_of_86 zf_X5_130 (tn0 zT1) rfl ?_
      refine za_iload_n dX5_of_89 rfl ?_
      refine zh_iald zT1 (by first | exact h1 | exact zHd_8 h1) (by decide) dX5_of_90 (zv6 (by omega)) ?_
      exact za_iret hM dX5_of_91 ⟨by rfl, by rfl⟩
  · refine za_aload_n dX5_of_0 rfl ?_
    refine za_iload_n dX5_of_1 rfl ?_
    refine za_cV1 dX5_of_2 zm_X5_118 zw_X5_isPerson zv_X5_isPerson (c_isPerson h1) (by decide) rfl rfl rfl (Nat.le_of_ble_eq_true rfl) ?_
    refine za_if_neB 14 dX5_of_5 (by decide) (fun c5 => ?_) (fun c5 => absurd hP c5)
    refine za_iload_n dX5_of_14 rfl ?_
    skip
    · refine za_tabK (77) 92 dX5_of_15 (by decide) (by decide) (by decide) (by decide) ?_
      refine za_aload_n dX5_of_92 rfl ?_
      refine za_getR dX5_of_93 zf_X5_10 rfl rfl ?_
      refine za_iload_n dX5_of_96 rfl ?_
      refine za_cV1 dX5_of_97 zm_X5_133 zw_X4_throwsOf zv_X4_throwsOf (zhold0 h1 (tc_throwsOf zT1 hp (hI.2.2.2.2.2.2.1 p hp))) (by decide) (tn0 zT1) rfl rfl (Nat.le_of_ble_eq_true rfl) ?_
      exact za_iret hM dX5_of_100 ⟨by rfl, by rfl⟩
  · refine za_aload_n dX5_of_0 rfl ?_
    refine za_iload_n dX5_of_1 rfl ?_
    refine za_cV1 dX5_of_2 zm_X5_118 zw_X5_isPerson zv_X5_isPerson (c_isPerson h1) (by decide) rfl rfl rfl (Nat.le_of_ble_eq_true rfl) ?_
    refine za_if_neB 14 dX5_of_5 (by decide) (fun c5 => ?_) (fun c5 => absurd hP c5)
    refine za_iload_n dX5_of_14 rfl ?_
    skip
    · refine za_tabK (86) 101 dX5_of_15 (by decide) (by decide) (by decide) (by decide) ?_
      refine za_aload_n dX5_of_101 rfl ?_
      refine za_getR dX5_of_102 zf_X5_10 rfl rfl ?_
      refine za_getR dX5_of_105 zf_X5_121 (tn0 zT1) rfl ?_
      refine za_iload_n dX5_of_108 rfl ?_
      refine zh_iald zT1 (by first | exact h1 | exact zHd_8 h1) (by decide) dX5_of_109 (zv3 (by omega)) ?_
      refine za_cS1 dX5_of_110 zm_X5_136 zw_X0_earns zs_X0_earns (e_earns (hI.2.2.2.2.2.2.1 p hp)) (by decide) (Nat.le_of_ble_eq_true rfl) ?_
      exact za_iret hM dX5_of_113 ⟨by rfl, by rfl⟩

set_option maxRecDepth 20000 in
set_option maxHeartbeats 4000000 in
theorem c_of_no {g : zG} {S : zSto} {τ : zTn} (h1 : zHd S 1 τ) {v w : Int32} {n : Nat} (hn : τ 0 3 = nI n) (h9 : n < 9) (hno : ¬ ((nI 0 ≤ v ∧ v ≤ τ 0 3 - nI 1) ∧ (nI 0 ≤ w ∧ w ≤ nI 5))) : zEd g 8 yX5_of cX5_of 3 (some .int) [.ref (zad g 0), .int v, .int w] S (some (.int (zfd 0))) (zfin S 33 0) := by
  refine zev_intro (own := RX5) (lv := [some (.ref (zad g 0)), some (.int v), some (.int w)]) (by decide +kernel) rfl (Nat.le_of_ble_eq_true rfl) rfl (fun C hM hN => ?_)
  refine za_aload_n dX5_of_0 rfl ?_
  refine za_iload_n dX5_of_1 rfl ?_
  refine za_cV1 dX5_of_2 zm_X5_118 zw_X5_isPerson zv_X5_isPerson (c_isPerson h1) (by decide) rfl rfl rfl (Nat.le_of_ble_eq_true rfl) ?_
  refine za_if_neB 14 dX5_of_5 (by decide) (fun c5 => ?_) (fun c5 => ?_)
  · refine za_iload_n dX5_of_14 rfl ?_
    skip
    · refine za_tabO 114 dX5_of_15 (zout (fun z => hno ⟨c5, z⟩) (by decide)) (by decide) ?_
      refine za_aload_n dX5_of_114 rfl ?_
      refine za_iconst (nI 0) dX5_of_115 (by decide) ?_
      refine za_cV1 dX5_of_116 zm_X5_63 zw_X5_finding zv_X5_finding (c_finding (by decide)) (by decide) rfl rfl rfl (Nat.le_of_ble_eq_true rfl) ?_
      exact za_iret hM dX5_of_119 ⟨by rfl, by rfl⟩
  · refine za_aload_n dX5_of_8 rfl ?_
    refine za_iconst (nI 0) dX5_of_9 (by decide) ?_
    refine za_cV1 dX5_of_10 zm_X5_63 zw_X5_finding zv_X5_finding (c_finding (by decide)) (by decide) rfl rfl rfl (Nat.le_of_ble_eq_true rfl) ?_
    exact za_iret hM dX5_of_13 ⟨by rfl, by rfl⟩

set_option maxRecDepth 20000 in
set_option maxHeartbeats 4000000 in
theorem c_acts0 {g : zG} {S : zSto} {τ : zTn} (h1 : zHd S 1 τ) (hI : zTI 100000 τ) {n p : Nat} (hn : τ 0 3 = nI n) (h9 : n < 9) (hpn : p < n) {q : Nat} (hq : q < 6) : zEd g 8 yX5_acts cX5_acts 4 (some .int) [.ref (zad g 0), .int (nI p), .int (nI q), .int (nI 0)] S (some (.int (nI (p_side τ p q)))) S := by
  refine zev_intro (own := RX5) (lv := [some (.ref (zad g 0)), some (.int (nI p)), some (.int (nI q)), some (.int (nI 0))]) (by decide +kernel) rfl (Nat.le_of_ble_eq_true rfl) rfl (fun C hM hN => ?_)
  have hp : p < 8 := by omega
  have hP := zper hn h9 hpn
  refine za_aload_n dX5_acts_0 rfl ?_
  refine za_iload_n dX5_acts_1 rfl ?_
  refine za_cV1 dX5_acts_2 zm_X5_118 zw_X5_isPerson zv_X5_isPerson (c_isPerson h1) (by decide) rfl rfl rfl (Nat.le_of_ble_eq_true rfl) ?_
  refine za_if_eqB 24 dX5_acts_5 (by decide) (fun c5 => absurd hP c5) (fun c5 => ?_)
  refine za_iload_n dX5_acts_8 rfl ?_
  refine za_cS1 dX5_acts_9 zm_X5_53 zw_X5_isQuestion zs_X5_isQuestion (e_isQuestion _) (by decide) (Nat.le_of_ble_eq_true rfl) ?_
  refine za_if_eqB 24 dX5_acts_12 (by decide) (fun c12 => absurd (zrng (Nat.zero_le _) (by omega) (by decide)) c12) (fun c12 => ?_)
  refine za_iload_n dX5_acts_15 rfl ?_
  refine za_iconst (nI 0) dX5_acts_16 (by decide) ?_
  refine za_iconst (nI 1) dX5_acts_17 (by decide) ?_
  refine za_cS3 dX5_acts_18 zm_X5_75 zw_X5_isWithin zs_X5_isWithin (e_isWithin _ _ _) (by decide) (Nat.le_of_ble_eq_true rfl) ?_
  refine za_if_neB 30 dX5_acts_21 (by decide) (fun c21 => ?_) (fun c21 => absurd (by decide) c21)
  refine za_iload_n dX5_acts_30 rfl ?_
  refine za_if_ne 46 dX5_acts_31 (by decide) (fun c31 => absurd (by decide) c31) (fun c31 => ?_)
  refine za_aload_n dX5_acts_34 rfl ?_
  refine za_getR dX5_acts_35 zf_X5_10 rfl rfl ?_
  refine za_iload_n dX5_acts_38 rfl ?_
  refine za_iload_n dX5_acts_39 rfl ?_
  refine za_cV2 dX5_acts_40 zm_X5_141 zw_X4_sideOf zv_X4_sideOf (zhold0 h1 (tc_sideOf zT1 hp hq (hI.2.2.2.2.2.2.1 p hp) hI.2.2.1 hI.1 (by decide))) (by decide) (tn0 zT1) rfl rfl (Nat.le_of_ble_eq_true rfl) ?_
  refine za_goto 55 dX5_acts_43 (by decide) ?_
  exact za_iret hM dX5_acts_55 ⟨by rfl, by rfl⟩

set_option maxRecDepth 20000 in
set_option maxHeartbeats 4000000 in
theorem c_acts1 {g : zG} {S : zSto} {τ : zTn} (h1 : zHd S 1 τ) (hI : zTI 100000 τ) {n p : Nat} (hn : τ 0 3 = nI n) (h9 : n < 9) (hpn : p < n) {q : Nat} (hq : q < 6) : zEd g 8 yX5_acts cX5_acts 4 (some .int) [.ref (zad g 0), .int (nI p), .int (nI q), .int (nI 1)] S (some (.int (p_div (τ 3 p) (τ 1 q) (τ 2 q)))) S := by
  refine zev_intro (own := RX5) (lv := [some (.ref (zad g 0)), some (.int (nI p)), some (.int (nI q)), some (.int (nI 1))]) (by decide +kernel) rfl (Nat.le_of_ble_eq_true rfl) rfl (fun C hM hN => ?_)
  have hp : p < 8 := by omega
  have hP := zper hn h9 hpn
  refine za_aload_n dX5_acts_0 rfl ?_
  refine za_iload_n dX5_acts_1 rfl ?_
  refine za_cV1 dX5_acts_2 zm_X5_118 zw_X5_isPerson zv_X5_isPerson (c_isPerson h1) (by decide) rfl rfl rfl (Nat.le_of_ble_eq_true rfl) ?_
  refine za_if_eqB 24 dX5_acts_5 (by decide) (fun c5 => absurd hP c5) (fun c5 => ?_)
  refine za_iload_n dX5_acts_8 rfl ?_
  refine za_cS1 dX5_acts_9 zm_X5_53 zw_X5_isQuestion zs_X5_isQuestion (e_isQuestion _) (by decide) (Nat.le_of_ble_eq_true rfl) ?_
  refine za_if_eqB 24 dX5_acts_12 (by decide) (fun c12 => absurd (zrng (Nat.zero_le _) (by omega) (by decide)) c12) (fun c12 => ?_)
  refine za_iload_n dX5_acts_15 rfl ?_
  refine za_iconst (nI 0) dX5_acts_16 (by decide) ?_
  refine za_iconst (nI 1) dX5_acts_17 (by decide) ?_
  refine za_cS3 dX5_acts_18 zm_X5_75 zw_X5_isWithin zs_X5_isWithin (e_isWithin _ _ _) (by decide) (Nat.le_of_ble_eq_true rfl) ?_
  refine za_if_neB 30 dX5_acts_21 (by decide) (fun c21 => ?_) (fun c21 => absurd (by decide) c21)
  refine za_iload_n dX5_acts_30 rfl ?_
  refine za_if_ne 46 dX5_acts_31 (by decide) (fun c31 => ?_) (fun c31 => absurd c31 (by decide))
  refine za_aload_n dX5_acts_46 rfl ?_
  refine za_getR dX5_acts_47 zf_X5_10 rfl rfl ?_
  refine za_iload_n dX5_acts_50 rfl ?_
  refine za_iload_n dX5_acts_51 rfl ?_
  refine za_cV2 dX5_acts_52 zm_X5_144 zw_X4_divesOf zv_X4_divesOf (zhold0 h1 (tc_divesOf zT1 hp hq (hI.2.2.2.2.2.2.1 p hp))) (by decide) (tn0 zT1) rfl rfl (Nat.le_of_ble_eq_true rfl) ?_
  exact za_iret hM dX5_acts_55 ⟨by rfl, by rfl⟩

set_option maxRecDepth 20000 in
set_option maxHeartbeats 4000000 in
theorem c_acts_no {g : zG} {S : zSto} {τ : zTn} (h1 : zHd S 1 τ) {v q w : Int32} (hno : ¬ ((nI 0 ≤ v ∧ v ≤ τ 0 3 - nI 1) ∧ (nI 0 ≤ q ∧ q ≤ nI 5) ∧ (nI 0 ≤ w ∧ w ≤ nI 1))) : zEd g 8 yX5_acts cX5_acts 4 (some .int) [.ref (zad g 0), .int v, .int q, .int w] S (some (.int (zfd 0))) (zfin S 33 0) := by
  refine zev_intro (own := RX5) (lv := [some (.ref (zad g 0)), some (.int v), some (.int q), some (.int w)]) (by decide +kernel) rfl (Nat.le_of_ble_eq_true rfl) rfl (fun C hM hN => ?_)
  refine za_aload_n dX5_acts_0 rfl ?_
  refine za_iload_n dX5_acts_1 rfl ?_
  refine za_cV1 dX5_acts_2 zm_X5_118 zw_X5_isPerson zv_X5_isPerson (c_isPerson h1) (by decide) rfl rfl rfl (Nat.le_of_ble_eq_true rfl) ?_
  refine za_if_eqB 24 dX5_acts_5 (by decide) (fun c5 => ?_) (fun c5 => ?_)
  · refine za_aload_n dX5_acts_24 rfl ?_
    refine za_iconst (nI 0) dX5_acts_25 (by decide) ?_
    refine za_cV1 dX5_acts_26 zm_X5_63 zw_X5_finding zv_X5_finding (c_finding (by decide)) (by decide) rfl rfl rfl (Nat.le_of_ble_eq_true rfl) ?_
    exact za_iret hM dX5_acts_29 ⟨by rfl, by rfl⟩
  · refine za_iload_n dX5_acts_8 rfl ?_
    refine za_cS1 dX5_acts_9 zm_X5_53 zw_X5_isQuestion zs_X5_isQuestion (e_isQuestion _) (by decide) (Nat.le_of_ble_eq_true rfl) ?_
    refine za_if_eqB 24 dX5_acts_12 (by decide) (fun c12 => ?_) (fun c12 => ?_)
    · refine za_aload_n dX5_acts_24 rfl ?_
      refine za_iconst (nI 0) dX5_acts_25 (by decide) ?_
      refine za_cV1 dX5_acts_26 zm_X5_63 zw_X5_finding zv_X5_finding (c_finding (by decide)) (by decide) rfl rfl rfl (Nat.le_of_ble_eq_true rfl) ?_
      exact za_iret hM dX5_acts_29 ⟨by rfl, by rfl⟩
    · refine za_iload_n dX5_acts_15 rfl ?_
      refine za_iconst (nI 0) dX5_acts_16 (by decide) ?_
      refine za_iconst (nI 1) dX5_acts_17 (by decide) ?_
      refine za_cS3 dX5_acts_18 zm_X5_75 zw_X5_isWithin zs_X5_isWithin (e_isWithin _ _ _) (by decide) (Nat.le_of_ble_eq_true rfl) ?_
      refine za_if_neB 30 dX5_acts_21 (by decide) (fun c21 => ?_) (fun c21 => ?_)
      · exact absurd ⟨c5, c12, c21⟩ hno
      · refine za_aload_n dX5_acts_24 rfl ?_
        refine za_iconst (nI 0) dX5_acts_25 (by decide) ?_
        refine za_cV1 dX5_acts_26 zm_X5_63 zw_X5_finding zv_X5_finding (c_finding (by decide)) (by decide) rfl rfl rfl (Nat.le_of_ble_eq_true rfl) ?_
        exact za_iret hM dX5_acts_29 ⟨by rfl, by rfl⟩

set_option maxRecDepth 20000 in
set_option maxHeartbeats 4000000 in
theorem c_change {g : zG} {S : zSto} {τ : zTn} (h1 : zHd S 1 τ) {a p : Nat} {v : Int32} (ha : 3 ≤ a) (ha7 : a < 7) (hp : p < 8) : zEd g 0 yX5_change cX5_change 4 (some .int) [.ref (zad g (1 + a)), .int (nI p), .int v] S (some (.int (τ a p))) (zpt S 1 (zup τ a p v)) := by
  refine zev_intro (own := RX5) (lv := [some (.ref (zad g (1 + a))), some (.int (nI p)), some (.int v), none]) (by decide +kernel) rfl (Nat.le_of_ble_eq_true rfl) rfl (fun C hM hN => ?_)
  refine za_aload_n dX5_change_0 rfl ?_
  refine za_iload_n dX5_change_1 rfl ?_
  refine zh_iald zT1 h1 (by omega) dX5_change_2 (zvp hp ha ha7) ?_
  refine za_istore_n (lv' := [_, _, _, _]) dX5_change_3 hN (by decide) rfl ?_
  refine za_aload_n dX5_change_4 rfl ?_
  refine za_iload_n dX5_change_5 rfl ?_
  refine za_iload_n dX5_change_6 rfl ?_
  refine zh_iast zT1 h1 (by omega) dX5_change_7 (zvp hp ha ha7) ?_
  refine za_iload_n dX5_change_8 rfl ?_
  exact za_iret hM dX5_change_9 ⟨by rfl, by rfl⟩

set_option maxRecDepth 20000 in
set_option maxHeartbeats 4000000 in
theorem c_set1 {g : zG} {S : zSto} {τ : zTn} (h1 : zHd S 1 τ) {n p : Nat} (hn : τ 0 3 = nI n) (h9 : n < 9) (hpn : p < n) {v : Int32} (hv : nI 0 ≤ v ∧ v ≤ nI 63) : zEd g 8 yX5_set cX5_set 4 (some .int) [.ref (zad g 0), .int (nI p), .int (nI 1), .int v] S (some (.int (τ 4 p))) (zpt S 1 (zup τ 4 p v)) := by
  refine zev_intro (own := RX5) (lv := [some (.ref (zad g 0)), some (.int (nI p)), some (.int (nI 1)), some (.int v)]) (by decide +kernel) rfl (Nat.le_of_ble_eq_true rfl) rfl (fun C hM hN => ?_)
  have hp : p < 8 := by omega
  have hP := zper hn h9 hpn
  refine za_aload_n dX5_set_0 rfl ?_
  refine za_iload_n dX5_set_1 rfl ?_
  refine za_cV1 dX5_set_2 zm_X5_118 zw_X5_isPerson zv_X5_isPerson (c_isPerson h1) (by decide) rfl rfl rfl (Nat.le_of_ble_eq_true rfl) ?_
  refine za_if_neB 14 dX5_set_5 (by decide) (fun c5 => ?_) (fun c5 => absurd hP c5)
  refine za_iload_n dX5_set_14 rfl ?_
  refine za_iconst (nI 1) dX5_set_15 (by decide) ?_
  refine za_icmp_ne 39 dX5_set_16 (by decide) (fun c16 => absurd (by decide) c16) (fun c16 => ?_)
  refine za_iload_n dX5_set_19 rfl ?_
  refine za_cS1 dX5_set_20 zm_X5_86 zw_X5_isSet zs_X5_isSet (e_isSet _) (by decide) (Nat.le_of_ble_eq_true rfl) ?_
  refine za_if_eqB 39 dX5_set_23 (by decide) (fun c23 => absurd hv c23) (fun c23 => ?_)
  refine za_aload_n dX5_set_26 rfl ?_
  refine za_getR dX5_set_27 zf_X5_10 rfl rfl ?_
  refine za_getR dX5_set_30 zf_X5_124 (tn0 zT1) rfl ?_
  refine za_iload_n dX5_set_33 rfl ?_
  refine za_iload_n dX5_set_34 rfl ?_
  refine za_cS3 dX5_set_35 zm_X5_147 zw_X5_change zs_X5_change (c_change h1 (by decide) (by decide) hp) (by decide) (Nat.le_of_ble_eq_true rfl) ?_
  exact za_iret hM dX5_set_38 ⟨by rfl, by rfl⟩

set_option maxRecDepth 20000 in
set_option maxHeartbeats 4000000 in
theorem c_set2 {g : zG} {S : zSto} {τ : zTn} (h1 : zHd S 1 τ) {n p : Nat} (hn : τ 0 3 = nI n) (h9 : n < 9) (hpn : p < n) {v : Int32} (hv : nI 0 ≤ v ∧ v ≤ nI 9999) : zEd g 8 yX5_set cX5_set 4 (some .int) [.ref (zad g 0), .int (nI p), .int (nI 2), .int v] S (some (.int (τ 5 p))) (zpt S 1 (zup τ 5 p v)) := by
  refine zev_intro (own := RX5) (lv := [some (.ref (zad g 0)), some (.int (nI p)), some (.int (nI 2)), some (.int v)]) (by decide +kernel) rfl (Nat.le_of_ble_eq_true rfl) rfl (fun C hM hN => ?_)
  have hp : p < 8 := by omega
  have hP := zper hn h9 hpn
  refine za_aload_n dX5_set_0 rfl ?_
  refine za_iload_n dX5_set_1 rfl ?_
  refine za_cV1 dX5_set_2 zm_X5_118 zw_X5_isPerson zv_X5_isPerson (c_isPerson h1) (by decide) rfl rfl rfl (Nat.le_of_ble_eq_true rfl) ?_
  refine za_if_neB 14 dX5_set_5 (by decide) (fun c5 => ?_) (fun c5 => absurd hP c5)
  refine za_iload_n dX5_set_14 rfl ?_
  refine za_iconst (nI 1) dX5_set_15 (by decide) ?_
  refine za_icmp_ne 39 dX5_set_16 (by decide) (fun c16 => ?_) (fun c16 => absurd c16 (by decide))
  refine za_iload_n dX5_set_39 rfl ?_
  refine za_iconst (nI 2) dX5_set_40 (by decide) ?_
  refine za_icmp_ne 64 dX5_set_41 (by decide) (fun c41 => absurd (by decide) c41) (fun c41 => ?_)
  refine za_iload_n dX5_set_44 rfl ?_
  refine za_cS1 dX5_set_45 zm_X5_60 zw_X5_isPence zs_X5_isPence (e_isPence _) (by decide) (Nat.le_of_ble_eq_true rfl) ?_
  refine za_if_eqB 64 dX5_set_48 (by decide) (fun c48 => absurd hv c48) (fun c48 => ?_)
  refine za_aload_n dX5_set_51 rfl ?_
  refine za_getR dX5_set_52 zf_X5_10 rfl rfl ?_
  refine za_getR dX5_set_55 zf_X5_127 (tn0 zT1) rfl ?_
  refine za_iload_n dX5_set_58 rfl ?_
  refine za_iload_n dX5_set_59 rfl ?_
  refine za_cS3 dX5_set_60 zm_X5_147 zw_X5_change zs_X5_change (c_change h1 (by decide) (by decide) hp) (by decide) (Nat.le_of_ble_eq_true rfl) ?_
  exact za_iret hM dX5_set_63 ⟨by rfl, by rfl⟩

set_option maxRecDepth 20000 in
set_option maxHeartbeats 4000000 in
theorem c_set3 {g : zG} {S : zSto} {τ : zTn} (h1 : zHd S 1 τ) {n p : Nat} (hn : τ 0 3 = nI n) (h9 : n < 9) (hpn : p < n) {v : Int32} (hv : nI 0 ≤ v ∧ v ≤ nI 1) : zEd g 8 yX5_set cX5_set 4 (some .int) [.ref (zad g 0), .int (nI p), .int (nI 3), .int v] S (some (.int (τ 6 p))) (zpt S 1 (zup τ 6 p v)) := by
  refine zev_intro (own := RX5) (lv := [some (.ref (zad g 0)), some (.int (nI p)), some (.int (nI 3)), some (.int v)]) (by decide +kernel) rfl (Nat.le_of_ble_eq_true rfl) rfl (fun C hM hN => ?_)
  have hp : p < 8 := by omega
  have hP := zper hn h9 hpn
  refine za_aload_n dX5_set_0 rfl ?_
  refine za_iload_n dX5_set_1 rfl ?_
  refine za_cV1 dX5_set_2 zm_X5_118 zw_X5_isPerson zv_X5_isPerson (c_isPerson h1) (by decide) rfl rfl rfl (Nat.le_of_ble_eq_true rfl) ?_
  refine za_if_neB 14 dX5_set_5 (by decide) (fun c5 => ?_) (fun c5 => absurd hP c5)
  refine za_iload_n dX5_set_14 rfl ?_
  refine za_iconst (nI 1) dX5_set_15 (by decide) ?_
  refine za_icmp_ne 39 dX5_set_16 (by decide) (fun c16 => ?_) (fun c16 => absurd c16 (by decide))
  refine za_iload_n dX5_set_39 rfl ?_
  refine za_iconst (nI 2) dX5_set_40 (by decide) ?_
  refine za_icmp_ne 64 dX5_set_41 (by decide) (fun c41 => ?_) (fun c41 => absurd c41 (by decide))
  refine za_iload_n dX5_set_64 rfl ?_
  refine za_iconst (nI 3) dX5_set_65 (by decide) ?_
  refine za_icmp_ne 91 dX5_set_66 (by decide) (fun c66 => absurd (by decide) c66) (fun c66 => ?_)
  refine za_iload_n dX5_set_69 rfl ?_
  refine za_iconst (nI 0) dX5_set_70 (by decide) ?_
  refine za_iconst (nI 1) dX5_set_71 (by decide) ?_
  refine za_cS3 dX5_set_72 zm_X5_75 zw_X5_isWithin zs_X5_isWithin (e_isWithin _ _ _) (by decide) (Nat.le_of_ble_eq_true rfl) ?_
  refine za_if_eqB 91 dX5_set_75 (by decide) (fun c75 => absurd hv c75) (fun c75 => ?_)
  refine za_aload_n dX5_set_78 rfl ?_
  refine za_getR dX5_set_79 zf_X5_10 rfl rfl ?_
  refine za_getR dX5_set_82 zf_X5_130 (tn0 zT1) rfl ?_
  refine za_iload_n dX5_set_85 rfl ?_
  refine za_iload_n dX5_set_86 rfl ?_
  refine za_cS3 dX5_set_87 zm_X5_147 zw_X5_change zs_X5_change (c_change h1 (by decide) (by decide) hp) (by decide) (Nat.le_of_ble_eq_true rfl) ?_
  exact za_iret hM dX5_set_90 ⟨by rfl, by rfl⟩

set_option maxRecDepth 20000 in
set_option maxHeartbeats 4000000 in
theorem c_set_no {g : zG} {S : zSto} {τ : zTn} (h1 : zHd S 1 τ) {v w u : Int32} (hno : ¬ ((nI 0 ≤ v ∧ v ≤ τ 0 3 - nI 1) ∧ ((w = nI 1 ∧ (nI 0 ≤ u ∧ u ≤ nI 63)) ∨ (w = nI 2 ∧ (nI 0 ≤ u ∧ u ≤ nI 9999)) ∨ (w = nI 3 ∧ (nI 0 ≤ u ∧ u ≤ nI 1))))) : zEd g 8 yX5_set cX5_set 4 (some .int) [.ref (zad g 0), .int v, .int w, .int u] S (some (.int (zfd 0))) (zfin S 33 0) := by
  refine zev_intro (own := RX5) (lv := [some (.ref (zad g 0)), some (.int v), some (.int w), some (.int u)]) (by decide +kernel) rfl (Nat.le_of_ble_eq_true rfl) rfl (fun C hM hN => ?_)
  refine za_aload_n dX5_set_0 rfl ?_
  refine za_iload_n dX5_set_1 rfl ?_
  refine za_cV1 dX5_set_2 zm_X5_118 zw_X5_isPerson zv_X5_isPerson (c_isPerson h1) (by decide) rfl rfl rfl (Nat.le_of_ble_eq_true rfl) ?_
  refine za_if_neB 14 dX5_set_5 (by decide) (fun c5 => ?_) (fun c5 => ?_)
  · refine za_iload_n dX5_set_14 rfl ?_
    refine za_iconst (nI 1) dX5_set_15 (by decide) ?_
    refine za_icmp_ne 39 dX5_set_16 (by decide) (fun c16 => ?_) (fun c16 => ?_)
    · refine za_iload_n dX5_set_39 rfl ?_
      refine za_iconst (nI 2) dX5_set_40 (by decide) ?_
      refine za_icmp_ne 64 dX5_set_41 (by decide) (fun c41 => ?_) (fun c41 => ?_)
      · refine za_iload_n dX5_set_64 rfl ?_
        refine za_iconst (nI 3) dX5_set_65 (by decide) ?_
        refine za_icmp_ne 91 dX5_set_66 (by decide) (fun c66 => ?_) (fun c66 => ?_)
        · refine za_aload_n dX5_set_91 rfl ?_
          refine za_iconst (nI 0) dX5_set_92 (by decide) ?_
          refine za_cV1 dX5_set_93 zm_X5_63 zw_X5_finding zv_X5_finding (c_finding (by decide)) (by decide) rfl rfl rfl (Nat.le_of_ble_eq_true rfl) ?_
          exact za_iret hM dX5_set_96 ⟨by rfl, by rfl⟩
        · refine za_iload_n dX5_set_69 rfl ?_
          refine za_iconst (nI 0) dX5_set_70 (by decide) ?_
          refine za_iconst (nI 1) dX5_set_71 (by decide) ?_
          refine za_cS3 dX5_set_72 zm_X5_75 zw_X5_isWithin zs_X5_isWithin (e_isWithin _ _ _) (by decide) (Nat.le_of_ble_eq_true rfl) ?_
          refine za_if_eqB 91 dX5_set_75 (by decide) (fun c75 => ?_) (fun c75 => ?_)
          · refine za_aload_n dX5_set_91 rfl ?_
            refine za_iconst (nI 0) dX5_set_92 (by decide) ?_
            refine za_cV1 dX5_set_93 zm_X5_63 zw_X5_finding zv_X5_finding (c_finding (by decide)) (by decide) rfl rfl rfl (Nat.le_of_ble_eq_true rfl) ?_
            exact za_iret hM dX5_set_96 ⟨by rfl, by rfl⟩
          · exact absurd ⟨c5, Or.inr (Or.inr ⟨c66, c75⟩)⟩ hno
      · refine za_iload_n dX5_set_44 rfl ?_
        refine za_cS1 dX5_set_45 zm_X5_60 zw_X5_isPence zs_X5_isPence (e_isPence _) (by decide) (Nat.le_of_ble_eq_true rfl) ?_
        refine za_if_eqB 64 dX5_set_48 (by decide) (fun c48 => ?_) (fun c48 => ?_)
        · refine za_iload_n dX5_set_64 rfl ?_
          refine za_iconst (nI 3) dX5_set_65 (by decide) ?_
          refine za_icmp_ne 91 dX5_set_66 (by decide) (fun c66 => ?_) (fun c66 => ?_)
          · refine za_aload_n dX5_set_91 rfl ?_
            refine za_iconst (nI 0) dX5_set_92 (by decide) ?_
            refine za_cV1 dX5_set_93 zm_X5_63 zw_X5_finding zv_X5_finding (c_finding (by decide)) (by decide) rfl rfl rfl (Nat.le_of_ble_eq_true rfl) ?_
            exact za_iret hM dX5_set_96 ⟨by rfl, by rfl⟩
          · refine za_iload_n dX5_set_69 rfl ?_
            refine za_iconst (nI 0) dX5_set_70 (by decide) ?_
            refine za_iconst (nI 1) dX5_set_71 (by decide) ?_
            refine za_cS3 dX5_set_72 zm_X5_75 zw_X5_isWithin zs_X5_isWithin (e_isWithin _ _ _) (by decide) (Nat.le_of_ble_eq_true rfl) ?_
            refine za_if_eqB 91 dX5_set_75 (by decide) (fun c75 => ?_) (fun c75 => ?_)
            · refine za_aload_n dX5_set_91 rfl ?_
              refine za_iconst (nI 0) dX5_set_92 (by decide) ?_
              refine za_cV1 dX5_set_93 zm_X5_63 zw_X5_finding zv_X5_finding (c_finding (by decide)) (by decide) rfl rfl rfl (Nat.le_of_ble_eq_true rfl) ?_
              exact za_iret hM dX5_set_96 ⟨by rfl, by rfl⟩
            · exact absurd ⟨c5, Or.inr (Or.inr ⟨c66, c75⟩)⟩ hno
        · exact absurd ⟨c5, Or.inr (Or.inl ⟨c41, c48⟩)⟩ hno
    · refine za_iload_n dX5_set_19 rfl ?_
      refine za_cS1 dX5_set_20 zm_X5_86 zw_X5_isSet zs_X5_isSet (e_isSet _) (by decide) (Nat.le_of_ble_eq_true rfl) ?_
      refine za_if_eqB 39 dX5_set_23 (by decide) (fun c23 => ?_) (fun c23 => ?_)
      · refine za_iload_n dX5_set_39 rfl ?_
        refine za_iconst (nI 2) dX5_set_40 (by decide) ?_
        refine za_icmp_ne 64 dX5_set_41 (by decide) (fun c41 => ?_) (fun c41 => ?_)
        · refine za_iload_n dX5_set_64 rfl ?_
          refine za_iconst (nI 3) dX5_set_65 (by decide) ?_
          refine za_icmp_ne 91 dX5_set_66 (by decide) (fun c66 => ?_) (fun c66 => ?_)
          · refine za_aload_n dX5_set_91 rfl ?_
            refine za_iconst (nI 0) dX5_set_92 (by decide) ?_
            refine za_cV1 dX5_set_93 zm_X5_63 zw_X5_finding zv_X5_finding (c_finding (by decide)) (by decide) rfl rfl rfl (Nat.le_of_ble_eq_true rfl) ?_
            exact za_iret hM dX5_set_96 ⟨by rfl, by rfl⟩
          · refine za_iload_n dX5_set_69 rfl ?_
            refine za_iconst (nI 0) dX5_set_70 (by decide) ?_
            refine za_iconst (nI 1) dX5_set_71 (by decide) ?_
            refine za_cS3 dX5_set_72 zm_X5_75 zw_X5_isWithin zs_X5_isWithin (e_isWithin _ _ _) (by decide) (Nat.le_of_ble_eq_true rfl) ?_
            refine za_if_eqB 91 dX5_set_75 (by decide) (fun c75 => ?_) (fun c75 => ?_)
            · refine za_aload_n dX5_set_91 rfl ?_
              refine za_iconst (nI 0) dX5_set_92 (by decide) ?_
              refine za_cV1 dX5_set_93 zm_X5_63 zw_X5_finding zv_X5_finding (c_finding (by decide)) (by decide) rfl rfl rfl (Nat.le_of_ble_eq_true rfl) ?_
              exact za_iret hM dX5_set_96 ⟨by rfl, by rfl⟩
            · exact absurd ⟨c5, Or.inr (Or.inr ⟨c66, c75⟩)⟩ hno
        · refine za_iload_n dX5_set_44 rfl ?_
          refine za_cS1 dX5_set_45 zm_X5_60 zw_X5_isPence zs_X5_isPence (e_isPence _) (by decide) (Nat.le_of_ble_eq_true rfl) ?_
          refine za_if_eqB 64 dX5_set_48 (by decide) (fun c48 => ?_) (fun c48 => ?_)
          · refine za_iload_n dX5_set_64 rfl ?_
            refine za_iconst (nI 3) dX5_set_65 (by decide) ?_
            refine za_icmp_ne 91 dX5_set_66 (by decide) (fun c66 => ?_) (fun c66 => ?_)
            · refine za_aload_n dX5_set_91 rfl ?_
              refine za_iconst (nI 0) dX5_set_92 (by decide) ?_
              refine za_cV1 dX5_set_93 zm_X5_63 zw_X5_finding zv_X5_finding (c_finding (by decide)) (by decide) rfl rfl rfl (Nat.le_of_ble_eq_true rfl) ?_
              exact za_iret hM dX5_set_96 ⟨by rfl, by rfl⟩
            · refine za_iload_n dX5_set_69 rfl ?_
              refine za_iconst (nI 0) dX5_set_70 (by decide) ?_
              refine za_iconst (nI 1) dX5_set_71 (by decide) ?_
              refine za_cS3 dX5_set_72 zm_X5_75 zw_X5_isWithin zs_X5_isWithin (e_isWithin _ _ _) (by decide) (Nat.le_of_ble_eq_true rfl) ?_
              refine za_if_eqB 91 dX5_set_75 (by decide) (fun c75 => ?_) (fun c75 => ?_)
              · refine za_aload_n dX5_set_91 rfl ?_
                refine za_iconst (nI 0) dX5_set_92 (by decide) ?_
                refine za_cV1 dX5_set_93 zm_X5_63 zw_X5_finding zv_X5_finding (c_finding (by decide)) (by decide) rfl rfl rfl (Nat.le_of_ble_eq_true rfl) ?_
                exact za_iret hM dX5_set_96 ⟨by rfl, by rfl⟩
              · exact absurd ⟨c5, Or.inr (Or.inr ⟨c66, c75⟩)⟩ hno
          · exact absurd ⟨c5, Or.inr (Or.inl ⟨c41, c48⟩)⟩ hno
      · exact absurd ⟨c5, Or.inl ⟨c16, c23⟩⟩ hno
  · refine za_aload_n dX5_set_8 rfl ?_
    refine za_iconst (nI 0) dX5_set_9 (by decide) ?_
    refine za_cV1 dX5_set_10 zm_X5_63 zw_X5_finding zv_X5_finding (c_finding (by decide)) (by decide) rfl rfl rfl (Nat.le_of_ble_eq_true rfl) ?_
    exact za_iret hM dX5_set_13 ⟨by rfl, by rfl⟩

set_option maxRecDepth 20000 in
set_option maxHeartbeats 4000000 in
theorem c_turn_ok {g : zG} {S : zSto} {τ : zTn} (h1 : zHd S 1 τ) {n p : Nat} (hn : τ 0 3 = nI n) (h9 : n < 9) (hpn : p < n) {k : Int32} (hk : nI 0 ≤ k ∧ k ≤ nI 5) : zEd g 8 yX5_turn cX5_turn 3 (some .int) [.ref (zad g 0), .int (nI p), .int k] S (some (.int (τ 3 p))) (zpt S 1 (zup τ 3 p k)) := by
  refine zev_intro (own := RX5) (lv := [some (.ref (zad g 0)), some (.int (nI p)), some (.int k)]) (by decide +kernel) rfl (Nat.le_of_ble_eq_true rfl) rfl (fun C hM hN => ?_)
  have hp : p < 8 := by omega
  have hP := zper hn h9 hpn
  refine za_aload_n dX5_turn_0 rfl ?_
  refine za_iload_n dX5_turn_1 rfl ?_
  refine za_cV1 dX5_turn_2 zm_X5_118 zw_X5_isPerson zv_X5_isPerson (c_isPerson h1) (by decide) rfl rfl rfl (Nat.le_of_ble_eq_true rfl) ?_
  refine za_if_eqB 15 dX5_turn_5 (by decide) (fun c5 => absurd hP c5) (fun c5 => ?_)
  refine za_iload_n dX5_turn_8 rfl ?_
  refine za_cS1 dX5_turn_9 zm_X5_108 zw_X5_isKind zs_X5_isKind (e_isKind _) (by decide) (Nat.le_of_ble_eq_true rfl) ?_
  refine za_if_neB 21 dX5_turn_12 (by decide) (fun c12 => ?_) (fun c12 => absurd hk c12)
  refine za_aload_n dX5_turn_21 rfl ?_
  refine za_getR dX5_turn_22 zf_X5_10 rfl rfl ?_
  refine za_getR dX5_turn_25 zf_X5_121 (tn0 zT1) rfl ?_
  refine za_iload_n dX5_turn_28 rfl ?_
  refine za_iload_n dX5_turn_29 rfl ?_
  refine za_cS3 dX5_turn_30 zm_X5_147 zw_X5_change zs_X5_change (c_change h1 (by decide) (by decide) hp) (by decide) (Nat.le_of_ble_eq_true rfl) ?_
  exact za_iret hM dX5_turn_33 ⟨by rfl, by rfl⟩

set_option maxRecDepth 20000 in
set_option maxHeartbeats 4000000 in
theorem c_turn_no {g : zG} {S : zSto} {τ : zTn} (h1 : zHd S 1 τ) {v k : Int32} (hno : ¬ ((nI 0 ≤ v ∧ v ≤ τ 0 3 - nI 1) ∧ (nI 0 ≤ k ∧ k ≤ nI 5))) : zEd g 8 yX5_turn cX5_turn 3 (some .int) [.ref (zad g 0), .int v, .int k] S (some (.int (zfd 0))) (zfin S 33 0) := by
  refine zev_intro (own := RX5) (lv := [some (.ref (zad g 0)), some (.int v), some (.int k)]) (by decide +kernel) rfl (Nat.le_of_ble_eq_true rfl) rfl (fun C hM hN => ?_)
  refine za_aload_n dX5_turn_0 rfl ?_
  refine za_iload_n dX5_turn_1 rfl ?_
  refine za_cV1 dX5_turn_2 zm_X5_118 zw_X5_isPerson zv_X5_isPerson (c_isPerson h1) (by decide) rfl rfl rfl (Nat.le_of_ble_eq_true rfl) ?_
  refine za_if_eqB 15 dX5_turn_5 (by decide) (fun c5 => ?_) (fun c5 => ?_)
  · refine za_aload_n dX5_turn_15 rfl ?_
    refine za_iconst (nI 0) dX5_turn_16 (by decide) ?_
    refine za_cV1 dX5_turn_17 zm_X5_63 zw_X5_finding zv_X5_finding (c_finding (by decide)) (by decide) rfl rfl rfl (Nat.le_of_ble_eq_true rfl) ?_
    exact za_iret hM dX5_turn_20 ⟨by rfl, by rfl⟩
  · refine za_iload_n dX5_turn_8 rfl ?_
    refine za_cS1 dX5_turn_9 zm_X5_108 zw_X5_isKind zs_X5_isKind (e_isKind _) (by decide) (Nat.le_of_ble_eq_true rfl) ?_
    refine za_if_neB 21 dX5_turn_12 (by decide) (fun c12 => ?_) (fun c12 => ?_)
    · exact absurd ⟨c5, c12⟩ hno
    · refine za_aload_n dX5_turn_15 rfl ?_
      refine za_iconst (nI 0) dX5_turn_16 (by decide) ?_
      refine za_cV1 dX5_turn_17 zm_X5_63 zw_X5_finding zv_X5_finding (c_finding (by decide)) (by decide) rfl rfl rfl (Nat.le_of_ble_eq_true rfl) ?_
      exact za_iret hM dX5_turn_20 ⟨by rfl, by rfl⟩

set_option maxRecDepth 20000 in
set_option maxHeartbeats 4000000 in
theorem c_as_ok {g : zG} {S : zSto} {τ : zTn} (h1 : zHd S 1 τ) {n p : Nat} (hn : τ 0 3 = nI n) (h9 : n < 9) (hpn : p < n) {a b : Nat} (ha : a < 6) (hb : b < 6) (e3 : τ 3 p = nI a) (hu : p_und a b) : zEd g 8 yX5_as cX5_as 3 (some .int) [.ref (zad g 0), .int (nI p), .int (nI b)] S (some (.int (τ 5 p))) S := by
  refine zev_intro (own := RX5) (lv := [some (.ref (zad g 0)), some (.int (nI p)), some (.int (nI b))]) (by decide +kernel) rfl (Nat.le_of_ble_eq_true rfl) rfl (fun C hM hN => ?_)
  have hp : p < 8 := by omega
  have hP := zper hn h9 hpn
  refine za_aload_n dX5_as_0 rfl ?_
  refine za_iload_n dX5_as_1 rfl ?_
  refine za_cV1 dX5_as_2 zm_X5_118 zw_X5_isPerson zv_X5_isPerson (c_isPerson h1) (by decide) rfl rfl rfl (Nat.le_of_ble_eq_true rfl) ?_
  refine za_if_eqB 15 dX5_as_5 (by decide) (fun c5 => absurd hP c5) (fun c5 => ?_)
  refine za_iload_n dX5_as_8 rfl ?_
  refine za_cS1 dX5_as_9 zm_X5_108 zw_X5_isKind zs_X5_isKind (e_isKind _) (by decide) (Nat.le_of_ble_eq_true rfl) ?_
  refine za_if_neB 21 dX5_as_12 (by decide) (fun c12 => ?_) (fun c12 => absurd (zrng (Nat.zero_le _) (by omega) (by decide)) c12)
  refine za_aload_n dX5_as_21 rfl ?_
  refine za_getR dX5_as_22 zf_X5_10 rfl rfl ?_
  refine za_getR dX5_as_25 zf_X5_121 (tn0 zT1) rfl ?_
  refine za_iload_n dX5_as_28 rfl ?_
  refine zh_iald zT1 (by first | exact h1 | exact zHd_8 h1) (by decide) dX5_as_29 (zv3 (by omega)) ?_
  rw [e3]
  refine za_iload_n dX5_as_30 rfl ?_
  refine za_cS2 dX5_as_31 zm_X5_151 zw_X0_isUnder zs_X0_isUnder (e_isUnder ha hb) (by decide) (Nat.le_of_ble_eq_true rfl) ?_
  refine za_if_neB 43 dX5_as_34 (by decide) (fun c34 => ?_) (fun c34 => absurd hu c34)
  refine za_aload_n dX5_as_43 rfl ?_
  refine za_getR dX5_as_44 zf_X5_10 rfl rfl ?_
  refine za_getR dX5_as_47 zf_X5_127 (tn0 zT1) rfl ?_
  refine za_iload_n dX5_as_50 rfl ?_
  refine zh_iald zT1 (by first | exact h1 | exact zHd_8 h1) (by decide) dX5_as_51 (zv5 (by omega)) ?_
  exact za_iret hM dX5_as_52 ⟨by rfl, by rfl⟩

set_option maxRecDepth 20000 in
set_option maxHeartbeats 4000000 in
theorem c_as_kind {g : zG} {S : zSto} {τ : zTn} (h1 : zHd S 1 τ) {n p : Nat} (hn : τ 0 3 = nI n) (h9 : n < 9) (hpn : p < n) {a b : Nat} (ha : a < 6) (hb : b < 6) (e3 : τ 3 p = nI a) (hu : ¬ p_und a b) : zEd g 8 yX5_as cX5_as 3 (some .int) [.ref (zad g 0), .int (nI p), .int (nI b)] S (some (.int (zfd 2))) (zfin S 33 2) := by
  refine zev_intro (own := RX5) (lv := [some (.ref (zad g 0)), some (.int (nI p)), some (.int (nI b))]) (by decide +kernel) rfl (Nat.le_of_ble_eq_true rfl) rfl (fun C hM hN => ?_)
  have hp : p < 8 := by omega
  have hP := zper hn h9 hpn
  refine za_aload_n dX5_as_0 rfl ?_
  refine za_iload_n dX5_as_1 rfl ?_
  refine za_cV1 dX5_as_2 zm_X5_118 zw_X5_isPerson zv_X5_isPerson (c_isPerson h1) (by decide) rfl rfl rfl (Nat.le_of_ble_eq_true rfl) ?_
  refine za_if_eqB 15 dX5_as_5 (by decide) (fun c5 => absurd hP c5) (fun c5 => ?_)
  refine za_iload_n dX5_as_8 rfl ?_
  refine za_cS1 dX5_as_9 zm_X5_108 zw_X5_isKind zs_X5_isKind (e_isKind _) (by decide) (Nat.le_of_ble_eq_true rfl) ?_
  refine za_if_neB 21 dX5_as_12 (by decide) (fun c12 => ?_) (fun c12 => absurd (zrng (Nat.zero_le _) (by omega) (by decide)) c12)
  refine za_aload_n dX5_as_21 rfl ?_
  refine za_getR dX5_as_22 zf_X5_10 rfl rfl ?_
  refine za_getR dX5_as_25 zf_X5_121 (tn0 zT1) rfl ?_
  refine za_iload_n dX5_as_28 rfl ?_
  refine zh_iald zT1 (by first | exact h1 | exact zHd_8 h1) (by decide) dX5_as_29 (zv3 (by omega)) ?_
  rw [e3]
  refine za_iload_n dX5_as_30 rfl ?_
  refine za_cS2 dX5_as_31 zm_X5_151 zw_X0_isUnder zs_X0_isUnder (e_isUnder ha hb) (by decide) (Nat.le_of_ble_eq_true rfl) ?_
  refine za_if_neB 43 dX5_as_34 (by decide) (fun c34 => absurd c34 hu) (fun c34 => ?_)
  refine za_aload_n dX5_as_37 rfl ?_
  refine za_iconst (nI 2) dX5_as_38 (by decide) ?_
  refine za_cV1 dX5_as_39 zm_X5_63 zw_X5_finding zv_X5_finding (c_finding (by decide)) (by decide) rfl rfl rfl (Nat.le_of_ble_eq_true rfl) ?_
  exact za_iret hM dX5_as_42 ⟨by rfl, by rfl⟩

set_option maxRecDepth 20000 in
set_option maxHeartbeats 4000000 in
theorem c_as_no {g : zG} {S : zSto} {τ : zTn} (h1 : zHd S 1 τ) {v k : Int32} (hno : ¬ ((nI 0 ≤ v ∧ v ≤ τ 0 3 - nI 1) ∧ (nI 0 ≤ k ∧ k ≤ nI 5))) : zEd g 8 yX5_as cX5_as 3 (some .int) [.ref (zad g 0), .int v, .int k] S (some (.int (zfd 0))) (zfin S 33 0) := by
  refine zev_intro (own := RX5) (lv := [some (.ref (zad g 0)), some (.int v), some (.int k)]) (by decide +kernel) rfl (Nat.le_of_ble_eq_true rfl) rfl (fun C hM hN => ?_)
  refine za_aload_n dX5_as_0 rfl ?_
  refine za_iload_n dX5_as_1 rfl ?_
  refine za_cV1 dX5_as_2 zm_X5_118 zw_X5_isPerson zv_X5_isPerson (c_isPerson h1) (by decide) rfl rfl rfl (Nat.le_of_ble_eq_true rfl) ?_
  refine za_if_eqB 15 dX5_as_5 (by decide) (fun c5 => ?_) (fun c5 => ?_)
  · refine za_aload_n dX5_as_15 rfl ?_
    refine za_iconst (nI 0) dX5_as_16 (by decide) ?_
    refine za_cV1 dX5_as_17 zm_X5_63 zw_X5_finding zv_X5_finding (c_finding (by decide)) (by decide) rfl rfl rfl (Nat.le_of_ble_eq_true rfl) ?_
    exact za_iret hM dX5_as_20 ⟨by rfl, by rfl⟩
  · refine za_iload_n dX5_as_8 rfl ?_
    refine za_cS1 dX5_as_9 zm_X5_108 zw_X5_isKind zs_X5_isKind (e_isKind _) (by decide) (Nat.le_of_ble_eq_true rfl) ?_
    refine za_if_neB 21 dX5_as_12 (by decide) (fun c12 => ?_) (fun c12 => ?_)
    · exact absurd ⟨c5, c12⟩ hno
    · refine za_aload_n dX5_as_15 rfl ?_
      refine za_iconst (nI 0) dX5_as_16 (by decide) ?_
      refine za_cV1 dX5_as_17 zm_X5_63 zw_X5_finding zv_X5_finding (c_finding (by decide)) (by decide) rfl rfl rfl (Nat.le_of_ble_eq_true rfl) ?_
      exact za_iret hM dX5_as_20 ⟨by rfl, by rfl⟩
