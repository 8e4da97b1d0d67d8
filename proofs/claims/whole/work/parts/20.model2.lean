theorem zJ_pm {σ σ' : zSto} {τ : zTn} (h : zJ σ σ') : zJ (zpm σ τ) (zpm σ' τ) := by
  refine ⟨fun x i hx => ?_, h.2⟩
  show (if x = 35 ∧ i < 48 then zix τ i else σ'.1 x i) = (if x = 35 ∧ i < 48 then zix τ i else σ.1 x i)
  by_cases h1 : x = 35 ∧ i < 48
  · rw [if_pos h1, if_pos h1]
  · rw [if_neg h1, if_neg h1]; exact h.1 x i hx
theorem zJ_m38 {σ : zSto} {t τ : zTn} : zJ (zpm σ τ) (zpm (zps σ 38 t) τ) := zJ_pm zJ_38
theorem zup_up (τ : zTn) (k i : Nat) (v v' : Int32) : zup (zup τ k i v) k i v' = zup τ k i v' := by
  funext a b
  by_cases h : a = k ∧ b = i
  · obtain ⟨rfl, rfl⟩ := h; rw [zup_at, zup_at]
  · rw [zup_ne _ _ h, zup_ne _ _ h, zup_ne _ _ h]
theorem zw3 {w : Int32} (h : nI 1 ≤ w ∧ w ≤ nI 3) (h1 : ¬ w = nI 1) (h2 : ¬ w = nI 2) : w = nI 3 := by
  obtain ⟨k, a, b, rfl⟩ := zrng_inv h (by decide) (by decide)
  rcases (show k = 1 ∨ k = 2 ∨ k = 3 by omega) with rfl | rfl | rfl
  · exact absurd rfl h1
  · exact absurd rfl h2
  · rfl

set_option maxRecDepth 20000 in
set_option maxHeartbeats 4000000 in
theorem n_lies_ok {g : zG} {σ : zSto} {τ : zTn} {q s : Nat} {v : Int32} (hq : q < 6) (hs : s < 2) (hv : nI 0 ≤ v ∧ v ≤ nI 9999) : zEd g 8 yX6_lies cX6_lies 5 (some .int) [.ref (zad g 34), .int (nI q), .int (nI s), .int v] (zpm σ τ) (some (.int (τ (1 + s) q))) (zpm σ (zup τ (1 + s) q v)) := by
  refine zev_intro (own := RX6) (lv := [some (.ref (zad g 34)), some (.int (nI q)), some (.int (nI s)), some (.int v), none]) (by decide +kernel) rfl (Nat.le_of_ble_eq_true rfl) rfl (fun C hM hN => ?_)
  refine za_iload_n dX6_lies_0 rfl ?_
  refine za_i2l dX6_lies_1 ?_
  refine za_lconst (lN 0) dX6_lies_2 (by decide) ?_
  refine za_lconst (lN 1) dX6_lies_3 (by decide) ?_
  refine za_cS3 dX6_lies_4 zm_X6_46 zw_X6_in zs_X6_in (m_in2 _ (by decide) (by decide)) (by decide) (Nat.le_of_ble_eq_true rfl) ?_
  refine za_if_eqB 26 dX6_lies_7 (by decide) (fun c7 => absurd (zrng (Nat.zero_le _) (by omega) (by decide)) c7) (fun c7 => ?_)
  refine za_iload_n dX6_lies_10 rfl ?_
  refine za_i2l dX6_lies_11 ?_
  refine za_lconst (lN 0) dX6_lies_12 (by decide) ?_
  refine za_ldc2 (v := lN 9999) dX6_lies_13 zk_X6_58 ?_
  refine za_cS3 dX6_lies_16 zm_X6_46 zw_X6_in zs_X6_in (m_in2 _ (by decide) (by decide)) (by decide) (Nat.le_of_ble_eq_true rfl) ?_
  refine za_if_eqB 26 dX6_lies_19 (by decide) (fun c19 => absurd hv c19) (fun c19 => ?_)
  refine za_iconst (nI 1) dX6_lies_22 (by decide) ?_
  refine za_goto 27 dX6_lies_23 (by decide) ?_
  refine za_istore (lv' := [_, _, _, _, _]) dX6_lies_27 hN (by decide) rfl ?_
  refine za_iload_n dX6_lies_29 rfl ?_
  refine za_cS1 dX6_lies_30 zm_X6_60 zw_X6_isQuestion zs_X6_isQuestion (m_isQuestion _) (by decide) (Nat.le_of_ble_eq_true rfl) ?_
  refine za_if_eqB 54 dX6_lies_33 (by decide) (fun c33 => absurd (zrng (Nat.zero_le _) (by omega) (by decide)) c33) (fun c33 => ?_)
  refine za_iload dX6_lies_36 rfl ?_
  refine za_if_eq 54 dX6_lies_38 (by decide) (fun c38 => absurd c38 (by decide)) (fun c38 => ?_)
  refine za_aload_n dX6_lies_41 rfl ?_
  refine za_iload_n dX6_lies_42 rfl ?_
  refine za_iload_n dX6_lies_43 rfl ?_
  refine za_cS2 dX6_lies_44 zm_X6_52 zw_X6_basinSpot zs_X6_basinSpot (m_basinSpot) (by decide) (Nat.le_of_ble_eq_true rfl) ?_
  refine za_iload_n dX6_lies_47 rfl ?_
  refine za_cV2 dX6_lies_48 zm_X6_64 zw_X6_becomes zv_X6_becomes (m_becomes (by omega)) (by decide) rfl rfl rfl (Nat.le_of_ble_eq_true rfl) ?_
  rw [zixB hq hs, (zkB hq hs).1, (zkB hq hs).2]
  refine za_goto 60 dX6_lies_51 (by decide) ?_
  exact za_iret hM dX6_lies_60 ⟨by rfl, by rfl⟩

set_option maxRecDepth 20000 in
set_option maxHeartbeats 4000000 in
theorem n_lies_no {g : zG} {σ : zSto} {τ : zTn} {q s v : Int32} (hno : ¬ ((nI 0 ≤ q ∧ q ≤ nI 5) ∧ (nI 0 ≤ s ∧ s ≤ nI 1) ∧ (nI 0 ≤ v ∧ v ≤ nI 9999))) : zEd g 8 yX6_lies cX6_lies 5 (some .int) [.ref (zad g 34), .int q, .int s, .int v] (zpm σ τ) (some (.int (zfd 0))) (zfin (zpm σ τ) 39 0) := by
  refine zev_intro (own := RX6) (lv := [some (.ref (zad g 34)), some (.int q), some (.int s), some (.int v), none]) (by decide +kernel) rfl (Nat.le_of_ble_eq_true rfl) rfl (fun C hM hN => ?_)
  refine za_iload_n dX6_lies_0 rfl ?_
  refine za_i2l dX6_lies_1 ?_
  refine za_lconst (lN 0) dX6_lies_2 (by decide) ?_
  refine za_lconst (lN 1) dX6_lies_3 (by decide) ?_
  refine za_cS3 dX6_lies_4 zm_X6_46 zw_X6_in zs_X6_in (m_in2 _ (by decide) (by decide)) (by decide) (Nat.le_of_ble_eq_true rfl) ?_
  refine za_if_eqB 26 dX6_lies_7 (by decide) (fun c7 => ?_) (fun c7 => ?_)
  · refine za_iconst (nI 0) dX6_lies_26 (by decide) ?_
    refine za_istore (lv' := [_, _, _, _, _]) dX6_lies_27 hN (by decide) rfl ?_
    refine za_iload_n dX6_lies_29 rfl ?_
    refine za_cS1 dX6_lies_30 zm_X6_60 zw_X6_isQuestion zs_X6_isQuestion (m_isQuestion _) (by decide) (Nat.le_of_ble_eq_true rfl) ?_
    refine za_if_eqB 54 dX6_lies_33 (by decide) (fun c33 => ?_) (fun c33 => ?_)
    · refine za_aload_n dX6_lies_54 rfl ?_
      refine za_ldc dX6_lies_55 zk_X6_41 ?_
      rw [show (-1000000001 : Int32) = zfd 0 from rfl]
      refine za_cV1 dX6_lies_57 zm_X6_67 zw_X6_finds zv_X6_finds (m_finds (by decide)) (by decide) rfl rfl rfl (Nat.le_of_ble_eq_true rfl) ?_
      exact za_iret hM dX6_lies_60 ⟨by rfl, by rfl⟩
    · refine za_iload dX6_lies_36 rfl ?_
      refine za_if_eq 54 dX6_lies_38 (by decide) (fun c38 => ?_) (fun c38 => absurd (by decide) c38)
      refine za_aload_n dX6_lies_54 rfl ?_
      refine za_ldc dX6_lies_55 zk_X6_41 ?_
      rw [show (-1000000001 : Int32) = zfd 0 from rfl]
      refine za_cV1 dX6_lies_57 zm_X6_67 zw_X6_finds zv_X6_finds (m_finds (by decide)) (by decide) rfl rfl rfl (Nat.le_of_ble_eq_true rfl) ?_
      exact za_iret hM dX6_lies_60 ⟨by rfl, by rfl⟩
  · refine za_iload_n dX6_lies_10 rfl ?_
    refine za_i2l dX6_lies_11 ?_
    refine za_lconst (lN 0) dX6_lies_12 (by decide) ?_
    refine za_ldc2 (v := lN 9999) dX6_lies_13 zk_X6_58 ?_
    refine za_cS3 dX6_lies_16 zm_X6_46 zw_X6_in zs_X6_in (m_in2 _ (by decide) (by decide)) (by decide) (Nat.le_of_ble_eq_true rfl) ?_
    refine za_if_eqB 26 dX6_lies_19 (by decide) (fun c19 => ?_) (fun c19 => ?_)
    · refine za_iconst (nI 0) dX6_lies_26 (by decide) ?_
      refine za_istore (lv' := [_, _, _, _, _]) dX6_lies_27 hN (by decide) rfl ?_
      refine za_iload_n dX6_lies_29 rfl ?_
      refine za_cS1 dX6_lies_30 zm_X6_60 zw_X6_isQuestion zs_X6_isQuestion (m_isQuestion _) (by decide) (Nat.le_of_ble_eq_true rfl) ?_
      refine za_if_eqB 54 dX6_lies_33 (by decide) (fun c33 => ?_) (fun c33 => ?_)
      · refine za_aload_n dX6_lies_54 rfl ?_
        refine za_ldc dX6_lies_55 zk_X6_41 ?_
        rw [show (-1000000001 : Int32) = zfd 0 from rfl]
        refine za_cV1 dX6_lies_57 zm_X6_67 zw_X6_finds zv_X6_finds (m_finds (by decide)) (by decide) rfl rfl rfl (Nat.le_of_ble_eq_true rfl) ?_
        exact za_iret hM dX6_lies_60 ⟨by rfl, by rfl⟩
      · refine za_iload dX6_lies_36 rfl ?_
        refine za_if_eq 54 dX6_lies_38 (by decide) (fun c38 => ?_) (fun c38 => absurd (by decide) c38)
        refine za_aload_n dX6_lies_54 rfl ?_
        refine za_ldc dX6_lies_55 zk_X6_41 ?_
        rw [show (-1000000001 : Int32) = zfd 0 from rfl]
        refine za_cV1 dX6_lies_57 zm_X6_67 zw_X6_finds zv_X6_finds (m_finds (by decide)) (by decide) rfl rfl rfl (Nat.le_of_ble_eq_true rfl) ?_
        exact za_iret hM dX6_lies_60 ⟨by rfl, by rfl⟩
    · refine za_iconst (nI 1) dX6_lies_22 (by decide) ?_
      refine za_goto 27 dX6_lies_23 (by decide) ?_
      refine za_istore (lv' := [_, _, _, _, _]) dX6_lies_27 hN (by decide) rfl ?_
      refine za_iload_n dX6_lies_29 rfl ?_
      refine za_cS1 dX6_lies_30 zm_X6_60 zw_X6_isQuestion zs_X6_isQuestion (m_isQuestion _) (by decide) (Nat.le_of_ble_eq_true rfl) ?_
      refine za_if_eqB 54 dX6_lies_33 (by decide) (fun c33 => ?_) (fun c33 => ?_)
      · refine za_aload_n dX6_lies_54 rfl ?_
        refine za_ldc dX6_lies_55 zk_X6_41 ?_
        rw [show (-1000000001 : Int32) = zfd 0 from rfl]
        refine za_cV1 dX6_lies_57 zm_X6_67 zw_X6_finds zv_X6_finds (m_finds (by decide)) (by decide) rfl rfl rfl (Nat.le_of_ble_eq_true rfl) ?_
        exact za_iret hM dX6_lies_60 ⟨by rfl, by rfl⟩
      · refine za_iload dX6_lies_36 rfl ?_
        refine za_if_eq 54 dX6_lies_38 (by decide) (fun c38 => absurd c38 (by decide)) (fun c38 => ?_)
        exact absurd ⟨c33, c7, c19⟩ hno

set_option maxRecDepth 20000 in
set_option maxHeartbeats 4000000 in
theorem n_basin_ok {g : zG} {σ : zSto} {τ : zTn} {q w : Nat} (hq : q < 6) (hw : w < 3) : zEd g 8 yX6_basin cX6_basin 3 (some .int) [.ref (zad g 34), .int (nI q), .int (nI w)] (zpm σ τ) (some (.int (p_tell τ q w))) (zpm σ τ) := by
  refine zev_intro (own := RX6) (lv := [some (.ref (zad g 34)), some (.int (nI q)), some (.int (nI w))]) (by decide +kernel) rfl (Nat.le_of_ble_eq_true rfl) rfl (fun C hM hN => ?_)
  rcases (show w = 0 ∨ w = 1 ∨ w = 2 by omega) with rfl | rfl | rfl
  · refine za_iload_n dX6_basin_0 rfl ?_
    refine za_cS1 dX6_basin_1 zm_X6_60 zw_X6_isQuestion zs_X6_isQuestion (m_isQuestion _) (by decide) (Nat.le_of_ble_eq_true rfl) ?_
    refine za_if_eqB 19 dX6_basin_4 (by decide) (fun c4 => absurd (zrng (Nat.zero_le _) (by omega) (by decide)) c4) (fun c4 => ?_)
    refine za_iload_n dX6_basin_7 rfl ?_
    refine za_i2l dX6_basin_8 ?_
    refine za_lconst (lN 0) dX6_basin_9 (by decide) ?_
    refine za_ldc2 (v := lN 2) dX6_basin_10 zk_X6_71 ?_
    refine za_cS3 dX6_basin_13 zm_X6_46 zw_X6_in zs_X6_in (m_in2 _ (by decide) (by decide)) (by decide) (Nat.le_of_ble_eq_true rfl) ?_
    refine za_if_neB 26 dX6_basin_16 (by decide) (fun c16 => ?_) (fun c16 => absurd (by decide) c16)
    refine za_iload_n dX6_basin_26 rfl ?_
    refine za_iconst (nI 2) dX6_basin_27 (by decide) ?_
    refine za_icmp_ne 39 dX6_basin_28 (by decide) (fun c28 => ?_) (fun c28 => absurd c28 (by decide))
    refine za_aload_n dX6_basin_39 rfl ?_
    refine za_getR dX6_basin_40 zf_X6_7 rfl rfl ?_
    refine za_iload_n dX6_basin_43 rfl ?_
    refine za_iload_n dX6_basin_44 rfl ?_
    refine za_cS2 dX6_basin_45 zm_X6_52 zw_X6_basinSpot zs_X6_basinSpot (m_basinSpot) (by decide) (Nat.le_of_ble_eq_true rfl) ?_
    refine zm_aldB dX6_basin_48 hq (by decide) ?_
    exact za_iret hM dX6_basin_49 ⟨by rfl, by rfl⟩
  · refine za_iload_n dX6_basin_0 rfl ?_
    refine za_cS1 dX6_basin_1 zm_X6_60 zw_X6_isQuestion zs_X6_isQuestion (m_isQuestion _) (by decide) (Nat.le_of_ble_eq_true rfl) ?_
    refine za_if_eqB 19 dX6_basin_4 (by decide) (fun c4 => absurd (zrng (Nat.zero_le _) (by omega) (by decide)) c4) (fun c4 => ?_)
    refine za_iload_n dX6_basin_7 rfl ?_
    refine za_i2l dX6_basin_8 ?_
    refine za_lconst (lN 0) dX6_basin_9 (by decide) ?_
    refine za_ldc2 (v := lN 2) dX6_basin_10 zk_X6_71 ?_
    refine za_cS3 dX6_basin_13 zm_X6_46 zw_X6_in zs_X6_in (m_in2 _ (by decide) (by decide)) (by decide) (Nat.le_of_ble_eq_true rfl) ?_
    refine za_if_neB 26 dX6_basin_16 (by decide) (fun c16 => ?_) (fun c16 => absurd (by decide) c16)
    refine za_iload_n dX6_basin_26 rfl ?_
    refine za_iconst (nI 2) dX6_basin_27 (by decide) ?_
    refine za_icmp_ne 39 dX6_basin_28 (by decide) (fun c28 => ?_) (fun c28 => absurd c28 (by decide))
    refine za_aload_n dX6_basin_39 rfl ?_
    refine za_getR dX6_basin_40 zf_X6_7 rfl rfl ?_
    refine za_iload_n dX6_basin_43 rfl ?_
    refine za_iload_n dX6_basin_44 rfl ?_
    refine za_cS2 dX6_basin_45 zm_X6_52 zw_X6_basinSpot zs_X6_basinSpot (m_basinSpot) (by decide) (Nat.le_of_ble_eq_true rfl) ?_
    refine zm_aldB dX6_basin_48 hq (by decide) ?_
    exact za_iret hM dX6_basin_49 ⟨by rfl, by rfl⟩
  · refine za_iload_n dX6_basin_0 rfl ?_
    refine za_cS1 dX6_basin_1 zm_X6_60 zw_X6_isQuestion zs_X6_isQuestion (m_isQuestion _) (by decide) (Nat.le_of_ble_eq_true rfl) ?_
    refine za_if_eqB 19 dX6_basin_4 (by decide) (fun c4 => absurd (zrng (Nat.zero_le _) (by omega) (by decide)) c4) (fun c4 => ?_)
    refine za_iload_n dX6_basin_7 rfl ?_
    refine za_i2l dX6_basin_8 ?_
    refine za_lconst (lN 0) dX6_basin_9 (by decide) ?_
    refine za_ldc2 (v := lN 2) dX6_basin_10 zk_X6_71 ?_
    refine za_cS3 dX6_basin_13 zm_X6_46 zw_X6_in zs_X6_in (m_in2 _ (by decide) (by decide)) (by decide) (Nat.le_of_ble_eq_true rfl) ?_
    refine za_if_neB 26 dX6_basin_16 (by decide) (fun c16 => ?_) (fun c16 => absurd (by decide) c16)
    refine za_iload_n dX6_basin_26 rfl ?_
    refine za_iconst (nI 2) dX6_basin_27 (by decide) ?_
    refine za_icmp_ne 39 dX6_basin_28 (by decide) (fun c28 => absurd (by decide) c28) (fun c28 => ?_)
    refine za_aload_n dX6_basin_31 rfl ?_
    refine za_iload_n dX6_basin_32 rfl ?_
    refine za_cV1 dX6_basin_33 zm_X6_73 zw_X6_heldIn zv_X6_heldIn (m_heldIn) (by decide) rfl rfl rfl (Nat.le_of_ble_eq_true rfl) ?_
    refine za_goto 49 dX6_basin_36 (by decide) ?_
    exact za_iret hM dX6_basin_49 ⟨by rfl, by rfl⟩

set_option maxRecDepth 20000 in
set_option maxHeartbeats 4000000 in
theorem n_basin_no {g : zG} {σ : zSto} {τ : zTn} {q w : Int32} (hno : ¬ ((nI 0 ≤ q ∧ q ≤ nI 5) ∧ (nI 0 ≤ w ∧ w ≤ nI 2))) : zEd g 8 yX6_basin cX6_basin 3 (some .int) [.ref (zad g 34), .int q, .int w] (zpm σ τ) (some (.int (zfd 0))) (zfin (zpm σ τ) 39 0) := by
  refine zev_intro (own := RX6) (lv := [some (.ref (zad g 34)), some (.int q), some (.int w)]) (by decide +kernel) rfl (Nat.le_of_ble_eq_true rfl) rfl (fun C hM hN => ?_)
  refine za_iload_n dX6_basin_0 rfl ?_
  refine za_cS1 dX6_basin_1 zm_X6_60 zw_X6_isQuestion zs_X6_isQuestion (m_isQuestion _) (by decide) (Nat.le_of_ble_eq_true rfl) ?_
  refine za_if_eqB 19 dX6_basin_4 (by decide) (fun c4 => ?_) (fun c4 => ?_)
  · refine za_aload_n dX6_basin_19 rfl ?_
    refine za_ldc dX6_basin_20 zk_X6_41 ?_
    rw [show (-1000000001 : Int32) = zfd 0 from rfl]
    refine za_cV1 dX6_basin_22 zm_X6_67 zw_X6_finds zv_X6_finds (m_finds (by decide)) (by decide) rfl rfl rfl (Nat.le_of_ble_eq_true rfl) ?_
    exact za_iret hM dX6_basin_25 ⟨by rfl, by rfl⟩
  · refine za_iload_n dX6_basin_7 rfl ?_
    refine za_i2l dX6_basin_8 ?_
    refine za_lconst (lN 0) dX6_basin_9 (by decide) ?_
    refine za_ldc2 (v := lN 2) dX6_basin_10 zk_X6_71 ?_
    refine za_cS3 dX6_basin_13 zm_X6_46 zw_X6_in zs_X6_in (m_in2 _ (by decide) (by decide)) (by decide) (Nat.le_of_ble_eq_true rfl) ?_
    refine za_if_neB 26 dX6_basin_16 (by decide) (fun c16 => ?_) (fun c16 => ?_)
    · exact absurd ⟨c4, c16⟩ hno
    · refine za_aload_n dX6_basin_19 rfl ?_
      refine za_ldc dX6_basin_20 zk_X6_41 ?_
      rw [show (-1000000001 : Int32) = zfd 0 from rfl]
      refine za_cV1 dX6_basin_22 zm_X6_67 zw_X6_finds zv_X6_finds (m_finds (by decide)) (by decide) rfl rfl rfl (Nat.le_of_ble_eq_true rfl) ?_
      exact za_iret hM dX6_basin_25 ⟨by rfl, by rfl⟩

set_option maxRecDepth 20000 in
set_option maxHeartbeats 4000000 in
theorem n_bribe_ok {g : zG} {σ : zSto} {τ : zTn} {v : Int32} (hv : nI 0 ≤ v ∧ v ≤ nI 1) : zEd g 8 yX6_bribe cX6_bribe 2 (some .int) [.ref (zad g 34), .int v] (zpm σ τ) (some (.int (τ 0 2))) (zpm σ (zup τ 0 2 v)) := by
  refine zev_intro (own := RX6) (lv := [some (.ref (zad g 34)), some (.int v)]) (by decide +kernel) rfl (Nat.le_of_ble_eq_true rfl) rfl (fun C hM hN => ?_)
  refine za_iload_n dX6_bribe_0 rfl ?_
  refine za_i2l dX6_bribe_1 ?_
  refine za_lconst (lN 0) dX6_bribe_2 (by decide) ?_
  refine za_lconst (lN 1) dX6_bribe_3 (by decide) ?_
  refine za_cS3 dX6_bribe_4 zm_X6_46 zw_X6_in zs_X6_in (m_in2 _ (by decide) (by decide)) (by decide) (Nat.le_of_ble_eq_true rfl) ?_
  refine za_if_eqB 19 dX6_bribe_7 (by decide) (fun c7 => absurd hv c7) (fun c7 => ?_)
  refine za_aload_n dX6_bribe_10 rfl ?_
  refine za_iconst (nI 3) dX6_bribe_11 (by decide) ?_
  refine za_iload_n dX6_bribe_12 rfl ?_
  refine za_cV2 dX6_bribe_13 zm_X6_64 zw_X6_becomes zv_X6_becomes (m_becomes (by decide)) (by decide) rfl rfl rfl (Nat.le_of_ble_eq_true rfl) ?_
  refine za_goto 25 dX6_bribe_16 (by decide) ?_
  exact za_iret hM dX6_bribe_25 ⟨by rfl, by rfl⟩

set_option maxRecDepth 20000 in
set_option maxHeartbeats 4000000 in
theorem n_bribe_no {g : zG} {σ : zSto} {τ : zTn} {v : Int32} (hno : ¬ (nI 0 ≤ v ∧ v ≤ nI 1)) : zEd g 8 yX6_bribe cX6_bribe 2 (some .int) [.ref (zad g 34), .int v] (zpm σ τ) (some (.int (zfd 0))) (zfin (zpm σ τ) 39 0) := by
  refine zev_intro (own := RX6) (lv := [some (.ref (zad g 34)), some (.int v)]) (by decide +kernel) rfl (Nat.le_of_ble_eq_true rfl) rfl (fun C hM hN => ?_)
  refine za_iload_n dX6_bribe_0 rfl ?_
  refine za_i2l dX6_bribe_1 ?_
  refine za_lconst (lN 0) dX6_bribe_2 (by decide) ?_
  refine za_lconst (lN 1) dX6_bribe_3 (by decide) ?_
  refine za_cS3 dX6_bribe_4 zm_X6_46 zw_X6_in zs_X6_in (m_in2 _ (by decide) (by decide)) (by decide) (Nat.le_of_ble_eq_true rfl) ?_
  refine za_if_eqB 19 dX6_bribe_7 (by decide) (fun c7 => ?_) (fun c7 => ?_)
  · refine za_aload_n dX6_bribe_19 rfl ?_
    refine za_ldc dX6_bribe_20 zk_X6_41 ?_
    rw [show (-1000000001 : Int32) = zfd 0 from rfl]
    refine za_cV1 dX6_bribe_22 zm_X6_67 zw_X6_finds zv_X6_finds (m_finds (by decide)) (by decide) rfl rfl rfl (Nat.le_of_ble_eq_true rfl) ?_
    exact za_iret hM dX6_bribe_25 ⟨by rfl, by rfl⟩
  · exact absurd c7 hno

set_option maxRecDepth 20000 in
set_option maxHeartbeats 4000000 in
theorem n_held_ok {g : zG} {σ : zSto} {τ : zTn} {v : Int32} (hv : nI 0 ≤ v ∧ v ≤ nI 63) : zEd g 8 yX6_held cX6_held 2 (some .int) [.ref (zad g 34), .int v] (zpm σ τ) (some (.int (τ 0 1))) (zpm σ (zup τ 0 1 v)) := by
  refine zev_intro (own := RX6) (lv := [some (.ref (zad g 34)), some (.int v)]) (by decide +kernel) rfl (Nat.le_of_ble_eq_true rfl) rfl (fun C hM hN => ?_)
  refine za_iload_n dX6_held_0 rfl ?_
  refine za_i2l dX6_held_1 ?_
  refine za_lconst (lN 0) dX6_held_2 (by decide) ?_
  refine za_ldc2 (v := lN 63) dX6_held_3 zk_X6_76 ?_
  refine za_cS3 dX6_held_6 zm_X6_46 zw_X6_in zs_X6_in (m_in2 _ (by decide) (by decide)) (by decide) (Nat.le_of_ble_eq_true rfl) ?_
  refine za_if_eqB 21 dX6_held_9 (by decide) (fun c9 => absurd hv c9) (fun c9 => ?_)
  refine za_aload_n dX6_held_12 rfl ?_
  refine za_iconst (nI 2) dX6_held_13 (by decide) ?_
  refine za_iload_n dX6_held_14 rfl ?_
  refine za_cV2 dX6_held_15 zm_X6_64 zw_X6_becomes zv_X6_becomes (m_becomes (by decide)) (by decide) rfl rfl rfl (Nat.le_of_ble_eq_true rfl) ?_
  refine za_goto 27 dX6_held_18 (by decide) ?_
  exact za_iret hM dX6_held_27 ⟨by rfl, by rfl⟩

set_option maxRecDepth 20000 in
set_option maxHeartbeats 4000000 in
theorem n_held_no {g : zG} {σ : zSto} {τ : zTn} {v : Int32} (hno : ¬ (nI 0 ≤ v ∧ v ≤ nI 63)) : zEd g 8 yX6_held cX6_held 2 (some .int) [.ref (zad g 34), .int v] (zpm σ τ) (some (.int (zfd 0))) (zfin (zpm σ τ) 39 0) := by
  refine zev_intro (own := RX6) (lv := [some (.ref (zad g 34)), some (.int v)]) (by decide +kernel) rfl (Nat.le_of_ble_eq_true rfl) rfl (fun C hM hN => ?_)
  refine za_iload_n dX6_held_0 rfl ?_
  refine za_i2l dX6_held_1 ?_
  refine za_lconst (lN 0) dX6_held_2 (by decide) ?_
  refine za_ldc2 (v := lN 63) dX6_held_3 zk_X6_76 ?_
  refine za_cS3 dX6_held_6 zm_X6_46 zw_X6_in zs_X6_in (m_in2 _ (by decide) (by decide)) (by decide) (Nat.le_of_ble_eq_true rfl) ?_
  refine za_if_eqB 21 dX6_held_9 (by decide) (fun c9 => ?_) (fun c9 => ?_)
  · refine za_aload_n dX6_held_21 rfl ?_
    refine za_ldc dX6_held_22 zk_X6_41 ?_
    rw [show (-1000000001 : Int32) = zfd 0 from rfl]
    refine za_cV1 dX6_held_24 zm_X6_67 zw_X6_finds zv_X6_finds (m_finds (by decide)) (by decide) rfl rfl rfl (Nat.le_of_ble_eq_true rfl) ?_
    exact za_iret hM dX6_held_27 ⟨by rfl, by rfl⟩
  · exact absurd c9 hno

set_option maxRecDepth 20000 in
set_option maxHeartbeats 4000000 in
theorem n_now_ok {g : zG} {σ : zSto} {τ : zTn} (hI : zTI 100000 τ) {w : Nat} (hw : w ≤ 6) : zEd g 8 yX6_now cX6_now 2 (some .int) [.ref (zad g 34), .int (nI w)] (zpm σ τ) (some (.int (p_now τ w))) (zpm σ τ) := by
  refine zev_intro (own := RX6) (lv := [some (.ref (zad g 34)), some (.int (nI w))]) (by decide +kernel) rfl (Nat.le_of_ble_eq_true rfl) rfl (fun C hM hN => ?_)
  obtain ⟨n, h9, hn⟩ := hI.2.2.2.1
  have hz : zn (τ 0 3) = n := by rw [hn]; exact zn_nI (by omega)
  obtain rfl | rfl | rfl | rfl | rfl | rfl | rfl := zwhat hw (by decide)
  · refine za_iload_n dX6_now_0 rfl ?_
    skip
    · refine za_tabK (43) 44 dX6_now_1 (by decide) (by decide) (by decide) (by decide) ?_
      refine za_aload_n dX6_now_44 rfl ?_
      refine za_getR dX6_now_45 zf_X6_7 rfl rfl ?_
      refine za_iconst (nI 0) dX6_now_48 (by decide) ?_
      refine zm_ald0 dX6_now_49 ?_
      exact za_iret hM dX6_now_50 ⟨by (first | rfl | (unfold p_now; rw [hz]; rfl)), by (first | rfl | (unfold p_now; rw [hz]; rfl))⟩
  · refine za_iload_n dX6_now_0 rfl ?_
    skip
    · refine za_tabK (50) 51 dX6_now_1 (by decide) (by decide) (by decide) (by decide) ?_
      refine za_aload_n dX6_now_51 rfl ?_
      refine za_cV0 dX6_now_52 zm_X6_78 zw_X6_ofDay zv_X6_ofDay (m_ofDay hI.1 (by decide)) (by decide) rfl rfl rfl (Nat.le_of_ble_eq_true rfl) ?_
      exact za_iret hM dX6_now_55 ⟨by (first | rfl | (unfold p_now; rw [hz]; rfl)), by (first | rfl | (unfold p_now; rw [hz]; rfl))⟩
  · refine za_iload_n dX6_now_0 rfl ?_
    skip
    · refine za_tabK (55) 56 dX6_now_1 (by decide) (by decide) (by decide) (by decide) ?_
      refine za_aload_n dX6_now_56 rfl ?_
      refine za_getR dX6_now_57 zf_X6_7 rfl rfl ?_
      refine za_iconst (nI 2) dX6_now_60 (by decide) ?_
      refine zm_ald2 dX6_now_61 ?_
      exact za_iret hM dX6_now_62 ⟨by (first | rfl | (unfold p_now; rw [hz]; rfl)), by (first | rfl | (unfold p_now; rw [hz]; rfl))⟩
  · refine za_iload_n dX6_now_0 rfl ?_
    skip
    · refine za_tabK (62) 63 dX6_now_1 (by decide) (by decide) (by decide) (by decide) ?_
      refine za_aload_n dX6_now_63 rfl ?_
      refine za_getR dX6_now_64 zf_X6_7 rfl rfl ?_
      refine za_iconst (nI 3) dX6_now_67 (by decide) ?_
      refine zm_ald3 dX6_now_68 ?_
      exact za_iret hM dX6_now_69 ⟨by (first | rfl | (unfold p_now; rw [hz]; rfl)), by (first | rfl | (unfold p_now; rw [hz]; rfl))⟩
  · refine za_iload_n dX6_now_0 rfl ?_
    skip
    · refine za_tabK (69) 70 dX6_now_1 (by decide) (by decide) (by decide) (by decide) ?_
      refine za_aload_n dX6_now_70 rfl ?_
      refine za_cV0 dX6_now_71 zm_X6_85 zw_X6_leftOnes zv_X6_leftOnes (m_leftOnes h9 hn hI (by decide)) (by decide) rfl rfl rfl (Nat.le_of_ble_eq_true rfl) ?_
      exact za_iret hM dX6_now_74 ⟨by (first | rfl | (unfold p_now; rw [hz]; rfl)), by (first | rfl | (unfold p_now; rw [hz]; rfl))⟩
  · refine za_iload_n dX6_now_0 rfl ?_
    skip
    · refine za_tabK (74) 75 dX6_now_1 (by decide) (by decide) (by decide) (by decide) ?_
      refine za_aload_n dX6_now_75 rfl ?_
      refine za_cV0 dX6_now_76 zm_X6_88 zw_X6_pence zv_X6_pence (m_pence h9 hn) (by decide) rfl rfl rfl (Nat.le_of_ble_eq_true rfl) ?_
      exact za_iret hM dX6_now_79 ⟨by (first | rfl | (unfold p_now; rw [hz]; rfl)), by (first | rfl | (unfold p_now; rw [hz]; rfl))⟩
  · refine za_iload_n dX6_now_0 rfl ?_
    skip
    · refine za_tabK (79) 80 dX6_now_1 (by decide) (by decide) (by decide) (by decide) ?_
      refine za_aload_n dX6_now_80 rfl ?_
      refine za_iconst (nI 0) dX6_now_81 (by decide) ?_
      refine za_cV1 dX6_now_82 zm_X6_91 zw_X6_together zv_X6_together (m_together (by decide)) (by decide) rfl rfl rfl (Nat.le_of_ble_eq_true rfl) ?_
      refine za_aload_n dX6_now_85 rfl ?_
      refine za_iconst (nI 1) dX6_now_86 (by decide) ?_
      refine za_cV1 dX6_now_87 zm_X6_91 zw_X6_together zv_X6_together (m_together (by decide)) (by decide) rfl rfl rfl (Nat.le_of_ble_eq_true rfl) ?_
      refine za_iadd dX6_now_90 ?_
      exact za_iret hM dX6_now_91 ⟨by (first | rfl | (unfold p_now; rw [hz]; rfl)), by (first | rfl | (unfold p_now; rw [hz]; rfl))⟩

set_option maxRecDepth 20000 in
set_option maxHeartbeats 4000000 in
theorem n_now_no {g : zG} {σ : zSto} {τ : zTn} {w : Int32} (hno : ¬ (nI 0 ≤ w ∧ w ≤ nI 6)) : zEd g 8 yX6_now cX6_now 2 (some .int) [.ref (zad g 34), .int w] (zpm σ τ) (some (.int (zfd 0))) (zfin (zpm σ τ) 39 0) := by
  refine zev_intro (own := RX6) (lv := [some (.ref (zad g 34)), some (.int w)]) (by decide +kernel) rfl (Nat.le_of_ble_eq_true rfl) rfl (fun C hM hN => ?_)
  refine za_iload_n dX6_now_0 rfl ?_
  skip
  · refine za_tabO 92 dX6_now_1 (zout hno (by decide)) (by decide) ?_
    refine za_aload_n dX6_now_92 rfl ?_
    refine za_ldc dX6_now_93 zk_X6_41 ?_
    rw [show (-1000000001 : Int32) = zfd 0 from rfl]
    refine za_cV1 dX6_now_95 zm_X6_67 zw_X6_finds zv_X6_finds (m_finds (by decide)) (by decide) rfl rfl rfl (Nat.le_of_ble_eq_true rfl) ?_
    exact za_iret hM dX6_now_98 ⟨by rfl, by rfl⟩

set_option maxRecDepth 20000 in
set_option maxHeartbeats 4000000 in
theorem n_person_ok {g : zG} {σ : zSto} {τ : zTn} {n : Nat} {k : Int32} (hn : τ 0 3 = nI n) (h8 : n < 8) (hk : nI 0 ≤ k ∧ k ≤ nI 5) : zEd g 8 yX6_person cX6_person 2 (some .int) [.ref (zad g 34), .int k] (zpm σ τ) (some (.int (nI n))) (zpm σ (p_ad τ k)) := by
  refine zev_intro (own := RX6) (lv := [some (.ref (zad g 34)), some (.int k)]) (by decide +kernel) rfl (Nat.le_of_ble_eq_true rfl) rfl (fun C hM hN => ?_)
  refine za_iload_n dX6_person_0 rfl ?_
  refine za_cS1 dX6_person_1 zm_X6_103 zw_X6_isKind zs_X6_isKind (m_isKind _) (by decide) (Nat.le_of_ble_eq_true rfl) ?_
  refine za_if_neB 14 dX6_person_4 (by decide) (fun c4 => ?_) (fun c4 => absurd hk c4)
  refine za_aload_n dX6_person_14 rfl ?_
  refine za_getR dX6_person_15 zf_X6_7 rfl rfl ?_
  refine za_iconst (nI 1) dX6_person_18 (by decide) ?_
  refine zm_ald1 dX6_person_19 ?_
  rw [hn]
  refine za_bipush (nI 8) dX6_person_20 (by decide) ?_
  refine za_icmp_ne 34 dX6_person_22 (by decide) (fun c22 => ?_) (fun c22 => absurd c22 (fun z => by have := zinj z (by omega) (by decide); omega))
  refine za_aload_n dX6_person_34 rfl ?_
  refine za_iload_n dX6_person_35 rfl ?_
  refine za_cV1 dX6_person_36 zm_X6_107 zw_X6_adds zv_X6_adds (m_adds h8 hn) (by decide) rfl rfl rfl (Nat.le_of_ble_eq_true rfl) ?_
  exact za_iret hM dX6_person_39 ⟨by rfl, by rfl⟩

set_option maxRecDepth 20000 in
set_option maxHeartbeats 4000000 in
theorem n_person_full {g : zG} {σ : zSto} {τ : zTn} {k : Int32} (hn : τ 0 3 = nI 8) (hk : nI 0 ≤ k ∧ k ≤ nI 5) : zEd g 8 yX6_person cX6_person 2 (some .int) [.ref (zad g 34), .int k] (zpm σ τ) (some (.int (zfd 1))) (zfin (zpm σ τ) 39 1) := by
  refine zev_intro (own := RX6) (lv := [some (.ref (zad g 34)), some (.int k)]) (by decide +kernel) rfl (Nat.le_of_ble_eq_true rfl) rfl (fun C hM hN => ?_)
  refine za_iload_n dX6_person_0 rfl ?_
  refine za_cS1 dX6_person_1 zm_X6_103 zw_X6_isKind zs_X6_isKind (m_isKind _) (by decide) (Nat.le_of_ble_eq_true rfl) ?_
  refine za_if_neB 14 dX6_person_4 (by decide) (fun c4 => ?_) (fun c4 => absurd hk c4)
  refine za_aload_n dX6_person_14 rfl ?_
  refine za_getR dX6_person_15 zf_X6_7 rfl rfl ?_
  refine za_iconst (nI 1) dX6_person_18 (by decide) ?_
  refine zm_ald1 dX6_person_19 ?_
  rw [hn]
  refine za_bipush (nI 8) dX6_person_20 (by decide) ?_
  refine za_icmp_ne 34 dX6_person_22 (by decide) (fun c22 => absurd rfl c22) (fun c22 => ?_)
  refine za_aload_n dX6_person_25 rfl ?_
  refine za_ldc dX6_person_26 zk_X6_106 ?_
  rw [show (-1000000002 : Int32) = zfd 1 from rfl]
  refine za_cV1 dX6_person_28 zm_X6_67 zw_X6_finds zv_X6_finds (m_finds (by decide)) (by decide) rfl rfl rfl (Nat.le_of_ble_eq_true rfl) ?_
  refine za_goto 39 dX6_person_31 (by decide) ?_
  exact za_iret hM dX6_person_39 ⟨by rfl, by rfl⟩

set_option maxRecDepth 20000 in
set_option maxHeartbeats 4000000 in
theorem n_person_no {g : zG} {σ : zSto} {τ : zTn} {k : Int32} (hno : ¬ (nI 0 ≤ k ∧ k ≤ nI 5)) : zEd g 8 yX6_person cX6_person 2 (some .int) [.ref (zad g 34), .int k] (zpm σ τ) (some (.int (zfd 0))) (zfin (zpm σ τ) 39 0) := by
  refine zev_intro (own := RX6) (lv := [some (.ref (zad g 34)), some (.int k)]) (by decide +kernel) rfl (Nat.le_of_ble_eq_true rfl) rfl (fun C hM hN => ?_)
  refine za_iload_n dX6_person_0 rfl ?_
  refine za_cS1 dX6_person_1 zm_X6_103 zw_X6_isKind zs_X6_isKind (m_isKind _) (by decide) (Nat.le_of_ble_eq_true rfl) ?_
  refine za_if_neB 14 dX6_person_4 (by decide) (fun c4 => ?_) (fun c4 => ?_)
  · exact absurd c4 hno
  · refine za_aload_n dX6_person_7 rfl ?_
    refine za_ldc dX6_person_8 zk_X6_41 ?_
    rw [show (-1000000001 : Int32) = zfd 0 from rfl]
    refine za_cV1 dX6_person_10 zm_X6_67 zw_X6_finds zv_X6_finds (m_finds (by decide)) (by decide) rfl rfl rfl (Nat.le_of_ble_eq_true rfl) ?_
    exact za_iret hM dX6_person_13 ⟨by rfl, by rfl⟩

set_option maxRecDepth 20000 in
set_option maxHeartbeats 4000000 in
theorem n_of_ok {g : zG} {σ : zSto} {τ : zTn} (hI : zTI 100000 τ) {n p : Nat} (hn : τ 0 3 = nI n) (h9 : n < 9) (hpn : p < n) {w : Nat} (hw : w ≤ 5) : zEd g 8 yX6_of cX6_of 3 (some .int) [.ref (zad g 34), .int (nI p), .int (nI w)] (zpm σ τ) (some (.int (p_of τ p w))) (zpm σ τ) := by
  refine zev_intro (own := RX6) (lv := [some (.ref (zad g 34)), some (.int (nI p)), some (.int (nI w))]) (by decide +kernel) rfl (Nat.le_of_ble_eq_true rfl) rfl (fun C hM hN => ?_)
  have hp : p < 8 := by omega
  have hP := zper hn h9 hpn
  obtain rfl | rfl | rfl | rfl | rfl | rfl := zlt6 (show w < 6 by omega)
  · refine za_aload_n dX6_of_0 rfl ?_
    refine za_iload_n dX6_of_1 rfl ?_
    refine za_cV1 dX6_of_2 zm_X6_110 zw_X6_isPerson zv_X6_isPerson (m_isPerson) (by decide) rfl rfl rfl (Nat.le_of_ble_eq_true rfl) ?_
    refine za_if_eqB 20 dX6_of_5 (by decide) (fun c5 => absurd hP c5) (fun c5 => ?_)
    refine za_iload_n dX6_of_8 rfl ?_
    refine za_i2l dX6_of_9 ?_
    refine za_lconst (lN 0) dX6_of_10 (by decide) ?_
    refine za_ldc2 (v := lN 5) dX6_of_11 zk_X6_50 ?_
    refine za_cS3 dX6_of_14 zm_X6_46 zw_X6_in zs_X6_in (m_in2 _ (by decide) (by decide)) (by decide) (Nat.le_of_ble_eq_true rfl) ?_
    refine za_if_neB 27 dX6_of_17 (by decide) (fun c17 => ?_) (fun c17 => absurd (by decide) c17)
    refine za_iload_n dX6_of_27 rfl ?_
    refine za_iconst (nI 3) dX6_of_28 (by decide) ?_
    refine za_icmp_gt 41 dX6_of_29 (by decide) (fun c29 => absurd c29 (by decide)) (fun c29 => ?_)
    refine za_aload_n dX6_of_32 rfl ?_
    refine za_iload_n dX6_of_33 rfl ?_
    refine za_iload_n dX6_of_34 rfl ?_
    refine za_cV2 dX6_of_35 zm_X6_55 zw_X6_its zv_X6_its (m_its hp (by decide)) (by decide) rfl rfl rfl (Nat.le_of_ble_eq_true rfl) ?_
    refine za_goto 59 dX6_of_38 (by decide) ?_
    exact za_iret hM dX6_of_59 ⟨by rfl, by rfl⟩
  · refine za_aload_n dX6_of_0 rfl ?_
    refine za_iload_n dX6_of_1 rfl ?_
    refine za_cV1 dX6_of_2 zm_X6_110 zw_X6_isPerson zv_X6_isPerson (m_isPerson) (by decide) rfl rfl rfl (Nat.le_of_ble_eq_true rfl) ?_
    refine za_if_eqB 20 dX6_of_5 (by decide) (fun c5 => absurd hP c5) (fun c5 => ?_)
    refine za_iload_n dX6_of_8 rfl ?_
    refine za_i2l dX6_of_9 ?_
    refine za_lconst (lN 0) dX6_of_10 (by decide) ?_
    refine za_ldc2 (v := lN 5) dX6_of_11 zk_X6_50 ?_
    refine za_cS3 dX6_of_14 zm_X6_46 zw_X6_in zs_X6_in (m_in2 _ (by decide) (by decide)) (by decide) (Nat.le_of_ble_eq_true rfl) ?_
    refine za_if_neB 27 dX6_of_17 (by decide) (fun c17 => ?_) (fun c17 => absurd (by decide) c17)
    refine za_iload_n dX6_of_27 rfl ?_
    refine za_iconst (nI 3) dX6_of_28 (by decide) ?_
    refine za_icmp_gt 41 dX6_of_29 (by decide) (fun c29 => absurd c29 (by decide)) (fun c29 => ?_)
    refine za_aload_n dX6_of_32 rfl ?_
    refine za_iload_n dX6_of_33 rfl ?_
    refine za_iload_n dX6_of_34 rfl ?_
    refine za_cV2 dX6_of_35 zm_X6_55 zw_X6_its zv_X6_its (m_its hp (by decide)) (by decide) rfl rfl rfl (Nat.le_of_ble_eq_true rfl) ?_
    refine za_goto 59 dX6_of_38 (by decide) ?_
    exact za_iret hM dX6_of_59 ⟨by rfl, by rfl⟩
  · refine za_aload_n dX6_of_0 rfl ?_
    refine za_iload_n dX6_of_1 rfl ?_
    refine za_cV1 dX6_of_2 zm_X6_110 zw_X6_isPerson zv_X6_isPerson (m_isPerson) (by decide) rfl rfl rfl (Nat.le_of_ble_eq_true rfl) ?_
    refine za_if_eqB 20 dX6_of_5 (by decide) (fun c5 => absurd hP c5) (fun c5 => ?_)
    refine za_iload_n dX6_of_8 rfl ?_
    refine za_i2l dX6_of_9 ?_
    refine za_lconst (lN 0) dX6_of_10 (by decide) ?_
    refine za_ldc2 (v := lN 5) dX6_of_11 zk_X6_50 ?_
    refine za_cS3 dX6_of_14 zm_X6_46 zw_X6_in zs_X6_in (m_in2 _ (by decide) (by decide)) (by decide) (Nat.le_of_ble_eq_true rfl) ?_
    refine za_if_neB 27 dX6_of_17 (by decide) (fun c17 => ?_) (fun c17 => absurd (by decide) c17)
    refine za_iload_n dX6_of_27 rfl ?_
    refine za_iconst (nI 3) dX6_of_28 (by decide) ?_
    refine za_icmp_gt 41 dX6_of_29 (by decide) (fun c29 => absurd c29 (by decide)) (fun c29 => ?_)
    refine za_aload_n dX6_of_32 rfl ?_
    refine za_iload_n dX6_of_33 rfl ?_
    refine za_iload_n dX6_of_34 rfl ?_
    refine za_cV2 dX6_of_35 zm_X6_55 zw_X6_its zv_X6_its (m_its hp (by decide)) (by decide) rfl rfl rfl (Nat.le_of_ble_eq_true rfl) ?_
    refine za_goto 59 dX6_of_38 (by decide) ?_
    exact za_iret hM dX6_of_59 ⟨by rfl, by rfl⟩
  · refine za_aload_n dX6_of_0 rfl ?_
    refine za_iload_n dX6_of_1 rfl ?_
    refine za_cV1 dX6_of_2 zm_X6_110 zw_X6_isPerson zv_X6_isPerson (m_isPerson) (by decide) rfl rfl rfl (Nat.le_of_ble_eq_true rfl) ?_
    refine za_if_eqB 20 dX6_of_5 (by decide) (fun c5 => absurd hP c5) (fun c5 => ?_)
    refine za_iload_n dX6_of_8 rfl ?_
    refine za_i2l dX6_of_9 ?_
    refine za_lconst (lN 0) dX6_of_10 (by decide) ?_
    refine za_ldc2 (v := lN 5) dX6_of_11 zk_X6_50 ?_
    refine za_cS3 dX6_of_14 zm_X6_46 zw_X6_in zs_X6_in (m_in2 _ (by decide) (by decide)) (by decide) (Nat.le_of_ble_eq_true rfl) ?_
    refine za_if_neB 27 dX6_of_17 (by decide) (fun c17 => ?_) (fun c17 => absurd (by decide) c17)
    refine za_iload_n dX6_of_27 rfl ?_
    refine za_iconst (nI 3) dX6_of_28 (by decide) ?_
    refine za_icmp_gt 41 dX6_of_29 (by decide) (fun c29 => absurd c29 (by decide)) (fun c29 => ?_)
    refine za_aload_n dX6_of_32 rfl ?_
    refine za_iload_n dX6_of_33 rfl ?_
    refine za_iload_n dX6_of_34 rfl ?_
    refine za_cV2 dX6_of_35 zm_X6_55 zw_X6_its zv_X6_its (m_its hp (by decide)) (by decide) rfl rfl rfl (Nat.le_of_ble_eq_true rfl) ?_
    refine za_goto 59 dX6_of_38 (by decide) ?_
    exact za_iret hM dX6_of_59 ⟨by rfl, by rfl⟩
  · refine za_aload_n dX6_of_0 rfl ?_
    refine za_iload_n dX6_of_1 rfl ?_
    refine za_cV1 dX6_of_2 zm_X6_110 zw_X6_isPerson zv_X6_isPerson (m_isPerson) (by decide) rfl rfl rfl (Nat.le_of_ble_eq_true rfl) ?_
    refine za_if_eqB 20 dX6_of_5 (by decide) (fun c5 => absurd hP c5) (fun c5 => ?_)
    refine za_iload_n dX6_of_8 rfl ?_
    refine za_i2l dX6_of_9 ?_
    refine za_lconst (lN 0) dX6_of_10 (by decide) ?_
    refine za_ldc2 (v := lN 5) dX6_of_11 zk_X6_50 ?_
    refine za_cS3 dX6_of_14 zm_X6_46 zw_X6_in zs_X6_in (m_in2 _ (by decide) (by decide)) (by decide) (Nat.le_of_ble_eq_true rfl) ?_
    refine za_if_neB 27 dX6_of_17 (by decide) (fun c17 => ?_) (fun c17 => absurd (by decide) c17)
    refine za_iload_n dX6_of_27 rfl ?_
    refine za_iconst (nI 3) dX6_of_28 (by decide) ?_
    refine za_icmp_gt 41 dX6_of_29 (by decide) (fun c29 => ?_) (fun c29 => absurd (by decide) c29)
    refine za_iload_n dX6_of_41 rfl ?_
    refine za_iconst (nI 4) dX6_of_42 (by decide) ?_
    refine za_icmp_ne 54 dX6_of_43 (by decide) (fun c43 => absurd (by decide) c43) (fun c43 => ?_)
    refine za_aload_n dX6_of_46 rfl ?_
    refine za_iload_n dX6_of_47 rfl ?_
    refine za_cV1 dX6_of_48 zm_X6_113 zw_X6_throwsOf zv_X6_throwsOf (m_throwsOf hp (hI.2.2.2.2.2.2.1 p hp) (hI.2.2.2.2.2.2.2 p hp)) (by decide) rfl rfl rfl (Nat.le_of_ble_eq_true rfl) ?_
    refine za_goto 59 dX6_of_51 (by decide) ?_
    exact za_iret hM dX6_of_59 ⟨by rfl, by rfl⟩
  · refine za_aload_n dX6_of_0 rfl ?_
    refine za_iload_n dX6_of_1 rfl ?_
    refine za_cV1 dX6_of_2 zm_X6_110 zw_X6_isPerson zv_X6_isPerson (m_isPerson) (by decide) rfl rfl rfl (Nat.le_of_ble_eq_true rfl) ?_
    refine za_if_eqB 20 dX6_of_5 (by decide) (fun c5 => absurd hP c5) (fun c5 => ?_)
    refine za_iload_n dX6_of_8 rfl ?_
    refine za_i2l dX6_of_9 ?_
    refine za_lconst (lN 0) dX6_of_10 (by decide) ?_
    refine za_ldc2 (v := lN 5) dX6_of_11 zk_X6_50 ?_
    refine za_cS3 dX6_of_14 zm_X6_46 zw_X6_in zs_X6_in (m_in2 _ (by decide) (by decide)) (by decide) (Nat.le_of_ble_eq_true rfl) ?_
    refine za_if_neB 27 dX6_of_17 (by decide) (fun c17 => ?_) (fun c17 => absurd (by decide) c17)
    refine za_iload_n dX6_of_27 rfl ?_
    refine za_iconst (nI 3) dX6_of_28 (by decide) ?_
    refine za_icmp_gt 41 dX6_of_29 (by decide) (fun c29 => ?_) (fun c29 => absurd (by decide) c29)
    refine za_iload_n dX6_of_41 rfl ?_
    refine za_iconst (nI 4) dX6_of_42 (by decide) ?_
    refine za_icmp_ne 54 dX6_of_43 (by decide) (fun c43 => ?_) (fun c43 => absurd c43 (by decide))
    refine za_aload_n dX6_of_54 rfl ?_
    refine za_iload_n dX6_of_55 rfl ?_
    refine za_cV1 dX6_of_56 zm_X6_116 zw_X6_earnsOf zv_X6_earnsOf (m_earnsOf hp (hI.2.2.2.2.2.2.1 p hp)) (by decide) rfl rfl rfl (Nat.le_of_ble_eq_true rfl) ?_
    exact za_iret hM dX6_of_59 ⟨by rfl, by rfl⟩

set_option maxRecDepth 20000 in
set_option maxHeartbeats 4000000 in
theorem n_of_no {g : zG} {σ : zSto} {τ : zTn} {v w : Int32} (hno : ¬ ((nI 0 ≤ v ∧ v ≤ τ 0 3 - nI 1) ∧ (nI 0 ≤ w ∧ w ≤ nI 5))) : zEd g 8 yX6_of cX6_of 3 (some .int) [.ref (zad g 34), .int v, .int w] (zpm σ τ) (some (.int (zfd 0))) (zfin (zpm σ τ) 39 0) := by
  refine zev_intro (own := RX6) (lv := [some (.ref (zad g 34)), some (.int v), some (.int w)]) (by decide +kernel) rfl (Nat.le_of_ble_eq_true rfl) rfl (fun C hM hN => ?_)
  refine za_aload_n dX6_of_0 rfl ?_
  refine za_iload_n dX6_of_1 rfl ?_
  refine za_cV1 dX6_of_2 zm_X6_110 zw_X6_isPerson zv_X6_isPerson (m_isPerson) (by decide) rfl rfl rfl (Nat.le_of_ble_eq_true rfl) ?_
  refine za_if_eqB 20 dX6_of_5 (by decide) (fun c5 => ?_) (fun c5 => ?_)
  · refine za_aload_n dX6_of_20 rfl ?_
    refine za_ldc dX6_of_21 zk_X6_41 ?_
    rw [show (-1000000001 : Int32) = zfd 0 from rfl]
    refine za_cV1 dX6_of_23 zm_X6_67 zw_X6_finds zv_X6_finds (m_finds (by decide)) (by decide) rfl rfl rfl (Nat.le_of_ble_eq_true rfl) ?_
    exact za_iret hM dX6_of_26 ⟨by rfl, by rfl⟩
  · refine za_iload_n dX6_of_8 rfl ?_
    refine za_i2l dX6_of_9 ?_
    refine za_lconst (lN 0) dX6_of_10 (by decide) ?_
    refine za_ldc2 (v := lN 5) dX6_of_11 zk_X6_50 ?_
    refine za_cS3 dX6_of_14 zm_X6_46 zw_X6_in zs_X6_in (m_in2 _ (by decide) (by decide)) (by decide) (Nat.le_of_ble_eq_true rfl) ?_
    refine za_if_neB 27 dX6_of_17 (by decide) (fun c17 => ?_) (fun c17 => ?_)
    · exact absurd ⟨c5, c17⟩ hno
    · refine za_aload_n dX6_of_20 rfl ?_
      refine za_ldc dX6_of_21 zk_X6_41 ?_
      rw [show (-1000000001 : Int32) = zfd 0 from rfl]
      refine za_cV1 dX6_of_23 zm_X6_67 zw_X6_finds zv_X6_finds (m_finds (by decide)) (by decide) rfl rfl rfl (Nat.le_of_ble_eq_true rfl) ?_
      exact za_iret hM dX6_of_26 ⟨by rfl, by rfl⟩

set_option maxRecDepth 20000 in
set_option maxHeartbeats 4000000 in
theorem n_acts0 {g : zG} {σ : zSto} {τ : zTn} (hI : zTI 100000 τ) {n p : Nat} (hn : τ 0 3 = nI n) (h9 : n < 9) (hpn : p < n) {q : Nat} (hq : q < 6) : zEd g 8 yX6_acts cX6_acts 4 (some .int) [.ref (zad g 34), .int (nI p), .int (nI q), .int (nI 0)] (zpm σ τ) (some (.int (nI (p_side τ p q)))) (zpm σ τ) := by
  refine zev_intro (own := RX6) (lv := [some (.ref (zad g 34)), some (.int (nI p)), some (.int (nI q)), some (.int (nI 0))]) (by decide +kernel) rfl (Nat.le_of_ble_eq_true rfl) rfl (fun C hM hN => ?_)
  have hp : p < 8 := by omega
  have hP := zper hn h9 hpn
  refine za_aload_n dX6_acts_0 rfl ?_
  refine za_iload_n dX6_acts_1 rfl ?_
  refine za_cV1 dX6_acts_2 zm_X6_110 zw_X6_isPerson zv_X6_isPerson (m_isPerson) (by decide) rfl rfl rfl (Nat.le_of_ble_eq_true rfl) ?_
  refine za_if_eqB 25 dX6_acts_5 (by decide) (fun c5 => absurd hP c5) (fun c5 => ?_)
  refine za_iload_n dX6_acts_8 rfl ?_
  refine za_cS1 dX6_acts_9 zm_X6_60 zw_X6_isQuestion zs_X6_isQuestion (m_isQuestion _) (by decide) (Nat.le_of_ble_eq_true rfl) ?_
  refine za_if_eqB 25 dX6_acts_12 (by decide) (fun c12 => absurd (zrng (Nat.zero_le _) (by omega) (by decide)) c12) (fun c12 => ?_)
  refine za_iload_n dX6_acts_15 rfl ?_
  refine za_i2l dX6_acts_16 ?_
  refine za_lconst (lN 0) dX6_acts_17 (by decide) ?_
  refine za_lconst (lN 1) dX6_acts_18 (by decide) ?_
  refine za_cS3 dX6_acts_19 zm_X6_46 zw_X6_in zs_X6_in (m_in2 _ (by decide) (by decide)) (by decide) (Nat.le_of_ble_eq_true rfl) ?_
  refine za_if_neB 32 dX6_acts_22 (by decide) (fun c22 => ?_) (fun c22 => absurd (by decide) c22)
  refine za_iload_n dX6_acts_32 rfl ?_
  refine za_if_ne 45 dX6_acts_33 (by decide) (fun c33 => absurd (by decide) c33) (fun c33 => ?_)
  refine za_aload_n dX6_acts_36 rfl ?_
  refine za_iload_n dX6_acts_37 rfl ?_
  refine za_iload_n dX6_acts_38 rfl ?_
  refine za_cV2 dX6_acts_39 zm_X6_82 zw_X6_sideOf zv_X6_sideOf (m_sideOf hp hq (hI.2.2.2.2.2.2.1 p hp) hI.2.2.1 hI.1 (by decide)) (by decide) rfl rfl rfl (Nat.le_of_ble_eq_true rfl) ?_
  refine za_goto 51 dX6_acts_42 (by decide) ?_
  exact za_iret hM dX6_acts_51 ⟨by rfl, by rfl⟩

set_option maxRecDepth 20000 in
set_option maxHeartbeats 4000000 in
theorem n_acts1 {g : zG} {σ : zSto} {τ : zTn} (hI : zTI 100000 τ) {n p : Nat} (hn : τ 0 3 = nI n) (h9 : n < 9) (hpn : p < n) {q : Nat} (hq : q < 6) : zEd g 8 yX6_acts cX6_acts 4 (some .int) [.ref (zad g 34), .int (nI p), .int (nI q), .int (nI 1)] (zpm σ τ) (some (.int (p_div (τ 3 p) (τ 1 q) (τ 2 q)))) (zpm σ τ) := by
  refine zev_intro (own := RX6) (lv := [some (.ref (zad g 34)), some (.int (nI p)), some (.int (nI q)), some (.int (nI 1))]) (by decide +kernel) rfl (Nat.le_of_ble_eq_true rfl) rfl (fun C hM hN => ?_)
  have hp : p < 8 := by omega
  have hP := zper hn h9 hpn
  refine za_aload_n dX6_acts_0 rfl ?_
  refine za_iload_n dX6_acts_1 rfl ?_
  refine za_cV1 dX6_acts_2 zm_X6_110 zw_X6_isPerson zv_X6_isPerson (m_isPerson) (by decide) rfl rfl rfl (Nat.le_of_ble_eq_true rfl) ?_
  refine za_if_eqB 25 dX6_acts_5 (by decide) (fun c5 => absurd hP c5) (fun c5 => ?_)
  refine za_iload_n dX6_acts_8 rfl ?_
  refine za_cS1 dX6_acts_9 zm_X6_60 zw_X6_isQuestion zs_X6_isQuestion (m_isQuestion _) (by decide) (Nat.le_of_ble_eq_true rfl) ?_
  refine za_if_eqB 25 dX6_acts_12 (by decide) (fun c12 => absurd (zrng (Nat.zero_le _) (by omega) (by decide)) c12) (fun c12 => ?_)
  refine za_iload_n dX6_acts_15 rfl ?_
  refine za_i2l dX6_acts_16 ?_
  refine za_lconst (lN 0) dX6_acts_17 (by decide) ?_
  refine za_lconst (lN 1) dX6_acts_18 (by decide) ?_
  refine za_cS3 dX6_acts_19 zm_X6_46 zw_X6_in zs_X6_in (m_in2 _ (by decide) (by decide)) (by decide) (Nat.le_of_ble_eq_true rfl) ?_
  refine za_if_neB 32 dX6_acts_22 (by decide) (fun c22 => ?_) (fun c22 => absurd (by decide) c22)
  refine za_iload_n dX6_acts_32 rfl ?_
  refine za_if_ne 45 dX6_acts_33 (by decide) (fun c33 => ?_) (fun c33 => absurd c33 (by decide))
  refine za_aload_n dX6_acts_45 rfl ?_
  refine za_iload_n dX6_acts_46 rfl ?_
  refine za_iload_n dX6_acts_47 rfl ?_
  refine za_cV2 dX6_acts_48 zm_X6_119 zw_X6_divesOf zv_X6_divesOf (m_divesOf hp hq (hI.2.2.2.2.2.2.1 p hp)) (by decide) rfl rfl rfl (Nat.le_of_ble_eq_true rfl) ?_
  exact za_iret hM dX6_acts_51 ⟨by rfl, by rfl⟩

set_option maxRecDepth 20000 in
set_option maxHeartbeats 4000000 in
theorem n_acts_no {g : zG} {σ : zSto} {τ : zTn} {v q w : Int32} (hno : ¬ ((nI 0 ≤ v ∧ v ≤ τ 0 3 - nI 1) ∧ (nI 0 ≤ q ∧ q ≤ nI 5) ∧ (nI 0 ≤ w ∧ w ≤ nI 1))) : zEd g 8 yX6_acts cX6_acts 4 (some .int) [.ref (zad g 34), .int v, .int q, .int w] (zpm σ τ) (some (.int (zfd 0))) (zfin (zpm σ τ) 39 0) := by
  refine zev_intro (own := RX6) (lv := [some (.ref (zad g 34)), some (.int v), some (.int q), some (.int w)]) (by decide +kernel) rfl (Nat.le_of_ble_eq_true rfl) rfl (fun C hM hN => ?_)
  refine za_aload_n dX6_acts_0 rfl ?_
  refine za_iload_n dX6_acts_1 rfl ?_
  refine za_cV1 dX6_acts_2 zm_X6_110 zw_X6_isPerson zv_X6_isPerson (m_isPerson) (by decide) rfl rfl rfl (Nat.le_of_ble_eq_true rfl) ?_
  refine za_if_eqB 25 dX6_acts_5 (by decide) (fun c5 => ?_) (fun c5 => ?_)
  · refine za_aload_n dX6_acts_25 rfl ?_
    refine za_ldc dX6_acts_26 zk_X6_41 ?_
    rw [show (-1000000001 : Int32) = zfd 0 from rfl]
    refine za_cV1 dX6_acts_28 zm_X6_67 zw_X6_finds zv_X6_finds (m_finds (by decide)) (by decide) rfl rfl rfl (Nat.le_of_ble_eq_true rfl) ?_
    exact za_iret hM dX6_acts_31 ⟨by rfl, by rfl⟩
  · refine za_iload_n dX6_acts_8 rfl ?_
    refine za_cS1 dX6_acts_9 zm_X6_60 zw_X6_isQuestion zs_X6_isQuestion (m_isQuestion _) (by decide) (Nat.le_of_ble_eq_true rfl) ?_
    refine za_if_eqB 25 dX6_acts_12 (by decide) (fun c12 => ?_) (fun c12 => ?_)
    · refine za_aload_n dX6_acts_25 rfl ?_
      refine za_ldc dX6_acts_26 zk_X6_41 ?_
      rw [show (-1000000001 : Int32) = zfd 0 from rfl]
      refine za_cV1 dX6_acts_28 zm_X6_67 zw_X6_finds zv_X6_finds (m_finds (by decide)) (by decide) rfl rfl rfl (Nat.le_of_ble_eq_true rfl) ?_
      exact za_iret hM dX6_acts_31 ⟨by rfl, by rfl⟩
    · refine za_iload_n dX6_acts_15 rfl ?_
      refine za_i2l dX6_acts_16 ?_
      refine za_lconst (lN 0) dX6_acts_17 (by decide) ?_
      refine za_lconst (lN 1) dX6_acts_18 (by decide) ?_
      refine za_cS3 dX6_acts_19 zm_X6_46 zw_X6_in zs_X6_in (m_in2 _ (by decide) (by decide)) (by decide) (Nat.le_of_ble_eq_true rfl) ?_
      refine za_if_neB 32 dX6_acts_22 (by decide) (fun c22 => ?_) (fun c22 => ?_)
      · exact absurd ⟨c5, c12, c22⟩ hno
      · refine za_aload_n dX6_acts_25 rfl ?_
        refine za_ldc dX6_acts_26 zk_X6_41 ?_
        rw [show (-1000000001 : Int32) = zfd 0 from rfl]
        refine za_cV1 dX6_acts_28 zm_X6_67 zw_X6_finds zv_X6_finds (m_finds (by decide)) (by decide) rfl rfl rfl (Nat.le_of_ble_eq_true rfl) ?_
        exact za_iret hM dX6_acts_31 ⟨by rfl, by rfl⟩

set_option maxRecDepth 20000 in
set_option maxHeartbeats 4000000 in
theorem n_set1 {g : zG} {σ : zSto} {τ : zTn} {n p : Nat} (hn : τ 0 3 = nI n) (h9 : n < 9) (hpn : p < n) {v : Int32} (hv : nI 0 ≤ v ∧ v ≤ nI 63) : zEd g 8 yX6_set cX6_set 5 (some .int) [.ref (zad g 34), .int (nI p), .int (nI 1), .int v] (zpm σ τ) (some (.int (τ 4 p))) (zpm σ (zup τ 4 p v)) := by
  refine zev_intro (own := RX6) (lv := [some (.ref (zad g 34)), some (.int (nI p)), some (.int (nI 1)), some (.int v), none]) (by decide +kernel) rfl (Nat.le_of_ble_eq_true rfl) rfl (fun C hM hN => ?_)
  have hp : p < 8 := by omega
  have hP := zper hn h9 hpn
  refine za_iload_n dX6_set_0 rfl ?_
  refine za_i2l dX6_set_1 ?_
  refine za_lconst (lN 1) dX6_set_2 (by decide) ?_
  refine za_ldc2 (v := lN 3) dX6_set_3 zk_X6_122 ?_
  refine za_cS3 dX6_set_6 zm_X6_46 zw_X6_in zs_X6_in (m_in2 _ (by decide) (by decide)) (by decide) (Nat.le_of_ble_eq_true rfl) ?_
  refine za_if_eqB 48 dX6_set_9 (by decide) (fun c9 => absurd (by decide) c9) (fun c9 => ?_)
  refine za_iload_n dX6_set_12 rfl ?_
  refine za_i2l dX6_set_13 ?_
  refine za_lconst (lN 0) dX6_set_14 (by decide) ?_
  refine za_iload_n dX6_set_15 rfl ?_
  refine za_iconst (nI 1) dX6_set_16 (by decide) ?_
  refine za_icmp_ne 26 dX6_set_17 (by decide) (fun c17 => absurd (by decide) c17) (fun c17 => ?_)
  refine za_ldc2 (v := lN 63) dX6_set_20 zk_X6_76 ?_
  refine za_goto 38 dX6_set_23 (by decide) ?_
  refine za_cS3 dX6_set_38 zm_X6_46 zw_X6_in zs_X6_in (m_in2 _ (by decide) (by decide)) (by decide) (Nat.le_of_ble_eq_true rfl) ?_
  refine za_if_eqB 48 dX6_set_41 (by decide) (fun c41 => absurd hv c41) (fun c41 => ?_)
  refine za_iconst (nI 1) dX6_set_44 (by decide) ?_
  refine za_goto 49 dX6_set_45 (by decide) ?_
  refine za_istore (lv' := [_, _, _, _, _]) dX6_set_49 hN (by decide) rfl ?_
  refine za_aload_n dX6_set_51 rfl ?_
  refine za_iload_n dX6_set_52 rfl ?_
  refine za_cV1 dX6_set_53 zm_X6_110 zw_X6_isPerson zv_X6_isPerson (m_isPerson) (by decide) rfl rfl rfl (Nat.le_of_ble_eq_true rfl) ?_
  refine za_if_eqB 77 dX6_set_56 (by decide) (fun c56 => absurd hP c56) (fun c56 => ?_)
  refine za_iload dX6_set_59 rfl ?_
  refine za_if_eq 77 dX6_set_61 (by decide) (fun c61 => absurd c61 (by decide)) (fun c61 => ?_)
  refine za_aload_n dX6_set_64 rfl ?_
  refine za_iload_n dX6_set_65 rfl ?_
  refine za_iload_n dX6_set_66 rfl ?_
  refine za_cS2 dX6_set_67 zm_X6_42 zw_X6_spot zs_X6_spot (m_spot) (by decide) (Nat.le_of_ble_eq_true rfl) ?_
  refine za_iload_n dX6_set_70 rfl ?_
  refine za_cV2 dX6_set_71 zm_X6_64 zw_X6_becomes zv_X6_becomes (m_becomes (by omega)) (by decide) rfl rfl rfl (Nat.le_of_ble_eq_true rfl) ?_
  rw [zixP (w := 1) hp (by decide), (zkP (w := 1) hp (by decide)).1, (zkP (w := 1) hp (by decide)).2]
  refine za_goto 83 dX6_set_74 (by decide) ?_
  exact za_iret hM dX6_set_83 ⟨by rfl, by rfl⟩

set_option maxRecDepth 20000 in
set_option maxHeartbeats 4000000 in
theorem n_set2 {g : zG} {σ : zSto} {τ : zTn} {n p : Nat} (hn : τ 0 3 = nI n) (h9 : n < 9) (hpn : p < n) {v : Int32} (hv : nI 0 ≤ v ∧ v ≤ nI 9999) : zEd g 8 yX6_set cX6_set 5 (some .int) [.ref (zad g 34), .int (nI p), .int (nI 2), .int v] (zpm σ τ) (some (.int (τ 5 p))) (zpm σ (zup τ 5 p v)) := by
  refine zev_intro (own := RX6) (lv := [some (.ref (zad g 34)), some (.int (nI p)), some (.int (nI 2)), some (.int v), none]) (by decide +kernel) rfl (Nat.le_of_ble_eq_true rfl) rfl (fun C hM hN => ?_)
  have hp : p < 8 := by omega
  have hP := zper hn h9 hpn
  refine za_iload_n dX6_set_0 rfl ?_
  refine za_i2l dX6_set_1 ?_
  refine za_lconst (lN 1) dX6_set_2 (by decide) ?_
  refine za_ldc2 (v := lN 3) dX6_set_3 zk_X6_122 ?_
  refine za_cS3 dX6_set_6 zm_X6_46 zw_X6_in zs_X6_in (m_in2 _ (by decide) (by decide)) (by decide) (Nat.le_of_ble_eq_true rfl) ?_
  refine za_if_eqB 48 dX6_set_9 (by decide) (fun c9 => absurd (by decide) c9) (fun c9 => ?_)
  refine za_iload_n dX6_set_12 rfl ?_
  refine za_i2l dX6_set_13 ?_
  refine za_lconst (lN 0) dX6_set_14 (by decide) ?_
  refine za_iload_n dX6_set_15 rfl ?_
  refine za_iconst (nI 1) dX6_set_16 (by decide) ?_
  refine za_icmp_ne 26 dX6_set_17 (by decide) (fun c17 => ?_) (fun c17 => absurd c17 (by decide))
  refine za_iload_n dX6_set_26 rfl ?_
  refine za_iconst (nI 2) dX6_set_27 (by decide) ?_
  refine za_icmp_ne 37 dX6_set_28 (by decide) (fun c28 => absurd (by decide) c28) (fun c28 => ?_)
  refine za_ldc2 (v := lN 9999) dX6_set_31 zk_X6_58 ?_
  refine za_goto 38 dX6_set_34 (by decide) ?_
  refine za_cS3 dX6_set_38 zm_X6_46 zw_X6_in zs_X6_in (m_in2 _ (by decide) (by decide)) (by decide) (Nat.le_of_ble_eq_true rfl) ?_
  refine za_if_eqB 48 dX6_set_41 (by decide) (fun c41 => absurd hv c41) (fun c41 => ?_)
  refine za_iconst (nI 1) dX6_set_44 (by decide) ?_
  refine za_goto 49 dX6_set_45 (by decide) ?_
  refine za_istore (lv' := [_, _, _, _, _]) dX6_set_49 hN (by decide) rfl ?_
  refine za_aload_n dX6_set_51 rfl ?_
  refine za_iload_n dX6_set_52 rfl ?_
  refine za_cV1 dX6_set_53 zm_X6_110 zw_X6_isPerson zv_X6_isPerson (m_isPerson) (by decide) rfl rfl rfl (Nat.le_of_ble_eq_true rfl) ?_
  refine za_if_eqB 77 dX6_set_56 (by decide) (fun c56 => absurd hP c56) (fun c56 => ?_)
  refine za_iload dX6_set_59 rfl ?_
  refine za_if_eq 77 dX6_set_61 (by decide) (fun c61 => absurd c61 (by decide)) (fun c61 => ?_)
  refine za_aload_n dX6_set_64 rfl ?_
  refine za_iload_n dX6_set_65 rfl ?_
  refine za_iload_n dX6_set_66 rfl ?_
  refine za_cS2 dX6_set_67 zm_X6_42 zw_X6_spot zs_X6_spot (m_spot) (by decide) (Nat.le_of_ble_eq_true rfl) ?_
  refine za_iload_n dX6_set_70 rfl ?_
  refine za_cV2 dX6_set_71 zm_X6_64 zw_X6_becomes zv_X6_becomes (m_becomes (by omega)) (by decide) rfl rfl rfl (Nat.le_of_ble_eq_true rfl) ?_
  rw [zixP (w := 2) hp (by decide), (zkP (w := 2) hp (by decide)).1, (zkP (w := 2) hp (by decide)).2]
  refine za_goto 83 dX6_set_74 (by decide) ?_
  exact za_iret hM dX6_set_83 ⟨by rfl, by rfl⟩

set_option maxRecDepth 20000 in
set_option maxHeartbeats 4000000 in
theorem n_set3 {g : zG} {σ : zSto} {τ : zTn} {n p : Nat} (hn : τ 0 3 = nI n) (h9 : n < 9) (hpn : p < n) {v : Int32} (hv : nI 0 ≤ v ∧ v ≤ nI 1) : zEd g 8 yX6_set cX6_set 5 (some .int) [.ref (zad g 34), .int (nI p), .int (nI 3), .int v] (zpm σ τ) (some (.int (τ 6 p))) (zpm σ (zup τ 6 p v)) := by
  refine zev_intro (own := RX6) (lv := [some (.ref (zad g 34)), some (.int (nI p)), some (.int (nI 3)), some (.int v), none]) (by decide +kernel) rfl (Nat.le_of_ble_eq_true rfl) rfl (fun C hM hN => ?_)
  have hp : p < 8 := by omega
  have hP := zper hn h9 hpn
  refine za_iload_n dX6_set_0 rfl ?_
  refine za_i2l dX6_set_1 ?_
  refine za_lconst (lN 1) dX6_set_2 (by decide) ?_
  refine za_ldc2 (v := lN 3) dX6_set_3 zk_X6_122 ?_
  refine za_cS3 dX6_set_6 zm_X6_46 zw_X6_in zs_X6_in (m_in2 _ (by decide) (by decide)) (by decide) (Nat.le_of_ble_eq_true rfl) ?_
  refine za_if_eqB 48 dX6_set_9 (by decide) (fun c9 => absurd (by decide) c9) (fun c9 => ?_)
  refine za_iload_n dX6_set_12 rfl ?_
  refine za_i2l dX6_set_13 ?_
  refine za_lconst (lN 0) dX6_set_14 (by decide) ?_
  refine za_iload_n dX6_set_15 rfl ?_
  refine za_iconst (nI 1) dX6_set_16 (by decide) ?_
  refine za_icmp_ne 26 dX6_set_17 (by decide) (fun c17 => ?_) (fun c17 => absurd c17 (by decide))
  refine za_iload_n dX6_set_26 rfl ?_
  refine za_iconst (nI 2) dX6_set_27 (by decide) ?_
  refine za_icmp_ne 37 dX6_set_28 (by decide) (fun c28 => ?_) (fun c28 => absurd c28 (by decide))
  refine za_lconst (lN 1) dX6_set_37 (by decide) ?_
  refine za_cS3 dX6_set_38 zm_X6_46 zw_X6_in zs_X6_in (m_in2 _ (by decide) (by decide)) (by decide) (Nat.le_of_ble_eq_true rfl) ?_
  refine za_if_eqB 48 dX6_set_41 (by decide) (fun c41 => absurd hv c41) (fun c41 => ?_)
  refine za_iconst (nI 1) dX6_set_44 (by decide) ?_
  refine za_goto 49 dX6_set_45 (by decide) ?_
  refine za_istore (lv' := [_, _, _, _, _]) dX6_set_49 hN (by decide) rfl ?_
  refine za_aload_n dX6_set_51 rfl ?_
  refine za_iload_n dX6_set_52 rfl ?_
  refine za_cV1 dX6_set_53 zm_X6_110 zw_X6_isPerson zv_X6_isPerson (m_isPerson) (by decide) rfl rfl rfl (Nat.le_of_ble_eq_true rfl) ?_
  refine za_if_eqB 77 dX6_set_56 (by decide) (fun c56 => absurd hP c56) (fun c56 => ?_)
  refine za_iload dX6_set_59 rfl ?_
  refine za_if_eq 77 dX6_set_61 (by decide) (fun c61 => absurd c61 (by decide)) (fun c61 => ?_)
  refine za_aload_n dX6_set_64 rfl ?_
  refine za_iload_n dX6_set_65 rfl ?_
  refine za_iload_n dX6_set_66 rfl ?_
  refine za_cS2 dX6_set_67 zm_X6_42 zw_X6_spot zs_X6_spot (m_spot) (by decide) (Nat.le_of_ble_eq_true rfl) ?_
  refine za_iload_n dX6_set_70 rfl ?_
  refine za_cV2 dX6_set_71 zm_X6_64 zw_X6_becomes zv_X6_becomes (m_becomes (by omega)) (by decide) rfl rfl rfl (Nat.le_of_ble_eq_true rfl) ?_
  rw [zixP (w := 3) hp (by decide), (zkP (w := 3) hp (by decide)).1, (zkP (w := 3) hp (by decide)).2]
  refine za_goto 83 dX6_set_74 (by decide) ?_
  exact za_iret hM dX6_set_83 ⟨by rfl, by rfl⟩

set_option maxRecDepth 20000 in
set_option maxHeartbeats 4000000 in
theorem n_set_no {g : zG} {σ : zSto} {τ : zTn} {v w u : Int32} (hno : ¬ ((nI 0 ≤ v ∧ v ≤ τ 0 3 - nI 1) ∧ ((w = nI 1 ∧ (nI 0 ≤ u ∧ u ≤ nI 63)) ∨ (w = nI 2 ∧ (nI 0 ≤ u ∧ u ≤ nI 9999)) ∨ (w = nI 3 ∧ (nI 0 ≤ u ∧ u ≤ nI 1))))) : zEd g 8 yX6_set cX6_set 5 (some .int) [.ref (zad g 34), .int v, .int w, .int u] (zpm σ τ) (some (.int (zfd 0))) (zfin (zpm σ τ) 39 0) := by
  refine zev_intro (own := RX6) (lv := [some (.ref (zad g 34)), some (.int v), some (.int w), some (.int u), none]) (by decide +kernel) rfl (Nat.le_of_ble_eq_true rfl) rfl (fun C hM hN => ?_)
  refine za_iload_n dX6_set_0 rfl ?_
  refine za_i2l dX6_set_1 ?_
  refine za_lconst (lN 1) dX6_set_2 (by decide) ?_
  refine za_ldc2 (v := lN 3) dX6_set_3 zk_X6_122 ?_
  refine za_cS3 dX6_set_6 zm_X6_46 zw_X6_in zs_X6_in (m_in2 _ (by decide) (by decide)) (by decide) (Nat.le_of_ble_eq_true rfl) ?_
  refine za_if_eqB 48 dX6_set_9 (by decide) (fun c9 => ?_) (fun c9 => ?_)
  · refine za_iconst (nI 0) dX6_set_48 (by decide) ?_
    refine za_istore (lv' := [_, _, _, _, _]) dX6_set_49 hN (by decide) rfl ?_
    refine za_aload_n dX6_set_51 rfl ?_
    refine za_iload_n dX6_set_52 rfl ?_
    refine za_cV1 dX6_set_53 zm_X6_110 zw_X6_isPerson zv_X6_isPerson (m_isPerson) (by decide) rfl rfl rfl (Nat.le_of_ble_eq_true rfl) ?_
    refine za_if_eqB 77 dX6_set_56 (by decide) (fun c56 => ?_) (fun c56 => ?_)
    · refine za_aload_n dX6_set_77 rfl ?_
      refine za_ldc dX6_set_78 zk_X6_41 ?_
      rw [show (-1000000001 : Int32) = zfd 0 from rfl]
      refine za_cV1 dX6_set_80 zm_X6_67 zw_X6_finds zv_X6_finds (m_finds (by decide)) (by decide) rfl rfl rfl (Nat.le_of_ble_eq_true rfl) ?_
      exact za_iret hM dX6_set_83 ⟨by rfl, by rfl⟩
    · refine za_iload dX6_set_59 rfl ?_
      refine za_if_eq 77 dX6_set_61 (by decide) (fun c61 => ?_) (fun c61 => absurd (by decide) c61)
      refine za_aload_n dX6_set_77 rfl ?_
      refine za_ldc dX6_set_78 zk_X6_41 ?_
      rw [show (-1000000001 : Int32) = zfd 0 from rfl]
      refine za_cV1 dX6_set_80 zm_X6_67 zw_X6_finds zv_X6_finds (m_finds (by decide)) (by decide) rfl rfl rfl (Nat.le_of_ble_eq_true rfl) ?_
      exact za_iret hM dX6_set_83 ⟨by rfl, by rfl⟩
  · refine za_iload_n dX6_set_12 rfl ?_
    refine za_i2l dX6_set_13 ?_
    refine za_lconst (lN 0) dX6_set_14 (by decide) ?_
    refine za_iload_n dX6_set_15 rfl ?_
    refine za_iconst (nI 1) dX6_set_16 (by decide) ?_
    refine za_icmp_ne 26 dX6_set_17 (by decide) (fun c17 => ?_) (fun c17 => ?_)
    · refine za_iload_n dX6_set_26 rfl ?_
      refine za_iconst (nI 2) dX6_set_27 (by decide) ?_
      refine za_icmp_ne 37 dX6_set_28 (by decide) (fun c28 => ?_) (fun c28 => ?_)
      · refine za_lconst (lN 1) dX6_set_37 (by decide) ?_
        refine za_cS3 dX6_set_38 zm_X6_46 zw_X6_in zs_X6_in (m_in2 _ (by decide) (by decide)) (by decide) (Nat.le_of_ble_eq_true rfl) ?_
        refine za_if_eqB 48 dX6_set_41 (by decide) (fun c41 => ?_) (fun c41 => ?_)
        · refine za_iconst (nI 0) dX6_set_48 (by decide) ?_
          refine za_istore (lv' := [_, _, _, _, _]) dX6_set_49 hN (by decide) rfl ?_
          refine za_aload_n dX6_set_51 rfl ?_
          refine za_iload_n dX6_set_52 rfl ?_
          refine za_cV1 dX6_set_53 zm_X6_110 zw_X6_isPerson zv_X6_isPerson (m_isPerson) (by decide) rfl rfl rfl (Nat.le_of_ble_eq_true rfl) ?_
          refine za_if_eqB 77 dX6_set_56 (by decide) (fun c56 => ?_) (fun c56 => ?_)
          · refine za_aload_n dX6_set_77 rfl ?_
            refine za_ldc dX6_set_78 zk_X6_41 ?_
            rw [show (-1000000001 : Int32) = zfd 0 from rfl]
            refine za_cV1 dX6_set_80 zm_X6_67 zw_X6_finds zv_X6_finds (m_finds (by decide)) (by decide) rfl rfl rfl (Nat.le_of_ble_eq_true rfl) ?_
            exact za_iret hM dX6_set_83 ⟨by rfl, by rfl⟩
          · refine za_iload dX6_set_59 rfl ?_
            refine za_if_eq 77 dX6_set_61 (by decide) (fun c61 => ?_) (fun c61 => absurd (by decide) c61)
            refine za_aload_n dX6_set_77 rfl ?_
            refine za_ldc dX6_set_78 zk_X6_41 ?_
            rw [show (-1000000001 : Int32) = zfd 0 from rfl]
            refine za_cV1 dX6_set_80 zm_X6_67 zw_X6_finds zv_X6_finds (m_finds (by decide)) (by decide) rfl rfl rfl (Nat.le_of_ble_eq_true rfl) ?_
            exact za_iret hM dX6_set_83 ⟨by rfl, by rfl⟩
        · refine za_iconst (nI 1) dX6_set_44 (by decide) ?_
          refine za_goto 49 dX6_set_45 (by decide) ?_
          refine za_istore (lv' := [_, _, _, _, _]) dX6_set_49 hN (by decide) rfl ?_
          refine za_aload_n dX6_set_51 rfl ?_
          refine za_iload_n dX6_set_52 rfl ?_
          refine za_cV1 dX6_set_53 zm_X6_110 zw_X6_isPerson zv_X6_isPerson (m_isPerson) (by decide) rfl rfl rfl (Nat.le_of_ble_eq_true rfl) ?_
          refine za_if_eqB 77 dX6_set_56 (by decide) (fun c56 => ?_) (fun c56 => ?_)
          · refine za_aload_n dX6_set_77 rfl ?_
            refine za_ldc dX6_set_78 zk_X6_41 ?_
            rw [show (-1000000001 : Int32) = zfd 0 from rfl]
            refine za_cV1 dX6_set_80 zm_X6_67 zw_X6_finds zv_X6_finds (m_finds (by decide)) (by decide) rfl rfl rfl (Nat.le_of_ble_eq_true rfl) ?_
            exact za_iret hM dX6_set_83 ⟨by rfl, by rfl⟩
          · refine za_iload dX6_set_59 rfl ?_
            refine za_if_eq 77 dX6_set_61 (by decide) (fun c61 => absurd c61 (by decide)) (fun c61 => ?_)
            first
              | exact (hno ⟨c56, Or.inl ⟨c17, c41⟩⟩).elim
              | exact (hno ⟨c56, Or.inr (Or.inl ⟨c28, c41⟩)⟩).elim
              | exact (hno ⟨c56, Or.inr (Or.inr ⟨zw3 c9 c17 c28, c41⟩)⟩).elim
      · refine za_ldc2 (v := lN 9999) dX6_set_31 zk_X6_58 ?_
        refine za_goto 38 dX6_set_34 (by decide) ?_
        refine za_cS3 dX6_set_38 zm_X6_46 zw_X6_in zs_X6_in (m_in2 _ (by decide) (by decide)) (by decide) (Nat.le_of_ble_eq_true rfl) ?_
        refine za_if_eqB 48 dX6_set_41 (by decide) (fun c41 => ?_) (fun c41 => ?_)
        · refine za_iconst (nI 0) dX6_set_48 (by decide) ?_
          refine za_istore (lv' := [_, _, _, _, _]) dX6_set_49 hN (by decide) rfl ?_
          refine za_aload_n dX6_set_51 rfl ?_
          refine za_iload_n dX6_set_52 rfl ?_
          refine za_cV1 dX6_set_53 zm_X6_110 zw_X6_isPerson zv_X6_isPerson (m_isPerson) (by decide) rfl rfl rfl (Nat.le_of_ble_eq_true rfl) ?_
          refine za_if_eqB 77 dX6_set_56 (by decide) (fun c56 => ?_) (fun c56 => ?_)
          · refine za_aload_n dX6_set_77 rfl ?_
            refine za_ldc dX6_set_78 zk_X6_41 ?_
            rw [show (-1000000001 : Int32) = zfd 0 from rfl]
            refine za_cV1 dX6_set_80 zm_X6_67 zw_X6_finds zv_X6_finds (m_finds (by decide)) (by decide) rfl rfl rfl (Nat.le_of_ble_eq_true rfl) ?_
            exact za_iret hM dX6_set_83 ⟨by rfl, by rfl⟩
          · refine za_iload dX6_set_59 rfl ?_
            refine za_if_eq 77 dX6_set_61 (by decide) (fun c61 => ?_) (fun c61 => absurd (by decide) c61)
            refine za_aload_n dX6_set_77 rfl ?_
            refine za_ldc dX6_set_78 zk_X6_41 ?_
            rw [show (-1000000001 : Int32) = zfd 0 from rfl]
            refine za_cV1 dX6_set_80 zm_X6_67 zw_X6_finds zv_X6_finds (m_finds (by decide)) (by decide) rfl rfl rfl (Nat.le_of_ble_eq_true rfl) ?_
            exact za_iret hM dX6_set_83 ⟨by rfl, by rfl⟩
        · refine za_iconst (nI 1) dX6_set_44 (by decide) ?_
          refine za_goto 49 dX6_set_45 (by decide) ?_
          refine za_istore (lv' := [_, _, _, _, _]) dX6_set_49 hN (by decide) rfl ?_
          refine za_aload_n dX6_set_51 rfl ?_
          refine za_iload_n dX6_set_52 rfl ?_
          refine za_cV1 dX6_set_53 zm_X6_110 zw_X6_isPerson zv_X6_isPerson (m_isPerson) (by decide) rfl rfl rfl (Nat.le_of_ble_eq_true rfl) ?_
          refine za_if_eqB 77 dX6_set_56 (by decide) (fun c56 => ?_) (fun c56 => ?_)
          · refine za_aload_n dX6_set_77 rfl ?_
            refine za_ldc dX6_set_78 zk_X6_41 ?_
            rw [show (-1000000001 : Int32) = zfd 0 from rfl]
            refine za_cV1 dX6_set_80 zm_X6_67 zw_X6_finds zv_X6_finds (m_finds (by decide)) (by decide) rfl rfl rfl (Nat.le_of_ble_eq_true rfl) ?_
            exact za_iret hM dX6_set_83 ⟨by rfl, by rfl⟩
          · refine za_iload dX6_set_59 rfl ?_
            refine za_if_eq 77 dX6_set_61 (by decide) (fun c61 => absurd c61 (by decide)) (fun c61 => ?_)
            first
              | exact (hno ⟨c56, Or.inl ⟨c17, c41⟩⟩).elim
              | exact (hno ⟨c56, Or.inr (Or.inl ⟨c28, c41⟩)⟩).elim
              | exact (hno ⟨c56, Or.inr (Or.inr ⟨zw3 c9 c17 c28, c41⟩)⟩).elim
    · refine za_ldc2 (v := lN 63) dX6_set_20 zk_X6_76 ?_
      refine za_goto 38 dX6_set_23 (by decide) ?_
      refine za_cS3 dX6_set_38 zm_X6_46 zw_X6_in zs_X6_in (m_in2 _ (by decide) (by decide)) (by decide) (Nat.le_of_ble_eq_true rfl) ?_
      refine za_if_eqB 48 dX6_set_41 (by decide) (fun c41 => ?_) (fun c41 => ?_)
      · refine za_iconst (nI 0) dX6_set_48 (by decide) ?_
        refine za_istore (lv' := [_, _, _, _, _]) dX6_set_49 hN (by decide) rfl ?_
        refine za_aload_n dX6_set_51 rfl ?_
        refine za_iload_n dX6_set_52 rfl ?_
        refine za_cV1 dX6_set_53 zm_X6_110 zw_X6_isPerson zv_X6_isPerson (m_isPerson) (by decide) rfl rfl rfl (Nat.le_of_ble_eq_true rfl) ?_
        refine za_if_eqB 77 dX6_set_56 (by decide) (fun c56 => ?_) (fun c56 => ?_)
        · refine za_aload_n dX6_set_77 rfl ?_
          refine za_ldc dX6_set_78 zk_X6_41 ?_
          rw [show (-1000000001 : Int32) = zfd 0 from rfl]
          refine za_cV1 dX6_set_80 zm_X6_67 zw_X6_finds zv_X6_finds (m_finds (by decide)) (by decide) rfl rfl rfl (Nat.le_of_ble_eq_true rfl) ?_
          exact za_iret hM dX6_set_83 ⟨by rfl, by rfl⟩
        · refine za_iload dX6_set_59 rfl ?_
          refine za_if_eq 77 dX6_set_61 (by decide) (fun c61 => ?_) (fun c61 => absurd (by decide) c61)
          refine za_aload_n dX6_set_77 rfl ?_
          refine za_ldc dX6_set_78 zk_X6_41 ?_
          rw [show (-1000000001 : Int32) = zfd 0 from rfl]
          refine za_cV1 dX6_set_80 zm_X6_67 zw_X6_finds zv_X6_finds (m_finds (by decide)) (by decide) rfl rfl rfl (Nat.le_of_ble_eq_true rfl) ?_
          exact za_iret hM dX6_set_83 ⟨by rfl, by rfl⟩
      · refine za_iconst (nI 1) dX6_set_44 (by decide) ?_
        refine za_goto 49 dX6_set_45 (by decide) ?_
        refine za_istore (lv' := [_, _, _, _, _]) dX6_set_49 hN (by decide) rfl ?_
        refine za_aload_n dX6_set_51 rfl ?_
        refine za_iload_n dX6_set_52 rfl ?_
        refine za_cV1 dX6_set_53 zm_X6_110 zw_X6_isPerson zv_X6_isPerson (m_isPerson) (by decide) rfl rfl rfl (Nat.le_of_ble_eq_true rfl) ?_
        refine za_if_eqB 77 dX6_set_56 (by decide) (fun c56 => ?_) (fun c56 => ?_)
        · refine za_aload_n dX6_set_77 rfl ?_
          refine za_ldc dX6_set_78 zk_X6_41 ?_
          rw [show (-1000000001 : Int32) = zfd 0 from rfl]
          refine za_cV1 dX6_set_80 zm_X6_67 zw_X6_finds zv_X6_finds (m_finds (by decide)) (by decide) rfl rfl rfl (Nat.le_of_ble_eq_true rfl) ?_
          exact za_iret hM dX6_set_83 ⟨by rfl, by rfl⟩
        · refine za_iload dX6_set_59 rfl ?_
          refine za_if_eq 77 dX6_set_61 (by decide) (fun c61 => absurd c61 (by decide)) (fun c61 => ?_)
          first
            | exact (hno ⟨c56, Or.inl ⟨c17, c41⟩⟩).elim
            | exact (hno ⟨c56, Or.inr (Or.inl ⟨c28, c41⟩)⟩).elim
            | exact (hno ⟨c56, Or.inr (Or.inr ⟨zw3 c9 c17 c28, c41⟩)⟩).elim

set_option maxRecDepth 20000 in
set_option maxHeartbeats 4000000 in
theorem n_turn_ok {g : zG} {σ : zSto} {τ : zTn} {n p : Nat} (hn : τ 0 3 = nI n) (h9 : n < 9) (hpn : p < n) {k : Int32} (hk : nI 0 ≤ k ∧ k ≤ nI 5) : zEd g 8 yX6_turn cX6_turn 3 (some .int) [.ref (zad g 34), .int (nI p), .int k] (zpm σ τ) (some (.int (τ 3 p))) (zpm σ (zup τ 3 p k)) := by
  refine zev_intro (own := RX6) (lv := [some (.ref (zad g 34)), some (.int (nI p)), some (.int k)]) (by decide +kernel) rfl (Nat.le_of_ble_eq_true rfl) rfl (fun C hM hN => ?_)
  have hp : p < 8 := by omega
  have hP := zper hn h9 hpn
  refine za_aload_n dX6_turn_0 rfl ?_
  refine za_iload_n dX6_turn_1 rfl ?_
  refine za_cV1 dX6_turn_2 zm_X6_110 zw_X6_isPerson zv_X6_isPerson (m_isPerson) (by decide) rfl rfl rfl (Nat.le_of_ble_eq_true rfl) ?_
  refine za_if_eqB 28 dX6_turn_5 (by decide) (fun c5 => absurd hP c5) (fun c5 => ?_)
  refine za_iload_n dX6_turn_8 rfl ?_
  refine za_cS1 dX6_turn_9 zm_X6_103 zw_X6_isKind zs_X6_isKind (m_isKind _) (by decide) (Nat.le_of_ble_eq_true rfl) ?_
  refine za_if_eqB 28 dX6_turn_12 (by decide) (fun c12 => absurd hk c12) (fun c12 => ?_)
  refine za_aload_n dX6_turn_15 rfl ?_
  refine za_iload_n dX6_turn_16 rfl ?_
  refine za_iconst (nI 0) dX6_turn_17 (by decide) ?_
  refine za_cS2 dX6_turn_18 zm_X6_42 zw_X6_spot zs_X6_spot (m_spot) (by decide) (Nat.le_of_ble_eq_true rfl) ?_
  refine za_iload_n dX6_turn_21 rfl ?_
  refine za_cV2 dX6_turn_22 zm_X6_64 zw_X6_becomes zv_X6_becomes (m_becomes (by omega)) (by decide) rfl rfl rfl (Nat.le_of_ble_eq_true rfl) ?_
  rw [zixP (w := 0) hp (by decide), (zkP (w := 0) hp (by decide)).1, (zkP (w := 0) hp (by decide)).2]
  refine za_goto 34 dX6_turn_25 (by decide) ?_
  exact za_iret hM dX6_turn_34 ⟨by rfl, by rfl⟩

set_option maxRecDepth 20000 in
set_option maxHeartbeats 4000000 in
theorem n_turn_no {g : zG} {σ : zSto} {τ : zTn} {v k : Int32} (hno : ¬ ((nI 0 ≤ v ∧ v ≤ τ 0 3 - nI 1) ∧ (nI 0 ≤ k ∧ k ≤ nI 5))) : zEd g 8 yX6_turn cX6_turn 3 (some .int) [.ref (zad g 34), .int v, .int k] (zpm σ τ) (some (.int (zfd 0))) (zfin (zpm σ τ) 39 0) := by
  refine zev_intro (own := RX6) (lv := [some (.ref (zad g 34)), some (.int v), some (.int k)]) (by decide +kernel) rfl (Nat.le_of_ble_eq_true rfl) rfl (fun C hM hN => ?_)
  refine za_aload_n dX6_turn_0 rfl ?_
  refine za_iload_n dX6_turn_1 rfl ?_
  refine za_cV1 dX6_turn_2 zm_X6_110 zw_X6_isPerson zv_X6_isPerson (m_isPerson) (by decide) rfl rfl rfl (Nat.le_of_ble_eq_true rfl) ?_
  refine za_if_eqB 28 dX6_turn_5 (by decide) (fun c5 => ?_) (fun c5 => ?_)
  · refine za_aload_n dX6_turn_28 rfl ?_
    refine za_ldc dX6_turn_29 zk_X6_41 ?_
    rw [show (-1000000001 : Int32) = zfd 0 from rfl]
    refine za_cV1 dX6_turn_31 zm_X6_67 zw_X6_finds zv_X6_finds (m_finds (by decide)) (by decide) rfl rfl rfl (Nat.le_of_ble_eq_true rfl) ?_
    exact za_iret hM dX6_turn_34 ⟨by rfl, by rfl⟩
  · refine za_iload_n dX6_turn_8 rfl ?_
    refine za_cS1 dX6_turn_9 zm_X6_103 zw_X6_isKind zs_X6_isKind (m_isKind _) (by decide) (Nat.le_of_ble_eq_true rfl) ?_
    refine za_if_eqB 28 dX6_turn_12 (by decide) (fun c12 => ?_) (fun c12 => ?_)
    · refine za_aload_n dX6_turn_28 rfl ?_
      refine za_ldc dX6_turn_29 zk_X6_41 ?_
      rw [show (-1000000001 : Int32) = zfd 0 from rfl]
      refine za_cV1 dX6_turn_31 zm_X6_67 zw_X6_finds zv_X6_finds (m_finds (by decide)) (by decide) rfl rfl rfl (Nat.le_of_ble_eq_true rfl) ?_
      exact za_iret hM dX6_turn_34 ⟨by rfl, by rfl⟩
    · exact absurd ⟨c5, c12⟩ hno

set_option maxRecDepth 20000 in
set_option maxHeartbeats 4000000 in
theorem n_as_ok {g : zG} {σ : zSto} {τ : zTn} {n p : Nat} (hn : τ 0 3 = nI n) (h9 : n < 9) (hpn : p < n) {a b : Nat} (ha : a < 6) (hb : b < 6) (e3 : τ 3 p = nI a) (hu : p_und a b) : zEd g 8 yX6_as cX6_as 3 (some .int) [.ref (zad g 34), .int (nI p), .int (nI b)] (zpm σ τ) (some (.int (τ 5 p))) (zpm σ τ) := by
  refine zev_intro (own := RX6) (lv := [some (.ref (zad g 34)), some (.int (nI p)), some (.int (nI b))]) (by decide +kernel) rfl (Nat.le_of_ble_eq_true rfl) rfl (fun C hM hN => ?_)
  have hp : p < 8 := by omega
  have hP := zper hn h9 hpn
  refine za_aload_n dX6_as_0 rfl ?_
  refine za_iload_n dX6_as_1 rfl ?_
  refine za_cV1 dX6_as_2 zm_X6_110 zw_X6_isPerson zv_X6_isPerson (m_isPerson) (by decide) rfl rfl rfl (Nat.le_of_ble_eq_true rfl) ?_
  refine za_if_eqB 15 dX6_as_5 (by decide) (fun c5 => absurd hP c5) (fun c5 => ?_)
  refine za_iload_n dX6_as_8 rfl ?_
  refine za_cS1 dX6_as_9 zm_X6_103 zw_X6_isKind zs_X6_isKind (m_isKind _) (by decide) (Nat.le_of_ble_eq_true rfl) ?_
  refine za_if_neB 22 dX6_as_12 (by decide) (fun c12 => ?_) (fun c12 => absurd (zrng (Nat.zero_le _) (by omega) (by decide)) c12)
  refine za_aload_n dX6_as_22 rfl ?_
  refine za_iload_n dX6_as_23 rfl ?_
  refine za_iconst (nI 0) dX6_as_24 (by decide) ?_
  refine za_cV2 dX6_as_25 zm_X6_55 zw_X6_its zv_X6_its (m_its hp (by decide)) (by decide) rfl rfl rfl (Nat.le_of_ble_eq_true rfl) ?_
  rw [show τ (3 + 0) p = nI a from e3]
  refine za_iload_n dX6_as_28 rfl ?_
  refine za_cS2 dX6_as_29 zm_X6_124 zw_X6_isUnder zs_X6_isUnder (m_isUnder ha hb) (by decide) (Nat.le_of_ble_eq_true rfl) ?_
  refine za_if_eqB 44 dX6_as_32 (by decide) (fun c32 => absurd hu c32) (fun c32 => ?_)
  refine za_aload_n dX6_as_35 rfl ?_
  refine za_iload_n dX6_as_36 rfl ?_
  refine za_iconst (nI 2) dX6_as_37 (by decide) ?_
  refine za_cV2 dX6_as_38 zm_X6_55 zw_X6_its zv_X6_its (m_its hp (by decide)) (by decide) rfl rfl rfl (Nat.le_of_ble_eq_true rfl) ?_
  refine za_goto 50 dX6_as_41 (by decide) ?_
  exact za_iret hM dX6_as_50 ⟨by rfl, by rfl⟩

set_option maxRecDepth 20000 in
set_option maxHeartbeats 4000000 in
theorem n_as_kind {g : zG} {σ : zSto} {τ : zTn} {n p : Nat} (hn : τ 0 3 = nI n) (h9 : n < 9) (hpn : p < n) {a b : Nat} (ha : a < 6) (hb : b < 6) (e3 : τ 3 p = nI a) (hu : ¬ p_und a b) : zEd g 8 yX6_as cX6_as 3 (some .int) [.ref (zad g 34), .int (nI p), .int (nI b)] (zpm σ τ) (some (.int (zfd 2))) (zfin (zpm σ τ) 39 2) := by
  refine zev_intro (own := RX6) (lv := [some (.ref (zad g 34)), some (.int (nI p)), some (.int (nI b))]) (by decide +kernel) rfl (Nat.le_of_ble_eq_true rfl) rfl (fun C hM hN => ?_)
  have hp : p < 8 := by omega
  have hP := zper hn h9 hpn
  refine za_aload_n dX6_as_0 rfl ?_
  refine za_iload_n dX6_as_1 rfl ?_
  refine za_cV1 dX6_as_2 zm_X6_110 zw_X6_isPerson zv_X6_isPerson (m_isPerson) (by decide) rfl rfl rfl (Nat.le_of_ble_eq_true rfl) ?_
  refine za_if_eqB 15 dX6_as_5 (by decide) (fun c5 => absurd hP c5) (fun c5 => ?_)
  refine za_iload_n dX6_as_8 rfl ?_
  refine za_cS1 dX6_as_9 zm_X6_103 zw_X6_isKind zs_X6_isKind (m_isKind _) (by decide) (Nat.le_of_ble_eq_true rfl) ?_
  refine za_if_neB 22 dX6_as_12 (by decide) (fun c12 => ?_) (fun c12 => absurd (zrng (Nat.zero_le _) (by omega) (by decide)) c12)
  refine za_aload_n dX6_as_22 rfl ?_
  refine za_iload_n dX6_as_23 rfl ?_
  refine za_iconst (nI 0) dX6_as_24 (by decide) ?_
  refine za_cV2 dX6_as_25 zm_X6_55 zw_X6_its zv_X6_its (m_its hp (by decide)) (by decide) rfl rfl rfl (Nat.le_of_ble_eq_true rfl) ?_
  rw [show τ (3 + 0) p = nI a from e3]
  refine za_iload_n dX6_as_28 rfl ?_
  refine za_cS2 dX6_as_29 zm_X6_124 zw_X6_isUnder zs_X6_isUnder (m_isUnder ha hb) (by decide) (Nat.le_of_ble_eq_true rfl) ?_
  refine za_if_eqB 44 dX6_as_32 (by decide) (fun c32 => ?_) (fun c32 => absurd c32 hu)
  refine za_aload_n dX6_as_44 rfl ?_
  refine za_ldc dX6_as_45 zk_X6_128 ?_
  rw [show (-1000000003 : Int32) = zfd 2 from rfl]
  refine za_cV1 dX6_as_47 zm_X6_67 zw_X6_finds zv_X6_finds (m_finds (by decide)) (by decide) rfl rfl rfl (Nat.le_of_ble_eq_true rfl) ?_
  exact za_iret hM dX6_as_50 ⟨by rfl, by rfl⟩

set_option maxRecDepth 20000 in
set_option maxHeartbeats 4000000 in
theorem n_as_no {g : zG} {σ : zSto} {τ : zTn} {v k : Int32} (hno : ¬ ((nI 0 ≤ v ∧ v ≤ τ 0 3 - nI 1) ∧ (nI 0 ≤ k ∧ k ≤ nI 5))) : zEd g 8 yX6_as cX6_as 3 (some .int) [.ref (zad g 34), .int v, .int k] (zpm σ τ) (some (.int (zfd 0))) (zfin (zpm σ τ) 39 0) := by
  refine zev_intro (own := RX6) (lv := [some (.ref (zad g 34)), some (.int v), some (.int k)]) (by decide +kernel) rfl (Nat.le_of_ble_eq_true rfl) rfl (fun C hM hN => ?_)
  refine za_aload_n dX6_as_0 rfl ?_
  refine za_iload_n dX6_as_1 rfl ?_
  refine za_cV1 dX6_as_2 zm_X6_110 zw_X6_isPerson zv_X6_isPerson (m_isPerson) (by decide) rfl rfl rfl (Nat.le_of_ble_eq_true rfl) ?_
  refine za_if_eqB 15 dX6_as_5 (by decide) (fun c5 => ?_) (fun c5 => ?_)
  · refine za_aload_n dX6_as_15 rfl ?_
    refine za_ldc dX6_as_16 zk_X6_41 ?_
    rw [show (-1000000001 : Int32) = zfd 0 from rfl]
    refine za_cV1 dX6_as_18 zm_X6_67 zw_X6_finds zv_X6_finds (m_finds (by decide)) (by decide) rfl rfl rfl (Nat.le_of_ble_eq_true rfl) ?_
    exact za_iret hM dX6_as_21 ⟨by rfl, by rfl⟩
  · refine za_iload_n dX6_as_8 rfl ?_
    refine za_cS1 dX6_as_9 zm_X6_103 zw_X6_isKind zs_X6_isKind (m_isKind _) (by decide) (Nat.le_of_ble_eq_true rfl) ?_
    refine za_if_neB 22 dX6_as_12 (by decide) (fun c12 => ?_) (fun c12 => ?_)
    · exact absurd ⟨c5, c12⟩ hno
    · refine za_aload_n dX6_as_15 rfl ?_
      refine za_ldc dX6_as_16 zk_X6_41 ?_
      rw [show (-1000000001 : Int32) = zfd 0 from rfl]
      refine za_cV1 dX6_as_18 zm_X6_67 zw_X6_finds zv_X6_finds (m_finds (by decide)) (by decide) rfl rfl rfl (Nat.le_of_ble_eq_true rfl) ?_
      exact za_iret hM dX6_as_21 ⟨by rfl, by rfl⟩

set_option maxRecDepth 20000 in
set_option maxHeartbeats 4000000 in
theorem n_days_ok {g : zG} {σ : zSto} {τ : zTn} (hI : zTI 100000 τ) {d n : Nat} (hd : τ 0 0 = nI d) (hd1 : d < 100000) (hn1 : 1 ≤ n) (hn : n ≤ 100) (hs : d + n ≤ 99999) : zEd g 8 yX6_days cX6_days 2 (some .int) [.ref (zad g 34), .int (nI n)] (zpm σ τ) (some (.int (p_days τ n 0 1))) (zpm σ (p_days τ n)) := by
  refine zev_intro (own := RX6) (lv := [some (.ref (zad g 34)), some (.int (nI n))]) (by decide +kernel) rfl (Nat.le_of_ble_eq_true rfl) rfl (fun C hM hN => ?_)
  refine za_iload_n dX6_days_0 rfl ?_
  refine za_i2l dX6_days_1 ?_
  refine za_lconst (lN 1) dX6_days_2 (by decide) ?_
  refine za_ldc2 (v := lN 100) dX6_days_3 zk_X6_140 ?_
  refine za_cS3 dX6_days_6 zm_X6_46 zw_X6_in zs_X6_in (m_in2 _ (by decide) (by decide)) (by decide) (Nat.le_of_ble_eq_true rfl) ?_
  refine za_if_neB 19 dX6_days_9 (by decide) (fun c9 => ?_) (fun c9 => absurd (zrng (by omega) (by omega) (by decide)) c9)
  refine za_aload_n dX6_days_19 rfl ?_
  refine za_getR dX6_days_20 zf_X6_7 rfl rfl ?_
  refine za_iconst (nI 0) dX6_days_23 (by decide) ?_
  refine zm_ald0 dX6_days_24 ?_
  refine za_iload_n dX6_days_25 rfl ?_
  refine za_iadd dX6_days_26 ?_
  refine za_ldc dX6_days_27 zk_X6_142 ?_
  refine za_icmp_le 39 dX6_days_29 (by decide) (fun c29 => ?_) (fun c29 => absurd ((zday hd hd1 (by omega)).mpr hs) c29)
  refine za_aload_n dX6_days_39 rfl ?_
  refine za_iload_n dX6_days_40 rfl ?_
  refine za_cV1v dX6_days_41 zm_X6_144 zw_X6_daysGo zv_X6_daysGo (m_daysGo hI (by decide) (by omega)) (by decide) rfl rfl rfl (Nat.le_of_ble_eq_true rfl) ?_
  refine za_aload_n dX6_days_44 rfl ?_
  refine za_getR dX6_days_45 zf_X6_7 rfl rfl ?_
  refine za_iconst (nI 2) dX6_days_48 (by decide) ?_
  refine zm_ald2 dX6_days_49 ?_
  exact za_iret hM dX6_days_50 ⟨by rfl, by rfl⟩

set_option maxRecDepth 20000 in
set_option maxHeartbeats 4000000 in
theorem n_days_state {g : zG} {σ : zSto} {τ : zTn} {d n : Nat} (hd : τ 0 0 = nI d) (hd1 : d < 100000) (hn1 : 1 ≤ n) (hn : n ≤ 100) (hs : ¬ d + n ≤ 99999) : zEd g 8 yX6_days cX6_days 2 (some .int) [.ref (zad g 34), .int (nI n)] (zpm σ τ) (some (.int (zfd 4))) (zfin (zpm σ τ) 39 4) := by
  refine zev_intro (own := RX6) (lv := [some (.ref (zad g 34)), some (.int (nI n))]) (by decide +kernel) rfl (Nat.le_of_ble_eq_true rfl) rfl (fun C hM hN => ?_)
  refine za_iload_n dX6_days_0 rfl ?_
  refine za_i2l dX6_days_1 ?_
  refine za_lconst (lN 1) dX6_days_2 (by decide) ?_
  refine za_ldc2 (v := lN 100) dX6_days_3 zk_X6_140 ?_
  refine za_cS3 dX6_days_6 zm_X6_46 zw_X6_in zs_X6_in (m_in2 _ (by decide) (by decide)) (by decide) (Nat.le_of_ble_eq_true rfl) ?_
  refine za_if_neB 19 dX6_days_9 (by decide) (fun c9 => ?_) (fun c9 => absurd (zrng (by omega) (by omega) (by decide)) c9)
  refine za_aload_n dX6_days_19 rfl ?_
  refine za_getR dX6_days_20 zf_X6_7 rfl rfl ?_
  refine za_iconst (nI 0) dX6_days_23 (by decide) ?_
  refine zm_ald0 dX6_days_24 ?_
  refine za_iload_n dX6_days_25 rfl ?_
  refine za_iadd dX6_days_26 ?_
  refine za_ldc dX6_days_27 zk_X6_142 ?_
  refine za_icmp_le 39 dX6_days_29 (by decide) (fun c29 => absurd c29 (mt (zday hd hd1 (by omega)).mp hs)) (fun c29 => ?_)
  refine za_aload_n dX6_days_32 rfl ?_
  refine za_ldc dX6_days_33 zk_X6_143 ?_
  rw [show (-1000000005 : Int32) = zfd 4 from rfl]
  refine za_cV1 dX6_days_35 zm_X6_67 zw_X6_finds zv_X6_finds (m_finds (by decide)) (by decide) rfl rfl rfl (Nat.le_of_ble_eq_true rfl) ?_
  exact za_iret hM dX6_days_38 ⟨by rfl, by rfl⟩

set_option maxRecDepth 20000 in
set_option maxHeartbeats 4000000 in
theorem n_days_no {g : zG} {σ : zSto} {τ : zTn} {n : Int32} (hno : ¬ (nI 1 ≤ n ∧ n ≤ nI 100)) : zEd g 8 yX6_days cX6_days 2 (some .int) [.ref (zad g 34), .int n] (zpm σ τ) (some (.int (zfd 0))) (zfin (zpm σ τ) 39 0) := by
  refine zev_intro (own := RX6) (lv := [some (.ref (zad g 34)), some (.int n)]) (by decide +kernel) rfl (Nat.le_of_ble_eq_true rfl) rfl (fun C hM hN => ?_)
  refine za_iload_n dX6_days_0 rfl ?_
  refine za_i2l dX6_days_1 ?_
  refine za_lconst (lN 1) dX6_days_2 (by decide) ?_
  refine za_ldc2 (v := lN 100) dX6_days_3 zk_X6_140 ?_
  refine za_cS3 dX6_days_6 zm_X6_46 zw_X6_in zs_X6_in (m_in2 _ (by decide) (by decide)) (by decide) (Nat.le_of_ble_eq_true rfl) ?_
  refine za_if_neB 19 dX6_days_9 (by decide) (fun c9 => ?_) (fun c9 => ?_)
  · exact absurd c9 hno
  · refine za_aload_n dX6_days_12 rfl ?_
    refine za_ldc dX6_days_13 zk_X6_41 ?_
    rw [show (-1000000001 : Int32) = zfd 0 from rfl]
    refine za_cV1 dX6_days_15 zm_X6_67 zw_X6_finds zv_X6_finds (m_finds (by decide)) (by decide) rfl rfl rfl (Nat.le_of_ble_eq_true rfl) ?_
    exact za_iret hM dX6_days_18 ⟨by rfl, by rfl⟩

set_option maxRecDepth 20000 in
set_option maxHeartbeats 4000000 in
theorem n_on_ok {g : zG} {σ : zSto} {τ : zTn} (hI : zTI 100000 τ) {n p : Nat} (hn : τ 0 3 = nI n) (h9 : n < 9) (hpn : p < n) {m : Nat} (hm : m ≤ 200) : zEv g 8 yX6_on cX6_on 3 (some .int) [.ref (zad g 34), .int (nI p), .int (nI m)] (zpm σ τ) (fun r' s' => r' = some (.int (p_days τ m 5 p)) ∧ zJ (zpm σ τ) s') := by
  refine zev_intro (own := RX6) (lv := [some (.ref (zad g 34)), some (.int (nI p)), some (.int (nI m))]) (by decide +kernel) rfl (Nat.le_of_ble_eq_true rfl) rfl (fun C hM hN => ?_)
  have hp : p < 8 := by omega
  have hP := zper hn h9 hpn
  refine za_aload_n dX6_on_0 rfl ?_
  refine za_iload_n dX6_on_1 rfl ?_
  refine za_cV1 dX6_on_2 zm_X6_110 zw_X6_isPerson zv_X6_isPerson (m_isPerson) (by decide) rfl rfl rfl (Nat.le_of_ble_eq_true rfl) ?_
  refine za_if_eqB 28 dX6_on_5 (by decide) (fun c5 => absurd hP c5) (fun c5 => ?_)
  refine za_iload_n dX6_on_8 rfl ?_
  refine za_cS1 dX6_on_9 zm_X6_155 zw_X6_isAhead zs_X6_isAhead (m_isAhead _) (by decide) (Nat.le_of_ble_eq_true rfl) ?_
  refine za_if_eqB 28 dX6_on_12 (by decide) (fun c12 => absurd (zrng (Nat.zero_le _) (by omega) (by decide)) c12) (fun c12 => ?_)
  refine za_aload_n dX6_on_15 rfl ?_
  refine za_iload_n dX6_on_16 rfl ?_
  refine za_iconst (nI 2) dX6_on_17 (by decide) ?_
  refine za_cS2 dX6_on_18 zm_X6_42 zw_X6_spot zs_X6_spot (m_spot) (by decide) (Nat.le_of_ble_eq_true rfl) ?_
  refine za_iload_n dX6_on_21 rfl ?_
  refine za_cV2 dX6_on_22 zm_X6_158 zw_X6_behind zv_X6_behind (m_behind (by omega) hI (by decide) (by omega)) (by decide) rfl rfl rfl (Nat.le_of_ble_eq_true rfl) ?_
  rw [zixP (w := 2) hp (by decide)]
  refine za_goto 34 dX6_on_25 (by decide) ?_
  exact za_iret hM dX6_on_34 ⟨by rfl, zJ_m38⟩

set_option maxRecDepth 20000 in
set_option maxHeartbeats 4000000 in
theorem n_on_no {g : zG} {σ : zSto} {τ : zTn} {v n : Int32} (hno : ¬ ((nI 0 ≤ v ∧ v ≤ τ 0 3 - nI 1) ∧ (nI 0 ≤ n ∧ n ≤ nI 200))) : zEd g 8 yX6_on cX6_on 3 (some .int) [.ref (zad g 34), .int v, .int n] (zpm σ τ) (some (.int (zfd 0))) (zfin (zpm σ τ) 39 0) := by
  refine zev_intro (own := RX6) (lv := [some (.ref (zad g 34)), some (.int v), some (.int n)]) (by decide +kernel) rfl (Nat.le_of_ble_eq_true rfl) rfl (fun C hM hN => ?_)
  refine za_aload_n dX6_on_0 rfl ?_
  refine za_iload_n dX6_on_1 rfl ?_
  refine za_cV1 dX6_on_2 zm_X6_110 zw_X6_isPerson zv_X6_isPerson (m_isPerson) (by decide) rfl rfl rfl (Nat.le_of_ble_eq_true rfl) ?_
  refine za_if_eqB 28 dX6_on_5 (by decide) (fun c5 => ?_) (fun c5 => ?_)
  · refine za_aload_n dX6_on_28 rfl ?_
    refine za_ldc dX6_on_29 zk_X6_41 ?_
    rw [show (-1000000001 : Int32) = zfd 0 from rfl]
    refine za_cV1 dX6_on_31 zm_X6_67 zw_X6_finds zv_X6_finds (m_finds (by decide)) (by decide) rfl rfl rfl (Nat.le_of_ble_eq_true rfl) ?_
    exact za_iret hM dX6_on_34 ⟨by rfl, by rfl⟩
  · refine za_iload_n dX6_on_8 rfl ?_
    refine za_cS1 dX6_on_9 zm_X6_155 zw_X6_isAhead zs_X6_isAhead (m_isAhead _) (by decide) (Nat.le_of_ble_eq_true rfl) ?_
    refine za_if_eqB 28 dX6_on_12 (by decide) (fun c12 => ?_) (fun c12 => ?_)
    · refine za_aload_n dX6_on_28 rfl ?_
      refine za_ldc dX6_on_29 zk_X6_41 ?_
      rw [show (-1000000001 : Int32) = zfd 0 from rfl]
      refine za_cV1 dX6_on_31 zm_X6_67 zw_X6_finds zv_X6_finds (m_finds (by decide)) (by decide) rfl rfl rfl (Nat.le_of_ble_eq_true rfl) ?_
      exact za_iret hM dX6_on_34 ⟨by rfl, by rfl⟩
    · exact absurd ⟨c5, c12⟩ hno

set_option maxRecDepth 20000 in
set_option maxHeartbeats 4000000 in
theorem n_then_ok {g : zG} {σ : zSto} {τ : zTn} (hI : zTI 100000 τ) {q m w : Nat} (hq : q < 6) (hm : m ≤ 200) (hw : w < 3) : zEv g 8 yX6_then cX6_then 4 (some .int) [.ref (zad g 34), .int (nI q), .int (nI m), .int (nI w)] (zpm σ τ) (fun r' s' => r' = some (.int (p_tell (p_days τ m) q w)) ∧ zJ (zpm σ τ) s') := by
  refine zev_intro (own := RX6) (lv := [some (.ref (zad g 34)), some (.int (nI q)), some (.int (nI m)), some (.int (nI w))]) (by decide +kernel) rfl (Nat.le_of_ble_eq_true rfl) rfl (fun C hM hN => ?_)
  rcases (show w = 0 ∨ w = 1 ∨ w = 2 by omega) with rfl | rfl | rfl
  · refine za_iload_n dX6_then_0 rfl ?_
    refine za_cS1 dX6_then_1 zm_X6_60 zw_X6_isQuestion zs_X6_isQuestion (m_isQuestion _) (by decide) (Nat.le_of_ble_eq_true rfl) ?_
    refine za_if_eqB 26 dX6_then_4 (by decide) (fun c4 => absurd (zrng (Nat.zero_le _) (by omega) (by decide)) c4) (fun c4 => ?_)
    refine za_iload_n dX6_then_7 rfl ?_
    refine za_cS1 dX6_then_8 zm_X6_155 zw_X6_isAhead zs_X6_isAhead (m_isAhead _) (by decide) (Nat.le_of_ble_eq_true rfl) ?_
    refine za_if_eqB 26 dX6_then_11 (by decide) (fun c11 => absurd (zrng (Nat.zero_le _) (by omega) (by decide)) c11) (fun c11 => ?_)
    refine za_iload_n dX6_then_14 rfl ?_
    refine za_i2l dX6_then_15 ?_
    refine za_lconst (lN 0) dX6_then_16 (by decide) ?_
    refine za_ldc2 (v := lN 2) dX6_then_17 zk_X6_71 ?_
    refine za_cS3 dX6_then_20 zm_X6_46 zw_X6_in zs_X6_in (m_in2 _ (by decide) (by decide)) (by decide) (Nat.le_of_ble_eq_true rfl) ?_
    refine za_if_neB 33 dX6_then_23 (by decide) (fun c23 => ?_) (fun c23 => absurd (by decide) c23)
    refine za_iload_n dX6_then_33 rfl ?_
    refine za_iconst (nI 2) dX6_then_34 (by decide) ?_
    refine za_icmp_ne 51 dX6_then_35 (by decide) (fun c35 => ?_) (fun c35 => absurd c35 (by decide))
    refine za_aload_n dX6_then_51 rfl ?_
    refine za_iload_n dX6_then_52 rfl ?_
    refine za_iload_n dX6_then_53 rfl ?_
    refine za_cS2 dX6_then_54 zm_X6_52 zw_X6_basinSpot zs_X6_basinSpot (m_basinSpot) (by decide) (Nat.le_of_ble_eq_true rfl) ?_
    refine za_iload_n dX6_then_57 rfl ?_
    refine za_cV2 dX6_then_58 zm_X6_158 zw_X6_behind zv_X6_behind (m_behind (by omega) hI (by decide) (by omega)) (by decide) rfl rfl rfl (Nat.le_of_ble_eq_true rfl) ?_
    rw [zixB (s := 0) hq (by decide)]
    exact za_iret hM dX6_then_61 ⟨by rfl, zJ_m38⟩
  · refine za_iload_n dX6_then_0 rfl ?_
    refine za_cS1 dX6_then_1 zm_X6_60 zw_X6_isQuestion zs_X6_isQuestion (m_isQuestion _) (by decide) (Nat.le_of_ble_eq_true rfl) ?_
    refine za_if_eqB 26 dX6_then_4 (by decide) (fun c4 => absurd (zrng (Nat.zero_le _) (by omega) (by decide)) c4) (fun c4 => ?_)
    refine za_iload_n dX6_then_7 rfl ?_
    refine za_cS1 dX6_then_8 zm_X6_155 zw_X6_isAhead zs_X6_isAhead (m_isAhead _) (by decide) (Nat.le_of_ble_eq_true rfl) ?_
    refine za_if_eqB 26 dX6_then_11 (by decide) (fun c11 => absurd (zrng (Nat.zero_le _) (by omega) (by decide)) c11) (fun c11 => ?_)
    refine za_iload_n dX6_then_14 rfl ?_
    refine za_i2l dX6_then_15 ?_
    refine za_lconst (lN 0) dX6_then_16 (by decide) ?_
    refine za_ldc2 (v := lN 2) dX6_then_17 zk_X6_71 ?_
    refine za_cS3 dX6_then_20 zm_X6_46 zw_X6_in zs_X6_in (m_in2 _ (by decide) (by decide)) (by decide) (Nat.le_of_ble_eq_true rfl) ?_
    refine za_if_neB 33 dX6_then_23 (by decide) (fun c23 => ?_) (fun c23 => absurd (by decide) c23)
    refine za_iload_n dX6_then_33 rfl ?_
    refine za_iconst (nI 2) dX6_then_34 (by decide) ?_
    refine za_icmp_ne 51 dX6_then_35 (by decide) (fun c35 => ?_) (fun c35 => absurd c35 (by decide))
    refine za_aload_n dX6_then_51 rfl ?_
    refine za_iload_n dX6_then_52 rfl ?_
    refine za_iload_n dX6_then_53 rfl ?_
    refine za_cS2 dX6_then_54 zm_X6_52 zw_X6_basinSpot zs_X6_basinSpot (m_basinSpot) (by decide) (Nat.le_of_ble_eq_true rfl) ?_
    refine za_iload_n dX6_then_57 rfl ?_
    refine za_cV2 dX6_then_58 zm_X6_158 zw_X6_behind zv_X6_behind (m_behind (by omega) hI (by decide) (by omega)) (by decide) rfl rfl rfl (Nat.le_of_ble_eq_true rfl) ?_
    rw [zixB (s := 1) hq (by decide)]
    exact za_iret hM dX6_then_61 ⟨by rfl, zJ_m38⟩
  · refine za_iload_n dX6_then_0 rfl ?_
    refine za_cS1 dX6_then_1 zm_X6_60 zw_X6_isQuestion zs_X6_isQuestion (m_isQuestion _) (by decide) (Nat.le_of_ble_eq_true rfl) ?_
    refine za_if_eqB 26 dX6_then_4 (by decide) (fun c4 => absurd (zrng (Nat.zero_le _) (by omega) (by decide)) c4) (fun c4 => ?_)
    refine za_iload_n dX6_then_7 rfl ?_
    refine za_cS1 dX6_then_8 zm_X6_155 zw_X6_isAhead zs_X6_isAhead (m_isAhead _) (by decide) (Nat.le_of_ble_eq_true rfl) ?_
    refine za_if_eqB 26 dX6_then_11 (by decide) (fun c11 => absurd (zrng (Nat.zero_le _) (by omega) (by decide)) c11) (fun c11 => ?_)
    refine za_iload_n dX6_then_14 rfl ?_
    refine za_i2l dX6_then_15 ?_
    refine za_lconst (lN 0) dX6_then_16 (by decide) ?_
    refine za_ldc2 (v := lN 2) dX6_then_17 zk_X6_71 ?_
    refine za_cS3 dX6_then_20 zm_X6_46 zw_X6_in zs_X6_in (m_in2 _ (by decide) (by decide)) (by decide) (Nat.le_of_ble_eq_true rfl) ?_
    refine za_if_neB 33 dX6_then_23 (by decide) (fun c23 => ?_) (fun c23 => absurd (by decide) c23)
    refine za_iload_n dX6_then_33 rfl ?_
    refine za_iconst (nI 2) dX6_then_34 (by decide) ?_
    refine za_icmp_ne 51 dX6_then_35 (by decide) (fun c35 => absurd (by decide) c35) (fun c35 => ?_)
    refine za_aload_n dX6_then_38 rfl ?_
    refine za_iconst (nI 2) dX6_then_39 (by decide) ?_
    refine za_iload_n dX6_then_40 rfl ?_
    refine za_cV2 dX6_then_41 zm_X6_158 zw_X6_behind zv_X6_behind (m_behind (by decide) hI (by decide) (by omega)) (by decide) rfl rfl rfl (Nat.le_of_ble_eq_true rfl) ?_
    refine za_iload_n dX6_then_44 rfl ?_
    refine za_ishr dX6_then_45 ?_
    refine za_iconst (nI 1) dX6_then_46 (by decide) ?_
    refine za_iand dX6_then_47 ?_
    refine za_goto 61 dX6_then_48 (by decide) ?_
    exact za_iret hM dX6_then_61 ⟨by rfl, zJ_m38⟩

set_option maxRecDepth 20000 in
set_option maxHeartbeats 4000000 in
theorem n_then_no {g : zG} {σ : zSto} {τ : zTn} {q n w : Int32} (hno : ¬ ((nI 0 ≤ q ∧ q ≤ nI 5) ∧ (nI 0 ≤ n ∧ n ≤ nI 200) ∧ (nI 0 ≤ w ∧ w ≤ nI 2))) : zEd g 8 yX6_then cX6_then 4 (some .int) [.ref (zad g 34), .int q, .int n, .int w] (zpm σ τ) (some (.int (zfd 0))) (zfin (zpm σ τ) 39 0) := by
  refine zev_intro (own := RX6) (lv := [some (.ref (zad g 34)), some (.int q), some (.int n), some (.int w)]) (by decide +kernel) rfl (Nat.le_of_ble_eq_true rfl) rfl (fun C hM hN => ?_)
  refine za_iload_n dX6_then_0 rfl ?_
  refine za_cS1 dX6_then_1 zm_X6_60 zw_X6_isQuestion zs_X6_isQuestion (m_isQuestion _) (by decide) (Nat.le_of_ble_eq_true rfl) ?_
  refine za_if_eqB 26 dX6_then_4 (by decide) (fun c4 => ?_) (fun c4 => ?_)
  · refine za_aload_n dX6_then_26 rfl ?_
    refine za_ldc dX6_then_27 zk_X6_41 ?_
    rw [show (-1000000001 : Int32) = zfd 0 from rfl]
    refine za_cV1 dX6_then_29 zm_X6_67 zw_X6_finds zv_X6_finds (m_finds (by decide)) (by decide) rfl rfl rfl (Nat.le_of_ble_eq_true rfl) ?_
    exact za_iret hM dX6_then_32 ⟨by rfl, by rfl⟩
  · refine za_iload_n dX6_then_7 rfl ?_
    refine za_cS1 dX6_then_8 zm_X6_155 zw_X6_isAhead zs_X6_isAhead (m_isAhead _) (by decide) (Nat.le_of_ble_eq_true rfl) ?_
    refine za_if_eqB 26 dX6_then_11 (by decide) (fun c11 => ?_) (fun c11 => ?_)
    · refine za_aload_n dX6_then_26 rfl ?_
      refine za_ldc dX6_then_27 zk_X6_41 ?_
      rw [show (-1000000001 : Int32) = zfd 0 from rfl]
      refine za_cV1 dX6_then_29 zm_X6_67 zw_X6_finds zv_X6_finds (m_finds (by decide)) (by decide) rfl rfl rfl (Nat.le_of_ble_eq_true rfl) ?_
      exact za_iret hM dX6_then_32 ⟨by rfl, by rfl⟩
    · refine za_iload_n dX6_then_14 rfl ?_
      refine za_i2l dX6_then_15 ?_
      refine za_lconst (lN 0) dX6_then_16 (by decide) ?_
      refine za_ldc2 (v := lN 2) dX6_then_17 zk_X6_71 ?_
      refine za_cS3 dX6_then_20 zm_X6_46 zw_X6_in zs_X6_in (m_in2 _ (by decide) (by decide)) (by decide) (Nat.le_of_ble_eq_true rfl) ?_
      refine za_if_neB 33 dX6_then_23 (by decide) (fun c23 => ?_) (fun c23 => ?_)
      · exact absurd ⟨c4, c11, c23⟩ hno
      · refine za_aload_n dX6_then_26 rfl ?_
        refine za_ldc dX6_then_27 zk_X6_41 ?_
        rw [show (-1000000001 : Int32) = zfd 0 from rfl]
        refine za_cV1 dX6_then_29 zm_X6_67 zw_X6_finds zv_X6_finds (m_finds (by decide)) (by decide) rfl rfl rfl (Nat.le_of_ble_eq_true rfl) ?_
        exact za_iret hM dX6_then_32 ⟨by rfl, by rfl⟩

set_option maxRecDepth 20000 in
set_option maxHeartbeats 4000000 in
theorem m_toldAt_ok {g : zG} {σ : zSto} {τ τ' : zTn} {k : Nat} (hk : k ≤ 200) : zEd g 2 yX6_toldAt cX6_toldAt 3 (some .int) [.ref (zad g 34), .int (nI k)] (zpm (zps σ 38 τ) τ') (some (.int (nI k))) (zpm (zps σ 38 τ) τ) := by
  refine zev_intro (own := RX6) (lv := [some (.ref (zad g 34)), some (.int (nI k)), none]) (by decide +kernel) rfl (Nat.le_of_ble_eq_true rfl) rfl (fun C hM hN => ?_)
  refine za_aload_n dX6_toldAt_0 rfl ?_
  refine za_iload_n dX6_toldAt_1 rfl ?_
  refine za_cV1 dX6_toldAt_2 zm_X6_152 zw_X6_takesBack zv_X6_takesBack (m_takesBack') (by decide) rfl rfl rfl (Nat.le_of_ble_eq_true rfl) ?_
  refine za_istore_n (lv' := [_, _, _]) dX6_toldAt_5 hN (by decide) rfl ?_
  refine za_iload_n dX6_toldAt_6 rfl ?_
  refine za_sipush (nI 200) dX6_toldAt_7 (by decide) ?_
  refine za_icmp_le 22 dX6_toldAt_10 (by decide) (fun c10 => ?_) (fun c10 => absurd (nI_le hk (by decide)) c10)
  refine za_iload_n dX6_toldAt_22 rfl ?_
  exact za_iret hM dX6_toldAt_23 ⟨by rfl, by rfl⟩

set_option maxRecDepth 20000 in
set_option maxHeartbeats 4000000 in
theorem m_toldAt_none {g : zG} {σ : zSto} {τ τ' : zTn} : zEd g 2 yX6_toldAt cX6_toldAt 3 (some .int) [.ref (zad g 34), .int (nI 201)] (zpm (zps σ 38 τ) τ') (some (.int (zfd 3))) (zfin (zpm (zps σ 38 τ) τ) 39 3) := by
  refine zev_intro (own := RX6) (lv := [some (.ref (zad g 34)), some (.int (nI 201)), none]) (by decide +kernel) rfl (Nat.le_of_ble_eq_true rfl) rfl (fun C hM hN => ?_)
  refine za_aload_n dX6_toldAt_0 rfl ?_
  refine za_iload_n dX6_toldAt_1 rfl ?_
  refine za_cV1 dX6_toldAt_2 zm_X6_152 zw_X6_takesBack zv_X6_takesBack (m_takesBack') (by decide) rfl rfl rfl (Nat.le_of_ble_eq_true rfl) ?_
  refine za_istore_n (lv' := [_, _, _]) dX6_toldAt_5 hN (by decide) rfl ?_
  refine za_iload_n dX6_toldAt_6 rfl ?_
  refine za_sipush (nI 200) dX6_toldAt_7 (by decide) ?_
  refine za_icmp_le 22 dX6_toldAt_10 (by decide) (fun c10 => absurd c10 (by decide)) (fun c10 => ?_)
  refine za_aload_n dX6_toldAt_13 rfl ?_
  refine za_ldc dX6_toldAt_14 zk_X6_161 ?_
  rw [show (-1000000004 : Int32) = zfd 3 from rfl]
  refine za_cV1 dX6_toldAt_16 zm_X6_67 zw_X6_finds zv_X6_finds (m_finds (by decide)) (by decide) rfl rfl rfl (Nat.le_of_ble_eq_true rfl) ?_
  refine za_goto 23 dX6_toldAt_19 (by decide) ?_
  exact za_iret hM dX6_toldAt_23 ⟨by rfl, by rfl⟩

set_option maxRecDepth 20000 in
set_option maxHeartbeats 4000000 in
theorem n_flips_at {g : zG} {σ : zSto} {τ : zTn} (hI : zTI 100000 τ) {q k : Nat} (hq : q < 6) (hk : k ≤ 200) (hP : ¬ p_tell (p_days τ k) q 2 = p_tell τ q 2) (hm : ∀ j, j < k → p_tell (p_days τ j) q 2 = p_tell τ q 2) : zEv g 8 yX6_flips cX6_flips 4 (some .int) [.ref (zad g 34), .int (nI q)] (zpm σ τ) (fun r' s' => r' = some (.int (nI k)) ∧ zJ (zpm σ τ) s') := by
  refine zev_intro (own := RX6) (lv := [some (.ref (zad g 34)), some (.int (nI q)), none, none]) (by decide +kernel) rfl (Nat.le_of_ble_eq_true rfl) rfl (fun C hM hN => ?_)
  have hloop : ∀ (m : Nat) (i : Nat), i + m = k → zAW g C 8 cX6_flips RX6 26 [some (.ref (zad g 34)), some (.int (nI q)), some (.int (p_tell τ q 2)), some (.int (nI i))] [] (zpm (zps σ 38 τ) (p_days τ i)) := by
    intro m
    induction m with
    | zero =>
      intro i hj
      obtain rfl : i = k := by omega
      refine za_iload_n dX6_flips_26 rfl ?_
      refine za_sipush (nI 200) dX6_flips_27 (by decide) ?_
      refine za_icmp_gt 52 dX6_flips_30 (by decide) (fun c30 => absurd c30 (nI_nlt (show i ≤ 200 by omega) (by decide))) (fun c30 => ?_)
      refine za_aload_n dX6_flips_33 rfl ?_
      refine za_iload_n dX6_flips_34 rfl ?_
      refine za_cV1 dX6_flips_35 zm_X6_73 zw_X6_heldIn zv_X6_heldIn (m_heldIn) (by decide) rfl rfl rfl (Nat.le_of_ble_eq_true rfl) ?_
      refine za_iload_n dX6_flips_38 rfl ?_
      refine za_icmp_ne 52 dX6_flips_39 (by decide) (fun c39 => ?_) (fun c39 => absurd c39 hP)
      refine za_aload_n dX6_flips_52 rfl ?_
      refine za_iload_n dX6_flips_53 rfl ?_
      refine za_cV1 dX6_flips_54 zm_X6_162 zw_X6_toldAt zv_X6_toldAt (m_toldAt_ok hk) (by decide) rfl rfl rfl (Nat.le_of_ble_eq_true rfl) ?_
      exact za_iret hM dX6_flips_57 ⟨by rfl, zJ_m38⟩
    | succ m ih =>
      intro i hj
      refine za_iload_n dX6_flips_26 rfl ?_
      refine za_sipush (nI 200) dX6_flips_27 (by decide) ?_
      refine za_icmp_gt 52 dX6_flips_30 (by decide) (fun c30 => absurd c30 (nI_nlt (show i ≤ 200 by omega) (by decide))) (fun c30 => ?_)
      refine za_aload_n dX6_flips_33 rfl ?_
      refine za_iload_n dX6_flips_34 rfl ?_
      refine za_cV1 dX6_flips_35 zm_X6_73 zw_X6_heldIn zv_X6_heldIn (m_heldIn) (by decide) rfl rfl rfl (Nat.le_of_ble_eq_true rfl) ?_
      refine za_iload_n dX6_flips_38 rfl ?_
      refine za_icmp_ne 52 dX6_flips_39 (by decide) (fun c39 => absurd (hm i (by omega)) c39) (fun c39 => ?_)
      refine za_aload_n dX6_flips_42 rfl ?_
      refine za_cV0v dX6_flips_43 zm_X6_137 zw_X6_day zv_X6_day (m_day (zTI_days hI i) (by omega)) (by decide) rfl rfl rfl (Nat.le_of_ble_eq_true rfl) ?_
      refine za_iinc (nI (_ + 1)) (lv' := [_, _, _, _]) dX6_flips_46 rfl hN (by decide) (znext _) rfl ?_
      refine za_goto 26 dX6_flips_49 (by decide) ?_
      exact ih (i + 1) (by omega)
  refine za_iload_n dX6_flips_0 rfl ?_
  refine za_cS1 dX6_flips_1 zm_X6_60 zw_X6_isQuestion zs_X6_isQuestion (m_isQuestion _) (by decide) (Nat.le_of_ble_eq_true rfl) ?_
  refine za_if_neB 14 dX6_flips_4 (by decide) (fun c4 => ?_) (fun c4 => absurd (zrng (Nat.zero_le _) (by omega) (by decide)) c4)
  refine za_aload_n dX6_flips_14 rfl ?_
  refine za_cV0v dX6_flips_15 zm_X6_149 zw_X6_laysAside zv_X6_laysAside (m_laysAside') (by decide) rfl rfl rfl (Nat.le_of_ble_eq_true rfl) ?_
  refine za_aload_n dX6_flips_18 rfl ?_
  refine za_iload_n dX6_flips_19 rfl ?_
  refine za_cV1 dX6_flips_20 zm_X6_73 zw_X6_heldIn zv_X6_heldIn (m_heldIn) (by decide) rfl rfl rfl (Nat.le_of_ble_eq_true rfl) ?_
  refine za_istore_n (lv' := [_, _, _, _]) dX6_flips_23 hN (by decide) rfl ?_
  refine za_iconst (nI 0) dX6_flips_24 (by decide) ?_
  refine za_istore_n (lv' := [_, _, _, _]) dX6_flips_25 hN (by decide) rfl ?_
  exact hloop k 0 (by omega)

set_option maxRecDepth 20000 in
set_option maxHeartbeats 4000000 in
theorem n_flips_none {g : zG} {σ : zSto} {τ : zTn} (hI : zTI 100000 τ) {q : Nat} (hq : q < 6) (hm : ∀ j, j ≤ 200 → p_tell (p_days τ j) q 2 = p_tell τ q 2) : zEv g 8 yX6_flips cX6_flips 4 (some .int) [.ref (zad g 34), .int (nI q)] (zpm σ τ) (fun r' s' => r' = some (.int (zfd 3)) ∧ ∃ T, zJ (zpm σ τ) T ∧ s' = zfin T 39 3) := by
  refine zev_intro (own := RX6) (lv := [some (.ref (zad g 34)), some (.int (nI q)), none, none]) (by decide +kernel) rfl (Nat.le_of_ble_eq_true rfl) rfl (fun C hM hN => ?_)
  have hloop : ∀ (m : Nat) (i : Nat), i + m = 201 → zAW g C 8 cX6_flips RX6 26 [some (.ref (zad g 34)), some (.int (nI q)), some (.int (p_tell τ q 2)), some (.int (nI i))] [] (zpm (zps σ 38 τ) (p_days τ i)) := by
    intro m
    induction m with
    | zero =>
      intro i hj
      obtain rfl : i = 201 := by omega
      refine za_iload_n dX6_flips_26 rfl ?_
      refine za_sipush (nI 200) dX6_flips_27 (by decide) ?_
      refine za_icmp_gt 52 dX6_flips_30 (by decide) (fun c30 => ?_) (fun c30 => absurd (by decide) c30)
      refine za_aload_n dX6_flips_52 rfl ?_
      refine za_iload_n dX6_flips_53 rfl ?_
      refine za_cV1 dX6_flips_54 zm_X6_162 zw_X6_toldAt zv_X6_toldAt (m_toldAt_none) (by decide) rfl rfl rfl (Nat.le_of_ble_eq_true rfl) ?_
      exact za_iret hM dX6_flips_57 ⟨rfl, _, zJ_m38, rfl⟩
    | succ m ih =>
      intro i hj
      refine za_iload_n dX6_flips_26 rfl ?_
      refine za_sipush (nI 200) dX6_flips_27 (by decide) ?_
      refine za_icmp_gt 52 dX6_flips_30 (by decide) (fun c30 => absurd c30 (nI_nlt (show i ≤ 200 by omega) (by decide))) (fun c30 => ?_)
      refine za_aload_n dX6_flips_33 rfl ?_
      refine za_iload_n dX6_flips_34 rfl ?_
      refine za_cV1 dX6_flips_35 zm_X6_73 zw_X6_heldIn zv_X6_heldIn (m_heldIn) (by decide) rfl rfl rfl (Nat.le_of_ble_eq_true rfl) ?_
      refine za_iload_n dX6_flips_38 rfl ?_
      refine za_icmp_ne 52 dX6_flips_39 (by decide) (fun c39 => absurd (hm i (by omega)) c39) (fun c39 => ?_)
      refine za_aload_n dX6_flips_42 rfl ?_
      refine za_cV0v dX6_flips_43 zm_X6_137 zw_X6_day zv_X6_day (m_day (zTI_days hI i) (by omega)) (by decide) rfl rfl rfl (Nat.le_of_ble_eq_true rfl) ?_
      refine za_iinc (nI (_ + 1)) (lv' := [_, _, _, _]) dX6_flips_46 rfl hN (by decide) (znext _) rfl ?_
      refine za_goto 26 dX6_flips_49 (by decide) ?_
      exact ih (i + 1) (by omega)
  refine za_iload_n dX6_flips_0 rfl ?_
  refine za_cS1 dX6_flips_1 zm_X6_60 zw_X6_isQuestion zs_X6_isQuestion (m_isQuestion _) (by decide) (Nat.le_of_ble_eq_true rfl) ?_
  refine za_if_neB 14 dX6_flips_4 (by decide) (fun c4 => ?_) (fun c4 => absurd (zrng (Nat.zero_le _) (by omega) (by decide)) c4)
  refine za_aload_n dX6_flips_14 rfl ?_
  refine za_cV0v dX6_flips_15 zm_X6_149 zw_X6_laysAside zv_X6_laysAside (m_laysAside') (by decide) rfl rfl rfl (Nat.le_of_ble_eq_true rfl) ?_
  refine za_aload_n dX6_flips_18 rfl ?_
  refine za_iload_n dX6_flips_19 rfl ?_
  refine za_cV1 dX6_flips_20 zm_X6_73 zw_X6_heldIn zv_X6_heldIn (m_heldIn) (by decide) rfl rfl rfl (Nat.le_of_ble_eq_true rfl) ?_
  refine za_istore_n (lv' := [_, _, _, _]) dX6_flips_23 hN (by decide) rfl ?_
  refine za_iconst (nI 0) dX6_flips_24 (by decide) ?_
  refine za_istore_n (lv' := [_, _, _, _]) dX6_flips_25 hN (by decide) rfl ?_
  exact hloop 201 0 rfl

set_option maxRecDepth 20000 in
set_option maxHeartbeats 4000000 in
theorem n_flips_no {g : zG} {σ : zSto} {τ : zTn} {q : Int32} (hno : ¬ (nI 0 ≤ q ∧ q ≤ nI 5)) : zEd g 8 yX6_flips cX6_flips 4 (some .int) [.ref (zad g 34), .int q] (zpm σ τ) (some (.int (zfd 0))) (zfin (zpm σ τ) 39 0) := by
  refine zev_intro (own := RX6) (lv := [some (.ref (zad g 34)), some (.int q), none, none]) (by decide +kernel) rfl (Nat.le_of_ble_eq_true rfl) rfl (fun C hM hN => ?_)
  refine za_iload_n dX6_flips_0 rfl ?_
  refine za_cS1 dX6_flips_1 zm_X6_60 zw_X6_isQuestion zs_X6_isQuestion (m_isQuestion _) (by decide) (Nat.le_of_ble_eq_true rfl) ?_
  refine za_if_neB 14 dX6_flips_4 (by decide) (fun c4 => ?_) (fun c4 => ?_)
  · exact absurd c4 hno
  · refine za_aload_n dX6_flips_7 rfl ?_
    refine za_ldc dX6_flips_8 zk_X6_41 ?_
    rw [show (-1000000001 : Int32) = zfd 0 from rfl]
    refine za_cV1 dX6_flips_10 zm_X6_67 zw_X6_finds zv_X6_finds (m_finds (by decide)) (by decide) rfl rfl rfl (Nat.le_of_ble_eq_true rfl) ?_
    exact za_iret hM dX6_flips_13 ⟨by rfl, by rfl⟩

set_option maxRecDepth 20000 in
set_option maxHeartbeats 4000000 in
theorem n_rich_at {g : zG} {σ : zSto} {τ : zTn} (hI : zTI 100000 τ) {n p : Nat} (hn : τ 0 3 = nI n) (h9 : n < 9) (hpn : p < n) {k : Nat} {v : Int32} (hv : nI 0 ≤ v ∧ v ≤ nI 9999) (hk : k ≤ 200) (hQ : ¬ p_days τ k 5 p < v) (hm : ∀ j, j < k → p_days τ j 5 p < v) : zEv g 8 yX6_rich cX6_rich 4 (some .int) [.ref (zad g 34), .int (nI p), .int v] (zpm σ τ) (fun r' s' => r' = some (.int (nI k)) ∧ zJ (zpm σ τ) s') := by
  refine zev_intro (own := RX6) (lv := [some (.ref (zad g 34)), some (.int (nI p)), some (.int v), none]) (by decide +kernel) rfl (Nat.le_of_ble_eq_true rfl) rfl (fun C hM hN => ?_)
  have hp : p < 8 := by omega
  have hP := zper hn h9 hpn
  have hloop : ∀ (m : Nat) (i : Nat), i + m = k → zAW g C 8 cX6_rich RX6 33 [some (.ref (zad g 34)), some (.int (nI p)), some (.int v), some (.int (nI i))] [] (zpm (zps σ 38 τ) (p_days τ i)) := by
    intro m
    induction m with
    | zero =>
      intro i hj
      obtain rfl : i = k := by omega
      refine za_iload_n dX6_rich_33 rfl ?_
      refine za_sipush (nI 200) dX6_rich_34 (by decide) ?_
      refine za_icmp_gt 60 dX6_rich_37 (by decide) (fun c37 => absurd c37 (nI_nlt (show i ≤ 200 by omega) (by decide))) (fun c37 => ?_)
      refine za_aload_n dX6_rich_40 rfl ?_
      refine za_iload_n dX6_rich_41 rfl ?_
      refine za_iconst (nI 2) dX6_rich_42 (by decide) ?_
      refine za_cV2 dX6_rich_43 zm_X6_55 zw_X6_its zv_X6_its (m_its hp (by decide)) (by decide) rfl rfl rfl (Nat.le_of_ble_eq_true rfl) ?_
      refine za_iload_n dX6_rich_46 rfl ?_
      refine za_icmp_ge 60 dX6_rich_47 (by decide) (fun c47 => ?_) (fun c47 => absurd (Int32.not_lt.mp hQ) c47)
      refine za_aload_n dX6_rich_60 rfl ?_
      refine za_iload_n dX6_rich_61 rfl ?_
      refine za_cV1 dX6_rich_62 zm_X6_162 zw_X6_toldAt zv_X6_toldAt (m_toldAt_ok hk) (by decide) rfl rfl rfl (Nat.le_of_ble_eq_true rfl) ?_
      exact za_iret hM dX6_rich_65 ⟨by rfl, zJ_m38⟩
    | succ m ih =>
      intro i hj
      refine za_iload_n dX6_rich_33 rfl ?_
      refine za_sipush (nI 200) dX6_rich_34 (by decide) ?_
      refine za_icmp_gt 60 dX6_rich_37 (by decide) (fun c37 => absurd c37 (nI_nlt (show i ≤ 200 by omega) (by decide))) (fun c37 => ?_)
      refine za_aload_n dX6_rich_40 rfl ?_
      refine za_iload_n dX6_rich_41 rfl ?_
      refine za_iconst (nI 2) dX6_rich_42 (by decide) ?_
      refine za_cV2 dX6_rich_43 zm_X6_55 zw_X6_its zv_X6_its (m_its hp (by decide)) (by decide) rfl rfl rfl (Nat.le_of_ble_eq_true rfl) ?_
      refine za_iload_n dX6_rich_46 rfl ?_
      refine za_icmp_ge 60 dX6_rich_47 (by decide) (fun c47 => absurd c47 (Int32.not_le.mpr (hm i (by omega)))) (fun c47 => ?_)
      refine za_aload_n dX6_rich_50 rfl ?_
      refine za_cV0v dX6_rich_51 zm_X6_137 zw_X6_day zv_X6_day (m_day (zTI_days hI i) (by omega)) (by decide) rfl rfl rfl (Nat.le_of_ble_eq_true rfl) ?_
      refine za_iinc (nI (_ + 1)) (lv' := [_, _, _, _]) dX6_rich_54 rfl hN (by decide) (znext _) rfl ?_
      refine za_goto 33 dX6_rich_57 (by decide) ?_
      exact ih (i + 1) (by omega)
  refine za_aload_n dX6_rich_0 rfl ?_
  refine za_iload_n dX6_rich_1 rfl ?_
  refine za_cV1 dX6_rich_2 zm_X6_110 zw_X6_isPerson zv_X6_isPerson (m_isPerson) (by decide) rfl rfl rfl (Nat.le_of_ble_eq_true rfl) ?_
  refine za_if_eqB 20 dX6_rich_5 (by decide) (fun c5 => absurd hP c5) (fun c5 => ?_)
  refine za_iload_n dX6_rich_8 rfl ?_
  refine za_i2l dX6_rich_9 ?_
  refine za_lconst (lN 0) dX6_rich_10 (by decide) ?_
  refine za_ldc2 (v := lN 9999) dX6_rich_11 zk_X6_58 ?_
  refine za_cS3 dX6_rich_14 zm_X6_46 zw_X6_in zs_X6_in (m_in2 _ (by decide) (by decide)) (by decide) (Nat.le_of_ble_eq_true rfl) ?_
  refine za_if_neB 27 dX6_rich_17 (by decide) (fun c17 => ?_) (fun c17 => absurd hv c17)
  refine za_aload_n dX6_rich_27 rfl ?_
  refine za_cV0v dX6_rich_28 zm_X6_149 zw_X6_laysAside zv_X6_laysAside (m_laysAside') (by decide) rfl rfl rfl (Nat.le_of_ble_eq_true rfl) ?_
  refine za_iconst (nI 0) dX6_rich_31 (by decide) ?_
  refine za_istore_n (lv' := [_, _, _, _]) dX6_rich_32 hN (by decide) rfl ?_
  exact hloop k 0 (by omega)

set_option maxRecDepth 20000 in
set_option maxHeartbeats 4000000 in
theorem n_rich_none {g : zG} {σ : zSto} {τ : zTn} (hI : zTI 100000 τ) {n p : Nat} (hn : τ 0 3 = nI n) (h9 : n < 9) (hpn : p < n) {v : Int32} (hv : nI 0 ≤ v ∧ v ≤ nI 9999) (hm : ∀ j, j ≤ 200 → p_days τ j 5 p < v) : zEv g 8 yX6_rich cX6_rich 4 (some .int) [.ref (zad g 34), .int (nI p), .int v] (zpm σ τ) (fun r' s' => r' = some (.int (zfd 3)) ∧ ∃ T, zJ (zpm σ τ) T ∧ s' = zfin T 39 3) := by
  refine zev_intro (own := RX6) (lv := [some (.ref (zad g 34)), some (.int (nI p)), some (.int v), none]) (by decide +kernel) rfl (Nat.le_of_ble_eq_true rfl) rfl (fun C hM hN => ?_)
  have hp : p < 8 := by omega
  have hP := zper hn h9 hpn
  have hloop : ∀ (m : Nat) (i : Nat), i + m = 201 → zAW g C 8 cX6_rich RX6 33 [some (.ref (zad g 34)), some (.int (nI p)), some (.int v), some (.int (nI i))] [] (zpm (zps σ 38 τ) (p_days τ i)) := by
    intro m
    induction m with
    | zero =>
      intro i hj
      obtain rfl : i = 201 := by omega
      refine za_iload_n dX6_rich_33 rfl ?_
      refine za_sipush (nI 200) dX6_rich_34 (by decide) ?_
      refine za_icmp_gt 60 dX6_rich_37 (by decide) (fun c37 => ?_) (fun c37 => absurd (by decide) c37)
      refine za_aload_n dX6_rich_60 rfl ?_
      refine za_iload_n dX6_rich_61 rfl ?_
      refine za_cV1 dX6_rich_62 zm_X6_162 zw_X6_toldAt zv_X6_toldAt (m_toldAt_none) (by decide) rfl rfl rfl (Nat.le_of_ble_eq_true rfl) ?_
      exact za_iret hM dX6_rich_65 ⟨rfl, _, zJ_m38, rfl⟩
    | succ m ih =>
      intro i hj
      refine za_iload_n dX6_rich_33 rfl ?_
      refine za_sipush (nI 200) dX6_rich_34 (by decide) ?_
      refine za_icmp_gt 60 dX6_rich_37 (by decide) (fun c37 => absurd c37 (nI_nlt (show i ≤ 200 by omega) (by decide))) (fun c37 => ?_)
      refine za_aload_n dX6_rich_40 rfl ?_
      refine za_iload_n dX6_rich_41 rfl ?_
      refine za_iconst (nI 2) dX6_rich_42 (by decide) ?_
      refine za_cV2 dX6_rich_43 zm_X6_55 zw_X6_its zv_X6_its (m_its hp (by decide)) (by decide) rfl rfl rfl (Nat.le_of_ble_eq_true rfl) ?_
      refine za_iload_n dX6_rich_46 rfl ?_
      refine za_icmp_ge 60 dX6_rich_47 (by decide) (fun c47 => absurd c47 (Int32.not_le.mpr (hm i (by omega)))) (fun c47 => ?_)
      refine za_aload_n dX6_rich_50 rfl ?_
      refine za_cV0v dX6_rich_51 zm_X6_137 zw_X6_day zv_X6_day (m_day (zTI_days hI i) (by omega)) (by decide) rfl rfl rfl (Nat.le_of_ble_eq_true rfl) ?_
      refine za_iinc (nI (_ + 1)) (lv' := [_, _, _, _]) dX6_rich_54 rfl hN (by decide) (znext _) rfl ?_
      refine za_goto 33 dX6_rich_57 (by decide) ?_
      exact ih (i + 1) (by omega)
  refine za_aload_n dX6_rich_0 rfl ?_
  refine za_iload_n dX6_rich_1 rfl ?_
  refine za_cV1 dX6_rich_2 zm_X6_110 zw_X6_isPerson zv_X6_isPerson (m_isPerson) (by decide) rfl rfl rfl (Nat.le_of_ble_eq_true rfl) ?_
  refine za_if_eqB 20 dX6_rich_5 (by decide) (fun c5 => absurd hP c5) (fun c5 => ?_)
  refine za_iload_n dX6_rich_8 rfl ?_
  refine za_i2l dX6_rich_9 ?_
  refine za_lconst (lN 0) dX6_rich_10 (by decide) ?_
  refine za_ldc2 (v := lN 9999) dX6_rich_11 zk_X6_58 ?_
  refine za_cS3 dX6_rich_14 zm_X6_46 zw_X6_in zs_X6_in (m_in2 _ (by decide) (by decide)) (by decide) (Nat.le_of_ble_eq_true rfl) ?_
  refine za_if_neB 27 dX6_rich_17 (by decide) (fun c17 => ?_) (fun c17 => absurd hv c17)
  refine za_aload_n dX6_rich_27 rfl ?_
  refine za_cV0v dX6_rich_28 zm_X6_149 zw_X6_laysAside zv_X6_laysAside (m_laysAside') (by decide) rfl rfl rfl (Nat.le_of_ble_eq_true rfl) ?_
  refine za_iconst (nI 0) dX6_rich_31 (by decide) ?_
  refine za_istore_n (lv' := [_, _, _, _]) dX6_rich_32 hN (by decide) rfl ?_
  exact hloop 201 0 rfl

set_option maxRecDepth 20000 in
set_option maxHeartbeats 4000000 in
theorem n_rich_no {g : zG} {σ : zSto} {τ : zTn} {p v : Int32} (hno : ¬ ((nI 0 ≤ p ∧ p ≤ τ 0 3 - nI 1) ∧ (nI 0 ≤ v ∧ v ≤ nI 9999))) : zEd g 8 yX6_rich cX6_rich 4 (some .int) [.ref (zad g 34), .int p, .int v] (zpm σ τ) (some (.int (zfd 0))) (zfin (zpm σ τ) 39 0) := by
  refine zev_intro (own := RX6) (lv := [some (.ref (zad g 34)), some (.int p), some (.int v), none]) (by decide +kernel) rfl (Nat.le_of_ble_eq_true rfl) rfl (fun C hM hN => ?_)
  refine za_aload_n dX6_rich_0 rfl ?_
  refine za_iload_n dX6_rich_1 rfl ?_
  refine za_cV1 dX6_rich_2 zm_X6_110 zw_X6_isPerson zv_X6_isPerson (m_isPerson) (by decide) rfl rfl rfl (Nat.le_of_ble_eq_true rfl) ?_
  refine za_if_eqB 20 dX6_rich_5 (by decide) (fun c5 => ?_) (fun c5 => ?_)
  · refine za_aload_n dX6_rich_20 rfl ?_
    refine za_ldc dX6_rich_21 zk_X6_41 ?_
    rw [show (-1000000001 : Int32) = zfd 0 from rfl]
    refine za_cV1 dX6_rich_23 zm_X6_67 zw_X6_finds zv_X6_finds (m_finds (by decide)) (by decide) rfl rfl rfl (Nat.le_of_ble_eq_true rfl) ?_
    exact za_iret hM dX6_rich_26 ⟨by rfl, by rfl⟩
  · refine za_iload_n dX6_rich_8 rfl ?_
    refine za_i2l dX6_rich_9 ?_
    refine za_lconst (lN 0) dX6_rich_10 (by decide) ?_
    refine za_ldc2 (v := lN 9999) dX6_rich_11 zk_X6_58 ?_
    refine za_cS3 dX6_rich_14 zm_X6_46 zw_X6_in zs_X6_in (m_in2 _ (by decide) (by decide)) (by decide) (Nat.le_of_ble_eq_true rfl) ?_
    refine za_if_neB 27 dX6_rich_17 (by decide) (fun c17 => ?_) (fun c17 => ?_)
    · exact absurd ⟨c5, c17⟩ hno
    · refine za_aload_n dX6_rich_20 rfl ?_
      refine za_ldc dX6_rich_21 zk_X6_41 ?_
      rw [show (-1000000001 : Int32) = zfd 0 from rfl]
      refine za_cV1 dX6_rich_23 zm_X6_67 zw_X6_finds zv_X6_finds (m_finds (by decide)) (by decide) rfl rfl rfl (Nat.le_of_ble_eq_true rfl) ?_
      exact za_iret hM dX6_rich_26 ⟨by rfl, by rfl⟩

set_option maxRecDepth 20000 in
set_option maxHeartbeats 4000000 in
theorem n_kind_ok {g : zG} {σ : zSto} {τ : zTn} (hI : zTI 100000 τ) {n p : Nat} (hn : τ 0 3 = nI n) (h9 : n < 9) (hpn : p < n) {d : Nat} (hd1 : 1 ≤ d) (hd : d ≤ 60) : zEv g 8 yX6_kind cX6_kind 8 (some .int) [.ref (zad g 34), .int (nI p), .int (nI d)] (zpm σ τ) (fun r' s' => r' = some (.int (p_best (nI 0) (-1) (p_fk τ p d) 6).1) ∧ zJ (zpm σ τ) s') := by
  refine zev_intro (own := RX6) (lv := [some (.ref (zad g 34)), some (.int (nI p)), some (.int (nI d)), none, none, none, none, none]) (by decide +kernel) rfl (Nat.le_of_ble_eq_true rfl) rfl (fun C hM hN => ?_)
  have hp : p < 8 := by omega
  have hP := zper hn h9 hpn
  have hloop : ∀ (m : Nat) (j : Nat) (σ' : zSto) (x : Int32) (l7 : Option Value), j + m = 6 ∧ zJ σ σ' → zAW g C 8 cX6_kind RX6 38 [some (.ref (zad g 34)), some (.int (nI p)), some (.int (nI d)), some (.int (τ 3 p)), some (.int (p_best (nI 0) (-1) (p_fk τ p d) j).1), some (.int (p_best (nI 0) (-1) (p_fk τ p d) j).2), some (.int (nI j)), l7] [] (zpm σ' (zup τ 3 p x)) := by
    intro m
    induction m with
    | zero =>
      intro j σ' x l7 hj
      obtain rfl : j = 6 := by omega
      refine za_iload dX6_kind_38 rfl ?_
      refine za_iconst (nI 5) dX6_kind_40 (by decide) ?_
      refine za_icmp_gt 106 dX6_kind_41 (by decide) (fun c41 => ?_) (fun c41 => absurd (by decide) c41)
      refine za_aload_n dX6_kind_106 rfl ?_
      refine za_getR dX6_kind_107 zf_X6_7 rfl rfl ?_
      refine za_iload_n dX6_kind_110 rfl ?_
      refine za_iconst (nI 0) dX6_kind_111 (by decide) ?_
      refine za_cS2 dX6_kind_112 zm_X6_42 zw_X6_spot zs_X6_spot (m_spot) (by decide) (Nat.le_of_ble_eq_true rfl) ?_
      refine za_iload_n dX6_kind_115 rfl ?_
      refine zm_astP dX6_kind_116 hp (by decide) ?_
      rw [zup_up, show zup τ (3 + 0) p (τ 3 p) = τ from zup_self τ 3 p]
      refine za_iload dX6_kind_117 rfl ?_
      exact za_iret hM dX6_kind_119 ⟨by rfl, zJ_pm hj.2⟩
    | succ m ih =>
      intro j σ' x l7 hj
      refine za_iload dX6_kind_38 rfl ?_
      refine za_iconst (nI 5) dX6_kind_40 (by decide) ?_
      refine za_icmp_gt 106 dX6_kind_41 (by decide) (fun c41 => absurd c41 (nI_nlt (show j ≤ 5 by omega) (by decide))) (fun c41 => ?_)
      refine za_aload_n dX6_kind_44 rfl ?_
      refine za_getR dX6_kind_45 zf_X6_7 rfl rfl ?_
      refine za_iload_n dX6_kind_48 rfl ?_
      refine za_iconst (nI 0) dX6_kind_49 (by decide) ?_
      refine za_cS2 dX6_kind_50 zm_X6_42 zw_X6_spot zs_X6_spot (m_spot) (by decide) (Nat.le_of_ble_eq_true rfl) ?_
      refine za_iload dX6_kind_53 rfl ?_
      refine zm_astP dX6_kind_55 hp (by decide) ?_
      rw [zup_up]
      refine za_aload_n dX6_kind_56 rfl ?_
      refine za_iload_n dX6_kind_57 rfl ?_
      refine za_iconst (nI 2) dX6_kind_58 (by decide) ?_
      refine za_cS2 dX6_kind_59 zm_X6_42 zw_X6_spot zs_X6_spot (m_spot) (by decide) (Nat.le_of_ble_eq_true rfl) ?_
      refine za_iload_n dX6_kind_62 rfl ?_
      refine za_cV2 dX6_kind_63 zm_X6_158 zw_X6_behind zv_X6_behind (m_behind (by omega) (zTI_3 hI (by omega)) (by decide) (by omega)) (by decide) rfl rfl rfl (Nat.le_of_ble_eq_true rfl) ?_
      rw [zixP (w := 2) hp (by decide)]
      refine za_istore (lv' := [_, _, _, _, _, _, _, _]) dX6_kind_66 hN (by decide) rfl ?_
      refine za_iload dX6_kind_68 rfl ?_
      refine za_iload dX6_kind_70 rfl ?_
      refine za_icmp_le 80 dX6_kind_72 (by decide) (fun c72 => ?_) (fun c72 => ?_)
      · refine za_iload dX6_kind_80 rfl ?_
        refine za_istore (lv' := [_, _, _, _, _, _, _, _]) dX6_kind_82 hN (by decide) rfl ?_
        refine za_iload dX6_kind_84 rfl ?_
        refine za_iload dX6_kind_86 rfl ?_
        refine za_icmp_le 96 dX6_kind_88 (by decide) (fun c88 => ?_) (fun c88 => ?_)
        · refine za_iload dX6_kind_96 rfl ?_
          refine za_istore (lv' := [_, _, _, _, _, _, _, _]) dX6_kind_98 hN (by decide) rfl ?_
          refine za_iinc (nI (_ + 1)) (lv' := [_, _, _, _, _, _, _, _]) dX6_kind_100 rfl hN (by decide) (znext _) rfl ?_
          refine za_goto 38 dX6_kind_103 (by decide) ?_
          first
            | exact absurd c72 c88
            | exact absurd c88 c72
            | (have hh := fun l7 => ih (j + 1) (zps σ' 38 (zup τ 3 p (nI j))) (nI j) l7 ⟨by omega, zJ_tr hj.2 zJ_38⟩; first | (rw [p_best_1 (Int32.not_le.mp c72)] at hh; exact hh _) | (rw [p_best_0 (Int32.not_lt.mpr c72)] at hh; exact hh _))
        · refine za_iload dX6_kind_91 rfl ?_
          refine za_goto 98 dX6_kind_93 (by decide) ?_
          refine za_istore (lv' := [_, _, _, _, _, _, _, _]) dX6_kind_98 hN (by decide) rfl ?_
          refine za_iinc (nI (_ + 1)) (lv' := [_, _, _, _, _, _, _, _]) dX6_kind_100 rfl hN (by decide) (znext _) rfl ?_
          refine za_goto 38 dX6_kind_103 (by decide) ?_
          first
            | exact absurd c72 c88
            | exact absurd c88 c72
            | (have hh := fun l7 => ih (j + 1) (zps σ' 38 (zup τ 3 p (nI j))) (nI j) l7 ⟨by omega, zJ_tr hj.2 zJ_38⟩; first | (rw [p_best_1 (Int32.not_le.mp c72)] at hh; exact hh _) | (rw [p_best_0 (Int32.not_lt.mpr c72)] at hh; exact hh _))
      · refine za_iload dX6_kind_75 rfl ?_
        refine za_goto 82 dX6_kind_77 (by decide) ?_
        refine za_istore (lv' := [_, _, _, _, _, _, _, _]) dX6_kind_82 hN (by decide) rfl ?_
        refine za_iload dX6_kind_84 rfl ?_
        refine za_iload dX6_kind_86 rfl ?_
        refine za_icmp_le 96 dX6_kind_88 (by decide) (fun c88 => ?_) (fun c88 => ?_)
        · refine za_iload dX6_kind_96 rfl ?_
          refine za_istore (lv' := [_, _, _, _, _, _, _, _]) dX6_kind_98 hN (by decide) rfl ?_
          refine za_iinc (nI (_ + 1)) (lv' := [_, _, _, _, _, _, _, _]) dX6_kind_100 rfl hN (by decide) (znext _) rfl ?_
          refine za_goto 38 dX6_kind_103 (by decide) ?_
          first
            | exact absurd c72 c88
            | exact absurd c88 c72
            | (have hh := fun l7 => ih (j + 1) (zps σ' 38 (zup τ 3 p (nI j))) (nI j) l7 ⟨by omega, zJ_tr hj.2 zJ_38⟩; first | (rw [p_best_1 (Int32.not_le.mp c72)] at hh; exact hh _) | (rw [p_best_0 (Int32.not_lt.mpr c72)] at hh; exact hh _))
        · refine za_iload dX6_kind_91 rfl ?_
          refine za_goto 98 dX6_kind_93 (by decide) ?_
          refine za_istore (lv' := [_, _, _, _, _, _, _, _]) dX6_kind_98 hN (by decide) rfl ?_
          refine za_iinc (nI (_ + 1)) (lv' := [_, _, _, _, _, _, _, _]) dX6_kind_100 rfl hN (by decide) (znext _) rfl ?_
          refine za_goto 38 dX6_kind_103 (by decide) ?_
          first
            | exact absurd c72 c88
            | exact absurd c88 c72
            | (have hh := fun l7 => ih (j + 1) (zps σ' 38 (zup τ 3 p (nI j))) (nI j) l7 ⟨by omega, zJ_tr hj.2 zJ_38⟩; first | (rw [p_best_1 (Int32.not_le.mp c72)] at hh; exact hh _) | (rw [p_best_0 (Int32.not_lt.mpr c72)] at hh; exact hh _))
  refine za_aload_n dX6_kind_0 rfl ?_
  refine za_iload_n dX6_kind_1 rfl ?_
  refine za_cV1 dX6_kind_2 zm_X6_110 zw_X6_isPerson zv_X6_isPerson (m_isPerson) (by decide) rfl rfl rfl (Nat.le_of_ble_eq_true rfl) ?_
  refine za_if_eqB 15 dX6_kind_5 (by decide) (fun c5 => absurd hP c5) (fun c5 => ?_)
  refine za_iload_n dX6_kind_8 rfl ?_
  refine za_cS1 dX6_kind_9 zm_X6_167 zw_X6_isSoon zs_X6_isSoon (m_isSoon _) (by decide) (Nat.le_of_ble_eq_true rfl) ?_
  refine za_if_neB 22 dX6_kind_12 (by decide) (fun c12 => ?_) (fun c12 => absurd (zrng (by omega) (by omega) (by decide)) c12)
  refine za_aload_n dX6_kind_22 rfl ?_
  refine za_iload_n dX6_kind_23 rfl ?_
  refine za_iconst (nI 0) dX6_kind_24 (by decide) ?_
  refine za_cV2 dX6_kind_25 zm_X6_55 zw_X6_its zv_X6_its (m_its hp (by decide)) (by decide) rfl rfl rfl (Nat.le_of_ble_eq_true rfl) ?_
  refine za_istore_n (lv' := [_, _, _, _, _, _, _, _]) dX6_kind_28 hN (by decide) rfl ?_
  refine za_iconst (nI 0) dX6_kind_29 (by decide) ?_
  refine za_istore (lv' := [_, _, _, _, _, _, _, _]) dX6_kind_30 hN (by decide) rfl ?_
  refine za_iconst (-1) dX6_kind_32 (by decide) ?_
  refine za_istore (lv' := [_, _, _, _, _, _, _, _]) dX6_kind_33 hN (by decide) rfl ?_
  refine za_iconst (nI 0) dX6_kind_35 (by decide) ?_
  refine za_istore (lv' := [_, _, _, _, _, _, _, _]) dX6_kind_36 hN (by decide) rfl ?_
  have h0 := hloop 6 0 σ (τ 3 p) none ⟨rfl, zJ_rf⟩
  rw [zup_self] at h0
  exact h0

set_option maxRecDepth 20000 in
set_option maxHeartbeats 4000000 in
theorem n_kind_no {g : zG} {σ : zSto} {τ : zTn} {p d : Int32} (hno : ¬ ((nI 0 ≤ p ∧ p ≤ τ 0 3 - nI 1) ∧ (nI 1 ≤ d ∧ d ≤ nI 60))) : zEd g 8 yX6_kind cX6_kind 8 (some .int) [.ref (zad g 34), .int p, .int d] (zpm σ τ) (some (.int (zfd 0))) (zfin (zpm σ τ) 39 0) := by
  refine zev_intro (own := RX6) (lv := [some (.ref (zad g 34)), some (.int p), some (.int d), none, none, none, none, none]) (by decide +kernel) rfl (Nat.le_of_ble_eq_true rfl) rfl (fun C hM hN => ?_)
  refine za_aload_n dX6_kind_0 rfl ?_
  refine za_iload_n dX6_kind_1 rfl ?_
  refine za_cV1 dX6_kind_2 zm_X6_110 zw_X6_isPerson zv_X6_isPerson (m_isPerson) (by decide) rfl rfl rfl (Nat.le_of_ble_eq_true rfl) ?_
  refine za_if_eqB 15 dX6_kind_5 (by decide) (fun c5 => ?_) (fun c5 => ?_)
  · refine za_aload_n dX6_kind_15 rfl ?_
    refine za_ldc dX6_kind_16 zk_X6_41 ?_
    rw [show (-1000000001 : Int32) = zfd 0 from rfl]
    refine za_cV1 dX6_kind_18 zm_X6_67 zw_X6_finds zv_X6_finds (m_finds (by decide)) (by decide) rfl rfl rfl (Nat.le_of_ble_eq_true rfl) ?_
    exact za_iret hM dX6_kind_21 ⟨by rfl, by rfl⟩
  · refine za_iload_n dX6_kind_8 rfl ?_
    refine za_cS1 dX6_kind_9 zm_X6_167 zw_X6_isSoon zs_X6_isSoon (m_isSoon _) (by decide) (Nat.le_of_ble_eq_true rfl) ?_
    refine za_if_neB 22 dX6_kind_12 (by decide) (fun c12 => ?_) (fun c12 => ?_)
    · exact absurd ⟨c5, c12⟩ hno
    · refine za_aload_n dX6_kind_15 rfl ?_
      refine za_ldc dX6_kind_16 zk_X6_41 ?_
      rw [show (-1000000001 : Int32) = zfd 0 from rfl]
      refine za_cV1 dX6_kind_18 zm_X6_67 zw_X6_finds zv_X6_finds (m_finds (by decide)) (by decide) rfl rfl rfl (Nat.le_of_ble_eq_true rfl) ?_
      exact za_iret hM dX6_kind_21 ⟨by rfl, by rfl⟩

set_option maxRecDepth 20000 in
set_option maxHeartbeats 4000000 in
theorem n_lean_ok {g : zG} {σ : zSto} {τ : zTn} (hI : zTI 100000 τ) {n p : Nat} (hn : τ 0 3 = nI n) (h9 : n < 9) (hpn : p < n) {d : Nat} (hd1 : 1 ≤ d) (hd : d ≤ 40) : zEv g 8 yX6_lean cX6_lean 8 (some .int) [.ref (zad g 34), .int (nI p), .int (nI d)] (zpm σ τ) (fun r' s' => r' = some (.int (p_best (nI 0) (-1) (p_fl τ p d) 64).1) ∧ zJ (zpm σ τ) s') := by
  refine zev_intro (own := RX6) (lv := [some (.ref (zad g 34)), some (.int (nI p)), some (.int (nI d)), none, none, none, none, none]) (by decide +kernel) rfl (Nat.le_of_ble_eq_true rfl) rfl (fun C hM hN => ?_)
  have hp : p < 8 := by omega
  have hP := zper hn h9 hpn
  have hloop : ∀ (m : Nat) (j : Nat) (σ' : zSto) (x : Int32) (l7 : Option Value), j + m = 64 ∧ zJ σ σ' → zAW g C 8 cX6_lean RX6 43 [some (.ref (zad g 34)), some (.int (nI p)), some (.int (nI d)), some (.int (τ 4 p)), some (.int (p_best (nI 0) (-1) (p_fl τ p d) j).1), some (.int (p_best (nI 0) (-1) (p_fl τ p d) j).2), some (.int (nI j)), l7] [] (zpm σ' (zup τ 4 p x)) := by
    intro m
    induction m with
    | zero =>
      intro j σ' x l7 hj
      obtain rfl : j = 64 := by omega
      refine za_iload dX6_lean_43 rfl ?_
      refine za_bipush (nI 63) dX6_lean_45 (by decide) ?_
      refine za_icmp_gt 118 dX6_lean_47 (by decide) (fun c47 => ?_) (fun c47 => absurd (by decide) c47)
      refine za_aload_n dX6_lean_118 rfl ?_
      refine za_getR dX6_lean_119 zf_X6_7 rfl rfl ?_
      refine za_iload_n dX6_lean_122 rfl ?_
      refine za_iconst (nI 1) dX6_lean_123 (by decide) ?_
      refine za_cS2 dX6_lean_124 zm_X6_42 zw_X6_spot zs_X6_spot (m_spot) (by decide) (Nat.le_of_ble_eq_true rfl) ?_
      refine za_iload_n dX6_lean_127 rfl ?_
      refine zm_astP dX6_lean_128 hp (by decide) ?_
      rw [zup_up, show zup τ (3 + 1) p (τ 4 p) = τ from zup_self τ 4 p]
      refine za_iload dX6_lean_129 rfl ?_
      exact za_iret hM dX6_lean_131 ⟨by rfl, zJ_pm hj.2⟩
    | succ m ih =>
      intro j σ' x l7 hj
      refine za_iload dX6_lean_43 rfl ?_
      refine za_bipush (nI 63) dX6_lean_45 (by decide) ?_
      refine za_icmp_gt 118 dX6_lean_47 (by decide) (fun c47 => absurd c47 (nI_nlt (show j ≤ 63 by omega) (by decide))) (fun c47 => ?_)
      refine za_aload_n dX6_lean_50 rfl ?_
      refine za_getR dX6_lean_51 zf_X6_7 rfl rfl ?_
      refine za_iload_n dX6_lean_54 rfl ?_
      refine za_iconst (nI 1) dX6_lean_55 (by decide) ?_
      refine za_cS2 dX6_lean_56 zm_X6_42 zw_X6_spot zs_X6_spot (m_spot) (by decide) (Nat.le_of_ble_eq_true rfl) ?_
      refine za_iload dX6_lean_59 rfl ?_
      refine zm_astP dX6_lean_61 hp (by decide) ?_
      rw [zup_up]
      refine za_aload_n dX6_lean_62 rfl ?_
      refine za_iconst (nI 2) dX6_lean_63 (by decide) ?_
      refine za_iload_n dX6_lean_64 rfl ?_
      refine za_cV2 dX6_lean_65 zm_X6_158 zw_X6_behind zv_X6_behind (m_behind (by decide) (zTI_4 hI) (by decide) (by omega)) (by decide) rfl rfl rfl (Nat.le_of_ble_eq_true rfl) ?_
      refine za_aload_n dX6_lean_68 rfl ?_
      refine za_getR dX6_lean_69 zf_X6_7 rfl rfl ?_
      refine za_iconst (nI 2) dX6_lean_72 (by decide) ?_
      refine zm_ald2 dX6_lean_73 ?_
      refine za_ixor dX6_lean_74 ?_
      refine za_cS1 dX6_lean_75 zm_X6_172 zw_X6_ones zs_X6_ones (m_ones) (by decide) (Nat.le_of_ble_eq_true rfl) ?_
      refine za_istore (lv' := [_, _, _, _, _, _, _, _]) dX6_lean_78 hN (by decide) rfl ?_
      refine za_iload dX6_lean_80 rfl ?_
      refine za_iload dX6_lean_82 rfl ?_
      refine za_icmp_le 92 dX6_lean_84 (by decide) (fun c84 => ?_) (fun c84 => ?_)
      · refine za_iload dX6_lean_92 rfl ?_
        refine za_istore (lv' := [_, _, _, _, _, _, _, _]) dX6_lean_94 hN (by decide) rfl ?_
        refine za_iload dX6_lean_96 rfl ?_
        refine za_iload dX6_lean_98 rfl ?_
        refine za_icmp_le 108 dX6_lean_100 (by decide) (fun c100 => ?_) (fun c100 => ?_)
        · refine za_iload dX6_lean_108 rfl ?_
          refine za_istore (lv' := [_, _, _, _, _, _, _, _]) dX6_lean_110 hN (by decide) rfl ?_
          refine za_iinc (nI (_ + 1)) (lv' := [_, _, _, _, _, _, _, _]) dX6_lean_112 rfl hN (by decide) (znext _) rfl ?_
          refine za_goto 43 dX6_lean_115 (by decide) ?_
          first
            | exact absurd c84 c100
            | exact absurd c100 c84
            | (have hh := fun l7 => ih (j + 1) (zps σ' 38 (zup τ 4 p (nI j))) (nI j) l7 ⟨by omega, zJ_tr hj.2 zJ_38⟩; first | (rw [p_best_1 (Int32.not_le.mp c84)] at hh; exact hh _) | (rw [p_best_0 (Int32.not_lt.mpr c84)] at hh; exact hh _))
        · refine za_iload dX6_lean_103 rfl ?_
          refine za_goto 110 dX6_lean_105 (by decide) ?_
          refine za_istore (lv' := [_, _, _, _, _, _, _, _]) dX6_lean_110 hN (by decide) rfl ?_
          refine za_iinc (nI (_ + 1)) (lv' := [_, _, _, _, _, _, _, _]) dX6_lean_112 rfl hN (by decide) (znext _) rfl ?_
          refine za_goto 43 dX6_lean_115 (by decide) ?_
          first
            | exact absurd c84 c100
            | exact absurd c100 c84
            | (have hh := fun l7 => ih (j + 1) (zps σ' 38 (zup τ 4 p (nI j))) (nI j) l7 ⟨by omega, zJ_tr hj.2 zJ_38⟩; first | (rw [p_best_1 (Int32.not_le.mp c84)] at hh; exact hh _) | (rw [p_best_0 (Int32.not_lt.mpr c84)] at hh; exact hh _))
      · refine za_iload dX6_lean_87 rfl ?_
        refine za_goto 94 dX6_lean_89 (by decide) ?_
        refine za_istore (lv' := [_, _, _, _, _, _, _, _]) dX6_lean_94 hN (by decide) rfl ?_
        refine za_iload dX6_lean_96 rfl ?_
        refine za_iload dX6_lean_98 rfl ?_
        refine za_icmp_le 108 dX6_lean_100 (by decide) (fun c100 => ?_) (fun c100 => ?_)
        · refine za_iload dX6_lean_108 rfl ?_
          refine za_istore (lv' := [_, _, _, _, _, _, _, _]) dX6_lean_110 hN (by decide) rfl ?_
          refine za_iinc (nI (_ + 1)) (lv' := [_, _, _, _, _, _, _, _]) dX6_lean_112 rfl hN (by decide) (znext _) rfl ?_
          refine za_goto 43 dX6_lean_115 (by decide) ?_
          first
            | exact absurd c84 c100
            | exact absurd c100 c84
            | (have hh := fun l7 => ih (j + 1) (zps σ' 38 (zup τ 4 p (nI j))) (nI j) l7 ⟨by omega, zJ_tr hj.2 zJ_38⟩; first | (rw [p_best_1 (Int32.not_le.mp c84)] at hh; exact hh _) | (rw [p_best_0 (Int32.not_lt.mpr c84)] at hh; exact hh _))
        · refine za_iload dX6_lean_103 rfl ?_
          refine za_goto 110 dX6_lean_105 (by decide) ?_
          refine za_istore (lv' := [_, _, _, _, _, _, _, _]) dX6_lean_110 hN (by decide) rfl ?_
          refine za_iinc (nI (_ + 1)) (lv' := [_, _, _, _, _, _, _, _]) dX6_lean_112 rfl hN (by decide) (znext _) rfl ?_
          refine za_goto 43 dX6_lean_115 (by decide) ?_
          first
            | exact absurd c84 c100
            | exact absurd c100 c84
            | (have hh := fun l7 => ih (j + 1) (zps σ' 38 (zup τ 4 p (nI j))) (nI j) l7 ⟨by omega, zJ_tr hj.2 zJ_38⟩; first | (rw [p_best_1 (Int32.not_le.mp c84)] at hh; exact hh _) | (rw [p_best_0 (Int32.not_lt.mpr c84)] at hh; exact hh _))
  refine za_aload_n dX6_lean_0 rfl ?_
  refine za_iload_n dX6_lean_1 rfl ?_
  refine za_cV1 dX6_lean_2 zm_X6_110 zw_X6_isPerson zv_X6_isPerson (m_isPerson) (by decide) rfl rfl rfl (Nat.le_of_ble_eq_true rfl) ?_
  refine za_if_eqB 20 dX6_lean_5 (by decide) (fun c5 => absurd hP c5) (fun c5 => ?_)
  refine za_iload_n dX6_lean_8 rfl ?_
  refine za_i2l dX6_lean_9 ?_
  refine za_lconst (lN 1) dX6_lean_10 (by decide) ?_
  refine za_ldc2 (v := lN 40) dX6_lean_11 zk_X6_170 ?_
  refine za_cS3 dX6_lean_14 zm_X6_46 zw_X6_in zs_X6_in (m_in2 _ (by decide) (by decide)) (by decide) (Nat.le_of_ble_eq_true rfl) ?_
  refine za_if_neB 27 dX6_lean_17 (by decide) (fun c17 => ?_) (fun c17 => absurd (zrng (by omega) (by omega) (by decide)) c17)
  refine za_aload_n dX6_lean_27 rfl ?_
  refine za_iload_n dX6_lean_28 rfl ?_
  refine za_iconst (nI 1) dX6_lean_29 (by decide) ?_
  refine za_cV2 dX6_lean_30 zm_X6_55 zw_X6_its zv_X6_its (m_its hp (by decide)) (by decide) rfl rfl rfl (Nat.le_of_ble_eq_true rfl) ?_
  refine za_istore_n (lv' := [_, _, _, _, _, _, _, _]) dX6_lean_33 hN (by decide) rfl ?_
  refine za_iconst (nI 0) dX6_lean_34 (by decide) ?_
  refine za_istore (lv' := [_, _, _, _, _, _, _, _]) dX6_lean_35 hN (by decide) rfl ?_
  refine za_iconst (-1) dX6_lean_37 (by decide) ?_
  refine za_istore (lv' := [_, _, _, _, _, _, _, _]) dX6_lean_38 hN (by decide) rfl ?_
  refine za_iconst (nI 0) dX6_lean_40 (by decide) ?_
  refine za_istore (lv' := [_, _, _, _, _, _, _, _]) dX6_lean_41 hN (by decide) rfl ?_
  have h0 := hloop 64 0 σ (τ 4 p) none ⟨rfl, zJ_rf⟩
  rw [zup_self] at h0
  exact h0

set_option maxRecDepth 20000 in
set_option maxHeartbeats 4000000 in
theorem n_lean_no {g : zG} {σ : zSto} {τ : zTn} {p d : Int32} (hno : ¬ ((nI 0 ≤ p ∧ p ≤ τ 0 3 - nI 1) ∧ (nI 1 ≤ d ∧ d ≤ nI 40))) : zEd g 8 yX6_lean cX6_lean 8 (some .int) [.ref (zad g 34), .int p, .int d] (zpm σ τ) (some (.int (zfd 0))) (zfin (zpm σ τ) 39 0) := by
  refine zev_intro (own := RX6) (lv := [some (.ref (zad g 34)), some (.int p), some (.int d), none, none, none, none, none]) (by decide +kernel) rfl (Nat.le_of_ble_eq_true rfl) rfl (fun C hM hN => ?_)
  refine za_aload_n dX6_lean_0 rfl ?_
  refine za_iload_n dX6_lean_1 rfl ?_
  refine za_cV1 dX6_lean_2 zm_X6_110 zw_X6_isPerson zv_X6_isPerson (m_isPerson) (by decide) rfl rfl rfl (Nat.le_of_ble_eq_true rfl) ?_
  refine za_if_eqB 20 dX6_lean_5 (by decide) (fun c5 => ?_) (fun c5 => ?_)
  · refine za_aload_n dX6_lean_20 rfl ?_
    refine za_ldc dX6_lean_21 zk_X6_41 ?_
    rw [show (-1000000001 : Int32) = zfd 0 from rfl]
    refine za_cV1 dX6_lean_23 zm_X6_67 zw_X6_finds zv_X6_finds (m_finds (by decide)) (by decide) rfl rfl rfl (Nat.le_of_ble_eq_true rfl) ?_
    exact za_iret hM dX6_lean_26 ⟨by rfl, by rfl⟩
  · refine za_iload_n dX6_lean_8 rfl ?_
    refine za_i2l dX6_lean_9 ?_
    refine za_lconst (lN 1) dX6_lean_10 (by decide) ?_
    refine za_ldc2 (v := lN 40) dX6_lean_11 zk_X6_170 ?_
    refine za_cS3 dX6_lean_14 zm_X6_46 zw_X6_in zs_X6_in (m_in2 _ (by decide) (by decide)) (by decide) (Nat.le_of_ble_eq_true rfl) ?_
    refine za_if_neB 27 dX6_lean_17 (by decide) (fun c17 => ?_) (fun c17 => ?_)
    · exact absurd ⟨c5, c17⟩ hno
    · refine za_aload_n dX6_lean_20 rfl ?_
      refine za_ldc dX6_lean_21 zk_X6_41 ?_
      rw [show (-1000000001 : Int32) = zfd 0 from rfl]
      refine za_cV1 dX6_lean_23 zm_X6_67 zw_X6_finds zv_X6_finds (m_finds (by decide)) (by decide) rfl rfl rfl (Nat.le_of_ble_eq_true rfl) ?_
      exact za_iret hM dX6_lean_26 ⟨by rfl, by rfl⟩

set_option maxRecDepth 20000 in
set_option maxHeartbeats 4000000 in
theorem n_buys_at {g : zG} {σ : zSto} {τ : zTn} (hI : zTI 100000 τ) {n p : Nat} (hn : τ 0 3 = nI n) (h9 : n < 9) (hpn : p < n) {q d k : Nat} (hq : q < 6) (hd1 : 1 ≤ d) (hd : d ≤ 60) (hk : k ≤ 100) (hQ : ¬ p_fb τ p q d k = p_tell τ q 2) (hm : ∀ j, j < k → p_fb τ p q d j = p_tell τ q 2) : zEv g 8 yX6_buys cX6_buys 8 (some .int) [.ref (zad g 34), .int (nI p), .int (nI q), .int (nI d)] (zpm σ τ) (fun r' s' => r' = some (.int (nI (10 * k))) ∧ zJ (zpm σ τ) s') := by
  refine zev_intro (own := RX6) (lv := [some (.ref (zad g 34)), some (.int (nI p)), some (.int (nI q)), some (.int (nI d)), none, none, none, none]) (by decide +kernel) rfl (Nat.le_of_ble_eq_true rfl) rfl (fun C hM hN => ?_)
  have hp : p < 8 := by omega
  have hP := zper hn h9 hpn
  have hex : ∀ (σ' : zSto) (x : Int32), zJ σ σ' → zAW g C 8 cX6_buys RX6 51 [some (.ref (zad g 34)), some (.int (nI p)), some (.int (nI q)), some (.int (nI d)), some (.int (nI (16 + 4 * p + 2))), some (.int (τ 5 p)), some (.int (nI (10 * k))), some (.int (nI (10 * (k + 1))))] [] (zpm σ' (zup τ 5 p x)) := by
    intro σ' x hz
    refine za_iload dX6_buys_51 rfl ?_
    refine za_sipush (nI 1000) dX6_buys_53 (by decide) ?_
    refine za_icmp_gt 105 dX6_buys_56 (by decide) (fun c56 => ?_) (fun c56 => ?_)
    · refine za_aload_n dX6_buys_105 rfl ?_
      refine za_getR dX6_buys_106 zf_X6_7 rfl rfl ?_
      refine za_iload dX6_buys_109 rfl ?_
      refine za_iload dX6_buys_111 rfl ?_
      refine zm_astP dX6_buys_113 hp (by decide) ?_
      rw [zup_up, show zup τ (3 + 2) p (τ 5 p) = τ from zup_self τ 5 p]
      refine za_iload dX6_buys_114 rfl ?_
      refine za_if_ge 128 dX6_buys_116 (by decide) (fun c116 => ?_) (fun c116 => absurd (nI_pos' (by omega)) c116)
      refine za_iload dX6_buys_128 rfl ?_
      exact za_iret hM dX6_buys_130 ⟨by rfl, zJ_pm hz⟩
    · refine za_iload dX6_buys_59 rfl ?_
      refine za_if_ge 105 dX6_buys_61 (by decide) (fun c61 => ?_) (fun c61 => absurd (nI_pos' (by omega)) c61)
      refine za_aload_n dX6_buys_105 rfl ?_
      refine za_getR dX6_buys_106 zf_X6_7 rfl rfl ?_
      refine za_iload dX6_buys_109 rfl ?_
      refine za_iload dX6_buys_111 rfl ?_
      refine zm_astP dX6_buys_113 hp (by decide) ?_
      rw [zup_up, show zup τ (3 + 2) p (τ 5 p) = τ from zup_self τ 5 p]
      refine za_iload dX6_buys_114 rfl ?_
      refine za_if_ge 128 dX6_buys_116 (by decide) (fun c116 => ?_) (fun c116 => absurd (nI_pos' (by omega)) c116)
      refine za_iload dX6_buys_128 rfl ?_
      exact za_iret hM dX6_buys_130 ⟨by rfl, zJ_pm hz⟩
  have hloop : ∀ (m : Nat) (i : Nat) (σ' : zSto) (x : Int32), i + m = k ∧ zJ σ σ' → zAW g C 8 cX6_buys RX6 51 [some (.ref (zad g 34)), some (.int (nI p)), some (.int (nI q)), some (.int (nI d)), some (.int (nI (16 + 4 * p + 2))), some (.int (τ 5 p)), some (.int (-1)), some (.int (nI (10 * i)))] [] (zpm σ' (zup τ 5 p x)) := by
    intro m
    induction m with
    | zero =>
      intro i σ' x hj
      obtain rfl : i = k := by omega
      refine za_iload dX6_buys_51 rfl ?_
      refine za_sipush (nI 1000) dX6_buys_53 (by decide) ?_
      refine za_icmp_gt 105 dX6_buys_56 (by decide) (fun c56 => absurd c56 (nI_nlt (show 10 * i ≤ 1000 by omega) (by decide))) (fun c56 => ?_)
      refine za_iload dX6_buys_59 rfl ?_
      refine za_if_ge 105 dX6_buys_61 (by decide) (fun c61 => absurd c61 (by decide)) (fun c61 => ?_)
      refine za_aload_n dX6_buys_64 rfl ?_
      refine za_getR dX6_buys_65 zf_X6_7 rfl rfl ?_
      refine za_iload dX6_buys_68 rfl ?_
      refine za_iload dX6_buys_70 rfl ?_
      refine zm_astP dX6_buys_72 hp (by decide) ?_
      rw [zup_up]
      refine za_aload_n dX6_buys_73 rfl ?_
      refine za_iconst (nI 2) dX6_buys_74 (by decide) ?_
      refine za_iload_n dX6_buys_75 rfl ?_
      refine za_cV2 dX6_buys_76 zm_X6_158 zw_X6_behind zv_X6_behind (m_behind (by decide) (zTI_5 hI ⟨10 * i, by omega, rfl⟩) (by decide) (by omega)) (by decide) rfl rfl rfl (Nat.le_of_ble_eq_true rfl) ?_
      refine za_iload_n dX6_buys_79 rfl ?_
      refine za_ishr dX6_buys_80 ?_
      refine za_iconst (nI 1) dX6_buys_81 (by decide) ?_
      refine za_iand dX6_buys_82 ?_
      refine za_aload_n dX6_buys_83 rfl ?_
      refine za_iload_n dX6_buys_84 rfl ?_
      refine za_cV1 dX6_buys_85 zm_X6_73 zw_X6_heldIn zv_X6_heldIn (m_heldIn) (by decide) rfl rfl rfl (Nat.le_of_ble_eq_true rfl) ?_
      refine za_icmp_eq 96 dX6_buys_88 (by decide) (fun c88 => absurd c88 hQ) (fun c88 => ?_)
      refine za_iload dX6_buys_91 rfl ?_
      refine za_goto 97 dX6_buys_93 (by decide) ?_
      refine za_istore (lv' := [_, _, _, _, _, _, _, _]) dX6_buys_97 hN (by decide) rfl ?_
      refine za_iinc (nI (10 * (i + 1))) (lv' := [_, _, _, _, _, _, _, _]) dX6_buys_99 rfl hN (by decide) (zten i) rfl ?_
      refine za_goto 51 dX6_buys_102 (by decide) ?_
      exact hex _ _ (zJ_tr hj.2 zJ_38)
    | succ m ih =>
      intro i σ' x hj
      refine za_iload dX6_buys_51 rfl ?_
      refine za_sipush (nI 1000) dX6_buys_53 (by decide) ?_
      refine za_icmp_gt 105 dX6_buys_56 (by decide) (fun c56 => absurd c56 (nI_nlt (show 10 * i ≤ 1000 by omega) (by decide))) (fun c56 => ?_)
      refine za_iload dX6_buys_59 rfl ?_
      refine za_if_ge 105 dX6_buys_61 (by decide) (fun c61 => absurd c61 (by decide)) (fun c61 => ?_)
      refine za_aload_n dX6_buys_64 rfl ?_
      refine za_getR dX6_buys_65 zf_X6_7 rfl rfl ?_
      refine za_iload dX6_buys_68 rfl ?_
      refine za_iload dX6_buys_70 rfl ?_
      refine zm_astP dX6_buys_72 hp (by decide) ?_
      rw [zup_up]
      refine za_aload_n dX6_buys_73 rfl ?_
      refine za_iconst (nI 2) dX6_buys_74 (by decide) ?_
      refine za_iload_n dX6_buys_75 rfl ?_
      refine za_cV2 dX6_buys_76 zm_X6_158 zw_X6_behind zv_X6_behind (m_behind (by decide) (zTI_5 hI ⟨10 * i, by omega, rfl⟩) (by decide) (by omega)) (by decide) rfl rfl rfl (Nat.le_of_ble_eq_true rfl) ?_
      refine za_iload_n dX6_buys_79 rfl ?_
      refine za_ishr dX6_buys_80 ?_
      refine za_iconst (nI 1) dX6_buys_81 (by decide) ?_
      refine za_iand dX6_buys_82 ?_
      refine za_aload_n dX6_buys_83 rfl ?_
      refine za_iload_n dX6_buys_84 rfl ?_
      refine za_cV1 dX6_buys_85 zm_X6_73 zw_X6_heldIn zv_X6_heldIn (m_heldIn) (by decide) rfl rfl rfl (Nat.le_of_ble_eq_true rfl) ?_
      refine za_icmp_eq 96 dX6_buys_88 (by decide) (fun c88 => ?_) (fun c88 => absurd (hm i (by omega)) c88)
      refine za_iconst (-1) dX6_buys_96 (by decide) ?_
      refine za_istore (lv' := [_, _, _, _, _, _, _, _]) dX6_buys_97 hN (by decide) rfl ?_
      refine za_iinc (nI (10 * (i + 1))) (lv' := [_, _, _, _, _, _, _, _]) dX6_buys_99 rfl hN (by decide) (zten i) rfl ?_
      refine za_goto 51 dX6_buys_102 (by decide) ?_
      exact ih (i + 1) _ _ ⟨by omega, zJ_tr hj.2 zJ_38⟩
  refine za_aload_n dX6_buys_0 rfl ?_
  refine za_iload_n dX6_buys_1 rfl ?_
  refine za_cV1 dX6_buys_2 zm_X6_110 zw_X6_isPerson zv_X6_isPerson (m_isPerson) (by decide) rfl rfl rfl (Nat.le_of_ble_eq_true rfl) ?_
  refine za_if_eqB 22 dX6_buys_5 (by decide) (fun c5 => absurd hP c5) (fun c5 => ?_)
  refine za_iload_n dX6_buys_8 rfl ?_
  refine za_cS1 dX6_buys_9 zm_X6_60 zw_X6_isQuestion zs_X6_isQuestion (m_isQuestion _) (by decide) (Nat.le_of_ble_eq_true rfl) ?_
  refine za_if_eqB 22 dX6_buys_12 (by decide) (fun c12 => absurd (zrng (Nat.zero_le _) (by omega) (by decide)) c12) (fun c12 => ?_)
  refine za_iload_n dX6_buys_15 rfl ?_
  refine za_cS1 dX6_buys_16 zm_X6_167 zw_X6_isSoon zs_X6_isSoon (m_isSoon _) (by decide) (Nat.le_of_ble_eq_true rfl) ?_
  refine za_if_neB 29 dX6_buys_19 (by decide) (fun c19 => ?_) (fun c19 => absurd (zrng (by omega) (by omega) (by decide)) c19)
  refine za_iload_n dX6_buys_29 rfl ?_
  refine za_iconst (nI 2) dX6_buys_30 (by decide) ?_
  refine za_cS2 dX6_buys_31 zm_X6_42 zw_X6_spot zs_X6_spot (m_spot) (by decide) (Nat.le_of_ble_eq_true rfl) ?_
  refine za_istore (lv' := [_, _, _, _, _, _, _, _]) dX6_buys_34 hN (by decide) rfl ?_
  refine za_aload_n dX6_buys_36 rfl ?_
  refine za_getR dX6_buys_37 zf_X6_7 rfl rfl ?_
  refine za_iload dX6_buys_40 rfl ?_
  refine zm_aldP dX6_buys_42 hp (by decide) ?_
  refine za_istore (lv' := [_, _, _, _, _, _, _, _]) dX6_buys_43 hN (by decide) rfl ?_
  refine za_iconst (-1) dX6_buys_45 (by decide) ?_
  refine za_istore (lv' := [_, _, _, _, _, _, _, _]) dX6_buys_46 hN (by decide) rfl ?_
  refine za_iconst (nI 0) dX6_buys_48 (by decide) ?_
  refine za_istore (lv' := [_, _, _, _, _, _, _, _]) dX6_buys_49 hN (by decide) rfl ?_
  have h0 := hloop k 0 σ (τ 5 p) ⟨by omega, zJ_rf⟩
  rw [zup_self] at h0
  exact h0

set_option maxRecDepth 20000 in
set_option maxHeartbeats 4000000 in
theorem n_buys_none {g : zG} {σ : zSto} {τ : zTn} (hI : zTI 100000 τ) {n p : Nat} (hn : τ 0 3 = nI n) (h9 : n < 9) (hpn : p < n) {q d : Nat} (hq : q < 6) (hd1 : 1 ≤ d) (hd : d ≤ 60) (hm : ∀ j, j ≤ 100 → p_fb τ p q d j = p_tell τ q 2) : zEv g 8 yX6_buys cX6_buys 8 (some .int) [.ref (zad g 34), .int (nI p), .int (nI q), .int (nI d)] (zpm σ τ) (fun r' s' => r' = some (.int (zfd 3)) ∧ ∃ T, zJ (zpm σ τ) T ∧ s' = zfin T 39 3) := by
  refine zev_intro (own := RX6) (lv := [some (.ref (zad g 34)), some (.int (nI p)), some (.int (nI q)), some (.int (nI d)), none, none, none, none]) (by decide +kernel) rfl (Nat.le_of_ble_eq_true rfl) rfl (fun C hM hN => ?_)
  have hp : p < 8 := by omega
  have hP := zper hn h9 hpn
  have hloop : ∀ (m : Nat) (i : Nat) (σ' : zSto) (x : Int32), i + m = 101 ∧ zJ σ σ' → zAW g C 8 cX6_buys RX6 51 [some (.ref (zad g 34)), some (.int (nI p)), some (.int (nI q)), some (.int (nI d)), some (.int (nI (16 + 4 * p + 2))), some (.int (τ 5 p)), some (.int (-1)), some (.int (nI (10 * i)))] [] (zpm σ' (zup τ 5 p x)) := by
    intro m
    induction m with
    | zero =>
      intro i σ' x hj
      obtain rfl : i = 101 := by omega
      refine za_iload dX6_buys_51 rfl ?_
      refine za_sipush (nI 1000) dX6_buys_53 (by decide) ?_
      refine za_icmp_gt 105 dX6_buys_56 (by decide) (fun c56 => ?_) (fun c56 => absurd (by decide) c56)
      refine za_aload_n dX6_buys_105 rfl ?_
      refine za_getR dX6_buys_106 zf_X6_7 rfl rfl ?_
      refine za_iload dX6_buys_109 rfl ?_
      refine za_iload dX6_buys_111 rfl ?_
      refine zm_astP dX6_buys_113 hp (by decide) ?_
      rw [zup_up, show zup τ (3 + 2) p (τ 5 p) = τ from zup_self τ 5 p]
      refine za_iload dX6_buys_114 rfl ?_
      refine za_if_ge 128 dX6_buys_116 (by decide) (fun c116 => absurd c116 (by decide)) (fun c116 => ?_)
      refine za_aload_n dX6_buys_119 rfl ?_
      refine za_ldc dX6_buys_120 zk_X6_161 ?_
      rw [show (-1000000004 : Int32) = zfd 3 from rfl]
      refine za_cV1 dX6_buys_122 zm_X6_67 zw_X6_finds zv_X6_finds (m_finds (by decide)) (by decide) rfl rfl rfl (Nat.le_of_ble_eq_true rfl) ?_
      refine za_goto 130 dX6_buys_125 (by decide) ?_
      exact za_iret hM dX6_buys_130 ⟨rfl, _, zJ_pm hj.2, rfl⟩
    | succ m ih =>
      intro i σ' x hj
      refine za_iload dX6_buys_51 rfl ?_
      refine za_sipush (nI 1000) dX6_buys_53 (by decide) ?_
      refine za_icmp_gt 105 dX6_buys_56 (by decide) (fun c56 => absurd c56 (nI_nlt (show 10 * i ≤ 1000 by omega) (by decide))) (fun c56 => ?_)
      refine za_iload dX6_buys_59 rfl ?_
      refine za_if_ge 105 dX6_buys_61 (by decide) (fun c61 => absurd c61 (by decide)) (fun c61 => ?_)
      refine za_aload_n dX6_buys_64 rfl ?_
      refine za_getR dX6_buys_65 zf_X6_7 rfl rfl ?_
      refine za_iload dX6_buys_68 rfl ?_
      refine za_iload dX6_buys_70 rfl ?_
      refine zm_astP dX6_buys_72 hp (by decide) ?_
      rw [zup_up]
      refine za_aload_n dX6_buys_73 rfl ?_
      refine za_iconst (nI 2) dX6_buys_74 (by decide) ?_
      refine za_iload_n dX6_buys_75 rfl ?_
      refine za_cV2 dX6_buys_76 zm_X6_158 zw_X6_behind zv_X6_behind (m_behind (by decide) (zTI_5 hI ⟨10 * i, by omega, rfl⟩) (by decide) (by omega)) (by decide) rfl rfl rfl (Nat.le_of_ble_eq_true rfl) ?_
      refine za_iload_n dX6_buys_79 rfl ?_
      refine za_ishr dX6_buys_80 ?_
      refine za_iconst (nI 1) dX6_buys_81 (by decide) ?_
      refine za_iand dX6_buys_82 ?_
      refine za_aload_n dX6_buys_83 rfl ?_
      refine za_iload_n dX6_buys_84 rfl ?_
      refine za_cV1 dX6_buys_85 zm_X6_73 zw_X6_heldIn zv_X6_heldIn (m_heldIn) (by decide) rfl rfl rfl (Nat.le_of_ble_eq_true rfl) ?_
      refine za_icmp_eq 96 dX6_buys_88 (by decide) (fun c88 => ?_) (fun c88 => absurd (hm i (by omega)) c88)
      refine za_iconst (-1) dX6_buys_96 (by decide) ?_
      refine za_istore (lv' := [_, _, _, _, _, _, _, _]) dX6_buys_97 hN (by decide) rfl ?_
      refine za_iinc (nI (10 * (i + 1))) (lv' := [_, _, _, _, _, _, _, _]) dX6_buys_99 rfl hN (by decide) (zten i) rfl ?_
      refine za_goto 51 dX6_buys_102 (by decide) ?_
      exact ih (i + 1) _ _ ⟨by omega, zJ_tr hj.2 zJ_38⟩
  refine za_aload_n dX6_buys_0 rfl ?_
  refine za_iload_n dX6_buys_1 rfl ?_
  refine za_cV1 dX6_buys_2 zm_X6_110 zw_X6_isPerson zv_X6_isPerson (m_isPerson) (by decide) rfl rfl rfl (Nat.le_of_ble_eq_true rfl) ?_
  refine za_if_eqB 22 dX6_buys_5 (by decide) (fun c5 => absurd hP c5) (fun c5 => ?_)
  refine za_iload_n dX6_buys_8 rfl ?_
  refine za_cS1 dX6_buys_9 zm_X6_60 zw_X6_isQuestion zs_X6_isQuestion (m_isQuestion _) (by decide) (Nat.le_of_ble_eq_true rfl) ?_
  refine za_if_eqB 22 dX6_buys_12 (by decide) (fun c12 => absurd (zrng (Nat.zero_le _) (by omega) (by decide)) c12) (fun c12 => ?_)
  refine za_iload_n dX6_buys_15 rfl ?_
  refine za_cS1 dX6_buys_16 zm_X6_167 zw_X6_isSoon zs_X6_isSoon (m_isSoon _) (by decide) (Nat.le_of_ble_eq_true rfl) ?_
  refine za_if_neB 29 dX6_buys_19 (by decide) (fun c19 => ?_) (fun c19 => absurd (zrng (by omega) (by omega) (by decide)) c19)
  refine za_iload_n dX6_buys_29 rfl ?_
  refine za_iconst (nI 2) dX6_buys_30 (by decide) ?_
  refine za_cS2 dX6_buys_31 zm_X6_42 zw_X6_spot zs_X6_spot (m_spot) (by decide) (Nat.le_of_ble_eq_true rfl) ?_
  refine za_istore (lv' := [_, _, _, _, _, _, _, _]) dX6_buys_34 hN (by decide) rfl ?_
  refine za_aload_n dX6_buys_36 rfl ?_
  refine za_getR dX6_buys_37 zf_X6_7 rfl rfl ?_
  refine za_iload dX6_buys_40 rfl ?_
  refine zm_aldP dX6_buys_42 hp (by decide) ?_
  refine za_istore (lv' := [_, _, _, _, _, _, _, _]) dX6_buys_43 hN (by decide) rfl ?_
  refine za_iconst (-1) dX6_buys_45 (by decide) ?_
  refine za_istore (lv' := [_, _, _, _, _, _, _, _]) dX6_buys_46 hN (by decide) rfl ?_
  refine za_iconst (nI 0) dX6_buys_48 (by decide) ?_
  refine za_istore (lv' := [_, _, _, _, _, _, _, _]) dX6_buys_49 hN (by decide) rfl ?_
  have h0 := hloop 101 0 σ (τ 5 p) ⟨rfl, zJ_rf⟩
  rw [zup_self] at h0
  exact h0

set_option maxRecDepth 20000 in
set_option maxHeartbeats 4000000 in
theorem n_buys_no {g : zG} {σ : zSto} {τ : zTn} {p q d : Int32} (hno : ¬ ((nI 0 ≤ p ∧ p ≤ τ 0 3 - nI 1) ∧ (nI 0 ≤ q ∧ q ≤ nI 5) ∧ (nI 1 ≤ d ∧ d ≤ nI 60))) : zEd g 8 yX6_buys cX6_buys 8 (some .int) [.ref (zad g 34), .int p, .int q, .int d] (zpm σ τ) (some (.int (zfd 0))) (zfin (zpm σ τ) 39 0) := by
  refine zev_intro (own := RX6) (lv := [some (.ref (zad g 34)), some (.int p), some (.int q), some (.int d), none, none, none, none]) (by decide +kernel) rfl (Nat.le_of_ble_eq_true rfl) rfl (fun C hM hN => ?_)
  refine za_aload_n dX6_buys_0 rfl ?_
  refine za_iload_n dX6_buys_1 rfl ?_
  refine za_cV1 dX6_buys_2 zm_X6_110 zw_X6_isPerson zv_X6_isPerson (m_isPerson) (by decide) rfl rfl rfl (Nat.le_of_ble_eq_true rfl) ?_
  refine za_if_eqB 22 dX6_buys_5 (by decide) (fun c5 => ?_) (fun c5 => ?_)
  · refine za_aload_n dX6_buys_22 rfl ?_
    refine za_ldc dX6_buys_23 zk_X6_41 ?_
    rw [show (-1000000001 : Int32) = zfd 0 from rfl]
    refine za_cV1 dX6_buys_25 zm_X6_67 zw_X6_finds zv_X6_finds (m_finds (by decide)) (by decide) rfl rfl rfl (Nat.le_of_ble_eq_true rfl) ?_
    exact za_iret hM dX6_buys_28 ⟨by rfl, by rfl⟩
  · refine za_iload_n dX6_buys_8 rfl ?_
    refine za_cS1 dX6_buys_9 zm_X6_60 zw_X6_isQuestion zs_X6_isQuestion (m_isQuestion _) (by decide) (Nat.le_of_ble_eq_true rfl) ?_
    refine za_if_eqB 22 dX6_buys_12 (by decide) (fun c12 => ?_) (fun c12 => ?_)
    · refine za_aload_n dX6_buys_22 rfl ?_
      refine za_ldc dX6_buys_23 zk_X6_41 ?_
      rw [show (-1000000001 : Int32) = zfd 0 from rfl]
      refine za_cV1 dX6_buys_25 zm_X6_67 zw_X6_finds zv_X6_finds (m_finds (by decide)) (by decide) rfl rfl rfl (Nat.le_of_ble_eq_true rfl) ?_
      exact za_iret hM dX6_buys_28 ⟨by rfl, by rfl⟩
    · refine za_iload_n dX6_buys_15 rfl ?_
      refine za_cS1 dX6_buys_16 zm_X6_167 zw_X6_isSoon zs_X6_isSoon (m_isSoon _) (by decide) (Nat.le_of_ble_eq_true rfl) ?_
      refine za_if_neB 29 dX6_buys_19 (by decide) (fun c19 => ?_) (fun c19 => ?_)
      · exact absurd ⟨c5, c12, c19⟩ hno
      · refine za_aload_n dX6_buys_22 rfl ?_
        refine za_ldc dX6_buys_23 zk_X6_41 ?_
        rw [show (-1000000001 : Int32) = zfd 0 from rfl]
        refine za_cV1 dX6_buys_25 zm_X6_67 zw_X6_finds zv_X6_finds (m_finds (by decide)) (by decide) rfl rfl rfl (Nat.le_of_ble_eq_true rfl) ?_
        exact za_iret hM dX6_buys_28 ⟨by rfl, by rfl⟩

set_option maxRecDepth 20000 in
set_option maxHeartbeats 4000000 in
theorem n_swing_at {g : zG} {σ : zSto} {τ : zTn} (hI : zTI 100000 τ) {n d : Nat} (hn : τ 0 3 = nI n) (h9 : n < 9) (hd1 : 1 ≤ d) (hd : d ≤ 60) (hQ : 0 ≤ (p_sw τ d n).1) : zEv g 8 yX6_swing cX6_swing 7 (some .int) [.ref (zad g 34), .int (nI d)] (zpm σ τ) (fun r' s' => r' = some (.int (p_sw τ d n).1) ∧ zJ (zpm σ τ) s') := by
  refine zev_intro (own := RX6) (lv := [some (.ref (zad g 34)), some (.int (nI d)), none, none, none, none, none]) (by decide +kernel) rfl (Nat.le_of_ble_eq_true rfl) rfl (fun C hM hN => ?_)
  have hloop : ∀ (m : Nat) (j : Nat) (σ' : zSto) (l6 : Option Value), j + m = n ∧ zJ σ σ' → zAW g C 8 cX6_swing RX6 29 [some (.ref (zad g 34)), some (.int (nI d)), some (.int (p_days τ d 0 1)), some (.int (p_sw τ d j).1), some (.int (p_sw τ d j).2), some (.int (nI j)), l6] [] (zpm σ' τ) := by
    intro m
    induction m with
    | zero =>
      intro j σ' l6 hj
      obtain rfl : j = n := by omega
      refine za_iload dX6_swing_29 rfl ?_
      refine za_aload_n dX6_swing_31 rfl ?_
      refine za_getR dX6_swing_32 zf_X6_7 rfl rfl ?_
      refine za_iconst (nI 1) dX6_swing_35 (by decide) ?_
      refine zm_ald1 dX6_swing_36 ?_
      rw [hn]
      refine za_icmp_ge 123 dX6_swing_37 (by decide) (fun c37 => ?_) (fun c37 => absurd (nI_le (Nat.le_refl _) (by omega)) c37)
      refine za_iload_n dX6_swing_123 rfl ?_
      refine za_if_ge 136 dX6_swing_124 (by decide) (fun c124 => ?_) (fun c124 => absurd hQ c124)
      refine za_iload_n dX6_swing_136 rfl ?_
      exact za_iret hM dX6_swing_137 ⟨by rfl, zJ_pm hj.2⟩
    | succ m ih =>
      intro j σ' l6 hj
      refine za_iload dX6_swing_29 rfl ?_
      refine za_aload_n dX6_swing_31 rfl ?_
      refine za_getR dX6_swing_32 zf_X6_7 rfl rfl ?_
      refine za_iconst (nI 1) dX6_swing_35 (by decide) ?_
      refine zm_ald1 dX6_swing_36 ?_
      rw [hn]
      refine za_icmp_ge 123 dX6_swing_37 (by decide) (fun c37 => absurd c37 (nI_ge (show j < n by omega) (by omega))) (fun c37 => ?_)
      refine za_aload_n dX6_swing_40 rfl ?_
      refine za_iload dX6_swing_41 rfl ?_
      refine za_iconst (nI 3) dX6_swing_43 (by decide) ?_
      refine za_cV2 dX6_swing_44 zm_X6_55 zw_X6_its zv_X6_its (m_its (by omega) (by decide)) (by decide) rfl rfl rfl (Nat.le_of_ble_eq_true rfl) ?_
      refine za_if_ne 117 dX6_swing_47 (by decide) (fun c47 => ?_) (fun c47 => ?_)
      · refine za_iinc (nI (_ + 1)) (lv' := [_, _, _, _, _, _, _]) dX6_swing_117 rfl hN (by decide) (znext _) rfl ?_
        refine za_goto 29 dX6_swing_120 (by decide) ?_
        first
          | exact absurd c91 c105
          | exact absurd c105 c91
          | (have hh := fun σ' l6 hz => ih (j + 1) σ' l6 ⟨by omega, hz⟩; first | (rw [p_sw_1 c47 (Int32.not_le.mp c91)] at hh; exact hh _ _ (zJ_tr hj.2 zJ_38)) | (rw [p_sw_0 (fun z => absurd z.2 (Int32.not_lt.mpr c91))] at hh; exact hh _ _ (zJ_tr hj.2 zJ_38)) | (rw [p_sw_0 (fun z => absurd z.1 c47)] at hh; exact hh _ _ hj.2))
      · refine za_aload_n dX6_swing_50 rfl ?_
        refine za_getR dX6_swing_51 zf_X6_7 rfl rfl ?_
        refine za_iload dX6_swing_54 rfl ?_
        refine za_iconst (nI 3) dX6_swing_56 (by decide) ?_
        refine za_cS2 dX6_swing_57 zm_X6_42 zw_X6_spot zs_X6_spot (m_spot) (by decide) (Nat.le_of_ble_eq_true rfl) ?_
        refine za_iconst (nI 1) dX6_swing_60 (by decide) ?_
        refine zm_astP dX6_swing_61 (by omega) (by decide) ?_
        refine za_aload_n dX6_swing_62 rfl ?_
        refine za_iconst (nI 2) dX6_swing_63 (by decide) ?_
        refine za_iload_n dX6_swing_64 rfl ?_
        refine za_cV2 dX6_swing_65 zm_X6_158 zw_X6_behind zv_X6_behind (m_behind (by decide) (zTI_6 hI) (by decide) (by omega)) (by decide) rfl rfl rfl (Nat.le_of_ble_eq_true rfl) ?_
        refine za_iload_n dX6_swing_68 rfl ?_
        refine za_ixor dX6_swing_69 ?_
        refine za_cS1 dX6_swing_70 zm_X6_172 zw_X6_ones zs_X6_ones (m_ones) (by decide) (Nat.le_of_ble_eq_true rfl) ?_
        refine za_istore (lv' := [_, _, _, _, _, _, _]) dX6_swing_73 hN (by decide) rfl ?_
        refine za_aload_n dX6_swing_75 rfl ?_
        refine za_getR dX6_swing_76 zf_X6_7 rfl rfl ?_
        refine za_iload dX6_swing_79 rfl ?_
        refine za_iconst (nI 3) dX6_swing_81 (by decide) ?_
        refine za_cS2 dX6_swing_82 zm_X6_42 zw_X6_spot zs_X6_spot (m_spot) (by decide) (Nat.le_of_ble_eq_true rfl) ?_
        refine za_iconst (nI 0) dX6_swing_85 (by decide) ?_
        refine zm_astP dX6_swing_86 (by omega) (by decide) ?_
        rw [zup_up, show zup τ (3 + 3) j (nI 0) = τ by rw [show nI 0 = τ (3 + 3) j from c47.symm]; exact zup_self τ 6 j]
        refine za_iload dX6_swing_87 rfl ?_
        refine za_iload dX6_swing_89 rfl ?_
        refine za_icmp_le 99 dX6_swing_91 (by decide) (fun c91 => ?_) (fun c91 => ?_)
        · refine za_iload_n dX6_swing_99 rfl ?_
          refine za_istore_n (lv' := [_, _, _, _, _, _, _]) dX6_swing_100 hN (by decide) rfl ?_
          refine za_iload dX6_swing_101 rfl ?_
          refine za_iload dX6_swing_103 rfl ?_
          refine za_icmp_le 113 dX6_swing_105 (by decide) (fun c105 => ?_) (fun c105 => ?_)
          · refine za_iload dX6_swing_113 rfl ?_
            refine za_istore (lv' := [_, _, _, _, _, _, _]) dX6_swing_115 hN (by decide) rfl ?_
            refine za_iinc (nI (_ + 1)) (lv' := [_, _, _, _, _, _, _]) dX6_swing_117 rfl hN (by decide) (znext _) rfl ?_
            refine za_goto 29 dX6_swing_120 (by decide) ?_
            first
              | exact absurd c91 c105
              | exact absurd c105 c91
              | (have hh := fun σ' l6 hz => ih (j + 1) σ' l6 ⟨by omega, hz⟩; first | (rw [p_sw_1 c47 (Int32.not_le.mp c91)] at hh; exact hh _ _ (zJ_tr hj.2 zJ_38)) | (rw [p_sw_0 (fun z => absurd z.2 (Int32.not_lt.mpr c91))] at hh; exact hh _ _ (zJ_tr hj.2 zJ_38)) | (rw [p_sw_0 (fun z => absurd z.1 c47)] at hh; exact hh _ _ hj.2))
          · refine za_iload dX6_swing_108 rfl ?_
            refine za_goto 115 dX6_swing_110 (by decide) ?_
            refine za_istore (lv' := [_, _, _, _, _, _, _]) dX6_swing_115 hN (by decide) rfl ?_
            refine za_iinc (nI (_ + 1)) (lv' := [_, _, _, _, _, _, _]) dX6_swing_117 rfl hN (by decide) (znext _) rfl ?_
            refine za_goto 29 dX6_swing_120 (by decide) ?_
            first
              | exact absurd c91 c105
              | exact absurd c105 c91
              | (have hh := fun σ' l6 hz => ih (j + 1) σ' l6 ⟨by omega, hz⟩; first | (rw [p_sw_1 c47 (Int32.not_le.mp c91)] at hh; exact hh _ _ (zJ_tr hj.2 zJ_38)) | (rw [p_sw_0 (fun z => absurd z.2 (Int32.not_lt.mpr c91))] at hh; exact hh _ _ (zJ_tr hj.2 zJ_38)) | (rw [p_sw_0 (fun z => absurd z.1 c47)] at hh; exact hh _ _ hj.2))
        · refine za_iload dX6_swing_94 rfl ?_
          refine za_goto 100 dX6_swing_96 (by decide) ?_
          refine za_istore_n (lv' := [_, _, _, _, _, _, _]) dX6_swing_100 hN (by decide) rfl ?_
          refine za_iload dX6_swing_101 rfl ?_
          refine za_iload dX6_swing_103 rfl ?_
          refine za_icmp_le 113 dX6_swing_105 (by decide) (fun c105 => ?_) (fun c105 => ?_)
          · refine za_iload dX6_swing_113 rfl ?_
            refine za_istore (lv' := [_, _, _, _, _, _, _]) dX6_swing_115 hN (by decide) rfl ?_
            refine za_iinc (nI (_ + 1)) (lv' := [_, _, _, _, _, _, _]) dX6_swing_117 rfl hN (by decide) (znext _) rfl ?_
            refine za_goto 29 dX6_swing_120 (by decide) ?_
            first
              | exact absurd c91 c105
              | exact absurd c105 c91
              | (have hh := fun σ' l6 hz => ih (j + 1) σ' l6 ⟨by omega, hz⟩; first | (rw [p_sw_1 c47 (Int32.not_le.mp c91)] at hh; exact hh _ _ (zJ_tr hj.2 zJ_38)) | (rw [p_sw_0 (fun z => absurd z.2 (Int32.not_lt.mpr c91))] at hh; exact hh _ _ (zJ_tr hj.2 zJ_38)) | (rw [p_sw_0 (fun z => absurd z.1 c47)] at hh; exact hh _ _ hj.2))
          · refine za_iload dX6_swing_108 rfl ?_
            refine za_goto 115 dX6_swing_110 (by decide) ?_
            refine za_istore (lv' := [_, _, _, _, _, _, _]) dX6_swing_115 hN (by decide) rfl ?_
            refine za_iinc (nI (_ + 1)) (lv' := [_, _, _, _, _, _, _]) dX6_swing_117 rfl hN (by decide) (znext _) rfl ?_
            refine za_goto 29 dX6_swing_120 (by decide) ?_
            first
              | exact absurd c91 c105
              | exact absurd c105 c91
              | (have hh := fun σ' l6 hz => ih (j + 1) σ' l6 ⟨by omega, hz⟩; first | (rw [p_sw_1 c47 (Int32.not_le.mp c91)] at hh; exact hh _ _ (zJ_tr hj.2 zJ_38)) | (rw [p_sw_0 (fun z => absurd z.2 (Int32.not_lt.mpr c91))] at hh; exact hh _ _ (zJ_tr hj.2 zJ_38)) | (rw [p_sw_0 (fun z => absurd z.1 c47)] at hh; exact hh _ _ hj.2))
  refine za_iload_n dX6_swing_0 rfl ?_
  refine za_cS1 dX6_swing_1 zm_X6_167 zw_X6_isSoon zs_X6_isSoon (m_isSoon _) (by decide) (Nat.le_of_ble_eq_true rfl) ?_
  refine za_if_neB 14 dX6_swing_4 (by decide) (fun c4 => ?_) (fun c4 => absurd (zrng (by omega) (by omega) (by decide)) c4)
  refine za_aload_n dX6_swing_14 rfl ?_
  refine za_iconst (nI 2) dX6_swing_15 (by decide) ?_
  refine za_iload_n dX6_swing_16 rfl ?_
  refine za_cV2 dX6_swing_17 zm_X6_158 zw_X6_behind zv_X6_behind (m_behind (by decide) hI (by decide) (by omega)) (by decide) rfl rfl rfl (Nat.le_of_ble_eq_true rfl) ?_
  refine za_istore_n (lv' := [_, _, _, _, _, _, _]) dX6_swing_20 hN (by decide) rfl ?_
  refine za_iconst (-1) dX6_swing_21 (by decide) ?_
  refine za_istore_n (lv' := [_, _, _, _, _, _, _]) dX6_swing_22 hN (by decide) rfl ?_
  refine za_iconst (nI 0) dX6_swing_23 (by decide) ?_
  refine za_istore (lv' := [_, _, _, _, _, _, _]) dX6_swing_24 hN (by decide) rfl ?_
  refine za_iconst (nI 0) dX6_swing_26 (by decide) ?_
  refine za_istore (lv' := [_, _, _, _, _, _, _]) dX6_swing_27 hN (by decide) rfl ?_
  exact hloop n 0 _ none ⟨by omega, zJ_38⟩

set_option maxRecDepth 20000 in
set_option maxHeartbeats 4000000 in
theorem n_swing_none {g : zG} {σ : zSto} {τ : zTn} (hI : zTI 100000 τ) {n d : Nat} (hn : τ 0 3 = nI n) (h9 : n < 9) (hd1 : 1 ≤ d) (hd : d ≤ 60) (hQ : ¬ 0 ≤ (p_sw τ d n).1) : zEv g 8 yX6_swing cX6_swing 7 (some .int) [.ref (zad g 34), .int (nI d)] (zpm σ τ) (fun r' s' => r' = some (.int (zfd 3)) ∧ ∃ T, zJ (zpm σ τ) T ∧ s' = zfin T 39 3) := by
  refine zev_intro (own := RX6) (lv := [some (.ref (zad g 34)), some (.int (nI d)), none, none, none, none, none]) (by decide +kernel) rfl (Nat.le_of_ble_eq_true rfl) rfl (fun C hM hN => ?_)
  have hloop : ∀ (m : Nat) (j : Nat) (σ' : zSto) (l6 : Option Value), j + m = n ∧ zJ σ σ' → zAW g C 8 cX6_swing RX6 29 [some (.ref (zad g 34)), some (.int (nI d)), some (.int (p_days τ d 0 1)), some (.int (p_sw τ d j).1), some (.int (p_sw τ d j).2), some (.int (nI j)), l6] [] (zpm σ' τ) := by
    intro m
    induction m with
    | zero =>
      intro j σ' l6 hj
      obtain rfl : j = n := by omega
      refine za_iload dX6_swing_29 rfl ?_
      refine za_aload_n dX6_swing_31 rfl ?_
      refine za_getR dX6_swing_32 zf_X6_7 rfl rfl ?_
      refine za_iconst (nI 1) dX6_swing_35 (by decide) ?_
      refine zm_ald1 dX6_swing_36 ?_
      rw [hn]
      refine za_icmp_ge 123 dX6_swing_37 (by decide) (fun c37 => ?_) (fun c37 => absurd (nI_le (Nat.le_refl _) (by omega)) c37)
      refine za_iload_n dX6_swing_123 rfl ?_
      refine za_if_ge 136 dX6_swing_124 (by decide) (fun c124 => absurd c124 hQ) (fun c124 => ?_)
      refine za_aload_n dX6_swing_127 rfl ?_
      refine za_ldc dX6_swing_128 zk_X6_161 ?_
      rw [show (-1000000004 : Int32) = zfd 3 from rfl]
      refine za_cV1 dX6_swing_130 zm_X6_67 zw_X6_finds zv_X6_finds (m_finds (by decide)) (by decide) rfl rfl rfl (Nat.le_of_ble_eq_true rfl) ?_
      refine za_goto 137 dX6_swing_133 (by decide) ?_
      exact za_iret hM dX6_swing_137 ⟨rfl, _, zJ_pm hj.2, rfl⟩
    | succ m ih =>
      intro j σ' l6 hj
      refine za_iload dX6_swing_29 rfl ?_
      refine za_aload_n dX6_swing_31 rfl ?_
      refine za_getR dX6_swing_32 zf_X6_7 rfl rfl ?_
      refine za_iconst (nI 1) dX6_swing_35 (by decide) ?_
      refine zm_ald1 dX6_swing_36 ?_
      rw [hn]
      refine za_icmp_ge 123 dX6_swing_37 (by decide) (fun c37 => absurd c37 (nI_ge (show j < n by omega) (by omega))) (fun c37 => ?_)
      refine za_aload_n dX6_swing_40 rfl ?_
      refine za_iload dX6_swing_41 rfl ?_
      refine za_iconst (nI 3) dX6_swing_43 (by decide) ?_
      refine za_cV2 dX6_swing_44 zm_X6_55 zw_X6_its zv_X6_its (m_its (by omega) (by decide)) (by decide) rfl rfl rfl (Nat.le_of_ble_eq_true rfl) ?_
      refine za_if_ne 117 dX6_swing_47 (by decide) (fun c47 => ?_) (fun c47 => ?_)
      · refine za_iinc (nI (_ + 1)) (lv' := [_, _, _, _, _, _, _]) dX6_swing_117 rfl hN (by decide) (znext _) rfl ?_
        refine za_goto 29 dX6_swing_120 (by decide) ?_
        first
          | exact absurd c91 c105
          | exact absurd c105 c91
          | (have hh := fun σ' l6 hz => ih (j + 1) σ' l6 ⟨by omega, hz⟩; first | (rw [p_sw_1 c47 (Int32.not_le.mp c91)] at hh; exact hh _ _ (zJ_tr hj.2 zJ_38)) | (rw [p_sw_0 (fun z => absurd z.2 (Int32.not_lt.mpr c91))] at hh; exact hh _ _ (zJ_tr hj.2 zJ_38)) | (rw [p_sw_0 (fun z => absurd z.1 c47)] at hh; exact hh _ _ hj.2))
      · refine za_aload_n dX6_swing_50 rfl ?_
        refine za_getR dX6_swing_51 zf_X6_7 rfl rfl ?_
        refine za_iload dX6_swing_54 rfl ?_
        refine za_iconst (nI 3) dX6_swing_56 (by decide) ?_
        refine za_cS2 dX6_swing_57 zm_X6_42 zw_X6_spot zs_X6_spot (m_spot) (by decide) (Nat.le_of_ble_eq_true rfl) ?_
        refine za_iconst (nI 1) dX6_swing_60 (by decide) ?_
        refine zm_astP dX6_swing_61 (by omega) (by decide) ?_
        refine za_aload_n dX6_swing_62 rfl ?_
        refine za_iconst (nI 2) dX6_swing_63 (by decide) ?_
        refine za_iload_n dX6_swing_64 rfl ?_
        refine za_cV2 dX6_swing_65 zm_X6_158 zw_X6_behind zv_X6_behind (m_behind (by decide) (zTI_6 hI) (by decide) (by omega)) (by decide) rfl rfl rfl (Nat.le_of_ble_eq_true rfl) ?_
        refine za_iload_n dX6_swing_68 rfl ?_
        refine za_ixor dX6_swing_69 ?_
        refine za_cS1 dX6_swing_70 zm_X6_172 zw_X6_ones zs_X6_ones (m_ones) (by decide) (Nat.le_of_ble_eq_true rfl) ?_
        refine za_istore (lv' := [_, _, _, _, _, _, _]) dX6_swing_73 hN (by decide) rfl ?_
        refine za_aload_n dX6_swing_75 rfl ?_
        refine za_getR dX6_swing_76 zf_X6_7 rfl rfl ?_
        refine za_iload dX6_swing_79 rfl ?_
        refine za_iconst (nI 3) dX6_swing_81 (by decide) ?_
        refine za_cS2 dX6_swing_82 zm_X6_42 zw_X6_spot zs_X6_spot (m_spot) (by decide) (Nat.le_of_ble_eq_true rfl) ?_
        refine za_iconst (nI 0) dX6_swing_85 (by decide) ?_
        refine zm_astP dX6_swing_86 (by omega) (by decide) ?_
        rw [zup_up, show zup τ (3 + 3) j (nI 0) = τ by rw [show nI 0 = τ (3 + 3) j from c47.symm]; exact zup_self τ 6 j]
        refine za_iload dX6_swing_87 rfl ?_
        refine za_iload dX6_swing_89 rfl ?_
        refine za_icmp_le 99 dX6_swing_91 (by decide) (fun c91 => ?_) (fun c91 => ?_)
        · refine za_iload_n dX6_swing_99 rfl ?_
          refine za_istore_n (lv' := [_, _, _, _, _, _, _]) dX6_swing_100 hN (by decide) rfl ?_
          refine za_iload dX6_swing_101 rfl ?_
          refine za_iload dX6_swing_103 rfl ?_
          refine za_icmp_le 113 dX6_swing_105 (by decide) (fun c105 => ?_) (fun c105 => ?_)
          · refine za_iload dX6_swing_113 rfl ?_
            refine za_istore (lv' := [_, _, _, _, _, _, _]) dX6_swing_115 hN (by decide) rfl ?_
            refine za_iinc (nI (_ + 1)) (lv' := [_, _, _, _, _, _, _]) dX6_swing_117 rfl hN (by decide) (znext _) rfl ?_
            refine za_goto 29 dX6_swing_120 (by decide) ?_
            first
              | exact absurd c91 c105
              | exact absurd c105 c91
              | (have hh := fun σ' l6 hz => ih (j + 1) σ' l6 ⟨by omega, hz⟩; first | (rw [p_sw_1 c47 (Int32.not_le.mp c91)] at hh; exact hh _ _ (zJ_tr hj.2 zJ_38)) | (rw [p_sw_0 (fun z => absurd z.2 (Int32.not_lt.mpr c91))] at hh; exact hh _ _ (zJ_tr hj.2 zJ_38)) | (rw [p_sw_0 (fun z => absurd z.1 c47)] at hh; exact hh _ _ hj.2))
          · refine za_iload dX6_swing_108 rfl ?_
            refine za_goto 115 dX6_swing_110 (by decide) ?_
            refine za_istore (lv' := [_, _, _, _, _, _, _]) dX6_swing_115 hN (by decide) rfl ?_
            refine za_iinc (nI (_ + 1)) (lv' := [_, _, _, _, _, _, _]) dX6_swing_117 rfl hN (by decide) (znext _) rfl ?_
            refine za_goto 29 dX6_swing_120 (by decide) ?_
            first
              | exact absurd c91 c105
              | exact absurd c105 c91
              | (have hh := fun σ' l6 hz => ih (j + 1) σ' l6 ⟨by omega, hz⟩; first | (rw [p_sw_1 c47 (Int32.not_le.mp c91)] at hh; exact hh _ _ (zJ_tr hj.2 zJ_38)) | (rw [p_sw_0 (fun z => absurd z.2 (Int32.not_lt.mpr c91))] at hh; exact hh _ _ (zJ_tr hj.2 zJ_38)) | (rw [p_sw_0 (fun z => absurd z.1 c47)] at hh; exact hh _ _ hj.2))
        · refine za_iload dX6_swing_94 rfl ?_
          refine za_goto 100 dX6_swing_96 (by decide) ?_
          refine za_istore_n (lv' := [_, _, _, _, _, _, _]) dX6_swing_100 hN (by decide) rfl ?_
          refine za_iload dX6_swing_101 rfl ?_
          refine za_iload dX6_swing_103 rfl ?_
          refine za_icmp_le 113 dX6_swing_105 (by decide) (fun c105 => ?_) (fun c105 => ?_)
          · refine za_iload dX6_swing_113 rfl ?_
            refine za_istore (lv' := [_, _, _, _, _, _, _]) dX6_swing_115 hN (by decide) rfl ?_
            refine za_iinc (nI (_ + 1)) (lv' := [_, _, _, _, _, _, _]) dX6_swing_117 rfl hN (by decide) (znext _) rfl ?_
            refine za_goto 29 dX6_swing_120 (by decide) ?_
            first
              | exact absurd c91 c105
              | exact absurd c105 c91
              | (have hh := fun σ' l6 hz => ih (j + 1) σ' l6 ⟨by omega, hz⟩; first | (rw [p_sw_1 c47 (Int32.not_le.mp c91)] at hh; exact hh _ _ (zJ_tr hj.2 zJ_38)) | (rw [p_sw_0 (fun z => absurd z.2 (Int32.not_lt.mpr c91))] at hh; exact hh _ _ (zJ_tr hj.2 zJ_38)) | (rw [p_sw_0 (fun z => absurd z.1 c47)] at hh; exact hh _ _ hj.2))
          · refine za_iload dX6_swing_108 rfl ?_
            refine za_goto 115 dX6_swing_110 (by decide) ?_
            refine za_istore (lv' := [_, _, _, _, _, _, _]) dX6_swing_115 hN (by decide) rfl ?_
            refine za_iinc (nI (_ + 1)) (lv' := [_, _, _, _, _, _, _]) dX6_swing_117 rfl hN (by decide) (znext _) rfl ?_
            refine za_goto 29 dX6_swing_120 (by decide) ?_
            first
              | exact absurd c91 c105
              | exact absurd c105 c91
              | (have hh := fun σ' l6 hz => ih (j + 1) σ' l6 ⟨by omega, hz⟩; first | (rw [p_sw_1 c47 (Int32.not_le.mp c91)] at hh; exact hh _ _ (zJ_tr hj.2 zJ_38)) | (rw [p_sw_0 (fun z => absurd z.2 (Int32.not_lt.mpr c91))] at hh; exact hh _ _ (zJ_tr hj.2 zJ_38)) | (rw [p_sw_0 (fun z => absurd z.1 c47)] at hh; exact hh _ _ hj.2))
  refine za_iload_n dX6_swing_0 rfl ?_
  refine za_cS1 dX6_swing_1 zm_X6_167 zw_X6_isSoon zs_X6_isSoon (m_isSoon _) (by decide) (Nat.le_of_ble_eq_true rfl) ?_
  refine za_if_neB 14 dX6_swing_4 (by decide) (fun c4 => ?_) (fun c4 => absurd (zrng (by omega) (by omega) (by decide)) c4)
  refine za_aload_n dX6_swing_14 rfl ?_
  refine za_iconst (nI 2) dX6_swing_15 (by decide) ?_
  refine za_iload_n dX6_swing_16 rfl ?_
  refine za_cV2 dX6_swing_17 zm_X6_158 zw_X6_behind zv_X6_behind (m_behind (by decide) hI (by decide) (by omega)) (by decide) rfl rfl rfl (Nat.le_of_ble_eq_true rfl) ?_
  refine za_istore_n (lv' := [_, _, _, _, _, _, _]) dX6_swing_20 hN (by decide) rfl ?_
  refine za_iconst (-1) dX6_swing_21 (by decide) ?_
  refine za_istore_n (lv' := [_, _, _, _, _, _, _]) dX6_swing_22 hN (by decide) rfl ?_
  refine za_iconst (nI 0) dX6_swing_23 (by decide) ?_
  refine za_istore (lv' := [_, _, _, _, _, _, _]) dX6_swing_24 hN (by decide) rfl ?_
  refine za_iconst (nI 0) dX6_swing_26 (by decide) ?_
  refine za_istore (lv' := [_, _, _, _, _, _, _]) dX6_swing_27 hN (by decide) rfl ?_
  exact hloop n 0 _ none ⟨by omega, zJ_38⟩

set_option maxRecDepth 20000 in
set_option maxHeartbeats 4000000 in
theorem n_swing_no {g : zG} {σ : zSto} {τ : zTn} {d : Int32} (hno : ¬ (nI 1 ≤ d ∧ d ≤ nI 60)) : zEd g 8 yX6_swing cX6_swing 7 (some .int) [.ref (zad g 34), .int d] (zpm σ τ) (some (.int (zfd 0))) (zfin (zpm σ τ) 39 0) := by
  refine zev_intro (own := RX6) (lv := [some (.ref (zad g 34)), some (.int d), none, none, none, none, none]) (by decide +kernel) rfl (Nat.le_of_ble_eq_true rfl) rfl (fun C hM hN => ?_)
  refine za_iload_n dX6_swing_0 rfl ?_
  refine za_cS1 dX6_swing_1 zm_X6_167 zw_X6_isSoon zs_X6_isSoon (m_isSoon _) (by decide) (Nat.le_of_ble_eq_true rfl) ?_
  refine za_if_neB 14 dX6_swing_4 (by decide) (fun c4 => ?_) (fun c4 => ?_)
  · exact absurd c4 hno
  · refine za_aload_n dX6_swing_7 rfl ?_
    refine za_ldc dX6_swing_8 zk_X6_41 ?_
    rw [show (-1000000001 : Int32) = zfd 0 from rfl]
    refine za_cV1 dX6_swing_10 zm_X6_67 zw_X6_finds zv_X6_finds (m_finds (by decide)) (by decide) rfl rfl rfl (Nat.le_of_ble_eq_true rfl) ?_
    exact za_iret hM dX6_swing_13 ⟨by rfl, by rfl⟩

set_option maxRecDepth 20000 in
set_option maxHeartbeats 4000000 in
theorem n_pays_ok {g : zG} {σ : zSto} {τ : zTn} (hI : zTI 100000 τ) {d : Nat} (hd1 : 1 ≤ d) (hd : d ≤ 60) : zEv g 8 yX6_pays cX6_pays 5 (some .int) [.ref (zad g 34), .int (nI d)] (zpm σ τ) (fun r' s' => r' = some (.int (zb (p_fp τ d 0 < p_fp τ d 1))) ∧ zJ (zpm σ τ) s') := by
  refine zev_intro (own := RX6) (lv := [some (.ref (zad g 34)), some (.int (nI d)), none, none, none]) (by decide +kernel) rfl (Nat.le_of_ble_eq_true rfl) rfl (fun C hM hN => ?_)
  refine za_iload_n dX6_pays_0 rfl ?_
  refine za_cS1 dX6_pays_1 zm_X6_167 zw_X6_isSoon zs_X6_isSoon (m_isSoon _) (by decide) (Nat.le_of_ble_eq_true rfl) ?_
  refine za_if_neB 14 dX6_pays_4 (by decide) (fun c4 => ?_) (fun c4 => absurd (zrng (by omega) (by omega) (by decide)) c4)
  refine za_aload_n dX6_pays_14 rfl ?_
  refine za_iconst (nI 3) dX6_pays_15 (by decide) ?_
  refine za_iconst (nI 0) dX6_pays_16 (by decide) ?_
  refine za_cV2 dX6_pays_17 zm_X6_64 zw_X6_becomes zv_X6_becomes (m_becomes (by decide)) (by decide) rfl rfl rfl (Nat.le_of_ble_eq_true rfl) ?_
  rw [show zix τ 3 = τ 0 2 from rfl, show zup τ (zk 3) (zj 3) (nI 0) = zup τ 0 2 (nI 0) from rfl]
  refine za_istore_n (lv' := [_, _, _, _, _]) dX6_pays_20 hN (by decide) rfl ?_
  refine za_aload_n dX6_pays_21 rfl ?_
  refine za_iconst (nI 2) dX6_pays_22 (by decide) ?_
  refine za_iload_n dX6_pays_23 rfl ?_
  refine za_cV2 dX6_pays_24 zm_X6_158 zw_X6_behind zv_X6_behind (m_behind (by decide) (zTI_02 hI ⟨0, by decide, rfl⟩) (by decide) (by omega)) (by decide) rfl rfl rfl (Nat.le_of_ble_eq_true rfl) ?_
  refine za_cS1 dX6_pays_27 zm_X6_172 zw_X6_ones zs_X6_ones (m_ones) (by decide) (Nat.le_of_ble_eq_true rfl) ?_
  refine za_istore_n (lv' := [_, _, _, _, _]) dX6_pays_30 hN (by decide) rfl ?_
  refine za_aload_n dX6_pays_31 rfl ?_
  refine za_getR dX6_pays_32 zf_X6_7 rfl rfl ?_
  refine za_iconst (nI 3) dX6_pays_35 (by decide) ?_
  refine za_iconst (nI 1) dX6_pays_36 (by decide) ?_
  refine zm_ast3 dX6_pays_37 ?_
  rw [zup_up]
  refine za_aload_n dX6_pays_38 rfl ?_
  refine za_iconst (nI 2) dX6_pays_39 (by decide) ?_
  refine za_iload_n dX6_pays_40 rfl ?_
  refine za_cV2 dX6_pays_41 zm_X6_158 zw_X6_behind zv_X6_behind (m_behind (by decide) (zTI_02 hI ⟨1, by decide, rfl⟩) (by decide) (by omega)) (by decide) rfl rfl rfl (Nat.le_of_ble_eq_true rfl) ?_
  refine za_cS1 dX6_pays_44 zm_X6_172 zw_X6_ones zs_X6_ones (m_ones) (by decide) (Nat.le_of_ble_eq_true rfl) ?_
  refine za_istore (lv' := [_, _, _, _, _]) dX6_pays_47 hN (by decide) rfl ?_
  refine za_aload_n dX6_pays_49 rfl ?_
  refine za_getR dX6_pays_50 zf_X6_7 rfl rfl ?_
  refine za_iconst (nI 3) dX6_pays_53 (by decide) ?_
  refine za_iload_n dX6_pays_54 rfl ?_
  refine zm_ast3 dX6_pays_55 ?_
  rw [zup_up, zup_self]
  refine za_iload dX6_pays_56 rfl ?_
  refine za_iload_n dX6_pays_58 rfl ?_
  refine za_icmp_le 66 dX6_pays_59 (by decide) (fun c59 => ?_) (fun c59 => ?_)
  · refine za_iconst (nI 0) dX6_pays_66 (by decide) ?_
    exact za_iret hM dX6_pays_67 ⟨by (first | rfl | exact congrArg (fun z => some (Value.int z)) (zb_1 (Int32.not_le.mp c59)).symm | exact congrArg (fun z => some (Value.int z)) (zb_f (Int32.not_lt.mpr c59)).symm), zJ_pm (zJ_tr zJ_38 zJ_38)⟩
  · refine za_iconst (nI 1) dX6_pays_62 (by decide) ?_
    refine za_goto 67 dX6_pays_63 (by decide) ?_
    exact za_iret hM dX6_pays_67 ⟨by (first | rfl | exact congrArg (fun z => some (Value.int z)) (zb_1 (Int32.not_le.mp c59)).symm | exact congrArg (fun z => some (Value.int z)) (zb_f (Int32.not_lt.mpr c59)).symm), zJ_pm (zJ_tr zJ_38 zJ_38)⟩

set_option maxRecDepth 20000 in
set_option maxHeartbeats 4000000 in
theorem n_pays_no {g : zG} {σ : zSto} {τ : zTn} {d : Int32} (hno : ¬ (nI 1 ≤ d ∧ d ≤ nI 60)) : zEd g 8 yX6_pays cX6_pays 5 (some .int) [.ref (zad g 34), .int d] (zpm σ τ) (some (.int (zfd 0))) (zfin (zpm σ τ) 39 0) := by
  refine zev_intro (own := RX6) (lv := [some (.ref (zad g 34)), some (.int d), none, none, none]) (by decide +kernel) rfl (Nat.le_of_ble_eq_true rfl) rfl (fun C hM hN => ?_)
  refine za_iload_n dX6_pays_0 rfl ?_
  refine za_cS1 dX6_pays_1 zm_X6_167 zw_X6_isSoon zs_X6_isSoon (m_isSoon _) (by decide) (Nat.le_of_ble_eq_true rfl) ?_
  refine za_if_neB 14 dX6_pays_4 (by decide) (fun c4 => ?_) (fun c4 => ?_)
  · exact absurd c4 hno
  · refine za_aload_n dX6_pays_7 rfl ?_
    refine za_ldc dX6_pays_8 zk_X6_41 ?_
    rw [show (-1000000001 : Int32) = zfd 0 from rfl]
    refine za_cV1 dX6_pays_10 zm_X6_67 zw_X6_finds zv_X6_finds (m_finds (by decide)) (by decide) rfl rfl rfl (Nat.le_of_ble_eq_true rfl) ?_
    exact za_iret hM dX6_pays_13 ⟨by rfl, by rfl⟩

set_option maxRecDepth 20000 in
set_option maxHeartbeats 4000000 in
theorem n_richest_ok {g : zG} {σ : zSto} {τ : zTn} (hI : zTI 100000 τ) {n d : Nat} (hn : τ 0 3 = nI n) (h9 : n < 9) (hn0 : 0 < n) (hd : d ≤ 200) : zEv g 8 yX6_richest cX6_richest 4 (some .int) [.ref (zad g 34), .int (nI d)] (zpm σ τ) (fun r' s' => r' = some (.int (nI (p_rb (p_days τ d 5) (n - 1)))) ∧ zJ (zpm σ τ) s') := by
  refine zev_intro (own := RX6) (lv := [some (.ref (zad g 34)), some (.int (nI d)), none, none]) (by decide +kernel) rfl (Nat.le_of_ble_eq_true rfl) rfl (fun C hM hN => ?_)
  have hloop : ∀ (m : Nat) (j : Nat), j + m + 1 = n → zAW g C 8 cX6_richest RX6 43 [some (.ref (zad g 34)), some (.int (nI d)), some (.int (nI (p_rb (p_days τ d 5) j))), some (.int (nI (j + 1)))] [] (zpm (zps σ 38 τ) (p_days τ d)) := by
    intro m
    induction m with
    | zero =>
      intro j hj
      obtain rfl : j + 1 = n := by omega
      refine za_iload_n dX6_richest_43 rfl ?_
      refine za_aload_n dX6_richest_44 rfl ?_
      refine za_getR dX6_richest_45 zf_X6_7 rfl rfl ?_
      refine za_iconst (nI 1) dX6_richest_48 (by decide) ?_
      refine zm_ald1 dX6_richest_49 ?_
      rw [p_days_03 hI, hn]
      refine za_icmp_ge 80 dX6_richest_50 (by decide) (fun c50 => ?_) (fun c50 => absurd (nI_le (Nat.le_refl _) (by omega)) c50)
      refine za_aload_n dX6_richest_80 rfl ?_
      refine za_iload_n dX6_richest_81 rfl ?_
      refine za_cV1 dX6_richest_82 zm_X6_152 zw_X6_takesBack zv_X6_takesBack (m_takesBack') (by decide) rfl rfl rfl (Nat.le_of_ble_eq_true rfl) ?_
      exact za_iret hM dX6_richest_85 ⟨by rfl, zJ_m38⟩
    | succ m ih =>
      intro j hj
      refine za_iload_n dX6_richest_43 rfl ?_
      refine za_aload_n dX6_richest_44 rfl ?_
      refine za_getR dX6_richest_45 zf_X6_7 rfl rfl ?_
      refine za_iconst (nI 1) dX6_richest_48 (by decide) ?_
      refine zm_ald1 dX6_richest_49 ?_
      rw [p_days_03 hI, hn]
      refine za_icmp_ge 80 dX6_richest_50 (by decide) (fun c50 => absurd c50 (nI_ge (show j + 1 < n by omega) (by omega))) (fun c50 => ?_)
      refine za_aload_n dX6_richest_53 rfl ?_
      refine za_iload_n dX6_richest_54 rfl ?_
      refine za_iconst (nI 2) dX6_richest_55 (by decide) ?_
      refine za_cV2 dX6_richest_56 zm_X6_55 zw_X6_its zv_X6_its (m_its (by omega) (by decide)) (by decide) rfl rfl rfl (Nat.le_of_ble_eq_true rfl) ?_
      refine za_aload_n dX6_richest_59 rfl ?_
      refine za_iload_n dX6_richest_60 rfl ?_
      refine za_iconst (nI 2) dX6_richest_61 (by decide) ?_
      have hl := p_rb_le (p_days τ d 5) j
      refine za_cV2 dX6_richest_62 zm_X6_55 zw_X6_its zv_X6_its (m_its (by omega) (by decide)) (by decide) rfl rfl rfl (Nat.le_of_ble_eq_true rfl) ?_
      refine za_icmp_le 72 dX6_richest_65 (by decide) (fun c65 => ?_) (fun c65 => ?_)
      · refine za_iload_n dX6_richest_72 rfl ?_
        refine za_istore_n (lv' := [_, _, _, _]) dX6_richest_73 hN (by decide) rfl ?_
        refine za_iinc (nI (_ + 1)) (lv' := [_, _, _, _]) dX6_richest_74 rfl hN (by decide) (znext _) rfl ?_
        refine za_goto 43 dX6_richest_77 (by decide) ?_
        have hh := ih (j + 1) (by omega)
        first
          | (rw [p_rb_1 (Int32.not_le.mp c65)] at hh; exact hh)
          | (rw [p_rb_0 (Int32.not_lt.mpr c65)] at hh; exact hh)
      · refine za_iload_n dX6_richest_68 rfl ?_
        refine za_goto 73 dX6_richest_69 (by decide) ?_
        refine za_istore_n (lv' := [_, _, _, _]) dX6_richest_73 hN (by decide) rfl ?_
        refine za_iinc (nI (_ + 1)) (lv' := [_, _, _, _]) dX6_richest_74 rfl hN (by decide) (znext _) rfl ?_
        refine za_goto 43 dX6_richest_77 (by decide) ?_
        have hh := ih (j + 1) (by omega)
        first
          | (rw [p_rb_1 (Int32.not_le.mp c65)] at hh; exact hh)
          | (rw [p_rb_0 (Int32.not_lt.mpr c65)] at hh; exact hh)
  refine za_iload_n dX6_richest_0 rfl ?_
  refine za_cS1 dX6_richest_1 zm_X6_155 zw_X6_isAhead zs_X6_isAhead (m_isAhead _) (by decide) (Nat.le_of_ble_eq_true rfl) ?_
  refine za_if_neB 14 dX6_richest_4 (by decide) (fun c4 => ?_) (fun c4 => absurd (zrng (Nat.zero_le _) (by omega) (by decide)) c4)
  refine za_aload_n dX6_richest_14 rfl ?_
  refine za_getR dX6_richest_15 zf_X6_7 rfl rfl ?_
  refine za_iconst (nI 1) dX6_richest_18 (by decide) ?_
  refine zm_ald1 dX6_richest_19 ?_
  refine za_if_ne 30 dX6_richest_20 (by decide) (fun c20 => ?_) (fun c20 => absurd c20 (by rw [hn]; exact nI_ne0 hn0 (by omega)))
  refine za_aload_n dX6_richest_30 rfl ?_
  refine za_cV0v dX6_richest_31 zm_X6_149 zw_X6_laysAside zv_X6_laysAside (m_laysAside') (by decide) rfl rfl rfl (Nat.le_of_ble_eq_true rfl) ?_
  refine za_aload_n dX6_richest_34 rfl ?_
  refine za_iload_n dX6_richest_35 rfl ?_
  refine za_cV1v dX6_richest_36 zm_X6_144 zw_X6_daysGo zv_X6_daysGo (m_daysGo hI (by decide) (by omega)) (by decide) rfl rfl rfl (Nat.le_of_ble_eq_true rfl) ?_
  refine za_iconst (nI 0) dX6_richest_39 (by decide) ?_
  refine za_istore_n (lv' := [_, _, _, _]) dX6_richest_40 hN (by decide) rfl ?_
  refine za_iconst (nI 1) dX6_richest_41 (by decide) ?_
  refine za_istore_n (lv' := [_, _, _, _]) dX6_richest_42 hN (by decide) rfl ?_
  exact hloop (n - 1) 0 (by omega)

set_option maxRecDepth 20000 in
set_option maxHeartbeats 4000000 in
theorem n_richest_none {g : zG} {σ : zSto} {τ : zTn} {d : Nat} (hn : τ 0 3 = nI 0) (hd : d ≤ 200) : zEd g 8 yX6_richest cX6_richest 4 (some .int) [.ref (zad g 34), .int (nI d)] (zpm σ τ) (some (.int (zfd 3))) (zfin (zpm σ τ) 39 3) := by
  refine zev_intro (own := RX6) (lv := [some (.ref (zad g 34)), some (.int (nI d)), none, none]) (by decide +kernel) rfl (Nat.le_of_ble_eq_true rfl) rfl (fun C hM hN => ?_)
  refine za_iload_n dX6_richest_0 rfl ?_
  refine za_cS1 dX6_richest_1 zm_X6_155 zw_X6_isAhead zs_X6_isAhead (m_isAhead _) (by decide) (Nat.le_of_ble_eq_true rfl) ?_
  refine za_if_neB 14 dX6_richest_4 (by decide) (fun c4 => ?_) (fun c4 => absurd (zrng (Nat.zero_le _) (by omega) (by decide)) c4)
  refine za_aload_n dX6_richest_14 rfl ?_
  refine za_getR dX6_richest_15 zf_X6_7 rfl rfl ?_
  refine za_iconst (nI 1) dX6_richest_18 (by decide) ?_
  refine zm_ald1 dX6_richest_19 ?_
  refine za_if_ne 30 dX6_richest_20 (by decide) (fun c20 => absurd (by rw [hn]; decide) c20) (fun c20 => ?_)
  refine za_aload_n dX6_richest_23 rfl ?_
  refine za_ldc dX6_richest_24 zk_X6_161 ?_
  rw [show (-1000000004 : Int32) = zfd 3 from rfl]
  refine za_cV1 dX6_richest_26 zm_X6_67 zw_X6_finds zv_X6_finds (m_finds (by decide)) (by decide) rfl rfl rfl (Nat.le_of_ble_eq_true rfl) ?_
  exact za_iret hM dX6_richest_29 ⟨by rfl, by rfl⟩

set_option maxRecDepth 20000 in
set_option maxHeartbeats 4000000 in
theorem n_richest_no {g : zG} {σ : zSto} {τ : zTn} {d : Int32} (hno : ¬ (nI 0 ≤ d ∧ d ≤ nI 200)) : zEd g 8 yX6_richest cX6_richest 4 (some .int) [.ref (zad g 34), .int d] (zpm σ τ) (some (.int (zfd 0))) (zfin (zpm σ τ) 39 0) := by
  refine zev_intro (own := RX6) (lv := [some (.ref (zad g 34)), some (.int d), none, none]) (by decide +kernel) rfl (Nat.le_of_ble_eq_true rfl) rfl (fun C hM hN => ?_)
  refine za_iload_n dX6_richest_0 rfl ?_
  refine za_cS1 dX6_richest_1 zm_X6_155 zw_X6_isAhead zs_X6_isAhead (m_isAhead _) (by decide) (Nat.le_of_ble_eq_true rfl) ?_
  refine za_if_neB 14 dX6_richest_4 (by decide) (fun c4 => ?_) (fun c4 => ?_)
  · exact absurd c4 hno
  · refine za_aload_n dX6_richest_7 rfl ?_
    refine za_ldc dX6_richest_8 zk_X6_41 ?_
    rw [show (-1000000001 : Int32) = zfd 0 from rfl]
    refine za_cV1 dX6_richest_10 zm_X6_67 zw_X6_finds zv_X6_finds (m_finds (by decide)) (by decide) rfl rfl rfl (Nat.le_of_ble_eq_true rfl) ?_
    exact za_iret hM dX6_richest_13 ⟨by rfl, by rfl⟩
