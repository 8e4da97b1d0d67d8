def zfm (x : Int32) : Nat → Nat → zSto → zSto
  | 0, _, S => S
  | r + 1, n, S => zfm x r (n + 1) (ztad S 40 34 7 n ((x >>> ((nI 8 * nI r) &&& 31)) &&& nI 255))
theorem zadd0 (x : Int32) : x + nI 0 = x := by
  have h : nI 0 = 0 := rfl
  rw [h]
  exact Int32.add_zero x
theorem m_in3 {g : zG} {σ : zSto} (x y : Int32) : zEd g 0 yX6_in cX6_in 6 (some .boolean) [.long x.toInt64, .long (lN 0), .long y.toInt64] σ (some (.int (zb (nI 0 ≤ x ∧ x ≤ y)))) σ := by
  have e := m_in (g := g) (σ := σ) x.toInt64 (lN 0) y.toInt64
  rw [zb_congr (c' := nI 0 ≤ x ∧ x ≤ y) (by rw [← zlong_n (a := 0) (by decide), zlong_le, zlong_le])] at e
  exact e

set_option maxRecDepth 20000 in
set_option maxHeartbeats 4000000 in
theorem n_feed_ok {g : zG} {S : zSto} {x : Int32} {n k : Nat} (hn : S.1 34 7 = nI n) (hn1 : n ≤ 120) (hk1 : 1 ≤ k) (hk : k ≤ 4) (hf : n + k ≤ 120) : zEd g 8 yX6_feed cX6_feed 4 (some .int) [.ref (zad g 34), .int x, .int (nI k)] S (some (.int (nI (n + k)))) (zfm x k n S) := by
  refine zev_intro (own := RX6) (lv := [some (.ref (zad g 34)), some (.int x), some (.int (nI k)), none]) (by decide +kernel) rfl (Nat.le_of_ble_eq_true rfl) rfl (fun C hM hN => ?_)
  have hend : ∀ (S' : zSto), zfm x k n S = S' → S'.1 34 7 = nI (n + k) → zAW g C 8 cX6_feed RX6 41 [some (.ref (zad g 34)), some (.int x), some (.int (nI k)), some (.int (-1))] [] S' := by
    intro S' hS hl
    refine za_iload_n dX6_feed_41 rfl ?_
    refine za_if_lt 80 dX6_feed_42 (by decide) (fun c42 => ?_) (fun c42 => absurd (by decide) c42)
    refine za_aload_n dX6_feed_80 rfl ?_
    refine za_getI dX6_feed_81 zf_X6_177 rfl rfl ?_
    rw [hl]
    exact za_iret hM dX6_feed_84 ⟨rfl, hS.symm⟩
  have hloop : ∀ (r n' : Nat) (S' : zSto), r < k → n' + r + 1 = n + k → S'.1 34 7 = nI n' → zfm x k n S = zfm x (r + 1) n' S' → zAW g C 8 cX6_feed RX6 41 [some (.ref (zad g 34)), some (.int x), some (.int (nI k)), some (.int (nI r))] [] S' := by
    intro r
    induction r with
    | zero =>
      intro n' S' hr hk' hl hS
      refine za_iload_n dX6_feed_41 rfl ?_
      refine za_if_lt 80 dX6_feed_42 (by decide) (fun c42 => absurd c42 (by decide)) (fun c42 => ?_)
      refine za_aload_n dX6_feed_45 rfl ?_
      refine za_getR dX6_feed_46 zf_X6_25 rfl rfl ?_
      refine za_aload_n dX6_feed_49 rfl ?_
      refine za_getI dX6_feed_50 zf_X6_177 rfl rfl ?_
      rw [hl]
      refine za_iload_n dX6_feed_53 rfl ?_
      refine za_bipush (nI 8) dX6_feed_54 (by decide) ?_
      refine za_iload_n dX6_feed_56 rfl ?_
      refine za_imul dX6_feed_57 ?_
      refine za_ishr dX6_feed_58 ?_
      refine za_sipush (nI 255) dX6_feed_59 (by decide) ?_
      refine za_iand dX6_feed_62 ?_
      refine za_iast dX6_feed_63 rfl (by omega) ?_
      refine za_aload_n dX6_feed_64 rfl ?_
      refine za_dup dX6_feed_65 rfl ?_
      refine za_getI dX6_feed_66 zf_X6_177 rfl rfl ?_
      rw [show (zsi S' 40 n' _).1 34 7 = nI n' from hl]
      refine za_iconst (nI 1) dX6_feed_69 (by decide) ?_
      refine za_iadd dX6_feed_70 ?_
      rw [nI_add]
      refine za_putI dX6_feed_71 zf_X6_177 zp_X6_7 rfl rfl ?_
      refine za_iinc (-1) (lv' := [_, _, _, _]) dX6_feed_74 rfl hN (by decide) zneg1 rfl ?_
      refine za_goto 41 dX6_feed_77 (by decide) ?_
      exact hend _ hS (by rw [show (zsi (zsi S' 40 n' _) 34 7 (nI (n' + 1))).1 34 7 = nI (n' + 1) from ztad_len (a := 40) (v := _)]; congr 1)
    | succ r ih =>
      intro n' S' hr hk' hl hS
      refine za_iload_n dX6_feed_41 rfl ?_
      refine za_if_lt 80 dX6_feed_42 (by decide) (fun c42 => absurd c42 (nI_pos (by omega))) (fun c42 => ?_)
      refine za_aload_n dX6_feed_45 rfl ?_
      refine za_getR dX6_feed_46 zf_X6_25 rfl rfl ?_
      refine za_aload_n dX6_feed_49 rfl ?_
      refine za_getI dX6_feed_50 zf_X6_177 rfl rfl ?_
      rw [hl]
      refine za_iload_n dX6_feed_53 rfl ?_
      refine za_bipush (nI 8) dX6_feed_54 (by decide) ?_
      refine za_iload_n dX6_feed_56 rfl ?_
      refine za_imul dX6_feed_57 ?_
      refine za_ishr dX6_feed_58 ?_
      refine za_sipush (nI 255) dX6_feed_59 (by decide) ?_
      refine za_iand dX6_feed_62 ?_
      refine za_iast dX6_feed_63 rfl (by omega) ?_
      refine za_aload_n dX6_feed_64 rfl ?_
      refine za_dup dX6_feed_65 rfl ?_
      refine za_getI dX6_feed_66 zf_X6_177 rfl rfl ?_
      rw [show (zsi S' 40 n' _).1 34 7 = nI n' from hl]
      refine za_iconst (nI 1) dX6_feed_69 (by decide) ?_
      refine za_iadd dX6_feed_70 ?_
      rw [nI_add]
      refine za_putI dX6_feed_71 zf_X6_177 zp_X6_7 rfl rfl ?_
      refine za_iinc (nI r) (lv' := [_, _, _, _]) dX6_feed_74 rfl hN (by decide) (zprev r) rfl ?_
      refine za_goto 41 dX6_feed_77 (by decide) ?_
      exact ih (n' + 1) _ (by omega) (by omega) ztad_len hS
  refine za_iload_n dX6_feed_0 rfl ?_
  refine za_i2l dX6_feed_1 ?_
  refine za_lconst (lN 1) dX6_feed_2 (by decide) ?_
  refine za_ldc2 (v := lN 4) dX6_feed_3 zk_X6_175 ?_
  refine za_cS3 dX6_feed_6 zm_X6_46 zw_X6_in zs_X6_in (m_in2 _ (by decide) (by decide)) (by decide) (Nat.le_of_ble_eq_true rfl) ?_
  refine za_if_neB 19 dX6_feed_9 (by decide) (fun c9 => ?_) (fun c9 => absurd (zrng (by omega) (by omega) (by decide)) c9)
  refine za_aload_n dX6_feed_19 rfl ?_
  refine za_getI dX6_feed_20 zf_X6_177 rfl rfl ?_
  rw [hn]
  refine za_iload_n dX6_feed_23 rfl ?_
  refine za_iadd dX6_feed_24 ?_
  rw [nI_add]
  refine za_bipush (nI 120) dX6_feed_25 (by decide) ?_
  refine za_icmp_le 37 dX6_feed_27 (by decide) (fun c27 => ?_) (fun c27 => absurd (nI_le hf (by decide)) c27)
  refine za_iload_n dX6_feed_37 rfl ?_
  refine za_iconst (nI 1) dX6_feed_38 (by decide) ?_
  refine za_isub dX6_feed_39 ?_
  obtain ⟨k, rfl⟩ : ∃ j, k = j + 1 := ⟨k - 1, by omega⟩
  rw [zm1]
  refine za_istore_n (lv' := [_, _, _, _]) dX6_feed_40 hN (by decide) rfl ?_
  exact hloop k n S (by omega) (by omega) hn rfl

set_option maxRecDepth 20000 in
set_option maxHeartbeats 4000000 in
theorem n_feed_full {g : zG} {S : zSto} {x : Int32} {n k : Nat} (hn : S.1 34 7 = nI n) (hn1 : n ≤ 120) (hk1 : 1 ≤ k) (hk : k ≤ 4) (hf : ¬ n + k ≤ 120) : zEd g 8 yX6_feed cX6_feed 4 (some .int) [.ref (zad g 34), .int x, .int (nI k)] S (some (.int (zfd 1))) (zfin S 39 1) := by
  refine zev_intro (own := RX6) (lv := [some (.ref (zad g 34)), some (.int x), some (.int (nI k)), none]) (by decide +kernel) rfl (Nat.le_of_ble_eq_true rfl) rfl (fun C hM hN => ?_)
  refine za_iload_n dX6_feed_0 rfl ?_
  refine za_i2l dX6_feed_1 ?_
  refine za_lconst (lN 1) dX6_feed_2 (by decide) ?_
  refine za_ldc2 (v := lN 4) dX6_feed_3 zk_X6_175 ?_
  refine za_cS3 dX6_feed_6 zm_X6_46 zw_X6_in zs_X6_in (m_in2 _ (by decide) (by decide)) (by decide) (Nat.le_of_ble_eq_true rfl) ?_
  refine za_if_neB 19 dX6_feed_9 (by decide) (fun c9 => ?_) (fun c9 => absurd (zrng (by omega) (by omega) (by decide)) c9)
  refine za_aload_n dX6_feed_19 rfl ?_
  refine za_getI dX6_feed_20 zf_X6_177 rfl rfl ?_
  rw [hn]
  refine za_iload_n dX6_feed_23 rfl ?_
  refine za_iadd dX6_feed_24 ?_
  rw [nI_add]
  refine za_bipush (nI 120) dX6_feed_25 (by decide) ?_
  refine za_icmp_le 37 dX6_feed_27 (by decide) (fun c27 => absurd c27 (nI_ge (by omega) (by omega))) (fun c27 => ?_)
  refine za_aload_n dX6_feed_30 rfl ?_
  refine za_ldc dX6_feed_31 zk_X6_106 ?_
  rw [show (-1000000002 : Int32) = zfd 1 from rfl]
  refine za_cV1 dX6_feed_33 zm_X6_67 zw_X6_finds zv_X6_finds (m_finds (by decide)) (by decide) rfl rfl rfl (Nat.le_of_ble_eq_true rfl) ?_
  exact za_iret hM dX6_feed_36 ⟨by rfl, by rfl⟩

set_option maxRecDepth 20000 in
set_option maxHeartbeats 4000000 in
theorem n_feed_no {g : zG} {S : zSto} {x k : Int32} (hno : ¬ (nI 1 ≤ k ∧ k ≤ nI 4)) : zEd g 8 yX6_feed cX6_feed 4 (some .int) [.ref (zad g 34), .int x, .int k] S (some (.int (zfd 0))) (zfin S 39 0) := by
  refine zev_intro (own := RX6) (lv := [some (.ref (zad g 34)), some (.int x), some (.int k), none]) (by decide +kernel) rfl (Nat.le_of_ble_eq_true rfl) rfl (fun C hM hN => ?_)
  refine za_iload_n dX6_feed_0 rfl ?_
  refine za_i2l dX6_feed_1 ?_
  refine za_lconst (lN 1) dX6_feed_2 (by decide) ?_
  refine za_ldc2 (v := lN 4) dX6_feed_3 zk_X6_175 ?_
  refine za_cS3 dX6_feed_6 zm_X6_46 zw_X6_in zs_X6_in (m_in2 _ (by decide) (by decide)) (by decide) (Nat.le_of_ble_eq_true rfl) ?_
  refine za_if_neB 19 dX6_feed_9 (by decide) (fun c9 => ?_) (fun c9 => ?_)
  · exact absurd c9 hno
  · refine za_aload_n dX6_feed_12 rfl ?_
    refine za_ldc dX6_feed_13 zk_X6_41 ?_
    rw [show (-1000000001 : Int32) = zfd 0 from rfl]
    refine za_cV1 dX6_feed_15 zm_X6_67 zw_X6_finds zv_X6_finds (m_finds (by decide)) (by decide) rfl rfl rfl (Nat.le_of_ble_eq_true rfl) ?_
    exact za_iret hM dX6_feed_18 ⟨by rfl, by rfl⟩

set_option maxRecDepth 20000 in
set_option maxHeartbeats 4000000 in
theorem n_wipe {g : zG} {S : zSto}  : zEd g 8 yX6_wipe cX6_wipe 2 (some .int) [.ref (zad g 34)] S (some (.int (S.1 34 7))) (zsi S 34 7 (nI 0)) := by
  refine zev_intro (own := RX6) (lv := [some (.ref (zad g 34)), none]) (by decide +kernel) rfl (Nat.le_of_ble_eq_true rfl) rfl (fun C hM hN => ?_)
  refine za_aload_n dX6_wipe_0 rfl ?_
  refine za_getI dX6_wipe_1 zf_X6_177 rfl rfl ?_
  refine za_istore_n (lv' := [_, _]) dX6_wipe_4 hN (by decide) rfl ?_
  refine za_aload_n dX6_wipe_5 rfl ?_
  refine za_iconst (nI 0) dX6_wipe_6 (by decide) ?_
  refine za_putI dX6_wipe_7 zf_X6_177 zp_X6_7 rfl rfl ?_
  refine za_iload_n dX6_wipe_10 rfl ?_
  exact za_iret hM dX6_wipe_11 ⟨by rfl, by rfl⟩

set_option maxRecDepth 20000 in
set_option maxHeartbeats 4000000 in
theorem n_image {g : zG} {S : zSto}  : zEd g 8 yX6_image cX6_image 2 (some .int) [.ref (zad g 34)] S (some (.int (nI 1))) (zsi (zcp S 35 36 48) 34 5 (nI 1)) := by
  refine zev_intro (own := RX6) (lv := [some (.ref (zad g 34)), none]) (by decide +kernel) rfl (Nat.le_of_ble_eq_true rfl) rfl (fun C hM hN => ?_)
  have hloop : ∀ (m : Nat) (j : Nat), j + m = 48 → zAW g C 8 cX6_image RX6 2 [some (.ref (zad g 34)), some (.int (nI j))] [] (zcp S 35 36 j) := by
    intro m
    induction m with
    | zero =>
      intro j hj
      obtain rfl : j = 48 := by omega
      refine za_iload_n dX6_image_2 rfl ?_
      refine za_bipush (nI 48) dX6_image_3 (by decide) ?_
      refine za_icmp_ge 26 dX6_image_5 (by decide) (fun c5 => ?_) (fun c5 => absurd (by decide) c5)
      refine za_aload_n dX6_image_26 rfl ?_
      refine za_iconst (nI 1) dX6_image_27 (by decide) ?_
      refine za_putG dX6_image_28 zf_X6_299 zp_X6_5 rfl rfl (by decide) (by decide) ?_
      refine za_iconst (nI 1) dX6_image_31 (by decide) ?_
      exact za_iret hM dX6_image_32 ⟨by rfl, by rfl⟩
    | succ m ih =>
      intro j hj
      refine za_iload_n dX6_image_2 rfl ?_
      refine za_bipush (nI 48) dX6_image_3 (by decide) ?_
      refine za_icmp_ge 26 dX6_image_5 (by decide) (fun c5 => absurd c5 (nI_ge (show j < 48 by omega) (by decide))) (fun c5 => ?_)
      refine za_aload_n dX6_image_8 rfl ?_
      refine za_getR dX6_image_9 zf_X6_13 rfl rfl ?_
      refine za_iload_n dX6_image_12 rfl ?_
      refine za_aload_n dX6_image_13 rfl ?_
      refine za_getR dX6_image_14 zf_X6_7 rfl rfl ?_
      refine za_iload_n dX6_image_17 rfl ?_
      refine za_iald dX6_image_18 rfl (by omega) ?_
      rw [zcp_src (by decide)]
      refine za_iast dX6_image_19 rfl (by omega) ?_
      rw [zcp_next]
      refine za_iinc (nI (_ + 1)) (lv' := [_, _]) dX6_image_20 rfl hN (by decide) (znext _) rfl ?_
      refine za_goto 2 dX6_image_23 (by decide) ?_
      exact ih (j + 1) (by omega)
  refine za_iconst (nI 0) dX6_image_0 (by decide) ?_
  refine za_istore_n (lv' := [_, _]) dX6_image_1 hN (by decide) rfl ?_
  have h0 := hloop 48 0 rfl
  rw [zcp_0] at h0
  exact h0

set_option maxRecDepth 20000 in
set_option maxHeartbeats 4000000 in
theorem n_undo_ok {g : zG} {S : zSto} (hk : ¬ S.1 34 5 = 0) : zEd g 8 yX6_undo cX6_undo 2 (some .int) [.ref (zad g 34)] S (some (.int (S.1 36 1))) (zcp S 36 35 48) := by
  refine zev_intro (own := RX6) (lv := [some (.ref (zad g 34)), none]) (by decide +kernel) rfl (Nat.le_of_ble_eq_true rfl) rfl (fun C hM hN => ?_)
  have hloop : ∀ (m : Nat) (j : Nat), j + m = 48 → zAW g C 8 cX6_undo RX6 16 [some (.ref (zad g 34)), some (.int (nI j))] [] (zcp S 36 35 j) := by
    intro m
    induction m with
    | zero =>
      intro j hj
      obtain rfl : j = 48 := by omega
      refine za_iload_n dX6_undo_16 rfl ?_
      refine za_bipush (nI 48) dX6_undo_17 (by decide) ?_
      refine za_icmp_ge 40 dX6_undo_19 (by decide) (fun c19 => ?_) (fun c19 => absurd (by decide) c19)
      refine za_aload_n dX6_undo_40 rfl ?_
      refine za_getR dX6_undo_41 zf_X6_7 rfl rfl ?_
      refine za_iconst (nI 1) dX6_undo_44 (by decide) ?_
      refine za_iald dX6_undo_45 rfl (by decide) ?_
      exact za_iret hM dX6_undo_46 ⟨by rfl, by rfl⟩
    | succ m ih =>
      intro j hj
      refine za_iload_n dX6_undo_16 rfl ?_
      refine za_bipush (nI 48) dX6_undo_17 (by decide) ?_
      refine za_icmp_ge 40 dX6_undo_19 (by decide) (fun c19 => absurd c19 (nI_ge (show j < 48 by omega) (by decide))) (fun c19 => ?_)
      refine za_aload_n dX6_undo_22 rfl ?_
      refine za_getR dX6_undo_23 zf_X6_7 rfl rfl ?_
      refine za_iload_n dX6_undo_26 rfl ?_
      refine za_aload_n dX6_undo_27 rfl ?_
      refine za_getR dX6_undo_28 zf_X6_13 rfl rfl ?_
      refine za_iload_n dX6_undo_31 rfl ?_
      refine za_iald dX6_undo_32 rfl (by omega) ?_
      rw [zcp_src (by decide)]
      refine za_iast dX6_undo_33 rfl (by omega) ?_
      rw [zcp_next]
      refine za_iinc (nI (_ + 1)) (lv' := [_, _]) dX6_undo_34 rfl hN (by decide) (znext _) rfl ?_
      refine za_goto 16 dX6_undo_37 (by decide) ?_
      exact ih (j + 1) (by omega)
  refine za_aload_n dX6_undo_0 rfl ?_
  refine za_getI dX6_undo_1 zf_X6_299 rfl rfl ?_
  refine za_if_ne 14 dX6_undo_4 (by decide) (fun c4 => ?_) (fun c4 => absurd c4 hk)
  refine za_iconst (nI 0) dX6_undo_14 (by decide) ?_
  refine za_istore_n (lv' := [_, _]) dX6_undo_15 hN (by decide) rfl ?_
  have h0 := hloop 48 0 rfl
  rw [zcp_0] at h0
  exact h0

set_option maxRecDepth 20000 in
set_option maxHeartbeats 4000000 in
theorem n_undo_no {g : zG} {S : zSto} (hk : S.1 34 5 = 0) : zEd g 8 yX6_undo cX6_undo 2 (some .int) [.ref (zad g 34)] S (some (.int (zfd 3))) (zfin S 39 3) := by
  refine zev_intro (own := RX6) (lv := [some (.ref (zad g 34)), none]) (by decide +kernel) rfl (Nat.le_of_ble_eq_true rfl) rfl (fun C hM hN => ?_)
  refine za_aload_n dX6_undo_0 rfl ?_
  refine za_getI dX6_undo_1 zf_X6_299 rfl rfl ?_
  refine za_if_ne 14 dX6_undo_4 (by decide) (fun c4 => absurd hk c4) (fun c4 => ?_)
  refine za_aload_n dX6_undo_7 rfl ?_
  refine za_ldc dX6_undo_8 zk_X6_161 ?_
  rw [show (-1000000004 : Int32) = zfd 3 from rfl]
  refine za_cV1 dX6_undo_10 zm_X6_67 zw_X6_finds zv_X6_finds (m_finds (by decide)) (by decide) rfl rfl rfl (Nat.le_of_ble_eq_true rfl) ?_
  exact za_iret hM dX6_undo_13 ⟨by rfl, by rfl⟩

set_option maxRecDepth 20000 in
set_option maxHeartbeats 4000000 in
theorem n_tear {g : zG} {S : zSto}  : zEd g 8 yX6_tear cX6_tear 2 (some .int) [.ref (zad g 34)] S (some (.int (zb (¬ S.1 34 5 = 0)))) (zsi S 34 5 (nI 0)) := by
  refine zev_intro (own := RX6) (lv := [some (.ref (zad g 34)), none]) (by decide +kernel) rfl (Nat.le_of_ble_eq_true rfl) rfl (fun C hM hN => ?_)
  refine za_aload_n dX6_tear_0 rfl ?_
  refine za_getI dX6_tear_1 zf_X6_299 rfl rfl ?_
  refine za_if_eq 11 dX6_tear_4 (by decide) (fun c4 => ?_) (fun c4 => ?_)
  · refine za_iconst (nI 0) dX6_tear_11 (by decide) ?_
    refine za_istore_n (lv' := [_, _]) dX6_tear_12 hN (by decide) rfl ?_
    refine za_aload_n dX6_tear_13 rfl ?_
    refine za_iconst (nI 0) dX6_tear_14 (by decide) ?_
    refine za_putG dX6_tear_15 zf_X6_299 zp_X6_5 rfl rfl (by decide) (by decide) ?_
    refine za_iload_n dX6_tear_18 rfl ?_
    exact za_iret hM dX6_tear_19 ⟨by (first | rfl | exact congrArg (fun z => some (Value.int z)) (zb_f (fun z => z c4)).symm | exact congrArg (fun z => some (Value.int z)) (zb_1 c4).symm), by (first | rfl | exact congrArg (fun z => some (Value.int z)) (zb_f (fun z => z c4)).symm | exact congrArg (fun z => some (Value.int z)) (zb_1 c4).symm)⟩
  · refine za_iconst (nI 1) dX6_tear_7 (by decide) ?_
    refine za_goto 12 dX6_tear_8 (by decide) ?_
    refine za_istore_n (lv' := [_, _]) dX6_tear_12 hN (by decide) rfl ?_
    refine za_aload_n dX6_tear_13 rfl ?_
    refine za_iconst (nI 0) dX6_tear_14 (by decide) ?_
    refine za_putG dX6_tear_15 zf_X6_299 zp_X6_5 rfl rfl (by decide) (by decide) ?_
    refine za_iload_n dX6_tear_18 rfl ?_
    exact za_iret hM dX6_tear_19 ⟨by (first | rfl | exact congrArg (fun z => some (Value.int z)) (zb_f (fun z => z c4)).symm | exact congrArg (fun z => some (Value.int z)) (zb_1 c4).symm), by (first | rfl | exact congrArg (fun z => some (Value.int z)) (zb_f (fun z => z c4)).symm | exact congrArg (fun z => some (Value.int z)) (zb_1 c4).symm)⟩

def p_cntm (S : zSto) (τ : zTn) (w : Nat) : Int32 := match w with
  | 0 => τ 0 3
  | 1 => S.1 34 7
  | 2 => p_sum (τ 1) 6
  | _ => p_sum (τ 2) 6

set_option maxRecDepth 20000 in
set_option maxHeartbeats 4000000 in
theorem n_count_ok {g : zG} {σ : zSto} {τ : zTn} {w : Nat} (hw : w ≤ 3) : zEd g 8 yX6_count cX6_count 2 (some .int) [.ref (zad g 34), .int (nI w)] (zpm σ τ) (some (.int (p_cntm σ τ w))) (zpm σ τ) := by
  refine zev_intro (own := RX6) (lv := [some (.ref (zad g 34)), some (.int (nI w))]) (by decide +kernel) rfl (Nat.le_of_ble_eq_true rfl) rfl (fun C hM hN => ?_)
  obtain rfl | rfl | rfl | rfl := (show w = 0 ∨ w = 1 ∨ w = 2 ∨ w = 3 by omega)
  · refine za_iload_n dX6_count_0 rfl ?_
    skip
    · refine za_tabK (31) 32 dX6_count_1 (by decide) (by decide) (by decide) (by decide) ?_
      refine za_aload_n dX6_count_32 rfl ?_
      refine za_getR dX6_count_33 zf_X6_7 rfl rfl ?_
      refine za_iconst (nI 1) dX6_count_36 (by decide) ?_
      refine zm_ald1 dX6_count_37 ?_
      exact za_iret hM dX6_count_38 ⟨by rfl, by rfl⟩
  · refine za_iload_n dX6_count_0 rfl ?_
    skip
    · refine za_tabK (38) 39 dX6_count_1 (by decide) (by decide) (by decide) (by decide) ?_
      refine za_aload_n dX6_count_39 rfl ?_
      refine za_getI dX6_count_40 zf_X6_177 rfl rfl ?_
      exact za_iret hM dX6_count_43 ⟨by rfl, by rfl⟩
  · refine za_iload_n dX6_count_0 rfl ?_
    skip
    · refine za_tabK (43) 44 dX6_count_1 (by decide) (by decide) (by decide) (by decide) ?_
      refine za_aload_n dX6_count_44 rfl ?_
      refine za_iconst (nI 0) dX6_count_45 (by decide) ?_
      refine za_cV1 dX6_count_46 zm_X6_91 zw_X6_together zv_X6_together (m_together (by decide)) (by decide) rfl rfl rfl (Nat.le_of_ble_eq_true rfl) ?_
      exact za_iret hM dX6_count_49 ⟨by rfl, by rfl⟩
  · refine za_iload_n dX6_count_0 rfl ?_
    skip
    · refine za_tabK (49) 50 dX6_count_1 (by decide) (by decide) (by decide) (by decide) ?_
      refine za_aload_n dX6_count_50 rfl ?_
      refine za_iconst (nI 1) dX6_count_51 (by decide) ?_
      refine za_cV1 dX6_count_52 zm_X6_91 zw_X6_together zv_X6_together (m_together (by decide)) (by decide) rfl rfl rfl (Nat.le_of_ble_eq_true rfl) ?_
      exact za_iret hM dX6_count_55 ⟨by rfl, by rfl⟩

set_option maxRecDepth 20000 in
set_option maxHeartbeats 4000000 in
theorem n_count_no {g : zG} {S : zSto} {w : Int32} (hno : ¬ (nI 0 ≤ w ∧ w ≤ nI 3)) : zEd g 8 yX6_count cX6_count 2 (some .int) [.ref (zad g 34), .int w] S (some (.int (zfd 0))) (zfin S 39 0) := by
  refine zev_intro (own := RX6) (lv := [some (.ref (zad g 34)), some (.int w)]) (by decide +kernel) rfl (Nat.le_of_ble_eq_true rfl) rfl (fun C hM hN => ?_)
  refine za_iload_n dX6_count_0 rfl ?_
  skip
  · refine za_tabO 56 dX6_count_1 (zout hno (by decide)) (by decide) ?_
    refine za_aload_n dX6_count_56 rfl ?_
    refine za_ldc dX6_count_57 zk_X6_41 ?_
    rw [show (-1000000001 : Int32) = zfd 0 from rfl]
    refine za_cV1 dX6_count_59 zm_X6_67 zw_X6_finds zv_X6_finds (m_finds (by decide)) (by decide) rfl rfl rfl (Nat.le_of_ble_eq_true rfl) ?_
    exact za_iret hM dX6_count_62 ⟨by rfl, by rfl⟩

/-- the sum of those of f 0 .. that are asked for -/
def p_sel (f : Nat → Int32) (w : Nat) : Nat → Int32
  | 0 => nI 0
  | n + 1 => p_sel f w n + (if n = w then f n else nI 0)
theorem znadd (x : Int32) : nI 0 + x = x := by
  have h : nI 0 = 0 := rfl
  rw [h]
  exact Int32.zero_add x
theorem p_sel_lt {f : Nat → Int32} {w : Nat} : ∀ n, n ≤ w → p_sel f w n = nI 0
  | 0, _ => rfl
  | n + 1, h => by
    unfold p_sel
    rw [p_sel_lt n (by omega), if_neg (by omega), zadd0]
theorem p_sel_at {f : Nat → Int32} {w : Nat} : ∀ n, w < n → p_sel f w n = f w
  | 0, h => absurd h (Nat.not_lt_zero _)
  | n + 1, h => by
    unfold p_sel
    by_cases e : n = w
    · subst e; rw [if_pos rfl, p_sel_lt n (Nat.le_refl _), znadd]
    · rw [if_neg e, zadd0, p_sel_at n (by omega)]
theorem zlm1 : (-1 : Int64) = (-1 : Int32).toInt64 := by decide
theorem m_inS {g : zG} {σ : zSto} (x : Int32) : zEd g 0 yX6_in cX6_in 6 (some .boolean) [.long x.toInt64, .long (-1), .long (lN 6)] σ (some (.int (zb (-1 ≤ x ∧ x ≤ nI 6)))) σ := by
  have e := m_in (g := g) (σ := σ) x.toInt64 (-1) (lN 6)
  rw [zb_congr (c' := -1 ≤ x ∧ x ≤ nI 6) (by rw [← zlong_n (a := 6) (by decide), zlm1, zlong_le, zlong_le])] at e
  exact e

set_option maxRecDepth 20000 in
set_option maxHeartbeats 4000000 in
theorem n_status_all {g : zG} {S : zSto}  : zEd g 8 yX6_status cX6_status 4 (some .int) [.ref (zad g 34), .int (-1)] S (some (.int (p_sum (S.1 39) 7))) S := by
  refine zev_intro (own := RX6) (lv := [some (.ref (zad g 34)), some (.int (-1)), none, none]) (by decide +kernel) rfl (Nat.le_of_ble_eq_true rfl) rfl (fun C hM hN => ?_)
  have hloop : ∀ (m : Nat) (j : Nat), j + m = 7 → zAW g C 8 cX6_status RX6 25 [some (.ref (zad g 34)), some (.int (-1)), some (.int (p_sum (S.1 39) j)), some (.int (nI j))] [] S := by
    intro m
    induction m with
    | zero =>
      intro j hj
      obtain rfl : j = 7 := by omega
      refine za_iload_n dX6_status_25 rfl ?_
      refine za_bipush (nI 7) dX6_status_26 (by decide) ?_
      refine za_icmp_ge 59 dX6_status_28 (by decide) (fun c28 => ?_) (fun c28 => absurd (by decide) c28)
      refine za_iload_n dX6_status_59 rfl ?_
      exact za_iret hM dX6_status_60 ⟨by rfl, by rfl⟩
    | succ m ih =>
      intro j hj
      refine za_iload_n dX6_status_25 rfl ?_
      refine za_bipush (nI 7) dX6_status_26 (by decide) ?_
      refine za_icmp_ge 59 dX6_status_28 (by decide) (fun c28 => absurd c28 (nI_ge (show j < 7 by omega) (by decide))) (fun c28 => ?_)
      refine za_iload_n dX6_status_31 rfl ?_
      refine za_iload_n dX6_status_32 rfl ?_
      refine za_if_lt 41 dX6_status_33 (by decide) (fun c33 => ?_) (fun c33 => absurd (by decide) c33)
      refine za_aload_n dX6_status_41 rfl ?_
      refine za_getR dX6_status_42 zf_X6_22 rfl rfl ?_
      refine za_iload_n dX6_status_45 rfl ?_
      refine za_iald dX6_status_46 rfl (by omega) ?_
      refine za_goto 51 dX6_status_47 (by decide) ?_
      refine za_iadd dX6_status_51 ?_
      refine za_istore_n (lv' := [_, _, _, _]) dX6_status_52 hN (by decide) rfl ?_
      refine za_iinc (nI (_ + 1)) (lv' := [_, _, _, _]) dX6_status_53 rfl hN (by decide) (znext _) rfl ?_
      refine za_goto 25 dX6_status_56 (by decide) ?_
      exact ih (j + 1) (by omega)
  refine za_iload_n dX6_status_0 rfl ?_
  refine za_i2l dX6_status_1 ?_
  refine za_ldc2 dX6_status_2 zk_X6_302 ?_
  refine za_ldc2 (v := lN 6) dX6_status_5 zk_X6_304 ?_
  refine za_cS3 dX6_status_8 zm_X6_46 zw_X6_in zs_X6_in (m_inS _) (by decide) (Nat.le_of_ble_eq_true rfl) ?_
  refine za_if_neB 21 dX6_status_11 (by decide) (fun c11 => ?_) (fun c11 => absurd (by decide) c11)
  refine za_iconst (nI 0) dX6_status_21 (by decide) ?_
  refine za_istore_n (lv' := [_, _, _, _]) dX6_status_22 hN (by decide) rfl ?_
  refine za_iconst (nI 0) dX6_status_23 (by decide) ?_
  refine za_istore_n (lv' := [_, _, _, _]) dX6_status_24 hN (by decide) rfl ?_
  exact hloop 7 0 rfl

set_option maxRecDepth 20000 in
set_option maxHeartbeats 4000000 in
theorem n_status_ok {g : zG} {S : zSto} {k : Nat} (hk : k < 7) : zEd g 8 yX6_status cX6_status 4 (some .int) [.ref (zad g 34), .int (nI k)] S (some (.int (S.1 39 k))) S := by
  refine zev_intro (own := RX6) (lv := [some (.ref (zad g 34)), some (.int (nI k)), none, none]) (by decide +kernel) rfl (Nat.le_of_ble_eq_true rfl) rfl (fun C hM hN => ?_)
  have hloop : ∀ (m : Nat) (j : Nat), j + m = 7 → zAW g C 8 cX6_status RX6 25 [some (.ref (zad g 34)), some (.int (nI k)), some (.int (p_sel (S.1 39) k j)), some (.int (nI j))] [] S := by
    intro m
    induction m with
    | zero =>
      intro j hj
      obtain rfl : j = 7 := by omega
      refine za_iload_n dX6_status_25 rfl ?_
      refine za_bipush (nI 7) dX6_status_26 (by decide) ?_
      refine za_icmp_ge 59 dX6_status_28 (by decide) (fun c28 => ?_) (fun c28 => absurd (by decide) c28)
      refine za_iload_n dX6_status_59 rfl ?_
      exact za_iret hM dX6_status_60 ⟨congrArg (fun z => some (Value.int z)) (p_sel_at 7 hk), rfl⟩
    | succ m ih =>
      intro j hj
      refine za_iload_n dX6_status_25 rfl ?_
      refine za_bipush (nI 7) dX6_status_26 (by decide) ?_
      refine za_icmp_ge 59 dX6_status_28 (by decide) (fun c28 => absurd c28 (nI_ge (show j < 7 by omega) (by decide))) (fun c28 => ?_)
      refine za_iload_n dX6_status_31 rfl ?_
      refine za_iload_n dX6_status_32 rfl ?_
      refine za_if_lt 41 dX6_status_33 (by decide) (fun c33 => absurd c33 (nI_pos (by omega))) (fun c33 => ?_)
      refine za_iload_n dX6_status_36 rfl ?_
      refine za_iload_n dX6_status_37 rfl ?_
      refine za_icmp_ne 50 dX6_status_38 (by decide) (fun c38 => ?_) (fun c38 => ?_)
      · refine za_iconst (nI 0) dX6_status_50 (by decide) ?_
        refine za_iadd dX6_status_51 ?_
        refine za_istore_n (lv' := [_, _, _, _]) dX6_status_52 hN (by decide) rfl ?_
        refine za_iinc (nI (_ + 1)) (lv' := [_, _, _, _]) dX6_status_53 rfl hN (by decide) (znext _) rfl ?_
        refine za_goto 25 dX6_status_56 (by decide) ?_
        have hh := ih (j + 1) (by omega)
        unfold p_sel at hh
        first
          | (rw [if_pos (zinj c38 (by omega) (by omega))] at hh; exact hh)
          | (rw [if_neg (fun z => c38 (by rw [z]))] at hh; exact hh)
      · refine za_aload_n dX6_status_41 rfl ?_
        refine za_getR dX6_status_42 zf_X6_22 rfl rfl ?_
        refine za_iload_n dX6_status_45 rfl ?_
        refine za_iald dX6_status_46 rfl (by omega) ?_
        refine za_goto 51 dX6_status_47 (by decide) ?_
        refine za_iadd dX6_status_51 ?_
        refine za_istore_n (lv' := [_, _, _, _]) dX6_status_52 hN (by decide) rfl ?_
        refine za_iinc (nI (_ + 1)) (lv' := [_, _, _, _]) dX6_status_53 rfl hN (by decide) (znext _) rfl ?_
        refine za_goto 25 dX6_status_56 (by decide) ?_
        have hh := ih (j + 1) (by omega)
        unfold p_sel at hh
        first
          | (rw [if_pos (zinj c38 (by omega) (by omega))] at hh; exact hh)
          | (rw [if_neg (fun z => c38 (by rw [z]))] at hh; exact hh)
  refine za_iload_n dX6_status_0 rfl ?_
  refine za_i2l dX6_status_1 ?_
  refine za_ldc2 dX6_status_2 zk_X6_302 ?_
  refine za_ldc2 (v := lN 6) dX6_status_5 zk_X6_304 ?_
  refine za_cS3 dX6_status_8 zm_X6_46 zw_X6_in zs_X6_in (m_inS _) (by decide) (Nat.le_of_ble_eq_true rfl) ?_
  refine za_if_neB 21 dX6_status_11 (by decide) (fun c11 => ?_) (fun c11 => absurd ⟨Int32.le_trans (show (-1 : Int32) ≤ 0 by decide) (nI_pos' (by omega)), nI_le (by omega) (by decide)⟩ c11)
  refine za_iconst (nI 0) dX6_status_21 (by decide) ?_
  refine za_istore_n (lv' := [_, _, _, _]) dX6_status_22 hN (by decide) rfl ?_
  refine za_iconst (nI 0) dX6_status_23 (by decide) ?_
  refine za_istore_n (lv' := [_, _, _, _]) dX6_status_24 hN (by decide) rfl ?_
  exact hloop 7 0 rfl

set_option maxRecDepth 20000 in
set_option maxHeartbeats 4000000 in
theorem n_status_no {g : zG} {S : zSto} {w : Int32} (hno : ¬ (-1 ≤ w ∧ w ≤ nI 6)) : zEd g 8 yX6_status cX6_status 4 (some .int) [.ref (zad g 34), .int w] S (some (.int (zfd 0))) (zfin S 39 0) := by
  refine zev_intro (own := RX6) (lv := [some (.ref (zad g 34)), some (.int w), none, none]) (by decide +kernel) rfl (Nat.le_of_ble_eq_true rfl) rfl (fun C hM hN => ?_)
  refine za_iload_n dX6_status_0 rfl ?_
  refine za_i2l dX6_status_1 ?_
  refine za_ldc2 dX6_status_2 zk_X6_302 ?_
  refine za_ldc2 (v := lN 6) dX6_status_5 zk_X6_304 ?_
  refine za_cS3 dX6_status_8 zm_X6_46 zw_X6_in zs_X6_in (m_inS _) (by decide) (Nat.le_of_ble_eq_true rfl) ?_
  refine za_if_neB 21 dX6_status_11 (by decide) (fun c11 => ?_) (fun c11 => ?_)
  · exact absurd c11 hno
  · refine za_aload_n dX6_status_14 rfl ?_
    refine za_ldc dX6_status_15 zk_X6_41 ?_
    rw [show (-1000000001 : Int32) = zfd 0 from rfl]
    refine za_cV1 dX6_status_17 zm_X6_67 zw_X6_finds zv_X6_finds (m_finds (by decide)) (by decide) rfl rfl rfl (Nat.le_of_ble_eq_true rfl) ?_
    exact za_iret hM dX6_status_20 ⟨by rfl, by rfl⟩

set_option maxRecDepth 20000 in
set_option maxHeartbeats 4000000 in
theorem m_narrowed {g : zG} {S : zSto} {b : Int32} {v : Int64} : zEd g 0 yX6_narrowed cX6_narrowed 3 (some .long) [.int b, .long v] S (some (.long (znar b v))) S := by
  refine zev_intro (own := RX6) (lv := [some (.int b), some (.long v), none]) (by decide +kernel) rfl (Nat.le_of_ble_eq_true rfl) rfl (fun C hM hN => ?_)
  refine za_iload_n dX6_narrowed_0 rfl ?_
  refine za_bipush (nI 8) dX6_narrowed_1 (by decide) ?_
  refine za_icmp_ne 13 dX6_narrowed_3 (by decide) (fun c3 => ?_) (fun c3 => ?_)
  · refine za_iload_n dX6_narrowed_13 rfl ?_
    refine za_bipush (nI 16) dX6_narrowed_14 (by decide) ?_
    refine za_icmp_ne 26 dX6_narrowed_16 (by decide) (fun c16 => ?_) (fun c16 => ?_)
    · refine za_lload_n dX6_narrowed_26 rfl ?_
      exact za_lret hM dX6_narrowed_27 ⟨by (first | rfl | (unfold znar; rw [if_pos c3]; done) | (unfold znar; rw [if_neg c3, if_pos c16]; done) | (unfold znar; rw [if_neg c3, if_neg c16]; done)), by (first | rfl | (unfold znar; rw [if_pos c3]; done) | (unfold znar; rw [if_neg c3, if_pos c16]; done) | (unfold znar; rw [if_neg c3, if_neg c16]; done))⟩
    · refine za_lload_n dX6_narrowed_19 rfl ?_
      refine za_l2i dX6_narrowed_20 ?_
      refine za_i2s dX6_narrowed_21 ?_
      refine za_i2l dX6_narrowed_22 ?_
      refine za_goto 27 dX6_narrowed_23 (by decide) ?_
      exact za_lret hM dX6_narrowed_27 ⟨by (first | rfl | (unfold znar; rw [if_pos c3]; done) | (unfold znar; rw [if_neg c3, if_pos c16]; done) | (unfold znar; rw [if_neg c3, if_neg c16]; done)), by (first | rfl | (unfold znar; rw [if_pos c3]; done) | (unfold znar; rw [if_neg c3, if_pos c16]; done) | (unfold znar; rw [if_neg c3, if_neg c16]; done))⟩
  · refine za_lload_n dX6_narrowed_6 rfl ?_
    refine za_l2i dX6_narrowed_7 ?_
    refine za_i2b dX6_narrowed_8 ?_
    refine za_i2l dX6_narrowed_9 ?_
    refine za_goto 27 dX6_narrowed_10 (by decide) ?_
    exact za_lret hM dX6_narrowed_27 ⟨by (first | rfl | (unfold znar; rw [if_pos c3]; done) | (unfold znar; rw [if_neg c3, if_pos c16]; done) | (unfold znar; rw [if_neg c3, if_neg c16]; done)), by (first | rfl | (unfold znar; rw [if_pos c3]; done) | (unfold znar; rw [if_neg c3, if_pos c16]; done) | (unfold znar; rw [if_neg c3, if_neg c16]; done))⟩

set_option maxRecDepth 20000 in
set_option maxHeartbeats 4000000 in
theorem m_ws_no {g : zG} {S : zSto} {s : Int32} (hno : ¬ (nI 0 ≤ s ∧ s ≤ nI 3)) : zEd g 2 yX6_wrongSheet cX6_wrongSheet 2 (some .int) [.ref (zad g 34), .int s] S (some (.int (zfd 0))) S := by
  refine zev_intro (own := RX6) (lv := [some (.ref (zad g 34)), some (.int s)]) (by decide +kernel) rfl (Nat.le_of_ble_eq_true rfl) rfl (fun C hM hN => ?_)
  refine za_iload_n dX6_wrongSheet_0 rfl ?_
  refine za_cS1 dX6_wrongSheet_1 zm_X6_284 zw_X6_isOne zs_X6_isOne (m_isOne _) (by decide) (Nat.le_of_ble_eq_true rfl) ?_
  refine za_if_neB 12 dX6_wrongSheet_4 (by decide) (fun c4 => absurd c4 hno) (fun c4 => ?_)
  refine za_ldc dX6_wrongSheet_7 zk_X6_41 ?_
  rw [show (-1000000001 : Int32) = zfd 0 from rfl]
  refine za_goto 28 dX6_wrongSheet_9 (by decide) ?_
  exact za_iret hM dX6_wrongSheet_28 ⟨by rfl, by rfl⟩

set_option maxRecDepth 20000 in
set_option maxHeartbeats 4000000 in
theorem m_ws_mis {g : zG} {S : zSto} {s : Nat} (hs : s < 4) (hb : S.1 41 s = 0) : zEd g 2 yX6_wrongSheet cX6_wrongSheet 2 (some .int) [.ref (zad g 34), .int (nI s)] S (some (.int (zfd 5))) S := by
  refine zev_intro (own := RX6) (lv := [some (.ref (zad g 34)), some (.int (nI s))]) (by decide +kernel) rfl (Nat.le_of_ble_eq_true rfl) rfl (fun C hM hN => ?_)
  refine za_iload_n dX6_wrongSheet_0 rfl ?_
  refine za_cS1 dX6_wrongSheet_1 zm_X6_284 zw_X6_isOne zs_X6_isOne (m_isOne _) (by decide) (Nat.le_of_ble_eq_true rfl) ?_
  refine za_if_neB 12 dX6_wrongSheet_4 (by decide) (fun c4 => ?_) (fun c4 => absurd (zrng (Nat.zero_le _) (by omega) (by decide)) c4)
  refine za_aload_n dX6_wrongSheet_12 rfl ?_
  refine za_getR dX6_wrongSheet_13 zf_X6_28 rfl rfl ?_
  refine za_iload_n dX6_wrongSheet_16 rfl ?_
  refine za_iald dX6_wrongSheet_17 rfl (by omega) ?_
  refine za_if_ne 27 dX6_wrongSheet_18 (by decide) (fun c18 => absurd hb c18) (fun c18 => ?_)
  refine za_ldcw dX6_wrongSheet_21 zk_X6_288 ?_
  rw [show (-1000000006 : Int32) = zfd 5 from rfl]
  refine za_goto 28 dX6_wrongSheet_24 (by decide) ?_
  exact za_iret hM dX6_wrongSheet_28 ⟨by rfl, by rfl⟩

set_option maxRecDepth 20000 in
set_option maxHeartbeats 4000000 in
theorem m_ws_ok {g : zG} {S : zSto} {s : Nat} (hs : s < 4) (hb : ¬ S.1 41 s = 0) : zEd g 2 yX6_wrongSheet cX6_wrongSheet 2 (some .int) [.ref (zad g 34), .int (nI s)] S (some (.int (nI 0))) S := by
  refine zev_intro (own := RX6) (lv := [some (.ref (zad g 34)), some (.int (nI s))]) (by decide +kernel) rfl (Nat.le_of_ble_eq_true rfl) rfl (fun C hM hN => ?_)
  refine za_iload_n dX6_wrongSheet_0 rfl ?_
  refine za_cS1 dX6_wrongSheet_1 zm_X6_284 zw_X6_isOne zs_X6_isOne (m_isOne _) (by decide) (Nat.le_of_ble_eq_true rfl) ?_
  refine za_if_neB 12 dX6_wrongSheet_4 (by decide) (fun c4 => ?_) (fun c4 => absurd (zrng (Nat.zero_le _) (by omega) (by decide)) c4)
  refine za_aload_n dX6_wrongSheet_12 rfl ?_
  refine za_getR dX6_wrongSheet_13 zf_X6_28 rfl rfl ?_
  refine za_iload_n dX6_wrongSheet_16 rfl ?_
  refine za_iald dX6_wrongSheet_17 rfl (by omega) ?_
  refine za_if_ne 27 dX6_wrongSheet_18 (by decide) (fun c18 => ?_) (fun c18 => absurd c18 hb)
  refine za_iconst (nI 0) dX6_wrongSheet_27 (by decide) ?_
  exact za_iret hM dX6_wrongSheet_28 ⟨by rfl, by rfl⟩

set_option maxRecDepth 20000 in
set_option maxHeartbeats 4000000 in
theorem n_sheet_ok {g : zG} {S : zSto} {s n : Nat} {b : Int32} (hs : s < 4) (hb : zbits b) (hn : n ≤ 40) : zEd g 8 yX6_sheet cX6_sheet 5 (some .int) [.ref (zad g 34), .int (nI s), .int b, .int (nI n)] S (some (.int (zsz b (nI n)))) (zrz (zsi (zsi S 41 s b) 42 s (zsz b (nI n))) 43 (40 * s) 40) := by
  refine zev_intro (own := RX6) (lv := [some (.ref (zad g 34)), some (.int (nI s)), some (.int b), some (.int (nI n)), none]) (by decide +kernel) rfl (Nat.le_of_ble_eq_true rfl) rfl (fun C hM hN => ?_)
  have hloop : ∀ (m : Nat) (j : Nat), j + m = 40 → zAW g C 8 cX6_sheet RX6 86 [some (.ref (zad g 34)), some (.int (nI s)), some (.int b), some (.int (nI n)), some (.int (nI j))] [] (zrz (zsi (zsi S 41 s b) 42 s (zsz b (nI n))) 43 (40 * s) j) := by
    intro m
    induction m with
    | zero =>
      intro j hj
      obtain rfl : j = 40 := by omega
      refine za_iload dX6_sheet_86 rfl ?_
      refine za_bipush (nI 40) dX6_sheet_88 (by decide) ?_
      refine za_icmp_ge 112 dX6_sheet_90 (by decide) (fun c90 => ?_) (fun c90 => absurd (by decide) c90)
      refine za_aload_n dX6_sheet_112 rfl ?_
      refine za_getR dX6_sheet_113 zf_X6_31 rfl rfl ?_
      refine za_iload_n dX6_sheet_116 rfl ?_
      refine za_iald dX6_sheet_117 rfl hs ?_
      rw [show (zrz (zsi (zsi S 41 s b) 42 s (zsz b (nI n))) 43 (40 * s) 40).1 42 s = zsz b (nI n) by simp [zrz, zsi]]
      exact za_iret hM dX6_sheet_118 ⟨by rfl, by rfl⟩
    | succ m ih =>
      intro j hj
      refine za_iload dX6_sheet_86 rfl ?_
      refine za_bipush (nI 40) dX6_sheet_88 (by decide) ?_
      refine za_icmp_ge 112 dX6_sheet_90 (by decide) (fun c90 => absurd c90 (nI_ge (show j < 40 by omega) (by decide))) (fun c90 => ?_)
      refine za_aload_n dX6_sheet_93 rfl ?_
      refine za_getR dX6_sheet_94 zf_X6_34 rfl rfl ?_
      refine za_bipush (nI 40) dX6_sheet_97 (by decide) ?_
      refine za_iload_n dX6_sheet_99 rfl ?_
      refine za_imul dX6_sheet_100 ?_
      rw [pk_mul]
      refine za_iload dX6_sheet_101 rfl ?_
      refine za_iadd dX6_sheet_103 ?_
      rw [nI_add]
      refine za_lconst (lN 0) dX6_sheet_104 (by decide) ?_
      refine za_last dX6_sheet_105 rfl (by omega) ?_
      rw [show (lN 0) = 0 from rfl, zrz_next]
      refine za_iinc (nI (_ + 1)) (lv' := [_, _, _, _, _]) dX6_sheet_106 rfl hN (by decide) (znext _) rfl ?_
      refine za_goto 86 dX6_sheet_109 (by decide) ?_
      exact ih (j + 1) (by omega)
  refine za_iload_n dX6_sheet_0 rfl ?_
  refine za_cS1 dX6_sheet_1 zm_X6_284 zw_X6_isOne zs_X6_isOne (m_isOne _) (by decide) (Nat.le_of_ble_eq_true rfl) ?_
  refine za_if_eqB 29 dX6_sheet_4 (by decide) (fun c4 => absurd (zrng (Nat.zero_le _) (by omega) (by decide)) c4) (fun c4 => ?_)
  refine za_iload_n dX6_sheet_7 rfl ?_
  refine za_if_eq 36 dX6_sheet_8 (by decide) (fun c8 => ?_) (fun c8 => ?_)
  · refine za_iload_n dX6_sheet_36 rfl ?_
    refine za_if_ge 48 dX6_sheet_37 (by decide) (fun c37 => ?_) (fun c37 => absurd (nI_pos' (by omega)) c37)
    refine za_iload_n dX6_sheet_48 rfl ?_
    refine za_bipush (nI 40) dX6_sheet_49 (by decide) ?_
    refine za_icmp_le 61 dX6_sheet_51 (by decide) (fun c51 => ?_) (fun c51 => absurd (nI_le hn (by decide)) c51)
    refine za_aload_n dX6_sheet_61 rfl ?_
    refine za_getR dX6_sheet_62 zf_X6_28 rfl rfl ?_
    refine za_iload_n dX6_sheet_65 rfl ?_
    refine za_iload_n dX6_sheet_66 rfl ?_
    refine za_iast dX6_sheet_67 rfl hs ?_
    refine za_aload_n dX6_sheet_68 rfl ?_
    refine za_getR dX6_sheet_69 zf_X6_31 rfl rfl ?_
    refine za_iload_n dX6_sheet_72 rfl ?_
    refine za_iload_n dX6_sheet_73 rfl ?_
    refine za_if_ne 81 dX6_sheet_74 (by decide) (fun c74 => ?_) (fun c74 => ?_)
    · refine za_iload_n dX6_sheet_81 rfl ?_
      refine za_iast dX6_sheet_82 rfl hs ?_
      refine za_iconst (nI 0) dX6_sheet_83 (by decide) ?_
      refine za_istore (lv' := [_, _, _, _, _]) dX6_sheet_84 hN (by decide) rfl ?_
      have h0 := hloop 40 0 rfl
      rw [zrz_0] at h0
      first
        | (unfold zsz at h0; rw [if_pos c74] at h0; exact h0)
        | (unfold zsz at h0; rw [if_neg c74] at h0; exact h0)
    · refine za_iconst (nI 0) dX6_sheet_77 (by decide) ?_
      refine za_goto 82 dX6_sheet_78 (by decide) ?_
      refine za_iast dX6_sheet_82 rfl hs ?_
      refine za_iconst (nI 0) dX6_sheet_83 (by decide) ?_
      refine za_istore (lv' := [_, _, _, _, _]) dX6_sheet_84 hN (by decide) rfl ?_
      have h0 := hloop 40 0 rfl
      rw [zrz_0] at h0
      first
        | (unfold zsz at h0; rw [if_pos c74] at h0; exact h0)
        | (unfold zsz at h0; rw [if_neg c74] at h0; exact h0)
  · refine za_iload_n dX6_sheet_11 rfl ?_
    refine za_bipush (nI 8) dX6_sheet_12 (by decide) ?_
    refine za_icmp_eq 36 dX6_sheet_14 (by decide) (fun c14 => ?_) (fun c14 => ?_)
    · refine za_iload_n dX6_sheet_36 rfl ?_
      refine za_if_ge 48 dX6_sheet_37 (by decide) (fun c37 => ?_) (fun c37 => absurd (nI_pos' (by omega)) c37)
      refine za_iload_n dX6_sheet_48 rfl ?_
      refine za_bipush (nI 40) dX6_sheet_49 (by decide) ?_
      refine za_icmp_le 61 dX6_sheet_51 (by decide) (fun c51 => ?_) (fun c51 => absurd (nI_le hn (by decide)) c51)
      refine za_aload_n dX6_sheet_61 rfl ?_
      refine za_getR dX6_sheet_62 zf_X6_28 rfl rfl ?_
      refine za_iload_n dX6_sheet_65 rfl ?_
      refine za_iload_n dX6_sheet_66 rfl ?_
      refine za_iast dX6_sheet_67 rfl hs ?_
      refine za_aload_n dX6_sheet_68 rfl ?_
      refine za_getR dX6_sheet_69 zf_X6_31 rfl rfl ?_
      refine za_iload_n dX6_sheet_72 rfl ?_
      refine za_iload_n dX6_sheet_73 rfl ?_
      refine za_if_ne 81 dX6_sheet_74 (by decide) (fun c74 => ?_) (fun c74 => ?_)
      · refine za_iload_n dX6_sheet_81 rfl ?_
        refine za_iast dX6_sheet_82 rfl hs ?_
        refine za_iconst (nI 0) dX6_sheet_83 (by decide) ?_
        refine za_istore (lv' := [_, _, _, _, _]) dX6_sheet_84 hN (by decide) rfl ?_
        have h0 := hloop 40 0 rfl
        rw [zrz_0] at h0
        first
          | (unfold zsz at h0; rw [if_pos c74] at h0; exact h0)
          | (unfold zsz at h0; rw [if_neg c74] at h0; exact h0)
      · refine za_iconst (nI 0) dX6_sheet_77 (by decide) ?_
        refine za_goto 82 dX6_sheet_78 (by decide) ?_
        refine za_iast dX6_sheet_82 rfl hs ?_
        refine za_iconst (nI 0) dX6_sheet_83 (by decide) ?_
        refine za_istore (lv' := [_, _, _, _, _]) dX6_sheet_84 hN (by decide) rfl ?_
        have h0 := hloop 40 0 rfl
        rw [zrz_0] at h0
        first
          | (unfold zsz at h0; rw [if_pos c74] at h0; exact h0)
          | (unfold zsz at h0; rw [if_neg c74] at h0; exact h0)
    · refine za_iload_n dX6_sheet_17 rfl ?_
      refine za_bipush (nI 16) dX6_sheet_18 (by decide) ?_
      refine za_icmp_eq 36 dX6_sheet_20 (by decide) (fun c20 => ?_) (fun c20 => ?_)
      · refine za_iload_n dX6_sheet_36 rfl ?_
        refine za_if_ge 48 dX6_sheet_37 (by decide) (fun c37 => ?_) (fun c37 => absurd (nI_pos' (by omega)) c37)
        refine za_iload_n dX6_sheet_48 rfl ?_
        refine za_bipush (nI 40) dX6_sheet_49 (by decide) ?_
        refine za_icmp_le 61 dX6_sheet_51 (by decide) (fun c51 => ?_) (fun c51 => absurd (nI_le hn (by decide)) c51)
        refine za_aload_n dX6_sheet_61 rfl ?_
        refine za_getR dX6_sheet_62 zf_X6_28 rfl rfl ?_
        refine za_iload_n dX6_sheet_65 rfl ?_
        refine za_iload_n dX6_sheet_66 rfl ?_
        refine za_iast dX6_sheet_67 rfl hs ?_
        refine za_aload_n dX6_sheet_68 rfl ?_
        refine za_getR dX6_sheet_69 zf_X6_31 rfl rfl ?_
        refine za_iload_n dX6_sheet_72 rfl ?_
        refine za_iload_n dX6_sheet_73 rfl ?_
        refine za_if_ne 81 dX6_sheet_74 (by decide) (fun c74 => ?_) (fun c74 => ?_)
        · refine za_iload_n dX6_sheet_81 rfl ?_
          refine za_iast dX6_sheet_82 rfl hs ?_
          refine za_iconst (nI 0) dX6_sheet_83 (by decide) ?_
          refine za_istore (lv' := [_, _, _, _, _]) dX6_sheet_84 hN (by decide) rfl ?_
          have h0 := hloop 40 0 rfl
          rw [zrz_0] at h0
          first
            | (unfold zsz at h0; rw [if_pos c74] at h0; exact h0)
            | (unfold zsz at h0; rw [if_neg c74] at h0; exact h0)
        · refine za_iconst (nI 0) dX6_sheet_77 (by decide) ?_
          refine za_goto 82 dX6_sheet_78 (by decide) ?_
          refine za_iast dX6_sheet_82 rfl hs ?_
          refine za_iconst (nI 0) dX6_sheet_83 (by decide) ?_
          refine za_istore (lv' := [_, _, _, _, _]) dX6_sheet_84 hN (by decide) rfl ?_
          have h0 := hloop 40 0 rfl
          rw [zrz_0] at h0
          first
            | (unfold zsz at h0; rw [if_pos c74] at h0; exact h0)
            | (unfold zsz at h0; rw [if_neg c74] at h0; exact h0)
      · refine za_iload_n dX6_sheet_23 rfl ?_
        refine za_bipush (nI 64) dX6_sheet_24 (by decide) ?_
        refine za_icmp_eq 36 dX6_sheet_26 (by decide) (fun c26 => ?_) (fun c26 => ?_)
        · refine za_iload_n dX6_sheet_36 rfl ?_
          refine za_if_ge 48 dX6_sheet_37 (by decide) (fun c37 => ?_) (fun c37 => absurd (nI_pos' (by omega)) c37)
          refine za_iload_n dX6_sheet_48 rfl ?_
          refine za_bipush (nI 40) dX6_sheet_49 (by decide) ?_
          refine za_icmp_le 61 dX6_sheet_51 (by decide) (fun c51 => ?_) (fun c51 => absurd (nI_le hn (by decide)) c51)
          refine za_aload_n dX6_sheet_61 rfl ?_
          refine za_getR dX6_sheet_62 zf_X6_28 rfl rfl ?_
          refine za_iload_n dX6_sheet_65 rfl ?_
          refine za_iload_n dX6_sheet_66 rfl ?_
          refine za_iast dX6_sheet_67 rfl hs ?_
          refine za_aload_n dX6_sheet_68 rfl ?_
          refine za_getR dX6_sheet_69 zf_X6_31 rfl rfl ?_
          refine za_iload_n dX6_sheet_72 rfl ?_
          refine za_iload_n dX6_sheet_73 rfl ?_
          refine za_if_ne 81 dX6_sheet_74 (by decide) (fun c74 => ?_) (fun c74 => ?_)
          · refine za_iload_n dX6_sheet_81 rfl ?_
            refine za_iast dX6_sheet_82 rfl hs ?_
            refine za_iconst (nI 0) dX6_sheet_83 (by decide) ?_
            refine za_istore (lv' := [_, _, _, _, _]) dX6_sheet_84 hN (by decide) rfl ?_
            have h0 := hloop 40 0 rfl
            rw [zrz_0] at h0
            first
              | (unfold zsz at h0; rw [if_pos c74] at h0; exact h0)
              | (unfold zsz at h0; rw [if_neg c74] at h0; exact h0)
          · refine za_iconst (nI 0) dX6_sheet_77 (by decide) ?_
            refine za_goto 82 dX6_sheet_78 (by decide) ?_
            refine za_iast dX6_sheet_82 rfl hs ?_
            refine za_iconst (nI 0) dX6_sheet_83 (by decide) ?_
            refine za_istore (lv' := [_, _, _, _, _]) dX6_sheet_84 hN (by decide) rfl ?_
            have h0 := hloop 40 0 rfl
            rw [zrz_0] at h0
            first
              | (unfold zsz at h0; rw [if_pos c74] at h0; exact h0)
              | (unfold zsz at h0; rw [if_neg c74] at h0; exact h0)
        · exact absurd hb (by rintro (h | h | h | h); exact c8 h; exact c14 h; exact c20 h; exact c26 h)

set_option maxRecDepth 20000 in
set_option maxHeartbeats 4000000 in
theorem n_sheet_no {g : zG} {S : zSto} {s b n : Int32} (hno : ¬ ((nI 0 ≤ s ∧ s ≤ nI 3) ∧ zbits b)) : zEd g 8 yX6_sheet cX6_sheet 5 (some .int) [.ref (zad g 34), .int s, .int b, .int n] S (some (.int (zfd 0))) (zfin S 39 0) := by
  refine zev_intro (own := RX6) (lv := [some (.ref (zad g 34)), some (.int s), some (.int b), some (.int n), none]) (by decide +kernel) rfl (Nat.le_of_ble_eq_true rfl) rfl (fun C hM hN => ?_)
  refine za_iload_n dX6_sheet_0 rfl ?_
  refine za_cS1 dX6_sheet_1 zm_X6_284 zw_X6_isOne zs_X6_isOne (m_isOne _) (by decide) (Nat.le_of_ble_eq_true rfl) ?_
  refine za_if_eqB 29 dX6_sheet_4 (by decide) (fun c4 => ?_) (fun c4 => ?_)
  · refine za_aload_n dX6_sheet_29 rfl ?_
    refine za_ldc dX6_sheet_30 zk_X6_41 ?_
    rw [show (-1000000001 : Int32) = zfd 0 from rfl]
    refine za_cV1 dX6_sheet_32 zm_X6_67 zw_X6_finds zv_X6_finds (m_finds (by decide)) (by decide) rfl rfl rfl (Nat.le_of_ble_eq_true rfl) ?_
    exact za_iret hM dX6_sheet_35 ⟨by rfl, by rfl⟩
  · refine za_iload_n dX6_sheet_7 rfl ?_
    refine za_if_eq 36 dX6_sheet_8 (by decide) (fun c8 => ?_) (fun c8 => ?_)
    · exact absurd ⟨c4, by first | exact Or.inl c8 | exact Or.inr (Or.inl c14) | exact Or.inr (Or.inr (Or.inl c20)) | exact Or.inr (Or.inr (Or.inr c26))⟩ hno
    · refine za_iload_n dX6_sheet_11 rfl ?_
      refine za_bipush (nI 8) dX6_sheet_12 (by decide) ?_
      refine za_icmp_eq 36 dX6_sheet_14 (by decide) (fun c14 => ?_) (fun c14 => ?_)
      · exact absurd ⟨c4, by first | exact Or.inl c8 | exact Or.inr (Or.inl c14) | exact Or.inr (Or.inr (Or.inl c20)) | exact Or.inr (Or.inr (Or.inr c26))⟩ hno
      · refine za_iload_n dX6_sheet_17 rfl ?_
        refine za_bipush (nI 16) dX6_sheet_18 (by decide) ?_
        refine za_icmp_eq 36 dX6_sheet_20 (by decide) (fun c20 => ?_) (fun c20 => ?_)
        · exact absurd ⟨c4, by first | exact Or.inl c8 | exact Or.inr (Or.inl c14) | exact Or.inr (Or.inr (Or.inl c20)) | exact Or.inr (Or.inr (Or.inr c26))⟩ hno
        · refine za_iload_n dX6_sheet_23 rfl ?_
          refine za_bipush (nI 64) dX6_sheet_24 (by decide) ?_
          refine za_icmp_eq 36 dX6_sheet_26 (by decide) (fun c26 => ?_) (fun c26 => ?_)
          · exact absurd ⟨c4, by first | exact Or.inl c8 | exact Or.inr (Or.inl c14) | exact Or.inr (Or.inr (Or.inl c20)) | exact Or.inr (Or.inr (Or.inr c26))⟩ hno
          · refine za_aload_n dX6_sheet_29 rfl ?_
            refine za_ldc dX6_sheet_30 zk_X6_41 ?_
            rw [show (-1000000001 : Int32) = zfd 0 from rfl]
            refine za_cV1 dX6_sheet_32 zm_X6_67 zw_X6_finds zv_X6_finds (m_finds (by decide)) (by decide) rfl rfl rfl (Nat.le_of_ble_eq_true rfl) ?_
            exact za_iret hM dX6_sheet_35 ⟨by rfl, by rfl⟩

set_option maxRecDepth 20000 in
set_option maxHeartbeats 4000000 in
theorem n_sheet_size {g : zG} {S : zSto} {s b n : Int32} (hs : nI 0 ≤ s ∧ s ≤ nI 3) (hb : zbits b) (hn : ¬ 0 ≤ n) : zEd g 8 yX6_sheet cX6_sheet 5 (some .int) [.ref (zad g 34), .int s, .int b, .int n] S (some (.int (zfd 6))) (zfin S 39 6) := by
  refine zev_intro (own := RX6) (lv := [some (.ref (zad g 34)), some (.int s), some (.int b), some (.int n), none]) (by decide +kernel) rfl (Nat.le_of_ble_eq_true rfl) rfl (fun C hM hN => ?_)
  refine za_iload_n dX6_sheet_0 rfl ?_
  refine za_cS1 dX6_sheet_1 zm_X6_284 zw_X6_isOne zs_X6_isOne (m_isOne _) (by decide) (Nat.le_of_ble_eq_true rfl) ?_
  refine za_if_eqB 29 dX6_sheet_4 (by decide) (fun c4 => absurd hs c4) (fun c4 => ?_)
  refine za_iload_n dX6_sheet_7 rfl ?_
  refine za_if_eq 36 dX6_sheet_8 (by decide) (fun c8 => ?_) (fun c8 => ?_)
  · refine za_iload_n dX6_sheet_36 rfl ?_
    refine za_if_ge 48 dX6_sheet_37 (by decide) (fun c37 => absurd c37 hn) (fun c37 => ?_)
    refine za_aload_n dX6_sheet_40 rfl ?_
    refine za_ldcw dX6_sheet_41 zk_X6_287 ?_
    rw [show (-1000000007 : Int32) = zfd 6 from rfl]
    refine za_cV1 dX6_sheet_44 zm_X6_67 zw_X6_finds zv_X6_finds (m_finds (by decide)) (by decide) rfl rfl rfl (Nat.le_of_ble_eq_true rfl) ?_
    exact za_iret hM dX6_sheet_47 ⟨by rfl, by rfl⟩
  · refine za_iload_n dX6_sheet_11 rfl ?_
    refine za_bipush (nI 8) dX6_sheet_12 (by decide) ?_
    refine za_icmp_eq 36 dX6_sheet_14 (by decide) (fun c14 => ?_) (fun c14 => ?_)
    · refine za_iload_n dX6_sheet_36 rfl ?_
      refine za_if_ge 48 dX6_sheet_37 (by decide) (fun c37 => absurd c37 hn) (fun c37 => ?_)
      refine za_aload_n dX6_sheet_40 rfl ?_
      refine za_ldcw dX6_sheet_41 zk_X6_287 ?_
      rw [show (-1000000007 : Int32) = zfd 6 from rfl]
      refine za_cV1 dX6_sheet_44 zm_X6_67 zw_X6_finds zv_X6_finds (m_finds (by decide)) (by decide) rfl rfl rfl (Nat.le_of_ble_eq_true rfl) ?_
      exact za_iret hM dX6_sheet_47 ⟨by rfl, by rfl⟩
    · refine za_iload_n dX6_sheet_17 rfl ?_
      refine za_bipush (nI 16) dX6_sheet_18 (by decide) ?_
      refine za_icmp_eq 36 dX6_sheet_20 (by decide) (fun c20 => ?_) (fun c20 => ?_)
      · refine za_iload_n dX6_sheet_36 rfl ?_
        refine za_if_ge 48 dX6_sheet_37 (by decide) (fun c37 => absurd c37 hn) (fun c37 => ?_)
        refine za_aload_n dX6_sheet_40 rfl ?_
        refine za_ldcw dX6_sheet_41 zk_X6_287 ?_
        rw [show (-1000000007 : Int32) = zfd 6 from rfl]
        refine za_cV1 dX6_sheet_44 zm_X6_67 zw_X6_finds zv_X6_finds (m_finds (by decide)) (by decide) rfl rfl rfl (Nat.le_of_ble_eq_true rfl) ?_
        exact za_iret hM dX6_sheet_47 ⟨by rfl, by rfl⟩
      · refine za_iload_n dX6_sheet_23 rfl ?_
        refine za_bipush (nI 64) dX6_sheet_24 (by decide) ?_
        refine za_icmp_eq 36 dX6_sheet_26 (by decide) (fun c26 => ?_) (fun c26 => ?_)
        · refine za_iload_n dX6_sheet_36 rfl ?_
          refine za_if_ge 48 dX6_sheet_37 (by decide) (fun c37 => absurd c37 hn) (fun c37 => ?_)
          refine za_aload_n dX6_sheet_40 rfl ?_
          refine za_ldcw dX6_sheet_41 zk_X6_287 ?_
          rw [show (-1000000007 : Int32) = zfd 6 from rfl]
          refine za_cV1 dX6_sheet_44 zm_X6_67 zw_X6_finds zv_X6_finds (m_finds (by decide)) (by decide) rfl rfl rfl (Nat.le_of_ble_eq_true rfl) ?_
          exact za_iret hM dX6_sheet_47 ⟨by rfl, by rfl⟩
        · exact absurd hb (by rintro (h | h | h | h); exact c8 h; exact c14 h; exact c20 h; exact c26 h)

set_option maxRecDepth 20000 in
set_option maxHeartbeats 4000000 in
theorem n_sheet_big {g : zG} {S : zSto} {s b n : Int32} (hs : nI 0 ≤ s ∧ s ≤ nI 3) (hb : zbits b) (hn : 0 ≤ n) (hn2 : ¬ n ≤ nI 40) : zEd g 8 yX6_sheet cX6_sheet 5 (some .int) [.ref (zad g 34), .int s, .int b, .int n] S (some (.int (zfd 0))) (zfin S 39 0) := by
  refine zev_intro (own := RX6) (lv := [some (.ref (zad g 34)), some (.int s), some (.int b), some (.int n), none]) (by decide +kernel) rfl (Nat.le_of_ble_eq_true rfl) rfl (fun C hM hN => ?_)
  refine za_iload_n dX6_sheet_0 rfl ?_
  refine za_cS1 dX6_sheet_1 zm_X6_284 zw_X6_isOne zs_X6_isOne (m_isOne _) (by decide) (Nat.le_of_ble_eq_true rfl) ?_
  refine za_if_eqB 29 dX6_sheet_4 (by decide) (fun c4 => absurd hs c4) (fun c4 => ?_)
  refine za_iload_n dX6_sheet_7 rfl ?_
  refine za_if_eq 36 dX6_sheet_8 (by decide) (fun c8 => ?_) (fun c8 => ?_)
  · refine za_iload_n dX6_sheet_36 rfl ?_
    refine za_if_ge 48 dX6_sheet_37 (by decide) (fun c37 => ?_) (fun c37 => absurd hn c37)
    refine za_iload_n dX6_sheet_48 rfl ?_
    refine za_bipush (nI 40) dX6_sheet_49 (by decide) ?_
    refine za_icmp_le 61 dX6_sheet_51 (by decide) (fun c51 => absurd c51 hn2) (fun c51 => ?_)
    refine za_aload_n dX6_sheet_54 rfl ?_
    refine za_ldc dX6_sheet_55 zk_X6_41 ?_
    rw [show (-1000000001 : Int32) = zfd 0 from rfl]
    refine za_cV1 dX6_sheet_57 zm_X6_67 zw_X6_finds zv_X6_finds (m_finds (by decide)) (by decide) rfl rfl rfl (Nat.le_of_ble_eq_true rfl) ?_
    exact za_iret hM dX6_sheet_60 ⟨by rfl, by rfl⟩
  · refine za_iload_n dX6_sheet_11 rfl ?_
    refine za_bipush (nI 8) dX6_sheet_12 (by decide) ?_
    refine za_icmp_eq 36 dX6_sheet_14 (by decide) (fun c14 => ?_) (fun c14 => ?_)
    · refine za_iload_n dX6_sheet_36 rfl ?_
      refine za_if_ge 48 dX6_sheet_37 (by decide) (fun c37 => ?_) (fun c37 => absurd hn c37)
      refine za_iload_n dX6_sheet_48 rfl ?_
      refine za_bipush (nI 40) dX6_sheet_49 (by decide) ?_
      refine za_icmp_le 61 dX6_sheet_51 (by decide) (fun c51 => absurd c51 hn2) (fun c51 => ?_)
      refine za_aload_n dX6_sheet_54 rfl ?_
      refine za_ldc dX6_sheet_55 zk_X6_41 ?_
      rw [show (-1000000001 : Int32) = zfd 0 from rfl]
      refine za_cV1 dX6_sheet_57 zm_X6_67 zw_X6_finds zv_X6_finds (m_finds (by decide)) (by decide) rfl rfl rfl (Nat.le_of_ble_eq_true rfl) ?_
      exact za_iret hM dX6_sheet_60 ⟨by rfl, by rfl⟩
    · refine za_iload_n dX6_sheet_17 rfl ?_
      refine za_bipush (nI 16) dX6_sheet_18 (by decide) ?_
      refine za_icmp_eq 36 dX6_sheet_20 (by decide) (fun c20 => ?_) (fun c20 => ?_)
      · refine za_iload_n dX6_sheet_36 rfl ?_
        refine za_if_ge 48 dX6_sheet_37 (by decide) (fun c37 => ?_) (fun c37 => absurd hn c37)
        refine za_iload_n dX6_sheet_48 rfl ?_
        refine za_bipush (nI 40) dX6_sheet_49 (by decide) ?_
        refine za_icmp_le 61 dX6_sheet_51 (by decide) (fun c51 => absurd c51 hn2) (fun c51 => ?_)
        refine za_aload_n dX6_sheet_54 rfl ?_
        refine za_ldc dX6_sheet_55 zk_X6_41 ?_
        rw [show (-1000000001 : Int32) = zfd 0 from rfl]
        refine za_cV1 dX6_sheet_57 zm_X6_67 zw_X6_finds zv_X6_finds (m_finds (by decide)) (by decide) rfl rfl rfl (Nat.le_of_ble_eq_true rfl) ?_
        exact za_iret hM dX6_sheet_60 ⟨by rfl, by rfl⟩
      · refine za_iload_n dX6_sheet_23 rfl ?_
        refine za_bipush (nI 64) dX6_sheet_24 (by decide) ?_
        refine za_icmp_eq 36 dX6_sheet_26 (by decide) (fun c26 => ?_) (fun c26 => ?_)
        · refine za_iload_n dX6_sheet_36 rfl ?_
          refine za_if_ge 48 dX6_sheet_37 (by decide) (fun c37 => ?_) (fun c37 => absurd hn c37)
          refine za_iload_n dX6_sheet_48 rfl ?_
          refine za_bipush (nI 40) dX6_sheet_49 (by decide) ?_
          refine za_icmp_le 61 dX6_sheet_51 (by decide) (fun c51 => absurd c51 hn2) (fun c51 => ?_)
          refine za_aload_n dX6_sheet_54 rfl ?_
          refine za_ldc dX6_sheet_55 zk_X6_41 ?_
          rw [show (-1000000001 : Int32) = zfd 0 from rfl]
          refine za_cV1 dX6_sheet_57 zm_X6_67 zw_X6_finds zv_X6_finds (m_finds (by decide)) (by decide) rfl rfl rfl (Nat.le_of_ble_eq_true rfl) ?_
          exact za_iret hM dX6_sheet_60 ⟨by rfl, by rfl⟩
        · exact absurd hb (by rintro (h | h | h | h); exact c8 h; exact c14 h; exact c20 h; exact c26 h)

set_option maxRecDepth 20000 in
set_option maxHeartbeats 4000000 in
theorem n_write_ok {g : zG} {S : zSto} {s : Nat} (hs : s < 4) (hb : ¬ S.1 41 s = 0) {n i : Nat} {v : Int64} (hn : S.1 42 s = nI n) (hn1 : n ≤ 40) (hi : i < n) : zEd g 8 yX6_write cX6_write 8 (some .long) [.ref (zad g 34), .int (nI s), .int (nI i), .long v] S (some (.long (S.2 43 (40 * s + i)))) (zsl S 43 (40 * s + i) (znar (S.1 41 s) v)) := by
  refine zev_intro (own := RX6) (lv := [some (.ref (zad g 34)), some (.int (nI s)), some (.int (nI i)), some (.long v), none, none, none, none]) (by decide +kernel) rfl (Nat.le_of_ble_eq_true rfl) rfl (fun C hM hN => ?_)
  refine za_aload_n dX6_write_0 rfl ?_
  refine za_iload_n dX6_write_1 rfl ?_
  refine za_cV1 dX6_write_2 zm_X6_289 zw_X6_wrongSheet zv_X6_wrongSheet (m_ws_ok hs hb) (by decide) rfl rfl rfl (Nat.le_of_ble_eq_true rfl) ?_
  refine za_istore (lv' := [_, _, _, _, _, _, _, _]) dX6_write_5 hN (by decide) rfl ?_
  refine za_iload dX6_write_7 rfl ?_
  refine za_if_eq 20 dX6_write_9 (by decide) (fun c9 => ?_) (fun c9 => absurd (by decide) c9)
  refine za_iload_n dX6_write_20 rfl ?_
  refine za_i2l dX6_write_21 ?_
  refine za_lconst (lN 0) dX6_write_22 (by decide) ?_
  refine za_aload_n dX6_write_23 rfl ?_
  refine za_getR dX6_write_24 zf_X6_31 rfl rfl ?_
  refine za_iload_n dX6_write_27 rfl ?_
  refine za_iald dX6_write_28 rfl hs ?_
  refine za_iconst (nI 1) dX6_write_29 (by decide) ?_
  refine za_isub dX6_write_30 ?_
  refine za_i2l dX6_write_31 ?_
  refine za_cS3 dX6_write_32 zm_X6_46 zw_X6_in zs_X6_in (m_in3 _ _) (by decide) (Nat.le_of_ble_eq_true rfl) ?_
  refine za_if_neB 46 dX6_write_35 (by decide) (fun c35 => ?_) (fun c35 => absurd (zperN hn (by omega) hi) c35)
  refine za_aload_n dX6_write_46 rfl ?_
  refine za_getR dX6_write_47 zf_X6_34 rfl rfl ?_
  refine za_bipush (nI 40) dX6_write_50 (by decide) ?_
  refine za_iload_n dX6_write_52 rfl ?_
  refine za_imul dX6_write_53 ?_
  rw [pk_mul]
  refine za_iload_n dX6_write_54 rfl ?_
  refine za_iadd dX6_write_55 ?_
  rw [nI_add]
  refine za_lald dX6_write_56 rfl (by omega) ?_
  refine za_lstore (lv' := [_, _, _, _, _, _, _, _]) dX6_write_57 hN (by decide) rfl ?_
  refine za_aload_n dX6_write_59 rfl ?_
  refine za_getR dX6_write_60 zf_X6_34 rfl rfl ?_
  refine za_bipush (nI 40) dX6_write_63 (by decide) ?_
  refine za_iload_n dX6_write_65 rfl ?_
  refine za_imul dX6_write_66 ?_
  rw [pk_mul]
  refine za_iload_n dX6_write_67 rfl ?_
  refine za_iadd dX6_write_68 ?_
  rw [nI_add]
  refine za_aload_n dX6_write_69 rfl ?_
  refine za_getR dX6_write_70 zf_X6_28 rfl rfl ?_
  refine za_iload_n dX6_write_73 rfl ?_
  refine za_iald dX6_write_74 rfl hs ?_
  refine za_lload_n dX6_write_75 rfl ?_
  refine za_cS2 dX6_write_76 zm_X6_292 zw_X6_narrowed zs_X6_narrowed (m_narrowed) (by decide) (Nat.le_of_ble_eq_true rfl) ?_
  refine za_last dX6_write_79 rfl (by omega) ?_
  refine za_lload dX6_write_80 rfl ?_
  exact za_lret hM dX6_write_82 ⟨by rfl, by rfl⟩

set_option maxRecDepth 20000 in
set_option maxHeartbeats 4000000 in
theorem n_write_no {g : zG} {S : zSto} {s i : Int32} {v : Int64} (hno : ¬ (nI 0 ≤ s ∧ s ≤ nI 3)) : zEd g 8 yX6_write cX6_write 8 (some .long) [.ref (zad g 34), .int s, .int i, .long v] S (some (.long (zfd 0).toInt64)) (zfin S 39 0) := by
  refine zev_intro (own := RX6) (lv := [some (.ref (zad g 34)), some (.int s), some (.int i), some (.long v), none, none, none, none]) (by decide +kernel) rfl (Nat.le_of_ble_eq_true rfl) rfl (fun C hM hN => ?_)
  refine za_aload_n dX6_write_0 rfl ?_
  refine za_iload_n dX6_write_1 rfl ?_
  refine za_cV1 dX6_write_2 zm_X6_289 zw_X6_wrongSheet zv_X6_wrongSheet (m_ws_no hno) (by decide) rfl rfl rfl (Nat.le_of_ble_eq_true rfl) ?_
  refine za_istore (lv' := [_, _, _, _, _, _, _, _]) dX6_write_5 hN (by decide) rfl ?_
  refine za_iload dX6_write_7 rfl ?_
  refine za_if_eq 20 dX6_write_9 (by decide) (fun c9 => absurd c9 (by decide)) (fun c9 => ?_)
  refine za_aload_n dX6_write_12 rfl ?_
  refine za_iload dX6_write_13 rfl ?_
  refine za_cV1 dX6_write_15 zm_X6_67 zw_X6_finds zv_X6_finds (m_finds (k := 0) (by decide)) (by decide) rfl rfl rfl (Nat.le_of_ble_eq_true rfl) ?_
  refine za_i2l dX6_write_18 ?_
  exact za_lret hM dX6_write_19 ⟨by rfl, by rfl⟩

set_option maxRecDepth 20000 in
set_option maxHeartbeats 4000000 in
theorem n_write_mis {g : zG} {S : zSto} {s : Nat} (hs : s < 4) (hb : S.1 41 s = 0) {i : Int32} {v : Int64} : zEd g 8 yX6_write cX6_write 8 (some .long) [.ref (zad g 34), .int (nI s), .int i, .long v] S (some (.long (zfd 5).toInt64)) (zfin S 39 5) := by
  refine zev_intro (own := RX6) (lv := [some (.ref (zad g 34)), some (.int (nI s)), some (.int i), some (.long v), none, none, none, none]) (by decide +kernel) rfl (Nat.le_of_ble_eq_true rfl) rfl (fun C hM hN => ?_)
  refine za_aload_n dX6_write_0 rfl ?_
  refine za_iload_n dX6_write_1 rfl ?_
  refine za_cV1 dX6_write_2 zm_X6_289 zw_X6_wrongSheet zv_X6_wrongSheet (m_ws_mis hs hb) (by decide) rfl rfl rfl (Nat.le_of_ble_eq_true rfl) ?_
  refine za_istore (lv' := [_, _, _, _, _, _, _, _]) dX6_write_5 hN (by decide) rfl ?_
  refine za_iload dX6_write_7 rfl ?_
  refine za_if_eq 20 dX6_write_9 (by decide) (fun c9 => absurd c9 (by decide)) (fun c9 => ?_)
  refine za_aload_n dX6_write_12 rfl ?_
  refine za_iload dX6_write_13 rfl ?_
  refine za_cV1 dX6_write_15 zm_X6_67 zw_X6_finds zv_X6_finds (m_finds (k := 5) (by decide)) (by decide) rfl rfl rfl (Nat.le_of_ble_eq_true rfl) ?_
  refine za_i2l dX6_write_18 ?_
  exact za_lret hM dX6_write_19 ⟨by rfl, by rfl⟩

set_option maxRecDepth 20000 in
set_option maxHeartbeats 4000000 in
theorem n_write_out {g : zG} {S : zSto} {s : Nat} (hs : s < 4) (hb : ¬ S.1 41 s = 0) {i : Int32} {v : Int64} (hno : ¬ (nI 0 ≤ i ∧ i ≤ S.1 42 s - nI 1)) : zEd g 8 yX6_write cX6_write 8 (some .long) [.ref (zad g 34), .int (nI s), .int i, .long v] S (some (.long (zfd 0).toInt64)) (zfin S 39 0) := by
  refine zev_intro (own := RX6) (lv := [some (.ref (zad g 34)), some (.int (nI s)), some (.int i), some (.long v), none, none, none, none]) (by decide +kernel) rfl (Nat.le_of_ble_eq_true rfl) rfl (fun C hM hN => ?_)
  refine za_aload_n dX6_write_0 rfl ?_
  refine za_iload_n dX6_write_1 rfl ?_
  refine za_cV1 dX6_write_2 zm_X6_289 zw_X6_wrongSheet zv_X6_wrongSheet (m_ws_ok hs hb) (by decide) rfl rfl rfl (Nat.le_of_ble_eq_true rfl) ?_
  refine za_istore (lv' := [_, _, _, _, _, _, _, _]) dX6_write_5 hN (by decide) rfl ?_
  refine za_iload dX6_write_7 rfl ?_
  refine za_if_eq 20 dX6_write_9 (by decide) (fun c9 => ?_) (fun c9 => absurd (by decide) c9)
  refine za_iload_n dX6_write_20 rfl ?_
  refine za_i2l dX6_write_21 ?_
  refine za_lconst (lN 0) dX6_write_22 (by decide) ?_
  refine za_aload_n dX6_write_23 rfl ?_
  refine za_getR dX6_write_24 zf_X6_31 rfl rfl ?_
  refine za_iload_n dX6_write_27 rfl ?_
  refine za_iald dX6_write_28 rfl hs ?_
  refine za_iconst (nI 1) dX6_write_29 (by decide) ?_
  refine za_isub dX6_write_30 ?_
  refine za_i2l dX6_write_31 ?_
  refine za_cS3 dX6_write_32 zm_X6_46 zw_X6_in zs_X6_in (m_in3 _ _) (by decide) (Nat.le_of_ble_eq_true rfl) ?_
  refine za_if_neB 46 dX6_write_35 (by decide) (fun c35 => ?_) (fun c35 => ?_)
  · exact absurd c35 hno
  · refine za_aload_n dX6_write_38 rfl ?_
    refine za_ldc dX6_write_39 zk_X6_41 ?_
    rw [show (-1000000001 : Int32) = zfd 0 from rfl]
    refine za_cV1 dX6_write_41 zm_X6_67 zw_X6_finds zv_X6_finds (m_finds (by decide)) (by decide) rfl rfl rfl (Nat.le_of_ble_eq_true rfl) ?_
    refine za_i2l dX6_write_44 ?_
    exact za_lret hM dX6_write_45 ⟨by rfl, by rfl⟩

theorem zle_sub {a m x : Int32} {n : Nat} (hx : x = nI n) (hn : n ≤ 40) (ha : 0 ≤ a) (hm : 0 ≤ m) (h : m ≤ x - a) : a ≤ x := by
  subst hx
  have ha' := Int32.le_iff_toInt_le.mp ha
  have hm' := Int32.le_iff_toInt_le.mp hm
  have h' := Int32.le_iff_toInt_le.mp h
  rw [Int32.le_iff_toInt_le]
  have e : (nI n).toInt = (n : Int) := nI_toInt (by omega)
  have z : (0 : Int32).toInt = 0 := by decide
  have hb := Int32.toInt_lt a
  rw [Int32.toInt_sub, e] at h'
  rw [e]
  rw [z] at ha' hm'
  unfold Int.bmod at h'
  dsimp only at h'
  split at h' <;> omega
theorem zwr_at {S : zSto} {o b i j : Nat} {f : Nat → Int64} (h : i < j) : (zwr S o b f j).2 o (b + i) = f i := by
  show (if o = o ∧ b ≤ b + i ∧ b + i < b + j then f (b + i - b) else S.2 o (b + i)) = _
  rw [if_pos ⟨rfl, by omega, by omega⟩, Nat.add_sub_cancel_left]

set_option maxRecDepth 20000 in
set_option maxHeartbeats 4000000 in
theorem n_copy_no {g : zG} {S : zSto} {s a t b m : Int32} (hno : ¬ ((nI 0 ≤ s ∧ s ≤ nI 3) ∧ (nI 0 ≤ t ∧ t ≤ nI 3))) : zEd g 8 yX6_copy cX6_copy 7 (some .int) [.ref (zad g 34), .int s, .int a, .int t, .int b, .int m] S (some (.int (zfd 0))) (zfin S 39 0) := by
  refine zev_intro (own := RX6) (lv := [some (.ref (zad g 34)), some (.int s), some (.int a), some (.int t), some (.int b), some (.int m), none]) (by decide +kernel) rfl (Nat.le_of_ble_eq_true rfl) rfl (fun C hM hN => ?_)
  refine za_iload_n dX6_copy_0 rfl ?_
  refine za_cS1 dX6_copy_1 zm_X6_284 zw_X6_isOne zs_X6_isOne (m_isOne _) (by decide) (Nat.le_of_ble_eq_true rfl) ?_
  refine za_if_eqB 14 dX6_copy_4 (by decide) (fun c4 => ?_) (fun c4 => ?_)
  · refine za_aload_n dX6_copy_14 rfl ?_
    refine za_ldc dX6_copy_15 zk_X6_41 ?_
    rw [show (-1000000001 : Int32) = zfd 0 from rfl]
    refine za_cV1 dX6_copy_17 zm_X6_67 zw_X6_finds zv_X6_finds (m_finds (by decide)) (by decide) rfl rfl rfl (Nat.le_of_ble_eq_true rfl) ?_
    exact za_iret hM dX6_copy_20 ⟨by rfl, by rfl⟩
  · refine za_iload_n dX6_copy_7 rfl ?_
    refine za_cS1 dX6_copy_8 zm_X6_284 zw_X6_isOne zs_X6_isOne (m_isOne _) (by decide) (Nat.le_of_ble_eq_true rfl) ?_
    refine za_if_neB 21 dX6_copy_11 (by decide) (fun c11 => ?_) (fun c11 => ?_)
    · exact absurd ⟨c4, c11⟩ hno
    · refine za_aload_n dX6_copy_14 rfl ?_
      refine za_ldc dX6_copy_15 zk_X6_41 ?_
      rw [show (-1000000001 : Int32) = zfd 0 from rfl]
      refine za_cV1 dX6_copy_17 zm_X6_67 zw_X6_finds zv_X6_finds (m_finds (by decide)) (by decide) rfl rfl rfl (Nat.le_of_ble_eq_true rfl) ?_
      exact za_iret hM dX6_copy_20 ⟨by rfl, by rfl⟩

set_option maxRecDepth 20000 in
set_option maxHeartbeats 4000000 in
theorem n_copy_mis {g : zG} {S : zSto} {s t : Nat} (hs : s < 4) (ht : t < 4) {a b m : Int32} (hno : S.1 41 s = 0 ∨ S.1 41 t = 0) : zEd g 8 yX6_copy cX6_copy 7 (some .int) [.ref (zad g 34), .int (nI s), .int a, .int (nI t), .int b, .int m] S (some (.int (zfd 5))) (zfin S 39 5) := by
  refine zev_intro (own := RX6) (lv := [some (.ref (zad g 34)), some (.int (nI s)), some (.int a), some (.int (nI t)), some (.int b), some (.int m), none]) (by decide +kernel) rfl (Nat.le_of_ble_eq_true rfl) rfl (fun C hM hN => ?_)
  refine za_iload_n dX6_copy_0 rfl ?_
  refine za_cS1 dX6_copy_1 zm_X6_284 zw_X6_isOne zs_X6_isOne (m_isOne _) (by decide) (Nat.le_of_ble_eq_true rfl) ?_
  refine za_if_eqB 14 dX6_copy_4 (by decide) (fun c4 => absurd (zrng (Nat.zero_le _) (by omega) (by decide)) c4) (fun c4 => ?_)
  refine za_iload_n dX6_copy_7 rfl ?_
  refine za_cS1 dX6_copy_8 zm_X6_284 zw_X6_isOne zs_X6_isOne (m_isOne _) (by decide) (Nat.le_of_ble_eq_true rfl) ?_
  refine za_if_neB 21 dX6_copy_11 (by decide) (fun c11 => ?_) (fun c11 => absurd (zrng (Nat.zero_le _) (by omega) (by decide)) c11)
  refine za_aload_n dX6_copy_21 rfl ?_
  refine za_getR dX6_copy_22 zf_X6_28 rfl rfl ?_
  refine za_iload_n dX6_copy_25 rfl ?_
  refine za_iald dX6_copy_26 rfl (by omega) ?_
  refine za_if_eq 39 dX6_copy_27 (by decide) (fun c27 => ?_) (fun c27 => ?_)
  · refine za_aload_n dX6_copy_39 rfl ?_
    refine za_ldcw dX6_copy_40 zk_X6_288 ?_
    rw [show (-1000000006 : Int32) = zfd 5 from rfl]
    refine za_cV1 dX6_copy_43 zm_X6_67 zw_X6_finds zv_X6_finds (m_finds (by decide)) (by decide) rfl rfl rfl (Nat.le_of_ble_eq_true rfl) ?_
    exact za_iret hM dX6_copy_46 ⟨by rfl, by rfl⟩
  · refine za_aload_n dX6_copy_30 rfl ?_
    refine za_getR dX6_copy_31 zf_X6_28 rfl rfl ?_
    refine za_iload_n dX6_copy_34 rfl ?_
    refine za_iald dX6_copy_35 rfl (by omega) ?_
    refine za_if_ne 47 dX6_copy_36 (by decide) (fun c36 => ?_) (fun c36 => ?_)
    · exact absurd hno (fun z => z.elim c27 c36)
    · refine za_aload_n dX6_copy_39 rfl ?_
      refine za_ldcw dX6_copy_40 zk_X6_288 ?_
      rw [show (-1000000006 : Int32) = zfd 5 from rfl]
      refine za_cV1 dX6_copy_43 zm_X6_67 zw_X6_finds zv_X6_finds (m_finds (by decide)) (by decide) rfl rfl rfl (Nat.le_of_ble_eq_true rfl) ?_
      exact za_iret hM dX6_copy_46 ⟨by rfl, by rfl⟩

set_option maxRecDepth 20000 in
set_option maxHeartbeats 4000000 in
theorem n_copy_kind {g : zG} {S : zSto} {s t : Nat} (hs : s < 4) (ht : t < 4) (hb1 : ¬ S.1 41 s = 0) (hb2 : ¬ S.1 41 t = 0) {a b m : Int32} (hk : ¬ S.1 41 s = S.1 41 t) : zEd g 8 yX6_copy cX6_copy 7 (some .int) [.ref (zad g 34), .int (nI s), .int a, .int (nI t), .int b, .int m] S (some (.int (zfd 2))) (zfin S 39 2) := by
  refine zev_intro (own := RX6) (lv := [some (.ref (zad g 34)), some (.int (nI s)), some (.int a), some (.int (nI t)), some (.int b), some (.int m), none]) (by decide +kernel) rfl (Nat.le_of_ble_eq_true rfl) rfl (fun C hM hN => ?_)
  refine za_iload_n dX6_copy_0 rfl ?_
  refine za_cS1 dX6_copy_1 zm_X6_284 zw_X6_isOne zs_X6_isOne (m_isOne _) (by decide) (Nat.le_of_ble_eq_true rfl) ?_
  refine za_if_eqB 14 dX6_copy_4 (by decide) (fun c4 => absurd (zrng (Nat.zero_le _) (by omega) (by decide)) c4) (fun c4 => ?_)
  refine za_iload_n dX6_copy_7 rfl ?_
  refine za_cS1 dX6_copy_8 zm_X6_284 zw_X6_isOne zs_X6_isOne (m_isOne _) (by decide) (Nat.le_of_ble_eq_true rfl) ?_
  refine za_if_neB 21 dX6_copy_11 (by decide) (fun c11 => ?_) (fun c11 => absurd (zrng (Nat.zero_le _) (by omega) (by decide)) c11)
  refine za_aload_n dX6_copy_21 rfl ?_
  refine za_getR dX6_copy_22 zf_X6_28 rfl rfl ?_
  refine za_iload_n dX6_copy_25 rfl ?_
  refine za_iald dX6_copy_26 rfl (by omega) ?_
  refine za_if_eq 39 dX6_copy_27 (by decide) (fun c27 => absurd c27 hb1) (fun c27 => ?_)
  refine za_aload_n dX6_copy_30 rfl ?_
  refine za_getR dX6_copy_31 zf_X6_28 rfl rfl ?_
  refine za_iload_n dX6_copy_34 rfl ?_
  refine za_iald dX6_copy_35 rfl (by omega) ?_
  refine za_if_ne 47 dX6_copy_36 (by decide) (fun c36 => ?_) (fun c36 => absurd c36 hb2)
  refine za_aload_n dX6_copy_47 rfl ?_
  refine za_getR dX6_copy_48 zf_X6_28 rfl rfl ?_
  refine za_iload_n dX6_copy_51 rfl ?_
  refine za_iald dX6_copy_52 rfl (by omega) ?_
  refine za_aload_n dX6_copy_53 rfl ?_
  refine za_getR dX6_copy_54 zf_X6_28 rfl rfl ?_
  refine za_iload_n dX6_copy_57 rfl ?_
  refine za_iald dX6_copy_58 rfl (by omega) ?_
  refine za_icmp_eq 69 dX6_copy_59 (by decide) (fun c59 => absurd c59 hk) (fun c59 => ?_)
  refine za_aload_n dX6_copy_62 rfl ?_
  refine za_ldc dX6_copy_63 zk_X6_128 ?_
  rw [show (-1000000003 : Int32) = zfd 2 from rfl]
  refine za_cV1 dX6_copy_65 zm_X6_67 zw_X6_finds zv_X6_finds (m_finds (by decide)) (by decide) rfl rfl rfl (Nat.le_of_ble_eq_true rfl) ?_
  exact za_iret hM dX6_copy_68 ⟨by rfl, by rfl⟩

set_option maxRecDepth 20000 in
set_option maxHeartbeats 4000000 in
theorem n_copy_out {g : zG} {S : zSto} {s t : Nat} (hs : s < 4) (ht : t < 4) (hb1 : ¬ S.1 41 s = 0) (hb2 : ¬ S.1 41 t = 0) {ns nt : Nat} (hn : S.1 42 s = nI ns) (hn1 : ns ≤ 40) (hm : S.1 42 t = nI nt) (hm1 : nt ≤ 40) {a b m : Int32} (hk : S.1 41 s = S.1 41 t) (hno : ¬ ((0 ≤ a ∧ 0 ≤ m ∧ a ≤ S.1 42 s ∧ m ≤ S.1 42 s - a) ∧ (0 ≤ b ∧ 0 ≤ m ∧ b ≤ S.1 42 t ∧ m ≤ S.1 42 t - b))) : zEd g 8 yX6_copy cX6_copy 7 (some .int) [.ref (zad g 34), .int (nI s), .int a, .int (nI t), .int b, .int m] S (some (.int (zfd 0))) (zfin S 39 0) := by
  refine zev_intro (own := RX6) (lv := [some (.ref (zad g 34)), some (.int (nI s)), some (.int a), some (.int (nI t)), some (.int b), some (.int m), none]) (by decide +kernel) rfl (Nat.le_of_ble_eq_true rfl) rfl (fun C hM hN => ?_)
  refine za_iload_n dX6_copy_0 rfl ?_
  refine za_cS1 dX6_copy_1 zm_X6_284 zw_X6_isOne zs_X6_isOne (m_isOne _) (by decide) (Nat.le_of_ble_eq_true rfl) ?_
  refine za_if_eqB 14 dX6_copy_4 (by decide) (fun c4 => absurd (zrng (Nat.zero_le _) (by omega) (by decide)) c4) (fun c4 => ?_)
  refine za_iload_n dX6_copy_7 rfl ?_
  refine za_cS1 dX6_copy_8 zm_X6_284 zw_X6_isOne zs_X6_isOne (m_isOne _) (by decide) (Nat.le_of_ble_eq_true rfl) ?_
  refine za_if_neB 21 dX6_copy_11 (by decide) (fun c11 => ?_) (fun c11 => absurd (zrng (Nat.zero_le _) (by omega) (by decide)) c11)
  refine za_aload_n dX6_copy_21 rfl ?_
  refine za_getR dX6_copy_22 zf_X6_28 rfl rfl ?_
  refine za_iload_n dX6_copy_25 rfl ?_
  refine za_iald dX6_copy_26 rfl (by omega) ?_
  refine za_if_eq 39 dX6_copy_27 (by decide) (fun c27 => absurd c27 hb1) (fun c27 => ?_)
  refine za_aload_n dX6_copy_30 rfl ?_
  refine za_getR dX6_copy_31 zf_X6_28 rfl rfl ?_
  refine za_iload_n dX6_copy_34 rfl ?_
  refine za_iald dX6_copy_35 rfl (by omega) ?_
  refine za_if_ne 47 dX6_copy_36 (by decide) (fun c36 => ?_) (fun c36 => absurd c36 hb2)
  refine za_aload_n dX6_copy_47 rfl ?_
  refine za_getR dX6_copy_48 zf_X6_28 rfl rfl ?_
  refine za_iload_n dX6_copy_51 rfl ?_
  refine za_iald dX6_copy_52 rfl (by omega) ?_
  refine za_aload_n dX6_copy_53 rfl ?_
  refine za_getR dX6_copy_54 zf_X6_28 rfl rfl ?_
  refine za_iload_n dX6_copy_57 rfl ?_
  refine za_iald dX6_copy_58 rfl (by omega) ?_
  refine za_icmp_eq 69 dX6_copy_59 (by decide) (fun c59 => ?_) (fun c59 => absurd hk c59)
  refine za_iload_n dX6_copy_69 rfl ?_
  refine za_if_lt 110 dX6_copy_70 (by decide) (fun c70 => ?_) (fun c70 => ?_)
  · refine za_aload_n dX6_copy_110 rfl ?_
    refine za_ldc dX6_copy_111 zk_X6_41 ?_
    rw [show (-1000000001 : Int32) = zfd 0 from rfl]
    refine za_cV1 dX6_copy_113 zm_X6_67 zw_X6_finds zv_X6_finds (m_finds (by decide)) (by decide) rfl rfl rfl (Nat.le_of_ble_eq_true rfl) ?_
    exact za_iret hM dX6_copy_116 ⟨by rfl, by rfl⟩
  · refine za_iload dX6_copy_73 rfl ?_
    refine za_if_lt 110 dX6_copy_75 (by decide) (fun c75 => ?_) (fun c75 => ?_)
    · refine za_aload_n dX6_copy_110 rfl ?_
      refine za_ldc dX6_copy_111 zk_X6_41 ?_
      rw [show (-1000000001 : Int32) = zfd 0 from rfl]
      refine za_cV1 dX6_copy_113 zm_X6_67 zw_X6_finds zv_X6_finds (m_finds (by decide)) (by decide) rfl rfl rfl (Nat.le_of_ble_eq_true rfl) ?_
      exact za_iret hM dX6_copy_116 ⟨by rfl, by rfl⟩
    · refine za_iload dX6_copy_78 rfl ?_
      refine za_if_lt 110 dX6_copy_80 (by decide) (fun c80 => ?_) (fun c80 => ?_)
      · refine za_aload_n dX6_copy_110 rfl ?_
        refine za_ldc dX6_copy_111 zk_X6_41 ?_
        rw [show (-1000000001 : Int32) = zfd 0 from rfl]
        refine za_cV1 dX6_copy_113 zm_X6_67 zw_X6_finds zv_X6_finds (m_finds (by decide)) (by decide) rfl rfl rfl (Nat.le_of_ble_eq_true rfl) ?_
        exact za_iret hM dX6_copy_116 ⟨by rfl, by rfl⟩
      · refine za_iload dX6_copy_83 rfl ?_
        refine za_aload_n dX6_copy_85 rfl ?_
        refine za_getR dX6_copy_86 zf_X6_31 rfl rfl ?_
        refine za_iload_n dX6_copy_89 rfl ?_
        refine za_iald dX6_copy_90 rfl (by omega) ?_
        refine za_iload_n dX6_copy_91 rfl ?_
        refine za_isub dX6_copy_92 ?_
        refine za_icmp_gt 110 dX6_copy_93 (by decide) (fun c93 => ?_) (fun c93 => ?_)
        · refine za_aload_n dX6_copy_110 rfl ?_
          refine za_ldc dX6_copy_111 zk_X6_41 ?_
          rw [show (-1000000001 : Int32) = zfd 0 from rfl]
          refine za_cV1 dX6_copy_113 zm_X6_67 zw_X6_finds zv_X6_finds (m_finds (by decide)) (by decide) rfl rfl rfl (Nat.le_of_ble_eq_true rfl) ?_
          exact za_iret hM dX6_copy_116 ⟨by rfl, by rfl⟩
        · refine za_iload dX6_copy_96 rfl ?_
          refine za_aload_n dX6_copy_98 rfl ?_
          refine za_getR dX6_copy_99 zf_X6_31 rfl rfl ?_
          refine za_iload_n dX6_copy_102 rfl ?_
          refine za_iald dX6_copy_103 rfl (by omega) ?_
          refine za_iload dX6_copy_104 rfl ?_
          refine za_isub dX6_copy_106 ?_
          refine za_icmp_le 117 dX6_copy_107 (by decide) (fun c107 => ?_) (fun c107 => ?_)
          · exact absurd ⟨⟨Int32.not_lt.mp c70, Int32.not_lt.mp c80, zle_sub hn hn1 (Int32.not_lt.mp c70) (Int32.not_lt.mp c80) (Int32.not_lt.mp c93), Int32.not_lt.mp c93⟩, Int32.not_lt.mp c75, Int32.not_lt.mp c80, zle_sub hm hm1 (Int32.not_lt.mp c75) (Int32.not_lt.mp c80) c107, c107⟩ hno
          · refine za_aload_n dX6_copy_110 rfl ?_
            refine za_ldc dX6_copy_111 zk_X6_41 ?_
            rw [show (-1000000001 : Int32) = zfd 0 from rfl]
            refine za_cV1 dX6_copy_113 zm_X6_67 zw_X6_finds zv_X6_finds (m_finds (by decide)) (by decide) rfl rfl rfl (Nat.le_of_ble_eq_true rfl) ?_
            exact za_iret hM dX6_copy_116 ⟨by rfl, by rfl⟩

set_option maxRecDepth 20000 in
set_option maxHeartbeats 4000000 in
theorem n_copy_ok {g : zG} {S : zSto} {s t : Nat} (hs : s < 4) (ht : t < 4) (hb1 : ¬ S.1 41 s = 0) (hb2 : ¬ S.1 41 t = 0) {ns nt : Nat} (hn : S.1 42 s = nI ns) (hn1 : ns ≤ 40) (hm : S.1 42 t = nI nt) (hm1 : nt ≤ 40) {a b m : Nat} (hk : S.1 41 s = S.1 41 t) (h1 : a + m ≤ ns) (h2 : b + m ≤ nt) : zEd g 8 yX6_copy cX6_copy 7 (some .int) [.ref (zad g 34), .int (nI s), .int (nI a), .int (nI t), .int (nI b), .int (nI m)] S (some (.int (nI m))) (zwr (zwr S 44 0 (fun i => S.2 43 (40 * s + a + i)) m) 43 (40 * t + b) (fun i => S.2 43 (40 * s + a + i)) m) := by
  refine zev_intro (own := RX6) (lv := [some (.ref (zad g 34)), some (.int (nI s)), some (.int (nI a)), some (.int (nI t)), some (.int (nI b)), some (.int (nI m)), none]) (by decide +kernel) rfl (Nat.le_of_ble_eq_true rfl) rfl (fun C hM hN => ?_)
  have hloop2 : ∀ (m' : Nat) (j : Nat), j + m' = m → zAW g C 8 cX6_copy RX6 157 [some (.ref (zad g 34)), some (.int (nI s)), some (.int (nI a)), some (.int (nI t)), some (.int (nI b)), some (.int (nI m)), some (.int (nI j))] [] (zwr (zwr S 44 0 (fun i => S.2 43 (40 * s + a + i)) m) 43 (40 * t + b) (fun i => S.2 43 (40 * s + a + i)) j) := by
    intro m'
    induction m' with
    | zero =>
      intro j hj
      obtain rfl : j = m := by omega
      refine za_iload dX6_copy_157 rfl ?_
      refine za_iload dX6_copy_159 rfl ?_
      refine za_icmp_ge 192 dX6_copy_161 (by decide) (fun c161 => ?_) (fun c161 => absurd (nI_le (Nat.le_refl _) (by omega)) c161)
      refine za_iload dX6_copy_192 rfl ?_
      exact za_iret hM dX6_copy_194 ⟨by rfl, by rfl⟩
    | succ m' ih =>
      intro j hj
      refine za_iload dX6_copy_157 rfl ?_
      refine za_iload dX6_copy_159 rfl ?_
      refine za_icmp_ge 192 dX6_copy_161 (by decide) (fun c161 => absurd c161 (nI_ge (show j < m by omega) (by omega))) (fun c161 => ?_)
      refine za_aload_n dX6_copy_164 rfl ?_
      refine za_getR dX6_copy_165 zf_X6_34 rfl rfl ?_
      refine za_bipush (nI 40) dX6_copy_168 (by decide) ?_
      refine za_iload_n dX6_copy_170 rfl ?_
      refine za_imul dX6_copy_171 ?_
      rw [pk_mul]
      refine za_iload dX6_copy_172 rfl ?_
      refine za_iadd dX6_copy_174 ?_
      rw [nI_add]
      refine za_iload dX6_copy_175 rfl ?_
      refine za_iadd dX6_copy_177 ?_
      rw [nI_add]
      refine za_aload_n dX6_copy_178 rfl ?_
      refine za_getR dX6_copy_179 zf_X6_38 rfl rfl ?_
      refine za_iload dX6_copy_182 rfl ?_
      refine za_lald dX6_copy_184 rfl (by omega) ?_
      rw [show (zwr (zwr S 44 0 (fun i => S.2 43 (40 * s + a + i)) m) 43 (40 * t + b) (fun i => S.2 43 (40 * s + a + i)) j).2 44 j = (fun i => S.2 43 (40 * s + a + i)) j by have e := zwr_at (S := S) (o := 44) (b := 0) (f := (fun i => S.2 43 (40 * s + a + i))) (show j < m by omega); rw [Nat.zero_add] at e; exact e]
      refine za_last dX6_copy_185 rfl (by omega) ?_
      rw [zwr_next]
      refine za_iinc (nI (_ + 1)) (lv' := [_, _, _, _, _, _, _]) dX6_copy_186 rfl hN (by decide) (znext _) rfl ?_
      refine za_goto 157 dX6_copy_189 (by decide) ?_
      exact ih (j + 1) (by omega)
  have hloop : ∀ (m' : Nat) (j : Nat), j + m' = m → zAW g C 8 cX6_copy RX6 120 [some (.ref (zad g 34)), some (.int (nI s)), some (.int (nI a)), some (.int (nI t)), some (.int (nI b)), some (.int (nI m)), some (.int (nI j))] [] (zwr S 44 0 (fun i => S.2 43 (40 * s + a + i)) j) := by
    intro m'
    induction m' with
    | zero =>
      intro j hj
      obtain rfl : j = m := by omega
      refine za_iload dX6_copy_120 rfl ?_
      refine za_iload dX6_copy_122 rfl ?_
      refine za_icmp_ge 154 dX6_copy_124 (by decide) (fun c124 => ?_) (fun c124 => absurd (nI_le (Nat.le_refl _) (by omega)) c124)
      refine za_iconst (nI 0) dX6_copy_154 (by decide) ?_
      refine za_istore (lv' := [_, _, _, _, _, _, _]) dX6_copy_155 hN (by decide) rfl ?_
      have h0 := hloop2 j 0 (by omega)
      rw [zwr_0] at h0
      exact h0
    | succ m' ih =>
      intro j hj
      refine za_iload dX6_copy_120 rfl ?_
      refine za_iload dX6_copy_122 rfl ?_
      refine za_icmp_ge 154 dX6_copy_124 (by decide) (fun c124 => absurd c124 (nI_ge (show j < m by omega) (by omega))) (fun c124 => ?_)
      refine za_aload_n dX6_copy_127 rfl ?_
      refine za_getR dX6_copy_128 zf_X6_38 rfl rfl ?_
      refine za_iload dX6_copy_131 rfl ?_
      refine za_aload_n dX6_copy_133 rfl ?_
      refine za_getR dX6_copy_134 zf_X6_34 rfl rfl ?_
      refine za_bipush (nI 40) dX6_copy_137 (by decide) ?_
      refine za_iload_n dX6_copy_139 rfl ?_
      refine za_imul dX6_copy_140 ?_
      rw [pk_mul]
      refine za_iload_n dX6_copy_141 rfl ?_
      refine za_iadd dX6_copy_142 ?_
      rw [nI_add]
      refine za_iload dX6_copy_143 rfl ?_
      refine za_iadd dX6_copy_145 ?_
      rw [nI_add]
      refine za_lald dX6_copy_146 rfl (by omega) ?_
      refine za_last dX6_copy_147 rfl (by omega) ?_
      rw [show (zwr S 44 0 (fun i => S.2 43 (40 * s + a + i)) j).2 43 (40 * s + a + j) = (fun i => S.2 43 (40 * s + a + i)) j from rfl, zwr_n0]
      refine za_iinc (nI (_ + 1)) (lv' := [_, _, _, _, _, _, _]) dX6_copy_148 rfl hN (by decide) (znext _) rfl ?_
      refine za_goto 120 dX6_copy_151 (by decide) ?_
      exact ih (j + 1) (by omega)
  refine za_iload_n dX6_copy_0 rfl ?_
  refine za_cS1 dX6_copy_1 zm_X6_284 zw_X6_isOne zs_X6_isOne (m_isOne _) (by decide) (Nat.le_of_ble_eq_true rfl) ?_
  refine za_if_eqB 14 dX6_copy_4 (by decide) (fun c4 => absurd (zrng (Nat.zero_le _) (by omega) (by decide)) c4) (fun c4 => ?_)
  refine za_iload_n dX6_copy_7 rfl ?_
  refine za_cS1 dX6_copy_8 zm_X6_284 zw_X6_isOne zs_X6_isOne (m_isOne _) (by decide) (Nat.le_of_ble_eq_true rfl) ?_
  refine za_if_neB 21 dX6_copy_11 (by decide) (fun c11 => ?_) (fun c11 => absurd (zrng (Nat.zero_le _) (by omega) (by decide)) c11)
  refine za_aload_n dX6_copy_21 rfl ?_
  refine za_getR dX6_copy_22 zf_X6_28 rfl rfl ?_
  refine za_iload_n dX6_copy_25 rfl ?_
  refine za_iald dX6_copy_26 rfl (by omega) ?_
  refine za_if_eq 39 dX6_copy_27 (by decide) (fun c27 => absurd c27 hb1) (fun c27 => ?_)
  refine za_aload_n dX6_copy_30 rfl ?_
  refine za_getR dX6_copy_31 zf_X6_28 rfl rfl ?_
  refine za_iload_n dX6_copy_34 rfl ?_
  refine za_iald dX6_copy_35 rfl (by omega) ?_
  refine za_if_ne 47 dX6_copy_36 (by decide) (fun c36 => ?_) (fun c36 => absurd c36 hb2)
  refine za_aload_n dX6_copy_47 rfl ?_
  refine za_getR dX6_copy_48 zf_X6_28 rfl rfl ?_
  refine za_iload_n dX6_copy_51 rfl ?_
  refine za_iald dX6_copy_52 rfl (by omega) ?_
  refine za_aload_n dX6_copy_53 rfl ?_
  refine za_getR dX6_copy_54 zf_X6_28 rfl rfl ?_
  refine za_iload_n dX6_copy_57 rfl ?_
  refine za_iald dX6_copy_58 rfl (by omega) ?_
  refine za_icmp_eq 69 dX6_copy_59 (by decide) (fun c59 => ?_) (fun c59 => absurd hk c59)
  refine za_iload_n dX6_copy_69 rfl ?_
  refine za_if_lt 110 dX6_copy_70 (by decide) (fun c70 => absurd c70 (nI_pos (by omega))) (fun c70 => ?_)
  refine za_iload dX6_copy_73 rfl ?_
  refine za_if_lt 110 dX6_copy_75 (by decide) (fun c75 => absurd c75 (nI_pos (by omega))) (fun c75 => ?_)
  refine za_iload dX6_copy_78 rfl ?_
  refine za_if_lt 110 dX6_copy_80 (by decide) (fun c80 => absurd c80 (nI_pos (by omega))) (fun c80 => ?_)
  refine za_iload dX6_copy_83 rfl ?_
  refine za_aload_n dX6_copy_85 rfl ?_
  refine za_getR dX6_copy_86 zf_X6_31 rfl rfl ?_
  refine za_iload_n dX6_copy_89 rfl ?_
  refine za_iald dX6_copy_90 rfl (by omega) ?_
  refine za_iload_n dX6_copy_91 rfl ?_
  refine za_isub dX6_copy_92 ?_
  refine za_icmp_gt 110 dX6_copy_93 (by decide) (fun c93 => absurd c93 (Int32.not_lt.mpr (zpart_mk hn hn1 h1).2.2.2)) (fun c93 => ?_)
  refine za_iload dX6_copy_96 rfl ?_
  refine za_aload_n dX6_copy_98 rfl ?_
  refine za_getR dX6_copy_99 zf_X6_31 rfl rfl ?_
  refine za_iload_n dX6_copy_102 rfl ?_
  refine za_iald dX6_copy_103 rfl (by omega) ?_
  refine za_iload dX6_copy_104 rfl ?_
  refine za_isub dX6_copy_106 ?_
  refine za_icmp_le 117 dX6_copy_107 (by decide) (fun c107 => ?_) (fun c107 => absurd (zpart_mk hm hm1 h2).2.2.2 c107)
  refine za_iconst (nI 0) dX6_copy_117 (by decide) ?_
  refine za_istore (lv' := [_, _, _, _, _, _, _]) dX6_copy_118 hN (by decide) rfl ?_
  have h0 := hloop m 0 (by omega)
  rw [zwr_0] at h0
  exact h0
