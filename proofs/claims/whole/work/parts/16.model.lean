set_option maxRecDepth 20000 in
set_option maxHeartbeats 4000000 in
theorem m_in {g : zG} {σ : zSto} (a b c : Int64) : zEd g 0 yX6_in cX6_in 6 (some .boolean) [.long a, .long b, .long c] σ (some (.int (zb (b ≤ a ∧ a ≤ c)))) σ := by
  refine zev_intro (own := RX6) (lv := [some (.long a), none, some (.long b), none, some (.long c), none]) (by decide +kernel) rfl (Nat.le_of_ble_eq_true rfl) rfl (fun C hM hN => ?_)
  refine za_lload_n dX6_in_0 rfl ?_
  refine za_lload_n dX6_in_1 rfl ?_
  refine za_lcmp dX6_in_2 ?_
  refine za_if_lt 17 dX6_in_3 (by decide) (fun c3 => ?_) (fun c3 => ?_)
  · refine za_iconst (nI 0) dX6_in_17 (by decide) ?_
    exact za_zretG hM dX6_in_18 (by decide) ⟨by (first | rfl | exact congrArg (fun z => some (Value.int z)) (zb_1 (c := b ≤ a ∧ a ≤ c) ⟨(Int64.not_lt.mp (fun z => c3 ((lg_cmp_lt _ _).mpr z))), (Int64.not_lt.mp (fun z => c10 ((lg_cmp_gt _ _).mpr z)))⟩).symm | exact congrArg (fun z => some (Value.int z)) (zb_f (c := b ≤ a ∧ a ≤ c) (fun z => absurd z.1 (Int64.not_le.mpr ((lg_cmp_lt _ _).mp c3)))).symm | exact congrArg (fun z => some (Value.int z)) (zb_f (c := b ≤ a ∧ a ≤ c) (fun z => absurd z.2 (Int64.not_le.mpr ((lg_cmp_gt _ _).mp c10)))).symm), by (first | rfl | exact congrArg (fun z => some (Value.int z)) (zb_1 (c := b ≤ a ∧ a ≤ c) ⟨(Int64.not_lt.mp (fun z => c3 ((lg_cmp_lt _ _).mpr z))), (Int64.not_lt.mp (fun z => c10 ((lg_cmp_gt _ _).mpr z)))⟩).symm | exact congrArg (fun z => some (Value.int z)) (zb_f (c := b ≤ a ∧ a ≤ c) (fun z => absurd z.1 (Int64.not_le.mpr ((lg_cmp_lt _ _).mp c3)))).symm | exact congrArg (fun z => some (Value.int z)) (zb_f (c := b ≤ a ∧ a ≤ c) (fun z => absurd z.2 (Int64.not_le.mpr ((lg_cmp_gt _ _).mp c10)))).symm)⟩
  · refine za_lload_n dX6_in_6 rfl ?_
    refine za_lload dX6_in_7 rfl ?_
    refine za_lcmp dX6_in_9 ?_
    refine za_if_gt 17 dX6_in_10 (by decide) (fun c10 => ?_) (fun c10 => ?_)
    · refine za_iconst (nI 0) dX6_in_17 (by decide) ?_
      exact za_zretG hM dX6_in_18 (by decide) ⟨by (first | rfl | exact congrArg (fun z => some (Value.int z)) (zb_1 (c := b ≤ a ∧ a ≤ c) ⟨(Int64.not_lt.mp (fun z => c3 ((lg_cmp_lt _ _).mpr z))), (Int64.not_lt.mp (fun z => c10 ((lg_cmp_gt _ _).mpr z)))⟩).symm | exact congrArg (fun z => some (Value.int z)) (zb_f (c := b ≤ a ∧ a ≤ c) (fun z => absurd z.1 (Int64.not_le.mpr ((lg_cmp_lt _ _).mp c3)))).symm | exact congrArg (fun z => some (Value.int z)) (zb_f (c := b ≤ a ∧ a ≤ c) (fun z => absurd z.2 (Int64.not_le.mpr ((lg_cmp_gt _ _).mp c10)))).symm), by (first | rfl | exact congrArg (fun z => some (Value.int z)) (zb_1 (c := b ≤ a ∧ a ≤ c) ⟨(Int64.not_lt.mp (fun z => c3 ((lg_cmp_lt _ _).mpr z))), (Int64.not_lt.mp (fun z => c10 ((lg_cmp_gt _ _).mpr z)))⟩).symm | exact congrArg (fun z => some (Value.int z)) (zb_f (c := b ≤ a ∧ a ≤ c) (fun z => absurd z.1 (Int64.not_le.mpr ((lg_cmp_lt _ _).mp c3)))).symm | exact congrArg (fun z => some (Value.int z)) (zb_f (c := b ≤ a ∧ a ≤ c) (fun z => absurd z.2 (Int64.not_le.mpr ((lg_cmp_gt _ _).mp c10)))).symm)⟩
    · refine za_iconst (nI 1) dX6_in_13 (by decide) ?_
      refine za_goto 18 dX6_in_14 (by decide) ?_
      exact za_zretG hM dX6_in_18 (by decide) ⟨by (first | rfl | exact congrArg (fun z => some (Value.int z)) (zb_1 (c := b ≤ a ∧ a ≤ c) ⟨(Int64.not_lt.mp (fun z => c3 ((lg_cmp_lt _ _).mpr z))), (Int64.not_lt.mp (fun z => c10 ((lg_cmp_gt _ _).mpr z)))⟩).symm | exact congrArg (fun z => some (Value.int z)) (zb_f (c := b ≤ a ∧ a ≤ c) (fun z => absurd z.1 (Int64.not_le.mpr ((lg_cmp_lt _ _).mp c3)))).symm | exact congrArg (fun z => some (Value.int z)) (zb_f (c := b ≤ a ∧ a ≤ c) (fun z => absurd z.2 (Int64.not_le.mpr ((lg_cmp_gt _ _).mp c10)))).symm), by (first | rfl | exact congrArg (fun z => some (Value.int z)) (zb_1 (c := b ≤ a ∧ a ≤ c) ⟨(Int64.not_lt.mp (fun z => c3 ((lg_cmp_lt _ _).mpr z))), (Int64.not_lt.mp (fun z => c10 ((lg_cmp_gt _ _).mpr z)))⟩).symm | exact congrArg (fun z => some (Value.int z)) (zb_f (c := b ≤ a ∧ a ≤ c) (fun z => absurd z.1 (Int64.not_le.mpr ((lg_cmp_lt _ _).mp c3)))).symm | exact congrArg (fun z => some (Value.int z)) (zb_f (c := b ≤ a ∧ a ≤ c) (fun z => absurd z.2 (Int64.not_le.mpr ((lg_cmp_gt _ _).mp c10)))).symm)⟩

set_option maxRecDepth 20000 in
set_option maxHeartbeats 4000000 in
theorem m_isQuestion {g : zG} {σ : zSto} (v : Int32) : zEd g 1 yX6_isQuestion cX6_isQuestion 1 (some .boolean) [.int v] σ (some (.int (zb (nI 0 ≤ v ∧ v ≤ nI 5)))) σ := by
  refine zev_intro (own := RX6) (lv := [some (.int v)]) (by decide +kernel) rfl (Nat.le_of_ble_eq_true rfl) rfl (fun C hM hN => ?_)
  refine za_iload_n dX6_isQuestion_0 rfl ?_
  refine za_i2l dX6_isQuestion_1 ?_
  refine za_lconst (lN 0) dX6_isQuestion_2 (by decide) ?_
  refine za_ldc2 dX6_isQuestion_3 zk_X6_50 ?_
  refine za_cS3 dX6_isQuestion_6 zm_X6_46 zw_X6_in zs_X6_in (m_in _ _ _) (by decide) (Nat.le_of_ble_eq_true rfl) ?_
  exact za_zretG hM dX6_isQuestion_9 zb_nar ⟨congrArg (fun z => some (Value.int z)) (zb_congr (zlong_in (a := 0) (b := 5) (by decide) (by decide))), rfl⟩

set_option maxRecDepth 20000 in
set_option maxHeartbeats 4000000 in
theorem m_isKind {g : zG} {σ : zSto} (v : Int32) : zEd g 1 yX6_isKind cX6_isKind 1 (some .boolean) [.int v] σ (some (.int (zb (nI 0 ≤ v ∧ v ≤ nI 5)))) σ := by
  refine zev_intro (own := RX6) (lv := [some (.int v)]) (by decide +kernel) rfl (Nat.le_of_ble_eq_true rfl) rfl (fun C hM hN => ?_)
  refine za_iload_n dX6_isKind_0 rfl ?_
  refine za_i2l dX6_isKind_1 ?_
  refine za_lconst (lN 0) dX6_isKind_2 (by decide) ?_
  refine za_ldc2 dX6_isKind_3 zk_X6_50 ?_
  refine za_cS3 dX6_isKind_6 zm_X6_46 zw_X6_in zs_X6_in (m_in _ _ _) (by decide) (Nat.le_of_ble_eq_true rfl) ?_
  exact za_zretG hM dX6_isKind_9 zb_nar ⟨congrArg (fun z => some (Value.int z)) (zb_congr (zlong_in (a := 0) (b := 5) (by decide) (by decide))), rfl⟩

set_option maxRecDepth 20000 in
set_option maxHeartbeats 4000000 in
theorem m_isAhead {g : zG} {σ : zSto} (v : Int32) : zEd g 1 yX6_isAhead cX6_isAhead 1 (some .boolean) [.int v] σ (some (.int (zb (nI 0 ≤ v ∧ v ≤ nI 200)))) σ := by
  refine zev_intro (own := RX6) (lv := [some (.int v)]) (by decide +kernel) rfl (Nat.le_of_ble_eq_true rfl) rfl (fun C hM hN => ?_)
  refine za_iload_n dX6_isAhead_0 rfl ?_
  refine za_i2l dX6_isAhead_1 ?_
  refine za_lconst (lN 0) dX6_isAhead_2 (by decide) ?_
  refine za_ldc2 dX6_isAhead_3 zk_X6_147 ?_
  refine za_cS3 dX6_isAhead_6 zm_X6_46 zw_X6_in zs_X6_in (m_in _ _ _) (by decide) (Nat.le_of_ble_eq_true rfl) ?_
  exact za_zretG hM dX6_isAhead_9 zb_nar ⟨congrArg (fun z => some (Value.int z)) (zb_congr (zlong_in (a := 0) (b := 200) (by decide) (by decide))), rfl⟩

set_option maxRecDepth 20000 in
set_option maxHeartbeats 4000000 in
theorem m_isSoon {g : zG} {σ : zSto} (v : Int32) : zEd g 1 yX6_isSoon cX6_isSoon 1 (some .boolean) [.int v] σ (some (.int (zb (nI 1 ≤ v ∧ v ≤ nI 60)))) σ := by
  refine zev_intro (own := RX6) (lv := [some (.int v)]) (by decide +kernel) rfl (Nat.le_of_ble_eq_true rfl) rfl (fun C hM hN => ?_)
  refine za_iload_n dX6_isSoon_0 rfl ?_
  refine za_i2l dX6_isSoon_1 ?_
  refine za_lconst (lN 1) dX6_isSoon_2 (by decide) ?_
  refine za_ldc2 dX6_isSoon_3 zk_X6_165 ?_
  refine za_cS3 dX6_isSoon_6 zm_X6_46 zw_X6_in zs_X6_in (m_in _ _ _) (by decide) (Nat.le_of_ble_eq_true rfl) ?_
  exact za_zretG hM dX6_isSoon_9 zb_nar ⟨congrArg (fun z => some (Value.int z)) (zb_congr (zlong_in (a := 1) (b := 60) (by decide) (by decide))), rfl⟩

set_option maxRecDepth 20000 in
set_option maxHeartbeats 4000000 in
theorem m_isLetter {g : zG} {σ : zSto} (v : Int32) : zEd g 1 yX6_isLetter cX6_isLetter 1 (some .boolean) [.int v] σ (some (.int (zb (nI 97 ≤ v ∧ v ≤ nI 122)))) σ := by
  refine zev_intro (own := RX6) (lv := [some (.int v)]) (by decide +kernel) rfl (Nat.le_of_ble_eq_true rfl) rfl (fun C hM hN => ?_)
  refine za_iload_n dX6_isLetter_0 rfl ?_
  refine za_i2l dX6_isLetter_1 ?_
  refine za_ldc2 dX6_isLetter_2 zk_X6_181 ?_
  refine za_ldc2 dX6_isLetter_5 zk_X6_183 ?_
  refine za_cS3 dX6_isLetter_8 zm_X6_46 zw_X6_in zs_X6_in (m_in _ _ _) (by decide) (Nat.le_of_ble_eq_true rfl) ?_
  exact za_zretG hM dX6_isLetter_11 zb_nar ⟨congrArg (fun z => some (Value.int z)) (zb_congr (zlong_in (a := 97) (b := 122) (by decide) (by decide))), rfl⟩

set_option maxRecDepth 20000 in
set_option maxHeartbeats 4000000 in
theorem m_isDigit {g : zG} {σ : zSto} (v : Int32) : zEd g 1 yX6_isDigit cX6_isDigit 1 (some .boolean) [.int v] σ (some (.int (zb (nI 48 ≤ v ∧ v ≤ nI 57)))) σ := by
  refine zev_intro (own := RX6) (lv := [some (.int v)]) (by decide +kernel) rfl (Nat.le_of_ble_eq_true rfl) rfl (fun C hM hN => ?_)
  refine za_iload_n dX6_isDigit_0 rfl ?_
  refine za_i2l dX6_isDigit_1 ?_
  refine za_ldc2 dX6_isDigit_2 zk_X6_185 ?_
  refine za_ldc2 dX6_isDigit_5 zk_X6_187 ?_
  refine za_cS3 dX6_isDigit_8 zm_X6_46 zw_X6_in zs_X6_in (m_in _ _ _) (by decide) (Nat.le_of_ble_eq_true rfl) ?_
  exact za_zretG hM dX6_isDigit_11 zb_nar ⟨congrArg (fun z => some (Value.int z)) (zb_congr (zlong_in (a := 48) (b := 57) (by decide) (by decide))), rfl⟩

set_option maxRecDepth 20000 in
set_option maxHeartbeats 4000000 in
theorem m_isOne {g : zG} {σ : zSto} (v : Int32) : zEd g 1 yX6_isOne cX6_isOne 1 (some .boolean) [.int v] σ (some (.int (zb (nI 0 ≤ v ∧ v ≤ nI 3)))) σ := by
  refine zev_intro (own := RX6) (lv := [some (.int v)]) (by decide +kernel) rfl (Nat.le_of_ble_eq_true rfl) rfl (fun C hM hN => ?_)
  refine za_iload_n dX6_isOne_0 rfl ?_
  refine za_i2l dX6_isOne_1 ?_
  refine za_lconst (lN 0) dX6_isOne_2 (by decide) ?_
  refine za_ldc2 dX6_isOne_3 zk_X6_122 ?_
  refine za_cS3 dX6_isOne_6 zm_X6_46 zw_X6_in zs_X6_in (m_in _ _ _) (by decide) (Nat.le_of_ble_eq_true rfl) ?_
  exact za_zretG hM dX6_isOne_9 zb_nar ⟨congrArg (fun z => some (Value.int z)) (zb_congr (zlong_in (a := 0) (b := 3) (by decide) (by decide))), rfl⟩


theorem zfd_sub {k : Nat} (hk : k < 7) : (-1000000001 : Int32) - zfd k = nI k := by
  rcases (show k = 0 ∨ k = 1 ∨ k = 2 ∨ k = 3 ∨ k = 4 ∨ k = 5 ∨ k = 6 by omega) with rfl | rfl | rfl | rfl | rfl | rfl | rfl <;> decide

set_option maxRecDepth 20000 in
set_option maxHeartbeats 4000000 in
theorem m_finds {g : zG} {σ : zSto} {k : Nat} (hk : k < 7) : zEd g 0 yX6_finds cX6_finds 2 (some .int) [.ref (zad g 34), .int (zfd k)] σ (some (.int (zfd k))) (zsi σ 39 k (σ.1 39 k + nI 1)) := by
  refine zev_intro (own := RX6) (lv := [some (.ref (zad g 34)), some (.int (zfd k))]) (by decide +kernel) rfl (Nat.le_of_ble_eq_true rfl) rfl (fun C hM hN => ?_)
  refine za_aload_n dX6_finds_0 rfl ?_
  refine za_getR dX6_finds_1 zf_X6_22 rfl rfl ?_
  refine za_ldc dX6_finds_4 zk_X6_41 ?_
  refine za_iload_n dX6_finds_6 rfl ?_
  refine za_isub dX6_finds_7 ?_
  rw [zfd_sub hk]
  refine za_dup2 dX6_finds_8 rfl rfl ?_
  refine za_iald dX6_finds_9 rfl hk ?_
  refine za_iconst (nI 1) dX6_finds_10 (by decide) ?_
  refine za_iadd dX6_finds_11 ?_
  refine za_iast dX6_finds_12 rfl hk ?_
  refine za_iload_n dX6_finds_13 rfl ?_
  exact za_iret hM dX6_finds_14 ⟨by rfl, by rfl⟩

set_option maxRecDepth 20000 in
set_option maxHeartbeats 4000000 in
theorem m_saves {g : zG} {σ : zSto}  : zEd g 0 yX6_saves cX6_saves 2 none [.ref (zad g 34)] σ none (zcp σ 35 37 48) := by
  refine zev_intro (own := RX6) (lv := [some (.ref (zad g 34)), none]) (by decide +kernel) rfl (Nat.le_of_ble_eq_true rfl) rfl (fun C hM hN => ?_)
  have hloop : ∀ (m : Nat) (j : Nat), j + m = 48 → zAW g C 0 cX6_saves RX6 2 [some (.ref (zad g 34)), some (.int (nI j))] [] (zcp σ 35 37 j) := by
    intro m
    induction m with
    | zero =>
      intro j hj
      obtain rfl : j = 48 := by omega
      refine za_iload_n dX6_saves_2 rfl ?_
      refine za_bipush (nI 48) dX6_saves_3 (by decide) ?_
      refine za_icmp_ge 26 dX6_saves_5 (by decide) (fun c5 => ?_) (fun c5 => absurd (by decide) c5)
      exact za_vret hM dX6_saves_26 ⟨by rfl, by rfl⟩
    | succ m ih =>
      intro j hj
      refine za_iload_n dX6_saves_2 rfl ?_
      refine za_bipush (nI 48) dX6_saves_3 (by decide) ?_
      refine za_icmp_ge 26 dX6_saves_5 (by decide) (fun c5 => absurd c5 (nI_ge (show j < 48 by omega) (by decide))) (fun c5 => ?_)
      refine za_aload_n dX6_saves_8 rfl ?_
      refine za_getR dX6_saves_9 zf_X6_16 rfl rfl ?_
      refine za_iload_n dX6_saves_12 rfl ?_
      refine za_aload_n dX6_saves_13 rfl ?_
      refine za_getR dX6_saves_14 zf_X6_7 rfl rfl ?_
      refine za_iload_n dX6_saves_17 rfl ?_
      refine za_iald dX6_saves_18 rfl (by omega) ?_
      rw [zcp_src (by decide)]
      refine za_iast dX6_saves_19 rfl (by omega) ?_
      rw [zcp_next]
      refine za_iinc (nI (_ + 1)) (lv' := [_, _]) dX6_saves_20 rfl hN (by decide) (znext _) rfl ?_
      refine za_goto 2 dX6_saves_23 (by decide) ?_
      exact ih (j + 1) (by omega)
  refine za_iconst (nI 0) dX6_saves_0 (by decide) ?_
  refine za_istore_n (lv' := [_, _]) dX6_saves_1 hN (by decide) rfl ?_
  have h0 := hloop 48 0 rfl
  rw [zcp_0] at h0
  exact h0

set_option maxRecDepth 20000 in
set_option maxHeartbeats 4000000 in
theorem m_putsBack {g : zG} {σ : zSto}  : zEd g 0 yX6_putsBack cX6_putsBack 2 none [.ref (zad g 34)] σ none (zcp σ 37 35 48) := by
  refine zev_intro (own := RX6) (lv := [some (.ref (zad g 34)), none]) (by decide +kernel) rfl (Nat.le_of_ble_eq_true rfl) rfl (fun C hM hN => ?_)
  have hloop : ∀ (m : Nat) (j : Nat), j + m = 48 → zAW g C 0 cX6_putsBack RX6 2 [some (.ref (zad g 34)), some (.int (nI j))] [] (zcp σ 37 35 j) := by
    intro m
    induction m with
    | zero =>
      intro j hj
      obtain rfl : j = 48 := by omega
      refine za_iload_n dX6_putsBack_2 rfl ?_
      refine za_bipush (nI 48) dX6_putsBack_3 (by decide) ?_
      refine za_icmp_ge 26 dX6_putsBack_5 (by decide) (fun c5 => ?_) (fun c5 => absurd (by decide) c5)
      exact za_vret hM dX6_putsBack_26 ⟨by rfl, by rfl⟩
    | succ m ih =>
      intro j hj
      refine za_iload_n dX6_putsBack_2 rfl ?_
      refine za_bipush (nI 48) dX6_putsBack_3 (by decide) ?_
      refine za_icmp_ge 26 dX6_putsBack_5 (by decide) (fun c5 => absurd c5 (nI_ge (show j < 48 by omega) (by decide))) (fun c5 => ?_)
      refine za_aload_n dX6_putsBack_8 rfl ?_
      refine za_getR dX6_putsBack_9 zf_X6_7 rfl rfl ?_
      refine za_iload_n dX6_putsBack_12 rfl ?_
      refine za_aload_n dX6_putsBack_13 rfl ?_
      refine za_getR dX6_putsBack_14 zf_X6_16 rfl rfl ?_
      refine za_iload_n dX6_putsBack_17 rfl ?_
      refine za_iald dX6_putsBack_18 rfl (by omega) ?_
      rw [zcp_src (by decide)]
      refine za_iast dX6_putsBack_19 rfl (by omega) ?_
      rw [zcp_next]
      refine za_iinc (nI (_ + 1)) (lv' := [_, _]) dX6_putsBack_20 rfl hN (by decide) (znext _) rfl ?_
      refine za_goto 2 dX6_putsBack_23 (by decide) ?_
      exact ih (j + 1) (by omega)
  refine za_iconst (nI 0) dX6_putsBack_0 (by decide) ?_
  refine za_istore_n (lv' := [_, _]) dX6_putsBack_1 hN (by decide) rfl ?_
  have h0 := hloop 48 0 rfl
  rw [zcp_0] at h0
  exact h0

set_option maxRecDepth 20000 in
set_option maxHeartbeats 4000000 in
theorem m_laysAside {g : zG} {σ : zSto}  : zEd g 0 yX6_laysAside cX6_laysAside 2 none [.ref (zad g 34)] σ none (zcp σ 35 38 48) := by
  refine zev_intro (own := RX6) (lv := [some (.ref (zad g 34)), none]) (by decide +kernel) rfl (Nat.le_of_ble_eq_true rfl) rfl (fun C hM hN => ?_)
  have hloop : ∀ (m : Nat) (j : Nat), j + m = 48 → zAW g C 0 cX6_laysAside RX6 2 [some (.ref (zad g 34)), some (.int (nI j))] [] (zcp σ 35 38 j) := by
    intro m
    induction m with
    | zero =>
      intro j hj
      obtain rfl : j = 48 := by omega
      refine za_iload_n dX6_laysAside_2 rfl ?_
      refine za_bipush (nI 48) dX6_laysAside_3 (by decide) ?_
      refine za_icmp_ge 26 dX6_laysAside_5 (by decide) (fun c5 => ?_) (fun c5 => absurd (by decide) c5)
      exact za_vret hM dX6_laysAside_26 ⟨by rfl, by rfl⟩
    | succ m ih =>
      intro j hj
      refine za_iload_n dX6_laysAside_2 rfl ?_
      refine za_bipush (nI 48) dX6_laysAside_3 (by decide) ?_
      refine za_icmp_ge 26 dX6_laysAside_5 (by decide) (fun c5 => absurd c5 (nI_ge (show j < 48 by omega) (by decide))) (fun c5 => ?_)
      refine za_aload_n dX6_laysAside_8 rfl ?_
      refine za_getR dX6_laysAside_9 zf_X6_19 rfl rfl ?_
      refine za_iload_n dX6_laysAside_12 rfl ?_
      refine za_aload_n dX6_laysAside_13 rfl ?_
      refine za_getR dX6_laysAside_14 zf_X6_7 rfl rfl ?_
      refine za_iload_n dX6_laysAside_17 rfl ?_
      refine za_iald dX6_laysAside_18 rfl (by omega) ?_
      rw [zcp_src (by decide)]
      refine za_iast dX6_laysAside_19 rfl (by omega) ?_
      rw [zcp_next]
      refine za_iinc (nI (_ + 1)) (lv' := [_, _]) dX6_laysAside_20 rfl hN (by decide) (znext _) rfl ?_
      refine za_goto 2 dX6_laysAside_23 (by decide) ?_
      exact ih (j + 1) (by omega)
  refine za_iconst (nI 0) dX6_laysAside_0 (by decide) ?_
  refine za_istore_n (lv' := [_, _]) dX6_laysAside_1 hN (by decide) rfl ?_
  have h0 := hloop 48 0 rfl
  rw [zcp_0] at h0
  exact h0

set_option maxRecDepth 20000 in
set_option maxHeartbeats 4000000 in
theorem m_takesBack {g : zG} {σ : zSto} {v : Int32} : zEd g 0 yX6_takesBack cX6_takesBack 3 (some .int) [.ref (zad g 34), .int v] σ (some (.int v)) (zcp σ 38 35 48) := by
  refine zev_intro (own := RX6) (lv := [some (.ref (zad g 34)), some (.int v), none]) (by decide +kernel) rfl (Nat.le_of_ble_eq_true rfl) rfl (fun C hM hN => ?_)
  have hloop : ∀ (m : Nat) (j : Nat), j + m = 48 → zAW g C 0 cX6_takesBack RX6 2 [some (.ref (zad g 34)), some (.int v), some (.int (nI j))] [] (zcp σ 38 35 j) := by
    intro m
    induction m with
    | zero =>
      intro j hj
      obtain rfl : j = 48 := by omega
      refine za_iload_n dX6_takesBack_2 rfl ?_
      refine za_bipush (nI 48) dX6_takesBack_3 (by decide) ?_
      refine za_icmp_ge 26 dX6_takesBack_5 (by decide) (fun c5 => ?_) (fun c5 => absurd (by decide) c5)
      refine za_iload_n dX6_takesBack_26 rfl ?_
      exact za_iret hM dX6_takesBack_27 ⟨by rfl, by rfl⟩
    | succ m ih =>
      intro j hj
      refine za_iload_n dX6_takesBack_2 rfl ?_
      refine za_bipush (nI 48) dX6_takesBack_3 (by decide) ?_
      refine za_icmp_ge 26 dX6_takesBack_5 (by decide) (fun c5 => absurd c5 (nI_ge (show j < 48 by omega) (by decide))) (fun c5 => ?_)
      refine za_aload_n dX6_takesBack_8 rfl ?_
      refine za_getR dX6_takesBack_9 zf_X6_7 rfl rfl ?_
      refine za_iload_n dX6_takesBack_12 rfl ?_
      refine za_aload_n dX6_takesBack_13 rfl ?_
      refine za_getR dX6_takesBack_14 zf_X6_19 rfl rfl ?_
      refine za_iload_n dX6_takesBack_17 rfl ?_
      refine za_iald dX6_takesBack_18 rfl (by omega) ?_
      rw [zcp_src (by decide)]
      refine za_iast dX6_takesBack_19 rfl (by omega) ?_
      rw [zcp_next]
      refine za_iinc (nI (_ + 1)) (lv' := [_, _, _]) dX6_takesBack_20 rfl hN (by decide) (znext _) rfl ?_
      refine za_goto 2 dX6_takesBack_23 (by decide) ?_
      exact ih (j + 1) (by omega)
  refine za_iconst (nI 0) dX6_takesBack_0 (by decide) ?_
  refine za_istore_n (lv' := [_, _, _]) dX6_takesBack_1 hN (by decide) rfl ?_
  have h0 := hloop 48 0 rfl
  rw [zcp_0] at h0
  exact h0

theorem m_laysAside' {g : zG} {σ : zSto} {τ : zTn} : zEd g 0 yX6_laysAside cX6_laysAside 2 none [.ref (zad g 34)] (zpm σ τ) none (zpm (zps σ 38 τ) τ) := by
  have h := m_laysAside (g := g) (σ := zpm σ τ)
  unfold zpm at h ⊢
  rw [zcp_ps (by decide)] at h
  exact h
theorem m_takesBack' {g : zG} {σ : zSto} {τ τ' : zTn} {v : Int32} : zEd g 0 yX6_takesBack cX6_takesBack 3 (some .int) [.ref (zad g 34), .int v] (zpm (zps σ 38 τ) τ') (some (.int v)) (zpm (zps σ 38 τ) τ) := by
  have h := m_takesBack (g := g) (σ := zpm (zps σ 38 τ) τ') (v := v)
  unfold zpm at h ⊢
  rw [zps_comm (σ := σ) (a := 38) (a' := 35) (by decide), zcp_ps (by decide), zps_ps] at h
  rw [zps_comm (σ := σ) (a := 38) (a' := 35) (by decide), zps_comm (σ := σ) (a := 38) (a' := 35) (by decide)]
  exact h

set_option maxRecDepth 20000 in
set_option maxHeartbeats 4000000 in
theorem m_becomes {g : zG} {σ : zSto} {τ : zTn} {i : Nat} {v : Int32} (hi : i < 48) : zEd g 0 yX6_becomes cX6_becomes 4 (some .int) [.ref (zad g 34), .int (nI i), .int v] (zpm σ τ) (some (.int (zix τ i))) (zpm σ (zup τ (zk i) (zj i) v)) := by
  refine zev_intro (own := RX6) (lv := [some (.ref (zad g 34)), some (.int (nI i)), some (.int v), none]) (by decide +kernel) rfl (Nat.le_of_ble_eq_true rfl) rfl (fun C hM hN => ?_)
  refine za_aload_n dX6_becomes_0 rfl ?_
  refine za_getR dX6_becomes_1 zf_X6_7 rfl rfl ?_
  refine za_iload_n dX6_becomes_4 rfl ?_
  refine zm_aldG dX6_becomes_5 hi ?_
  refine za_istore_n (lv' := [_, _, _, _]) dX6_becomes_6 hN (by decide) rfl ?_
  refine za_aload_n dX6_becomes_7 rfl ?_
  refine za_getR dX6_becomes_8 zf_X6_7 rfl rfl ?_
  refine za_iload_n dX6_becomes_11 rfl ?_
  refine za_iload_n dX6_becomes_12 rfl ?_
  refine zm_astG dX6_becomes_13 hi ?_
  refine za_iload_n dX6_becomes_14 rfl ?_
  exact za_iret hM dX6_becomes_15 ⟨by rfl, by rfl⟩

set_option maxRecDepth 20000 in
set_option maxHeartbeats 4000000 in
theorem m_basinSpot {g : zG} {σ : zSto} {q s : Nat} : zEd g 0 yX6_basinSpot cX6_basinSpot 2 (some .int) [.int (nI q), .int (nI s)] σ (some (.int (nI (4 + 2 * q + s)))) σ := by
  refine zev_intro (own := RX6) (lv := [some (.int (nI q)), some (.int (nI s))]) (by decide +kernel) rfl (Nat.le_of_ble_eq_true rfl) rfl (fun C hM hN => ?_)
  refine za_iconst (nI 4) dX6_basinSpot_0 (by decide) ?_
  refine za_iconst (nI 2) dX6_basinSpot_1 (by decide) ?_
  refine za_iload_n dX6_basinSpot_2 rfl ?_
  refine za_imul dX6_basinSpot_3 ?_
  rw [pk_mul]
  refine za_iadd dX6_basinSpot_4 ?_
  rw [nI_add]
  refine za_iload_n dX6_basinSpot_5 rfl ?_
  refine za_iadd dX6_basinSpot_6 ?_
  rw [nI_add]
  exact za_iret hM dX6_basinSpot_7 ⟨by rfl, by rfl⟩

set_option maxRecDepth 20000 in
set_option maxHeartbeats 4000000 in
theorem m_spot {g : zG} {σ : zSto} {p w : Nat} : zEd g 0 yX6_spot cX6_spot 2 (some .int) [.int (nI p), .int (nI w)] σ (some (.int (nI (16 + 4 * p + w)))) σ := by
  refine zev_intro (own := RX6) (lv := [some (.int (nI p)), some (.int (nI w))]) (by decide +kernel) rfl (Nat.le_of_ble_eq_true rfl) rfl (fun C hM hN => ?_)
  refine za_bipush (nI 16) dX6_spot_0 (by decide) ?_
  refine za_iconst (nI 4) dX6_spot_2 (by decide) ?_
  refine za_iload_n dX6_spot_3 rfl ?_
  refine za_imul dX6_spot_4 ?_
  rw [pk_mul]
  refine za_iadd dX6_spot_5 ?_
  rw [nI_add]
  refine za_iload_n dX6_spot_6 rfl ?_
  refine za_iadd dX6_spot_7 ?_
  rw [nI_add]
  exact za_iret hM dX6_spot_8 ⟨by rfl, by rfl⟩

set_option maxRecDepth 20000 in
set_option maxHeartbeats 4000000 in
theorem m_its {g : zG} {σ : zSto} {τ : zTn} {p w : Nat} (hp : p < 8) (hw : w < 4) : zEd g 1 yX6_its cX6_its 3 (some .int) [.ref (zad g 34), .int (nI p), .int (nI w)] (zpm σ τ) (some (.int (τ (3 + w) p))) (zpm σ (τ)) := by
  refine zev_intro (own := RX6) (lv := [some (.ref (zad g 34)), some (.int (nI p)), some (.int (nI w))]) (by decide +kernel) rfl (Nat.le_of_ble_eq_true rfl) rfl (fun C hM hN => ?_)
  refine za_aload_n dX6_its_0 rfl ?_
  refine za_getR dX6_its_1 zf_X6_7 rfl rfl ?_
  refine za_iload_n dX6_its_4 rfl ?_
  refine za_iload_n dX6_its_5 rfl ?_
  refine za_cS2 dX6_its_6 zm_X6_42 zw_X6_spot zs_X6_spot (m_spot) (by decide) (Nat.le_of_ble_eq_true rfl) ?_
  refine zm_aldP dX6_its_9 hp hw ?_
  exact za_iret hM dX6_its_10 ⟨by rfl, by rfl⟩

set_option maxRecDepth 20000 in
set_option maxHeartbeats 4000000 in
theorem m_isPerson {g : zG} {σ : zSto} {τ : zTn} {v : Int32} : zEd g 1 yX6_isPerson cX6_isPerson 2 (some .boolean) [.ref (zad g 34), .int v] (zpm σ τ) (some (.int (zb (nI 0 ≤ v ∧ v ≤ τ 0 3 - nI 1)))) (zpm σ (τ)) := by
  refine zev_intro (own := RX6) (lv := [some (.ref (zad g 34)), some (.int v)]) (by decide +kernel) rfl (Nat.le_of_ble_eq_true rfl) rfl (fun C hM hN => ?_)
  refine za_iload_n dX6_isPerson_0 rfl ?_
  refine za_i2l dX6_isPerson_1 ?_
  refine za_lconst (lN 0) dX6_isPerson_2 (by decide) ?_
  refine za_aload_n dX6_isPerson_3 rfl ?_
  refine za_getR dX6_isPerson_4 zf_X6_7 rfl rfl ?_
  refine za_iconst (nI 1) dX6_isPerson_7 (by decide) ?_
  refine zm_ald1 dX6_isPerson_8 ?_
  refine za_iconst (nI 1) dX6_isPerson_9 (by decide) ?_
  refine za_isub dX6_isPerson_10 ?_
  refine za_i2l dX6_isPerson_11 ?_
  refine za_cS3 dX6_isPerson_12 zm_X6_46 zw_X6_in zs_X6_in (m_in _ _ _) (by decide) (Nat.le_of_ble_eq_true rfl) ?_
  exact za_zretG hM dX6_isPerson_15 zb_nar ⟨congrArg (fun z => some (Value.int z)) (zb_congr (by rw [← zlong_n (a := 0) (by decide), zlong_le, zlong_le])), rfl⟩

set_option maxRecDepth 20000 in
set_option maxHeartbeats 4000000 in
theorem m_heldTo {g : zG} {σ : zSto} {v h : Int32} : zEd g 0 yX6_heldTo cX6_heldTo 2 (some .int) [.int v, .int h] σ (some (.int (zmin v h))) σ := by
  refine zev_intro (own := RX6) (lv := [some (.int v), some (.int h)]) (by decide +kernel) rfl (Nat.le_of_ble_eq_true rfl) rfl (fun C hM hN => ?_)
  refine za_iload_n dX6_heldTo_0 rfl ?_
  refine za_iload_n dX6_heldTo_1 rfl ?_
  refine za_icmp_le 9 dX6_heldTo_2 (by decide) (fun c2 => ?_) (fun c2 => ?_)
  · refine za_iload_n dX6_heldTo_9 rfl ?_
    exact za_iret hM dX6_heldTo_10 ⟨by (first | rfl | exact congrArg (fun z => some (Value.int z)) (zmin_1 (Int32.not_le.mp c2)).symm | exact congrArg (fun z => some (Value.int z)) (zmin_0 (Int32.not_lt.mpr c2)).symm), by (first | rfl | exact congrArg (fun z => some (Value.int z)) (zmin_1 (Int32.not_le.mp c2)).symm | exact congrArg (fun z => some (Value.int z)) (zmin_0 (Int32.not_lt.mpr c2)).symm)⟩
  · refine za_iload_n dX6_heldTo_5 rfl ?_
    refine za_goto 10 dX6_heldTo_6 (by decide) ?_
    exact za_iret hM dX6_heldTo_10 ⟨by (first | rfl | exact congrArg (fun z => some (Value.int z)) (zmin_1 (Int32.not_le.mp c2)).symm | exact congrArg (fun z => some (Value.int z)) (zmin_0 (Int32.not_lt.mpr c2)).symm), by (first | rfl | exact congrArg (fun z => some (Value.int z)) (zmin_1 (Int32.not_le.mp c2)).symm | exact congrArg (fun z => some (Value.int z)) (zmin_0 (Int32.not_lt.mpr c2)).symm)⟩

set_option maxRecDepth 20000 in
set_option maxHeartbeats 4000000 in
theorem m_ofDay {g : zG} {σ : zSto} {τ : zTn} {B : Nat} (hd : zlt (τ 0 0) B) (hB : B ≤ 2000000) : zEd g 0 yX6_ofDay cX6_ofDay 1 (some .int) [.ref (zad g 34)] (zpm σ τ) (some (.int (nI (p_q τ)))) (zpm σ (τ)) := by
  refine zev_intro (own := RX6) (lv := [some (.ref (zad g 34))]) (by decide +kernel) rfl (Nat.le_of_ble_eq_true rfl) rfl (fun C hM hN => ?_)
  refine za_aload_n dX6_ofDay_0 rfl ?_
  refine za_getR dX6_ofDay_1 zf_X6_7 rfl rfl ?_
  refine za_iconst (nI 0) dX6_ofDay_4 (by decide) ?_
  refine zm_ald0 dX6_ofDay_5 ?_
  refine za_bipush (nI 6) dX6_ofDay_6 (by decide) ?_
  refine za_irem dX6_ofDay_8 (by decide) ?_
  exact za_iret hM dX6_ofDay_9 ⟨congrArg (fun z => some (Value.int z)) (zrem hd (by omega) (by decide) (by decide)), rfl⟩

set_option maxRecDepth 20000 in
set_option maxHeartbeats 4000000 in
theorem m_together {g : zG} {σ : zSto} {τ : zTn} {s : Nat} (hs : s < 2) : zEd g 1 yX6_together cX6_together 4 (some .int) [.ref (zad g 34), .int (nI s)] (zpm σ τ) (some (.int (p_sum (τ (1 + s)) 6))) (zpm σ (τ)) := by
  refine zev_intro (own := RX6) (lv := [some (.ref (zad g 34)), some (.int (nI s)), none, none]) (by decide +kernel) rfl (Nat.le_of_ble_eq_true rfl) rfl (fun C hM hN => ?_)
  have hloop : ∀ (m : Nat) (j : Nat), j + m = 6 → zAW g C 1 cX6_together RX6 4 [some (.ref (zad g 34)), some (.int (nI s)), some (.int (p_sum (τ (1 + s)) j)), some (.int (nI j))] [] (zpm σ τ) := by
    intro m
    induction m with
    | zero =>
      intro j hj
      obtain rfl : j = 6 := by omega
      refine za_iload_n dX6_together_4 rfl ?_
      refine za_bipush (nI 6) dX6_together_5 (by decide) ?_
      refine za_icmp_ge 29 dX6_together_7 (by decide) (fun c7 => ?_) (fun c7 => absurd (by decide) c7)
      refine za_iload_n dX6_together_29 rfl ?_
      exact za_iret hM dX6_together_30 ⟨by rfl, by rfl⟩
    | succ m ih =>
      intro j hj
      refine za_iload_n dX6_together_4 rfl ?_
      refine za_bipush (nI 6) dX6_together_5 (by decide) ?_
      refine za_icmp_ge 29 dX6_together_7 (by decide) (fun c7 => absurd c7 (nI_ge (show j < 6 by omega) (by decide))) (fun c7 => ?_)
      refine za_iload_n dX6_together_10 rfl ?_
      refine za_aload_n dX6_together_11 rfl ?_
      refine za_getR dX6_together_12 zf_X6_7 rfl rfl ?_
      refine za_iload_n dX6_together_15 rfl ?_
      refine za_iload_n dX6_together_16 rfl ?_
      refine za_cS2 dX6_together_17 zm_X6_52 zw_X6_basinSpot zs_X6_basinSpot (m_basinSpot) (by decide) (Nat.le_of_ble_eq_true rfl) ?_
      refine zm_aldB dX6_together_20 (by omega) hs ?_
      refine za_iadd dX6_together_21 ?_
      refine za_istore_n (lv' := [_, _, _, _]) dX6_together_22 hN (by decide) rfl ?_
      refine za_iinc (nI (_ + 1)) (lv' := [_, _, _, _]) dX6_together_23 rfl hN (by decide) (znext _) rfl ?_
      refine za_goto 4 dX6_together_26 (by decide) ?_
      exact ih (j + 1) (by omega)
  refine za_iconst (nI 0) dX6_together_0 (by decide) ?_
  refine za_istore_n (lv' := [_, _, _, _]) dX6_together_1 hN (by decide) rfl ?_
  refine za_iconst (nI 0) dX6_together_2 (by decide) ?_
  refine za_istore_n (lv' := [_, _, _, _]) dX6_together_3 hN (by decide) rfl ?_
  exact hloop 6 0 rfl

set_option maxRecDepth 20000 in
set_option maxHeartbeats 4000000 in
theorem m_pence {g : zG} {σ : zSto} {τ : zTn} {n : Nat} (h8 : n < 9) (hn : τ 0 3 = nI n) : zEd g 2 yX6_pence cX6_pence 3 (some .int) [.ref (zad g 34)] (zpm σ τ) (some (.int (p_sum (τ 5) n))) (zpm σ (τ)) := by
  refine zev_intro (own := RX6) (lv := [some (.ref (zad g 34)), none, none]) (by decide +kernel) rfl (Nat.le_of_ble_eq_true rfl) rfl (fun C hM hN => ?_)
  have hloop : ∀ (m : Nat) (j : Nat), j + m = n → zAW g C 2 cX6_pence RX6 4 [some (.ref (zad g 34)), some (.int (p_sum (τ 5) j)), some (.int (nI j))] [] (zpm σ τ) := by
    intro m
    induction m with
    | zero =>
      intro j hj
      obtain rfl : j = n := by omega
      refine za_iload_n dX6_pence_4 rfl ?_
      refine za_aload_n dX6_pence_5 rfl ?_
      refine za_getR dX6_pence_6 zf_X6_7 rfl rfl ?_
      refine za_iconst (nI 1) dX6_pence_9 (by decide) ?_
      refine zm_ald1 dX6_pence_10 ?_
      rw [hn]
      refine za_icmp_ge 29 dX6_pence_11 (by decide) (fun c11 => ?_) (fun c11 => absurd (nI_le (Nat.le_refl _) (by omega)) c11)
      refine za_iload_n dX6_pence_29 rfl ?_
      exact za_iret hM dX6_pence_30 ⟨by rfl, by rfl⟩
    | succ m ih =>
      intro j hj
      refine za_iload_n dX6_pence_4 rfl ?_
      refine za_aload_n dX6_pence_5 rfl ?_
      refine za_getR dX6_pence_6 zf_X6_7 rfl rfl ?_
      refine za_iconst (nI 1) dX6_pence_9 (by decide) ?_
      refine zm_ald1 dX6_pence_10 ?_
      rw [hn]
      refine za_icmp_ge 29 dX6_pence_11 (by decide) (fun c11 => absurd c11 (nI_ge (show j < n by omega) (by omega))) (fun c11 => ?_)
      refine za_iload_n dX6_pence_14 rfl ?_
      refine za_aload_n dX6_pence_15 rfl ?_
      refine za_iload_n dX6_pence_16 rfl ?_
      refine za_iconst (nI 2) dX6_pence_17 (by decide) ?_
      refine za_cV2 dX6_pence_18 zm_X6_55 zw_X6_its zv_X6_its (m_its (by omega) (by decide)) (by decide) rfl rfl rfl (Nat.le_of_ble_eq_true rfl) ?_
      refine za_iadd dX6_pence_21 ?_
      refine za_istore_n (lv' := [_, _, _]) dX6_pence_22 hN (by decide) rfl ?_
      refine za_iinc (nI (_ + 1)) (lv' := [_, _, _]) dX6_pence_23 rfl hN (by decide) (znext _) rfl ?_
      refine za_goto 4 dX6_pence_26 (by decide) ?_
      exact ih (j + 1) (by omega)
  refine za_iconst (nI 0) dX6_pence_0 (by decide) ?_
  refine za_istore_n (lv' := [_, _, _]) dX6_pence_1 hN (by decide) rfl ?_
  refine za_iconst (nI 0) dX6_pence_2 (by decide) ?_
  refine za_istore_n (lv' := [_, _, _]) dX6_pence_3 hN (by decide) rfl ?_
  exact hloop n 0 (by omega)

set_option maxRecDepth 20000 in
set_option maxHeartbeats 4000000 in
theorem m_heldIn {g : zG} {σ : zSto} {τ : zTn} {q : Nat} : zEd g 0 yX6_heldIn cX6_heldIn 2 (some .int) [.ref (zad g 34), .int (nI q)] (zpm σ τ) (some (.int (p_tell τ q 2))) (zpm σ (τ)) := by
  refine zev_intro (own := RX6) (lv := [some (.ref (zad g 34)), some (.int (nI q))]) (by decide +kernel) rfl (Nat.le_of_ble_eq_true rfl) rfl (fun C hM hN => ?_)
  refine za_aload_n dX6_heldIn_0 rfl ?_
  refine za_getR dX6_heldIn_1 zf_X6_7 rfl rfl ?_
  refine za_iconst (nI 2) dX6_heldIn_4 (by decide) ?_
  refine zm_ald2 dX6_heldIn_5 ?_
  refine za_iload_n dX6_heldIn_6 rfl ?_
  refine za_ishr dX6_heldIn_7 ?_
  refine za_iconst (nI 1) dX6_heldIn_8 (by decide) ?_
  refine za_iand dX6_heldIn_9 ?_
  exact za_iret hM dX6_heldIn_10 ⟨by rfl, by rfl⟩

set_option maxRecDepth 20000 in
set_option maxHeartbeats 4000000 in
theorem m_ladySide {g : zG} {σ : zSto} {τ : zTn} {p q : Nat} (hp : p < 8) (hq : q < 6) : zEd g 2 yX6_ladySide cX6_ladySide 5 (some .int) [.ref (zad g 34), .int (nI p), .int (nI q)] (zpm σ τ) (some (.int (nI (p_lady τ p q)))) (zpm σ (τ)) := by
  refine zev_intro (own := RX6) (lv := [some (.ref (zad g 34)), some (.int (nI p)), some (.int (nI q)), none, none]) (by decide +kernel) rfl (Nat.le_of_ble_eq_true rfl) rfl (fun C hM hN => ?_)
  have hs := p_own_lt (τ := τ) (p := p) (q := q)
  refine za_iconst (nI 1) dX6_ladySide_0 (by decide) ?_
  refine za_aload_n dX6_ladySide_1 rfl ?_
  refine za_iload_n dX6_ladySide_2 rfl ?_
  refine za_iconst (nI 1) dX6_ladySide_3 (by decide) ?_
  refine za_cV2 dX6_ladySide_4 zm_X6_55 zw_X6_its zv_X6_its (m_its hp (by decide)) (by decide) rfl rfl rfl (Nat.le_of_ble_eq_true rfl) ?_
  refine za_iload_n dX6_ladySide_7 rfl ?_
  refine za_ishr dX6_ladySide_8 ?_
  refine za_iconst (nI 1) dX6_ladySide_9 (by decide) ?_
  refine za_iand dX6_ladySide_10 ?_
  refine za_isub dX6_ladySide_11 ?_
  rw [zown_eq]
  refine za_istore_n (lv' := [_, _, _, _, _]) dX6_ladySide_12 hN (by decide) rfl ?_
  refine za_aload_n dX6_ladySide_13 rfl ?_
  refine za_getR dX6_ladySide_14 zf_X6_7 rfl rfl ?_
  refine za_iload_n dX6_ladySide_17 rfl ?_
  refine za_iload_n dX6_ladySide_18 rfl ?_
  refine za_cS2 dX6_ladySide_19 zm_X6_52 zw_X6_basinSpot zs_X6_basinSpot (m_basinSpot) (by decide) (Nat.le_of_ble_eq_true rfl) ?_
  refine zm_aldB dX6_ladySide_22 hq hs ?_
  refine za_aload_n dX6_ladySide_23 rfl ?_
  refine za_getR dX6_ladySide_24 zf_X6_7 rfl rfl ?_
  refine za_iload_n dX6_ladySide_27 rfl ?_
  refine za_iconst (nI 1) dX6_ladySide_28 (by decide) ?_
  refine za_iload_n dX6_ladySide_29 rfl ?_
  refine za_isub dX6_ladySide_30 ?_
  rw [pk_sub (show p_own τ p q ≤ 1 by omega)]
  refine za_cS2 dX6_ladySide_31 zm_X6_52 zw_X6_basinSpot zs_X6_basinSpot (m_basinSpot) (by decide) (Nat.le_of_ble_eq_true rfl) ?_
  refine zm_aldB dX6_ladySide_34 hq (by omega) ?_
  refine za_isub dX6_ladySide_35 ?_
  refine za_istore (lv' := [_, _, _, _, _]) dX6_ladySide_36 hN (by decide) rfl ?_
  refine za_iload dX6_ladySide_38 rfl ?_
  refine za_bipush (nI 20) dX6_ladySide_40 (by decide) ?_
  refine za_icmp_le 51 dX6_ladySide_42 (by decide) (fun c42 => ?_) (fun c42 => ?_)
  · refine za_iload_n dX6_ladySide_51 rfl ?_
    exact za_iret hM dX6_ladySide_52 ⟨by (first | rfl | (unfold p_lady; rw [if_pos (Int32.not_le.mp c42)]; done) | (unfold p_lady; rw [if_neg (Int32.not_lt.mpr c42)]; done)), by (first | rfl | (unfold p_lady; rw [if_pos (Int32.not_le.mp c42)]; done) | (unfold p_lady; rw [if_neg (Int32.not_lt.mpr c42)]; done))⟩
  · refine za_iconst (nI 1) dX6_ladySide_45 (by decide) ?_
    refine za_iload_n dX6_ladySide_46 rfl ?_
    refine za_isub dX6_ladySide_47 ?_
    rw [pk_sub (show p_own τ p q ≤ 1 by omega)]
    refine za_goto 52 dX6_ladySide_48 (by decide) ?_
    exact za_iret hM dX6_ladySide_52 ⟨by (first | rfl | (unfold p_lady; rw [if_pos (Int32.not_le.mp c42)]; done) | (unfold p_lady; rw [if_neg (Int32.not_lt.mpr c42)]; done)), by (first | rfl | (unfold p_lady; rw [if_pos (Int32.not_le.mp c42)]; done) | (unfold p_lady; rw [if_neg (Int32.not_lt.mpr c42)]; done))⟩

set_option maxRecDepth 20000 in
set_option maxHeartbeats 4000000 in
theorem m_sideOf {g : zG} {σ : zSto} {τ : zTn} {p q B : Nat} (hp : p < 8) (hq : q < 6) (hk : zlt (τ 3 p) 6) (hb : zlt (τ 0 2) 2) (hdy : zlt (τ 0 0) B) (hB : B ≤ 2000000) : zEd g 3 yX6_sideOf cX6_sideOf 4 (some .int) [.ref (zad g 34), .int (nI p), .int (nI q)] (zpm σ τ) (some (.int (nI (p_side τ p q)))) (zpm σ (τ)) := by
  refine zev_intro (own := RX6) (lv := [some (.ref (zad g 34)), some (.int (nI p)), some (.int (nI q)), none]) (by decide +kernel) rfl (Nat.le_of_ble_eq_true rfl) rfl (fun C hM hN => ?_)
  refine za_aload_n dX6_sideOf_0 rfl ?_
  refine za_getR dX6_sideOf_1 zf_X6_7 rfl rfl ?_
  refine za_iload_n dX6_sideOf_4 rfl ?_
  refine za_iconst (nI 0) dX6_sideOf_5 (by decide) ?_
  refine za_cS2 dX6_sideOf_6 zm_X6_52 zw_X6_basinSpot zs_X6_basinSpot (m_basinSpot) (by decide) (Nat.le_of_ble_eq_true rfl) ?_
  refine zm_aldB dX6_sideOf_9 hq (by decide) ?_
  refine za_aload_n dX6_sideOf_10 rfl ?_
  refine za_getR dX6_sideOf_11 zf_X6_7 rfl rfl ?_
  refine za_iload_n dX6_sideOf_14 rfl ?_
  refine za_iconst (nI 1) dX6_sideOf_15 (by decide) ?_
  refine za_cS2 dX6_sideOf_16 zm_X6_52 zw_X6_basinSpot zs_X6_basinSpot (m_basinSpot) (by decide) (Nat.le_of_ble_eq_true rfl) ?_
  refine zm_aldB dX6_sideOf_19 hq (by decide) ?_
  refine za_icmp_gt 27 dX6_sideOf_20 (by decide) (fun c20 => ?_) (fun c20 => ?_)
  · refine za_iconst (nI 0) dX6_sideOf_27 (by decide) ?_
    refine za_istore_n (lv' := [_, _, _, _]) dX6_sideOf_28 hN (by decide) rfl ?_
    refine za_aload_n dX6_sideOf_29 rfl ?_
    refine za_iload_n dX6_sideOf_30 rfl ?_
    refine za_iconst (nI 0) dX6_sideOf_31 (by decide) ?_
    refine za_cV2 dX6_sideOf_32 zm_X6_55 zw_X6_its zv_X6_its (m_its hp (by decide)) (by decide) rfl rfl rfl (Nat.le_of_ble_eq_true rfl) ?_
    obtain h3 | h3 | h3 | h3 | h3 | h3 := zlt6' hk
    · rw [show τ (3 + 0) p = nI 0 from h3]
      refine za_tabO 101 dX6_sideOf_35 (by decide) (by decide) ?_
      refine za_iconst (nI 1) dX6_sideOf_101 (by decide) ?_
      refine za_aload_n dX6_sideOf_102 rfl ?_
      refine za_iload_n dX6_sideOf_103 rfl ?_
      refine za_iconst (nI 1) dX6_sideOf_104 (by decide) ?_
      refine za_cV2 dX6_sideOf_105 zm_X6_55 zw_X6_its zv_X6_its (m_its hp (by decide)) (by decide) rfl rfl rfl (Nat.le_of_ble_eq_true rfl) ?_
      refine za_iload_n dX6_sideOf_108 rfl ?_
      refine za_ishr dX6_sideOf_109 ?_
      refine za_iconst (nI 1) dX6_sideOf_110 (by decide) ?_
      refine za_iand dX6_sideOf_111 ?_
      refine za_isub dX6_sideOf_112 ?_
      rw [zown_eq]
      exact za_iret hM dX6_sideOf_113 ⟨by rw [p_side_0 h3], rfl⟩
    · rw [show τ (3 + 0) p = nI 1 from h3]
      refine za_tabK (33) 68 dX6_sideOf_35 (by decide) (by decide) (by decide) (by decide) ?_
      refine za_aload_n dX6_sideOf_68 rfl ?_
      refine za_iload_n dX6_sideOf_69 rfl ?_
      refine za_iload_n dX6_sideOf_70 rfl ?_
      refine za_cV2 dX6_sideOf_71 zm_X6_94 zw_X6_ladySide zv_X6_ladySide (m_ladySide hp hq) (by decide) rfl rfl rfl (Nat.le_of_ble_eq_true rfl) ?_
      exact za_iret hM dX6_sideOf_74 ⟨by rw [p_side_1 h3], rfl⟩
    · rw [show τ (3 + 0) p = nI 2 from h3]
      refine za_tabK (40) 75 dX6_sideOf_35 (by decide) (by decide) (by decide) (by decide) ?_
      refine za_iload_n dX6_sideOf_75 rfl ?_
      refine za_if_eq 83 dX6_sideOf_76 (by decide) (fun c76 => ?_) (fun c76 => ?_)
      · refine za_iconst (nI 1) dX6_sideOf_83 (by decide) ?_
        exact za_iret hM dX6_sideOf_84 ⟨by first | (rw [p_side_2 h3, if_pos c20]; done) | (rw [p_side_2 h3, if_neg c20]; done) | (rw [p_side_5 h3, if_pos c20]; done) | (rw [p_side_5 h3, if_neg c20]; done) | (rw [p_side_2 h3, if_pos (by exact c20)]; done) | (exact absurd c76 (by decide); done), rfl⟩
      · refine za_iconst (nI 0) dX6_sideOf_79 (by decide) ?_
        refine za_goto 84 dX6_sideOf_80 (by decide) ?_
        exact za_iret hM dX6_sideOf_84 ⟨by first | (rw [p_side_2 h3, if_pos c20]; done) | (rw [p_side_2 h3, if_neg c20]; done) | (rw [p_side_5 h3, if_pos c20]; done) | (rw [p_side_5 h3, if_neg c20]; done) | (rw [p_side_2 h3, if_pos (by exact c20)]; done) | (exact absurd c76 (by decide); done), rfl⟩
    · rw [show τ (3 + 0) p = nI 3 from h3]
      refine za_tabK (50) 85 dX6_sideOf_35 (by decide) (by decide) (by decide) (by decide) ?_
      refine za_aload_n dX6_sideOf_85 rfl ?_
      refine za_getR dX6_sideOf_86 zf_X6_7 rfl rfl ?_
      refine za_iconst (nI 0) dX6_sideOf_89 (by decide) ?_
      refine zm_ald0 dX6_sideOf_90 ?_
      refine za_iconst (nI 2) dX6_sideOf_91 (by decide) ?_
      refine za_irem dX6_sideOf_92 (by decide) ?_
      exact za_iret hM dX6_sideOf_93 ⟨by rw [p_side_3 h3, zrem hdy (by omega) (by decide) (by decide)], rfl⟩
    · rw [show τ (3 + 0) p = nI 4 from h3]
      refine za_tabK (59) 94 dX6_sideOf_35 (by decide) (by decide) (by decide) (by decide) ?_
      refine za_aload_n dX6_sideOf_94 rfl ?_
      refine za_getR dX6_sideOf_95 zf_X6_7 rfl rfl ?_
      refine za_iconst (nI 3) dX6_sideOf_98 (by decide) ?_
      refine zm_ald3 dX6_sideOf_99 ?_
      exact za_iret hM dX6_sideOf_100 ⟨by rw [p_side_4 h3, ← (zlt_zn hb (by decide)).1], rfl⟩
    · rw [show τ (3 + 0) p = nI 5 from h3]
      refine za_tabK (40) 75 dX6_sideOf_35 (by decide) (by decide) (by decide) (by decide) ?_
      refine za_iload_n dX6_sideOf_75 rfl ?_
      refine za_if_eq 83 dX6_sideOf_76 (by decide) (fun c76 => ?_) (fun c76 => ?_)
      · refine za_iconst (nI 1) dX6_sideOf_83 (by decide) ?_
        exact za_iret hM dX6_sideOf_84 ⟨by first | (rw [p_side_2 h3, if_pos c20]; done) | (rw [p_side_2 h3, if_neg c20]; done) | (rw [p_side_5 h3, if_pos c20]; done) | (rw [p_side_5 h3, if_neg c20]; done) | (rw [p_side_2 h3, if_pos (by exact c20)]; done) | (exact absurd c76 (by decide); done), rfl⟩
      · refine za_iconst (nI 0) dX6_sideOf_79 (by decide) ?_
        refine za_goto 84 dX6_sideOf_80 (by decide) ?_
        exact za_iret hM dX6_sideOf_84 ⟨by first | (rw [p_side_2 h3, if_pos c20]; done) | (rw [p_side_2 h3, if_neg c20]; done) | (rw [p_side_5 h3, if_pos c20]; done) | (rw [p_side_5 h3, if_neg c20]; done) | (rw [p_side_2 h3, if_pos (by exact c20)]; done) | (exact absurd c76 (by decide); done), rfl⟩
  · refine za_iconst (nI 1) dX6_sideOf_23 (by decide) ?_
    refine za_goto 28 dX6_sideOf_24 (by decide) ?_
    refine za_istore_n (lv' := [_, _, _, _]) dX6_sideOf_28 hN (by decide) rfl ?_
    refine za_aload_n dX6_sideOf_29 rfl ?_
    refine za_iload_n dX6_sideOf_30 rfl ?_
    refine za_iconst (nI 0) dX6_sideOf_31 (by decide) ?_
    refine za_cV2 dX6_sideOf_32 zm_X6_55 zw_X6_its zv_X6_its (m_its hp (by decide)) (by decide) rfl rfl rfl (Nat.le_of_ble_eq_true rfl) ?_
    obtain h3 | h3 | h3 | h3 | h3 | h3 := zlt6' hk
    · rw [show τ (3 + 0) p = nI 0 from h3]
      refine za_tabO 101 dX6_sideOf_35 (by decide) (by decide) ?_
      refine za_iconst (nI 1) dX6_sideOf_101 (by decide) ?_
      refine za_aload_n dX6_sideOf_102 rfl ?_
      refine za_iload_n dX6_sideOf_103 rfl ?_
      refine za_iconst (nI 1) dX6_sideOf_104 (by decide) ?_
      refine za_cV2 dX6_sideOf_105 zm_X6_55 zw_X6_its zv_X6_its (m_its hp (by decide)) (by decide) rfl rfl rfl (Nat.le_of_ble_eq_true rfl) ?_
      refine za_iload_n dX6_sideOf_108 rfl ?_
      refine za_ishr dX6_sideOf_109 ?_
      refine za_iconst (nI 1) dX6_sideOf_110 (by decide) ?_
      refine za_iand dX6_sideOf_111 ?_
      refine za_isub dX6_sideOf_112 ?_
      rw [zown_eq]
      exact za_iret hM dX6_sideOf_113 ⟨by rw [p_side_0 h3], rfl⟩
    · rw [show τ (3 + 0) p = nI 1 from h3]
      refine za_tabK (33) 68 dX6_sideOf_35 (by decide) (by decide) (by decide) (by decide) ?_
      refine za_aload_n dX6_sideOf_68 rfl ?_
      refine za_iload_n dX6_sideOf_69 rfl ?_
      refine za_iload_n dX6_sideOf_70 rfl ?_
      refine za_cV2 dX6_sideOf_71 zm_X6_94 zw_X6_ladySide zv_X6_ladySide (m_ladySide hp hq) (by decide) rfl rfl rfl (Nat.le_of_ble_eq_true rfl) ?_
      exact za_iret hM dX6_sideOf_74 ⟨by rw [p_side_1 h3], rfl⟩
    · rw [show τ (3 + 0) p = nI 2 from h3]
      refine za_tabK (40) 75 dX6_sideOf_35 (by decide) (by decide) (by decide) (by decide) ?_
      refine za_iload_n dX6_sideOf_75 rfl ?_
      refine za_if_eq 83 dX6_sideOf_76 (by decide) (fun c76 => ?_) (fun c76 => ?_)
      · refine za_iconst (nI 1) dX6_sideOf_83 (by decide) ?_
        exact za_iret hM dX6_sideOf_84 ⟨by first | (rw [p_side_2 h3, if_pos c20]; done) | (rw [p_side_2 h3, if_neg c20]; done) | (rw [p_side_5 h3, if_pos c20]; done) | (rw [p_side_5 h3, if_neg c20]; done) | (rw [p_side_2 h3, if_pos (by exact c20)]; done) | (exact absurd c76 (by decide); done), rfl⟩
      · refine za_iconst (nI 0) dX6_sideOf_79 (by decide) ?_
        refine za_goto 84 dX6_sideOf_80 (by decide) ?_
        exact za_iret hM dX6_sideOf_84 ⟨by first | (rw [p_side_2 h3, if_pos c20]; done) | (rw [p_side_2 h3, if_neg c20]; done) | (rw [p_side_5 h3, if_pos c20]; done) | (rw [p_side_5 h3, if_neg c20]; done) | (rw [p_side_2 h3, if_pos (by exact c20)]; done) | (exact absurd c76 (by decide); done), rfl⟩
    · rw [show τ (3 + 0) p = nI 3 from h3]
      refine za_tabK (50) 85 dX6_sideOf_35 (by decide) (by decide) (by decide) (by decide) ?_
      refine za_aload_n dX6_sideOf_85 rfl ?_
      refine za_getR dX6_sideOf_86 zf_X6_7 rfl rfl ?_
      refine za_iconst (nI 0) dX6_sideOf_89 (by decide) ?_
      refine zm_ald0 dX6_sideOf_90 ?_
      refine za_iconst (nI 2) dX6_sideOf_91 (by decide) ?_
      refine za_irem dX6_sideOf_92 (by decide) ?_
      exact za_iret hM dX6_sideOf_93 ⟨by rw [p_side_3 h3, zrem hdy (by omega) (by decide) (by decide)], rfl⟩
    · rw [show τ (3 + 0) p = nI 4 from h3]
      refine za_tabK (59) 94 dX6_sideOf_35 (by decide) (by decide) (by decide) (by decide) ?_
      refine za_aload_n dX6_sideOf_94 rfl ?_
      refine za_getR dX6_sideOf_95 zf_X6_7 rfl rfl ?_
      refine za_iconst (nI 3) dX6_sideOf_98 (by decide) ?_
      refine zm_ald3 dX6_sideOf_99 ?_
      exact za_iret hM dX6_sideOf_100 ⟨by rw [p_side_4 h3, ← (zlt_zn hb (by decide)).1], rfl⟩
    · rw [show τ (3 + 0) p = nI 5 from h3]
      refine za_tabK (40) 75 dX6_sideOf_35 (by decide) (by decide) (by decide) (by decide) ?_
      refine za_iload_n dX6_sideOf_75 rfl ?_
      refine za_if_eq 83 dX6_sideOf_76 (by decide) (fun c76 => ?_) (fun c76 => ?_)
      · refine za_iconst (nI 1) dX6_sideOf_83 (by decide) ?_
        exact za_iret hM dX6_sideOf_84 ⟨by first | (rw [p_side_2 h3, if_pos c20]; done) | (rw [p_side_2 h3, if_neg c20]; done) | (rw [p_side_5 h3, if_pos c20]; done) | (rw [p_side_5 h3, if_neg c20]; done) | (rw [p_side_2 h3, if_pos (by exact c20)]; done) | (exact absurd c76 (by decide); done), rfl⟩
      · refine za_iconst (nI 0) dX6_sideOf_79 (by decide) ?_
        refine za_goto 84 dX6_sideOf_80 (by decide) ?_
        exact za_iret hM dX6_sideOf_84 ⟨by first | (rw [p_side_2 h3, if_pos c20]; done) | (rw [p_side_2 h3, if_neg c20]; done) | (rw [p_side_5 h3, if_pos c20]; done) | (rw [p_side_5 h3, if_neg c20]; done) | (rw [p_side_2 h3, if_pos (by exact c20)]; done) | (exact absurd c76 (by decide); done), rfl⟩

set_option maxRecDepth 20000 in
set_option maxHeartbeats 4000000 in
theorem m_throwsOf {g : zG} {σ : zSto} {τ : zTn} {p : Nat} (hp : p < 8) (hk : zlt (τ 3 p) 6) (hc : zlt (τ 5 p) 10000) : zEd g 2 yX6_throwsOf cX6_throwsOf 4 (some .int) [.ref (zad g 34), .int (nI p)] (zpm σ τ) (some (.int (p_thr (τ 3 p) (τ 5 p)))) (zpm σ (τ)) := by
  refine zev_intro (own := RX6) (lv := [some (.ref (zad g 34)), some (.int (nI p)), none, none]) (by decide +kernel) rfl (Nat.le_of_ble_eq_true rfl) rfl (fun C hM hN => ?_)
  refine za_aload_n dX6_throwsOf_0 rfl ?_
  refine za_iload_n dX6_throwsOf_1 rfl ?_
  refine za_iconst (nI 2) dX6_throwsOf_2 (by decide) ?_
  refine za_cV2 dX6_throwsOf_3 zm_X6_55 zw_X6_its zv_X6_its (m_its hp (by decide)) (by decide) rfl rfl rfl (Nat.le_of_ble_eq_true rfl) ?_
  refine za_istore_n (lv' := [_, _, _, _]) dX6_throwsOf_6 hN (by decide) rfl ?_
  refine za_iconst (nI 1) dX6_throwsOf_7 (by decide) ?_
  refine za_iload_n dX6_throwsOf_8 rfl ?_
  refine za_bipush (nI 20) dX6_throwsOf_9 (by decide) ?_
  refine za_idiv dX6_throwsOf_11 (by decide) ?_
  refine za_iadd dX6_throwsOf_12 ?_
  refine za_istore_n (lv' := [_, _, _, _]) dX6_throwsOf_13 hN (by decide) rfl ?_
  refine za_aload_n dX6_throwsOf_14 rfl ?_
  refine za_iload_n dX6_throwsOf_15 rfl ?_
  refine za_iconst (nI 0) dX6_throwsOf_16 (by decide) ?_
  refine za_cV2 dX6_throwsOf_17 zm_X6_55 zw_X6_its zv_X6_its (m_its hp (by decide)) (by decide) rfl rfl rfl (Nat.le_of_ble_eq_true rfl) ?_
  obtain h3 | h3 | h3 | h3 | h3 | h3 := zlt6' hk
  · rw [show τ (3 + 0) p = nI 0 from h3]
    refine za_tabO 78 dX6_throwsOf_20 (by decide) (by decide) ?_
    refine za_iconst (nI 1) dX6_throwsOf_78 (by decide) ?_
    refine za_iload_n dX6_throwsOf_79 rfl ?_
    refine za_cS2 dX6_throwsOf_80 zm_X6_97 zw_X6_heldTo zs_X6_heldTo (m_heldTo) (by decide) (Nat.le_of_ble_eq_true rfl) ?_
    exact za_iret hM dX6_throwsOf_83 ⟨by rw [h3]; rfl, rfl⟩
  · rw [show τ (3 + 0) p = nI 1 from h3]
    refine za_tabK (36) 56 dX6_throwsOf_20 (by decide) (by decide) (by decide) (by decide) ?_
    refine za_iload_n dX6_throwsOf_56 rfl ?_
    refine za_iload_n dX6_throwsOf_57 rfl ?_
    refine za_cS2 dX6_throwsOf_58 zm_X6_97 zw_X6_heldTo zs_X6_heldTo (m_heldTo) (by decide) (Nat.le_of_ble_eq_true rfl) ?_
    exact za_iret hM dX6_throwsOf_61 ⟨by rw [h3]; rfl, rfl⟩
  · rw [show τ (3 + 0) p = nI 2 from h3]
    refine za_tabK (42) 62 dX6_throwsOf_20 (by decide) (by decide) (by decide) (by decide) ?_
    refine za_iconst (nI 0) dX6_throwsOf_62 (by decide) ?_
    exact za_iret hM dX6_throwsOf_63 ⟨by rw [p_thr_b hc (by first | exact Or.inl h3 | exact Or.inr h3)], rfl⟩
  · rw [show τ (3 + 0) p = nI 3 from h3]
    refine za_tabK (44) 64 dX6_throwsOf_20 (by decide) (by decide) (by decide) (by decide) ?_
    refine za_iconst (nI 3) dX6_throwsOf_64 (by decide) ?_
    refine za_iload_n dX6_throwsOf_65 rfl ?_
    refine za_cS2 dX6_throwsOf_66 zm_X6_97 zw_X6_heldTo zs_X6_heldTo (m_heldTo) (by decide) (Nat.le_of_ble_eq_true rfl) ?_
    exact za_iret hM dX6_throwsOf_69 ⟨by rw [h3]; rfl, rfl⟩
  · rw [show τ (3 + 0) p = nI 4 from h3]
    refine za_tabK (50) 70 dX6_throwsOf_20 (by decide) (by decide) (by decide) (by decide) ?_
    refine za_iconst (nI 2) dX6_throwsOf_70 (by decide) ?_
    refine za_iload_n dX6_throwsOf_71 rfl ?_
    refine za_imul dX6_throwsOf_72 ?_
    refine za_iload_n dX6_throwsOf_73 rfl ?_
    refine za_cS2 dX6_throwsOf_74 zm_X6_97 zw_X6_heldTo zs_X6_heldTo (m_heldTo) (by decide) (Nat.le_of_ble_eq_true rfl) ?_
    exact za_iret hM dX6_throwsOf_77 ⟨by rw [h3]; rfl, rfl⟩
  · rw [show τ (3 + 0) p = nI 5 from h3]
    refine za_tabK (42) 62 dX6_throwsOf_20 (by decide) (by decide) (by decide) (by decide) ?_
    refine za_iconst (nI 0) dX6_throwsOf_62 (by decide) ?_
    exact za_iret hM dX6_throwsOf_63 ⟨by rw [p_thr_b hc (by first | exact Or.inl h3 | exact Or.inr h3)], rfl⟩

set_option maxRecDepth 20000 in
set_option maxHeartbeats 4000000 in
theorem m_fuller {g : zG} {σ : zSto} {τ : zTn} {q : Nat} (hq : q < 6) : zEd g 1 yX6_fuller cX6_fuller 2 (some .int) [.ref (zad g 34), .int (nI q)] (zpm σ τ) (some (.int (nI (p_full τ q)))) (zpm σ (τ)) := by
  refine zev_intro (own := RX6) (lv := [some (.ref (zad g 34)), some (.int (nI q))]) (by decide +kernel) rfl (Nat.le_of_ble_eq_true rfl) rfl (fun C hM hN => ?_)
  refine za_aload_n dX6_fuller_0 rfl ?_
  refine za_getR dX6_fuller_1 zf_X6_7 rfl rfl ?_
  refine za_iload_n dX6_fuller_4 rfl ?_
  refine za_iconst (nI 1) dX6_fuller_5 (by decide) ?_
  refine za_cS2 dX6_fuller_6 zm_X6_52 zw_X6_basinSpot zs_X6_basinSpot (m_basinSpot) (by decide) (Nat.le_of_ble_eq_true rfl) ?_
  refine zm_aldB dX6_fuller_9 hq (by decide) ?_
  refine za_aload_n dX6_fuller_10 rfl ?_
  refine za_getR dX6_fuller_11 zf_X6_7 rfl rfl ?_
  refine za_iload_n dX6_fuller_14 rfl ?_
  refine za_iconst (nI 0) dX6_fuller_15 (by decide) ?_
  refine za_cS2 dX6_fuller_16 zm_X6_52 zw_X6_basinSpot zs_X6_basinSpot (m_basinSpot) (by decide) (Nat.le_of_ble_eq_true rfl) ?_
  refine zm_aldB dX6_fuller_19 hq (by decide) ?_
  refine za_icmp_le 27 dX6_fuller_20 (by decide) (fun c20 => ?_) (fun c20 => ?_)
  · refine za_iconst (nI 0) dX6_fuller_27 (by decide) ?_
    exact za_iret hM dX6_fuller_28 ⟨by (first | rfl | (unfold p_full; rw [if_pos (Int32.not_le.mp c20)]; done) | (unfold p_full; rw [if_neg (Int32.not_lt.mpr c20)]; done)), by (first | rfl | (unfold p_full; rw [if_pos (Int32.not_le.mp c20)]; done) | (unfold p_full; rw [if_neg (Int32.not_lt.mpr c20)]; done))⟩
  · refine za_iconst (nI 1) dX6_fuller_23 (by decide) ?_
    refine za_goto 28 dX6_fuller_24 (by decide) ?_
    exact za_iret hM dX6_fuller_28 ⟨by (first | rfl | (unfold p_full; rw [if_pos (Int32.not_le.mp c20)]; done) | (unfold p_full; rw [if_neg (Int32.not_lt.mpr c20)]; done)), by (first | rfl | (unfold p_full; rw [if_pos (Int32.not_le.mp c20)]; done) | (unfold p_full; rw [if_neg (Int32.not_lt.mpr c20)]; done))⟩

set_option maxRecDepth 20000 in
set_option maxHeartbeats 4000000 in
theorem m_divesOf {g : zG} {σ : zSto} {τ : zTn} {p q : Nat} (hp : p < 8) (hq : q < 6) (hk : zlt (τ 3 p) 6) : zEd g 2 yX6_divesOf cX6_divesOf 6 (some .int) [.ref (zad g 34), .int (nI p), .int (nI q)] (zpm σ τ) (some (.int (p_div (τ 3 p) (τ 1 q) (τ 2 q)))) (zpm σ (τ)) := by
  refine zev_intro (own := RX6) (lv := [some (.ref (zad g 34)), some (.int (nI p)), some (.int (nI q)), none, none, none]) (by decide +kernel) rfl (Nat.le_of_ble_eq_true rfl) rfl (fun C hM hN => ?_)
  refine za_aload_n dX6_divesOf_0 rfl ?_
  refine za_getR dX6_divesOf_1 zf_X6_7 rfl rfl ?_
  refine za_iload_n dX6_divesOf_4 rfl ?_
  refine za_iconst (nI 0) dX6_divesOf_5 (by decide) ?_
  refine za_cS2 dX6_divesOf_6 zm_X6_52 zw_X6_basinSpot zs_X6_basinSpot (m_basinSpot) (by decide) (Nat.le_of_ble_eq_true rfl) ?_
  refine zm_aldB dX6_divesOf_9 hq (by decide) ?_
  refine za_istore_n (lv' := [_, _, _, _, _, _]) dX6_divesOf_10 hN (by decide) rfl ?_
  refine za_aload_n dX6_divesOf_11 rfl ?_
  refine za_getR dX6_divesOf_12 zf_X6_7 rfl rfl ?_
  refine za_iload_n dX6_divesOf_15 rfl ?_
  refine za_iconst (nI 1) dX6_divesOf_16 (by decide) ?_
  refine za_cS2 dX6_divesOf_17 zm_X6_52 zw_X6_basinSpot zs_X6_basinSpot (m_basinSpot) (by decide) (Nat.le_of_ble_eq_true rfl) ?_
  refine zm_aldB dX6_divesOf_20 hq (by decide) ?_
  refine za_istore (lv' := [_, _, _, _, _, _]) dX6_divesOf_21 hN (by decide) rfl ?_
  refine za_aload_n dX6_divesOf_23 rfl ?_
  refine za_getR dX6_divesOf_24 zf_X6_7 rfl rfl ?_
  refine za_iload_n dX6_divesOf_27 rfl ?_
  refine za_aload_n dX6_divesOf_28 rfl ?_
  refine za_iload_n dX6_divesOf_29 rfl ?_
  refine za_cV1 dX6_divesOf_30 zm_X6_100 zw_X6_fuller zv_X6_fuller (m_fuller hq) (by decide) rfl rfl rfl (Nat.le_of_ble_eq_true rfl) ?_
  refine za_cS2 dX6_divesOf_33 zm_X6_52 zw_X6_basinSpot zs_X6_basinSpot (m_basinSpot) (by decide) (Nat.le_of_ble_eq_true rfl) ?_
  refine zm_aldB dX6_divesOf_36 hq p_full_lt ?_
  rw [p_full_max (τ := τ) (q := q)]
  refine za_istore (lv' := [_, _, _, _, _, _]) dX6_divesOf_37 hN (by decide) rfl ?_
  refine za_aload_n dX6_divesOf_39 rfl ?_
  refine za_iload_n dX6_divesOf_40 rfl ?_
  refine za_iconst (nI 0) dX6_divesOf_41 (by decide) ?_
  refine za_cV2 dX6_divesOf_42 zm_X6_55 zw_X6_its zv_X6_its (m_its hp (by decide)) (by decide) rfl rfl rfl (Nat.le_of_ble_eq_true rfl) ?_
  obtain h3 | h3 | h3 | h3 | h3 | h3 := zlt6' hk
  · rw [show τ (3 + 0) p = nI 0 from h3]
    refine za_look (off := 49) 94 dX6_divesOf_45 (by decide) (by decide +kernel) (by decide) ?_
    refine za_iconst (nI 0) dX6_divesOf_94 (by decide) ?_
    exact za_iret hM dX6_divesOf_95 ⟨by rw [h3]; rfl, rfl⟩
  · rw [show τ (3 + 0) p = nI 1 from h3]
    refine za_look (off := 49) 94 dX6_divesOf_45 (by decide) (by decide +kernel) (by decide) ?_
    refine za_iconst (nI 0) dX6_divesOf_94 (by decide) ?_
    exact za_iret hM dX6_divesOf_95 ⟨by rw [h3]; rfl, rfl⟩
  · rw [show τ (3 + 0) p = nI 2 from h3]
    refine za_look (off := 27) 72 dX6_divesOf_45 (by decide) (by decide +kernel) (by decide) ?_
    refine za_iconst (nI 2) dX6_divesOf_72 (by decide) ?_
    refine za_iload dX6_divesOf_73 rfl ?_
    refine za_cS2 dX6_divesOf_75 zm_X6_97 zw_X6_heldTo zs_X6_heldTo (m_heldTo) (by decide) (Nat.le_of_ble_eq_true rfl) ?_
    exact za_iret hM dX6_divesOf_78 ⟨by rw [h3]; rfl, rfl⟩
  · rw [show τ (3 + 0) p = nI 3 from h3]
    refine za_look (off := 49) 94 dX6_divesOf_45 (by decide) (by decide +kernel) (by decide) ?_
    refine za_iconst (nI 0) dX6_divesOf_94 (by decide) ?_
    exact za_iret hM dX6_divesOf_95 ⟨by rw [h3]; rfl, rfl⟩
  · rw [show τ (3 + 0) p = nI 4 from h3]
    refine za_look (off := 49) 94 dX6_divesOf_45 (by decide) (by decide +kernel) (by decide) ?_
    refine za_iconst (nI 0) dX6_divesOf_94 (by decide) ?_
    exact za_iret hM dX6_divesOf_95 ⟨by rw [h3]; rfl, rfl⟩
  · rw [show τ (3 + 0) p = nI 5 from h3]
    refine za_look (off := 34) 79 dX6_divesOf_45 (by decide) (by decide +kernel) (by decide) ?_
    refine za_iconst (nI 2) dX6_divesOf_79 (by decide) ?_
    refine za_iload_n dX6_divesOf_80 rfl ?_
    refine za_iload dX6_divesOf_81 rfl ?_
    refine za_iadd dX6_divesOf_83 ?_
    refine za_bipush (nI 10) dX6_divesOf_84 (by decide) ?_
    refine za_idiv dX6_divesOf_86 (by decide) ?_
    refine za_iadd dX6_divesOf_87 ?_
    refine za_iload dX6_divesOf_88 rfl ?_
    refine za_cS2 dX6_divesOf_90 zm_X6_97 zw_X6_heldTo zs_X6_heldTo (m_heldTo) (by decide) (Nat.le_of_ble_eq_true rfl) ?_
    exact za_iret hM dX6_divesOf_93 ⟨by rw [h3]; rfl, rfl⟩

set_option maxRecDepth 20000 in
set_option maxHeartbeats 4000000 in
theorem m_earnsOf {g : zG} {σ : zSto} {τ : zTn} {p : Nat} (hp : p < 8) (hk : zlt (τ 3 p) 6) : zEd g 2 yX6_earnsOf cX6_earnsOf 2 (some .int) [.ref (zad g 34), .int (nI p)] (zpm σ τ) (some (.int (p_earn (τ 3 p)))) (zpm σ (τ)) := by
  refine zev_intro (own := RX6) (lv := [some (.ref (zad g 34)), some (.int (nI p))]) (by decide +kernel) rfl (Nat.le_of_ble_eq_true rfl) rfl (fun C hM hN => ?_)
  refine za_aload_n dX6_earnsOf_0 rfl ?_
  refine za_iload_n dX6_earnsOf_1 rfl ?_
  refine za_iconst (nI 0) dX6_earnsOf_2 (by decide) ?_
  refine za_cV2 dX6_earnsOf_3 zm_X6_55 zw_X6_its zv_X6_its (m_its hp (by decide)) (by decide) rfl rfl rfl (Nat.le_of_ble_eq_true rfl) ?_
  obtain h3 | h3 | h3 | h3 | h3 | h3 := zlt6' hk
  · rw [show τ (3 + 0) p = nI 0 from h3]
    refine za_tabO 46 dX6_earnsOf_6 (by decide) (by decide) ?_
    refine za_iconst (nI 2) dX6_earnsOf_46 (by decide) ?_
    exact za_iret hM dX6_earnsOf_47 ⟨by rw [h3]; rfl, rfl⟩
  · rw [show τ (3 + 0) p = nI 1 from h3]
    refine za_tabK (34) 40 dX6_earnsOf_6 (by decide) (by decide) (by decide) (by decide) ?_
    refine za_iconst (nI 3) dX6_earnsOf_40 (by decide) ?_
    exact za_iret hM dX6_earnsOf_41 ⟨by rw [h3]; rfl, rfl⟩
  · rw [show τ (3 + 0) p = nI 2 from h3]
    refine za_tabK (38) 44 dX6_earnsOf_6 (by decide) (by decide) (by decide) (by decide) ?_
    refine za_iconst (nI 0) dX6_earnsOf_44 (by decide) ?_
    exact za_iret hM dX6_earnsOf_45 ⟨by rw [h3]; rfl, rfl⟩
  · rw [show τ (3 + 0) p = nI 3 from h3]
    refine za_tabK (36) 42 dX6_earnsOf_6 (by decide) (by decide) (by decide) (by decide) ?_
    refine za_iconst (nI 4) dX6_earnsOf_42 (by decide) ?_
    exact za_iret hM dX6_earnsOf_43 ⟨by rw [h3]; rfl, rfl⟩
  · rw [show τ (3 + 0) p = nI 4 from h3]
    refine za_tabK (38) 44 dX6_earnsOf_6 (by decide) (by decide) (by decide) (by decide) ?_
    refine za_iconst (nI 0) dX6_earnsOf_44 (by decide) ?_
    exact za_iret hM dX6_earnsOf_45 ⟨by rw [h3]; rfl, rfl⟩
  · rw [show τ (3 + 0) p = nI 5 from h3]
    refine za_tabK (38) 44 dX6_earnsOf_6 (by decide) (by decide) (by decide) (by decide) ?_
    refine za_iconst (nI 0) dX6_earnsOf_44 (by decide) ?_
    exact za_iret hM dX6_earnsOf_45 ⟨by rw [h3]; rfl, rfl⟩

set_option maxRecDepth 20000 in
set_option maxHeartbeats 4000000 in
theorem m_adds {g : zG} {σ : zSto} {τ : zTn} {n : Nat} {k : Int32} (hp : n < 8) (hn : τ 0 3 = nI n) : zEd g 1 yX6_adds cX6_adds 3 (some .int) [.ref (zad g 34), .int k] (zpm σ τ) (some (.int (nI n))) (zpm σ (p_ad τ k)) := by
  refine zev_intro (own := RX6) (lv := [some (.ref (zad g 34)), some (.int k), none]) (by decide +kernel) rfl (Nat.le_of_ble_eq_true rfl) rfl (fun C hM hN => ?_)
  refine za_aload_n dX6_adds_0 rfl ?_
  refine za_getR dX6_adds_1 zf_X6_7 rfl rfl ?_
  refine za_iconst (nI 1) dX6_adds_4 (by decide) ?_
  refine zm_ald1 dX6_adds_5 ?_
  rw [hn]
  refine za_istore_n (lv' := [_, _, _]) dX6_adds_6 hN (by decide) rfl ?_
  refine za_aload_n dX6_adds_7 rfl ?_
  refine za_getR dX6_adds_8 zf_X6_7 rfl rfl ?_
  refine za_iconst (nI 1) dX6_adds_11 (by decide) ?_
  refine za_dup2 dX6_adds_12 rfl rfl ?_
  refine zm_ald1 dX6_adds_13 ?_
  refine za_iconst (nI 1) dX6_adds_14 (by decide) ?_
  refine za_iadd dX6_adds_15 ?_
  refine zm_ast1 dX6_adds_16 ?_
  refine za_aload_n dX6_adds_17 rfl ?_
  refine za_getR dX6_adds_18 zf_X6_7 rfl rfl ?_
  refine za_iload_n dX6_adds_21 rfl ?_
  refine za_iconst (nI 0) dX6_adds_22 (by decide) ?_
  refine za_cS2 dX6_adds_23 zm_X6_42 zw_X6_spot zs_X6_spot (m_spot) (by decide) (Nat.le_of_ble_eq_true rfl) ?_
  refine za_iload_n dX6_adds_26 rfl ?_
  refine zm_astP dX6_adds_27 hp (by decide) ?_
  refine za_aload_n dX6_adds_28 rfl ?_
  refine za_getR dX6_adds_29 zf_X6_7 rfl rfl ?_
  refine za_iload_n dX6_adds_32 rfl ?_
  refine za_iconst (nI 1) dX6_adds_33 (by decide) ?_
  refine za_cS2 dX6_adds_34 zm_X6_42 zw_X6_spot zs_X6_spot (m_spot) (by decide) (Nat.le_of_ble_eq_true rfl) ?_
  refine za_iconst (nI 0) dX6_adds_37 (by decide) ?_
  refine zm_astP dX6_adds_38 hp (by decide) ?_
  refine za_aload_n dX6_adds_39 rfl ?_
  refine za_getR dX6_adds_40 zf_X6_7 rfl rfl ?_
  refine za_iload_n dX6_adds_43 rfl ?_
  refine za_iconst (nI 2) dX6_adds_44 (by decide) ?_
  refine za_cS2 dX6_adds_45 zm_X6_42 zw_X6_spot zs_X6_spot (m_spot) (by decide) (Nat.le_of_ble_eq_true rfl) ?_
  refine za_bipush (nI 20) dX6_adds_48 (by decide) ?_
  refine zm_astP dX6_adds_50 hp (by decide) ?_
  refine za_aload_n dX6_adds_51 rfl ?_
  refine za_getR dX6_adds_52 zf_X6_7 rfl rfl ?_
  refine za_iload_n dX6_adds_55 rfl ?_
  refine za_iconst (nI 3) dX6_adds_56 (by decide) ?_
  refine za_cS2 dX6_adds_57 zm_X6_42 zw_X6_spot zs_X6_spot (m_spot) (by decide) (Nat.le_of_ble_eq_true rfl) ?_
  refine za_iconst (nI 0) dX6_adds_60 (by decide) ?_
  refine zm_astP dX6_adds_61 hp (by decide) ?_
  refine za_iload_n dX6_adds_62 rfl ?_
  exact za_iret hM dX6_adds_63 ⟨rfl, by rw [← p_ad_eq (n := n) (by rw [hn]; exact zn_nI (by omega))]⟩

theorem zi6 {a k : Nat} (ha : a < 6) (hk : k < 6) : nI a = nI k ↔ a = k := nI_eq (by omega) (by omega)

set_option maxRecDepth 20000 in
set_option maxHeartbeats 4000000 in
theorem m_isUnder {g : zG} {σ : zSto} {a b : Nat} (ha : a < 6) (hb : b < 6) : zEd g 0 yX6_isUnder cX6_isUnder 2 (some .boolean) [.int (nI a), .int (nI b)] σ (some (.int (zb (p_und a b)))) σ := by
  refine zev_intro (own := RX6) (lv := [some (.int (nI a)), some (.int (nI b))]) (by decide +kernel) rfl (Nat.le_of_ble_eq_true rfl) rfl (fun C hM hN => ?_)
  refine za_iload_n dX6_isUnder_0 rfl ?_
  refine za_if_eq 29 dX6_isUnder_1 (by decide) (fun c1 => ?_) (fun c1 => ?_)
  · have d1 : b = 0 := zz0 c1 (by omega)
    refine za_iconst (nI 1) dX6_isUnder_29 (by decide) ?_
    refine za_goto 34 dX6_isUnder_30 (by decide) ?_
    exact za_zretG hM dX6_isUnder_34 (by decide) ⟨by first | exact congrArg (fun z => some (Value.int z)) (zb_1 (by omega)).symm | exact congrArg (fun z => some (Value.int z)) (zb_f (by omega)).symm, rfl⟩
  · have d1 : ¬ b = 0 := zz1 c1
    refine za_iload_n dX6_isUnder_4 rfl ?_
    refine za_iload_n dX6_isUnder_5 rfl ?_
    refine za_icmp_eq 29 dX6_isUnder_6 (by decide) (fun c6 => ?_) (fun c6 => ?_)
    · have d6 : a = b := (zi6 ha hb).mp c6
      refine za_iconst (nI 1) dX6_isUnder_29 (by decide) ?_
      refine za_goto 34 dX6_isUnder_30 (by decide) ?_
      exact za_zretG hM dX6_isUnder_34 (by decide) ⟨by first | exact congrArg (fun z => some (Value.int z)) (zb_1 (by omega)).symm | exact congrArg (fun z => some (Value.int z)) (zb_f (by omega)).symm, rfl⟩
    · have d6 : ¬ a = b := fun z => c6 (by rw [z])
      refine za_iload_n dX6_isUnder_9 rfl ?_
      refine za_iconst (nI 4) dX6_isUnder_10 (by decide) ?_
      refine za_icmp_ne 19 dX6_isUnder_11 (by decide) (fun c11 => ?_) (fun c11 => ?_)
      · have d11 : ¬ a = 4 := fun z => c11 (by rw [z])
        refine za_iload_n dX6_isUnder_19 rfl ?_
        refine za_iconst (nI 5) dX6_isUnder_20 (by decide) ?_
        refine za_icmp_ne 33 dX6_isUnder_21 (by decide) (fun c21 => ?_) (fun c21 => ?_)
        · have d21 : ¬ a = 5 := fun z => c21 (by rw [z])
          refine za_iconst (nI 0) dX6_isUnder_33 (by decide) ?_
          exact za_zretG hM dX6_isUnder_34 (by decide) ⟨by first | exact congrArg (fun z => some (Value.int z)) (zb_1 (by omega)).symm | exact congrArg (fun z => some (Value.int z)) (zb_f (by omega)).symm, rfl⟩
        · have d21 : a = 5 := (zi6 ha (by decide)).mp c21
          refine za_iload_n dX6_isUnder_24 rfl ?_
          refine za_iconst (nI 2) dX6_isUnder_25 (by decide) ?_
          refine za_icmp_ne 33 dX6_isUnder_26 (by decide) (fun c26 => ?_) (fun c26 => ?_)
          · have d26 : ¬ b = 2 := fun z => c26 (by rw [z])
            refine za_iconst (nI 0) dX6_isUnder_33 (by decide) ?_
            exact za_zretG hM dX6_isUnder_34 (by decide) ⟨by first | exact congrArg (fun z => some (Value.int z)) (zb_1 (by omega)).symm | exact congrArg (fun z => some (Value.int z)) (zb_f (by omega)).symm, rfl⟩
          · have d26 : b = 2 := (zi6 hb (by decide)).mp c26
            refine za_iconst (nI 1) dX6_isUnder_29 (by decide) ?_
            refine za_goto 34 dX6_isUnder_30 (by decide) ?_
            exact za_zretG hM dX6_isUnder_34 (by decide) ⟨by first | exact congrArg (fun z => some (Value.int z)) (zb_1 (by omega)).symm | exact congrArg (fun z => some (Value.int z)) (zb_f (by omega)).symm, rfl⟩
      · have d11 : a = 4 := (zi6 ha (by decide)).mp c11
        refine za_iload_n dX6_isUnder_14 rfl ?_
        refine za_iconst (nI 1) dX6_isUnder_15 (by decide) ?_
        refine za_icmp_eq 29 dX6_isUnder_16 (by decide) (fun c16 => ?_) (fun c16 => ?_)
        · have d16 : b = 1 := (zi6 hb (by decide)).mp c16
          refine za_iconst (nI 1) dX6_isUnder_29 (by decide) ?_
          refine za_goto 34 dX6_isUnder_30 (by decide) ?_
          exact za_zretG hM dX6_isUnder_34 (by decide) ⟨by first | exact congrArg (fun z => some (Value.int z)) (zb_1 (by omega)).symm | exact congrArg (fun z => some (Value.int z)) (zb_f (by omega)).symm, rfl⟩
        · have d16 : ¬ b = 1 := fun z => c16 (by rw [z])
          refine za_iload_n dX6_isUnder_19 rfl ?_
          refine za_iconst (nI 5) dX6_isUnder_20 (by decide) ?_
          refine za_icmp_ne 33 dX6_isUnder_21 (by decide) (fun c21 => ?_) (fun c21 => ?_)
          · have d21 : ¬ a = 5 := fun z => c21 (by rw [z])
            refine za_iconst (nI 0) dX6_isUnder_33 (by decide) ?_
            exact za_zretG hM dX6_isUnder_34 (by decide) ⟨by first | exact congrArg (fun z => some (Value.int z)) (zb_1 (by omega)).symm | exact congrArg (fun z => some (Value.int z)) (zb_f (by omega)).symm, rfl⟩
          · have d21 : a = 5 := (zi6 ha (by decide)).mp c21
            refine za_iload_n dX6_isUnder_24 rfl ?_
            refine za_iconst (nI 2) dX6_isUnder_25 (by decide) ?_
            refine za_icmp_ne 33 dX6_isUnder_26 (by decide) (fun c26 => ?_) (fun c26 => ?_)
            · have d26 : ¬ b = 2 := fun z => c26 (by rw [z])
              refine za_iconst (nI 0) dX6_isUnder_33 (by decide) ?_
              exact za_zretG hM dX6_isUnder_34 (by decide) ⟨by first | exact congrArg (fun z => some (Value.int z)) (zb_1 (by omega)).symm | exact congrArg (fun z => some (Value.int z)) (zb_f (by omega)).symm, rfl⟩
            · have d26 : b = 2 := (zi6 hb (by decide)).mp c26
              refine za_iconst (nI 1) dX6_isUnder_29 (by decide) ?_
              refine za_goto 34 dX6_isUnder_30 (by decide) ?_
              exact za_zretG hM dX6_isUnder_34 (by decide) ⟨by first | exact congrArg (fun z => some (Value.int z)) (zb_1 (by omega)).symm | exact congrArg (fun z => some (Value.int z)) (zb_f (by omega)).symm, rfl⟩

theorem p_v13_eq {τ : zTn} {p q : Nat} (hs : p_side τ p q < 2) : zup (zup τ 5 p (τ 5 p - p_thr (τ 3 p) (τ 5 p))) (1 + p_side τ p q) q (zmin (τ (1 + p_side τ p q) q + p_thr (τ 3 p) (τ 5 p)) (nI 9999)) = p_v13 τ p q := by
  unfold p_v13 p_v3 p_v2
  rw [zup_comm _ _ _ (fun z => by omega), zup_ne (a := 5) (b := p) _ _ (fun z => by omega)]

set_option maxRecDepth 20000 in
set_option maxHeartbeats 4000000 in
theorem m_comes {g : zG} {σ : zSto} {τ : zTn} {p q B : Nat} (hp : p < 8) (hq : q < 6) (hI : zTI B τ) (hB : B ≤ 2000000) : zEd g 4 yX6_comes cX6_comes 6 none [.ref (zad g 34), .int (nI p), .int (nI q)] (zpm σ τ) none (zpm σ (p_visit τ p q)) := by
  refine zev_intro (own := RX6) (lv := [some (.ref (zad g 34)), some (.int (nI p)), some (.int (nI q)), none, none, none]) (by decide +kernel) rfl (Nat.le_of_ble_eq_true rfl) rfl (fun C hM hN => ?_)
  have hI1 := zTI_v1 hI hp
  have hI3 := zTI_v13 hI1 hp hq
  have hk : zlt (τ 3 p) 6 := hI.2.2.2.2.2.2.1 p hp
  have hb := hI.2.2.1
  have hdy := hI.1
  have hs : p_side (p_v1 τ p) p q < 2 := p_side_lt hb
  refine za_aload_n dX6_comes_0 rfl ?_
  refine za_getR dX6_comes_1 zf_X6_7 rfl rfl ?_
  refine za_iload_n dX6_comes_4 rfl ?_
  refine za_iconst (nI 2) dX6_comes_5 (by decide) ?_
  refine za_cS2 dX6_comes_6 zm_X6_42 zw_X6_spot zs_X6_spot (m_spot) (by decide) (Nat.le_of_ble_eq_true rfl) ?_
  refine za_aload_n dX6_comes_9 rfl ?_
  refine za_iload_n dX6_comes_10 rfl ?_
  refine za_iconst (nI 2) dX6_comes_11 (by decide) ?_
  refine za_cV2 dX6_comes_12 zm_X6_55 zw_X6_its zv_X6_its (m_its hp (by decide)) (by decide) rfl rfl rfl (Nat.le_of_ble_eq_true rfl) ?_
  refine za_aload_n dX6_comes_15 rfl ?_
  refine za_iload_n dX6_comes_16 rfl ?_
  refine za_cV1 dX6_comes_17 zm_X6_116 zw_X6_earnsOf zv_X6_earnsOf (m_earnsOf hp hk) (by decide) rfl rfl rfl (Nat.le_of_ble_eq_true rfl) ?_
  refine za_iadd dX6_comes_20 ?_
  refine za_sipush (nI 9999) dX6_comes_21 (by decide) ?_
  refine za_cS2 dX6_comes_24 zm_X6_97 zw_X6_heldTo zs_X6_heldTo (m_heldTo) (by decide) (Nat.le_of_ble_eq_true rfl) ?_
  refine zm_astP dX6_comes_27 hp (by decide) ?_
  rw [show zup τ (3 + 2) p (zmin (τ (3 + 2) p + p_earn (τ 3 p)) (nI 9999)) = p_v1 τ p from rfl]
  refine za_aload_n dX6_comes_28 rfl ?_
  refine za_iload_n dX6_comes_29 rfl ?_
  refine za_cV1 dX6_comes_30 zm_X6_113 zw_X6_throwsOf zv_X6_throwsOf (m_throwsOf hp hk (hI1.2.2.2.2.2.2.2 p hp)) (by decide) rfl rfl rfl (Nat.le_of_ble_eq_true rfl) ?_
  refine za_istore_n (lv' := [_, _, _, _, _, _]) dX6_comes_33 hN (by decide) rfl ?_
  refine za_iload_n dX6_comes_34 rfl ?_
  refine za_aload_n dX6_comes_35 rfl ?_
  refine za_iload_n dX6_comes_36 rfl ?_
  refine za_iload_n dX6_comes_37 rfl ?_
  refine za_cV2 dX6_comes_38 zm_X6_82 zw_X6_sideOf zv_X6_sideOf (m_sideOf hp hq hk hb hdy hB) (by decide) rfl rfl rfl (Nat.le_of_ble_eq_true rfl) ?_
  refine za_cS2 dX6_comes_41 zm_X6_52 zw_X6_basinSpot zs_X6_basinSpot (m_basinSpot) (by decide) (Nat.le_of_ble_eq_true rfl) ?_
  refine za_istore (lv' := [_, _, _, _, _, _]) dX6_comes_44 hN (by decide) rfl ?_
  refine za_aload_n dX6_comes_46 rfl ?_
  refine za_getR dX6_comes_47 zf_X6_7 rfl rfl ?_
  refine za_iload_n dX6_comes_50 rfl ?_
  refine za_iconst (nI 2) dX6_comes_51 (by decide) ?_
  refine za_cS2 dX6_comes_52 zm_X6_42 zw_X6_spot zs_X6_spot (m_spot) (by decide) (Nat.le_of_ble_eq_true rfl) ?_
  refine za_dup2 dX6_comes_55 rfl rfl ?_
  refine zm_aldP dX6_comes_56 hp (by decide) ?_
  refine za_iload_n dX6_comes_57 rfl ?_
  refine za_isub dX6_comes_58 ?_
  refine zm_astP dX6_comes_59 hp (by decide) ?_
  refine za_aload_n dX6_comes_60 rfl ?_
  refine za_getR dX6_comes_61 zf_X6_7 rfl rfl ?_
  refine za_iload dX6_comes_64 rfl ?_
  refine za_aload_n dX6_comes_66 rfl ?_
  refine za_getR dX6_comes_67 zf_X6_7 rfl rfl ?_
  refine za_iload dX6_comes_70 rfl ?_
  refine zm_aldB dX6_comes_72 hq hs ?_
  rw [zup_ne (a := 1 + p_side (p_v1 τ p) p q) _ _ (fun z => by omega)]
  refine za_iload_n dX6_comes_73 rfl ?_
  refine za_iadd dX6_comes_74 ?_
  refine za_sipush (nI 9999) dX6_comes_75 (by decide) ?_
  refine za_cS2 dX6_comes_78 zm_X6_97 zw_X6_heldTo zs_X6_heldTo (m_heldTo) (by decide) (Nat.le_of_ble_eq_true rfl) ?_
  refine zm_astB dX6_comes_81 hq hs ?_
  rw [show zup (zup (p_v1 τ p) (3 + 2) p _) (1 + p_side (p_v1 τ p) p q) q _ = p_v13 (p_v1 τ p) p q from p_v13_eq hs]
  refine za_aload_n dX6_comes_82 rfl ?_
  refine za_iload_n dX6_comes_83 rfl ?_
  refine za_iload_n dX6_comes_84 rfl ?_
  refine za_cV2 dX6_comes_85 zm_X6_119 zw_X6_divesOf zv_X6_divesOf (m_divesOf hp hq (hI3.2.2.2.2.2.2.1 p hp)) (by decide) rfl rfl rfl (Nat.le_of_ble_eq_true rfl) ?_
  refine za_istore (lv' := [_, _, _, _, _, _]) dX6_comes_88 hN (by decide) rfl ?_
  refine za_aload_n dX6_comes_90 rfl ?_
  refine za_getR dX6_comes_91 zf_X6_7 rfl rfl ?_
  refine za_iload_n dX6_comes_94 rfl ?_
  refine za_aload_n dX6_comes_95 rfl ?_
  refine za_iload_n dX6_comes_96 rfl ?_
  refine za_cV1 dX6_comes_97 zm_X6_100 zw_X6_fuller zv_X6_fuller (m_fuller hq) (by decide) rfl rfl rfl (Nat.le_of_ble_eq_true rfl) ?_
  refine za_cS2 dX6_comes_100 zm_X6_52 zw_X6_basinSpot zs_X6_basinSpot (m_basinSpot) (by decide) (Nat.le_of_ble_eq_true rfl) ?_
  refine za_dup2 dX6_comes_103 rfl rfl ?_
  refine zm_aldB dX6_comes_104 hq p_full_lt ?_
  refine za_iload dX6_comes_105 rfl ?_
  refine za_isub dX6_comes_107 ?_
  refine zm_astB dX6_comes_108 hq p_full_lt ?_
  refine za_aload_n dX6_comes_109 rfl ?_
  refine za_getR dX6_comes_110 zf_X6_7 rfl rfl ?_
  refine za_iload_n dX6_comes_113 rfl ?_
  refine za_iconst (nI 2) dX6_comes_114 (by decide) ?_
  refine za_cS2 dX6_comes_115 zm_X6_42 zw_X6_spot zs_X6_spot (m_spot) (by decide) (Nat.le_of_ble_eq_true rfl) ?_
  refine za_aload_n dX6_comes_118 rfl ?_
  refine za_iload_n dX6_comes_119 rfl ?_
  refine za_iconst (nI 2) dX6_comes_120 (by decide) ?_
  refine za_cV2 dX6_comes_121 zm_X6_55 zw_X6_its zv_X6_its (m_its hp (by decide)) (by decide) rfl rfl rfl (Nat.le_of_ble_eq_true rfl) ?_
  refine za_iload dX6_comes_124 rfl ?_
  refine za_iadd dX6_comes_126 ?_
  refine za_sipush (nI 9999) dX6_comes_127 (by decide) ?_
  refine za_cS2 dX6_comes_130 zm_X6_97 zw_X6_heldTo zs_X6_heldTo (m_heldTo) (by decide) (Nat.le_of_ble_eq_true rfl) ?_
  refine zm_astP dX6_comes_133 hp (by decide) ?_
  exact za_vret hM dX6_comes_134 ⟨rfl, rfl⟩

set_option maxRecDepth 20000 in
set_option maxHeartbeats 4000000 in
theorem m_net {g : zG} {σ : zSto} {τ : zTn} {q : Nat} (hq : q < 6) (hh : zlt (τ 0 1) 64) : zEd g 1 yX6_net cX6_net 5 none [.ref (zad g 34), .int (nI q)] (zpm σ τ) none (zpm σ (p_net τ q)) := by
  refine zev_intro (own := RX6) (lv := [some (.ref (zad g 34)), some (.int (nI q)), none, none, none]) (by decide +kernel) rfl (Nat.le_of_ble_eq_true rfl) rfl (fun C hM hN => ?_)
  have hm : (τ 0 1 &&& (p_bit q ^^^ (-1))) ||| p_bit q = τ 0 1 ||| p_bit q := by
    obtain ⟨k, hk, e⟩ := hh
    rw [e]
    exact p_bit_mo ⟨k, hk⟩ ⟨q, hq⟩
  refine za_aload_n dX6_net_0 rfl ?_
  refine za_getR dX6_net_1 zf_X6_7 rfl rfl ?_
  refine za_iload_n dX6_net_4 rfl ?_
  refine za_iconst (nI 0) dX6_net_5 (by decide) ?_
  refine za_cS2 dX6_net_6 zm_X6_52 zw_X6_basinSpot zs_X6_basinSpot (m_basinSpot) (by decide) (Nat.le_of_ble_eq_true rfl) ?_
  refine zm_aldB dX6_net_9 hq (by decide) ?_
  refine za_istore_n (lv' := [_, _, _, _, _]) dX6_net_10 hN (by decide) rfl ?_
  refine za_aload_n dX6_net_11 rfl ?_
  refine za_getR dX6_net_12 zf_X6_7 rfl rfl ?_
  refine za_iload_n dX6_net_15 rfl ?_
  refine za_iconst (nI 1) dX6_net_16 (by decide) ?_
  refine za_cS2 dX6_net_17 zm_X6_52 zw_X6_basinSpot zs_X6_basinSpot (m_basinSpot) (by decide) (Nat.le_of_ble_eq_true rfl) ?_
  refine zm_aldB dX6_net_20 hq (by decide) ?_
  refine za_istore_n (lv' := [_, _, _, _, _]) dX6_net_21 hN (by decide) rfl ?_
  refine za_aload_n dX6_net_22 rfl ?_
  refine za_getR dX6_net_23 zf_X6_7 rfl rfl ?_
  refine za_iconst (nI 2) dX6_net_26 (by decide) ?_
  refine zm_ald2 dX6_net_27 ?_
  refine za_iconst (nI 1) dX6_net_28 (by decide) ?_
  refine za_iload_n dX6_net_29 rfl ?_
  refine za_ishl dX6_net_30 ?_
  refine za_iconst (-1) dX6_net_31 (by decide) ?_
  refine za_ixor dX6_net_32 ?_
  refine za_iand dX6_net_33 ?_
  refine za_istore (lv' := [_, _, _, _, _]) dX6_net_34 hN (by decide) rfl ?_
  refine za_aload_n dX6_net_36 rfl ?_
  refine za_getR dX6_net_37 zf_X6_7 rfl rfl ?_
  refine za_iconst (nI 2) dX6_net_40 (by decide) ?_
  refine za_iload_n dX6_net_41 rfl ?_
  refine za_iload_n dX6_net_42 rfl ?_
  refine za_icmp_le 55 dX6_net_43 (by decide) (fun c43 => ?_) (fun c43 => ?_)
  · refine za_iload_n dX6_net_55 rfl ?_
    refine za_iload_n dX6_net_56 rfl ?_
    refine za_icmp_le 65 dX6_net_57 (by decide) (fun c57 => ?_) (fun c57 => ?_)
    · refine za_aload_n dX6_net_65 rfl ?_
      refine za_getR dX6_net_66 zf_X6_7 rfl rfl ?_
      refine za_iconst (nI 2) dX6_net_69 (by decide) ?_
      refine zm_ald2 dX6_net_70 ?_
      refine zm_ast2 dX6_net_71 ?_
      refine za_aload_n dX6_net_72 rfl ?_
      refine za_getR dX6_net_73 zf_X6_7 rfl rfl ?_
      refine za_iload_n dX6_net_76 rfl ?_
      refine za_iconst (nI 0) dX6_net_77 (by decide) ?_
      refine za_cS2 dX6_net_78 zm_X6_52 zw_X6_basinSpot zs_X6_basinSpot (m_basinSpot) (by decide) (Nat.le_of_ble_eq_true rfl) ?_
      refine za_iload_n dX6_net_81 rfl ?_
      refine za_iconst (nI 2) dX6_net_82 (by decide) ?_
      refine za_idiv dX6_net_83 (by decide) ?_
      refine zm_astB dX6_net_84 hq (by decide) ?_
      refine za_aload_n dX6_net_85 rfl ?_
      refine za_getR dX6_net_86 zf_X6_7 rfl rfl ?_
      refine za_iload_n dX6_net_89 rfl ?_
      refine za_iconst (nI 1) dX6_net_90 (by decide) ?_
      refine za_cS2 dX6_net_91 zm_X6_52 zw_X6_basinSpot zs_X6_basinSpot (m_basinSpot) (by decide) (Nat.le_of_ble_eq_true rfl) ?_
      refine za_iload_n dX6_net_94 rfl ?_
      refine za_iconst (nI 2) dX6_net_95 (by decide) ?_
      refine za_idiv dX6_net_96 (by decide) ?_
      refine zm_astB dX6_net_97 hq (by decide) ?_
      exact za_vret hM dX6_net_98 ⟨rfl, by first | (unfold p_net; rw [p_hold_1 (Int32.not_le.mp c43), ← hm]; rfl) | (unfold p_net; rw [p_hold_2 (Int32.not_le.mp c57)]; rfl) | (unfold p_net; rw [p_hold_3 (Int32.not_lt.mpr c43) (Int32.not_lt.mpr c57)] <;> rfl)⟩
    · refine za_iload dX6_net_60 rfl ?_
      refine za_goto 71 dX6_net_62 (by decide) ?_
      refine zm_ast2 dX6_net_71 ?_
      refine za_aload_n dX6_net_72 rfl ?_
      refine za_getR dX6_net_73 zf_X6_7 rfl rfl ?_
      refine za_iload_n dX6_net_76 rfl ?_
      refine za_iconst (nI 0) dX6_net_77 (by decide) ?_
      refine za_cS2 dX6_net_78 zm_X6_52 zw_X6_basinSpot zs_X6_basinSpot (m_basinSpot) (by decide) (Nat.le_of_ble_eq_true rfl) ?_
      refine za_iload_n dX6_net_81 rfl ?_
      refine za_iconst (nI 2) dX6_net_82 (by decide) ?_
      refine za_idiv dX6_net_83 (by decide) ?_
      refine zm_astB dX6_net_84 hq (by decide) ?_
      refine za_aload_n dX6_net_85 rfl ?_
      refine za_getR dX6_net_86 zf_X6_7 rfl rfl ?_
      refine za_iload_n dX6_net_89 rfl ?_
      refine za_iconst (nI 1) dX6_net_90 (by decide) ?_
      refine za_cS2 dX6_net_91 zm_X6_52 zw_X6_basinSpot zs_X6_basinSpot (m_basinSpot) (by decide) (Nat.le_of_ble_eq_true rfl) ?_
      refine za_iload_n dX6_net_94 rfl ?_
      refine za_iconst (nI 2) dX6_net_95 (by decide) ?_
      refine za_idiv dX6_net_96 (by decide) ?_
      refine zm_astB dX6_net_97 hq (by decide) ?_
      exact za_vret hM dX6_net_98 ⟨rfl, by first | (unfold p_net; rw [p_hold_1 (Int32.not_le.mp c43), ← hm]; rfl) | (unfold p_net; rw [p_hold_2 (Int32.not_le.mp c57)]; rfl) | (unfold p_net; rw [p_hold_3 (Int32.not_lt.mpr c43) (Int32.not_lt.mpr c57)] <;> rfl)⟩
  · refine za_iload dX6_net_46 rfl ?_
    refine za_iconst (nI 1) dX6_net_48 (by decide) ?_
    refine za_iload_n dX6_net_49 rfl ?_
    refine za_ishl dX6_net_50 ?_
    refine za_ior dX6_net_51 ?_
    refine za_goto 71 dX6_net_52 (by decide) ?_
    refine zm_ast2 dX6_net_71 ?_
    refine za_aload_n dX6_net_72 rfl ?_
    refine za_getR dX6_net_73 zf_X6_7 rfl rfl ?_
    refine za_iload_n dX6_net_76 rfl ?_
    refine za_iconst (nI 0) dX6_net_77 (by decide) ?_
    refine za_cS2 dX6_net_78 zm_X6_52 zw_X6_basinSpot zs_X6_basinSpot (m_basinSpot) (by decide) (Nat.le_of_ble_eq_true rfl) ?_
    refine za_iload_n dX6_net_81 rfl ?_
    refine za_iconst (nI 2) dX6_net_82 (by decide) ?_
    refine za_idiv dX6_net_83 (by decide) ?_
    refine zm_astB dX6_net_84 hq (by decide) ?_
    refine za_aload_n dX6_net_85 rfl ?_
    refine za_getR dX6_net_86 zf_X6_7 rfl rfl ?_
    refine za_iload_n dX6_net_89 rfl ?_
    refine za_iconst (nI 1) dX6_net_90 (by decide) ?_
    refine za_cS2 dX6_net_91 zm_X6_52 zw_X6_basinSpot zs_X6_basinSpot (m_basinSpot) (by decide) (Nat.le_of_ble_eq_true rfl) ?_
    refine za_iload_n dX6_net_94 rfl ?_
    refine za_iconst (nI 2) dX6_net_95 (by decide) ?_
    refine za_idiv dX6_net_96 (by decide) ?_
    refine zm_astB dX6_net_97 hq (by decide) ?_
    exact za_vret hM dX6_net_98 ⟨rfl, by first | (unfold p_net; rw [p_hold_1 (Int32.not_le.mp c43), ← hm]; rfl) | (unfold p_net; rw [p_hold_2 (Int32.not_le.mp c57)]; rfl) | (unfold p_net; rw [p_hold_3 (Int32.not_lt.mpr c43) (Int32.not_lt.mpr c57)] <;> rfl)⟩

set_option maxRecDepth 20000 in
set_option maxHeartbeats 4000000 in
theorem m_day {g : zG} {σ : zSto} {τ : zTn} {B : Nat} (hI : zTI B τ) (hB : B ≤ 2000000) : zEd g 5 yX6_day cX6_day 3 none [.ref (zad g 34)] (zpm σ τ) none (zpm σ (p_day τ)) := by
  refine zev_intro (own := RX6) (lv := [some (.ref (zad g 34)), none, none]) (by decide +kernel) rfl (Nat.le_of_ble_eq_true rfl) rfl (fun C hM hN => ?_)
  obtain ⟨n, h8, hn⟩ := hI.2.2.2.1
  have hloop : ∀ (m : Nat) (j : Nat), j + m = n → zAW g C 5 cX6_day RX6 7 [some (.ref (zad g 34)), some (.int (nI (p_q τ))), some (.int (nI j))] [] (zpm σ (p_vis τ (p_q τ) j)) := by
    intro m
    induction m with
    | zero =>
      intro j hj
      obtain rfl : j = n := by omega
      refine za_iload_n dX6_day_7 rfl ?_
      refine za_aload_n dX6_day_8 rfl ?_
      refine za_getR dX6_day_9 zf_X6_7 rfl rfl ?_
      refine za_iconst (nI 1) dX6_day_12 (by decide) ?_
      refine zm_ald1 dX6_day_13 ?_
      rw [p_vis_0 hI p_q_lt j (by omega), hn]
      refine za_icmp_ge 38 dX6_day_14 (by decide) (fun c14 => ?_) (fun c14 => absurd (nI_le (Nat.le_refl _) (by omega)) c14)
      refine za_aload_n dX6_day_38 rfl ?_
      refine za_iload_n dX6_day_39 rfl ?_
      refine za_cV1v dX6_day_40 zm_X6_133 zw_X6_net zv_X6_net (m_net p_q_lt (zTI_vis hI p_q_lt j (by omega)).2.1) (by decide) rfl rfl rfl (Nat.le_of_ble_eq_true rfl) ?_
      refine za_aload_n dX6_day_43 rfl ?_
      refine za_getR dX6_day_44 zf_X6_7 rfl rfl ?_
      refine za_iconst (nI 0) dX6_day_47 (by decide) ?_
      refine za_dup2 dX6_day_48 rfl rfl ?_
      refine zm_ald0 dX6_day_49 ?_
      refine za_iconst (nI 1) dX6_day_50 (by decide) ?_
      refine za_iadd dX6_day_51 ?_
      refine zm_ast0 dX6_day_52 ?_
      exact za_vret hM dX6_day_53 ⟨rfl, by unfold p_day; rw [show zn (τ 0 3) = j by rw [hn]; exact zn_nI (by omega)]; rfl⟩
    | succ m ih =>
      intro j hj
      refine za_iload_n dX6_day_7 rfl ?_
      refine za_aload_n dX6_day_8 rfl ?_
      refine za_getR dX6_day_9 zf_X6_7 rfl rfl ?_
      refine za_iconst (nI 1) dX6_day_12 (by decide) ?_
      refine zm_ald1 dX6_day_13 ?_
      rw [p_vis_0 hI p_q_lt j (by omega), hn]
      refine za_icmp_ge 38 dX6_day_14 (by decide) (fun c14 => absurd c14 (nI_ge (show j < n by omega) (by omega))) (fun c14 => ?_)
      refine za_aload_n dX6_day_17 rfl ?_
      refine za_iload_n dX6_day_18 rfl ?_
      refine za_iconst (nI 3) dX6_day_19 (by decide) ?_
      refine za_cV2 dX6_day_20 zm_X6_55 zw_X6_its zv_X6_its (m_its (by omega) (by decide)) (by decide) rfl rfl rfl (Nat.le_of_ble_eq_true rfl) ?_
      refine za_if_ne 32 dX6_day_23 (by decide) (fun c23 => ?_) (fun c23 => ?_)
      · refine za_iinc (nI (_ + 1)) (lv' := [_, _, _]) dX6_day_32 rfl hN (by decide) (znext _) rfl ?_
        refine za_goto 7 dX6_day_35 (by decide) ?_
        have hh := ih (j + 1) (by omega)
        first
          | (rw [p_vis_1 (by assumption)] at hh; exact hh)
          | (rw [p_vis_n (by assumption)] at hh; exact hh)
      · refine za_aload_n dX6_day_26 rfl ?_
        refine za_iload_n dX6_day_27 rfl ?_
        refine za_iload_n dX6_day_28 rfl ?_
        refine za_cV2v dX6_day_29 zm_X6_129 zw_X6_comes zv_X6_comes (m_comes (by omega) p_q_lt (zTI_vis hI p_q_lt j (by omega)) hB) (by decide) rfl rfl rfl (Nat.le_of_ble_eq_true rfl) ?_
        refine za_iinc (nI (_ + 1)) (lv' := [_, _, _]) dX6_day_32 rfl hN (by decide) (znext _) rfl ?_
        refine za_goto 7 dX6_day_35 (by decide) ?_
        have hh := ih (j + 1) (by omega)
        first
          | (rw [p_vis_1 (by assumption)] at hh; exact hh)
          | (rw [p_vis_n (by assumption)] at hh; exact hh)
  refine za_aload_n dX6_day_0 rfl ?_
  refine za_cV0 dX6_day_1 zm_X6_78 zw_X6_ofDay zv_X6_ofDay (m_ofDay hI.1 hB) (by decide) rfl rfl rfl (Nat.le_of_ble_eq_true rfl) ?_
  refine za_istore_n (lv' := [_, _, _]) dX6_day_4 hN (by decide) rfl ?_
  refine za_iconst (nI 0) dX6_day_5 (by decide) ?_
  refine za_istore_n (lv' := [_, _, _]) dX6_day_6 hN (by decide) rfl ?_
  exact hloop n 0 (by omega)

set_option maxRecDepth 20000 in
set_option maxHeartbeats 4000000 in
theorem m_daysGo {g : zG} {σ : zSto} {τ : zTn} {n B : Nat} (hI : zTI B τ) (hB : B ≤ 1000000) (hn : n ≤ 1000) : zEd g 6 yX6_daysGo cX6_daysGo 3 none [.ref (zad g 34), .int (nI n)] (zpm σ τ) none (zpm σ (p_days τ n)) := by
  refine zev_intro (own := RX6) (lv := [some (.ref (zad g 34)), some (.int (nI n)), none]) (by decide +kernel) rfl (Nat.le_of_ble_eq_true rfl) rfl (fun C hM hN => ?_)
  have hloop : ∀ (m : Nat) (j : Nat), j + m = n → zAW g C 6 cX6_daysGo RX6 2 [some (.ref (zad g 34)), some (.int (nI n)), some (.int (nI j))] [] (zpm σ (p_days τ j)) := by
    intro m
    induction m with
    | zero =>
      intro j hj
      obtain rfl : j = n := by omega
      refine za_iload_n dX6_daysGo_2 rfl ?_
      refine za_iload_n dX6_daysGo_3 rfl ?_
      refine za_icmp_ge 17 dX6_daysGo_4 (by decide) (fun c4 => ?_) (fun c4 => absurd (nI_le (Nat.le_refl _) (by omega)) c4)
      exact za_vret hM dX6_daysGo_17 ⟨by rfl, by rfl⟩
    | succ m ih =>
      intro j hj
      refine za_iload_n dX6_daysGo_2 rfl ?_
      refine za_iload_n dX6_daysGo_3 rfl ?_
      refine za_icmp_ge 17 dX6_daysGo_4 (by decide) (fun c4 => absurd c4 (nI_ge (show j < n by omega) (by omega))) (fun c4 => ?_)
      refine za_aload_n dX6_daysGo_7 rfl ?_
      refine za_cV0v dX6_daysGo_8 zm_X6_137 zw_X6_day zv_X6_day (m_day (zTI_days hI j) (by omega)) (by decide) rfl rfl rfl (Nat.le_of_ble_eq_true rfl) ?_
      refine za_iinc (nI (_ + 1)) (lv' := [_, _, _]) dX6_daysGo_11 rfl hN (by decide) (znext _) rfl ?_
      refine za_goto 2 dX6_daysGo_14 (by decide) ?_
      exact ih (j + 1) (by omega)
  refine za_iconst (nI 0) dX6_daysGo_0 (by decide) ?_
  refine za_istore_n (lv' := [_, _, _]) dX6_daysGo_1 hN (by decide) rfl ?_
  exact hloop n 0 (by omega)

set_option maxRecDepth 20000 in
set_option maxHeartbeats 4000000 in
theorem m_behind {g : zG} {σ : zSto} {τ : zTn} {i n B : Nat} (hi : i < 48) (hI : zTI B τ) (hB : B ≤ 1000000) (hn : n ≤ 1000) : zEd g 7 yX6_behind cX6_behind 3 (some .int) [.ref (zad g 34), .int (nI i), .int (nI n)] (zpm σ τ) (some (.int (zix (p_days τ n) i))) (zpm (zps σ 38 τ) τ) := by
  refine zev_intro (own := RX6) (lv := [some (.ref (zad g 34)), some (.int (nI i)), some (.int (nI n))]) (by decide +kernel) rfl (Nat.le_of_ble_eq_true rfl) rfl (fun C hM hN => ?_)
  refine za_aload_n dX6_behind_0 rfl ?_
  refine za_cV0v dX6_behind_1 zm_X6_149 zw_X6_laysAside zv_X6_laysAside (m_laysAside') (by decide) rfl rfl rfl (Nat.le_of_ble_eq_true rfl) ?_
  refine za_aload_n dX6_behind_4 rfl ?_
  refine za_iload_n dX6_behind_5 rfl ?_
  refine za_cV1v dX6_behind_6 zm_X6_144 zw_X6_daysGo zv_X6_daysGo (m_daysGo hI hB hn) (by decide) rfl rfl rfl (Nat.le_of_ble_eq_true rfl) ?_
  refine za_aload_n dX6_behind_9 rfl ?_
  refine za_aload_n dX6_behind_10 rfl ?_
  refine za_getR dX6_behind_11 zf_X6_7 rfl rfl ?_
  refine za_iload_n dX6_behind_14 rfl ?_
  refine zm_aldG dX6_behind_15 hi ?_
  refine za_cV1 dX6_behind_16 zm_X6_152 zw_X6_takesBack zv_X6_takesBack (m_takesBack') (by decide) rfl rfl rfl (Nat.le_of_ble_eq_true rfl) ?_
  exact za_iret hM dX6_behind_19 ⟨by rfl, by rfl⟩

theorem zor0 (x : Int32) : x ||| nI 0 = x := by
  apply Int32.toBitVec_inj.mp
  simp [nI]

set_option maxRecDepth 20000 in
set_option maxHeartbeats 4000000 in
theorem m_leftOnes {g : zG} {σ : zSto} {τ : zTn} {n B : Nat} (h8 : n < 9) (hn : τ 0 3 = nI n) (hI : zTI B τ) (hB : B ≤ 2000000) : zEd g 4 yX6_leftOnes cX6_leftOnes 3 (some .int) [.ref (zad g 34)] (zpm σ τ) (some (.int (p_lf τ n))) (zpm σ (τ)) := by
  refine zev_intro (own := RX6) (lv := [some (.ref (zad g 34)), none, none]) (by decide +kernel) rfl (Nat.le_of_ble_eq_true rfl) rfl (fun C hM hN => ?_)
  have hloop : ∀ (m : Nat) (j : Nat), j + m = n → zAW g C 4 cX6_leftOnes RX6 4 [some (.ref (zad g 34)), some (.int (p_lf τ j)), some (.int (nI j))] [] (zpm σ τ) := by
    intro m
    induction m with
    | zero =>
      intro j hj
      obtain rfl : j = n := by omega
      refine za_iload_n dX6_leftOnes_4 rfl ?_
      refine za_aload_n dX6_leftOnes_5 rfl ?_
      refine za_getR dX6_leftOnes_6 zf_X6_7 rfl rfl ?_
      refine za_iconst (nI 1) dX6_leftOnes_9 (by decide) ?_
      refine zm_ald1 dX6_leftOnes_10 ?_
      rw [hn]
      refine za_icmp_ge 51 dX6_leftOnes_11 (by decide) (fun c11 => ?_) (fun c11 => absurd (nI_le (Nat.le_refl _) (by omega)) c11)
      refine za_iload_n dX6_leftOnes_51 rfl ?_
      exact za_iret hM dX6_leftOnes_52 ⟨by rfl, by rfl⟩
    | succ m ih =>
      intro j hj
      refine za_iload_n dX6_leftOnes_4 rfl ?_
      refine za_aload_n dX6_leftOnes_5 rfl ?_
      refine za_getR dX6_leftOnes_6 zf_X6_7 rfl rfl ?_
      refine za_iconst (nI 1) dX6_leftOnes_9 (by decide) ?_
      refine zm_ald1 dX6_leftOnes_10 ?_
      rw [hn]
      refine za_icmp_ge 51 dX6_leftOnes_11 (by decide) (fun c11 => absurd c11 (nI_ge (show j < n by omega) (by omega))) (fun c11 => ?_)
      refine za_iload_n dX6_leftOnes_14 rfl ?_
      refine za_aload_n dX6_leftOnes_15 rfl ?_
      refine za_iload_n dX6_leftOnes_16 rfl ?_
      refine za_iconst (nI 3) dX6_leftOnes_17 (by decide) ?_
      refine za_cV2 dX6_leftOnes_18 zm_X6_55 zw_X6_its zv_X6_its (m_its (by omega) (by decide)) (by decide) rfl rfl rfl (Nat.le_of_ble_eq_true rfl) ?_
      refine za_if_ne 42 dX6_leftOnes_21 (by decide) (fun c21 => ?_) (fun c21 => ?_)
      · refine za_iconst (nI 0) dX6_leftOnes_42 (by decide) ?_
        refine za_ior dX6_leftOnes_43 ?_
        try rw [zor0]
        refine za_istore_n (lv' := [_, _, _]) dX6_leftOnes_44 hN (by decide) rfl ?_
        refine za_iinc (nI (_ + 1)) (lv' := [_, _, _]) dX6_leftOnes_45 rfl hN (by decide) (znext _) rfl ?_
        refine za_goto 4 dX6_leftOnes_48 (by decide) ?_
        have hh := ih (j + 1) (by omega)
        first
          | (rw [p_lf_1 (by assumption) (zz0 (by assumption) (by have := p_side_lt (τ := τ) (p := j) (q := p_q τ) hI.2.2.1; omega))] at hh; exact hh)
          | (rw [p_lf_0 (fun z => absurd z.1 (by assumption))] at hh; exact hh)
          | (rw [p_lf_0 (fun z => absurd z.2 (zz1 (by assumption)))] at hh; exact hh)
      · refine za_aload_n dX6_leftOnes_24 rfl ?_
        refine za_iload_n dX6_leftOnes_25 rfl ?_
        refine za_aload_n dX6_leftOnes_26 rfl ?_
        refine za_cV0 dX6_leftOnes_27 zm_X6_78 zw_X6_ofDay zv_X6_ofDay (m_ofDay hI.1 hB) (by decide) rfl rfl rfl (Nat.le_of_ble_eq_true rfl) ?_
        refine za_cV2 dX6_leftOnes_30 zm_X6_82 zw_X6_sideOf zv_X6_sideOf (m_sideOf (by omega) p_q_lt (hI.2.2.2.2.2.2.1 j (by omega)) hI.2.2.1 hI.1 hB) (by decide) rfl rfl rfl (Nat.le_of_ble_eq_true rfl) ?_
        refine za_if_ne 42 dX6_leftOnes_33 (by decide) (fun c33 => ?_) (fun c33 => ?_)
        · refine za_iconst (nI 0) dX6_leftOnes_42 (by decide) ?_
          refine za_ior dX6_leftOnes_43 ?_
          try rw [zor0]
          refine za_istore_n (lv' := [_, _, _]) dX6_leftOnes_44 hN (by decide) rfl ?_
          refine za_iinc (nI (_ + 1)) (lv' := [_, _, _]) dX6_leftOnes_45 rfl hN (by decide) (znext _) rfl ?_
          refine za_goto 4 dX6_leftOnes_48 (by decide) ?_
          have hh := ih (j + 1) (by omega)
          first
            | (rw [p_lf_1 (by assumption) (zz0 (by assumption) (by have := p_side_lt (τ := τ) (p := j) (q := p_q τ) hI.2.2.1; omega))] at hh; exact hh)
            | (rw [p_lf_0 (fun z => absurd z.1 (by assumption))] at hh; exact hh)
            | (rw [p_lf_0 (fun z => absurd z.2 (zz1 (by assumption)))] at hh; exact hh)
        · refine za_iconst (nI 1) dX6_leftOnes_36 (by decide) ?_
          refine za_iload_n dX6_leftOnes_37 rfl ?_
          refine za_ishl dX6_leftOnes_38 ?_
          refine za_goto 43 dX6_leftOnes_39 (by decide) ?_
          refine za_ior dX6_leftOnes_43 ?_
          try rw [zor0]
          refine za_istore_n (lv' := [_, _, _]) dX6_leftOnes_44 hN (by decide) rfl ?_
          refine za_iinc (nI (_ + 1)) (lv' := [_, _, _]) dX6_leftOnes_45 rfl hN (by decide) (znext _) rfl ?_
          refine za_goto 4 dX6_leftOnes_48 (by decide) ?_
          have hh := ih (j + 1) (by omega)
          first
            | (rw [p_lf_1 (by assumption) (zz0 (by assumption) (by have := p_side_lt (τ := τ) (p := j) (q := p_q τ) hI.2.2.1; omega))] at hh; exact hh)
            | (rw [p_lf_0 (fun z => absurd z.1 (by assumption))] at hh; exact hh)
            | (rw [p_lf_0 (fun z => absurd z.2 (zz1 (by assumption)))] at hh; exact hh)
  refine za_iconst (nI 0) dX6_leftOnes_0 (by decide) ?_
  refine za_istore_n (lv' := [_, _, _]) dX6_leftOnes_1 hN (by decide) rfl ?_
  refine za_iconst (nI 0) dX6_leftOnes_2 (by decide) ?_
  refine za_istore_n (lv' := [_, _, _]) dX6_leftOnes_3 hN (by decide) rfl ?_
  exact hloop n 0 (by omega)

def p_ones (x : Int32) : Nat → Int32
  | 0 => nI 0
  | n + 1 => p_ones x n + ((x >>> (nI n &&& 31)) &&& nI 1)

set_option maxRecDepth 20000 in
set_option maxHeartbeats 4000000 in
theorem m_ones {g : zG} {σ : zSto} {x : Int32} : zEd g 0 yX6_ones cX6_ones 3 (some .int) [.int x] σ (some (.int (p_ones x 6))) σ := by
  refine zev_intro (own := RX6) (lv := [some (.int x), none, none]) (by decide +kernel) rfl (Nat.le_of_ble_eq_true rfl) rfl (fun C hM hN => ?_)
  have hloop : ∀ (m : Nat) (j : Nat), j + m = 6 → zAW g C 0 cX6_ones RX6 4 [some (.int x), some (.int (p_ones x j)), some (.int (nI j))] [] σ := by
    intro m
    induction m with
    | zero =>
      intro j hj
      obtain rfl : j = 6 := by omega
      refine za_iload_n dX6_ones_4 rfl ?_
      refine za_bipush (nI 6) dX6_ones_5 (by decide) ?_
      refine za_icmp_ge 24 dX6_ones_7 (by decide) (fun c7 => ?_) (fun c7 => absurd (by decide) c7)
      refine za_iload_n dX6_ones_24 rfl ?_
      exact za_iret hM dX6_ones_25 ⟨by rfl, by rfl⟩
    | succ m ih =>
      intro j hj
      refine za_iload_n dX6_ones_4 rfl ?_
      refine za_bipush (nI 6) dX6_ones_5 (by decide) ?_
      refine za_icmp_ge 24 dX6_ones_7 (by decide) (fun c7 => absurd c7 (nI_ge (show j < 6 by omega) (by decide))) (fun c7 => ?_)
      refine za_iload_n dX6_ones_10 rfl ?_
      refine za_iload_n dX6_ones_11 rfl ?_
      refine za_iload_n dX6_ones_12 rfl ?_
      refine za_ishr dX6_ones_13 ?_
      refine za_iconst (nI 1) dX6_ones_14 (by decide) ?_
      refine za_iand dX6_ones_15 ?_
      refine za_iadd dX6_ones_16 ?_
      refine za_istore_n (lv' := [_, _, _]) dX6_ones_17 hN (by decide) rfl ?_
      refine za_iinc (nI (_ + 1)) (lv' := [_, _, _]) dX6_ones_18 rfl hN (by decide) (znext _) rfl ?_
      refine za_goto 4 dX6_ones_21 (by decide) ?_
      exact ih (j + 1) (by omega)
  refine za_iconst (nI 0) dX6_ones_0 (by decide) ?_
  refine za_istore_n (lv' := [_, _, _]) dX6_ones_1 hN (by decide) rfl ?_
  refine za_iconst (nI 0) dX6_ones_2 (by decide) ?_
  refine za_istore_n (lv' := [_, _, _]) dX6_ones_3 hN (by decide) rfl ?_
  exact hloop 6 0 rfl
