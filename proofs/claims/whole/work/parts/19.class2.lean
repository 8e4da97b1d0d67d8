/-- what may differ between calls: the trial town, the reader, the reference's rows aside and other, its text's numbers, its moved numbers -/
abbrev zjk (x i : Nat) : Prop := (8 ≤ x ∧ x ≤ 14) ∨ x = 24 ∨ x = 37 ∨ x = 38 ∨ (x = 34 ∧ 8 ≤ i ∧ i ≤ 11)
def zJ (S S' : zSto) : Prop := (∀ x i, ¬ zjk x i → S'.1 x i = S.1 x i) ∧ ∀ x, x ≠ 44 → S'.2 x = S.2 x
theorem zJ_rf {S : zSto} : zJ S S := ⟨fun _ _ _ => rfl, fun _ _ => rfl⟩
theorem zJ_tr {S S' S'' : zSto} (h : zJ S S') (h' : zJ S' S'') : zJ S S'' := ⟨fun x i hx => (h'.1 x i hx).trans (h.1 x i hx), fun x hx => (h'.2 x hx).trans (h.2 x hx)⟩
theorem zJ_8 {S : zSto} {t : zTn} : zJ S (zpt S 8 t) := ⟨fun x i hx => if_neg (fun z => hx (Or.inl ⟨z.1, by rcases z.2 with h | h | h <;> omega⟩)), fun _ _ => rfl⟩
theorem zJ_38 {S : zSto} {t : zTn} : zJ S (zps S 38 t) := ⟨fun x i hx => if_neg (fun z => hx (Or.inr (Or.inr (Or.inr (Or.inl z.1))))), fun _ _ => rfl⟩
theorem zJ_37 {S : zSto} {t : zTn} : zJ S (zps S 37 t) := ⟨fun x i hx => if_neg (fun z => hx (Or.inr (Or.inr (Or.inl z.1)))), fun _ _ => rfl⟩
theorem zJ_si {S : zSto} {x i : Nat} {v : Int32} (h : zjk x i) : zJ S (zsi S x i v) := ⟨fun y j hx => if_neg (fun z => hx (by rw [z.1, z.2]; exact h)), fun _ _ => rfl⟩
def zus (x : Int32) (k : Nat) : Int32 := (x.toUInt32 >>> ((nI k).toUInt32 &&& Int32.toUInt32 31)).toInt32
def zbc1 (x : Int32) : Int32 := x - (zus x 1 &&& 1431655765)
def zbc2 (x : Int32) : Int32 := (x &&& 858993459) + (zus x 2 &&& 858993459)
def zbc3 (x : Int32) : Int32 := (x + zus x 4) &&& 252645135
def zbc4 (x : Int32) : Int32 := x + zus x 8
def zbc5 (x : Int32) : Int32 := x + zus x 16
def zbc (x : Int32) : Int32 := zbc5 (zbc4 (zbc3 (zbc2 (zbc1 x)))) &&& nI 63
theorem zbc_64 : ∀ k : Fin 64, zbc (nI k.val) = p_ones (nI k.val) 6 := by decide +kernel
theorem zxor_n (a b : Nat) : nI a ^^^ nI b = nI (a ^^^ b) := by
  apply Int32.toBitVec_inj.mp
  apply BitVec.eq_of_getLsbD_eq
  intro i hi
  simp [nI, Nat.testBit_xor]
theorem zxor_lt {x y : Int32} (hx : zlt x 64) (hy : zlt y 64) : zlt (x ^^^ y) 64 := by
  obtain ⟨a, ha, rfl⟩ := hx
  obtain ⟨b, hb, rfl⟩ := hy
  exact ⟨a ^^^ b, Nat.xor_lt_two_pow (n := 6) ha hb, zxor_n a b⟩

set_option maxRecDepth 20000 in
set_option maxHeartbeats 4000000 in
theorem e_bitCount0 {g : zG} {σ : zSto} (x : Int32) : zEd g 0 yJ6_bitCount_0f7a4 cJ6_bitCount_0f7a4 1 (some .int) [.int x] σ (some (.int (zbc x))) σ := by
  refine zev_intro (own := RJ6) (lv := [some (.int x)]) (by decide +kernel) rfl (Nat.le_of_ble_eq_true rfl) rfl (fun C hM hN => ?_)
  refine za_iload_n dJ6_bitCount_0f7a4_0 rfl ?_
  refine za_iload_n dJ6_bitCount_0f7a4_1 rfl ?_
  refine za_iconst (nI 1) dJ6_bitCount_0f7a4_2 (by decide) ?_
  refine za_iushr dJ6_bitCount_0f7a4_3 ?_
  refine za_ldcw dJ6_bitCount_0f7a4_4 zk_J6_265 ?_
  refine za_iand dJ6_bitCount_0f7a4_7 ?_
  refine za_isub dJ6_bitCount_0f7a4_8 ?_
  refine za_istore_n (lv' := [_]) dJ6_bitCount_0f7a4_9 hN (by decide) rfl ?_
  refine za_iload_n dJ6_bitCount_0f7a4_10 rfl ?_
  refine za_ldcw dJ6_bitCount_0f7a4_11 zk_J6_266 ?_
  refine za_iand dJ6_bitCount_0f7a4_14 ?_
  refine za_iload_n dJ6_bitCount_0f7a4_15 rfl ?_
  refine za_iconst (nI 2) dJ6_bitCount_0f7a4_16 (by decide) ?_
  refine za_iushr dJ6_bitCount_0f7a4_17 ?_
  refine za_ldcw dJ6_bitCount_0f7a4_18 zk_J6_266 ?_
  refine za_iand dJ6_bitCount_0f7a4_21 ?_
  refine za_iadd dJ6_bitCount_0f7a4_22 ?_
  refine za_istore_n (lv' := [_]) dJ6_bitCount_0f7a4_23 hN (by decide) rfl ?_
  refine za_iload_n dJ6_bitCount_0f7a4_24 rfl ?_
  refine za_iload_n dJ6_bitCount_0f7a4_25 rfl ?_
  refine za_iconst (nI 4) dJ6_bitCount_0f7a4_26 (by decide) ?_
  refine za_iushr dJ6_bitCount_0f7a4_27 ?_
  refine za_iadd dJ6_bitCount_0f7a4_28 ?_
  refine za_ldcw dJ6_bitCount_0f7a4_29 zk_J6_267 ?_
  refine za_iand dJ6_bitCount_0f7a4_32 ?_
  refine za_istore_n (lv' := [_]) dJ6_bitCount_0f7a4_33 hN (by decide) rfl ?_
  refine za_iload_n dJ6_bitCount_0f7a4_34 rfl ?_
  refine za_iload_n dJ6_bitCount_0f7a4_35 rfl ?_
  refine za_bipush (nI 8) dJ6_bitCount_0f7a4_36 (by decide) ?_
  refine za_iushr dJ6_bitCount_0f7a4_38 ?_
  refine za_iadd dJ6_bitCount_0f7a4_39 ?_
  refine za_istore_n (lv' := [_]) dJ6_bitCount_0f7a4_40 hN (by decide) rfl ?_
  refine za_iload_n dJ6_bitCount_0f7a4_41 rfl ?_
  refine za_iload_n dJ6_bitCount_0f7a4_42 rfl ?_
  refine za_bipush (nI 16) dJ6_bitCount_0f7a4_43 (by decide) ?_
  refine za_iushr dJ6_bitCount_0f7a4_45 ?_
  refine za_iadd dJ6_bitCount_0f7a4_46 ?_
  refine za_istore_n (lv' := [_]) dJ6_bitCount_0f7a4_47 hN (by decide) rfl ?_
  refine za_iload_n dJ6_bitCount_0f7a4_48 rfl ?_
  refine za_bipush (nI 63) dJ6_bitCount_0f7a4_49 (by decide) ?_
  refine za_iand dJ6_bitCount_0f7a4_51 ?_
  exact za_iret hM dJ6_bitCount_0f7a4_52 ⟨by rfl, by rfl⟩

theorem e_bitCount {g : zG} {σ : zSto} {x : Int32} (hx : zlt x 64) : zEd g 0 yJ6_bitCount_0f7a4 cJ6_bitCount_0f7a4 1 (some .int) [.int x] σ (some (.int (p_ones x 6))) σ := by
  have h := e_bitCount0 (g := g) (σ := σ) x
  obtain ⟨k, hk, rfl⟩ := hx
  rw [zbc_64 ⟨k, hk⟩] at h
  exact h

theorem zday {x : Int32} {d n : Nat} (hx : x = nI d) (hd : d < 100000) (hn : n < 1000) : (x + nI n ≤ 99999) ↔ d + n ≤ 99999 := by
  subst hx
  rw [nI_add, show (99999 : Int32) = nI 99999 from rfl]
  exact nI_leI (by omega) (by decide)

set_option maxRecDepth 20000 in
set_option maxHeartbeats 4000000 in
theorem c_days_ok {g : zG} {S : zSto} {τ : zTn} (h1 : zHd S 1 τ) (hI : zTI 100000 τ) {d n : Nat} (hd : τ 0 0 = nI d) (hd1 : d < 100000) (hn1 : 1 ≤ n) (hn : n ≤ 100) (hs : d + n ≤ 99999) : zEd g 8 yX5_days cX5_days 2 (some .int) [.ref (zad g 0), .int (nI n)] S (some (.int (p_days τ n 0 1))) (zpt S 1 (p_days τ n)) := by
  refine zev_intro (own := RX5) (lv := [some (.ref (zad g 0)), some (.int (nI n))]) (by decide +kernel) rfl (Nat.le_of_ble_eq_true rfl) rfl (fun C hM hN => ?_)
  refine za_iload_n dX5_days_0 rfl ?_
  refine za_iconst (nI 1) dX5_days_1 (by decide) ?_
  refine za_bipush (nI 100) dX5_days_2 (by decide) ?_
  refine za_cS3 dX5_days_4 zm_X5_75 zw_X5_isWithin zs_X5_isWithin (e_isWithin _ _ _) (by decide) (Nat.le_of_ble_eq_true rfl) ?_
  refine za_if_neB 16 dX5_days_7 (by decide) (fun c7 => ?_) (fun c7 => absurd (zrng (by omega) (by omega) (by decide)) c7)
  refine za_aload_n dX5_days_16 rfl ?_
  refine za_getR dX5_days_17 zf_X5_10 rfl rfl ?_
  refine zh_getI zT1 (by first | exact h1 | exact zHd_8 h1) dX5_days_20 zf_X5_92 (by decide) ?_
  refine za_iload_n dX5_days_23 rfl ?_
  refine za_iadd dX5_days_24 ?_
  refine za_ldc dX5_days_25 zk_X5_155 ?_
  refine za_icmp_le 36 dX5_days_27 (by decide) (fun c27 => ?_) (fun c27 => absurd ((zday hd hd1 (by omega)).mpr hs) c27)
  refine za_aload_n dX5_days_36 rfl ?_
  refine za_getR dX5_days_37 zf_X5_10 rfl rfl ?_
  refine za_iload_n dX5_days_40 rfl ?_
  refine za_cV1v dX5_days_41 zm_X5_156 zw_X4_goDays zv_X4_goDays (zhold1 h1 (tc_goDays zT1 hI (by decide) (by omega))) (by decide) (tn0 zT1) rfl rfl (Nat.le_of_ble_eq_true rfl) ?_
  refine za_aload_n dX5_days_44 rfl ?_
  refine za_getR dX5_days_45 zf_X5_10 rfl rfl ?_
  refine zt_getI zT1 dX5_days_48 zf_X5_89 (by decide) ?_
  exact za_iret hM dX5_days_51 ⟨by rfl, by rfl⟩

set_option maxRecDepth 20000 in
set_option maxHeartbeats 4000000 in
theorem c_days_state {g : zG} {S : zSto} {τ : zTn} (h1 : zHd S 1 τ) {d n : Nat} (hd : τ 0 0 = nI d) (hd1 : d < 100000) (hn1 : 1 ≤ n) (hn : n ≤ 100) (hs : ¬ d + n ≤ 99999) : zEd g 8 yX5_days cX5_days 2 (some .int) [.ref (zad g 0), .int (nI n)] S (some (.int (zfd 4))) (zfin S 33 4) := by
  refine zev_intro (own := RX5) (lv := [some (.ref (zad g 0)), some (.int (nI n))]) (by decide +kernel) rfl (Nat.le_of_ble_eq_true rfl) rfl (fun C hM hN => ?_)
  refine za_iload_n dX5_days_0 rfl ?_
  refine za_iconst (nI 1) dX5_days_1 (by decide) ?_
  refine za_bipush (nI 100) dX5_days_2 (by decide) ?_
  refine za_cS3 dX5_days_4 zm_X5_75 zw_X5_isWithin zs_X5_isWithin (e_isWithin _ _ _) (by decide) (Nat.le_of_ble_eq_true rfl) ?_
  refine za_if_neB 16 dX5_days_7 (by decide) (fun c7 => ?_) (fun c7 => absurd (zrng (by omega) (by omega) (by decide)) c7)
  refine za_aload_n dX5_days_16 rfl ?_
  refine za_getR dX5_days_17 zf_X5_10 rfl rfl ?_
  refine zh_getI zT1 (by first | exact h1 | exact zHd_8 h1) dX5_days_20 zf_X5_92 (by decide) ?_
  refine za_iload_n dX5_days_23 rfl ?_
  refine za_iadd dX5_days_24 ?_
  refine za_ldc dX5_days_25 zk_X5_155 ?_
  refine za_icmp_le 36 dX5_days_27 (by decide) (fun c27 => absurd c27 (mt (zday hd hd1 (by omega)).mp hs)) (fun c27 => ?_)
  refine za_aload_n dX5_days_30 rfl ?_
  refine za_iconst (nI 4) dX5_days_31 (by decide) ?_
  refine za_cV1 dX5_days_32 zm_X5_63 zw_X5_finding zv_X5_finding (c_finding (by decide)) (by decide) rfl rfl rfl (Nat.le_of_ble_eq_true rfl) ?_
  exact za_iret hM dX5_days_35 ⟨by rfl, by rfl⟩

set_option maxRecDepth 20000 in
set_option maxHeartbeats 4000000 in
theorem c_days_no {g : zG} {S : zSto} {n : Int32} (hno : ¬ (nI 1 ≤ n ∧ n ≤ nI 100)) : zEd g 8 yX5_days cX5_days 2 (some .int) [.ref (zad g 0), .int n] S (some (.int (zfd 0))) (zfin S 33 0) := by
  refine zev_intro (own := RX5) (lv := [some (.ref (zad g 0)), some (.int n)]) (by decide +kernel) rfl (Nat.le_of_ble_eq_true rfl) rfl (fun C hM hN => ?_)
  refine za_iload_n dX5_days_0 rfl ?_
  refine za_iconst (nI 1) dX5_days_1 (by decide) ?_
  refine za_bipush (nI 100) dX5_days_2 (by decide) ?_
  refine za_cS3 dX5_days_4 zm_X5_75 zw_X5_isWithin zs_X5_isWithin (e_isWithin _ _ _) (by decide) (Nat.le_of_ble_eq_true rfl) ?_
  refine za_if_neB 16 dX5_days_7 (by decide) (fun c7 => ?_) (fun c7 => ?_)
  · exact absurd c7 hno
  · refine za_aload_n dX5_days_10 rfl ?_
    refine za_iconst (nI 0) dX5_days_11 (by decide) ?_
    refine za_cV1 dX5_days_12 zm_X5_63 zw_X5_finding zv_X5_finding (c_finding (by decide)) (by decide) rfl rfl rfl (Nat.le_of_ble_eq_true rfl) ?_
    exact za_iret hM dX5_days_15 ⟨by rfl, by rfl⟩

set_option maxRecDepth 20000 in
set_option maxHeartbeats 4000000 in
theorem c_tryDays {g : zG} {S : zSto} {τ : zTn} (h1 : zHd S 1 τ) {n B : Nat} (hI : zTI B τ) (hB : B ≤ 1000000) (hn : n ≤ 1000) : zEd g 6 yX5_tryDays cX5_tryDays 2 none [.ref (zad g 0), .int (nI n)] S none (zpt S 8 (p_days τ n)) := by
  refine zev_intro (own := RX5) (lv := [some (.ref (zad g 0)), some (.int (nI n))]) (by decide +kernel) rfl (Nat.le_of_ble_eq_true rfl) rfl (fun C hM hN => ?_)
  refine za_aload_n dX5_tryDays_0 rfl ?_
  refine za_getR dX5_tryDays_1 zf_X5_16 rfl rfl ?_
  refine za_aload_n dX5_tryDays_4 rfl ?_
  refine za_getR dX5_tryDays_5 zf_X5_10 rfl rfl ?_
  refine za_cV1v dX5_tryDays_8 zm_X5_163 zw_X4_become zv_X4_become (tc_become8 h1) (by decide) (tn0 zT8) rfl rfl (Nat.le_of_ble_eq_true rfl) ?_
  refine za_aload_n dX5_tryDays_11 rfl ?_
  refine za_getR dX5_tryDays_12 zf_X5_16 rfl rfl ?_
  refine za_iload_n dX5_tryDays_15 rfl ?_
  refine za_cV1v dX5_tryDays_16 zm_X5_156 zw_X4_goDays zv_X4_goDays (tc_goDays zT8 hI hB hn) (by decide) (tn0 zT8) rfl rfl (Nat.le_of_ble_eq_true rfl) ?_
  exact za_vret hM dX5_tryDays_19 ⟨by rfl, by rfl⟩

set_option maxRecDepth 20000 in
set_option maxHeartbeats 4000000 in
theorem c_on_ok {g : zG} {S : zSto} {τ : zTn} (h1 : zHd S 1 τ) (hI : zTI 100000 τ) {n p : Nat} (hn : τ 0 3 = nI n) (h9 : n < 9) (hpn : p < n) {m : Nat} (hm : m ≤ 200) : zEv g 8 yX5_on cX5_on 3 (some .int) [.ref (zad g 0), .int (nI p), .int (nI m)] S (fun r' s' => r' = some (.int (p_days τ m 5 p)) ∧ zJ S s') := by
  refine zev_intro (own := RX5) (lv := [some (.ref (zad g 0)), some (.int (nI p)), some (.int (nI m))]) (by decide +kernel) rfl (Nat.le_of_ble_eq_true rfl) rfl (fun C hM hN => ?_)
  have hp : p < 8 := by omega
  have hP := zper hn h9 hpn
  refine za_aload_n dX5_on_0 rfl ?_
  refine za_iload_n dX5_on_1 rfl ?_
  refine za_cV1 dX5_on_2 zm_X5_118 zw_X5_isPerson zv_X5_isPerson (c_isPerson h1) (by decide) rfl rfl rfl (Nat.le_of_ble_eq_true rfl) ?_
  refine za_if_eqB 19 dX5_on_5 (by decide) (fun c5 => absurd hP c5) (fun c5 => ?_)
  refine za_iload_n dX5_on_8 rfl ?_
  refine za_iconst (nI 0) dX5_on_9 (by decide) ?_
  refine za_sipush (nI 200) dX5_on_10 (by decide) ?_
  refine za_cS3 dX5_on_13 zm_X5_75 zw_X5_isWithin zs_X5_isWithin (e_isWithin _ _ _) (by decide) (Nat.le_of_ble_eq_true rfl) ?_
  refine za_if_neB 25 dX5_on_16 (by decide) (fun c16 => ?_) (fun c16 => absurd (zrng (Nat.zero_le _) (by omega) (by decide)) c16)
  refine za_aload_n dX5_on_25 rfl ?_
  refine za_iload_n dX5_on_26 rfl ?_
  refine za_cV1v dX5_on_27 zm_X5_160 zw_X5_tryDays zv_X5_tryDays (c_tryDays h1 hI (by decide) (by omega)) (by decide) rfl rfl rfl (Nat.le_of_ble_eq_true rfl) ?_
  refine za_aload_n dX5_on_30 rfl ?_
  refine za_getR dX5_on_31 zf_X5_16 rfl rfl ?_
  refine za_getR dX5_on_34 zf_X5_127 (tn0 zT8) rfl ?_
  refine za_iload_n dX5_on_37 rfl ?_
  refine zt_iald zT8 (by decide) dX5_on_38 (zv5 (by omega)) ?_
  exact za_iret hM dX5_on_39 ⟨by rfl, zJ_8⟩

set_option maxRecDepth 20000 in
set_option maxHeartbeats 4000000 in
theorem c_on_no {g : zG} {S : zSto} {τ : zTn} (h1 : zHd S 1 τ) {v n : Int32} (hno : ¬ ((nI 0 ≤ v ∧ v ≤ τ 0 3 - nI 1) ∧ (nI 0 ≤ n ∧ n ≤ nI 200))) : zEd g 8 yX5_on cX5_on 3 (some .int) [.ref (zad g 0), .int v, .int n] S (some (.int (zfd 0))) (zfin S 33 0) := by
  refine zev_intro (own := RX5) (lv := [some (.ref (zad g 0)), some (.int v), some (.int n)]) (by decide +kernel) rfl (Nat.le_of_ble_eq_true rfl) rfl (fun C hM hN => ?_)
  refine za_aload_n dX5_on_0 rfl ?_
  refine za_iload_n dX5_on_1 rfl ?_
  refine za_cV1 dX5_on_2 zm_X5_118 zw_X5_isPerson zv_X5_isPerson (c_isPerson h1) (by decide) rfl rfl rfl (Nat.le_of_ble_eq_true rfl) ?_
  refine za_if_eqB 19 dX5_on_5 (by decide) (fun c5 => ?_) (fun c5 => ?_)
  · refine za_aload_n dX5_on_19 rfl ?_
    refine za_iconst (nI 0) dX5_on_20 (by decide) ?_
    refine za_cV1 dX5_on_21 zm_X5_63 zw_X5_finding zv_X5_finding (c_finding (by decide)) (by decide) rfl rfl rfl (Nat.le_of_ble_eq_true rfl) ?_
    exact za_iret hM dX5_on_24 ⟨by rfl, by rfl⟩
  · refine za_iload_n dX5_on_8 rfl ?_
    refine za_iconst (nI 0) dX5_on_9 (by decide) ?_
    refine za_sipush (nI 200) dX5_on_10 (by decide) ?_
    refine za_cS3 dX5_on_13 zm_X5_75 zw_X5_isWithin zs_X5_isWithin (e_isWithin _ _ _) (by decide) (Nat.le_of_ble_eq_true rfl) ?_
    refine za_if_neB 25 dX5_on_16 (by decide) (fun c16 => ?_) (fun c16 => ?_)
    · exact absurd ⟨c5, c16⟩ hno
    · refine za_aload_n dX5_on_19 rfl ?_
      refine za_iconst (nI 0) dX5_on_20 (by decide) ?_
      refine za_cV1 dX5_on_21 zm_X5_63 zw_X5_finding zv_X5_finding (c_finding (by decide)) (by decide) rfl rfl rfl (Nat.le_of_ble_eq_true rfl) ?_
      exact za_iret hM dX5_on_24 ⟨by rfl, by rfl⟩

set_option maxRecDepth 20000 in
set_option maxHeartbeats 4000000 in
theorem c_then_ok {g : zG} {S : zSto} {τ : zTn} (h1 : zHd S 1 τ) (hI : zTI 100000 τ) {q m w : Nat} (hq : q < 6) (hm : m ≤ 200) (hw : w < 3) : zEv g 8 yX5_then cX5_then 4 (some .int) [.ref (zad g 0), .int (nI q), .int (nI m), .int (nI w)] S (fun r' s' => r' = some (.int (p_tell (p_days τ m) q w)) ∧ zJ S s') := by
  refine zev_intro (own := RX5) (lv := [some (.ref (zad g 0)), some (.int (nI q)), some (.int (nI m)), some (.int (nI w))]) (by decide +kernel) rfl (Nat.le_of_ble_eq_true rfl) rfl (fun C hM hN => ?_)
  refine za_iload_n dX5_then_0 rfl ?_
  refine za_cS1 dX5_then_1 zm_X5_53 zw_X5_isQuestion zs_X5_isQuestion (e_isQuestion _) (by decide) (Nat.le_of_ble_eq_true rfl) ?_
  refine za_if_eqB 27 dX5_then_4 (by decide) (fun c4 => absurd (zrng (Nat.zero_le _) (by omega) (by decide)) c4) (fun c4 => ?_)
  refine za_iload_n dX5_then_7 rfl ?_
  refine za_iconst (nI 0) dX5_then_8 (by decide) ?_
  refine za_sipush (nI 200) dX5_then_9 (by decide) ?_
  refine za_cS3 dX5_then_12 zm_X5_75 zw_X5_isWithin zs_X5_isWithin (e_isWithin _ _ _) (by decide) (Nat.le_of_ble_eq_true rfl) ?_
  refine za_if_eqB 27 dX5_then_15 (by decide) (fun c15 => absurd (zrng (Nat.zero_le _) (by omega) (by decide)) c15) (fun c15 => ?_)
  refine za_iload_n dX5_then_18 rfl ?_
  refine za_iconst (nI 0) dX5_then_19 (by decide) ?_
  refine za_iconst (nI 2) dX5_then_20 (by decide) ?_
  refine za_cS3 dX5_then_21 zm_X5_75 zw_X5_isWithin zs_X5_isWithin (e_isWithin _ _ _) (by decide) (Nat.le_of_ble_eq_true rfl) ?_
  refine za_if_neB 33 dX5_then_24 (by decide) (fun c24 => ?_) (fun c24 => absurd (zrng (Nat.zero_le _) (by omega) (by decide)) c24)
  refine za_aload_n dX5_then_33 rfl ?_
  refine za_iload_n dX5_then_34 rfl ?_
  refine za_cV1v dX5_then_35 zm_X5_160 zw_X5_tryDays zv_X5_tryDays (c_tryDays h1 hI (by decide) (by omega)) (by decide) rfl rfl rfl (Nat.le_of_ble_eq_true rfl) ?_
  refine za_aload_n dX5_then_38 rfl ?_
  refine za_getR dX5_then_39 zf_X5_16 rfl rfl ?_
  refine za_iload_n dX5_then_42 rfl ?_
  refine za_iload_n dX5_then_43 rfl ?_
  refine za_cV2 dX5_then_44 zm_X5_79 zw_X4_tell zv_X4_tell (tc_tell zT8 hq hw) (by decide) (tn0 zT8) rfl rfl (Nat.le_of_ble_eq_true rfl) ?_
  exact za_iret hM dX5_then_47 ⟨by rfl, zJ_8⟩

set_option maxRecDepth 20000 in
set_option maxHeartbeats 4000000 in
theorem c_then_no {g : zG} {S : zSto} {q n w : Int32} (hno : ¬ ((nI 0 ≤ q ∧ q ≤ nI 5) ∧ (nI 0 ≤ n ∧ n ≤ nI 200) ∧ (nI 0 ≤ w ∧ w ≤ nI 2))) : zEd g 8 yX5_then cX5_then 4 (some .int) [.ref (zad g 0), .int q, .int n, .int w] S (some (.int (zfd 0))) (zfin S 33 0) := by
  refine zev_intro (own := RX5) (lv := [some (.ref (zad g 0)), some (.int q), some (.int n), some (.int w)]) (by decide +kernel) rfl (Nat.le_of_ble_eq_true rfl) rfl (fun C hM hN => ?_)
  refine za_iload_n dX5_then_0 rfl ?_
  refine za_cS1 dX5_then_1 zm_X5_53 zw_X5_isQuestion zs_X5_isQuestion (e_isQuestion _) (by decide) (Nat.le_of_ble_eq_true rfl) ?_
  refine za_if_eqB 27 dX5_then_4 (by decide) (fun c4 => ?_) (fun c4 => ?_)
  · refine za_aload_n dX5_then_27 rfl ?_
    refine za_iconst (nI 0) dX5_then_28 (by decide) ?_
    refine za_cV1 dX5_then_29 zm_X5_63 zw_X5_finding zv_X5_finding (c_finding (by decide)) (by decide) rfl rfl rfl (Nat.le_of_ble_eq_true rfl) ?_
    exact za_iret hM dX5_then_32 ⟨by rfl, by rfl⟩
  · refine za_iload_n dX5_then_7 rfl ?_
    refine za_iconst (nI 0) dX5_then_8 (by decide) ?_
    refine za_sipush (nI 200) dX5_then_9 (by decide) ?_
    refine za_cS3 dX5_then_12 zm_X5_75 zw_X5_isWithin zs_X5_isWithin (e_isWithin _ _ _) (by decide) (Nat.le_of_ble_eq_true rfl) ?_
    refine za_if_eqB 27 dX5_then_15 (by decide) (fun c15 => ?_) (fun c15 => ?_)
    · refine za_aload_n dX5_then_27 rfl ?_
      refine za_iconst (nI 0) dX5_then_28 (by decide) ?_
      refine za_cV1 dX5_then_29 zm_X5_63 zw_X5_finding zv_X5_finding (c_finding (by decide)) (by decide) rfl rfl rfl (Nat.le_of_ble_eq_true rfl) ?_
      exact za_iret hM dX5_then_32 ⟨by rfl, by rfl⟩
    · refine za_iload_n dX5_then_18 rfl ?_
      refine za_iconst (nI 0) dX5_then_19 (by decide) ?_
      refine za_iconst (nI 2) dX5_then_20 (by decide) ?_
      refine za_cS3 dX5_then_21 zm_X5_75 zw_X5_isWithin zs_X5_isWithin (e_isWithin _ _ _) (by decide) (Nat.le_of_ble_eq_true rfl) ?_
      refine za_if_neB 33 dX5_then_24 (by decide) (fun c24 => ?_) (fun c24 => ?_)
      · exact absurd ⟨c4, c15, c24⟩ hno
      · refine za_aload_n dX5_then_27 rfl ?_
        refine za_iconst (nI 0) dX5_then_28 (by decide) ?_
        refine za_cV1 dX5_then_29 zm_X5_63 zw_X5_finding zv_X5_finding (c_finding (by decide)) (by decide) rfl rfl rfl (Nat.le_of_ble_eq_true rfl) ?_
        exact za_iret hM dX5_then_32 ⟨by rfl, by rfl⟩

set_option maxRecDepth 20000 in
set_option maxHeartbeats 4000000 in
theorem c_flips_at {g : zG} {S : zSto} {τ : zTn} (h1 : zHd S 1 τ) (hI : zTI 100000 τ) {q k : Nat} (hq : q < 6) (hk1 : 1 ≤ k) (hk : k ≤ 200) (hP : ¬ p_tell (p_days τ k) q 2 = p_tell τ q 2) (hm : ∀ j, j < k → p_tell (p_days τ j) q 2 = p_tell τ q 2) : zEv g 8 yX5_flips cX5_flips 4 (some .int) [.ref (zad g 0), .int (nI q)] S (fun r' s' => r' = some (.int (nI k)) ∧ zJ S s') := by
  refine zev_intro (own := RX5) (lv := [some (.ref (zad g 0)), some (.int (nI q)), none, none]) (by decide +kernel) rfl (Nat.le_of_ble_eq_true rfl) rfl (fun C hM hN => ?_)
  have hloop : ∀ (m : Nat) (i : Nat), i + 1 + m = k → zAW g C 8 cX5_flips RX5 36 [some (.ref (zad g 0)), some (.int (nI q)), some (.int (p_tell τ q 2)), some (.int (nI (i + 1)))] [] (zpt S 8 (p_days τ i)) := by
    intro m
    induction m with
    | zero =>
      intro i hj
      obtain rfl : i + 1 = k := by omega
      refine za_iload_n dX5_flips_36 rfl ?_
      refine za_sipush (nI 200) dX5_flips_37 (by decide) ?_
      refine za_icmp_gt 71 dX5_flips_40 (by decide) (fun c40 => absurd c40 (nI_nlt (show i + 1 ≤ 200 by omega) (by decide))) (fun c40 => ?_)
      refine za_aload_n dX5_flips_43 rfl ?_
      refine za_getR dX5_flips_44 zf_X5_16 rfl rfl ?_
      refine za_cV0v dX5_flips_47 zm_X5_167 zw_X4_goDay zv_X4_goDay (tc_goDay zT8 (zTI_days hI i) (by omega)) (by decide) (tn0 zT8) rfl rfl (Nat.le_of_ble_eq_true rfl) ?_
      refine za_aload_n dX5_flips_50 rfl ?_
      refine za_getR dX5_flips_51 zf_X5_16 rfl rfl ?_
      refine za_iload_n dX5_flips_54 rfl ?_
      refine za_iconst (nI 2) dX5_flips_55 (by decide) ?_
      refine za_cV2 dX5_flips_56 zm_X5_79 zw_X4_tell zv_X4_tell (tc_tell zT8 hq (by decide)) (by decide) (tn0 zT8) rfl rfl (Nat.le_of_ble_eq_true rfl) ?_
      refine za_iload_n dX5_flips_59 rfl ?_
      refine za_icmp_eq 65 dX5_flips_60 (by decide) (fun c60 => absurd c60 hP) (fun c60 => ?_)
      refine za_iload_n dX5_flips_63 rfl ?_
      exact za_iret hM dX5_flips_64 ⟨by rfl, zJ_8⟩
    | succ m ih =>
      intro i hj
      refine za_iload_n dX5_flips_36 rfl ?_
      refine za_sipush (nI 200) dX5_flips_37 (by decide) ?_
      refine za_icmp_gt 71 dX5_flips_40 (by decide) (fun c40 => absurd c40 (nI_nlt (show i + 1 ≤ 200 by omega) (by decide))) (fun c40 => ?_)
      refine za_aload_n dX5_flips_43 rfl ?_
      refine za_getR dX5_flips_44 zf_X5_16 rfl rfl ?_
      refine za_cV0v dX5_flips_47 zm_X5_167 zw_X4_goDay zv_X4_goDay (tc_goDay zT8 (zTI_days hI i) (by omega)) (by decide) (tn0 zT8) rfl rfl (Nat.le_of_ble_eq_true rfl) ?_
      refine za_aload_n dX5_flips_50 rfl ?_
      refine za_getR dX5_flips_51 zf_X5_16 rfl rfl ?_
      refine za_iload_n dX5_flips_54 rfl ?_
      refine za_iconst (nI 2) dX5_flips_55 (by decide) ?_
      refine za_cV2 dX5_flips_56 zm_X5_79 zw_X4_tell zv_X4_tell (tc_tell zT8 hq (by decide)) (by decide) (tn0 zT8) rfl rfl (Nat.le_of_ble_eq_true rfl) ?_
      refine za_iload_n dX5_flips_59 rfl ?_
      refine za_icmp_eq 65 dX5_flips_60 (by decide) (fun c60 => ?_) (fun c60 => absurd (hm (i + 1) (by omega)) c60)
      refine za_iinc (nI (_ + 1)) (lv' := [_, _, _, _]) dX5_flips_65 rfl hN (by decide) (znext _) rfl ?_
      refine za_goto 36 dX5_flips_68 (by decide) ?_
      exact ih (i + 1) (by omega)
  refine za_iload_n dX5_flips_0 rfl ?_
  refine za_cS1 dX5_flips_1 zm_X5_53 zw_X5_isQuestion zs_X5_isQuestion (e_isQuestion _) (by decide) (Nat.le_of_ble_eq_true rfl) ?_
  refine za_if_neB 13 dX5_flips_4 (by decide) (fun c4 => ?_) (fun c4 => absurd (zrng (Nat.zero_le _) (by omega) (by decide)) c4)
  refine za_aload_n dX5_flips_13 rfl ?_
  refine za_getR dX5_flips_14 zf_X5_10 rfl rfl ?_
  refine za_iload_n dX5_flips_17 rfl ?_
  refine za_iconst (nI 2) dX5_flips_18 (by decide) ?_
  refine za_cV2 dX5_flips_19 zm_X5_79 zw_X4_tell zv_X4_tell (zhold0 h1 (tc_tell zT1 hq (by decide))) (by decide) (tn0 zT1) rfl rfl (Nat.le_of_ble_eq_true rfl) ?_
  refine za_istore_n (lv' := [_, _, _, _]) dX5_flips_22 hN (by decide) rfl ?_
  refine za_aload_n dX5_flips_23 rfl ?_
  refine za_getR dX5_flips_24 zf_X5_16 rfl rfl ?_
  refine za_aload_n dX5_flips_27 rfl ?_
  refine za_getR dX5_flips_28 zf_X5_10 rfl rfl ?_
  refine za_cV1v dX5_flips_31 zm_X5_163 zw_X4_become zv_X4_become (tc_become8 h1) (by decide) (tn0 zT8) rfl rfl (Nat.le_of_ble_eq_true rfl) ?_
  refine za_iconst (nI 1) dX5_flips_34 (by decide) ?_
  refine za_istore_n (lv' := [_, _, _, _]) dX5_flips_35 hN (by decide) rfl ?_
  exact hloop (k - 1) 0 (by omega)

set_option maxRecDepth 20000 in
set_option maxHeartbeats 4000000 in
theorem c_flips_none {g : zG} {S : zSto} {τ : zTn} (h1 : zHd S 1 τ) (hI : zTI 100000 τ) {q : Nat} (hq : q < 6) (hm : ∀ j, j ≤ 200 → p_tell (p_days τ j) q 2 = p_tell τ q 2) : zEv g 8 yX5_flips cX5_flips 4 (some .int) [.ref (zad g 0), .int (nI q)] S (fun r' s' => r' = some (.int (zfd 3)) ∧ ∃ T, zJ S T ∧ s' = zfin T 33 3) := by
  refine zev_intro (own := RX5) (lv := [some (.ref (zad g 0)), some (.int (nI q)), none, none]) (by decide +kernel) rfl (Nat.le_of_ble_eq_true rfl) rfl (fun C hM hN => ?_)
  have hloop : ∀ (m : Nat) (i : Nat), i + m = 200 → zAW g C 8 cX5_flips RX5 36 [some (.ref (zad g 0)), some (.int (nI q)), some (.int (p_tell τ q 2)), some (.int (nI (i + 1)))] [] (zpt S 8 (p_days τ i)) := by
    intro m
    induction m with
    | zero =>
      intro i hj
      obtain rfl : i = 200 := by omega
      refine za_iload_n dX5_flips_36 rfl ?_
      refine za_sipush (nI 200) dX5_flips_37 (by decide) ?_
      refine za_icmp_gt 71 dX5_flips_40 (by decide) (fun c40 => ?_) (fun c40 => absurd (by decide) c40)
      refine za_aload_n dX5_flips_71 rfl ?_
      refine za_iconst (nI 3) dX5_flips_72 (by decide) ?_
      refine za_cV1 dX5_flips_73 zm_X5_63 zw_X5_finding zv_X5_finding (c_finding (by decide)) (by decide) rfl rfl rfl (Nat.le_of_ble_eq_true rfl) ?_
      exact za_iret hM dX5_flips_76 ⟨rfl, _, zJ_8, rfl⟩
    | succ m ih =>
      intro i hj
      refine za_iload_n dX5_flips_36 rfl ?_
      refine za_sipush (nI 200) dX5_flips_37 (by decide) ?_
      refine za_icmp_gt 71 dX5_flips_40 (by decide) (fun c40 => absurd c40 (nI_nlt (show i + 1 ≤ 200 by omega) (by decide))) (fun c40 => ?_)
      refine za_aload_n dX5_flips_43 rfl ?_
      refine za_getR dX5_flips_44 zf_X5_16 rfl rfl ?_
      refine za_cV0v dX5_flips_47 zm_X5_167 zw_X4_goDay zv_X4_goDay (tc_goDay zT8 (zTI_days hI i) (by omega)) (by decide) (tn0 zT8) rfl rfl (Nat.le_of_ble_eq_true rfl) ?_
      refine za_aload_n dX5_flips_50 rfl ?_
      refine za_getR dX5_flips_51 zf_X5_16 rfl rfl ?_
      refine za_iload_n dX5_flips_54 rfl ?_
      refine za_iconst (nI 2) dX5_flips_55 (by decide) ?_
      refine za_cV2 dX5_flips_56 zm_X5_79 zw_X4_tell zv_X4_tell (tc_tell zT8 hq (by decide)) (by decide) (tn0 zT8) rfl rfl (Nat.le_of_ble_eq_true rfl) ?_
      refine za_iload_n dX5_flips_59 rfl ?_
      refine za_icmp_eq 65 dX5_flips_60 (by decide) (fun c60 => ?_) (fun c60 => absurd (hm (i + 1) (by omega)) c60)
      refine za_iinc (nI (_ + 1)) (lv' := [_, _, _, _]) dX5_flips_65 rfl hN (by decide) (znext _) rfl ?_
      refine za_goto 36 dX5_flips_68 (by decide) ?_
      exact ih (i + 1) (by omega)
  refine za_iload_n dX5_flips_0 rfl ?_
  refine za_cS1 dX5_flips_1 zm_X5_53 zw_X5_isQuestion zs_X5_isQuestion (e_isQuestion _) (by decide) (Nat.le_of_ble_eq_true rfl) ?_
  refine za_if_neB 13 dX5_flips_4 (by decide) (fun c4 => ?_) (fun c4 => absurd (zrng (Nat.zero_le _) (by omega) (by decide)) c4)
  refine za_aload_n dX5_flips_13 rfl ?_
  refine za_getR dX5_flips_14 zf_X5_10 rfl rfl ?_
  refine za_iload_n dX5_flips_17 rfl ?_
  refine za_iconst (nI 2) dX5_flips_18 (by decide) ?_
  refine za_cV2 dX5_flips_19 zm_X5_79 zw_X4_tell zv_X4_tell (zhold0 h1 (tc_tell zT1 hq (by decide))) (by decide) (tn0 zT1) rfl rfl (Nat.le_of_ble_eq_true rfl) ?_
  refine za_istore_n (lv' := [_, _, _, _]) dX5_flips_22 hN (by decide) rfl ?_
  refine za_aload_n dX5_flips_23 rfl ?_
  refine za_getR dX5_flips_24 zf_X5_16 rfl rfl ?_
  refine za_aload_n dX5_flips_27 rfl ?_
  refine za_getR dX5_flips_28 zf_X5_10 rfl rfl ?_
  refine za_cV1v dX5_flips_31 zm_X5_163 zw_X4_become zv_X4_become (tc_become8 h1) (by decide) (tn0 zT8) rfl rfl (Nat.le_of_ble_eq_true rfl) ?_
  refine za_iconst (nI 1) dX5_flips_34 (by decide) ?_
  refine za_istore_n (lv' := [_, _, _, _]) dX5_flips_35 hN (by decide) rfl ?_
  exact hloop 200 0 rfl

set_option maxRecDepth 20000 in
set_option maxHeartbeats 4000000 in
theorem c_flips_no {g : zG} {S : zSto} {q : Int32} (hno : ¬ (nI 0 ≤ q ∧ q ≤ nI 5)) : zEd g 8 yX5_flips cX5_flips 4 (some .int) [.ref (zad g 0), .int q] S (some (.int (zfd 0))) (zfin S 33 0) := by
  refine zev_intro (own := RX5) (lv := [some (.ref (zad g 0)), some (.int q), none, none]) (by decide +kernel) rfl (Nat.le_of_ble_eq_true rfl) rfl (fun C hM hN => ?_)
  refine za_iload_n dX5_flips_0 rfl ?_
  refine za_cS1 dX5_flips_1 zm_X5_53 zw_X5_isQuestion zs_X5_isQuestion (e_isQuestion _) (by decide) (Nat.le_of_ble_eq_true rfl) ?_
  refine za_if_neB 13 dX5_flips_4 (by decide) (fun c4 => ?_) (fun c4 => ?_)
  · exact absurd c4 hno
  · refine za_aload_n dX5_flips_7 rfl ?_
    refine za_iconst (nI 0) dX5_flips_8 (by decide) ?_
    refine za_cV1 dX5_flips_9 zm_X5_63 zw_X5_finding zv_X5_finding (c_finding (by decide)) (by decide) rfl rfl rfl (Nat.le_of_ble_eq_true rfl) ?_
    exact za_iret hM dX5_flips_12 ⟨by rfl, by rfl⟩

set_option maxRecDepth 20000 in
set_option maxHeartbeats 4000000 in
theorem c_rich_at {g : zG} {S : zSto} {τ : zTn} (h1 : zHd S 1 τ) (hI : zTI 100000 τ) {n p : Nat} (hn : τ 0 3 = nI n) (h9 : n < 9) (hpn : p < n) {k : Nat} {v : Int32} (hv : nI 0 ≤ v ∧ v ≤ nI 9999) (hk : k ≤ 200) (hQ : ¬ p_days τ k 5 p < v) (hm : ∀ j, j < k → p_days τ j 5 p < v) : zEv g 8 yX5_rich cX5_rich 4 (some .int) [.ref (zad g 0), .int (nI p), .int v] S (fun r' s' => r' = some (.int (nI k)) ∧ zJ S s') := by
  refine zev_intro (own := RX5) (lv := [some (.ref (zad g 0)), some (.int (nI p)), some (.int v), none]) (by decide +kernel) rfl (Nat.le_of_ble_eq_true rfl) rfl (fun C hM hN => ?_)
  have hp : p < 8 := by omega
  have hP := zper hn h9 hpn
  have hloop : ∀ (m : Nat) (i : Nat), i + m = k → zAW g C 8 cX5_rich RX5 34 [some (.ref (zad g 0)), some (.int (nI p)), some (.int v), some (.int (nI i))] [] (zpt S 8 (p_days τ i)) := by
    intro m
    induction m with
    | zero =>
      intro i hj
      obtain rfl : i = k := by omega
      refine za_iload_n dX5_rich_34 rfl ?_
      refine za_sipush (nI 200) dX5_rich_35 (by decide) ?_
      refine za_icmp_gt 69 dX5_rich_38 (by decide) (fun c38 => absurd c38 (nI_nlt (show i ≤ 200 by omega) (by decide))) (fun c38 => ?_)
      refine za_aload_n dX5_rich_41 rfl ?_
      refine za_getR dX5_rich_42 zf_X5_16 rfl rfl ?_
      refine za_getR dX5_rich_45 zf_X5_127 (tn0 zT8) rfl ?_
      refine za_iload_n dX5_rich_48 rfl ?_
      refine zt_iald zT8 (by decide) dX5_rich_49 (zv5 (by omega)) ?_
      refine za_iload_n dX5_rich_50 rfl ?_
      refine za_icmp_lt 56 dX5_rich_51 (by decide) (fun c51 => absurd c51 hQ) (fun c51 => ?_)
      refine za_iload_n dX5_rich_54 rfl ?_
      exact za_iret hM dX5_rich_55 ⟨by rfl, zJ_8⟩
    | succ m ih =>
      intro i hj
      refine za_iload_n dX5_rich_34 rfl ?_
      refine za_sipush (nI 200) dX5_rich_35 (by decide) ?_
      refine za_icmp_gt 69 dX5_rich_38 (by decide) (fun c38 => absurd c38 (nI_nlt (show i ≤ 200 by omega) (by decide))) (fun c38 => ?_)
      refine za_aload_n dX5_rich_41 rfl ?_
      refine za_getR dX5_rich_42 zf_X5_16 rfl rfl ?_
      refine za_getR dX5_rich_45 zf_X5_127 (tn0 zT8) rfl ?_
      refine za_iload_n dX5_rich_48 rfl ?_
      refine zt_iald zT8 (by decide) dX5_rich_49 (zv5 (by omega)) ?_
      refine za_iload_n dX5_rich_50 rfl ?_
      refine za_icmp_lt 56 dX5_rich_51 (by decide) (fun c51 => ?_) (fun c51 => absurd (hm i (by omega)) c51)
      refine za_aload_n dX5_rich_56 rfl ?_
      refine za_getR dX5_rich_57 zf_X5_16 rfl rfl ?_
      refine za_cV0v dX5_rich_60 zm_X5_167 zw_X4_goDay zv_X4_goDay (tc_goDay zT8 (zTI_days hI i) (by omega)) (by decide) (tn0 zT8) rfl rfl (Nat.le_of_ble_eq_true rfl) ?_
      refine za_iinc (nI (_ + 1)) (lv' := [_, _, _, _]) dX5_rich_63 rfl hN (by decide) (znext _) rfl ?_
      refine za_goto 34 dX5_rich_66 (by decide) ?_
      exact ih (i + 1) (by omega)
  refine za_aload_n dX5_rich_0 rfl ?_
  refine za_iload_n dX5_rich_1 rfl ?_
  refine za_cV1 dX5_rich_2 zm_X5_118 zw_X5_isPerson zv_X5_isPerson (c_isPerson h1) (by decide) rfl rfl rfl (Nat.le_of_ble_eq_true rfl) ?_
  refine za_if_eqB 15 dX5_rich_5 (by decide) (fun c5 => absurd hP c5) (fun c5 => ?_)
  refine za_iload_n dX5_rich_8 rfl ?_
  refine za_cS1 dX5_rich_9 zm_X5_60 zw_X5_isPence zs_X5_isPence (e_isPence _) (by decide) (Nat.le_of_ble_eq_true rfl) ?_
  refine za_if_neB 21 dX5_rich_12 (by decide) (fun c12 => ?_) (fun c12 => absurd hv c12)
  refine za_aload_n dX5_rich_21 rfl ?_
  refine za_getR dX5_rich_22 zf_X5_16 rfl rfl ?_
  refine za_aload_n dX5_rich_25 rfl ?_
  refine za_getR dX5_rich_26 zf_X5_10 rfl rfl ?_
  refine za_cV1v dX5_rich_29 zm_X5_163 zw_X4_become zv_X4_become (tc_become8 h1) (by decide) (tn0 zT8) rfl rfl (Nat.le_of_ble_eq_true rfl) ?_
  refine za_iconst (nI 0) dX5_rich_32 (by decide) ?_
  refine za_istore_n (lv' := [_, _, _, _]) dX5_rich_33 hN (by decide) rfl ?_
  exact hloop k 0 (by omega)

set_option maxRecDepth 20000 in
set_option maxHeartbeats 4000000 in
theorem c_rich_none {g : zG} {S : zSto} {τ : zTn} (h1 : zHd S 1 τ) (hI : zTI 100000 τ) {n p : Nat} (hn : τ 0 3 = nI n) (h9 : n < 9) (hpn : p < n) {v : Int32} (hv : nI 0 ≤ v ∧ v ≤ nI 9999) (hm : ∀ j, j ≤ 200 → p_days τ j 5 p < v) : zEv g 8 yX5_rich cX5_rich 4 (some .int) [.ref (zad g 0), .int (nI p), .int v] S (fun r' s' => r' = some (.int (zfd 3)) ∧ ∃ T, zJ S T ∧ s' = zfin T 33 3) := by
  refine zev_intro (own := RX5) (lv := [some (.ref (zad g 0)), some (.int (nI p)), some (.int v), none]) (by decide +kernel) rfl (Nat.le_of_ble_eq_true rfl) rfl (fun C hM hN => ?_)
  have hp : p < 8 := by omega
  have hP := zper hn h9 hpn
  have hloop : ∀ (m : Nat) (i : Nat), i + m = 201 → zAW g C 8 cX5_rich RX5 34 [some (.ref (zad g 0)), some (.int (nI p)), some (.int v), some (.int (nI i))] [] (zpt S 8 (p_days τ i)) := by
    intro m
    induction m with
    | zero =>
      intro i hj
      obtain rfl : i = 201 := by omega
      refine za_iload_n dX5_rich_34 rfl ?_
      refine za_sipush (nI 200) dX5_rich_35 (by decide) ?_
      refine za_icmp_gt 69 dX5_rich_38 (by decide) (fun c38 => ?_) (fun c38 => absurd (by decide) c38)
      refine za_aload_n dX5_rich_69 rfl ?_
      refine za_iconst (nI 3) dX5_rich_70 (by decide) ?_
      refine za_cV1 dX5_rich_71 zm_X5_63 zw_X5_finding zv_X5_finding (c_finding (by decide)) (by decide) rfl rfl rfl (Nat.le_of_ble_eq_true rfl) ?_
      exact za_iret hM dX5_rich_74 ⟨rfl, _, zJ_8, rfl⟩
    | succ m ih =>
      intro i hj
      refine za_iload_n dX5_rich_34 rfl ?_
      refine za_sipush (nI 200) dX5_rich_35 (by decide) ?_
      refine za_icmp_gt 69 dX5_rich_38 (by decide) (fun c38 => absurd c38 (nI_nlt (show i ≤ 200 by omega) (by decide))) (fun c38 => ?_)
      refine za_aload_n dX5_rich_41 rfl ?_
      refine za_getR dX5_rich_42 zf_X5_16 rfl rfl ?_
      refine za_getR dX5_rich_45 zf_X5_127 (tn0 zT8) rfl ?_
      refine za_iload_n dX5_rich_48 rfl ?_
      refine zt_iald zT8 (by decide) dX5_rich_49 (zv5 (by omega)) ?_
      refine za_iload_n dX5_rich_50 rfl ?_
      refine za_icmp_lt 56 dX5_rich_51 (by decide) (fun c51 => ?_) (fun c51 => absurd (hm i (by omega)) c51)
      refine za_aload_n dX5_rich_56 rfl ?_
      refine za_getR dX5_rich_57 zf_X5_16 rfl rfl ?_
      refine za_cV0v dX5_rich_60 zm_X5_167 zw_X4_goDay zv_X4_goDay (tc_goDay zT8 (zTI_days hI i) (by omega)) (by decide) (tn0 zT8) rfl rfl (Nat.le_of_ble_eq_true rfl) ?_
      refine za_iinc (nI (_ + 1)) (lv' := [_, _, _, _]) dX5_rich_63 rfl hN (by decide) (znext _) rfl ?_
      refine za_goto 34 dX5_rich_66 (by decide) ?_
      exact ih (i + 1) (by omega)
  refine za_aload_n dX5_rich_0 rfl ?_
  refine za_iload_n dX5_rich_1 rfl ?_
  refine za_cV1 dX5_rich_2 zm_X5_118 zw_X5_isPerson zv_X5_isPerson (c_isPerson h1) (by decide) rfl rfl rfl (Nat.le_of_ble_eq_true rfl) ?_
  refine za_if_eqB 15 dX5_rich_5 (by decide) (fun c5 => absurd hP c5) (fun c5 => ?_)
  refine za_iload_n dX5_rich_8 rfl ?_
  refine za_cS1 dX5_rich_9 zm_X5_60 zw_X5_isPence zs_X5_isPence (e_isPence _) (by decide) (Nat.le_of_ble_eq_true rfl) ?_
  refine za_if_neB 21 dX5_rich_12 (by decide) (fun c12 => ?_) (fun c12 => absurd hv c12)
  refine za_aload_n dX5_rich_21 rfl ?_
  refine za_getR dX5_rich_22 zf_X5_16 rfl rfl ?_
  refine za_aload_n dX5_rich_25 rfl ?_
  refine za_getR dX5_rich_26 zf_X5_10 rfl rfl ?_
  refine za_cV1v dX5_rich_29 zm_X5_163 zw_X4_become zv_X4_become (tc_become8 h1) (by decide) (tn0 zT8) rfl rfl (Nat.le_of_ble_eq_true rfl) ?_
  refine za_iconst (nI 0) dX5_rich_32 (by decide) ?_
  refine za_istore_n (lv' := [_, _, _, _]) dX5_rich_33 hN (by decide) rfl ?_
  exact hloop 201 0 rfl

set_option maxRecDepth 20000 in
set_option maxHeartbeats 4000000 in
theorem c_rich_no {g : zG} {S : zSto} {τ : zTn} (h1 : zHd S 1 τ) {p v : Int32} (hno : ¬ ((nI 0 ≤ p ∧ p ≤ τ 0 3 - nI 1) ∧ (nI 0 ≤ v ∧ v ≤ nI 9999))) : zEd g 8 yX5_rich cX5_rich 4 (some .int) [.ref (zad g 0), .int p, .int v] S (some (.int (zfd 0))) (zfin S 33 0) := by
  refine zev_intro (own := RX5) (lv := [some (.ref (zad g 0)), some (.int p), some (.int v), none]) (by decide +kernel) rfl (Nat.le_of_ble_eq_true rfl) rfl (fun C hM hN => ?_)
  refine za_aload_n dX5_rich_0 rfl ?_
  refine za_iload_n dX5_rich_1 rfl ?_
  refine za_cV1 dX5_rich_2 zm_X5_118 zw_X5_isPerson zv_X5_isPerson (c_isPerson h1) (by decide) rfl rfl rfl (Nat.le_of_ble_eq_true rfl) ?_
  refine za_if_eqB 15 dX5_rich_5 (by decide) (fun c5 => ?_) (fun c5 => ?_)
  · refine za_aload_n dX5_rich_15 rfl ?_
    refine za_iconst (nI 0) dX5_rich_16 (by decide) ?_
    refine za_cV1 dX5_rich_17 zm_X5_63 zw_X5_finding zv_X5_finding (c_finding (by decide)) (by decide) rfl rfl rfl (Nat.le_of_ble_eq_true rfl) ?_
    exact za_iret hM dX5_rich_20 ⟨by rfl, by rfl⟩
  · refine za_iload_n dX5_rich_8 rfl ?_
    refine za_cS1 dX5_rich_9 zm_X5_60 zw_X5_isPence zs_X5_isPence (e_isPence _) (by decide) (Nat.le_of_ble_eq_true rfl) ?_
    refine za_if_neB 21 dX5_rich_12 (by decide) (fun c12 => ?_) (fun c12 => ?_)
    · exact absurd ⟨c5, c12⟩ hno
    · refine za_aload_n dX5_rich_15 rfl ?_
      refine za_iconst (nI 0) dX5_rich_16 (by decide) ?_
      refine za_cV1 dX5_rich_17 zm_X5_63 zw_X5_finding zv_X5_finding (c_finding (by decide)) (by decide) rfl rfl rfl (Nat.le_of_ble_eq_true rfl) ?_
      exact za_iret hM dX5_rich_20 ⟨by rfl, by rfl⟩

/-- the first of the most, of f 0 .. f (n - 1): its place and how many; nothing is below -1 -/
def p_best (b0 m0 : Int32) (f : Nat → Int32) : Nat → Int32 × Int32
  | 0 => (b0, m0)
  | k + 1 => if (p_best b0 m0 f k).2 < f k then (nI k, f k) else p_best b0 m0 f k
theorem p_best_1 {b0 m0 : Int32} {f : Nat → Int32} {k : Nat} (h : (p_best b0 m0 f k).2 < f k) : p_best b0 m0 f (k + 1) = (nI k, f k) := if_pos h
theorem p_best_0 {b0 m0 : Int32} {f : Nat → Int32} {k : Nat} (h : ¬ (p_best b0 m0 f k).2 < f k) : p_best b0 m0 f (k + 1) = p_best b0 m0 f k := if_neg h
def p_fk (τ : zTn) (p n : Nat) (k : Nat) : Int32 := p_days (zup τ 3 p (nI k)) n 5 p
def p_fl (τ : zTn) (p n : Nat) (k : Nat) : Int32 := p_ones (p_days (zup τ 4 p (nI k)) n 0 1 ^^^ τ 0 1) 6
theorem zTI_3 {B : Nat} {τ : zTn} {p k : Nat} (h : zTI B τ) (hk : k < 6) : zTI B (zup τ 3 p (nI k)) := by
  obtain ⟨h1, h2, h3, h4, h5, h6, h7, h8⟩ := h
  refine ⟨h1, h2, h3, h4, h5, h6, fun p' hp' => ?_, h8⟩
  by_cases e : p' = p
  · subst e; rw [zup_at]; exact ⟨k, hk, rfl⟩
  · rw [zup_ne _ _ (fun z => e z.2)]; exact h7 p' hp'
theorem zTI_4 {B : Nat} {τ : zTn} {p : Nat} {v : Int32} (h : zTI B τ) : zTI B (zup τ 4 p v) := h
theorem zTI_6 {B : Nat} {τ : zTn} {p : Nat} {v : Int32} (h : zTI B τ) : zTI B (zup τ 6 p v) := h
theorem zTI_02 {B : Nat} {τ : zTn} {v : Int32} (h : zTI B τ) (hv : zlt v 2) : zTI B (zup τ 0 2 v) := ⟨h.1, h.2.1, hv, h.2.2.2⟩

set_option maxRecDepth 20000 in
set_option maxHeartbeats 4000000 in
theorem c_kind_ok {g : zG} {S : zSto} {τ : zTn} (h1 : zHd S 1 τ) (hI : zTI 100000 τ) {n p : Nat} (hn : τ 0 3 = nI n) (h9 : n < 9) (hpn : p < n) {d : Nat} (hd1 : 1 ≤ d) (hd : d ≤ 60) : zEv g 8 yX5_kind cX5_kind 6 (some .int) [.ref (zad g 0), .int (nI p), .int (nI d)] S (fun r' s' => r' = some (.int (p_best (nI 0) (-1) (p_fk τ p d) 6).1) ∧ zJ S s') := by
  refine zev_intro (own := RX5) (lv := [some (.ref (zad g 0)), some (.int (nI p)), some (.int (nI d)), none, none, none]) (by decide +kernel) rfl (Nat.le_of_ble_eq_true rfl) rfl (fun C hM hN => ?_)
  have hp : p < 8 := by omega
  have hP := zper hn h9 hpn
  have hloop : ∀ (m : Nat) (j : Nat) (t : zTn), j + m = 6 → zAW g C 8 cX5_kind RX5 32 [some (.ref (zad g 0)), some (.int (nI p)), some (.int (nI d)), some (.int (p_best (nI 0) (-1) (p_fk τ p d) j).1), some (.int (p_best (nI 0) (-1) (p_fk τ p d) j).2), some (.int (nI j))] [] (zpt S 8 t) := by
    intro m
    induction m with
    | zero =>
      intro j t hj
      obtain rfl : j = 6 := by omega
      refine za_iload dX5_kind_32 rfl ?_
      refine za_bipush (nI 6) dX5_kind_34 (by decide) ?_
      refine za_icmp_ge 103 dX5_kind_36 (by decide) (fun c36 => ?_) (fun c36 => absurd (by decide) c36)
      refine za_iload_n dX5_kind_103 rfl ?_
      exact za_iret hM dX5_kind_104 ⟨by rfl, zJ_8⟩
    | succ m ih =>
      intro j t hj
      refine za_iload dX5_kind_32 rfl ?_
      refine za_bipush (nI 6) dX5_kind_34 (by decide) ?_
      refine za_icmp_ge 103 dX5_kind_36 (by decide) (fun c36 => absurd c36 (nI_ge (show j < 6 by omega) (by decide))) (fun c36 => ?_)
      refine za_aload_n dX5_kind_39 rfl ?_
      refine za_getR dX5_kind_40 zf_X5_16 rfl rfl ?_
      refine za_aload_n dX5_kind_43 rfl ?_
      refine za_getR dX5_kind_44 zf_X5_10 rfl rfl ?_
      refine za_cV1v dX5_kind_47 zm_X5_163 zw_X4_become zv_X4_become (tc_become8' h1) (by decide) (tn0 zT8) rfl rfl (Nat.le_of_ble_eq_true rfl) ?_
      refine za_aload_n dX5_kind_50 rfl ?_
      refine za_getR dX5_kind_51 zf_X5_16 rfl rfl ?_
      refine za_getR dX5_kind_54 zf_X5_121 (tn0 zT8) rfl ?_
      refine za_iload_n dX5_kind_57 rfl ?_
      refine za_iload dX5_kind_58 rfl ?_
      refine zt_iast zT8 (by decide) dX5_kind_60 (zv3 (by omega)) ?_
      refine za_aload_n dX5_kind_61 rfl ?_
      refine za_getR dX5_kind_62 zf_X5_16 rfl rfl ?_
      refine za_iload_n dX5_kind_65 rfl ?_
      refine za_cV1v dX5_kind_66 zm_X5_156 zw_X4_goDays zv_X4_goDays (tc_goDays zT8 (zTI_3 hI (by omega)) (by decide) (by omega)) (by decide) (tn0 zT8) rfl rfl (Nat.le_of_ble_eq_true rfl) ?_
      refine za_aload_n dX5_kind_69 rfl ?_
      refine za_getR dX5_kind_70 zf_X5_16 rfl rfl ?_
      refine za_getR dX5_kind_73 zf_X5_127 (tn0 zT8) rfl ?_
      refine za_iload_n dX5_kind_76 rfl ?_
      refine zt_iald zT8 (by decide) dX5_kind_77 (zv5 (by omega)) ?_
      refine za_iload dX5_kind_78 rfl ?_
      refine za_icmp_le 97 dX5_kind_80 (by decide) (fun c80 => ?_) (fun c80 => ?_)
      · refine za_iinc (nI (_ + 1)) (lv' := [_, _, _, _, _, _]) dX5_kind_97 rfl hN (by decide) (znext _) rfl ?_
        refine za_goto 32 dX5_kind_100 (by decide) ?_
        have hh := fun t => ih (j + 1) t (by omega)
        first
          | (rw [p_best_1 (Int32.not_le.mp c80)] at hh; exact hh _)
          | (rw [p_best_0 (Int32.not_lt.mpr c80)] at hh; exact hh _)
      · refine za_aload_n dX5_kind_83 rfl ?_
        refine za_getR dX5_kind_84 zf_X5_16 rfl rfl ?_
        refine za_getR dX5_kind_87 zf_X5_127 (tn0 zT8) rfl ?_
        refine za_iload_n dX5_kind_90 rfl ?_
        refine zt_iald zT8 (by decide) dX5_kind_91 (zv5 (by omega)) ?_
        refine za_istore (lv' := [_, _, _, _, _, _]) dX5_kind_92 hN (by decide) rfl ?_
        refine za_iload dX5_kind_94 rfl ?_
        refine za_istore_n (lv' := [_, _, _, _, _, _]) dX5_kind_96 hN (by decide) rfl ?_
        refine za_iinc (nI (_ + 1)) (lv' := [_, _, _, _, _, _]) dX5_kind_97 rfl hN (by decide) (znext _) rfl ?_
        refine za_goto 32 dX5_kind_100 (by decide) ?_
        have hh := fun t => ih (j + 1) t (by omega)
        first
          | (rw [p_best_1 (Int32.not_le.mp c80)] at hh; exact hh _)
          | (rw [p_best_0 (Int32.not_lt.mpr c80)] at hh; exact hh _)
  refine za_aload_n dX5_kind_0 rfl ?_
  refine za_iload_n dX5_kind_1 rfl ?_
  refine za_cV1 dX5_kind_2 zm_X5_118 zw_X5_isPerson zv_X5_isPerson (c_isPerson h1) (by decide) rfl rfl rfl (Nat.le_of_ble_eq_true rfl) ?_
  refine za_if_eqB 18 dX5_kind_5 (by decide) (fun c5 => absurd hP c5) (fun c5 => ?_)
  refine za_iload_n dX5_kind_8 rfl ?_
  refine za_iconst (nI 1) dX5_kind_9 (by decide) ?_
  refine za_bipush (nI 60) dX5_kind_10 (by decide) ?_
  refine za_cS3 dX5_kind_12 zm_X5_75 zw_X5_isWithin zs_X5_isWithin (e_isWithin _ _ _) (by decide) (Nat.le_of_ble_eq_true rfl) ?_
  refine za_if_neB 24 dX5_kind_15 (by decide) (fun c15 => ?_) (fun c15 => absurd (zrng (by omega) (by omega) (by decide)) c15)
  refine za_iconst (nI 0) dX5_kind_24 (by decide) ?_
  refine za_istore_n (lv' := [_, _, _, _, _, _]) dX5_kind_25 hN (by decide) rfl ?_
  refine za_iconst (-1) dX5_kind_26 (by decide) ?_
  refine za_istore (lv' := [_, _, _, _, _, _]) dX5_kind_27 hN (by decide) rfl ?_
  refine za_iconst (nI 0) dX5_kind_29 (by decide) ?_
  refine za_istore (lv' := [_, _, _, _, _, _]) dX5_kind_30 hN (by decide) rfl ?_
  have h0 := hloop 6 0 (ztw S 8) rfl
  rw [zpt_tw] at h0
  exact h0

set_option maxRecDepth 20000 in
set_option maxHeartbeats 4000000 in
theorem c_kind_no {g : zG} {S : zSto} {τ : zTn} (h1 : zHd S 1 τ) {p d : Int32} (hno : ¬ ((nI 0 ≤ p ∧ p ≤ τ 0 3 - nI 1) ∧ (nI 1 ≤ d ∧ d ≤ nI 60))) : zEd g 8 yX5_kind cX5_kind 6 (some .int) [.ref (zad g 0), .int p, .int d] S (some (.int (zfd 0))) (zfin S 33 0) := by
  refine zev_intro (own := RX5) (lv := [some (.ref (zad g 0)), some (.int p), some (.int d), none, none, none]) (by decide +kernel) rfl (Nat.le_of_ble_eq_true rfl) rfl (fun C hM hN => ?_)
  refine za_aload_n dX5_kind_0 rfl ?_
  refine za_iload_n dX5_kind_1 rfl ?_
  refine za_cV1 dX5_kind_2 zm_X5_118 zw_X5_isPerson zv_X5_isPerson (c_isPerson h1) (by decide) rfl rfl rfl (Nat.le_of_ble_eq_true rfl) ?_
  refine za_if_eqB 18 dX5_kind_5 (by decide) (fun c5 => ?_) (fun c5 => ?_)
  · refine za_aload_n dX5_kind_18 rfl ?_
    refine za_iconst (nI 0) dX5_kind_19 (by decide) ?_
    refine za_cV1 dX5_kind_20 zm_X5_63 zw_X5_finding zv_X5_finding (c_finding (by decide)) (by decide) rfl rfl rfl (Nat.le_of_ble_eq_true rfl) ?_
    exact za_iret hM dX5_kind_23 ⟨by rfl, by rfl⟩
  · refine za_iload_n dX5_kind_8 rfl ?_
    refine za_iconst (nI 1) dX5_kind_9 (by decide) ?_
    refine za_bipush (nI 60) dX5_kind_10 (by decide) ?_
    refine za_cS3 dX5_kind_12 zm_X5_75 zw_X5_isWithin zs_X5_isWithin (e_isWithin _ _ _) (by decide) (Nat.le_of_ble_eq_true rfl) ?_
    refine za_if_neB 24 dX5_kind_15 (by decide) (fun c15 => ?_) (fun c15 => ?_)
    · exact absurd ⟨c5, c15⟩ hno
    · refine za_aload_n dX5_kind_18 rfl ?_
      refine za_iconst (nI 0) dX5_kind_19 (by decide) ?_
      refine za_cV1 dX5_kind_20 zm_X5_63 zw_X5_finding zv_X5_finding (c_finding (by decide)) (by decide) rfl rfl rfl (Nat.le_of_ble_eq_true rfl) ?_
      exact za_iret hM dX5_kind_23 ⟨by rfl, by rfl⟩

set_option maxRecDepth 20000 in
set_option maxHeartbeats 4000000 in
theorem c_lean_ok {g : zG} {S : zSto} {τ : zTn} (h1 : zHd S 1 τ) (hI : zTI 100000 τ) {n p : Nat} (hn : τ 0 3 = nI n) (h9 : n < 9) (hpn : p < n) {d : Nat} (hd1 : 1 ≤ d) (hd : d ≤ 40) : zEv g 8 yX5_lean cX5_lean 7 (some .int) [.ref (zad g 0), .int (nI p), .int (nI d)] S (fun r' s' => r' = some (.int (p_best (nI 0) (-1) (p_fl τ p d) 64).1) ∧ zJ S s') := by
  refine zev_intro (own := RX5) (lv := [some (.ref (zad g 0)), some (.int (nI p)), some (.int (nI d)), none, none, none, none]) (by decide +kernel) rfl (Nat.le_of_ble_eq_true rfl) rfl (fun C hM hN => ?_)
  have hp : p < 8 := by omega
  have hP := zper hn h9 hpn
  have hloop : ∀ (m : Nat) (j : Nat) (t : zTn) (l6 : Option Value), j + m = 64 → zAW g C 8 cX5_lean RX5 32 [some (.ref (zad g 0)), some (.int (nI p)), some (.int (nI d)), some (.int (p_best (nI 0) (-1) (p_fl τ p d) j).1), some (.int (p_best (nI 0) (-1) (p_fl τ p d) j).2), some (.int (nI j)), l6] [] (zpt S 8 t) := by
    intro m
    induction m with
    | zero =>
      intro j t l6 hj
      obtain rfl : j = 64 := by omega
      refine za_iload dX5_lean_32 rfl ?_
      refine za_bipush (nI 63) dX5_lean_34 (by decide) ?_
      refine za_icmp_gt 109 dX5_lean_36 (by decide) (fun c36 => ?_) (fun c36 => absurd (by decide) c36)
      refine za_iload_n dX5_lean_109 rfl ?_
      exact za_iret hM dX5_lean_110 ⟨by rfl, zJ_8⟩
    | succ m ih =>
      intro j t l6 hj
      refine za_iload dX5_lean_32 rfl ?_
      refine za_bipush (nI 63) dX5_lean_34 (by decide) ?_
      refine za_icmp_gt 109 dX5_lean_36 (by decide) (fun c36 => absurd c36 (nI_nlt (show j ≤ 63 by omega) (by decide))) (fun c36 => ?_)
      refine za_aload_n dX5_lean_39 rfl ?_
      refine za_getR dX5_lean_40 zf_X5_16 rfl rfl ?_
      refine za_aload_n dX5_lean_43 rfl ?_
      refine za_getR dX5_lean_44 zf_X5_10 rfl rfl ?_
      refine za_cV1v dX5_lean_47 zm_X5_163 zw_X4_become zv_X4_become (tc_become8' h1) (by decide) (tn0 zT8) rfl rfl (Nat.le_of_ble_eq_true rfl) ?_
      refine za_aload_n dX5_lean_50 rfl ?_
      refine za_getR dX5_lean_51 zf_X5_16 rfl rfl ?_
      refine za_getR dX5_lean_54 zf_X5_124 (tn0 zT8) rfl ?_
      refine za_iload_n dX5_lean_57 rfl ?_
      refine za_iload dX5_lean_58 rfl ?_
      refine zt_iast zT8 (by decide) dX5_lean_60 (zv4 (by omega)) ?_
      refine za_aload_n dX5_lean_61 rfl ?_
      refine za_getR dX5_lean_62 zf_X5_16 rfl rfl ?_
      refine za_iload_n dX5_lean_65 rfl ?_
      refine za_cV1v dX5_lean_66 zm_X5_156 zw_X4_goDays zv_X4_goDays (tc_goDays zT8 (zTI_4 hI) (by decide) (by omega)) (by decide) (tn0 zT8) rfl rfl (Nat.le_of_ble_eq_true rfl) ?_
      refine za_aload_n dX5_lean_69 rfl ?_
      refine za_getR dX5_lean_70 zf_X5_16 rfl rfl ?_
      refine zt_getI zT8 dX5_lean_73 zf_X5_89 (by decide) ?_
      refine za_aload_n dX5_lean_76 rfl ?_
      refine za_getR dX5_lean_77 zf_X5_10 rfl rfl ?_
      refine zh_getI zT1 (by first | exact h1 | exact zHd_8 h1) dX5_lean_80 zf_X5_89 (by decide) ?_
      refine za_ixor dX5_lean_83 ?_
      refine za_cS1 dX5_lean_84 zm_X5_170 zw_J6_bitCount_0f7a4 zs_J6_bitCount_0f7a4 (e_bitCount (zxor_lt (zTI_days (zTI_4 hI) d).2.1 hI.2.1)) (by decide) (Nat.le_of_ble_eq_true rfl) ?_
      refine za_istore (lv' := [_, _, _, _, _, _, _]) dX5_lean_87 hN (by decide) rfl ?_
      refine za_iload dX5_lean_89 rfl ?_
      refine za_iload dX5_lean_91 rfl ?_
      refine za_icmp_le 103 dX5_lean_93 (by decide) (fun c93 => ?_) (fun c93 => ?_)
      · refine za_iinc (nI (_ + 1)) (lv' := [_, _, _, _, _, _, _]) dX5_lean_103 rfl hN (by decide) (znext _) rfl ?_
        refine za_goto 32 dX5_lean_106 (by decide) ?_
        have hh := fun t l6 => ih (j + 1) t l6 (by omega)
        first
          | (rw [p_best_1 (Int32.not_le.mp c93)] at hh; exact hh _ _)
          | (rw [p_best_0 (Int32.not_lt.mpr c93)] at hh; exact hh _ _)
      · refine za_iload dX5_lean_96 rfl ?_
        refine za_istore (lv' := [_, _, _, _, _, _, _]) dX5_lean_98 hN (by decide) rfl ?_
        refine za_iload dX5_lean_100 rfl ?_
        refine za_istore_n (lv' := [_, _, _, _, _, _, _]) dX5_lean_102 hN (by decide) rfl ?_
        refine za_iinc (nI (_ + 1)) (lv' := [_, _, _, _, _, _, _]) dX5_lean_103 rfl hN (by decide) (znext _) rfl ?_
        refine za_goto 32 dX5_lean_106 (by decide) ?_
        have hh := fun t l6 => ih (j + 1) t l6 (by omega)
        first
          | (rw [p_best_1 (Int32.not_le.mp c93)] at hh; exact hh _ _)
          | (rw [p_best_0 (Int32.not_lt.mpr c93)] at hh; exact hh _ _)
  refine za_aload_n dX5_lean_0 rfl ?_
  refine za_iload_n dX5_lean_1 rfl ?_
  refine za_cV1 dX5_lean_2 zm_X5_118 zw_X5_isPerson zv_X5_isPerson (c_isPerson h1) (by decide) rfl rfl rfl (Nat.le_of_ble_eq_true rfl) ?_
  refine za_if_eqB 18 dX5_lean_5 (by decide) (fun c5 => absurd hP c5) (fun c5 => ?_)
  refine za_iload_n dX5_lean_8 rfl ?_
  refine za_iconst (nI 1) dX5_lean_9 (by decide) ?_
  refine za_bipush (nI 40) dX5_lean_10 (by decide) ?_
  refine za_cS3 dX5_lean_12 zm_X5_75 zw_X5_isWithin zs_X5_isWithin (e_isWithin _ _ _) (by decide) (Nat.le_of_ble_eq_true rfl) ?_
  refine za_if_neB 24 dX5_lean_15 (by decide) (fun c15 => ?_) (fun c15 => absurd (zrng (by omega) (by omega) (by decide)) c15)
  refine za_iconst (nI 0) dX5_lean_24 (by decide) ?_
  refine za_istore_n (lv' := [_, _, _, _, _, _, _]) dX5_lean_25 hN (by decide) rfl ?_
  refine za_iconst (-1) dX5_lean_26 (by decide) ?_
  refine za_istore (lv' := [_, _, _, _, _, _, _]) dX5_lean_27 hN (by decide) rfl ?_
  refine za_iconst (nI 0) dX5_lean_29 (by decide) ?_
  refine za_istore (lv' := [_, _, _, _, _, _, _]) dX5_lean_30 hN (by decide) rfl ?_
  have h0 := hloop 64 0 (ztw S 8) none rfl
  rw [zpt_tw] at h0
  exact h0

set_option maxRecDepth 20000 in
set_option maxHeartbeats 4000000 in
theorem c_lean_no {g : zG} {S : zSto} {τ : zTn} (h1 : zHd S 1 τ) {p d : Int32} (hno : ¬ ((nI 0 ≤ p ∧ p ≤ τ 0 3 - nI 1) ∧ (nI 1 ≤ d ∧ d ≤ nI 40))) : zEd g 8 yX5_lean cX5_lean 7 (some .int) [.ref (zad g 0), .int p, .int d] S (some (.int (zfd 0))) (zfin S 33 0) := by
  refine zev_intro (own := RX5) (lv := [some (.ref (zad g 0)), some (.int p), some (.int d), none, none, none, none]) (by decide +kernel) rfl (Nat.le_of_ble_eq_true rfl) rfl (fun C hM hN => ?_)
  refine za_aload_n dX5_lean_0 rfl ?_
  refine za_iload_n dX5_lean_1 rfl ?_
  refine za_cV1 dX5_lean_2 zm_X5_118 zw_X5_isPerson zv_X5_isPerson (c_isPerson h1) (by decide) rfl rfl rfl (Nat.le_of_ble_eq_true rfl) ?_
  refine za_if_eqB 18 dX5_lean_5 (by decide) (fun c5 => ?_) (fun c5 => ?_)
  · refine za_aload_n dX5_lean_18 rfl ?_
    refine za_iconst (nI 0) dX5_lean_19 (by decide) ?_
    refine za_cV1 dX5_lean_20 zm_X5_63 zw_X5_finding zv_X5_finding (c_finding (by decide)) (by decide) rfl rfl rfl (Nat.le_of_ble_eq_true rfl) ?_
    exact za_iret hM dX5_lean_23 ⟨by rfl, by rfl⟩
  · refine za_iload_n dX5_lean_8 rfl ?_
    refine za_iconst (nI 1) dX5_lean_9 (by decide) ?_
    refine za_bipush (nI 40) dX5_lean_10 (by decide) ?_
    refine za_cS3 dX5_lean_12 zm_X5_75 zw_X5_isWithin zs_X5_isWithin (e_isWithin _ _ _) (by decide) (Nat.le_of_ble_eq_true rfl) ?_
    refine za_if_neB 24 dX5_lean_15 (by decide) (fun c15 => ?_) (fun c15 => ?_)
    · exact absurd ⟨c5, c15⟩ hno
    · refine za_aload_n dX5_lean_18 rfl ?_
      refine za_iconst (nI 0) dX5_lean_19 (by decide) ?_
      refine za_cV1 dX5_lean_20 zm_X5_63 zw_X5_finding zv_X5_finding (c_finding (by decide)) (by decide) rfl rfl rfl (Nat.le_of_ble_eq_true rfl) ?_
      exact za_iret hM dX5_lean_23 ⟨by rfl, by rfl⟩

def p_fb (τ : zTn) (p q n : Nat) (k : Nat) : Int32 := p_tell (p_days (zup τ 5 p (nI (10 * k))) n) q 2
theorem zten (k : Nat) : nI (10 * k) + Int32.ofInt 10 = nI (10 * (k + 1)) := nI_add (10 * k) 10

set_option maxRecDepth 20000 in
set_option maxHeartbeats 4000000 in
theorem c_buys_at {g : zG} {S : zSto} {τ : zTn} (h1 : zHd S 1 τ) (hI : zTI 100000 τ) {n p : Nat} (hn : τ 0 3 = nI n) (h9 : n < 9) (hpn : p < n) {q d k : Nat} (hq : q < 6) (hd1 : 1 ≤ d) (hd : d ≤ 60) (hk : k ≤ 100) (hQ : ¬ p_fb τ p q d k = p_tell τ q 2) (hm : ∀ j, j < k → p_fb τ p q d j = p_tell τ q 2) : zEv g 8 yX5_buys cX5_buys 6 (some .int) [.ref (zad g 0), .int (nI p), .int (nI q), .int (nI d)] S (fun r' s' => r' = some (.int (nI (10 * k))) ∧ zJ S s') := by
  refine zev_intro (own := RX5) (lv := [some (.ref (zad g 0)), some (.int (nI p)), some (.int (nI q)), some (.int (nI d)), none, none]) (by decide +kernel) rfl (Nat.le_of_ble_eq_true rfl) rfl (fun C hM hN => ?_)
  have hp : p < 8 := by omega
  have hP := zper hn h9 hpn
  have hloop : ∀ (m : Nat) (i : Nat) (t : zTn), i + m = k → zAW g C 8 cX5_buys RX5 45 [some (.ref (zad g 0)), some (.int (nI p)), some (.int (nI q)), some (.int (nI d)), some (.int (p_tell τ q 2)), some (.int (nI (10 * i)))] [] (zpt S 8 t) := by
    intro m
    induction m with
    | zero =>
      intro i t hj
      obtain rfl : i = k := by omega
      refine za_iload dX5_buys_45 rfl ?_
      refine za_sipush (nI 1000) dX5_buys_47 (by decide) ?_
      refine za_icmp_gt 106 dX5_buys_50 (by decide) (fun c50 => absurd c50 (nI_nlt (show 10 * i ≤ 1000 by omega) (by decide))) (fun c50 => ?_)
      refine za_aload_n dX5_buys_53 rfl ?_
      refine za_getR dX5_buys_54 zf_X5_16 rfl rfl ?_
      refine za_aload_n dX5_buys_57 rfl ?_
      refine za_getR dX5_buys_58 zf_X5_10 rfl rfl ?_
      refine za_cV1v dX5_buys_61 zm_X5_163 zw_X4_become zv_X4_become (tc_become8' h1) (by decide) (tn0 zT8) rfl rfl (Nat.le_of_ble_eq_true rfl) ?_
      refine za_aload_n dX5_buys_64 rfl ?_
      refine za_getR dX5_buys_65 zf_X5_16 rfl rfl ?_
      refine za_getR dX5_buys_68 zf_X5_127 (tn0 zT8) rfl ?_
      refine za_iload_n dX5_buys_71 rfl ?_
      refine za_iload dX5_buys_72 rfl ?_
      refine zt_iast zT8 (by decide) dX5_buys_74 (zv5 (by omega)) ?_
      refine za_aload_n dX5_buys_75 rfl ?_
      refine za_getR dX5_buys_76 zf_X5_16 rfl rfl ?_
      refine za_iload_n dX5_buys_79 rfl ?_
      refine za_cV1v dX5_buys_80 zm_X5_156 zw_X4_goDays zv_X4_goDays (tc_goDays zT8 (zTI_5 hI ⟨10 * i, by omega, rfl⟩) (by decide) (by omega)) (by decide) (tn0 zT8) rfl rfl (Nat.le_of_ble_eq_true rfl) ?_
      refine za_aload_n dX5_buys_83 rfl ?_
      refine za_getR dX5_buys_84 zf_X5_16 rfl rfl ?_
      refine za_iload_n dX5_buys_87 rfl ?_
      refine za_iconst (nI 2) dX5_buys_88 (by decide) ?_
      refine za_cV2 dX5_buys_89 zm_X5_79 zw_X4_tell zv_X4_tell (tc_tell zT8 hq (by decide)) (by decide) (tn0 zT8) rfl rfl (Nat.le_of_ble_eq_true rfl) ?_
      refine za_iload dX5_buys_92 rfl ?_
      refine za_icmp_eq 100 dX5_buys_94 (by decide) (fun c94 => absurd c94 hQ) (fun c94 => ?_)
      refine za_iload dX5_buys_97 rfl ?_
      exact za_iret hM dX5_buys_99 ⟨by rfl, zJ_8⟩
    | succ m ih =>
      intro i t hj
      refine za_iload dX5_buys_45 rfl ?_
      refine za_sipush (nI 1000) dX5_buys_47 (by decide) ?_
      refine za_icmp_gt 106 dX5_buys_50 (by decide) (fun c50 => absurd c50 (nI_nlt (show 10 * i ≤ 1000 by omega) (by decide))) (fun c50 => ?_)
      refine za_aload_n dX5_buys_53 rfl ?_
      refine za_getR dX5_buys_54 zf_X5_16 rfl rfl ?_
      refine za_aload_n dX5_buys_57 rfl ?_
      refine za_getR dX5_buys_58 zf_X5_10 rfl rfl ?_
      refine za_cV1v dX5_buys_61 zm_X5_163 zw_X4_become zv_X4_become (tc_become8' h1) (by decide) (tn0 zT8) rfl rfl (Nat.le_of_ble_eq_true rfl) ?_
      refine za_aload_n dX5_buys_64 rfl ?_
      refine za_getR dX5_buys_65 zf_X5_16 rfl rfl ?_
      refine za_getR dX5_buys_68 zf_X5_127 (tn0 zT8) rfl ?_
      refine za_iload_n dX5_buys_71 rfl ?_
      refine za_iload dX5_buys_72 rfl ?_
      refine zt_iast zT8 (by decide) dX5_buys_74 (zv5 (by omega)) ?_
      refine za_aload_n dX5_buys_75 rfl ?_
      refine za_getR dX5_buys_76 zf_X5_16 rfl rfl ?_
      refine za_iload_n dX5_buys_79 rfl ?_
      refine za_cV1v dX5_buys_80 zm_X5_156 zw_X4_goDays zv_X4_goDays (tc_goDays zT8 (zTI_5 hI ⟨10 * i, by omega, rfl⟩) (by decide) (by omega)) (by decide) (tn0 zT8) rfl rfl (Nat.le_of_ble_eq_true rfl) ?_
      refine za_aload_n dX5_buys_83 rfl ?_
      refine za_getR dX5_buys_84 zf_X5_16 rfl rfl ?_
      refine za_iload_n dX5_buys_87 rfl ?_
      refine za_iconst (nI 2) dX5_buys_88 (by decide) ?_
      refine za_cV2 dX5_buys_89 zm_X5_79 zw_X4_tell zv_X4_tell (tc_tell zT8 hq (by decide)) (by decide) (tn0 zT8) rfl rfl (Nat.le_of_ble_eq_true rfl) ?_
      refine za_iload dX5_buys_92 rfl ?_
      refine za_icmp_eq 100 dX5_buys_94 (by decide) (fun c94 => ?_) (fun c94 => absurd (hm i (by omega)) c94)
      refine za_iinc (nI (10 * (i + 1))) (lv' := [_, _, _, _, _, _]) dX5_buys_100 rfl hN (by decide) (zten i) rfl ?_
      refine za_goto 45 dX5_buys_103 (by decide) ?_
      exact ih (i + 1) _ (by omega)
  refine za_aload_n dX5_buys_0 rfl ?_
  refine za_iload_n dX5_buys_1 rfl ?_
  refine za_cV1 dX5_buys_2 zm_X5_118 zw_X5_isPerson zv_X5_isPerson (c_isPerson h1) (by decide) rfl rfl rfl (Nat.le_of_ble_eq_true rfl) ?_
  refine za_if_eqB 25 dX5_buys_5 (by decide) (fun c5 => absurd hP c5) (fun c5 => ?_)
  refine za_iload_n dX5_buys_8 rfl ?_
  refine za_cS1 dX5_buys_9 zm_X5_53 zw_X5_isQuestion zs_X5_isQuestion (e_isQuestion _) (by decide) (Nat.le_of_ble_eq_true rfl) ?_
  refine za_if_eqB 25 dX5_buys_12 (by decide) (fun c12 => absurd (zrng (Nat.zero_le _) (by omega) (by decide)) c12) (fun c12 => ?_)
  refine za_iload_n dX5_buys_15 rfl ?_
  refine za_iconst (nI 1) dX5_buys_16 (by decide) ?_
  refine za_bipush (nI 60) dX5_buys_17 (by decide) ?_
  refine za_cS3 dX5_buys_19 zm_X5_75 zw_X5_isWithin zs_X5_isWithin (e_isWithin _ _ _) (by decide) (Nat.le_of_ble_eq_true rfl) ?_
  refine za_if_neB 31 dX5_buys_22 (by decide) (fun c22 => ?_) (fun c22 => absurd (zrng (by omega) (by omega) (by decide)) c22)
  refine za_aload_n dX5_buys_31 rfl ?_
  refine za_getR dX5_buys_32 zf_X5_10 rfl rfl ?_
  refine za_iload_n dX5_buys_35 rfl ?_
  refine za_iconst (nI 2) dX5_buys_36 (by decide) ?_
  refine za_cV2 dX5_buys_37 zm_X5_79 zw_X4_tell zv_X4_tell (zhold0 h1 (tc_tell zT1 hq (by decide))) (by decide) (tn0 zT1) rfl rfl (Nat.le_of_ble_eq_true rfl) ?_
  refine za_istore (lv' := [_, _, _, _, _, _]) dX5_buys_40 hN (by decide) rfl ?_
  refine za_iconst (nI 0) dX5_buys_42 (by decide) ?_
  refine za_istore (lv' := [_, _, _, _, _, _]) dX5_buys_43 hN (by decide) rfl ?_
  have h0 := hloop k 0 (ztw S 8) (by omega)
  rw [zpt_tw] at h0
  exact h0

set_option maxRecDepth 20000 in
set_option maxHeartbeats 4000000 in
theorem c_buys_none {g : zG} {S : zSto} {τ : zTn} (h1 : zHd S 1 τ) (hI : zTI 100000 τ) {n p : Nat} (hn : τ 0 3 = nI n) (h9 : n < 9) (hpn : p < n) {q d : Nat} (hq : q < 6) (hd1 : 1 ≤ d) (hd : d ≤ 60) (hm : ∀ j, j ≤ 100 → p_fb τ p q d j = p_tell τ q 2) : zEv g 8 yX5_buys cX5_buys 6 (some .int) [.ref (zad g 0), .int (nI p), .int (nI q), .int (nI d)] S (fun r' s' => r' = some (.int (zfd 3)) ∧ ∃ T, zJ S T ∧ s' = zfin T 33 3) := by
  refine zev_intro (own := RX5) (lv := [some (.ref (zad g 0)), some (.int (nI p)), some (.int (nI q)), some (.int (nI d)), none, none]) (by decide +kernel) rfl (Nat.le_of_ble_eq_true rfl) rfl (fun C hM hN => ?_)
  have hp : p < 8 := by omega
  have hP := zper hn h9 hpn
  have hloop : ∀ (m : Nat) (i : Nat) (t : zTn), i + m = 101 → zAW g C 8 cX5_buys RX5 45 [some (.ref (zad g 0)), some (.int (nI p)), some (.int (nI q)), some (.int (nI d)), some (.int (p_tell τ q 2)), some (.int (nI (10 * i)))] [] (zpt S 8 t) := by
    intro m
    induction m with
    | zero =>
      intro i t hj
      obtain rfl : i = 101 := by omega
      refine za_iload dX5_buys_45 rfl ?_
      refine za_sipush (nI 1000) dX5_buys_47 (by decide) ?_
      refine za_icmp_gt 106 dX5_buys_50 (by decide) (fun c50 => ?_) (fun c50 => absurd (by decide) c50)
      refine za_aload_n dX5_buys_106 rfl ?_
      refine za_iconst (nI 3) dX5_buys_107 (by decide) ?_
      refine za_cV1 dX5_buys_108 zm_X5_63 zw_X5_finding zv_X5_finding (c_finding (by decide)) (by decide) rfl rfl rfl (Nat.le_of_ble_eq_true rfl) ?_
      exact za_iret hM dX5_buys_111 ⟨rfl, _, zJ_8, rfl⟩
    | succ m ih =>
      intro i t hj
      refine za_iload dX5_buys_45 rfl ?_
      refine za_sipush (nI 1000) dX5_buys_47 (by decide) ?_
      refine za_icmp_gt 106 dX5_buys_50 (by decide) (fun c50 => absurd c50 (nI_nlt (show 10 * i ≤ 1000 by omega) (by decide))) (fun c50 => ?_)
      refine za_aload_n dX5_buys_53 rfl ?_
      refine za_getR dX5_buys_54 zf_X5_16 rfl rfl ?_
      refine za_aload_n dX5_buys_57 rfl ?_
      refine za_getR dX5_buys_58 zf_X5_10 rfl rfl ?_
      refine za_cV1v dX5_buys_61 zm_X5_163 zw_X4_become zv_X4_become (tc_become8' h1) (by decide) (tn0 zT8) rfl rfl (Nat.le_of_ble_eq_true rfl) ?_
      refine za_aload_n dX5_buys_64 rfl ?_
      refine za_getR dX5_buys_65 zf_X5_16 rfl rfl ?_
      refine za_getR dX5_buys_68 zf_X5_127 (tn0 zT8) rfl ?_
      refine za_iload_n dX5_buys_71 rfl ?_
      refine za_iload dX5_buys_72 rfl ?_
      refine zt_iast zT8 (by decide) dX5_buys_74 (zv5 (by omega)) ?_
      refine za_aload_n dX5_buys_75 rfl ?_
      refine za_getR dX5_buys_76 zf_X5_16 rfl rfl ?_
      refine za_iload_n dX5_buys_79 rfl ?_
      refine za_cV1v dX5_buys_80 zm_X5_156 zw_X4_goDays zv_X4_goDays (tc_goDays zT8 (zTI_5 hI ⟨10 * i, by omega, rfl⟩) (by decide) (by omega)) (by decide) (tn0 zT8) rfl rfl (Nat.le_of_ble_eq_true rfl) ?_
      refine za_aload_n dX5_buys_83 rfl ?_
      refine za_getR dX5_buys_84 zf_X5_16 rfl rfl ?_
      refine za_iload_n dX5_buys_87 rfl ?_
      refine za_iconst (nI 2) dX5_buys_88 (by decide) ?_
      refine za_cV2 dX5_buys_89 zm_X5_79 zw_X4_tell zv_X4_tell (tc_tell zT8 hq (by decide)) (by decide) (tn0 zT8) rfl rfl (Nat.le_of_ble_eq_true rfl) ?_
      refine za_iload dX5_buys_92 rfl ?_
      refine za_icmp_eq 100 dX5_buys_94 (by decide) (fun c94 => ?_) (fun c94 => absurd (hm i (by omega)) c94)
      refine za_iinc (nI (10 * (i + 1))) (lv' := [_, _, _, _, _, _]) dX5_buys_100 rfl hN (by decide) (zten i) rfl ?_
      refine za_goto 45 dX5_buys_103 (by decide) ?_
      exact ih (i + 1) _ (by omega)
  refine za_aload_n dX5_buys_0 rfl ?_
  refine za_iload_n dX5_buys_1 rfl ?_
  refine za_cV1 dX5_buys_2 zm_X5_118 zw_X5_isPerson zv_X5_isPerson (c_isPerson h1) (by decide) rfl rfl rfl (Nat.le_of_ble_eq_true rfl) ?_
  refine za_if_eqB 25 dX5_buys_5 (by decide) (fun c5 => absurd hP c5) (fun c5 => ?_)
  refine za_iload_n dX5_buys_8 rfl ?_
  refine za_cS1 dX5_buys_9 zm_X5_53 zw_X5_isQuestion zs_X5_isQuestion (e_isQuestion _) (by decide) (Nat.le_of_ble_eq_true rfl) ?_
  refine za_if_eqB 25 dX5_buys_12 (by decide) (fun c12 => absurd (zrng (Nat.zero_le _) (by omega) (by decide)) c12) (fun c12 => ?_)
  refine za_iload_n dX5_buys_15 rfl ?_
  refine za_iconst (nI 1) dX5_buys_16 (by decide) ?_
  refine za_bipush (nI 60) dX5_buys_17 (by decide) ?_
  refine za_cS3 dX5_buys_19 zm_X5_75 zw_X5_isWithin zs_X5_isWithin (e_isWithin _ _ _) (by decide) (Nat.le_of_ble_eq_true rfl) ?_
  refine za_if_neB 31 dX5_buys_22 (by decide) (fun c22 => ?_) (fun c22 => absurd (zrng (by omega) (by omega) (by decide)) c22)
  refine za_aload_n dX5_buys_31 rfl ?_
  refine za_getR dX5_buys_32 zf_X5_10 rfl rfl ?_
  refine za_iload_n dX5_buys_35 rfl ?_
  refine za_iconst (nI 2) dX5_buys_36 (by decide) ?_
  refine za_cV2 dX5_buys_37 zm_X5_79 zw_X4_tell zv_X4_tell (zhold0 h1 (tc_tell zT1 hq (by decide))) (by decide) (tn0 zT1) rfl rfl (Nat.le_of_ble_eq_true rfl) ?_
  refine za_istore (lv' := [_, _, _, _, _, _]) dX5_buys_40 hN (by decide) rfl ?_
  refine za_iconst (nI 0) dX5_buys_42 (by decide) ?_
  refine za_istore (lv' := [_, _, _, _, _, _]) dX5_buys_43 hN (by decide) rfl ?_
  have h0 := hloop 101 0 (ztw S 8) rfl
  rw [zpt_tw] at h0
  exact h0

set_option maxRecDepth 20000 in
set_option maxHeartbeats 4000000 in
theorem c_buys_no {g : zG} {S : zSto} {τ : zTn} (h1 : zHd S 1 τ) {p q d : Int32} (hno : ¬ ((nI 0 ≤ p ∧ p ≤ τ 0 3 - nI 1) ∧ (nI 0 ≤ q ∧ q ≤ nI 5) ∧ (nI 1 ≤ d ∧ d ≤ nI 60))) : zEd g 8 yX5_buys cX5_buys 6 (some .int) [.ref (zad g 0), .int p, .int q, .int d] S (some (.int (zfd 0))) (zfin S 33 0) := by
  refine zev_intro (own := RX5) (lv := [some (.ref (zad g 0)), some (.int p), some (.int q), some (.int d), none, none]) (by decide +kernel) rfl (Nat.le_of_ble_eq_true rfl) rfl (fun C hM hN => ?_)
  refine za_aload_n dX5_buys_0 rfl ?_
  refine za_iload_n dX5_buys_1 rfl ?_
  refine za_cV1 dX5_buys_2 zm_X5_118 zw_X5_isPerson zv_X5_isPerson (c_isPerson h1) (by decide) rfl rfl rfl (Nat.le_of_ble_eq_true rfl) ?_
  refine za_if_eqB 25 dX5_buys_5 (by decide) (fun c5 => ?_) (fun c5 => ?_)
  · refine za_aload_n dX5_buys_25 rfl ?_
    refine za_iconst (nI 0) dX5_buys_26 (by decide) ?_
    refine za_cV1 dX5_buys_27 zm_X5_63 zw_X5_finding zv_X5_finding (c_finding (by decide)) (by decide) rfl rfl rfl (Nat.le_of_ble_eq_true rfl) ?_
    exact za_iret hM dX5_buys_30 ⟨by rfl, by rfl⟩
  · refine za_iload_n dX5_buys_8 rfl ?_
    refine za_cS1 dX5_buys_9 zm_X5_53 zw_X5_isQuestion zs_X5_isQuestion (e_isQuestion _) (by decide) (Nat.le_of_ble_eq_true rfl) ?_
    refine za_if_eqB 25 dX5_buys_12 (by decide) (fun c12 => ?_) (fun c12 => ?_)
    · refine za_aload_n dX5_buys_25 rfl ?_
      refine za_iconst (nI 0) dX5_buys_26 (by decide) ?_
      refine za_cV1 dX5_buys_27 zm_X5_63 zw_X5_finding zv_X5_finding (c_finding (by decide)) (by decide) rfl rfl rfl (Nat.le_of_ble_eq_true rfl) ?_
      exact za_iret hM dX5_buys_30 ⟨by rfl, by rfl⟩
    · refine za_iload_n dX5_buys_15 rfl ?_
      refine za_iconst (nI 1) dX5_buys_16 (by decide) ?_
      refine za_bipush (nI 60) dX5_buys_17 (by decide) ?_
      refine za_cS3 dX5_buys_19 zm_X5_75 zw_X5_isWithin zs_X5_isWithin (e_isWithin _ _ _) (by decide) (Nat.le_of_ble_eq_true rfl) ?_
      refine za_if_neB 31 dX5_buys_22 (by decide) (fun c22 => ?_) (fun c22 => ?_)
      · exact absurd ⟨c5, c12, c22⟩ hno
      · refine za_aload_n dX5_buys_25 rfl ?_
        refine za_iconst (nI 0) dX5_buys_26 (by decide) ?_
        refine za_cV1 dX5_buys_27 zm_X5_63 zw_X5_finding zv_X5_finding (c_finding (by decide)) (by decide) rfl rfl rfl (Nat.le_of_ble_eq_true rfl) ?_
        exact za_iret hM dX5_buys_30 ⟨by rfl, by rfl⟩

def p_fs (τ : zTn) (n : Nat) (k : Nat) : Int32 := p_ones (p_days (zup τ 6 k (nI 1)) n 0 1 ^^^ p_days τ n 0 1) 6
/-- who swings: the place (-1 at first) and how many -/
def p_sw (τ : zTn) (n : Nat) : Nat → Int32 × Int32
  | 0 => (-1, nI 0)
  | k + 1 => if τ 6 k = 0 ∧ (p_sw τ n k).2 < p_fs τ n k then (nI k, p_fs τ n k) else p_sw τ n k
theorem p_sw_1 {τ : zTn} {n k : Nat} (h : τ 6 k = 0) (h2 : (p_sw τ n k).2 < p_fs τ n k) : p_sw τ n (k + 1) = (nI k, p_fs τ n k) := if_pos ⟨h, h2⟩
theorem p_sw_0 {τ : zTn} {n k : Nat} (h : ¬ (τ 6 k = 0 ∧ (p_sw τ n k).2 < p_fs τ n k)) : p_sw τ n (k + 1) = p_sw τ n k := if_neg h

set_option maxRecDepth 20000 in
set_option maxHeartbeats 4000000 in
theorem c_swing_at {g : zG} {S : zSto} {τ : zTn} (h1 : zHd S 1 τ) (hI : zTI 100000 τ) {n d : Nat} (hn : τ 0 3 = nI n) (h9 : n < 9) (hd1 : 1 ≤ d) (hd : d ≤ 60) (hQ : 0 ≤ (p_sw τ d n).1) : zEv g 8 yX5_swing cX5_swing 7 (some .int) [.ref (zad g 0), .int (nI d)] S (fun r' s' => r' = some (.int (p_sw τ d n).1) ∧ zJ S s') := by
  refine zev_intro (own := RX5) (lv := [some (.ref (zad g 0)), some (.int (nI d)), none, none, none, none, none]) (by decide +kernel) rfl (Nat.le_of_ble_eq_true rfl) rfl (fun C hM hN => ?_)
  have hloop : ∀ (m : Nat) (j : Nat) (t : zTn) (l6 : Option Value), j + m = n → zAW g C 8 cX5_swing RX5 37 [some (.ref (zad g 0)), some (.int (nI d)), some (.int (p_days τ d 0 1)), some (.int (p_sw τ d j).1), some (.int (p_sw τ d j).2), some (.int (nI j)), l6] [] (zpt S 8 t) := by
    intro m
    induction m with
    | zero =>
      intro j t l6 hj
      obtain rfl : j = n := by omega
      refine za_iload dX5_swing_37 rfl ?_
      refine za_aload_n dX5_swing_39 rfl ?_
      refine za_getR dX5_swing_40 zf_X5_10 rfl rfl ?_
      refine zh_getI zT1 (by first | exact h1 | exact zHd_8 h1) dX5_swing_43 zf_X5_175 (by decide) ?_
      rw [hn]
      refine za_icmp_ge 126 dX5_swing_46 (by decide) (fun c46 => ?_) (fun c46 => absurd (nI_le (Nat.le_refl _) (by omega)) c46)
      refine za_iload_n dX5_swing_126 rfl ?_
      refine za_if_ge 138 dX5_swing_127 (by decide) (fun c127 => ?_) (fun c127 => absurd hQ c127)
      refine za_iload_n dX5_swing_138 rfl ?_
      exact za_iret hM dX5_swing_139 ⟨by rfl, zJ_8⟩
    | succ m ih =>
      intro j t l6 hj
      refine za_iload dX5_swing_37 rfl ?_
      refine za_aload_n dX5_swing_39 rfl ?_
      refine za_getR dX5_swing_40 zf_X5_10 rfl rfl ?_
      refine zh_getI zT1 (by first | exact h1 | exact zHd_8 h1) dX5_swing_43 zf_X5_175 (by decide) ?_
      rw [hn]
      refine za_icmp_ge 126 dX5_swing_46 (by decide) (fun c46 => absurd c46 (nI_ge (show j < n by omega) (by omega))) (fun c46 => ?_)
      refine za_aload_n dX5_swing_49 rfl ?_
      refine za_getR dX5_swing_50 zf_X5_10 rfl rfl ?_
      refine za_getR dX5_swing_53 zf_X5_130 (tn0 zT1) rfl ?_
      refine za_iload dX5_swing_56 rfl ?_
      refine zh_iald zT1 (by first | exact h1 | exact zHd_8 h1) (by decide) dX5_swing_58 (zv6 (by omega)) ?_
      refine za_if_ne 120 dX5_swing_59 (by decide) (fun c59 => ?_) (fun c59 => ?_)
      · refine za_iinc (nI (_ + 1)) (lv' := [_, _, _, _, _, _, _]) dX5_swing_120 rfl hN (by decide) (znext _) rfl ?_
        refine za_goto 37 dX5_swing_123 (by decide) ?_
        have hh := fun t l6 => ih (j + 1) t l6 (by omega)
        first
          | (rw [p_sw_1 c59 (Int32.not_le.mp c110)] at hh; exact hh _ _)
          | (rw [p_sw_0 (fun z => absurd z.2 (Int32.not_lt.mpr c110))] at hh; exact hh _ _)
          | (rw [p_sw_0 (fun z => absurd z.1 c59)] at hh; exact hh _ _)
      · refine za_aload_n dX5_swing_62 rfl ?_
        refine za_getR dX5_swing_63 zf_X5_16 rfl rfl ?_
        refine za_aload_n dX5_swing_66 rfl ?_
        refine za_getR dX5_swing_67 zf_X5_10 rfl rfl ?_
        refine za_cV1v dX5_swing_70 zm_X5_163 zw_X4_become zv_X4_become (tc_become8' h1) (by decide) (tn0 zT8) rfl rfl (Nat.le_of_ble_eq_true rfl) ?_
        refine za_aload_n dX5_swing_73 rfl ?_
        refine za_getR dX5_swing_74 zf_X5_16 rfl rfl ?_
        refine za_getR dX5_swing_77 zf_X5_130 (tn0 zT8) rfl ?_
        refine za_iload dX5_swing_80 rfl ?_
        refine za_iconst (nI 1) dX5_swing_82 (by decide) ?_
        refine zt_iast zT8 (by decide) dX5_swing_83 (zv6 (by omega)) ?_
        refine za_aload_n dX5_swing_84 rfl ?_
        refine za_getR dX5_swing_85 zf_X5_16 rfl rfl ?_
        refine za_iload_n dX5_swing_88 rfl ?_
        refine za_cV1v dX5_swing_89 zm_X5_156 zw_X4_goDays zv_X4_goDays (tc_goDays zT8 (zTI_6 hI) (by decide) (by omega)) (by decide) (tn0 zT8) rfl rfl (Nat.le_of_ble_eq_true rfl) ?_
        refine za_aload_n dX5_swing_92 rfl ?_
        refine za_getR dX5_swing_93 zf_X5_16 rfl rfl ?_
        refine zt_getI zT8 dX5_swing_96 zf_X5_89 (by decide) ?_
        refine za_iload_n dX5_swing_99 rfl ?_
        refine za_ixor dX5_swing_100 ?_
        refine za_cS1 dX5_swing_101 zm_X5_170 zw_J6_bitCount_0f7a4 zs_J6_bitCount_0f7a4 (e_bitCount (zxor_lt (zTI_days (zTI_6 hI) d).2.1 (zTI_days hI d).2.1)) (by decide) (Nat.le_of_ble_eq_true rfl) ?_
        refine za_istore (lv' := [_, _, _, _, _, _, _]) dX5_swing_104 hN (by decide) rfl ?_
        refine za_iload dX5_swing_106 rfl ?_
        refine za_iload dX5_swing_108 rfl ?_
        refine za_icmp_le 120 dX5_swing_110 (by decide) (fun c110 => ?_) (fun c110 => ?_)
        · refine za_iinc (nI (_ + 1)) (lv' := [_, _, _, _, _, _, _]) dX5_swing_120 rfl hN (by decide) (znext _) rfl ?_
          refine za_goto 37 dX5_swing_123 (by decide) ?_
          have hh := fun t l6 => ih (j + 1) t l6 (by omega)
          first
            | (rw [p_sw_1 c59 (Int32.not_le.mp c110)] at hh; exact hh _ _)
            | (rw [p_sw_0 (fun z => absurd z.2 (Int32.not_lt.mpr c110))] at hh; exact hh _ _)
            | (rw [p_sw_0 (fun z => absurd z.1 c59)] at hh; exact hh _ _)
        · refine za_iload dX5_swing_113 rfl ?_
          refine za_istore (lv' := [_, _, _, _, _, _, _]) dX5_swing_115 hN (by decide) rfl ?_
          refine za_iload dX5_swing_117 rfl ?_
          refine za_istore_n (lv' := [_, _, _, _, _, _, _]) dX5_swing_119 hN (by decide) rfl ?_
          refine za_iinc (nI (_ + 1)) (lv' := [_, _, _, _, _, _, _]) dX5_swing_120 rfl hN (by decide) (znext _) rfl ?_
          refine za_goto 37 dX5_swing_123 (by decide) ?_
          have hh := fun t l6 => ih (j + 1) t l6 (by omega)
          first
            | (rw [p_sw_1 c59 (Int32.not_le.mp c110)] at hh; exact hh _ _)
            | (rw [p_sw_0 (fun z => absurd z.2 (Int32.not_lt.mpr c110))] at hh; exact hh _ _)
            | (rw [p_sw_0 (fun z => absurd z.1 c59)] at hh; exact hh _ _)
  refine za_iload_n dX5_swing_0 rfl ?_
  refine za_iconst (nI 1) dX5_swing_1 (by decide) ?_
  refine za_bipush (nI 60) dX5_swing_2 (by decide) ?_
  refine za_cS3 dX5_swing_4 zm_X5_75 zw_X5_isWithin zs_X5_isWithin (e_isWithin _ _ _) (by decide) (Nat.le_of_ble_eq_true rfl) ?_
  refine za_if_neB 16 dX5_swing_7 (by decide) (fun c7 => ?_) (fun c7 => absurd (zrng (by omega) (by omega) (by decide)) c7)
  refine za_aload_n dX5_swing_16 rfl ?_
  refine za_iload_n dX5_swing_17 rfl ?_
  refine za_cV1v dX5_swing_18 zm_X5_160 zw_X5_tryDays zv_X5_tryDays (c_tryDays h1 hI (by decide) (by omega)) (by decide) rfl rfl rfl (Nat.le_of_ble_eq_true rfl) ?_
  refine za_aload_n dX5_swing_21 rfl ?_
  refine za_getR dX5_swing_22 zf_X5_16 rfl rfl ?_
  refine zt_getI zT8 dX5_swing_25 zf_X5_89 (by decide) ?_
  refine za_istore_n (lv' := [_, _, _, _, _, _, _]) dX5_swing_28 hN (by decide) rfl ?_
  refine za_iconst (-1) dX5_swing_29 (by decide) ?_
  refine za_istore_n (lv' := [_, _, _, _, _, _, _]) dX5_swing_30 hN (by decide) rfl ?_
  refine za_iconst (nI 0) dX5_swing_31 (by decide) ?_
  refine za_istore (lv' := [_, _, _, _, _, _, _]) dX5_swing_32 hN (by decide) rfl ?_
  refine za_iconst (nI 0) dX5_swing_34 (by decide) ?_
  refine za_istore (lv' := [_, _, _, _, _, _, _]) dX5_swing_35 hN (by decide) rfl ?_
  exact hloop n 0 _ none (by omega)

set_option maxRecDepth 20000 in
set_option maxHeartbeats 4000000 in
theorem c_swing_none {g : zG} {S : zSto} {τ : zTn} (h1 : zHd S 1 τ) (hI : zTI 100000 τ) {n d : Nat} (hn : τ 0 3 = nI n) (h9 : n < 9) (hd1 : 1 ≤ d) (hd : d ≤ 60) (hQ : ¬ 0 ≤ (p_sw τ d n).1) : zEv g 8 yX5_swing cX5_swing 7 (some .int) [.ref (zad g 0), .int (nI d)] S (fun r' s' => r' = some (.int (zfd 3)) ∧ ∃ T, zJ S T ∧ s' = zfin T 33 3) := by
  refine zev_intro (own := RX5) (lv := [some (.ref (zad g 0)), some (.int (nI d)), none, none, none, none, none]) (by decide +kernel) rfl (Nat.le_of_ble_eq_true rfl) rfl (fun C hM hN => ?_)
  have hloop : ∀ (m : Nat) (j : Nat) (t : zTn) (l6 : Option Value), j + m = n → zAW g C 8 cX5_swing RX5 37 [some (.ref (zad g 0)), some (.int (nI d)), some (.int (p_days τ d 0 1)), some (.int (p_sw τ d j).1), some (.int (p_sw τ d j).2), some (.int (nI j)), l6] [] (zpt S 8 t) := by
    intro m
    induction m with
    | zero =>
      intro j t l6 hj
      obtain rfl : j = n := by omega
      refine za_iload dX5_swing_37 rfl ?_
      refine za_aload_n dX5_swing_39 rfl ?_
      refine za_getR dX5_swing_40 zf_X5_10 rfl rfl ?_
      refine zh_getI zT1 (by first | exact h1 | exact zHd_8 h1) dX5_swing_43 zf_X5_175 (by decide) ?_
      rw [hn]
      refine za_icmp_ge 126 dX5_swing_46 (by decide) (fun c46 => ?_) (fun c46 => absurd (nI_le (Nat.le_refl _) (by omega)) c46)
      refine za_iload_n dX5_swing_126 rfl ?_
      refine za_if_ge 138 dX5_swing_127 (by decide) (fun c127 => absurd c127 hQ) (fun c127 => ?_)
      refine za_aload_n dX5_swing_130 rfl ?_
      refine za_iconst (nI 3) dX5_swing_131 (by decide) ?_
      refine za_cV1 dX5_swing_132 zm_X5_63 zw_X5_finding zv_X5_finding (c_finding (by decide)) (by decide) rfl rfl rfl (Nat.le_of_ble_eq_true rfl) ?_
      refine za_goto 139 dX5_swing_135 (by decide) ?_
      exact za_iret hM dX5_swing_139 ⟨rfl, _, zJ_8, rfl⟩
    | succ m ih =>
      intro j t l6 hj
      refine za_iload dX5_swing_37 rfl ?_
      refine za_aload_n dX5_swing_39 rfl ?_
      refine za_getR dX5_swing_40 zf_X5_10 rfl rfl ?_
      refine zh_getI zT1 (by first | exact h1 | exact zHd_8 h1) dX5_swing_43 zf_X5_175 (by decide) ?_
      rw [hn]
      refine za_icmp_ge 126 dX5_swing_46 (by decide) (fun c46 => absurd c46 (nI_ge (show j < n by omega) (by omega))) (fun c46 => ?_)
      refine za_aload_n dX5_swing_49 rfl ?_
      refine za_getR dX5_swing_50 zf_X5_10 rfl rfl ?_
      refine za_getR dX5_swing_53 zf_X5_130 (tn0 zT1) rfl ?_
      refine za_iload dX5_swing_56 rfl ?_
      refine zh_iald zT1 (by first | exact h1 | exact zHd_8 h1) (by decide) dX5_swing_58 (zv6 (by omega)) ?_
      refine za_if_ne 120 dX5_swing_59 (by decide) (fun c59 => ?_) (fun c59 => ?_)
      · refine za_iinc (nI (_ + 1)) (lv' := [_, _, _, _, _, _, _]) dX5_swing_120 rfl hN (by decide) (znext _) rfl ?_
        refine za_goto 37 dX5_swing_123 (by decide) ?_
        have hh := fun t l6 => ih (j + 1) t l6 (by omega)
        first
          | (rw [p_sw_1 c59 (Int32.not_le.mp c110)] at hh; exact hh _ _)
          | (rw [p_sw_0 (fun z => absurd z.2 (Int32.not_lt.mpr c110))] at hh; exact hh _ _)
          | (rw [p_sw_0 (fun z => absurd z.1 c59)] at hh; exact hh _ _)
      · refine za_aload_n dX5_swing_62 rfl ?_
        refine za_getR dX5_swing_63 zf_X5_16 rfl rfl ?_
        refine za_aload_n dX5_swing_66 rfl ?_
        refine za_getR dX5_swing_67 zf_X5_10 rfl rfl ?_
        refine za_cV1v dX5_swing_70 zm_X5_163 zw_X4_become zv_X4_become (tc_become8' h1) (by decide) (tn0 zT8) rfl rfl (Nat.le_of_ble_eq_true rfl) ?_
        refine za_aload_n dX5_swing_73 rfl ?_
        refine za_getR dX5_swing_74 zf_X5_16 rfl rfl ?_
        refine za_getR dX5_swing_77 zf_X5_130 (tn0 zT8) rfl ?_
        refine za_iload dX5_swing_80 rfl ?_
        refine za_iconst (nI 1) dX5_swing_82 (by decide) ?_
        refine zt_iast zT8 (by decide) dX5_swing_83 (zv6 (by omega)) ?_
        refine za_aload_n dX5_swing_84 rfl ?_
        refine za_getR dX5_swing_85 zf_X5_16 rfl rfl ?_
        refine za_iload_n dX5_swing_88 rfl ?_
        refine za_cV1v dX5_swing_89 zm_X5_156 zw_X4_goDays zv_X4_goDays (tc_goDays zT8 (zTI_6 hI) (by decide) (by omega)) (by decide) (tn0 zT8) rfl rfl (Nat.le_of_ble_eq_true rfl) ?_
        refine za_aload_n dX5_swing_92 rfl ?_
        refine za_getR dX5_swing_93 zf_X5_16 rfl rfl ?_
        refine zt_getI zT8 dX5_swing_96 zf_X5_89 (by decide) ?_
        refine za_iload_n dX5_swing_99 rfl ?_
        refine za_ixor dX5_swing_100 ?_
        refine za_cS1 dX5_swing_101 zm_X5_170 zw_J6_bitCount_0f7a4 zs_J6_bitCount_0f7a4 (e_bitCount (zxor_lt (zTI_days (zTI_6 hI) d).2.1 (zTI_days hI d).2.1)) (by decide) (Nat.le_of_ble_eq_true rfl) ?_
        refine za_istore (lv' := [_, _, _, _, _, _, _]) dX5_swing_104 hN (by decide) rfl ?_
        refine za_iload dX5_swing_106 rfl ?_
        refine za_iload dX5_swing_108 rfl ?_
        refine za_icmp_le 120 dX5_swing_110 (by decide) (fun c110 => ?_) (fun c110 => ?_)
        · refine za_iinc (nI (_ + 1)) (lv' := [_, _, _, _, _, _, _]) dX5_swing_120 rfl hN (by decide) (znext _) rfl ?_
          refine za_goto 37 dX5_swing_123 (by decide) ?_
          have hh := fun t l6 => ih (j + 1) t l6 (by omega)
          first
            | (rw [p_sw_1 c59 (Int32.not_le.mp c110)] at hh; exact hh _ _)
            | (rw [p_sw_0 (fun z => absurd z.2 (Int32.not_lt.mpr c110))] at hh; exact hh _ _)
            | (rw [p_sw_0 (fun z => absurd z.1 c59)] at hh; exact hh _ _)
        · refine za_iload dX5_swing_113 rfl ?_
          refine za_istore (lv' := [_, _, _, _, _, _, _]) dX5_swing_115 hN (by decide) rfl ?_
          refine za_iload dX5_swing_117 rfl ?_
          refine za_istore_n (lv' := [_, _, _, _, _, _, _]) dX5_swing_119 hN (by decide) rfl ?_
          refine za_iinc (nI (_ + 1)) (lv' := [_, _, _, _, _, _, _]) dX5_swing_120 rfl hN (by decide) (znext _) rfl ?_
          refine za_goto 37 dX5_swing_123 (by decide) ?_
          have hh := fun t l6 => ih (j + 1) t l6 (by omega)
          first
            | (rw [p_sw_1 c59 (Int32.not_le.mp c110)] at hh; exact hh _ _)
            | (rw [p_sw_0 (fun z => absurd z.2 (Int32.not_lt.mpr c110))] at hh; exact hh _ _)
            | (rw [p_sw_0 (fun z => absurd z.1 c59)] at hh; exact hh _ _)
  refine za_iload_n dX5_swing_0 rfl ?_
  refine za_iconst (nI 1) dX5_swing_1 (by decide) ?_
  refine za_bipush (nI 60) dX5_swing_2 (by decide) ?_
  refine za_cS3 dX5_swing_4 zm_X5_75 zw_X5_isWithin zs_X5_isWithin (e_isWithin _ _ _) (by decide) (Nat.le_of_ble_eq_true rfl) ?_
  refine za_if_neB 16 dX5_swing_7 (by decide) (fun c7 => ?_) (fun c7 => absurd (zrng (by omega) (by omega) (by decide)) c7)
  refine za_aload_n dX5_swing_16 rfl ?_
  refine za_iload_n dX5_swing_17 rfl ?_
  refine za_cV1v dX5_swing_18 zm_X5_160 zw_X5_tryDays zv_X5_tryDays (c_tryDays h1 hI (by decide) (by omega)) (by decide) rfl rfl rfl (Nat.le_of_ble_eq_true rfl) ?_
  refine za_aload_n dX5_swing_21 rfl ?_
  refine za_getR dX5_swing_22 zf_X5_16 rfl rfl ?_
  refine zt_getI zT8 dX5_swing_25 zf_X5_89 (by decide) ?_
  refine za_istore_n (lv' := [_, _, _, _, _, _, _]) dX5_swing_28 hN (by decide) rfl ?_
  refine za_iconst (-1) dX5_swing_29 (by decide) ?_
  refine za_istore_n (lv' := [_, _, _, _, _, _, _]) dX5_swing_30 hN (by decide) rfl ?_
  refine za_iconst (nI 0) dX5_swing_31 (by decide) ?_
  refine za_istore (lv' := [_, _, _, _, _, _, _]) dX5_swing_32 hN (by decide) rfl ?_
  refine za_iconst (nI 0) dX5_swing_34 (by decide) ?_
  refine za_istore (lv' := [_, _, _, _, _, _, _]) dX5_swing_35 hN (by decide) rfl ?_
  exact hloop n 0 _ none (by omega)

set_option maxRecDepth 20000 in
set_option maxHeartbeats 4000000 in
theorem c_swing_no {g : zG} {S : zSto} {d : Int32} (hno : ¬ (nI 1 ≤ d ∧ d ≤ nI 60)) : zEd g 8 yX5_swing cX5_swing 7 (some .int) [.ref (zad g 0), .int d] S (some (.int (zfd 0))) (zfin S 33 0) := by
  refine zev_intro (own := RX5) (lv := [some (.ref (zad g 0)), some (.int d), none, none, none, none, none]) (by decide +kernel) rfl (Nat.le_of_ble_eq_true rfl) rfl (fun C hM hN => ?_)
  refine za_iload_n dX5_swing_0 rfl ?_
  refine za_iconst (nI 1) dX5_swing_1 (by decide) ?_
  refine za_bipush (nI 60) dX5_swing_2 (by decide) ?_
  refine za_cS3 dX5_swing_4 zm_X5_75 zw_X5_isWithin zs_X5_isWithin (e_isWithin _ _ _) (by decide) (Nat.le_of_ble_eq_true rfl) ?_
  refine za_if_neB 16 dX5_swing_7 (by decide) (fun c7 => ?_) (fun c7 => ?_)
  · exact absurd c7 hno
  · refine za_aload_n dX5_swing_10 rfl ?_
    refine za_iconst (nI 0) dX5_swing_11 (by decide) ?_
    refine za_cV1 dX5_swing_12 zm_X5_63 zw_X5_finding zv_X5_finding (c_finding (by decide)) (by decide) rfl rfl rfl (Nat.le_of_ble_eq_true rfl) ?_
    exact za_iret hM dX5_swing_15 ⟨by rfl, by rfl⟩

def p_fp (τ : zTn) (n : Nat) (s : Nat) : Int32 := p_ones (p_days (zup τ 0 2 (nI s)) n 0 1) 6

set_option maxRecDepth 20000 in
set_option maxHeartbeats 4000000 in
theorem c_heldIfBribed {g : zG} {S : zSto} {τ : zTn} (h1 : zHd S 1 τ) {t : zTn} {d s : Nat} (hI : zTI 100000 τ) (hs : s < 2) (hd : d ≤ 60) : zEd g 6 yX5_heldIfBribed cX5_heldIfBribed 3 (some .int) [.ref (zad g 0), .int (nI s), .int (nI d)] (zpt S 8 t) (some (.int (p_fp τ d s))) (zpt S 8 (p_days (zup τ 0 2 (nI s)) d)) := by
  refine zev_intro (own := RX5) (lv := [some (.ref (zad g 0)), some (.int (nI s)), some (.int (nI d))]) (by decide +kernel) rfl (Nat.le_of_ble_eq_true rfl) rfl (fun C hM hN => ?_)
  refine za_aload_n dX5_heldIfBribed_0 rfl ?_
  refine za_getR dX5_heldIfBribed_1 zf_X5_16 rfl rfl ?_
  refine za_aload_n dX5_heldIfBribed_4 rfl ?_
  refine za_getR dX5_heldIfBribed_5 zf_X5_10 rfl rfl ?_
  refine za_cV1v dX5_heldIfBribed_8 zm_X5_163 zw_X4_become zv_X4_become (tc_become8' h1) (by decide) (tn0 zT8) rfl rfl (Nat.le_of_ble_eq_true rfl) ?_
  refine za_aload_n dX5_heldIfBribed_11 rfl ?_
  refine za_getR dX5_heldIfBribed_12 zf_X5_16 rfl rfl ?_
  refine za_iload_n dX5_heldIfBribed_15 rfl ?_
  refine zt_putI zT8 dX5_heldIfBribed_16 zf_X5_82 zp_X4_2 (by decide) ?_
  refine za_aload_n dX5_heldIfBribed_19 rfl ?_
  refine za_getR dX5_heldIfBribed_20 zf_X5_16 rfl rfl ?_
  refine za_iload_n dX5_heldIfBribed_23 rfl ?_
  refine za_cV1v dX5_heldIfBribed_24 zm_X5_156 zw_X4_goDays zv_X4_goDays (tc_goDays zT8 (zTI_02 hI ⟨s, hs, rfl⟩) (by decide) (by omega)) (by decide) (tn0 zT8) rfl rfl (Nat.le_of_ble_eq_true rfl) ?_
  refine za_aload_n dX5_heldIfBribed_27 rfl ?_
  refine za_getR dX5_heldIfBribed_28 zf_X5_16 rfl rfl ?_
  refine zt_getI zT8 dX5_heldIfBribed_31 zf_X5_89 (by decide) ?_
  refine za_cS1 dX5_heldIfBribed_34 zm_X5_170 zw_J6_bitCount_0f7a4 zs_J6_bitCount_0f7a4 (e_bitCount (zTI_days (zTI_02 hI ⟨s, hs, rfl⟩) d).2.1) (by decide) (Nat.le_of_ble_eq_true rfl) ?_
  exact za_iret hM dX5_heldIfBribed_37 ⟨by rfl, by rfl⟩

theorem c_heldIfBribed' {g : zG} {S : zSto} {τ : zTn} (h1 : zHd S 1 τ) {d s : Nat} (hI : zTI 100000 τ) (hs : s < 2) (hd : d ≤ 60) : zEd g 6 yX5_heldIfBribed cX5_heldIfBribed 3 (some .int) [.ref (zad g 0), .int (nI s), .int (nI d)] S (some (.int (p_fp τ d s))) (zpt S 8 (p_days (zup τ 0 2 (nI s)) d)) := by
  have h := c_heldIfBribed (g := g) (t := ztw S 8) h1 hI hs hd
  rw [zpt_tw] at h
  exact h

set_option maxRecDepth 20000 in
set_option maxHeartbeats 4000000 in
theorem c_pays_ok {g : zG} {S : zSto} {τ : zTn} (h1 : zHd S 1 τ) (hI : zTI 100000 τ) {d : Nat} (hd1 : 1 ≤ d) (hd : d ≤ 60) : zEv g 8 yX5_pays cX5_pays 2 (some .int) [.ref (zad g 0), .int (nI d)] S (fun r' s' => r' = some (.int (zb (p_fp τ d 0 < p_fp τ d 1))) ∧ zJ S s') := by
  refine zev_intro (own := RX5) (lv := [some (.ref (zad g 0)), some (.int (nI d))]) (by decide +kernel) rfl (Nat.le_of_ble_eq_true rfl) rfl (fun C hM hN => ?_)
  refine za_iload_n dX5_pays_0 rfl ?_
  refine za_iconst (nI 1) dX5_pays_1 (by decide) ?_
  refine za_bipush (nI 60) dX5_pays_2 (by decide) ?_
  refine za_cS3 dX5_pays_4 zm_X5_75 zw_X5_isWithin zs_X5_isWithin (e_isWithin _ _ _) (by decide) (Nat.le_of_ble_eq_true rfl) ?_
  refine za_if_neB 16 dX5_pays_7 (by decide) (fun c7 => ?_) (fun c7 => absurd (zrng (by omega) (by omega) (by decide)) c7)
  refine za_aload_n dX5_pays_16 rfl ?_
  refine za_iconst (nI 1) dX5_pays_17 (by decide) ?_
  refine za_iload_n dX5_pays_18 rfl ?_
  refine za_cV2 dX5_pays_19 zm_X5_178 zw_X5_heldIfBribed zv_X5_heldIfBribed (c_heldIfBribed' h1 hI (by decide) (by omega)) (by decide) rfl rfl rfl (Nat.le_of_ble_eq_true rfl) ?_
  refine za_aload_n dX5_pays_22 rfl ?_
  refine za_iconst (nI 0) dX5_pays_23 (by decide) ?_
  refine za_iload_n dX5_pays_24 rfl ?_
  refine za_cV2 dX5_pays_25 zm_X5_178 zw_X5_heldIfBribed zv_X5_heldIfBribed (c_heldIfBribed h1 hI (by decide) (by omega)) (by decide) rfl rfl rfl (Nat.le_of_ble_eq_true rfl) ?_
  refine za_icmp_le 35 dX5_pays_28 (by decide) (fun c28 => ?_) (fun c28 => ?_)
  · refine za_iconst (nI 0) dX5_pays_35 (by decide) ?_
    exact za_iret hM dX5_pays_36 ⟨by (first | rfl | exact congrArg (fun z => some (Value.int z)) (zb_1 (Int32.not_le.mp c28)).symm | exact congrArg (fun z => some (Value.int z)) (zb_f (Int32.not_lt.mpr c28)).symm), zJ_8⟩
  · refine za_iconst (nI 1) dX5_pays_31 (by decide) ?_
    refine za_goto 36 dX5_pays_32 (by decide) ?_
    exact za_iret hM dX5_pays_36 ⟨by (first | rfl | exact congrArg (fun z => some (Value.int z)) (zb_1 (Int32.not_le.mp c28)).symm | exact congrArg (fun z => some (Value.int z)) (zb_f (Int32.not_lt.mpr c28)).symm), zJ_8⟩

set_option maxRecDepth 20000 in
set_option maxHeartbeats 4000000 in
theorem c_pays_no {g : zG} {S : zSto} {d : Int32} (hno : ¬ (nI 1 ≤ d ∧ d ≤ nI 60)) : zEd g 8 yX5_pays cX5_pays 2 (some .int) [.ref (zad g 0), .int d] S (some (.int (zfd 0))) (zfin S 33 0) := by
  refine zev_intro (own := RX5) (lv := [some (.ref (zad g 0)), some (.int d)]) (by decide +kernel) rfl (Nat.le_of_ble_eq_true rfl) rfl (fun C hM hN => ?_)
  refine za_iload_n dX5_pays_0 rfl ?_
  refine za_iconst (nI 1) dX5_pays_1 (by decide) ?_
  refine za_bipush (nI 60) dX5_pays_2 (by decide) ?_
  refine za_cS3 dX5_pays_4 zm_X5_75 zw_X5_isWithin zs_X5_isWithin (e_isWithin _ _ _) (by decide) (Nat.le_of_ble_eq_true rfl) ?_
  refine za_if_neB 16 dX5_pays_7 (by decide) (fun c7 => ?_) (fun c7 => ?_)
  · exact absurd c7 hno
  · refine za_aload_n dX5_pays_10 rfl ?_
    refine za_iconst (nI 0) dX5_pays_11 (by decide) ?_
    refine za_cV1 dX5_pays_12 zm_X5_63 zw_X5_finding zv_X5_finding (c_finding (by decide)) (by decide) rfl rfl rfl (Nat.le_of_ble_eq_true rfl) ?_
    exact za_iret hM dX5_pays_15 ⟨by rfl, by rfl⟩

def p_rb (f : Nat → Int32) : Nat → Nat
  | 0 => 0
  | k + 1 => if f (p_rb f k) < f (k + 1) then k + 1 else p_rb f k
theorem p_rb_1 {f : Nat → Int32} {k : Nat} (h : f (p_rb f k) < f (k + 1)) : p_rb f (k + 1) = k + 1 := if_pos h
theorem p_rb_0 {f : Nat → Int32} {k : Nat} (h : ¬ f (p_rb f k) < f (k + 1)) : p_rb f (k + 1) = p_rb f k := if_neg h
theorem p_rb_le (f : Nat → Int32) : ∀ k, p_rb f k ≤ k
  | 0 => Nat.le_refl _
  | k + 1 => by
    have := p_rb_le f k
    unfold p_rb
    split
    · exact Nat.le_refl _
    · exact Nat.le_succ_of_le this
theorem p_days_03 {B : Nat} {τ : zTn} (h : zTI B τ) : ∀ n, p_days τ n 0 3 = τ 0 3
  | 0 => rfl
  | n + 1 => (p_day_0 (zTI_days h n) (Or.inr rfl)).trans (p_days_03 h n)

set_option maxRecDepth 20000 in
set_option maxHeartbeats 4000000 in
theorem c_richest_ok {g : zG} {S : zSto} {τ : zTn} (h1 : zHd S 1 τ) (hI : zTI 100000 τ) {n d : Nat} (hn : τ 0 3 = nI n) (h9 : n < 9) (hn0 : 0 < n) (hd : d ≤ 200) : zEv g 8 yX5_richest cX5_richest 4 (some .int) [.ref (zad g 0), .int (nI d)] S (fun r' s' => r' = some (.int (nI (p_rb (p_days τ d 5) (n - 1)))) ∧ zJ S s') := by
  refine zev_intro (own := RX5) (lv := [some (.ref (zad g 0)), some (.int (nI d)), none, none]) (by decide +kernel) rfl (Nat.le_of_ble_eq_true rfl) rfl (fun C hM hN => ?_)
  have hloop : ∀ (m : Nat) (j : Nat), j + m + 1 = n → zAW g C 8 cX5_richest RX5 42 [some (.ref (zad g 0)), some (.int (nI d)), some (.int (nI (p_rb (p_days τ d 5) j))), some (.int (nI (j + 1)))] [] (zpt S 8 (p_days τ d)) := by
    intro m
    induction m with
    | zero =>
      intro j hj
      obtain rfl : j + 1 = n := by omega
      refine za_iload_n dX5_richest_42 rfl ?_
      refine za_aload_n dX5_richest_43 rfl ?_
      refine za_getR dX5_richest_44 zf_X5_16 rfl rfl ?_
      refine zt_getI zT8 dX5_richest_47 zf_X5_175 (by decide) ?_
      rw [p_days_03 hI, hn]
      refine za_icmp_ge 82 dX5_richest_50 (by decide) (fun c50 => ?_) (fun c50 => absurd (nI_le (Nat.le_refl _) (by omega)) c50)
      refine za_iload_n dX5_richest_82 rfl ?_
      exact za_iret hM dX5_richest_83 ⟨by rfl, zJ_8⟩
    | succ m ih =>
      intro j hj
      refine za_iload_n dX5_richest_42 rfl ?_
      refine za_aload_n dX5_richest_43 rfl ?_
      refine za_getR dX5_richest_44 zf_X5_16 rfl rfl ?_
      refine zt_getI zT8 dX5_richest_47 zf_X5_175 (by decide) ?_
      rw [p_days_03 hI, hn]
      refine za_icmp_ge 82 dX5_richest_50 (by decide) (fun c50 => absurd c50 (nI_ge (show j + 1 < n by omega) (by omega))) (fun c50 => ?_)
      refine za_aload_n dX5_richest_53 rfl ?_
      refine za_getR dX5_richest_54 zf_X5_16 rfl rfl ?_
      refine za_getR dX5_richest_57 zf_X5_127 (tn0 zT8) rfl ?_
      refine za_iload_n dX5_richest_60 rfl ?_
      refine zt_iald zT8 (by decide) dX5_richest_61 (zv5 (by omega)) ?_
      refine za_aload_n dX5_richest_62 rfl ?_
      refine za_getR dX5_richest_63 zf_X5_16 rfl rfl ?_
      refine za_getR dX5_richest_66 zf_X5_127 (tn0 zT8) rfl ?_
      refine za_iload_n dX5_richest_69 rfl ?_
      have hl := p_rb_le (p_days τ d 5) j
      refine zt_iald zT8 (by decide) dX5_richest_70 (zv5 (by omega)) ?_
      refine za_icmp_le 76 dX5_richest_71 (by decide) (fun c71 => ?_) (fun c71 => ?_)
      · refine za_iinc (nI (_ + 1)) (lv' := [_, _, _, _]) dX5_richest_76 rfl hN (by decide) (znext _) rfl ?_
        refine za_goto 42 dX5_richest_79 (by decide) ?_
        have hh := ih (j + 1) (by omega)
        first
          | (rw [p_rb_1 (Int32.not_le.mp c71)] at hh; exact hh)
          | (rw [p_rb_0 (Int32.not_lt.mpr c71)] at hh; exact hh)
      · refine za_iload_n dX5_richest_74 rfl ?_
        refine za_istore_n (lv' := [_, _, _, _]) dX5_richest_75 hN (by decide) rfl ?_
        refine za_iinc (nI (_ + 1)) (lv' := [_, _, _, _]) dX5_richest_76 rfl hN (by decide) (znext _) rfl ?_
        refine za_goto 42 dX5_richest_79 (by decide) ?_
        have hh := ih (j + 1) (by omega)
        first
          | (rw [p_rb_1 (Int32.not_le.mp c71)] at hh; exact hh)
          | (rw [p_rb_0 (Int32.not_lt.mpr c71)] at hh; exact hh)
  refine za_iload_n dX5_richest_0 rfl ?_
  refine za_iconst (nI 0) dX5_richest_1 (by decide) ?_
  refine za_sipush (nI 200) dX5_richest_2 (by decide) ?_
  refine za_cS3 dX5_richest_5 zm_X5_75 zw_X5_isWithin zs_X5_isWithin (e_isWithin _ _ _) (by decide) (Nat.le_of_ble_eq_true rfl) ?_
  refine za_if_neB 17 dX5_richest_8 (by decide) (fun c8 => ?_) (fun c8 => absurd (zrng (Nat.zero_le _) (by omega) (by decide)) c8)
  refine za_aload_n dX5_richest_17 rfl ?_
  refine za_getR dX5_richest_18 zf_X5_10 rfl rfl ?_
  refine zh_getI zT1 (by first | exact h1 | exact zHd_8 h1) dX5_richest_21 zf_X5_175 (by decide) ?_
  refine za_if_ne 33 dX5_richest_24 (by decide) (fun c24 => ?_) (fun c24 => absurd c24 (by rw [hn]; exact nI_ne0 hn0 (by omega)))
  refine za_aload_n dX5_richest_33 rfl ?_
  refine za_iload_n dX5_richest_34 rfl ?_
  refine za_cV1v dX5_richest_35 zm_X5_160 zw_X5_tryDays zv_X5_tryDays (c_tryDays h1 hI (by decide) (by omega)) (by decide) rfl rfl rfl (Nat.le_of_ble_eq_true rfl) ?_
  refine za_iconst (nI 0) dX5_richest_38 (by decide) ?_
  refine za_istore_n (lv' := [_, _, _, _]) dX5_richest_39 hN (by decide) rfl ?_
  refine za_iconst (nI 1) dX5_richest_40 (by decide) ?_
  refine za_istore_n (lv' := [_, _, _, _]) dX5_richest_41 hN (by decide) rfl ?_
  exact hloop (n - 1) 0 (by omega)

set_option maxRecDepth 20000 in
set_option maxHeartbeats 4000000 in
theorem c_richest_none {g : zG} {S : zSto} {τ : zTn} (h1 : zHd S 1 τ) {d : Nat} (hn : τ 0 3 = nI 0) (hd : d ≤ 200) : zEd g 8 yX5_richest cX5_richest 4 (some .int) [.ref (zad g 0), .int (nI d)] S (some (.int (zfd 3))) (zfin S 33 3) := by
  refine zev_intro (own := RX5) (lv := [some (.ref (zad g 0)), some (.int (nI d)), none, none]) (by decide +kernel) rfl (Nat.le_of_ble_eq_true rfl) rfl (fun C hM hN => ?_)
  refine za_iload_n dX5_richest_0 rfl ?_
  refine za_iconst (nI 0) dX5_richest_1 (by decide) ?_
  refine za_sipush (nI 200) dX5_richest_2 (by decide) ?_
  refine za_cS3 dX5_richest_5 zm_X5_75 zw_X5_isWithin zs_X5_isWithin (e_isWithin _ _ _) (by decide) (Nat.le_of_ble_eq_true rfl) ?_
  refine za_if_neB 17 dX5_richest_8 (by decide) (fun c8 => ?_) (fun c8 => absurd (zrng (Nat.zero_le _) (by omega) (by decide)) c8)
  refine za_aload_n dX5_richest_17 rfl ?_
  refine za_getR dX5_richest_18 zf_X5_10 rfl rfl ?_
  refine zh_getI zT1 (by first | exact h1 | exact zHd_8 h1) dX5_richest_21 zf_X5_175 (by decide) ?_
  refine za_if_ne 33 dX5_richest_24 (by decide) (fun c24 => absurd (by rw [hn]; decide) c24) (fun c24 => ?_)
  refine za_aload_n dX5_richest_27 rfl ?_
  refine za_iconst (nI 3) dX5_richest_28 (by decide) ?_
  refine za_cV1 dX5_richest_29 zm_X5_63 zw_X5_finding zv_X5_finding (c_finding (by decide)) (by decide) rfl rfl rfl (Nat.le_of_ble_eq_true rfl) ?_
  exact za_iret hM dX5_richest_32 ⟨by rfl, by rfl⟩

set_option maxRecDepth 20000 in
set_option maxHeartbeats 4000000 in
theorem c_richest_no {g : zG} {S : zSto} {d : Int32} (hno : ¬ (nI 0 ≤ d ∧ d ≤ nI 200)) : zEd g 8 yX5_richest cX5_richest 4 (some .int) [.ref (zad g 0), .int d] S (some (.int (zfd 0))) (zfin S 33 0) := by
  refine zev_intro (own := RX5) (lv := [some (.ref (zad g 0)), some (.int d), none, none]) (by decide +kernel) rfl (Nat.le_of_ble_eq_true rfl) rfl (fun C hM hN => ?_)
  refine za_iload_n dX5_richest_0 rfl ?_
  refine za_iconst (nI 0) dX5_richest_1 (by decide) ?_
  refine za_sipush (nI 200) dX5_richest_2 (by decide) ?_
  refine za_cS3 dX5_richest_5 zm_X5_75 zw_X5_isWithin zs_X5_isWithin (e_isWithin _ _ _) (by decide) (Nat.le_of_ble_eq_true rfl) ?_
  refine za_if_neB 17 dX5_richest_8 (by decide) (fun c8 => ?_) (fun c8 => ?_)
  · exact absurd c8 hno
  · refine za_aload_n dX5_richest_11 rfl ?_
    refine za_iconst (nI 0) dX5_richest_12 (by decide) ?_
    refine za_cV1 dX5_richest_13 zm_X5_63 zw_X5_finding zv_X5_finding (c_finding (by decide)) (by decide) rfl rfl rfl (Nat.le_of_ble_eq_true rfl) ?_
    exact za_iret hM dX5_richest_16 ⟨by rfl, by rfl⟩
