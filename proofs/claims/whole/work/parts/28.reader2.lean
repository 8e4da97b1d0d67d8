theorem l_w_iff {B : Nat → Nat} {L s i : Nat} : l_w B L s i = true ↔ (l_K B L s = 1 ∧ l_te B L s - s = zTl i ∧ ∀ j, j < zTl i → nI (B (s + j)) = zTc i j) := by
  unfold l_w
  rw [Bool.and_eq_true, Bool.and_eq_true, List.all_eq_true]
  constructor
  · rintro ⟨h1, h2, h3⟩
    exact ⟨of_decide_eq_true h1, of_decide_eq_true h2, fun j hj => of_decide_eq_true (h3 j (List.mem_range.mpr hj))⟩
  · rintro ⟨h1, h2, h3⟩
    exact ⟨decide_eq_true h1, decide_eq_true h2, fun j hj => decide_eq_true (h3 j (List.mem_range.mp hj))⟩
theorem l_num_iff {B : Nat → Nat} {L s most : Nat} (hm : most ≤ 9999) : l_num B L s most = true ↔ (l_K B L s = 2 ∧ nI (l_v B L s) ≤ nI most) := by
  have hv : l_v B L s ≤ 10000 := l_cv_le _
  unfold l_num
  rw [Bool.and_eq_true, nI_leI (by omega) (by omega)]
  exact ⟨fun h => ⟨of_decide_eq_true h.1, of_decide_eq_true h.2⟩, fun h => ⟨decide_eq_true h.1, decide_eq_true h.2⟩⟩
theorem zKi {B : Nat → Nat} {L s k : Nat} (hk : k < 5) : nI (l_K B L s) = nI k ↔ l_K B L s = k := nI_eq (by have := l_K_lt (B := B) (L := L) (s := s); omega) (by omega)
/-- what a method that reads answers -/
def zEr (S : zSto) (B : Nat → Nat) (L : Nat) (r : Bool × Nat × zTn) : Option Value → zSto → Prop := fun r' s' => r' = some (.int (zb (r.1 = true))) ∧ zJ S s' ∧ zRd s' B L r.2.1 ∧ (r.1 = true → zHd s' 8 r.2.2)
theorem zHd_J8 {S S' : zSto} {τ : zTn} (h : zHd S 8 τ) (hN : zN S S') : zHd S' 8 τ := zHd_N h hN

set_option maxRecDepth 20000 in
set_option maxHeartbeats 4000000 in
theorem r_isNumber {g : zG} {S : zSto} {B : Nat → Nat} {L : Nat} {s : Nat} (hR : zRd S B L s) {mv : Int32} : zEd g 0 yX3_isNumber cX3_isNumber 2 (some .boolean) [.ref (zad g 24), .int mv] S (some (.int (zb (l_K B L s = 2 ∧ nI (l_v B L s) ≤ mv)))) S := by
  refine zev_intro (own := RX3) (lv := [some (.ref (zad g 24)), some (.int mv)]) (by decide +kernel) rfl (Nat.le_of_ble_eq_true rfl) rfl (fun C hM hN => ?_)
  refine za_aload_n dX3_isNumber_0 rfl ?_
  refine za_getI dX3_isNumber_1 zf_X3_32 rfl rfl ?_
  rw [hR.2.2.2.1]
  refine za_iconst (nI 2) dX3_isNumber_4 (by decide) ?_
  refine za_icmp_ne 20 dX3_isNumber_5 (by decide) (fun c5 => ?_) (fun c5 => ?_)
  · refine za_iconst (nI 0) dX3_isNumber_20 (by decide) ?_
    exact za_zretG hM dX3_isNumber_21 (by decide) ⟨by (first | rfl | exact congrArg (fun z => some (Value.int z)) (zb_f (c := l_K B L s = 2 ∧ nI (l_v B L s) ≤ mv) (fun z => c5 ((zKi (by decide)).mpr z.1))).symm | exact congrArg (fun z => some (Value.int z)) (zb_1 (c := l_K B L s = 2 ∧ nI (l_v B L s) ≤ mv) ⟨(zKi (by decide)).mp c5, Int32.not_lt.mp c13⟩).symm | exact congrArg (fun z => some (Value.int z)) (zb_f (c := l_K B L s = 2 ∧ nI (l_v B L s) ≤ mv) (fun z => absurd z.2 (Int32.not_le.mpr c13))).symm), by (first | rfl | exact congrArg (fun z => some (Value.int z)) (zb_f (c := l_K B L s = 2 ∧ nI (l_v B L s) ≤ mv) (fun z => c5 ((zKi (by decide)).mpr z.1))).symm | exact congrArg (fun z => some (Value.int z)) (zb_1 (c := l_K B L s = 2 ∧ nI (l_v B L s) ≤ mv) ⟨(zKi (by decide)).mp c5, Int32.not_lt.mp c13⟩).symm | exact congrArg (fun z => some (Value.int z)) (zb_f (c := l_K B L s = 2 ∧ nI (l_v B L s) ≤ mv) (fun z => absurd z.2 (Int32.not_le.mpr c13))).symm)⟩
  · refine za_aload_n dX3_isNumber_8 rfl ?_
    refine za_getI dX3_isNumber_9 zf_X3_99 rfl rfl ?_
    rw [hR.2.2.2.2 ((zKi (by decide)).mp c5)]
    refine za_iload_n dX3_isNumber_12 rfl ?_
    refine za_icmp_gt 20 dX3_isNumber_13 (by decide) (fun c13 => ?_) (fun c13 => ?_)
    · refine za_iconst (nI 0) dX3_isNumber_20 (by decide) ?_
      exact za_zretG hM dX3_isNumber_21 (by decide) ⟨by (first | rfl | exact congrArg (fun z => some (Value.int z)) (zb_f (c := l_K B L s = 2 ∧ nI (l_v B L s) ≤ mv) (fun z => c5 ((zKi (by decide)).mpr z.1))).symm | exact congrArg (fun z => some (Value.int z)) (zb_1 (c := l_K B L s = 2 ∧ nI (l_v B L s) ≤ mv) ⟨(zKi (by decide)).mp c5, Int32.not_lt.mp c13⟩).symm | exact congrArg (fun z => some (Value.int z)) (zb_f (c := l_K B L s = 2 ∧ nI (l_v B L s) ≤ mv) (fun z => absurd z.2 (Int32.not_le.mpr c13))).symm), by (first | rfl | exact congrArg (fun z => some (Value.int z)) (zb_f (c := l_K B L s = 2 ∧ nI (l_v B L s) ≤ mv) (fun z => c5 ((zKi (by decide)).mpr z.1))).symm | exact congrArg (fun z => some (Value.int z)) (zb_1 (c := l_K B L s = 2 ∧ nI (l_v B L s) ≤ mv) ⟨(zKi (by decide)).mp c5, Int32.not_lt.mp c13⟩).symm | exact congrArg (fun z => some (Value.int z)) (zb_f (c := l_K B L s = 2 ∧ nI (l_v B L s) ≤ mv) (fun z => absurd z.2 (Int32.not_le.mpr c13))).symm)⟩
    · refine za_iconst (nI 1) dX3_isNumber_16 (by decide) ?_
      refine za_goto 21 dX3_isNumber_17 (by decide) ?_
      exact za_zretG hM dX3_isNumber_21 (by decide) ⟨by (first | rfl | exact congrArg (fun z => some (Value.int z)) (zb_f (c := l_K B L s = 2 ∧ nI (l_v B L s) ≤ mv) (fun z => c5 ((zKi (by decide)).mpr z.1))).symm | exact congrArg (fun z => some (Value.int z)) (zb_1 (c := l_K B L s = 2 ∧ nI (l_v B L s) ≤ mv) ⟨(zKi (by decide)).mp c5, Int32.not_lt.mp c13⟩).symm | exact congrArg (fun z => some (Value.int z)) (zb_f (c := l_K B L s = 2 ∧ nI (l_v B L s) ≤ mv) (fun z => absurd z.2 (Int32.not_le.mpr c13))).symm), by (first | rfl | exact congrArg (fun z => some (Value.int z)) (zb_f (c := l_K B L s = 2 ∧ nI (l_v B L s) ≤ mv) (fun z => c5 ((zKi (by decide)).mpr z.1))).symm | exact congrArg (fun z => some (Value.int z)) (zb_1 (c := l_K B L s = 2 ∧ nI (l_v B L s) ≤ mv) ⟨(zKi (by decide)).mp c5, Int32.not_lt.mp c13⟩).symm | exact congrArg (fun z => some (Value.int z)) (zb_f (c := l_K B L s = 2 ∧ nI (l_v B L s) ≤ mv) (fun z => absurd z.2 (Int32.not_le.mpr c13))).symm)⟩

set_option maxRecDepth 20000 in
set_option maxHeartbeats 4000000 in
theorem r_isWord {g : zG} {S : zSto} {B : Nat → Nat} {L : Nat} (hT : zTp S B L) {s : Nat} (hR : zRd S B L s) {i : Nat} (hi : i < 12) : zEd g 4 yX3_isWord cX3_isWord 3 (some .boolean) [.ref (zad g 24), .ref (zsk g i)] S (some (.int (zb (l_w B L s i = true)))) S := by
  refine zev_intro (own := RX3) (lv := [some (.ref (zad g 24)), some (.ref (zsk g i)), none]) (by decide +kernel) rfl (Nat.le_of_ble_eq_true rfl) rfl (fun C hM hN => ?_)
  have h120 := hT.2.1
  have h8 := zTl_8 i hi
  have hge := l_te_ge (B := B) (L := L) (s := s)
  have hle := l_te_le (B := B) hR.1
  have hloop : ∀ (m j : Nat), j + m = zTl i → l_K B L s = 1 → l_te B L s - s = zTl i → (∀ q, q < j → nI (B (s + q)) = zTc i q) → zAW g C 4 cX3_isWord RX3 28 [some (.ref (zad g 24)), some (.ref (zsk g i)), some (.int (nI j))] [] S := by
    intro m
    induction m with
    | zero =>
      intro j hj hK hl ha
      obtain rfl : j = zTl i := by omega
      refine za_iload_n dX3_isWord_28 rfl ?_
      refine za_aload_n dX3_isWord_29 rfl ?_
      refine za_callVS (As := []) (rest := [.int (nI (zTl i))]) dX3_isWord_30 zm_X3_118 zw_J0_length_8abf5 zv_J0_length_8abf5 (j_length hi) (by decide) hi rfl rfl (Nat.le_of_ble_eq_true rfl) rfl (fun r1 s1 hE1 => ?_)
      obtain ⟨rfl, rfl⟩ := hE1
      show zAW _ _ _ _ _ _ _ (.int (nI (zTl i)) :: [.int (nI (zTl i))]) _
      refine za_icmp_ge 62 dX3_isWord_33 (by decide) (fun c33 => ?_) (fun c33 => absurd (nI_le (Nat.le_refl _) (by omega)) c33)
      refine za_iconst (nI 1) dX3_isWord_62 (by decide) ?_
      exact za_zretG hM dX3_isWord_63 (by decide) ⟨congrArg (fun z => some (Value.int z)) (zb_1 (c := l_w B L s i = true) (l_w_iff.mpr ⟨hK, hl, ha⟩)).symm, rfl⟩
    | succ m ih =>
      intro j hj hK hl ha
      have hw := l_K_1 hK
      have hlet : l_let (B (s + j)) = true := l_end_all (P := fun j => l_let (B j)) (L := L) (i := s) (by omega) (by rw [← l_te_w hw.1 hw.2]; omega)
      have hb := l_let_b hlet
      refine za_iload_n dX3_isWord_28 rfl ?_
      refine za_aload_n dX3_isWord_29 rfl ?_
      refine za_callVS (As := []) (rest := [.int (nI j)]) dX3_isWord_30 zm_X3_118 zw_J0_length_8abf5 zv_J0_length_8abf5 (j_length hi) (by decide) hi rfl rfl (Nat.le_of_ble_eq_true rfl) rfl (fun r1 s1 hE1 => ?_)
      obtain ⟨rfl, rfl⟩ := hE1
      show zAW _ _ _ _ _ _ _ (.int (nI (zTl i)) :: [.int (nI j)]) _
      refine za_icmp_ge 62 dX3_isWord_33 (by decide) (fun c33 => absurd c33 (nI_ge (show j < zTl i by omega) (by omega))) (fun c33 => ?_)
      refine za_aload_n dX3_isWord_36 rfl ?_
      refine za_aload_n dX3_isWord_37 rfl ?_
      refine za_getI dX3_isWord_38 zf_X3_35 rfl rfl ?_
      rw [hR.2.1]
      refine za_iload_n dX3_isWord_41 rfl ?_
      refine za_iadd dX3_isWord_42 ?_
      rw [nI_add]
      refine za_cV1 dX3_isWord_43 zm_X3_123 zw_X3_byteAt zv_X3_byteAt (r_byteAt hT (show s + j < L by omega)) (by decide) rfl rfl rfl (Nat.le_of_ble_eq_true rfl) ?_
      rw [zby_n (by omega)]
      refine za_aload_n dX3_isWord_46 rfl ?_
      refine za_iload_n dX3_isWord_47 rfl ?_
      refine za_callVS (As := [.int (nI j)]) (rest := [.int (nI (B (s + j)))]) dX3_isWord_48 zm_X3_126 zw_J0_charAt_5068e zv_J0_charAt_5068e (j_charAt hi (show j < zTl i by omega)) (by decide) hi rfl rfl (Nat.le_of_ble_eq_true rfl) rfl (fun r1 s1 hE1 => ?_)
      obtain ⟨rfl, rfl⟩ := hE1
      show zAW _ _ _ _ _ _ _ [.int (zTc i j), .int (nI (B (s + j)))] _
      refine za_icmp_eq 56 dX3_isWord_51 (by decide) (fun c51 => ?_) (fun c51 => ?_)
      · refine za_iinc (nI (_ + 1)) (lv' := [_, _, _]) dX3_isWord_56 rfl hN (by decide) (znext _) rfl ?_
        refine za_goto 28 dX3_isWord_59 (by decide) ?_
        exact ih (j + 1) (by omega) hK hl (fun q hq => by rcases Nat.lt_succ_iff_lt_or_eq.mp hq with z | z; exact ha q z; rw [z]; exact c51)
      · refine za_iconst (nI 0) dX3_isWord_54 (by decide) ?_
        exact za_zretG hM dX3_isWord_55 (by decide) ⟨congrArg (fun z => some (Value.int z)) (zb_f (c := l_w B L s i = true) (fun z => c51 ((l_w_iff.mp z).2.2 j (by omega)))).symm, rfl⟩
  refine za_aload_n dX3_isWord_0 rfl ?_
  refine za_getI dX3_isWord_1 zf_X3_32 rfl rfl ?_
  rw [hR.2.2.2.1]
  refine za_iconst (nI 1) dX3_isWord_4 (by decide) ?_
  refine za_icmp_ne 24 dX3_isWord_5 (by decide) (fun c5 => ?_) (fun c5 => ?_)
  · refine za_iconst (nI 0) dX3_isWord_24 (by decide) ?_
    exact za_zretG hM dX3_isWord_25 (by decide) ⟨by first | exact congrArg (fun z => some (Value.int z)) (zb_f (c := l_w B L s i = true) (fun z => c5 ((zKi (by decide)).mpr (l_w_iff.mp z).1))).symm | exact congrArg (fun z => some (Value.int z)) (zb_f (c := l_w B L s i = true) (fun z => c21 (congrArg nI (l_w_iff.mp z).2.1))).symm, rfl⟩
  · refine za_aload_n dX3_isWord_8 rfl ?_
    refine za_getI dX3_isWord_9 zf_X3_19 rfl rfl ?_
    rw [hR.2.2.1]
    refine za_aload_n dX3_isWord_12 rfl ?_
    refine za_getI dX3_isWord_13 zf_X3_35 rfl rfl ?_
    rw [hR.2.1]
    refine za_isub dX3_isWord_16 ?_
    rw [pk_sub hge]
    refine za_aload_n dX3_isWord_17 rfl ?_
    refine za_callVS (As := []) (rest := [.int (nI (l_te B L s - s))]) dX3_isWord_18 zm_X3_118 zw_J0_length_8abf5 zv_J0_length_8abf5 (j_length hi) (by decide) hi rfl rfl (Nat.le_of_ble_eq_true rfl) rfl (fun r1 s1 hE1 => ?_)
    obtain ⟨rfl, rfl⟩ := hE1
    show zAW _ _ _ _ _ _ _ (.int (nI (zTl i)) :: [.int (nI (l_te B L s - s))]) _
    refine za_icmp_eq 26 dX3_isWord_21 (by decide) (fun c21 => ?_) (fun c21 => ?_)
    · refine za_iconst (nI 0) dX3_isWord_26 (by decide) ?_
      refine za_istore_n (lv' := [_, _, _]) dX3_isWord_27 hN (by decide) rfl ?_
      exact hloop (zTl i) 0 (by omega) ((zKi (by decide)).mp c5) ((nI_eq (by omega) (by omega)).mp c21) (fun q hq => absurd hq (Nat.not_lt_zero _))
    · refine za_iconst (nI 0) dX3_isWord_24 (by decide) ?_
      exact za_zretG hM dX3_isWord_25 (by decide) ⟨by first | exact congrArg (fun z => some (Value.int z)) (zb_f (c := l_w B L s i = true) (fun z => c5 ((zKi (by decide)).mpr (l_w_iff.mp z).1))).symm | exact congrArg (fun z => some (Value.int z)) (zb_f (c := l_w B L s i = true) (fun z => c21 (congrArg nI (l_w_iff.mp z).2.1))).symm, rfl⟩

def l_kr (B : Nat → Nat) (L s : Nat) : Int32 := if l_kd B L s < 6 then nI (l_kd B L s) else -1
theorem l_kr_1 {B : Nat → Nat} {L s : Nat} (h : l_kd B L s < 6) : l_kr B L s = nI (l_kd B L s) := if_pos h
theorem l_kr_0 {B : Nat → Nat} {L s : Nat} (h : ¬ l_kd B L s < 6) : l_kr B L s = -1 := if_neg h

set_option maxRecDepth 20000 in
set_option maxHeartbeats 4000000 in
theorem r_kindNamed {g : zG} {S : zSto} {B : Nat → Nat} {L : Nat} (hT : zTp S B L) {s : Nat} (hR : zRd S B L s)  : zEd g 5 yX3_kindNamed cX3_kindNamed 1 (some .int) [.ref (zad g 24)] S (some (.int (l_kr B L s))) S := by
  refine zev_intro (own := RX3) (lv := [some (.ref (zad g 24))]) (by decide +kernel) rfl (Nat.le_of_ble_eq_true rfl) rfl (fun C hM hN => ?_)
  refine za_aload_n dX3_kindNamed_0 rfl ?_
  refine za_ldcS (i := 0) dX3_kindNamed_1 (by decide) rfl ?_
  refine za_cV1 dX3_kindNamed_3 zm_X3_51 zw_X3_isWord zv_X3_isWord (r_isWord hT hR (by decide)) (by decide) rfl rfl rfl (Nat.le_of_ble_eq_true rfl) ?_
  refine za_if_eqB 11 dX3_kindNamed_6 (by decide) (fun c6 => ?_) (fun c6 => ?_)
  · refine za_aload_n dX3_kindNamed_11 rfl ?_
    refine za_ldcS (i := 1) dX3_kindNamed_12 (by decide) rfl ?_
    refine za_cV1 dX3_kindNamed_14 zm_X3_51 zw_X3_isWord zv_X3_isWord (r_isWord hT hR (by decide)) (by decide) rfl rfl rfl (Nat.le_of_ble_eq_true rfl) ?_
    refine za_if_eqB 22 dX3_kindNamed_17 (by decide) (fun c17 => ?_) (fun c17 => ?_)
    · refine za_aload_n dX3_kindNamed_22 rfl ?_
      refine za_ldcS (i := 2) dX3_kindNamed_23 (by decide) rfl ?_
      refine za_cV1 dX3_kindNamed_25 zm_X3_51 zw_X3_isWord zv_X3_isWord (r_isWord hT hR (by decide)) (by decide) rfl rfl rfl (Nat.le_of_ble_eq_true rfl) ?_
      refine za_if_eqB 33 dX3_kindNamed_28 (by decide) (fun c28 => ?_) (fun c28 => ?_)
      · refine za_aload_n dX3_kindNamed_33 rfl ?_
        refine za_ldcS (i := 3) dX3_kindNamed_34 (by decide) rfl ?_
        refine za_cV1 dX3_kindNamed_36 zm_X3_51 zw_X3_isWord zv_X3_isWord (r_isWord hT hR (by decide)) (by decide) rfl rfl rfl (Nat.le_of_ble_eq_true rfl) ?_
        refine za_if_eqB 44 dX3_kindNamed_39 (by decide) (fun c39 => ?_) (fun c39 => ?_)
        · refine za_aload_n dX3_kindNamed_44 rfl ?_
          refine za_ldcS (i := 4) dX3_kindNamed_45 (by decide) rfl ?_
          refine za_cV1 dX3_kindNamed_47 zm_X3_51 zw_X3_isWord zv_X3_isWord (r_isWord hT hR (by decide)) (by decide) rfl rfl rfl (Nat.le_of_ble_eq_true rfl) ?_
          refine za_if_eqB 55 dX3_kindNamed_50 (by decide) (fun c50 => ?_) (fun c50 => ?_)
          · refine za_aload_n dX3_kindNamed_55 rfl ?_
            refine za_ldcS (i := 5) dX3_kindNamed_56 (by decide) rfl ?_
            refine za_cV1 dX3_kindNamed_58 zm_X3_51 zw_X3_isWord zv_X3_isWord (r_isWord hT hR (by decide)) (by decide) rfl rfl rfl (Nat.le_of_ble_eq_true rfl) ?_
            refine za_if_eqB 68 dX3_kindNamed_61 (by decide) (fun c61 => ?_) (fun c61 => ?_)
            · refine za_iconst (-1) dX3_kindNamed_68 (by decide) ?_
              exact za_iret hM dX3_kindNamed_69 ⟨by (first | rfl | (unfold l_kr l_kd; simp [*]; done)), by (first | rfl | (unfold l_kr l_kd; simp [*]; done))⟩
            · refine za_iconst (nI 5) dX3_kindNamed_64 (by decide) ?_
              refine za_goto 69 dX3_kindNamed_65 (by decide) ?_
              exact za_iret hM dX3_kindNamed_69 ⟨by (first | rfl | (unfold l_kr l_kd; simp [*]; done)), by (first | rfl | (unfold l_kr l_kd; simp [*]; done))⟩
          · refine za_iconst (nI 4) dX3_kindNamed_53 (by decide) ?_
            exact za_iret hM dX3_kindNamed_54 ⟨by (first | rfl | (unfold l_kr l_kd; simp [*]; done)), by (first | rfl | (unfold l_kr l_kd; simp [*]; done))⟩
        · refine za_iconst (nI 3) dX3_kindNamed_42 (by decide) ?_
          exact za_iret hM dX3_kindNamed_43 ⟨by (first | rfl | (unfold l_kr l_kd; simp [*]; done)), by (first | rfl | (unfold l_kr l_kd; simp [*]; done))⟩
      · refine za_iconst (nI 2) dX3_kindNamed_31 (by decide) ?_
        exact za_iret hM dX3_kindNamed_32 ⟨by (first | rfl | (unfold l_kr l_kd; simp [*]; done)), by (first | rfl | (unfold l_kr l_kd; simp [*]; done))⟩
    · refine za_iconst (nI 1) dX3_kindNamed_20 (by decide) ?_
      exact za_iret hM dX3_kindNamed_21 ⟨by (first | rfl | (unfold l_kr l_kd; simp [*]; done)), by (first | rfl | (unfold l_kr l_kd; simp [*]; done))⟩
  · refine za_iconst (nI 0) dX3_kindNamed_9 (by decide) ?_
    exact za_iret hM dX3_kindNamed_10 ⟨by (first | rfl | (unfold l_kr l_kd; simp [*]; done)), by (first | rfl | (unfold l_kr l_kd; simp [*]; done))⟩

theorem r_nextR {g : zG} {S : zSto} {B : Nat → Nat} {L s : Nat} (hT : zTp S B L) (hR : zRd S B L s) : zEv g 2 yX3_next cX3_next 1 none [.ref (zad g 24)] S (fun r' s' => r' = none ∧ zN S s' ∧ zRd s' B L (l_nx B L s)) := r_next hT hR.2.2.1 (l_te_le hR.1)

section PPART
variable {B : Nat → Nat} {L i k most w s : Nat} {τ : zTn}
theorem p_part_0 (h : ¬ l_w B L s i = true) : p_part B L i k most w s τ = (true, s, τ) := if_neg h
theorem p_part_1 (h : l_w B L s i = true) (h2 : l_num B L (l_nx B L s) most = true) : p_part B L i k most w s τ = (true, l_nx B L (l_nx B L s), zup τ k w (nI (l_v B L (l_nx B L s)))) := by unfold p_part; rw [if_pos h, if_pos h2]
theorem p_part_2 (h : l_w B L s i = true) (h2 : ¬ l_num B L (l_nx B L s) most = true) : p_part B L i k most w s τ = (false, l_nx B L s, τ) := by unfold p_part; rw [if_pos h, if_neg h2]
theorem p_pers_8 (hz : zn (τ 0 3) = 8) : p_pers B L s τ k = (false, s, τ) := if_pos hz
theorem p_pers_n {n : Nat} (hz : zn (τ 0 3) = n) (h8 : ¬ n = 8) : p_pers B L s τ k = p_p2 B L n (p_part B L 6 4 63 n (l_nx B L s) (p_ad τ (nI k))) := by
  unfold p_pers
  rw [hz, if_neg h8]
theorem p_p2_t {a : Nat} {t : zTn} : p_p2 B L w (true, a, t) = p_part B L 7 5 9999 w a t := rfl
theorem p_p2_f {a : Nat} {t : zTn} : p_p2 B L w (false, a, t) = (false, a, t) := rfl
end PPART

set_option maxRecDepth 20000 in
set_option maxHeartbeats 4000000 in
theorem r_readPerson {g : zG} {S : zSto} {B : Nat → Nat} {L : Nat} (hT : zTp S B L) {s : Nat} (hR : zRd S B L s) {τ : zTn} (hH : zHd S 8 τ) {n : Nat} (hn : τ 0 3 = nI n) (h9 : n < 9) {k : Nat} : zEv g 5 yX3_readPerson cX3_readPerson 3 (some .boolean) [.ref (zad g 24), .int (nI k)] S (zEr S B L (p_pers B L s τ k)) := by
  refine zev_intro (own := RX3) (lv := [some (.ref (zad g 24)), some (.int (nI k)), none]) (by decide +kernel) rfl (Nat.le_of_ble_eq_true rfl) rfl (fun C hM hN => ?_)
  have hz : zn (τ 0 3) = n := by rw [hn]; exact zn_nI (by omega)
  have htail : ∀ (S' : zSto) (T : zTn) (s' : Nat), ¬ n = 8 → zTp S' B L → zRd S' B L s' → zHd S' 8 T → zJ S S' → p_pers B L s τ k = p_part B L 7 5 9999 n s' T → zAW g C 5 cX3_readPerson RX3 66 [some (.ref (zad g 24)), some (.int (nI k)), some (.int (nI n))] [] S' := by
    intro S' T s' h8 hT' hR' hH' hJ' hE
    refine za_aload_n dX3_readPerson_66 rfl ?_
    refine za_ldcS (i := 7) dX3_readPerson_67 (by decide) rfl ?_
    refine za_cV1 dX3_readPerson_69 zm_X3_51 zw_X3_isWord zv_X3_isWord (r_isWord hT' hR' (by decide)) (by decide) rfl rfl rfl (Nat.le_of_ble_eq_true rfl) ?_
    refine za_if_eqB 108 dX3_readPerson_72 (by decide) (fun c72 => ?_) (fun c72 => ?_)
    · rw [p_part_0 c72] at hE
      refine za_iconst (nI 1) dX3_readPerson_108 (by decide) ?_
      exact za_zretG hM dX3_readPerson_109 (by decide) (by rw [hE]; first | exact ⟨rfl, zJ_tr hJ' (zJ_tr (zN_J hN76) (zJ_tr zJ_8 (zN_J hN105))), hR105, fun _ => zHd_N zHd_pt hN105⟩ | exact ⟨rfl, hJ', hR', fun _ => hH'⟩)
    · refine za_aload_n dX3_readPerson_75 rfl ?_
      refine za_callV (As := []) (rest := []) dX3_readPerson_76 zm_X3_25 zw_X3_next zv_X3_next (r_nextR hT' hR') (by decide) rfl rfl rfl rfl (Nat.le_of_ble_eq_true rfl) rfl (fun r76 s76 hE76 => ?_)
      obtain ⟨rfl, hN76, hR76⟩ := hE76
      show zAW _ _ _ _ _ _ _ [] _
      refine za_aload_n dX3_readPerson_79 rfl ?_
      refine za_sipush (nI 9999) dX3_readPerson_80 (by decide) ?_
      refine za_cV1 dX3_readPerson_83 zm_X3_93 zw_X3_isNumber zv_X3_isNumber (r_isNumber hR76) (by decide) rfl rfl rfl (Nat.le_of_ble_eq_true rfl) ?_
      refine za_if_neB 91 dX3_readPerson_86 (by decide) (fun c86 => ?_) (fun c86 => ?_)
      · rw [p_part_1 c72 ((l_num_iff (by decide)).mpr c86)] at hE
        refine za_aload_n dX3_readPerson_91 rfl ?_
        have hH76 := zHd_N hH' hN76
        refine za_getR dX3_readPerson_92 zf_X3_15 rfl rfl ?_
        refine za_getR dX3_readPerson_95 zf_X3_104 (tn0 zT8) rfl ?_
        refine za_iload_n dX3_readPerson_98 rfl ?_
        refine za_aload_n dX3_readPerson_99 rfl ?_
        refine za_getI dX3_readPerson_100 zf_X3_99 rfl rfl ?_
        rw [hR76.2.2.2.2 c86.1]
        refine zh_iast zT8 (by assumption) (by decide) dX3_readPerson_103 (zv5 (by omega)) ?_
        refine za_aload_n dX3_readPerson_104 rfl ?_
        refine za_callV (As := []) (rest := []) dX3_readPerson_105 zm_X3_25 zw_X3_next zv_X3_next (r_nextR (zTp_8 (zTp_N hT' hN76)) (zRd_8 hR76)) (by decide) rfl rfl rfl rfl (Nat.le_of_ble_eq_true rfl) rfl (fun r105 s105 hE105 => ?_)
        obtain ⟨rfl, hN105, hR105⟩ := hE105
        show zAW _ _ _ _ _ _ _ [] _
        refine za_iconst (nI 1) dX3_readPerson_108 (by decide) ?_
        exact za_zretG hM dX3_readPerson_109 (by decide) (by rw [hE]; first | exact ⟨rfl, zJ_tr hJ' (zJ_tr (zN_J hN76) (zJ_tr zJ_8 (zN_J hN105))), hR105, fun _ => zHd_N zHd_pt hN105⟩ | exact ⟨rfl, hJ', hR', fun _ => hH'⟩)
      · rw [p_part_2 c72 (fun z => c86 ((l_num_iff (by decide)).mp z))] at hE
        refine za_iconst (nI 0) dX3_readPerson_89 (by decide) ?_
        exact za_zretG hM dX3_readPerson_90 (by decide) (by rw [hE]; exact ⟨rfl, zJ_tr hJ' (zN_J hN76), hR76, fun z => by cases z⟩)
  refine za_aload_n dX3_readPerson_0 rfl ?_
  refine za_getR dX3_readPerson_1 zf_X3_15 rfl rfl ?_
  refine za_cV0 dX3_readPerson_4 zm_X3_82 zw_X4_isFull zv_X4_isFull (zhold0 hH (tc_isFull zT8 h9 hn)) (by decide) (tn0 zT8) rfl rfl (Nat.le_of_ble_eq_true rfl) ?_
  refine za_if_eqB 12 dX3_readPerson_7 (by decide) (fun c7 => ?_) (fun c7 => ?_)
  · refine za_aload_n dX3_readPerson_12 rfl ?_
    refine za_getR dX3_readPerson_13 zf_X3_15 rfl rfl ?_
    refine za_iload_n dX3_readPerson_16 rfl ?_
    refine za_cV1 dX3_readPerson_17 zm_X3_87 zw_X4_add zv_X4_add (zhold1 hH (tc_add zT8 (by omega) hn)) (by decide) (tn0 zT8) rfl rfl (Nat.le_of_ble_eq_true rfl) ?_
    refine za_istore_n (lv' := [_, _, _]) dX3_readPerson_20 hN (by decide) rfl ?_
    refine za_aload_n dX3_readPerson_21 rfl ?_
    refine za_callV (As := []) (rest := []) dX3_readPerson_22 zm_X3_25 zw_X3_next zv_X3_next (r_nextR (zTp_8 hT) (zRd_8 hR)) (by decide) rfl rfl rfl rfl (Nat.le_of_ble_eq_true rfl) rfl (fun r22 s22 hE22 => ?_)
    obtain ⟨rfl, hN22, hR22⟩ := hE22
    show zAW _ _ _ _ _ _ _ [] _
    have hT22 := zTp_N (zTp_8 hT) hN22
    have hH22 := zHd_N (zHd_pt (S := S) (τ := p_ad τ (nI k))) hN22
    have hJ22 : zJ S s22 := zJ_tr zJ_8 (zN_J hN22)
    refine za_aload_n dX3_readPerson_25 rfl ?_
    refine za_ldcS (i := 6) dX3_readPerson_26 (by decide) rfl ?_
    refine za_cV1 dX3_readPerson_28 zm_X3_51 zw_X3_isWord zv_X3_isWord (r_isWord hT22 hR22 (by decide)) (by decide) rfl rfl rfl (Nat.le_of_ble_eq_true rfl) ?_
    refine za_if_eqB 66 dX3_readPerson_31 (by decide) (fun c31 => ?_) (fun c31 => ?_)
    · first
        | exact htail _ _ _ c7 (zTp_N (zTp_8 (zTp_N hT22 hN35)) hN63) hR63 (zHd_N zHd_pt hN63) (zJ_tr hJ22 (zJ_tr (zN_J hN35) (zJ_tr zJ_8 (zN_J hN63)))) (by rw [p_pers_n hz c7, p_part_1 c31 ((l_num_iff (by decide)).mpr c44), p_p2_t])
        | exact htail _ _ _ c7 hT22 hR22 hH22 hJ22 (by rw [p_pers_n hz c7, p_part_0 c31, p_p2_t])
    · refine za_aload_n dX3_readPerson_34 rfl ?_
      refine za_callV (As := []) (rest := []) dX3_readPerson_35 zm_X3_25 zw_X3_next zv_X3_next (r_nextR hT22 hR22) (by decide) rfl rfl rfl rfl (Nat.le_of_ble_eq_true rfl) rfl (fun r35 s35 hE35 => ?_)
      obtain ⟨rfl, hN35, hR35⟩ := hE35
      show zAW _ _ _ _ _ _ _ [] _
      refine za_aload_n dX3_readPerson_38 rfl ?_
      refine za_bipush (nI 63) dX3_readPerson_39 (by decide) ?_
      refine za_cV1 dX3_readPerson_41 zm_X3_93 zw_X3_isNumber zv_X3_isNumber (r_isNumber hR35) (by decide) rfl rfl rfl (Nat.le_of_ble_eq_true rfl) ?_
      refine za_if_neB 49 dX3_readPerson_44 (by decide) (fun c44 => ?_) (fun c44 => ?_)
      · refine za_aload_n dX3_readPerson_49 rfl ?_
        have hH35 := zHd_N hH22 hN35
        refine za_getR dX3_readPerson_50 zf_X3_15 rfl rfl ?_
        refine za_getR dX3_readPerson_53 zf_X3_96 (tn0 zT8) rfl ?_
        refine za_iload_n dX3_readPerson_56 rfl ?_
        refine za_aload_n dX3_readPerson_57 rfl ?_
        refine za_getI dX3_readPerson_58 zf_X3_99 rfl rfl ?_
        rw [hR35.2.2.2.2 c44.1]
        refine zh_iast zT8 (by assumption) (by decide) dX3_readPerson_61 (zv4 (by omega)) ?_
        refine za_aload_n dX3_readPerson_62 rfl ?_
        refine za_callV (As := []) (rest := []) dX3_readPerson_63 zm_X3_25 zw_X3_next zv_X3_next (r_nextR (zTp_8 (zTp_N hT22 hN35)) (zRd_8 hR35)) (by decide) rfl rfl rfl rfl (Nat.le_of_ble_eq_true rfl) rfl (fun r63 s63 hE63 => ?_)
        obtain ⟨rfl, hN63, hR63⟩ := hE63
        show zAW _ _ _ _ _ _ _ [] _
        first
          | exact htail _ _ _ c7 (zTp_N (zTp_8 (zTp_N hT22 hN35)) hN63) hR63 (zHd_N zHd_pt hN63) (zJ_tr hJ22 (zJ_tr (zN_J hN35) (zJ_tr zJ_8 (zN_J hN63)))) (by rw [p_pers_n hz c7, p_part_1 c31 ((l_num_iff (by decide)).mpr c44), p_p2_t])
          | exact htail _ _ _ c7 hT22 hR22 hH22 hJ22 (by rw [p_pers_n hz c7, p_part_0 c31, p_p2_t])
      · refine za_iconst (nI 0) dX3_readPerson_47 (by decide) ?_
        exact za_zretG hM dX3_readPerson_48 (by decide) (by rw [p_pers_n hz c7, p_part_2 c31 (fun z => c44 ((l_num_iff (by decide)).mp z)), p_p2_f]; exact ⟨rfl, zJ_tr hJ22 (zN_J hN35), hR35, fun z => by cases z⟩)
  · have e8 := c7
    refine za_iconst (nI 0) dX3_readPerson_10 (by decide) ?_
    exact za_zretG hM dX3_readPerson_11 (by decide) (by rw [p_pers_8 (hz.trans c7)]; exact ⟨rfl, zJ_rf, hR, fun z => by cases z⟩)

set_option maxRecDepth 20000 in
set_option maxHeartbeats 4000000 in
theorem r_readLying {g : zG} {S : zSto} {B : Nat → Nat} {L : Nat} (hT : zTp S B L) {s : Nat} (hR : zRd S B L s) {τ : zTn} (hH : zHd S 8 τ) {side : Nat} (hs : side < 2) : zEv g 5 yX3_readLying cX3_readLying 3 (some .boolean) [.ref (zad g 24), .int (nI side)] S (zEr S B L (p_lyg B L s τ side)) := by
  refine zev_intro (own := RX3) (lv := [some (.ref (zad g 24)), some (.int (nI side)), none]) (by decide +kernel) rfl (Nat.le_of_ble_eq_true rfl) rfl (fun C hM hN => ?_)
  refine za_aload_n dX3_readLying_0 rfl ?_
  refine za_callV (As := []) (rest := []) dX3_readLying_1 zm_X3_25 zw_X3_next zv_X3_next (r_nextR hT hR) (by decide) rfl rfl rfl rfl (Nat.le_of_ble_eq_true rfl) rfl (fun r1 s1 hE1 => ?_)
  obtain ⟨rfl, hN1, hR1⟩ := hE1
  show zAW _ _ _ _ _ _ _ [] _
  refine za_aload_n dX3_readLying_4 rfl ?_
  refine za_iconst (nI 5) dX3_readLying_5 (by decide) ?_
  refine za_cV1 dX3_readLying_6 zm_X3_93 zw_X3_isNumber zv_X3_isNumber (r_isNumber hR1) (by decide) rfl rfl rfl (Nat.le_of_ble_eq_true rfl) ?_
  refine za_if_neB 14 dX3_readLying_9 (by decide) (fun c9 => ?_) (fun c9 => ?_)
  · refine za_aload_n dX3_readLying_14 rfl ?_
    have hT1 := zTp_N hT hN1
    have hv1 : l_v B L (l_nx B L s) ≤ 5 := ((l_num_v ((l_num_iff (by decide)).mpr c9)).2)
    refine za_getI dX3_readLying_15 zf_X3_99 rfl rfl ?_
    rw [hR1.2.2.2.2 c9.1]
    refine za_istore_n (lv' := [_, _, _]) dX3_readLying_18 hN (by decide) rfl ?_
    refine za_aload_n dX3_readLying_19 rfl ?_
    refine za_callV (As := []) (rest := []) dX3_readLying_20 zm_X3_25 zw_X3_next zv_X3_next (r_nextR hT1 hR1) (by decide) rfl rfl rfl rfl (Nat.le_of_ble_eq_true rfl) rfl (fun r20 s20 hE20 => ?_)
    obtain ⟨rfl, hN20, hR20⟩ := hE20
    show zAW _ _ _ _ _ _ _ [] _
    refine za_aload_n dX3_readLying_23 rfl ?_
    refine za_sipush (nI 9999) dX3_readLying_24 (by decide) ?_
    refine za_cV1 dX3_readLying_27 zm_X3_93 zw_X3_isNumber zv_X3_isNumber (r_isNumber hR20) (by decide) rfl rfl rfl (Nat.le_of_ble_eq_true rfl) ?_
    refine za_if_neB 35 dX3_readLying_30 (by decide) (fun c30 => ?_) (fun c30 => ?_)
    · refine za_aload_n dX3_readLying_35 rfl ?_
      have hH20 := zHd_N (zHd_N hH hN1) hN20
      refine za_getR dX3_readLying_36 zf_X3_15 rfl rfl ?_
      refine za_iload_n dX3_readLying_39 rfl ?_
      refine za_iload_n dX3_readLying_40 rfl ?_
      refine za_aload_n dX3_readLying_41 rfl ?_
      refine za_getI dX3_readLying_42 zf_X3_99 rfl rfl ?_
      rw [hR20.2.2.2.2 c30.1]
      refine za_cV3v dX3_readLying_45 zm_X3_106 zw_X4_lay zv_X4_lay (zhold1 hH20 (tc_lay zT8 (show l_v B L (l_nx B L s) < 6 by omega) hs)) (by decide) (tn0 zT8) rfl rfl (Nat.le_of_ble_eq_true rfl) ?_
      refine za_aload_n dX3_readLying_48 rfl ?_
      refine za_callV (As := []) (rest := []) dX3_readLying_49 zm_X3_25 zw_X3_next zv_X3_next (r_nextR (zTp_8 (zTp_N hT1 hN20)) (zRd_8 hR20)) (by decide) rfl rfl rfl rfl (Nat.le_of_ble_eq_true rfl) rfl (fun r49 s49 hE49 => ?_)
      obtain ⟨rfl, hN49, hR49⟩ := hE49
      show zAW _ _ _ _ _ _ _ [] _
      refine za_iconst (nI 1) dX3_readLying_52 (by decide) ?_
      exact za_zretG hM dX3_readLying_53 (by decide) (by unfold p_lyg; rw [if_pos ((l_num_iff (by decide)).mpr c9), if_pos ((l_num_iff (by decide)).mpr c30)]; exact ⟨rfl, zJ_tr (zN_J hN1) (zJ_tr (zN_J hN20) (zJ_tr zJ_8 (zN_J hN49))), hR49, fun _ => zHd_N zHd_pt hN49⟩)
    · refine za_iconst (nI 0) dX3_readLying_33 (by decide) ?_
      exact za_zretG hM dX3_readLying_34 (by decide) (by unfold p_lyg; rw [if_pos ((l_num_iff (by decide)).mpr c9), if_neg (fun z => c30 ((l_num_iff (by decide)).mp z))]; exact ⟨rfl, zJ_tr (zN_J hN1) (zN_J hN20), hR20, fun z => by cases z⟩)
  · refine za_iconst (nI 0) dX3_readLying_12 (by decide) ?_
    exact za_zretG hM dX3_readLying_13 (by decide) (by unfold p_lyg; rw [if_neg (fun z => c9 ((l_num_iff (by decide)).mp z))]; exact ⟨rfl, zN_J hN1, hR1, fun z => by cases z⟩)

set_option maxRecDepth 20000 in
set_option maxHeartbeats 4000000 in
theorem r_readBribe {g : zG} {S : zSto} {B : Nat → Nat} {L : Nat} (hT : zTp S B L) {s : Nat} (hR : zRd S B L s) {τ : zTn} (hH : zHd S 8 τ)  : zEv g 5 yX3_readBribe cX3_readBribe 1 (some .boolean) [.ref (zad g 24)] S (zEr S B L (p_brb B L s τ)) := by
  refine zev_intro (own := RX3) (lv := [some (.ref (zad g 24))]) (by decide +kernel) rfl (Nat.le_of_ble_eq_true rfl) rfl (fun C hM hN => ?_)
  refine za_aload_n dX3_readBribe_0 rfl ?_
  refine za_callV (As := []) (rest := []) dX3_readBribe_1 zm_X3_25 zw_X3_next zv_X3_next (r_nextR hT hR) (by decide) rfl rfl rfl rfl (Nat.le_of_ble_eq_true rfl) rfl (fun r1 s1 hE1 => ?_)
  obtain ⟨rfl, hN1, hR1⟩ := hE1
  show zAW _ _ _ _ _ _ _ [] _
  refine za_aload_n dX3_readBribe_4 rfl ?_
  refine za_ldcS (i := 8) dX3_readBribe_5 (by decide) rfl ?_
  have hT1 := zTp_N hT hN1
  have hH1 := zHd_N hH hN1
  refine za_cV1 dX3_readBribe_7 zm_X3_51 zw_X3_isWord zv_X3_isWord (r_isWord hT1 hR1 (by decide)) (by decide) rfl rfl rfl (Nat.le_of_ble_eq_true rfl) ?_
  refine za_if_eqB 24 dX3_readBribe_10 (by decide) (fun c10 => ?_) (fun c10 => ?_)
  · refine za_aload_n dX3_readBribe_24 rfl ?_
    refine za_ldcS (i := 9) dX3_readBribe_25 (by decide) rfl ?_
    refine za_cV1 dX3_readBribe_27 zm_X3_51 zw_X3_isWord zv_X3_isWord (r_isWord hT1 hR1 (by decide)) (by decide) rfl rfl rfl (Nat.le_of_ble_eq_true rfl) ?_
    refine za_if_eqB 44 dX3_readBribe_30 (by decide) (fun c30 => ?_) (fun c30 => ?_)
    · refine za_iconst (nI 0) dX3_readBribe_44 (by decide) ?_
      exact za_zretG hM dX3_readBribe_45 (by decide) (by unfold p_brb; rw [if_neg c10, if_neg c30]; exact ⟨rfl, zN_J hN1, hR1, fun z => by cases z⟩)
    · refine za_aload_n dX3_readBribe_33 rfl ?_
      refine za_getR dX3_readBribe_34 zf_X3_15 rfl rfl ?_
      refine za_iconst (nI 1) dX3_readBribe_37 (by decide) ?_
      refine zh_putI zT8 (by assumption) dX3_readBribe_38 zf_X3_110 zp_X4_2 (by decide) ?_
      refine za_goto 46 dX3_readBribe_41 (by decide) ?_
      refine za_aload_n dX3_readBribe_46 rfl ?_
      refine za_callV (As := []) (rest := []) dX3_readBribe_47 zm_X3_25 zw_X3_next zv_X3_next (r_nextR (zTp_8 hT1) (zRd_8 hR1)) (by decide) rfl rfl rfl rfl (Nat.le_of_ble_eq_true rfl) rfl (fun r47 s47 hE47 => ?_)
      obtain ⟨rfl, hN47, hR47⟩ := hE47
      show zAW _ _ _ _ _ _ _ [] _
      refine za_iconst (nI 1) dX3_readBribe_50 (by decide) ?_
      exact za_zretG hM dX3_readBribe_51 (by decide) (by unfold p_brb; first | (rw [if_pos c10]; exact ⟨rfl, zJ_tr (zN_J hN1) (zJ_tr zJ_8 (zN_J hN47)), hR47, fun _ => zHd_N zHd_pt hN47⟩) | (rw [if_neg c10, if_pos c30]; exact ⟨rfl, zJ_tr (zN_J hN1) (zJ_tr zJ_8 (zN_J hN47)), hR47, fun _ => zHd_N zHd_pt hN47⟩))
  · refine za_aload_n dX3_readBribe_13 rfl ?_
    refine za_getR dX3_readBribe_14 zf_X3_15 rfl rfl ?_
    refine za_iconst (nI 0) dX3_readBribe_17 (by decide) ?_
    refine zh_putI zT8 (by assumption) dX3_readBribe_18 zf_X3_110 zp_X4_2 (by decide) ?_
    refine za_goto 46 dX3_readBribe_21 (by decide) ?_
    refine za_aload_n dX3_readBribe_46 rfl ?_
    refine za_callV (As := []) (rest := []) dX3_readBribe_47 zm_X3_25 zw_X3_next zv_X3_next (r_nextR (zTp_8 hT1) (zRd_8 hR1)) (by decide) rfl rfl rfl rfl (Nat.le_of_ble_eq_true rfl) rfl (fun r47 s47 hE47 => ?_)
    obtain ⟨rfl, hN47, hR47⟩ := hE47
    show zAW _ _ _ _ _ _ _ [] _
    refine za_iconst (nI 1) dX3_readBribe_50 (by decide) ?_
    exact za_zretG hM dX3_readBribe_51 (by decide) (by unfold p_brb; first | (rw [if_pos c10]; exact ⟨rfl, zJ_tr (zN_J hN1) (zJ_tr zJ_8 (zN_J hN47)), hR47, fun _ => zHd_N zHd_pt hN47⟩) | (rw [if_neg c10, if_pos c30]; exact ⟨rfl, zJ_tr (zN_J hN1) (zJ_tr zJ_8 (zN_J hN47)), hR47, fun _ => zHd_N zHd_pt hN47⟩))

theorem zaw {B : Nat → Nat} {L s n : Nat} {x : Int32} (hx : x = nI n) (hn : n < 9) : (l_K B L s = 2 ∧ nI (l_v B L s) ≤ x - nI 1) ↔ (l_K B L s = 2 ∧ l_v B L s < n) := by
  have hv : l_v B L s ≤ 10000 := l_cv_le _
  constructor
  · rintro ⟨h1, h2⟩
    refine ⟨h1, ?_⟩
    obtain ⟨p, hp, e⟩ := zper_inv hx hn ⟨nI_pos' (n := l_v B L s) (by omega), h2⟩
    have := zinj e (by omega) (by omega)
    omega
  · rintro ⟨h1, h2⟩
    exact ⟨h1, (zper hx hn h2).2⟩

set_option maxRecDepth 20000 in
set_option maxHeartbeats 4000000 in
theorem r_readAway {g : zG} {S : zSto} {B : Nat → Nat} {L : Nat} (hT : zTp S B L) {s : Nat} (hR : zRd S B L s) {τ : zTn} (hH : zHd S 8 τ) {n : Nat} (hn : τ 0 3 = nI n) (h9 : n < 9)  : zEv g 5 yX3_readAway cX3_readAway 1 (some .boolean) [.ref (zad g 24)] S (zEr S B L (p_awy B L s τ)) := by
  refine zev_intro (own := RX3) (lv := [some (.ref (zad g 24))]) (by decide +kernel) rfl (Nat.le_of_ble_eq_true rfl) rfl (fun C hM hN => ?_)
  have hz : zn (τ 0 3) = n := by rw [hn]; exact zn_nI (by omega)
  refine za_aload_n dX3_readAway_0 rfl ?_
  refine za_callV (As := []) (rest := []) dX3_readAway_1 zm_X3_25 zw_X3_next zv_X3_next (r_nextR hT hR) (by decide) rfl rfl rfl rfl (Nat.le_of_ble_eq_true rfl) rfl (fun r1 s1 hE1 => ?_)
  obtain ⟨rfl, hN1, hR1⟩ := hE1
  show zAW _ _ _ _ _ _ _ [] _
  refine za_aload_n dX3_readAway_4 rfl ?_
  refine za_aload_n dX3_readAway_5 rfl ?_
  have hT1 := zTp_N hT hN1
  have hH1 := zHd_N hH hN1
  refine za_getR dX3_readAway_6 zf_X3_15 rfl rfl ?_
  refine zh_getI zT8 (by assumption) dX3_readAway_9 zf_X3_113 (by decide) ?_
  refine za_iconst (nI 1) dX3_readAway_12 (by decide) ?_
  refine za_isub dX3_readAway_13 ?_
  refine za_cV1 dX3_readAway_14 zm_X3_93 zw_X3_isNumber zv_X3_isNumber (r_isNumber hR1) (by decide) rfl rfl rfl (Nat.le_of_ble_eq_true rfl) ?_
  refine za_if_neB 22 dX3_readAway_17 (by decide) (fun c17 => ?_) (fun c17 => ?_)
  · refine za_aload_n dX3_readAway_22 rfl ?_
    have hw := (zaw hn h9).mp c17
    refine za_getR dX3_readAway_23 zf_X3_15 rfl rfl ?_
    refine za_getR dX3_readAway_26 zf_X3_116 (tn0 zT8) rfl ?_
    refine za_aload_n dX3_readAway_29 rfl ?_
    refine za_getI dX3_readAway_30 zf_X3_99 rfl rfl ?_
    rw [hR1.2.2.2.2 hw.1]
    refine za_iconst (nI 1) dX3_readAway_33 (by decide) ?_
    refine zh_iast zT8 (by assumption) (by decide) dX3_readAway_34 (zv6 (by omega)) ?_
    refine za_aload_n dX3_readAway_35 rfl ?_
    refine za_callV (As := []) (rest := []) dX3_readAway_36 zm_X3_25 zw_X3_next zv_X3_next (r_nextR (zTp_8 hT1) (zRd_8 hR1)) (by decide) rfl rfl rfl rfl (Nat.le_of_ble_eq_true rfl) rfl (fun r36 s36 hE36 => ?_)
    obtain ⟨rfl, hN36, hR36⟩ := hE36
    show zAW _ _ _ _ _ _ _ [] _
    refine za_iconst (nI 1) dX3_readAway_39 (by decide) ?_
    exact za_zretG hM dX3_readAway_40 (by decide) (by unfold p_awy; rw [if_pos (by rw [hz]; exact hw)]; exact ⟨rfl, zJ_tr (zN_J hN1) (zJ_tr zJ_8 (zN_J hN36)), hR36, fun _ => zHd_N zHd_pt hN36⟩)
  · refine za_iconst (nI 0) dX3_readAway_20 (by decide) ?_
    exact za_zretG hM dX3_readAway_21 (by decide) (by unfold p_awy; rw [if_neg (fun z => c17 ((zaw hn h9).mpr (by rw [hz] at z; exact z)))]; exact ⟨rfl, zN_J hN1, hR1, fun z => by cases z⟩)

set_option maxRecDepth 20000 in
set_option maxHeartbeats 4000000 in
theorem r_readItem {g : zG} {S : zSto} {B : Nat → Nat} {L : Nat} (hT : zTp S B L) {s : Nat} (hR : zRd S B L s) {τ : zTn} (hH : zHd S 8 τ) {n : Nat} (hn : τ 0 3 = nI n) (h9 : n < 9)  : zEv g 6 yX3_readItem cX3_readItem 2 (some .boolean) [.ref (zad g 24)] S (zEr S B L (p_item B L s τ)) := by
  refine zev_intro (own := RX3) (lv := [some (.ref (zad g 24)), none]) (by decide +kernel) rfl (Nat.le_of_ble_eq_true rfl) rfl (fun C hM hN => ?_)
  by_cases hk : l_kd B L s < 6
  · refine za_aload_n dX3_readItem_0 rfl ?_
    refine za_cV0 dX3_readItem_1 zm_X3_38 zw_X3_kindNamed zv_X3_kindNamed (r_kindNamed hT hR) (by decide) rfl rfl rfl (Nat.le_of_ble_eq_true rfl) ?_
    rw [l_kr_1 hk]
    refine za_istore_n (lv' := [_, _]) dX3_readItem_4 hN (by decide) rfl ?_
    refine za_iload_n dX3_readItem_5 rfl ?_
    refine za_cN1 dX3_readItem_6 zm_X3_42 zw_X5_isKind zs_X5_isKind (e_isKind _) (by decide) (Nat.le_of_ble_eq_true rfl) ?_
    refine za_if_eqB 18 dX3_readItem_9 (by decide) (fun c9 => absurd (zrng (Nat.zero_le _) (by omega) (by decide)) c9) (fun c9 => ?_)
    refine za_aload_n dX3_readItem_12 rfl ?_
    refine za_iload_n dX3_readItem_13 rfl ?_
    refine za_callV (As := [.int (nI (l_kd B L s))]) (rest := []) dX3_readItem_14 zm_X3_46 zw_X3_readPerson zv_X3_readPerson (r_readPerson hT hR hH hn h9 (k := l_kd B L s)) (by decide) rfl rfl rfl rfl (Nat.le_of_ble_eq_true rfl) rfl (fun r14 s14 hE14 => ?_)
    obtain ⟨rfl, hJ14, hRr14, hHr14⟩ := hE14
    show zAW _ _ _ _ _ _ _ (.int (zb _) :: []) _
    exact za_zretG hM dX3_readItem_17 zb_nar (by unfold p_item; rw [if_pos hk]; exact ⟨rfl, hJ14, hRr14, hHr14⟩)
  · refine za_aload_n dX3_readItem_0 rfl ?_
    refine za_cV0 dX3_readItem_1 zm_X3_38 zw_X3_kindNamed zv_X3_kindNamed (r_kindNamed hT hR) (by decide) rfl rfl rfl (Nat.le_of_ble_eq_true rfl) ?_
    rw [l_kr_0 hk]
    refine za_istore_n (lv' := [_, _]) dX3_readItem_4 hN (by decide) rfl ?_
    refine za_iload_n dX3_readItem_5 rfl ?_
    refine za_cN1 dX3_readItem_6 zm_X3_42 zw_X5_isKind zs_X5_isKind (e_isKind _) (by decide) (Nat.le_of_ble_eq_true rfl) ?_
    refine za_if_eqB 18 dX3_readItem_9 (by decide) (fun c9 => ?_) (fun c9 => absurd c9 (by decide))
    refine za_aload_n dX3_readItem_18 rfl ?_
    refine za_ldcS (i := 8) dX3_readItem_19 (by decide) rfl ?_
    refine za_cV1 dX3_readItem_21 zm_X3_51 zw_X3_isWord zv_X3_isWord (r_isWord hT hR (by decide)) (by decide) rfl rfl rfl (Nat.le_of_ble_eq_true rfl) ?_
    refine za_if_eqB 33 dX3_readItem_24 (by decide) (fun c24 => ?_) (fun c24 => ?_)
    · refine za_aload_n dX3_readItem_33 rfl ?_
      refine za_ldcS (i := 9) dX3_readItem_34 (by decide) rfl ?_
      refine za_cV1 dX3_readItem_36 zm_X3_51 zw_X3_isWord zv_X3_isWord (r_isWord hT hR (by decide)) (by decide) rfl rfl rfl (Nat.le_of_ble_eq_true rfl) ?_
      refine za_if_eqB 48 dX3_readItem_39 (by decide) (fun c39 => ?_) (fun c39 => ?_)
      · refine za_aload_n dX3_readItem_48 rfl ?_
        refine za_ldcS (i := 10) dX3_readItem_49 (by decide) rfl ?_
        refine za_cV1 dX3_readItem_51 zm_X3_51 zw_X3_isWord zv_X3_isWord (r_isWord hT hR (by decide)) (by decide) rfl rfl rfl (Nat.le_of_ble_eq_true rfl) ?_
        refine za_if_eqB 62 dX3_readItem_54 (by decide) (fun c54 => ?_) (fun c54 => ?_)
        · refine za_aload_n dX3_readItem_62 rfl ?_
          refine za_ldcS (i := 11) dX3_readItem_63 (by decide) rfl ?_
          refine za_cV1 dX3_readItem_65 zm_X3_51 zw_X3_isWord zv_X3_isWord (r_isWord hT hR (by decide)) (by decide) rfl rfl rfl (Nat.le_of_ble_eq_true rfl) ?_
          refine za_if_eqB 82 dX3_readItem_68 (by decide) (fun c68 => ?_) (fun c68 => ?_)
          · refine za_iconst (nI 0) dX3_readItem_82 (by decide) ?_
            exact za_zretG hM dX3_readItem_83 (by decide) (by unfold p_item; rw [if_neg hk, if_neg c24, if_neg c39, if_neg c54]; first | (rw [if_neg c68]; exact ⟨rfl, zJ_rf, hR, fun z => by cases z⟩) | (rw [if_pos c68]; exact ⟨congrArg (fun z => some (Value.int z)) (zb_1 c75).symm, hJ72, hRr72, hHr72⟩) | (rw [if_pos c68]; exact ⟨congrArg (fun z => some (Value.int z)) (zb_f c75).symm, hJ72, hRr72, hHr72⟩))
          · refine za_aload_n dX3_readItem_71 rfl ?_
            refine za_callV (As := []) (rest := []) dX3_readItem_72 zm_X3_67 zw_X3_readAway zv_X3_readAway (r_readAway hT hR hH hn h9) (by decide) rfl rfl rfl rfl (Nat.le_of_ble_eq_true rfl) rfl (fun r72 s72 hE72 => ?_)
            obtain ⟨rfl, hJ72, hRr72, hHr72⟩ := hE72
            show zAW _ _ _ _ _ _ _ (.int (zb _) :: []) _
            refine za_if_eqB 82 dX3_readItem_75 (by decide) (fun c75 => ?_) (fun c75 => ?_)
            · refine za_iconst (nI 0) dX3_readItem_82 (by decide) ?_
              exact za_zretG hM dX3_readItem_83 (by decide) (by unfold p_item; rw [if_neg hk, if_neg c24, if_neg c39, if_neg c54]; first | (rw [if_neg c68]; exact ⟨rfl, zJ_rf, hR, fun z => by cases z⟩) | (rw [if_pos c68]; exact ⟨congrArg (fun z => some (Value.int z)) (zb_1 c75).symm, hJ72, hRr72, hHr72⟩) | (rw [if_pos c68]; exact ⟨congrArg (fun z => some (Value.int z)) (zb_f c75).symm, hJ72, hRr72, hHr72⟩))
            · refine za_iconst (nI 1) dX3_readItem_78 (by decide) ?_
              refine za_goto 83 dX3_readItem_79 (by decide) ?_
              exact za_zretG hM dX3_readItem_83 (by decide) (by unfold p_item; rw [if_neg hk, if_neg c24, if_neg c39, if_neg c54]; first | (rw [if_neg c68]; exact ⟨rfl, zJ_rf, hR, fun z => by cases z⟩) | (rw [if_pos c68]; exact ⟨congrArg (fun z => some (Value.int z)) (zb_1 c75).symm, hJ72, hRr72, hHr72⟩) | (rw [if_pos c68]; exact ⟨congrArg (fun z => some (Value.int z)) (zb_f c75).symm, hJ72, hRr72, hHr72⟩))
        · refine za_aload_n dX3_readItem_57 rfl ?_
          refine za_callV (As := []) (rest := []) dX3_readItem_58 zm_X3_62 zw_X3_readBribe zv_X3_readBribe (r_readBribe hT hR hH) (by decide) rfl rfl rfl rfl (Nat.le_of_ble_eq_true rfl) rfl (fun r58 s58 hE58 => ?_)
          obtain ⟨rfl, hJ58, hRr58, hHr58⟩ := hE58
          show zAW _ _ _ _ _ _ _ (.int (zb _) :: []) _
          exact za_zretG hM dX3_readItem_61 zb_nar (by unfold p_item; rw [if_neg hk, if_neg c24, if_neg c39, if_pos c54]; exact ⟨rfl, hJ58, hRr58, hHr58⟩)
      · refine za_aload_n dX3_readItem_42 rfl ?_
        refine za_iconst (nI 1) dX3_readItem_43 (by decide) ?_
        refine za_callV (As := [.int (nI 1)]) (rest := []) dX3_readItem_44 zm_X3_55 zw_X3_readLying zv_X3_readLying (r_readLying hT hR hH (side := 1) (by decide)) (by decide) rfl rfl rfl rfl (Nat.le_of_ble_eq_true rfl) rfl (fun r44 s44 hE44 => ?_)
        obtain ⟨rfl, hJ44, hRr44, hHr44⟩ := hE44
        show zAW _ _ _ _ _ _ _ (.int (zb _) :: []) _
        exact za_zretG hM dX3_readItem_47 zb_nar (by unfold p_item; rw [if_neg hk, if_neg c24, if_pos c39]; exact ⟨rfl, hJ44, hRr44, hHr44⟩)
    · refine za_aload_n dX3_readItem_27 rfl ?_
      refine za_iconst (nI 0) dX3_readItem_28 (by decide) ?_
      refine za_callV (As := [.int (nI 0)]) (rest := []) dX3_readItem_29 zm_X3_55 zw_X3_readLying zv_X3_readLying (r_readLying hT hR hH (side := 0) (by decide)) (by decide) rfl rfl rfl rfl (Nat.le_of_ble_eq_true rfl) rfl (fun r29 s29 hE29 => ?_)
      obtain ⟨rfl, hJ29, hRr29, hHr29⟩ := hE29
      show zAW _ _ _ _ _ _ _ (.int (zb _) :: []) _
      exact za_zretG hM dX3_readItem_32 zb_nar (by unfold p_item; rw [if_neg hk, if_pos c24]; exact ⟨rfl, hJ29, hRr29, hHr29⟩)
