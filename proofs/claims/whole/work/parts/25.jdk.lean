def zTc (i j : Nat) : Int32 := (zTby.getD i []).getD j 0
def zTl (i : Nat) : Nat := zTlen.getD i 0

theorem za_ldcS {g : zG} {C : zC} {dd : Nat} {cc : ByteArray} {pc : Nat} {lv : List (Option Value)} {st : List Value} {σ : zSto} {i : Nat}  {idx : Nat} (hd : decode cc pc = .ok (.ldc idx, 2)) (hi : i < 12) (hk : zTk.getD i 0 = idx) (k : zAW g C dd cc RX3 (pc + 2) lv (.ref (zsk g i) :: st) σ) : zAW g C dd cc RX3 pc lv st σ := by
  obtain ⟨p, l, e, R, s, m, args, below, meth, c, nL, A, cells, slots, Q⟩ := C
  intro ok H locs ls hP hS hL
  subst hk
  exact va_ldcS ok.1 ok.2.1 ok.2.2.2.1 (ok.2.2.2.2.2.2.2.1.2.2.2.2.2 i hi) hd (k ok H locs ls hP hS hL)
theorem za_getSc {g : zG} {C : zC} {dd : Nat} {cc : ByteArray} {own : String} {pc : Nat} {lv : List (Option Value)} {st : List Value} {σ : zSto} {i : Nat}  {idx : Nat} (hd : decode cc pc = .ok (.getfield idx, 3)) (hw : Cond.fieldLink own idx "java/lang/String" "coder" "B" ∈ lw_g) (hi : i < 12) (k : zAW g C dd cc own (pc + 3) lv (.int 0 :: st) σ) : zAW g C dd cc own pc lv (.ref (zsk g i) :: st) σ := by
  obtain ⟨p, l, e, R, s, m, args, below, meth, c, nL, A, cells, slots, Q⟩ := C
  intro ok H locs ls hP hS hL
  exact vk_getf ok.1 ok.2.1 (ok.2.2.2.2.2.2.2.1.2.2.2.2.1.1 i hi).2.1 hS ok.2.2.2.1 (ok.2.2.2.2.1 _ hw) (fun _ h => h) hd (k ok H locs ls hP hS hL)
theorem za_getSv {g : zG} {C : zC} {dd : Nat} {cc : ByteArray} {own : String} {pc : Nat} {lv : List (Option Value)} {st : List Value} {σ : zSto} {i : Nat}  {idx : Nat} (hd : decode cc pc = .ok (.getfield idx, 3)) (hw : Cond.fieldLink own idx "java/lang/String" "value" "[B" ∈ lw_g) (hi : i < 12) (k : zAW g C dd cc own (pc + 3) lv (.ref (zsv g i) :: st) σ) : zAW g C dd cc own pc lv (.ref (zsk g i) :: st) σ := by
  obtain ⟨p, l, e, R, s, m, args, below, meth, c, nL, A, cells, slots, Q⟩ := C
  intro ok H locs ls hP hS hL
  exact vk_getf ok.1 ok.2.1 (ok.2.2.2.2.2.2.2.1.2.2.2.2.1.1 i hi).2.2.1 hS ok.2.2.2.1 (ok.2.2.2.2.1 _ hw) (fun _ h => h) hd (k ok H locs ls hP hS hL)
theorem za_getC {g : zG} {C : zC} {dd : Nat} {cc : ByteArray} {own : String} {pc : Nat} {lv : List (Option Value)} {st : List Value} {σ : zSto}  {idx : Nat} (hd : decode cc pc = .ok (.getstatic idx, 3)) (hw : Cond.fieldLink own idx "java/lang/String" "COMPACT_STRINGS" "Z" ∈ lw_g) (k : zAW g C dd cc own (pc + 3) lv (.int 1 :: st) σ) : zAW g C dd cc own pc lv st σ := by
  obtain ⟨p, l, e, R, s, m, args, below, meth, c, nL, A, cells, slots, Q⟩ := C
  intro ok H locs ls hP hS hL
  exact va_gets ok.1 ok.2.1 ok.2.2.2.2.2.2.2.1.2.2.1 hS ok.2.2.2.1 (ok.2.2.2.2.1 _ hw) (fun _ h => h) hd (k ok H locs ls hP hS hL)
theorem za_getQ {g : zG} {C : zC} {dd : Nat} {cc : ByteArray} {own : String} {pc : Nat} {lv : List (Option Value)} {st : List Value} {σ : zSto}  {idx : Nat} (hd : decode cc pc = .ok (.getstatic idx, 3)) (hw : Cond.fieldLink own idx "jdk/internal/util/Preconditions" "SIOOBE_FORMATTER" "Ljava/util/function/BiFunction;" ∈ lw_g) (kn : zAW g C dd cc own (pc + 3) lv (.null :: st) σ) (kr : ∀ t : Nat, zAW g C dd cc own (pc + 3) lv (.ref t :: st) σ) : zAW g C dd cc own pc lv st σ := by
  obtain ⟨p, l, e, R, s, m, args, below, meth, c, nL, A, cells, slots, Q⟩ := C
  intro ok H locs ls hP hS hL
  rcases ok.2.2.2.2.2.2.2.1.2.2.2.1 with hz | ⟨t, hz⟩
  · exact va_gets ok.1 ok.2.1 hz hS ok.2.2.2.1 (ok.2.2.2.2.1 _ hw) (fun _ h => h) hd (kn ok H locs ls hP hS hL)
  · exact va_gets ok.1 ok.2.1 hz hS ok.2.2.2.1 (ok.2.2.2.2.1 _ hw) (fun _ h => h) hd (kr t ok H locs ls hP hS hL)
theorem za_lenS {g : zG} {C : zC} {dd : Nat} {cc : ByteArray} {own : String} {pc : Nat} {lv : List (Option Value)} {st : List Value} {σ : zSto} {i : Nat}  (hd : decode cc pc = .ok (.arraylength, 1)) (hi : i < 12) (k : zAW g C dd cc own (pc + 1) lv (.int (nI (zTl i)) :: st) σ) : zAW g C dd cc own pc lv (.ref (zsv g i) :: st) σ := by
  obtain ⟨p, l, e, R, s, m, args, below, meth, c, nL, A, cells, slots, Q⟩ := C
  intro ok H locs ls hP hS hL
  exact va_tlen ok.1 ok.2.1 (ok.2.2.2.2.2.2.2.1.2.2.2.2.1.1 i hi).2.2.2 hS rfl hd (k ok H locs ls hP hS hL)
theorem zTl_8 : ∀ i, i < 12 → zTl i ≤ 8 := by decide +kernel
theorem za_ldS {g : zG} {C : zC} {dd : Nat} {cc : ByteArray} {own : String} {pc : Nat} {lv : List (Option Value)} {st : List Value} {σ : zSto} {i : Nat}  {j : Nat} (hd : decode cc pc = .ok (.baload, 1)) (hi : i < 12) (hj : j < zTl i) (k : zAW g C dd cc own (pc + 1) lv (.int (zTc i j) :: st) σ) : zAW g C dd cc own pc lv (.int (nI j) :: .ref (zsv g i) :: st) σ := by
  obtain ⟨p, l, e, R, s, m, args, below, meth, c, nL, A, cells, slots, Q⟩ := C
  intro ok H locs ls hP hS hL
  have h8 := zTl_8 i hi
  have hc : (nI j).toNatClampNeg = j := nI_clamp (by omega)
  exact va_tb ok.1 ok.2.1 (ok.2.2.2.2.2.2.2.1.2.2.2.2.1.1 i hi).2.2.2 hS (vp_in_nI hj (by have : zTlen.getD i 0 ≤ 8 := h8; omega)) (by rw [hc]; rfl) hd (k ok H locs ls hP hS hL)
theorem za_callVS {g : zG} {C : zC} {dd : Nat} {cc : ByteArray} {own : String} {pc : Nat} {lv : List (Option Value)} {st : List Value} {σ : zSto} {i : Nat}  {d n na idx : Nat} {y : MethodName} {cy : ByteArray} {ret : Option FieldType} {As rest : List Value} {E : Option Value → zSto → Prop} (hd : decode cc pc = .ok (.invokevirtual idx, 3)) (hm : Cond.methodLink own idx y ∈ lw_g) (hw : zCW y cy n ret na) (hv : zCV y) (hE : zEv g d y cy n ret (.ref (zsk g i) :: As) σ E) (hdd : d < dd) (hi : i < 12) (hn : y.cls = "java/lang/String") (hna : As.length = na) (hr : (rest.map fun v => v.category).sum ≤ 8) (hst : st = As.reverse ++ .ref (zsk g i) :: rest) (k : ∀ (r : Option Value) (σ' : zSto), E r σ' → zAW g C dd cc own (pc + 3) lv (r.toList ++ rest) σ') : zAW g C dd cc own pc lv st σ := by
  obtain ⟨p, l, e, R, s, m, args, below, meth, c, nL, A, cells, slots, Q⟩ := C
  intro ok H locs ls hP hS hL
  have ok' := ok
  obtain ⟨hx, hb, hml, hown, hts, hlocks, hK, hx2, hG, hA, hcs, hdR, hlR⟩ := ok'
  obtain ⟨w1, w2, w3, w4, w5, w6⟩ := hw
  have hcb : CallB R s args own idx y cy n ret (.code y cy n ret :: lw_g) (zrm d) 0 0 na := callB_of na hts (zgoodIn (fun _ h => h) w1) rfl rfl rfl (hts _ w2) (hts _ hm) ⟨w4, w5, w6⟩ ⟨by show d + 1 ≤ _; omega, by show 8 + (n + 11) + 36 * d ≤ _; omega⟩
  have hrecv : ∃ cellB : Cell, H[zsk g i]? = some cellB ∧ cellB.vm.isStatics = false ∧ s.vm.findClass y.cls = some cellB.cls := by
    rw [hn]
    exact vk_recv hx2.2.2.2.2.1 hi hS
  have hpv : PreV s H y.cls (zsk g i) (fun a U => a = (Value.ref (zsk g i) :: As).toArray ∧ zWd g σ U) As := ⟨zblind, hrecv, fun U hU hW => ⟨rfl, zWd_end hG hA hK hx2 hP hS hU hW⟩⟩
  have hcw : CallW R s args own y.cls idx y cy n ret (.code y cy n ret :: lw_g) (zrm d) 0 0 na := ⟨hcb, hts _ hv.1, hts _ hv.2⟩
  exact zrun ok hS hL (va_runV (As := As) (rest := rest) ⟨hx, hb, hml, hown, hts⟩ (hE l) hcw hpv rfl hna hL.1 hst (lv_room hr) hd ⟨by omega, by omega⟩) k

set_option maxRecDepth 20000 in
set_option maxHeartbeats 4000000 in
theorem j_ck_null {g : zG} {σ : zSto} {j n : Nat}  (hj : j < n) (hn : n ≤ 100) : zEd g 0 yJ3_checkIndex_8e157 cJ3_checkIndex_8e157 3 (some .int) [.int (nI j), .int (nI n), .null] σ (some (.int (nI j))) σ := by
  refine zev_intro (own := RJ3) (lv := [some (.int (nI j)), some (.int (nI n)), some (.null)]) (by decide +kernel) rfl (Nat.le_of_ble_eq_true rfl) rfl (fun C hM hN => ?_)
  refine za_iload_n dJ3_checkIndex_8e157_0 rfl ?_
  refine za_if_lt 9 dJ3_checkIndex_8e157_1 (by decide) (fun c1 => absurd c1 (nI_pos (by omega))) (fun c1 => ?_)
  refine za_iload_n dJ3_checkIndex_8e157_4 rfl ?_
  refine za_iload_n dJ3_checkIndex_8e157_5 rfl ?_
  refine za_icmp_lt 16 dJ3_checkIndex_8e157_6 (by decide) (fun c6 => ?_) (fun c6 => absurd (nI_lt hj (by omega)) c6)
  refine za_iload_n dJ3_checkIndex_8e157_16 rfl ?_
  exact za_iret hM dJ3_checkIndex_8e157_17 ⟨by rfl, by rfl⟩

set_option maxRecDepth 20000 in
set_option maxHeartbeats 4000000 in
theorem j_ck_ref {g : zG} {σ : zSto} {j n : Nat} {t : Nat} (hj : j < n) (hn : n ≤ 100) : zEd g 0 yJ3_checkIndex_8e157 cJ3_checkIndex_8e157 3 (some .int) [.int (nI j), .int (nI n), .ref t] σ (some (.int (nI j))) σ := by
  refine zev_intro (own := RJ3) (lv := [some (.int (nI j)), some (.int (nI n)), some (.ref t)]) (by decide +kernel) rfl (Nat.le_of_ble_eq_true rfl) rfl (fun C hM hN => ?_)
  refine za_iload_n dJ3_checkIndex_8e157_0 rfl ?_
  refine za_if_lt 9 dJ3_checkIndex_8e157_1 (by decide) (fun c1 => absurd c1 (nI_pos (by omega))) (fun c1 => ?_)
  refine za_iload_n dJ3_checkIndex_8e157_4 rfl ?_
  refine za_iload_n dJ3_checkIndex_8e157_5 rfl ?_
  refine za_icmp_lt 16 dJ3_checkIndex_8e157_6 (by decide) (fun c6 => ?_) (fun c6 => absurd (nI_lt hj (by omega)) c6)
  refine za_iload_n dJ3_checkIndex_8e157_16 rfl ?_
  exact za_iret hM dJ3_checkIndex_8e157_17 ⟨by rfl, by rfl⟩

set_option maxRecDepth 20000 in
set_option maxHeartbeats 4000000 in
theorem j_checkIndex {g : zG} {σ : zSto} {j n : Nat} (hj : j < n) (hn : n ≤ 100) : zEd g 1 yJ0_checkIndex_df160 cJ0_checkIndex_df160 2 none [.int (nI j), .int (nI n)] σ none σ := by
  refine zev_intro (own := RJ0) (lv := [some (.int (nI j)), some (.int (nI n))]) (by decide +kernel) rfl (Nat.le_of_ble_eq_true rfl) rfl (fun C hM hN => ?_)
  refine za_iload_n dJ0_checkIndex_df160_0 rfl ?_
  refine za_iload_n dJ0_checkIndex_df160_1 rfl ?_
  refine za_getQ dJ0_checkIndex_df160_2 zg_J0_1053 ?_ (fun t => ?_)
  · refine za_cS3 dJ0_checkIndex_df160_5 zm_J0_1059 zw_J3_checkIndex_8e157 zs_J3_checkIndex_8e157 (j_ck_null hj hn) (by decide) (Nat.le_of_ble_eq_true rfl) ?_
    refine za_pop dJ0_checkIndex_df160_8 rfl ?_
    exact za_vret hM dJ0_checkIndex_df160_9 ⟨rfl, rfl⟩
  · refine za_cS3 dJ0_checkIndex_df160_5 zm_J0_1059 zw_J3_checkIndex_8e157 zs_J3_checkIndex_8e157 (j_ck_ref hj hn) (by decide) (Nat.le_of_ble_eq_true rfl) ?_
    refine za_pop dJ0_checkIndex_df160_8 rfl ?_
    exact za_vret hM dJ0_checkIndex_df160_9 ⟨rfl, rfl⟩

theorem zTc_ch : ∀ i, i < 12 → ∀ j, j < 8 → ((zTc i j &&& nI 255).toUInt32 % 65536).toInt32 = zTc i j ∧ narrow .char (.int (zTc i j)) = .int (zTc i j) := by decide +kernel

set_option maxRecDepth 20000 in
set_option maxHeartbeats 4000000 in
theorem j_latin {g : zG} {σ : zSto} {i j : Nat} (hi : i < 12) (hj : j < zTl i) : zEd g 2 yJ1_charAt_3b067 cJ1_charAt_3b067 2 (some .char) [.ref (zsv g i), .int (nI j)] σ (some (.int (zTc i j))) σ := by
  refine zev_intro (own := RJ1) (lv := [some (.ref (zsv g i)), some (.int (nI j))]) (by decide +kernel) rfl (Nat.le_of_ble_eq_true rfl) rfl (fun C hM hN => ?_)
  have h8 := zTl_8 i hi
  refine za_iload_n dJ1_charAt_3b067_0 rfl ?_
  refine za_aload_n dJ1_charAt_3b067_1 rfl ?_
  refine za_lenS dJ1_charAt_3b067_2 hi ?_
  refine za_cS2v dJ1_charAt_3b067_3 zm_J1_9 zw_J0_checkIndex_df160 zs_J0_checkIndex_df160 (j_checkIndex hj (by omega)) (by decide) (Nat.le_of_ble_eq_true rfl) ?_
  refine za_aload_n dJ1_charAt_3b067_6 rfl ?_
  refine za_iload_n dJ1_charAt_3b067_7 rfl ?_
  refine za_ldS dJ1_charAt_3b067_8 hi hj ?_
  refine za_sipush (nI 255) dJ1_charAt_3b067_9 (by decide) ?_
  refine za_iand dJ1_charAt_3b067_12 ?_
  refine za_i2c dJ1_charAt_3b067_13 ?_
  rw [(zTc_ch i hi j (by omega)).1]
  exact za_zretG hM dJ1_charAt_3b067_14 (zTc_ch i hi j (by omega)).2 ⟨rfl, rfl⟩

set_option maxRecDepth 20000 in
set_option maxHeartbeats 4000000 in
theorem j_isLatin1 {g : zG} {σ : zSto} {i : Nat} (hi : i < 12) : zEd g 0 yJ0_isLatin1_aae02 cJ0_isLatin1_aae02 1 (some .boolean) [.ref (zsk g i)] σ (some (.int (nI 1))) σ := by
  refine zev_intro (own := RJ0) (lv := [some (.ref (zsk g i))]) (by decide +kernel) rfl (Nat.le_of_ble_eq_true rfl) rfl (fun C hM hN => ?_)
  refine za_getC dJ0_isLatin1_aae02_0 zg_J0_38 ?_
  refine za_if_eq 17 dJ0_isLatin1_aae02_3 (by decide) (fun c3 => absurd c3 (by decide)) (fun c3 => ?_)
  refine za_aload_n dJ0_isLatin1_aae02_6 rfl ?_
  refine za_getSc dJ0_isLatin1_aae02_7 zg_J0_15 hi ?_
  refine za_if_ne 17 dJ0_isLatin1_aae02_10 (by decide) (fun c10 => absurd rfl c10) (fun c10 => ?_)
  refine za_iconst (nI 1) dJ0_isLatin1_aae02_13 (by decide) ?_
  refine za_goto 18 dJ0_isLatin1_aae02_14 (by decide) ?_
  exact za_zretG hM dJ0_isLatin1_aae02_18 (by decide) ⟨rfl, rfl⟩

set_option maxRecDepth 20000 in
set_option maxHeartbeats 4000000 in
theorem j_coder {g : zG} {σ : zSto} {i : Nat} (hi : i < 12) : zEd g 0 yJ0_coder_7d493 cJ0_coder_7d493 1 (some .byte) [.ref (zsk g i)] σ (some (.int 0)) σ := by
  refine zev_intro (own := RJ0) (lv := [some (.ref (zsk g i))]) (by decide +kernel) rfl (Nat.le_of_ble_eq_true rfl) rfl (fun C hM hN => ?_)
  refine za_getC dJ0_coder_7d493_0 zg_J0_38 ?_
  refine za_if_eq 13 dJ0_coder_7d493_3 (by decide) (fun c3 => absurd c3 (by decide)) (fun c3 => ?_)
  refine za_aload_n dJ0_coder_7d493_6 rfl ?_
  refine za_getSc dJ0_coder_7d493_7 zg_J0_15 hi ?_
  refine za_goto 14 dJ0_coder_7d493_10 (by decide) ?_
  exact za_zretG hM dJ0_coder_7d493_14 (by decide) ⟨rfl, rfl⟩

set_option maxRecDepth 20000 in
set_option maxHeartbeats 4000000 in
theorem j_length {g : zG} {σ : zSto} {i : Nat} (hi : i < 12) : zEd g 1 yJ0_length_8abf5 cJ0_length_8abf5 1 (some .int) [.ref (zsk g i)] σ (some (.int (nI (zTl i)))) σ := by
  refine zev_intro (own := RJ0) (lv := [some (.ref (zsk g i))]) (by decide +kernel) rfl (Nat.le_of_ble_eq_true rfl) rfl (fun C hM hN => ?_)
  have h8 := zTl_8 i hi
  refine za_aload_n dJ0_length_8abf5_0 rfl ?_
  refine za_getSv dJ0_length_8abf5_1 zg_J0_9 hi ?_
  refine za_lenS dJ0_length_8abf5_4 hi ?_
  refine za_aload_n dJ0_length_8abf5_5 rfl ?_
  refine za_callVS (As := []) (rest := [.int (nI (zTl i))]) dJ0_length_8abf5_6 zm_J0_335 zw_J0_coder_7d493 zv_J0_coder_7d493 (j_coder hi) (by decide) hi rfl rfl (Nat.le_of_ble_eq_true rfl) rfl (fun r1 s1 hE => ?_)
  obtain ⟨rfl, rfl⟩ := hE
  show zAW _ _ _ _ _ _ _ [.int 0, .int (nI (zTl i))] _
  refine za_ishr dJ0_length_8abf5_9 ?_
  rw [sc_shr0 (by omega)]
  exact za_iret hM dJ0_length_8abf5_10 ⟨rfl, rfl⟩

set_option maxRecDepth 20000 in
set_option maxHeartbeats 4000000 in
theorem j_charAt {g : zG} {σ : zSto} {i j : Nat} (hi : i < 12) (hj : j < zTl i) : zEd g 3 yJ0_charAt_5068e cJ0_charAt_5068e 2 (some .char) [.ref (zsk g i), .int (nI j)] σ (some (.int (zTc i j))) σ := by
  refine zev_intro (own := RJ0) (lv := [some (.ref (zsk g i)), some (.int (nI j))]) (by decide +kernel) rfl (Nat.le_of_ble_eq_true rfl) rfl (fun C hM hN => ?_)
  refine za_aload_n dJ0_charAt_5068e_0 rfl ?_
  refine za_callVS (As := []) (rest := []) dJ0_charAt_5068e_1 zm_J0_492 zw_J0_isLatin1_aae02 zv_J0_isLatin1_aae02 (j_isLatin1 hi) (by decide) hi rfl rfl (Nat.le_of_ble_eq_true rfl) rfl (fun r1 s1 hE => ?_)
  obtain ⟨rfl, rfl⟩ := hE
  show zAW _ _ _ _ _ _ _ [.int (nI 1)] _
  refine za_if_eq 16 dJ0_charAt_5068e_4 (by decide) (fun c4 => absurd c4 (by decide)) (fun c4 => ?_)
  refine za_aload_n dJ0_charAt_5068e_7 rfl ?_
  refine za_getSv dJ0_charAt_5068e_8 zg_J0_9 hi ?_
  refine za_iload_n dJ0_charAt_5068e_11 rfl ?_
  refine za_cS2 dJ0_charAt_5068e_12 zm_J0_495 zw_J1_charAt_3b067 zs_J1_charAt_3b067 (j_latin hi hj) (by decide) (Nat.le_of_ble_eq_true rfl) ?_
  exact za_zretG hM dJ0_charAt_5068e_15 (zTc_ch i hi j (by have := zTl_8 i hi; omega)).2 ⟨rfl, rfl⟩
