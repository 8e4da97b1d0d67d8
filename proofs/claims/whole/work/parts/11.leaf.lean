set_option maxRecDepth 20000 in
set_option maxHeartbeats 4000000 in
theorem e_isWithin {g : zG} {σ : zSto} (v a b : Int32) : zEd g 0 yX5_isWithin cX5_isWithin 3 (some .boolean) [.int v, .int a, .int b] σ (some (.int (zb (a ≤ v ∧ v ≤ b)))) σ := by
  refine zev_intro (own := RX5) (lv := [some (.int v), some (.int a), some (.int b)]) (by decide +kernel) rfl (Nat.le_of_ble_eq_true rfl) rfl (fun C hM hN => ?_)
  refine za_iload_n dX5_isWithin_0 rfl ?_
  refine za_iload_n dX5_isWithin_1 rfl ?_
  refine za_icmp_lt 14 dX5_isWithin_2 (by decide) (fun c2 => ?_) (fun c2 => ?_)
  · refine za_iconst (nI 0) dX5_isWithin_14 (by decide) ?_
    exact za_zretG hM dX5_isWithin_15 (by decide) ⟨by (first | rfl | exact congrArg (fun z => some (Value.int z)) (zb_1 (c := a ≤ v ∧ v ≤ b) ⟨Int32.not_lt.mp (by assumption), Int32.not_lt.mp (by assumption)⟩).symm | exact congrArg (fun z => some (Value.int z)) (zb_f (c := a ≤ v ∧ v ≤ b) (fun h => absurd h.1 (Int32.not_le.mpr (by assumption)))).symm | exact congrArg (fun z => some (Value.int z)) (zb_f (c := a ≤ v ∧ v ≤ b) (fun h => absurd h.2 (Int32.not_le.mpr (by assumption)))).symm), by (first | rfl | exact congrArg (fun z => some (Value.int z)) (zb_1 (c := a ≤ v ∧ v ≤ b) ⟨Int32.not_lt.mp (by assumption), Int32.not_lt.mp (by assumption)⟩).symm | exact congrArg (fun z => some (Value.int z)) (zb_f (c := a ≤ v ∧ v ≤ b) (fun h => absurd h.1 (Int32.not_le.mpr (by assumption)))).symm | exact congrArg (fun z => some (Value.int z)) (zb_f (c := a ≤ v ∧ v ≤ b) (fun h => absurd h.2 (Int32.not_le.mpr (by assumption)))).symm)⟩
  · refine za_iload_n dX5_isWithin_5 rfl ?_
    refine za_iload_n dX5_isWithin_6 rfl ?_
    refine za_icmp_gt 14 dX5_isWithin_7 (by decide) (fun c7 => ?_) (fun c7 => ?_)
    · refine za_iconst (nI 0) dX5_isWithin_14 (by decide) ?_
      exact za_zretG hM dX5_isWithin_15 (by decide) ⟨by (first | rfl | exact congrArg (fun z => some (Value.int z)) (zb_1 (c := a ≤ v ∧ v ≤ b) ⟨Int32.not_lt.mp (by assumption), Int32.not_lt.mp (by assumption)⟩).symm | exact congrArg (fun z => some (Value.int z)) (zb_f (c := a ≤ v ∧ v ≤ b) (fun h => absurd h.1 (Int32.not_le.mpr (by assumption)))).symm | exact congrArg (fun z => some (Value.int z)) (zb_f (c := a ≤ v ∧ v ≤ b) (fun h => absurd h.2 (Int32.not_le.mpr (by assumption)))).symm), by (first | rfl | exact congrArg (fun z => some (Value.int z)) (zb_1 (c := a ≤ v ∧ v ≤ b) ⟨Int32.not_lt.mp (by assumption), Int32.not_lt.mp (by assumption)⟩).symm | exact congrArg (fun z => some (Value.int z)) (zb_f (c := a ≤ v ∧ v ≤ b) (fun h => absurd h.1 (Int32.not_le.mpr (by assumption)))).symm | exact congrArg (fun z => some (Value.int z)) (zb_f (c := a ≤ v ∧ v ≤ b) (fun h => absurd h.2 (Int32.not_le.mpr (by assumption)))).symm)⟩
    · refine za_iconst (nI 1) dX5_isWithin_10 (by decide) ?_
      refine za_goto 15 dX5_isWithin_11 (by decide) ?_
      exact za_zretG hM dX5_isWithin_15 (by decide) ⟨by (first | rfl | exact congrArg (fun z => some (Value.int z)) (zb_1 (c := a ≤ v ∧ v ≤ b) ⟨Int32.not_lt.mp (by assumption), Int32.not_lt.mp (by assumption)⟩).symm | exact congrArg (fun z => some (Value.int z)) (zb_f (c := a ≤ v ∧ v ≤ b) (fun h => absurd h.1 (Int32.not_le.mpr (by assumption)))).symm | exact congrArg (fun z => some (Value.int z)) (zb_f (c := a ≤ v ∧ v ≤ b) (fun h => absurd h.2 (Int32.not_le.mpr (by assumption)))).symm), by (first | rfl | exact congrArg (fun z => some (Value.int z)) (zb_1 (c := a ≤ v ∧ v ≤ b) ⟨Int32.not_lt.mp (by assumption), Int32.not_lt.mp (by assumption)⟩).symm | exact congrArg (fun z => some (Value.int z)) (zb_f (c := a ≤ v ∧ v ≤ b) (fun h => absurd h.1 (Int32.not_le.mpr (by assumption)))).symm | exact congrArg (fun z => some (Value.int z)) (zb_f (c := a ≤ v ∧ v ≤ b) (fun h => absurd h.2 (Int32.not_le.mpr (by assumption)))).symm)⟩

set_option maxRecDepth 20000 in
set_option maxHeartbeats 4000000 in
theorem e_isQuestion {g : zG} {σ : zSto} (v : Int32) : zEd g 1 yX5_isQuestion cX5_isQuestion 1 (some .boolean) [.int v] σ (some (.int (zb (nI 0 ≤ v ∧ v ≤ nI 5)))) σ := by
  refine zev_intro (own := RX5) (lv := [some (.int v)]) (by decide +kernel) rfl (Nat.le_of_ble_eq_true rfl) rfl (fun C hM hN => ?_)
  refine za_iload_n dX5_isQuestion_0 rfl ?_
  refine za_iconst (nI 0) dX5_isQuestion_1 (by decide) ?_
  refine za_iconst (nI 5) dX5_isQuestion_2 (by decide) ?_
  refine za_cS3 dX5_isQuestion_3 zm_X5_75 zw_X5_isWithin zs_X5_isWithin (e_isWithin _ _ _) (by decide) (Nat.le_of_ble_eq_true rfl) ?_
  exact za_zretG hM dX5_isQuestion_6 zb_nar ⟨by (first | rfl | (simp [zb, *]; done)), by (first | rfl | (simp [zb, *]; done))⟩

set_option maxRecDepth 20000 in
set_option maxHeartbeats 4000000 in
theorem e_isSide {g : zG} {σ : zSto} (v : Int32) : zEd g 1 yX5_isSide cX5_isSide 1 (some .boolean) [.int v] σ (some (.int (zb (nI 0 ≤ v ∧ v ≤ nI 1)))) σ := by
  refine zev_intro (own := RX5) (lv := [some (.int v)]) (by decide +kernel) rfl (Nat.le_of_ble_eq_true rfl) rfl (fun C hM hN => ?_)
  refine za_iload_n dX5_isSide_0 rfl ?_
  refine za_iconst (nI 0) dX5_isSide_1 (by decide) ?_
  refine za_iconst (nI 1) dX5_isSide_2 (by decide) ?_
  refine za_cS3 dX5_isSide_3 zm_X5_75 zw_X5_isWithin zs_X5_isWithin (e_isWithin _ _ _) (by decide) (Nat.le_of_ble_eq_true rfl) ?_
  exact za_zretG hM dX5_isSide_6 zb_nar ⟨by (first | rfl | (simp [zb, *]; done)), by (first | rfl | (simp [zb, *]; done))⟩

set_option maxRecDepth 20000 in
set_option maxHeartbeats 4000000 in
theorem e_isKind {g : zG} {σ : zSto} (v : Int32) : zEd g 1 yX5_isKind cX5_isKind 1 (some .boolean) [.int v] σ (some (.int (zb (nI 0 ≤ v ∧ v ≤ nI 5)))) σ := by
  refine zev_intro (own := RX5) (lv := [some (.int v)]) (by decide +kernel) rfl (Nat.le_of_ble_eq_true rfl) rfl (fun C hM hN => ?_)
  refine za_iload_n dX5_isKind_0 rfl ?_
  refine za_iconst (nI 0) dX5_isKind_1 (by decide) ?_
  refine za_iconst (nI 5) dX5_isKind_2 (by decide) ?_
  refine za_cS3 dX5_isKind_3 zm_X5_75 zw_X5_isWithin zs_X5_isWithin (e_isWithin _ _ _) (by decide) (Nat.le_of_ble_eq_true rfl) ?_
  exact za_zretG hM dX5_isKind_6 zb_nar ⟨by (first | rfl | (simp [zb, *]; done)), by (first | rfl | (simp [zb, *]; done))⟩

set_option maxRecDepth 20000 in
set_option maxHeartbeats 4000000 in
theorem e_isSet {g : zG} {σ : zSto} (v : Int32) : zEd g 1 yX5_isSet cX5_isSet 1 (some .boolean) [.int v] σ (some (.int (zb (nI 0 ≤ v ∧ v ≤ nI 63)))) σ := by
  refine zev_intro (own := RX5) (lv := [some (.int v)]) (by decide +kernel) rfl (Nat.le_of_ble_eq_true rfl) rfl (fun C hM hN => ?_)
  refine za_iload_n dX5_isSet_0 rfl ?_
  refine za_iconst (nI 0) dX5_isSet_1 (by decide) ?_
  refine za_bipush (nI 63) dX5_isSet_2 (by decide) ?_
  refine za_cS3 dX5_isSet_4 zm_X5_75 zw_X5_isWithin zs_X5_isWithin (e_isWithin _ _ _) (by decide) (Nat.le_of_ble_eq_true rfl) ?_
  exact za_zretG hM dX5_isSet_7 zb_nar ⟨by (first | rfl | (simp [zb, *]; done)), by (first | rfl | (simp [zb, *]; done))⟩

set_option maxRecDepth 20000 in
set_option maxHeartbeats 4000000 in
theorem e_isPence {g : zG} {σ : zSto} (v : Int32) : zEd g 1 yX5_isPence cX5_isPence 1 (some .boolean) [.int v] σ (some (.int (zb (nI 0 ≤ v ∧ v ≤ nI 9999)))) σ := by
  refine zev_intro (own := RX5) (lv := [some (.int v)]) (by decide +kernel) rfl (Nat.le_of_ble_eq_true rfl) rfl (fun C hM hN => ?_)
  refine za_iload_n dX5_isPence_0 rfl ?_
  refine za_iconst (nI 0) dX5_isPence_1 (by decide) ?_
  refine za_sipush (nI 9999) dX5_isPence_2 (by decide) ?_
  refine za_cS3 dX5_isPence_5 zm_X5_75 zw_X5_isWithin zs_X5_isWithin (e_isWithin _ _ _) (by decide) (Nat.le_of_ble_eq_true rfl) ?_
  exact za_zretG hM dX5_isPence_8 zb_nar ⟨by (first | rfl | (simp [zb, *]; done)), by (first | rfl | (simp [zb, *]; done))⟩

set_option maxRecDepth 20000 in
set_option maxHeartbeats 4000000 in
theorem e_isSheet {g : zG} {σ : zSto} (v : Int32) : zEd g 1 yX5_isSheet cX5_isSheet 1 (some .boolean) [.int v] σ (some (.int (zb (nI 0 ≤ v ∧ v ≤ nI 3)))) σ := by
  refine zev_intro (own := RX5) (lv := [some (.int v)]) (by decide +kernel) rfl (Nat.le_of_ble_eq_true rfl) rfl (fun C hM hN => ?_)
  refine za_iload_n dX5_isSheet_0 rfl ?_
  refine za_iconst (nI 0) dX5_isSheet_1 (by decide) ?_
  refine za_iconst (nI 3) dX5_isSheet_2 (by decide) ?_
  refine za_cS3 dX5_isSheet_3 zm_X5_75 zw_X5_isWithin zs_X5_isWithin (e_isWithin _ _ _) (by decide) (Nat.le_of_ble_eq_true rfl) ?_
  exact za_zretG hM dX5_isSheet_6 zb_nar ⟨by (first | rfl | (simp [zb, *]; done)), by (first | rfl | (simp [zb, *]; done))⟩

def zmin (x y : Int32) : Int32 := if y < x then y else x
def zmax (x y : Int32) : Int32 := if x < y then y else x
theorem zmin_1 {x y : Int32} (h : y < x) : zmin x y = y := if_pos h
theorem zmin_0 {x y : Int32} (h : ¬ y < x) : zmin x y = x := if_neg h
theorem zmax_1 {x y : Int32} (h : x < y) : zmax x y = y := if_pos h
theorem zmax_0 {x y : Int32} (h : ¬ x < y) : zmax x y = x := if_neg h
/-- a number below n -/
def zlt (x : Int32) (n : Nat) : Prop := ∃ k, k < n ∧ x = nI k
theorem zlt6 {k : Nat} (h : k < 6) : k = 0 ∨ k = 1 ∨ k = 2 ∨ k = 3 ∨ k = 4 ∨ k = 5 := by omega
theorem zlt6' {x : Int32} (h : zlt x 6) : x = nI 0 ∨ x = nI 1 ∨ x = nI 2 ∨ x = nI 3 ∨ x = nI 4 ∨ x = nI 5 := by
  obtain ⟨k, hk, rfl⟩ := h
  obtain rfl | rfl | rfl | rfl | rfl | rfl := zlt6 hk <;> simp
theorem zinj {a b : Nat} (h : nI a = nI b) (ha : a < 1000000) (hb : b < 1000000) : a = b := (nI_eq (by omega) (by omega)).mp h
def p_earn (k : Int32) : Int32 := if k = nI 0 then nI 2 else if k = nI 1 then nI 3 else if k = nI 3 then nI 4 else nI 0
/-- what one of a kind would throw, with c pence -/
def p_wt (k c : Int32) : Int32 := if k = nI 1 then nI 1 + c / nI 20 else if k = nI 2 ∨ k = nI 5 then nI 0 else if k = nI 3 then nI 3 else if k = nI 4 then nI 2 * (nI 1 + c / nI 20) else nI 1
def p_thr (k c : Int32) : Int32 := zmin (p_wt k c) c
def p_div (k l r : Int32) : Int32 := if k = nI 2 then zmin (nI 2) (zmax l r) else if k = nI 5 then zmin (nI 2 + (l + r) / nI 10) (zmax l r) else nI 0
abbrev p_und (a b : Nat) : Prop := b = 0 ∨ a = b ∨ (a = 4 ∧ b = 1) ∨ (a = 5 ∧ b = 2)

theorem za_mmin {g : zG} {C : zC} {dd : Nat} {cc : ByteArray} {own : String} {pc idx : Nat} {lv : List (Option Value)} {rest : List Value} {σ : zSto} {x y : Int32} (hd : decode cc pc = .ok (.invokestatic idx, 3)) (hm : Cond.methodLink own idx yJ9_min_7cf53 ∈ lw_g) (hdd : 0 < dd) (hr : (rest.map fun v => v.category).sum ≤ 8) (k : zAW g C dd cc own (pc + 3) lv (.int (zmin x y) :: rest) σ) : zAW g C dd cc own pc lv (.int y :: .int x :: rest) σ := by
  obtain ⟨p, l, e, R, s, m, args, below, meth, c, nL, A, cells, slots, Q⟩ := C
  intro ok H locs ls hP hS hL
  have ok' := ok
  obtain ⟨hx, hb, hml, hown, hts, hlocks, hK, hx2, hG, hA, hcs, hdR, hlR⟩ := ok'
  exact va_mmin hx hb (hml.trans hL.1.symm) hown (hts _ hm) (hts _ zq_min.1) (hts _ zq_min.2.1) (hts _ zq_min.2.2) (by omega) (by omega) hcs.1 hcs.2 hd (k ok H locs ls hP hS hL)

theorem za_mmax {g : zG} {C : zC} {dd : Nat} {cc : ByteArray} {own : String} {pc idx : Nat} {lv : List (Option Value)} {rest : List Value} {σ : zSto} {x y : Int32} (hd : decode cc pc = .ok (.invokestatic idx, 3)) (hm : Cond.methodLink own idx yJ9_max_7cf53 ∈ lw_g) (hdd : 0 < dd) (hr : (rest.map fun v => v.category).sum ≤ 8) (k : zAW g C dd cc own (pc + 3) lv (.int (zmax x y) :: rest) σ) : zAW g C dd cc own pc lv (.int y :: .int x :: rest) σ := by
  obtain ⟨p, l, e, R, s, m, args, below, meth, c, nL, A, cells, slots, Q⟩ := C
  intro ok H locs ls hP hS hL
  have ok' := ok
  obtain ⟨hx, hb, hml, hown, hts, hlocks, hK, hx2, hG, hA, hcs, hdR, hlR⟩ := ok'
  exact va_mmax hx hb (hml.trans hL.1.symm) hown (hts _ hm) (hts _ zq_max.1) (hts _ zq_max.2.1) (hts _ zq_max.2.2) (by omega) (by omega) hcs.1 hcs.2 hd (k ok H locs ls hP hS hL)

set_option maxRecDepth 20000 in
set_option maxHeartbeats 4000000 in
theorem e_isUnder {g : zG} {σ : zSto} {a b : Nat} (ha : a < 6) (hb : b < 6) : zEd g 2 yX0_isUnder cX0_isUnder 4 (some .boolean) [.int (nI a), .int (nI b)] σ (some (.int (zb (p_und a b)))) σ := by
  refine zev_intro (own := RX0) (lv := [some (.int (nI a)), some (.int (nI b)), none, none]) (by decide +kernel) rfl (Nat.le_of_ble_eq_true rfl) rfl (fun C hM hN => ?_)
  obtain rfl | rfl | rfl | rfl | rfl | rfl := zlt6 ha
  · refine za_iload_n dX0_isUnder_0 rfl ?_
    refine za_istore_n (lv' := [_, _, _, _]) dX0_isUnder_1 hN (by decide) rfl ?_
    refine za_iconst (nI 0) dX0_isUnder_2 (by decide) ?_
    refine za_istore_n (lv' := [_, _, _, _]) dX0_isUnder_3 hN (by decide) rfl ?_
    refine za_iload_n dX0_isUnder_4 rfl ?_
    refine za_bipush (nI 6) dX0_isUnder_5 (by decide) ?_
    refine za_icmp_ge 36 dX0_isUnder_7 (by decide) (fun c7 => absurd c7 (by decide)) (fun c7 => ?_)
    refine za_iload_n dX0_isUnder_10 rfl ?_
    refine za_cN1 dX0_isUnder_11 zm_X0_9 zw_X5_isKind zs_X5_isKind (e_isKind _) (by decide) (Nat.le_of_ble_eq_true rfl) ?_
    refine za_if_eqB 36 dX0_isUnder_14 (by decide) (fun c14 => absurd (by decide) c14) (fun c14 => ?_)
    refine za_iload_n dX0_isUnder_17 rfl ?_
    refine za_iload_n dX0_isUnder_18 rfl ?_
    refine za_icmp_ne 24 dX0_isUnder_19 (by decide) (fun c19 => ?_) (fun c19 => ?_)
    · have n0 : ¬ b = 0 := fun h => c19 (by rw [h])
      refine za_getA dX0_isUnder_24 zg_X0_13 ?_
      refine za_iload_n dX0_isUnder_27 rfl ?_
      refine za_ldA dX0_isUnder_28 (by decide) ?_
      rw [show zAbove.getD 0 0 = (-1) from rfl]
      refine za_istore_n (lv' := [_, _, _, _]) dX0_isUnder_29 hN (by decide) rfl ?_
      refine za_iinc (nI 1) (lv' := [_, _, _, _]) dX0_isUnder_30 rfl hN (by decide) (by decide) rfl ?_
      refine za_goto 4 dX0_isUnder_33 (by decide) ?_
      refine za_iload_n dX0_isUnder_4 rfl ?_
      refine za_bipush (nI 6) dX0_isUnder_5 (by decide) ?_
      refine za_icmp_ge 36 dX0_isUnder_7 (by decide) (fun c7 => absurd c7 (by decide)) (fun c7 => ?_)
      refine za_iload_n dX0_isUnder_10 rfl ?_
      refine za_cN1 dX0_isUnder_11 zm_X0_9 zw_X5_isKind zs_X5_isKind (e_isKind _) (by decide) (Nat.le_of_ble_eq_true rfl) ?_
      refine za_if_eqB 36 dX0_isUnder_14 (by decide) (fun c14 => ?_) (fun c14 => absurd c14 (by decide))
      refine za_iconst (nI 0) dX0_isUnder_36 (by decide) ?_
      exact za_zretG hM dX0_isUnder_37 (by decide) ⟨congrArg (fun z => some (Value.int z)) (zb_f (by omega)).symm, rfl⟩
    · obtain rfl := zinj c19 (by decide) (by omega)
      refine za_iconst (nI 1) dX0_isUnder_22 (by decide) ?_
      exact za_zretG hM dX0_isUnder_23 (by decide) ⟨rfl, rfl⟩
  · refine za_iload_n dX0_isUnder_0 rfl ?_
    refine za_istore_n (lv' := [_, _, _, _]) dX0_isUnder_1 hN (by decide) rfl ?_
    refine za_iconst (nI 0) dX0_isUnder_2 (by decide) ?_
    refine za_istore_n (lv' := [_, _, _, _]) dX0_isUnder_3 hN (by decide) rfl ?_
    refine za_iload_n dX0_isUnder_4 rfl ?_
    refine za_bipush (nI 6) dX0_isUnder_5 (by decide) ?_
    refine za_icmp_ge 36 dX0_isUnder_7 (by decide) (fun c7 => absurd c7 (by decide)) (fun c7 => ?_)
    refine za_iload_n dX0_isUnder_10 rfl ?_
    refine za_cN1 dX0_isUnder_11 zm_X0_9 zw_X5_isKind zs_X5_isKind (e_isKind _) (by decide) (Nat.le_of_ble_eq_true rfl) ?_
    refine za_if_eqB 36 dX0_isUnder_14 (by decide) (fun c14 => absurd (by decide) c14) (fun c14 => ?_)
    refine za_iload_n dX0_isUnder_17 rfl ?_
    refine za_iload_n dX0_isUnder_18 rfl ?_
    refine za_icmp_ne 24 dX0_isUnder_19 (by decide) (fun c19 => ?_) (fun c19 => ?_)
    · have n1 : ¬ b = 1 := fun h => c19 (by rw [h])
      refine za_getA dX0_isUnder_24 zg_X0_13 ?_
      refine za_iload_n dX0_isUnder_27 rfl ?_
      refine za_ldA dX0_isUnder_28 (by decide) ?_
      rw [show zAbove.getD 1 0 = (nI 0) from rfl]
      refine za_istore_n (lv' := [_, _, _, _]) dX0_isUnder_29 hN (by decide) rfl ?_
      refine za_iinc (nI 1) (lv' := [_, _, _, _]) dX0_isUnder_30 rfl hN (by decide) (by decide) rfl ?_
      refine za_goto 4 dX0_isUnder_33 (by decide) ?_
      refine za_iload_n dX0_isUnder_4 rfl ?_
      refine za_bipush (nI 6) dX0_isUnder_5 (by decide) ?_
      refine za_icmp_ge 36 dX0_isUnder_7 (by decide) (fun c7 => absurd c7 (by decide)) (fun c7 => ?_)
      refine za_iload_n dX0_isUnder_10 rfl ?_
      refine za_cN1 dX0_isUnder_11 zm_X0_9 zw_X5_isKind zs_X5_isKind (e_isKind _) (by decide) (Nat.le_of_ble_eq_true rfl) ?_
      refine za_if_eqB 36 dX0_isUnder_14 (by decide) (fun c14 => absurd (by decide) c14) (fun c14 => ?_)
      refine za_iload_n dX0_isUnder_17 rfl ?_
      refine za_iload_n dX0_isUnder_18 rfl ?_
      refine za_icmp_ne 24 dX0_isUnder_19 (by decide) (fun c19 => ?_) (fun c19 => ?_)
      · have n0 : ¬ b = 0 := fun h => c19 (by rw [h])
        refine za_getA dX0_isUnder_24 zg_X0_13 ?_
        refine za_iload_n dX0_isUnder_27 rfl ?_
        refine za_ldA dX0_isUnder_28 (by decide) ?_
        rw [show zAbove.getD 0 0 = (-1) from rfl]
        refine za_istore_n (lv' := [_, _, _, _]) dX0_isUnder_29 hN (by decide) rfl ?_
        refine za_iinc (nI 2) (lv' := [_, _, _, _]) dX0_isUnder_30 rfl hN (by decide) (by decide) rfl ?_
        refine za_goto 4 dX0_isUnder_33 (by decide) ?_
        refine za_iload_n dX0_isUnder_4 rfl ?_
        refine za_bipush (nI 6) dX0_isUnder_5 (by decide) ?_
        refine za_icmp_ge 36 dX0_isUnder_7 (by decide) (fun c7 => absurd c7 (by decide)) (fun c7 => ?_)
        refine za_iload_n dX0_isUnder_10 rfl ?_
        refine za_cN1 dX0_isUnder_11 zm_X0_9 zw_X5_isKind zs_X5_isKind (e_isKind _) (by decide) (Nat.le_of_ble_eq_true rfl) ?_
        refine za_if_eqB 36 dX0_isUnder_14 (by decide) (fun c14 => ?_) (fun c14 => absurd c14 (by decide))
        refine za_iconst (nI 0) dX0_isUnder_36 (by decide) ?_
        exact za_zretG hM dX0_isUnder_37 (by decide) ⟨congrArg (fun z => some (Value.int z)) (zb_f (by omega)).symm, rfl⟩
      · obtain rfl := zinj c19 (by decide) (by omega)
        refine za_iconst (nI 1) dX0_isUnder_22 (by decide) ?_
        exact za_zretG hM dX0_isUnder_23 (by decide) ⟨rfl, rfl⟩
    · obtain rfl := zinj c19 (by decide) (by omega)
      refine za_iconst (nI 1) dX0_isUnder_22 (by decide) ?_
      exact za_zretG hM dX0_isUnder_23 (by decide) ⟨rfl, rfl⟩
  · refine za_iload_n dX0_isUnder_0 rfl ?_
    refine za_istore_n (lv' := [_, _, _, _]) dX0_isUnder_1 hN (by decide) rfl ?_
    refine za_iconst (nI 0) dX0_isUnder_2 (by decide) ?_
    refine za_istore_n (lv' := [_, _, _, _]) dX0_isUnder_3 hN (by decide) rfl ?_
    refine za_iload_n dX0_isUnder_4 rfl ?_
    refine za_bipush (nI 6) dX0_isUnder_5 (by decide) ?_
    refine za_icmp_ge 36 dX0_isUnder_7 (by decide) (fun c7 => absurd c7 (by decide)) (fun c7 => ?_)
    refine za_iload_n dX0_isUnder_10 rfl ?_
    refine za_cN1 dX0_isUnder_11 zm_X0_9 zw_X5_isKind zs_X5_isKind (e_isKind _) (by decide) (Nat.le_of_ble_eq_true rfl) ?_
    refine za_if_eqB 36 dX0_isUnder_14 (by decide) (fun c14 => absurd (by decide) c14) (fun c14 => ?_)
    refine za_iload_n dX0_isUnder_17 rfl ?_
    refine za_iload_n dX0_isUnder_18 rfl ?_
    refine za_icmp_ne 24 dX0_isUnder_19 (by decide) (fun c19 => ?_) (fun c19 => ?_)
    · have n2 : ¬ b = 2 := fun h => c19 (by rw [h])
      refine za_getA dX0_isUnder_24 zg_X0_13 ?_
      refine za_iload_n dX0_isUnder_27 rfl ?_
      refine za_ldA dX0_isUnder_28 (by decide) ?_
      rw [show zAbove.getD 2 0 = (nI 0) from rfl]
      refine za_istore_n (lv' := [_, _, _, _]) dX0_isUnder_29 hN (by decide) rfl ?_
      refine za_iinc (nI 1) (lv' := [_, _, _, _]) dX0_isUnder_30 rfl hN (by decide) (by decide) rfl ?_
      refine za_goto 4 dX0_isUnder_33 (by decide) ?_
      refine za_iload_n dX0_isUnder_4 rfl ?_
      refine za_bipush (nI 6) dX0_isUnder_5 (by decide) ?_
      refine za_icmp_ge 36 dX0_isUnder_7 (by decide) (fun c7 => absurd c7 (by decide)) (fun c7 => ?_)
      refine za_iload_n dX0_isUnder_10 rfl ?_
      refine za_cN1 dX0_isUnder_11 zm_X0_9 zw_X5_isKind zs_X5_isKind (e_isKind _) (by decide) (Nat.le_of_ble_eq_true rfl) ?_
      refine za_if_eqB 36 dX0_isUnder_14 (by decide) (fun c14 => absurd (by decide) c14) (fun c14 => ?_)
      refine za_iload_n dX0_isUnder_17 rfl ?_
      refine za_iload_n dX0_isUnder_18 rfl ?_
      refine za_icmp_ne 24 dX0_isUnder_19 (by decide) (fun c19 => ?_) (fun c19 => ?_)
      · have n0 : ¬ b = 0 := fun h => c19 (by rw [h])
        refine za_getA dX0_isUnder_24 zg_X0_13 ?_
        refine za_iload_n dX0_isUnder_27 rfl ?_
        refine za_ldA dX0_isUnder_28 (by decide) ?_
        rw [show zAbove.getD 0 0 = (-1) from rfl]
        refine za_istore_n (lv' := [_, _, _, _]) dX0_isUnder_29 hN (by decide) rfl ?_
        refine za_iinc (nI 2) (lv' := [_, _, _, _]) dX0_isUnder_30 rfl hN (by decide) (by decide) rfl ?_
        refine za_goto 4 dX0_isUnder_33 (by decide) ?_
        refine za_iload_n dX0_isUnder_4 rfl ?_
        refine za_bipush (nI 6) dX0_isUnder_5 (by decide) ?_
        refine za_icmp_ge 36 dX0_isUnder_7 (by decide) (fun c7 => absurd c7 (by decide)) (fun c7 => ?_)
        refine za_iload_n dX0_isUnder_10 rfl ?_
        refine za_cN1 dX0_isUnder_11 zm_X0_9 zw_X5_isKind zs_X5_isKind (e_isKind _) (by decide) (Nat.le_of_ble_eq_true rfl) ?_
        refine za_if_eqB 36 dX0_isUnder_14 (by decide) (fun c14 => ?_) (fun c14 => absurd c14 (by decide))
        refine za_iconst (nI 0) dX0_isUnder_36 (by decide) ?_
        exact za_zretG hM dX0_isUnder_37 (by decide) ⟨congrArg (fun z => some (Value.int z)) (zb_f (by omega)).symm, rfl⟩
      · obtain rfl := zinj c19 (by decide) (by omega)
        refine za_iconst (nI 1) dX0_isUnder_22 (by decide) ?_
        exact za_zretG hM dX0_isUnder_23 (by decide) ⟨rfl, rfl⟩
    · obtain rfl := zinj c19 (by decide) (by omega)
      refine za_iconst (nI 1) dX0_isUnder_22 (by decide) ?_
      exact za_zretG hM dX0_isUnder_23 (by decide) ⟨rfl, rfl⟩
  · refine za_iload_n dX0_isUnder_0 rfl ?_
    refine za_istore_n (lv' := [_, _, _, _]) dX0_isUnder_1 hN (by decide) rfl ?_
    refine za_iconst (nI 0) dX0_isUnder_2 (by decide) ?_
    refine za_istore_n (lv' := [_, _, _, _]) dX0_isUnder_3 hN (by decide) rfl ?_
    refine za_iload_n dX0_isUnder_4 rfl ?_
    refine za_bipush (nI 6) dX0_isUnder_5 (by decide) ?_
    refine za_icmp_ge 36 dX0_isUnder_7 (by decide) (fun c7 => absurd c7 (by decide)) (fun c7 => ?_)
    refine za_iload_n dX0_isUnder_10 rfl ?_
    refine za_cN1 dX0_isUnder_11 zm_X0_9 zw_X5_isKind zs_X5_isKind (e_isKind _) (by decide) (Nat.le_of_ble_eq_true rfl) ?_
    refine za_if_eqB 36 dX0_isUnder_14 (by decide) (fun c14 => absurd (by decide) c14) (fun c14 => ?_)
    refine za_iload_n dX0_isUnder_17 rfl ?_
    refine za_iload_n dX0_isUnder_18 rfl ?_
    refine za_icmp_ne 24 dX0_isUnder_19 (by decide) (fun c19 => ?_) (fun c19 => ?_)
    · have n3 : ¬ b = 3 := fun h => c19 (by rw [h])
      refine za_getA dX0_isUnder_24 zg_X0_13 ?_
      refine za_iload_n dX0_isUnder_27 rfl ?_
      refine za_ldA dX0_isUnder_28 (by decide) ?_
      rw [show zAbove.getD 3 0 = (nI 0) from rfl]
      refine za_istore_n (lv' := [_, _, _, _]) dX0_isUnder_29 hN (by decide) rfl ?_
      refine za_iinc (nI 1) (lv' := [_, _, _, _]) dX0_isUnder_30 rfl hN (by decide) (by decide) rfl ?_
      refine za_goto 4 dX0_isUnder_33 (by decide) ?_
      refine za_iload_n dX0_isUnder_4 rfl ?_
      refine za_bipush (nI 6) dX0_isUnder_5 (by decide) ?_
      refine za_icmp_ge 36 dX0_isUnder_7 (by decide) (fun c7 => absurd c7 (by decide)) (fun c7 => ?_)
      refine za_iload_n dX0_isUnder_10 rfl ?_
      refine za_cN1 dX0_isUnder_11 zm_X0_9 zw_X5_isKind zs_X5_isKind (e_isKind _) (by decide) (Nat.le_of_ble_eq_true rfl) ?_
      refine za_if_eqB 36 dX0_isUnder_14 (by decide) (fun c14 => absurd (by decide) c14) (fun c14 => ?_)
      refine za_iload_n dX0_isUnder_17 rfl ?_
      refine za_iload_n dX0_isUnder_18 rfl ?_
      refine za_icmp_ne 24 dX0_isUnder_19 (by decide) (fun c19 => ?_) (fun c19 => ?_)
      · have n0 : ¬ b = 0 := fun h => c19 (by rw [h])
        refine za_getA dX0_isUnder_24 zg_X0_13 ?_
        refine za_iload_n dX0_isUnder_27 rfl ?_
        refine za_ldA dX0_isUnder_28 (by decide) ?_
        rw [show zAbove.getD 0 0 = (-1) from rfl]
        refine za_istore_n (lv' := [_, _, _, _]) dX0_isUnder_29 hN (by decide) rfl ?_
        refine za_iinc (nI 2) (lv' := [_, _, _, _]) dX0_isUnder_30 rfl hN (by decide) (by decide) rfl ?_
        refine za_goto 4 dX0_isUnder_33 (by decide) ?_
        refine za_iload_n dX0_isUnder_4 rfl ?_
        refine za_bipush (nI 6) dX0_isUnder_5 (by decide) ?_
        refine za_icmp_ge 36 dX0_isUnder_7 (by decide) (fun c7 => absurd c7 (by decide)) (fun c7 => ?_)
        refine za_iload_n dX0_isUnder_10 rfl ?_
        refine za_cN1 dX0_isUnder_11 zm_X0_9 zw_X5_isKind zs_X5_isKind (e_isKind _) (by decide) (Nat.le_of_ble_eq_true rfl) ?_
        refine za_if_eqB 36 dX0_isUnder_14 (by decide) (fun c14 => ?_) (fun c14 => absurd c14 (by decide))
        refine za_iconst (nI 0) dX0_isUnder_36 (by decide) ?_
        exact za_zretG hM dX0_isUnder_37 (by decide) ⟨congrArg (fun z => some (Value.int z)) (zb_f (by omega)).symm, rfl⟩
      · obtain rfl := zinj c19 (by decide) (by omega)
        refine za_iconst (nI 1) dX0_isUnder_22 (by decide) ?_
        exact za_zretG hM dX0_isUnder_23 (by decide) ⟨rfl, rfl⟩
    · obtain rfl := zinj c19 (by decide) (by omega)
      refine za_iconst (nI 1) dX0_isUnder_22 (by decide) ?_
      exact za_zretG hM dX0_isUnder_23 (by decide) ⟨rfl, rfl⟩
  · refine za_iload_n dX0_isUnder_0 rfl ?_
    refine za_istore_n (lv' := [_, _, _, _]) dX0_isUnder_1 hN (by decide) rfl ?_
    refine za_iconst (nI 0) dX0_isUnder_2 (by decide) ?_
    refine za_istore_n (lv' := [_, _, _, _]) dX0_isUnder_3 hN (by decide) rfl ?_
    refine za_iload_n dX0_isUnder_4 rfl ?_
    refine za_bipush (nI 6) dX0_isUnder_5 (by decide) ?_
    refine za_icmp_ge 36 dX0_isUnder_7 (by decide) (fun c7 => absurd c7 (by decide)) (fun c7 => ?_)
    refine za_iload_n dX0_isUnder_10 rfl ?_
    refine za_cN1 dX0_isUnder_11 zm_X0_9 zw_X5_isKind zs_X5_isKind (e_isKind _) (by decide) (Nat.le_of_ble_eq_true rfl) ?_
    refine za_if_eqB 36 dX0_isUnder_14 (by decide) (fun c14 => absurd (by decide) c14) (fun c14 => ?_)
    refine za_iload_n dX0_isUnder_17 rfl ?_
    refine za_iload_n dX0_isUnder_18 rfl ?_
    refine za_icmp_ne 24 dX0_isUnder_19 (by decide) (fun c19 => ?_) (fun c19 => ?_)
    · have n4 : ¬ b = 4 := fun h => c19 (by rw [h])
      refine za_getA dX0_isUnder_24 zg_X0_13 ?_
      refine za_iload_n dX0_isUnder_27 rfl ?_
      refine za_ldA dX0_isUnder_28 (by decide) ?_
      rw [show zAbove.getD 4 0 = (nI 1) from rfl]
      refine za_istore_n (lv' := [_, _, _, _]) dX0_isUnder_29 hN (by decide) rfl ?_
      refine za_iinc (nI 1) (lv' := [_, _, _, _]) dX0_isUnder_30 rfl hN (by decide) (by decide) rfl ?_
      refine za_goto 4 dX0_isUnder_33 (by decide) ?_
      refine za_iload_n dX0_isUnder_4 rfl ?_
      refine za_bipush (nI 6) dX0_isUnder_5 (by decide) ?_
      refine za_icmp_ge 36 dX0_isUnder_7 (by decide) (fun c7 => absurd c7 (by decide)) (fun c7 => ?_)
      refine za_iload_n dX0_isUnder_10 rfl ?_
      refine za_cN1 dX0_isUnder_11 zm_X0_9 zw_X5_isKind zs_X5_isKind (e_isKind _) (by decide) (Nat.le_of_ble_eq_true rfl) ?_
      refine za_if_eqB 36 dX0_isUnder_14 (by decide) (fun c14 => absurd (by decide) c14) (fun c14 => ?_)
      refine za_iload_n dX0_isUnder_17 rfl ?_
      refine za_iload_n dX0_isUnder_18 rfl ?_
      refine za_icmp_ne 24 dX0_isUnder_19 (by decide) (fun c19 => ?_) (fun c19 => ?_)
      · have n1 : ¬ b = 1 := fun h => c19 (by rw [h])
        refine za_getA dX0_isUnder_24 zg_X0_13 ?_
        refine za_iload_n dX0_isUnder_27 rfl ?_
        refine za_ldA dX0_isUnder_28 (by decide) ?_
        rw [show zAbove.getD 1 0 = (nI 0) from rfl]
        refine za_istore_n (lv' := [_, _, _, _]) dX0_isUnder_29 hN (by decide) rfl ?_
        refine za_iinc (nI 2) (lv' := [_, _, _, _]) dX0_isUnder_30 rfl hN (by decide) (by decide) rfl ?_
        refine za_goto 4 dX0_isUnder_33 (by decide) ?_
        refine za_iload_n dX0_isUnder_4 rfl ?_
        refine za_bipush (nI 6) dX0_isUnder_5 (by decide) ?_
        refine za_icmp_ge 36 dX0_isUnder_7 (by decide) (fun c7 => absurd c7 (by decide)) (fun c7 => ?_)
        refine za_iload_n dX0_isUnder_10 rfl ?_
        refine za_cN1 dX0_isUnder_11 zm_X0_9 zw_X5_isKind zs_X5_isKind (e_isKind _) (by decide) (Nat.le_of_ble_eq_true rfl) ?_
        refine za_if_eqB 36 dX0_isUnder_14 (by decide) (fun c14 => absurd (by decide) c14) (fun c14 => ?_)
        refine za_iload_n dX0_isUnder_17 rfl ?_
        refine za_iload_n dX0_isUnder_18 rfl ?_
        refine za_icmp_ne 24 dX0_isUnder_19 (by decide) (fun c19 => ?_) (fun c19 => ?_)
        · have n0 : ¬ b = 0 := fun h => c19 (by rw [h])
          refine za_getA dX0_isUnder_24 zg_X0_13 ?_
          refine za_iload_n dX0_isUnder_27 rfl ?_
          refine za_ldA dX0_isUnder_28 (by decide) ?_
          rw [show zAbove.getD 0 0 = (-1) from rfl]
          refine za_istore_n (lv' := [_, _, _, _]) dX0_isUnder_29 hN (by decide) rfl ?_
          refine za_iinc (nI 3) (lv' := [_, _, _, _]) dX0_isUnder_30 rfl hN (by decide) (by decide) rfl ?_
          refine za_goto 4 dX0_isUnder_33 (by decide) ?_
          refine za_iload_n dX0_isUnder_4 rfl ?_
          refine za_bipush (nI 6) dX0_isUnder_5 (by decide) ?_
          refine za_icmp_ge 36 dX0_isUnder_7 (by decide) (fun c7 => absurd c7 (by decide)) (fun c7 => ?_)
          refine za_iload_n dX0_isUnder_10 rfl ?_
          refine za_cN1 dX0_isUnder_11 zm_X0_9 zw_X5_isKind zs_X5_isKind (e_isKind _) (by decide) (Nat.le_of_ble_eq_true rfl) ?_
          refine za_if_eqB 36 dX0_isUnder_14 (by decide) (fun c14 => ?_) (fun c14 => absurd c14 (by decide))
          refine za_iconst (nI 0) dX0_isUnder_36 (by decide) ?_
          exact za_zretG hM dX0_isUnder_37 (by decide) ⟨congrArg (fun z => some (Value.int z)) (zb_f (by omega)).symm, rfl⟩
        · obtain rfl := zinj c19 (by decide) (by omega)
          refine za_iconst (nI 1) dX0_isUnder_22 (by decide) ?_
          exact za_zretG hM dX0_isUnder_23 (by decide) ⟨rfl, rfl⟩
      · obtain rfl := zinj c19 (by decide) (by omega)
        refine za_iconst (nI 1) dX0_isUnder_22 (by decide) ?_
        exact za_zretG hM dX0_isUnder_23 (by decide) ⟨rfl, rfl⟩
    · obtain rfl := zinj c19 (by decide) (by omega)
      refine za_iconst (nI 1) dX0_isUnder_22 (by decide) ?_
      exact za_zretG hM dX0_isUnder_23 (by decide) ⟨rfl, rfl⟩
  · refine za_iload_n dX0_isUnder_0 rfl ?_
    refine za_istore_n (lv' := [_, _, _, _]) dX0_isUnder_1 hN (by decide) rfl ?_
    refine za_iconst (nI 0) dX0_isUnder_2 (by decide) ?_
    refine za_istore_n (lv' := [_, _, _, _]) dX0_isUnder_3 hN (by decide) rfl ?_
    refine za_iload_n dX0_isUnder_4 rfl ?_
    refine za_bipush (nI 6) dX0_isUnder_5 (by decide) ?_
    refine za_icmp_ge 36 dX0_isUnder_7 (by decide) (fun c7 => absurd c7 (by decide)) (fun c7 => ?_)
    refine za_iload_n dX0_isUnder_10 rfl ?_
    refine za_cN1 dX0_isUnder_11 zm_X0_9 zw_X5_isKind zs_X5_isKind (e_isKind _) (by decide) (Nat.le_of_ble_eq_true rfl) ?_
    refine za_if_eqB 36 dX0_isUnder_14 (by decide) (fun c14 => absurd (by decide) c14) (fun c14 => ?_)
    refine za_iload_n dX0_isUnder_17 rfl ?_
    refine za_iload_n dX0_isUnder_18 rfl ?_
    refine za_icmp_ne 24 dX0_isUnder_19 (by decide) (fun c19 => ?_) (fun c19 => ?_)
    · have n5 : ¬ b = 5 := fun h => c19 (by rw [h])
      refine za_getA dX0_isUnder_24 zg_X0_13 ?_
      refine za_iload_n dX0_isUnder_27 rfl ?_
      refine za_ldA dX0_isUnder_28 (by decide) ?_
      rw [show zAbove.getD 5 0 = (nI 2) from rfl]
      refine za_istore_n (lv' := [_, _, _, _]) dX0_isUnder_29 hN (by decide) rfl ?_
      refine za_iinc (nI 1) (lv' := [_, _, _, _]) dX0_isUnder_30 rfl hN (by decide) (by decide) rfl ?_
      refine za_goto 4 dX0_isUnder_33 (by decide) ?_
      refine za_iload_n dX0_isUnder_4 rfl ?_
      refine za_bipush (nI 6) dX0_isUnder_5 (by decide) ?_
      refine za_icmp_ge 36 dX0_isUnder_7 (by decide) (fun c7 => absurd c7 (by decide)) (fun c7 => ?_)
      refine za_iload_n dX0_isUnder_10 rfl ?_
      refine za_cN1 dX0_isUnder_11 zm_X0_9 zw_X5_isKind zs_X5_isKind (e_isKind _) (by decide) (Nat.le_of_ble_eq_true rfl) ?_
      refine za_if_eqB 36 dX0_isUnder_14 (by decide) (fun c14 => absurd (by decide) c14) (fun c14 => ?_)
      refine za_iload_n dX0_isUnder_17 rfl ?_
      refine za_iload_n dX0_isUnder_18 rfl ?_
      refine za_icmp_ne 24 dX0_isUnder_19 (by decide) (fun c19 => ?_) (fun c19 => ?_)
      · have n2 : ¬ b = 2 := fun h => c19 (by rw [h])
        refine za_getA dX0_isUnder_24 zg_X0_13 ?_
        refine za_iload_n dX0_isUnder_27 rfl ?_
        refine za_ldA dX0_isUnder_28 (by decide) ?_
        rw [show zAbove.getD 2 0 = (nI 0) from rfl]
        refine za_istore_n (lv' := [_, _, _, _]) dX0_isUnder_29 hN (by decide) rfl ?_
        refine za_iinc (nI 2) (lv' := [_, _, _, _]) dX0_isUnder_30 rfl hN (by decide) (by decide) rfl ?_
        refine za_goto 4 dX0_isUnder_33 (by decide) ?_
        refine za_iload_n dX0_isUnder_4 rfl ?_
        refine za_bipush (nI 6) dX0_isUnder_5 (by decide) ?_
        refine za_icmp_ge 36 dX0_isUnder_7 (by decide) (fun c7 => absurd c7 (by decide)) (fun c7 => ?_)
        refine za_iload_n dX0_isUnder_10 rfl ?_
        refine za_cN1 dX0_isUnder_11 zm_X0_9 zw_X5_isKind zs_X5_isKind (e_isKind _) (by decide) (Nat.le_of_ble_eq_true rfl) ?_
        refine za_if_eqB 36 dX0_isUnder_14 (by decide) (fun c14 => absurd (by decide) c14) (fun c14 => ?_)
        refine za_iload_n dX0_isUnder_17 rfl ?_
        refine za_iload_n dX0_isUnder_18 rfl ?_
        refine za_icmp_ne 24 dX0_isUnder_19 (by decide) (fun c19 => ?_) (fun c19 => ?_)
        · have n0 : ¬ b = 0 := fun h => c19 (by rw [h])
          refine za_getA dX0_isUnder_24 zg_X0_13 ?_
          refine za_iload_n dX0_isUnder_27 rfl ?_
          refine za_ldA dX0_isUnder_28 (by decide) ?_
          rw [show zAbove.getD 0 0 = (-1) from rfl]
          refine za_istore_n (lv' := [_, _, _, _]) dX0_isUnder_29 hN (by decide) rfl ?_
          refine za_iinc (nI 3) (lv' := [_, _, _, _]) dX0_isUnder_30 rfl hN (by decide) (by decide) rfl ?_
          refine za_goto 4 dX0_isUnder_33 (by decide) ?_
          refine za_iload_n dX0_isUnder_4 rfl ?_
          refine za_bipush (nI 6) dX0_isUnder_5 (by decide) ?_
          refine za_icmp_ge 36 dX0_isUnder_7 (by decide) (fun c7 => absurd c7 (by decide)) (fun c7 => ?_)
          refine za_iload_n dX0_isUnder_10 rfl ?_
          refine za_cN1 dX0_isUnder_11 zm_X0_9 zw_X5_isKind zs_X5_isKind (e_isKind _) (by decide) (Nat.le_of_ble_eq_true rfl) ?_
          refine za_if_eqB 36 dX0_isUnder_14 (by decide) (fun c14 => ?_) (fun c14 => absurd c14 (by decide))
          refine za_iconst (nI 0) dX0_isUnder_36 (by decide) ?_
          exact za_zretG hM dX0_isUnder_37 (by decide) ⟨congrArg (fun z => some (Value.int z)) (zb_f (by omega)).symm, rfl⟩
        · obtain rfl := zinj c19 (by decide) (by omega)
          refine za_iconst (nI 1) dX0_isUnder_22 (by decide) ?_
          exact za_zretG hM dX0_isUnder_23 (by decide) ⟨rfl, rfl⟩
      · obtain rfl := zinj c19 (by decide) (by omega)
        refine za_iconst (nI 1) dX0_isUnder_22 (by decide) ?_
        exact za_zretG hM dX0_isUnder_23 (by decide) ⟨rfl, rfl⟩
    · obtain rfl := zinj c19 (by decide) (by omega)
      refine za_iconst (nI 1) dX0_isUnder_22 (by decide) ?_
      exact za_zretG hM dX0_isUnder_23 (by decide) ⟨rfl, rfl⟩

theorem p_earn_at : ∀ k, k < 6 → zEarn.getD k 0 = p_earn (nI k) := by decide +kernel

set_option maxRecDepth 20000 in
set_option maxHeartbeats 4000000 in
theorem e_earns {g : zG} {σ : zSto} {x : Int32} (hx : zlt x 6) : zEd g 2 yX0_earns cX0_earns 1 (some .int) [.int x] σ (some (.int (p_earn x))) σ := by
  refine zev_intro (own := RX0) (lv := [some (.int x)]) (by decide +kernel) rfl (Nat.le_of_ble_eq_true rfl) rfl (fun C hM hN => ?_)
  obtain ⟨k, hk, rfl⟩ := hx
  refine za_iload_n dX0_earns_0 rfl ?_
  refine za_cN1 dX0_earns_1 zm_X0_9 zw_X5_isKind zs_X5_isKind (e_isKind _) (by decide) (Nat.le_of_ble_eq_true rfl) ?_
  refine za_if_eqB 15 dX0_earns_4 (by decide) (fun c4 => absurd ⟨nI_le (Nat.zero_le k) (by omega), nI_le (by omega) (by omega)⟩ c4) (fun c4 => ?_)
  refine za_getE dX0_earns_7 zg_X0_19 ?_
  refine za_iload_n dX0_earns_10 rfl ?_
  refine za_ldE dX0_earns_11 hk ?_
  refine za_goto 16 dX0_earns_12 (by decide) ?_
  exact za_iret hM dX0_earns_16 ⟨congrArg (fun z => some (Value.int z)) (p_earn_at k hk), rfl⟩

set_option maxRecDepth 20000 in
set_option maxHeartbeats 4000000 in
theorem e_wouldThrow {g : zG} {σ : zSto} {x c : Int32} (hx : zlt x 6) : zEd g 0 yX0_wouldThrow cX0_wouldThrow 2 (some .int) [.int x, .int c] σ (some (.int (p_wt x c))) σ := by
  refine zev_intro (own := RX0) (lv := [some (.int x), some (.int c)]) (by decide +kernel) rfl (Nat.le_of_ble_eq_true rfl) rfl (fun C hM hN => ?_)
  refine za_iload_n dX0_wouldThrow_0 rfl ?_
  obtain rfl | rfl | rfl | rfl | rfl | rfl := zlt6' hx
  · refine za_tabO 56 dX0_wouldThrow_1 (by decide) (by decide) ?_
    refine za_iconst (nI 1) dX0_wouldThrow_56 (by decide) ?_
    exact za_iret hM dX0_wouldThrow_57 ⟨by rfl, by rfl⟩
  · refine za_tabK (35) 36 dX0_wouldThrow_1 (by decide) (by decide) (by decide) (by decide) ?_
    refine za_iconst (nI 1) dX0_wouldThrow_36 (by decide) ?_
    refine za_iload_n dX0_wouldThrow_37 rfl ?_
    refine za_bipush (nI 20) dX0_wouldThrow_38 (by decide) ?_
    refine za_idiv dX0_wouldThrow_40 (by decide) ?_
    refine za_iadd dX0_wouldThrow_41 ?_
    exact za_iret hM dX0_wouldThrow_42 ⟨by rfl, by rfl⟩
  · refine za_tabK (42) 43 dX0_wouldThrow_1 (by decide) (by decide) (by decide) (by decide) ?_
    refine za_iconst (nI 0) dX0_wouldThrow_43 (by decide) ?_
    exact za_iret hM dX0_wouldThrow_44 ⟨by rfl, by rfl⟩
  · refine za_tabK (44) 45 dX0_wouldThrow_1 (by decide) (by decide) (by decide) (by decide) ?_
    refine za_iconst (nI 3) dX0_wouldThrow_45 (by decide) ?_
    exact za_iret hM dX0_wouldThrow_46 ⟨by rfl, by rfl⟩
  · refine za_tabK (46) 47 dX0_wouldThrow_1 (by decide) (by decide) (by decide) (by decide) ?_
    refine za_iconst (nI 2) dX0_wouldThrow_47 (by decide) ?_
    refine za_iconst (nI 1) dX0_wouldThrow_48 (by decide) ?_
    refine za_iload_n dX0_wouldThrow_49 rfl ?_
    refine za_bipush (nI 20) dX0_wouldThrow_50 (by decide) ?_
    refine za_idiv dX0_wouldThrow_52 (by decide) ?_
    refine za_iadd dX0_wouldThrow_53 ?_
    refine za_imul dX0_wouldThrow_54 ?_
    exact za_iret hM dX0_wouldThrow_55 ⟨by rfl, by rfl⟩
  · refine za_tabK (42) 43 dX0_wouldThrow_1 (by decide) (by decide) (by decide) (by decide) ?_
    refine za_iconst (nI 0) dX0_wouldThrow_43 (by decide) ?_
    exact za_iret hM dX0_wouldThrow_44 ⟨by rfl, by rfl⟩

set_option maxRecDepth 20000 in
set_option maxHeartbeats 4000000 in
theorem e_throwsWith {g : zG} {σ : zSto} {x c : Int32} (hx : zlt x 6) : zEd g 1 yX0_throwsWith cX0_throwsWith 2 (some .int) [.int x, .int c] σ (some (.int (p_thr x c))) σ := by
  refine zev_intro (own := RX0) (lv := [some (.int x), some (.int c)]) (by decide +kernel) rfl (Nat.le_of_ble_eq_true rfl) rfl (fun C hM hN => ?_)
  refine za_iload_n dX0_throwsWith_0 rfl ?_
  refine za_iload_n dX0_throwsWith_1 rfl ?_
  refine za_cS2 dX0_throwsWith_2 zm_X0_22 zw_X0_wouldThrow zs_X0_wouldThrow (e_wouldThrow (by assumption)) (by decide) (Nat.le_of_ble_eq_true rfl) ?_
  refine za_iload_n dX0_throwsWith_5 rfl ?_
  refine za_mmin dX0_throwsWith_6 zm_X0_26 (by decide) (Nat.le_of_ble_eq_true rfl) ?_
  exact za_iret hM dX0_throwsWith_9 ⟨by rfl, by rfl⟩

set_option maxRecDepth 20000 in
set_option maxHeartbeats 4000000 in
theorem e_dives {g : zG} {σ : zSto} {x l r : Int32} (hx : zlt x 6) : zEd g 1 yX0_dives cX0_dives 3 (some .int) [.int x, .int l, .int r] σ (some (.int (p_div x l r))) σ := by
  refine zev_intro (own := RX0) (lv := [some (.int x), some (.int l), some (.int r)]) (by decide +kernel) rfl (Nat.le_of_ble_eq_true rfl) rfl (fun C hM hN => ?_)
  refine za_iload_n dX0_dives_0 rfl ?_
  obtain rfl | rfl | rfl | rfl | rfl | rfl := zlt6' hx
  · refine za_look (off := 54) 55 dX0_dives_1 (by decide) (by decide +kernel) (by decide) ?_
    refine za_iconst (nI 0) dX0_dives_55 (by decide) ?_
    exact za_iret hM dX0_dives_56 ⟨by rfl, by rfl⟩
  · refine za_look (off := 54) 55 dX0_dives_1 (by decide) (by decide +kernel) (by decide) ?_
    refine za_iconst (nI 0) dX0_dives_55 (by decide) ?_
    exact za_iret hM dX0_dives_56 ⟨by rfl, by rfl⟩
  · refine za_look (off := 27) 28 dX0_dives_1 (by decide) (by decide +kernel) (by decide) ?_
    refine za_iconst (nI 2) dX0_dives_28 (by decide) ?_
    refine za_iload_n dX0_dives_29 rfl ?_
    refine za_iload_n dX0_dives_30 rfl ?_
    refine za_mmax dX0_dives_31 zm_X0_31 (by decide) (Nat.le_of_ble_eq_true rfl) ?_
    refine za_mmin dX0_dives_34 zm_X0_26 (by decide) (Nat.le_of_ble_eq_true rfl) ?_
    exact za_iret hM dX0_dives_37 ⟨by rfl, by rfl⟩
  · refine za_look (off := 54) 55 dX0_dives_1 (by decide) (by decide +kernel) (by decide) ?_
    refine za_iconst (nI 0) dX0_dives_55 (by decide) ?_
    exact za_iret hM dX0_dives_56 ⟨by rfl, by rfl⟩
  · refine za_look (off := 54) 55 dX0_dives_1 (by decide) (by decide +kernel) (by decide) ?_
    refine za_iconst (nI 0) dX0_dives_55 (by decide) ?_
    exact za_iret hM dX0_dives_56 ⟨by rfl, by rfl⟩
  · refine za_look (off := 37) 38 dX0_dives_1 (by decide) (by decide +kernel) (by decide) ?_
    refine za_iconst (nI 2) dX0_dives_38 (by decide) ?_
    refine za_iload_n dX0_dives_39 rfl ?_
    refine za_iload_n dX0_dives_40 rfl ?_
    refine za_iadd dX0_dives_41 ?_
    refine za_bipush (nI 10) dX0_dives_42 (by decide) ?_
    refine za_idiv dX0_dives_44 (by decide) ?_
    refine za_iadd dX0_dives_45 ?_
    refine za_iload_n dX0_dives_46 rfl ?_
    refine za_iload_n dX0_dives_47 rfl ?_
    refine za_mmax dX0_dives_48 zm_X0_31 (by decide) (Nat.le_of_ble_eq_true rfl) ?_
    refine za_mmin dX0_dives_51 zm_X0_26 (by decide) (Nat.le_of_ble_eq_true rfl) ?_
    exact za_iret hM dX0_dives_54 ⟨by rfl, by rfl⟩
