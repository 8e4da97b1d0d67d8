theorem z27 {s : Nat} (hs : s < 4) : ([27, 28, 29, 30] : List Nat)[s]? = some (27 + s) := by
  rcases (show s = 0 ∨ s = 1 ∨ s = 2 ∨ s = 3 by omega) with rfl | rfl | rfl | rfl <;> rfl
theorem z27s {s : Nat} (hs : s < 4) : zsh[27 + s]? = some (.inr (.inl (1, 40))) := by
  rcases (show s = 0 ∨ s = 1 ∨ s = 2 ∨ s = 3 by omega) with rfl | rfl | rfl | rfl <;> rfl
abbrev zbits (b : Int32) : Prop := b = 0 ∨ b = nI 8 ∨ b = nI 16 ∨ b = nI 64
def znar (b : Int32) (v : Int64) : Int64 := if b = nI 8 then v.toInt32.toInt8.toInt32.toInt64 else if b = nI 16 then v.toInt32.toInt16.toInt32.toInt64 else v
/-- j noughts from b on in the row o of longs -/
def zrz (S : zSto) (o b j : Nat) : zSto := (S.1, fun a i => if a = o ∧ b ≤ i ∧ i < b + j then 0 else S.2 a i)
theorem zrz_0 {S : zSto} {o b : Nat} : zrz S o b 0 = S := by
  refine Prod.ext rfl (funext fun a => funext fun i => ?_)
  exact if_neg (fun z => by omega)
theorem zrz_next {S : zSto} {o b j : Nat} : zsl (zrz S o b j) o (b + j) 0 = zrz S o b (j + 1) := by
  refine Prod.ext rfl (funext fun a => funext fun i => ?_)
  show (if a = o ∧ i = b + j then (0 : Int64) else if a = o ∧ b ≤ i ∧ i < b + j then 0 else S.2 a i) = (if a = o ∧ b ≤ i ∧ i < b + (j + 1) then 0 else S.2 a i)
  by_cases h : a = o ∧ i = b + j
  · rw [if_pos h, if_pos ⟨h.1, by omega, by omega⟩]
  · rw [if_neg h]
    by_cases h2 : a = o ∧ b ≤ i ∧ i < b + j
    · rw [if_pos h2, if_pos ⟨h2.1, h2.2.1, by omega⟩]
    · rw [if_neg h2, if_neg (fun z => by by_cases q : i = b + j; exact h ⟨z.1, q⟩; exact h2 ⟨z.1, z.2.1, by omega⟩)]
theorem zrz_n0 {S : zSto} {o j : Nat} : zsl (zrz S o 0 j) o j 0 = zrz S o 0 (j + 1) := by
  have h := zrz_next (S := S) (o := o) (b := 0) (j := j)
  rw [Nat.zero_add] at h
  exact h
def zsz (b n : Int32) : Int32 := if b = 0 then nI 0 else n
theorem zperN {x : Int32} {n p : Nat} (hn : x = nI n) (h9 : n < 1000000) (hp : p < n) : nI 0 ≤ nI p ∧ nI p ≤ x - nI 1 := by
  subst hn
  rw [pk_sub (by omega)]
  exact zrng (Nat.zero_le _) (by omega) (by omega)
theorem zperN_inv {x v : Int32} {n : Nat} (hn : x = nI n) (h9 : n < 1000000) (h : nI 0 ≤ v ∧ v ≤ x - nI 1) : ∃ p, p < n ∧ v = nI p := by
  subst hn
  cases n with
  | zero =>
    have h1 := Int32.le_iff_toInt_le.mp h.1
    have h2 := Int32.le_iff_toInt_le.mp h.2
    have e1 : (nI 0).toInt = 0 := by decide
    have e2 : (nI 0 - nI 1).toInt = -1 := by decide
    rw [e1] at h1
    rw [e2] at h2
    omega
  | succ n =>
    rw [pk_sub (by omega)] at h
    obtain ⟨k, -, hk, e⟩ := zrng_inv h (by omega) (Nat.zero_le _)
    exact ⟨k, by omega, e⟩

set_option maxRecDepth 20000 in
set_option maxHeartbeats 4000000 in
theorem s_areBits {g : zG} {S : zSto} {b : Int32} : zEd g 0 yX1_areBits cX1_areBits 1 (some .boolean) [.int b] S (some (.int (zb (zbits b)))) S := by
  refine zev_intro (own := RX1) (lv := [some (.int b)]) (by decide +kernel) rfl (Nat.le_of_ble_eq_true rfl) rfl (fun C hM hN => ?_)
  refine za_iload_n dX1_areBits_0 rfl ?_
  refine za_if_eq 22 dX1_areBits_1 (by decide) (fun c1 => ?_) (fun c1 => ?_)
  · refine za_iconst (nI 1) dX1_areBits_22 (by decide) ?_
    refine za_goto 27 dX1_areBits_23 (by decide) ?_
    exact za_zretG hM dX1_areBits_27 (by decide) ⟨by (first | rfl | exact congrArg (fun z => some (Value.int z)) (zb_1 (by first | exact Or.inl c1 | exact Or.inr (Or.inl c7) | exact Or.inr (Or.inr (Or.inl c13)) | exact Or.inr (Or.inr (Or.inr c19)))).symm | exact congrArg (fun z => some (Value.int z)) (zb_f (by rintro (h | h | h | h); exact c1 h; exact c7 h; exact c13 h; exact c19 h)).symm), by (first | rfl | exact congrArg (fun z => some (Value.int z)) (zb_1 (by first | exact Or.inl c1 | exact Or.inr (Or.inl c7) | exact Or.inr (Or.inr (Or.inl c13)) | exact Or.inr (Or.inr (Or.inr c19)))).symm | exact congrArg (fun z => some (Value.int z)) (zb_f (by rintro (h | h | h | h); exact c1 h; exact c7 h; exact c13 h; exact c19 h)).symm)⟩
  · refine za_iload_n dX1_areBits_4 rfl ?_
    refine za_bipush (nI 8) dX1_areBits_5 (by decide) ?_
    refine za_icmp_eq 22 dX1_areBits_7 (by decide) (fun c7 => ?_) (fun c7 => ?_)
    · refine za_iconst (nI 1) dX1_areBits_22 (by decide) ?_
      refine za_goto 27 dX1_areBits_23 (by decide) ?_
      exact za_zretG hM dX1_areBits_27 (by decide) ⟨by (first | rfl | exact congrArg (fun z => some (Value.int z)) (zb_1 (by first | exact Or.inl c1 | exact Or.inr (Or.inl c7) | exact Or.inr (Or.inr (Or.inl c13)) | exact Or.inr (Or.inr (Or.inr c19)))).symm | exact congrArg (fun z => some (Value.int z)) (zb_f (by rintro (h | h | h | h); exact c1 h; exact c7 h; exact c13 h; exact c19 h)).symm), by (first | rfl | exact congrArg (fun z => some (Value.int z)) (zb_1 (by first | exact Or.inl c1 | exact Or.inr (Or.inl c7) | exact Or.inr (Or.inr (Or.inl c13)) | exact Or.inr (Or.inr (Or.inr c19)))).symm | exact congrArg (fun z => some (Value.int z)) (zb_f (by rintro (h | h | h | h); exact c1 h; exact c7 h; exact c13 h; exact c19 h)).symm)⟩
    · refine za_iload_n dX1_areBits_10 rfl ?_
      refine za_bipush (nI 16) dX1_areBits_11 (by decide) ?_
      refine za_icmp_eq 22 dX1_areBits_13 (by decide) (fun c13 => ?_) (fun c13 => ?_)
      · refine za_iconst (nI 1) dX1_areBits_22 (by decide) ?_
        refine za_goto 27 dX1_areBits_23 (by decide) ?_
        exact za_zretG hM dX1_areBits_27 (by decide) ⟨by (first | rfl | exact congrArg (fun z => some (Value.int z)) (zb_1 (by first | exact Or.inl c1 | exact Or.inr (Or.inl c7) | exact Or.inr (Or.inr (Or.inl c13)) | exact Or.inr (Or.inr (Or.inr c19)))).symm | exact congrArg (fun z => some (Value.int z)) (zb_f (by rintro (h | h | h | h); exact c1 h; exact c7 h; exact c13 h; exact c19 h)).symm), by (first | rfl | exact congrArg (fun z => some (Value.int z)) (zb_1 (by first | exact Or.inl c1 | exact Or.inr (Or.inl c7) | exact Or.inr (Or.inr (Or.inl c13)) | exact Or.inr (Or.inr (Or.inr c19)))).symm | exact congrArg (fun z => some (Value.int z)) (zb_f (by rintro (h | h | h | h); exact c1 h; exact c7 h; exact c13 h; exact c19 h)).symm)⟩
      · refine za_iload_n dX1_areBits_16 rfl ?_
        refine za_bipush (nI 64) dX1_areBits_17 (by decide) ?_
        refine za_icmp_ne 26 dX1_areBits_19 (by decide) (fun c19 => ?_) (fun c19 => ?_)
        · refine za_iconst (nI 0) dX1_areBits_26 (by decide) ?_
          exact za_zretG hM dX1_areBits_27 (by decide) ⟨by (first | rfl | exact congrArg (fun z => some (Value.int z)) (zb_1 (by first | exact Or.inl c1 | exact Or.inr (Or.inl c7) | exact Or.inr (Or.inr (Or.inl c13)) | exact Or.inr (Or.inr (Or.inr c19)))).symm | exact congrArg (fun z => some (Value.int z)) (zb_f (by rintro (h | h | h | h); exact c1 h; exact c7 h; exact c13 h; exact c19 h)).symm), by (first | rfl | exact congrArg (fun z => some (Value.int z)) (zb_1 (by first | exact Or.inl c1 | exact Or.inr (Or.inl c7) | exact Or.inr (Or.inr (Or.inl c13)) | exact Or.inr (Or.inr (Or.inr c19)))).symm | exact congrArg (fun z => some (Value.int z)) (zb_f (by rintro (h | h | h | h); exact c1 h; exact c7 h; exact c13 h; exact c19 h)).symm)⟩
        · refine za_iconst (nI 1) dX1_areBits_22 (by decide) ?_
          refine za_goto 27 dX1_areBits_23 (by decide) ?_
          exact za_zretG hM dX1_areBits_27 (by decide) ⟨by (first | rfl | exact congrArg (fun z => some (Value.int z)) (zb_1 (by first | exact Or.inl c1 | exact Or.inr (Or.inl c7) | exact Or.inr (Or.inr (Or.inl c13)) | exact Or.inr (Or.inr (Or.inr c19)))).symm | exact congrArg (fun z => some (Value.int z)) (zb_f (by rintro (h | h | h | h); exact c1 h; exact c7 h; exact c13 h; exact c19 h)).symm), by (first | rfl | exact congrArg (fun z => some (Value.int z)) (zb_1 (by first | exact Or.inl c1 | exact Or.inr (Or.inl c7) | exact Or.inr (Or.inr (Or.inl c13)) | exact Or.inr (Or.inr (Or.inr c19)))).symm | exact congrArg (fun z => some (Value.int z)) (zb_f (by rintro (h | h | h | h); exact c1 h; exact c7 h; exact c13 h; exact c19 h)).symm)⟩

set_option maxRecDepth 20000 in
set_option maxHeartbeats 4000000 in
theorem s_isMissing {g : zG} {S : zSto} {s : Nat} (hs : s < 4) : zEd g 0 yX1_isMissing cX1_isMissing 2 (some .boolean) [.ref (zad g 25), .int (nI s)] S (some (.int (zb (S.1 31 s = 0)))) S := by
  refine zev_intro (own := RX1) (lv := [some (.ref (zad g 25)), some (.int (nI s))]) (by decide +kernel) rfl (Nat.le_of_ble_eq_true rfl) rfl (fun C hM hN => ?_)
  refine za_aload_n dX1_isMissing_0 rfl ?_
  refine za_getR dX1_isMissing_1 zf_X1_14 rfl rfl ?_
  refine za_iload_n dX1_isMissing_4 rfl ?_
  refine za_iald dX1_isMissing_5 rfl (by omega) ?_
  refine za_if_ne 13 dX1_isMissing_6 (by decide) (fun c6 => ?_) (fun c6 => ?_)
  · refine za_iconst (nI 0) dX1_isMissing_13 (by decide) ?_
    exact za_zretG hM dX1_isMissing_14 (by decide) ⟨by (first | rfl | exact congrArg (fun z => some (Value.int z)) (zb_1 c6).symm | exact congrArg (fun z => some (Value.int z)) (zb_f c6).symm), by (first | rfl | exact congrArg (fun z => some (Value.int z)) (zb_1 c6).symm | exact congrArg (fun z => some (Value.int z)) (zb_f c6).symm)⟩
  · refine za_iconst (nI 1) dX1_isMissing_9 (by decide) ?_
    refine za_goto 14 dX1_isMissing_10 (by decide) ?_
    exact za_zretG hM dX1_isMissing_14 (by decide) ⟨by (first | rfl | exact congrArg (fun z => some (Value.int z)) (zb_1 c6).symm | exact congrArg (fun z => some (Value.int z)) (zb_f c6).symm), by (first | rfl | exact congrArg (fun z => some (Value.int z)) (zb_1 c6).symm | exact congrArg (fun z => some (Value.int z)) (zb_f c6).symm)⟩

set_option maxRecDepth 20000 in
set_option maxHeartbeats 4000000 in
theorem s_make {g : zG} {S : zSto} {s : Nat} {b n : Int32} (hs : s < 4) : zEd g 0 yX1_make cX1_make 5 none [.ref (zad g 25), .int (nI s), .int b, .int n] S none (zrz (zsi (zsi S 31 s b) 32 s (zsz b n)) (27 + s) 0 40) := by
  refine zev_intro (own := RX1) (lv := [some (.ref (zad g 25)), some (.int (nI s)), some (.int b), some (.int n), none]) (by decide +kernel) rfl (Nat.le_of_ble_eq_true rfl) rfl (fun C hM hN => ?_)
  have hloop : ∀ (m : Nat) (j : Nat), j + m = 40 → zAW g C 0 cX1_make RX1 25 [some (.ref (zad g 25)), some (.int (nI s)), some (.int b), some (.int n), some (.int (nI j))] [] (zrz (zsi (zsi S 31 s b) 32 s (zsz b n)) (27 + s) 0 j) := by
    intro m
    induction m with
    | zero =>
      intro j hj
      obtain rfl : j = 40 := by omega
      refine za_iload dX1_make_25 rfl ?_
      refine za_bipush (nI 40) dX1_make_27 (by decide) ?_
      refine za_icmp_ge 48 dX1_make_29 (by decide) (fun c29 => ?_) (fun c29 => absurd (by decide) c29)
      exact za_vret hM dX1_make_48 ⟨by rfl, by rfl⟩
    | succ m ih =>
      intro j hj
      refine za_iload dX1_make_25 rfl ?_
      refine za_bipush (nI 40) dX1_make_27 (by decide) ?_
      refine za_icmp_ge 48 dX1_make_29 (by decide) (fun c29 => absurd c29 (nI_ge (show j < 40 by omega) (by decide))) (fun c29 => ?_)
      refine za_aload_n dX1_make_32 rfl ?_
      refine za_getR dX1_make_33 zf_X1_11 rfl rfl ?_
      refine za_iload_n dX1_make_36 rfl ?_
      refine za_aald dX1_make_37 rfl (z27 hs) (by omega) ?_
      refine za_iload dX1_make_38 rfl ?_
      refine za_lconst (lN 0) dX1_make_40 (by decide) ?_
      refine za_last dX1_make_41 (z27s hs) (by omega) ?_
      rw [show (lN 0) = 0 from rfl, zrz_n0]
      refine za_iinc (nI (_ + 1)) (lv' := [_, _, _, _, _]) dX1_make_42 rfl hN (by decide) (znext _) rfl ?_
      refine za_goto 25 dX1_make_45 (by decide) ?_
      exact ih (j + 1) (by omega)
  refine za_aload_n dX1_make_0 rfl ?_
  refine za_getR dX1_make_1 zf_X1_14 rfl rfl ?_
  refine za_iload_n dX1_make_4 rfl ?_
  refine za_iload_n dX1_make_5 rfl ?_
  refine za_iast dX1_make_6 rfl (by omega) ?_
  refine za_aload_n dX1_make_7 rfl ?_
  refine za_getR dX1_make_8 zf_X1_18 rfl rfl ?_
  refine za_iload_n dX1_make_11 rfl ?_
  refine za_iload_n dX1_make_12 rfl ?_
  refine za_if_ne 20 dX1_make_13 (by decide) (fun c13 => ?_) (fun c13 => ?_)
  · refine za_iload_n dX1_make_20 rfl ?_
    refine za_iast dX1_make_21 rfl (by omega) ?_
    refine za_iconst (nI 0) dX1_make_22 (by decide) ?_
    refine za_istore (lv' := [_, _, _, _, _]) dX1_make_23 hN (by decide) rfl ?_
    have h0 := hloop 40 0 rfl
    rw [zrz_0] at h0
    first
      | (unfold zsz at h0; rw [if_pos c13] at h0; exact h0)
      | (unfold zsz at h0; rw [if_neg c13] at h0; exact h0)
  · refine za_iconst (nI 0) dX1_make_16 (by decide) ?_
    refine za_goto 21 dX1_make_17 (by decide) ?_
    refine za_iast dX1_make_21 rfl (by omega) ?_
    refine za_iconst (nI 0) dX1_make_22 (by decide) ?_
    refine za_istore (lv' := [_, _, _, _, _]) dX1_make_23 hN (by decide) rfl ?_
    have h0 := hloop 40 0 rfl
    rw [zrz_0] at h0
    first
      | (unfold zsz at h0; rw [if_pos c13] at h0; exact h0)
      | (unfold zsz at h0; rw [if_neg c13] at h0; exact h0)

set_option maxRecDepth 20000 in
set_option maxHeartbeats 4000000 in
theorem s_hasPart {g : zG} {S : zSto} {s : Nat} {a m : Int32} (hs : s < 4) : zEd g 0 yX1_hasPart cX1_hasPart 4 (some .boolean) [.ref (zad g 25), .int (nI s), .int a, .int m] S (some (.int (zb (0 ≤ a ∧ 0 ≤ m ∧ a ≤ S.1 32 s ∧ m ≤ S.1 32 s - a)))) S := by
  refine zev_intro (own := RX1) (lv := [some (.ref (zad g 25)), some (.int (nI s)), some (.int a), some (.int m)]) (by decide +kernel) rfl (Nat.le_of_ble_eq_true rfl) rfl (fun C hM hN => ?_)
  refine za_iload_n dX1_hasPart_0 rfl ?_
  refine za_if_lt 34 dX1_hasPart_1 (by decide) (fun c1 => ?_) (fun c1 => ?_)
  · refine za_iconst (nI 0) dX1_hasPart_34 (by decide) ?_
    exact za_zretG hM dX1_hasPart_35 (by decide) ⟨by (first | rfl | exact congrArg (fun z => some (Value.int z)) (zb_1 (c := 0 ≤ a ∧ 0 ≤ m ∧ a ≤ S.1 32 s ∧ m ≤ S.1 32 s - a) ⟨Int32.not_lt.mp c1, Int32.not_lt.mp c5, Int32.not_lt.mp c15, Int32.not_lt.mp c27⟩).symm | exact congrArg (fun z => some (Value.int z)) (zb_f (c := 0 ≤ a ∧ 0 ≤ m ∧ a ≤ S.1 32 s ∧ m ≤ S.1 32 s - a) (fun z => absurd z.1 (Int32.not_le.mpr c1))).symm | exact congrArg (fun z => some (Value.int z)) (zb_f (c := 0 ≤ a ∧ 0 ≤ m ∧ a ≤ S.1 32 s ∧ m ≤ S.1 32 s - a) (fun z => absurd z.2.1 (Int32.not_le.mpr c5))).symm | exact congrArg (fun z => some (Value.int z)) (zb_f (c := 0 ≤ a ∧ 0 ≤ m ∧ a ≤ S.1 32 s ∧ m ≤ S.1 32 s - a) (fun z => absurd z.2.2.1 (Int32.not_le.mpr c15))).symm | exact congrArg (fun z => some (Value.int z)) (zb_f (c := 0 ≤ a ∧ 0 ≤ m ∧ a ≤ S.1 32 s ∧ m ≤ S.1 32 s - a) (fun z => absurd z.2.2.2 (Int32.not_le.mpr c27))).symm), by (first | rfl | exact congrArg (fun z => some (Value.int z)) (zb_1 (c := 0 ≤ a ∧ 0 ≤ m ∧ a ≤ S.1 32 s ∧ m ≤ S.1 32 s - a) ⟨Int32.not_lt.mp c1, Int32.not_lt.mp c5, Int32.not_lt.mp c15, Int32.not_lt.mp c27⟩).symm | exact congrArg (fun z => some (Value.int z)) (zb_f (c := 0 ≤ a ∧ 0 ≤ m ∧ a ≤ S.1 32 s ∧ m ≤ S.1 32 s - a) (fun z => absurd z.1 (Int32.not_le.mpr c1))).symm | exact congrArg (fun z => some (Value.int z)) (zb_f (c := 0 ≤ a ∧ 0 ≤ m ∧ a ≤ S.1 32 s ∧ m ≤ S.1 32 s - a) (fun z => absurd z.2.1 (Int32.not_le.mpr c5))).symm | exact congrArg (fun z => some (Value.int z)) (zb_f (c := 0 ≤ a ∧ 0 ≤ m ∧ a ≤ S.1 32 s ∧ m ≤ S.1 32 s - a) (fun z => absurd z.2.2.1 (Int32.not_le.mpr c15))).symm | exact congrArg (fun z => some (Value.int z)) (zb_f (c := 0 ≤ a ∧ 0 ≤ m ∧ a ≤ S.1 32 s ∧ m ≤ S.1 32 s - a) (fun z => absurd z.2.2.2 (Int32.not_le.mpr c27))).symm)⟩
  · refine za_iload_n dX1_hasPart_4 rfl ?_
    refine za_if_lt 34 dX1_hasPart_5 (by decide) (fun c5 => ?_) (fun c5 => ?_)
    · refine za_iconst (nI 0) dX1_hasPart_34 (by decide) ?_
      exact za_zretG hM dX1_hasPart_35 (by decide) ⟨by (first | rfl | exact congrArg (fun z => some (Value.int z)) (zb_1 (c := 0 ≤ a ∧ 0 ≤ m ∧ a ≤ S.1 32 s ∧ m ≤ S.1 32 s - a) ⟨Int32.not_lt.mp c1, Int32.not_lt.mp c5, Int32.not_lt.mp c15, Int32.not_lt.mp c27⟩).symm | exact congrArg (fun z => some (Value.int z)) (zb_f (c := 0 ≤ a ∧ 0 ≤ m ∧ a ≤ S.1 32 s ∧ m ≤ S.1 32 s - a) (fun z => absurd z.1 (Int32.not_le.mpr c1))).symm | exact congrArg (fun z => some (Value.int z)) (zb_f (c := 0 ≤ a ∧ 0 ≤ m ∧ a ≤ S.1 32 s ∧ m ≤ S.1 32 s - a) (fun z => absurd z.2.1 (Int32.not_le.mpr c5))).symm | exact congrArg (fun z => some (Value.int z)) (zb_f (c := 0 ≤ a ∧ 0 ≤ m ∧ a ≤ S.1 32 s ∧ m ≤ S.1 32 s - a) (fun z => absurd z.2.2.1 (Int32.not_le.mpr c15))).symm | exact congrArg (fun z => some (Value.int z)) (zb_f (c := 0 ≤ a ∧ 0 ≤ m ∧ a ≤ S.1 32 s ∧ m ≤ S.1 32 s - a) (fun z => absurd z.2.2.2 (Int32.not_le.mpr c27))).symm), by (first | rfl | exact congrArg (fun z => some (Value.int z)) (zb_1 (c := 0 ≤ a ∧ 0 ≤ m ∧ a ≤ S.1 32 s ∧ m ≤ S.1 32 s - a) ⟨Int32.not_lt.mp c1, Int32.not_lt.mp c5, Int32.not_lt.mp c15, Int32.not_lt.mp c27⟩).symm | exact congrArg (fun z => some (Value.int z)) (zb_f (c := 0 ≤ a ∧ 0 ≤ m ∧ a ≤ S.1 32 s ∧ m ≤ S.1 32 s - a) (fun z => absurd z.1 (Int32.not_le.mpr c1))).symm | exact congrArg (fun z => some (Value.int z)) (zb_f (c := 0 ≤ a ∧ 0 ≤ m ∧ a ≤ S.1 32 s ∧ m ≤ S.1 32 s - a) (fun z => absurd z.2.1 (Int32.not_le.mpr c5))).symm | exact congrArg (fun z => some (Value.int z)) (zb_f (c := 0 ≤ a ∧ 0 ≤ m ∧ a ≤ S.1 32 s ∧ m ≤ S.1 32 s - a) (fun z => absurd z.2.2.1 (Int32.not_le.mpr c15))).symm | exact congrArg (fun z => some (Value.int z)) (zb_f (c := 0 ≤ a ∧ 0 ≤ m ∧ a ≤ S.1 32 s ∧ m ≤ S.1 32 s - a) (fun z => absurd z.2.2.2 (Int32.not_le.mpr c27))).symm)⟩
    · refine za_iload_n dX1_hasPart_8 rfl ?_
      refine za_aload_n dX1_hasPart_9 rfl ?_
      refine za_getR dX1_hasPart_10 zf_X1_18 rfl rfl ?_
      refine za_iload_n dX1_hasPart_13 rfl ?_
      refine za_iald dX1_hasPart_14 rfl (by omega) ?_
      refine za_icmp_gt 34 dX1_hasPart_15 (by decide) (fun c15 => ?_) (fun c15 => ?_)
      · refine za_iconst (nI 0) dX1_hasPart_34 (by decide) ?_
        exact za_zretG hM dX1_hasPart_35 (by decide) ⟨by (first | rfl | exact congrArg (fun z => some (Value.int z)) (zb_1 (c := 0 ≤ a ∧ 0 ≤ m ∧ a ≤ S.1 32 s ∧ m ≤ S.1 32 s - a) ⟨Int32.not_lt.mp c1, Int32.not_lt.mp c5, Int32.not_lt.mp c15, Int32.not_lt.mp c27⟩).symm | exact congrArg (fun z => some (Value.int z)) (zb_f (c := 0 ≤ a ∧ 0 ≤ m ∧ a ≤ S.1 32 s ∧ m ≤ S.1 32 s - a) (fun z => absurd z.1 (Int32.not_le.mpr c1))).symm | exact congrArg (fun z => some (Value.int z)) (zb_f (c := 0 ≤ a ∧ 0 ≤ m ∧ a ≤ S.1 32 s ∧ m ≤ S.1 32 s - a) (fun z => absurd z.2.1 (Int32.not_le.mpr c5))).symm | exact congrArg (fun z => some (Value.int z)) (zb_f (c := 0 ≤ a ∧ 0 ≤ m ∧ a ≤ S.1 32 s ∧ m ≤ S.1 32 s - a) (fun z => absurd z.2.2.1 (Int32.not_le.mpr c15))).symm | exact congrArg (fun z => some (Value.int z)) (zb_f (c := 0 ≤ a ∧ 0 ≤ m ∧ a ≤ S.1 32 s ∧ m ≤ S.1 32 s - a) (fun z => absurd z.2.2.2 (Int32.not_le.mpr c27))).symm), by (first | rfl | exact congrArg (fun z => some (Value.int z)) (zb_1 (c := 0 ≤ a ∧ 0 ≤ m ∧ a ≤ S.1 32 s ∧ m ≤ S.1 32 s - a) ⟨Int32.not_lt.mp c1, Int32.not_lt.mp c5, Int32.not_lt.mp c15, Int32.not_lt.mp c27⟩).symm | exact congrArg (fun z => some (Value.int z)) (zb_f (c := 0 ≤ a ∧ 0 ≤ m ∧ a ≤ S.1 32 s ∧ m ≤ S.1 32 s - a) (fun z => absurd z.1 (Int32.not_le.mpr c1))).symm | exact congrArg (fun z => some (Value.int z)) (zb_f (c := 0 ≤ a ∧ 0 ≤ m ∧ a ≤ S.1 32 s ∧ m ≤ S.1 32 s - a) (fun z => absurd z.2.1 (Int32.not_le.mpr c5))).symm | exact congrArg (fun z => some (Value.int z)) (zb_f (c := 0 ≤ a ∧ 0 ≤ m ∧ a ≤ S.1 32 s ∧ m ≤ S.1 32 s - a) (fun z => absurd z.2.2.1 (Int32.not_le.mpr c15))).symm | exact congrArg (fun z => some (Value.int z)) (zb_f (c := 0 ≤ a ∧ 0 ≤ m ∧ a ≤ S.1 32 s ∧ m ≤ S.1 32 s - a) (fun z => absurd z.2.2.2 (Int32.not_le.mpr c27))).symm)⟩
      · refine za_iload_n dX1_hasPart_18 rfl ?_
        refine za_aload_n dX1_hasPart_19 rfl ?_
        refine za_getR dX1_hasPart_20 zf_X1_18 rfl rfl ?_
        refine za_iload_n dX1_hasPart_23 rfl ?_
        refine za_iald dX1_hasPart_24 rfl (by omega) ?_
        refine za_iload_n dX1_hasPart_25 rfl ?_
        refine za_isub dX1_hasPart_26 ?_
        refine za_icmp_gt 34 dX1_hasPart_27 (by decide) (fun c27 => ?_) (fun c27 => ?_)
        · refine za_iconst (nI 0) dX1_hasPart_34 (by decide) ?_
          exact za_zretG hM dX1_hasPart_35 (by decide) ⟨by (first | rfl | exact congrArg (fun z => some (Value.int z)) (zb_1 (c := 0 ≤ a ∧ 0 ≤ m ∧ a ≤ S.1 32 s ∧ m ≤ S.1 32 s - a) ⟨Int32.not_lt.mp c1, Int32.not_lt.mp c5, Int32.not_lt.mp c15, Int32.not_lt.mp c27⟩).symm | exact congrArg (fun z => some (Value.int z)) (zb_f (c := 0 ≤ a ∧ 0 ≤ m ∧ a ≤ S.1 32 s ∧ m ≤ S.1 32 s - a) (fun z => absurd z.1 (Int32.not_le.mpr c1))).symm | exact congrArg (fun z => some (Value.int z)) (zb_f (c := 0 ≤ a ∧ 0 ≤ m ∧ a ≤ S.1 32 s ∧ m ≤ S.1 32 s - a) (fun z => absurd z.2.1 (Int32.not_le.mpr c5))).symm | exact congrArg (fun z => some (Value.int z)) (zb_f (c := 0 ≤ a ∧ 0 ≤ m ∧ a ≤ S.1 32 s ∧ m ≤ S.1 32 s - a) (fun z => absurd z.2.2.1 (Int32.not_le.mpr c15))).symm | exact congrArg (fun z => some (Value.int z)) (zb_f (c := 0 ≤ a ∧ 0 ≤ m ∧ a ≤ S.1 32 s ∧ m ≤ S.1 32 s - a) (fun z => absurd z.2.2.2 (Int32.not_le.mpr c27))).symm), by (first | rfl | exact congrArg (fun z => some (Value.int z)) (zb_1 (c := 0 ≤ a ∧ 0 ≤ m ∧ a ≤ S.1 32 s ∧ m ≤ S.1 32 s - a) ⟨Int32.not_lt.mp c1, Int32.not_lt.mp c5, Int32.not_lt.mp c15, Int32.not_lt.mp c27⟩).symm | exact congrArg (fun z => some (Value.int z)) (zb_f (c := 0 ≤ a ∧ 0 ≤ m ∧ a ≤ S.1 32 s ∧ m ≤ S.1 32 s - a) (fun z => absurd z.1 (Int32.not_le.mpr c1))).symm | exact congrArg (fun z => some (Value.int z)) (zb_f (c := 0 ≤ a ∧ 0 ≤ m ∧ a ≤ S.1 32 s ∧ m ≤ S.1 32 s - a) (fun z => absurd z.2.1 (Int32.not_le.mpr c5))).symm | exact congrArg (fun z => some (Value.int z)) (zb_f (c := 0 ≤ a ∧ 0 ≤ m ∧ a ≤ S.1 32 s ∧ m ≤ S.1 32 s - a) (fun z => absurd z.2.2.1 (Int32.not_le.mpr c15))).symm | exact congrArg (fun z => some (Value.int z)) (zb_f (c := 0 ≤ a ∧ 0 ≤ m ∧ a ≤ S.1 32 s ∧ m ≤ S.1 32 s - a) (fun z => absurd z.2.2.2 (Int32.not_le.mpr c27))).symm)⟩
        · refine za_iconst (nI 1) dX1_hasPart_30 (by decide) ?_
          refine za_goto 35 dX1_hasPart_31 (by decide) ?_
          exact za_zretG hM dX1_hasPart_35 (by decide) ⟨by (first | rfl | exact congrArg (fun z => some (Value.int z)) (zb_1 (c := 0 ≤ a ∧ 0 ≤ m ∧ a ≤ S.1 32 s ∧ m ≤ S.1 32 s - a) ⟨Int32.not_lt.mp c1, Int32.not_lt.mp c5, Int32.not_lt.mp c15, Int32.not_lt.mp c27⟩).symm | exact congrArg (fun z => some (Value.int z)) (zb_f (c := 0 ≤ a ∧ 0 ≤ m ∧ a ≤ S.1 32 s ∧ m ≤ S.1 32 s - a) (fun z => absurd z.1 (Int32.not_le.mpr c1))).symm | exact congrArg (fun z => some (Value.int z)) (zb_f (c := 0 ≤ a ∧ 0 ≤ m ∧ a ≤ S.1 32 s ∧ m ≤ S.1 32 s - a) (fun z => absurd z.2.1 (Int32.not_le.mpr c5))).symm | exact congrArg (fun z => some (Value.int z)) (zb_f (c := 0 ≤ a ∧ 0 ≤ m ∧ a ≤ S.1 32 s ∧ m ≤ S.1 32 s - a) (fun z => absurd z.2.2.1 (Int32.not_le.mpr c15))).symm | exact congrArg (fun z => some (Value.int z)) (zb_f (c := 0 ≤ a ∧ 0 ≤ m ∧ a ≤ S.1 32 s ∧ m ≤ S.1 32 s - a) (fun z => absurd z.2.2.2 (Int32.not_le.mpr c27))).symm), by (first | rfl | exact congrArg (fun z => some (Value.int z)) (zb_1 (c := 0 ≤ a ∧ 0 ≤ m ∧ a ≤ S.1 32 s ∧ m ≤ S.1 32 s - a) ⟨Int32.not_lt.mp c1, Int32.not_lt.mp c5, Int32.not_lt.mp c15, Int32.not_lt.mp c27⟩).symm | exact congrArg (fun z => some (Value.int z)) (zb_f (c := 0 ≤ a ∧ 0 ≤ m ∧ a ≤ S.1 32 s ∧ m ≤ S.1 32 s - a) (fun z => absurd z.1 (Int32.not_le.mpr c1))).symm | exact congrArg (fun z => some (Value.int z)) (zb_f (c := 0 ≤ a ∧ 0 ≤ m ∧ a ≤ S.1 32 s ∧ m ≤ S.1 32 s - a) (fun z => absurd z.2.1 (Int32.not_le.mpr c5))).symm | exact congrArg (fun z => some (Value.int z)) (zb_f (c := 0 ≤ a ∧ 0 ≤ m ∧ a ≤ S.1 32 s ∧ m ≤ S.1 32 s - a) (fun z => absurd z.2.2.1 (Int32.not_le.mpr c15))).symm | exact congrArg (fun z => some (Value.int z)) (zb_f (c := 0 ≤ a ∧ 0 ≤ m ∧ a ≤ S.1 32 s ∧ m ≤ S.1 32 s - a) (fun z => absurd z.2.2.2 (Int32.not_le.mpr c27))).symm)⟩

set_option maxRecDepth 20000 in
set_option maxHeartbeats 4000000 in
theorem s_put {g : zG} {S : zSto} {s i : Nat} {v : Int64} (hs : s < 4) (hi : i < 40) : zEd g 0 yX1_put cX1_put 5 none [.ref (zad g 25), .int (nI s), .int (nI i), .long v] S none (zsl S (27 + s) i (znar (S.1 31 s) v)) := by
  refine zev_intro (own := RX1) (lv := [some (.ref (zad g 25)), some (.int (nI s)), some (.int (nI i)), some (.long v), none]) (by decide +kernel) rfl (Nat.le_of_ble_eq_true rfl) rfl (fun C hM hN => ?_)
  refine za_aload_n dX1_put_0 rfl ?_
  refine za_getR dX1_put_1 zf_X1_14 rfl rfl ?_
  refine za_iload_n dX1_put_4 rfl ?_
  refine za_iald dX1_put_5 rfl (by omega) ?_
  refine za_bipush (nI 8) dX1_put_6 (by decide) ?_
  refine za_icmp_ne 26 dX1_put_8 (by decide) (fun c8 => ?_) (fun c8 => ?_)
  · refine za_aload_n dX1_put_26 rfl ?_
    refine za_getR dX1_put_27 zf_X1_14 rfl rfl ?_
    refine za_iload_n dX1_put_30 rfl ?_
    refine za_iald dX1_put_31 rfl (by omega) ?_
    refine za_bipush (nI 16) dX1_put_32 (by decide) ?_
    refine za_icmp_ne 52 dX1_put_34 (by decide) (fun c34 => ?_) (fun c34 => ?_)
    · refine za_aload_n dX1_put_52 rfl ?_
      refine za_getR dX1_put_53 zf_X1_11 rfl rfl ?_
      refine za_iload_n dX1_put_56 rfl ?_
      refine za_aald dX1_put_57 rfl (z27 hs) (by omega) ?_
      refine za_iload_n dX1_put_58 rfl ?_
      refine za_lload_n dX1_put_59 rfl ?_
      refine za_last dX1_put_60 (z27s hs) (by omega) ?_
      exact za_vret hM dX1_put_61 ⟨rfl, by first | (unfold znar; rw [if_pos c8]; done) | (unfold znar; rw [if_neg c8, if_pos c34]; done) | (unfold znar; rw [if_neg c8, if_neg c34]; done)⟩
    · refine za_aload_n dX1_put_37 rfl ?_
      refine za_getR dX1_put_38 zf_X1_11 rfl rfl ?_
      refine za_iload_n dX1_put_41 rfl ?_
      refine za_aald dX1_put_42 rfl (z27 hs) (by omega) ?_
      refine za_iload_n dX1_put_43 rfl ?_
      refine za_lload_n dX1_put_44 rfl ?_
      refine za_l2i dX1_put_45 ?_
      refine za_i2s dX1_put_46 ?_
      refine za_i2l dX1_put_47 ?_
      refine za_last dX1_put_48 (z27s hs) (by omega) ?_
      refine za_goto 61 dX1_put_49 (by decide) ?_
      exact za_vret hM dX1_put_61 ⟨rfl, by first | (unfold znar; rw [if_pos c8]; done) | (unfold znar; rw [if_neg c8, if_pos c34]; done) | (unfold znar; rw [if_neg c8, if_neg c34]; done)⟩
  · refine za_aload_n dX1_put_11 rfl ?_
    refine za_getR dX1_put_12 zf_X1_11 rfl rfl ?_
    refine za_iload_n dX1_put_15 rfl ?_
    refine za_aald dX1_put_16 rfl (z27 hs) (by omega) ?_
    refine za_iload_n dX1_put_17 rfl ?_
    refine za_lload_n dX1_put_18 rfl ?_
    refine za_l2i dX1_put_19 ?_
    refine za_i2b dX1_put_20 ?_
    refine za_i2l dX1_put_21 ?_
    refine za_last dX1_put_22 (z27s hs) (by omega) ?_
    refine za_goto 61 dX1_put_23 (by decide) ?_
    exact za_vret hM dX1_put_61 ⟨rfl, by first | (unfold znar; rw [if_pos c8]; done) | (unfold znar; rw [if_neg c8, if_pos c34]; done) | (unfold znar; rw [if_neg c8, if_neg c34]; done)⟩

set_option maxRecDepth 20000 in
set_option maxHeartbeats 4000000 in
theorem t_hasRoom {g : zG} {S : zSto} {n k : Nat} (hn : S.1 22 1 = nI n) (hn1 : n ≤ 120) (hk : k ≤ 4) : zEd g 0 yX2_hasRoom cX2_hasRoom 2 (some .boolean) [.ref (zad g 22), .int (nI k)] S (some (.int (zb (n + k ≤ 120)))) S := by
  refine zev_intro (own := RX2) (lv := [some (.ref (zad g 22)), some (.int (nI k))]) (by decide +kernel) rfl (Nat.le_of_ble_eq_true rfl) rfl (fun C hM hN => ?_)
  refine za_aload_n dX2_hasRoom_0 rfl ?_
  refine za_getI dX2_hasRoom_1 zf_X2_13 rfl rfl ?_
  rw [hn]
  refine za_iload_n dX2_hasRoom_4 rfl ?_
  refine za_iadd dX2_hasRoom_5 ?_
  rw [nI_add]
  refine za_bipush (nI 120) dX2_hasRoom_6 (by decide) ?_
  refine za_icmp_gt 15 dX2_hasRoom_8 (by decide) (fun c8 => ?_) (fun c8 => ?_)
  · refine za_iconst (nI 0) dX2_hasRoom_15 (by decide) ?_
    exact za_zretG hM dX2_hasRoom_16 (by decide) ⟨by (first | rfl | exact congrArg (fun z => some (Value.int z)) (zb_f (fun z => absurd c8 (nI_nlt z (by decide)))).symm | exact congrArg (fun z => some (Value.int z)) (zb_1 (Nat.not_lt.mp (fun z => c8 (nI_lt z (by omega))))).symm), by (first | rfl | exact congrArg (fun z => some (Value.int z)) (zb_f (fun z => absurd c8 (nI_nlt z (by decide)))).symm | exact congrArg (fun z => some (Value.int z)) (zb_1 (Nat.not_lt.mp (fun z => c8 (nI_lt z (by omega))))).symm)⟩
  · refine za_iconst (nI 1) dX2_hasRoom_11 (by decide) ?_
    refine za_goto 16 dX2_hasRoom_12 (by decide) ?_
    exact za_zretG hM dX2_hasRoom_16 (by decide) ⟨by (first | rfl | exact congrArg (fun z => some (Value.int z)) (zb_f (fun z => absurd c8 (nI_nlt z (by decide)))).symm | exact congrArg (fun z => some (Value.int z)) (zb_1 (Nat.not_lt.mp (fun z => c8 (nI_lt z (by omega))))).symm), by (first | rfl | exact congrArg (fun z => some (Value.int z)) (zb_f (fun z => absurd c8 (nI_nlt z (by decide)))).symm | exact congrArg (fun z => some (Value.int z)) (zb_1 (Nat.not_lt.mp (fun z => c8 (nI_lt z (by omega))))).symm)⟩

def ztad (S : zSto) (a b i : Nat) (n : Nat) (v : Int32) : zSto := zsi (zsi S a n v) b i (nI (n + 1))
theorem zbyte2 (z : Int32) : z.toInt8.toInt32.toInt8.toInt32 = z.toInt8.toInt32 := by
  have h := pk_vb z
  rw [vp_nar_byte] at h
  exact h

set_option maxRecDepth 20000 in
set_option maxHeartbeats 4000000 in
theorem t_add {g : zG} {S : zSto} {n : Nat} {z : Int32} (hn : S.1 22 1 = nI n) (hn1 : n < 120) : zEd g 0 yX2_add cX2_add 2 none [.ref (zad g 22), .int z.toInt8.toInt32] S none (ztad S 23 22 1 n z.toInt8.toInt32) := by
  refine zev_intro (own := RX2) (lv := [some (.ref (zad g 22)), some (.int z.toInt8.toInt32)]) (by decide +kernel) rfl (Nat.le_of_ble_eq_true rfl) rfl (fun C hM hN => ?_)
  refine za_aload_n dX2_add_0 rfl ?_
  refine za_getI dX2_add_1 zf_X2_13 rfl rfl ?_
  rw [hn]
  refine za_bipush (nI 120) dX2_add_4 (by decide) ?_
  refine za_icmp_ge 29 dX2_add_6 (by decide) (fun c6 => absurd c6 (nI_ge hn1 (by decide))) (fun c6 => ?_)
  refine za_aload_n dX2_add_9 rfl ?_
  refine za_getR dX2_add_10 zf_X2_9 rfl rfl ?_
  refine za_aload_n dX2_add_13 rfl ?_
  refine za_getI dX2_add_14 zf_X2_13 rfl rfl ?_
  rw [hn]
  refine za_iload_n dX2_add_17 rfl ?_
  refine za_bast dX2_add_18 rfl (by omega) ?_
  rw [zbyte2]
  refine za_aload_n dX2_add_19 rfl ?_
  refine za_dup dX2_add_20 rfl ?_
  refine za_getI dX2_add_21 zf_X2_13 rfl rfl ?_
  rw [show (zsi S 23 n z.toInt8.toInt32).1 22 1 = nI n from hn]
  refine za_iconst (nI 1) dX2_add_24 (by decide) ?_
  refine za_iadd dX2_add_25 ?_
  rw [nI_add]
  refine za_putI dX2_add_26 zf_X2_13 zp_X2_1 rfl rfl ?_
  exact za_vret hM dX2_add_29 ⟨by rfl, by rfl⟩

/-- the r lowest bytes of x come behind the tape of the class -/
def zfc (x : Int32) : Nat → Nat → zSto → zSto
  | 0, _, S => S
  | r + 1, n, S => zfc x r (n + 1) (ztad S 23 22 1 n (x >>> ((nI 8 * nI r) &&& 31)).toInt8.toInt32)
theorem zneg1 : nI 0 + Int32.ofInt (-1) = -1 := by decide
theorem zm1 (k : Nat) : nI (k + 1) - nI 1 = nI k := by rw [pk_sub (by omega)]; rfl
theorem ztad_len {S : zSto} {a b i n : Nat} {v : Int32} : (ztad S a b i n v).1 b i = nI (n + 1) := by simp [ztad, zsi]

set_option maxRecDepth 20000 in
set_option maxHeartbeats 4000000 in
theorem c_feed_ok {g : zG} {S : zSto} {x : Int32} {n k : Nat} (hn : S.1 22 1 = nI n) (hn1 : n ≤ 120) (hk1 : 1 ≤ k) (hk : k ≤ 4) (hf : n + k ≤ 120) : zEd g 8 yX5_feed cX5_feed 4 (some .int) [.ref (zad g 0), .int x, .int (nI k)] S (some (.int (nI (n + k)))) (zfc x k n S) := by
  refine zev_intro (own := RX5) (lv := [some (.ref (zad g 0)), some (.int x), some (.int (nI k)), none]) (by decide +kernel) rfl (Nat.le_of_ble_eq_true rfl) rfl (fun C hM hN => ?_)
  have hend : ∀ (S' : zSto), zfc x k n S = S' → S'.1 22 1 = nI (n + k) → zAW g C 8 cX5_feed RX5 36 [some (.ref (zad g 0)), some (.int x), some (.int (nI k)), some (.int (-1))] [] S' := by
    intro S' hS hl
    refine za_iload_n dX5_feed_36 rfl ?_
    refine za_if_lt 60 dX5_feed_37 (by decide) (fun c37 => ?_) (fun c37 => absurd (by decide) c37)
    refine za_aload_n dX5_feed_60 rfl ?_
    refine za_getR dX5_feed_61 zf_X5_29 rfl rfl ?_
    refine za_getI dX5_feed_64 zf_X5_187 rfl rfl ?_
    rw [hl]
    exact za_iret hM dX5_feed_67 ⟨rfl, hS.symm⟩
  have hloop : ∀ (r n' : Nat) (S' : zSto), r < k → n' + r + 1 = n + k → S'.1 22 1 = nI n' → zfc x k n S = zfc x (r + 1) n' S' → zAW g C 8 cX5_feed RX5 36 [some (.ref (zad g 0)), some (.int x), some (.int (nI k)), some (.int (nI r))] [] S' := by
    intro r
    induction r with
    | zero =>
      intro n' S' hr hk' hl hS
      refine za_iload_n dX5_feed_36 rfl ?_
      refine za_if_lt 60 dX5_feed_37 (by decide) (fun c37 => absurd c37 (by decide)) (fun c37 => ?_)
      refine za_aload_n dX5_feed_40 rfl ?_
      refine za_getR dX5_feed_41 zf_X5_29 rfl rfl ?_
      refine za_iload_n dX5_feed_44 rfl ?_
      refine za_bipush (nI 8) dX5_feed_45 (by decide) ?_
      refine za_iload_n dX5_feed_47 rfl ?_
      refine za_imul dX5_feed_48 ?_
      refine za_ishr dX5_feed_49 ?_
      refine za_i2b dX5_feed_50 ?_
      refine za_cV1v dX5_feed_51 zm_X5_184 zw_X2_add zv_X2_add (t_add hl (by omega)) (by decide) rfl rfl rfl (Nat.le_of_ble_eq_true rfl) ?_
      refine za_iinc (-1) (lv' := [_, _, _, _]) dX5_feed_54 rfl hN (by decide) zneg1 rfl ?_
      refine za_goto 36 dX5_feed_57 (by decide) ?_
      exact hend _ hS (by rw [ztad_len]; congr 1)
    | succ r ih =>
      intro n' S' hr hk' hl hS
      refine za_iload_n dX5_feed_36 rfl ?_
      refine za_if_lt 60 dX5_feed_37 (by decide) (fun c37 => absurd c37 (nI_pos (by omega))) (fun c37 => ?_)
      refine za_aload_n dX5_feed_40 rfl ?_
      refine za_getR dX5_feed_41 zf_X5_29 rfl rfl ?_
      refine za_iload_n dX5_feed_44 rfl ?_
      refine za_bipush (nI 8) dX5_feed_45 (by decide) ?_
      refine za_iload_n dX5_feed_47 rfl ?_
      refine za_imul dX5_feed_48 ?_
      refine za_ishr dX5_feed_49 ?_
      refine za_i2b dX5_feed_50 ?_
      refine za_cV1v dX5_feed_51 zm_X5_184 zw_X2_add zv_X2_add (t_add hl (by omega)) (by decide) rfl rfl rfl (Nat.le_of_ble_eq_true rfl) ?_
      refine za_iinc (nI r) (lv' := [_, _, _, _]) dX5_feed_54 rfl hN (by decide) (zprev r) rfl ?_
      refine za_goto 36 dX5_feed_57 (by decide) ?_
      exact ih (n' + 1) _ (by omega) (by omega) ztad_len hS
  refine za_iload_n dX5_feed_0 rfl ?_
  refine za_iconst (nI 1) dX5_feed_1 (by decide) ?_
  refine za_iconst (nI 4) dX5_feed_2 (by decide) ?_
  refine za_cS3 dX5_feed_3 zm_X5_75 zw_X5_isWithin zs_X5_isWithin (e_isWithin _ _ _) (by decide) (Nat.le_of_ble_eq_true rfl) ?_
  refine za_if_neB 15 dX5_feed_6 (by decide) (fun c6 => ?_) (fun c6 => absurd (zrng (by omega) (by omega) (by decide)) c6)
  refine za_aload_n dX5_feed_15 rfl ?_
  refine za_getR dX5_feed_16 zf_X5_29 rfl rfl ?_
  refine za_iload_n dX5_feed_19 rfl ?_
  refine za_cV1 dX5_feed_20 zm_X5_181 zw_X2_hasRoom zv_X2_hasRoom (t_hasRoom hn hn1 hk) (by decide) rfl rfl rfl (Nat.le_of_ble_eq_true rfl) ?_
  refine za_if_neB 32 dX5_feed_23 (by decide) (fun c23 => ?_) (fun c23 => absurd hf c23)
  refine za_iload_n dX5_feed_32 rfl ?_
  refine za_iconst (nI 1) dX5_feed_33 (by decide) ?_
  refine za_isub dX5_feed_34 ?_
  obtain ⟨k, rfl⟩ : ∃ j, k = j + 1 := ⟨k - 1, by omega⟩
  rw [zm1]
  refine za_istore_n (lv' := [_, _, _, _]) dX5_feed_35 hN (by decide) rfl ?_
  exact hloop k n S (by omega) (by omega) hn rfl

set_option maxRecDepth 20000 in
set_option maxHeartbeats 4000000 in
theorem c_feed_full {g : zG} {S : zSto} {x : Int32} {n k : Nat} (hn : S.1 22 1 = nI n) (hn1 : n ≤ 120) (hk1 : 1 ≤ k) (hk : k ≤ 4) (hf : ¬ n + k ≤ 120) : zEd g 8 yX5_feed cX5_feed 4 (some .int) [.ref (zad g 0), .int x, .int (nI k)] S (some (.int (zfd 1))) (zfin S 33 1) := by
  refine zev_intro (own := RX5) (lv := [some (.ref (zad g 0)), some (.int x), some (.int (nI k)), none]) (by decide +kernel) rfl (Nat.le_of_ble_eq_true rfl) rfl (fun C hM hN => ?_)
  refine za_iload_n dX5_feed_0 rfl ?_
  refine za_iconst (nI 1) dX5_feed_1 (by decide) ?_
  refine za_iconst (nI 4) dX5_feed_2 (by decide) ?_
  refine za_cS3 dX5_feed_3 zm_X5_75 zw_X5_isWithin zs_X5_isWithin (e_isWithin _ _ _) (by decide) (Nat.le_of_ble_eq_true rfl) ?_
  refine za_if_neB 15 dX5_feed_6 (by decide) (fun c6 => ?_) (fun c6 => absurd (zrng (by omega) (by omega) (by decide)) c6)
  refine za_aload_n dX5_feed_15 rfl ?_
  refine za_getR dX5_feed_16 zf_X5_29 rfl rfl ?_
  refine za_iload_n dX5_feed_19 rfl ?_
  refine za_cV1 dX5_feed_20 zm_X5_181 zw_X2_hasRoom zv_X2_hasRoom (t_hasRoom hn hn1 hk) (by decide) rfl rfl rfl (Nat.le_of_ble_eq_true rfl) ?_
  refine za_if_neB 32 dX5_feed_23 (by decide) (fun c23 => absurd c23 hf) (fun c23 => ?_)
  refine za_aload_n dX5_feed_26 rfl ?_
  refine za_iconst (nI 1) dX5_feed_27 (by decide) ?_
  refine za_cV1 dX5_feed_28 zm_X5_63 zw_X5_finding zv_X5_finding (c_finding (by decide)) (by decide) rfl rfl rfl (Nat.le_of_ble_eq_true rfl) ?_
  exact za_iret hM dX5_feed_31 ⟨by rfl, by rfl⟩

set_option maxRecDepth 20000 in
set_option maxHeartbeats 4000000 in
theorem c_feed_no {g : zG} {S : zSto} {x k : Int32} (hno : ¬ (nI 1 ≤ k ∧ k ≤ nI 4)) : zEd g 8 yX5_feed cX5_feed 4 (some .int) [.ref (zad g 0), .int x, .int k] S (some (.int (zfd 0))) (zfin S 33 0) := by
  refine zev_intro (own := RX5) (lv := [some (.ref (zad g 0)), some (.int x), some (.int k), none]) (by decide +kernel) rfl (Nat.le_of_ble_eq_true rfl) rfl (fun C hM hN => ?_)
  refine za_iload_n dX5_feed_0 rfl ?_
  refine za_iconst (nI 1) dX5_feed_1 (by decide) ?_
  refine za_iconst (nI 4) dX5_feed_2 (by decide) ?_
  refine za_cS3 dX5_feed_3 zm_X5_75 zw_X5_isWithin zs_X5_isWithin (e_isWithin _ _ _) (by decide) (Nat.le_of_ble_eq_true rfl) ?_
  refine za_if_neB 15 dX5_feed_6 (by decide) (fun c6 => ?_) (fun c6 => ?_)
  · exact absurd c6 hno
  · refine za_aload_n dX5_feed_9 rfl ?_
    refine za_iconst (nI 0) dX5_feed_10 (by decide) ?_
    refine za_cV1 dX5_feed_11 zm_X5_63 zw_X5_finding zv_X5_finding (c_finding (by decide)) (by decide) rfl rfl rfl (Nat.le_of_ble_eq_true rfl) ?_
    exact za_iret hM dX5_feed_14 ⟨by rfl, by rfl⟩

set_option maxRecDepth 20000 in
set_option maxHeartbeats 4000000 in
theorem c_wipe {g : zG} {S : zSto}  : zEd g 8 yX5_wipe cX5_wipe 2 (some .int) [.ref (zad g 0)] S (some (.int (S.1 22 1))) (zsi S 22 1 (nI 0)) := by
  refine zev_intro (own := RX5) (lv := [some (.ref (zad g 0)), none]) (by decide +kernel) rfl (Nat.le_of_ble_eq_true rfl) rfl (fun C hM hN => ?_)
  refine za_aload_n dX5_wipe_0 rfl ?_
  refine za_getR dX5_wipe_1 zf_X5_29 rfl rfl ?_
  refine za_getI dX5_wipe_4 zf_X5_187 rfl rfl ?_
  refine za_istore_n (lv' := [_, _]) dX5_wipe_7 hN (by decide) rfl ?_
  refine za_aload_n dX5_wipe_8 rfl ?_
  refine za_getR dX5_wipe_9 zf_X5_29 rfl rfl ?_
  refine za_iconst (nI 0) dX5_wipe_12 (by decide) ?_
  refine za_putI dX5_wipe_13 zf_X5_187 zp_X2_1 rfl rfl ?_
  refine za_iload_n dX5_wipe_16 rfl ?_
  exact za_iret hM dX5_wipe_17 ⟨by rfl, by rfl⟩

set_option maxRecDepth 20000 in
set_option maxHeartbeats 4000000 in
theorem c_image {g : zG} {S : zSto} {τ : zTn} (h1 : zHd S 1 τ) : zEd g 8 yX5_image cX5_image 1 (some .int) [.ref (zad g 0)] S (some (.int (nI 1))) (zsi (zpt S 15 τ) 0 3 (nI 1)) := by
  refine zev_intro (own := RX5) (lv := [some (.ref (zad g 0))]) (by decide +kernel) rfl (Nat.le_of_ble_eq_true rfl) rfl (fun C hM hN => ?_)
  refine za_aload_n dX5_image_0 rfl ?_
  refine za_getR dX5_image_1 zf_X5_19 rfl rfl ?_
  refine za_aload_n dX5_image_4 rfl ?_
  refine za_getR dX5_image_5 zf_X5_10 rfl rfl ?_
  refine za_cV1v dX5_image_8 zm_X5_163 zw_X4_become zv_X4_become (tc_becomeH zT15 zT1 (by decide) h1) (by decide) (tn0 zT15) rfl rfl (Nat.le_of_ble_eq_true rfl) ?_
  refine za_aload_n dX5_image_11 rfl ?_
  refine za_iconst (nI 1) dX5_image_12 (by decide) ?_
  refine za_putG dX5_image_13 zf_X5_22 zp_X5_3 rfl rfl (by decide) (by decide) ?_
  refine za_iconst (nI 1) dX5_image_16 (by decide) ?_
  exact za_iret hM dX5_image_17 ⟨by rfl, by rfl⟩

set_option maxRecDepth 20000 in
set_option maxHeartbeats 4000000 in
theorem c_undo_ok {g : zG} {S : zSto} {τ : zTn} (h15 : zHd S 15 τ) (hk : ¬ S.1 0 3 = 0) : zEd g 8 yX5_undo cX5_undo 1 (some .int) [.ref (zad g 0)] S (some (.int (τ 0 3))) (zpt S 1 τ) := by
  refine zev_intro (own := RX5) (lv := [some (.ref (zad g 0))]) (by decide +kernel) rfl (Nat.le_of_ble_eq_true rfl) rfl (fun C hM hN => ?_)
  refine za_aload_n dX5_undo_0 rfl ?_
  refine za_getI dX5_undo_1 zf_X5_22 rfl rfl ?_
  refine za_if_ne 13 dX5_undo_4 (by decide) (fun c4 => ?_) (fun c4 => absurd c4 hk)
  refine za_aload_n dX5_undo_13 rfl ?_
  refine za_getR dX5_undo_14 zf_X5_10 rfl rfl ?_
  refine za_aload_n dX5_undo_17 rfl ?_
  refine za_getR dX5_undo_18 zf_X5_19 rfl rfl ?_
  refine za_cV1v dX5_undo_21 zm_X5_163 zw_X4_become zv_X4_become (tc_becomeH zT1 zT15 (by decide) h15) (by decide) (tn0 zT1) rfl rfl (Nat.le_of_ble_eq_true rfl) ?_
  refine za_aload_n dX5_undo_24 rfl ?_
  refine za_getR dX5_undo_25 zf_X5_10 rfl rfl ?_
  refine zt_getI zT1 dX5_undo_28 zf_X5_175 (by decide) ?_
  exact za_iret hM dX5_undo_31 ⟨by rfl, by rfl⟩

set_option maxRecDepth 20000 in
set_option maxHeartbeats 4000000 in
theorem c_undo_no {g : zG} {S : zSto} (hk : S.1 0 3 = 0) : zEd g 8 yX5_undo cX5_undo 1 (some .int) [.ref (zad g 0)] S (some (.int (zfd 3))) (zfin S 33 3) := by
  refine zev_intro (own := RX5) (lv := [some (.ref (zad g 0))]) (by decide +kernel) rfl (Nat.le_of_ble_eq_true rfl) rfl (fun C hM hN => ?_)
  refine za_aload_n dX5_undo_0 rfl ?_
  refine za_getI dX5_undo_1 zf_X5_22 rfl rfl ?_
  refine za_if_ne 13 dX5_undo_4 (by decide) (fun c4 => absurd hk c4) (fun c4 => ?_)
  refine za_aload_n dX5_undo_7 rfl ?_
  refine za_iconst (nI 3) dX5_undo_8 (by decide) ?_
  refine za_cV1 dX5_undo_9 zm_X5_63 zw_X5_finding zv_X5_finding (c_finding (by decide)) (by decide) rfl rfl rfl (Nat.le_of_ble_eq_true rfl) ?_
  exact za_iret hM dX5_undo_12 ⟨by rfl, by rfl⟩

set_option maxRecDepth 20000 in
set_option maxHeartbeats 4000000 in
theorem c_tear {g : zG} {S : zSto}  : zEd g 8 yX5_tear cX5_tear 2 (some .int) [.ref (zad g 0)] S (some (.int (zb (¬ S.1 0 3 = 0)))) (zsi S 0 3 (nI 0)) := by
  refine zev_intro (own := RX5) (lv := [some (.ref (zad g 0)), none]) (by decide +kernel) rfl (Nat.le_of_ble_eq_true rfl) rfl (fun C hM hN => ?_)
  refine za_aload_n dX5_tear_0 rfl ?_
  refine za_getI dX5_tear_1 zf_X5_22 rfl rfl ?_
  refine za_if_eq 11 dX5_tear_4 (by decide) (fun c4 => ?_) (fun c4 => ?_)
  · refine za_iconst (nI 0) dX5_tear_11 (by decide) ?_
    refine za_istore_n (lv' := [_, _]) dX5_tear_12 hN (by decide) rfl ?_
    refine za_aload_n dX5_tear_13 rfl ?_
    refine za_iconst (nI 0) dX5_tear_14 (by decide) ?_
    refine za_putG dX5_tear_15 zf_X5_22 zp_X5_3 rfl rfl (by decide) (by decide) ?_
    refine za_iload_n dX5_tear_18 rfl ?_
    exact za_iret hM dX5_tear_19 ⟨by (first | rfl | exact congrArg (fun z => some (Value.int z)) (zb_f (fun z => z c4)).symm | exact congrArg (fun z => some (Value.int z)) (zb_1 c4).symm), by (first | rfl | exact congrArg (fun z => some (Value.int z)) (zb_f (fun z => z c4)).symm | exact congrArg (fun z => some (Value.int z)) (zb_1 c4).symm)⟩
  · refine za_iconst (nI 1) dX5_tear_7 (by decide) ?_
    refine za_goto 12 dX5_tear_8 (by decide) ?_
    refine za_istore_n (lv' := [_, _]) dX5_tear_12 hN (by decide) rfl ?_
    refine za_aload_n dX5_tear_13 rfl ?_
    refine za_iconst (nI 0) dX5_tear_14 (by decide) ?_
    refine za_putG dX5_tear_15 zf_X5_22 zp_X5_3 rfl rfl (by decide) (by decide) ?_
    refine za_iload_n dX5_tear_18 rfl ?_
    exact za_iret hM dX5_tear_19 ⟨by (first | rfl | exact congrArg (fun z => some (Value.int z)) (zb_f (fun z => z c4)).symm | exact congrArg (fun z => some (Value.int z)) (zb_1 c4).symm), by (first | rfl | exact congrArg (fun z => some (Value.int z)) (zb_f (fun z => z c4)).symm | exact congrArg (fun z => some (Value.int z)) (zb_1 c4).symm)⟩

def p_cnt (S : zSto) (τ : zTn) (w : Nat) : Int32 := match w with
  | 0 => τ 0 3
  | 1 => S.1 22 1
  | 2 => p_sum (τ 1) 6
  | _ => p_sum (τ 2) 6

set_option maxRecDepth 20000 in
set_option maxHeartbeats 4000000 in
theorem c_count_ok {g : zG} {S : zSto} {τ : zTn} (h1 : zHd S 1 τ) {w : Nat} (hw : w ≤ 3) : zEd g 8 yX5_count cX5_count 2 (some .int) [.ref (zad g 0), .int (nI w)] S (some (.int (p_cnt S τ w))) S := by
  refine zev_intro (own := RX5) (lv := [some (.ref (zad g 0)), some (.int (nI w))]) (by decide +kernel) rfl (Nat.le_of_ble_eq_true rfl) rfl (fun C hM hN => ?_)
  obtain rfl | rfl | rfl | rfl := (show w = 0 ∨ w = 1 ∨ w = 2 ∨ w = 3 by omega)
  · refine za_iload_n dX5_count_0 rfl ?_
    skip
    · refine za_tabK (31) 32 dX5_count_1 (by decide) (by decide) (by decide) (by decide) ?_
      refine za_aload_n dX5_count_32 rfl ?_
      refine za_getR dX5_count_33 zf_X5_10 rfl rfl ?_
      refine zh_getI zT1 (by first | exact h1 | exact zHd_8 h1) dX5_count_36 zf_X5_175 (by decide) ?_
      exact za_iret hM dX5_count_39 ⟨by rfl, by rfl⟩
  · refine za_iload_n dX5_count_0 rfl ?_
    skip
    · refine za_tabK (39) 40 dX5_count_1 (by decide) (by decide) (by decide) (by decide) ?_
      refine za_aload_n dX5_count_40 rfl ?_
      refine za_getR dX5_count_41 zf_X5_29 rfl rfl ?_
      refine za_getI dX5_count_44 zf_X5_187 rfl rfl ?_
      exact za_iret hM dX5_count_47 ⟨by rfl, by rfl⟩
  · refine za_iload_n dX5_count_0 rfl ?_
    skip
    · refine za_tabK (47) 48 dX5_count_1 (by decide) (by decide) (by decide) (by decide) ?_
      refine za_aload_n dX5_count_48 rfl ?_
      refine za_getR dX5_count_49 zf_X5_10 rfl rfl ?_
      refine za_iconst (nI 0) dX5_count_52 (by decide) ?_
      refine za_cV1 dX5_count_53 zm_X5_105 zw_X4_allLying zv_X4_allLying (zhold0 h1 (tc_allLying zT1 (by decide))) (by decide) (tn0 zT1) rfl rfl (Nat.le_of_ble_eq_true rfl) ?_
      exact za_iret hM dX5_count_56 ⟨by rfl, by rfl⟩
  · refine za_iload_n dX5_count_0 rfl ?_
    skip
    · refine za_tabK (56) 57 dX5_count_1 (by decide) (by decide) (by decide) (by decide) ?_
      refine za_aload_n dX5_count_57 rfl ?_
      refine za_getR dX5_count_58 zf_X5_10 rfl rfl ?_
      refine za_iconst (nI 1) dX5_count_61 (by decide) ?_
      refine za_cV1 dX5_count_62 zm_X5_105 zw_X4_allLying zv_X4_allLying (zhold0 h1 (tc_allLying zT1 (by decide))) (by decide) (tn0 zT1) rfl rfl (Nat.le_of_ble_eq_true rfl) ?_
      exact za_iret hM dX5_count_65 ⟨by rfl, by rfl⟩

set_option maxRecDepth 20000 in
set_option maxHeartbeats 4000000 in
theorem c_count_no {g : zG} {S : zSto} {w : Int32} (hno : ¬ (nI 0 ≤ w ∧ w ≤ nI 3)) : zEd g 8 yX5_count cX5_count 2 (some .int) [.ref (zad g 0), .int w] S (some (.int (zfd 0))) (zfin S 33 0) := by
  refine zev_intro (own := RX5) (lv := [some (.ref (zad g 0)), some (.int w)]) (by decide +kernel) rfl (Nat.le_of_ble_eq_true rfl) rfl (fun C hM hN => ?_)
  refine za_iload_n dX5_count_0 rfl ?_
  skip
  · refine za_tabO 66 dX5_count_1 (zout hno (by decide)) (by decide) ?_
    refine za_aload_n dX5_count_66 rfl ?_
    refine za_iconst (nI 0) dX5_count_67 (by decide) ?_
    refine za_cV1 dX5_count_68 zm_X5_63 zw_X5_finding zv_X5_finding (c_finding (by decide)) (by decide) rfl rfl rfl (Nat.le_of_ble_eq_true rfl) ?_
    exact za_iret hM dX5_count_71 ⟨by rfl, by rfl⟩

set_option maxRecDepth 20000 in
set_option maxHeartbeats 4000000 in
theorem c_status_all {g : zG} {S : zSto}  : zEd g 8 yX5_status cX5_status 4 (some .int) [.ref (zad g 0), .int (-1)] S (some (.int (p_sum (S.1 33) 7))) S := by
  refine zev_intro (own := RX5) (lv := [some (.ref (zad g 0)), some (.int (-1)), none, none]) (by decide +kernel) rfl (Nat.le_of_ble_eq_true rfl) rfl (fun C hM hN => ?_)
  have hloop : ∀ (m : Nat) (j : Nat), j + m = 7 → zAW g C 8 cX5_status RX5 9 [some (.ref (zad g 0)), some (.int (-1)), some (.int (p_sum (S.1 33) j)), some (.int (nI j))] [] S := by
    intro m
    induction m with
    | zero =>
      intro j hj
      obtain rfl : j = 7 := by omega
      refine za_iload_n dX5_status_9 rfl ?_
      refine za_bipush (nI 7) dX5_status_10 (by decide) ?_
      refine za_icmp_ge 30 dX5_status_12 (by decide) (fun c12 => ?_) (fun c12 => absurd (by decide) c12)
      refine za_iload_n dX5_status_30 rfl ?_
      exact za_iret hM dX5_status_31 ⟨by rfl, by rfl⟩
    | succ m ih =>
      intro j hj
      refine za_iload_n dX5_status_9 rfl ?_
      refine za_bipush (nI 7) dX5_status_10 (by decide) ?_
      refine za_icmp_ge 30 dX5_status_12 (by decide) (fun c12 => absurd c12 (nI_ge (show j < 7 by omega) (by decide))) (fun c12 => ?_)
      refine za_iload_n dX5_status_15 rfl ?_
      refine za_aload_n dX5_status_16 rfl ?_
      refine za_getR dX5_status_17 zf_X5_49 rfl rfl ?_
      refine za_iload_n dX5_status_20 rfl ?_
      refine za_iald dX5_status_21 rfl (by omega) ?_
      refine za_iadd dX5_status_22 ?_
      refine za_istore_n (lv' := [_, _, _, _]) dX5_status_23 hN (by decide) rfl ?_
      refine za_iinc (nI (_ + 1)) (lv' := [_, _, _, _]) dX5_status_24 rfl hN (by decide) (znext _) rfl ?_
      refine za_goto 9 dX5_status_27 (by decide) ?_
      exact ih (j + 1) (by omega)
  refine za_iload_n dX5_status_0 rfl ?_
  refine za_iconst (-1) dX5_status_1 (by decide) ?_
  refine za_icmp_ne 32 dX5_status_2 (by decide) (fun c2 => absurd rfl c2) (fun c2 => ?_)
  refine za_iconst (nI 0) dX5_status_5 (by decide) ?_
  refine za_istore_n (lv' := [_, _, _, _]) dX5_status_6 hN (by decide) rfl ?_
  refine za_iconst (nI 0) dX5_status_7 (by decide) ?_
  refine za_istore_n (lv' := [_, _, _, _]) dX5_status_8 hN (by decide) rfl ?_
  exact hloop 7 0 rfl

set_option maxRecDepth 20000 in
set_option maxHeartbeats 4000000 in
theorem c_status_ok {g : zG} {S : zSto} {k : Nat} (hk : k < 7) : zEd g 8 yX5_status cX5_status 4 (some .int) [.ref (zad g 0), .int (nI k)] S (some (.int (S.1 33 k))) S := by
  refine zev_intro (own := RX5) (lv := [some (.ref (zad g 0)), some (.int (nI k)), none, none]) (by decide +kernel) rfl (Nat.le_of_ble_eq_true rfl) rfl (fun C hM hN => ?_)
  refine za_iload_n dX5_status_0 rfl ?_
  refine za_iconst (-1) dX5_status_1 (by decide) ?_
  refine za_icmp_ne 32 dX5_status_2 (by decide) (fun c2 => ?_) (fun c2 => absurd c2 (fun z => absurd (z ▸ nI_pos' (n := k) (by omega)) (by decide)))
  refine za_iload_n dX5_status_32 rfl ?_
  refine za_iconst (nI 0) dX5_status_33 (by decide) ?_
  refine za_bipush (nI 6) dX5_status_34 (by decide) ?_
  refine za_cS3 dX5_status_36 zm_X5_75 zw_X5_isWithin zs_X5_isWithin (e_isWithin _ _ _) (by decide) (Nat.le_of_ble_eq_true rfl) ?_
  refine za_if_neB 48 dX5_status_39 (by decide) (fun c39 => ?_) (fun c39 => absurd (zrng (Nat.zero_le _) (by omega) (by decide)) c39)
  refine za_aload_n dX5_status_48 rfl ?_
  refine za_getR dX5_status_49 zf_X5_49 rfl rfl ?_
  refine za_iload_n dX5_status_52 rfl ?_
  refine za_iald dX5_status_53 rfl hk ?_
  exact za_iret hM dX5_status_54 ⟨by rfl, by rfl⟩

set_option maxRecDepth 20000 in
set_option maxHeartbeats 4000000 in
theorem c_status_no {g : zG} {S : zSto} {w : Int32} (hm : ¬ w = -1) (hno : ¬ (nI 0 ≤ w ∧ w ≤ nI 6)) : zEd g 8 yX5_status cX5_status 4 (some .int) [.ref (zad g 0), .int w] S (some (.int (zfd 0))) (zfin S 33 0) := by
  refine zev_intro (own := RX5) (lv := [some (.ref (zad g 0)), some (.int w), none, none]) (by decide +kernel) rfl (Nat.le_of_ble_eq_true rfl) rfl (fun C hM hN => ?_)
  refine za_iload_n dX5_status_0 rfl ?_
  refine za_iconst (-1) dX5_status_1 (by decide) ?_
  refine za_icmp_ne 32 dX5_status_2 (by decide) (fun c2 => ?_) (fun c2 => absurd c2 hm)
  refine za_iload_n dX5_status_32 rfl ?_
  refine za_iconst (nI 0) dX5_status_33 (by decide) ?_
  refine za_bipush (nI 6) dX5_status_34 (by decide) ?_
  refine za_cS3 dX5_status_36 zm_X5_75 zw_X5_isWithin zs_X5_isWithin (e_isWithin _ _ _) (by decide) (Nat.le_of_ble_eq_true rfl) ?_
  refine za_if_neB 48 dX5_status_39 (by decide) (fun c39 => ?_) (fun c39 => ?_)
  · exact absurd c39 hno
  · refine za_aload_n dX5_status_42 rfl ?_
    refine za_iconst (nI 0) dX5_status_43 (by decide) ?_
    refine za_cV1 dX5_status_44 zm_X5_63 zw_X5_finding zv_X5_finding (c_finding (by decide)) (by decide) rfl rfl rfl (Nat.le_of_ble_eq_true rfl) ?_
    exact za_iret hM dX5_status_47 ⟨by rfl, by rfl⟩

set_option maxRecDepth 20000 in
set_option maxHeartbeats 4000000 in
theorem c_sheet_ok {g : zG} {S : zSto} {s n : Nat} {b : Int32} (hs : s < 4) (hb : zbits b) (hn : n ≤ 40) : zEd g 8 yX5_sheet cX5_sheet 4 (some .int) [.ref (zad g 0), .int (nI s), .int b, .int (nI n)] S (some (.int (zsz b (nI n)))) (zrz (zsi (zsi S 31 s b) 32 s (zsz b (nI n))) (27 + s) 0 40) := by
  refine zev_intro (own := RX5) (lv := [some (.ref (zad g 0)), some (.int (nI s)), some (.int b), some (.int (nI n))]) (by decide +kernel) rfl (Nat.le_of_ble_eq_true rfl) rfl (fun C hM hN => ?_)
  refine za_iload_n dX5_sheet_0 rfl ?_
  refine za_cS1 dX5_sheet_1 zm_X5_193 zw_X5_isSheet zs_X5_isSheet (e_isSheet _) (by decide) (Nat.le_of_ble_eq_true rfl) ?_
  refine za_if_eqB 14 dX5_sheet_4 (by decide) (fun c4 => absurd (zrng (Nat.zero_le _) (by omega) (by decide)) c4) (fun c4 => ?_)
  refine za_iload_n dX5_sheet_7 rfl ?_
  refine za_cS1 dX5_sheet_8 zm_X5_196 zw_X1_areBits zs_X1_areBits (s_areBits) (by decide) (Nat.le_of_ble_eq_true rfl) ?_
  refine za_if_neB 20 dX5_sheet_11 (by decide) (fun c11 => ?_) (fun c11 => absurd hb c11)
  refine za_iload_n dX5_sheet_20 rfl ?_
  refine za_if_ge 31 dX5_sheet_21 (by decide) (fun c21 => ?_) (fun c21 => absurd (nI_pos' (by omega)) c21)
  refine za_iload_n dX5_sheet_31 rfl ?_
  refine za_bipush (nI 40) dX5_sheet_32 (by decide) ?_
  refine za_icmp_le 43 dX5_sheet_34 (by decide) (fun c34 => ?_) (fun c34 => absurd (nI_le hn (by decide)) c34)
  refine za_aload_n dX5_sheet_43 rfl ?_
  refine za_getR dX5_sheet_44 zf_X5_45 rfl rfl ?_
  refine za_iload_n dX5_sheet_47 rfl ?_
  refine za_iload_n dX5_sheet_48 rfl ?_
  refine za_iload_n dX5_sheet_49 rfl ?_
  refine za_cV3v dX5_sheet_50 zm_X5_199 zw_X1_make zv_X1_make (s_make hs) (by decide) rfl rfl rfl (Nat.le_of_ble_eq_true rfl) ?_
  refine za_aload_n dX5_sheet_53 rfl ?_
  refine za_getR dX5_sheet_54 zf_X5_45 rfl rfl ?_
  refine za_getR dX5_sheet_57 zf_X5_202 rfl rfl ?_
  refine za_iload_n dX5_sheet_60 rfl ?_
  refine za_iald dX5_sheet_61 rfl hs ?_
  rw [show (zrz (zsi (zsi S 31 s b) 32 s (zsz b (nI n))) (27 + s) 0 40).1 32 s = zsz b (nI n) by simp [zrz, zsi]]
  exact za_iret hM dX5_sheet_62 ⟨by rfl, by rfl⟩

set_option maxRecDepth 20000 in
set_option maxHeartbeats 4000000 in
theorem c_sheet_no {g : zG} {S : zSto} {s b n : Int32} (hno : ¬ ((nI 0 ≤ s ∧ s ≤ nI 3) ∧ zbits b)) : zEd g 8 yX5_sheet cX5_sheet 4 (some .int) [.ref (zad g 0), .int s, .int b, .int n] S (some (.int (zfd 0))) (zfin S 33 0) := by
  refine zev_intro (own := RX5) (lv := [some (.ref (zad g 0)), some (.int s), some (.int b), some (.int n)]) (by decide +kernel) rfl (Nat.le_of_ble_eq_true rfl) rfl (fun C hM hN => ?_)
  refine za_iload_n dX5_sheet_0 rfl ?_
  refine za_cS1 dX5_sheet_1 zm_X5_193 zw_X5_isSheet zs_X5_isSheet (e_isSheet _) (by decide) (Nat.le_of_ble_eq_true rfl) ?_
  refine za_if_eqB 14 dX5_sheet_4 (by decide) (fun c4 => ?_) (fun c4 => ?_)
  · refine za_aload_n dX5_sheet_14 rfl ?_
    refine za_iconst (nI 0) dX5_sheet_15 (by decide) ?_
    refine za_cV1 dX5_sheet_16 zm_X5_63 zw_X5_finding zv_X5_finding (c_finding (by decide)) (by decide) rfl rfl rfl (Nat.le_of_ble_eq_true rfl) ?_
    exact za_iret hM dX5_sheet_19 ⟨by rfl, by rfl⟩
  · refine za_iload_n dX5_sheet_7 rfl ?_
    refine za_cS1 dX5_sheet_8 zm_X5_196 zw_X1_areBits zs_X1_areBits (s_areBits) (by decide) (Nat.le_of_ble_eq_true rfl) ?_
    refine za_if_neB 20 dX5_sheet_11 (by decide) (fun c11 => ?_) (fun c11 => ?_)
    · exact absurd ⟨c4, c11⟩ hno
    · refine za_aload_n dX5_sheet_14 rfl ?_
      refine za_iconst (nI 0) dX5_sheet_15 (by decide) ?_
      refine za_cV1 dX5_sheet_16 zm_X5_63 zw_X5_finding zv_X5_finding (c_finding (by decide)) (by decide) rfl rfl rfl (Nat.le_of_ble_eq_true rfl) ?_
      exact za_iret hM dX5_sheet_19 ⟨by rfl, by rfl⟩

set_option maxRecDepth 20000 in
set_option maxHeartbeats 4000000 in
theorem c_sheet_size {g : zG} {S : zSto} {s b n : Int32} (hs : nI 0 ≤ s ∧ s ≤ nI 3) (hb : zbits b) (hn : ¬ 0 ≤ n) : zEd g 8 yX5_sheet cX5_sheet 4 (some .int) [.ref (zad g 0), .int s, .int b, .int n] S (some (.int (zfd 6))) (zfin S 33 6) := by
  refine zev_intro (own := RX5) (lv := [some (.ref (zad g 0)), some (.int s), some (.int b), some (.int n)]) (by decide +kernel) rfl (Nat.le_of_ble_eq_true rfl) rfl (fun C hM hN => ?_)
  refine za_iload_n dX5_sheet_0 rfl ?_
  refine za_cS1 dX5_sheet_1 zm_X5_193 zw_X5_isSheet zs_X5_isSheet (e_isSheet _) (by decide) (Nat.le_of_ble_eq_true rfl) ?_
  refine za_if_eqB 14 dX5_sheet_4 (by decide) (fun c4 => absurd hs c4) (fun c4 => ?_)
  refine za_iload_n dX5_sheet_7 rfl ?_
  refine za_cS1 dX5_sheet_8 zm_X5_196 zw_X1_areBits zs_X1_areBits (s_areBits) (by decide) (Nat.le_of_ble_eq_true rfl) ?_
  refine za_if_neB 20 dX5_sheet_11 (by decide) (fun c11 => ?_) (fun c11 => absurd hb c11)
  refine za_iload_n dX5_sheet_20 rfl ?_
  refine za_if_ge 31 dX5_sheet_21 (by decide) (fun c21 => absurd c21 hn) (fun c21 => ?_)
  refine za_aload_n dX5_sheet_24 rfl ?_
  refine za_bipush (nI 6) dX5_sheet_25 (by decide) ?_
  refine za_cV1 dX5_sheet_27 zm_X5_63 zw_X5_finding zv_X5_finding (c_finding (by decide)) (by decide) rfl rfl rfl (Nat.le_of_ble_eq_true rfl) ?_
  exact za_iret hM dX5_sheet_30 ⟨by rfl, by rfl⟩

set_option maxRecDepth 20000 in
set_option maxHeartbeats 4000000 in
theorem c_sheet_big {g : zG} {S : zSto} {s b n : Int32} (hs : nI 0 ≤ s ∧ s ≤ nI 3) (hb : zbits b) (hn : 0 ≤ n) (hn2 : ¬ n ≤ nI 40) : zEd g 8 yX5_sheet cX5_sheet 4 (some .int) [.ref (zad g 0), .int s, .int b, .int n] S (some (.int (zfd 0))) (zfin S 33 0) := by
  refine zev_intro (own := RX5) (lv := [some (.ref (zad g 0)), some (.int s), some (.int b), some (.int n)]) (by decide +kernel) rfl (Nat.le_of_ble_eq_true rfl) rfl (fun C hM hN => ?_)
  refine za_iload_n dX5_sheet_0 rfl ?_
  refine za_cS1 dX5_sheet_1 zm_X5_193 zw_X5_isSheet zs_X5_isSheet (e_isSheet _) (by decide) (Nat.le_of_ble_eq_true rfl) ?_
  refine za_if_eqB 14 dX5_sheet_4 (by decide) (fun c4 => absurd hs c4) (fun c4 => ?_)
  refine za_iload_n dX5_sheet_7 rfl ?_
  refine za_cS1 dX5_sheet_8 zm_X5_196 zw_X1_areBits zs_X1_areBits (s_areBits) (by decide) (Nat.le_of_ble_eq_true rfl) ?_
  refine za_if_neB 20 dX5_sheet_11 (by decide) (fun c11 => ?_) (fun c11 => absurd hb c11)
  refine za_iload_n dX5_sheet_20 rfl ?_
  refine za_if_ge 31 dX5_sheet_21 (by decide) (fun c21 => ?_) (fun c21 => absurd hn c21)
  refine za_iload_n dX5_sheet_31 rfl ?_
  refine za_bipush (nI 40) dX5_sheet_32 (by decide) ?_
  refine za_icmp_le 43 dX5_sheet_34 (by decide) (fun c34 => absurd c34 hn2) (fun c34 => ?_)
  refine za_aload_n dX5_sheet_37 rfl ?_
  refine za_iconst (nI 0) dX5_sheet_38 (by decide) ?_
  refine za_cV1 dX5_sheet_39 zm_X5_63 zw_X5_finding zv_X5_finding (c_finding (by decide)) (by decide) rfl rfl rfl (Nat.le_of_ble_eq_true rfl) ?_
  exact za_iret hM dX5_sheet_42 ⟨by rfl, by rfl⟩

set_option maxRecDepth 20000 in
set_option maxHeartbeats 4000000 in
theorem c_write_ok {g : zG} {S : zSto} {s : Nat} (hs : s < 4) (hb : ¬ S.1 31 s = 0) {n i : Nat} {v : Int64} (hn : S.1 32 s = nI n) (hn1 : n ≤ 40) (hi : i < n) : zEd g 8 yX5_write cX5_write 7 (some .long) [.ref (zad g 0), .int (nI s), .int (nI i), .long v] S (some (.long (S.2 (27 + s) i))) (zsl S (27 + s) i (znar (S.1 31 s) v)) := by
  refine zev_intro (own := RX5) (lv := [some (.ref (zad g 0)), some (.int (nI s)), some (.int (nI i)), some (.long v), none, none, none]) (by decide +kernel) rfl (Nat.le_of_ble_eq_true rfl) rfl (fun C hM hN => ?_)
  refine za_iload_n dX5_write_0 rfl ?_
  refine za_cS1 dX5_write_1 zm_X5_193 zw_X5_isSheet zs_X5_isSheet (e_isSheet _) (by decide) (Nat.le_of_ble_eq_true rfl) ?_
  refine za_if_neB 14 dX5_write_4 (by decide) (fun c4 => ?_) (fun c4 => absurd (zrng (Nat.zero_le _) (by omega) (by decide)) c4)
  refine za_aload_n dX5_write_14 rfl ?_
  refine za_getR dX5_write_15 zf_X5_45 rfl rfl ?_
  refine za_iload_n dX5_write_18 rfl ?_
  refine za_cV1 dX5_write_19 zm_X5_205 zw_X1_isMissing zv_X1_isMissing (s_isMissing hs) (by decide) rfl rfl rfl (Nat.le_of_ble_eq_true rfl) ?_
  refine za_if_eqB 32 dX5_write_22 (by decide) (fun c22 => ?_) (fun c22 => absurd c22 hb)
  refine za_iload_n dX5_write_32 rfl ?_
  refine za_iconst (nI 0) dX5_write_33 (by decide) ?_
  refine za_aload_n dX5_write_34 rfl ?_
  refine za_getR dX5_write_35 zf_X5_45 rfl rfl ?_
  refine za_getR dX5_write_38 zf_X5_202 rfl rfl ?_
  refine za_iload_n dX5_write_41 rfl ?_
  refine za_iald dX5_write_42 rfl (by omega) ?_
  refine za_iconst (nI 1) dX5_write_43 (by decide) ?_
  refine za_isub dX5_write_44 ?_
  refine za_cS3 dX5_write_45 zm_X5_75 zw_X5_isWithin zs_X5_isWithin (e_isWithin _ _ _) (by decide) (Nat.le_of_ble_eq_true rfl) ?_
  refine za_if_neB 58 dX5_write_48 (by decide) (fun c48 => ?_) (fun c48 => absurd (zperN hn (by omega) hi) c48)
  refine za_aload_n dX5_write_58 rfl ?_
  refine za_getR dX5_write_59 zf_X5_45 rfl rfl ?_
  refine za_getR dX5_write_62 zf_X5_208 rfl rfl ?_
  refine za_iload_n dX5_write_65 rfl ?_
  refine za_aald dX5_write_66 rfl (z27 hs) (by omega) ?_
  refine za_iload_n dX5_write_67 rfl ?_
  refine za_lald dX5_write_68 (z27s hs) (by omega) ?_
  refine za_lstore (lv' := [_, _, _, _, _, _, _]) dX5_write_69 hN (by decide) rfl ?_
  refine za_aload_n dX5_write_71 rfl ?_
  refine za_getR dX5_write_72 zf_X5_45 rfl rfl ?_
  refine za_iload_n dX5_write_75 rfl ?_
  refine za_iload_n dX5_write_76 rfl ?_
  refine za_lload_n dX5_write_77 rfl ?_
  refine za_cV3v dX5_write_78 zm_X5_212 zw_X1_put zv_X1_put (s_put hs (by omega)) (by decide) rfl rfl rfl (Nat.le_of_ble_eq_true rfl) ?_
  refine za_lload dX5_write_81 rfl ?_
  exact za_lret hM dX5_write_83 ⟨by rfl, by rfl⟩

set_option maxRecDepth 20000 in
set_option maxHeartbeats 4000000 in
theorem c_write_no {g : zG} {S : zSto} {s i : Int32} {v : Int64} (hno : ¬ (nI 0 ≤ s ∧ s ≤ nI 3)) : zEd g 8 yX5_write cX5_write 7 (some .long) [.ref (zad g 0), .int s, .int i, .long v] S (some (.long (zfd 0).toInt64)) (zfin S 33 0) := by
  refine zev_intro (own := RX5) (lv := [some (.ref (zad g 0)), some (.int s), some (.int i), some (.long v), none, none, none]) (by decide +kernel) rfl (Nat.le_of_ble_eq_true rfl) rfl (fun C hM hN => ?_)
  refine za_iload_n dX5_write_0 rfl ?_
  refine za_cS1 dX5_write_1 zm_X5_193 zw_X5_isSheet zs_X5_isSheet (e_isSheet _) (by decide) (Nat.le_of_ble_eq_true rfl) ?_
  refine za_if_neB 14 dX5_write_4 (by decide) (fun c4 => ?_) (fun c4 => ?_)
  · exact absurd c4 hno
  · refine za_aload_n dX5_write_7 rfl ?_
    refine za_iconst (nI 0) dX5_write_8 (by decide) ?_
    refine za_cV1 dX5_write_9 zm_X5_63 zw_X5_finding zv_X5_finding (c_finding (by decide)) (by decide) rfl rfl rfl (Nat.le_of_ble_eq_true rfl) ?_
    refine za_i2l dX5_write_12 ?_
    exact za_lret hM dX5_write_13 ⟨by rfl, by rfl⟩

set_option maxRecDepth 20000 in
set_option maxHeartbeats 4000000 in
theorem c_write_mis {g : zG} {S : zSto} {s : Nat} (hs : s < 4) (hb : S.1 31 s = 0) {i : Int32} {v : Int64} : zEd g 8 yX5_write cX5_write 7 (some .long) [.ref (zad g 0), .int (nI s), .int i, .long v] S (some (.long (zfd 5).toInt64)) (zfin S 33 5) := by
  refine zev_intro (own := RX5) (lv := [some (.ref (zad g 0)), some (.int (nI s)), some (.int i), some (.long v), none, none, none]) (by decide +kernel) rfl (Nat.le_of_ble_eq_true rfl) rfl (fun C hM hN => ?_)
  refine za_iload_n dX5_write_0 rfl ?_
  refine za_cS1 dX5_write_1 zm_X5_193 zw_X5_isSheet zs_X5_isSheet (e_isSheet _) (by decide) (Nat.le_of_ble_eq_true rfl) ?_
  refine za_if_neB 14 dX5_write_4 (by decide) (fun c4 => ?_) (fun c4 => absurd (zrng (Nat.zero_le _) (by omega) (by decide)) c4)
  refine za_aload_n dX5_write_14 rfl ?_
  refine za_getR dX5_write_15 zf_X5_45 rfl rfl ?_
  refine za_iload_n dX5_write_18 rfl ?_
  refine za_cV1 dX5_write_19 zm_X5_205 zw_X1_isMissing zv_X1_isMissing (s_isMissing hs) (by decide) rfl rfl rfl (Nat.le_of_ble_eq_true rfl) ?_
  refine za_if_eqB 32 dX5_write_22 (by decide) (fun c22 => absurd hb c22) (fun c22 => ?_)
  refine za_aload_n dX5_write_25 rfl ?_
  refine za_iconst (nI 5) dX5_write_26 (by decide) ?_
  refine za_cV1 dX5_write_27 zm_X5_63 zw_X5_finding zv_X5_finding (c_finding (by decide)) (by decide) rfl rfl rfl (Nat.le_of_ble_eq_true rfl) ?_
  refine za_i2l dX5_write_30 ?_
  exact za_lret hM dX5_write_31 ⟨by rfl, by rfl⟩

set_option maxRecDepth 20000 in
set_option maxHeartbeats 4000000 in
theorem c_write_out {g : zG} {S : zSto} {s : Nat} (hs : s < 4) (hb : ¬ S.1 31 s = 0) {i : Int32} {v : Int64} (hno : ¬ (nI 0 ≤ i ∧ i ≤ S.1 32 s - nI 1)) : zEd g 8 yX5_write cX5_write 7 (some .long) [.ref (zad g 0), .int (nI s), .int i, .long v] S (some (.long (zfd 0).toInt64)) (zfin S 33 0) := by
  refine zev_intro (own := RX5) (lv := [some (.ref (zad g 0)), some (.int (nI s)), some (.int i), some (.long v), none, none, none]) (by decide +kernel) rfl (Nat.le_of_ble_eq_true rfl) rfl (fun C hM hN => ?_)
  refine za_iload_n dX5_write_0 rfl ?_
  refine za_cS1 dX5_write_1 zm_X5_193 zw_X5_isSheet zs_X5_isSheet (e_isSheet _) (by decide) (Nat.le_of_ble_eq_true rfl) ?_
  refine za_if_neB 14 dX5_write_4 (by decide) (fun c4 => ?_) (fun c4 => absurd (zrng (Nat.zero_le _) (by omega) (by decide)) c4)
  refine za_aload_n dX5_write_14 rfl ?_
  refine za_getR dX5_write_15 zf_X5_45 rfl rfl ?_
  refine za_iload_n dX5_write_18 rfl ?_
  refine za_cV1 dX5_write_19 zm_X5_205 zw_X1_isMissing zv_X1_isMissing (s_isMissing hs) (by decide) rfl rfl rfl (Nat.le_of_ble_eq_true rfl) ?_
  refine za_if_eqB 32 dX5_write_22 (by decide) (fun c22 => ?_) (fun c22 => absurd c22 hb)
  refine za_iload_n dX5_write_32 rfl ?_
  refine za_iconst (nI 0) dX5_write_33 (by decide) ?_
  refine za_aload_n dX5_write_34 rfl ?_
  refine za_getR dX5_write_35 zf_X5_45 rfl rfl ?_
  refine za_getR dX5_write_38 zf_X5_202 rfl rfl ?_
  refine za_iload_n dX5_write_41 rfl ?_
  refine za_iald dX5_write_42 rfl (by omega) ?_
  refine za_iconst (nI 1) dX5_write_43 (by decide) ?_
  refine za_isub dX5_write_44 ?_
  refine za_cS3 dX5_write_45 zm_X5_75 zw_X5_isWithin zs_X5_isWithin (e_isWithin _ _ _) (by decide) (Nat.le_of_ble_eq_true rfl) ?_
  refine za_if_neB 58 dX5_write_48 (by decide) (fun c48 => ?_) (fun c48 => ?_)
  · exact absurd c48 hno
  · refine za_aload_n dX5_write_51 rfl ?_
    refine za_iconst (nI 0) dX5_write_52 (by decide) ?_
    refine za_cV1 dX5_write_53 zm_X5_63 zw_X5_finding zv_X5_finding (c_finding (by decide)) (by decide) rfl rfl rfl (Nat.le_of_ble_eq_true rfl) ?_
    refine za_i2l dX5_write_56 ?_
    exact za_lret hM dX5_write_57 ⟨by rfl, by rfl⟩

set_option maxRecDepth 20000 in
set_option maxHeartbeats 4000000 in
theorem c_copy_no {g : zG} {S : zSto} {s a t b m : Int32} (hno : ¬ ((nI 0 ≤ s ∧ s ≤ nI 3) ∧ (nI 0 ≤ t ∧ t ≤ nI 3))) : zEd g 8 yX5_copy cX5_copy 6 (some .int) [.ref (zad g 0), .int s, .int a, .int t, .int b, .int m] S (some (.int (zfd 0))) (zfin S 33 0) := by
  refine zev_intro (own := RX5) (lv := [some (.ref (zad g 0)), some (.int s), some (.int a), some (.int t), some (.int b), some (.int m)]) (by decide +kernel) rfl (Nat.le_of_ble_eq_true rfl) rfl (fun C hM hN => ?_)
  refine za_iload_n dX5_copy_0 rfl ?_
  refine za_cS1 dX5_copy_1 zm_X5_193 zw_X5_isSheet zs_X5_isSheet (e_isSheet _) (by decide) (Nat.le_of_ble_eq_true rfl) ?_
  refine za_if_eqB 14 dX5_copy_4 (by decide) (fun c4 => ?_) (fun c4 => ?_)
  · refine za_aload_n dX5_copy_14 rfl ?_
    refine za_iconst (nI 0) dX5_copy_15 (by decide) ?_
    refine za_cV1 dX5_copy_16 zm_X5_63 zw_X5_finding zv_X5_finding (c_finding (by decide)) (by decide) rfl rfl rfl (Nat.le_of_ble_eq_true rfl) ?_
    exact za_iret hM dX5_copy_19 ⟨by rfl, by rfl⟩
  · refine za_iload_n dX5_copy_7 rfl ?_
    refine za_cS1 dX5_copy_8 zm_X5_193 zw_X5_isSheet zs_X5_isSheet (e_isSheet _) (by decide) (Nat.le_of_ble_eq_true rfl) ?_
    refine za_if_neB 20 dX5_copy_11 (by decide) (fun c11 => ?_) (fun c11 => ?_)
    · exact absurd ⟨c4, c11⟩ hno
    · refine za_aload_n dX5_copy_14 rfl ?_
      refine za_iconst (nI 0) dX5_copy_15 (by decide) ?_
      refine za_cV1 dX5_copy_16 zm_X5_63 zw_X5_finding zv_X5_finding (c_finding (by decide)) (by decide) rfl rfl rfl (Nat.le_of_ble_eq_true rfl) ?_
      exact za_iret hM dX5_copy_19 ⟨by rfl, by rfl⟩

set_option maxRecDepth 20000 in
set_option maxHeartbeats 4000000 in
theorem c_copy_mis {g : zG} {S : zSto} {s t : Nat} (hs : s < 4) (ht : t < 4) {a b m : Int32} (hno : S.1 31 s = 0 ∨ S.1 31 t = 0) : zEd g 8 yX5_copy cX5_copy 6 (some .int) [.ref (zad g 0), .int (nI s), .int a, .int (nI t), .int b, .int m] S (some (.int (zfd 5))) (zfin S 33 5) := by
  refine zev_intro (own := RX5) (lv := [some (.ref (zad g 0)), some (.int (nI s)), some (.int a), some (.int (nI t)), some (.int b), some (.int m)]) (by decide +kernel) rfl (Nat.le_of_ble_eq_true rfl) rfl (fun C hM hN => ?_)
  refine za_iload_n dX5_copy_0 rfl ?_
  refine za_cS1 dX5_copy_1 zm_X5_193 zw_X5_isSheet zs_X5_isSheet (e_isSheet _) (by decide) (Nat.le_of_ble_eq_true rfl) ?_
  refine za_if_eqB 14 dX5_copy_4 (by decide) (fun c4 => absurd (zrng (Nat.zero_le _) (by omega) (by decide)) c4) (fun c4 => ?_)
  refine za_iload_n dX5_copy_7 rfl ?_
  refine za_cS1 dX5_copy_8 zm_X5_193 zw_X5_isSheet zs_X5_isSheet (e_isSheet _) (by decide) (Nat.le_of_ble_eq_true rfl) ?_
  refine za_if_neB 20 dX5_copy_11 (by decide) (fun c11 => ?_) (fun c11 => absurd (zrng (Nat.zero_le _) (by omega) (by decide)) c11)
  refine za_aload_n dX5_copy_20 rfl ?_
  refine za_getR dX5_copy_21 zf_X5_45 rfl rfl ?_
  refine za_iload_n dX5_copy_24 rfl ?_
  refine za_cV1 dX5_copy_25 zm_X5_205 zw_X1_isMissing zv_X1_isMissing (s_isMissing hs) (by decide) rfl rfl rfl (Nat.le_of_ble_eq_true rfl) ?_
  refine za_if_neB 42 dX5_copy_28 (by decide) (fun c28 => ?_) (fun c28 => ?_)
  · refine za_aload_n dX5_copy_42 rfl ?_
    refine za_iconst (nI 5) dX5_copy_43 (by decide) ?_
    refine za_cV1 dX5_copy_44 zm_X5_63 zw_X5_finding zv_X5_finding (c_finding (by decide)) (by decide) rfl rfl rfl (Nat.le_of_ble_eq_true rfl) ?_
    exact za_iret hM dX5_copy_47 ⟨by rfl, by rfl⟩
  · refine za_aload_n dX5_copy_31 rfl ?_
    refine za_getR dX5_copy_32 zf_X5_45 rfl rfl ?_
    refine za_iload_n dX5_copy_35 rfl ?_
    refine za_cV1 dX5_copy_36 zm_X5_205 zw_X1_isMissing zv_X1_isMissing (s_isMissing ht) (by decide) rfl rfl rfl (Nat.le_of_ble_eq_true rfl) ?_
    refine za_if_eqB 48 dX5_copy_39 (by decide) (fun c39 => ?_) (fun c39 => ?_)
    · exact absurd hno (fun z => z.elim c28 c39)
    · refine za_aload_n dX5_copy_42 rfl ?_
      refine za_iconst (nI 5) dX5_copy_43 (by decide) ?_
      refine za_cV1 dX5_copy_44 zm_X5_63 zw_X5_finding zv_X5_finding (c_finding (by decide)) (by decide) rfl rfl rfl (Nat.le_of_ble_eq_true rfl) ?_
      exact za_iret hM dX5_copy_47 ⟨by rfl, by rfl⟩

set_option maxRecDepth 20000 in
set_option maxHeartbeats 4000000 in
theorem c_copy_kind {g : zG} {S : zSto} {s t : Nat} (hs : s < 4) (ht : t < 4) (hb1 : ¬ S.1 31 s = 0) (hb2 : ¬ S.1 31 t = 0) {a b m : Int32} (hk : ¬ S.1 31 s = S.1 31 t) : zEd g 8 yX5_copy cX5_copy 6 (some .int) [.ref (zad g 0), .int (nI s), .int a, .int (nI t), .int b, .int m] S (some (.int (zfd 2))) (zfin S 33 2) := by
  refine zev_intro (own := RX5) (lv := [some (.ref (zad g 0)), some (.int (nI s)), some (.int a), some (.int (nI t)), some (.int b), some (.int m)]) (by decide +kernel) rfl (Nat.le_of_ble_eq_true rfl) rfl (fun C hM hN => ?_)
  refine za_iload_n dX5_copy_0 rfl ?_
  refine za_cS1 dX5_copy_1 zm_X5_193 zw_X5_isSheet zs_X5_isSheet (e_isSheet _) (by decide) (Nat.le_of_ble_eq_true rfl) ?_
  refine za_if_eqB 14 dX5_copy_4 (by decide) (fun c4 => absurd (zrng (Nat.zero_le _) (by omega) (by decide)) c4) (fun c4 => ?_)
  refine za_iload_n dX5_copy_7 rfl ?_
  refine za_cS1 dX5_copy_8 zm_X5_193 zw_X5_isSheet zs_X5_isSheet (e_isSheet _) (by decide) (Nat.le_of_ble_eq_true rfl) ?_
  refine za_if_neB 20 dX5_copy_11 (by decide) (fun c11 => ?_) (fun c11 => absurd (zrng (Nat.zero_le _) (by omega) (by decide)) c11)
  refine za_aload_n dX5_copy_20 rfl ?_
  refine za_getR dX5_copy_21 zf_X5_45 rfl rfl ?_
  refine za_iload_n dX5_copy_24 rfl ?_
  refine za_cV1 dX5_copy_25 zm_X5_205 zw_X1_isMissing zv_X1_isMissing (s_isMissing hs) (by decide) rfl rfl rfl (Nat.le_of_ble_eq_true rfl) ?_
  refine za_if_neB 42 dX5_copy_28 (by decide) (fun c28 => absurd c28 hb1) (fun c28 => ?_)
  refine za_aload_n dX5_copy_31 rfl ?_
  refine za_getR dX5_copy_32 zf_X5_45 rfl rfl ?_
  refine za_iload_n dX5_copy_35 rfl ?_
  refine za_cV1 dX5_copy_36 zm_X5_205 zw_X1_isMissing zv_X1_isMissing (s_isMissing ht) (by decide) rfl rfl rfl (Nat.le_of_ble_eq_true rfl) ?_
  refine za_if_eqB 48 dX5_copy_39 (by decide) (fun c39 => ?_) (fun c39 => absurd c39 hb2)
  refine za_aload_n dX5_copy_48 rfl ?_
  refine za_getR dX5_copy_49 zf_X5_45 rfl rfl ?_
  refine za_getR dX5_copy_52 zf_X5_216 rfl rfl ?_
  refine za_iload_n dX5_copy_55 rfl ?_
  refine za_iald dX5_copy_56 rfl (by omega) ?_
  refine za_aload_n dX5_copy_57 rfl ?_
  refine za_getR dX5_copy_58 zf_X5_45 rfl rfl ?_
  refine za_getR dX5_copy_61 zf_X5_216 rfl rfl ?_
  refine za_iload_n dX5_copy_64 rfl ?_
  refine za_iald dX5_copy_65 rfl (by omega) ?_
  refine za_icmp_eq 75 dX5_copy_66 (by decide) (fun c66 => absurd c66 hk) (fun c66 => ?_)
  refine za_aload_n dX5_copy_69 rfl ?_
  refine za_iconst (nI 2) dX5_copy_70 (by decide) ?_
  refine za_cV1 dX5_copy_71 zm_X5_63 zw_X5_finding zv_X5_finding (c_finding (by decide)) (by decide) rfl rfl rfl (Nat.le_of_ble_eq_true rfl) ?_
  exact za_iret hM dX5_copy_74 ⟨by rfl, by rfl⟩

set_option maxRecDepth 20000 in
set_option maxHeartbeats 4000000 in
theorem c_copy_out {g : zG} {S : zSto} {s t : Nat} (hs : s < 4) (ht : t < 4) (hb1 : ¬ S.1 31 s = 0) (hb2 : ¬ S.1 31 t = 0) {a b m : Int32} (hk : S.1 31 s = S.1 31 t) (hno : ¬ ((0 ≤ a ∧ 0 ≤ m ∧ a ≤ S.1 32 s ∧ m ≤ S.1 32 s - a) ∧ (0 ≤ b ∧ 0 ≤ m ∧ b ≤ S.1 32 t ∧ m ≤ S.1 32 t - b))) : zEd g 8 yX5_copy cX5_copy 6 (some .int) [.ref (zad g 0), .int (nI s), .int a, .int (nI t), .int b, .int m] S (some (.int (zfd 0))) (zfin S 33 0) := by
  refine zev_intro (own := RX5) (lv := [some (.ref (zad g 0)), some (.int (nI s)), some (.int a), some (.int (nI t)), some (.int b), some (.int m)]) (by decide +kernel) rfl (Nat.le_of_ble_eq_true rfl) rfl (fun C hM hN => ?_)
  refine za_iload_n dX5_copy_0 rfl ?_
  refine za_cS1 dX5_copy_1 zm_X5_193 zw_X5_isSheet zs_X5_isSheet (e_isSheet _) (by decide) (Nat.le_of_ble_eq_true rfl) ?_
  refine za_if_eqB 14 dX5_copy_4 (by decide) (fun c4 => absurd (zrng (Nat.zero_le _) (by omega) (by decide)) c4) (fun c4 => ?_)
  refine za_iload_n dX5_copy_7 rfl ?_
  refine za_cS1 dX5_copy_8 zm_X5_193 zw_X5_isSheet zs_X5_isSheet (e_isSheet _) (by decide) (Nat.le_of_ble_eq_true rfl) ?_
  refine za_if_neB 20 dX5_copy_11 (by decide) (fun c11 => ?_) (fun c11 => absurd (zrng (Nat.zero_le _) (by omega) (by decide)) c11)
  refine za_aload_n dX5_copy_20 rfl ?_
  refine za_getR dX5_copy_21 zf_X5_45 rfl rfl ?_
  refine za_iload_n dX5_copy_24 rfl ?_
  refine za_cV1 dX5_copy_25 zm_X5_205 zw_X1_isMissing zv_X1_isMissing (s_isMissing hs) (by decide) rfl rfl rfl (Nat.le_of_ble_eq_true rfl) ?_
  refine za_if_neB 42 dX5_copy_28 (by decide) (fun c28 => absurd c28 hb1) (fun c28 => ?_)
  refine za_aload_n dX5_copy_31 rfl ?_
  refine za_getR dX5_copy_32 zf_X5_45 rfl rfl ?_
  refine za_iload_n dX5_copy_35 rfl ?_
  refine za_cV1 dX5_copy_36 zm_X5_205 zw_X1_isMissing zv_X1_isMissing (s_isMissing ht) (by decide) rfl rfl rfl (Nat.le_of_ble_eq_true rfl) ?_
  refine za_if_eqB 48 dX5_copy_39 (by decide) (fun c39 => ?_) (fun c39 => absurd c39 hb2)
  refine za_aload_n dX5_copy_48 rfl ?_
  refine za_getR dX5_copy_49 zf_X5_45 rfl rfl ?_
  refine za_getR dX5_copy_52 zf_X5_216 rfl rfl ?_
  refine za_iload_n dX5_copy_55 rfl ?_
  refine za_iald dX5_copy_56 rfl (by omega) ?_
  refine za_aload_n dX5_copy_57 rfl ?_
  refine za_getR dX5_copy_58 zf_X5_45 rfl rfl ?_
  refine za_getR dX5_copy_61 zf_X5_216 rfl rfl ?_
  refine za_iload_n dX5_copy_64 rfl ?_
  refine za_iald dX5_copy_65 rfl (by omega) ?_
  refine za_icmp_eq 75 dX5_copy_66 (by decide) (fun c66 => ?_) (fun c66 => absurd hk c66)
  refine za_aload_n dX5_copy_75 rfl ?_
  refine za_getR dX5_copy_76 zf_X5_45 rfl rfl ?_
  refine za_iload_n dX5_copy_79 rfl ?_
  refine za_iload_n dX5_copy_80 rfl ?_
  refine za_iload dX5_copy_81 rfl ?_
  refine za_cV3 dX5_copy_83 zm_X5_219 zw_X1_hasPart zv_X1_hasPart (s_hasPart hs) (by decide) rfl rfl rfl (Nat.le_of_ble_eq_true rfl) ?_
  refine za_if_eqB 104 dX5_copy_86 (by decide) (fun c86 => ?_) (fun c86 => ?_)
  · refine za_aload_n dX5_copy_104 rfl ?_
    refine za_iconst (nI 0) dX5_copy_105 (by decide) ?_
    refine za_cV1 dX5_copy_106 zm_X5_63 zw_X5_finding zv_X5_finding (c_finding (by decide)) (by decide) rfl rfl rfl (Nat.le_of_ble_eq_true rfl) ?_
    exact za_iret hM dX5_copy_109 ⟨by rfl, by rfl⟩
  · refine za_aload_n dX5_copy_89 rfl ?_
    refine za_getR dX5_copy_90 zf_X5_45 rfl rfl ?_
    refine za_iload_n dX5_copy_93 rfl ?_
    refine za_iload dX5_copy_94 rfl ?_
    refine za_iload dX5_copy_96 rfl ?_
    refine za_cV3 dX5_copy_98 zm_X5_219 zw_X1_hasPart zv_X1_hasPart (s_hasPart ht) (by decide) rfl rfl rfl (Nat.le_of_ble_eq_true rfl) ?_
    refine za_if_neB 110 dX5_copy_101 (by decide) (fun c101 => ?_) (fun c101 => ?_)
    · exact absurd ⟨c86, c101⟩ hno
    · refine za_aload_n dX5_copy_104 rfl ?_
      refine za_iconst (nI 0) dX5_copy_105 (by decide) ?_
      refine za_cV1 dX5_copy_106 zm_X5_63 zw_X5_finding zv_X5_finding (c_finding (by decide)) (by decide) rfl rfl rfl (Nat.le_of_ble_eq_true rfl) ?_
      exact za_iret hM dX5_copy_109 ⟨by rfl, by rfl⟩

theorem zpart {a m n : Nat} {x : Int32} (hx : x = nI n) (hn : n ≤ 40) : (0 ≤ nI a ∧ 0 ≤ nI m ∧ nI a ≤ x ∧ nI m ≤ x - nI a) ↔ (0 ≤ nI a ∧ 0 ≤ nI m ∧ nI a ≤ x ∧ nI m ≤ x - nI a) := Iff.rfl
theorem zpart_mk {a m n : Nat} {x : Int32} (hx : x = nI n) (hn : n ≤ 40) (h : a + m ≤ n) : 0 ≤ nI a ∧ 0 ≤ nI m ∧ nI a ≤ x ∧ nI m ≤ x - nI a := by
  subst hx
  rw [pk_sub (by omega)]
  exact ⟨nI_pos' (by omega), nI_pos' (by omega), nI_le (by omega) (by omega), nI_le (by omega) (by omega)⟩
theorem zpart_inv {a m x : Int32} {n : Nat} (hx : x = nI n) (hn : n ≤ 40) (h : 0 ≤ a ∧ 0 ≤ m ∧ a ≤ x ∧ m ≤ x - a) : ∃ a' m' : Nat, a = nI a' ∧ m = nI m' ∧ a' + m' ≤ n := by
  subst hx
  obtain ⟨h1, h2, h3, h4⟩ := h
  obtain ⟨a', -, ha, rfl⟩ := zrng_inv (a := 0) (b := n) ⟨h1, h3⟩ (by omega) (Nat.zero_le _)
  rw [pk_sub ha] at h4
  obtain ⟨m', -, hm, rfl⟩ := zrng_inv (a := 0) (b := n - a') ⟨h2, h4⟩ (by omega) (Nat.zero_le _)
  exact ⟨a', m', rfl, rfl, by omega⟩

set_option maxRecDepth 20000 in
set_option maxHeartbeats 4000000 in
theorem c_copy_ok {g : zG} {S : zSto} {s t : Nat} (hs : s < 4) (ht : t < 4) (hb1 : ¬ S.1 31 s = 0) (hb2 : ¬ S.1 31 t = 0) {a b m ns nt : Nat} (hk : S.1 31 s = S.1 31 t) (hn : S.1 32 s = nI ns) (hn1 : ns ≤ 40) (hm : S.1 32 t = nI nt) (hm1 : nt ≤ 40) (h1 : a + m ≤ ns) (h2 : b + m ≤ nt) : zEd g 8 yX5_copy cX5_copy 6 (some .int) [.ref (zad g 0), .int (nI s), .int (nI a), .int (nI t), .int (nI b), .int (nI m)] S (some (.int (nI m))) (zcl S (27 + s) (27 + t) a b m) := by
  refine zev_intro (own := RX5) (lv := [some (.ref (zad g 0)), some (.int (nI s)), some (.int (nI a)), some (.int (nI t)), some (.int (nI b)), some (.int (nI m))]) (by decide +kernel) rfl (Nat.le_of_ble_eq_true rfl) rfl (fun C hM hN => ?_)
  refine za_iload_n dX5_copy_0 rfl ?_
  refine za_cS1 dX5_copy_1 zm_X5_193 zw_X5_isSheet zs_X5_isSheet (e_isSheet _) (by decide) (Nat.le_of_ble_eq_true rfl) ?_
  refine za_if_eqB 14 dX5_copy_4 (by decide) (fun c4 => absurd (zrng (Nat.zero_le _) (by omega) (by decide)) c4) (fun c4 => ?_)
  refine za_iload_n dX5_copy_7 rfl ?_
  refine za_cS1 dX5_copy_8 zm_X5_193 zw_X5_isSheet zs_X5_isSheet (e_isSheet _) (by decide) (Nat.le_of_ble_eq_true rfl) ?_
  refine za_if_neB 20 dX5_copy_11 (by decide) (fun c11 => ?_) (fun c11 => absurd (zrng (Nat.zero_le _) (by omega) (by decide)) c11)
  refine za_aload_n dX5_copy_20 rfl ?_
  refine za_getR dX5_copy_21 zf_X5_45 rfl rfl ?_
  refine za_iload_n dX5_copy_24 rfl ?_
  refine za_cV1 dX5_copy_25 zm_X5_205 zw_X1_isMissing zv_X1_isMissing (s_isMissing hs) (by decide) rfl rfl rfl (Nat.le_of_ble_eq_true rfl) ?_
  refine za_if_neB 42 dX5_copy_28 (by decide) (fun c28 => absurd c28 hb1) (fun c28 => ?_)
  refine za_aload_n dX5_copy_31 rfl ?_
  refine za_getR dX5_copy_32 zf_X5_45 rfl rfl ?_
  refine za_iload_n dX5_copy_35 rfl ?_
  refine za_cV1 dX5_copy_36 zm_X5_205 zw_X1_isMissing zv_X1_isMissing (s_isMissing ht) (by decide) rfl rfl rfl (Nat.le_of_ble_eq_true rfl) ?_
  refine za_if_eqB 48 dX5_copy_39 (by decide) (fun c39 => ?_) (fun c39 => absurd c39 hb2)
  refine za_aload_n dX5_copy_48 rfl ?_
  refine za_getR dX5_copy_49 zf_X5_45 rfl rfl ?_
  refine za_getR dX5_copy_52 zf_X5_216 rfl rfl ?_
  refine za_iload_n dX5_copy_55 rfl ?_
  refine za_iald dX5_copy_56 rfl (by omega) ?_
  refine za_aload_n dX5_copy_57 rfl ?_
  refine za_getR dX5_copy_58 zf_X5_45 rfl rfl ?_
  refine za_getR dX5_copy_61 zf_X5_216 rfl rfl ?_
  refine za_iload_n dX5_copy_64 rfl ?_
  refine za_iald dX5_copy_65 rfl (by omega) ?_
  refine za_icmp_eq 75 dX5_copy_66 (by decide) (fun c66 => ?_) (fun c66 => absurd hk c66)
  refine za_aload_n dX5_copy_75 rfl ?_
  refine za_getR dX5_copy_76 zf_X5_45 rfl rfl ?_
  refine za_iload_n dX5_copy_79 rfl ?_
  refine za_iload_n dX5_copy_80 rfl ?_
  refine za_iload dX5_copy_81 rfl ?_
  refine za_cV3 dX5_copy_83 zm_X5_219 zw_X1_hasPart zv_X1_hasPart (s_hasPart hs) (by decide) rfl rfl rfl (Nat.le_of_ble_eq_true rfl) ?_
  refine za_if_eqB 104 dX5_copy_86 (by decide) (fun c86 => absurd (zpart_mk hn hn1 h1) c86) (fun c86 => ?_)
  refine za_aload_n dX5_copy_89 rfl ?_
  refine za_getR dX5_copy_90 zf_X5_45 rfl rfl ?_
  refine za_iload_n dX5_copy_93 rfl ?_
  refine za_iload dX5_copy_94 rfl ?_
  refine za_iload dX5_copy_96 rfl ?_
  refine za_cV3 dX5_copy_98 zm_X5_219 zw_X1_hasPart zv_X1_hasPart (s_hasPart ht) (by decide) rfl rfl rfl (Nat.le_of_ble_eq_true rfl) ?_
  refine za_if_neB 110 dX5_copy_101 (by decide) (fun c101 => ?_) (fun c101 => absurd (zpart_mk hm hm1 h2) c101)
  refine za_aload_n dX5_copy_110 rfl ?_
  refine za_getR dX5_copy_111 zf_X5_45 rfl rfl ?_
  refine za_getR dX5_copy_114 zf_X5_208 rfl rfl ?_
  refine za_iload_n dX5_copy_117 rfl ?_
  refine za_aald dX5_copy_118 rfl (z27 hs) (by omega) ?_
  refine za_iload_n dX5_copy_119 rfl ?_
  refine za_aload_n dX5_copy_120 rfl ?_
  refine za_getR dX5_copy_121 zf_X5_45 rfl rfl ?_
  refine za_getR dX5_copy_124 zf_X5_208 rfl rfl ?_
  refine za_iload_n dX5_copy_127 rfl ?_
  refine za_aald dX5_copy_128 rfl (z27 ht) (by omega) ?_
  refine za_iload dX5_copy_129 rfl ?_
  refine za_iload dX5_copy_131 rfl ?_
  refine za_copyl dX5_copy_133 zm_X5_222 (z27s hs) (z27s ht) (by omega) (by omega) (by decide) (Nat.le_of_ble_eq_true rfl) ?_
  refine za_iload dX5_copy_136 rfl ?_
  exact za_iret hM dX5_copy_138 ⟨by rfl, by rfl⟩
