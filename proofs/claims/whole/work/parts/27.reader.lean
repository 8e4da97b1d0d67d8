/-! the class's tape, the reader's token -/
def zby (b : Nat) : Int32 := (nI b).toInt8.toInt32
def zTp (S : zSto) (B : Nat → Nat) (L : Nat) : Prop := S.1 22 1 = nI L ∧ L ≤ 120 ∧ ∀ i, i < L → B i < 256 ∧ S.1 23 i = zby (B i)
def zRd (S : zSto) (B : Nat → Nat) (L s : Nat) : Prop := s ≤ L ∧ S.1 24 2 = nI s ∧ S.1 24 3 = nI (l_te B L s) ∧ S.1 24 4 = nI (l_K B L s) ∧ (l_K B L s = 2 → S.1 24 5 = nI (l_v B L s))
/-- only the reader differs -/
def zN (S S' : zSto) : Prop := (∀ x i, x ≠ 24 → S'.1 x i = S.1 x i) ∧ S'.2 = S.2
theorem zN_rf {S : zSto} : zN S S := ⟨fun _ _ _ => rfl, rfl⟩
theorem zN_tr {S S' S'' : zSto} (h : zN S S') (h' : zN S' S'') : zN S S'' := ⟨fun x i hx => (h'.1 x i hx).trans (h.1 x i hx), h'.2.trans h.2⟩
theorem zN_si {S S' : zSto} {i : Nat} {v : Int32} (h : zN S S') : zN S (zsi S' 24 i v) := ⟨fun x j hx => by rw [show (zsi S' 24 i v).1 x j = S'.1 x j from if_neg (fun z => hx z.1)]; exact h.1 x j hx, h.2⟩
theorem zN_J {S S' : zSto} (h : zN S S') : zJ S S' := ⟨fun x i hx => h.1 x i (fun z => hx (Or.inr (Or.inl z))), fun x _ => by rw [h.2]⟩
theorem zTp_N {S S' : zSto} {B : Nat → Nat} {L : Nat} (h : zTp S B L) (hN : zN S S') : zTp S' B L := ⟨(hN.1 22 1 (by decide)).trans h.1, h.2.1, fun i hi => ⟨(h.2.2 i hi).1, (hN.1 23 i (by decide)).trans (h.2.2 i hi).2⟩⟩
theorem zTp_J {S S' : zSto} {B : Nat → Nat} {L : Nat} (h : zTp S B L) (hJ : zJ S S') : zTp S' B L := ⟨(hJ.1 22 1 (by omega)).trans h.1, h.2.1, fun i hi => ⟨(h.2.2 i hi).1, (hJ.1 23 i (by omega)).trans (h.2.2 i hi).2⟩⟩
theorem zHd_N {S S' : zSto} {τ : zTn} (h : zHd S 8 τ) (hN : zN S S') : zHd S' 8 τ := by
  unfold zHd
  refine Prod.ext (funext fun a => funext fun b => ?_) rfl
  show (if 8 ≤ a ∧ zvl (a - 8) b then τ (a - 8) b else S'.1 a b) = S'.1 a b
  by_cases h1 : 8 ≤ a ∧ zvl (a - 8) b
  · have h7 : a - 8 < 7 := by rcases h1.2 with q | q | q <;> omega
    rw [if_pos h1, hN.1 a b (by omega)]
    have e := zHd_at h h1.2
    rw [show 8 + (a - 8) = a by omega] at e
    exact e.symm
  · rw [if_neg h1]
theorem zTp_8 {S : zSto} {B : Nat → Nat} {L : Nat} {t : zTn} (h : zTp S B L) : zTp (zpt S 8 t) B L := zTp_J h zJ_8
theorem zRd_8 {S : zSto} {B : Nat → Nat} {L s : Nat} {t : zTn} (h : zRd S B L s) : zRd (zpt S 8 t) B L s := h
theorem zsi_self {S : zSto} {o i : Nat} {v : Int32} (h : S.1 o i = v) : zsi S o i v = S := by
  subst h
  refine Prod.ext (funext fun a => funext fun b => ?_) rfl
  show (if a = o ∧ b = i then S.1 o i else S.1 a b) = S.1 a b
  by_cases h : a = o ∧ b = i
  · rw [if_pos h, h.1, h.2]
  · rw [if_neg h]
theorem zsi_zsi {S : zSto} {o i : Nat} {v w : Int32} : zsi (zsi S o i v) o i w = zsi S o i w := by
  refine Prod.ext (funext fun a => funext fun b => ?_) rfl
  show (if a = o ∧ b = i then w else if a = o ∧ b = i then v else S.1 a b) = (if a = o ∧ b = i then w else S.1 a b)
  by_cases h : a = o ∧ b = i
  · rw [if_pos h, if_pos h]
  · rw [if_neg h, if_neg h, if_neg h]
theorem zsi_comm {S : zSto} {o i o' i' : Nat} {v w : Int32} (hne : ¬ (o = o' ∧ i = i')) : zsi (zsi S o i v) o' i' w = zsi (zsi S o' i' w) o i v := by
  refine Prod.ext (funext fun a => funext fun b => ?_) rfl
  show (if a = o' ∧ b = i' then w else if a = o ∧ b = i then v else S.1 a b) = (if a = o ∧ b = i then v else if a = o' ∧ b = i' then w else S.1 a b)
  by_cases h : a = o' ∧ b = i'
  · rw [if_pos h, if_neg (fun z => hne ⟨z.1.symm.trans h.1, z.2.symm.trans h.2⟩), if_pos h]
  · rw [if_neg h]
    by_cases h2 : a = o ∧ b = i
    · rw [if_pos h2, if_pos h2]
    · rw [if_neg h2, if_neg h2, if_neg h]
theorem zby_f : ∀ b : Fin 256, ((zby b.val = nI 32 ↔ b.val = 32) ∧ (zby b.val = nI 59 ↔ b.val = 59)) ∧ ((nI 97 ≤ zby b.val ∧ zby b.val ≤ nI 122) ↔ l_let b.val = true) ∧ ((nI 48 ≤ zby b.val ∧ zby b.val ≤ nI 57) ↔ l_dig b.val = true) ∧ (b.val < 128 → zby b.val = nI b.val) := by decide +kernel
theorem zby_32 {b : Nat} (h : b < 256) : zby b = nI 32 ↔ b = 32 := (zby_f ⟨b, h⟩).1.1
theorem zby_59 {b : Nat} (h : b < 256) : zby b = nI 59 ↔ b = 59 := (zby_f ⟨b, h⟩).1.2
theorem zby_let {b : Nat} (h : b < 256) : (nI 97 ≤ zby b ∧ zby b ≤ nI 122) ↔ l_let b = true := (zby_f ⟨b, h⟩).2.1
theorem zby_dig {b : Nat} (h : b < 256) : (nI 48 ≤ zby b ∧ zby b ≤ nI 57) ↔ l_dig b = true := (zby_f ⟨b, h⟩).2.2.1
theorem zby_n {b : Nat} (h : b < 128) : zby b = nI b := (zby_f ⟨b, by omega⟩).2.2.2 h
theorem l_cv_s {B : Nat → Nat} {s k : Nat} : l_cv B s (k + 1) = min (10 * l_cv B s k + (B (s + k) - 48)) 10000 := rfl
theorem l_let_b {b : Nat} (h : l_let b = true) : 97 ≤ b ∧ b ≤ 122 := of_decide_eq_true h
theorem l_dig_b {b : Nat} (h : l_dig b = true) : 48 ≤ b ∧ b ≤ 57 := of_decide_eq_true h

set_option maxRecDepth 20000 in
set_option maxHeartbeats 4000000 in
theorem r_isLetter {g : zG} {S : zSto} {v : Int32} : zEd g 0 yX3_isLetter cX3_isLetter 1 (some .boolean) [.int v] S (some (.int (zb (nI 97 ≤ v ∧ v ≤ nI 122)))) S := by
  refine zev_intro (own := RX3) (lv := [some (.int v)]) (by decide +kernel) rfl (Nat.le_of_ble_eq_true rfl) rfl (fun C hM hN => ?_)
  refine za_iload_n dX3_isLetter_0 rfl ?_
  refine za_bipush (nI 97) dX3_isLetter_1 (by decide) ?_
  refine za_icmp_lt 16 dX3_isLetter_3 (by decide) (fun c3 => ?_) (fun c3 => ?_)
  · refine za_iconst (nI 0) dX3_isLetter_16 (by decide) ?_
    exact za_zretG hM dX3_isLetter_17 (by decide) ⟨by (first | rfl | exact congrArg (fun z => some (Value.int z)) (zb_1 (c := nI 97 ≤ v ∧ v ≤ nI 122) ⟨Int32.not_lt.mp c3, Int32.not_lt.mp c9⟩).symm | exact congrArg (fun z => some (Value.int z)) (zb_f (c := nI 97 ≤ v ∧ v ≤ nI 122) (fun h => absurd h.1 (Int32.not_le.mpr c3))).symm | exact congrArg (fun z => some (Value.int z)) (zb_f (c := nI 97 ≤ v ∧ v ≤ nI 122) (fun h => absurd h.2 (Int32.not_le.mpr c9))).symm), by (first | rfl | exact congrArg (fun z => some (Value.int z)) (zb_1 (c := nI 97 ≤ v ∧ v ≤ nI 122) ⟨Int32.not_lt.mp c3, Int32.not_lt.mp c9⟩).symm | exact congrArg (fun z => some (Value.int z)) (zb_f (c := nI 97 ≤ v ∧ v ≤ nI 122) (fun h => absurd h.1 (Int32.not_le.mpr c3))).symm | exact congrArg (fun z => some (Value.int z)) (zb_f (c := nI 97 ≤ v ∧ v ≤ nI 122) (fun h => absurd h.2 (Int32.not_le.mpr c9))).symm)⟩
  · refine za_iload_n dX3_isLetter_6 rfl ?_
    refine za_bipush (nI 122) dX3_isLetter_7 (by decide) ?_
    refine za_icmp_gt 16 dX3_isLetter_9 (by decide) (fun c9 => ?_) (fun c9 => ?_)
    · refine za_iconst (nI 0) dX3_isLetter_16 (by decide) ?_
      exact za_zretG hM dX3_isLetter_17 (by decide) ⟨by (first | rfl | exact congrArg (fun z => some (Value.int z)) (zb_1 (c := nI 97 ≤ v ∧ v ≤ nI 122) ⟨Int32.not_lt.mp c3, Int32.not_lt.mp c9⟩).symm | exact congrArg (fun z => some (Value.int z)) (zb_f (c := nI 97 ≤ v ∧ v ≤ nI 122) (fun h => absurd h.1 (Int32.not_le.mpr c3))).symm | exact congrArg (fun z => some (Value.int z)) (zb_f (c := nI 97 ≤ v ∧ v ≤ nI 122) (fun h => absurd h.2 (Int32.not_le.mpr c9))).symm), by (first | rfl | exact congrArg (fun z => some (Value.int z)) (zb_1 (c := nI 97 ≤ v ∧ v ≤ nI 122) ⟨Int32.not_lt.mp c3, Int32.not_lt.mp c9⟩).symm | exact congrArg (fun z => some (Value.int z)) (zb_f (c := nI 97 ≤ v ∧ v ≤ nI 122) (fun h => absurd h.1 (Int32.not_le.mpr c3))).symm | exact congrArg (fun z => some (Value.int z)) (zb_f (c := nI 97 ≤ v ∧ v ≤ nI 122) (fun h => absurd h.2 (Int32.not_le.mpr c9))).symm)⟩
    · refine za_iconst (nI 1) dX3_isLetter_12 (by decide) ?_
      refine za_goto 17 dX3_isLetter_13 (by decide) ?_
      exact za_zretG hM dX3_isLetter_17 (by decide) ⟨by (first | rfl | exact congrArg (fun z => some (Value.int z)) (zb_1 (c := nI 97 ≤ v ∧ v ≤ nI 122) ⟨Int32.not_lt.mp c3, Int32.not_lt.mp c9⟩).symm | exact congrArg (fun z => some (Value.int z)) (zb_f (c := nI 97 ≤ v ∧ v ≤ nI 122) (fun h => absurd h.1 (Int32.not_le.mpr c3))).symm | exact congrArg (fun z => some (Value.int z)) (zb_f (c := nI 97 ≤ v ∧ v ≤ nI 122) (fun h => absurd h.2 (Int32.not_le.mpr c9))).symm), by (first | rfl | exact congrArg (fun z => some (Value.int z)) (zb_1 (c := nI 97 ≤ v ∧ v ≤ nI 122) ⟨Int32.not_lt.mp c3, Int32.not_lt.mp c9⟩).symm | exact congrArg (fun z => some (Value.int z)) (zb_f (c := nI 97 ≤ v ∧ v ≤ nI 122) (fun h => absurd h.1 (Int32.not_le.mpr c3))).symm | exact congrArg (fun z => some (Value.int z)) (zb_f (c := nI 97 ≤ v ∧ v ≤ nI 122) (fun h => absurd h.2 (Int32.not_le.mpr c9))).symm)⟩

set_option maxRecDepth 20000 in
set_option maxHeartbeats 4000000 in
theorem r_isDigit {g : zG} {S : zSto} {v : Int32} : zEd g 0 yX3_isDigit cX3_isDigit 1 (some .boolean) [.int v] S (some (.int (zb (nI 48 ≤ v ∧ v ≤ nI 57)))) S := by
  refine zev_intro (own := RX3) (lv := [some (.int v)]) (by decide +kernel) rfl (Nat.le_of_ble_eq_true rfl) rfl (fun C hM hN => ?_)
  refine za_iload_n dX3_isDigit_0 rfl ?_
  refine za_bipush (nI 48) dX3_isDigit_1 (by decide) ?_
  refine za_icmp_lt 16 dX3_isDigit_3 (by decide) (fun c3 => ?_) (fun c3 => ?_)
  · refine za_iconst (nI 0) dX3_isDigit_16 (by decide) ?_
    exact za_zretG hM dX3_isDigit_17 (by decide) ⟨by (first | rfl | exact congrArg (fun z => some (Value.int z)) (zb_1 (c := nI 48 ≤ v ∧ v ≤ nI 57) ⟨Int32.not_lt.mp c3, Int32.not_lt.mp c9⟩).symm | exact congrArg (fun z => some (Value.int z)) (zb_f (c := nI 48 ≤ v ∧ v ≤ nI 57) (fun h => absurd h.1 (Int32.not_le.mpr c3))).symm | exact congrArg (fun z => some (Value.int z)) (zb_f (c := nI 48 ≤ v ∧ v ≤ nI 57) (fun h => absurd h.2 (Int32.not_le.mpr c9))).symm), by (first | rfl | exact congrArg (fun z => some (Value.int z)) (zb_1 (c := nI 48 ≤ v ∧ v ≤ nI 57) ⟨Int32.not_lt.mp c3, Int32.not_lt.mp c9⟩).symm | exact congrArg (fun z => some (Value.int z)) (zb_f (c := nI 48 ≤ v ∧ v ≤ nI 57) (fun h => absurd h.1 (Int32.not_le.mpr c3))).symm | exact congrArg (fun z => some (Value.int z)) (zb_f (c := nI 48 ≤ v ∧ v ≤ nI 57) (fun h => absurd h.2 (Int32.not_le.mpr c9))).symm)⟩
  · refine za_iload_n dX3_isDigit_6 rfl ?_
    refine za_bipush (nI 57) dX3_isDigit_7 (by decide) ?_
    refine za_icmp_gt 16 dX3_isDigit_9 (by decide) (fun c9 => ?_) (fun c9 => ?_)
    · refine za_iconst (nI 0) dX3_isDigit_16 (by decide) ?_
      exact za_zretG hM dX3_isDigit_17 (by decide) ⟨by (first | rfl | exact congrArg (fun z => some (Value.int z)) (zb_1 (c := nI 48 ≤ v ∧ v ≤ nI 57) ⟨Int32.not_lt.mp c3, Int32.not_lt.mp c9⟩).symm | exact congrArg (fun z => some (Value.int z)) (zb_f (c := nI 48 ≤ v ∧ v ≤ nI 57) (fun h => absurd h.1 (Int32.not_le.mpr c3))).symm | exact congrArg (fun z => some (Value.int z)) (zb_f (c := nI 48 ≤ v ∧ v ≤ nI 57) (fun h => absurd h.2 (Int32.not_le.mpr c9))).symm), by (first | rfl | exact congrArg (fun z => some (Value.int z)) (zb_1 (c := nI 48 ≤ v ∧ v ≤ nI 57) ⟨Int32.not_lt.mp c3, Int32.not_lt.mp c9⟩).symm | exact congrArg (fun z => some (Value.int z)) (zb_f (c := nI 48 ≤ v ∧ v ≤ nI 57) (fun h => absurd h.1 (Int32.not_le.mpr c3))).symm | exact congrArg (fun z => some (Value.int z)) (zb_f (c := nI 48 ≤ v ∧ v ≤ nI 57) (fun h => absurd h.2 (Int32.not_le.mpr c9))).symm)⟩
    · refine za_iconst (nI 1) dX3_isDigit_12 (by decide) ?_
      refine za_goto 17 dX3_isDigit_13 (by decide) ?_
      exact za_zretG hM dX3_isDigit_17 (by decide) ⟨by (first | rfl | exact congrArg (fun z => some (Value.int z)) (zb_1 (c := nI 48 ≤ v ∧ v ≤ nI 57) ⟨Int32.not_lt.mp c3, Int32.not_lt.mp c9⟩).symm | exact congrArg (fun z => some (Value.int z)) (zb_f (c := nI 48 ≤ v ∧ v ≤ nI 57) (fun h => absurd h.1 (Int32.not_le.mpr c3))).symm | exact congrArg (fun z => some (Value.int z)) (zb_f (c := nI 48 ≤ v ∧ v ≤ nI 57) (fun h => absurd h.2 (Int32.not_le.mpr c9))).symm), by (first | rfl | exact congrArg (fun z => some (Value.int z)) (zb_1 (c := nI 48 ≤ v ∧ v ≤ nI 57) ⟨Int32.not_lt.mp c3, Int32.not_lt.mp c9⟩).symm | exact congrArg (fun z => some (Value.int z)) (zb_f (c := nI 48 ≤ v ∧ v ≤ nI 57) (fun h => absurd h.1 (Int32.not_le.mpr c3))).symm | exact congrArg (fun z => some (Value.int z)) (zb_f (c := nI 48 ≤ v ∧ v ≤ nI 57) (fun h => absurd h.2 (Int32.not_le.mpr c9))).symm)⟩

set_option maxRecDepth 20000 in
set_option maxHeartbeats 4000000 in
theorem r_byteAt {g : zG} {S : zSto} {B : Nat → Nat} {L : Nat} (hT : zTp S B L) {i : Nat} (hi : i < L) : zEd g 0 yX3_byteAt cX3_byteAt 2 (some .int) [.ref (zad g 24), .int (nI i)] S (some (.int (zby (B i)))) S := by
  refine zev_intro (own := RX3) (lv := [some (.ref (zad g 24)), some (.int (nI i))]) (by decide +kernel) rfl (Nat.le_of_ble_eq_true rfl) rfl (fun C hM hN => ?_)
  have h120 := hT.2.1
  refine za_iload_n dX3_byteAt_0 rfl ?_
  refine za_if_lt 22 dX3_byteAt_1 (by decide) (fun c1 => absurd c1 (nI_pos (by omega))) (fun c1 => ?_)
  refine za_iload_n dX3_byteAt_4 rfl ?_
  refine za_bipush (nI 120) dX3_byteAt_5 (by decide) ?_
  refine za_icmp_ge 22 dX3_byteAt_7 (by decide) (fun c7 => absurd c7 (nI_ge (by omega) (by decide))) (fun c7 => ?_)
  refine za_aload_n dX3_byteAt_10 rfl ?_
  refine za_getR dX3_byteAt_11 zf_X3_9 rfl rfl ?_
  refine za_getR dX3_byteAt_14 zf_X3_150 rfl rfl ?_
  refine za_iload_n dX3_byteAt_17 rfl ?_
  refine za_bald dX3_byteAt_18 rfl (by omega) ?_
  rw [(hT.2.2 i hi).2]
  refine za_goto 23 dX3_byteAt_19 (by decide) ?_
  exact za_iret hM dX3_byteAt_23 ⟨by rfl, by rfl⟩

set_option maxRecDepth 20000 in
set_option maxHeartbeats 4000000 in
theorem r_nextWord {g : zG} {S : zSto} {B : Nat → Nat} {L : Nat} (hT : zTp S B L) {e : Nat} (he : S.1 24 3 = nI e) (hel : e ≤ L) : zEd g 1 yX3_nextWord cX3_nextWord 1 none [.ref (zad g 24)] S none (zsi (zsi S 24 4 (nI 1)) 24 3 (nI (l_end (fun j => l_let (B j)) L e))) := by
  refine zev_intro (own := RX3) (lv := [some (.ref (zad g 24))]) (by decide +kernel) rfl (Nat.le_of_ble_eq_true rfl) rfl (fun C hM hN => ?_)
  have h120 := hT.2.1
  have hTj : ∀ j : Nat, zTp (zsi (zsi S 24 4 (nI 1)) 24 3 (nI j)) B L := fun j => zTp_N hT (zN_si (zN_si zN_rf))
  have hloop : ∀ (m j : Nat), j + m = L → (l_end (fun j => l_let (B j)) L e) = (l_end (fun j => l_let (B j)) L j) → zAW g C 1 cX3_nextWord RX3 5 [some (.ref (zad g 24))] [] (zsi (zsi S 24 4 (nI 1)) 24 3 (nI j)) := by
    intro m
    induction m with
    | zero =>
      intro j hj hE
      obtain rfl : j = L := by omega
      refine za_aload_n dX3_nextWord_5 rfl ?_
      refine za_getI dX3_nextWord_6 zf_X3_19 rfl rfl ?_
      refine za_aload_n dX3_nextWord_9 rfl ?_
      refine za_getR dX3_nextWord_10 zf_X3_9 rfl rfl ?_
      refine za_getI dX3_nextWord_13 zf_X3_130 rfl rfl ?_
      rw [show (zsi (zsi S 24 4 (nI 1)) 24 3 (nI j)).1 22 1 = nI j from hT.1]
      refine za_icmp_ge 46 dX3_nextWord_16 (by decide) (fun c16 => ?_) (fun c16 => absurd (nI_le (Nat.le_refl _) (by omega)) c16)
      exact za_vret hM dX3_nextWord_46 ⟨rfl, by rw [hE, l_end_0 (fun z => Nat.lt_irrefl _ z.1)]⟩
    | succ m ih =>
      intro j hj hE
      have hb := (hT.2.2 j (by omega)).1
      refine za_aload_n dX3_nextWord_5 rfl ?_
      refine za_getI dX3_nextWord_6 zf_X3_19 rfl rfl ?_
      refine za_aload_n dX3_nextWord_9 rfl ?_
      refine za_getR dX3_nextWord_10 zf_X3_9 rfl rfl ?_
      refine za_getI dX3_nextWord_13 zf_X3_130 rfl rfl ?_
      rw [show (zsi (zsi S 24 4 (nI 1)) 24 3 (nI j)).1 22 1 = nI L from hT.1]
      refine za_icmp_ge 46 dX3_nextWord_16 (by decide) (fun c16 => absurd c16 (nI_ge (show j < L by omega) (by omega))) (fun c16 => ?_)
      refine za_aload_n dX3_nextWord_19 rfl ?_
      refine za_aload_n dX3_nextWord_20 rfl ?_
      refine za_getI dX3_nextWord_21 zf_X3_19 rfl rfl ?_
      refine za_cV1 dX3_nextWord_24 zm_X3_123 zw_X3_byteAt zv_X3_byteAt (r_byteAt (hTj j) (show j < L by omega)) (by decide) rfl rfl rfl (Nat.le_of_ble_eq_true rfl) ?_
      refine za_cS1 dX3_nextWord_27 zm_X3_132 zw_X3_isLetter zs_X3_isLetter (r_isLetter) (by decide) (Nat.le_of_ble_eq_true rfl) ?_
      refine za_if_eqB 46 dX3_nextWord_30 (by decide) (fun c30 => ?_) (fun c30 => ?_)
      · exact za_vret hM dX3_nextWord_46 ⟨rfl, by rw [hE, l_end_0 (P := fun j => l_let (B j)) (i := j) (fun z => c30 ((zby_let hb).mpr z.2))]⟩
      · refine za_aload_n dX3_nextWord_33 rfl ?_
        refine za_dup dX3_nextWord_34 rfl ?_
        refine za_getI dX3_nextWord_35 zf_X3_19 rfl rfl ?_
        refine za_iconst (nI 1) dX3_nextWord_38 (by decide) ?_
        refine za_iadd dX3_nextWord_39 ?_
        rw [show (zsi (zsi S 24 4 (nI 1)) 24 3 (nI j)).1 24 3 = nI j from rfl, nI_add]
        refine za_putI dX3_nextWord_40 zf_X3_19 zp_X3_3 rfl rfl ?_
        rw [zsi_zsi]
        refine za_goto 5 dX3_nextWord_43 (by decide) ?_
        exact ih (j + 1) (by omega) (by rw [hE]; exact l_end_1 (P := fun j => l_let (B j)) (by omega) ((zby_let hb).mp c30))
  refine za_aload_n dX3_nextWord_0 rfl ?_
  refine za_iconst (nI 1) dX3_nextWord_1 (by decide) ?_
  refine za_putI dX3_nextWord_2 zf_X3_32 zp_X3_4 rfl rfl ?_
  have h0 := hloop (L - e) e (by omega) rfl
  rw [zsi_self (show (zsi S 24 4 (nI 1)).1 24 3 = nI e from he)] at h0
  exact h0

set_option maxRecDepth 20000 in
set_option maxHeartbeats 4000000 in
theorem r_nextNumber {g : zG} {S : zSto} {B : Nat → Nat} {L : Nat} (hT : zTp S B L) {e : Nat} (he : S.1 24 3 = nI e) (hel : e ≤ L) : zEd g 1 yX3_nextNumber cX3_nextNumber 1 none [.ref (zad g 24)] S none (zsi (zsi (zsi S 24 4 (nI 2)) 24 3 (nI (l_end (fun j => l_dig (B j)) L e))) 24 5 (nI (l_cv B e ((l_end (fun j => l_dig (B j)) L e) - e)))) := by
  refine zev_intro (own := RX3) (lv := [some (.ref (zad g 24))]) (by decide +kernel) rfl (Nat.le_of_ble_eq_true rfl) rfl (fun C hM hN => ?_)
  have h120 := hT.2.1
  have hTj : ∀ j : Nat, zTp (zsi (zsi (zsi S 24 4 (nI 2)) 24 3 (nI j)) 24 5 (nI (l_cv B e (j - e)))) B L := fun j => zTp_N hT (zN_si (zN_si (zN_si zN_rf)))
  have hloop : ∀ (m j : Nat), j + m = L → e ≤ j → (l_end (fun j => l_dig (B j)) L e) = (l_end (fun j => l_dig (B j)) L j) → zAW g C 1 cX3_nextNumber RX3 10 [some (.ref (zad g 24))] [] (zsi (zsi (zsi S 24 4 (nI 2)) 24 3 (nI j)) 24 5 (nI (l_cv B e (j - e)))) := by
    intro m
    induction m with
    | zero =>
      intro j hj hej hE
      obtain rfl : j = L := by omega
      refine za_aload_n dX3_nextNumber_10 rfl ?_
      refine za_getI dX3_nextNumber_11 zf_X3_19 rfl rfl ?_
      refine za_aload_n dX3_nextNumber_14 rfl ?_
      refine za_getR dX3_nextNumber_15 zf_X3_9 rfl rfl ?_
      refine za_getI dX3_nextNumber_18 zf_X3_130 rfl rfl ?_
      rw [show (zsi (zsi (zsi S 24 4 (nI 2)) 24 3 (nI j)) 24 5 (nI (l_cv B e (j - e)))).1 22 1 = nI j from hT.1]
      refine za_icmp_ge 80 dX3_nextNumber_21 (by decide) (fun c21 => ?_) (fun c21 => absurd (nI_le (Nat.le_refl _) (by omega)) c21)
      exact za_vret hM dX3_nextNumber_80 ⟨rfl, by rw [hE, l_end_0 (fun z => Nat.lt_irrefl _ z.1)]⟩
    | succ m ih =>
      intro j hj hej hE
      have hb := (hT.2.2 j (by omega)).1
      refine za_aload_n dX3_nextNumber_10 rfl ?_
      refine za_getI dX3_nextNumber_11 zf_X3_19 rfl rfl ?_
      refine za_aload_n dX3_nextNumber_14 rfl ?_
      refine za_getR dX3_nextNumber_15 zf_X3_9 rfl rfl ?_
      refine za_getI dX3_nextNumber_18 zf_X3_130 rfl rfl ?_
      rw [show (zsi (zsi (zsi S 24 4 (nI 2)) 24 3 (nI j)) 24 5 (nI (l_cv B e (j - e)))).1 22 1 = nI L from hT.1]
      refine za_icmp_ge 80 dX3_nextNumber_21 (by decide) (fun c21 => absurd c21 (nI_ge (show j < L by omega) (by omega))) (fun c21 => ?_)
      refine za_aload_n dX3_nextNumber_24 rfl ?_
      refine za_aload_n dX3_nextNumber_25 rfl ?_
      refine za_getI dX3_nextNumber_26 zf_X3_19 rfl rfl ?_
      refine za_cV1 dX3_nextNumber_29 zm_X3_123 zw_X3_byteAt zv_X3_byteAt (r_byteAt (hTj j) (show j < L by omega)) (by decide) rfl rfl rfl (Nat.le_of_ble_eq_true rfl) ?_
      refine za_cS1 dX3_nextNumber_32 zm_X3_138 zw_X3_isDigit zs_X3_isDigit (r_isDigit) (by decide) (Nat.le_of_ble_eq_true rfl) ?_
      refine za_if_eqB 80 dX3_nextNumber_35 (by decide) (fun c35 => ?_) (fun c35 => ?_)
      · exact za_vret hM dX3_nextNumber_80 ⟨rfl, by rw [hE, l_end_0 (P := fun j => l_dig (B j)) (i := j) (fun z => c35 ((zby_dig hb).mpr z.2))]⟩
      · have hd := (zby_dig hb).mp c35
        have hd2 := l_dig_b hd
        have hc := l_cv_le (B := B) (s := e) (j - e)
        refine za_aload_n dX3_nextNumber_38 rfl ?_
        refine za_aload_n dX3_nextNumber_39 rfl ?_
        refine za_getI dX3_nextNumber_40 zf_X3_99 rfl rfl ?_
        refine za_bipush (nI 10) dX3_nextNumber_43 (by decide) ?_
        refine za_imul dX3_nextNumber_45 ?_
        rw [show (zsi (zsi (zsi S 24 4 (nI 2)) 24 3 (nI j)) 24 5 (nI (l_cv B e (j - e)))).1 24 5 = nI (l_cv B e (j - e)) from rfl, pk_mul]
        refine za_aload_n dX3_nextNumber_46 rfl ?_
        refine za_aload_n dX3_nextNumber_47 rfl ?_
        refine za_getI dX3_nextNumber_48 zf_X3_19 rfl rfl ?_
        refine za_cV1 dX3_nextNumber_51 zm_X3_123 zw_X3_byteAt zv_X3_byteAt (r_byteAt (hTj j) (show j < L by omega)) (by decide) rfl rfl rfl (Nat.le_of_ble_eq_true rfl) ?_
        refine za_iadd dX3_nextNumber_54 ?_
        rw [zby_n (by omega), nI_add]
        refine za_bipush (nI 48) dX3_nextNumber_55 (by decide) ?_
        refine za_isub dX3_nextNumber_57 ?_
        rw [pk_sub (by omega)]
        refine za_sipush (nI 10000) dX3_nextNumber_58 (by decide) ?_
        refine za_mmin dX3_nextNumber_61 zm_X3_144 (by decide) (Nat.le_of_ble_eq_true rfl) ?_
        rw [zmin_n (by omega) (by omega), show min ((l_cv B e (j - e)) * 10 + B j - 48) 10000 = l_cv B e (j + 1 - e) by rw [show j + 1 - e = (j - e) + 1 by omega, l_cv_s, show e + (j - e) = j by omega]; congr 1; omega]
        refine za_putI dX3_nextNumber_64 zf_X3_99 zp_X3_5 rfl rfl ?_
        rw [zsi_zsi]
        refine za_aload_n dX3_nextNumber_67 rfl ?_
        refine za_dup dX3_nextNumber_68 rfl ?_
        refine za_getI dX3_nextNumber_69 zf_X3_19 rfl rfl ?_
        refine za_iconst (nI 1) dX3_nextNumber_72 (by decide) ?_
        refine za_iadd dX3_nextNumber_73 ?_
        rw [show (zsi (zsi (zsi S 24 4 (nI 2)) 24 3 (nI j)) 24 5 (nI (l_cv B e (j + 1 - e)))).1 24 3 = nI j from rfl, nI_add]
        refine za_putI dX3_nextNumber_74 zf_X3_19 zp_X3_3 rfl rfl ?_
        rw [zsi_comm (i := 5) (by decide), zsi_zsi]
        refine za_goto 10 dX3_nextNumber_77 (by decide) ?_
        exact ih (j + 1) (by omega) (by omega) (by rw [hE]; exact l_end_1 (P := fun j => l_dig (B j)) (by omega) hd)
  refine za_aload_n dX3_nextNumber_0 rfl ?_
  refine za_iconst (nI 2) dX3_nextNumber_1 (by decide) ?_
  refine za_putI dX3_nextNumber_2 zf_X3_32 zp_X3_4 rfl rfl ?_
  refine za_aload_n dX3_nextNumber_5 rfl ?_
  refine za_iconst (nI 0) dX3_nextNumber_6 (by decide) ?_
  refine za_putI dX3_nextNumber_7 zf_X3_99 zp_X3_5 rfl rfl ?_
  have h0 := hloop (L - e) e (by omega) (Nat.le_refl _) rfl
  rw [Nat.sub_self, zsi_self (show (zsi S 24 4 (nI 2)).1 24 3 = nI e from he)] at h0
  exact h0

set_option maxRecDepth 20000 in
set_option maxHeartbeats 4000000 in
theorem r_next {g : zG} {S : zSto} {B : Nat → Nat} {L : Nat} (hT : zTp S B L) {e : Nat} (he : S.1 24 3 = nI e) (hel : e ≤ L) : zEv g 2 yX3_next cX3_next 1 none [.ref (zad g 24)] S (fun r' s' => r' = none ∧ zN S s' ∧ zRd s' B L (l_sk B L e)) := by
  refine zev_intro (own := RX3) (lv := [some (.ref (zad g 24))]) (by decide +kernel) rfl (Nat.le_of_ble_eq_true rfl) rfl (fun C hM hN => ?_)
  have h120 := hT.2.1
  have hTj : ∀ j : Nat, zTp (zsi S 24 3 (nI j)) B L := fun j => zTp_N hT (zN_si zN_rf)
  have hT2 : ∀ j : Nat, zTp (zsi (zsi S 24 3 (nI j)) 24 2 (nI j)) B L := fun j => zTp_N hT (zN_si (zN_si zN_rf))
  have htail : ∀ (j : Nat), j ≤ L → l_sk B L e = j → zAW g C 2 cX3_next RX3 40 [some (.ref (zad g 24))] [] (zsi S 24 3 (nI j)) := by
    intro j hjL hE
    rw [hE] at hM
    by_cases hlt : j < L
    · have hb := (hT.2.2 j hlt).1
      refine za_aload_n dX3_next_40 rfl ?_
      refine za_aload_n dX3_next_41 rfl ?_
      refine za_getI dX3_next_42 zf_X3_19 rfl rfl ?_
      rw [show (zsi S 24 3 (nI j)).1 24 3 = nI j from rfl]
      refine za_putI dX3_next_45 zf_X3_35 zp_X3_2 rfl rfl ?_
      refine za_aload_n dX3_next_48 rfl ?_
      refine za_getI dX3_next_49 zf_X3_35 rfl rfl ?_
      rw [show (zsi (zsi S 24 3 (nI j)) 24 2 (nI j)).1 24 2 = nI j from rfl]
      refine za_aload_n dX3_next_52 rfl ?_
      refine za_getR dX3_next_53 zf_X3_9 rfl rfl ?_
      refine za_getI dX3_next_56 zf_X3_130 rfl rfl ?_
      rw [show (zsi (zsi S 24 3 (nI j)) 24 2 (nI j)).1 22 1 = nI L from hT.1]
      refine za_icmp_lt 70 dX3_next_59 (by decide) (fun c59 => ?_) (fun c59 => absurd (nI_lt hlt (by omega)) c59)
      refine za_aload_n dX3_next_70 rfl ?_
      refine za_aload_n dX3_next_71 rfl ?_
      refine za_getI dX3_next_72 zf_X3_35 rfl rfl ?_
      rw [show (zsi (zsi S 24 3 (nI j)) 24 2 (nI j)).1 24 2 = nI j from rfl]
      refine za_cV1 dX3_next_75 zm_X3_123 zw_X3_byteAt zv_X3_byteAt (r_byteAt (hT2 j) hlt) (by decide) rfl rfl rfl (Nat.le_of_ble_eq_true rfl) ?_
      refine za_cS1 dX3_next_78 zm_X3_132 zw_X3_isLetter zs_X3_isLetter (r_isLetter) (by decide) (Nat.le_of_ble_eq_true rfl) ?_
      refine za_if_eqB 91 dX3_next_81 (by decide) (fun c81 => ?_) (fun c81 => ?_)
      · have hl : ¬ l_let (B j) = true := fun z => c81 ((zby_let hb).mpr z)
        refine za_aload_n dX3_next_91 rfl ?_
        refine za_aload_n dX3_next_92 rfl ?_
        refine za_getI dX3_next_93 zf_X3_35 rfl rfl ?_
        rw [show (zsi (zsi S 24 3 (nI j)) 24 2 (nI j)).1 24 2 = nI j from rfl]
        refine za_cV1 dX3_next_96 zm_X3_123 zw_X3_byteAt zv_X3_byteAt (r_byteAt (hT2 j) hlt) (by decide) rfl rfl rfl (Nat.le_of_ble_eq_true rfl) ?_
        refine za_cS1 dX3_next_99 zm_X3_138 zw_X3_isDigit zs_X3_isDigit (r_isDigit) (by decide) (Nat.le_of_ble_eq_true rfl) ?_
        refine za_if_eqB 112 dX3_next_102 (by decide) (fun c102 => ?_) (fun c102 => ?_)
        · have hd : ¬ l_dig (B j) = true := fun z => c102 ((zby_dig hb).mpr z)
          refine za_aload_n dX3_next_112 rfl ?_
          refine za_aload_n dX3_next_113 rfl ?_
          refine za_aload_n dX3_next_114 rfl ?_
          refine za_getI dX3_next_115 zf_X3_35 rfl rfl ?_
          rw [show (zsi (zsi S 24 3 (nI j)) 24 2 (nI j)).1 24 2 = nI j from rfl]
          refine za_cV1 dX3_next_118 zm_X3_123 zw_X3_byteAt zv_X3_byteAt (r_byteAt (hT2 j) hlt) (by decide) rfl rfl rfl (Nat.le_of_ble_eq_true rfl) ?_
          refine za_bipush (nI 59) dX3_next_121 (by decide) ?_
          refine za_icmp_ne 130 dX3_next_123 (by decide) (fun c123 => ?_) (fun c123 => ?_)
          · refine za_iconst (nI 4) dX3_next_130 (by decide) ?_
            refine za_putI dX3_next_131 zf_X3_32 zp_X3_4 rfl rfl ?_
            refine za_aload_n dX3_next_134 rfl ?_
            refine za_dup dX3_next_135 rfl ?_
            refine za_getI dX3_next_136 zf_X3_19 rfl rfl ?_
            refine za_iconst (nI 1) dX3_next_139 (by decide) ?_
            refine za_iadd dX3_next_140 ?_
            rw [show (zsi (zsi (zsi S 24 3 (nI j)) 24 2 (nI j)) 24 4 _).1 24 3 = nI j from rfl, nI_add]
            refine za_putI dX3_next_141 zf_X3_19 zp_X3_3 rfl rfl ?_
            exact za_vret hM dX3_next_144 ⟨rfl, by (repeat' apply zN_si); exact zN_rf, hjL, rfl, by first | exact congrArg nI (l_te_w hlt hl).symm | exact congrArg nI (l_te_d hlt hd).symm | exact congrArg nI (l_te_o hlt hl hd).symm, by first | exact congrArg nI (l_K_w hlt hl).symm | exact congrArg nI (l_K_d hlt hd).symm | exact congrArg nI (l_K_s hlt hl hd ((zby_59 hb).mp c123)).symm | exact congrArg nI (l_K_o hlt hl hd (fun z => c123 ((zby_59 hb).mpr z))).symm, fun z => by first | (rw [l_K_w hlt hl] at z; omega) | (unfold l_v; rw [l_te_d hlt hd]; rfl) | (rw [l_K_s hlt hl hd ((zby_59 hb).mp c123)] at z; omega) | (rw [l_K_o hlt hl hd (fun z => c123 ((zby_59 hb).mpr z))] at z; omega)⟩
          · refine za_iconst (nI 3) dX3_next_126 (by decide) ?_
            refine za_goto 131 dX3_next_127 (by decide) ?_
            refine za_putI dX3_next_131 zf_X3_32 zp_X3_4 rfl rfl ?_
            refine za_aload_n dX3_next_134 rfl ?_
            refine za_dup dX3_next_135 rfl ?_
            refine za_getI dX3_next_136 zf_X3_19 rfl rfl ?_
            refine za_iconst (nI 1) dX3_next_139 (by decide) ?_
            refine za_iadd dX3_next_140 ?_
            rw [show (zsi (zsi (zsi S 24 3 (nI j)) 24 2 (nI j)) 24 4 _).1 24 3 = nI j from rfl, nI_add]
            refine za_putI dX3_next_141 zf_X3_19 zp_X3_3 rfl rfl ?_
            exact za_vret hM dX3_next_144 ⟨rfl, by (repeat' apply zN_si); exact zN_rf, hjL, rfl, by first | exact congrArg nI (l_te_w hlt hl).symm | exact congrArg nI (l_te_d hlt hd).symm | exact congrArg nI (l_te_o hlt hl hd).symm, by first | exact congrArg nI (l_K_w hlt hl).symm | exact congrArg nI (l_K_d hlt hd).symm | exact congrArg nI (l_K_s hlt hl hd ((zby_59 hb).mp c123)).symm | exact congrArg nI (l_K_o hlt hl hd (fun z => c123 ((zby_59 hb).mpr z))).symm, fun z => by first | (rw [l_K_w hlt hl] at z; omega) | (unfold l_v; rw [l_te_d hlt hd]; rfl) | (rw [l_K_s hlt hl hd ((zby_59 hb).mp c123)] at z; omega) | (rw [l_K_o hlt hl hd (fun z => c123 ((zby_59 hb).mpr z))] at z; omega)⟩
        · have hd := (zby_dig hb).mp c102
          refine za_aload_n dX3_next_105 rfl ?_
          refine za_cV0v dX3_next_106 zm_X3_141 zw_X3_nextNumber zv_X3_nextNumber (r_nextNumber (hT2 j) (show (zsi (zsi S 24 3 (nI j)) 24 2 (nI j)).1 24 3 = nI j from rfl) hjL) (by decide) rfl rfl rfl (Nat.le_of_ble_eq_true rfl) ?_
          refine za_goto 144 dX3_next_109 (by decide) ?_
          exact za_vret hM dX3_next_144 ⟨rfl, by (repeat' apply zN_si); exact zN_rf, hjL, rfl, by first | exact congrArg nI (l_te_w hlt hl).symm | exact congrArg nI (l_te_d hlt hd).symm | exact congrArg nI (l_te_o hlt hl hd).symm, by first | exact congrArg nI (l_K_w hlt hl).symm | exact congrArg nI (l_K_d hlt hd).symm | exact congrArg nI (l_K_s hlt hl hd ((zby_59 hb).mp c123)).symm | exact congrArg nI (l_K_o hlt hl hd (fun z => c123 ((zby_59 hb).mpr z))).symm, fun z => by first | (rw [l_K_w hlt hl] at z; omega) | (unfold l_v; rw [l_te_d hlt hd]; rfl) | (rw [l_K_s hlt hl hd ((zby_59 hb).mp c123)] at z; omega) | (rw [l_K_o hlt hl hd (fun z => c123 ((zby_59 hb).mpr z))] at z; omega)⟩
      · have hl := (zby_let hb).mp c81
        refine za_aload_n dX3_next_84 rfl ?_
        refine za_cV0v dX3_next_85 zm_X3_135 zw_X3_nextWord zv_X3_nextWord (r_nextWord (hT2 j) (show (zsi (zsi S 24 3 (nI j)) 24 2 (nI j)).1 24 3 = nI j from rfl) hjL) (by decide) rfl rfl rfl (Nat.le_of_ble_eq_true rfl) ?_
        refine za_goto 144 dX3_next_88 (by decide) ?_
        exact za_vret hM dX3_next_144 ⟨rfl, by (repeat' apply zN_si); exact zN_rf, hjL, rfl, by first | exact congrArg nI (l_te_w hlt hl).symm | exact congrArg nI (l_te_d hlt hd).symm | exact congrArg nI (l_te_o hlt hl hd).symm, by first | exact congrArg nI (l_K_w hlt hl).symm | exact congrArg nI (l_K_d hlt hd).symm | exact congrArg nI (l_K_s hlt hl hd ((zby_59 hb).mp c123)).symm | exact congrArg nI (l_K_o hlt hl hd (fun z => c123 ((zby_59 hb).mpr z))).symm, fun z => by first | (rw [l_K_w hlt hl] at z; omega) | (unfold l_v; rw [l_te_d hlt hd]; rfl) | (rw [l_K_s hlt hl hd ((zby_59 hb).mp c123)] at z; omega) | (rw [l_K_o hlt hl hd (fun z => c123 ((zby_59 hb).mpr z))] at z; omega)⟩
    · refine za_aload_n dX3_next_40 rfl ?_
      refine za_aload_n dX3_next_41 rfl ?_
      refine za_getI dX3_next_42 zf_X3_19 rfl rfl ?_
      rw [show (zsi S 24 3 (nI j)).1 24 3 = nI j from rfl]
      refine za_putI dX3_next_45 zf_X3_35 zp_X3_2 rfl rfl ?_
      refine za_aload_n dX3_next_48 rfl ?_
      refine za_getI dX3_next_49 zf_X3_35 rfl rfl ?_
      rw [show (zsi (zsi S 24 3 (nI j)) 24 2 (nI j)).1 24 2 = nI j from rfl]
      refine za_aload_n dX3_next_52 rfl ?_
      refine za_getR dX3_next_53 zf_X3_9 rfl rfl ?_
      refine za_getI dX3_next_56 zf_X3_130 rfl rfl ?_
      rw [show (zsi (zsi S 24 3 (nI j)) 24 2 (nI j)).1 22 1 = nI L from hT.1]
      refine za_icmp_lt 70 dX3_next_59 (by decide) (fun c59 => absurd c59 (nI_nlt (Nat.not_lt.mp hlt) (by omega))) (fun c59 => ?_)
      refine za_aload_n dX3_next_62 rfl ?_
      refine za_iconst (nI 0) dX3_next_63 (by decide) ?_
      refine za_putI dX3_next_64 zf_X3_32 zp_X3_4 rfl rfl ?_
      refine za_goto 144 dX3_next_67 (by decide) ?_
      exact za_vret hM dX3_next_144 ⟨rfl, by (repeat' apply zN_si); exact zN_rf, hjL, rfl, congrArg nI (l_te_e hlt).symm, congrArg nI (l_K_e hlt).symm, fun z => by rw [l_K_e hlt] at z; omega⟩
  have hloop : ∀ (m j : Nat), j + m = L → l_sk B L e = l_sk B L j → zAW g C 2 cX3_next RX3 0 [some (.ref (zad g 24))] [] (zsi S 24 3 (nI j)) := by
    intro m
    induction m with
    | zero =>
      intro j hj hE
      obtain rfl : j = L := by omega
      refine za_aload_n dX3_next_0 rfl ?_
      refine za_getI dX3_next_1 zf_X3_19 rfl rfl ?_
      refine za_aload_n dX3_next_4 rfl ?_
      refine za_getR dX3_next_5 zf_X3_9 rfl rfl ?_
      refine za_getI dX3_next_8 zf_X3_130 rfl rfl ?_
      rw [show (zsi S 24 3 (nI j)).1 22 1 = nI j from hT.1]
      refine za_icmp_ge 40 dX3_next_11 (by decide) (fun c11 => ?_) (fun c11 => absurd (nI_le (Nat.le_refl _) (by omega)) c11)
      exact htail j (Nat.le_refl _) (by rw [hE]; exact l_end_0 (fun z => Nat.lt_irrefl _ z.1))
    | succ m ih =>
      intro j hj hE
      have hb := (hT.2.2 j (by omega)).1
      refine za_aload_n dX3_next_0 rfl ?_
      refine za_getI dX3_next_1 zf_X3_19 rfl rfl ?_
      refine za_aload_n dX3_next_4 rfl ?_
      refine za_getR dX3_next_5 zf_X3_9 rfl rfl ?_
      refine za_getI dX3_next_8 zf_X3_130 rfl rfl ?_
      rw [show (zsi S 24 3 (nI j)).1 22 1 = nI L from hT.1]
      refine za_icmp_ge 40 dX3_next_11 (by decide) (fun c11 => absurd c11 (nI_ge (show j < L by omega) (by omega))) (fun c11 => ?_)
      refine za_aload_n dX3_next_14 rfl ?_
      refine za_aload_n dX3_next_15 rfl ?_
      refine za_getI dX3_next_16 zf_X3_19 rfl rfl ?_
      rw [show (zsi S 24 3 (nI j)).1 24 3 = nI j from rfl]
      refine za_cV1 dX3_next_19 zm_X3_123 zw_X3_byteAt zv_X3_byteAt (r_byteAt (hTj j) (show j < L by omega)) (by decide) rfl rfl rfl (Nat.le_of_ble_eq_true rfl) ?_
      refine za_bipush (nI 32) dX3_next_22 (by decide) ?_
      refine za_icmp_ne 40 dX3_next_24 (by decide) (fun c24 => ?_) (fun c24 => ?_)
      · exact htail j (by omega) (by rw [hE]; exact l_end_0 (fun z => c24 ((zby_32 hb).mpr (of_decide_eq_true z.2))))
      · refine za_aload_n dX3_next_27 rfl ?_
        refine za_dup dX3_next_28 rfl ?_
        refine za_getI dX3_next_29 zf_X3_19 rfl rfl ?_
        refine za_iconst (nI 1) dX3_next_32 (by decide) ?_
        refine za_iadd dX3_next_33 ?_
        rw [show (zsi S 24 3 (nI j)).1 24 3 = nI j from rfl, nI_add]
        refine za_putI dX3_next_34 zf_X3_19 zp_X3_3 rfl rfl ?_
        rw [zsi_zsi]
        refine za_goto 0 dX3_next_37 (by decide) ?_
        exact ih (j + 1) (by omega) (by rw [hE]; exact l_end_1 (P := fun j => decide (B j = 32)) (by omega) (decide_eq_true ((zby_32 hb).mp c24)))
  have h0 := hloop (L - e) e (by omega) rfl
  rw [zsi_self he] at h0
  exact h0
