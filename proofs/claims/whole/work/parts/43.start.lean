/-! THE LAW'S START: what the Statement gives of the classes, the rows' classes, the statics, the texts -/
theorem kRc {args : Array Value} {s : State} {ty : FieldType} (h : (Cond.arrayClass ty).before args s = true) (ho : ∀ C, ty ≠ .object C) : ∃ c : ClassId, ArrOfT s c ty ∧ va_RA s c ty := by
  obtain ⟨c, k, comp, h1, h2, h3⟩ := Cond.arrayClass_spec h
  refine ⟨c, fun N z => ⟨(fun q hq => by cases hq), k, h2, comp, h3⟩, ?_⟩
  cases ty <;> first | exact h1 | exact absurd rfl (ho _)
theorem kRcA {s : State} (h : kA s) : ∃ c : ClassId, ArrOfT s c (.array .long) ∧ va_RA s c (.array .long) := by
  obtain ⟨comp, c, k, h1, h2, h3, h4, h5⟩ := arrayOverA_spec h
  exact ⟨c, fun N z => ⟨(fun q hq => by cases hq), k, h3, comp, h4⟩, h5⟩
theorem lw_tb {w : Cond} (i : Nat) (h : tables_1[i]? = some w) : w ∈ lw_tbl := List.mem_append_right _ (List.mem_of_getElem? h)
section KSTART
variable {s : State} {b : Nat}
theorem ks_N (hts : ∀ w ∈ lw_tbl, w.before #[Value.ref b] s = true) : kN s :=
  ⟨va_Nw.of rfl (hts _ (lw_tb 25 (by decide +kernel))), va_Nw.of rfl (hts _ (lw_tb 76 (by decide +kernel))), va_Nw.of rfl (hts _ (lw_tb 118 (by decide +kernel))), kA.of (hts _ (lw_tb 123 (by decide +kernel)))⟩
theorem ks_K (hts : ∀ w ∈ lw_tbl, w.before #[Value.ref b] s = true) : ∃ (D : va_G) (cA : Nat → ClassId), va_K D vwCl (ktys cA) s := by
  have htg : ∀ w ∈ lw_g, w.before #[Value.ref b] s = true := fun w h => hts w (lw_sub w h)
  obtain ⟨c0, i0, k0⟩ := u_known (C := RX1) (T := TX1) (N := 3) (n := 3) htg zin1 (htg _ zis_X1)
  obtain ⟨c1, i1, k1⟩ := u_known (C := RX2) (T := TX2) (N := 2) (n := 2) htg zin2 (htg _ zis_X2)
  obtain ⟨c2, i2, k2⟩ := u_known (C := RX3) (T := TX3) (N := 6) (n := 6) htg zin3 (htg _ zis_X3)
  obtain ⟨c3, i3, k3⟩ := u_known (C := RX4) (T := TX4) (N := 10) (n := 10) htg zin4 (htg _ zis_X4)
  obtain ⟨c4, i4, k4⟩ := u_known (C := RX5) (T := TX5) (N := 8) (n := 8) htg zin5 (htg _ zis_X5)
  obtain ⟨c5, i5, k5⟩ := u_known (C := RX6) (T := TX6) (N := 16) (n := 16) htg zin6 (htg _ zis_X6)
  obtain ⟨a0, h0⟩ := kRc (htg _ zac_i) (fun C h => by cases h)
  obtain ⟨a1, h1⟩ := kRc (htg _ zac_l) (fun C h => by cases h)
  obtain ⟨a2, h2⟩ := kRc (htg _ zac_b) (fun C h => by cases h)
  obtain ⟨a3, h3⟩ := kRcA (ks_N hts).2.2.2
  refine ⟨(fun k => match k with | 0 => c0 | 1 => c1 | 2 => c2 | 3 => c3 | 4 => c4 | _ => c5, fun k => match k with | 0 => i0 | 1 => i1 | 2 => i2 | 3 => i3 | 4 => i4 | _ => i5), fun k => match k with | 0 => a0 | 1 => a1 | 2 => a2 | _ => a3, ?_, ?_⟩
  · intro k q hq
    match k, hq with
    | 0, hq => cases hq; exact k0
    | 1, hq => cases hq; exact k1
    | 2, hq => cases hq; exact k2
    | 3, hq => cases hq; exact k3
    | 4, hq => cases hq; exact k4
    | 5, hq => cases hq; exact k5
    | k + 6, hq => simp [vwCl] at hq
  · intro k q hq
    match k, hq with
    | 0, hq => cases hq; exact h0
    | 1, hq => cases hq; exact h1
    | 2, hq => cases hq; exact h2
    | 3, hq => cases hq; exact h3
    | k + 4, hq => simp [ktys] at hq
abbrev ks_f : List Cond := flatC (Jvm.Cond.and given_1 narrow_1)
abbrev ks_t (n : String) : Term := .static "BasinVotes$Kinds" n "[I"
theorem ks_e1 : Cond.arrayOf (ks_t "EARNS") .int ∈ ks_f ∧ Cond.eq (.length (ks_t "EARNS")) (.int (Int32.ofNat 6)) ∈ ks_f := by decide +kernel
theorem ks_e2 : ∀ j, j < 6 → Cond.eq (.elem (ks_t "EARNS") (.int (Int32.ofNat j))) (.int (zEarn.getD j 0)) ∈ ks_f := by decide +kernel
theorem ks_a1 : Cond.arrayOf (ks_t "ABOVE") .int ∈ ks_f ∧ Cond.eq (.length (ks_t "ABOVE")) (.int (Int32.ofNat 6)) ∈ ks_f := by decide +kernel
theorem ks_a2 : ∀ j, j < 6 → Cond.eq (.elem (ks_t "ABOVE") (.int (Int32.ofNat j))) (.int (zAbove.getD j 0)) ∈ ks_f := by decide +kernel
theorem ks_c1 : Cond.eq (.static "java/lang/String" "COMPACT_STRINGS" "Z") (.int 1) ∈ ks_f := by decide +kernel
theorem ks_c2 : Cond.isRef (.static "jdk/internal/util/Preconditions" "SIOOBE_FORMATTER" "Ljava/util/function/BiFunction;") ∈ ks_f := by decide +kernel
abbrev ks_s (i : Nat) : Term := .string RX3 (zTk.getD i 0)
theorem ks_s1 : ∀ i, i < 12 → zTlen.getD i 0 < 2 ^ 31 := by decide +kernel
theorem ks_s2 : ∀ i, i < 12 → Cond.exactly (ks_s i) "java/lang/String" ∈ ks_f := by decide +kernel
theorem ks_s3 : ∀ i, i < 12 → Cond.eq (.field (ks_s i) "java/lang/String" "coder" "B") (.int 0) ∈ ks_f := by decide +kernel
theorem ks_s4 : ∀ i, i < 12 → Cond.arrayOf (.field (ks_s i) "java/lang/String" "value" "[B") .byte ∈ ks_f := by decide +kernel
theorem ks_s5 : ∀ i, i < 12 → Cond.eq (.length (.field (ks_s i) "java/lang/String" "value" "[B")) (.int (Int32.ofNat (zTlen.getD i 0))) ∈ ks_f := by decide +kernel
theorem ks_s6 : ∀ i, i < 12 → ∀ j, j < zTlen.getD i 0 → Cond.eq (.elem (.field (ks_s i) "java/lang/String" "value" "[B") (.int (Int32.ofNat j))) (.int ((zTby.getD i []).getD j 0)) ∈ ks_f := by decide +kernel
theorem ks_s7 : ∀ i, i < 12 → ∀ j, j < 12 → i ≠ j → Cond.not (Cond.eq (ks_s i) (ks_s j)) ∈ ks_f ∨ Cond.not (Cond.eq (ks_s j) (ks_s i)) ∈ ks_f := by decide +kernel
theorem ks_s8 : ∀ i, i < 12 → Cond.stringRef RX3 (zTk.getD i 0) (zTx.getD i "") ∈ tables_1 := by decide +kernel
theorem ks_Sx {A : Nat → Prop} (hts : ∀ w ∈ lw_tbl, w.before #[Value.ref b] s = true) (hgv : (Jvm.Cond.and given_1 narrow_1).before #[Value.ref b] s = true) (hA : ∀ a : Nat, a < s.heap.size → ¬ A a) : ∃ f1 f2 f3 : Nat → Nat, ∀ (D : va_G) (ad : Nat → Nat) (cA : Nat → ClassId), zSx (D, ad, cA, f1, f2, f3) A s s.heap := by
  have hs := flat_of_before _ hgv
  obtain ⟨t0, e0, T0⟩ := va_Tof (tm := ks_t "EARNS") (ty := .int) (N := 6) (f := fun j => .int (zEarn.getD j 0)) (A := A) (by decide) (hs _ ks_e1.1) (va_eqt (hs _ ks_e1.2)) (fun j hj => va_eqt (hs _ (ks_e2 j hj))) hA
  obtain ⟨t1, e1, T1⟩ := va_Tof (tm := ks_t "ABOVE") (ty := .int) (N := 6) (f := fun j => .int (zAbove.getD j 0)) (A := A) (by decide) (hs _ ks_a1.1) (va_eqt (hs _ ks_a1.2)) (fun j hj => va_eqt (hs _ (ks_a2 j hj))) hA
  have hi7 : (Cond.initialized "BasinVotes$Kinds").before #[Value.ref b] s = true := hts _ (lw_tb 7 (by decide +kernel))
  have Z0 := va_Zof (v := .ref t0) (hts (.laysStatic "BasinVotes$Kinds" "EARNS" "[I") (lw_tb 286 (by decide +kernel))) hi7 e0 hA
  have Z1 := va_Zof (v := .ref t1) (hts (.laysStatic "BasinVotes$Kinds" "ABOVE" "[I") (lw_tb 321 (by decide +kernel))) hi7 e1 hA
  have Z2 := va_Zof (v := .int 1) (hts (.laysStatic "java/lang/String" "COMPACT_STRINGS" "Z") (lw_tb 479 (by decide +kernel))) (hts _ (lw_tb 11 (by decide +kernel))) (va_eqi (hs _ ks_c1)) hA
  have Z3 := va_Zqof (hts (.laysStatic "jdk/internal/util/Preconditions" "SIOOBE_FORMATTER" "Ljava/util/function/BiFunction;") (lw_tb 495 (by decide +kernel))) (hts _ (lw_tb 13 (by decide +kernel))) (hs _ ks_c2) hA
  obtain ⟨adK, adV, hS, hE⟩ := vk_Sof (args := #[Value.ref b]) (s := s) (N := 12) (tm := ks_s) (len := zTlen) (byt := zTby) (A := A) ks_s1 (fun i hi => hs _ (ks_s2 i hi)) (fun i hi => hs _ (ks_s3 i hi)) (fun i hi => hs _ (ks_s4 i hi)) (fun i hi => hs _ (ks_s5 i hi)) (fun i hi j hj => hs _ (ks_s6 i hi j hj)) (fun i j hi hj hij => (ks_s7 i hi j hj hij).elim (fun h => Or.inl (hs _ h)) (fun h => Or.inr (hs _ h))) hA
  have hR : ∀ i, i < 12 → vk_R RX3 (zTk.getD i 0) (zTx.getD i "") (adK i) s := fun i hi => vk_R.of (hts _ (List.mem_append_right _ (ks_s8 i hi))) (hE i hi)
  refine ⟨fun k => if k = 0 then t0 else t1, adK, adV, fun D ad cA => ⟨⟨⟨Z0, T0⟩, Z1, T1⟩, ⟨va_Nw.of rfl (hts _ (lw_tb 284 (by decide +kernel))), va_Nw.of rfl (hts _ (lw_tb 523 (by decide +kernel)))⟩, Z2, Z3, hS, hR⟩⟩
end KSTART
/-! from the growing world to the standing one -/
theorem ka_astore_n {D : va_G} {cA : Nat → ClassId} {C : zC} {dd : Nat} {cc : ByteArray} {own : String} {pc : Nat} {lv : List (Option Value)} {st : List Value} {ws : va_W} {x y : Nat} {q : Fin 4} {a : Nat} {lv' : List (Option Value)} (hd : decode cc pc = .ok (.astore_n q, 1)) {nn : Nat} (hN : zcN C = nn) (hn : (q : Nat) < nn) (hlv : zst1 lv (q : Nat) (.ref a) = lv') (k : kAW D cA C dd cc own (pc + 1) lv' st ws x y) : kAW D cA C dd cc own pc lv (.ref a :: st) ws x y := by
  obtain ⟨p, l, e, R, s, m, args, below, meth, c, nL, A, cells, slots, Q⟩ := C
  intro ok H locs ls hP hD hS hL
  subst hlv
  exact lv_astore_n ok.1 ok.2.1 hd rfl (zLH_has hL) (by rw [show nL = nn from hN]; exact hn) rfl (fun ls' h' => k ok H locs ls' hP hD hS (zLH_1 h'))
theorem kz_start {g : zG} {C : zC} {dd : Nat} {cc : ByteArray} {own : String} {pc : Nat} {lv : List (Option Value)} {st : List Value} {σ : zSto} {x y : Nat} (hx : x = C.2.2.2.2.2.2.2.2.2.2.2.2.1) (hy : y = C.2.2.2.2.2.2.2.2.2.2.2.2.2.1) (hc : x ≤ (zcR C).cells) (hs : y ≤ (zcR C).slots) (hSx : zSx g (zcA' C) (zcs C) (zcs C).heap) (k : zAW g C dd cc own pc lv st σ) : kAW g.1 g.2.2.1 C dd cc own pc lv st (zwld g σ) x y := by
  obtain ⟨p, l, e, R, s, m, args, below, meth, c, nL, A, cells, slots, Q⟩ := C
  subst hx
  subst hy
  intro ok H locs ls hP hD hS hL
  obtain ⟨o1, o2, o3, o4, o5, o6, o7, o8, o9, o10, o11⟩ := ok
  have hG : zGk g := fun i j hi hj e => by
    obtain ⟨sh, hsh⟩ : ∃ sh, zsh[i]? = some sh := ⟨_, List.getElem?_eq_getElem (by rw [zsh_len]; exact hi)⟩
    obtain ⟨sh', hsh'⟩ : ∃ sh, zsh[j]? = some sh := ⟨_, List.getElem?_eq_getElem (by rw [zsh_len]; exact hj)⟩
    exact hD.1 i j _ _ (zwld_at hsh) (zwld_at hsh') e
  have hAg : ∀ q, zAg g q → A q := fun q hq => by
    obtain ⟨o, ho, rfl⟩ := hq
    obtain ⟨sh, hsh⟩ : ∃ sh, zsh[o]? = some sh := ⟨_, List.getElem?_eq_getElem (by rw [zsh_len]; exact ho)⟩
    exact hD.2 o _ (zwld_at hsh)
  exact k ⟨o1, o2, o3, o4, o5, o6, o7, hSx, hG, hAg, ⟨hc, hs⟩, o10, o11⟩ H locs ls hP hS hL
abbrev z00 : zSto := (fun _ _ => 0, fun _ _ => 0)
theorem zRel_00 : zRel z00 := by
  have z : ∀ B, 0 < B → zlt 0 B := fun B h => ⟨0, h, rfl⟩
  refine ⟨⟨fun _ _ => 0, fun _ _ _ => rfl, fun _ _ => rfl, ?_⟩, Or.inl ⟨rfl, rfl⟩, ⟨fun _ => 0, 0, ⟨rfl, by decide, fun i hi => absurd hi (Nat.not_lt_zero _)⟩, ⟨rfl, by decide, fun i hi => absurd hi (Nat.not_lt_zero _)⟩⟩, fun s _ => ⟨rfl, rfl, ⟨0, by decide, rfl⟩, fun _ _ => rfl⟩, fun _ _ => rfl⟩
  exact ⟨z _ (by decide), z _ (by decide), z _ (by decide), z _ (by decide), fun _ _ => z _ (by decide), fun _ _ => z _ (by decide), fun _ _ => z _ (by decide), fun _ _ => z _ (by decide)⟩
