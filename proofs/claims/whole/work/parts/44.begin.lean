/-! THE CLAIM OUT OF ONE WALK OF THE LAW'S BODY. Your part is whole_start (and what it stands on); all else here is the same for every law, but numbers. -/
def R_law : String := "BasinVotesLaw"
def lw_P (b : Addr) (xs : List Int32) (args : Array Value) (s : State) : Prop := args = #[.ref b] ∧ s.IntsAt b xs ∧ xs.length ≤ 3072 ∧ (Jvm.Cond.and given_1 narrow_1).before args s = true
def lw_Q (_ : Array Value) (s : State) (o : Outcome) (t : State) : Prop := o = .returned (some (.int 1)) ∧ Framed s o t [] 600000 7302250
def lw_Z (below : List Frame) (a : Array Value) (s : State) : State → Prop := fun t => ∃ o, t.status = .running ∧ Ended t below o ∧ lw_Q a s o t
/-- the law's own end, with 1 on the stack, nothing written that was there before, its room as the claim has it -/
theorem lw_ret {p : Program} {l : Launch} {e : Env} {s : State} {m : MethodId} {below : List Frame} {meth : Method} {c : Code} {b : Nat} (hx : p.tables.exec = Jvm.exec) (hb : c.code = code) (hr : meth.sig.returnType = ret) (hlocks : meth.locks = false) {pc : Nat} {H : Heap} {ls : Array Slot} (hdg : decode code pc = .ok (.ireturn, 1)) : W p l e room_1 s m #[Value.ref b] below meth c H [] 600000 7302250 (lw_Z below #[Value.ref b] s) (F0 m pc ls [.int 1]) := by
  intro T hT X
  obtain ⟨fs, hret, hrun, hended, hW, hframe⟩ := X.leave (v := some (.int 1)) (hlocks := hlocks) (fun h => by rw [hr] at h; cases h)
  have hmeth' : T.vm.method? m = some meth := X.method'
  refine ⟨T.setFrames fs, ?_, .returned (some (.int 1)), hrun, hended, rfl, ⟨_, rfl⟩, hW, hframe⟩
  jvm_step X.here [X.here.top, hx, hb, hdg, hmeth', hr, ret, narrow_b1]
  (try refine ⟨rfl, ?_⟩); (try refine ⟨rfl, ?_⟩)
  first | (intro acts; rw [hret _ acts rfl rfl rfl]) | rw [hret _ _ rfl rfl rfl]
  exact Steps.refl _
/-- what holds at the law's entry: the machine, the code, the tables' words (any of lw_tbl by 'hts w (by decide +kernel)'), the script of L ints xs at the cell b, what the Statement gives of the start (any of its parts by flat_of_before) -/
def lw_At (p : Program) (s : State) (m : MethodId) (meth : Method) (c : Code) (b L : Nat) (xs : Nat → Int32) : Prop :=
  p.tables.exec = Jvm.exec ∧ c.code = code ∧ meth.sig.returnType = ret ∧ c.maxLocals = 4 ∧ s.vm.findClass R_law = some m.cls ∧ (∀ w ∈ lw_tbl, w.before #[Value.ref b] s = true) ∧ va_X b L xs s s.heap ∧ b < s.heap.size ∧ meth.locks = false ∧ (Jvm.Cond.and given_1 narrow_1).before #[Value.ref b] s = true
def kAd (q q2 : Nat) (u u2 : Nat → Nat) (o : Nat) : Nat := if o < 34 then (if o = 0 then q else u o) else (if o = 34 then q2 else u2 (o - 34))
set_option maxHeartbeats 4000000 in
set_option maxRecDepth 100000 in
theorem kz_world {D : va_G} {cA : Nat → ClassId} {f1 f2 f3 : Nat → Nat} {q q2 : Nat} {u u2 : Nat → Nat} : kBasn cA q u ++ kModl cA q2 u2 = zwld (D, kAd q q2 u u2, cA, f1, f2, f3) z00 := by
  apply List.ext_getElem?
  intro k
  match k with
  | 0 => rw [zwld_at (o := 0) (sh := .inl (4, [some 1, some 8, some 15, none, some 22, some 24, some 25, some 33])) rfl]; unfold zcel; simp only [List.mapIdx_cons, List.mapIdx_nil]; rfl
  | 1 => rw [zwld_at (o := 1) (sh := .inl (3, [none, none, none, none, some 2, some 3, some 4, some 5, some 6, some 7])) rfl]; unfold zcel; simp only [List.mapIdx_cons, List.mapIdx_nil]; rfl
  | 2 => rw [zwld_at (o := 2) (sh := .inr (.inl (0, 6))) rfl]; rfl
  | 3 => rw [zwld_at (o := 3) (sh := .inr (.inl (0, 6))) rfl]; rfl
  | 4 => rw [zwld_at (o := 4) (sh := .inr (.inl (0, 8))) rfl]; rfl
  | 5 => rw [zwld_at (o := 5) (sh := .inr (.inl (0, 8))) rfl]; rfl
  | 6 => rw [zwld_at (o := 6) (sh := .inr (.inl (0, 8))) rfl]; rfl
  | 7 => rw [zwld_at (o := 7) (sh := .inr (.inl (0, 8))) rfl]; rfl
  | 8 => rw [zwld_at (o := 8) (sh := .inl (3, [none, none, none, none, some 9, some 10, some 11, some 12, some 13, some 14])) rfl]; unfold zcel; simp only [List.mapIdx_cons, List.mapIdx_nil]; rfl
  | 9 => rw [zwld_at (o := 9) (sh := .inr (.inl (0, 6))) rfl]; rfl
  | 10 => rw [zwld_at (o := 10) (sh := .inr (.inl (0, 6))) rfl]; rfl
  | 11 => rw [zwld_at (o := 11) (sh := .inr (.inl (0, 8))) rfl]; rfl
  | 12 => rw [zwld_at (o := 12) (sh := .inr (.inl (0, 8))) rfl]; rfl
  | 13 => rw [zwld_at (o := 13) (sh := .inr (.inl (0, 8))) rfl]; rfl
  | 14 => rw [zwld_at (o := 14) (sh := .inr (.inl (0, 8))) rfl]; rfl
  | 15 => rw [zwld_at (o := 15) (sh := .inl (3, [none, none, none, none, some 16, some 17, some 18, some 19, some 20, some 21])) rfl]; unfold zcel; simp only [List.mapIdx_cons, List.mapIdx_nil]; rfl
  | 16 => rw [zwld_at (o := 16) (sh := .inr (.inl (0, 6))) rfl]; rfl
  | 17 => rw [zwld_at (o := 17) (sh := .inr (.inl (0, 6))) rfl]; rfl
  | 18 => rw [zwld_at (o := 18) (sh := .inr (.inl (0, 8))) rfl]; rfl
  | 19 => rw [zwld_at (o := 19) (sh := .inr (.inl (0, 8))) rfl]; rfl
  | 20 => rw [zwld_at (o := 20) (sh := .inr (.inl (0, 8))) rfl]; rfl
  | 21 => rw [zwld_at (o := 21) (sh := .inr (.inl (0, 8))) rfl]; rfl
  | 22 => rw [zwld_at (o := 22) (sh := .inl (1, [some 23, none])) rfl]; unfold zcel; simp only [List.mapIdx_cons, List.mapIdx_nil]; rfl
  | 23 => rw [zwld_at (o := 23) (sh := .inr (.inl (2, 120))) rfl]; rfl
  | 24 => rw [zwld_at (o := 24) (sh := .inl (2, [some 22, some 8, none, none, none, none])) rfl]; unfold zcel; simp only [List.mapIdx_cons, List.mapIdx_nil]; rfl
  | 25 => rw [zwld_at (o := 25) (sh := .inl (0, [some 26, some 31, some 32])) rfl]; unfold zcel; simp only [List.mapIdx_cons, List.mapIdx_nil]; rfl
  | 26 => rw [zwld_at (o := 26) (sh := .inr (.inr [27, 28, 29, 30])) rfl]; exact congrArg (fun f => some ((u 26, Sum.inl (cA 3, 4, Sum.inr (Sum.inr (Sum.inr (Sum.inr f))))) : Nat × va_E)) (funext fun j => List.getElem?_map (l := [27, 28, 29, 30]) (f := kAd q q2 u u2) (i := j))
  | 27 => rw [zwld_at (o := 27) (sh := .inr (.inl (1, 40))) rfl]; rfl
  | 28 => rw [zwld_at (o := 28) (sh := .inr (.inl (1, 40))) rfl]; rfl
  | 29 => rw [zwld_at (o := 29) (sh := .inr (.inl (1, 40))) rfl]; rfl
  | 30 => rw [zwld_at (o := 30) (sh := .inr (.inl (1, 40))) rfl]; rfl
  | 31 => rw [zwld_at (o := 31) (sh := .inr (.inl (0, 4))) rfl]; rfl
  | 32 => rw [zwld_at (o := 32) (sh := .inr (.inl (0, 4))) rfl]; rfl
  | 33 => rw [zwld_at (o := 33) (sh := .inr (.inl (0, 7))) rfl]; rfl
  | 34 => rw [zwld_at (o := 34) (sh := .inl (5, [some 35, some 36, some 37, some 38, some 39, none, some 40, none, none, none, none, none, some 41, some 42, some 43, some 44])) rfl]; unfold zcel; simp only [List.mapIdx_cons, List.mapIdx_nil]; rfl
  | 35 => rw [zwld_at (o := 35) (sh := .inr (.inl (0, 48))) rfl]; rfl
  | 36 => rw [zwld_at (o := 36) (sh := .inr (.inl (0, 48))) rfl]; rfl
  | 37 => rw [zwld_at (o := 37) (sh := .inr (.inl (0, 48))) rfl]; rfl
  | 38 => rw [zwld_at (o := 38) (sh := .inr (.inl (0, 48))) rfl]; rfl
  | 39 => rw [zwld_at (o := 39) (sh := .inr (.inl (0, 7))) rfl]; rfl
  | 40 => rw [zwld_at (o := 40) (sh := .inr (.inl (0, 120))) rfl]; rfl
  | 41 => rw [zwld_at (o := 41) (sh := .inr (.inl (0, 4))) rfl]; rfl
  | 42 => rw [zwld_at (o := 42) (sh := .inr (.inl (0, 4))) rfl]; rfl
  | 43 => rw [zwld_at (o := 43) (sh := .inr (.inl (1, 160))) rfl]; rfl
  | 44 => rw [zwld_at (o := 44) (sh := .inr (.inl (1, 40))) rfl]; rfl
  | k + 45 =>
    rw [List.getElem?_eq_none (show (kBasn cA q u ++ kModl cA q2 u2).length ≤ k + 45 from Nat.le_add_left 45 k)]
    rw [List.getElem?_eq_none (by unfold zwld; rw [List.length_mapIdx, zsh_len]; omega)]
set_option maxHeartbeats 4000000 in
set_option maxRecDepth 100000 in
theorem whole_start {p : Program} {e : Env} {s : State} {m : MethodId} {below : List Frame} {meth : Method} {c : Code} (l : Launch) (hflags : l.flags = flags0) {b L : Nat} {xs : Nat → Int32} (hL : L ≤ 3072) (C0 : lw_At p s m meth c b L xs) : W p l e room_1 s m #[Value.ref b] below meth c s.heap [] 0 0 (lw_Z below #[Value.ref b] s) (entryFrame m ([Value.ref b] : List Value).toArray 4) := by
  obtain ⟨hx, hb, hr, hml, hown, hts, hX, hbl, hlocks, hgv⟩ := C0
  have htg : ∀ w ∈ lw_g, w.before #[Value.ref b] s = true := fun w h => hts w (lw_sub w h)
  obtain ⟨D, cA, hK⟩ := ks_K hts
  obtain ⟨f1, f2, f3, hSx⟩ := ks_Sx (A := fun q => s.heap.size ≤ q) hts hgv (fun a h => Nat.not_le.mpr h)
  have hend : ∀ (g : zG) (i : Nat) (S : zSto), zAW g (p, l, e, room_1, s, m, #[Value.ref b], below, meth, c, 4, (fun q => s.heap.size ≤ q), 45, 1023, lw_Z below #[Value.ref b] s) 9 cL_law RL 1307 (zlvL g b i) [] S := by
    intro g i S
    refine za_iconst 1 dL_law_1307 (by decide) ?_
    intro ok H locs ls hP hS hLs
    refine va_forget (fun q hq => hS.2.2 q hq) ?_
    refine W.widen (k := 600000) (n := 7302250) (Nat.le_of_ble_eq_true rfl) (Nat.le_of_ble_eq_true rfl) ?_
    exact lw_ret hx hb hr hlocks dL_law_1308
  have main : kAW D cA (p, l, e, room_1, s, m, #[Value.ref b], below, meth, c, 4, (fun q => s.heap.size ≤ q), 45, 1023, lw_Z below #[Value.ref b] s) 9 cL_law RL 0 [some (.ref b), none, none, none] [] [] 0 0 := by
    refine ka_new (fs := kF5) dL_law_0 (show vwCl[4]? = some (RX5, TX5, 8) from rfl) zin5 tyX5_ok zcl_L_7 zis_X5 zit_X5 kF5_ok (Nat.le_of_ble_eq_true rfl) (Nat.le_of_ble_eq_true rfl) (fun q => ?_)
    refine ka_dup dL_law_3 rfl ?_
    refine ka_callI [0] [] (wr := []) dL_law_4 zm_L_9 zw_X5_init rfl zii_X5 (k_kBasn (D := D) (cA := cA) (h := q)) (by decide) rfl rfl (by decide) (by decide) (by decide) rfl (Nat.le_of_ble_eq_true rfl) rfl (Nat.le_of_ble_eq_true rfl) (Nat.le_of_ble_eq_true rfl) (fun u => ?_)
    refine ka_astore_n (nn := 4) dL_law_7 rfl (by decide) rfl ?_
    refine ka_new (fs := kF6) dL_law_8 (show vwCl[5]? = some (RX6, TX6, 16) from rfl) zin6 tyX6_ok zcl_L_10 zis_X6 zit_X6 kF6_ok (Nat.le_of_ble_eq_true rfl) (Nat.le_of_ble_eq_true rfl) (fun q2 => ?_)
    refine ka_dup dL_law_11 rfl ?_
    refine ka_callI [34] [0, 1, 2, 3, 4, 5, 6, 7, 8, 9, 10, 11, 12, 13, 14, 15, 16, 17, 18, 19, 20, 21, 22, 23, 24, 25, 26, 27, 28, 29, 30, 31, 32, 33] (wr := kBasn cA q u) dL_law_12 zm_L_12 zw_X6_init rfl zii_X6 (k_kModl (D := D) (cA := cA) (h := q2)) (by decide) rfl rfl (by decide) (by decide) (by decide) rfl (Nat.le_of_ble_eq_true rfl) rfl (Nat.le_of_ble_eq_true rfl) (Nat.le_of_ble_eq_true rfl) (fun u2 => ?_)
    refine ka_astore_n (nn := 4) dL_law_15 rfl (by decide) rfl ?_
    rw [kz_world (D := D) (f1 := f1) (f2 := f2) (f3 := f3)]
    refine kz_start (g := (D, kAd q q2 u u2, cA, f1, f2, f3)) (C := (p, l, e, room_1, s, m, #[Value.ref b], below, meth, c, 4, (fun q => s.heap.size ≤ q), 45, 1023, lw_Z below #[Value.ref b] s)) (σ := z00) rfl rfl (Nat.le_of_ble_eq_true rfl) (Nat.le_of_ble_eq_true rfl) (hSx D (kAd q q2 u u2) cA) ?_
    refine za_iconst (nI 0) dL_law_16 (by decide) ?_
    refine za_istore_n (nn := 4) dL_law_17 rfl (by decide) rfl ?_
    exact law_loop (L := L) (xs := xs) ⟨hX, hbl, Nat.not_le.mpr hbl, hL⟩ rfl (fun i S => hend _ i S) L 0 z00 (Nat.zero_le _) (by omega) zRel_00
  have hl := lv_entry ([.ref b]) (n := 4) (Nat.le_of_ble_eq_true rfl)
  rw [lg_entry_eq]
  exact main ⟨hx, hb, hml, hown, htg, hlocks, hK, fun _ h => h, ks_N hts, (Nat.le_of_ble_eq_true rfl), (Nat.le_of_ble_eq_true rfl)⟩ s.heap [] _ (fun k q h => by simp at h) ⟨fun i j p q h => by simp at h, fun k q h => by simp at h⟩ va_S.rf (zLH_entry hl)
