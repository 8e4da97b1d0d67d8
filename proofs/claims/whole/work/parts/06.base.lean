/-! THE STORE AND ITS WORLD: every cell of the class's object and of the reference's has a number; the object graph is fixed once both are made -/
def lw_g : List Cond := lw_tbl.filter goodWord
theorem lw_in {w : Cond} (i : Nat) (h : tables_1[i]? = some w) (hg : goodWord w = true) : w ∈ lw_g := List.mem_filter.mpr ⟨List.mem_append_right _ (List.mem_of_getElem? h), hg⟩
theorem lw_inS {w : Cond} (i : Nat) (h : (k2_sels lw_privs)[i]? = some w) (hg : goodWord w = true) : w ∈ lw_g := List.mem_filter.mpr ⟨List.mem_append_left _ (List.mem_of_getElem? h), hg⟩
theorem lw_sub : ∀ w ∈ lw_g, w ∈ lw_tbl := fun w h => (List.mem_filter.mp h).1
theorem lw_gd : ∀ w ∈ lw_g, goodWord w = true := fun w h => (List.mem_filter.mp h).2
abbrev zSto : Type := (Nat → Nat → Int32) × (Nat → Nat → Int64)
def zsi (σ : zSto) (o j : Nat) (v : Int32) : zSto := (fun a b => if a = o ∧ b = j then v else σ.1 a b, σ.2)
def zsl (σ : zSto) (o j : Nat) (v : Int64) : zSto := (σ.1, fun a b => if a = o ∧ b = j then v else σ.2 a b)
/-- a cell's shape: an object (its class, of each field: a number, or which cell), a row of numbers (0 int, 1 long, 2 byte; how many), a row of cells -/
abbrev zShp : Type := (Nat × List (Option Nat)) ⊕ (Nat × Nat) ⊕ List Nat
def zTw (o : Nat) : List zShp := [.inl (3, [none, none, none, none, some (o + 1), some (o + 2), some (o + 3), some (o + 4), some (o + 5), some (o + 6)]), .inr (.inl (0, 6)), .inr (.inl (0, 6)), .inr (.inl (0, 8)), .inr (.inl (0, 8)), .inr (.inl (0, 8)), .inr (.inl (0, 8))]
def zsh : List zShp :=
  [.inl (4, [some 1, some 8, some 15, none, some 22, some 24, some 25, some 33])] ++ zTw 1 ++ zTw 8 ++ zTw 15 ++
  [.inl (1, [some 23, none]), .inr (.inl (2, 120)),
   .inl (2, [some 22, some 8, none, none, none, none]),
   .inl (0, [some 26, some 31, some 32]), .inr (.inr [27, 28, 29, 30]), .inr (.inl (1, 40)), .inr (.inl (1, 40)), .inr (.inl (1, 40)), .inr (.inl (1, 40)), .inr (.inl (0, 4)), .inr (.inl (0, 4)),
   .inr (.inl (0, 7)),
   .inl (5, [some 35, some 36, some 37, some 38, some 39, none, some 40, none, none, none, none, none, some 41, some 42, some 43, some 44]),
   .inr (.inl (0, 48)), .inr (.inl (0, 48)), .inr (.inl (0, 48)), .inr (.inl (0, 48)), .inr (.inl (0, 7)), .inr (.inl (0, 120)), .inr (.inl (0, 4)), .inr (.inl (0, 4)), .inr (.inl (1, 160)), .inr (.inl (1, 40))]
theorem zsh_len : zsh.length = 45 := by decide +kernel
/-- the numbers of classes and slots; the cells' addresses; the rows' classes; the statics' addresses; the texts' and their bytes' -/
abbrev zG : Type := va_G × (Nat → Nat) × (Nat → ClassId) × (Nat → Nat) × (Nat → Nat) × (Nat → Nat)
def zad (g : zG) (o : Nat) : Nat := g.2.1 o
def zcA (g : zG) (t : Nat) : ClassId := g.2.2.1 t
def zst (g : zG) (k : Nat) : Nat := g.2.2.2.1 k
def zsk (g : zG) (k : Nat) : Nat := g.2.2.2.2.1 k
def zsv (g : zG) (k : Nat) : Nat := g.2.2.2.2.2 k
def zfv (g : zG) (σ : zSto) (o j : Nat) (f : Option Nat) : Value := match f with
  | none => .int (σ.1 o j)
  | some q => .ref (zad g q)
def zcel (g : zG) (σ : zSto) (o : Nat) (sh : zShp) : va_E := match sh with
  | .inl x => .inr (x.1, x.2.mapIdx (zfv g σ o))
  | .inr (.inl x) => if x.1 = 1 then .inl (zcA g 1, x.2, .inr (.inl (σ.2 o))) else .inl (zcA g x.1, x.2, .inl (σ.1 o))
  | .inr (.inr rs) => .inl (zcA g 3, rs.length, .inr (.inr (.inr (.inr (fun j => (rs[j]?).map (zad g))))))
def zwld (g : zG) (σ : zSto) : va_W := zsh.mapIdx (fun o sh => (zad g o, zcel g σ o sh))
theorem zwld_at {g : zG} {σ : zSto} {o : Nat} {sh : zShp} (h : zsh[o]? = some sh) : (zwld g σ)[o]? = some (zad g o, zcel g σ o sh) := by
  simp [zwld, List.getElem?_mapIdx, h]
theorem zwld_of {g : zG} {σ : zSto} {k : Nat} {q : Nat × va_E} (h : (zwld g σ)[k]? = some q) : k < 45 ∧ ∃ sh, zsh[k]? = some sh ∧ q = (zad g k, zcel g σ k sh) := by
  have h0 := h
  rw [zwld, List.getElem?_mapIdx] at h
  cases hs : zsh[k]? with
  | none => rw [hs] at h; cases h
  | some sh =>
    rw [hs] at h
    refine ⟨?_, sh, rfl, (Option.some.inj h).symm⟩
    have := (List.getElem?_eq_some_iff.mp hs).1
    rw [zsh_len] at this
    exact this
theorem zcel_congr {g : zG} {σ σ' : zSto} {o : Nat} {sh : zShp} (h1 : σ'.1 o = σ.1 o) (h2 : σ'.2 o = σ.2 o) : zcel g σ' o sh = zcel g σ o sh := by
  have hz : zfv g σ' o = zfv g σ o := by
    funext j f
    cases f with
    | none => show Value.int (σ'.1 o j) = Value.int (σ.1 o j); rw [h1]
    | some q => rfl
  rcases sh with x | x | x
  · show Sum.inr (x.1, x.2.mapIdx (zfv g σ' o)) = Sum.inr (x.1, x.2.mapIdx (zfv g σ o))
    rw [hz]
  · show (if x.1 = 1 then _ else _) = (if x.1 = 1 then _ else _)
    rw [h1, h2]
  · rfl
theorem zwld_set {g : zG} {σ σ' : zSto} {o : Nat} {sh : zShp} {e : va_E} (h : zsh[o]? = some sh) (h1 : ∀ a, a ≠ o → σ'.1 a = σ.1 a) (h2 : ∀ a, a ≠ o → σ'.2 a = σ.2 a) (he : zcel g σ' o sh = e) : (zwld g σ).set o (zad g o, e) = zwld g σ' := by
  apply List.ext_getElem?
  intro i
  by_cases hi : i = o
  · subst hi
    have hl : i < (zwld g σ).length := (List.getElem?_eq_some_iff.mp (zwld_at (g := g) (σ := σ) h)).1
    rw [List.getElem?_set_self hl, zwld_at h, he]
  · rw [List.getElem?_set_ne (Ne.symm hi)]
    rw [zwld, zwld, List.getElem?_mapIdx, List.getElem?_mapIdx]
    cases zsh[i]? with
    | none => rfl
    | some sh' =>
      show some (zad g i, zcel g σ i sh') = some (zad g i, zcel g σ' i sh')
      rw [zcel_congr (h1 i hi) (h2 i hi)]
def zAg (g : zG) : Nat → Prop := fun q => ∃ o, o < 45 ∧ q = zad g o
def zGk (g : zG) : Prop := ∀ i j, i < 45 → j < 45 → zad g i = zad g j → i = j
theorem zwld_D {g : zG} {σ : zSto} (h : zGk g) {A : Nat → Prop} (hA : ∀ q, zAg g q → A q) : va_D A (zwld g σ) := by
  refine ⟨fun i j p q hi hj hpq => ?_, fun k q hk => ?_⟩
  · obtain ⟨a, sh, -, rfl⟩ := zwld_of hi
    obtain ⟨b, sh', -, rfl⟩ := zwld_of hj
    exact h i j a b hpq
  · obtain ⟨a, sh, -, rfl⟩ := zwld_of hk
    exact hA _ ⟨k, a, rfl⟩
def ztys (g : zG) : List (ClassId × FieldType) := [(zcA g 0, .int), (zcA g 1, .long), (zcA g 2, .byte), (zcA g 3, .array .long)]
/-! what stands beside the world: two rows of statics, two words on nest mates, the texts -/
def zEarn : List Int32 := [2, 3, 0, 4, 0, 0]
def zAbove : List Int32 := [-1, 0, 0, 0, 1, 2]
def zTx : List String := ["thrower", "lady", "boy", "stranger", "agent", "diver", "leans", "pence", "left", "right", "bribe", "away"]
def zTk : List Nat := [70, 72, 74, 76, 78, 80, 91, 102, 49, 58, 60, 65]
def zTlen : List Nat := [7, 4, 3, 8, 5, 5, 5, 5, 4, 5, 5, 4]
def zTby : List (List Int32) := [[116, 104, 114, 111, 119, 101, 114], [108, 97, 100, 121], [98, 111, 121], [115, 116, 114, 97, 110, 103, 101, 114], [97, 103, 101, 110, 116], [100, 105, 118, 101, 114], [108, 101, 97, 110, 115], [112, 101, 110, 99, 101], [108, 101, 102, 116], [114, 105, 103, 104, 116], [98, 114, 105, 98, 101], [97, 119, 97, 121]]
def zSx (g : zG) (A : Nat → Prop) (U : State) (H : Heap) : Prop :=
  ((va_Z "BasinVotes$Kinds" "EARNS" "[I" (.ref (zst g 0)) A U H ∧ va_T .int (zst g 0) 6 (fun j => .int (zEarn.getD j 0)) A U H) ∧ (va_Z "BasinVotes$Kinds" "ABOVE" "[I" (.ref (zst g 1)) A U H ∧ va_T .int (zst g 1) 6 (fun j => .int (zAbove.getD j 0)) A U H)) ∧
  (va_Nw (.methodLinkNest RX0 9 yX5_isKind "BasinVotes") U ∧ va_Nw (.methodLinkNest RX3 42 yX5_isKind "BasinVotes") U) ∧
  va_Z "java/lang/String" "COMPACT_STRINGS" "Z" (.int 1) A U H ∧ va_Zq "jdk/internal/util/Preconditions" "SIOOBE_FORMATTER" "Ljava/util/function/BiFunction;" A U H ∧
  (vk_S 12 zTlen zTby (zsk g) (zsv g) A U H ∧ ∀ i, i < 12 → vk_R RX3 (zTk.getD i 0) (zTx.getD i "") (zsk g i) U)
theorem zSx.warm {g : zG} {A : Nat → Prop} {s U : State} {H : Heap} (hW : s.WarmedH U.vm) (h : zSx g A s H) : zSx g A U H :=
  ⟨⟨⟨h.1.1.1.moved hW.alike, h.1.1.2.moved hW.alike⟩, h.1.2.1.moved hW.alike, h.1.2.2.moved hW.alike⟩, ⟨va_Nw.warmM hW h.2.1.1, va_Nw.warmM hW h.2.1.2⟩, h.2.2.1.moved hW.alike, h.2.2.2.1.moved hW.alike, h.2.2.2.2.1.moved hW.alike, fun i hi => (h.2.2.2.2.2 i hi).warm hW⟩
theorem zSx.kept {g : zG} {A : Nat → Prop} {U : State} {H H1 : Heap} (h : zSx g A U H) (hq : ∀ a : Nat, a < H.size → ¬ A a → H1[a]? = H[a]?) : zSx g A U H1 :=
  ⟨⟨⟨h.1.1.1.kept hq, h.1.1.2.kept hq⟩, h.1.2.1.kept hq, h.1.2.2.kept hq⟩, h.2.1, h.2.2.1.kept hq, h.2.2.2.1.kept hq, h.2.2.2.2.1.kept hq, h.2.2.2.2.2⟩
theorem zSx.narrow {g : zG} {A B : Nat → Prop} {U : State} {H : Heap} (h : zSx g A U H) (hAB : ∀ q, B q → A q) : zSx g B U H :=
  ⟨⟨⟨h.1.1.1.narrow hAB, h.1.1.2.narrow hAB⟩, h.1.2.1.narrow hAB, h.1.2.2.narrow hAB⟩, h.2.1, h.2.2.1.narrow hAB, h.2.2.2.1.narrow hAB, h.2.2.2.2.1.narrow hAB, h.2.2.2.2.2⟩
theorem zSx.same {g : zG} {A : Nat → Prop} {s U : State} {H : Heap} (hv : U.vm = s.vm) (h : zSx g A s H) : zSx g A U H := by
  have hal : s.vm.Alike U.vm := by rw [hv]; exact Vm.Alike.refl _
  exact ⟨⟨⟨h.1.1.1.moved hal, h.1.1.2.moved hal⟩, h.1.2.1.moved hal, h.1.2.2.moved hal⟩, ⟨va_Nw.same rfl hv.symm h.2.1.1, va_Nw.same rfl hv.symm h.2.1.2⟩, h.2.2.1.moved hal, h.2.2.2.1.moved hal, h.2.2.2.2.1.moved hal, fun i hi => (h.2.2.2.2.2 i hi).same hv⟩
/-- the world at a state -/
def zWd (g : zG) (σ : zSto) (U : State) : Prop := zGk g ∧ va_P g.1 vwCl (zwld g σ) U.heap ∧ va_K g.1 vwCl (ztys g) U ∧ zSx g (zAg g) U U.heap
/-! A WALK: the machine stands at pc, with locals lv, the stack st and the store σ -/
abbrev zC : Type := Program × Launch × Env × Room × State × MethodId × Array Value × List Frame × Method × Code × Nat × (Nat → Prop) × Nat × Nat × (State → Prop)
abbrev zcs (C : zC) : State := C.2.2.2.2.1
abbrev zcR (C : zC) : Room := C.2.2.2.1
abbrev zcN (C : zC) : Nat := C.2.2.2.2.2.2.2.2.2.2.1
abbrev zcA' (C : zC) : Nat → Prop := C.2.2.2.2.2.2.2.2.2.2.2.1
abbrev zcM (C : zC) : Method := C.2.2.2.2.2.2.2.2.1
abbrev zcQ (C : zC) : State → Prop := C.2.2.2.2.2.2.2.2.2.2.2.2.2.2
abbrev zcb (C : zC) : List Frame := C.2.2.2.2.2.2.2.1
abbrev zca (C : zC) : Array Value := C.2.2.2.2.2.2.1
def zLH (ls : Array Slot) (nL : Nat) (lv : List (Option Value)) : Prop := ls.size = nL ∧ lv_wf ls ∧ ∀ (i : Nat) (v : Value), lv[i]? = some (some v) → ls[i]? = some (.val v)
def zOk (g : zG) (C : zC) (dd : Nat) (cc : ByteArray) (own : String) : Prop := match C with
  | (p, _, _, R, s, m, args, _, meth, c, nL, A, cells, slots, _) =>
    p.tables.exec = Jvm.exec ∧ c.code = cc ∧ c.maxLocals = nL ∧ s.vm.findClass own = some m.cls ∧ (∀ w ∈ lw_g, w.before args s = true) ∧ meth.locks = false ∧ va_K g.1 vwCl (ztys g) s ∧ zSx g A s s.heap ∧ zGk g ∧ (∀ q, zAg g q → A q) ∧ (cells ≤ R.cells ∧ slots ≤ R.slots) ∧ dd ≤ R.frames ∧ 36 * dd ≤ R.locals
def zAW (g : zG) (C : zC) (dd : Nat) (cc : ByteArray) (own : String) (pc : Nat) (lv : List (Option Value)) (st : List Value) (σ : zSto) : Prop := match C with
  | (p, l, e, R, s, m, args, below, meth, c, nL, A, cells, slots, Q) =>
    zOk g (p, l, e, R, s, m, args, below, meth, c, nL, A, cells, slots, Q) dd cc own → ∀ (H : Heap) (locs : List Loc) (ls : Array Slot), va_P g.1 vwCl (zwld g σ) H → va_S A s.heap H locs → zLH ls nL lv → W p l e R s m args below meth c H locs cells slots Q (F0 m pc ls st)
