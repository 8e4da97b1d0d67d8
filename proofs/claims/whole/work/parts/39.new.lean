/-! OBJECTS COME: a walk over a world that grows (constructors; the law's beginning) -/
abbrev ktys (cA : Nat → ClassId) : List (ClassId × FieldType) := [(cA 0, .int), (cA 1, .long), (cA 2, .byte), (cA 3, .array .long)]
/-- the rows of rows of longs have their class -/
def kA (U : State) : Prop := (Cond.arrayOver (.array .long)).before #[] U = true
theorem kA.moved {s U : State} (hal : s.vm.Alike U.vm) (h : kA s) : kA U := by
  have h2 : (Cond.arrayOver (.array .long)).before #[] (s.setVm U.vm) = true := by
    rw [Cond.arrayOver_setVmC hal]
    exact h
  exact h2
theorem kA.use {A : Array Value} {U : State} (h : kA U) : (Cond.arrayOver (.array .long)).before A U = true := h
theorem kA.of {A : Array Value} {U : State} (h : (Cond.arrayOver (.array .long)).before A U = true) : kA U := h
/-- words on nest mates, and of the rows of rows of longs, at a state -/
def kN (U : State) : Prop := va_Nw (.methodLinkNest RX5 9 yX4_init "BasinVotes") U ∧ va_Nw (.methodLinkNest RX5 28 yX2_init "BasinVotes") U ∧ va_Nw (.methodLinkNest RX5 44 yX1_init "BasinVotes") U ∧ kA U
theorem kN.warm {s U : State} (hW : s.WarmedH U.vm) (h : kN s) : kN U := ⟨va_Nw.warmM hW h.1, va_Nw.warmM hW h.2.1, va_Nw.warmM hW h.2.2.1, h.2.2.2.moved hW.alike⟩
theorem kN.same {s U : State} (hv : U.vm = s.vm) (h : kN s) : kN U := ⟨va_Nw.same rfl hv.symm h.1, va_Nw.same rfl hv.symm h.2.1, va_Nw.same rfl hv.symm h.2.2.1, h.2.2.2.moved (by rw [hv]; exact Vm.Alike.refl _)⟩
theorem kRA {U : State} {a b : ClassId} {ty : FieldType} (h1 : va_RA U a ty) (h2 : va_RA U b ty) : a = b := by
  cases ty with
  | object C =>
    obtain ⟨_, _, _, _, _, e1⟩ := h1
    obtain ⟨_, _, _, _, _, e2⟩ := h2
    exact Option.some.inj (e1.symm.trans e2)
  | _ => exact Option.some.inj (Eq.trans (Eq.symm h1) h2)
def kOk (D : va_G) (cA : Nat → ClassId) (C : zC) (dd : Nat) (cc : ByteArray) (own : String) : Prop := match C with
  | (p, _, _, R, s, m, args, _, meth, c, nL, A, _, _, _) =>
    p.tables.exec = Jvm.exec ∧ c.code = cc ∧ c.maxLocals = nL ∧ s.vm.findClass own = some m.cls ∧ (∀ w ∈ lw_g, w.before args s = true) ∧ meth.locks = false ∧ va_K D vwCl (ktys cA) s ∧ (∀ q, s.heap.size ≤ q → A q) ∧ kN s ∧ dd ≤ R.frames ∧ 36 * dd ≤ R.locals
def kAW (D : va_G) (cA : Nat → ClassId) (C : zC) (dd : Nat) (cc : ByteArray) (own : String) (pc : Nat) (lv : List (Option Value)) (st : List Value) (ws : va_W) (x y : Nat) : Prop := match C with
  | (p, l, e, R, s, m, args, below, meth, c, nL, A, cells, slots, Q) =>
    kOk D cA (p, l, e, R, s, m, args, below, meth, c, nL, A, cells, slots, Q) dd cc own → ∀ (H : Heap) (locs : List Loc) (ls : Array Slot), va_P D vwCl ws H → va_D A ws → va_S A s.heap H locs → zLH ls nL lv → W p l e R s m args below meth c H locs x y Q (F0 m pc ls st)
theorem zq_obj : Cond.instanceMethod objectInit ∈ lw_g ∧ Cond.code objectInit ⟨#[0xb1]⟩ 1 none ∈ lw_g := ⟨lw_in 21 (by decide +kernel) (by decide +kernel), lw_in 22 (by decide +kernel) (by decide +kernel)⟩
/-- what a constructor's store into a final field needs -/
def zFF (ci k : Nat) (ty : FieldType) (own : String) : Prop := ∃ (K : String) (T : u_T) (N : Nat) (ty0 : Nat → FieldType), vwCl[ci]? = some (K, T, N) ∧ (∀ k, k < N → parseFieldDescriptor (T k).2.2.1 = some (ty0 k)) ∧ (∀ a, a < N → ∀ b, b < N → a ≠ b → (T a).2.1 ≠ (T b).2.1) ∧ (T k).2.2.2 = true ∧ (T k).1 = own ∧ parseFieldDescriptor (T k).2.2.1 = some ty
section KROWS
variable {D : va_G} {cA : Nat → ClassId} {C : zC} {dd : Nat} {cc : ByteArray} {own : String} {pc : Nat} {lv : List (Option Value)} {st rest : List Value} {ws : va_W} {x y : Nat}
theorem ka_aload_n {q : Fin 4} {a : Nat} (hd : decode cc pc = .ok (.aload_n q, 1)) (hl : lv[(q : Nat)]? = some (some (.ref a))) (k : kAW D cA C dd cc own (pc + 1) lv (.ref a :: st) ws x y) : kAW D cA C dd cc own pc lv st ws x y := by
  obtain ⟨p, l, e, R, s, m, args, below, meth, c, nL, A, cells, slots, Q⟩ := C
  intro ok H locs ls hP hD hS hL
  exact lv_aload_n ok.1 ok.2.1 hd rfl (hL.2.2 _ _ hl) (k ok H locs ls hP hD hS hL)
theorem ka_iconst {n : Int} (v : Int32) (hd : decode cc pc = .ok (.iconst n, 1)) (hv : Int32.ofInt n = v) (k : kAW D cA C dd cc own (pc + 1) lv (.int v :: st) ws x y) : kAW D cA C dd cc own pc lv st ws x y := by
  obtain ⟨p, l, e, R, s, m, args, below, meth, c, nL, A, cells, slots, Q⟩ := C
  intro ok H locs ls hP hD hS hL
  exact lv_iconst ok.1 ok.2.1 hd hv (k ok H locs ls hP hD hS hL)
theorem ka_bipush {n : Int} (v : Int32) (hd : decode cc pc = .ok (.bipush n, 2)) (hv : (Int8.ofInt n).toInt32 = v) (k : kAW D cA C dd cc own (pc + 2) lv (.int v :: st) ws x y) : kAW D cA C dd cc own pc lv st ws x y := by
  obtain ⟨p, l, e, R, s, m, args, below, meth, c, nL, A, cells, slots, Q⟩ := C
  intro ok H locs ls hP hD hS hL
  exact lv_bipush ok.1 ok.2.1 hd hv (k ok H locs ls hP hD hS hL)
theorem ka_sipush {n : Int} (v : Int32) (hd : decode cc pc = .ok (.sipush n, 3)) (hv : (Int16.ofInt n).toInt32 = v) (k : kAW D cA C dd cc own (pc + 3) lv (.int v :: st) ws x y) : kAW D cA C dd cc own pc lv st ws x y := by
  obtain ⟨p, l, e, R, s, m, args, below, meth, c, nL, A, cells, slots, Q⟩ := C
  intro ok H locs ls hP hD hS hL
  exact lv_sipush ok.1 ok.2.1 hd hv (k ok H locs ls hP hD hS hL)
theorem ka_dup {v : Value} (hd : decode cc pc = .ok (.dup, 1)) (hv : v.category = 1) (k : kAW D cA C dd cc own (pc + 1) lv (v :: v :: st) ws x y) : kAW D cA C dd cc own pc lv (v :: st) ws x y := by
  obtain ⟨p, l, e, R, s, m, args, below, meth, c, nL, A, cells, slots, Q⟩ := C
  intro ok H locs ls hP hD hS hL
  exact lv_dup ok.1 ok.2.1 hd hv (k ok H locs ls hP hD hS hL)
theorem ka_obj {idx a : Nat} (hd : decode cc pc = .ok (.invokespecial idx, 3)) (hm : Cond.methodLink own idx objectInit ∈ lw_g) (hdd : 1 ≤ dd) (hr : (rest.map fun v => v.category).sum ≤ 8) (k : kAW D cA C dd cc own (pc + 3) lv rest ws x y) : kAW D cA C dd cc own pc lv (.ref a :: rest) ws x y := by
  obtain ⟨p, l, e, R, s, m, args, below, meth, c, nL, A, cells, slots, Q⟩ := C
  intro ok H locs ls hP hD hS hL
  have ok' := ok
  obtain ⟨hx, hb, hml, hown, hts, hlocks, hK, hA, hN, hdR, hlR⟩ := ok'
  have hrm := lv_room (m := m) (pc := pc) (ls := ls) (rest := .ref a :: rest) hr
  exact W.objInit hx hb hown (hts _ hm) (hts _ zq_obj.1) (hts _ zq_obj.2) (g := F0 m pc ls (.ref a :: rest)) rfl (hL.1.trans hml.symm) rfl hd (by omega) (by omega) (W.eq (g2 := F0 m (pc + 3) ls rest) rfl (k ok H locs ls hP hD hS hL))
theorem ka_putF {idx ci j q0 a b : Nat} {fs : List Value} {ty : FieldType} (hd : decode cc pc = .ok (.putfield idx, 3)) (hf : zFL own idx ci j) (hp : zFF ci j ty own) (hin : (zcM C).name = "<init>") (he : ws[q0]? = some (a, .inr (ci, fs))) (hl : j < fs.length) (hn : narrow ty (.ref b) = .ref b) (hfit : fits ty (.ref b) = true) (k : kAW D cA C dd cc own (pc + 3) lv st (ws.set q0 (a, .inr (ci, fs.set j (.ref b)))) x y) : kAW D cA C dd cc own pc lv (.ref b :: .ref a :: st) ws x y := by
  obtain ⟨p, l, e, R, s, m, args, below, meth, c, nL, A, cells, slots, Q⟩ := C
  intro ok H locs ls hP hD hS hL
  obtain ⟨K, T, N, h1, h2, h3, h4⟩ := hf
  obtain ⟨K', T', N', ty0, h1', h5, h6, h7, h8, h9⟩ := hp
  cases h1.symm.trans h1'
  exact va_putF (D := D) (ci := ci) (v := .ref b) (ty := ty) ok.1 ok.2.1 ok.2.2.2.2.1 h4 ty0 h5 h6 ok.2.2.2.1 ok.2.2.2.2.2.2.1 hP hD hS q0 he h1 j h2 (ok.2.2.2.2.1 _ h3) (fun _ h => h) h7 hin h8 h9 hn hfit hl hd (fun H1 locs1 hP1 hD1 hS1 => k ok H1 locs1 ls hP1 hD1 hS1 hL)
theorem ka_putI {idx ci j q0 a : Nat} {fs : List Value} {ty : FieldType} {v : Int32} (hd : decode cc pc = .ok (.putfield idx, 3)) (hf : zFL own idx ci j) (hp : zFP ci j ty) (he : ws[q0]? = some (a, .inr (ci, fs))) (hl : j < fs.length) (hn : narrow ty (.int v) = .int v) (hfit : fits ty (.int v) = true) (k : kAW D cA C dd cc own (pc + 3) lv st (ws.set q0 (a, .inr (ci, fs.set j (.int v)))) x y) : kAW D cA C dd cc own pc lv (.int v :: .ref a :: st) ws x y := by
  obtain ⟨p, l, e, R, s, m, args, below, meth, c, nL, A, cells, slots, Q⟩ := C
  intro ok H locs ls hP hD hS hL
  obtain ⟨K, T, N, h1, h2, h3, h4⟩ := hf
  obtain ⟨K', T', N', ty0, h1', h5, h6, h7, h8⟩ := hp
  cases h1.symm.trans h1'
  exact va_put (D := D) (ci := ci) (v := .int v) (ty := ty) ok.1 ok.2.1 ok.2.2.2.2.1 h4 ty0 h5 h6 ok.2.2.2.1 ok.2.2.2.2.2.2.1 hP hD hS q0 he h1 j h2 (ok.2.2.2.2.1 _ h3) (fun _ h => h) h7 h8 hn hfit hl hd (fun H1 locs1 hP1 hD1 hS1 => k ok H1 locs1 ls hP1 hD1 hS1 hL)
theorem ka_getR {idx ci j q0 a b : Nat} {fs : List Value} (hd : decode cc pc = .ok (.getfield idx, 3)) (hf : zFL own idx ci j) (he : ws[q0]? = some (a, .inr (ci, fs))) (hj : fs[j]? = some (.ref b)) (k : kAW D cA C dd cc own (pc + 3) lv (.ref b :: st) ws x y) : kAW D cA C dd cc own pc lv (.ref a :: st) ws x y := by
  obtain ⟨p, l, e, R, s, m, args, below, meth, c, nL, A, cells, slots, Q⟩ := C
  intro ok H locs ls hP hD hS hL
  obtain ⟨K, T, N, h1, h2, h3, h4⟩ := hf
  exact va_get (D := D) (ci := ci) (v := .ref b) ok.1 ok.2.1 ok.2.2.2.2.1 h4 ok.2.2.2.1 ok.2.2.2.2.2.2.1 hP q0 he h1 j h2 (ok.2.2.2.2.1 _ h3) (fun _ h => h) hj hd (k ok H locs ls hP hD hS hL)
theorem ka_newa {atype : ArrayType} {ty : FieldType} {t N' : Nat} {n : Int32} {a0 : vp_A} (hd : decode cc pc = .ok (.newarray atype, 2)) (harr : Cond.arrayClass (newarray.typeOf atype) ∈ lw_g) (hty : newarray.typeOf atype = ty) (ht : (ktys cA)[t]? = some (cA t, ty)) (ha : ∀ cA : ClassId, vp_cell cA a0 = arrV cA N' (fun _ => defaultValue ty)) (hn : ¬ n < 0) (hN : n.toNatClampNeg = N') (hbytes : N' * componentBytes ty ≤ 536870912) (hcells : x + 1 ≤ (zcR C).cells) (hslots : y + N' ≤ (zcR C).slots)
    (k : ∀ q, kAW D cA C dd cc own (pc + 2) lv (.ref q :: st) (ws ++ [(q, .inl (cA t, a0))]) (x + 1) (y + N')) : kAW D cA C dd cc own pc lv (.int n :: st) ws x y := by
  obtain ⟨p, l, e, R, s, m, args, below, meth, c, nL, A, cells, slots, Q⟩ := C
  intro ok H locs ls hP hD hS hL
  have hK := ok.2.2.2.2.2.2.1
  refine va_newa (D := D) (atype := atype) ok.1 ok.2.1 (ok.2.2.2.2.1 _ harr) hty hK hP hD hS ok.2.2.2.2.2.2.2.1 ha hn hN hbytes hcells hslots hd (fun q c' H1 hK1 hP1 hD1 hS1 => ?_)
  have e1 : c' = cA t := kRA (hK1.2 4 (c', ty) rfl).2 (hK.2 t _ ht).2
  subst e1
  exact k q ok H1 locs ls hP1 hD1 hS1 hL
theorem ka_new {idx ci N : Nat} {K : String} {T : u_T} {ty : Nat → FieldType} {fs : List Value} (hd : decode cc pc = .ok (.new idx, 3)) (hc : vwCl[ci]? = some (K, T, N)) (hin : ∀ w ∈ u_ws K T N, w ∈ lw_g) (hty : ∀ k, k < N → parseFieldDescriptor (T k).2.2.1 = some (ty k)) (hcl : Cond.classLink own idx K ∈ lw_g) (hinst : Cond.instantiable K N ∈ lw_g) (hini : Cond.initialized K ∈ lw_g) (hfs : ∀ j, j < N → defaultValue (ty j) = vp_V fs j) (hcells : x + 1 ≤ (zcR C).cells) (hslots : y + N ≤ (zcR C).slots)
    (k : ∀ q, kAW D cA C dd cc own (pc + 3) lv (.ref q :: st) (ws ++ [(q, .inr (ci, fs))]) (x + 1) (y + N)) : kAW D cA C dd cc own pc lv st ws x y := by
  obtain ⟨p, l, e, R, s, m, args, below, meth, c, nL, A, cells, slots, Q⟩ := C
  intro ok H locs ls hP hD hS hL
  exact va_new (D := D) (ci := ci) (fs := fs) ok.1 ok.2.1 ok.2.2.2.2.1 hin ty hty ok.2.2.2.1 (ok.2.2.2.2.1 _ hcl) (ok.2.2.2.2.1 _ hinst) (ok.2.2.2.2.1 _ hini) ok.2.2.2.2.2.2.1 hP hD hS ok.2.2.2.2.2.2.2.1 hc hfs hcells hslots hd (fun q H1 hP1 hD1 hS1 => k q ok H1 locs ls hP1 hD1 hS1 hL)
/-! a constructor's contract -/
def kRm (d mc ms : Nat) : Room := { frames := d, cells := mc, slots := ms, locals := 36 * d }
def kQc (D : va_G) (wc : va_W) (out : (Nat → Nat) → va_W) (sz : Nat) : Array Value → State → Outcome → State → Prop := va_Qv (fun _ : Nat → Nat => True) (fun u t => va_P D vwCl (out u) t.heap ∧ va_D (va_A wc sz) (out u)) (va_A wc sz)
def kPc (D : va_G) (cA : Nat → ClassId) (as : List Value) (wc : va_W) (sz : Nat) : Array Value → State → Prop := va_Pc as (fun U => U.heap.size = sz ∧ va_P D vwCl wc U.heap ∧ va_K D vwCl (ktys cA) U ∧ va_D (fun _ => True) wc ∧ kN U)
def kEv (D : va_G) (cA : Nat → ClassId) (d mc ms : Nat) (yy : MethodName) (cy : ByteArray) (n : Nat) (as : List Value) (wc : va_W) (out : (Nat → Nat) → va_W) : Prop :=
  ∀ (l : Launch) (sz : Nat), Met l yy (.code yy cy n none :: lw_g) (kRm d mc ms) (kPc D cA as wc sz) (kQc D wc out sz) mc ms (va_A wc sz)
theorem kblind {as : List Value} {wc : va_W} {sz : Nat} : FrameBlind (kPc D cA as wc sz) := fun a U gg mk h => ⟨h.1, h.2.1, h.2.2.1, va_K.moved (u := U) (U := U.calling gg mk a) (Vm.Alike.refl U.vm) h.2.2.2.1, h.2.2.2.2.1, kN.same (s := U) (U := U.calling gg mk a) rfl h.2.2.2.2.2⟩
def kMe (D : va_G) (C : zC) (n d mc ms : Nat) (wc : va_W) (out : (Nat → Nat) → va_W) : Prop := match C with
  | (_, _, _, R, s, _, args, below, meth, _, nL, A, _, _, Q) => nL = n ∧ meth.sig.returnType = none ∧ A = va_A wc s.heap.size ∧ R = kRm d mc ms ∧ meth.name = "<init>" ∧ Q = MQ below (kQc D wc out s.heap.size) args s mc ms (va_A wc s.heap.size)
theorem kMe.c {n d mc ms a : Nat} {wc : va_W} {out : (Nat → Nat) → va_W} (hM : kMe D C n d mc ms wc out) (h : a ≤ mc) : a ≤ (zcR C).cells := by
  obtain ⟨p, l, e, R, s, m, args, below, meth, c, nL, A, cells, slots, Q⟩ := C
  obtain ⟨-, -, -, rfl, -, -⟩ := hM
  exact h
theorem kMe.s {n d mc ms a : Nat} {wc : va_W} {out : (Nat → Nat) → va_W} (hM : kMe D C n d mc ms wc out) (h : a ≤ ms) : a ≤ (zcR C).slots := by
  obtain ⟨p, l, e, R, s, m, args, below, meth, c, nL, A, cells, slots, Q⟩ := C
  obtain ⟨-, -, -, rfl, -, -⟩ := hM
  exact h
theorem kMe.i {n d mc ms : Nat} {wc : va_W} {out : (Nat → Nat) → va_W} (hM : kMe D C n d mc ms wc out) : (zcM C).name = "<init>" := by
  obtain ⟨p, l, e, R, s, m, args, below, meth, c, nL, A, cells, slots, Q⟩ := C
  exact hM.2.2.2.2.1
theorem kev_intro {d mc ms n : Nat} {yy : MethodName} {as : List Value} {wc : va_W} {out : (Nat → Nat) → va_W} (hy : plainName yy.cls = true) (ho : yy.cls = own) (hi : yy.name = "<init>") (hlen : (lg_sl as).length ≤ n) {lv : List (Option Value)} (hlv : zlv as n = lv) (body : ∀ C : zC, kMe D C n d mc ms wc out → kAW D cA C d cc own 0 lv [] wc 0 0) : kEv D cA d mc ms yy cc n as wc out := by
  subst hlv
  intro l sz
  refine Met.ofW (cc := cc) (maxL := n) (ret := none) hy rfl ?_
  intro p e s m args below meth c s₁ B hml hv
  obtain ⟨rfl, hsz, hP, hK, hD0, hN⟩ := hv
  subst hsz
  have hts := atoms_spec (ws := .code yy cc n none :: lw_g) B.pre
  have hown : s.vm.findClass yy.cls = some m.cls := findClass_of_methodNamed B.named
  rw [ho] at hown
  have hin : meth.name = "<init>" := (name_of_methodNamed B.named B.method).1.trans hi
  have hl := lv_entry as (n := n) hlen
  rw [lg_entry_eq]
  exact body (p, l, e, _, s, m, _, below, meth, c, n, va_A wc s.heap.size, 0, 0, _) ⟨rfl, B.returns, rfl, rfl, hin, rfl⟩ ⟨B.exec, B.bytes, hml, hown, fun w hw => hts w (List.mem_cons_of_mem _ hw), B.notSynchronized, hK, fun q h => Or.inr h, hN, Nat.le_refl _, Nat.le_refl _⟩ s.heap [] _ hP (hD0.self (sz := s.heap.size)) va_S.rf (zLH_entry hl)
theorem ka_vret {d mc ms n : Nat} {wc : va_W} {out : (Nat → Nat) → va_W} (hM : kMe D C n d mc ms wc out) (hd : decode cc pc = .ok (.return_, 1)) (u : Nat → Nat) (hw : ws = out u) (hx : x ≤ mc) (hy : y ≤ ms) : kAW D cA C dd cc own pc lv [] ws x y := by
  obtain ⟨p, l, e, R, s, m, args, below, meth, c, nL, A, cells, slots, Q⟩ := C
  obtain ⟨rfl, hr, rfl, rfl, -, rfl⟩ := hM
  subst hw
  intro ok H locs ls hP hD hS hL
  refine W.widen (k := mc) (n := ms) hx hy ?_
  exact W.vret ok.1 ok.2.1 hr (fun t ht hW => ⟨⟨u, rfl, trivial, by rw [ht]; exact hP, hD⟩, hS.F ht⟩) hS.2.2 hd (hlocks := ok.2.2.2.2.2.1)
theorem ksub {wc : va_W} {isC : List Nat} (hC : isC.map (fun i => ws[i]?) = wc.map some) : isC.filterMap (fun i => ws[i]?) = wc := by
  have h : (isC.map (fun i => ws[i]?)).filterMap id = (wc.map some).filterMap id := by rw [hC]
  rw [List.filterMap_map, List.filterMap_map] at h
  simpa using h
section KCALL
variable {d mc ms n na idx a : Nat} {yy : MethodName} {cy : ByteArray} {As : List Value} {wc wr : va_W} {out : (Nat → Nat) → va_W}
theorem krun {p : Program} {l : Launch} {e : Env} {R : Room} {s : State} {m : MethodId} {args : Array Value} {below : List Frame} {meth : Method} {c : Code} {nL : Nat} {A : Nat → Prop} {cells slots : Nat} {Q : State → Prop} {H : Heap} {locs : List Loc} {ls : Array Slot} {as : Array Value} (isC isR : List Nat)
    (ok : kOk D cA (p, l, e, R, s, m, args, below, meth, c, nL, A, cells, slots, Q) dd cc own) (hP : va_P D vwCl ws H) (hD : va_D A ws) (hS : va_S A s.heap H locs) (hL : zLH ls nL lv) (hC : isC.map (fun i => ws[i]?) = wc.map some) (hR : isR.map (fun i => ws[i]?) = wr.map some) (hn : va_nd isR = true) (hdis : ∀ i ∈ isR, i ∉ isC)
    (hr : va_Run p l e R s m args below meth c H locs x y mc ms (F0 m pc ls st) rest (kQc D wc out H.size as) (va_A wc H.size)) (k : ∀ u, kAW D cA (p, l, e, R, s, m, args, below, meth, c, nL, A, cells, slots, Q) dd cc own (pc + 3) lv rest (wr ++ out u) (x + mc) (y + ms)) :
    W p l e R s m args below meth c H locs x y Q (F0 m pc ls st) := by
  have hF := va_free hD hS ok.2.2.2.2.2.2.2.1 isC hC
  refine va_callv hr hS (fun q _ h => hF q h) hF (fun u t H1 locs1 ht hvm _ hB hz1 hk1 hS1 => ?_)
  obtain ⟨hP1, hD1⟩ := hB
  rw [ht] at hP1
  obtain ⟨hP2, hD2⟩ := va_join hP hD isC isR hC hR hn hdis hk1 hF hP1 hD1
  exact k u ok H1 locs1 ls hP2 hD2 hS1 hL
theorem ka_callI (isC isR : List Nat) (hd : decode cc pc = .ok (.invokespecial idx, 3)) (hm : Cond.methodLink own idx yy ∈ lw_g) (hw : zCW yy cy n none na) (hi : yy.name = "<init>") (hv : Cond.instanceMethod yy ∈ lw_g) (hE : kEv D cA d mc ms yy cy n (.ref a :: As) wc out) (hdd : d < dd) (hC : isC.map (fun i => ws[i]?) = wc.map some) (hR : isR.map (fun i => ws[i]?) = wr.map some) (hnC : va_nd isC = true) (hn : va_nd isR = true) (hdis : ∀ i ∈ isR, i ∉ isC) (hna : As.length = na) (hr : (rest.map fun v => v.category).sum ≤ 8) (hst : st = As.reverse ++ .ref a :: rest) (hcells : x + mc ≤ (zcR C).cells) (hslots : y + ms ≤ (zcR C).slots)
    (k : ∀ u, kAW D cA C dd cc own (pc + 3) lv rest (wr ++ out u) (x + mc) (y + ms)) : kAW D cA C dd cc own pc lv st ws x y := by
  obtain ⟨p, l, e, R, s, m, args, below, meth, c, nL, A, cells, slots, Q⟩ := C
  intro ok H locs ls hP hD hS hL
  have ok' := ok
  obtain ⟨hx, hb, hml, hown, hts, hlocks, hK, hA, hN, hdR, hlR⟩ := ok'
  obtain ⟨w1, w2, w3, w4, w5, w6⟩ := hw
  have hcb : CallB R s args own idx yy cy n none (.code yy cy n none :: lw_g) (kRm d mc ms) mc ms na := callB_of na hts (zgoodIn (fun _ h => h) w1) rfl rfl rfl (hts _ w2) (hts _ hm) ⟨w4, w5, w6⟩ ⟨by show d + 1 ≤ _; omega, by show 8 + (n + 11) + 36 * d ≤ _; omega⟩
  have hPc := hP.sub isC (ksub hC)
  have hDc := hD.sub isC hnC hC
  exact krun isC isR ok hP hD hS hL hC hR hn hdis (va_runI (As := As) (rest := rest) ⟨hx, hb, hml, hown, hts⟩ (hE l H.size) ⟨hcb, hi, hts _ hv⟩ ⟨kblind, fun U hU hW => ⟨rfl, by rw [hU], by rw [hU]; exact hPc, va_K.moved hW.alike hK, hDc.weaken (fun _ _ _ _ => trivial), hN.warm hW⟩⟩ rfl hna hL.1 hst (lv_room hr) hd ⟨hcells, hslots⟩) k
theorem ka_callN (isC isR : List Nat) (hd : decode cc pc = .ok (.invokespecial idx, 3)) (hm : ∀ U, kN U → va_Nw (.methodLinkNest own idx yy "BasinVotes") U) (hw : zCW yy cy n none na) (hi : yy.name = "<init>") (hv : Cond.instanceMethod yy ∈ lw_g) (hE : kEv D cA d mc ms yy cy n (.ref a :: As) wc out) (hdd : d < dd) (hC : isC.map (fun i => ws[i]?) = wc.map some) (hR : isR.map (fun i => ws[i]?) = wr.map some) (hnC : va_nd isC = true) (hn : va_nd isR = true) (hdis : ∀ i ∈ isR, i ∉ isC) (hna : As.length = na) (hr : (rest.map fun v => v.category).sum ≤ 8) (hst : st = As.reverse ++ .ref a :: rest) (hcells : x + mc ≤ (zcR C).cells) (hslots : y + ms ≤ (zcR C).slots)
    (k : ∀ u, kAW D cA C dd cc own (pc + 3) lv rest (wr ++ out u) (x + mc) (y + ms)) : kAW D cA C dd cc own pc lv st ws x y := by
  obtain ⟨p, l, e, R, s, m, args, below, meth, c, nL, A, cells, slots, Q⟩ := C
  intro ok H locs ls hP hD hS hL
  have ok' := ok
  obtain ⟨hx, hb, hml, hown, hts, hlocks, hK, hA, hN, hdR, hlR⟩ := ok'
  obtain ⟨w1, w2, w3, w4, w5, w6⟩ := hw
  have hcb := va_cnB (R := R) (s := s) (args := args) (own := own) (host := "BasinVotes") (index := idx) (maxL := n) (mc := mc) (ms := ms) (y := yy) (bytes := cy) (ret := none) (rm := kRm d mc ms) na hts (zgoodIn (fun _ h => h) w1) rfl rfl rfl (hm s hN) (hts _ w2) ⟨w4, w5, w6⟩ ⟨by show d + 1 ≤ _; omega, by show 8 + (n + 11) + 36 * d ≤ _; omega⟩
  have hPc := hP.sub isC (ksub hC)
  have hDc := hD.sub isC hnC hC
  exact krun isC isR ok hP hD hS hL hC hR hn hdis (va_runIN (As := As) (rest := rest) ⟨hx, hb, hml, hown, hts⟩ (hE l H.size) ⟨hcb, hi, hts _ hv⟩ ⟨kblind, fun U hU hW => ⟨rfl, by rw [hU], by rw [hU]; exact hPc, va_K.moved hW.alike hK, hDc.weaken (fun _ _ _ _ => trivial), hN.warm hW⟩⟩ rfl hna hL.1 hst (lv_room hr) hd ⟨hcells, hslots⟩) k
end KCALL
end KROWS
