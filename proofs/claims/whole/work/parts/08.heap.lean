section ZHEAP
variable {g : zG} {C : zC} {dd : Nat} {cc : ByteArray} {own : String} {pc : Nat} {lv : List (Option Value)} {st : List Value} {σ : zSto}
theorem zsh_small : ∀ (o t n : Nat), zsh[o]? = some (.inr (.inl (t, n))) → n ≤ 160 := by
  intro o t n h
  have h1 : ∀ x ∈ zsh, (match x with | .inr (.inl y) => decide (y.2 ≤ 160) | _ => true) = true := by decide +kernel
  have h2 := h1 _ (List.mem_of_getElem? h)
  exact of_decide_eq_true h2
/-! fields -/
/-- own's pool entry idx is field k of the class ci -/
def zFL (own : String) (idx ci k : Nat) : Prop := ∃ (K : String) (T : u_T) (N : Nat), vwCl[ci]? = some (K, T, N) ∧ k < N ∧ Cond.fieldLink own idx (T k).1 (T k).2.1 (T k).2.2.1 ∈ lw_g ∧ ∀ w ∈ u_ws K T N, w ∈ lw_g
/-- what a store needs of a class and its field -/
def zFP (ci k : Nat) (ty : FieldType) : Prop := ∃ (K : String) (T : u_T) (N : Nat) (ty0 : Nat → FieldType), vwCl[ci]? = some (K, T, N) ∧ (∀ k, k < N → parseFieldDescriptor (T k).2.2.1 = some (ty0 k)) ∧ (∀ a, a < N → ∀ b, b < N → a ≠ b → (T a).2.1 ≠ (T b).2.1) ∧ (T k).2.2.2 = false ∧ parseFieldDescriptor (T k).2.2.1 = some ty
theorem zfv_at {o ci j : Nat} {fs : List (Option Nat)} {f : Option Nat} (hj : fs[j]? = some f) : (fs.mapIdx (zfv g σ o))[j]? = some (zfv g σ o j f) := by
  rw [List.getElem?_mapIdx, hj]; rfl
theorem za_getI {idx o ci j : Nat} {fs : List (Option Nat)} (hd : decode cc pc = .ok (.getfield idx, 3)) (hf : zFL own idx ci j) (hs : zsh[o]? = some (.inl (ci, fs))) (hj : fs[j]? = some none) (k : zAW g C dd cc own (pc + 3) lv (.int (σ.1 o j) :: st) σ) : zAW g C dd cc own pc lv (.ref (zad g o) :: st) σ := by
  obtain ⟨p, l, e, R, s, m, args, below, meth, c, nL, A, cells, slots, Q⟩ := C
  intro ok H locs ls hP hS hL
  obtain ⟨K, T, N, h1, h2, h3, h4⟩ := hf
  exact va_get (D := g.1) (ci := ci) (v := .int (σ.1 o j)) ok.1 ok.2.1 ok.2.2.2.2.1 h4 ok.2.2.2.1 ok.2.2.2.2.2.2.1 hP o (zwld_at hs) h1 j h2 (ok.2.2.2.2.1 _ h3) (fun _ h => h) (zfv_at (ci := ci) hj) hd (k ok H locs ls hP hS hL)
theorem za_getR {idx o ci j q : Nat} {fs : List (Option Nat)} (hd : decode cc pc = .ok (.getfield idx, 3)) (hf : zFL own idx ci j) (hs : zsh[o]? = some (.inl (ci, fs))) (hj : fs[j]? = some (some q)) (k : zAW g C dd cc own (pc + 3) lv (.ref (zad g q) :: st) σ) : zAW g C dd cc own pc lv (.ref (zad g o) :: st) σ := by
  obtain ⟨p, l, e, R, s, m, args, below, meth, c, nL, A, cells, slots, Q⟩ := C
  intro ok H locs ls hP hS hL
  obtain ⟨K, T, N, h1, h2, h3, h4⟩ := hf
  exact va_get (D := g.1) (ci := ci) (v := .ref (zad g q)) ok.1 ok.2.1 ok.2.2.2.2.1 h4 ok.2.2.2.1 ok.2.2.2.2.2.2.1 hP o (zwld_at hs) h1 j h2 (ok.2.2.2.2.1 _ h3) (fun _ h => h) (zfv_at (ci := ci) hj) hd (k ok H locs ls hP hS hL)
theorem zcel_si {o ci j : Nat} {fs : List (Option Nat)} {v : Int32} (hj : fs[j]? = some none) : zcel g (zsi σ o j v) o (.inl (ci, fs)) = .inr (ci, (fs.mapIdx (zfv g σ o)).set j (.int v)) := by
  show Sum.inr (ci, fs.mapIdx (zfv g (zsi σ o j v) o)) = _
  congr 2
  apply List.ext_getElem?
  intro i
  rw [List.getElem?_mapIdx]
  by_cases hi : i = j
  · subst hi
    have hl : i < (fs.mapIdx (zfv g σ o)).length := by
      rw [List.length_mapIdx]; exact (List.getElem?_eq_some_iff.mp hj).1
    rw [List.getElem?_set_self hl, hj]
    simp [zfv, zsi]
  · rw [List.getElem?_set_ne (Ne.symm hi), List.getElem?_mapIdx]
    cases fs[i]? with
    | none => rfl
    | some f =>
      cases f with
      | none => simp [zfv, zsi, hi]
      | some q => rfl
theorem zsi_off1 {o j : Nat} {v : Int32} : ∀ a, a ≠ o → (zsi σ o j v).1 a = σ.1 a := fun a h => by
  funext b
  simp [zsi, h]
theorem zsl_off2 {o j : Nat} {v : Int64} : ∀ a, a ≠ o → (zsl σ o j v).2 a = σ.2 a := fun a h => by
  funext b
  simp [zsl, h]
theorem za_putG {idx o ci j : Nat} {fs : List (Option Nat)} {ty : FieldType} {v : Int32} (hd : decode cc pc = .ok (.putfield idx, 3)) (hf : zFL own idx ci j) (hp : zFP ci j ty) (hs : zsh[o]? = some (.inl (ci, fs))) (hj : fs[j]? = some none) (hn : narrow ty (.int v) = .int v) (hfit : fits ty (.int v) = true) (k : zAW g C dd cc own (pc + 3) lv st (zsi σ o j v)) : zAW g C dd cc own pc lv (.int v :: .ref (zad g o) :: st) σ := by
  obtain ⟨p, l, e, R, s, m, args, below, meth, c, nL, A, cells, slots, Q⟩ := C
  intro ok H locs ls hP hS hL
  obtain ⟨K, T, N, h1, h2, h3, h4⟩ := hf
  obtain ⟨K', T', N', ty0, h1', h5, h6, h7, h8⟩ := hp
  cases h1.symm.trans h1'
  have hD := zwld_D (σ := σ) ok.2.2.2.2.2.2.2.2.1 ok.2.2.2.2.2.2.2.2.2.1
  have hjl : j < (fs.mapIdx (zfv g σ o)).length := by rw [List.length_mapIdx]; exact (List.getElem?_eq_some_iff.mp hj).1
  refine va_put (D := g.1) (ci := ci) (v := .int v) (ty := ty) ok.1 ok.2.1 ok.2.2.2.2.1 h4 ty0 h5 h6 ok.2.2.2.1 ok.2.2.2.2.2.2.1 hP hD hS o (zwld_at hs) h1 j h2 (ok.2.2.2.2.1 _ h3) (fun _ h => h) h7 h8 hn hfit hjl hd (fun H1 locs1 hP1 _ hS1 => ?_)
  rw [zwld_set (σ' := zsi σ o j v) hs (fun a h => zsi_off1 a h) (fun a h => rfl) (zcel_si hj)] at hP1
  exact k ok H1 locs1 ls hP1 hS1 hL
theorem za_putI {idx o ci j : Nat} {fs : List (Option Nat)} {v : Int32} (hd : decode cc pc = .ok (.putfield idx, 3)) (hf : zFL own idx ci j) (hp : zFP ci j .int) (hs : zsh[o]? = some (.inl (ci, fs))) (hj : fs[j]? = some none) (k : zAW g C dd cc own (pc + 3) lv st (zsi σ o j v)) : zAW g C dd cc own pc lv (.int v :: .ref (zad g o) :: st) σ := za_putG hd hf hp hs hj (vp_nar_int v) rfl k
/-! rows of numbers -/
theorem zcel_i {o t n j : Nat} {v : Int32} (ht : ¬ t = 1) : zcel g (zsi σ o j v) o (.inr (.inl (t, n))) = .inl (zcA g t, n, .inl (upd (σ.1 o) j v)) := by
  have h : (zsi σ o j v).1 o = upd (σ.1 o) j v := by
    funext b
    simp [zsi, upd]
  unfold zcel
  dsimp only
  rw [if_neg ht, h]
theorem zcel_l {o n j : Nat} {v : Int64} : zcel g (zsl σ o j v) o (.inr (.inl (1, n))) = .inl (zcA g 1, n, .inr (.inl (vp_updL (σ.2 o) j v))) := by
  have h : (zsl σ o j v).2 o = vp_updL (σ.2 o) j v := by
    funext b
    simp [zsl, vp_updL]
  unfold zcel
  dsimp only
  rw [if_pos rfl, h]
theorem zwld_i {o t n : Nat} (ht : ¬ t = 1) (hs : zsh[o]? = some (.inr (.inl (t, n)))) : (zwld g σ)[o]? = some (zad g o, .inl (zcA g t, n, .inl (σ.1 o))) := by
  rw [zwld_at hs]
  show some (zad g o, if t = 1 then _ else _) = _
  rw [if_neg ht]
theorem zwld_l {o n : Nat} (hs : zsh[o]? = some (.inr (.inl (1, n)))) : (zwld g σ)[o]? = some (zad g o, .inl (zcA g 1, n, .inr (.inl (σ.2 o)))) := zwld_at hs
theorem za_iald {o n i : Nat} (hd : decode cc pc = .ok (.iaload, 1)) (hs : zsh[o]? = some (.inr (.inl (0, n)))) (hi : i < n) (k : zAW g C dd cc own (pc + 1) lv (.int (σ.1 o i) :: st) σ) : zAW g C dd cc own pc lv (.int (nI i) :: .ref (zad g o) :: st) σ := by
  obtain ⟨p, l, e, R, s, m, args, below, meth, c, nL, A, cells, slots, Q⟩ := C
  intro ok H locs ls hP hS hL
  have hn := zsh_small _ _ _ hs
  have hc : (nI i).toNatClampNeg = i := nI_clamp (by omega)
  refine va_iald (D := g.1) ok.1 ok.2.1 ok.2.2.2.2.2.2.1 hP o 0 (zwld_i (by decide) hs) rfl (vp_in_nI hi (by omega)) hd ?_
  rw [hc]
  exact k ok H locs ls hP hS hL
theorem za_bald {o n i : Nat} (hd : decode cc pc = .ok (.baload, 1)) (hs : zsh[o]? = some (.inr (.inl (2, n)))) (hi : i < n) (k : zAW g C dd cc own (pc + 1) lv (.int (σ.1 o i) :: st) σ) : zAW g C dd cc own pc lv (.int (nI i) :: .ref (zad g o) :: st) σ := by
  obtain ⟨p, l, e, R, s, m, args, below, meth, c, nL, A, cells, slots, Q⟩ := C
  intro ok H locs ls hP hS hL
  have hn := zsh_small _ _ _ hs
  have hc : (nI i).toNatClampNeg = i := nI_clamp (by omega)
  refine va_bald (D := g.1) ok.1 ok.2.1 ok.2.2.2.2.2.2.1 hP o 2 (zwld_i (by decide) hs) rfl (vp_in_nI hi (by omega)) hd ?_
  rw [hc]
  exact k ok H locs ls hP hS hL
theorem za_lald {o n i : Nat} (hd : decode cc pc = .ok (.laload, 1)) (hs : zsh[o]? = some (.inr (.inl (1, n)))) (hi : i < n) (k : zAW g C dd cc own (pc + 1) lv (.long (σ.2 o i) :: st) σ) : zAW g C dd cc own pc lv (.int (nI i) :: .ref (zad g o) :: st) σ := by
  obtain ⟨p, l, e, R, s, m, args, below, meth, c, nL, A, cells, slots, Q⟩ := C
  intro ok H locs ls hP hS hL
  have hn := zsh_small _ _ _ hs
  have hc : (nI i).toNatClampNeg = i := nI_clamp (by omega)
  refine va_lald (D := g.1) ok.1 ok.2.1 ok.2.2.2.2.2.2.1 hP o 1 (zwld_l hs) rfl (vp_in_nI hi (by omega)) hd ?_
  rw [hc]
  exact k ok H locs ls hP hS hL
theorem za_iast {o n i : Nat} {v : Int32} (hd : decode cc pc = .ok (.iastore, 1)) (hs : zsh[o]? = some (.inr (.inl (0, n)))) (hi : i < n) (k : zAW g C dd cc own (pc + 1) lv st (zsi σ o i v)) : zAW g C dd cc own pc lv (.int v :: .int (nI i) :: .ref (zad g o) :: st) σ := by
  obtain ⟨p, l, e, R, s, m, args, below, meth, c, nL, A, cells, slots, Q⟩ := C
  intro ok H locs ls hP hS hL
  have hn := zsh_small _ _ _ hs
  have hc : (nI i).toNatClampNeg = i := nI_clamp (by omega)
  have hD := zwld_D (σ := σ) ok.2.2.2.2.2.2.2.2.1 ok.2.2.2.2.2.2.2.2.2.1
  refine va_iast (D := g.1) ok.1 ok.2.1 ok.2.2.2.2.2.2.1 hP hD hS o 0 (zwld_i (by decide) hs) rfl (vp_in_nI hi (by omega)) hd (fun H1 locs1 hP1 _ hS1 => ?_)
  rw [hc, zwld_set (σ' := zsi σ o i v) hs (fun a h => zsi_off1 a h) (fun a h => rfl) (zcel_i (by decide))] at hP1
  exact k ok H1 locs1 ls hP1 hS1 hL
theorem za_bast {o n i : Nat} {v : Int32} (hd : decode cc pc = .ok (.bastore, 1)) (hs : zsh[o]? = some (.inr (.inl (2, n)))) (hi : i < n) (k : zAW g C dd cc own (pc + 1) lv st (zsi σ o i v.toInt8.toInt32)) : zAW g C dd cc own pc lv (.int v :: .int (nI i) :: .ref (zad g o) :: st) σ := by
  obtain ⟨p, l, e, R, s, m, args, below, meth, c, nL, A, cells, slots, Q⟩ := C
  intro ok H locs ls hP hS hL
  have hn := zsh_small _ _ _ hs
  have hc : (nI i).toNatClampNeg = i := nI_clamp (by omega)
  have hD := zwld_D (σ := σ) ok.2.2.2.2.2.2.2.2.1 ok.2.2.2.2.2.2.2.2.2.1
  refine va_bast (D := g.1) ok.1 ok.2.1 ok.2.2.2.2.2.2.1 hP hD hS o 2 (zwld_i (by decide) hs) rfl (vp_in_nI hi (by omega)) hd (fun H1 locs1 hP1 _ hS1 => ?_)
  rw [hc, vp_nar_byte, zwld_set (σ' := zsi σ o i v.toInt8.toInt32) hs (fun a h => zsi_off1 a h) (fun a h => rfl) (zcel_i (by decide))] at hP1
  exact k ok H1 locs1 ls hP1 hS1 hL
theorem za_last {o n i : Nat} {v : Int64} (hd : decode cc pc = .ok (.lastore, 1)) (hs : zsh[o]? = some (.inr (.inl (1, n)))) (hi : i < n) (k : zAW g C dd cc own (pc + 1) lv st (zsl σ o i v)) : zAW g C dd cc own pc lv (.long v :: .int (nI i) :: .ref (zad g o) :: st) σ := by
  obtain ⟨p, l, e, R, s, m, args, below, meth, c, nL, A, cells, slots, Q⟩ := C
  intro ok H locs ls hP hS hL
  have hn := zsh_small _ _ _ hs
  have hc : (nI i).toNatClampNeg = i := nI_clamp (by omega)
  have hD := zwld_D (σ := σ) ok.2.2.2.2.2.2.2.2.1 ok.2.2.2.2.2.2.2.2.2.1
  refine va_last (D := g.1) ok.1 ok.2.1 ok.2.2.2.2.2.2.1 hP hD hS o 1 (zwld_l hs) rfl (vp_in_nI hi (by omega)) hd (fun H1 locs1 hP1 _ hS1 => ?_)
  rw [hc, zwld_set (g := g) (σ := σ) (σ' := zsl σ o i v) hs (fun a h => rfl) (fun a h => zsl_off2 a h) zcel_l] at hP1
  exact k ok H1 locs1 ls hP1 hS1 hL
theorem za_aald {o i q : Nat} {rs : List Nat} (hd : decode cc pc = .ok (.aaload, 1)) (hs : zsh[o]? = some (.inr (.inr rs))) (hi : rs[i]? = some q) (hz : i < 160) (k : zAW g C dd cc own (pc + 1) lv (.ref (zad g q) :: st) σ) : zAW g C dd cc own pc lv (.int (nI i) :: .ref (zad g o) :: st) σ := by
  obtain ⟨p, l, e, R, s, m, args, below, meth, c, nL, A, cells, slots, Q⟩ := C
  intro ok H locs ls hP hS hL
  have hc : (nI i).toNatClampNeg = i := nI_clamp (by omega)
  have hl : i < rs.length := (List.getElem?_eq_some_iff.mp hi).1
  have hcell := hP o _ (zwld_at hs)
  have hin : ¬ (nI i < 0 ∨ rs.length ≤ (nI i).toNatClampNeg) := by
    rw [hc]
    rintro (h | h)
    · exact nI_pos (by omega) h
    · omega
  refine W.aald (v := .ref (zad g q)) (ty := .array .long) ok.1 ok.2.1 hcell ((ok.2.2.2.2.2.2.1.2 3 _ rfl).1 rs.length _) rfl (fun q => by cases q) (by show ¬ (nI i < 0 ∨ (arrV _ _ _).slots.size ≤ _); rw [arrV_size]; exact hin) ?_ rfl rfl hd (k ok H locs ls hP hS hL)
  show (arrV _ _ _).slots[_]? = _
  rw [hc, arrV_read _ _ hl]
  show some (va_rf ((rs[i]?).map (zad g))) = _
  rw [hi]
  rfl
/-! the statics' rows -/
theorem za_getE {idx : Nat} (hd : decode cc pc = .ok (.getstatic idx, 3)) (hw : Cond.fieldLink own idx "BasinVotes$Kinds" "EARNS" "[I" ∈ lw_g) (k : zAW g C dd cc own (pc + 3) lv (.ref (zst g 0) :: st) σ) : zAW g C dd cc own pc lv st σ := by
  obtain ⟨p, l, e, R, s, m, args, below, meth, c, nL, A, cells, slots, Q⟩ := C
  intro ok H locs ls hP hS hL
  exact va_gets ok.1 ok.2.1 ok.2.2.2.2.2.2.2.1.1.1.1 hS ok.2.2.2.1 (ok.2.2.2.2.1 _ hw) (fun _ h => h) hd (k ok H locs ls hP hS hL)
theorem za_getA {idx : Nat} (hd : decode cc pc = .ok (.getstatic idx, 3)) (hw : Cond.fieldLink own idx "BasinVotes$Kinds" "ABOVE" "[I" ∈ lw_g) (k : zAW g C dd cc own (pc + 3) lv (.ref (zst g 1) :: st) σ) : zAW g C dd cc own pc lv st σ := by
  obtain ⟨p, l, e, R, s, m, args, below, meth, c, nL, A, cells, slots, Q⟩ := C
  intro ok H locs ls hP hS hL
  exact va_gets ok.1 ok.2.1 ok.2.2.2.2.2.2.2.1.1.2.1 hS ok.2.2.2.1 (ok.2.2.2.2.1 _ hw) (fun _ h => h) hd (k ok H locs ls hP hS hL)
theorem za_ldE {i : Nat} (hd : decode cc pc = .ok (.iaload, 1)) (hi : i < 6) (k : zAW g C dd cc own (pc + 1) lv (.int (zEarn.getD i 0) :: st) σ) : zAW g C dd cc own pc lv (.int (nI i) :: .ref (zst g 0) :: st) σ := by
  obtain ⟨p, l, e, R, s, m, args, below, meth, c, nL, A, cells, slots, Q⟩ := C
  intro ok H locs ls hP hS hL
  have hc : (nI i).toNatClampNeg = i := nI_clamp (by omega)
  exact va_ti ok.1 ok.2.1 ok.2.2.2.2.2.2.2.1.1.1.2 hS (vp_in_nI hi (by omega)) (by rw [hc]) hd (k ok H locs ls hP hS hL)
theorem za_ldA {i : Nat} (hd : decode cc pc = .ok (.iaload, 1)) (hi : i < 6) (k : zAW g C dd cc own (pc + 1) lv (.int (zAbove.getD i 0) :: st) σ) : zAW g C dd cc own pc lv (.int (nI i) :: .ref (zst g 1) :: st) σ := by
  obtain ⟨p, l, e, R, s, m, args, below, meth, c, nL, A, cells, slots, Q⟩ := C
  intro ok H locs ls hP hS hL
  have hc : (nI i).toNatClampNeg = i := nI_clamp (by omega)
  exact va_ti ok.1 ok.2.1 ok.2.2.2.2.2.2.2.1.1.2.2 hS (vp_in_nI hi (by omega)) (by rw [hc]) hd (k ok H locs ls hP hS hL)
/-! a method's contract -/
def zrm (d : Nat) : Room := { frames := d, cells := 0, slots := 0, locals := 36 * d }
def zQc (g : zG) (E : Option Value → zSto → Prop) : Array Value → State → Outcome → State → Prop := fun _ st oc t => (∃ (r : Option Value) (σ' : zSto), oc = .returned r ∧ E r σ' ∧ zWd g σ' t) ∧ va_F (zAg g) st t
def zEv (g : zG) (d : Nat) (y : MethodName) (cy : ByteArray) (n : Nat) (ret : Option FieldType) (as : List Value) (σ : zSto) (E : Option Value → zSto → Prop) : Prop :=
  ∀ l : Launch, Met l y (.code y cy n ret :: lw_g) (zrm d) (fun a U => a = as.toArray ∧ zWd g σ U) (zQc g E) 0 0 (zAg g)
def zMe (g : zG) (C : zC) (n : Nat) (ret : Option FieldType) (E : Option Value → zSto → Prop) : Prop := match C with
  | (_, _, _, _, s, _, args, below, meth, _, nL, A, cells, slots, Q) => nL = n ∧ meth.sig.returnType = ret ∧ A = zAg g ∧ cells = 0 ∧ slots = 0 ∧ Q = MQ below (zQc g E) args s 0 0 (zAg g)
theorem zev_intro {d n : Nat} {y : MethodName} {ret : Option FieldType} {as : List Value} {E : Option Value → zSto → Prop} (hy : plainName y.cls = true) (ho : y.cls = own) (hlen : (lg_sl as).length ≤ n) {lv : List (Option Value)} (hlv : zlv as n = lv) (body : ∀ C : zC, zMe g C n ret E → zcN C = n → zAW g C d cc own 0 lv [] σ) : zEv g d y cc n ret as σ E := by
  subst hlv
  intro l
  refine Met.ofW (cc := cc) (maxL := n) (ret := ret) hy rfl ?_
  intro p e s m args below meth c s₁ B hml hv
  obtain ⟨rfl, hG, hP, hK, hSx⟩ := hv
  have hts := atoms_spec (ws := .code y cc n ret :: lw_g) B.pre
  have hown : s.vm.findClass y.cls = some m.cls := findClass_of_methodNamed B.named
  rw [ho] at hown
  have hl := lv_entry as (n := n) hlen
  rw [lg_entry_eq]
  exact body (p, l, e, _, s, m, _, below, meth, c, n, zAg g, 0, 0, _) ⟨rfl, B.returns, rfl, rfl, rfl, rfl⟩ rfl ⟨B.exec, B.bytes, hml, hown, fun w hw => hts w (List.mem_cons_of_mem _ hw), B.notSynchronized, hK, hSx, hG, fun _ h => h, ⟨Nat.le_refl _, Nat.le_refl _⟩, Nat.le_refl _, Nat.le_refl _⟩ s.heap [] _ hP va_S.rf (zLH_entry hl)
theorem zWd_end {A : Nat → Prop} {s t : State} {H : Heap} {locs : List Loc} (hG : zGk g) (hA : ∀ q, zAg g q → A q) (hK : va_K g.1 vwCl (ztys g) s) (hx : zSx g A s s.heap) (hP : va_P g.1 vwCl (zwld g σ) H) (hS : va_S A s.heap H locs) (ht : t.heap = H) (hW : s.WarmedH t.vm) : zWd g σ t :=
  ⟨hG, by rw [ht]; exact hP, va_K.moved hW.alike hK, by rw [ht]; exact ((hx.kept hS.2.1).warm hW).narrow hA⟩
section ZRET
variable {n : Nat} {E : Option Value → zSto → Prop}
theorem za_iret {v : Int32} (hM : zMe g C n (some .int) E) (hd : decode cc pc = .ok (.ireturn, 1)) (h : E (some (.int v)) σ) : zAW g C dd cc own pc lv [.int v] σ := by
  obtain ⟨p, l, e, R, s, m, args, below, meth, c, nL, A, cells, slots, Q⟩ := C
  obtain ⟨rfl, hr, rfl, rfl, rfl, rfl⟩ := hM
  intro ok H locs ls hP hS hL
  exact W.iret ok.1 ok.2.1 hr (fun t ht hW => ⟨⟨_, σ, rfl, h, zWd_end ok.2.2.2.2.2.2.2.2.1 ok.2.2.2.2.2.2.2.2.2.1 ok.2.2.2.2.2.2.1 ok.2.2.2.2.2.2.2.1 hP hS ht hW⟩, hS.F ht⟩) hS.2.2 hd (hlocks := ok.2.2.2.2.2.1)
theorem za_zretG {v : Int32} {ty : FieldType} (hM : zMe g C n (some ty) E) (hd : decode cc pc = .ok (.ireturn, 1)) (hn : narrow ty (.int v) = .int v) (h : E (some (.int v)) σ) : zAW g C dd cc own pc lv [.int v] σ := by
  obtain ⟨p, l, e, R, s, m, args, below, meth, c, nL, A, cells, slots, Q⟩ := C
  obtain ⟨rfl, hr, rfl, rfl, rfl, rfl⟩ := hM
  intro ok H locs ls hP hS hL
  exact W.zret ok.1 ok.2.1 hr hn (fun t ht hW => ⟨⟨_, σ, rfl, h, zWd_end ok.2.2.2.2.2.2.2.2.1 ok.2.2.2.2.2.2.2.2.2.1 ok.2.2.2.2.2.2.1 ok.2.2.2.2.2.2.2.1 hP hS ht hW⟩, hS.F ht⟩) hS.2.2 hd (hlocks := ok.2.2.2.2.2.1)
theorem za_vret (hM : zMe g C n none E) (hd : decode cc pc = .ok (.return_, 1)) (h : E none σ) : zAW g C dd cc own pc lv [] σ := by
  obtain ⟨p, l, e, R, s, m, args, below, meth, c, nL, A, cells, slots, Q⟩ := C
  obtain ⟨rfl, hr, rfl, rfl, rfl, rfl⟩ := hM
  intro ok H locs ls hP hS hL
  exact W.vret ok.1 ok.2.1 hr (fun t ht hW => ⟨⟨_, σ, rfl, h, zWd_end ok.2.2.2.2.2.2.2.2.1 ok.2.2.2.2.2.2.2.2.2.1 ok.2.2.2.2.2.2.1 ok.2.2.2.2.2.2.2.1 hP hS ht hW⟩, hS.F ht⟩) hS.2.2 hd (hlocks := ok.2.2.2.2.2.1)
theorem za_lret {v : Int64} (hM : zMe g C n (some .long) E) (hd : decode cc pc = .ok (.lreturn, 1)) (h : E (some (.long v)) σ) : zAW g C dd cc own pc lv [.long v] σ := by
  obtain ⟨p, l, e, R, s, m, args, below, meth, c, nL, A, cells, slots, Q⟩ := C
  obtain ⟨rfl, hr, rfl, rfl, rfl, rfl⟩ := hM
  intro ok H locs ls hP hS hL
  exact W.lret ok.1 ok.2.1 hr (fun t ht hW => ⟨⟨_, σ, rfl, h, zWd_end ok.2.2.2.2.2.2.2.2.1 ok.2.2.2.2.2.2.2.2.2.1 ok.2.2.2.2.2.2.1 ok.2.2.2.2.2.2.2.1 hP hS ht hW⟩, hS.F ht⟩) hS.2.2 hd (hlocks := ok.2.2.2.2.2.1)
end ZRET
/-! calls -/
def zCW (y : MethodName) (cy : ByteArray) (n : Nat) (ret : Option FieldType) (na : Nat) : Prop := Cond.code y cy n ret ∈ lw_g ∧ Cond.initialized y.cls ∈ lw_g ∧ n ≤ 17 ∧ y.cls ≠ "java/lang/invoke/MethodHandle" ∧ y.cls ≠ "java/lang/invoke/VarHandle" ∧ (parseMethodDescriptor y.desc).map (fun d => d.parameters.length) = some na
def zCV (y : MethodName) : Prop := Cond.instanceMethod y ∈ lw_g ∧ Cond.selects y.cls y y ∈ lw_g
section ZCALL
variable {d n na idx : Nat} {y : MethodName} {cy : ByteArray} {ret : Option FieldType} {As rest : List Value} {E : Option Value → zSto → Prop}
theorem zgoodIn {big : List Cond} (hb : ∀ w ∈ lw_g, w ∈ big) (hc : Cond.code y cy n ret ∈ lw_g) : GoodIn big (.code y cy n ret :: lw_g) := fun w hw => by
  rcases List.mem_cons.mp hw with rfl | h
  · exact ⟨hb _ hc, good_of_word (lw_gd _ hc)⟩
  · exact ⟨hb _ h, good_of_word (lw_gd _ h)⟩
theorem zblind {as : List Value} : FrameBlind (fun a U => a = as.toArray ∧ zWd g σ U) := fun a U gg mk h => ⟨h.1, h.2.1, h.2.2.1, va_K.moved (u := U) (U := U.calling gg mk a) (Vm.Alike.refl U.vm) h.2.2.2.1, zSx.same (s := U) (U := U.calling gg mk a) rfl h.2.2.2.2⟩
theorem zrun {p : Program} {l : Launch} {e : Env} {R : Room} {s : State} {m : MethodId} {args : Array Value} {below : List Frame} {meth : Method} {c : Code} {nL : Nat} {A : Nat → Prop} {cells slots : Nat} {Q : State → Prop} {H : Heap} {locs : List Loc} {ls : Array Slot} {as : Array Value}
    (ok : zOk g (p, l, e, R, s, m, args, below, meth, c, nL, A, cells, slots, Q) dd cc own) (hS : va_S A s.heap H locs) (hL : zLH ls nL lv)
    (hr : va_Run p l e R s m args below meth c H locs cells slots 0 0 (F0 m pc ls st) rest (zQc g E as) (zAg g)) (k : ∀ (r : Option Value) (σ' : zSto), E r σ' → zAW g (p, l, e, R, s, m, args, below, meth, c, nL, A, cells, slots, Q) dd cc own (pc + 3) lv (r.toList ++ rest) σ') :
    W p l e R s m args below meth c H locs cells slots Q (F0 m pc ls st) := by
  intro T hT X
  obtain ⟨v, st₀, t, T', L, h0, X', hLo, e1, e2, ⟨⟨r, σ', hv, hE, hWd⟩, hz, hk⟩, step⟩ := hr T hT X
  cases hv
  rw [h0] at hz hk
  have hA := ok.2.2.2.2.2.2.2.2.2.1
  have hS' : va_S A s.heap T'.heap (locs ++ L) := ⟨Nat.le_trans hS.1 (by rw [e1]; exact hz), fun q h1 h2 => by rw [e1, hk q (Nat.lt_of_lt_of_le h1 hS.1) (fun z => h2 (hA q z))]; exact hS.2.1 q h1 h2, fun q hq => by
      rcases List.mem_append.mp hq with h | h
      · exact hS.2.2 q h
      · exact hA _ (hLo q h)⟩
  obtain ⟨t2, a1, b1⟩ := k v σ' hE ok T'.heap (locs ++ L) ls (by rw [e1]; exact hWd.2.1) hS' hL T' rfl X'
  exact ⟨t2, step t2 a1, b1⟩
theorem za_callV {o ci : Nat} {fs : List (Option Nat)} (hd : decode cc pc = .ok (.invokevirtual idx, 3)) (hm : Cond.methodLink own idx y ∈ lw_g) (hw : zCW y cy n ret na) (hv : zCV y) (hE : zEv g d y cy n ret (.ref (zad g o) :: As) σ E) (hdd : d < dd) (hs : zsh[o]? = some (.inl (ci, fs))) {rc : vw_C} (hcr : vwCl[ci]? = some rc) (hn : rc.1 = y.cls) (hna : As.length = na) (hr : (rest.map fun v => v.category).sum ≤ 8) (hst : st = As.reverse ++ .ref (zad g o) :: rest) (k : ∀ (r : Option Value) (σ' : zSto), E r σ' → zAW g C dd cc own (pc + 3) lv (r.toList ++ rest) σ') : zAW g C dd cc own pc lv st σ := by
  obtain ⟨p, l, e, R, s, m, args, below, meth, c, nL, A, cells, slots, Q⟩ := C
  intro ok H locs ls hP hS hL
  have ok' := ok
  obtain ⟨hx, hb, hml, hown, hts, hlocks, hK, hx2, hG, hA, hcs, hdR, hlR⟩ := ok'
  obtain ⟨w1, w2, w3, w4, w5, w6⟩ := hw
  have hcb : CallB R s args own idx y cy n ret (.code y cy n ret :: lw_g) (zrm d) 0 0 na := callB_of na hts (zgoodIn (fun _ h => h) w1) rfl rfl rfl (hts _ w2) (hts _ hm) ⟨w4, w5, w6⟩ ⟨by show d + 1 ≤ _; omega, by show 8 + (n + 11) + 36 * d ≤ _; omega⟩
  have hrecv : ∃ cellB : Cell, H[zad g o]? = some cellB ∧ cellB.vm.isStatics = false ∧ s.vm.findClass y.cls = some cellB.cls := by
    rw [← hn]
    exact va_recv hK hP (ci := ci) (q0 := o) hcr (zwld_at hs)
  have hpv : PreV s H y.cls (zad g o) (fun a U => a = (Value.ref (zad g o) :: As).toArray ∧ zWd g σ U) As := ⟨zblind, hrecv, fun U hU hW => ⟨rfl, zWd_end hG hA hK hx2 hP hS hU hW⟩⟩
  have hcw : CallW R s args own y.cls idx y cy n ret (.code y cy n ret :: lw_g) (zrm d) 0 0 na := ⟨hcb, hts _ hv.1, hts _ hv.2⟩
  refine zrun ok hS hL (va_runV (As := As) (rest := rest) ⟨hx, hb, hml, hown, hts⟩ (hE l) hcw hpv rfl hna hL.1 hst (lv_room hr) hd ⟨by omega, by omega⟩) k
theorem za_callS (hd : decode cc pc = .ok (.invokestatic idx, 3)) (hm : Cond.methodLink own idx y ∈ lw_g) (hw : zCW y cy n ret na) (hv : Cond.static y ∈ lw_g) (hE : zEv g d y cy n ret As σ E) (hdd : d < dd) (hna : As.length = na) (hr : (rest.map fun v => v.category).sum ≤ 8) (hst : st = As.reverse ++ rest) (k : ∀ (r : Option Value) (σ' : zSto), E r σ' → zAW g C dd cc own (pc + 3) lv (r.toList ++ rest) σ') : zAW g C dd cc own pc lv st σ := by
  obtain ⟨p, l, e, R, s, m, args, below, meth, c, nL, A, cells, slots, Q⟩ := C
  intro ok H locs ls hP hS hL
  have ok' := ok
  obtain ⟨hx, hb, hml, hown, hts, hlocks, hK, hx2, hG, hA, hcs, hdR, hlR⟩ := ok'
  obtain ⟨w1, w2, w3, w4, w5, w6⟩ := hw
  have hcb : CallB R s args own idx y cy n ret (.code y cy n ret :: lw_g) (zrm d) 0 0 na := callB_of na hts (zgoodIn (fun _ h => h) w1) rfl rfl rfl (hts _ w2) (hts _ hm) ⟨w4, w5, w6⟩ ⟨by show d + 1 ≤ _; omega, by show 8 + (n + 11) + 36 * d ≤ _; omega⟩
  refine zrun ok hS hL (va_runS (As := As) (rest := rest) ⟨hx, hb, hml, hown, hts⟩ (hE l) ⟨hcb, hts _ hv⟩ ⟨zblind, fun U hU hW => ⟨rfl, zWd_end hG hA hK hx2 hP hS hU hW⟩⟩ rfl hna hL.1 hst (lv_room hr) hd ⟨by omega, by omega⟩) k
theorem za_callSN (hd : decode cc pc = .ok (.invokestatic idx, 3)) (hm : ∀ (A : Nat → Prop) (U : State) (H : Heap), zSx g A U H → va_Nw (.methodLinkNest own idx y "BasinVotes") U) (hw : zCW y cy n ret na) (hv : Cond.static y ∈ lw_g) (hE : zEv g d y cy n ret As σ E) (hdd : d < dd) (hna : As.length = na) (hr : (rest.map fun v => v.category).sum ≤ 8) (hst : st = As.reverse ++ rest) (k : ∀ (r : Option Value) (σ' : zSto), E r σ' → zAW g C dd cc own (pc + 3) lv (r.toList ++ rest) σ') : zAW g C dd cc own pc lv st σ := by
  obtain ⟨p, l, e, R, s, m, args, below, meth, c, nL, A, cells, slots, Q⟩ := C
  intro ok H locs ls hP hS hL
  have ok' := ok
  obtain ⟨hx, hb, hml, hown, hts, hlocks, hK, hx2, hG, hA, hcs, hdR, hlR⟩ := ok'
  obtain ⟨w1, w2, w3, w4, w5, w6⟩ := hw
  have hcb : va_CN R s args own idx y "BasinVotes" cy n ret (.code y cy n ret :: lw_g) (zrm d) 0 0 na := va_cnB na hts (zgoodIn (fun _ h => h) w1) rfl rfl rfl (hm _ _ _ hx2) (hts _ w2) ⟨w4, w5, w6⟩ ⟨by show d + 1 ≤ _; omega, by show 8 + (n + 11) + 36 * d ≤ _; omega⟩
  refine zrun ok hS hL (va_runSN (As := As) (rest := rest) ⟨hx, hb, hml, hown, hts⟩ (hE l) ⟨hcb, hts _ hv, trivial⟩ ⟨zblind, fun U hU hW => ⟨rfl, zWd_end hG hA hK hx2 hP hS hU hW⟩⟩ rfl hna hL.1 hst (lv_room hr) hd ⟨by omega, by omega⟩) k
end ZCALL
end ZHEAP
