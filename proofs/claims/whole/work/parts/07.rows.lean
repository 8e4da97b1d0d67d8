section ZROWS
variable {g : zG} {C : zC} {dd : Nat} {cc : ByteArray} {own : String} {pc : Nat} {lv : List (Option Value)} {st : List Value} {σ : zSto}
/-- true as a number -/
def zb (c : Prop) [Decidable c] : Int32 := if c then nI 1 else nI 0
theorem zb_0 {c : Prop} [Decidable c] : zb c = 0 ↔ ¬ c := by
  unfold zb
  split
  · rename_i h; exact ⟨fun q => absurd q (by decide), fun q => absurd h q⟩
  · rename_i h; exact ⟨fun _ => h, fun _ => rfl⟩
theorem zb_1 {c : Prop} [Decidable c] (h : c) : zb c = nI 1 := if_pos h
theorem zb_f {c : Prop} [Decidable c] (h : ¬ c) : zb c = nI 0 := if_neg h
theorem znext (k : Nat) : nI k + Int32.ofInt 1 = nI (k + 1) := nI_1 k
theorem zprev (k : Nat) : nI (k + 1) + Int32.ofInt (-1) = nI k := pk_m1 k
theorem zb_nar {c : Prop} [Decidable c] : narrow .boolean (.int (zb c)) = .int (zb c) := by
  unfold zb
  split <;> decide
/-! locals -/
def zkl (lv : List (Option Value)) (j : Nat) : List (Option Value) := match lv[j]? with
  | some (some (.long _)) => lv.set j none
  | some (some (.double _)) => lv.set j none
  | _ => lv
def zst0 (lv : List (Option Value)) (i : Nat) : List (Option Value) := match i with
  | 0 => lv
  | j + 1 => zkl lv j
def zst1 (lv : List (Option Value)) (i : Nat) (v : Value) : List (Option Value) := (zst0 lv i).set i (some v)
def zst2 (lv : List (Option Value)) (i : Nat) (v : Value) : List (Option Value) := ((zst0 lv i).set i (some v)).set (i + 1) none
theorem zkl_at {lv : List (Option Value)} {i j : Nat} {w : Value} (h : (zkl lv i)[j]? = some (some w)) : lv[j]? = some (some w) ∧ ¬ (j = i ∧ w.category = 2) := by
  unfold zkl at h
  split at h
  · by_cases hj : j = i
    · subst hj
      rw [List.getElem?_set] at h
      simp at h
    · rw [List.getElem?_set_ne (Ne.symm hj)] at h
      exact ⟨h, fun q => hj q.1⟩
  · by_cases hj : j = i
    · subst hj
      rw [List.getElem?_set] at h
      simp at h
    · rw [List.getElem?_set_ne (Ne.symm hj)] at h
      exact ⟨h, fun q => hj q.1⟩
  · rename_i h1 h2
    refine ⟨h, fun q => ?_⟩
    obtain ⟨rfl, hc⟩ := q
    cases w with
    | long x => exact h1 x h
    | double x => exact h2 x h
    | _ => simp [Value.category] at hc
theorem zst0_at {lv : List (Option Value)} {i j : Nat} {w : Value} (h : (zst0 lv i)[j]? = some (some w)) : lv[j]? = some (some w) ∧ ¬ (j + 1 = i ∧ w.category = 2) := by
  cases i with
  | zero => exact ⟨h, fun q => by omega⟩
  | succ i =>
    obtain ⟨h1, h2⟩ := zkl_at h
    exact ⟨h1, fun q => h2 ⟨by omega, q.2⟩⟩
def zpr (lv : List (Option Value)) : List (Nat × Value) := (lv.mapIdx (fun i o => o.map (fun v => (i, v)))).filterMap id
theorem zpr_mem {lv : List (Option Value)} {q : Nat × Value} : q ∈ zpr lv ↔ lv[q.1]? = some (some q.2) := by
  unfold zpr
  rw [List.mem_filterMap]
  constructor
  · rintro ⟨a, ha, hq⟩
    obtain ⟨i, hi⟩ := List.getElem?_of_mem ha
    rw [List.getElem?_mapIdx] at hi
    cases h1 : lv[i]? with
    | none => rw [h1] at hi; cases hi
    | some o =>
      rw [h1] at hi
      cases o with
      | none => have := Option.some.inj hi; rw [← this] at hq; cases hq
      | some v =>
        have := Option.some.inj hi
        rw [← this] at hq
        have := Option.some.inj hq
        rw [← this]
        exact h1
  · intro h
    refine ⟨some q, ?_, rfl⟩
    apply List.mem_of_getElem? (i := q.1)
    rw [List.getElem?_mapIdx, h]
    rfl
theorem zLH_has {ls : Array Slot} {nL : Nat} {lv : List (Option Value)} (h : zLH ls nL lv) : lv_has ls nL (zpr lv) := ⟨h.1, h.2.1, fun q hq => h.2.2 q.1 q.2 (zpr_mem.mp hq)⟩
theorem zLH_1 {ls : Array Slot} {nL : Nat} {lv : List (Option Value)} {i : Nat} {v : Value} (h : lv_has ls nL ((i, v) :: (zpr lv).filter (fun q => !(q.1 == i) && !(q.1 + 1 == i && q.2.category == 2)))) : zLH ls nL (zst1 lv i v) := by
  refine ⟨h.1, h.2.1, fun j w hj => ?_⟩
  unfold zst1 at hj
  by_cases hji : j = i
  · subst hji
    by_cases hl : j < (zst0 lv j).length
    · rw [List.getElem?_set_self hl] at hj
      cases hj
      exact h.2.2 (j, v) List.mem_cons_self
    · rw [List.getElem?_eq_none (by rw [List.length_set]; omega)] at hj
      cases hj
  · rw [List.getElem?_set_ne (Ne.symm hji)] at hj
    obtain ⟨h1, h2⟩ := zst0_at hj
    refine h.2.2 (j, w) (List.mem_cons_of_mem _ (List.mem_filter.mpr ⟨zpr_mem.mpr h1, ?_⟩))
    simp only [Bool.and_eq_true, Bool.not_eq_true', beq_eq_false_iff_ne, ne_eq, Bool.and_eq_false_iff]
    refine ⟨hji, ?_⟩
    by_cases a : j + 1 = i
    · exact Or.inr fun q => h2 ⟨a, q⟩
    · exact Or.inl a
theorem zLH_2 {ls : Array Slot} {nL : Nat} {lv : List (Option Value)} {i : Nat} {v : Value} (h : lv_has ls nL ((i, v) :: (zpr lv).filter (fun q => !(q.1 == i) && (!(q.1 == i + 1) && !(q.1 + 1 == i && q.2.category == 2))))) : zLH ls nL (zst2 lv i v) := by
  refine ⟨h.1, h.2.1, fun j w hj => ?_⟩
  unfold zst2 at hj
  by_cases hj1 : j = i + 1
  · subst hj1
    rw [List.getElem?_set] at hj
    simp at hj
  · rw [List.getElem?_set_ne (Ne.symm hj1)] at hj
    by_cases hji : j = i
    · subst hji
      by_cases hl : j < (zst0 lv j).length
      · rw [List.getElem?_set_self hl] at hj
        cases hj
        exact h.2.2 (j, v) List.mem_cons_self
      · rw [List.getElem?_eq_none (by rw [List.length_set]; omega)] at hj
        cases hj
    · rw [List.getElem?_set_ne (Ne.symm hji)] at hj
      obtain ⟨h1, h2⟩ := zst0_at hj
      refine h.2.2 (j, w) (List.mem_cons_of_mem _ (List.mem_filter.mpr ⟨zpr_mem.mpr h1, ?_⟩))
      simp only [Bool.and_eq_true, Bool.not_eq_true', beq_eq_false_iff_ne, ne_eq, Bool.and_eq_false_iff]
      refine ⟨hji, hj1, ?_⟩
      by_cases a : j + 1 = i
      · exact Or.inr fun q => h2 ⟨a, q⟩
      · exact Or.inl a
def zlv0 : List Value → List (Option Value)
  | [] => []
  | .long x :: vs => some (.long x) :: none :: zlv0 vs
  | .double x :: vs => some (.double x) :: none :: zlv0 vs
  | v :: vs => some v :: zlv0 vs
def zlv (as : List Value) (n : Nat) : List (Option Value) := zlv0 as ++ List.replicate (n - (zlv0 as).length) none
theorem zlv0_at : ∀ (as : List Value) (i b : Nat) (v : Value), (zlv0 as)[i]? = some (some v) → (b + i, v) ∈ lv_args b as
  | [], i, b, v, h => by simp [zlv0] at h
  | w :: vs, i, b, v, h => by
    have two : ∀ (w : Value), w.category = 2 → (some w :: none :: zlv0 vs)[i]? = some (some v) → (b + i, v) ∈ lv_args b (w :: vs) := by
      intro w hw h
      match i with
      | 0 => rw [List.getElem?_cons_zero] at h; cases h; exact List.mem_cons_self
      | 1 => rw [List.getElem?_cons_succ, List.getElem?_cons_zero] at h; cases h
      | i + 2 =>
        rw [List.getElem?_cons_succ, List.getElem?_cons_succ] at h
        refine List.mem_cons_of_mem _ ?_
        rw [if_pos hw, show b + (i + 2) = (b + 2) + i by omega]
        exact zlv0_at vs i (b + 2) v h
    have one : ∀ (w : Value), ¬ w.category = 2 → (some w :: zlv0 vs)[i]? = some (some v) → (b + i, v) ∈ lv_args b (w :: vs) := by
      intro w hw h
      match i with
      | 0 => rw [List.getElem?_cons_zero] at h; cases h; exact List.mem_cons_self
      | i + 1 =>
        rw [List.getElem?_cons_succ] at h
        refine List.mem_cons_of_mem _ ?_
        rw [if_neg hw, show b + (i + 1) = (b + 1) + i by omega]
        exact zlv0_at vs i (b + 1) v h
    cases w with
    | long x => exact two _ rfl h
    | double x => exact two _ rfl h
    | int x => exact one _ (by simp [Value.category]) h
    | float x => exact one _ (by simp [Value.category]) h
    | null => exact one _ (by simp [Value.category]) h
    | ref x => exact one _ (by simp [Value.category]) h
    | retAddr x => exact one _ (by simp [Value.category]) h
theorem zLH_entry {ls : Array Slot} {n : Nat} {as : List Value} (h : lv_has ls n (lv_args 0 as)) : zLH ls n (zlv as n) := by
  refine ⟨h.1, h.2.1, fun i v hi => ?_⟩
  unfold zlv at hi
  by_cases hl : i < (zlv0 as).length
  · rw [List.getElem?_append_left hl] at hi
    have := zlv0_at as i 0 v hi
    rw [Nat.zero_add] at this
    exact h.2.2 (i, v) this
  · rw [List.getElem?_append_right (by omega)] at hi
    have := List.eq_of_mem_replicate (List.mem_of_getElem? hi)
    cases this

theorem za_iconst {n : Int} (v : Int32) (hd : decode cc pc = .ok (.iconst n, 1)) (hv : Int32.ofInt n = v) (k : zAW g C dd cc own (pc + 1) lv (.int v :: st) σ) : zAW g C dd cc own pc lv st σ := by
  obtain ⟨p, l, e, R, s, m, args, below, meth, c, nL, A, cells, slots, Q⟩ := C
  intro ok H locs ls hP hS hL
  exact lv_iconst ok.1 ok.2.1 hd hv (k ok H locs ls hP hS hL)

theorem za_bipush {n : Int} (v : Int32) (hd : decode cc pc = .ok (.bipush n, 2)) (hv : (Int8.ofInt n).toInt32 = v) (k : zAW g C dd cc own (pc + 2) lv (.int v :: st) σ) : zAW g C dd cc own pc lv st σ := by
  obtain ⟨p, l, e, R, s, m, args, below, meth, c, nL, A, cells, slots, Q⟩ := C
  intro ok H locs ls hP hS hL
  exact lv_bipush ok.1 ok.2.1 hd hv (k ok H locs ls hP hS hL)

theorem za_sipush {n : Int} (v : Int32) (hd : decode cc pc = .ok (.sipush n, 3)) (hv : (Int16.ofInt n).toInt32 = v) (k : zAW g C dd cc own (pc + 3) lv (.int v :: st) σ) : zAW g C dd cc own pc lv st σ := by
  obtain ⟨p, l, e, R, s, m, args, below, meth, c, nL, A, cells, slots, Q⟩ := C
  intro ok H locs ls hP hS hL
  exact lv_sipush ok.1 ok.2.1 hd hv (k ok H locs ls hP hS hL)

theorem za_lconst {n : Fin 2} (v : Int64) (hd : decode cc pc = .ok (.lconst n, 1)) (hv : Int64.ofNat (n : Nat) = v) (k : zAW g C dd cc own (pc + 1) lv (.long v :: st) σ) : zAW g C dd cc own pc lv st σ := by
  obtain ⟨p, l, e, R, s, m, args, below, meth, c, nL, A, cells, slots, Q⟩ := C
  intro ok H locs ls hP hS hL
  exact lv_lconst ok.1 ok.2.1 hd hv (k ok H locs ls hP hS hL)

theorem za_ldc {n : Nat} {v : Int32} (hd : decode cc pc = .ok (.ldc n, 2)) (hw : Cond.constant own n v ∈ lw_g) (k : zAW g C dd cc own (pc + 2) lv (.int v :: st) σ) : zAW g C dd cc own pc lv st σ := by
  obtain ⟨p, l, e, R, s, m, args, below, meth, c, nL, A, cells, slots, Q⟩ := C
  intro ok H locs ls hP hS hL
  exact lv_ldc ok.1 ok.2.1 ok.2.2.2.1 (ok.2.2.2.2.1 _ hw) hd (k ok H locs ls hP hS hL)

theorem za_ldcw {n : Nat} {v : Int32} (hd : decode cc pc = .ok (.ldc_w n, 3)) (hw : Cond.constant own n v ∈ lw_g) (k : zAW g C dd cc own (pc + 3) lv (.int v :: st) σ) : zAW g C dd cc own pc lv st σ := by
  obtain ⟨p, l, e, R, s, m, args, below, meth, c, nL, A, cells, slots, Q⟩ := C
  intro ok H locs ls hP hS hL
  exact lv_ldcw ok.1 ok.2.1 ok.2.2.2.1 (ok.2.2.2.2.1 _ hw) hd (k ok H locs ls hP hS hL)

theorem za_ldc2 {n : Nat} {v : Int64} (hd : decode cc pc = .ok (.ldc2_w n, 3)) (hw : Cond.constantLong own n v ∈ lw_g) (k : zAW g C dd cc own (pc + 3) lv (.long v :: st) σ) : zAW g C dd cc own pc lv st σ := by
  obtain ⟨p, l, e, R, s, m, args, below, meth, c, nL, A, cells, slots, Q⟩ := C
  intro ok H locs ls hP hS hL
  exact lv_ldc2 ok.1 ok.2.1 ok.2.2.2.1 (ok.2.2.2.2.1 _ hw) hd (k ok H locs ls hP hS hL)

theorem za_iload_n {q : Fin 4} {x : Int32} (hd : decode cc pc = .ok (.iload_n q, 1)) (hl : lv[(q : Nat)]? = some (some (.int x))) (k : zAW g C dd cc own (pc + 1) lv (.int x :: st) σ) : zAW g C dd cc own pc lv st σ := by
  obtain ⟨p, l, e, R, s, m, args, below, meth, c, nL, A, cells, slots, Q⟩ := C
  intro ok H locs ls hP hS hL
  exact lv_iload_n ok.1 ok.2.1 hd rfl (hL.2.2 _ _ hl) (k ok H locs ls hP hS hL)

theorem za_iload {i : Nat} {x : Int32} (hd : decode cc pc = .ok (.iload i, 2)) (hl : lv[i]? = some (some (.int x))) (k : zAW g C dd cc own (pc + 2) lv (.int x :: st) σ) : zAW g C dd cc own pc lv st σ := by
  obtain ⟨p, l, e, R, s, m, args, below, meth, c, nL, A, cells, slots, Q⟩ := C
  intro ok H locs ls hP hS hL
  exact lv_iload ok.1 ok.2.1 hd (hL.2.2 _ _ hl) (k ok H locs ls hP hS hL)

theorem za_lload_n {q : Fin 4} {x : Int64} (hd : decode cc pc = .ok (.lload_n q, 1)) (hl : lv[(q : Nat)]? = some (some (.long x))) (k : zAW g C dd cc own (pc + 1) lv (.long x :: st) σ) : zAW g C dd cc own pc lv st σ := by
  obtain ⟨p, l, e, R, s, m, args, below, meth, c, nL, A, cells, slots, Q⟩ := C
  intro ok H locs ls hP hS hL
  exact lv_lload_n ok.1 ok.2.1 hd rfl (hL.2.2 _ _ hl) (k ok H locs ls hP hS hL)

theorem za_lload {i : Nat} {x : Int64} (hd : decode cc pc = .ok (.lload i, 2)) (hl : lv[i]? = some (some (.long x))) (k : zAW g C dd cc own (pc + 2) lv (.long x :: st) σ) : zAW g C dd cc own pc lv st σ := by
  obtain ⟨p, l, e, R, s, m, args, below, meth, c, nL, A, cells, slots, Q⟩ := C
  intro ok H locs ls hP hS hL
  exact lv_lload ok.1 ok.2.1 hd (hL.2.2 _ _ hl) (k ok H locs ls hP hS hL)

theorem za_aload_n {q : Fin 4} {x : Nat} (hd : decode cc pc = .ok (.aload_n q, 1)) (hl : lv[(q : Nat)]? = some (some (.ref x))) (k : zAW g C dd cc own (pc + 1) lv (.ref x :: st) σ) : zAW g C dd cc own pc lv st σ := by
  obtain ⟨p, l, e, R, s, m, args, below, meth, c, nL, A, cells, slots, Q⟩ := C
  intro ok H locs ls hP hS hL
  exact lv_aload_n ok.1 ok.2.1 hd rfl (hL.2.2 _ _ hl) (k ok H locs ls hP hS hL)

theorem za_aload {i : Nat} {x : Nat} (hd : decode cc pc = .ok (.aload i, 2)) (hl : lv[i]? = some (some (.ref x))) (k : zAW g C dd cc own (pc + 2) lv (.ref x :: st) σ) : zAW g C dd cc own pc lv st σ := by
  obtain ⟨p, l, e, R, s, m, args, below, meth, c, nL, A, cells, slots, Q⟩ := C
  intro ok H locs ls hP hS hL
  exact lv_aload ok.1 ok.2.1 hd (hL.2.2 _ _ hl) (k ok H locs ls hP hS hL)

theorem za_istore_n {q : Fin 4} {x : Int32} {lv' : List (Option Value)} (hd : decode cc pc = .ok (.istore_n q, 1)) {nn : Nat} (hN : zcN C = nn) (hn : (q : Nat) < nn) (hlv : zst1 lv (q : Nat) (.int x) = lv') (k : zAW g C dd cc own (pc + 1) lv' st σ) : zAW g C dd cc own pc lv (.int x :: st) σ := by
  obtain ⟨p, l, e, R, s, m, args, below, meth, c, nL, A, cells, slots, Q⟩ := C
  intro ok H locs ls hP hS hL
  subst hlv
  exact lv_istore_n ok.1 ok.2.1 hd rfl (zLH_has hL) (by rw [show nL = nn from hN]; exact hn) rfl (fun ls' h' => k ok H locs ls' hP hS (zLH_1 h'))

theorem za_istore {i : Nat} {x : Int32} {lv' : List (Option Value)} (hd : decode cc pc = .ok (.istore i, 2)) {nn : Nat} (hN : zcN C = nn) (hn : i < nn) (hlv : zst1 lv i (.int x) = lv') (k : zAW g C dd cc own (pc + 2) lv' st σ) : zAW g C dd cc own pc lv (.int x :: st) σ := by
  obtain ⟨p, l, e, R, s, m, args, below, meth, c, nL, A, cells, slots, Q⟩ := C
  intro ok H locs ls hP hS hL
  subst hlv
  exact lv_istore ok.1 ok.2.1 hd (zLH_has hL) (by rw [show nL = nn from hN]; exact hn) rfl (fun ls' h' => k ok H locs ls' hP hS (zLH_1 h'))

theorem za_lstore_n {q : Fin 4} {x : Int64} {lv' : List (Option Value)} (hd : decode cc pc = .ok (.lstore_n q, 1)) {nn : Nat} (hN : zcN C = nn) (hn : (q : Nat) + 1 < nn) (hlv : zst2 lv (q : Nat) (.long x) = lv') (k : zAW g C dd cc own (pc + 1) lv' st σ) : zAW g C dd cc own pc lv (.long x :: st) σ := by
  obtain ⟨p, l, e, R, s, m, args, below, meth, c, nL, A, cells, slots, Q⟩ := C
  intro ok H locs ls hP hS hL
  subst hlv
  exact lv_lstore_n ok.1 ok.2.1 hd rfl (zLH_has hL) (by rw [show nL = nn from hN]; exact hn) rfl (fun ls' h' => k ok H locs ls' hP hS (zLH_2 h'))

theorem za_lstore {i : Nat} {x : Int64} {lv' : List (Option Value)} (hd : decode cc pc = .ok (.lstore i, 2)) {nn : Nat} (hN : zcN C = nn) (hn : i + 1 < nn) (hlv : zst2 lv i (.long x) = lv') (k : zAW g C dd cc own (pc + 2) lv' st σ) : zAW g C dd cc own pc lv (.long x :: st) σ := by
  obtain ⟨p, l, e, R, s, m, args, below, meth, c, nL, A, cells, slots, Q⟩ := C
  intro ok H locs ls hP hS hL
  subst hlv
  exact lv_lstore ok.1 ok.2.1 hd (zLH_has hL) (by rw [show nL = nn from hN]; exact hn) rfl (fun ls' h' => k ok H locs ls' hP hS (zLH_2 h'))

theorem za_astore_n {q : Fin 4} {x : Nat} {lv' : List (Option Value)} (hd : decode cc pc = .ok (.astore_n q, 1)) {nn : Nat} (hN : zcN C = nn) (hn : (q : Nat) < nn) (hlv : zst1 lv (q : Nat) (.ref x) = lv') (k : zAW g C dd cc own (pc + 1) lv' st σ) : zAW g C dd cc own pc lv (.ref x :: st) σ := by
  obtain ⟨p, l, e, R, s, m, args, below, meth, c, nL, A, cells, slots, Q⟩ := C
  intro ok H locs ls hP hS hL
  subst hlv
  exact lv_astore_n ok.1 ok.2.1 hd rfl (zLH_has hL) (by rw [show nL = nn from hN]; exact hn) rfl (fun ls' h' => k ok H locs ls' hP hS (zLH_1 h'))

theorem za_astore {i : Nat} {x : Nat} {lv' : List (Option Value)} (hd : decode cc pc = .ok (.astore i, 2)) {nn : Nat} (hN : zcN C = nn) (hn : i < nn) (hlv : zst1 lv i (.ref x) = lv') (k : zAW g C dd cc own (pc + 2) lv' st σ) : zAW g C dd cc own pc lv (.ref x :: st) σ := by
  obtain ⟨p, l, e, R, s, m, args, below, meth, c, nL, A, cells, slots, Q⟩ := C
  intro ok H locs ls hP hS hL
  subst hlv
  exact lv_astore ok.1 ok.2.1 hd (zLH_has hL) (by rw [show nL = nn from hN]; exact hn) rfl (fun ls' h' => k ok H locs ls' hP hS (zLH_1 h'))

theorem za_iinc {i : Nat} {n : Int} {x : Int32} (v : Int32) {lv' : List (Option Value)} (hd : decode cc pc = .ok (.iinc i n, 3)) (hl : lv[i]? = some (some (.int x))) {nn : Nat} (hN : zcN C = nn) (hn : i < nn) (hv : x + Int32.ofInt n = v) (hlv : zst1 lv i (.int v) = lv') (k : zAW g C dd cc own (pc + 3) lv' st σ) : zAW g C dd cc own pc lv st σ := by
  obtain ⟨p, l, e, R, s, m, args, below, meth, c, nL, A, cells, slots, Q⟩ := C
  intro ok H locs ls hP hS hL
  subst hlv
  obtain ⟨j, hj⟩ := List.getElem?_of_mem ((zpr_mem (q := (i, Value.int x))).mpr hl)
  exact lv_iinc ok.1 ok.2.1 hd (zLH_has hL) hj hv (by rw [show nL = nn from hN]; exact hn) rfl (fun ls' h' => k ok H locs ls' hP hS (zLH_1 h'))

theorem za_iadd {x y : Int32} (hd : decode cc pc = .ok (.iadd, 1))  (k : zAW g C dd cc own (pc + 1) lv (.int (x + y) :: st) σ) : zAW g C dd cc own pc lv (.int y :: .int x :: st) σ := by
  obtain ⟨p, l, e, R, s, m, args, below, meth, c, nL, A, cells, slots, Q⟩ := C
  intro ok H locs ls hP hS hL
  exact lv_iadd ok.1 ok.2.1 hd (k ok H locs ls hP hS hL)

theorem za_isub {x y : Int32} (hd : decode cc pc = .ok (.isub, 1))  (k : zAW g C dd cc own (pc + 1) lv (.int (x - y) :: st) σ) : zAW g C dd cc own pc lv (.int y :: .int x :: st) σ := by
  obtain ⟨p, l, e, R, s, m, args, below, meth, c, nL, A, cells, slots, Q⟩ := C
  intro ok H locs ls hP hS hL
  exact lv_isub ok.1 ok.2.1 hd (k ok H locs ls hP hS hL)

theorem za_imul {x y : Int32} (hd : decode cc pc = .ok (.imul, 1))  (k : zAW g C dd cc own (pc + 1) lv (.int (x * y) :: st) σ) : zAW g C dd cc own pc lv (.int y :: .int x :: st) σ := by
  obtain ⟨p, l, e, R, s, m, args, below, meth, c, nL, A, cells, slots, Q⟩ := C
  intro ok H locs ls hP hS hL
  exact lv_imul ok.1 ok.2.1 hd (k ok H locs ls hP hS hL)

theorem za_iand {x y : Int32} (hd : decode cc pc = .ok (.iand, 1))  (k : zAW g C dd cc own (pc + 1) lv (.int (x &&& y) :: st) σ) : zAW g C dd cc own pc lv (.int y :: .int x :: st) σ := by
  obtain ⟨p, l, e, R, s, m, args, below, meth, c, nL, A, cells, slots, Q⟩ := C
  intro ok H locs ls hP hS hL
  exact lv_iand ok.1 ok.2.1 hd (k ok H locs ls hP hS hL)

theorem za_ior {x y : Int32} (hd : decode cc pc = .ok (.ior, 1))  (k : zAW g C dd cc own (pc + 1) lv (.int (x ||| y) :: st) σ) : zAW g C dd cc own pc lv (.int y :: .int x :: st) σ := by
  obtain ⟨p, l, e, R, s, m, args, below, meth, c, nL, A, cells, slots, Q⟩ := C
  intro ok H locs ls hP hS hL
  exact lv_ior ok.1 ok.2.1 hd (k ok H locs ls hP hS hL)

theorem za_ixor {x y : Int32} (hd : decode cc pc = .ok (.ixor, 1))  (k : zAW g C dd cc own (pc + 1) lv (.int (x ^^^ y) :: st) σ) : zAW g C dd cc own pc lv (.int y :: .int x :: st) σ := by
  obtain ⟨p, l, e, R, s, m, args, below, meth, c, nL, A, cells, slots, Q⟩ := C
  intro ok H locs ls hP hS hL
  exact lv_ixor ok.1 ok.2.1 hd (k ok H locs ls hP hS hL)

theorem za_ishl {x y : Int32} (hd : decode cc pc = .ok (.ishl, 1))  (k : zAW g C dd cc own (pc + 1) lv (.int (x <<< (y &&& 31)) :: st) σ) : zAW g C dd cc own pc lv (.int y :: .int x :: st) σ := by
  obtain ⟨p, l, e, R, s, m, args, below, meth, c, nL, A, cells, slots, Q⟩ := C
  intro ok H locs ls hP hS hL
  exact lv_ishl ok.1 ok.2.1 hd (k ok H locs ls hP hS hL)

theorem za_ishr {x y : Int32} (hd : decode cc pc = .ok (.ishr, 1))  (k : zAW g C dd cc own (pc + 1) lv (.int (x >>> (y &&& 31)) :: st) σ) : zAW g C dd cc own pc lv (.int y :: .int x :: st) σ := by
  obtain ⟨p, l, e, R, s, m, args, below, meth, c, nL, A, cells, slots, Q⟩ := C
  intro ok H locs ls hP hS hL
  exact lv_ishr ok.1 ok.2.1 hd (k ok H locs ls hP hS hL)

theorem za_idiv {x y : Int32} (hd : decode cc pc = .ok (.idiv, 1)) (hne : ¬ y = 0) (k : zAW g C dd cc own (pc + 1) lv (.int (x / y) :: st) σ) : zAW g C dd cc own pc lv (.int y :: .int x :: st) σ := by
  obtain ⟨p, l, e, R, s, m, args, below, meth, c, nL, A, cells, slots, Q⟩ := C
  intro ok H locs ls hP hS hL
  exact lv_idiv ok.1 ok.2.1 hd hne (k ok H locs ls hP hS hL)

theorem za_irem {x y : Int32} (hd : decode cc pc = .ok (.irem, 1)) (hne : ¬ y = 0) (k : zAW g C dd cc own (pc + 1) lv (.int (x - x / y * y) :: st) σ) : zAW g C dd cc own pc lv (.int y :: .int x :: st) σ := by
  obtain ⟨p, l, e, R, s, m, args, below, meth, c, nL, A, cells, slots, Q⟩ := C
  intro ok H locs ls hP hS hL
  exact lv_irem ok.1 ok.2.1 hd hne (k ok H locs ls hP hS hL)

theorem za_ladd {x y : Int64} (hd : decode cc pc = .ok (.ladd, 1))  (k : zAW g C dd cc own (pc + 1) lv (.long (x + y) :: st) σ) : zAW g C dd cc own pc lv (.long y :: .long x :: st) σ := by
  obtain ⟨p, l, e, R, s, m, args, below, meth, c, nL, A, cells, slots, Q⟩ := C
  intro ok H locs ls hP hS hL
  exact lv_ladd ok.1 ok.2.1 hd (k ok H locs ls hP hS hL)

theorem za_lsub {x y : Int64} (hd : decode cc pc = .ok (.lsub, 1))  (k : zAW g C dd cc own (pc + 1) lv (.long (x - y) :: st) σ) : zAW g C dd cc own pc lv (.long y :: .long x :: st) σ := by
  obtain ⟨p, l, e, R, s, m, args, below, meth, c, nL, A, cells, slots, Q⟩ := C
  intro ok H locs ls hP hS hL
  exact lv_lsub ok.1 ok.2.1 hd (k ok H locs ls hP hS hL)

theorem za_lmul {x y : Int64} (hd : decode cc pc = .ok (.lmul, 1))  (k : zAW g C dd cc own (pc + 1) lv (.long (x * y) :: st) σ) : zAW g C dd cc own pc lv (.long y :: .long x :: st) σ := by
  obtain ⟨p, l, e, R, s, m, args, below, meth, c, nL, A, cells, slots, Q⟩ := C
  intro ok H locs ls hP hS hL
  exact lv_lmul ok.1 ok.2.1 hd (k ok H locs ls hP hS hL)

theorem za_land {x y : Int64} (hd : decode cc pc = .ok (.land, 1))  (k : zAW g C dd cc own (pc + 1) lv (.long (x &&& y) :: st) σ) : zAW g C dd cc own pc lv (.long y :: .long x :: st) σ := by
  obtain ⟨p, l, e, R, s, m, args, below, meth, c, nL, A, cells, slots, Q⟩ := C
  intro ok H locs ls hP hS hL
  exact lv_land ok.1 ok.2.1 hd (k ok H locs ls hP hS hL)

theorem za_lor {x y : Int64} (hd : decode cc pc = .ok (.lor, 1))  (k : zAW g C dd cc own (pc + 1) lv (.long (x ||| y) :: st) σ) : zAW g C dd cc own pc lv (.long y :: .long x :: st) σ := by
  obtain ⟨p, l, e, R, s, m, args, below, meth, c, nL, A, cells, slots, Q⟩ := C
  intro ok H locs ls hP hS hL
  exact lv_lor ok.1 ok.2.1 hd (k ok H locs ls hP hS hL)

theorem za_lcmp {x y : Int64} (hd : decode cc pc = .ok (.lcmp, 1))  (k : zAW g C dd cc own (pc + 1) lv (.int (lg_cmp x y) :: st) σ) : zAW g C dd cc own pc lv (.long y :: .long x :: st) σ := by
  obtain ⟨p, l, e, R, s, m, args, below, meth, c, nL, A, cells, slots, Q⟩ := C
  intro ok H locs ls hP hS hL
  exact W.lcmp ok.1 ok.2.1 hd (k ok H locs ls hP hS hL)

theorem za_i2l {x : Int32} (hd : decode cc pc = .ok (.i2l, 1))  (k : zAW g C dd cc own (pc + 1) lv (.long x.toInt64 :: st) σ) : zAW g C dd cc own pc lv (.int x :: st) σ := by
  obtain ⟨p, l, e, R, s, m, args, below, meth, c, nL, A, cells, slots, Q⟩ := C
  intro ok H locs ls hP hS hL
  exact lv_i2l ok.1 ok.2.1 hd rfl (k ok H locs ls hP hS hL)

theorem za_l2i {x : Int64} (hd : decode cc pc = .ok (.l2i, 1))  (k : zAW g C dd cc own (pc + 1) lv (.int x.toInt32 :: st) σ) : zAW g C dd cc own pc lv (.long x :: st) σ := by
  obtain ⟨p, l, e, R, s, m, args, below, meth, c, nL, A, cells, slots, Q⟩ := C
  intro ok H locs ls hP hS hL
  exact lv_l2i ok.1 ok.2.1 hd rfl (k ok H locs ls hP hS hL)

theorem za_i2b {x : Int32} (hd : decode cc pc = .ok (.i2b, 1))  (k : zAW g C dd cc own (pc + 1) lv (.int x.toInt8.toInt32 :: st) σ) : zAW g C dd cc own pc lv (.int x :: st) σ := by
  obtain ⟨p, l, e, R, s, m, args, below, meth, c, nL, A, cells, slots, Q⟩ := C
  intro ok H locs ls hP hS hL
  exact lv_i2b ok.1 ok.2.1 hd rfl (k ok H locs ls hP hS hL)

theorem za_i2s {x : Int32} (hd : decode cc pc = .ok (.i2s, 1))  (k : zAW g C dd cc own (pc + 1) lv (.int x.toInt16.toInt32 :: st) σ) : zAW g C dd cc own pc lv (.int x :: st) σ := by
  obtain ⟨p, l, e, R, s, m, args, below, meth, c, nL, A, cells, slots, Q⟩ := C
  intro ok H locs ls hP hS hL
  exact lv_i2s ok.1 ok.2.1 hd rfl (k ok H locs ls hP hS hL)

theorem za_i2c {x : Int32} (hd : decode cc pc = .ok (.i2c, 1))  (k : zAW g C dd cc own (pc + 1) lv (.int (x.toUInt32 % 65536).toInt32 :: st) σ) : zAW g C dd cc own pc lv (.int x :: st) σ := by
  obtain ⟨p, l, e, R, s, m, args, below, meth, c, nL, A, cells, slots, Q⟩ := C
  intro ok H locs ls hP hS hL
  exact lv_i2c ok.1 ok.2.1 hd rfl (k ok H locs ls hP hS hL)

theorem za_lshl {x : Int64} {y : Int32} (hd : decode cc pc = .ok (.lshl, 1))  (k : zAW g C dd cc own (pc + 1) lv (.long (x <<< (y.toInt64 &&& 63)) :: st) σ) : zAW g C dd cc own pc lv (.int y :: .long x :: st) σ := by
  obtain ⟨p, l, e, R, s, m, args, below, meth, c, nL, A, cells, slots, Q⟩ := C
  intro ok H locs ls hP hS hL
  exact lv_lshl ok.1 ok.2.1 hd rfl (k ok H locs ls hP hS hL)

theorem za_iushr {x y : Int32} (hd : decode cc pc = .ok (.iushr, 1))  (k : zAW g C dd cc own (pc + 1) lv (.int ((x.toUInt32 >>> (y.toUInt32 &&& Int32.toUInt32 31)).toInt32) :: st) σ) : zAW g C dd cc own pc lv (.int y :: .int x :: st) σ := by
  obtain ⟨p, l, e, R, s, m, args, below, meth, c, nL, A, cells, slots, Q⟩ := C
  intro ok H locs ls hP hS hL
  exact lv_iushr ok.1 ok.2.1 hd rfl (k ok H locs ls hP hS hL)

theorem za_dup {v : Value} (hd : decode cc pc = .ok (.dup, 1)) (hv : v.category = 1) (k : zAW g C dd cc own (pc + 1) lv (v :: v :: st) σ) : zAW g C dd cc own pc lv (v :: st) σ := by
  obtain ⟨p, l, e, R, s, m, args, below, meth, c, nL, A, cells, slots, Q⟩ := C
  intro ok H locs ls hP hS hL
  exact lv_dup ok.1 ok.2.1 hd hv (k ok H locs ls hP hS hL)

theorem za_dup2 {v w : Value} (hd : decode cc pc = .ok (.dup2, 1)) (hv : v.category = 1) (hw : w.category = 1) (k : zAW g C dd cc own (pc + 1) lv (v :: w :: v :: w :: st) σ) : zAW g C dd cc own pc lv (v :: w :: st) σ := by
  obtain ⟨p, l, e, R, s, m, args, below, meth, c, nL, A, cells, slots, Q⟩ := C
  intro ok H locs ls hP hS hL
  exact lv_dup2_11 ok.1 ok.2.1 hd hv hw (k ok H locs ls hP hS hL)

theorem za_pop {v : Value} (hd : decode cc pc = .ok (.pop, 1)) (hv : v.category = 1) (k : zAW g C dd cc own (pc + 1) lv st σ) : zAW g C dd cc own pc lv (v :: st) σ := by
  obtain ⟨p, l, e, R, s, m, args, below, meth, c, nL, A, cells, slots, Q⟩ := C
  intro ok H locs ls hP hS hL
  exact lv_pop ok.1 ok.2.1 hd hv (k ok H locs ls hP hS hL)

theorem za_if_eq {x : Int32} {off : Int} (tgt : Nat) (hd : decode cc pc = .ok (.ifCond .eq off, 3)) (ht : (pc : Int) + off = (tgt : Int)) (kt : x = 0 → zAW g C dd cc own tgt lv st σ) (kf : ¬ x = 0 → zAW g C dd cc own (pc + 3) lv st σ) : zAW g C dd cc own pc lv (.int x :: st) σ := by
  obtain ⟨p, l, e, R, s, m, args, below, meth, c, nL, A, cells, slots, Q⟩ := C
  intro ok H locs ls hP hS hL
  exact lv_if_eq ok.1 ok.2.1 hd ht (fun q => kt q ok H locs ls hP hS hL) (fun q => kf q ok H locs ls hP hS hL)

theorem za_if_ne {x : Int32} {off : Int} (tgt : Nat) (hd : decode cc pc = .ok (.ifCond .ne off, 3)) (ht : (pc : Int) + off = (tgt : Int)) (kt : ¬ x = 0 → zAW g C dd cc own tgt lv st σ) (kf : x = 0 → zAW g C dd cc own (pc + 3) lv st σ) : zAW g C dd cc own pc lv (.int x :: st) σ := by
  obtain ⟨p, l, e, R, s, m, args, below, meth, c, nL, A, cells, slots, Q⟩ := C
  intro ok H locs ls hP hS hL
  exact lv_if_ne ok.1 ok.2.1 hd ht (fun q => kt q ok H locs ls hP hS hL) (fun q => kf q ok H locs ls hP hS hL)

theorem za_if_lt {x : Int32} {off : Int} (tgt : Nat) (hd : decode cc pc = .ok (.ifCond .lt off, 3)) (ht : (pc : Int) + off = (tgt : Int)) (kt : x < 0 → zAW g C dd cc own tgt lv st σ) (kf : ¬ (x < 0) → zAW g C dd cc own (pc + 3) lv st σ) : zAW g C dd cc own pc lv (.int x :: st) σ := by
  obtain ⟨p, l, e, R, s, m, args, below, meth, c, nL, A, cells, slots, Q⟩ := C
  intro ok H locs ls hP hS hL
  exact lv_if_lt ok.1 ok.2.1 hd ht (fun q => kt q ok H locs ls hP hS hL) (fun q => kf q ok H locs ls hP hS hL)

theorem za_if_ge {x : Int32} {off : Int} (tgt : Nat) (hd : decode cc pc = .ok (.ifCond .ge off, 3)) (ht : (pc : Int) + off = (tgt : Int)) (kt : 0 ≤ x → zAW g C dd cc own tgt lv st σ) (kf : ¬ (0 ≤ x) → zAW g C dd cc own (pc + 3) lv st σ) : zAW g C dd cc own pc lv (.int x :: st) σ := by
  obtain ⟨p, l, e, R, s, m, args, below, meth, c, nL, A, cells, slots, Q⟩ := C
  intro ok H locs ls hP hS hL
  exact lv_if_ge ok.1 ok.2.1 hd ht (fun q => kt q ok H locs ls hP hS hL) (fun q => kf q ok H locs ls hP hS hL)

theorem za_if_gt {x : Int32} {off : Int} (tgt : Nat) (hd : decode cc pc = .ok (.ifCond .gt off, 3)) (ht : (pc : Int) + off = (tgt : Int)) (kt : 0 < x → zAW g C dd cc own tgt lv st σ) (kf : ¬ (0 < x) → zAW g C dd cc own (pc + 3) lv st σ) : zAW g C dd cc own pc lv (.int x :: st) σ := by
  obtain ⟨p, l, e, R, s, m, args, below, meth, c, nL, A, cells, slots, Q⟩ := C
  intro ok H locs ls hP hS hL
  exact lv_if_gt ok.1 ok.2.1 hd ht (fun q => kt q ok H locs ls hP hS hL) (fun q => kf q ok H locs ls hP hS hL)

theorem za_if_le {x : Int32} {off : Int} (tgt : Nat) (hd : decode cc pc = .ok (.ifCond .le off, 3)) (ht : (pc : Int) + off = (tgt : Int)) (kt : x ≤ 0 → zAW g C dd cc own tgt lv st σ) (kf : ¬ (x ≤ 0) → zAW g C dd cc own (pc + 3) lv st σ) : zAW g C dd cc own pc lv (.int x :: st) σ := by
  obtain ⟨p, l, e, R, s, m, args, below, meth, c, nL, A, cells, slots, Q⟩ := C
  intro ok H locs ls hP hS hL
  exact lv_if_le ok.1 ok.2.1 hd ht (fun q => kt q ok H locs ls hP hS hL) (fun q => kf q ok H locs ls hP hS hL)

theorem za_icmp_eq {x y : Int32} {off : Int} (tgt : Nat) (hd : decode cc pc = .ok (.if_icmp .eq off, 3)) (ht : (pc : Int) + off = (tgt : Int)) (kt : x = y → zAW g C dd cc own tgt lv st σ) (kf : ¬ x = y → zAW g C dd cc own (pc + 3) lv st σ) : zAW g C dd cc own pc lv (.int y :: .int x :: st) σ := by
  obtain ⟨p, l, e, R, s, m, args, below, meth, c, nL, A, cells, slots, Q⟩ := C
  intro ok H locs ls hP hS hL
  exact lv_icmp_eq ok.1 ok.2.1 hd ht (fun q => kt q ok H locs ls hP hS hL) (fun q => kf q ok H locs ls hP hS hL)

theorem za_icmp_ne {x y : Int32} {off : Int} (tgt : Nat) (hd : decode cc pc = .ok (.if_icmp .ne off, 3)) (ht : (pc : Int) + off = (tgt : Int)) (kt : ¬ x = y → zAW g C dd cc own tgt lv st σ) (kf : x = y → zAW g C dd cc own (pc + 3) lv st σ) : zAW g C dd cc own pc lv (.int y :: .int x :: st) σ := by
  obtain ⟨p, l, e, R, s, m, args, below, meth, c, nL, A, cells, slots, Q⟩ := C
  intro ok H locs ls hP hS hL
  exact lv_icmp_ne ok.1 ok.2.1 hd ht (fun q => kt q ok H locs ls hP hS hL) (fun q => kf q ok H locs ls hP hS hL)

theorem za_icmp_lt {x y : Int32} {off : Int} (tgt : Nat) (hd : decode cc pc = .ok (.if_icmp .lt off, 3)) (ht : (pc : Int) + off = (tgt : Int)) (kt : x < y → zAW g C dd cc own tgt lv st σ) (kf : ¬ (x < y) → zAW g C dd cc own (pc + 3) lv st σ) : zAW g C dd cc own pc lv (.int y :: .int x :: st) σ := by
  obtain ⟨p, l, e, R, s, m, args, below, meth, c, nL, A, cells, slots, Q⟩ := C
  intro ok H locs ls hP hS hL
  exact lv_icmp_lt ok.1 ok.2.1 hd ht (fun q => kt q ok H locs ls hP hS hL) (fun q => kf q ok H locs ls hP hS hL)

theorem za_icmp_ge {x y : Int32} {off : Int} (tgt : Nat) (hd : decode cc pc = .ok (.if_icmp .ge off, 3)) (ht : (pc : Int) + off = (tgt : Int)) (kt : y ≤ x → zAW g C dd cc own tgt lv st σ) (kf : ¬ (y ≤ x) → zAW g C dd cc own (pc + 3) lv st σ) : zAW g C dd cc own pc lv (.int y :: .int x :: st) σ := by
  obtain ⟨p, l, e, R, s, m, args, below, meth, c, nL, A, cells, slots, Q⟩ := C
  intro ok H locs ls hP hS hL
  exact lv_icmp_ge ok.1 ok.2.1 hd ht (fun q => kt q ok H locs ls hP hS hL) (fun q => kf q ok H locs ls hP hS hL)

theorem za_icmp_gt {x y : Int32} {off : Int} (tgt : Nat) (hd : decode cc pc = .ok (.if_icmp .gt off, 3)) (ht : (pc : Int) + off = (tgt : Int)) (kt : y < x → zAW g C dd cc own tgt lv st σ) (kf : ¬ (y < x) → zAW g C dd cc own (pc + 3) lv st σ) : zAW g C dd cc own pc lv (.int y :: .int x :: st) σ := by
  obtain ⟨p, l, e, R, s, m, args, below, meth, c, nL, A, cells, slots, Q⟩ := C
  intro ok H locs ls hP hS hL
  exact lv_icmp_gt ok.1 ok.2.1 hd ht (fun q => kt q ok H locs ls hP hS hL) (fun q => kf q ok H locs ls hP hS hL)

theorem za_icmp_le {x y : Int32} {off : Int} (tgt : Nat) (hd : decode cc pc = .ok (.if_icmp .le off, 3)) (ht : (pc : Int) + off = (tgt : Int)) (kt : x ≤ y → zAW g C dd cc own tgt lv st σ) (kf : ¬ (x ≤ y) → zAW g C dd cc own (pc + 3) lv st σ) : zAW g C dd cc own pc lv (.int y :: .int x :: st) σ := by
  obtain ⟨p, l, e, R, s, m, args, below, meth, c, nL, A, cells, slots, Q⟩ := C
  intro ok H locs ls hP hS hL
  exact lv_icmp_le ok.1 ok.2.1 hd ht (fun q => kt q ok H locs ls hP hS hL) (fun q => kf q ok H locs ls hP hS hL)

theorem za_if_eqB {c : Prop} [Decidable c] {off : Int} (tgt : Nat) (hd : decode cc pc = .ok (.ifCond .eq off, 3)) (ht : (pc : Int) + off = (tgt : Int)) (kt : ¬ c → zAW g C dd cc own tgt lv st σ) (kf : c → zAW g C dd cc own (pc + 3) lv st σ) : zAW g C dd cc own pc lv (.int (zb c) :: st) σ :=
  za_if_eq tgt hd ht (fun q => kt (zb_0.mp q)) (fun q => kf (Classical.byContradiction fun h => q (zb_0.mpr h)))
theorem za_if_neB {c : Prop} [Decidable c] {off : Int} (tgt : Nat) (hd : decode cc pc = .ok (.ifCond .ne off, 3)) (ht : (pc : Int) + off = (tgt : Int)) (kt : c → zAW g C dd cc own tgt lv st σ) (kf : ¬ c → zAW g C dd cc own (pc + 3) lv st σ) : zAW g C dd cc own pc lv (.int (zb c) :: st) σ :=
  za_if_ne tgt hd ht (fun q => kt (Classical.byContradiction fun h => q (zb_0.mpr h))) (fun q => kf (zb_0.mp q))
theorem za_goto {off : Int} (tgt : Nat) (hd : decode cc pc = .ok (.goto off, 3)) (ht : (pc : Int) + off = (tgt : Int)) (k : zAW g C dd cc own tgt lv st σ) : zAW g C dd cc own pc lv st σ := by
  obtain ⟨p, l, e, R, s, m, args, below, meth, c, nL, A, cells, slots, Q⟩ := C
  intro ok H locs ls hP hS hL
  exact lv_goto ok.1 ok.2.1 hd ht (k ok H locs ls hP hS hL)
theorem za_table {dflt lo hi : Int} {offs : Array Int} {len : Nat} {x : Int32} (hd : decode cc pc = .ok (.tableswitch dflt lo hi offs, len)) (kin : ∀ (off : Int) (tgt : Nat), ¬ x.toInt < lo → ¬ hi < x.toInt → offs[(x.toInt - lo).toNat]? = some off → (pc : Int) + off = (tgt : Int) → zAW g C dd cc own tgt lv st σ) (hsz : offs.size = (hi - lo).toNat + 1) (htg : ∀ off ∈ offs, 0 ≤ (pc : Int) + off) (tgt : Nat) (ht : (pc : Int) + dflt = (tgt : Int)) (kout : (x.toInt < lo ∨ hi < x.toInt) → zAW g C dd cc own tgt lv st σ) : zAW g C dd cc own pc lv (.int x :: st) σ := by
  obtain ⟨p, l, e, R, s, m, args, below, meth, c, nL, A, cells, slots, Q⟩ := C
  intro ok H locs ls hP hS hL
  by_cases h : x.toInt < lo ∨ hi < x.toInt
  · exact lv_tableOut ok.1 ok.2.1 hd h ht (kout h ok H locs ls hP hS hL)
  · have h1 : ¬ x.toInt < lo := fun q => h (Or.inl q)
    have h2 : ¬ hi < x.toInt := fun q => h (Or.inr q)
    have hlt : (x.toInt - lo).toNat < offs.size := by omega
    have ho : offs[(x.toInt - lo).toNat]? = some offs[(x.toInt - lo).toNat] := Array.getElem?_eq_getElem hlt
    have h0 := htg _ (Array.getElem_mem hlt)
    have htt : (pc : Int) + offs[(x.toInt - lo).toNat] = (((pc : Int) + offs[(x.toInt - lo).toNat]).toNat : Int) := (Int.toNat_of_nonneg h0).symm
    exact lv_tableIn ok.1 ok.2.1 hd h1 h2 ho htt (kin _ _ h1 h2 ho htt ok H locs ls hP hS hL)
/-- a table switch at a known place -/
theorem za_tabK {dflt lo hi : Int} {offs : Array Int} {len : Nat} {x : Int32} (off : Int) (tgt : Nat) (hd : decode cc pc = .ok (.tableswitch dflt lo hi offs, len)) (h1 : ¬ x.toInt < lo) (h2 : ¬ hi < x.toInt) (ho : offs[(x.toInt - lo).toNat]? = some off) (ht : (pc : Int) + off = (tgt : Int)) (k : zAW g C dd cc own tgt lv st σ) : zAW g C dd cc own pc lv (.int x :: st) σ := by
  obtain ⟨p, l, e, R, s, m, args, below, meth, c, nL, A, cells, slots, Q⟩ := C
  intro ok H locs ls hP hS hL
  exact lv_tableIn ok.1 ok.2.1 hd h1 h2 ho ht (k ok H locs ls hP hS hL)
theorem za_tabO {dflt lo hi : Int} {offs : Array Int} {len : Nat} {x : Int32} (tgt : Nat) (hd : decode cc pc = .ok (.tableswitch dflt lo hi offs, len)) (h : x.toInt < lo ∨ hi < x.toInt) (ht : (pc : Int) + dflt = (tgt : Int)) (k : zAW g C dd cc own tgt lv st σ) : zAW g C dd cc own pc lv (.int x :: st) σ := by
  obtain ⟨p, l, e, R, s, m, args, below, meth, c, nL, A, cells, slots, Q⟩ := C
  intro ok H locs ls hP hS hL
  exact lv_tableOut ok.1 ok.2.1 hd h ht (k ok H locs ls hP hS hL)
theorem za_look {dflt : Int} {ps : Array (Int × Int)} {len : Nat} {x : Int32} {off : Int} (tgt : Nat) (hd : decode cc pc = .ok (.lookupswitch dflt ps, len)) (hp : (ps.toList.zip (ps.toList.drop 1)).all (fun (a, next) => a.1 < next.1) = true) (ho : Op.lookupswitch.offset ps.toList dflt x.toInt = off) (ht : (pc : Int) + off = (tgt : Int)) (k : zAW g C dd cc own tgt lv st σ) : zAW g C dd cc own pc lv (.int x :: st) σ := by
  obtain ⟨p, l, e, R, s, m, args, below, meth, c, nL, A, cells, slots, Q⟩ := C
  intro ok H locs ls hP hS hL
  exact lv_lookup ok.1 ok.2.1 hd hp ho ht (k ok H locs ls hP hS hL)
end ZROWS
