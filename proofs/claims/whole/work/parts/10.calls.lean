section ZCALLN
variable {g : zG} {C : zC} {dd : Nat} {cc : ByteArray} {own : String} {pc : Nat} {lv : List (Option Value)} {st : List Value} {σ σ' : zSto} {d n idx o ci : Nat} {y : MethodName} {cy : ByteArray} {ret : Option FieldType} {rest : List Value} {r a1 a2 a3 a4 a5 : Value} {fs : List (Option Nat)} {rc : vw_C}
/-- a contract with one outcome -/
def zEd (g : zG) (d : Nat) (y : MethodName) (cy : ByteArray) (n : Nat) (ret : Option FieldType) (as : List Value) (σ : zSto) (r : Option Value) (σ' : zSto) : Prop := zEv g d y cy n ret as σ (fun r' s' => r' = r ∧ s' = σ')

theorem za_cV0 (hd : decode cc pc = .ok (.invokevirtual idx, 3)) (hm : Cond.methodLink own idx y ∈ lw_g) (hw : zCW y cy n ret 0) (hv : zCV y) (hE : zEd g d y cy n ret [.ref (zad g o)] σ (some r) σ') (hdd : d < dd) (hs : zsh[o]? = some (.inl (ci, fs))) (hcr : vwCl[ci]? = some rc) (hn : rc.1 = y.cls) (hr : (rest.map fun v => v.category).sum ≤ 8) (k : zAW g C dd cc own (pc + 3) lv (r :: rest) σ') : zAW g C dd cc own pc lv (.ref (zad g o) :: rest) σ :=
  za_callV (As := []) (rest := rest) hd hm hw hv hE hdd hs hcr hn rfl hr rfl (fun r' s' h => by obtain ⟨rfl, rfl⟩ := h; exact k)
theorem za_cV0v (hd : decode cc pc = .ok (.invokevirtual idx, 3)) (hm : Cond.methodLink own idx y ∈ lw_g) (hw : zCW y cy n ret 0) (hv : zCV y) (hE : zEd g d y cy n ret [.ref (zad g o)] σ none σ') (hdd : d < dd) (hs : zsh[o]? = some (.inl (ci, fs))) (hcr : vwCl[ci]? = some rc) (hn : rc.1 = y.cls) (hr : (rest.map fun v => v.category).sum ≤ 8) (k : zAW g C dd cc own (pc + 3) lv rest σ') : zAW g C dd cc own pc lv (.ref (zad g o) :: rest) σ :=
  za_callV (As := []) (rest := rest) hd hm hw hv hE hdd hs hcr hn rfl hr rfl (fun r' s' h => by obtain ⟨rfl, rfl⟩ := h; exact k)
theorem za_cV1 (hd : decode cc pc = .ok (.invokevirtual idx, 3)) (hm : Cond.methodLink own idx y ∈ lw_g) (hw : zCW y cy n ret 1) (hv : zCV y) (hE : zEd g d y cy n ret [.ref (zad g o), a1] σ (some r) σ') (hdd : d < dd) (hs : zsh[o]? = some (.inl (ci, fs))) (hcr : vwCl[ci]? = some rc) (hn : rc.1 = y.cls) (hr : (rest.map fun v => v.category).sum ≤ 8) (k : zAW g C dd cc own (pc + 3) lv (r :: rest) σ') : zAW g C dd cc own pc lv (a1 :: .ref (zad g o) :: rest) σ :=
  za_callV (As := [a1]) (rest := rest) hd hm hw hv hE hdd hs hcr hn rfl hr rfl (fun r' s' h => by obtain ⟨rfl, rfl⟩ := h; exact k)
theorem za_cS1 (hd : decode cc pc = .ok (.invokestatic idx, 3)) (hm : Cond.methodLink own idx y ∈ lw_g) (hw : zCW y cy n ret 1) (hv : Cond.static y ∈ lw_g) (hE : zEd g d y cy n ret [a1] σ (some r) σ') (hdd : d < dd) (hr : (rest.map fun v => v.category).sum ≤ 8) (k : zAW g C dd cc own (pc + 3) lv (r :: rest) σ') : zAW g C dd cc own pc lv (a1 :: rest) σ :=
  za_callS (As := [a1]) (rest := rest) hd hm hw hv hE hdd rfl hr rfl (fun r' s' h => by obtain ⟨rfl, rfl⟩ := h; exact k)
theorem za_cN1 (hd : decode cc pc = .ok (.invokestatic idx, 3)) (hm : ∀ (A : Nat → Prop) (U : State) (H : Heap), zSx g A U H → va_Nw (.methodLinkNest own idx y "BasinVotes") U) (hw : zCW y cy n ret 1) (hv : Cond.static y ∈ lw_g) (hE : zEd g d y cy n ret [a1] σ (some r) σ') (hdd : d < dd) (hr : (rest.map fun v => v.category).sum ≤ 8) (k : zAW g C dd cc own (pc + 3) lv (r :: rest) σ') : zAW g C dd cc own pc lv (a1 :: rest) σ :=
  za_callSN (As := [a1]) (rest := rest) hd hm hw hv hE hdd rfl hr rfl (fun r' s' h => by obtain ⟨rfl, rfl⟩ := h; exact k)
theorem za_cV1v (hd : decode cc pc = .ok (.invokevirtual idx, 3)) (hm : Cond.methodLink own idx y ∈ lw_g) (hw : zCW y cy n ret 1) (hv : zCV y) (hE : zEd g d y cy n ret [.ref (zad g o), a1] σ none σ') (hdd : d < dd) (hs : zsh[o]? = some (.inl (ci, fs))) (hcr : vwCl[ci]? = some rc) (hn : rc.1 = y.cls) (hr : (rest.map fun v => v.category).sum ≤ 8) (k : zAW g C dd cc own (pc + 3) lv rest σ') : zAW g C dd cc own pc lv (a1 :: .ref (zad g o) :: rest) σ :=
  za_callV (As := [a1]) (rest := rest) hd hm hw hv hE hdd hs hcr hn rfl hr rfl (fun r' s' h => by obtain ⟨rfl, rfl⟩ := h; exact k)
theorem za_cS1v (hd : decode cc pc = .ok (.invokestatic idx, 3)) (hm : Cond.methodLink own idx y ∈ lw_g) (hw : zCW y cy n ret 1) (hv : Cond.static y ∈ lw_g) (hE : zEd g d y cy n ret [a1] σ none σ') (hdd : d < dd) (hr : (rest.map fun v => v.category).sum ≤ 8) (k : zAW g C dd cc own (pc + 3) lv rest σ') : zAW g C dd cc own pc lv (a1 :: rest) σ :=
  za_callS (As := [a1]) (rest := rest) hd hm hw hv hE hdd rfl hr rfl (fun r' s' h => by obtain ⟨rfl, rfl⟩ := h; exact k)
theorem za_cN1v (hd : decode cc pc = .ok (.invokestatic idx, 3)) (hm : ∀ (A : Nat → Prop) (U : State) (H : Heap), zSx g A U H → va_Nw (.methodLinkNest own idx y "BasinVotes") U) (hw : zCW y cy n ret 1) (hv : Cond.static y ∈ lw_g) (hE : zEd g d y cy n ret [a1] σ none σ') (hdd : d < dd) (hr : (rest.map fun v => v.category).sum ≤ 8) (k : zAW g C dd cc own (pc + 3) lv rest σ') : zAW g C dd cc own pc lv (a1 :: rest) σ :=
  za_callSN (As := [a1]) (rest := rest) hd hm hw hv hE hdd rfl hr rfl (fun r' s' h => by obtain ⟨rfl, rfl⟩ := h; exact k)
theorem za_cV2 (hd : decode cc pc = .ok (.invokevirtual idx, 3)) (hm : Cond.methodLink own idx y ∈ lw_g) (hw : zCW y cy n ret 2) (hv : zCV y) (hE : zEd g d y cy n ret [.ref (zad g o), a1, a2] σ (some r) σ') (hdd : d < dd) (hs : zsh[o]? = some (.inl (ci, fs))) (hcr : vwCl[ci]? = some rc) (hn : rc.1 = y.cls) (hr : (rest.map fun v => v.category).sum ≤ 8) (k : zAW g C dd cc own (pc + 3) lv (r :: rest) σ') : zAW g C dd cc own pc lv (a2 :: a1 :: .ref (zad g o) :: rest) σ :=
  za_callV (As := [a1, a2]) (rest := rest) hd hm hw hv hE hdd hs hcr hn rfl hr rfl (fun r' s' h => by obtain ⟨rfl, rfl⟩ := h; exact k)
theorem za_cS2 (hd : decode cc pc = .ok (.invokestatic idx, 3)) (hm : Cond.methodLink own idx y ∈ lw_g) (hw : zCW y cy n ret 2) (hv : Cond.static y ∈ lw_g) (hE : zEd g d y cy n ret [a1, a2] σ (some r) σ') (hdd : d < dd) (hr : (rest.map fun v => v.category).sum ≤ 8) (k : zAW g C dd cc own (pc + 3) lv (r :: rest) σ') : zAW g C dd cc own pc lv (a2 :: a1 :: rest) σ :=
  za_callS (As := [a1, a2]) (rest := rest) hd hm hw hv hE hdd rfl hr rfl (fun r' s' h => by obtain ⟨rfl, rfl⟩ := h; exact k)
theorem za_cV2v (hd : decode cc pc = .ok (.invokevirtual idx, 3)) (hm : Cond.methodLink own idx y ∈ lw_g) (hw : zCW y cy n ret 2) (hv : zCV y) (hE : zEd g d y cy n ret [.ref (zad g o), a1, a2] σ none σ') (hdd : d < dd) (hs : zsh[o]? = some (.inl (ci, fs))) (hcr : vwCl[ci]? = some rc) (hn : rc.1 = y.cls) (hr : (rest.map fun v => v.category).sum ≤ 8) (k : zAW g C dd cc own (pc + 3) lv rest σ') : zAW g C dd cc own pc lv (a2 :: a1 :: .ref (zad g o) :: rest) σ :=
  za_callV (As := [a1, a2]) (rest := rest) hd hm hw hv hE hdd hs hcr hn rfl hr rfl (fun r' s' h => by obtain ⟨rfl, rfl⟩ := h; exact k)
theorem za_cS2v (hd : decode cc pc = .ok (.invokestatic idx, 3)) (hm : Cond.methodLink own idx y ∈ lw_g) (hw : zCW y cy n ret 2) (hv : Cond.static y ∈ lw_g) (hE : zEd g d y cy n ret [a1, a2] σ none σ') (hdd : d < dd) (hr : (rest.map fun v => v.category).sum ≤ 8) (k : zAW g C dd cc own (pc + 3) lv rest σ') : zAW g C dd cc own pc lv (a2 :: a1 :: rest) σ :=
  za_callS (As := [a1, a2]) (rest := rest) hd hm hw hv hE hdd rfl hr rfl (fun r' s' h => by obtain ⟨rfl, rfl⟩ := h; exact k)
theorem za_cV3 (hd : decode cc pc = .ok (.invokevirtual idx, 3)) (hm : Cond.methodLink own idx y ∈ lw_g) (hw : zCW y cy n ret 3) (hv : zCV y) (hE : zEd g d y cy n ret [.ref (zad g o), a1, a2, a3] σ (some r) σ') (hdd : d < dd) (hs : zsh[o]? = some (.inl (ci, fs))) (hcr : vwCl[ci]? = some rc) (hn : rc.1 = y.cls) (hr : (rest.map fun v => v.category).sum ≤ 8) (k : zAW g C dd cc own (pc + 3) lv (r :: rest) σ') : zAW g C dd cc own pc lv (a3 :: a2 :: a1 :: .ref (zad g o) :: rest) σ :=
  za_callV (As := [a1, a2, a3]) (rest := rest) hd hm hw hv hE hdd hs hcr hn rfl hr rfl (fun r' s' h => by obtain ⟨rfl, rfl⟩ := h; exact k)
theorem za_cS3 (hd : decode cc pc = .ok (.invokestatic idx, 3)) (hm : Cond.methodLink own idx y ∈ lw_g) (hw : zCW y cy n ret 3) (hv : Cond.static y ∈ lw_g) (hE : zEd g d y cy n ret [a1, a2, a3] σ (some r) σ') (hdd : d < dd) (hr : (rest.map fun v => v.category).sum ≤ 8) (k : zAW g C dd cc own (pc + 3) lv (r :: rest) σ') : zAW g C dd cc own pc lv (a3 :: a2 :: a1 :: rest) σ :=
  za_callS (As := [a1, a2, a3]) (rest := rest) hd hm hw hv hE hdd rfl hr rfl (fun r' s' h => by obtain ⟨rfl, rfl⟩ := h; exact k)
theorem za_cV3v (hd : decode cc pc = .ok (.invokevirtual idx, 3)) (hm : Cond.methodLink own idx y ∈ lw_g) (hw : zCW y cy n ret 3) (hv : zCV y) (hE : zEd g d y cy n ret [.ref (zad g o), a1, a2, a3] σ none σ') (hdd : d < dd) (hs : zsh[o]? = some (.inl (ci, fs))) (hcr : vwCl[ci]? = some rc) (hn : rc.1 = y.cls) (hr : (rest.map fun v => v.category).sum ≤ 8) (k : zAW g C dd cc own (pc + 3) lv rest σ') : zAW g C dd cc own pc lv (a3 :: a2 :: a1 :: .ref (zad g o) :: rest) σ :=
  za_callV (As := [a1, a2, a3]) (rest := rest) hd hm hw hv hE hdd hs hcr hn rfl hr rfl (fun r' s' h => by obtain ⟨rfl, rfl⟩ := h; exact k)
theorem za_cS3v (hd : decode cc pc = .ok (.invokestatic idx, 3)) (hm : Cond.methodLink own idx y ∈ lw_g) (hw : zCW y cy n ret 3) (hv : Cond.static y ∈ lw_g) (hE : zEd g d y cy n ret [a1, a2, a3] σ none σ') (hdd : d < dd) (hr : (rest.map fun v => v.category).sum ≤ 8) (k : zAW g C dd cc own (pc + 3) lv rest σ') : zAW g C dd cc own pc lv (a3 :: a2 :: a1 :: rest) σ :=
  za_callS (As := [a1, a2, a3]) (rest := rest) hd hm hw hv hE hdd rfl hr rfl (fun r' s' h => by obtain ⟨rfl, rfl⟩ := h; exact k)
theorem za_cV4 (hd : decode cc pc = .ok (.invokevirtual idx, 3)) (hm : Cond.methodLink own idx y ∈ lw_g) (hw : zCW y cy n ret 4) (hv : zCV y) (hE : zEd g d y cy n ret [.ref (zad g o), a1, a2, a3, a4] σ (some r) σ') (hdd : d < dd) (hs : zsh[o]? = some (.inl (ci, fs))) (hcr : vwCl[ci]? = some rc) (hn : rc.1 = y.cls) (hr : (rest.map fun v => v.category).sum ≤ 8) (k : zAW g C dd cc own (pc + 3) lv (r :: rest) σ') : zAW g C dd cc own pc lv (a4 :: a3 :: a2 :: a1 :: .ref (zad g o) :: rest) σ :=
  za_callV (As := [a1, a2, a3, a4]) (rest := rest) hd hm hw hv hE hdd hs hcr hn rfl hr rfl (fun r' s' h => by obtain ⟨rfl, rfl⟩ := h; exact k)
theorem za_cS4 (hd : decode cc pc = .ok (.invokestatic idx, 3)) (hm : Cond.methodLink own idx y ∈ lw_g) (hw : zCW y cy n ret 4) (hv : Cond.static y ∈ lw_g) (hE : zEd g d y cy n ret [a1, a2, a3, a4] σ (some r) σ') (hdd : d < dd) (hr : (rest.map fun v => v.category).sum ≤ 8) (k : zAW g C dd cc own (pc + 3) lv (r :: rest) σ') : zAW g C dd cc own pc lv (a4 :: a3 :: a2 :: a1 :: rest) σ :=
  za_callS (As := [a1, a2, a3, a4]) (rest := rest) hd hm hw hv hE hdd rfl hr rfl (fun r' s' h => by obtain ⟨rfl, rfl⟩ := h; exact k)
theorem za_cV4v (hd : decode cc pc = .ok (.invokevirtual idx, 3)) (hm : Cond.methodLink own idx y ∈ lw_g) (hw : zCW y cy n ret 4) (hv : zCV y) (hE : zEd g d y cy n ret [.ref (zad g o), a1, a2, a3, a4] σ none σ') (hdd : d < dd) (hs : zsh[o]? = some (.inl (ci, fs))) (hcr : vwCl[ci]? = some rc) (hn : rc.1 = y.cls) (hr : (rest.map fun v => v.category).sum ≤ 8) (k : zAW g C dd cc own (pc + 3) lv rest σ') : zAW g C dd cc own pc lv (a4 :: a3 :: a2 :: a1 :: .ref (zad g o) :: rest) σ :=
  za_callV (As := [a1, a2, a3, a4]) (rest := rest) hd hm hw hv hE hdd hs hcr hn rfl hr rfl (fun r' s' h => by obtain ⟨rfl, rfl⟩ := h; exact k)
theorem za_cS4v (hd : decode cc pc = .ok (.invokestatic idx, 3)) (hm : Cond.methodLink own idx y ∈ lw_g) (hw : zCW y cy n ret 4) (hv : Cond.static y ∈ lw_g) (hE : zEd g d y cy n ret [a1, a2, a3, a4] σ none σ') (hdd : d < dd) (hr : (rest.map fun v => v.category).sum ≤ 8) (k : zAW g C dd cc own (pc + 3) lv rest σ') : zAW g C dd cc own pc lv (a4 :: a3 :: a2 :: a1 :: rest) σ :=
  za_callS (As := [a1, a2, a3, a4]) (rest := rest) hd hm hw hv hE hdd rfl hr rfl (fun r' s' h => by obtain ⟨rfl, rfl⟩ := h; exact k)
theorem za_cV5 (hd : decode cc pc = .ok (.invokevirtual idx, 3)) (hm : Cond.methodLink own idx y ∈ lw_g) (hw : zCW y cy n ret 5) (hv : zCV y) (hE : zEd g d y cy n ret [.ref (zad g o), a1, a2, a3, a4, a5] σ (some r) σ') (hdd : d < dd) (hs : zsh[o]? = some (.inl (ci, fs))) (hcr : vwCl[ci]? = some rc) (hn : rc.1 = y.cls) (hr : (rest.map fun v => v.category).sum ≤ 8) (k : zAW g C dd cc own (pc + 3) lv (r :: rest) σ') : zAW g C dd cc own pc lv (a5 :: a4 :: a3 :: a2 :: a1 :: .ref (zad g o) :: rest) σ :=
  za_callV (As := [a1, a2, a3, a4, a5]) (rest := rest) hd hm hw hv hE hdd hs hcr hn rfl hr rfl (fun r' s' h => by obtain ⟨rfl, rfl⟩ := h; exact k)
theorem za_cS5 (hd : decode cc pc = .ok (.invokestatic idx, 3)) (hm : Cond.methodLink own idx y ∈ lw_g) (hw : zCW y cy n ret 5) (hv : Cond.static y ∈ lw_g) (hE : zEd g d y cy n ret [a1, a2, a3, a4, a5] σ (some r) σ') (hdd : d < dd) (hr : (rest.map fun v => v.category).sum ≤ 8) (k : zAW g C dd cc own (pc + 3) lv (r :: rest) σ') : zAW g C dd cc own pc lv (a5 :: a4 :: a3 :: a2 :: a1 :: rest) σ :=
  za_callS (As := [a1, a2, a3, a4, a5]) (rest := rest) hd hm hw hv hE hdd rfl hr rfl (fun r' s' h => by obtain ⟨rfl, rfl⟩ := h; exact k)
theorem za_cV5v (hd : decode cc pc = .ok (.invokevirtual idx, 3)) (hm : Cond.methodLink own idx y ∈ lw_g) (hw : zCW y cy n ret 5) (hv : zCV y) (hE : zEd g d y cy n ret [.ref (zad g o), a1, a2, a3, a4, a5] σ none σ') (hdd : d < dd) (hs : zsh[o]? = some (.inl (ci, fs))) (hcr : vwCl[ci]? = some rc) (hn : rc.1 = y.cls) (hr : (rest.map fun v => v.category).sum ≤ 8) (k : zAW g C dd cc own (pc + 3) lv rest σ') : zAW g C dd cc own pc lv (a5 :: a4 :: a3 :: a2 :: a1 :: .ref (zad g o) :: rest) σ :=
  za_callV (As := [a1, a2, a3, a4, a5]) (rest := rest) hd hm hw hv hE hdd hs hcr hn rfl hr rfl (fun r' s' h => by obtain ⟨rfl, rfl⟩ := h; exact k)
theorem za_cS5v (hd : decode cc pc = .ok (.invokestatic idx, 3)) (hm : Cond.methodLink own idx y ∈ lw_g) (hw : zCW y cy n ret 5) (hv : Cond.static y ∈ lw_g) (hE : zEd g d y cy n ret [a1, a2, a3, a4, a5] σ none σ') (hdd : d < dd) (hr : (rest.map fun v => v.category).sum ≤ 8) (k : zAW g C dd cc own (pc + 3) lv rest σ') : zAW g C dd cc own pc lv (a5 :: a4 :: a3 :: a2 :: a1 :: rest) σ :=
  za_callS (As := [a1, a2, a3, a4, a5]) (rest := rest) hd hm hw hv hE hdd rfl hr rfl (fun r' s' h => by obtain ⟨rfl, rfl⟩ := h; exact k)
theorem zm_X0_9 (A : Nat → Prop) (U : State) (H : Heap) (h : zSx g A U H) : va_Nw (.methodLinkNest RX0 9 yX5_isKind "BasinVotes") U := h.2.1.1
theorem zm_X3_42 (A : Nat → Prop) (U : State) (H : Heap) (h : zSx g A U H) : va_Nw (.methodLinkNest RX3 42 yX5_isKind "BasinVotes") U := h.2.1.2
/-! System.arraycopy among rows of ints, of longs -/
theorem zcp_small : nativeFrameWords "java/lang/System" "arraycopy" 5 + 11 ≤ 28 := by decide +kernel
def zci (σ : zSto) (o' o sp dp m : Nat) : zSto := (fun a b => if a = o ∧ dp ≤ b ∧ b < dp + m then σ.1 o' (sp + (b - dp)) else σ.1 a b, σ.2)
def zcl (σ : zSto) (o' o sp dp m : Nat) : zSto := (σ.1, fun a b => if a = o ∧ dp ≤ b ∧ b < dp + m then σ.2 o' (sp + (b - dp)) else σ.2 a b)
theorem za_copyi {o' n' sp dp m : Nat} (hd : decode cc pc = .ok (.invokestatic idx, 3)) (hm : Cond.methodLink own idx arraycopyName ∈ lw_g) (hs' : zsh[o']? = some (.inr (.inl (0, n')))) (hs : zsh[o]? = some (.inr (.inl (0, n)))) (h1 : sp + m ≤ n') (h2 : dp + m ≤ n) (hdd : 0 < dd) (hr : (rest.map fun v => v.category).sum ≤ 8) (k : zAW g C dd cc own (pc + 3) lv rest (zci σ o' o sp dp m)) : zAW g C dd cc own pc lv (.int (nI m) :: .int (nI dp) :: .ref (zad g o) :: .int (nI sp) :: .ref (zad g o') :: rest) σ := by
  obtain ⟨p, l, e, R, s, m', args, below, meth, c, nL, A, cells, slots, Q⟩ := C
  intro ok H locs ls hP hS hL
  have ok' := ok
  obtain ⟨hx, hb, hml, hown, hts, hlocks, hK, hx2, hG, hA, hcs, hdR, hlR⟩ := ok'
  have b1 := zsh_small _ _ _ hs
  have b2 := zsh_small _ _ _ hs'
  have c1 : (nI m).toNatClampNeg = m := nI_clamp (by omega)
  have c2 : (nI dp).toNatClampNeg = dp := nI_clamp (by omega)
  have c3 : (nI sp).toNatClampNeg = sp := nI_clamp (by omega)
  have hD := zwld_D (σ := σ) hG hA
  refine va_copyi (D := g.1) (ty := .int) hx hb (hml.trans hL.1.symm) hown (hts _ hm) (hts _ zq_copy.1) (hts _ zq_copy.2.1) (hts _ zq_copy.2.2) hK hP hD hS o' o 0 0 (zwld_i (by decide) hs') (zwld_i (by decide) hs) rfl rfl rfl (nI_pos (by omega)) (nI_pos (by omega)) (nI_pos (by omega)) (by omega) (by omega) (fun _ _ => rfl) (by omega) (by have := zcp_small; omega) hd (fun H1 locs1 hP1 _ hS1 => ?_)
  have he : zcel g (zci σ o' o sp dp m) o (.inr (.inl (0, n))) = .inl (zcA g 0, n, .inl (va_cpy (σ.1 o') (σ.1 o) sp dp m)) := by
    have h : (zci σ o' o sp dp m).1 o = va_cpy (σ.1 o') (σ.1 o) sp dp m := by
      funext b
      simp [zci, va_cpy]
    unfold zcel
    dsimp only
    rw [if_neg (by decide), h]
  rw [c1, c2, c3, zwld_set (g := g) (σ := σ) (σ' := zci σ o' o sp dp m) hs (fun a h => by funext b; simp [zci, h]) (fun a h => rfl) he] at hP1
  exact k ok H1 locs1 ls hP1 hS1 hL
theorem za_copyl {o' n' sp dp m : Nat} (hd : decode cc pc = .ok (.invokestatic idx, 3)) (hm : Cond.methodLink own idx arraycopyName ∈ lw_g) (hs' : zsh[o']? = some (.inr (.inl (1, n')))) (hs : zsh[o]? = some (.inr (.inl (1, n)))) (h1 : sp + m ≤ n') (h2 : dp + m ≤ n) (hdd : 0 < dd) (hr : (rest.map fun v => v.category).sum ≤ 8) (k : zAW g C dd cc own (pc + 3) lv rest (zcl σ o' o sp dp m)) : zAW g C dd cc own pc lv (.int (nI m) :: .int (nI dp) :: .ref (zad g o) :: .int (nI sp) :: .ref (zad g o') :: rest) σ := by
  obtain ⟨p, l, e, R, s, m', args, below, meth, c, nL, A, cells, slots, Q⟩ := C
  intro ok H locs ls hP hS hL
  have ok' := ok
  obtain ⟨hx, hb, hml, hown, hts, hlocks, hK, hx2, hG, hA, hcs, hdR, hlR⟩ := ok'
  have b1 := zsh_small _ _ _ hs
  have b2 := zsh_small _ _ _ hs'
  have c1 : (nI m).toNatClampNeg = m := nI_clamp (by omega)
  have c2 : (nI dp).toNatClampNeg = dp := nI_clamp (by omega)
  have c3 : (nI sp).toNatClampNeg = sp := nI_clamp (by omega)
  have hD := zwld_D (σ := σ) hG hA
  refine va_copyl (D := g.1) (ty := .long) hx hb (hml.trans hL.1.symm) hown (hts _ hm) (hts _ zq_copy.1) (hts _ zq_copy.2.1) (hts _ zq_copy.2.2) hK hP hD hS o' o 1 1 (zwld_l hs') (zwld_l hs) rfl rfl rfl (nI_pos (by omega)) (nI_pos (by omega)) (nI_pos (by omega)) (by omega) (by omega) (fun _ _ => rfl) (by omega) (by have := zcp_small; omega) hd (fun H1 locs1 hP1 _ hS1 => ?_)
  have he : zcel g (zcl σ o' o sp dp m) o (.inr (.inl (1, n))) = .inl (zcA g 1, n, .inr (.inl (va_cpy (σ.2 o') (σ.2 o) sp dp m))) := by
    have h : (zcl σ o' o sp dp m).2 o = va_cpy (σ.2 o') (σ.2 o) sp dp m := by
      funext b
      simp [zcl, va_cpy]
    unfold zcel
    dsimp only
    rw [if_pos rfl, h]
  rw [c1, c2, c3, zwld_set (g := g) (σ := σ) (σ' := zcl σ o' o sp dp m) hs (fun a h => rfl) (fun a h => by funext b; simp [zcl, h]) he] at hP1
  exact k ok H1 locs1 ls hP1 hS1 hL
end ZCALLN
