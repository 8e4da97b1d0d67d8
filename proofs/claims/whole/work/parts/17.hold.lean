/-! a store that holds a town at o -/
theorem zT1 : zTo 1 := Or.inl rfl
theorem zT8 : zTo 8 := Or.inr (Or.inl rfl)
theorem zT15 : zTo 15 := Or.inr (Or.inr rfl)
def zHd (S : zSto) (o : Nat) (τ : zTn) : Prop := zpt S o τ = S
section ZHOLD
variable {S : zSto} {o o' : Nat} {τ t t' : zTn}
theorem zHd_pt : zHd (zpt S o τ) o τ := zpt_pt
theorem zHd_tw : zHd S o (ztw S o) := zpt_tw
theorem zHd_at {k i : Nat} (h : zHd S o τ) (hv : zvl k i) : S.1 (o + k) i = τ k i := by
  have e := zpt_at (σ := S) (o := o) (τ := τ) hv
  rw [show zpt S o τ = S from h] at e
  exact e
theorem zHd_si {k i : Nat} {v : Int32} (h : zHd S o τ) (hv : zvl k i) : zsi S (o + k) i v = zpt S o (zup τ k i v) := by
  have e := zpt_si (σ := S) (o := o) (τ := τ) (v := v) hv
  rw [show zpt S o τ = S from h] at e
  exact e
theorem zpt_comm (hT : zTo o) (hT' : zTo o') (hne : o ≠ o') : zpt (zpt S o t) o' t' = zpt (zpt S o' t') o t := by
  refine Prod.ext (funext fun a => funext fun b => ?_) rfl
  show (if o' ≤ a ∧ zvl (a - o') b then t' (a - o') b else if o ≤ a ∧ zvl (a - o) b then t (a - o) b else S.1 a b) = (if o ≤ a ∧ zvl (a - o) b then t (a - o) b else if o' ≤ a ∧ zvl (a - o') b then t' (a - o') b else S.1 a b)
  by_cases h1 : o' ≤ a ∧ zvl (a - o') b
  · have h2 : ¬ (o ≤ a ∧ zvl (a - o) b) := by
      have h7 : a - o' < 7 := by rcases h1.2 with h | h | h <;> omega
      have := zTo_far (j := b) (k := a - o') hT hT' hne h7
      rw [show o' + (a - o') = a by omega] at this
      exact this
    rw [if_pos h1, if_neg h2, if_pos h1]
  · rw [if_neg h1, if_neg h1]
theorem zHd_far (h : zHd S o τ) (hT : zTo o) (hT' : zTo o') (hne : o ≠ o') : zHd (zpt S o' t) o τ := by
  unfold zHd
  rw [zpt_comm hT' hT (Ne.symm hne), show zpt S o τ = S from h]
theorem zHd_8 (h : zHd S 1 τ) : zHd (zpt S 8 t) 1 τ := zHd_far h zT1 zT8 (by decide)
theorem zpt_HdEq (h : zHd S o' τ) : zpt S o (ztw S o') = zpt S o τ := zpt_congr (fun k i hv => zHd_at h hv)
variable {g : zG} {d n : Nat} {y : MethodName} {cy : ByteArray} {ret : Option FieldType} {as : List Value} {r : Option Value} {X : zSto}
theorem zhold1 (h : zHd S o τ) (e : zEd g d y cy n ret as (zpt S o τ) r X) : zEd g d y cy n ret as S r X := Eq.mp (congrArg (fun s => zEd g d y cy n ret as s r X) h) e
theorem zhold0 (h : zHd S o τ) (e : zEd g d y cy n ret as (zpt S o τ) r (zpt S o τ)) : zEd g d y cy n ret as S r S := Eq.mp (congrArg (fun s => zEd g d y cy n ret as S r s) h) (zhold1 h e)
theorem tc_becomeH (hT : zTo o) (hT' : zTo o') (hne : o ≠ o') (h : zHd S o' τ) : zEd g 1 yX4_become cX4_become 2 none [.ref (zad g o), .ref (zad g o')] S none (zpt S o τ) := by
  have e := tc_become (g := g) (σ := S) hT hT' hne
  rw [zpt_HdEq h] at e
  exact e
theorem tc_become8 (h : zHd S 1 τ) : zEd g 1 yX4_become cX4_become 2 none [.ref (zad g 8), .ref (zad g 1)] S none (zpt S 8 τ) := tc_becomeH zT8 zT1 (by decide) h
theorem tc_become8' (h : zHd S 1 τ) : zEd g 1 yX4_become cX4_become 2 none [.ref (zad g 8), .ref (zad g 1)] (zpt S 8 t) none (zpt S 8 τ) := by
  have e := tc_become8 (g := g) (S := zpt S 8 t) (zHd_8 h)
  rw [zpt_pt] at e
  exact e
end ZHOLD
section ZHROWS
variable {g : zG} {C : zC} {dd : Nat} {cc : ByteArray} {own : String} {pc : Nat} {lv : List (Option Value)} {st : List Value} {S : zSto} {τ : zTn} {o : Nat}
theorem zh_getI {idx j : Nat} (hT : zTo o) (h : zHd S o τ) (hd : decode cc pc = .ok (.getfield idx, 3)) (hf : zFL own idx 3 j) (hj : j < 4) (k : zAW g C dd cc own (pc + 3) lv (.int (τ 0 j) :: st) S) : zAW g C dd cc own pc lv (.ref (zad g o) :: st) S := by
  have e := zt_getI (g := g) (C := C) (dd := dd) (cc := cc) (own := own) (pc := pc) (lv := lv) (st := st) (σ := S) (τ := τ) hT hd hf hj
  rw [show zpt S o τ = S from h] at e
  exact e k
theorem zh_putI {idx j : Nat} {v : Int32} (hT : zTo o) (h : zHd S o τ) (hd : decode cc pc = .ok (.putfield idx, 3)) (hf : zFL own idx 3 j) (hp : zFP 3 j .int) (hj : j < 4) (k : zAW g C dd cc own (pc + 3) lv st (zpt S o (zup τ 0 j v))) : zAW g C dd cc own pc lv (.int v :: .ref (zad g o) :: st) S := by
  have e := zt_putI (g := g) (C := C) (dd := dd) (cc := cc) (own := own) (pc := pc) (lv := lv) (st := st) (σ := S) (τ := τ) (v := v) hT hd hf hp hj k
  rw [show zpt S o τ = S from h] at e
  exact e
theorem zh_iald {a i : Nat} (hT : zTo o) (h : zHd S o τ) (h1 : 1 ≤ a) (hd : decode cc pc = .ok (.iaload, 1)) (hv : zvl a i) (k : zAW g C dd cc own (pc + 1) lv (.int (τ a i) :: st) S) : zAW g C dd cc own pc lv (.int (nI i) :: .ref (zad g (o + a)) :: st) S := by
  have e := zt_iald (g := g) (C := C) (dd := dd) (cc := cc) (own := own) (pc := pc) (lv := lv) (st := st) (σ := S) (τ := τ) hT h1 hd hv
  rw [show zpt S o τ = S from h] at e
  exact e k
theorem zh_iast {a i : Nat} {v : Int32} (hT : zTo o) (h : zHd S o τ) (h1 : 1 ≤ a) (hd : decode cc pc = .ok (.iastore, 1)) (hv : zvl a i) (k : zAW g C dd cc own (pc + 1) lv st (zpt S o (zup τ a i v))) : zAW g C dd cc own pc lv (.int v :: .int (nI i) :: .ref (zad g (o + a)) :: st) S := by
  have e := zt_iast (g := g) (C := C) (dd := dd) (cc := cc) (own := own) (pc := pc) (lv := lv) (st := st) (σ := S) (τ := τ) (v := v) hT h1 hd hv k
  rw [show zpt S o τ = S from h] at e
  exact e
end ZHROWS
/-! ranges -/
theorem zrng {a b k : Nat} (h1 : a ≤ k) (h2 : k ≤ b) (hb : b < 2 ^ 31) : nI a ≤ nI k ∧ nI k ≤ nI b := ⟨nI_le h1 (by omega), nI_le h2 hb⟩
theorem zrng_inv {a b : Nat} {x : Int32} (h : nI a ≤ x ∧ x ≤ nI b) (hb : b < 2 ^ 31) (hab : a ≤ b) : ∃ k, a ≤ k ∧ k ≤ b ∧ x = nI k := by
  have e1 : (nI a).toInt = (a : Int) := nI_toInt (by omega)
  have e2 : (nI b).toInt = (b : Int) := nI_toInt hb
  have h1 := Int32.le_iff_toInt_le.mp h.1
  have h2 := Int32.le_iff_toInt_le.mp h.2
  rw [e1] at h1
  rw [e2] at h2
  refine ⟨x.toInt.toNat, by omega, by omega, ?_⟩
  apply Int32.toInt_inj.mp
  rw [nI_toInt (by omega)]
  omega
theorem zper {x : Int32} {n p : Nat} (hn : x = nI n) (h9 : n < 9) (hp : p < n) : nI 0 ≤ nI p ∧ nI p ≤ x - nI 1 := by
  subst hn
  rw [pk_sub (by omega)]
  exact zrng (Nat.zero_le _) (by omega) (by omega)
theorem zper_inv {x v : Int32} {n : Nat} (hn : x = nI n) (h9 : n < 9) (h : nI 0 ≤ v ∧ v ≤ x - nI 1) : ∃ p, p < n ∧ v = nI p := by
  subst hn
  cases n with
  | zero =>
    have h1 := Int32.le_iff_toInt_le.mp h.1
    have h2 := Int32.le_iff_toInt_le.mp h.2
    have e1 : (nI 0).toInt = 0 := by decide
    have e2 : (nI 0 - nI 1).toInt = -1 := by decide
    rw [e1] at h1
    rw [e2] at h2
    omega
  | succ n =>
    rw [pk_sub (by omega)] at h
    obtain ⟨k, -, hk, e⟩ := zrng_inv h (by omega) (Nat.zero_le _)
    exact ⟨k, by omega, e⟩
theorem m_in2 {g : zG} {σ : zSto} {a b : Nat} (x : Int32) (ha : a < 2 ^ 31) (hb : b < 2 ^ 31) : zEd g 0 yX6_in cX6_in 6 (some .boolean) [.long x.toInt64, .long (lN a), .long (lN b)] σ (some (.int (zb (nI a ≤ x ∧ x ≤ nI b)))) σ := by
  have e := m_in (g := g) (σ := σ) x.toInt64 (lN a) (lN b)
  rw [zb_congr (zlong_in ha hb)] at e
  exact e
/-- a finding of the kind k is counted in the row a -/
def zfin (S : zSto) (a k : Nat) : zSto := zsi S a k (S.1 a k + nI 1)
