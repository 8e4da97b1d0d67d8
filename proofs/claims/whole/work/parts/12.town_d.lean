/-! A TOWN: numbers by row and place: 0 day, holds, bribed, people; 1 left; 2 right; 3 kinds; 4 leans; 5 pence; 6 away -/
abbrev zvl (k j : Nat) : Prop := (k = 0 ∧ j < 4) ∨ ((k = 1 ∨ k = 2) ∧ j < 6) ∨ ((3 ≤ k ∧ k < 7) ∧ j < 8)
abbrev zTn : Type := Nat → Nat → Int32
def zup (τ : zTn) (k i : Nat) (v : Int32) : zTn := fun a b => if a = k ∧ b = i then v else τ a b
def zpt (σ : zSto) (o : Nat) (τ : zTn) : zSto := (fun a b => if o ≤ a ∧ zvl (a - o) b then τ (a - o) b else σ.1 a b, σ.2)
def ztw (σ : zSto) (o : Nat) : zTn := fun k j => σ.1 (o + k) j
def zTo (o : Nat) : Prop := o = 1 ∨ o = 8 ∨ o = 15
theorem zup_at (τ : zTn) (k i : Nat) (v : Int32) : zup τ k i v k i = v := by simp [zup]
theorem zup_ne (τ : zTn) {k i a b : Nat} (v : Int32) (h : ¬ (a = k ∧ b = i)) : zup τ k i v a b = τ a b := if_neg h
theorem zup_self (τ : zTn) (k i : Nat) : zup τ k i (τ k i) = τ := by
  funext a b
  by_cases h : a = k ∧ b = i
  · obtain ⟨rfl, rfl⟩ := h; exact zup_at _ _ _ _
  · exact zup_ne _ _ h
theorem zup_comm (τ : zTn) {k i k' i' : Nat} (v v' : Int32) (h : ¬ (k = k' ∧ i = i')) : zup (zup τ k i v) k' i' v' = zup (zup τ k' i' v') k i v := by
  funext a b
  by_cases h1 : a = k' ∧ b = i'
  · obtain ⟨rfl, rfl⟩ := h1
    rw [zup_at, zup_ne _ _ (fun q => h ⟨q.1.symm, q.2.symm⟩), zup_at]
  · rw [zup_ne _ _ h1]
    by_cases h2 : a = k ∧ b = i
    · obtain ⟨rfl, rfl⟩ := h2
      rw [zup_at, zup_at]
    · rw [zup_ne _ _ h2, zup_ne _ _ h2, zup_ne _ _ h1]
theorem zpt_at {σ : zSto} {o : Nat} {τ : zTn} {k i : Nat} (hv : zvl k i) : (zpt σ o τ).1 (o + k) i = τ k i := by
  show (if o ≤ o + k ∧ zvl (o + k - o) i then τ (o + k - o) i else _) = _
  rw [Nat.add_sub_cancel_left, if_pos ⟨Nat.le_add_right _ _, hv⟩]
theorem zpt_at0 {σ : zSto} {o : Nat} {τ : zTn} {i : Nat} (hv : i < 4) : (zpt σ o τ).1 o i = τ 0 i := zpt_at (k := 0) (Or.inl ⟨rfl, hv⟩)
theorem zpt_si {σ : zSto} {o : Nat} {τ : zTn} {k i : Nat} {v : Int32} (hv : zvl k i) : zsi (zpt σ o τ) (o + k) i v = zpt σ o (zup τ k i v) := by
  refine Prod.ext (funext fun a => funext fun b => ?_) rfl
  show (if a = o + k ∧ b = i then v else if o ≤ a ∧ zvl (a - o) b then τ (a - o) b else σ.1 a b) = (if o ≤ a ∧ zvl (a - o) b then (if a - o = k ∧ b = i then v else τ (a - o) b) else σ.1 a b)
  by_cases h : a = o + k ∧ b = i
  · obtain ⟨rfl, rfl⟩ := h
    rw [if_pos ⟨rfl, rfl⟩, Nat.add_sub_cancel_left, if_pos ⟨Nat.le_add_right _ _, hv⟩, if_pos ⟨rfl, rfl⟩]
  · rw [if_neg h]
    by_cases h2 : o ≤ a ∧ zvl (a - o) b
    · rw [if_pos h2, if_pos h2, if_neg (fun q => h ⟨by omega, q.2⟩)]
    · rw [if_neg h2, if_neg h2]
theorem zpt_pt {σ : zSto} {o : Nat} {τ τ' : zTn} : zpt (zpt σ o τ) o τ' = zpt σ o τ' := by
  refine Prod.ext (funext fun a => funext fun b => ?_) rfl
  show (if o ≤ a ∧ zvl (a - o) b then τ' (a - o) b else if o ≤ a ∧ zvl (a - o) b then τ (a - o) b else σ.1 a b) = (if o ≤ a ∧ zvl (a - o) b then τ' (a - o) b else σ.1 a b)
  by_cases h : o ≤ a ∧ zvl (a - o) b
  · rw [if_pos h, if_pos h]
  · rw [if_neg h, if_neg h, if_neg h]
theorem zpt_tw {σ : zSto} {o : Nat} : zpt σ o (ztw σ o) = σ := by
  refine Prod.ext (funext fun a => funext fun b => ?_) rfl
  show (if o ≤ a ∧ zvl (a - o) b then σ.1 (o + (a - o)) b else σ.1 a b) = σ.1 a b
  by_cases h : o ≤ a ∧ zvl (a - o) b
  · rw [if_pos h, show o + (a - o) = a by omega]
  · rw [if_neg h]
theorem zpt_congr {σ : zSto} {o : Nat} {τ τ' : zTn} (h : ∀ k i, zvl k i → τ k i = τ' k i) : zpt σ o τ = zpt σ o τ' := by
  refine Prod.ext (funext fun a => funext fun b => ?_) rfl
  show (if o ≤ a ∧ zvl (a - o) b then τ (a - o) b else σ.1 a b) = (if o ≤ a ∧ zvl (a - o) b then τ' (a - o) b else σ.1 a b)
  by_cases h1 : o ≤ a ∧ zvl (a - o) b
  · rw [if_pos h1, if_pos h1, h _ _ h1.2]
  · rw [if_neg h1, if_neg h1]
theorem tn0 {o : Nat} (h : zTo o) : zsh[o]? = some (.inl (3, [none, none, none, none, some (o + 1), some (o + 2), some (o + 3), some (o + 4), some (o + 5), some (o + 6)])) := by
  rcases h with rfl | rfl | rfl <;> rfl
theorem tn1 {o : Nat} (h : zTo o) : zsh[o + 1]? = some (.inr (.inl (0, 6))) := by rcases h with rfl | rfl | rfl <;> rfl
theorem tn2 {o : Nat} (h : zTo o) : zsh[o + 2]? = some (.inr (.inl (0, 6))) := by rcases h with rfl | rfl | rfl <;> rfl
theorem tn3 {o : Nat} (h : zTo o) : zsh[o + 3]? = some (.inr (.inl (0, 8))) := by rcases h with rfl | rfl | rfl <;> rfl
theorem tn4 {o : Nat} (h : zTo o) : zsh[o + 4]? = some (.inr (.inl (0, 8))) := by rcases h with rfl | rfl | rfl <;> rfl
theorem tn5 {o : Nat} (h : zTo o) : zsh[o + 5]? = some (.inr (.inl (0, 8))) := by rcases h with rfl | rfl | rfl <;> rfl
theorem tn6 {o : Nat} (h : zTo o) : zsh[o + 6]? = some (.inr (.inl (0, 8))) := by rcases h with rfl | rfl | rfl <;> rfl
theorem zv1 {q : Nat} (h : q < 6) : zvl 1 q := Or.inr (Or.inl ⟨Or.inl rfl, h⟩)
theorem zv2 {q : Nat} (h : q < 6) : zvl 2 q := Or.inr (Or.inl ⟨Or.inr rfl, h⟩)
theorem zvs {q s : Nat} (h : q < 6) (hs : s < 2) : zvl (1 + s) q := Or.inr (Or.inl ⟨by omega, h⟩)
theorem zvp {p k : Nat} (h : p < 8) (h1 : 3 ≤ k) (h2 : k < 7) : zvl k p := Or.inr (Or.inr ⟨⟨h1, h2⟩, h⟩)
theorem zv3 {p : Nat} (h : p < 8) : zvl 3 p := zvp h (by decide) (by decide)
theorem zv4 {p : Nat} (h : p < 8) : zvl 4 p := zvp h (by decide) (by decide)
theorem zv5 {p : Nat} (h : p < 8) : zvl 5 p := zvp h (by decide) (by decide)
theorem zv6 {p : Nat} (h : p < 8) : zvl 6 p := zvp h (by decide) (by decide)
section ZTROWS
variable {g : zG} {C : zC} {dd : Nat} {cc : ByteArray} {own : String} {pc : Nat} {lv : List (Option Value)} {st : List Value} {σ : zSto} {τ : zTn} {o : Nat}
theorem zt_len {k i : Nat} (hT : zTo o) (h1 : 1 ≤ k) (hv : zvl k i) : ∃ n, zsh[o + k]? = some (.inr (.inl (0, n))) ∧ i < n := by
  rcases hv with ⟨a, b⟩ | ⟨a | a, b⟩ | ⟨a, b⟩
  · omega
  · subst a; exact ⟨6, tn1 hT, b⟩
  · subst a; exact ⟨6, tn2 hT, b⟩
  · rcases (show k = 3 ∨ k = 4 ∨ k = 5 ∨ k = 6 by omega) with rfl | rfl | rfl | rfl
    · exact ⟨8, tn3 hT, b⟩
    · exact ⟨8, tn4 hT, b⟩
    · exact ⟨8, tn5 hT, b⟩
    · exact ⟨8, tn6 hT, b⟩
theorem zt_getI {idx j : Nat} (hT : zTo o) (hd : decode cc pc = .ok (.getfield idx, 3)) (hf : zFL own idx 3 j) (hj : j < 4) (k : zAW g C dd cc own (pc + 3) lv (.int (τ 0 j) :: st) (zpt σ o τ)) : zAW g C dd cc own pc lv (.ref (zad g o) :: st) (zpt σ o τ) := by
  refine za_getI hd hf (tn0 hT) (by rcases (show j = 0 ∨ j = 1 ∨ j = 2 ∨ j = 3 by omega) with rfl | rfl | rfl | rfl <;> rfl) ?_
  rw [zpt_at0 hj]
  exact k
theorem zt_putI {idx j : Nat} {v : Int32} (hT : zTo o) (hd : decode cc pc = .ok (.putfield idx, 3)) (hf : zFL own idx 3 j) (hp : zFP 3 j .int) (hj : j < 4) (k : zAW g C dd cc own (pc + 3) lv st (zpt σ o (zup τ 0 j v))) : zAW g C dd cc own pc lv (.int v :: .ref (zad g o) :: st) (zpt σ o τ) := by
  refine za_putI hd hf hp (tn0 hT) (by rcases (show j = 0 ∨ j = 1 ∨ j = 2 ∨ j = 3 by omega) with rfl | rfl | rfl | rfl <;> rfl) ?_
  have h := zpt_si (σ := σ) (o := o) (τ := τ) (k := 0) (i := j) (v := v) (Or.inl ⟨rfl, hj⟩)
  rw [Nat.add_zero] at h
  rw [h]
  exact k
theorem zt_iald {a i : Nat} (hT : zTo o) (h1 : 1 ≤ a) (hd : decode cc pc = .ok (.iaload, 1)) (hv : zvl a i) (k : zAW g C dd cc own (pc + 1) lv (.int (τ a i) :: st) (zpt σ o τ)) : zAW g C dd cc own pc lv (.int (nI i) :: .ref (zad g (o + a)) :: st) (zpt σ o τ) := by
  obtain ⟨n, hs, hi⟩ := zt_len hT h1 hv
  refine za_iald hd hs hi ?_
  rw [zpt_at hv]
  exact k
theorem zt_iast {a i : Nat} {v : Int32} (hT : zTo o) (h1 : 1 ≤ a) (hd : decode cc pc = .ok (.iastore, 1)) (hv : zvl a i) (k : zAW g C dd cc own (pc + 1) lv st (zpt σ o (zup τ a i v))) : zAW g C dd cc own pc lv (.int v :: .int (nI i) :: .ref (zad g (o + a)) :: st) (zpt σ o τ) := by
  obtain ⟨n, hs, hi⟩ := zt_len hT h1 hv
  refine za_iast hd hs hi ?_
  rw [zpt_si hv]
  exact k
end ZTROWS
/-! what a town does, as numbers -/
def zn (x : Int32) : Nat := x.toNatClampNeg
theorem zn_nI {k : Nat} (h : k < 2 ^ 31) : zn (nI k) = k := nI_clamp h
theorem zlt_zn {x : Int32} {n : Nat} (h : zlt x n) (hn : n ≤ 2 ^ 31) : x = nI (zn x) ∧ zn x < n := by
  obtain ⟨k, hk, rfl⟩ := h
  rw [zn_nI (by omega)]
  exact ⟨rfl, hk⟩
theorem zrem {x : Int32} {B n : Nat} (h : zlt x B) (hB : B ≤ 2 ^ 31) (h0 : 0 < n) (hn : n < 2 ^ 31) : x - x / nI n * nI n = nI (zn x % n) := by
  obtain ⟨k, hk, rfl⟩ := h
  rw [zn_nI (by omega)]
  exact pk_rem (by omega) h0 hn
def p_own (τ : zTn) (p q : Nat) : Nat := if (τ 4 p >>> (nI q &&& 31)) &&& nI 1 = nI 1 then 0 else 1
def p_lady (τ : zTn) (p q : Nat) : Nat := if nI 20 < τ (1 + p_own τ p q) q - τ (1 + (1 - p_own τ p q)) q then 1 - p_own τ p q else p_own τ p q
def p_side (τ : zTn) (p q : Nat) : Nat := if τ 3 p = nI 1 then p_lady τ p q else if τ 3 p = nI 2 ∨ τ 3 p = nI 5 then (if τ 2 q < τ 1 q then 1 else 0) else if τ 3 p = nI 3 then zn (τ 0 0) % 2 else if τ 3 p = nI 4 then zn (τ 0 2) else p_own τ p q
def p_full (τ : zTn) (q : Nat) : Nat := if τ 1 q < τ 2 q then 1 else 0
theorem p_own_lt {τ : zTn} {p q : Nat} : p_own τ p q < 2 := by unfold p_own; split <;> decide
theorem p_full_lt {τ : zTn} {q : Nat} : p_full τ q < 2 := by unfold p_full; split <;> decide
theorem p_lady_lt {τ : zTn} {p q : Nat} : p_lady τ p q < 2 := by
  have := p_own_lt (τ := τ) (p := p) (q := q)
  unfold p_lady; split <;> omega
theorem p_side_lt {τ : zTn} {p q : Nat} (hb : zlt (τ 0 2) 2) : p_side τ p q < 2 := by
  unfold p_side
  split
  · exact p_lady_lt
  · split
    · split <;> decide
    · split
      · omega
      · split
        · exact (zlt_zn hb (by decide)).2
        · exact p_own_lt
section PSIDE
variable {τ : zTn} {p q : Nat}
theorem p_side_0 (h : τ 3 p = nI 0) : p_side τ p q = p_own τ p q := by unfold p_side; rw [h]; rfl
theorem p_side_1 (h : τ 3 p = nI 1) : p_side τ p q = p_lady τ p q := by unfold p_side; rw [h]; rfl
theorem p_side_2 (h : τ 3 p = nI 2) : p_side τ p q = (if τ 2 q < τ 1 q then 1 else 0) := by unfold p_side; rw [h]; rfl
theorem p_side_3 (h : τ 3 p = nI 3) : p_side τ p q = zn (τ 0 0) % 2 := by unfold p_side; rw [h]; rfl
theorem p_side_4 (h : τ 3 p = nI 4) : p_side τ p q = zn (τ 0 2) := by unfold p_side; rw [h]; rfl
theorem p_side_5 (h : τ 3 p = nI 5) : p_side τ p q = (if τ 2 q < τ 1 q then 1 else 0) := by unfold p_side; rw [h]; rfl
end PSIDE
/-- the visit of one: earns; throws; dives -/
def p_v1 (τ : zTn) (p : Nat) : zTn := zup τ 5 p (zmin (τ 5 p + p_earn (τ 3 p)) (nI 9999))
def p_v2 (τ : zTn) (p q : Nat) : zTn := zup τ (1 + p_side τ p q) q (zmin (τ (1 + p_side τ p q) q + p_thr (τ 3 p) (τ 5 p)) (nI 9999))
def p_v3 (τ τ2 : zTn) (p : Nat) : zTn := zup τ2 5 p (τ2 5 p - p_thr (τ 3 p) (τ 5 p))
def p_v4 (τ : zTn) (p q : Nat) : zTn := zup τ (1 + p_full τ q) q (τ (1 + p_full τ q) q - p_div (τ 3 p) (τ 1 q) (τ 2 q))
def p_v5 (τ τ4 : zTn) (p q : Nat) : zTn := zup τ4 5 p (zmin (τ4 5 p + p_div (τ 3 p) (τ 1 q) (τ 2 q)) (nI 9999))
def p_v35 (τ : zTn) (p q : Nat) : zTn := p_v5 τ (p_v4 τ p q) p q
def p_v13 (τ : zTn) (p q : Nat) : zTn := p_v3 τ (p_v2 τ p q) p
def p_visit (τ : zTn) (p q : Nat) : zTn := p_v35 (p_v13 (p_v1 τ p) p q) p q
def p_bit (q : Nat) : Int32 := nI 1 <<< (nI q &&& 31)
def p_hold (τ : zTn) (q : Nat) : Int32 := if τ 2 q < τ 1 q then τ 0 1 ||| p_bit q else if τ 1 q < τ 2 q then τ 0 1 &&& (p_bit q ^^^ (-1)) else τ 0 1
def p_net (τ : zTn) (q : Nat) : zTn := zup (zup (zup τ 0 1 (p_hold τ q)) 1 q (τ 1 q / nI 2)) 2 q (τ 2 q / nI 2)
def p_vis (τ : zTn) (q : Nat) : Nat → zTn
  | 0 => τ
  | n + 1 => if p_vis τ q n 6 n = 0 then p_visit (p_vis τ q n) n q else p_vis τ q n
def p_q (τ : zTn) : Nat := zn (τ 0 0) % 6
def p_nd (τ : zTn) : zTn := zup τ 0 0 (τ 0 0 + nI 1)
def p_day (τ : zTn) : zTn := p_nd (p_net (p_vis τ (p_q τ) (zn (τ 0 3))) (p_q τ))
def p_days (τ : zTn) : Nat → zTn
  | 0 => τ
  | n + 1 => p_day (p_days τ n)
def p_tell (τ : zTn) (q w : Nat) : Int32 := if w = 2 then (τ 0 1 >>> (nI q &&& 31)) &&& nI 1 else τ (1 + w) q
def p_sum (f : Nat → Int32) : Nat → Int32
  | 0 => nI 0
  | n + 1 => p_sum f n + f n
def p_lf (τ : zTn) : Nat → Int32
  | 0 => nI 0
  | n + 1 => if τ 6 n = 0 ∧ p_side τ n (p_q τ) = 0 then p_lf τ n ||| p_bit n else p_lf τ n
def p_ad (τ : zTn) (k : Int32) : zTn := zup (zup (zup (zup (zup τ 3 (zn (τ 0 3)) k) 4 (zn (τ 0 3)) (nI 0)) 5 (zn (τ 0 3)) (nI 20)) 6 (zn (τ 0 3)) (nI 0)) 0 3 (τ 0 3 + nI 1)
/-- what holds of every town that is met, its day below B -/
def zTI (B : Nat) (τ : zTn) : Prop := zlt (τ 0 0) B ∧ zlt (τ 0 1) 64 ∧ zlt (τ 0 2) 2 ∧ zlt (τ 0 3) 9 ∧ (∀ q, q < 6 → zlt (τ 1 q) 10000) ∧ (∀ q, q < 6 → zlt (τ 2 q) 10000) ∧ (∀ p, p < 8 → zlt (τ 3 p) 6) ∧ (∀ p, p < 8 → zlt (τ 5 p) 10000)
