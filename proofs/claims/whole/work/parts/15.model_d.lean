/-! THE REFERENCE'S ROW of 48 numbers: which town's number stands at place i -/
def zk (i : Nat) : Nat := if i < 4 then 0 else if i < 16 then 1 + (i - 4) % 2 else 3 + (i - 16) % 4
def zj (i : Nat) : Nat := if i < 4 then (if i = 0 then 0 else if i = 1 then 3 else if i = 2 then 1 else 2) else if i < 16 then (i - 4) / 2 else (i - 16) / 4
def zix (τ : zTn) (i : Nat) : Int32 := τ (zk i) (zj i)
theorem zkj_inj {i i' : Nat} (h : i < 48) (h' : i' < 48) (hk : zk i = zk i') (hj : zj i = zj i') : i = i' := by
  unfold zk at hk
  unfold zj at hj
  repeat' split at hk
  all_goals repeat' split at hj
  all_goals omega
theorem zkj_v {i : Nat} (h : i < 48) : zvl (zk i) (zj i) := by
  unfold zk zj
  repeat' split
  all_goals first | exact Or.inl ⟨by omega, by omega⟩ | exact Or.inr (Or.inl ⟨by omega, by omega⟩) | exact Or.inr (Or.inr ⟨by omega, by omega⟩)
theorem zkB {q s : Nat} (hq : q < 6) (hs : s < 2) : zk (4 + 2 * q + s) = 1 + s ∧ zj (4 + 2 * q + s) = q := by
  unfold zk zj
  repeat' split
  all_goals omega
theorem zkP {p w : Nat} (hp : p < 8) (hw : w < 4) : zk (16 + 4 * p + w) = 3 + w ∧ zj (16 + 4 * p + w) = p := by
  unfold zk zj
  repeat' split
  all_goals omega
theorem zkj_onto {k j : Nat} (h : zvl k j) : ∃ i, i < 48 ∧ zk i = k ∧ zj i = j := by
  rcases h with ⟨rfl, h⟩ | ⟨h1, h⟩ | ⟨h1, h⟩
  · rcases (show j = 0 ∨ j = 1 ∨ j = 2 ∨ j = 3 by omega) with rfl | rfl | rfl | rfl
    · exact ⟨0, by decide, rfl, rfl⟩
    · exact ⟨2, by decide, rfl, rfl⟩
    · exact ⟨3, by decide, rfl, rfl⟩
    · exact ⟨1, by decide, rfl, rfl⟩
  · have := zkB (q := j) (s := k - 1) h (by omega)
    exact ⟨4 + 2 * j + (k - 1), by omega, by omega, by omega⟩
  · have := zkP (p := j) (w := k - 3) h (by omega)
    exact ⟨16 + 4 * j + (k - 3), by omega, by omega, by omega⟩
theorem zix_up {τ : zTn} {i b : Nat} {v : Int32} (hi : i < 48) (hb : b < 48) : zix (zup τ (zk i) (zj i) v) b = if b = i then v else zix τ b := by
  unfold zix
  by_cases h : b = i
  · subst h; rw [zup_at, if_pos rfl]
  · rw [if_neg h, zup_ne _ _ (fun z => h (zkj_inj hb hi z.1 z.2))]
/-- the row a holds the town τ -/
def zps (σ : zSto) (a : Nat) (τ : zTn) : zSto := (fun x b => if x = a ∧ b < 48 then zix τ b else σ.1 x b, σ.2)
def zpm (σ : zSto) (τ : zTn) : zSto := zps σ 35 τ
theorem zps_at {σ : zSto} {a i : Nat} {τ : zTn} (h : i < 48) : (zps σ a τ).1 a i = zix τ i := if_pos ⟨rfl, h⟩
theorem zps_ne {σ : zSto} {a x i : Nat} {τ : zTn} (h : x ≠ a) : (zps σ a τ).1 x i = σ.1 x i := if_neg (fun z => h z.1)
theorem zps_si {σ : zSto} {a i : Nat} {τ : zTn} {v : Int32} (h : i < 48) : zsi (zps σ a τ) a i v = zps σ a (zup τ (zk i) (zj i) v) := by
  refine Prod.ext (funext fun x => funext fun b => ?_) rfl
  show (if x = a ∧ b = i then v else if x = a ∧ b < 48 then zix τ b else σ.1 x b) = (if x = a ∧ b < 48 then zix (zup τ (zk i) (zj i) v) b else σ.1 x b)
  by_cases h1 : x = a ∧ b < 48
  · rw [if_pos h1, if_pos h1, zix_up h h1.2]
    by_cases h2 : b = i
    · rw [if_pos ⟨h1.1, h2⟩, if_pos h2]
    · rw [if_neg (fun z => h2 z.2), if_neg h2]
  · rw [if_neg h1, if_neg h1, if_neg (fun z => h1 ⟨z.1, by omega⟩)]
theorem zps_ps {σ : zSto} {a : Nat} {τ τ' : zTn} : zps (zps σ a τ) a τ' = zps σ a τ' := by
  refine Prod.ext (funext fun x => funext fun b => ?_) rfl
  show (if x = a ∧ b < 48 then zix τ' b else if x = a ∧ b < 48 then zix τ b else σ.1 x b) = (if x = a ∧ b < 48 then zix τ' b else σ.1 x b)
  by_cases h : x = a ∧ b < 48
  · rw [if_pos h, if_pos h]
  · rw [if_neg h, if_neg h, if_neg h]
theorem zps_comm {σ : zSto} {a a' : Nat} {τ τ' : zTn} (h : a ≠ a') : zps (zps σ a τ) a' τ' = zps (zps σ a' τ') a τ := by
  refine Prod.ext (funext fun x => funext fun b => ?_) rfl
  show (if x = a' ∧ b < 48 then zix τ' b else if x = a ∧ b < 48 then zix τ b else σ.1 x b) = (if x = a ∧ b < 48 then zix τ b else if x = a' ∧ b < 48 then zix τ' b else σ.1 x b)
  by_cases h1 : x = a' ∧ b < 48
  · rw [if_pos h1, if_neg (fun z => h (z.1.symm.trans h1.1)), if_pos h1]
  · rw [if_neg h1]
    by_cases h2 : x = a ∧ b < 48
    · rw [if_pos h2, if_pos h2]
    · rw [if_neg h2, if_neg h2, if_neg h1]
theorem zps_congr {σ : zSto} {a : Nat} {τ τ' : zTn} (h : ∀ k i, zvl k i → τ k i = τ' k i) : zps σ a τ = zps σ a τ' := by
  refine Prod.ext (funext fun x => funext fun b => ?_) rfl
  show (if x = a ∧ b < 48 then zix τ b else σ.1 x b) = (if x = a ∧ b < 48 then zix τ' b else σ.1 x b)
  by_cases h1 : x = a ∧ b < 48
  · rw [if_pos h1, if_pos h1]; exact h _ _ (zkj_v h1.2)
  · rw [if_neg h1, if_neg h1]
/-- the first j numbers of the row a come to the row b -/
def zcp (σ : zSto) (a b j : Nat) : zSto := (fun x i => if x = b ∧ i < j then σ.1 a i else σ.1 x i, σ.2)
theorem zcp_0 {σ : zSto} {a b : Nat} : zcp σ a b 0 = σ := by
  refine Prod.ext (funext fun x => funext fun i => ?_) rfl
  exact if_neg (fun z => by omega)
theorem zcp_src {σ : zSto} {a b j i : Nat} (h : a ≠ b) : (zcp σ a b j).1 a i = σ.1 a i := if_neg (fun z => h z.1)
theorem zcp_next {σ : zSto} {a b j : Nat} : zsi (zcp σ a b j) b j (σ.1 a j) = zcp σ a b (j + 1) := by
  refine Prod.ext (funext fun x => funext fun i => ?_) rfl
  show (if x = b ∧ i = j then σ.1 a j else if x = b ∧ i < j then σ.1 a i else σ.1 x i) = (if x = b ∧ i < j + 1 then σ.1 a i else σ.1 x i)
  by_cases h : x = b ∧ i = j
  · rw [if_pos h, if_pos ⟨h.1, by omega⟩, h.2]
  · rw [if_neg h]
    by_cases h2 : x = b ∧ i < j
    · rw [if_pos h2, if_pos ⟨h2.1, by omega⟩]
    · rw [if_neg h2, if_neg (fun z => by rcases Nat.lt_succ_iff_lt_or_eq.mp z.2 with q | q; exact h2 ⟨z.1, q⟩; exact h ⟨z.1, q⟩)]
theorem zcp_ps {σ : zSto} {a b : Nat} {τ : zTn} (h : a ≠ b) : zcp (zps σ a τ) a b 48 = zps (zps σ b τ) a τ := by
  refine Prod.ext (funext fun x => funext fun i => ?_) rfl
  show (if x = b ∧ i < 48 then (zps σ a τ).1 a i else (if x = a ∧ i < 48 then zix τ i else σ.1 x i)) = (if x = a ∧ i < 48 then zix τ i else if x = b ∧ i < 48 then zix τ i else σ.1 x i)
  by_cases h1 : x = b ∧ i < 48
  · rw [if_pos h1, zps_at h1.2, if_neg (fun z => h (z.1.symm.trans h1.1)), if_pos h1]
  · rw [if_neg h1, if_neg h1]
section ZMROWS
variable {g : zG} {C : zC} {dd : Nat} {cc : ByteArray} {own : String} {pc : Nat} {lv : List (Option Value)} {st : List Value} {σ : zSto} {τ : zTn}
theorem zm_aldG {i : Nat} (hd : decode cc pc = .ok (.iaload, 1)) (hi : i < 48) (k : zAW g C dd cc own (pc + 1) lv (.int (zix τ i) :: st) (zpm σ τ)) : zAW g C dd cc own pc lv (.int (nI i) :: .ref (zad g 35) :: st) (zpm σ τ) := by
  refine za_iald hd (n := 48) rfl hi ?_
  unfold zpm
  rw [zps_at hi]
  exact k
theorem zm_astG {i : Nat} {v : Int32} (hd : decode cc pc = .ok (.iastore, 1)) (hi : i < 48) (k : zAW g C dd cc own (pc + 1) lv st (zpm σ (zup τ (zk i) (zj i) v))) : zAW g C dd cc own pc lv (.int v :: .int (nI i) :: .ref (zad g 35) :: st) (zpm σ τ) := by
  refine za_iast hd (n := 48) rfl hi ?_
  unfold zpm
  rw [zps_si hi]
  exact k
theorem zm_ald0 (hd : decode cc pc = .ok (.iaload, 1)) (k : zAW g C dd cc own (pc + 1) lv (.int (τ 0 0) :: st) (zpm σ τ)) : zAW g C dd cc own pc lv (.int (nI 0) :: .ref (zad g 35) :: st) (zpm σ τ) := zm_aldG hd (by decide) k
theorem zm_ald1 (hd : decode cc pc = .ok (.iaload, 1)) (k : zAW g C dd cc own (pc + 1) lv (.int (τ 0 3) :: st) (zpm σ τ)) : zAW g C dd cc own pc lv (.int (nI 1) :: .ref (zad g 35) :: st) (zpm σ τ) := zm_aldG hd (by decide) k
theorem zm_ald2 (hd : decode cc pc = .ok (.iaload, 1)) (k : zAW g C dd cc own (pc + 1) lv (.int (τ 0 1) :: st) (zpm σ τ)) : zAW g C dd cc own pc lv (.int (nI 2) :: .ref (zad g 35) :: st) (zpm σ τ) := zm_aldG hd (by decide) k
theorem zm_ald3 (hd : decode cc pc = .ok (.iaload, 1)) (k : zAW g C dd cc own (pc + 1) lv (.int (τ 0 2) :: st) (zpm σ τ)) : zAW g C dd cc own pc lv (.int (nI 3) :: .ref (zad g 35) :: st) (zpm σ τ) := zm_aldG hd (by decide) k
theorem zm_ast0 {v : Int32} (hd : decode cc pc = .ok (.iastore, 1)) (k : zAW g C dd cc own (pc + 1) lv st (zpm σ (zup τ 0 0 v))) : zAW g C dd cc own pc lv (.int v :: .int (nI 0) :: .ref (zad g 35) :: st) (zpm σ τ) := zm_astG hd (by decide) k
theorem zm_ast1 {v : Int32} (hd : decode cc pc = .ok (.iastore, 1)) (k : zAW g C dd cc own (pc + 1) lv st (zpm σ (zup τ 0 3 v))) : zAW g C dd cc own pc lv (.int v :: .int (nI 1) :: .ref (zad g 35) :: st) (zpm σ τ) := zm_astG hd (by decide) k
theorem zm_ast2 {v : Int32} (hd : decode cc pc = .ok (.iastore, 1)) (k : zAW g C dd cc own (pc + 1) lv st (zpm σ (zup τ 0 1 v))) : zAW g C dd cc own pc lv (.int v :: .int (nI 2) :: .ref (zad g 35) :: st) (zpm σ τ) := zm_astG hd (by decide) k
theorem zm_ast3 {v : Int32} (hd : decode cc pc = .ok (.iastore, 1)) (k : zAW g C dd cc own (pc + 1) lv st (zpm σ (zup τ 0 2 v))) : zAW g C dd cc own pc lv (.int v :: .int (nI 3) :: .ref (zad g 35) :: st) (zpm σ τ) := zm_astG hd (by decide) k
theorem zixB {q s : Nat} (hq : q < 6) (hs : s < 2) : zix τ (4 + 2 * q + s) = τ (1 + s) q := by
  unfold zix
  rw [(zkB hq hs).1, (zkB hq hs).2]
theorem zixP {p w : Nat} (hp : p < 8) (hw : w < 4) : zix τ (16 + 4 * p + w) = τ (3 + w) p := by
  unfold zix
  rw [(zkP hp hw).1, (zkP hp hw).2]
theorem zm_aldB {q s : Nat} (hd : decode cc pc = .ok (.iaload, 1)) (hq : q < 6) (hs : s < 2) (k : zAW g C dd cc own (pc + 1) lv (.int (τ (1 + s) q) :: st) (zpm σ τ)) : zAW g C dd cc own pc lv (.int (nI (4 + 2 * q + s)) :: .ref (zad g 35) :: st) (zpm σ τ) := by
  refine zm_aldG hd (by omega) ?_
  rw [zixB hq hs]
  exact k
theorem zm_astB {q s : Nat} {v : Int32} (hd : decode cc pc = .ok (.iastore, 1)) (hq : q < 6) (hs : s < 2) (k : zAW g C dd cc own (pc + 1) lv st (zpm σ (zup τ (1 + s) q v))) : zAW g C dd cc own pc lv (.int v :: .int (nI (4 + 2 * q + s)) :: .ref (zad g 35) :: st) (zpm σ τ) := by
  refine zm_astG hd (by omega) ?_
  rw [(zkB hq hs).1, (zkB hq hs).2]
  exact k
theorem zm_aldP {p w : Nat} (hd : decode cc pc = .ok (.iaload, 1)) (hp : p < 8) (hw : w < 4) (k : zAW g C dd cc own (pc + 1) lv (.int (τ (3 + w) p) :: st) (zpm σ τ)) : zAW g C dd cc own pc lv (.int (nI (16 + 4 * p + w)) :: .ref (zad g 35) :: st) (zpm σ τ) := by
  refine zm_aldG hd (by omega) ?_
  rw [zixP hp hw]
  exact k
theorem zm_astP {p w : Nat} {v : Int32} (hd : decode cc pc = .ok (.iastore, 1)) (hp : p < 8) (hw : w < 4) (k : zAW g C dd cc own (pc + 1) lv st (zpm σ (zup τ (3 + w) p v))) : zAW g C dd cc own pc lv (.int v :: .int (nI (16 + 4 * p + w)) :: .ref (zad g 35) :: st) (zpm σ τ) := by
  refine zm_astG hd (by omega) ?_
  rw [(zkP hp hw).1, (zkP hp hw).2]
  exact k
end ZMROWS
/-! numbers -/
theorem zb_congr {c c' : Prop} [Decidable c] [Decidable c'] (h : c ↔ c') : zb c = zb c' := by
  unfold zb
  by_cases hc : c
  · rw [if_pos hc, if_pos (h.mp hc)]
  · rw [if_neg hc, if_neg (fun z => hc (h.mpr z))]
theorem zlong_le {x y : Int32} : x.toInt64 ≤ y.toInt64 ↔ x ≤ y := by
  rw [Int64.le_iff_toInt_le, Int32.le_iff_toInt_le, Int32.toInt_toInt64, Int32.toInt_toInt64]
theorem zlong_n {a : Nat} (h : a < 2 ^ 31) : (nI a).toInt64 = lN a := nI_l h
theorem zlong_in {a b : Nat} {v : Int32} (ha : a < 2 ^ 31) (hb : b < 2 ^ 31) : (lN a ≤ v.toInt64 ∧ v.toInt64 ≤ lN b) ↔ (nI a ≤ v ∧ v ≤ nI b) := by
  rw [← zlong_n ha, ← zlong_n hb, zlong_le, zlong_le]
theorem zand1 (x : Int32) : x &&& nI 1 = nI 0 ∨ x &&& nI 1 = nI 1 := by
  obtain ⟨j, hj, e⟩ := pk_andE x (m := nI 1) 1 (by decide)
  rcases (show j = 0 ∨ j = 1 by omega) with rfl | rfl
  · exact Or.inl e
  · exact Or.inr e
theorem zown_eq {τ : zTn} {p q : Nat} : nI 1 - ((τ 4 p >>> (nI q &&& 31)) &&& nI 1) = nI (p_own τ p q) := by
  unfold p_own
  rcases zand1 (τ 4 p >>> (nI q &&& 31)) with h | h
  · rw [h, if_neg (by decide)]; rfl
  · rw [h, if_pos rfl]; rfl
theorem p_full_max {τ : zTn} {q : Nat} : τ (1 + p_full τ q) q = zmax (τ 1 q) (τ 2 q) := by
  unfold p_full zmax
  by_cases h : τ 1 q < τ 2 q
  · rw [if_pos h, if_pos h]
  · rw [if_neg h, if_neg h]
theorem p_thr_b {x c : Int32} (h : zlt c 10000) (hx : x = nI 2 ∨ x = nI 5) : p_thr x c = nI 0 := by
  obtain ⟨k, hk, rfl⟩ := h
  have e : p_wt x (nI k) = nI 0 := by rcases hx with rfl | rfl <;> rfl
  unfold p_thr
  rw [e, zmin_n (by decide) (by omega), Nat.zero_min]
theorem p_bit_mo : ∀ h : Fin 64, ∀ q : Fin 6, (nI h.val &&& (p_bit q.val ^^^ (-1))) ||| p_bit q.val = nI h.val ||| p_bit q.val := by decide +kernel
theorem p_ad_eq {τ : zTn} {n : Nat} {k : Int32} (h : zn (τ 0 3) = n) : zup (zup (zup (zup (zup τ 0 3 (τ 0 3 + nI 1)) 3 n k) 4 n (nI 0)) 5 n (nI 20)) 6 n (nI 0) = p_ad τ k := by
  unfold p_ad
  rw [h, zup_comm (k := 0) _ _ _ (fun z => by omega), zup_comm (k := 0) _ _ _ (fun z => by omega), zup_comm (k := 0) _ _ _ (fun z => by omega), zup_comm (k := 0) _ _ _ (fun z => by omega)]
/-- the finding k -/
def zfd (k : Nat) : Int32 := (-1000000001) - nI k
