/-! BOTH SIDES HOLD THE SAME -/
def rl_t (S : zSto) (τ : zTn) : Prop := (∀ k j, zvl k j → S.1 (1 + k) j = τ k j) ∧ (∀ i, i < 48 → S.1 35 i = zix τ i) ∧ zTI 100000 τ
def rl_k (S : zSto) : Prop := (S.1 0 3 = nI 0 ∧ S.1 34 5 = nI 0) ∨ (S.1 0 3 = nI 1 ∧ S.1 34 5 = nI 1 ∧ ∃ κ : zTn, (∀ k j, zvl k j → S.1 (15 + k) j = κ k j) ∧ (∀ i, i < 48 → S.1 36 i = zix κ i) ∧ zTI 100000 κ)
def rl_p (S : zSto) : Prop := ∃ B L, zTp S B L ∧ mT S B L
def rl_s (S : zSto) : Prop := ∀ s, s < 4 → S.1 31 s = S.1 41 s ∧ S.1 32 s = S.1 42 s ∧ (∃ a, a ≤ 40 ∧ S.1 32 s = nI a) ∧ ∀ i, i < 40 → S.2 (27 + s) i = S.2 43 (40 * s + i)
def rl_f (S : zSto) : Prop := ∀ k, k < 7 → S.1 33 k = S.1 39 k
def zRel (S : zSto) : Prop := (∃ τ, rl_t S τ) ∧ rl_k S ∧ rl_p S ∧ rl_s S ∧ rl_f S
section REL
variable {S S' : zSto} {τ τ' : zTn}
theorem zvl_7 {k j : Nat} (h : zvl k j) : k ≤ 6 := by rcases h with h | h | h <;> omega
theorem rl_t_c (h : rl_t S τ) (hc : ∀ x i, (1 ≤ x ∧ x ≤ 7) ∨ x = 35 → S'.1 x i = S.1 x i) : rl_t S' τ := ⟨fun k j hv => (hc _ _ (Or.inl ⟨by omega, by have := zvl_7 hv; omega⟩)).trans (h.1 k j hv), fun i hi => (hc _ _ (Or.inr rfl)).trans (h.2.1 i hi), h.2.2⟩
theorem rl_k_c (h : rl_k S) (hc : ∀ x i, (x = 0 ∧ i = 3) ∨ (x = 34 ∧ i = 5) ∨ (15 ≤ x ∧ x ≤ 21) ∨ x = 36 → S'.1 x i = S.1 x i) : rl_k S' := by
  rcases h with ⟨a, b⟩ | ⟨a, b, κ, d, e, f⟩
  · exact Or.inl ⟨(hc _ _ (by omega)).trans a, (hc _ _ (by omega)).trans b⟩
  · exact Or.inr ⟨(hc _ _ (by omega)).trans a, (hc _ _ (by omega)).trans b, κ, fun k j hv => (hc _ _ (by have := zvl_7 hv; omega)).trans (d k j hv), fun i hi => (hc _ _ (by omega)).trans (e i hi), f⟩
theorem rl_p_c (h : rl_p S) (hc : ∀ x i, (x = 22 ∧ i = 1) ∨ x = 23 ∨ (x = 34 ∧ i = 7) ∨ x = 40 → S'.1 x i = S.1 x i) : rl_p S' := by
  obtain ⟨B, L, a, b⟩ := h
  exact ⟨B, L, ⟨(hc _ _ (by omega)).trans a.1, a.2.1, fun i hi => ⟨(a.2.2 i hi).1, (hc _ _ (by omega)).trans (a.2.2 i hi).2⟩⟩, ⟨(hc _ _ (by omega)).trans b.1, b.2.1, fun i hi => ⟨(b.2.2 i hi).1, (hc _ _ (by omega)).trans (b.2.2 i hi).2⟩⟩⟩
theorem rl_s_c (h : rl_s S) (hc : ∀ x i, x = 31 ∨ x = 32 ∨ x = 41 ∨ x = 42 → S'.1 x i = S.1 x i) (hd : ∀ x, (27 ≤ x ∧ x ≤ 30) ∨ x = 43 → S'.2 x = S.2 x) : rl_s S' := by
  intro s hs
  obtain ⟨a, b, ⟨n, c1, c2⟩, d⟩ := h s hs
  refine ⟨?_, ?_, ⟨n, c1, ?_⟩, fun i hi => ?_⟩
  · rw [hc _ _ (by omega), hc _ _ (by omega)]; exact a
  · rw [hc _ _ (by omega), hc _ _ (by omega)]; exact b
  · rw [hc _ _ (by omega)]; exact c2
  · rw [hd _ (by omega), hd _ (by omega)]; exact d i hi
theorem rl_f_c (h : rl_f S) (hc : ∀ x i, x = 33 ∨ x = 39 → S'.1 x i = S.1 x i) : rl_f S' := fun k hk => by
  rw [hc _ _ (by omega), hc _ _ (by omega)]; exact h k hk
theorem rl_tJ (h : rl_t S τ) (hJ : zJ S S') : rl_t S' τ := rl_t_c h (fun x i hx => hJ.1 x i (by omega))
theorem zRel_J (h : zRel S) (hJ : zJ S S') : zRel S' := by
  obtain ⟨⟨τ, t⟩, k, p, s, f⟩ := h
  exact ⟨⟨τ, rl_tJ t hJ⟩, rl_k_c k (fun x i hx => hJ.1 x i (by omega)), rl_p_c p (fun x i hx => hJ.1 x i (by omega)), rl_s_c s (fun x i hx => hJ.1 x i (by omega)) (fun x hx => hJ.2 x (by omega)), rl_f_c f (fun x i hx => hJ.1 x i (by omega))⟩
theorem rl_h (h : rl_t S τ) : zHd S 1 τ := by
  unfold zHd
  refine Prod.ext (funext fun a => funext fun b => ?_) rfl
  show (if 1 ≤ a ∧ zvl (a - 1) b then τ (a - 1) b else S.1 a b) = S.1 a b
  by_cases h1 : 1 ≤ a ∧ zvl (a - 1) b
  · rw [if_pos h1, ← h.1 _ _ h1.2, show 1 + (a - 1) = a by omega]
  · rw [if_neg h1]
theorem rl_m (h : rl_t S τ) : zpm S τ = S := by
  refine Prod.ext (funext fun a => funext fun b => ?_) rfl
  show (if a = 35 ∧ b < 48 then zix τ b else S.1 a b) = S.1 a b
  by_cases h1 : a = 35 ∧ b < 48
  · rw [if_pos h1, h1.1, h.2.1 b h1.2]
  · rw [if_neg h1]
theorem zsi_ne {o i x j : Nat} {v : Int32} (h : ¬ (x = o ∧ j = i)) : (zsi S o i v).1 x j = S.1 x j := if_neg h
theorem zpt_1_ne {x i : Nat} (h : ¬ (1 ≤ x ∧ x ≤ 7)) : (zpt S 1 τ).1 x i = S.1 x i := if_neg (fun z => h ⟨z.1, by have := zvl_7 z.2; omega⟩)
theorem zpm_ne {x i : Nat} (h : x ≠ 35) : (zpm S τ).1 x i = S.1 x i := if_neg (fun z => h z.1)
/-- both sides count the finding k -/
theorem zRel_fin {k : Nat} (h : zRel S) : zRel (zfin (zfin S 33 k) 39 k) := by
  obtain ⟨⟨τ, t⟩, kk, p, s, f⟩ := h
  have e : ∀ x i, x ≠ 33 → x ≠ 39 → (zfin (zfin S 33 k) 39 k).1 x i = S.1 x i := fun x i h1 h2 => (zsi_ne (fun z => h2 z.1)).trans (zsi_ne (fun z => h1 z.1))
  refine ⟨⟨τ, rl_t_c t (fun x i hx => e x i (by omega) (by omega))⟩, rl_k_c kk (fun x i hx => e x i (by omega) (by omega)), rl_p_c p (fun x i hx => e x i (by omega) (by omega)), rl_s_c s (fun x i hx => e x i (by omega) (by omega)) (fun _ _ => rfl), fun j hj => ?_⟩
  show (zsi (zfin S 33 k) 39 k _).1 33 j = (if 39 = 39 ∧ j = k then (zfin S 33 k).1 39 k + nI 1 else (zfin S 33 k).1 39 j)
  rw [zsi_ne (by omega)]
  show (if 33 = 33 ∧ j = k then S.1 33 k + nI 1 else S.1 33 j) = _
  have e39 : ∀ i, (zfin S 33 k).1 39 i = S.1 39 i := fun i => zsi_ne (by omega)
  by_cases hk : j = k
  · subst hk
    rw [if_pos ⟨rfl, rfl⟩, if_pos ⟨rfl, rfl⟩, e39, f j hj]
  · rw [if_neg (fun z => hk z.2), if_neg (fun z => hk z.2), e39, f j hj]
theorem rl_t_fin {k : Nat} (h : rl_t S τ) : rl_t (zfin S 33 k) τ := rl_t_c h (fun x i hx => zsi_ne (by omega))
/-- both sides come to hold another town -/
theorem rl_t_new (hI : zTI 100000 τ') : rl_t (zpm (zpt S 1 τ') τ') τ' := ⟨fun k j hv => by rw [zpm_ne (by have := zvl_7 hv; omega)]; exact zpt_at hv, fun i hi => zps_at hi, hI⟩
theorem zRel_town (h : zRel S) (hI : zTI 100000 τ') : zRel (zpm (zpt S 1 τ') τ') := by
  obtain ⟨⟨τ, t⟩, kk, p, s, f⟩ := h
  have e : ∀ x i, ¬ (1 ≤ x ∧ x ≤ 7) → x ≠ 35 → (zpm (zpt S 1 τ') τ').1 x i = S.1 x i := fun x i h1 h2 => (zpm_ne h2).trans (zpt_1_ne h1)
  exact ⟨⟨τ', rl_t_new hI⟩, rl_k_c kk (fun x i hx => e x i (by omega) (by omega)), rl_p_c p (fun x i hx => e x i (by omega) (by omega)), rl_s_c s (fun x i hx => e x i (by omega) (by omega)) (fun _ _ => rfl), rl_f_c f (fun x i hx => e x i (by omega) (by omega))⟩
end REL
/-! one call on both sides -/
def zLw {α : Type} (mk : α → Value) (g : zG) (y : MethodName) (cy : ByteArray) (n : Nat) (y' : MethodName) (cy' : ByteArray) (n' : Nat) (ret : Option FieldType) (as : List Value) (S : zSto) : Prop :=
  ∃ (r : α) (E : Option Value → zSto → Prop), zEv g 8 y cy n ret (.ref (zad g 0) :: as) S E ∧ ∀ r1 s1, E r1 s1 → r1 = some (mk r) ∧ ∃ E' : Option Value → zSto → Prop, zEv g 8 y' cy' n' ret (.ref (zad g 34) :: as) s1 E' ∧ ∀ r2 s2, E' r2 s2 → r2 = some (mk r) ∧ zRel s2
section LW
variable {α : Type} {mk : α → Value} {g : zG} {y y' : MethodName} {cy cy' : ByteArray} {n n' : Nat} {ret : Option FieldType} {as : List Value} {S : zSto} {τ τ' : zTn} {r : α} {k : Nat}
theorem lw_gen {S1 S2 : zSto} (c : zEd g 8 y cy n ret (.ref (zad g 0) :: as) S (some (mk r)) S1) (m : zEd g 8 y' cy' n' ret (.ref (zad g 34) :: as) S1 (some (mk r)) S2) (h : zRel S2) : zLw mk g y cy n y' cy' n' ret as S :=
  ⟨r, _, c, fun r1 s1 e => ⟨e.1, by obtain ⟨-, rfl⟩ := e; exact ⟨_, m, fun r2 s2 e2 => ⟨e2.1, by obtain ⟨-, rfl⟩ := e2; exact h⟩⟩⟩⟩
theorem lw_fin (ht : rl_t S τ) (h : zRel S) (c : zEd g 8 y cy n ret (.ref (zad g 0) :: as) S (some (mk r)) (zfin S 33 k)) (m : ∀ σ, zEd g 8 y' cy' n' ret (.ref (zad g 34) :: as) (zpm σ τ) (some (mk r)) (zfin (zpm σ τ) 39 k)) : zLw mk g y cy n y' cy' n' ret as S := by
  have m1 := m (zfin S 33 k)
  rw [rl_m (rl_t_fin ht)] at m1
  exact lw_gen c m1 (zRel_fin h)
theorem lw_same (ht : rl_t S τ) (h : zRel S) (c : zEd g 8 y cy n ret (.ref (zad g 0) :: as) S (some (mk r)) S) (m : ∀ σ, zEd g 8 y' cy' n' ret (.ref (zad g 34) :: as) (zpm σ τ) (some (mk r)) (zpm σ τ)) : zLw mk g y cy n y' cy' n' ret as S := by
  have m1 := m S
  rw [rl_m ht] at m1
  exact lw_gen c m1 h
theorem lw_town (ht : rl_t S τ) (h : zRel S) (c : zEd g 8 y cy n ret (.ref (zad g 0) :: as) S (some (mk r)) (zpt S 1 τ')) (m : ∀ σ, zEd g 8 y' cy' n' ret (.ref (zad g 34) :: as) (zpm σ τ) (some (mk r)) (zpm σ τ')) (hI : zTI 100000 τ') : zLw mk g y cy n y' cy' n' ret as S := by
  have m1 := m (zpt S 1 τ')
  rw [show zpm (zpt S 1 τ') τ = zpt S 1 τ' by
    refine Prod.ext (funext fun a => funext fun b => ?_) rfl
    show (if a = 35 ∧ b < 48 then zix τ b else (zpt S 1 τ').1 a b) = (zpt S 1 τ').1 a b
    by_cases h1 : a = 35 ∧ b < 48
    · rw [if_pos h1, zpt_1_ne (by omega), h1.1, ht.2.1 b h1.2]
    · rw [if_neg h1]] at m1
  exact lw_gen c m1 (zRel_town h hI)
theorem lw_J (ht : rl_t S τ) (h : zRel S) (c : zEv g 8 y cy n ret (.ref (zad g 0) :: as) S (fun r' s' => r' = some (mk r) ∧ zJ S s')) (m : ∀ σ, zEv g 8 y' cy' n' ret (.ref (zad g 34) :: as) (zpm σ τ) (fun r' s' => r' = some (mk r) ∧ zJ (zpm σ τ) s')) : zLw mk g y cy n y' cy' n' ret as S :=
  ⟨r, _, c, fun r1 s1 e => ⟨e.1, by
    have m1 := m s1
    rw [rl_m (rl_tJ ht e.2)] at m1
    exact ⟨_, m1, fun r2 s2 e2 => ⟨e2.1, zRel_J h (zJ_tr e.2 e2.2)⟩⟩⟩⟩
theorem lw_Jf (ht : rl_t S τ) (h : zRel S) (c : zEv g 8 y cy n ret (.ref (zad g 0) :: as) S (fun r' s' => r' = some (mk r) ∧ ∃ T, zJ S T ∧ s' = zfin T 33 k)) (m : ∀ σ, zEv g 8 y' cy' n' ret (.ref (zad g 34) :: as) (zpm σ τ) (fun r' s' => r' = some (mk r) ∧ ∃ T, zJ (zpm σ τ) T ∧ s' = zfin T 39 k)) : zLw mk g y cy n y' cy' n' ret as S :=
  ⟨r, _, c, fun r1 s1 e => ⟨e.1, by
    obtain ⟨-, T, hT, rfl⟩ := e
    have m1 := m (zfin T 33 k)
    rw [rl_m (rl_t_fin (rl_tJ ht hT))] at m1
    refine ⟨_, m1, fun r2 s2 e2 => ⟨e2.1, ?_⟩⟩
    obtain ⟨-, T', hT', rfl⟩ := e2
    have h1 : zRel (zfin (zfin T 33 k) 39 k) := zRel_fin (zRel_J h hT)
    have e39 : T'.1 39 k = (zfin T 33 k).1 39 k := hT'.1 39 k (by omega)
    have hJ : zJ (zfin (zfin T 33 k) 39 k) (zfin T' 39 k) := by
      refine ⟨fun x i hx => ?_, fun x hx => hT'.2 x hx⟩
      show (if x = 39 ∧ i = k then T'.1 39 k + nI 1 else T'.1 x i) = (if x = 39 ∧ i = k then (zfin T 33 k).1 39 k + nI 1 else (zfin T 33 k).1 x i)
      rw [e39, hT'.1 x i hx]
    exact zRel_J h1 hJ⟩⟩
end LW
