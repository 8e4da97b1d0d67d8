/-! THE TEXT: bytes B 0 .. B (L - 1); a token is told by its first place -/
def l_let (b : Nat) : Bool := decide (97 ≤ b ∧ b ≤ 122)
def l_dig (b : Nat) : Bool := decide (48 ≤ b ∧ b ≤ 57)
def l_go (P : Nat → Bool) (L : Nat) : Nat → Nat → Nat
  | 0, i => i
  | f + 1, i => if i < L ∧ P i = true then l_go P L f (i + 1) else i
def l_end (P : Nat → Bool) (L i : Nat) : Nat := l_go P L (L - i) i
section LEND
variable {P : Nat → Bool} {L i : Nat}
theorem l_end_1 (h : i < L) (hp : P i = true) : l_end P L i = l_end P L (i + 1) := by
  unfold l_end
  rw [show L - i = (L - (i + 1)) + 1 by omega]
  show (if i < L ∧ P i = true then _ else _) = _
  rw [if_pos ⟨h, hp⟩]
theorem l_end_0 (h : ¬ (i < L ∧ P i = true)) : l_end P L i = i := by
  unfold l_end
  cases L - i with
  | zero => rfl
  | succ f =>
    show (if i < L ∧ P i = true then _ else _) = _
    rw [if_neg h]
theorem l_go_ge : ∀ (f i : Nat), i ≤ l_go P L f i
  | 0, i => Nat.le_refl _
  | f + 1, i => by
    show i ≤ (if i < L ∧ P i = true then _ else _)
    split
    · exact Nat.le_trans (Nat.le_succ i) (l_go_ge f (i + 1))
    · exact Nat.le_refl _
theorem l_go_le : ∀ (f i : Nat), i ≤ L → l_go P L f i ≤ L
  | 0, i, h => h
  | f + 1, i, h => by
    show (if i < L ∧ P i = true then _ else _) ≤ L
    split
    · rename_i h1; exact l_go_le f (i + 1) h1.1
    · exact h
theorem l_go_all : ∀ (f i j : Nat), i ≤ j → j < l_go P L f i → P j = true
  | 0, i, j, h1, h2 => by simp [l_go] at h2; omega
  | f + 1, i, j, h1, h2 => by
    unfold l_go at h2
    split at h2
    · rename_i h
      by_cases e : j = i
      · subst e; exact h.2
      · exact l_go_all f (i + 1) j (by omega) h2
    · omega
theorem l_end_ge : i ≤ l_end P L i := l_go_ge _ _
theorem l_end_le (h : i ≤ L) : l_end P L i ≤ L := l_go_le _ _ h
theorem l_end_all {j : Nat} (h1 : i ≤ j) (h2 : j < l_end P L i) : P j = true := l_go_all _ _ _ h1 h2
end LEND
def l_sk (B : Nat → Nat) (L i : Nat) : Nat := l_end (fun j => decide (B j = 32)) L i
def l_te (B : Nat → Nat) (L s : Nat) : Nat := if s < L then (if l_let (B s) = true then l_end (fun j => l_let (B j)) L s else if l_dig (B s) = true then l_end (fun j => l_dig (B j)) L s else s + 1) else s
def l_K (B : Nat → Nat) (L s : Nat) : Nat := if s < L then (if l_let (B s) = true then 1 else if l_dig (B s) = true then 2 else if B s = 59 then 3 else 4) else 0
def l_nx (B : Nat → Nat) (L s : Nat) : Nat := l_sk B L (l_te B L s)
def l_cv (B : Nat → Nat) (s : Nat) : Nat → Nat
  | 0 => 0
  | k + 1 => min (10 * l_cv B s k + (B (s + k) - 48)) 10000
def l_v (B : Nat → Nat) (L s : Nat) : Nat := l_cv B s (l_te B L s - s)
def l_w (B : Nat → Nat) (L s i : Nat) : Bool := decide (l_K B L s = 1) && (decide (l_te B L s - s = zTl i) && (List.range (zTl i)).all (fun j => decide (nI (B (s + j)) = zTc i j)))
def l_num (B : Nat → Nat) (L s most : Nat) : Bool := decide (l_K B L s = 2) && decide (l_v B L s ≤ most)
section LEX
variable {B : Nat → Nat} {L s i : Nat}
theorem l_sk_ge : i ≤ l_sk B L i := l_end_ge
theorem l_sk_le (h : i ≤ L) : l_sk B L i ≤ L := l_end_le h
theorem l_te_ge : s ≤ l_te B L s := by
  unfold l_te
  split
  · split
    · exact l_end_ge
    · split
      · exact l_end_ge
      · omega
  · exact Nat.le_refl _
theorem l_te_le (h : s ≤ L) : l_te B L s ≤ L := by
  unfold l_te
  split
  · rename_i h1
    split
    · exact l_end_le h
    · split
      · exact l_end_le h
      · omega
  · exact h
theorem l_te_gt (h : s < L) : s < l_te B L s := by
  unfold l_te
  rw [if_pos h]
  split
  · rename_i h1
    rw [l_end_1 (P := fun j => l_let (B j)) h h1]; exact Nat.lt_of_lt_of_le (Nat.lt_succ_self _) l_end_ge
  · split
    · rename_i h1
      rw [l_end_1 (P := fun j => l_dig (B j)) h h1]; exact Nat.lt_of_lt_of_le (Nat.lt_succ_self _) l_end_ge
    · omega
theorem l_nx_le (h : s ≤ L) : l_nx B L s ≤ L := l_sk_le (l_te_le h)
theorem l_nx_ge : l_te B L s ≤ l_nx B L s := l_sk_ge
theorem l_cv_le : ∀ k, l_cv B s k ≤ 10000
  | 0 => Nat.zero_le _
  | k + 1 => Nat.min_le_right _ _
theorem l_te_w (h : s < L) (hl : l_let (B s) = true) : l_te B L s = l_end (fun j => l_let (B j)) L s := by
  unfold l_te; rw [if_pos h, if_pos hl]
theorem l_let_dig {b : Nat} (h : l_dig b = true) : ¬ l_let b = true := by
  have h1 := of_decide_eq_true h
  intro h2
  have h3 := of_decide_eq_true h2
  omega
theorem l_te_d (h : s < L) (hl : l_dig (B s) = true) : l_te B L s = l_end (fun j => l_dig (B j)) L s := by
  unfold l_te; rw [if_pos h, if_neg (l_let_dig hl), if_pos hl]
theorem l_te_o (h : s < L) (h1 : ¬ l_let (B s) = true) (h2 : ¬ l_dig (B s) = true) : l_te B L s = s + 1 := by
  unfold l_te; rw [if_pos h, if_neg h1, if_neg h2]
theorem l_te_e (h : ¬ s < L) : l_te B L s = s := by
  unfold l_te; rw [if_neg h]
theorem l_K_w (h : s < L) (hl : l_let (B s) = true) : l_K B L s = 1 := by unfold l_K; rw [if_pos h, if_pos hl]
theorem l_K_d (h : s < L) (hl : l_dig (B s) = true) : l_K B L s = 2 := by unfold l_K; rw [if_pos h, if_neg (l_let_dig hl), if_pos hl]
theorem l_K_s (h : s < L) (h1 : ¬ l_let (B s) = true) (h2 : ¬ l_dig (B s) = true) (h3 : B s = 59) : l_K B L s = 3 := by unfold l_K; rw [if_pos h, if_neg h1, if_neg h2, if_pos h3]
theorem l_K_o (h : s < L) (h1 : ¬ l_let (B s) = true) (h2 : ¬ l_dig (B s) = true) (h3 : ¬ B s = 59) : l_K B L s = 4 := by unfold l_K; rw [if_pos h, if_neg h1, if_neg h2, if_neg h3]
theorem l_K_e (h : ¬ s < L) : l_K B L s = 0 := by unfold l_K; rw [if_neg h]
theorem l_K_lt : l_K B L s < 5 := by
  unfold l_K
  repeat' split
  all_goals decide
theorem l_K_1 (h : l_K B L s = 1) : s < L ∧ l_let (B s) = true := by
  unfold l_K at h
  repeat' split at h
  all_goals first | exact ⟨by assumption, by assumption⟩ | omega
theorem l_K_2 (h : l_K B L s = 2) : s < L ∧ l_dig (B s) = true := by
  unfold l_K at h
  repeat' split at h
  all_goals first | exact ⟨by assumption, by assumption⟩ | omega
theorem l_K_3 (h : l_K B L s = 3) : s < L ∧ B s = 59 := by
  unfold l_K at h
  repeat' split at h
  all_goals first | exact ⟨by assumption, by assumption⟩ | omega
theorem l_K_0 (h : l_K B L s = 0) : ¬ s < L := by
  unfold l_K at h
  repeat' split at h
  all_goals first | assumption | omega
end LEX
/-! what a text comes to -/
/-- perhaps a word told and a number -/
def p_part (B : Nat → Nat) (L i k most w s : Nat) (τ : zTn) : Bool × Nat × zTn := if l_w B L s i = true then (if l_num B L (l_nx B L s) most = true then (true, l_nx B L (l_nx B L s), zup τ k w (nI (l_v B L (l_nx B L s)))) else (false, l_nx B L s, τ)) else (true, s, τ)
def p_p2 (B : Nat → Nat) (L w : Nat) (r : Bool × Nat × zTn) : Bool × Nat × zTn := if r.1 = true then p_part B L 7 5 9999 w r.2.1 r.2.2 else r
def p_pers (B : Nat → Nat) (L s : Nat) (τ : zTn) (k : Nat) : Bool × Nat × zTn := if zn (τ 0 3) = 8 then (false, s, τ) else p_p2 B L (zn (τ 0 3)) (p_part B L 6 4 63 (zn (τ 0 3)) (l_nx B L s) (p_ad τ (nI k)))
def p_lyg (B : Nat → Nat) (L s : Nat) (τ : zTn) (side : Nat) : Bool × Nat × zTn := if l_num B L (l_nx B L s) 5 = true then (if l_num B L (l_nx B L (l_nx B L s)) 9999 = true then (true, l_nx B L (l_nx B L (l_nx B L s)), zup τ (1 + side) (l_v B L (l_nx B L s)) (nI (l_v B L (l_nx B L (l_nx B L s))))) else (false, l_nx B L (l_nx B L s), τ)) else (false, l_nx B L s, τ)
def p_brb (B : Nat → Nat) (L s : Nat) (τ : zTn) : Bool × Nat × zTn := if l_w B L (l_nx B L s) 8 = true then (true, l_nx B L (l_nx B L s), zup τ 0 2 (nI 0)) else if l_w B L (l_nx B L s) 9 = true then (true, l_nx B L (l_nx B L s), zup τ 0 2 (nI 1)) else (false, l_nx B L s, τ)
def p_awy (B : Nat → Nat) (L s : Nat) (τ : zTn) : Bool × Nat × zTn := if l_K B L (l_nx B L s) = 2 ∧ l_v B L (l_nx B L s) < zn (τ 0 3) then (true, l_nx B L (l_nx B L s), zup τ 6 (l_v B L (l_nx B L s)) (nI 1)) else (false, l_nx B L s, τ)
/-- the kind whose name stands at s; 6: none's -/
def l_kd (B : Nat → Nat) (L s : Nat) : Nat := if l_w B L s 0 = true then 0 else if l_w B L s 1 = true then 1 else if l_w B L s 2 = true then 2 else if l_w B L s 3 = true then 3 else if l_w B L s 4 = true then 4 else if l_w B L s 5 = true then 5 else 6
def p_item (B : Nat → Nat) (L s : Nat) (τ : zTn) : Bool × Nat × zTn := if l_kd B L s < 6 then p_pers B L s τ (l_kd B L s) else if l_w B L s 8 = true then p_lyg B L s τ 0 else if l_w B L s 9 = true then p_lyg B L s τ 1 else if l_w B L s 10 = true then p_brb B L s τ else if l_w B L s 11 = true then p_awy B L s τ else (false, s, τ)
/-- the items from s on, i of them read by then with the one that begins there: well?, how many, where, the town -/
def p_run (B : Nat → Nat) (L : Nat) : Nat → Nat → zTn → Nat → Bool × Nat × Nat × zTn
  | 0, s, τ, i => (false, i, s, τ)
  | f + 1, s, τ, i => if (p_item B L s τ).1 = true then (if l_K B L (p_item B L s τ).2.1 = 0 then (true, i, (p_item B L s τ).2.1, (p_item B L s τ).2.2) else if l_K B L (p_item B L s τ).2.1 = 3 then p_run B L f (l_nx B L (p_item B L s τ).2.1) (p_item B L s τ).2.2 (i + 1) else (false, i, (p_item B L s τ).2.1, τ)) else (false, i, (p_item B L s τ).2.1, τ)
section PTEXT
variable {B : Nat → Nat} {L s : Nat} {τ : zTn} {Bd : Nat}
theorem l_num_v {most : Nat} (h : l_num B L s most = true) : l_K B L s = 2 ∧ l_v B L s ≤ most := by
  unfold l_num at h
  rw [Bool.and_eq_true] at h
  exact ⟨of_decide_eq_true h.1, of_decide_eq_true h.2⟩
theorem zTI_ad {n k : Nat} (h : zTI Bd τ) (hn : τ 0 3 = nI n) (h8 : n < 8) (hk : k < 6) : zTI Bd (p_ad τ (nI k)) := by
  have hz : zn (τ 0 3) = n := by rw [hn]; exact zn_nI (by omega)
  unfold p_ad
  rw [hz]
  have h3 := zTI_3 (p := n) h hk
  have h5 : zTI Bd (zup (zup τ 3 n (nI k)) 4 n (nI 0)) := zTI_4 h3
  have h6 := zTI_5 (p := n) (v := nI 20) h5 ⟨20, by decide, rfl⟩
  have h7 : zTI Bd (zup (zup (zup (zup τ 3 n (nI k)) 4 n (nI 0)) 5 n (nI 20)) 6 n (nI 0)) := zTI_6 h6
  refine ⟨h7.1, h7.2.1, h7.2.2.1, ⟨n + 1, by omega, ?_⟩, h7.2.2.2.2⟩
  rw [zup_at, hn, nI_add]
theorem zTI_part {i k most w : Nat} (h : zTI Bd τ) (hk : k = 4 ∨ (k = 5 ∧ most ≤ 9999)) : zTI Bd (p_part B L i k most w s τ).2.2 := by
  unfold p_part
  split
  · split
    · rename_i h2
      rcases hk with rfl | ⟨rfl, hm⟩
      · exact zTI_4 h
      · exact zTI_5 h ⟨_, by have := (l_num_v h2).2; omega, rfl⟩
    · exact h
  · exact h
theorem zTI_pers {k n : Nat} (h : zTI Bd τ) (hn : τ 0 3 = nI n) (h9 : n < 9) (hk : k < 6) : zTI Bd (p_pers B L s τ k).2.2 := by
  have hz : zn (τ 0 3) = n := by rw [hn]; exact zn_nI (by omega)
  unfold p_pers p_p2
  rw [hz]
  split
  · exact h
  · have h1 := zTI_ad h hn (by omega) hk
    have h2 := zTI_part (B := B) (L := L) (s := l_nx B L s) (i := 6) (k := 4) (most := 63) (w := n) h1 (Or.inl rfl)
    split
    · exact zTI_part h2 (Or.inr ⟨rfl, Nat.le_refl _⟩)
    · exact h2
theorem zTI_lyg {side : Nat} (h : zTI Bd τ) (hs : side < 2) : zTI Bd (p_lyg B L s τ side).2.2 := by
  unfold p_lyg
  split
  · split
    · rename_i h2
      exact zTI_s h hs ⟨_, by have := (l_num_v h2).2; omega, rfl⟩
    · exact h
  · exact h
theorem zTI_brb (h : zTI Bd τ) : zTI Bd (p_brb B L s τ).2.2 := by
  unfold p_brb
  split
  · exact zTI_02 h ⟨0, by decide, rfl⟩
  · split
    · exact zTI_02 h ⟨1, by decide, rfl⟩
    · exact h
theorem zTI_awy (h : zTI Bd τ) : zTI Bd (p_awy B L s τ).2.2 := by
  unfold p_awy
  split
  · exact zTI_6 h
  · exact h
theorem zTI_item (h : zTI Bd τ) : zTI Bd (p_item B L s τ).2.2 := by
  obtain ⟨n, h9, hn⟩ := h.2.2.2.1
  unfold p_item
  split
  · rename_i hk; exact zTI_pers h hn h9 hk
  · split
    · exact zTI_lyg h (by decide)
    · split
      · exact zTI_lyg h (by decide)
      · split
        · exact zTI_brb h
        · split
          · exact zTI_awy h
          · exact h
theorem zTI_run : ∀ (f s : Nat) (τ : zTn) (i : Nat), zTI Bd τ → zTI Bd (p_run B L f s τ i).2.2.2
  | 0, _, _, _, h => h
  | f + 1, s, τ, i, h => by
    unfold p_run
    split
    · split
      · exact zTI_item h
      · split
        · exact zTI_run f _ _ _ (zTI_item h)
        · exact h
    · exact h
end PTEXT
