/-! a town stays within its bounds -/
theorem zmin_n {a b : Nat} (ha : a < 2 ^ 31) (hb : b < 2 ^ 31) : zmin (nI a) (nI b) = nI (min a b) := by
  unfold zmin
  by_cases h : b < a
  · rw [if_pos (nI_lt h ha), Nat.min_eq_right (Nat.le_of_lt h)]
  · rw [if_neg (nI_nlt (Nat.not_lt.mp h) hb), Nat.min_eq_left (Nat.not_lt.mp h)]
theorem zmax_n {a b : Nat} (ha : a < 2 ^ 31) (hb : b < 2 ^ 31) : zmax (nI a) (nI b) = nI (max a b) := by
  unfold zmax
  by_cases h : a < b
  · rw [if_pos (nI_lt h hb), Nat.max_eq_right (Nat.le_of_lt h)]
  · rw [if_neg (nI_nlt (Nat.not_lt.mp h) ha), Nat.max_eq_left (Nat.not_lt.mp h)]
theorem p_earn_n {x : Int32} (h : zlt x 6) : ∃ e, e ≤ 4 ∧ p_earn x = nI e := by
  obtain rfl | rfl | rfl | rfl | rfl | rfl := zlt6' h
  · exact ⟨2, by decide, rfl⟩
  · exact ⟨3, by decide, rfl⟩
  · exact ⟨0, by decide, rfl⟩
  · exact ⟨4, by decide, rfl⟩
  · exact ⟨0, by decide, rfl⟩
  · exact ⟨0, by decide, rfl⟩
theorem p_wt_n {x : Int32} (h : zlt x 6) {c : Nat} (hc : c < 10000) : ∃ w, w < 3000 ∧ p_wt x (nI c) = nI w := by
  have hd : nI c / nI 20 = nI (c / 20) := pk_div (by omega) (by decide) (by decide)
  obtain rfl | rfl | rfl | rfl | rfl | rfl := zlt6' h
  · exact ⟨1, by decide, rfl⟩
  · refine ⟨1 + c / 20, by omega, ?_⟩
    show nI 1 + nI c / nI 20 = _
    rw [hd, nI_add]
  · exact ⟨0, by decide, rfl⟩
  · exact ⟨3, by decide, rfl⟩
  · refine ⟨2 * (1 + c / 20), by omega, ?_⟩
    show nI 2 * (nI 1 + nI c / nI 20) = _
    rw [hd, nI_add, pk_mul]
  · exact ⟨0, by decide, rfl⟩
theorem p_thr_n {x : Int32} (h : zlt x 6) {c : Nat} (hc : c < 10000) : ∃ n, n ≤ c ∧ p_thr x (nI c) = nI n := by
  obtain ⟨w, hw, e⟩ := p_wt_n h hc
  refine ⟨min w c, Nat.min_le_right _ _, ?_⟩
  unfold p_thr
  rw [e, zmin_n (by omega) (by omega)]
theorem p_div_n {x : Int32} (h : zlt x 6) {l r : Nat} (hl : l < 10000) (hr : r < 10000) : ∃ t, t ≤ max l r ∧ p_div x (nI l) (nI r) = nI t := by
  obtain rfl | rfl | rfl | rfl | rfl | rfl := zlt6' h
  · exact ⟨0, Nat.zero_le _, rfl⟩
  · exact ⟨0, Nat.zero_le _, rfl⟩
  · refine ⟨min 2 (max l r), Nat.min_le_right _ _, ?_⟩
    show zmin (nI 2) (zmax (nI l) (nI r)) = _
    rw [zmax_n (by omega) (by omega), zmin_n (by omega) (by omega)]
  · exact ⟨0, Nat.zero_le _, rfl⟩
  · exact ⟨0, Nat.zero_le _, rfl⟩
  · refine ⟨min (2 + (l + r) / 10) (max l r), Nat.min_le_right _ _, ?_⟩
    show zmin (nI 2 + (nI l + nI r) / nI 10) (zmax (nI l) (nI r)) = _
    rw [zmax_n (by omega) (by omega), nI_add, pk_div (by omega) (by decide) (by decide), nI_add, zmin_n (by omega) (by omega)]
section ZTI
variable {B : Nat} {τ : zTn} {p q : Nat}
theorem zTI_5 {v : Int32} (h : zTI B τ) (hv : zlt v 10000) : zTI B (zup τ 5 p v) := by
  obtain ⟨h1, h2, h3, h4, h5, h6, h7, h8⟩ := h
  refine ⟨h1, h2, h3, h4, h5, h6, h7, fun p' hp' => ?_⟩
  by_cases e : p' = p
  · subst e; rw [zup_at]; exact hv
  · rw [zup_ne _ _ (fun z => e z.2)]; exact h8 p' hp'
theorem zTI_s {v : Int32} {s : Nat} (h : zTI B τ) (hs : s < 2) (hv : zlt v 10000) : zTI B (zup τ (1 + s) q v) := by
  obtain ⟨h1, h2, h3, h4, h5, h6, h7, h8⟩ := h
  rcases (show s = 0 ∨ s = 1 by omega) with rfl | rfl
  · refine ⟨h1, h2, h3, h4, fun q' hq' => ?_, h6, h7, h8⟩
    by_cases e : q' = q
    · subst e; rw [show (1 + 0 : Nat) = 1 from rfl, zup_at]; exact hv
    · rw [zup_ne _ _ (fun z => e z.2)]; exact h5 q' hq'
  · refine ⟨h1, h2, h3, h4, h5, fun q' hq' => ?_, h7, h8⟩
    by_cases e : q' = q
    · subst e; rw [show (1 + 1 : Nat) = 2 from rfl, zup_at]; exact hv
    · rw [zup_ne _ _ (fun z => e z.2)]; exact h6 q' hq'
theorem zTI_at {s : Nat} (h : zTI B τ) (hq : q < 6) (hs : s < 2) : zlt (τ (1 + s) q) 10000 := by
  rcases (show s = 0 ∨ s = 1 by omega) with rfl | rfl
  · exact h.2.2.2.2.1 q hq
  · exact h.2.2.2.2.2.1 q hq
theorem zTI_v1 (h : zTI B τ) (hp : p < 8) : zTI B (p_v1 τ p) := by
  obtain ⟨a, ha, ea⟩ := h.2.2.2.2.2.2.2 p hp
  obtain ⟨e, he, ee⟩ := p_earn_n (h.2.2.2.2.2.2.1 p hp)
  refine zTI_5 h ⟨min (a + e) 9999, by omega, ?_⟩
  rw [ea, ee, nI_add, zmin_n (by omega) (by omega)]
theorem zTI_v13 (h : zTI B τ) (hp : p < 8) (hq : q < 6) : zTI B (p_v13 τ p q) := by
  obtain ⟨c, hc, ec⟩ := h.2.2.2.2.2.2.2 p hp
  obtain ⟨n, hn, en⟩ := p_thr_n (h.2.2.2.2.2.2.1 p hp) hc
  have hs := p_side_lt (τ := τ) (p := p) (q := q) h.2.2.1
  obtain ⟨l, hl, el⟩ := zTI_at h hq hs
  have h2 : zTI B (p_v2 τ p q) := by
    refine zTI_s h hs ⟨min (l + n) 9999, by omega, ?_⟩
    rw [el, ec, en, nI_add, zmin_n (by omega) (by omega)]
  refine zTI_5 h2 ⟨c - n, by omega, ?_⟩
  have : p_v2 τ p q 5 p = τ 5 p := zup_ne _ _ (fun z => by omega)
  rw [this, ec, en, pk_sub hn]
theorem p_full_at {l r : Nat} (hl : l < 10000) (hr : r < 10000) (e1 : τ 1 q = nI l) (e2 : τ 2 q = nI r) : τ (1 + p_full τ q) q = nI (max l r) := by
  unfold p_full
  rw [e1, e2]
  by_cases h : l < r
  · rw [if_pos (nI_lt h (by omega)), Nat.max_eq_right (Nat.le_of_lt h)]; exact e2
  · rw [if_neg (nI_nlt (Nat.not_lt.mp h) (by omega)), Nat.max_eq_left (Nat.not_lt.mp h)]; exact e1
theorem zTI_v35 (h : zTI B τ) (hp : p < 8) (hq : q < 6) : zTI B (p_v35 τ p q) := by
  obtain ⟨c, hc, ec⟩ := h.2.2.2.2.2.2.2 p hp
  obtain ⟨l, hl, el⟩ := h.2.2.2.2.1 q hq
  obtain ⟨r, hr, er⟩ := h.2.2.2.2.2.1 q hq
  obtain ⟨t, ht, et⟩ := p_div_n (h.2.2.2.2.2.2.1 p hp) hl hr
  have hf := p_full_at hl hr el er
  have h4 : zTI B (p_v4 τ p q) := by
    refine zTI_s h p_full_lt ⟨max l r - t, by omega, ?_⟩
    rw [hf, el, er, et, pk_sub ht]
  refine zTI_5 h4 ⟨min (c + t) 9999, by omega, ?_⟩
  have : p_v4 τ p q 5 p = τ 5 p := zup_ne _ _ (fun z => by have := p_full_lt (τ := τ) (q := q); omega)
  rw [this, ec, el, er, et, nI_add, zmin_n (by omega) (by omega)]
theorem zTI_visit (h : zTI B τ) (hp : p < 8) (hq : q < 6) : zTI B (p_visit τ p q) := zTI_v35 (zTI_v13 (zTI_v1 h hp) hp hq) hp hq
theorem p_visit_0 {j : Nat} (hb : zlt (τ 0 2) 2) : p_visit τ p q 0 j = τ 0 j := by
  have h1 : ∀ τ' : zTn, p_v1 τ' p 0 j = τ' 0 j := fun τ' => zup_ne _ _ (fun z => by omega)
  have h2 : ∀ τ' : zTn, p_v13 τ' p q 0 j = τ' 0 j := fun τ' => by
    unfold p_v13 p_v3 p_v2
    rw [zup_ne _ _ (fun z => by omega), zup_ne _ _ (fun z => by omega)]
  have h3 : ∀ τ' : zTn, p_v35 τ' p q 0 j = τ' 0 j := fun τ' => by
    unfold p_v35 p_v5 p_v4
    rw [zup_ne _ _ (fun z => by omega), zup_ne _ _ (fun z => by omega)]
  unfold p_visit
  rw [h3, h2, h1]
theorem zTI_vis (h : zTI B τ) (hq : q < 6) : ∀ n, n ≤ 8 → zTI B (p_vis τ q n)
  | 0, _ => h
  | n + 1, hn => by
    have ih := zTI_vis h hq n (by omega)
    show zTI B (if _ then _ else _)
    split
    · exact zTI_visit ih (by omega) hq
    · exact ih
theorem p_vis_0 (h : zTI B τ) (hq : q < 6) {j : Nat} : ∀ n, n ≤ 8 → p_vis τ q n 0 j = τ 0 j
  | 0, _ => rfl
  | n + 1, hn => by
    have ih := p_vis_0 h hq (j := j) n (by omega)
    show (if _ then _ else _ : zTn) 0 j = _
    split
    · rw [p_visit_0 (zTI_vis h hq n (by omega)).2.2.1]; exact ih
    · exact ih
theorem p_bit_or : ∀ h : Fin 64, ∀ q : Fin 6, ∃ k : Fin 64, nI h.val ||| p_bit q.val = nI k.val := by decide +kernel
theorem p_bit_an : ∀ h : Fin 64, ∀ q : Fin 6, ∃ k : Fin 64, nI h.val &&& (p_bit q.val ^^^ (-1)) = nI k.val := by decide +kernel
theorem p_hold_lt (h : zlt (τ 0 1) 64) (hq : q < 6) : zlt (p_hold τ q) 64 := by
  unfold p_hold
  obtain ⟨k, hk, e⟩ := h
  split
  · obtain ⟨k', h'⟩ := p_bit_or ⟨k, hk⟩ ⟨q, hq⟩
    rw [e]
    exact ⟨k'.val, k'.isLt, h'⟩
  · split
    · obtain ⟨k', h'⟩ := p_bit_an ⟨k, hk⟩ ⟨q, hq⟩
      rw [e]
      exact ⟨k'.val, k'.isLt, h'⟩
    · exact ⟨k, hk, e⟩
theorem zTI_net (h : zTI B τ) (hq : q < 6) : zTI B (p_net τ q) := by
  have hh : ∀ s, s < 2 → zlt (τ (1 + s) q / nI 2) 10000 := fun s hs => by
    obtain ⟨l, hl, el⟩ := zTI_at h hq hs
    refine ⟨l / 2, by omega, ?_⟩
    rw [el, pk_div (by omega) (by decide) (by decide)]
  have h0 : zTI B (zup τ 0 1 (p_hold τ q)) := ⟨h.1, by rw [zup_at]; exact p_hold_lt h.2.1 hq, h.2.2.1, h.2.2.2.1, h.2.2.2.2.1, h.2.2.2.2.2.1, h.2.2.2.2.2.2.1, h.2.2.2.2.2.2.2⟩
  exact zTI_s (s := 1) (zTI_s (s := 0) h0 (by decide) (hh 0 (by decide))) (by decide) (hh 1 (by decide))
theorem zTI_nd (h : zTI B τ) : zTI (B + 1) (p_nd τ) := by
  obtain ⟨⟨d, hd, ed⟩, h2⟩ := h
  refine ⟨⟨d + 1, by omega, ?_⟩, h2⟩
  show zup τ 0 0 (τ 0 0 + nI 1) 0 0 = _
  rw [zup_at, ed, nI_add]
theorem p_q_lt : p_q τ < 6 := Nat.mod_lt _ (by decide)
theorem zTI_day (h : zTI B τ) : zTI (B + 1) (p_day τ) := zTI_nd (zTI_net (zTI_vis h p_q_lt _ (by have := (zlt_zn h.2.2.2.1 (by decide)).2; omega)) p_q_lt)
theorem p_day_0 (h : zTI B τ) {j : Nat} (hj : j = 2 ∨ j = 3) : p_day τ 0 j = τ 0 j := by
  have hn : zn (τ 0 3) ≤ 8 := by have := (zlt_zn h.2.2.2.1 (by decide)).2; omega
  have e := p_vis_0 h (p_q_lt (τ := τ)) (j := j) _ hn
  unfold p_day p_nd p_net
  rw [zup_ne _ _ (fun z => by omega), zup_ne _ _ (fun z => by omega), zup_ne _ _ (fun z => by omega), zup_ne _ _ (fun z => by omega)]
  exact e
theorem zTI_days (h : zTI B τ) : ∀ n, zTI (B + n) (p_days τ n)
  | 0 => h
  | n + 1 => zTI_day (zTI_days h n)
theorem zTI_mono {B' : Nat} (h : zTI B τ) (hB : B ≤ B') : zTI B' τ := by
  obtain ⟨⟨d, hd, ed⟩, h2⟩ := h
  exact ⟨⟨d, by omega, ed⟩, h2⟩
end ZTI
