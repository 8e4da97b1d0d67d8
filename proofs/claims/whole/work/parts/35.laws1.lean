set_option maxHeartbeats 1000000 in
theorem law_lies {g : zG} {S : zSto} (h : zRel S) (q s v : Int32) : zLw Value.int g yX5_lies cX5_lies 5 yX6_lies cX6_lies 5 (some .int) [.int q, .int s, .int v] S := by
  obtain ⟨τ, ht⟩ := h.1
  have h1 := rl_h ht
  have hI := ht.2.2
  obtain ⟨n, h9, hn⟩ := hI.2.2.2.1
  by_cases hc : (nI 0 ≤ q ∧ q ≤ nI 5) ∧ (nI 0 ≤ s ∧ s ≤ nI 1) ∧ (nI 0 ≤ v ∧ v ≤ nI 9999)
  · obtain ⟨q, ql, qh, rfl⟩ := zrng_inv hc.1 (by decide) (by decide)
    obtain ⟨s, sl, sh, rfl⟩ := zrng_inv hc.2.1 (by decide) (by decide)
    have hv := hc.2.2
    refine lw_town ht h (c_lies_ok h1 (by omega) (by omega) hv) (fun σ => n_lies_ok (by omega) (by omega) hv) (zTI_s hI (by omega) ?_)
    obtain ⟨v, -, hv2, rfl⟩ := zrng_inv hv (by decide) (by decide)
    exact ⟨v, by omega, rfl⟩
  · exact lw_fin ht h (c_lies_no hc) (fun σ => n_lies_no hc)

set_option maxHeartbeats 1000000 in
theorem law_basin {g : zG} {S : zSto} (h : zRel S) (q w : Int32) : zLw Value.int g yX5_basin cX5_basin 3 yX6_basin cX6_basin 3 (some .int) [.int q, .int w] S := by
  obtain ⟨τ, ht⟩ := h.1
  have h1 := rl_h ht
  have hI := ht.2.2
  obtain ⟨n, h9, hn⟩ := hI.2.2.2.1
  by_cases hc : (nI 0 ≤ q ∧ q ≤ nI 5) ∧ (nI 0 ≤ w ∧ w ≤ nI 2)
  · obtain ⟨q, ql, qh, rfl⟩ := zrng_inv hc.1 (by decide) (by decide)
    obtain ⟨w, wl, wh, rfl⟩ := zrng_inv hc.2 (by decide) (by decide)
    exact lw_same ht h (c_basin_ok h1 (by omega) (by omega)) (fun σ => n_basin_ok (by omega) (by omega))
  · exact lw_fin ht h (c_basin_no hc) (fun σ => n_basin_no hc)

set_option maxHeartbeats 1000000 in
theorem law_bribe {g : zG} {S : zSto} (h : zRel S) (v : Int32) : zLw Value.int g yX5_bribe cX5_bribe 3 yX6_bribe cX6_bribe 2 (some .int) [.int v] S := by
  obtain ⟨τ, ht⟩ := h.1
  have h1 := rl_h ht
  have hI := ht.2.2
  obtain ⟨n, h9, hn⟩ := hI.2.2.2.1
  by_cases hc : (nI 0 ≤ v ∧ v ≤ nI 1)
  · obtain ⟨w, -, hw, e⟩ := zrng_inv hc (by decide) (by decide)
    exact lw_town ht h (c_bribe_ok h1 hc) (fun σ => n_bribe_ok hc) (zTI_02 hI ⟨w, by omega, e⟩)
  · exact lw_fin ht h (c_bribe_no hc) (fun σ => n_bribe_no hc)

set_option maxHeartbeats 1000000 in
theorem law_held {g : zG} {S : zSto} (h : zRel S) (v : Int32) : zLw Value.int g yX5_held cX5_held 3 yX6_held cX6_held 2 (some .int) [.int v] S := by
  obtain ⟨τ, ht⟩ := h.1
  have h1 := rl_h ht
  have hI := ht.2.2
  obtain ⟨n, h9, hn⟩ := hI.2.2.2.1
  by_cases hc : (nI 0 ≤ v ∧ v ≤ nI 63)
  · obtain ⟨w, -, hw, e⟩ := zrng_inv hc (by decide) (by decide)
    exact lw_town ht h (c_held_ok h1 hc) (fun σ => n_held_ok hc) ⟨hI.1, ⟨w, by omega, e⟩, hI.2.2⟩
  · exact lw_fin ht h (c_held_no hc) (fun σ => n_held_no hc)

set_option maxHeartbeats 1000000 in
theorem law_now {g : zG} {S : zSto} (h : zRel S) (w : Int32) : zLw Value.int g yX5_now cX5_now 2 yX6_now cX6_now 2 (some .int) [.int w] S := by
  obtain ⟨τ, ht⟩ := h.1
  have h1 := rl_h ht
  have hI := ht.2.2
  obtain ⟨n, h9, hn⟩ := hI.2.2.2.1
  by_cases hc : (nI 0 ≤ w ∧ w ≤ nI 6)
  · obtain ⟨w, wl, wh, rfl⟩ := zrng_inv hc (by decide) (by decide)
    exact lw_same ht h (c_now_ok h1 hI wh) (fun σ => n_now_ok hI wh)
  · exact lw_fin ht h (c_now_no hc) (fun σ => n_now_no hc)

set_option maxHeartbeats 1000000 in
theorem law_person {g : zG} {S : zSto} (h : zRel S) (k : Int32) : zLw Value.int g yX5_person cX5_person 2 yX6_person cX6_person 2 (some .int) [.int k] S := by
  obtain ⟨τ, ht⟩ := h.1
  have h1 := rl_h ht
  have hI := ht.2.2
  obtain ⟨n, h9, hn⟩ := hI.2.2.2.1
  by_cases hc : (nI 0 ≤ k ∧ k ≤ nI 5)
  · by_cases h8 : n < 8
    · obtain ⟨k', -, hk, rfl⟩ := zrng_inv hc (by decide) (by decide)
      exact lw_town ht h (c_person_ok h1 hn h8 hc) (fun σ => n_person_ok hn h8 hc) (zTI_ad hI hn h8 (by omega))
    · obtain rfl : n = 8 := by omega
      exact lw_fin ht h (c_person_full h1 hn hc) (fun σ => n_person_full hn hc)
  · exact lw_fin ht h (c_person_no hc) (fun σ => n_person_no hc)

set_option maxHeartbeats 1000000 in
theorem law_of {g : zG} {S : zSto} (h : zRel S) (v w : Int32) : zLw Value.int g yX5_of cX5_of 3 yX6_of cX6_of 3 (some .int) [.int v, .int w] S := by
  obtain ⟨τ, ht⟩ := h.1
  have h1 := rl_h ht
  have hI := ht.2.2
  obtain ⟨n, h9, hn⟩ := hI.2.2.2.1
  by_cases hc : (nI 0 ≤ v ∧ v ≤ τ 0 3 - nI 1) ∧ (nI 0 ≤ w ∧ w ≤ nI 5)
  · obtain ⟨v, vh, rfl⟩ := zper_inv hn h9 hc.1
    obtain ⟨w, wl, wh, rfl⟩ := zrng_inv hc.2 (by decide) (by decide)
    exact lw_same ht h (c_of_ok h1 hI hn h9 vh wh) (fun σ => n_of_ok hI hn h9 vh wh)
  · exact lw_fin ht h (c_of_no h1 hn h9 hc) (fun σ => n_of_no hc)

set_option maxHeartbeats 1000000 in
theorem law_acts {g : zG} {S : zSto} (h : zRel S) (v q w : Int32) : zLw Value.int g yX5_acts cX5_acts 4 yX6_acts cX6_acts 4 (some .int) [.int v, .int q, .int w] S := by
  obtain ⟨τ, ht⟩ := h.1
  have h1 := rl_h ht
  have hI := ht.2.2
  obtain ⟨n, h9, hn⟩ := hI.2.2.2.1
  by_cases hc : (nI 0 ≤ v ∧ v ≤ τ 0 3 - nI 1) ∧ (nI 0 ≤ q ∧ q ≤ nI 5) ∧ (nI 0 ≤ w ∧ w ≤ nI 1)
  · obtain ⟨v, vh, rfl⟩ := zper_inv hn h9 hc.1
    obtain ⟨q, ql, qh, rfl⟩ := zrng_inv hc.2.1 (by decide) (by decide)
    obtain ⟨w, wl, wh, rfl⟩ := zrng_inv hc.2.2 (by decide) (by decide)
    rcases (show w = 0 ∨ w = 1 by omega) with rfl | rfl
    · exact lw_same ht h (c_acts0 h1 hI hn h9 vh (by omega)) (fun σ => n_acts0 hI hn h9 vh (by omega))
    · exact lw_same ht h (c_acts1 h1 hI hn h9 vh (by omega)) (fun σ => n_acts1 hI hn h9 vh (by omega))
  · exact lw_fin ht h (c_acts_no h1 hc) (fun σ => n_acts_no hc)

set_option maxHeartbeats 1000000 in
theorem law_set {g : zG} {S : zSto} (h : zRel S) (v w u : Int32) : zLw Value.int g yX5_set cX5_set 4 yX6_set cX6_set 5 (some .int) [.int v, .int w, .int u] S := by
  obtain ⟨τ, ht⟩ := h.1
  have h1 := rl_h ht
  have hI := ht.2.2
  obtain ⟨n, h9, hn⟩ := hI.2.2.2.1
  by_cases hc : (nI 0 ≤ v ∧ v ≤ τ 0 3 - nI 1) ∧ ((w = nI 1 ∧ (nI 0 ≤ u ∧ u ≤ nI 63)) ∨ (w = nI 2 ∧ (nI 0 ≤ u ∧ u ≤ nI 9999)) ∨ (w = nI 3 ∧ (nI 0 ≤ u ∧ u ≤ nI 1)))
  · obtain ⟨v, vh, rfl⟩ := zper_inv hn h9 hc.1
    rcases hc.2 with ⟨rfl, hu⟩ | ⟨rfl, hu⟩ | ⟨rfl, hu⟩
    · exact lw_town ht h (c_set1 h1 hn h9 vh hu) (fun σ => n_set1 hn h9 vh hu) (zTI_4 hI)
    · refine lw_town ht h (c_set2 h1 hn h9 vh hu) (fun σ => n_set2 hn h9 vh hu) (zTI_5 hI ?_)
      obtain ⟨u', -, hu2, rfl⟩ := zrng_inv hu (by decide) (by decide)
      exact ⟨u', by omega, rfl⟩
    · exact lw_town ht h (c_set3 h1 hn h9 vh hu) (fun σ => n_set3 hn h9 vh hu) (zTI_6 hI)
  · exact lw_fin ht h (c_set_no h1 hc) (fun σ => n_set_no hc)

set_option maxHeartbeats 1000000 in
theorem law_turn {g : zG} {S : zSto} (h : zRel S) (v k : Int32) : zLw Value.int g yX5_turn cX5_turn 3 yX6_turn cX6_turn 3 (some .int) [.int v, .int k] S := by
  obtain ⟨τ, ht⟩ := h.1
  have h1 := rl_h ht
  have hI := ht.2.2
  obtain ⟨n, h9, hn⟩ := hI.2.2.2.1
  by_cases hc : (nI 0 ≤ v ∧ v ≤ τ 0 3 - nI 1) ∧ (nI 0 ≤ k ∧ k ≤ nI 5)
  · obtain ⟨v, vh, rfl⟩ := zper_inv hn h9 hc.1
    obtain ⟨k', -, hk, rfl⟩ := zrng_inv hc.2 (by decide) (by decide)
    exact lw_town ht h (c_turn_ok h1 hn h9 vh hc.2) (fun σ => n_turn_ok hn h9 vh hc.2) (zTI_3 hI (by omega))
  · exact lw_fin ht h (c_turn_no h1 hc) (fun σ => n_turn_no hc)

set_option maxHeartbeats 1000000 in
theorem law_as {g : zG} {S : zSto} (h : zRel S) (v k : Int32) : zLw Value.int g yX5_as cX5_as 3 yX6_as cX6_as 3 (some .int) [.int v, .int k] S := by
  obtain ⟨τ, ht⟩ := h.1
  have h1 := rl_h ht
  have hI := ht.2.2
  obtain ⟨n, h9, hn⟩ := hI.2.2.2.1
  by_cases hc : (nI 0 ≤ v ∧ v ≤ τ 0 3 - nI 1) ∧ (nI 0 ≤ k ∧ k ≤ nI 5)
  · obtain ⟨v, vh, rfl⟩ := zper_inv hn h9 hc.1
    obtain ⟨k, kl, kh, rfl⟩ := zrng_inv hc.2 (by decide) (by decide)
    obtain ⟨a, ha, e3⟩ := hI.2.2.2.2.2.2.1 v (by omega)
    by_cases hu : p_und a k
    · exact lw_same ht h (c_as_ok h1 hn h9 vh ha (by omega) e3 hu) (fun σ => n_as_ok hn h9 vh ha (by omega) e3 hu)
    · exact lw_fin ht h (c_as_kind h1 hn h9 vh ha (by omega) e3 hu) (fun σ => n_as_kind hn h9 vh ha (by omega) e3 hu)
  · exact lw_fin ht h (c_as_no h1 hc) (fun σ => n_as_no hc)

theorem zTI_days0 {τ : zTn} {d : Nat} (hI : zTI 100000 τ) (hd : τ 0 0 = nI d) (m : Nat) (hs : d + m ≤ 99999) : zTI 100000 (p_days τ m) := by
  have h0 : zTI (d + 1) τ := ⟨⟨d, by omega, hd⟩, hI.2⟩
  exact zTI_mono (zTI_days h0 m) (by omega)

set_option maxHeartbeats 1000000 in
theorem law_days {g : zG} {S : zSto} (h : zRel S) (m : Int32) : zLw Value.int g yX5_days cX5_days 2 yX6_days cX6_days 2 (some .int) [.int m] S := by
  obtain ⟨τ, ht⟩ := h.1
  have h1 := rl_h ht
  have hI := ht.2.2
  obtain ⟨n, h9, hn⟩ := hI.2.2.2.1
  obtain ⟨d, hd1, hd⟩ := hI.1
  by_cases hc : (nI 1 ≤ m ∧ m ≤ nI 100)
  · obtain ⟨m, ml, mh, rfl⟩ := zrng_inv hc (by decide) (by decide)
    by_cases hs : d + m ≤ 99999
    · exact lw_town ht h (c_days_ok h1 hI hd hd1 ml mh hs) (fun σ => n_days_ok hI hd hd1 ml mh hs) (zTI_days0 hI hd m hs)
    · exact lw_fin ht h (c_days_state h1 hd hd1 ml mh hs) (fun σ => n_days_state hd hd1 ml mh hs)
  · exact lw_fin ht h (c_days_no hc) (fun σ => n_days_no hc)

set_option maxHeartbeats 1000000 in
theorem law_on {g : zG} {S : zSto} (h : zRel S) (v m : Int32) : zLw Value.int g yX5_on cX5_on 3 yX6_on cX6_on 3 (some .int) [.int v, .int m] S := by
  obtain ⟨τ, ht⟩ := h.1
  have h1 := rl_h ht
  have hI := ht.2.2
  obtain ⟨n, h9, hn⟩ := hI.2.2.2.1
  by_cases hc : (nI 0 ≤ v ∧ v ≤ τ 0 3 - nI 1) ∧ (nI 0 ≤ m ∧ m ≤ nI 200)
  · obtain ⟨v, vh, rfl⟩ := zper_inv hn h9 hc.1
    obtain ⟨m, ml, mh, rfl⟩ := zrng_inv hc.2 (by decide) (by decide)
    exact lw_J ht h (c_on_ok h1 hI hn h9 vh mh) (fun σ => n_on_ok hI hn h9 vh mh)
  · exact lw_fin ht h (c_on_no h1 hc) (fun σ => n_on_no hc)

set_option maxHeartbeats 1000000 in
theorem law_then {g : zG} {S : zSto} (h : zRel S) (q m w : Int32) : zLw Value.int g yX5_then cX5_then 4 yX6_then cX6_then 4 (some .int) [.int q, .int m, .int w] S := by
  obtain ⟨τ, ht⟩ := h.1
  have h1 := rl_h ht
  have hI := ht.2.2
  obtain ⟨n, h9, hn⟩ := hI.2.2.2.1
  by_cases hc : (nI 0 ≤ q ∧ q ≤ nI 5) ∧ (nI 0 ≤ m ∧ m ≤ nI 200) ∧ (nI 0 ≤ w ∧ w ≤ nI 2)
  · obtain ⟨q, ql, qh, rfl⟩ := zrng_inv hc.1 (by decide) (by decide)
    obtain ⟨m, ml, mh, rfl⟩ := zrng_inv hc.2.1 (by decide) (by decide)
    obtain ⟨w, wl, wh, rfl⟩ := zrng_inv hc.2.2 (by decide) (by decide)
    exact lw_J ht h (c_then_ok h1 hI (by omega) mh (by omega)) (fun σ => n_then_ok hI (by omega) mh (by omega))
  · exact lw_fin ht h (c_then_no hc) (fun σ => n_then_no hc)

/-- the first of 0 .. m at which P fails, or none -/
theorem zfirst {P : Nat → Prop} [DecidablePred P] : ∀ m, (∃ k, k ≤ m ∧ ¬ P k ∧ ∀ j, j < k → P j) ∨ ∀ j, j ≤ m → P j
  | 0 => by
    by_cases h : P 0
    · exact Or.inr (fun j hj => by rw [Nat.le_zero.mp hj]; exact h)
    · exact Or.inl ⟨0, Nat.le_refl _, h, fun j hj => absurd hj (Nat.not_lt_zero _)⟩
  | m + 1 => by
    rcases zfirst (P := P) m with ⟨k, h1, h2, h3⟩ | h
    · exact Or.inl ⟨k, by omega, h2, h3⟩
    · by_cases hp : P (m + 1)
      · exact Or.inr (fun j hj => by
          by_cases e : j = m + 1
          · rw [e]; exact hp
          · exact h j (by omega))
      · exact Or.inl ⟨m + 1, Nat.le_refl _, hp, fun j hj => h j (by omega)⟩

set_option maxHeartbeats 1000000 in
theorem law_flips {g : zG} {S : zSto} (h : zRel S) (q : Int32) : zLw Value.int g yX5_flips cX5_flips 4 yX6_flips cX6_flips 4 (some .int) [.int q] S := by
  obtain ⟨τ, ht⟩ := h.1
  have h1 := rl_h ht
  have hI := ht.2.2
  obtain ⟨n, h9, hn⟩ := hI.2.2.2.1
  by_cases hc : (nI 0 ≤ q ∧ q ≤ nI 5)
  · obtain ⟨q, -, qh, rfl⟩ := zrng_inv hc (by decide) (by decide)
    rcases zfirst (P := fun j => p_tell (p_days τ j) q 2 = p_tell τ q 2) 200 with ⟨k, hk, hP, hm⟩ | hm
    · exact lw_J ht h (c_flips_at h1 hI (by omega) (Nat.pos_of_ne_zero (fun z => hP (by rw [z]; rfl))) hk hP hm) (fun σ => n_flips_at hI (by omega) hk hP hm)
    · exact lw_Jf ht h (c_flips_none h1 hI (by omega) hm) (fun σ => n_flips_none hI (by omega) hm)
  · exact lw_fin ht h (c_flips_no hc) (fun σ => n_flips_no hc)

set_option maxHeartbeats 1000000 in
theorem law_rich {g : zG} {S : zSto} (h : zRel S) (p v : Int32) : zLw Value.int g yX5_rich cX5_rich 4 yX6_rich cX6_rich 4 (some .int) [.int p, .int v] S := by
  obtain ⟨τ, ht⟩ := h.1
  have h1 := rl_h ht
  have hI := ht.2.2
  obtain ⟨n, h9, hn⟩ := hI.2.2.2.1
  by_cases hc : (nI 0 ≤ p ∧ p ≤ τ 0 3 - nI 1) ∧ (nI 0 ≤ v ∧ v ≤ nI 9999)
  · obtain ⟨p, ph, rfl⟩ := zper_inv hn h9 hc.1
    rcases zfirst (P := fun j => p_days τ j 5 p < v) 200 with ⟨k, hk, hP, hm⟩ | hm
    · exact lw_J ht h (c_rich_at h1 hI hn h9 ph hc.2 hk hP hm) (fun σ => n_rich_at hI hn h9 ph hc.2 hk hP hm)
    · exact lw_Jf ht h (c_rich_none h1 hI hn h9 ph hc.2 hm) (fun σ => n_rich_none hI hn h9 ph hc.2 hm)
  · exact lw_fin ht h (c_rich_no h1 hc) (fun σ => n_rich_no hc)

set_option maxHeartbeats 1000000 in
theorem law_kind {g : zG} {S : zSto} (h : zRel S) (p d : Int32) : zLw Value.int g yX5_kind cX5_kind 6 yX6_kind cX6_kind 8 (some .int) [.int p, .int d] S := by
  obtain ⟨τ, ht⟩ := h.1
  have h1 := rl_h ht
  have hI := ht.2.2
  obtain ⟨n, h9, hn⟩ := hI.2.2.2.1
  by_cases hc : (nI 0 ≤ p ∧ p ≤ τ 0 3 - nI 1) ∧ (nI 1 ≤ d ∧ d ≤ nI 60)
  · obtain ⟨p, ph, rfl⟩ := zper_inv hn h9 hc.1
    obtain ⟨d, dl, dh, rfl⟩ := zrng_inv hc.2 (by decide) (by decide)
    exact lw_J ht h (c_kind_ok h1 hI hn h9 ph dl dh) (fun σ => n_kind_ok hI hn h9 ph dl dh)
  · exact lw_fin ht h (c_kind_no h1 hc) (fun σ => n_kind_no hc)

set_option maxHeartbeats 1000000 in
theorem law_lean {g : zG} {S : zSto} (h : zRel S) (p d : Int32) : zLw Value.int g yX5_lean cX5_lean 7 yX6_lean cX6_lean 8 (some .int) [.int p, .int d] S := by
  obtain ⟨τ, ht⟩ := h.1
  have h1 := rl_h ht
  have hI := ht.2.2
  obtain ⟨n, h9, hn⟩ := hI.2.2.2.1
  by_cases hc : (nI 0 ≤ p ∧ p ≤ τ 0 3 - nI 1) ∧ (nI 1 ≤ d ∧ d ≤ nI 40)
  · obtain ⟨p, ph, rfl⟩ := zper_inv hn h9 hc.1
    obtain ⟨d, dl, dh, rfl⟩ := zrng_inv hc.2 (by decide) (by decide)
    exact lw_J ht h (c_lean_ok h1 hI hn h9 ph dl dh) (fun σ => n_lean_ok hI hn h9 ph dl dh)
  · exact lw_fin ht h (c_lean_no h1 hc) (fun σ => n_lean_no hc)

set_option maxHeartbeats 1000000 in
theorem law_buys {g : zG} {S : zSto} (h : zRel S) (p q d : Int32) : zLw Value.int g yX5_buys cX5_buys 6 yX6_buys cX6_buys 8 (some .int) [.int p, .int q, .int d] S := by
  obtain ⟨τ, ht⟩ := h.1
  have h1 := rl_h ht
  have hI := ht.2.2
  obtain ⟨n, h9, hn⟩ := hI.2.2.2.1
  by_cases hc : (nI 0 ≤ p ∧ p ≤ τ 0 3 - nI 1) ∧ (nI 0 ≤ q ∧ q ≤ nI 5) ∧ (nI 1 ≤ d ∧ d ≤ nI 60)
  · obtain ⟨p, ph, rfl⟩ := zper_inv hn h9 hc.1
    obtain ⟨q, ql, qh, rfl⟩ := zrng_inv hc.2.1 (by decide) (by decide)
    obtain ⟨d, dl, dh, rfl⟩ := zrng_inv hc.2.2 (by decide) (by decide)
    rcases zfirst (P := fun j => p_fb τ p q d j = p_tell τ q 2) 100 with ⟨k, hk, hP, hm⟩ | hm
    · exact lw_J ht h (c_buys_at h1 hI hn h9 ph (by omega) dl dh hk hP hm) (fun σ => n_buys_at hI hn h9 ph (by omega) dl dh hk hP hm)
    · exact lw_Jf ht h (c_buys_none h1 hI hn h9 ph (by omega) dl dh hm) (fun σ => n_buys_none hI hn h9 ph (by omega) dl dh hm)
  · exact lw_fin ht h (c_buys_no h1 hc) (fun σ => n_buys_no hc)

set_option maxHeartbeats 1000000 in
theorem law_swing {g : zG} {S : zSto} (h : zRel S) (d : Int32) : zLw Value.int g yX5_swing cX5_swing 7 yX6_swing cX6_swing 7 (some .int) [.int d] S := by
  obtain ⟨τ, ht⟩ := h.1
  have h1 := rl_h ht
  have hI := ht.2.2
  obtain ⟨n, h9, hn⟩ := hI.2.2.2.1
  by_cases hc : (nI 1 ≤ d ∧ d ≤ nI 60)
  · obtain ⟨d, dl, dh, rfl⟩ := zrng_inv hc (by decide) (by decide)
    by_cases hQ : 0 ≤ (p_sw τ d n).1
    · exact lw_J ht h (c_swing_at h1 hI hn h9 dl dh hQ) (fun σ => n_swing_at hI hn h9 dl dh hQ)
    · exact lw_Jf ht h (c_swing_none h1 hI hn h9 dl dh hQ) (fun σ => n_swing_none hI hn h9 dl dh hQ)
  · exact lw_fin ht h (c_swing_no hc) (fun σ => n_swing_no hc)

set_option maxHeartbeats 1000000 in
theorem law_pays {g : zG} {S : zSto} (h : zRel S) (d : Int32) : zLw Value.int g yX5_pays cX5_pays 2 yX6_pays cX6_pays 5 (some .int) [.int d] S := by
  obtain ⟨τ, ht⟩ := h.1
  have h1 := rl_h ht
  have hI := ht.2.2
  obtain ⟨n, h9, hn⟩ := hI.2.2.2.1
  by_cases hc : (nI 1 ≤ d ∧ d ≤ nI 60)
  · obtain ⟨d, dl, dh, rfl⟩ := zrng_inv hc (by decide) (by decide)
    exact lw_J ht h (c_pays_ok h1 hI dl dh) (fun σ => n_pays_ok hI dl dh)
  · exact lw_fin ht h (c_pays_no hc) (fun σ => n_pays_no hc)

set_option maxHeartbeats 1000000 in
theorem law_richest {g : zG} {S : zSto} (h : zRel S) (d : Int32) : zLw Value.int g yX5_richest cX5_richest 4 yX6_richest cX6_richest 4 (some .int) [.int d] S := by
  obtain ⟨τ, ht⟩ := h.1
  have h1 := rl_h ht
  have hI := ht.2.2
  obtain ⟨n, h9, hn⟩ := hI.2.2.2.1
  by_cases hc : (nI 0 ≤ d ∧ d ≤ nI 200)
  · obtain ⟨d, dl, dh, rfl⟩ := zrng_inv hc (by decide) (by decide)
    by_cases h0 : 0 < n
    · exact lw_J ht h (c_richest_ok h1 hI hn h9 h0 dh) (fun σ => n_richest_ok hI hn h9 h0 dh)
    · obtain rfl : n = 0 := by omega
      exact lw_fin ht h (c_richest_none h1 hn dh) (fun σ => n_richest_none hn dh)
  · exact lw_fin ht h (c_richest_no hc) (fun σ => n_richest_no hc)
