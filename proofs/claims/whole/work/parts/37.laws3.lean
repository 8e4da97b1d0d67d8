/-! the sheets -/
section SHE
variable {S : zSto} {o o' b j a i sp dp m : Nat} {v : Int32} {f : Nat → Int64}
theorem zsi_at : (zsi S o i v).1 o i = v := if_pos ⟨rfl, rfl⟩
theorem zrz_ne (h : ¬ (a = o ∧ b ≤ i ∧ i < b + j)) : (zrz S o b j).2 a i = S.2 a i := if_neg h
theorem zrz_in (h : a = o ∧ b ≤ i ∧ i < b + j) : (zrz S o b j).2 a i = 0 := if_pos h
theorem zwr_ne (h : ¬ (a = o ∧ b ≤ i ∧ i < b + j)) : (zwr S o b f j).2 a i = S.2 a i := if_neg h
theorem zwr_in (h : a = o ∧ b ≤ i ∧ i < b + j) : (zwr S o b f j).2 a i = f (i - b) := if_pos h
theorem zcl_ne (h : ¬ (a = o ∧ dp ≤ i ∧ i < dp + m)) : (zcl S o' o sp dp m).2 a i = S.2 a i := if_neg h
theorem zcl_in (h : a = o ∧ dp ≤ i ∧ i < dp + m) : (zcl S o' o sp dp m).2 a i = S.2 o' (sp + (i - dp)) := if_pos h
end SHE
theorem rl_s_put {S S' : zSto} {s : Nat} (hs : s < 4) (h : rl_s S) (e1 : ∀ x i, (x = 31 ∨ x = 32 ∨ x = 41 ∨ x = 42) → S'.1 x i = S.1 x i) (e2 : ∀ x i, (27 ≤ x ∧ x ≤ 30) → x ≠ 27 + s → S'.2 x i = S.2 x i) (e3 : ∀ i, ¬ (40 * s ≤ i ∧ i < 40 * s + 40) → S'.2 43 i = S.2 43 i) (e4 : ∀ i, i < 40 → S'.2 (27 + s) i = S'.2 43 (40 * s + i)) : rl_s S' := by
  intro s' hs'
  obtain ⟨a, b, ⟨n, c1, c2⟩, d⟩ := h s' hs'
  refine ⟨?_, ?_, ⟨n, c1, ?_⟩, fun i hi => ?_⟩
  · rw [e1 _ _ (by omega), e1 _ _ (by omega)]; exact a
  · rw [e1 _ _ (by omega), e1 _ _ (by omega)]; exact b
  · rw [e1 _ _ (by omega)]; exact c2
  · by_cases hss : s' = s
    · subst hss; exact e4 i hi
    · rw [e2 _ _ (by omega) (by omega), e3 _ (by omega)]; exact d i hi
/-- only the longs differ -/
theorem zRel_l {S S' : zSto} (h : zRel S) (e : S'.1 = S.1) (hs : rl_s S') : zRel S' := by
  obtain ⟨⟨τ, t⟩, kk, p, s, f⟩ := h
  exact ⟨⟨τ, rl_t_c t (fun x i hx => by rw [e])⟩, rl_k_c kk (fun x i hx => by rw [e]), rl_p_c p (fun x i hx => by rw [e]), hs, rl_f_c f (fun x i hx => by rw [e])⟩
theorem zRel_sheet {S : zSto} {s n : Nat} {b : Int32} (hs : s < 4) (hn : n ≤ 40) (h : zRel S) : zRel (zrz (zsi (zsi (zrz (zsi (zsi S 31 s b) 32 s (zsz b (nI n))) (27 + s) 0 40) 41 s b) 42 s (zsz b (nI n))) 43 (40 * s) 40) := by
  obtain ⟨⟨τ, t⟩, kk, p, sh, f⟩ := h
  have e : ∀ x i, ¬ ((x = 31 ∨ x = 32 ∨ x = 41 ∨ x = 42) ∧ i = s) → (zrz (zsi (zsi (zrz (zsi (zsi S 31 s b) 32 s (zsz b (nI n))) (27 + s) 0 40) 41 s b) 42 s (zsz b (nI n))) 43 (40 * s) 40).1 x i = S.1 x i := by
    intro x i hx
    show (zsi (zsi (zrz (zsi (zsi S 31 s b) 32 s (zsz b (nI n))) (27 + s) 0 40) 41 s b) 42 s (zsz b (nI n))).1 x i = _
    rw [zsi_ne (by omega), zsi_ne (by omega)]
    show (zsi (zsi S 31 s b) 32 s (zsz b (nI n))).1 x i = _
    rw [zsi_ne (by omega), zsi_ne (by omega)]
  refine ⟨⟨τ, rl_t_c t (fun x i hx => e x i (by omega))⟩, rl_k_c kk (fun x i hx => e x i (by omega)), rl_p_c p (fun x i hx => e x i (by omega)), ?_, rl_f_c f (fun x i hx => e x i (by omega))⟩
  intro s' hs'
  by_cases hss : s' = s
  · subst hss
    have e31 : (zrz (zsi (zsi (zrz (zsi (zsi S 31 s' b) 32 s' (zsz b (nI n))) (27 + s') 0 40) 41 s' b) 42 s' (zsz b (nI n))) 43 (40 * s') 40).1 31 s' = b := by
      show (zsi (zsi (zrz (zsi (zsi S 31 s' b) 32 s' (zsz b (nI n))) (27 + s') 0 40) 41 s' b) 42 s' (zsz b (nI n))).1 31 s' = _
      rw [zsi_ne (by omega), zsi_ne (by omega)]
      show (zsi (zsi S 31 s' b) 32 s' (zsz b (nI n))).1 31 s' = _
      rw [zsi_ne (by omega), zsi_at]
    have e32 : (zrz (zsi (zsi (zrz (zsi (zsi S 31 s' b) 32 s' (zsz b (nI n))) (27 + s') 0 40) 41 s' b) 42 s' (zsz b (nI n))) 43 (40 * s') 40).1 32 s' = zsz b (nI n) := by
      show (zsi (zsi (zrz (zsi (zsi S 31 s' b) 32 s' (zsz b (nI n))) (27 + s') 0 40) 41 s' b) 42 s' (zsz b (nI n))).1 32 s' = _
      rw [zsi_ne (by omega), zsi_ne (by omega)]
      exact zsi_at
    have e41 : (zrz (zsi (zsi (zrz (zsi (zsi S 31 s' b) 32 s' (zsz b (nI n))) (27 + s') 0 40) 41 s' b) 42 s' (zsz b (nI n))) 43 (40 * s') 40).1 41 s' = b := by
      show (zsi (zsi (zrz (zsi (zsi S 31 s' b) 32 s' (zsz b (nI n))) (27 + s') 0 40) 41 s' b) 42 s' (zsz b (nI n))).1 41 s' = _
      rw [zsi_ne (by omega), zsi_at]
    have e42 : (zrz (zsi (zsi (zrz (zsi (zsi S 31 s' b) 32 s' (zsz b (nI n))) (27 + s') 0 40) 41 s' b) 42 s' (zsz b (nI n))) 43 (40 * s') 40).1 42 s' = zsz b (nI n) := by
      show (zsi (zsi (zrz (zsi (zsi S 31 s' b) 32 s' (zsz b (nI n))) (27 + s') 0 40) 41 s' b) 42 s' (zsz b (nI n))).1 42 s' = _
      exact zsi_at
    refine ⟨e31.trans e41.symm, e32.trans e42.symm, ?_, fun i hi => ?_⟩
    · rw [e32]
      unfold zsz
      by_cases hb : b = 0
      · rw [if_pos hb]; exact ⟨0, by decide, rfl⟩
      · rw [if_neg hb]; exact ⟨n, hn, rfl⟩
    · rw [zrz_ne (by omega), zrz_in (by omega)]
      show (zrz (zsi (zsi S 31 s' b) 32 s' (zsz b (nI n))) (27 + s') 0 40).2 (27 + s') i = 0
      exact zrz_in (by omega)
  · obtain ⟨a, b', ⟨m, c1, c2⟩, d⟩ := sh s' hs'
    refine ⟨?_, ?_, ⟨m, c1, ?_⟩, fun i hi => ?_⟩
    · rw [e _ _ (by omega), e _ _ (by omega)]; exact a
    · rw [e _ _ (by omega), e _ _ (by omega)]; exact b'
    · rw [e _ _ (by omega)]; exact c2
    · rw [zrz_ne (by omega), zrz_ne (by omega)]
      show (zrz (zsi (zsi S 31 s b) 32 s (zsz b (nI n))) (27 + s) 0 40).2 (27 + s') i = (zrz (zsi (zsi S 31 s b) 32 s (zsz b (nI n))) (27 + s) 0 40).2 43 (40 * s' + i)
      rw [zrz_ne (by omega), zrz_ne (by omega)]
      exact d i hi

set_option maxHeartbeats 1000000 in
theorem law_sheet {g : zG} {S : zSto} (h : zRel S) (s b m : Int32) : zLw Value.int g yX5_sheet cX5_sheet 4 yX6_sheet cX6_sheet 5 (some .int) [.int s, .int b, .int m] S := by
  obtain ⟨τ, ht⟩ := h.1
  have h1 := rl_h ht
  have hI := ht.2.2
  obtain ⟨n, h9, hn⟩ := hI.2.2.2.1
  by_cases hc : (nI 0 ≤ s ∧ s ≤ nI 3) ∧ zbits b
  · by_cases h0 : 0 ≤ m
    · by_cases h40 : m ≤ nI 40
      · obtain ⟨s, -, sh, rfl⟩ := zrng_inv hc.1 (by decide) (by decide)
        obtain ⟨m, -, mh, rfl⟩ := zrng_inv (a := 0) (b := 40) ⟨h0, h40⟩ (by decide) (by decide)
        exact lw_gen (mk := Value.int) (c_sheet_ok (by omega) hc.2 mh) (n_sheet_ok (by omega) hc.2 mh) (zRel_sheet (by omega) mh h)
      · exact lw_fin ht h (c_sheet_big hc.1 hc.2 h0 h40) (fun σ => n_sheet_big hc.1 hc.2 h0 h40)
    · exact lw_fin ht h (c_sheet_size hc.1 hc.2 h0) (fun σ => n_sheet_size hc.1 hc.2 h0)
  · exact lw_fin ht h (c_sheet_no hc) (fun σ => n_sheet_no hc)

theorem zRel_write {S : zSto} {s i : Nat} {v : Int64} (hs : s < 4) (hi : i < 40) (h : zRel S) : zRel (zsl (zsl S (27 + s) i v) 43 (40 * s + i) v) := by
  refine zRel_l h rfl (rl_s_put hs h.2.2.2.1 (fun _ _ _ => rfl) (fun x j hx hne => ?_) (fun j hj => ?_) (fun j hj => ?_))
  · show (if x = 43 ∧ _ then v else if x = 27 + s ∧ _ then v else S.2 x j) = _
    rw [if_neg (by omega), if_neg (by omega)]
  · show (if 43 = 43 ∧ j = 40 * s + i then v else if 43 = 27 + s ∧ _ then v else S.2 43 j) = _
    rw [if_neg (by omega), if_neg (by omega)]
  · show (if 27 + s = 43 ∧ _ then v else if 27 + s = 27 + s ∧ j = i then v else S.2 (27 + s) j) = (if 43 = 43 ∧ 40 * s + j = 40 * s + i then v else if 43 = 27 + s ∧ _ then v else S.2 43 (40 * s + j))
    rw [if_neg (by omega)]
    by_cases hji : j = i
    · rw [if_pos ⟨rfl, hji⟩, if_pos ⟨rfl, by omega⟩]
    · rw [if_neg (fun z => hji z.2), if_neg (by omega), if_neg (by omega)]
      exact (h.2.2.2.1 s hs).2.2.2 j hj

set_option maxHeartbeats 1000000 in
theorem law_write {g : zG} {S : zSto} (h : zRel S) (s i : Int32) (v : Int64) : zLw Value.long g yX5_write cX5_write 7 yX6_write cX6_write 8 (some .long) [.int s, .int i, .long v] S := by
  obtain ⟨τ, ht⟩ := h.1
  have h1 := rl_h ht
  have hI := ht.2.2
  obtain ⟨n, h9, hn⟩ := hI.2.2.2.1
  by_cases hc : (nI 0 ≤ s ∧ s ≤ nI 3)
  · obtain ⟨s, -, sh, rfl⟩ := zrng_inv hc (by decide) (by decide)
    obtain ⟨a, b, ⟨m, c1, c2⟩, d⟩ := h.2.2.2.1 s (by omega)
    by_cases hb : S.1 31 s = 0
    · exact lw_gen (c_write_mis (by omega) hb) (n_write_mis (S := zfin S 33 5) (by omega) (a.symm.trans hb)) (zRel_fin h)
    · by_cases hi : nI 0 ≤ i ∧ i ≤ S.1 32 s - nI 1
      · obtain ⟨i, ih, rfl⟩ := zperN_inv c2 (by omega) hi
        have m1 := n_write_ok (g := g) (S := zsl S (27 + s) i (znar (S.1 31 s) v)) (s := s) (v := v) (by omega) (fun z => hb (a.trans z)) (b.symm.trans c2) c1 ih
        rw [show (zsl S (27 + s) i (znar (S.1 31 s) v)).2 43 (40 * s + i) = S.2 (27 + s) i from (if_neg (by omega)).trans (d i (by omega)).symm, show (zsl S (27 + s) i (znar (S.1 31 s) v)).1 41 s = S.1 31 s from a.symm] at m1
        exact lw_gen (c_write_ok (by omega) hb c2 c1 ih) m1 (zRel_write (by omega) (by omega) h)
      · exact lw_gen (c_write_out (by omega) hb hi) (n_write_out (S := zfin S 33 0) (by omega) (fun z => hb (a.trans z)) (fun z => hi (by rw [b]; exact z))) (zRel_fin h)
  · exact lw_fin ht h (c_write_no hc) (fun σ => n_write_no hc)

theorem zRel_copy {S : zSto} {s t a b m : Nat} (hs : s < 4) (ht : t < 4) (h1 : a + m ≤ 40) (h2 : b + m ≤ 40) (h : zRel S) : zRel (zwr (zwr (zcl S (27 + s) (27 + t) a b m) 44 0 (fun i => (zcl S (27 + s) (27 + t) a b m).2 43 (40 * s + a + i)) m) 43 (40 * t + b) (fun i => (zcl S (27 + s) (27 + t) a b m).2 43 (40 * s + a + i)) m) := by
  have e43 : ∀ i, (zcl S (27 + s) (27 + t) a b m).2 43 i = S.2 43 i := fun i => if_neg (by omega)
  refine zRel_l h rfl (rl_s_put ht h.2.2.2.1 (fun _ _ _ => rfl) (fun x j hx hne => ?_) (fun j hj => ?_) (fun j hj => ?_))
  · rw [zwr_ne (by omega), zwr_ne (by omega), zcl_ne (by omega)]
  · rw [zwr_ne (by omega), zwr_ne (by omega), zcl_ne (by omega)]
  · by_cases hj2 : b ≤ j ∧ j < b + m
    · rw [zwr_ne (by omega), zwr_ne (by omega), zcl_in ⟨rfl, hj2⟩, zwr_in (by omega), e43, (h.2.2.2.1 s hs).2.2.2 _ (by omega), show 40 * s + (a + (j - b)) = 40 * s + a + (40 * t + j - (40 * t + b)) by omega]
    · rw [zwr_ne (by omega), zwr_ne (by omega), zcl_ne (by omega), zwr_ne (by omega), zwr_ne (by omega), e43]
      exact (h.2.2.2.1 t ht).2.2.2 j hj

set_option maxHeartbeats 1000000 in
theorem law_copy {g : zG} {S : zSto} (h : zRel S) (s a t b m : Int32) : zLw Value.int g yX5_copy cX5_copy 6 yX6_copy cX6_copy 7 (some .int) [.int s, .int a, .int t, .int b, .int m] S := by
  obtain ⟨τ, ht⟩ := h.1
  have h1 := rl_h ht
  have hI := ht.2.2
  obtain ⟨n, h9, hn⟩ := hI.2.2.2.1
  by_cases hc : (nI 0 ≤ s ∧ s ≤ nI 3) ∧ (nI 0 ≤ t ∧ t ≤ nI 3)
  · obtain ⟨s, -, sh, rfl⟩ := zrng_inv hc.1 (by decide) (by decide)
    obtain ⟨t, -, th, rfl⟩ := zrng_inv hc.2 (by decide) (by decide)
    obtain ⟨a1, b1, ⟨m1, c1, d1⟩, e1⟩ := h.2.2.2.1 s (by omega)
    obtain ⟨a2, b2, ⟨m2, c2, d2⟩, e2⟩ := h.2.2.2.1 t (by omega)
    by_cases hb : S.1 31 s = 0 ∨ S.1 31 t = 0
    · exact lw_gen (mk := Value.int) (c_copy_mis (by omega) (by omega) hb) (n_copy_mis (S := zfin S 33 5) (by omega) (by omega) (hb.elim (fun z => Or.inl (a1.symm.trans z)) (fun z => Or.inr (a2.symm.trans z)))) (zRel_fin h)
    · have hb1 : ¬ S.1 31 s = 0 := fun z => hb (Or.inl z)
      have hb2 : ¬ S.1 31 t = 0 := fun z => hb (Or.inr z)
      have hb1' : ¬ S.1 41 s = 0 := fun z => hb1 (a1.trans z)
      have hb2' : ¬ S.1 41 t = 0 := fun z => hb2 (a2.trans z)
      by_cases hk : S.1 31 s = S.1 31 t
      · by_cases hr : (0 ≤ a ∧ 0 ≤ m ∧ a ≤ S.1 32 s ∧ m ≤ S.1 32 s - a) ∧ (0 ≤ b ∧ 0 ≤ m ∧ b ≤ S.1 32 t ∧ m ≤ S.1 32 t - b)
        · obtain ⟨a, m, rfl, rfl, h5⟩ := zpart_inv d1 c1 hr.1
          obtain ⟨b, m', rfl, hm, h6⟩ := zpart_inv d2 c2 hr.2
          obtain rfl : m = m' := zinj hm (by omega) (by omega)
          exact lw_gen (mk := Value.int) (c_copy_ok (by omega) (by omega) hb1 hb2 hk d1 c1 d2 c2 h5 h6) (n_copy_ok (S := zcl S (27 + s) (27 + t) a b m) (by omega) (by omega) hb1' hb2' (b1.symm.trans d1) c1 (b2.symm.trans d2) c2 (a1.symm.trans (hk.trans a2)) h5 h6) (zRel_copy (by omega) (by omega) (by omega) (by omega) h)
        · exact lw_gen (mk := Value.int) (c_copy_out (by omega) (by omega) hb1 hb2 hk hr) (n_copy_out (S := zfin S 33 0) (by omega) (by omega) hb1' hb2' (b1.symm.trans d1) c1 (b2.symm.trans d2) c2 (a1.symm.trans (hk.trans a2)) (fun z => hr (by rw [b1, b2]; exact z))) (zRel_fin h)
      · exact lw_gen (mk := Value.int) (c_copy_kind (by omega) (by omega) hb1 hb2 hk) (n_copy_kind (S := zfin S 33 2) (by omega) (by omega) hb1' hb2' (fun z => hk (a1.trans (z.trans a2.symm)))) (zRel_fin h)
  · exact lw_fin ht h (c_copy_no hc) (fun σ => n_copy_no hc)
