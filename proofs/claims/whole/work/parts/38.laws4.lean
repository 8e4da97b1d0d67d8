theorem rl_m_pt {S : zSto} {τ τ' : zTn} (ht : rl_t S τ) : zpm (zpt S 1 τ') τ = zpt S 1 τ' := by
  refine Prod.ext (funext fun a => funext fun b => ?_) rfl
  show (if a = 35 ∧ b < 48 then zix τ b else (zpt S 1 τ').1 a b) = (zpt S 1 τ').1 a b
  by_cases h1 : a = 35 ∧ b < 48
  · rw [if_pos h1, zpt_1_ne (by omega), h1.1, ht.2.1 b h1.2]
  · rw [if_neg h1]
theorem lw_fin1 {α : Type} {mk : α → Value} {g : zG} {y y' : MethodName} {cy cy' : ByteArray} {n n' : Nat} {ret : Option FieldType} {as : List Value} {S : zSto} {τ : zTn} {r : α} {k : Nat} (ht : rl_t S τ) (h : zRel S) (c : zEd g 8 y cy n ret (.ref (zad g 0) :: as) S (some (mk r)) (zfin S 33 k)) (m : zEd g 8 y' cy' n' ret (.ref (zad g 34) :: as) (zpm (zfin S 33 k) τ) (some (mk r)) (zfin (zpm (zfin S 33 k) τ) 39 k)) : zLw mk g y cy n y' cy' n' ret as S := by
  rw [rl_m (rl_t_fin ht)] at m
  exact lw_gen c m (zRel_fin h)
theorem p_ly_c {f f' : Nat → Int64} {τ : zTn} : ∀ k, (∀ i, i < k → f i = f' i) → p_ly f τ k = p_ly f' τ k
  | 0, _ => rfl
  | k + 1, h => by
    have e := p_ly_c k (fun i hi => h i (by omega)) (τ := τ)
    unfold p_ly
    rw [e, h k (by omega)]
theorem zok_lt {v : Int64} (h : zok v) : zlt v.toInt32 10000 := by
  have h1 := Int64.le_iff_toInt_le.mp h.1
  have h2 := Int64.le_iff_toInt_le.mp h.2
  rw [lN_toInt (by decide)] at h1 h2
  refine ⟨v.toInt.toNat, by omega, ?_⟩
  apply Int32.toInt_inj.mp
  rw [nI_toInt (by omega), Int64.toInt_toInt32, Int.bmod_eq_of_le (by omega) (by omega)]
  omega
theorem zTI_ly {f : Nat → Int64} {B : Nat} {τ : zTn} (h : zTI B τ) : ∀ k, zTI B (p_ly f τ k).1
  | 0 => h
  | k + 1 => by
    by_cases hk : zok (f k)
    · rw [p_ly_1 hk]; exact zTI_5 (zTI_ly h k) (zok_lt hk)
    · rw [p_ly_0 hk]; exact zTI_ly h k

set_option maxHeartbeats 1000000 in
theorem law_lays {g : zG} {S : zSto} (h : zRel S) (s : Int32) : zLw Value.int g yX5_lays cX5_lays 7 yX6_lays cX6_lays 6 (some .int) [.int s] S := by
  obtain ⟨τ, ht⟩ := h.1
  have h1 := rl_h ht
  have hI := ht.2.2
  obtain ⟨n, h9, hn⟩ := hI.2.2.2.1
  by_cases hc : (nI 0 ≤ s ∧ s ≤ nI 3)
  · obtain ⟨s, -, sh, rfl⟩ := zrng_inv hc (by decide) (by decide)
    obtain ⟨a, b, ⟨m, c1, c2⟩, d⟩ := h.2.2.2.1 s (by omega)
    by_cases hb : S.1 31 s = 0
    · exact lw_fin1 (mk := Value.int) ht h (c_lays_mis (by omega) hb) (n_lays_mis (σ := zfin S 33 5) (by omega) (a.symm.trans hb))
    · have e : p_ly (fun i => S.2 43 (40 * s + i)) τ (min m n) = p_ly (S.2 (27 + s)) τ (min m n) := p_ly_c _ (fun i hi => (d i (by omega)).symm)
      have m1 := n_lays_ok (g := g) (σ := zpt S 1 (p_ly (S.2 (27 + s)) τ (min m n)).1) (τ := τ) (s := s) (by omega) (fun z => hb (a.trans ((zpt_1_ne (by omega)).symm.trans z))) ((zpt_1_ne (by omega)).trans (b.symm.trans c2)) c1 hn h9
      rw [rl_m_pt ht] at m1
      have e' : p_ly (fun i => (zpt S 1 (p_ly (S.2 (27 + s)) τ (min m n)).1).2 43 (40 * s + i)) τ (min m n) = p_ly (S.2 (27 + s)) τ (min m n) := e
      rw [e'] at m1
      exact lw_gen (mk := Value.int) (c_lays_ok (by omega) hb h1 c2 c1 hn h9) m1 (zRel_town h (zTI_ly hI _))
  · exact lw_fin ht h (c_lays_no hc) (fun σ => n_lays_no hc)

theorem zRel_book {S : zSto} {s a : Nat} {f : Nat → Int64} (hs : s < 4) (ha : a ≤ 40) (h : zRel S) : zRel (zwr (zwr S (27 + s) 0 f a) 43 (40 * s) f a) := by
  refine zRel_l h rfl (rl_s_put hs h.2.2.2.1 (fun _ _ _ => rfl) (fun x j hx hne => ?_) (fun j hj => ?_) (fun j hj => ?_))
  · rw [zwr_ne (by omega), zwr_ne (by omega)]
  · rw [zwr_ne (by omega), zwr_ne (by omega)]
  · by_cases hja : j < a
    · rw [zwr_ne (by omega), zwr_in (by omega), zwr_in (by omega), show 40 * s + j - 40 * s = j - 0 by omega]
    · rw [zwr_ne (by omega), zwr_ne (by omega), zwr_ne (by omega), zwr_ne (by omega)]
      exact (h.2.2.2.1 s hs).2.2.2 j hj

set_option maxHeartbeats 1000000 in
theorem law_book {g : zG} {S : zSto} (h : zRel S) (s p : Int32) : zLw Value.int g yX5_book cX5_book 4 yX6_book cX6_book 5 (some .int) [.int s, .int p] S := by
  obtain ⟨τ, ht⟩ := h.1
  have h1 := rl_h ht
  have hI := ht.2.2
  obtain ⟨n, h9, hn⟩ := hI.2.2.2.1
  by_cases hc : (nI 0 ≤ s ∧ s ≤ nI 3)
  · obtain ⟨s, -, sh, rfl⟩ := zrng_inv hc (by decide) (by decide)
    obtain ⟨a, b, ⟨m, c1, c2⟩, d⟩ := h.2.2.2.1 s (by omega)
    by_cases hb : S.1 31 s = 0
    · exact lw_fin1 (mk := Value.int) ht h (c_book_mis (by omega) hb) (n_book_mis (σ := zfin S 33 5) (by omega) (a.symm.trans hb))
    · by_cases hp : nI 0 ≤ p ∧ p ≤ τ 0 3 - nI 1
      · obtain ⟨p, ph, rfl⟩ := zper_inv hn h9 hp
        refine ⟨nI m, _, c_book_ok (by omega) hb h1 hI hn h9 ph c2 c1, fun r1 s1 e => ⟨e.1, ?_⟩⟩
        obtain ⟨-, hJ⟩ := e
        have e41 : s1.1 41 s = S.1 31 s := (hJ.1 41 s (by omega)).trans a.symm
        have e42 : s1.1 42 s = nI m := (hJ.1 42 s (by omega)).trans (b.symm.trans c2)
        have t1 : rl_t s1 τ := rl_t_c ht (fun x i hx => hJ.1 x i (by omega))
        have m1 := n_book_ok (g := g) (σ := s1) (τ := τ) (s := s) (by omega) (fun z => hb (e41.symm.trans z)) e42 c1 hI hn h9 ph
        rw [rl_m t1] at m1
        refine ⟨_, m1, fun r2 s2 e2 => ⟨e2.1, ?_⟩⟩
        obtain ⟨-, hJ2⟩ := e2
        have t2 : rl_t (zwr s1 43 (40 * s) (p_bf (s1.1 41 s) τ p) m) τ := rl_t_c t1 (fun _ _ _ => rfl)
        rw [rl_m t2, e41] at hJ2
        refine zRel_J (zRel_book (s := s) (f := p_bf (S.1 31 s) τ p) (by omega) c1 h) (zJ_tr (S' := zwr s1 43 (40 * s) (p_bf (S.1 31 s) τ p) m) ⟨fun x i hx => hJ.1 x i hx, fun x hx => ?_⟩ hJ2)
        show (fun i => if x = 43 ∧ 40 * s ≤ i ∧ i < 40 * s + m then _ else s1.2 x i) = (fun i => if x = 43 ∧ 40 * s ≤ i ∧ i < 40 * s + m then _ else (zwr S (27 + s) 0 (p_bf (S.1 31 s) τ p) m).2 x i)
        rw [hJ.2 x hx]
      · exact lw_fin1 (mk := Value.int) ht h (c_book_out (by omega) hb h1 hp) (n_book_out (σ := zfin S 33 0) (by omega) (fun z => hb (a.trans z)) hp)
  · exact lw_fin ht h (c_book_no hc) (fun σ => n_book_no hc)

theorem p_bk_c {f f' : Nat → Int64} {t : zTn} {p : Nat} : ∀ k, (∀ i, i < k → f i = f' i) → p_bk f t p k = p_bk f' t p k
  | 0, _ => rfl
  | k + 1, h => by
    unfold p_bk
    rw [p_bk_c k (fun i hi => h i (by omega)), h k (by omega)]

set_option maxHeartbeats 1000000 in
theorem law_read {g : zG} {S : zSto} (h : zRel S) (s p q : Int32) : zLw Value.int g yX5_read cX5_read 7 yX6_read cX6_read 7 (some .int) [.int s, .int p, .int q] S := by
  obtain ⟨τ, ht⟩ := h.1
  have h1 := rl_h ht
  have hI := ht.2.2
  obtain ⟨n, h9, hn⟩ := hI.2.2.2.1
  by_cases hc : (nI 0 ≤ s ∧ s ≤ nI 3)
  · obtain ⟨s, -, sh, rfl⟩ := zrng_inv hc (by decide) (by decide)
    obtain ⟨a, b, ⟨m, c1, c2⟩, d⟩ := h.2.2.2.1 s (by omega)
    by_cases hb : S.1 31 s = 0
    · exact lw_fin1 (mk := Value.int) ht h (c_read_mis (by omega) hb) (n_read_mis (σ := zfin S 33 5) (by omega) (a.symm.trans hb))
    · by_cases hp : (nI 0 ≤ p ∧ p ≤ τ 0 3 - nI 1) ∧ (nI 0 ≤ q ∧ q ≤ τ 0 3 - nI 1) ∧ ¬ p = q
      · obtain ⟨p, ph, rfl⟩ := zper_inv hn h9 hp.1
        obtain ⟨q, qh, rfl⟩ := zper_inv hn h9 hp.2.1
        have hpq : ¬ p = q := fun z => hp.2.2 (by rw [z])
        refine ⟨_, _, c_read_ok (by omega) hb h1 hI hn h9 ph qh hpq c2 c1, fun r1 s1 e => ⟨e.1, ?_⟩⟩
        obtain ⟨-, hJ⟩ := e
        have e41 : s1.1 41 s = S.1 31 s := (hJ.1 41 s (by omega)).trans a.symm
        have e42 : s1.1 42 s = nI m := (hJ.1 42 s (by omega)).trans (b.symm.trans c2)
        have m1 := n_read_ok (g := g) (σ := s1) (τ := τ) (s := s) (by omega) (fun z => hb (e41.symm.trans z)) e42 c1 hI hn h9 ph qh hpq
        have ef : (fun i => p_bk (fun i => s1.2 43 (40 * s + i)) (p_pr τ p q i) p m) = (fun i => p_bk (S.2 (27 + s)) (p_pr τ p q i) p m) := by
          funext i
          refine p_bk_c _ (fun j hj => ?_)
          rw [hJ.2 43 (by decide)]
          exact (d j (by omega)).symm
        rw [rl_m (rl_tJ ht hJ), ef] at m1
        exact ⟨_, m1, fun r2 s2 e2 => ⟨e2.1, zRel_J h (zJ_tr hJ e2.2)⟩⟩
      · exact lw_fin1 (mk := Value.int) ht h (c_read_out (by omega) hb h1 hp) (n_read_out (σ := zfin S 33 0) (by omega) (fun z => hb (a.trans z)) hp)
  · exact lw_fin ht h (c_read_no hc) (fun σ => n_read_no hc)

theorem zpt_15_ne {S : zSto} {τ : zTn} {x i : Nat} (h : ¬ (15 ≤ x ∧ x ≤ 21)) : (zpt S 15 τ).1 x i = S.1 x i := if_neg (fun z => h ⟨z.1, by have := zvl_7 z.2; omega⟩)
theorem zcp_ne {S : zSto} {a b j x i : Nat} (h : x ≠ b) : (zcp S a b j).1 x i = S.1 x i := if_neg (fun z => h z.1)
theorem zRel_image {S : zSto} {τ : zTn} (ht : rl_t S τ) (h : zRel S) : zRel (zsi (zcp (zsi (zpt S 15 τ) 0 3 (nI 1)) 35 36 48) 34 5 (nI 1)) := by
  obtain ⟨-, kk, p, s, f⟩ := h
  have e : ∀ x i, ¬ (15 ≤ x ∧ x ≤ 21) → ¬ (x = 0 ∧ i = 3) → x ≠ 36 → ¬ (x = 34 ∧ i = 5) → (zsi (zcp (zsi (zpt S 15 τ) 0 3 (nI 1)) 35 36 48) 34 5 (nI 1)).1 x i = S.1 x i := fun x i h1 h2 h3 h4 => (zsi_ne h4).trans ((zcp_ne h3).trans ((zsi_ne h2).trans (zpt_15_ne h1)))
  refine ⟨⟨τ, rl_t_c ht (fun x i hx => e x i (by omega) (by omega) (by omega) (by omega))⟩, Or.inr ⟨?_, zsi_at, τ, fun k j hv => ?_, fun i hi => ?_, ht.2.2⟩, rl_p_c p (fun x i hx => e x i (by omega) (by omega) (by omega) (by omega)), rl_s_c s (fun x i hx => e x i (by omega) (by omega) (by omega) (by omega)) (fun _ _ => rfl), rl_f_c f (fun x i hx => e x i (by omega) (by omega) (by omega) (by omega))⟩
  · rw [zsi_ne (by omega), zcp_ne (by omega)]; exact zsi_at
  · have := zvl_7 hv
    rw [zsi_ne (by omega), zcp_ne (by omega), zsi_ne (by omega)]
    exact zpt_at hv
  · rw [zsi_ne (by omega)]
    show (if 36 = 36 ∧ i < 48 then (zsi (zpt S 15 τ) 0 3 (nI 1)).1 35 i else _) = _
    rw [if_pos ⟨rfl, hi⟩, zsi_ne (by omega), zpt_15_ne (by omega)]
    exact ht.2.1 i hi

set_option maxHeartbeats 1000000 in
theorem law_image {g : zG} {S : zSto} (h : zRel S) : zLw Value.int g yX5_image cX5_image 1 yX6_image cX6_image 2 (some .int) [] S := by
  obtain ⟨τ, ht⟩ := h.1
  have h1 := rl_h ht
  have hI := ht.2.2
  obtain ⟨n, h9, hn⟩ := hI.2.2.2.1
  exact lw_gen (mk := Value.int) (c_image h1) n_image (zRel_image ht h)

theorem rl_k15 {S : zSto} {κ : zTn} (d : ∀ k j, zvl k j → S.1 (15 + k) j = κ k j) : zHd S 15 κ := by
  unfold zHd
  refine Prod.ext (funext fun a => funext fun b => ?_) rfl
  show (if 15 ≤ a ∧ zvl (a - 15) b then κ (a - 15) b else S.1 a b) = S.1 a b
  by_cases h1 : 15 ≤ a ∧ zvl (a - 15) b
  · rw [if_pos h1, ← d _ _ h1.2, show 15 + (a - 15) = a by omega]
  · rw [if_neg h1]
theorem zcp_pm {S : zSto} {κ : zTn} (e : ∀ i, i < 48 → S.1 36 i = zix κ i) : zcp S 36 35 48 = zpm S κ := by
  refine Prod.ext (funext fun a => funext fun b => ?_) rfl
  show (if a = 35 ∧ b < 48 then S.1 36 b else S.1 a b) = (if a = 35 ∧ b < 48 then zix κ b else S.1 a b)
  by_cases h1 : a = 35 ∧ b < 48
  · rw [if_pos h1, if_pos h1, e b h1.2]
  · rw [if_neg h1, if_neg h1]

set_option maxHeartbeats 1000000 in
theorem law_undo {g : zG} {S : zSto} (h : zRel S) : zLw Value.int g yX5_undo cX5_undo 1 yX6_undo cX6_undo 2 (some .int) [] S := by
  obtain ⟨τ, ht⟩ := h.1
  have h1 := rl_h ht
  have hI := ht.2.2
  obtain ⟨n, h9, hn⟩ := hI.2.2.2.1
  rcases h.2.1 with ⟨a, b⟩ | ⟨a, b, κ, d, e, f⟩
  · exact lw_gen (mk := Value.int) (c_undo_no a) (n_undo_no (S := zfin S 33 3) b) (zRel_fin h)
  · have e1 : ∀ i, i < 48 → (zpt S 1 κ).1 36 i = zix κ i := fun i hi => (zpt_1_ne (by omega)).trans (e i hi)
    have m1 := n_undo_ok (g := g) (S := zpt S 1 κ) (fun z => absurd (((zpt_1_ne (by omega)).trans b).symm.trans z) (by decide))
    rw [zcp_pm e1, e1 1 (by decide)] at m1
    exact lw_gen (mk := Value.int) (c_undo_ok (rl_k15 d) (fun z => absurd (a.symm.trans z) (by decide))) m1 (zRel_town h f)

set_option maxHeartbeats 1000000 in
theorem law_tear {g : zG} {S : zSto} (h : zRel S) : zLw Value.int g yX5_tear cX5_tear 2 yX6_tear cX6_tear 2 (some .int) [] S := by
  obtain ⟨τ, ht⟩ := h.1
  have h1 := rl_h ht
  have hI := ht.2.2
  obtain ⟨n, h9, hn⟩ := hI.2.2.2.1
  have hr : zRel (zsi (zsi S 0 3 (nI 0)) 34 5 (nI 0)) := by
    have e : ∀ x i, ¬ (x = 0 ∧ i = 3) → ¬ (x = 34 ∧ i = 5) → (zsi (zsi S 0 3 (nI 0)) 34 5 (nI 0)).1 x i = S.1 x i := fun x i h1 h2 => (zsi_ne h2).trans (zsi_ne h1)
    exact ⟨⟨τ, rl_t_c ht (fun x i hx => e x i (by omega) (by omega))⟩, Or.inl ⟨(zsi_ne (by omega)).trans zsi_at, zsi_at⟩, rl_p_c h.2.2.1 (fun x i hx => e x i (by omega) (by omega)), rl_s_c h.2.2.2.1 (fun x i hx => e x i (by omega) (by omega)) (fun _ _ => rfl), rl_f_c h.2.2.2.2 (fun x i hx => e x i (by omega) (by omega))⟩
  have m1 := n_tear (g := g) (S := zsi S 0 3 (nI 0))
  have ek : (zsi S 0 3 (nI 0)).1 34 5 = S.1 0 3 := (zsi_ne (by omega)).trans (by rcases h.2.1 with ⟨a, b⟩ | ⟨a, b, -⟩ <;> exact b.trans a.symm)
  rw [ek] at m1
  exact lw_gen (mk := Value.int) c_tear m1 hr

set_option maxHeartbeats 1000000 in
theorem law_count {g : zG} {S : zSto} (h : zRel S) (w : Int32) : zLw Value.int g yX5_count cX5_count 2 yX6_count cX6_count 2 (some .int) [.int w] S := by
  obtain ⟨τ, ht⟩ := h.1
  have h1 := rl_h ht
  have hI := ht.2.2
  obtain ⟨n, h9, hn⟩ := hI.2.2.2.1
  by_cases hc : (nI 0 ≤ w ∧ w ≤ nI 3)
  · obtain ⟨w, -, wh, rfl⟩ := zrng_inv hc (by decide) (by decide)
    obtain ⟨B, L, a, b⟩ := h.2.2.1
    have m1 := n_count_ok (g := g) (σ := S) (τ := τ) wh
    have e : p_cntm S τ w = p_cnt S τ w := by
      rcases (show w = 0 ∨ w = 1 ∨ w = 2 ∨ w = 3 by omega) with rfl | rfl | rfl | rfl
      · rfl
      · exact b.1.trans a.1.symm
      · rfl
      · rfl
    rw [rl_m ht, e] at m1
    exact lw_gen (mk := Value.int) (c_count_ok h1 wh) m1 h
  · exact lw_gen (mk := Value.int) (c_count_no hc) (n_count_no hc) (zRel_fin h)

theorem p_sum_c {f f' : Nat → Int32} : ∀ k, (∀ i, i < k → f i = f' i) → p_sum f k = p_sum f' k
  | 0, _ => rfl
  | k + 1, h => by
    unfold p_sum
    rw [p_sum_c k (fun i hi => h i (by omega)), h k (by omega)]
theorem zstat_no {w : Int32} (hm : ¬ w = -1) (hc : ¬ (nI 0 ≤ w ∧ w ≤ nI 6)) : ¬ (-1 ≤ w ∧ w ≤ nI 6) := fun z => hc ⟨by
  have h1 := Int32.le_iff_toInt_le.mp z.1
  have e1 : (-1 : Int32).toInt = -1 := by decide
  have e0 : (nI 0).toInt = 0 := by decide
  have hn : w.toInt ≠ -1 := fun q => hm (Int32.toInt_inj.mp (q.trans e1.symm))
  apply Int32.le_iff_toInt_le.mpr
  omega, z.2⟩

set_option maxHeartbeats 1000000 in
theorem law_status {g : zG} {S : zSto} (h : zRel S) (w : Int32) : zLw Value.int g yX5_status cX5_status 4 yX6_status cX6_status 4 (some .int) [.int w] S := by
  obtain ⟨τ, ht⟩ := h.1
  have h1 := rl_h ht
  have hI := ht.2.2
  obtain ⟨n, h9, hn⟩ := hI.2.2.2.1
  by_cases hm : w = -1
  · subst hm
    have m1 := n_status_all (g := g) (S := S)
    rw [p_sum_c (f := S.1 39) (f' := S.1 33) 7 (fun i hi => (h.2.2.2.2 i hi).symm)] at m1
    exact lw_gen (mk := Value.int) c_status_all m1 h
  · by_cases hc : (nI 0 ≤ w ∧ w ≤ nI 6)
    · obtain ⟨w, -, wh, rfl⟩ := zrng_inv hc (by decide) (by decide)
      have m1 := n_status_ok (g := g) (S := S) (k := w) (by omega)
      rw [← h.2.2.2.2 w (by omega)] at m1
      exact lw_gen (mk := Value.int) (c_status_ok (by omega)) m1 h
    · exact lw_gen (mk := Value.int) (c_status_no hm hc) (n_status_no (zstat_no hm hc)) (zRel_fin h)
