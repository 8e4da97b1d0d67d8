/-! the tape -/
theorem zby_and (y : Int32) : ∃ b, b < 256 ∧ y &&& nI 255 = nI b ∧ y.toInt8.toInt32 = zby b := by
  obtain ⟨b, hb, e⟩ := pk_andE y (m := nI 255) 8 (by decide)
  refine ⟨b, hb, e, ?_⟩
  unfold zby
  rw [← e]
  congr 1
  apply Int8.toBitVec_inj.mp
  rw [Int32.toBitVec_toInt8, Int32.toBitVec_toInt8, Int32.toBitVec_and, BitVec.signExtend_eq_setWidth_of_le _ (by decide), BitVec.signExtend_eq_setWidth_of_le _ (by decide), BitVec.setWidth_and]
  rw [show BitVec.setWidth 8 (nI 255).toBitVec = BitVec.allOnes 8 by decide, BitVec.and_allOnes]
theorem zfc_ne {x : Int32} {a i : Nat} (h : a ≠ 23) (h' : ¬ (a = 22 ∧ i = 1)) : ∀ (r n : Nat) (S : zSto), (zfc x r n S).1 a i = S.1 a i
  | 0, _, _ => rfl
  | r + 1, n, S => by
    show (zfc x r (n + 1) _).1 a i = _
    rw [zfc_ne h h' r (n + 1) _]
    show (zsi (zsi S 23 n _) 22 1 _).1 a i = _
    rw [zsi_ne h', zsi_ne (fun z => h z.1)]
theorem zfc_2 {x : Int32} : ∀ (r n : Nat) (S : zSto), (zfc x r n S).2 = S.2
  | 0, _, _ => rfl
  | r + 1, n, S => by
    show (zfc x r (n + 1) _).2 = _
    rw [zfc_2 r (n + 1) _]; rfl
theorem zfm_ne {x : Int32} {a i : Nat} (h : a ≠ 40) (h' : ¬ (a = 34 ∧ i = 7)) : ∀ (r n : Nat) (S : zSto), (zfm x r n S).1 a i = S.1 a i
  | 0, _, _ => rfl
  | r + 1, n, S => by
    show (zfm x r (n + 1) _).1 a i = _
    rw [zfm_ne h h' r (n + 1) _]
    show (zsi (zsi S 40 n _) 34 7 _).1 a i = _
    rw [zsi_ne h', zsi_ne (fun z => h z.1)]
theorem zfm_2 {x : Int32} : ∀ (r n : Nat) (S : zSto), (zfm x r n S).2 = S.2
  | 0, _, _ => rfl
  | r + 1, n, S => by
    show (zfm x r (n + 1) _).2 = _
    rw [zfm_2 r (n + 1) _]; rfl
theorem zfed {x : Int32} : ∀ (r n : Nat) (S T : zSto) (B : Nat → Nat), n + r ≤ 120 → zTp S B n → mT T B n → ∃ B', zTp (zfc x r n S) B' (n + r) ∧ mT (zfm x r n T) B' (n + r)
  | 0, n, S, T, B, _, h1, h2 => ⟨B, h1, h2⟩
  | r + 1, n, S, T, B, hn, h1, h2 => by
    obtain ⟨b, hb, e1, e2⟩ := zby_and (x >>> ((nI 8 * nI r) &&& 31))
    have e : n + 1 + r = n + (r + 1) := by omega
    rw [← e]
    refine zfed r (n + 1) _ _ (fun i => if i = n then b else B i) (by omega) ⟨?_, by omega, fun i hi => ?_⟩ ⟨?_, by omega, fun i hi => ?_⟩
    · exact ztad_len
    · show (if i = n then b else B i) < 256 ∧ _ = zby (if i = n then b else B i)
      by_cases hin : i = n
      · rw [if_pos hin]
        refine ⟨hb, ?_⟩
        show (zsi (zsi S 23 n _) 22 1 _).1 23 i = _
        rw [zsi_ne (by omega), hin, ← e2]
        exact if_pos ⟨rfl, rfl⟩
      · rw [if_neg hin]
        refine ⟨(h1.2.2 i (by omega)).1, ?_⟩
        show (zsi (zsi S 23 n _) 22 1 _).1 23 i = _
        rw [zsi_ne (by omega), zsi_ne (by omega)]
        exact (h1.2.2 i (by omega)).2
    · exact ztad_len
    · show (if i = n then b else B i) < 256 ∧ _ = nI (if i = n then b else B i)
      by_cases hin : i = n
      · rw [if_pos hin]
        refine ⟨hb, ?_⟩
        show (zsi (zsi T 40 n _) 34 7 _).1 40 i = _
        rw [zsi_ne (by omega), hin, ← e1]
        exact if_pos ⟨rfl, rfl⟩
      · rw [if_neg hin]
        refine ⟨(h2.2.2 i (by omega)).1, ?_⟩
        show (zsi (zsi T 40 n _) 34 7 _).1 40 i = _
        rw [zsi_ne (by omega), zsi_ne (by omega)]
        exact (h2.2.2 i (by omega)).2
theorem zRel_fed {x : Int32} {S : zSto} {B : Nat → Nat} {n k : Nat} (h : zRel S) (a : zTp S B n) (b : mT S B n) (hf : n + k ≤ 120) : zRel (zfm x k n (zfc x k n S)) := by
  obtain ⟨⟨τ, t⟩, kk, p, s, f⟩ := h
  have e : ∀ z i, ¬ (z = 23 ∨ (z = 22 ∧ i = 1) ∨ z = 40 ∨ (z = 34 ∧ i = 7)) → (zfm x k n (zfc x k n S)).1 z i = S.1 z i := fun z i hz => (zfm_ne (by omega) (by omega) k n _).trans (zfc_ne (by omega) (by omega) k n S)
  have e2 : (zfm x k n (zfc x k n S)).2 = S.2 := (zfm_2 k n _).trans (zfc_2 k n S)
  refine ⟨⟨τ, rl_t_c t (fun x i hx => e x i (by omega))⟩, rl_k_c kk (fun x i hx => e x i (by omega)), ?_, rl_s_c s (fun x i hx => e x i (by omega)) (fun x _ => by rw [e2]), rl_f_c f (fun x i hx => e x i (by omega))⟩
  have b' : mT (zfc x k n S) B n := ⟨(zfc_ne (by omega) (by omega) k n S).trans b.1, b.2.1, fun i hi => ⟨(b.2.2 i hi).1, (zfc_ne (by omega) (by omega) k n S).trans (b.2.2 i hi).2⟩⟩
  obtain ⟨B', h1, h2⟩ := zfed (x := x) k n S (zfc x k n S) B hf a b'
  refine ⟨B', n + k, ⟨?_, h1.2.1, fun i hi => ⟨(h1.2.2 i hi).1, ?_⟩⟩, h2⟩
  · rw [zfm_ne (by omega) (by omega)]; exact h1.1
  · rw [zfm_ne (by omega) (by omega)]; exact (h1.2.2 i hi).2
theorem zRel_wipe {S : zSto} (h : zRel S) : zRel (zsi (zsi S 22 1 (nI 0)) 34 7 (nI 0)) := by
  obtain ⟨⟨τ, t⟩, kk, p, s, f⟩ := h
  have e : ∀ x i, ¬ (x = 22 ∧ i = 1) → ¬ (x = 34 ∧ i = 7) → (zsi (zsi S 22 1 (nI 0)) 34 7 (nI 0)).1 x i = S.1 x i := fun x i h1 h2 => (zsi_ne h2).trans (zsi_ne h1)
  exact ⟨⟨τ, rl_t_c t (fun x i hx => e x i (by omega) (by omega))⟩, rl_k_c kk (fun x i hx => e x i (by omega) (by omega)), ⟨fun _ => 0, 0, ⟨rfl, by decide, fun i hi => absurd hi (Nat.not_lt_zero _)⟩, ⟨rfl, by decide, fun i hi => absurd hi (Nat.not_lt_zero _)⟩⟩, rl_s_c s (fun x i hx => e x i (by omega) (by omega)) (fun _ _ => rfl), rl_f_c f (fun x i hx => e x i (by omega) (by omega))⟩

set_option maxHeartbeats 1000000 in
theorem law_feed {g : zG} {S : zSto} (h : zRel S) (x k : Int32) : zLw Value.int g yX5_feed cX5_feed 4 yX6_feed cX6_feed 4 (some .int) [.int x, .int k] S := by
  obtain ⟨τ, ht⟩ := h.1
  have h1 := rl_h ht
  have hI := ht.2.2
  obtain ⟨n, h9, hn⟩ := hI.2.2.2.1
  obtain ⟨B, L, a, b⟩ := h.2.2.1
  by_cases hc : (nI 1 ≤ k ∧ k ≤ nI 4)
  · obtain ⟨k, kl, kh, rfl⟩ := zrng_inv hc (by decide) (by decide)
    have b1 : (zfin S 33 1).1 34 7 = nI L := b.1
    by_cases hf : L + k ≤ 120
    · exact lw_gen (c_feed_ok a.1 a.2.1 kl kh hf) (n_feed_ok ((zfc_ne (by omega) (by omega) k L S).trans b.1) a.2.1 kl kh hf) (zRel_fed h a b hf)
    · exact lw_gen (c_feed_full a.1 a.2.1 kl kh hf) (n_feed_full b1 a.2.1 kl kh hf) (zRel_fin h)
  · exact lw_fin ht h (c_feed_no hc) (fun σ => n_feed_no hc)

set_option maxHeartbeats 1000000 in
theorem law_wipe {g : zG} {S : zSto} (h : zRel S) : zLw Value.int g yX5_wipe cX5_wipe 2 yX6_wipe cX6_wipe 2 (some .int) [] S := by
  obtain ⟨τ, ht⟩ := h.1
  have h1 := rl_h ht
  have hI := ht.2.2
  obtain ⟨n, h9, hn⟩ := hI.2.2.2.1
  obtain ⟨B, L, a, b⟩ := h.2.2.1
  have m := n_wipe (g := g) (S := zsi S 22 1 (nI 0))
  rw [show (zsi S 22 1 (nI 0)).1 34 7 = S.1 22 1 from b.1.trans a.1.symm] at m
  exact lw_gen (mk := Value.int) c_wipe m (zRel_wipe h)

/-! the text -/
theorem zRel_text {S T T' : zSto} {P : zTn} (h : zRel S) (hJ : zJ S T) (hI : zTI 100000 P) (hJ' : zJ (zsi (zpt T 1 P) 22 1 (nI 0)) T') : zRel (zsi (zpm T' P) 34 7 (nI 0)) := by
  have h0 := zRel_wipe (zRel_town (zRel_J h hJ) hI)
  refine zRel_J h0 ⟨fun x i hx => ?_, fun x hx => hJ'.2 x hx⟩
  show (if x = 34 ∧ i = 7 then nI 0 else if x = 35 ∧ i < 48 then zix P i else T'.1 x i) = (if x = 34 ∧ i = 7 then nI 0 else if x = 22 ∧ i = 1 then nI 0 else if x = 35 ∧ i < 48 then zix P i else (zpt T 1 P).1 x i)
  rw [hJ'.1 x i hx]
  show (if x = 34 ∧ i = 7 then nI 0 else if x = 35 ∧ i < 48 then zix P i else if x = 22 ∧ i = 1 then nI 0 else (zpt T 1 P).1 x i) = _
  by_cases h1 : x = 22 ∧ i = 1
  · rw [if_pos h1, if_neg (show ¬ (x = 34 ∧ i = 7) by omega), if_neg (show ¬ (x = 35 ∧ i < 48) by omega), if_neg (show ¬ (x = 34 ∧ i = 7) by omega), if_pos h1]
  · rw [if_neg h1, if_neg h1]
theorem rl_t_text {S T : zSto} {τ P : zTn} (h : rl_t S τ) (hJ : zJ S T) : zpm (zsi (zpt T 1 P) 22 1 (nI 0)) τ = zsi (zpt T 1 P) 22 1 (nI 0) := by
  refine Prod.ext (funext fun x => funext fun i => ?_) rfl
  show (if x = 35 ∧ i < 48 then zix τ i else (zsi (zpt T 1 P) 22 1 (nI 0)).1 x i) = (zsi (zpt T 1 P) 22 1 (nI 0)).1 x i
  by_cases h1 : x = 35 ∧ i < 48
  · rw [if_pos h1, zsi_ne (by omega), zpt_1_ne (by omega), h1.1, hJ.1 35 i (by omega), h.2.1 i h1.2]
  · rw [if_neg h1]
theorem mT_text {S T : zSto} {P : zTn} {B : Nat → Nat} {L : Nat} (h : mT S B L) (hJ : zJ S T) : mT (zsi (zpt T 1 P) 22 1 (nI 0)) B L := by
  have e : ∀ x i, (x = 34 ∧ i = 7) ∨ x = 40 → (zsi (zpt T 1 P) 22 1 (nI 0)).1 x i = S.1 x i := fun x i hx => (zsi_ne (by omega)).trans ((zpt_1_ne (by omega)).trans (hJ.1 x i (by omega)))
  exact ⟨(e _ _ (by omega)).trans h.1, h.2.1, fun i hi => ⟨(h.2.2 i hi).1, (e _ _ (by omega)).trans (h.2.2 i hi).2⟩⟩

set_option maxHeartbeats 1000000 in
theorem law_town {g : zG} {S : zSto} (h : zRel S) : zLw Value.int g yX5_town cX5_town 2 yX6_town cX6_town 2 (some .int) [] S := by
  obtain ⟨τ, ht⟩ := h.1
  have h1 := rl_h ht
  have hI := ht.2.2
  obtain ⟨n, h9, hn⟩ := hI.2.2.2.1
  obtain ⟨B, L, a, b⟩ := h.2.2.1
  have main : ∀ (r : Int32) (P : zTn) (E : Option Value → zSto → Prop), zEv g 8 yX5_town cX5_town 2 (some .int) [.ref (zad g 0)] S E → (∀ r1 s1, E r1 s1 → r1 = some (.int r) ∧ ∃ T, zJ S T ∧ s1 = zsi (zpt T 1 P) 22 1 (nI 0)) → r = zans (p_txt B L τ) → P = p_tw (p_txt B L τ) τ → zTI 100000 P → zLw Value.int g yX5_town cX5_town 2 yX6_town cX6_town 2 (some .int) [] S := by
    intro r P E c hE hr hP hIP
    refine ⟨r, E, c, fun r1 s1 e => ?_⟩
    obtain ⟨e1, T, hJ, rfl⟩ := hE r1 s1 e
    refine ⟨e1, ?_⟩
    have m := n_town (g := g) (mT_text (P := P) b hJ) hI
    rw [rl_t_text ht hJ] at m
    refine ⟨_, m, fun r2 s2 e2 => ?_⟩
    obtain ⟨e3, T', hJ', rfl⟩ := e2
    refine ⟨by rw [e3, hr], ?_⟩
    rw [← hP]
    exact zRel_text h hJ hIP hJ'
  by_cases hok : (p_txt B L τ).1 = true
  · exact main _ (p_txt B L τ).2.2.2 _ (c_town_ok a h1 hI hok) (fun r1 s1 e => e) (if_pos hok).symm (if_pos hok).symm (zTI_run _ _ _ _ hI)
  · exact main _ τ _ (c_town_no a h1 hI hok) (fun r1 s1 e => ⟨e.1, by obtain ⟨-, T, hJ, rfl⟩ := e; exact ⟨T, hJ, by rw [show zpt T 1 τ = T from rl_h (rl_tJ ht hJ)]⟩⟩) (if_neg hok).symm (if_neg hok).symm hI
