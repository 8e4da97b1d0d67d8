/-! THE REFERENCE'S TEXT -/
def l_by (B : Nat → Nat) (L i : Nat) : Int32 := if i < L then nI (B i) else -1
theorem l_by_f : ∀ b : Fin 256, ((nI b.val = nI 32 ↔ b.val = 32) ∧ (nI b.val = nI 59 ↔ b.val = 59)) ∧ ((nI 97 ≤ nI b.val ∧ nI b.val ≤ nI 122) ↔ l_let b.val = true) ∧ ((nI 48 ≤ nI b.val ∧ nI b.val ≤ nI 57) ↔ l_dig b.val = true) := by decide +kernel
section LBY
variable {B : Nat → Nat} {L i s : Nat}
theorem l_by_let (hb : ∀ i, i < L → B i < 256) : (nI 97 ≤ l_by B L i ∧ l_by B L i ≤ nI 122) ↔ (i < L ∧ l_let (B i) = true) := by
  unfold l_by
  by_cases h : i < L
  · rw [if_pos h]; exact ⟨fun z => ⟨h, (l_by_f ⟨B i, hb i h⟩).2.1.mp z⟩, fun z => (l_by_f ⟨B i, hb i h⟩).2.1.mpr z.2⟩
  · rw [if_neg h]; exact ⟨fun z => absurd z.1 (by decide), fun z => absurd z.1 h⟩
theorem l_by_dig (hb : ∀ i, i < L → B i < 256) : (nI 48 ≤ l_by B L i ∧ l_by B L i ≤ nI 57) ↔ (i < L ∧ l_dig (B i) = true) := by
  unfold l_by
  by_cases h : i < L
  · rw [if_pos h]; exact ⟨fun z => ⟨h, (l_by_f ⟨B i, hb i h⟩).2.2.mp z⟩, fun z => (l_by_f ⟨B i, hb i h⟩).2.2.mpr z.2⟩
  · rw [if_neg h]; exact ⟨fun z => absurd z.1 (by decide), fun z => absurd z.1 h⟩
theorem l_by_32 (hb : ∀ i, i < L → B i < 256) : l_by B L i = nI 32 ↔ (i < L ∧ B i = 32) := by
  unfold l_by
  by_cases h : i < L
  · rw [if_pos h]; exact ⟨fun z => ⟨h, (l_by_f ⟨B i, hb i h⟩).1.1.mp z⟩, fun z => (l_by_f ⟨B i, hb i h⟩).1.1.mpr z.2⟩
  · rw [if_neg h]; exact ⟨fun z => absurd z (by decide), fun z => absurd z.1 h⟩
theorem l_by_59 (hb : ∀ i, i < L → B i < 256) : l_by B L i = nI 59 ↔ (i < L ∧ B i = 59) := by
  unfold l_by
  by_cases h : i < L
  · rw [if_pos h]; exact ⟨fun z => ⟨h, (l_by_f ⟨B i, hb i h⟩).1.2.mp z⟩, fun z => (l_by_f ⟨B i, hb i h⟩).1.2.mpr z.2⟩
  · rw [if_neg h]; exact ⟨fun z => absurd z (by decide), fun z => absurd z.1 h⟩
/-- the number of a word to the base 32 -/
def l_hn (B : Nat → Nat) (s : Nat) : Nat → Nat
  | 0 => 0
  | k + 1 => if 36028797018963967 < l_hn B s k then l_hn B s k else 32 * l_hn B s k + (B (s + k) - 96)
def l_mw (B : Nat → Nat) (s : Nat) : Nat → Int64
  | 0 => lN 0
  | k + 1 => if lN 36028797018963967 < l_mw B s k then l_mw B s k else lN 32 * l_mw B s k + (nI (B (s + k)) - nI 96).toInt64
theorem l_mw_0 : l_mw B s 0 = lN 0 := rfl
theorem l_mw_1 {k : Nat} (h : lN 36028797018963967 < l_mw B s k) : l_mw B s (k + 1) = l_mw B s k := if_pos h
theorem l_mw_2 {k : Nat} (h : ¬ lN 36028797018963967 < l_mw B s k) : l_mw B s (k + 1) = lN 32 * l_mw B s k + (nI (B (s + k)) - nI 96).toInt64 := if_neg h
theorem l_hn_lt : ∀ k, (∀ j, j < k → 97 ≤ B (s + j) ∧ B (s + j) ≤ 122) → l_hn B s k < 2 ^ 62
  | 0, _ => show 0 < 2 ^ 62 by decide
  | k + 1, h => by
    have h1 := l_hn_lt k (fun j hj => h j (by omega))
    have h2 := h k (by omega)
    unfold l_hn
    split
    · exact h1
    · omega
theorem l_mw_eq : ∀ k, (∀ j, j < k → 97 ≤ B (s + j) ∧ B (s + j) ≤ 122) → l_mw B s k = lN (l_hn B s k)
  | 0, _ => rfl
  | k + 1, h => by
    have hk : ∀ j, j < k → 97 ≤ B (s + j) ∧ B (s + j) ≤ 122 := fun j hj => h j (by omega)
    have h1 := l_mw_eq k hk
    have h2 := h k (by omega)
    have h3 := l_hn_lt k hk
    have e : (lN 36028797018963967 < lN (l_hn B s k)) ↔ 36028797018963967 < l_hn B s k := by
      rw [Int64.lt_iff_toInt_lt]
      unfold lN
      rw [lg_ofNat_toInt (by decide), lg_ofNat_toInt (by omega)]
      omega
    unfold l_mw l_hn
    rw [h1]
    by_cases hc : 36028797018963967 < l_hn B s k
    · rw [if_pos hc, if_pos (e.mpr hc)]
    · rw [if_neg hc, if_neg (fun z => hc (e.mp z)), pk_sub (by omega), nI_l (by omega), lN_mul, lN_add]
/-- the number of the first n letters of the word i -/
def l_cn (i : Nat) : Nat → Nat
  | 0 => 0
  | n + 1 => 32 * l_cn i n + (zn (zTc i n) - 96)
theorem zTc_let : ∀ i, i < 12 → ∀ j, j < zTl i → 97 ≤ zn (zTc i j) ∧ zn (zTc i j) ≤ 122 ∧ zTc i j = nI (zn (zTc i j)) := by decide +kernel
theorem l_cn_le : ∀ i, i < 12 → ∀ n, n < 9 → n ≤ zTl i → l_cn i n ≤ 36028797018963967 := by decide +kernel
theorem l_hn_cn {i : Nat} (hi : i < 12) : ∀ n, n ≤ zTl i → ∀ m, (∀ j, j < m → 97 ≤ B (s + j) ∧ B (s + j) ≤ 122) → (l_hn B s m = l_cn i n ↔ (m = n ∧ ∀ j, j < n → B (s + j) = zn (zTc i j))) := by
  intro n
  induction n with
  | zero =>
    intro _ m h
    cases m with
    | zero => exact ⟨fun _ => ⟨rfl, fun j hj => absurd hj (Nat.not_lt_zero _)⟩, fun _ => rfl⟩
    | succ m =>
      have h2 := h m (by omega)
      refine ⟨fun z => ?_, fun z => by omega⟩
      exfalso
      unfold l_hn l_cn at z
      split at z <;> omega
  | succ n ih =>
    intro hn m h
    have hc := zTc_let i hi n (by omega)
    have h8 := zTl_8 i hi
    have hle := l_cn_le i hi (n + 1) (by omega) hn
    cases m with
    | zero =>
      refine ⟨fun z => ?_, fun z => by omega⟩
      exfalso
      unfold l_hn l_cn at z
      omega
    | succ m =>
      have h2 := h m (by omega)
      have ih' := ih (by omega) m (fun j hj => h j (by omega))
      have e : l_hn B s (m + 1) = l_cn i (n + 1) ↔ (l_hn B s m = l_cn i n ∧ B (s + m) = zn (zTc i n)) := by
        have hd : l_cn i (n + 1) = 32 * l_cn i n + (zn (zTc i n) - 96) := rfl
        have hh : l_hn B s (m + 1) = if 36028797018963967 < l_hn B s m then l_hn B s m else 32 * l_hn B s m + (B (s + m) - 96) := rfl
        rw [hd] at hle ⊢
        rw [hh]
        constructor
        · intro z
          split at z
          · omega
          · exact ⟨by omega, by omega⟩
        · rintro ⟨z1, z2⟩
          rw [if_neg (by omega), z1, z2]
      rw [e, ih']
      constructor
      · rintro ⟨⟨rfl, z2⟩, z3⟩
        refine ⟨rfl, fun j hj => ?_⟩
        rcases Nat.lt_succ_iff_lt_or_eq.mp hj with q | q
        · exact z2 j q
        · rw [q]; exact z3
      · rintro ⟨z1, z2⟩
        obtain rfl : m = n := by omega
        exact ⟨⟨rfl, fun j hj => z2 j (by omega)⟩, z2 m (by omega)⟩
def l_C (i : Nat) : Int64 := lN (l_cn i (zTl i))
theorem l_C_v : l_C 0 = 21762661554 ∧ l_C 1 = lN 394393 ∧ l_C 2 = lN 2553 ∧ l_C 3 = 674915359922 ∧ l_C 4 = lN 1283540 ∧ l_C 5 = lN 4511922 ∧ l_C 6 = lN 12748243 ∧ l_C 7 = lN 16955493 ∧ l_C 8 = lN 398548 ∧ l_C 9 = lN 19176724 ∧ l_C 10 = lN 2696261 ∧ l_C 11 = lN 56377 := by decide +kernel
theorem l_C_0 : ∀ i, i < 12 → ¬ lN 0 = l_C i := by decide +kernel
/-- the word that stands at s -/
def l_wd (B : Nat → Nat) (L s : Nat) : Int64 := if l_K B L s = 1 then l_mw B s (l_te B L s - s) else lN 0
theorem l_wd_iff (hs : s ≤ L) (hb : ∀ i, i < L → B i < 256) {i : Nat} (hi : i < 12) : l_wd B L s = l_C i ↔ l_w B L s i = true := by
  rw [l_w_iff]
  unfold l_wd
  by_cases hK : l_K B L s = 1
  · rw [if_pos hK]
    have hw := l_K_1 hK
    have hte := l_te_w hw.1 hw.2
    have hle := l_te_le (B := B) hs
    have hlet : ∀ j, j < l_te B L s - s → 97 ≤ B (s + j) ∧ B (s + j) ≤ 122 := fun j hj => l_let_b (l_end_all (P := fun j => l_let (B j)) (L := L) (i := s) (by omega) (by rw [← hte]; omega))
    rw [l_mw_eq _ hlet]
    have h1 := l_hn_lt _ hlet
    have h8 := zTl_8 i hi
    have h2 := l_cn_le i hi (zTl i) (by omega) (Nat.le_refl _)
    have e : lN (l_hn B s (l_te B L s - s)) = l_C i ↔ l_hn B s (l_te B L s - s) = l_cn i (zTl i) := by
      unfold l_C
      rw [← Int64.toInt_inj]
      unfold lN
      rw [lg_ofNat_toInt (by omega), lg_ofNat_toInt (by omega)]
      omega
    rw [e, l_hn_cn hi (zTl i) (Nat.le_refl _) _ hlet]
    constructor
    · rintro ⟨z1, z2⟩
      exact ⟨hK, z1, fun j hj => by rw [z2 j hj]; exact (zTc_let i hi j hj).2.2.symm⟩
    · rintro ⟨_, z1, z2⟩
      refine ⟨z1, fun j hj => ?_⟩
      have z3 := z2 j hj
      have hc := zTc_let i hi j hj
      rw [hc.2.2] at z3
      have := hlet j (by omega)
      exact zinj z3 (by omega) (by omega)
  · rw [if_neg hK]
    exact ⟨fun z => absurd z (l_C_0 i hi), fun z => absurd z.1 hK⟩
/-- the value of a number, as the reference has it -/
def l_mv (B : Nat → Nat) (s : Nat) : Nat → Nat
  | 0 => 0
  | k + 1 => if 9999 < l_mv B s k then l_mv B s k else 10 * l_mv B s k + (B (s + k) - 48)
theorem l_mv_1 {k : Nat} (h : 9999 < l_mv B s k) : l_mv B s (k + 1) = l_mv B s k := if_pos h
theorem l_mv_2 {k : Nat} (h : ¬ 9999 < l_mv B s k) : l_mv B s (k + 1) = 10 * l_mv B s k + (B (s + k) - 48) := if_neg h
theorem l_mv_cv : ∀ k, (∀ j, j < k → 48 ≤ B (s + j) ∧ B (s + j) ≤ 57) → l_mv B s k < 100000 ∧ ((l_mv B s k ≤ 9999 ∧ l_cv B s k = l_mv B s k) ∨ (9999 < l_mv B s k ∧ l_cv B s k = 10000))
  | 0, _ => ⟨show 0 < 100000 by decide, Or.inl ⟨show 0 ≤ 9999 by decide, rfl⟩⟩
  | k + 1, h => by
    have h1 := l_mv_cv k (fun j hj => h j (by omega))
    have h2 := h k (by omega)
    rw [l_cv_s]
    by_cases hc : 9999 < l_mv B s k
    · rw [l_mv_1 hc]
      omega
    · rw [l_mv_2 hc]
      omega
/-! the reference's tape and token -/
def mT (S : zSto) (B : Nat → Nat) (L : Nat) : Prop := S.1 34 7 = nI L ∧ L ≤ 120 ∧ ∀ i, i < L → B i < 256 ∧ S.1 40 i = nI (B i)
def mw (w : Bool) : Int32 := if w = true then nI 1 else nI 0
def mR (S : zSto) (B : Nat → Nat) (L : Nat) (w : Bool) (s : Nat) : Prop := s ≤ L ∧ S.1 34 8 = nI s ∧ S.1 34 9 = nI (l_te B L s) ∧ S.1 34 11 = mw w
def mQ (S : zSto) (B : Nat → Nat) (L : Nat) (w : Bool) (s : Nat) : Prop := mT S B L ∧ mR S B L w s
/-- only the reference's text differs -/
def zM (S S' : zSto) : Prop := (∀ x i, ¬ (x = 34 ∧ 8 ≤ i ∧ i ≤ 11) → S'.1 x i = S.1 x i) ∧ S'.2 = S.2
/-- and its town -/
def zMi (S S' : zSto) : Prop := (∀ x i, ¬ (x = 34 ∧ 8 ≤ i ∧ i ≤ 11) → ¬ (x = 35 ∧ i < 48) → S'.1 x i = S.1 x i) ∧ S'.2 = S.2
end LBY
section ZM
variable {S S' S'' σ : zSto} {τ t : zTn} {B : Nat → Nat} {L s : Nat} {w : Bool}
theorem zM_rf : zM S S := ⟨fun _ _ _ => rfl, rfl⟩
theorem zM_tr (h : zM S S') (h' : zM S' S'') : zM S S'' := ⟨fun x i hx => (h'.1 x i hx).trans (h.1 x i hx), h'.2.trans h.2⟩
theorem zM_si {i : Nat} {v : Int32} (h : zM S S') (hi : 8 ≤ i ∧ i ≤ 11) : zM S (zsi S' 34 i v) := ⟨fun x j hx => by rw [show (zsi S' 34 i v).1 x j = S'.1 x j from if_neg (fun z => hx ⟨z.1, by rw [z.2]; exact hi⟩)]; exact h.1 x j hx, h.2⟩
theorem zMi_rf : zMi S S := ⟨fun _ _ _ _ => rfl, rfl⟩
theorem zMi_tr (h : zMi S S') (h' : zMi S' S'') : zMi S S'' := ⟨fun x i hx hy => (h'.1 x i hx hy).trans (h.1 x i hx hy), h'.2.trans h.2⟩
theorem zM_pm (h : zM (zpm σ τ) S') : S' = zpm S' τ := by
  refine Prod.ext (funext fun x => funext fun b => ?_) rfl
  show S'.1 x b = (if x = 35 ∧ b < 48 then zix τ b else S'.1 x b)
  by_cases h1 : x = 35 ∧ b < 48
  · rw [if_pos h1, h.1 x b (by omega), h1.1]
    exact zps_at h1.2
  · rw [if_neg h1]
theorem zM_i (h : zM (zpm σ τ) S') : zMi σ S' := ⟨fun x i hx hy => (h.1 x i hx).trans (if_neg hy), h.2⟩
theorem zMi_T (h : zMi σ S') : ∃ T, zM σ T ∧ ∀ t, zpm S' t = zpm T t := by
  refine ⟨(fun x b => if x = 35 ∧ b < 48 then σ.1 x b else S'.1 x b, S'.2), ⟨fun x i hx => ?_, h.2⟩, fun t => ?_⟩
  · show (if x = 35 ∧ i < 48 then σ.1 x i else S'.1 x i) = σ.1 x i
    by_cases h1 : x = 35 ∧ i < 48
    · rw [if_pos h1]
    · rw [if_neg h1]; exact h.1 x i hx h1
  · refine Prod.ext (funext fun x => funext fun b => ?_) rfl
    show (if x = 35 ∧ b < 48 then zix t b else S'.1 x b) = (if x = 35 ∧ b < 48 then zix t b else if x = 35 ∧ b < 48 then σ.1 x b else S'.1 x b)
    by_cases h1 : x = 35 ∧ b < 48
    · rw [if_pos h1, if_pos h1]
    · rw [if_neg h1, if_neg h1, if_neg h1]
theorem zM_J (h : zM S S') : zJ S S' := ⟨fun x i hx => h.1 x i (fun z => hx (Or.inr (Or.inr (Or.inr (Or.inr z))))), fun x _ => by rw [h.2]⟩
theorem mT_M (h : mT S B L) (hM : zM S S') : mT S' B L := ⟨(hM.1 34 7 (by omega)).trans h.1, h.2.1, fun i hi => ⟨(h.2.2 i hi).1, (hM.1 40 i (by omega)).trans (h.2.2 i hi).2⟩⟩
theorem mT_b (h : mT S B L) : ∀ i, i < L → B i < 256 := fun i hi => (h.2.2 i hi).1
theorem mQ_pm (h : mQ S B L w s) : mQ (zpm S τ) B L w s := h
theorem mT_pm (h : mT S B L) : mT (zpm S τ) B L := h
theorem zsi_pm {i : Nat} {v : Int32} : zsi (zpm σ τ) 34 i v = zpm (zsi σ 34 i v) τ := by
  refine Prod.ext (funext fun x => funext fun b => ?_) rfl
  show (if x = 34 ∧ b = i then v else if x = 35 ∧ b < 48 then zix τ b else σ.1 x b) = (if x = 35 ∧ b < 48 then zix τ b else if x = 34 ∧ b = i then v else σ.1 x b)
  by_cases h : x = 34 ∧ b = i
  · rw [if_pos h, if_neg (fun z => by omega), if_pos h]
  · rw [if_neg h, if_neg h]
theorem zcp_back (h : ∀ i, i < 48 → σ.1 37 i = zix τ i) : zcp (zpm σ t) 37 35 48 = zpm σ τ := by
  refine Prod.ext (funext fun x => funext fun b => ?_) rfl
  show (if x = 35 ∧ b < 48 then (zpm σ t).1 37 b else if x = 35 ∧ b < 48 then zix t b else σ.1 x b) = (if x = 35 ∧ b < 48 then zix τ b else σ.1 x b)
  by_cases h1 : x = 35 ∧ b < 48
  · rw [if_pos h1, if_pos h1]; exact h b h1.2
  · rw [if_neg h1, if_neg h1, if_neg h1]
end ZM
