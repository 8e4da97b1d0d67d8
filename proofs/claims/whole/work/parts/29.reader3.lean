section PPOS
variable {B : Nat → Nat} {L s : Nat} {τ : zTn}
theorem l_nx_gt (h : s < L) : s + 1 ≤ l_nx B L s := Nat.le_trans (l_te_gt h) l_nx_ge
theorem l_nx_ge' : s ≤ l_nx B L s := Nat.le_trans l_te_ge l_nx_ge
theorem p_part_pos {i k most w : Nat} (hs : s ≤ L) : s ≤ (p_part B L i k most w s τ).2.1 ∧ (p_part B L i k most w s τ).2.1 ≤ L := by
  unfold p_part
  split
  · split
    · exact ⟨Nat.le_trans l_nx_ge' l_nx_ge', l_nx_le (l_nx_le hs)⟩
    · exact ⟨l_nx_ge', l_nx_le hs⟩
  · exact ⟨Nat.le_refl _, hs⟩
theorem p_pers_pos {k : Nat} (hs : s < L) : s ≤ (p_pers B L s τ k).2.1 ∧ (p_pers B L s τ k).2.1 ≤ L ∧ ((p_pers B L s τ k).1 = true → s + 1 ≤ (p_pers B L s τ k).2.1) := by
  unfold p_pers p_p2
  have g1 := l_nx_gt (B := B) hs
  have g2 := l_nx_le (B := B) (Nat.le_of_lt hs)
  split
  · exact ⟨Nat.le_refl _, Nat.le_of_lt hs, fun h => by cases h⟩
  · have a := p_part_pos (B := B) (L := L) (τ := p_ad τ (nI k)) (i := 6) (k := 4) (most := 63) (w := zn (τ 0 3)) g2
    split
    · have b := p_part_pos (B := B) (L := L) (τ := (p_part B L 6 4 63 (zn (τ 0 3)) (l_nx B L s) (p_ad τ (nI k))).2.2) (i := 7) (k := 5) (most := 9999) (w := zn (τ 0 3)) a.2
      exact ⟨by omega, b.2, fun _ => by omega⟩
    · exact ⟨by omega, a.2, fun _ => by omega⟩
theorem p_lyg_pos {k : Nat} (hs : s < L) : s + 1 ≤ (p_lyg B L s τ k).2.1 ∧ (p_lyg B L s τ k).2.1 ≤ L := by
  have g1 := l_nx_gt (B := B) hs
  have g2 := l_nx_le (B := B) (Nat.le_of_lt hs)
  unfold p_lyg
  split
  · split
    · exact ⟨Nat.le_trans g1 (Nat.le_trans l_nx_ge' l_nx_ge'), l_nx_le (l_nx_le g2)⟩
    · exact ⟨Nat.le_trans g1 l_nx_ge', l_nx_le g2⟩
  · exact ⟨g1, g2⟩
theorem p_brb_pos (hs : s < L) : s + 1 ≤ (p_brb B L s τ).2.1 ∧ (p_brb B L s τ).2.1 ≤ L := by
  have g1 := l_nx_gt (B := B) hs
  have g2 := l_nx_le (B := B) (Nat.le_of_lt hs)
  unfold p_brb
  split
  · exact ⟨Nat.le_trans g1 l_nx_ge', l_nx_le g2⟩
  · split
    · exact ⟨Nat.le_trans g1 l_nx_ge', l_nx_le g2⟩
    · exact ⟨g1, g2⟩
theorem p_awy_pos (hs : s < L) : s + 1 ≤ (p_awy B L s τ).2.1 ∧ (p_awy B L s τ).2.1 ≤ L := by
  have g1 := l_nx_gt (B := B) hs
  have g2 := l_nx_le (B := B) (Nat.le_of_lt hs)
  unfold p_awy
  split
  · exact ⟨Nat.le_trans g1 l_nx_ge', l_nx_le g2⟩
  · exact ⟨g1, g2⟩
theorem l_w_lt {i : Nat} (h : l_w B L s i = true) : s < L := (l_K_1 (l_w_iff.mp h).1).1
theorem l_kd_lt (h : l_kd B L s < 6) : s < L := by
  unfold l_kd at h
  repeat' split at h
  all_goals first | exact l_w_lt (by assumption) | omega
theorem p_item_pos (hs : s ≤ L) : (p_item B L s τ).2.1 ≤ L ∧ ((p_item B L s τ).1 = true → s + 1 ≤ (p_item B L s τ).2.1) := by
  unfold p_item
  split
  · rename_i h; have := p_pers_pos (B := B) (τ := τ) (k := l_kd B L s) (l_kd_lt h); exact this.2
  · split
    · rename_i h; have := p_lyg_pos (B := B) (τ := τ) (k := 0) (l_w_lt h); exact ⟨this.2, fun _ => this.1⟩
    · split
      · rename_i h; have := p_lyg_pos (B := B) (τ := τ) (k := 1) (l_w_lt h); exact ⟨this.2, fun _ => this.1⟩
      · split
        · rename_i h; have := p_brb_pos (B := B) (τ := τ) (l_w_lt h); exact ⟨this.2, fun _ => this.1⟩
        · split
          · rename_i h; have := p_awy_pos (B := B) (τ := τ) (l_w_lt h); exact ⟨this.2, fun _ => this.1⟩
          · exact ⟨hs, fun h => by cases h⟩
theorem p_run_pos : ∀ (f s : Nat) (τ : zTn) (i : Nat), s ≤ L → (p_run B L f s τ i).2.2.1 ≤ L ∧ i ≤ (p_run B L f s τ i).2.1 ∧ (p_run B L f s τ i).2.1 ≤ i + f
  | 0, s, τ, i, h => ⟨h, Nat.le_refl _, Nat.le_refl _⟩
  | f + 1, s, τ, i, h => by
    have hp := (p_item_pos (B := B) (τ := τ) h).1
    unfold p_run
    split
    · split
      · exact ⟨hp, Nat.le_refl _, by simp⟩
      · split
        · have := p_run_pos f (l_nx B L (p_item B L s τ).2.1) (p_item B L s τ).2.2 (i + 1) (l_nx_le hp)
          exact ⟨this.1, by omega, by omega⟩
        · exact ⟨hp, Nat.le_refl _, by simp⟩
    · exact ⟨hp, Nat.le_refl _, by simp⟩
end PPOS
def zans (r : Bool × Nat × Nat × zTn) : Int32 := if r.1 = true then nI r.2.1 else -1 - nI r.2.2.1
/-- what the whole text comes to -/
def p_txt (B : Nat → Nat) (L : Nat) (τ : zTn) : Bool × Nat × Nat × zTn := p_run B L 121 (l_sk B L 0) τ 1

set_option maxRecDepth 20000 in
set_option maxHeartbeats 4000000 in
theorem r_items {g : zG} {S : zSto} {B : Nat → Nat} {L : Nat} (hT : zTp S B L) {τ : zTn} (hH : zHd S 8 τ) (hI : zTI 100000 τ) : zEv g 7 yX3_items cX3_items 2 (some .int) [.ref (zad g 24)] S (fun r' s' => r' = some (.int (zans (p_txt B L τ))) ∧ zJ S s' ∧ ((p_txt B L τ).1 = true → zHd s' 8 (p_txt B L τ).2.2.2)) := by
  refine zev_intro (own := RX3) (lv := [some (.ref (zad g 24)), none]) (by decide +kernel) rfl (Nat.le_of_ble_eq_true rfl) rfl (fun C hM hN => ?_)
  have h120 := hT.2.1
  have hloop : ∀ (f i e : Nat) (S' : zSto) (τ' : zTn), i + f = 122 → 1 ≤ i → 2 * i ≤ e + 2 → e ≤ L → zTp S' B L → S'.1 24 3 = nI e → zHd S' 8 τ' → zTI 100000 τ' → zJ S S' → p_txt B L τ = p_run B L f (l_sk B L e) τ' i → zAW g C 7 cX3_items RX3 7 [some (.ref (zad g 24)), some (.int (nI i))] [] S' := by
    intro f
    induction f with
    | zero => intro i e S' τ' h1 h2 h3 h4; omega
    | succ f ih =>
      intro i e S' τ' hf hi hie heL hT' he hH' hI' hJ' hE
      obtain ⟨n, h9, hn⟩ := hI'.2.2.2.1
      have hsk := l_sk_le (B := B) heL
      have hskg := l_sk_ge (B := B) (L := L) (i := e)
      have hpos := p_item_pos (B := B) (τ := τ') hsk
      unfold p_run at hE
      refine za_iload_n dX3_items_7 rfl ?_
      refine za_bipush (nI 120) dX3_items_8 (by decide) ?_
      refine za_icmp_gt 53 dX3_items_10 (by decide) (fun c10 => absurd c10 (nI_nlt (show i ≤ 120 by omega) (by decide))) (fun c10 => ?_)
      refine za_aload_n dX3_items_13 rfl ?_
      refine za_callV (As := []) (rest := []) dX3_items_14 zm_X3_25 zw_X3_next zv_X3_next (r_next hT' he heL) (by decide) rfl rfl rfl rfl (Nat.le_of_ble_eq_true rfl) rfl (fun r14 s14 hE14 => ?_)
      obtain ⟨rfl, hN14, hR14⟩ := hE14
      show zAW _ _ _ _ _ _ _ [] _
      have hT14 := zTp_N hT' hN14
      have hH14 := zHd_N hH' hN14
      refine za_aload_n dX3_items_17 rfl ?_
      refine za_callV (As := []) (rest := []) dX3_items_18 zm_X3_28 zw_X3_readItem zv_X3_readItem (r_readItem hT14 hR14 hH14 hn h9) (by decide) rfl rfl rfl rfl (Nat.le_of_ble_eq_true rfl) rfl (fun r18 s18 hE18 => ?_)
      obtain ⟨rfl, hJ18, hR18, hH18⟩ := hE18
      show zAW _ _ _ _ _ _ _ (.int (zb _) :: []) _
      have hJs : zJ S s18 := zJ_tr hJ' (zJ_tr (zN_J hN14) hJ18)
      refine za_if_neB 27 dX3_items_21 (by decide) (fun c21 => ?_) (fun c21 => ?_)
      · rw [if_pos c21] at hE
        refine za_aload_n dX3_items_27 rfl ?_
        refine za_getI dX3_items_28 zf_X3_32 rfl rfl ?_
        rw [hR18.2.2.2.1]
        refine za_if_ne 36 dX3_items_31 (by decide) (fun c31 => ?_) (fun c31 => ?_)
        · rw [if_neg (zz1 c31)] at hE
          refine za_aload_n dX3_items_36 rfl ?_
          refine za_getI dX3_items_37 zf_X3_32 rfl rfl ?_
          rw [hR18.2.2.2.1]
          refine za_iconst (nI 3) dX3_items_40 (by decide) ?_
          refine za_icmp_eq 47 dX3_items_41 (by decide) (fun c41 => ?_) (fun c41 => ?_)
          · have hK3 := (zKi (by decide)).mp c41
            rw [if_pos hK3] at hE
            refine za_iinc (nI (_ + 1)) (lv' := [_, _]) dX3_items_47 rfl hN (by decide) (znext _) rfl ?_
            refine za_goto 7 dX3_items_50 (by decide) ?_
            have hlt := (l_K_3 hK3).1
            have hgt := l_te_gt (B := B) hlt
            have hg1 := hpos.2 c21
            exact ih (i + 1) (l_te B L (p_item B L (l_sk B L e) τ').2.1) s18 (p_item B L (l_sk B L e) τ').2.2 (by omega) (by omega) (by omega) (l_te_le (Nat.le_of_lt hlt)) (zTp_J hT14 hJ18) hR18.2.2.1 (hH18 c21) (zTI_item hI') hJs hE
          · rw [if_neg (fun z => c41 (congrArg nI z))] at hE
            refine za_goto 53 dX3_items_44 (by decide) ?_
            refine za_iconst (-1) dX3_items_53 (by decide) ?_
            refine za_aload_n dX3_items_54 rfl ?_
            refine za_getI dX3_items_55 zf_X3_35 rfl rfl ?_
            rw [hR18.2.1]
            refine za_isub dX3_items_58 ?_
            exact za_iret hM dX3_items_59 (by rw [hE]; exact ⟨rfl, hJs, fun z => by cases z⟩)
        · rw [if_pos (zz0 c31 (by have := l_K_lt (B := B) (L := L) (s := (p_item B L (l_sk B L e) τ').2.1); omega))] at hE
          refine za_iload_n dX3_items_34 rfl ?_
          exact za_iret hM dX3_items_35 (by rw [hE]; exact ⟨rfl, hJs, fun _ => hH18 c21⟩)
      · rw [if_neg c21] at hE
        refine za_goto 53 dX3_items_24 (by decide) ?_
        refine za_iconst (-1) dX3_items_53 (by decide) ?_
        refine za_aload_n dX3_items_54 rfl ?_
        refine za_getI dX3_items_55 zf_X3_35 rfl rfl ?_
        rw [hR18.2.1]
        refine za_isub dX3_items_58 ?_
        exact za_iret hM dX3_items_59 (by rw [hE]; exact ⟨rfl, hJs, fun z => by cases z⟩)
  refine za_aload_n dX3_items_0 rfl ?_
  refine za_iconst (nI 0) dX3_items_1 (by decide) ?_
  refine za_putI dX3_items_2 zf_X3_19 zp_X3_3 rfl rfl ?_
  refine za_iconst (nI 1) dX3_items_5 (by decide) ?_
  refine za_istore_n (lv' := [_, _]) dX3_items_6 hN (by decide) rfl ?_
  exact hloop 121 1 0 _ τ rfl (Nat.le_refl _) (Nat.le_refl _) (Nat.zero_le _) (zTp_N hT (zN_si zN_rf)) rfl (zHd_N hH (zN_si zN_rf)) hI (zN_J (zN_si zN_rf)) rfl

set_option maxRecDepth 20000 in
set_option maxHeartbeats 4000000 in
theorem c_town_ok {g : zG} {S : zSto} {B : Nat → Nat} {L : Nat} (hT : zTp S B L) {τ : zTn} (h1 : zHd S 1 τ) (hI : zTI 100000 τ) (hok : (p_txt B L τ).1 = true) : zEv g 8 yX5_town cX5_town 2 (some .int) [.ref (zad g 0)] S (fun r' s' => r' = some (.int (nI (p_txt B L τ).2.1)) ∧ ∃ T, zJ S T ∧ s' = zsi (zpt T 1 (p_txt B L τ).2.2.2) 22 1 (nI 0)) := by
  refine zev_intro (own := RX5) (lv := [some (.ref (zad g 0)), none]) (by decide +kernel) rfl (Nat.le_of_ble_eq_true rfl) rfl (fun C hM hN => ?_)
  have h120 := hT.2.1
  have hp := p_run_pos (B := B) (L := L) 121 (l_sk B L 0) τ 1 (l_sk_le (Nat.zero_le _))
  refine za_aload_n dX5_town_0 rfl ?_
  refine za_getR dX5_town_1 zf_X5_16 rfl rfl ?_
  refine za_aload_n dX5_town_4 rfl ?_
  refine za_getR dX5_town_5 zf_X5_10 rfl rfl ?_
  refine za_cV1v dX5_town_8 zm_X5_163 zw_X4_become zv_X4_become (tc_become8 h1) (by decide) (tn0 zT8) rfl rfl (Nat.le_of_ble_eq_true rfl) ?_
  refine za_aload_n dX5_town_11 rfl ?_
  refine za_getR dX5_town_12 zf_X5_38 rfl rfl ?_
  refine za_callV (As := []) (rest := []) dX5_town_15 zm_X5_190 zw_X3_items zv_X3_items (r_items (S := zpt S 8 τ) (zTp_8 hT) zHd_pt hI) (by decide) rfl rfl rfl rfl (Nat.le_of_ble_eq_true rfl) rfl (fun r15 s15 hE15 => ?_)
  obtain ⟨rfl, hJ15, hH15⟩ := hE15
  show zAW _ _ _ _ _ _ _ (.int (zans _) :: []) _
  have hJs : zJ S s15 := zJ_tr zJ_8 hJ15
  rw [show zans (p_txt B L τ) = nI (p_txt B L τ).2.1 from if_pos hok]
  refine za_istore_n (lv' := [_, _]) dX5_town_18 hN (by decide) rfl ?_
  refine za_iload_n dX5_town_19 rfl ?_
  refine za_if_le 34 dX5_town_20 (by decide) (fun c20 => absurd c20 (nI_nle (show 0 < (p_txt B L τ).2.1 from Nat.lt_of_lt_of_le (by decide) hp.2.1) (show (p_txt B L τ).2.1 < 2 ^ 31 from Nat.lt_of_le_of_lt hp.2.2 (by decide)))) (fun c20 => ?_)
  refine za_aload_n dX5_town_23 rfl ?_
  refine za_getR dX5_town_24 zf_X5_10 rfl rfl ?_
  refine za_aload_n dX5_town_27 rfl ?_
  refine za_getR dX5_town_28 zf_X5_16 rfl rfl ?_
  refine za_cV1v dX5_town_31 zm_X5_163 zw_X4_become zv_X4_become (tc_becomeH zT1 zT8 (by decide) (hH15 hok)) (by decide) (tn0 zT1) rfl rfl (Nat.le_of_ble_eq_true rfl) ?_
  refine za_aload_n dX5_town_34 rfl ?_
  refine za_getR dX5_town_35 zf_X5_29 rfl rfl ?_
  refine za_iconst (nI 0) dX5_town_38 (by decide) ?_
  refine za_putI dX5_town_39 zf_X5_187 zp_X2_1 rfl rfl ?_
  refine za_iload_n dX5_town_42 rfl ?_
  exact za_iret hM dX5_town_43 ⟨rfl, _, hJs, rfl⟩

theorem zm1s {s : Nat} (h : s ≤ 120) : -1 - nI s ≤ 0 := by
  have h1 : ∀ k : Fin 121, -1 - nI k.val ≤ 0 := by decide +kernel
  exact h1 ⟨s, by omega⟩

set_option maxRecDepth 20000 in
set_option maxHeartbeats 4000000 in
theorem c_town_no {g : zG} {S : zSto} {B : Nat → Nat} {L : Nat} (hT : zTp S B L) {τ : zTn} (h1 : zHd S 1 τ) (hI : zTI 100000 τ) (hok : ¬ (p_txt B L τ).1 = true) : zEv g 8 yX5_town cX5_town 2 (some .int) [.ref (zad g 0)] S (fun r' s' => r' = some (.int (-1 - nI (p_txt B L τ).2.2.1)) ∧ ∃ T, zJ S T ∧ s' = zsi T 22 1 (nI 0)) := by
  refine zev_intro (own := RX5) (lv := [some (.ref (zad g 0)), none]) (by decide +kernel) rfl (Nat.le_of_ble_eq_true rfl) rfl (fun C hM hN => ?_)
  have h120 := hT.2.1
  have hp := p_run_pos (B := B) (L := L) 121 (l_sk B L 0) τ 1 (l_sk_le (Nat.zero_le _))
  refine za_aload_n dX5_town_0 rfl ?_
  refine za_getR dX5_town_1 zf_X5_16 rfl rfl ?_
  refine za_aload_n dX5_town_4 rfl ?_
  refine za_getR dX5_town_5 zf_X5_10 rfl rfl ?_
  refine za_cV1v dX5_town_8 zm_X5_163 zw_X4_become zv_X4_become (tc_become8 h1) (by decide) (tn0 zT8) rfl rfl (Nat.le_of_ble_eq_true rfl) ?_
  refine za_aload_n dX5_town_11 rfl ?_
  refine za_getR dX5_town_12 zf_X5_38 rfl rfl ?_
  refine za_callV (As := []) (rest := []) dX5_town_15 zm_X5_190 zw_X3_items zv_X3_items (r_items (S := zpt S 8 τ) (zTp_8 hT) zHd_pt hI) (by decide) rfl rfl rfl rfl (Nat.le_of_ble_eq_true rfl) rfl (fun r15 s15 hE15 => ?_)
  obtain ⟨rfl, hJ15, hH15⟩ := hE15
  show zAW _ _ _ _ _ _ _ (.int (zans _) :: []) _
  have hJs : zJ S s15 := zJ_tr zJ_8 hJ15
  rw [show zans (p_txt B L τ) = -1 - nI (p_txt B L τ).2.2.1 from if_neg hok]
  refine za_istore_n (lv' := [_, _]) dX5_town_18 hN (by decide) rfl ?_
  refine za_iload_n dX5_town_19 rfl ?_
  refine za_if_le 34 dX5_town_20 (by decide) (fun c20 => ?_) (fun c20 => absurd (zm1s (Nat.le_trans hp.1 h120)) c20)
  refine za_aload_n dX5_town_34 rfl ?_
  refine za_getR dX5_town_35 zf_X5_29 rfl rfl ?_
  refine za_iconst (nI 0) dX5_town_38 (by decide) ?_
  refine za_putI dX5_town_39 zf_X5_187 zp_X2_1 rfl rfl ?_
  refine za_iload_n dX5_town_42 rfl ?_
  exact za_iret hM dX5_town_43 ⟨rfl, _, hJs, rfl⟩
