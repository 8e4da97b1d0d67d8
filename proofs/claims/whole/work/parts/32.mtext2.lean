def l_sr (B : Nat → Nat) (L s : Nat) : Int32 := if l_w B L s 8 = true then nI 0 else if l_w B L s 9 = true then nI 1 else -1
theorem lwd {B : Nat → Nat} {L s i : Nat} {c : Int64} {S : zSto} {w : Bool} (hQ : mQ S B L w s) (hi : i < 12) (e : l_C i = c) : lg_cmp (l_wd B L s) c = 0 ↔ l_w B L s i = true := by
  rw [lg_cmp_eq, ← e]
  exact l_wd_iff hQ.2.1 (mT_b hQ.1) hi
/-- what an item comes to -/
def mE (σ : zSto) (B : Nat → Nat) (L : Nat) (r : Bool × Nat × zTn) : Option Value → zSto → Prop := fun r' s' => r' = none ∧ ∃ σ' τ', s' = zpm σ' τ' ∧ zMi σ σ' ∧ mQ σ' B L (!r.1) r.2.1 ∧ (r.1 = true → τ' = r.2.2)
theorem mE_same {σ : zSto} {B : Nat → Nat} {L s : Nat} {τ : zTn} (hQ : mQ σ B L false s) : mE σ B L (true, s, τ) none (zpm σ τ) := ⟨rfl, σ, τ, rfl, zMi_rf, hQ, fun _ => rfl⟩

set_option maxRecDepth 20000 in
set_option maxHeartbeats 4000000 in
theorem m_kindHere {g : zG} {S : zSto} {B : Nat → Nat} {L : Nat} {s : Nat} (hQ : mQ S B L false s)  : zEd g 3 yX6_kindHere cX6_kindHere 3 (some .int) [.ref (zad g 34)] S (some (.int (l_kr B L s))) S := by
  refine zev_intro (own := RX6) (lv := [some (.ref (zad g 34)), none, none]) (by decide +kernel) rfl (Nat.le_of_ble_eq_true rfl) rfl (fun C hM hN => ?_)
  refine za_aload_n dX6_kindHere_0 rfl ?_
  refine za_cV0 dX6_kindHere_1 zm_X6_222 zw_X6_word zv_X6_word (m_word hQ) (by decide) rfl rfl rfl (Nat.le_of_ble_eq_true rfl) ?_
  refine za_lstore_n (lv' := [_, _, _]) dX6_kindHere_4 hN (by decide) rfl ?_
  refine za_lload_n dX6_kindHere_5 rfl ?_
  refine za_ldc2 dX6_kindHere_6 zk_X6_226 ?_
  refine za_lcmp dX6_kindHere_9 ?_
  refine za_if_ne 17 dX6_kindHere_10 (by decide) (fun c10 => ?_) (fun c10 => ?_)
  · have w0 : ¬ l_w B L s 0 = true := fun z => c10 ((lwd hQ (i := 0) (by decide) l_C_v.1).mpr z)
    refine za_lload_n dX6_kindHere_17 rfl ?_
    refine za_ldc2 (v := lN 394393) dX6_kindHere_18 zk_X6_228 ?_
    refine za_lcmp dX6_kindHere_21 ?_
    refine za_if_ne 29 dX6_kindHere_22 (by decide) (fun c22 => ?_) (fun c22 => ?_)
    · have w1 : ¬ l_w B L s 1 = true := fun z => c22 ((lwd hQ (i := 1) (by decide) l_C_v.2.1).mpr z)
      refine za_lload_n dX6_kindHere_29 rfl ?_
      refine za_ldc2 (v := lN 2553) dX6_kindHere_30 zk_X6_230 ?_
      refine za_lcmp dX6_kindHere_33 ?_
      refine za_if_ne 41 dX6_kindHere_34 (by decide) (fun c34 => ?_) (fun c34 => ?_)
      · have w2 : ¬ l_w B L s 2 = true := fun z => c34 ((lwd hQ (i := 2) (by decide) l_C_v.2.2.1).mpr z)
        refine za_lload_n dX6_kindHere_41 rfl ?_
        refine za_ldc2 dX6_kindHere_42 zk_X6_232 ?_
        refine za_lcmp dX6_kindHere_45 ?_
        refine za_if_ne 53 dX6_kindHere_46 (by decide) (fun c46 => ?_) (fun c46 => ?_)
        · have w3 : ¬ l_w B L s 3 = true := fun z => c46 ((lwd hQ (i := 3) (by decide) l_C_v.2.2.2.1).mpr z)
          refine za_lload_n dX6_kindHere_53 rfl ?_
          refine za_ldc2 (v := lN 1283540) dX6_kindHere_54 zk_X6_234 ?_
          refine za_lcmp dX6_kindHere_57 ?_
          refine za_if_ne 65 dX6_kindHere_58 (by decide) (fun c58 => ?_) (fun c58 => ?_)
          · have w4 : ¬ l_w B L s 4 = true := fun z => c58 ((lwd hQ (i := 4) (by decide) l_C_v.2.2.2.2.1).mpr z)
            refine za_lload_n dX6_kindHere_65 rfl ?_
            refine za_ldc2 (v := lN 4511922) dX6_kindHere_66 zk_X6_236 ?_
            refine za_lcmp dX6_kindHere_69 ?_
            refine za_if_ne 77 dX6_kindHere_70 (by decide) (fun c70 => ?_) (fun c70 => ?_)
            · have w5 : ¬ l_w B L s 5 = true := fun z => c70 ((lwd hQ (i := 5) (by decide) l_C_v.2.2.2.2.2.1).mpr z)
              refine za_iconst (-1) dX6_kindHere_77 (by decide) ?_
              exact za_iret hM dX6_kindHere_78 ⟨by (first | rfl | (unfold l_kr l_kd; simp [*]; done)), by (first | rfl | (unfold l_kr l_kd; simp [*]; done))⟩
            · have w5 := (lwd hQ (i := 5) (by decide) l_C_v.2.2.2.2.2.1).mp c70
              refine za_iconst (nI 5) dX6_kindHere_73 (by decide) ?_
              refine za_goto 78 dX6_kindHere_74 (by decide) ?_
              exact za_iret hM dX6_kindHere_78 ⟨by (first | rfl | (unfold l_kr l_kd; simp [*]; done)), by (first | rfl | (unfold l_kr l_kd; simp [*]; done))⟩
          · have w4 := (lwd hQ (i := 4) (by decide) l_C_v.2.2.2.2.1).mp c58
            refine za_iconst (nI 4) dX6_kindHere_61 (by decide) ?_
            refine za_goto 78 dX6_kindHere_62 (by decide) ?_
            exact za_iret hM dX6_kindHere_78 ⟨by (first | rfl | (unfold l_kr l_kd; simp [*]; done)), by (first | rfl | (unfold l_kr l_kd; simp [*]; done))⟩
        · have w3 := (lwd hQ (i := 3) (by decide) l_C_v.2.2.2.1).mp c46
          refine za_iconst (nI 3) dX6_kindHere_49 (by decide) ?_
          refine za_goto 78 dX6_kindHere_50 (by decide) ?_
          exact za_iret hM dX6_kindHere_78 ⟨by (first | rfl | (unfold l_kr l_kd; simp [*]; done)), by (first | rfl | (unfold l_kr l_kd; simp [*]; done))⟩
      · have w2 := (lwd hQ (i := 2) (by decide) l_C_v.2.2.1).mp c34
        refine za_iconst (nI 2) dX6_kindHere_37 (by decide) ?_
        refine za_goto 78 dX6_kindHere_38 (by decide) ?_
        exact za_iret hM dX6_kindHere_78 ⟨by (first | rfl | (unfold l_kr l_kd; simp [*]; done)), by (first | rfl | (unfold l_kr l_kd; simp [*]; done))⟩
    · have w1 := (lwd hQ (i := 1) (by decide) l_C_v.2.1).mp c22
      refine za_iconst (nI 1) dX6_kindHere_25 (by decide) ?_
      refine za_goto 78 dX6_kindHere_26 (by decide) ?_
      exact za_iret hM dX6_kindHere_78 ⟨by (first | rfl | (unfold l_kr l_kd; simp [*]; done)), by (first | rfl | (unfold l_kr l_kd; simp [*]; done))⟩
  · have w0 := (lwd hQ (i := 0) (by decide) l_C_v.1).mp c10
    refine za_iconst (nI 0) dX6_kindHere_13 (by decide) ?_
    refine za_goto 78 dX6_kindHere_14 (by decide) ?_
    exact za_iret hM dX6_kindHere_78 ⟨by (first | rfl | (unfold l_kr l_kd; simp [*]; done)), by (first | rfl | (unfold l_kr l_kd; simp [*]; done))⟩

set_option maxRecDepth 20000 in
set_option maxHeartbeats 4000000 in
theorem m_sideHere {g : zG} {S : zSto} {B : Nat → Nat} {L : Nat} {s : Nat} (hQ : mQ S B L false s)  : zEd g 3 yX6_sideHere cX6_sideHere 3 (some .int) [.ref (zad g 34)] S (some (.int (l_sr B L s))) S := by
  refine zev_intro (own := RX6) (lv := [some (.ref (zad g 34)), none, none]) (by decide +kernel) rfl (Nat.le_of_ble_eq_true rfl) rfl (fun C hM hN => ?_)
  refine za_aload_n dX6_sideHere_0 rfl ?_
  refine za_cV0 dX6_sideHere_1 zm_X6_222 zw_X6_word zv_X6_word (m_word hQ) (by decide) rfl rfl rfl (Nat.le_of_ble_eq_true rfl) ?_
  refine za_lstore_n (lv' := [_, _, _]) dX6_sideHere_4 hN (by decide) rfl ?_
  refine za_lload_n dX6_sideHere_5 rfl ?_
  refine za_ldc2 (v := lN 398548) dX6_sideHere_6 zk_X6_238 ?_
  refine za_lcmp dX6_sideHere_9 ?_
  refine za_if_ne 17 dX6_sideHere_10 (by decide) (fun c10 => ?_) (fun c10 => ?_)
  · have w8 : ¬ l_w B L s 8 = true := fun z => c10 ((lwd hQ (i := 8) (by decide) l_C_v.2.2.2.2.2.2.2.2.1).mpr z)
    refine za_lload_n dX6_sideHere_17 rfl ?_
    refine za_ldc2 (v := lN 19176724) dX6_sideHere_18 zk_X6_240 ?_
    refine za_lcmp dX6_sideHere_21 ?_
    refine za_if_ne 29 dX6_sideHere_22 (by decide) (fun c22 => ?_) (fun c22 => ?_)
    · have w9 : ¬ l_w B L s 9 = true := fun z => c22 ((lwd hQ (i := 9) (by decide) l_C_v.2.2.2.2.2.2.2.2.2.1).mpr z)
      refine za_iconst (-1) dX6_sideHere_29 (by decide) ?_
      exact za_iret hM dX6_sideHere_30 ⟨by (first | rfl | (unfold l_sr; simp [*]; done)), by (first | rfl | (unfold l_sr; simp [*]; done))⟩
    · have w9 := (lwd hQ (i := 9) (by decide) l_C_v.2.2.2.2.2.2.2.2.2.1).mp c22
      refine za_iconst (nI 1) dX6_sideHere_25 (by decide) ?_
      refine za_goto 30 dX6_sideHere_26 (by decide) ?_
      exact za_iret hM dX6_sideHere_30 ⟨by (first | rfl | (unfold l_sr; simp [*]; done)), by (first | rfl | (unfold l_sr; simp [*]; done))⟩
  · have w8 := (lwd hQ (i := 8) (by decide) l_C_v.2.2.2.2.2.2.2.2.1).mp c10
    refine za_iconst (nI 0) dX6_sideHere_13 (by decide) ?_
    refine za_goto 30 dX6_sideHere_14 (by decide) ?_
    exact za_iret hM dX6_sideHere_30 ⟨by (first | rfl | (unfold l_sr; simp [*]; done)), by (first | rfl | (unfold l_sr; simp [*]; done))⟩

set_option maxRecDepth 20000 in
set_option maxHeartbeats 4000000 in
theorem m_part_w {g : zG} {σ : zSto} {τ : zTn} {B : Nat → Nat} {L : Nat} {s : Nat} (hQ : mQ σ B L true s) {i : Nat} {x y : Int32} (hi : i < 12) : zEd g 5 yX6_partItem cX6_partItem 5 none [.ref (zad g 34), .long (l_C i), .int x, .int y] (zpm σ τ) none (zpm σ τ) := by
  refine zev_intro (own := RX6) (lv := [some (.ref (zad g 34)), some (.long (l_C i)), none, some (.int x), some (.int y)]) (by decide +kernel) rfl (Nat.le_of_ble_eq_true rfl) rfl (fun C hM hN => ?_)
  refine za_aload_n dX6_partItem_0 rfl ?_
  refine za_cV0 dX6_partItem_1 zm_X6_222 zw_X6_word zv_X6_word (m_word_w (S := zpm σ τ) (mQ_pm hQ)) (by decide) rfl rfl rfl (Nat.le_of_ble_eq_true rfl) ?_
  refine za_lload_n dX6_partItem_4 rfl ?_
  refine za_lcmp dX6_partItem_5 ?_
  refine za_if_ne 47 dX6_partItem_6 (by decide) (fun c6 => ?_) (fun c6 => absurd c6 (fun z => l_C_0 i hi ((lg_cmp_eq _ _).mp z)))
  exact za_vret hM dX6_partItem_47 ⟨by rfl, by rfl⟩

set_option maxRecDepth 20000 in
set_option maxHeartbeats 4000000 in
theorem m_part {g : zG} {σ : zSto} {τ : zTn} {B : Nat → Nat} {L : Nat} {s : Nat} (hQ : mQ σ B L false s) {i p w most : Nat} (hi : i < 12) (hp : p < 8) (hw : w < 4) (hm : most ≤ 9999) : zEv g 5 yX6_partItem cX6_partItem 5 none [.ref (zad g 34), .long (l_C i), .int (nI (16 + 4 * p + w)), .int (nI most)] (zpm σ τ) (mE σ B L (p_part B L i (3 + w) most p s τ)) := by
  refine zev_intro (own := RX6) (lv := [some (.ref (zad g 34)), some (.long (l_C i)), none, some (.int (nI (16 + 4 * p + w))), some (.int (nI most))]) (by decide +kernel) rfl (Nat.le_of_ble_eq_true rfl) rfl (fun C hM hN => ?_)
  by_cases h1 : l_w B L s i = true
  · by_cases h2 : l_num B L (l_nx B L s) most = true
    · refine za_aload_n dX6_partItem_0 rfl ?_
      refine za_cV0 dX6_partItem_1 zm_X6_222 zw_X6_word zv_X6_word (m_word (S := zpm σ τ) (mQ_pm hQ)) (by decide) rfl rfl rfl (Nat.le_of_ble_eq_true rfl) ?_
      refine za_lload_n dX6_partItem_4 rfl ?_
      refine za_lcmp dX6_partItem_5 ?_
      refine za_if_ne 47 dX6_partItem_6 (by decide) (fun c6 => absurd ((lwd hQ hi rfl).mpr h1) c6) (fun c6 => ?_)
      refine za_aload_n dX6_partItem_9 rfl ?_
      refine za_iconst (nI 1) dX6_partItem_10 (by decide) ?_
      refine za_callV (As := [.int (nI 1)]) (rest := []) dX6_partItem_11 zm_X6_218 zw_X6_must zv_X6_must (m_must_t (S := zpm σ τ) (mQ_pm hQ)) (by decide) rfl rfl rfl rfl (Nat.le_of_ble_eq_true rfl) rfl (fun r11 s11 hE11 => ?_)
      obtain ⟨rfl, hM11, hQ11, hv11⟩ := hE11
      show zAW _ _ _ _ _ _ _ [] _
      rw [zM_pm hM11]
      have hI11 := zM_i hM11
      refine za_aload_n dX6_partItem_14 rfl ?_
      refine za_iconst (nI 0) dX6_partItem_15 (by decide) ?_
      refine za_iload dX6_partItem_16 rfl ?_
      refine za_callV (As := [.int (nI 0), .int (nI most)]) (rest := []) dX6_partItem_18 zm_X6_242 zw_X6_number zv_X6_number (m_number (S := zpm s11 τ) (mQ_pm hQ11) (hh := nI most) (nI_le hm (by decide)) ((l_num_iff hm).mp h2)) (by decide) rfl rfl rfl rfl (Nat.le_of_ble_eq_true rfl) rfl (fun r18 s18 hE18 => ?_)
      obtain ⟨rfl, hM18, hQ18, hv18⟩ := hE18
      show zAW _ _ _ _ _ _ _ [] _
      rw [zM_pm hM18]
      have hI18 := zM_i hM18
      refine za_aload_n dX6_partItem_21 rfl ?_
      refine za_getR dX6_partItem_22 zf_X6_7 rfl rfl ?_
      refine za_iload_n dX6_partItem_25 rfl ?_
      refine za_aload_n dX6_partItem_26 rfl ?_
      refine za_getI dX6_partItem_27 zf_X6_204 rfl rfl ?_
      rw [show (zpm s18 τ).1 34 11 = mw false from hQ18.2.2.2.2]
      refine za_if_eq 42 dX6_partItem_30 (by decide) (fun c30 => ?_) (fun c30 => absurd (by decide) c30)
      refine za_aload_n dX6_partItem_42 rfl ?_
      refine za_getI dX6_partItem_43 zf_X6_215 rfl rfl ?_
      rw [show (zpm s18 τ).1 34 10 = _ from hv18]
      refine zm_astP dX6_partItem_46 hp hw ?_
      exact za_vret hM dX6_partItem_47 (by rw [p_part_1 h1 h2]; exact ⟨rfl, _, _, rfl, zMi_tr hI11 hI18, hQ18, fun _ => rfl⟩)
    · refine za_aload_n dX6_partItem_0 rfl ?_
      refine za_cV0 dX6_partItem_1 zm_X6_222 zw_X6_word zv_X6_word (m_word (S := zpm σ τ) (mQ_pm hQ)) (by decide) rfl rfl rfl (Nat.le_of_ble_eq_true rfl) ?_
      refine za_lload_n dX6_partItem_4 rfl ?_
      refine za_lcmp dX6_partItem_5 ?_
      refine za_if_ne 47 dX6_partItem_6 (by decide) (fun c6 => absurd ((lwd hQ hi rfl).mpr h1) c6) (fun c6 => ?_)
      refine za_aload_n dX6_partItem_9 rfl ?_
      refine za_iconst (nI 1) dX6_partItem_10 (by decide) ?_
      refine za_callV (As := [.int (nI 1)]) (rest := []) dX6_partItem_11 zm_X6_218 zw_X6_must zv_X6_must (m_must_t (S := zpm σ τ) (mQ_pm hQ)) (by decide) rfl rfl rfl rfl (Nat.le_of_ble_eq_true rfl) rfl (fun r11 s11 hE11 => ?_)
      obtain ⟨rfl, hM11, hQ11, hv11⟩ := hE11
      show zAW _ _ _ _ _ _ _ [] _
      rw [zM_pm hM11]
      have hI11 := zM_i hM11
      refine za_aload_n dX6_partItem_14 rfl ?_
      refine za_iconst (nI 0) dX6_partItem_15 (by decide) ?_
      refine za_iload dX6_partItem_16 rfl ?_
      refine za_callV (As := [.int (nI 0), .int (nI most)]) (rest := []) dX6_partItem_18 zm_X6_242 zw_X6_number zv_X6_number (m_number_no (S := zpm s11 τ) (mQ_pm hQ11) (hh := nI most) (nI_le hm (by decide)) (fun z => h2 ((l_num_iff hm).mpr z))) (by decide) rfl rfl rfl rfl (Nat.le_of_ble_eq_true rfl) rfl (fun r18 s18 hE18 => ?_)
      obtain ⟨rfl, hM18, hQ18⟩ := hE18
      show zAW _ _ _ _ _ _ _ [] _
      rw [zM_pm hM18]
      have hI18 := zM_i hM18
      refine za_aload_n dX6_partItem_21 rfl ?_
      refine za_getR dX6_partItem_22 zf_X6_7 rfl rfl ?_
      refine za_iload_n dX6_partItem_25 rfl ?_
      refine za_aload_n dX6_partItem_26 rfl ?_
      refine za_getI dX6_partItem_27 zf_X6_204 rfl rfl ?_
      rw [show (zpm s18 τ).1 34 11 = mw true from hQ18.2.2.2.2]
      refine za_if_eq 42 dX6_partItem_30 (by decide) (fun c30 => absurd c30 (by decide)) (fun c30 => ?_)
      refine za_aload_n dX6_partItem_33 rfl ?_
      refine za_getR dX6_partItem_34 zf_X6_7 rfl rfl ?_
      refine za_iload_n dX6_partItem_37 rfl ?_
      refine zm_aldP dX6_partItem_38 hp hw ?_
      refine za_goto 46 dX6_partItem_39 (by decide) ?_
      refine zm_astP dX6_partItem_46 hp hw ?_
      exact za_vret hM dX6_partItem_47 (by rw [p_part_2 h1 h2]; exact ⟨rfl, _, _, rfl, zMi_tr hI11 hI18, hQ18, fun z => by cases z⟩)
  · refine za_aload_n dX6_partItem_0 rfl ?_
    refine za_cV0 dX6_partItem_1 zm_X6_222 zw_X6_word zv_X6_word (m_word (S := zpm σ τ) (mQ_pm hQ)) (by decide) rfl rfl rfl (Nat.le_of_ble_eq_true rfl) ?_
    refine za_lload_n dX6_partItem_4 rfl ?_
    refine za_lcmp dX6_partItem_5 ?_
    refine za_if_ne 47 dX6_partItem_6 (by decide) (fun c6 => ?_) (fun c6 => absurd c6 (fun z => h1 ((lwd hQ hi rfl).mp z)))
    exact za_vret hM dX6_partItem_47 (by rw [p_part_0 h1]; exact mE_same hQ)

set_option maxRecDepth 20000 in
set_option maxHeartbeats 4000000 in
theorem m_person {g : zG} {σ : zSto} {τ : zTn} {B : Nat → Nat} {L : Nat} {s : Nat} (hQ : mQ σ B L false s) {n : Nat} (hn : τ 0 3 = nI n) (h9 : n < 9) {k : Nat} : zEv g 6 yX6_personItem cX6_personItem 3 none [.ref (zad g 34), .int (nI k)] (zpm σ τ) (mE σ B L (p_pers B L s τ k)) := by
  refine zev_intro (own := RX6) (lv := [some (.ref (zad g 34)), some (.int (nI k)), none]) (by decide +kernel) rfl (Nat.le_of_ble_eq_true rfl) rfl (fun C hM hN => ?_)
  have hz : zn (τ 0 3) = n := by rw [hn]; exact zn_nI (by omega)
  by_cases h8 : n = 8
  · refine za_aload_n dX6_personItem_0 rfl ?_
    refine za_aload_n dX6_personItem_1 rfl ?_
    refine za_getR dX6_personItem_2 zf_X6_7 rfl rfl ?_
    refine za_iconst (nI 1) dX6_personItem_5 (by decide) ?_
    refine zm_ald1 dX6_personItem_6 ?_
    rw [hn]
    refine za_bipush (nI 8) dX6_personItem_7 (by decide) ?_
    refine za_icmp_ge 16 dX6_personItem_9 (by decide) (fun c9 => ?_) (fun c9 => absurd (nI_le (show 8 ≤ n by omega) (by omega)) c9)
    refine za_iconst (nI 0) dX6_personItem_16 (by decide) ?_
    refine za_callV (As := [.int (nI 0)]) (rest := []) dX6_personItem_17 zm_X6_218 zw_X6_must zv_X6_must (m_must_f (S := zpm σ τ) (mQ_pm hQ)) (by decide) rfl rfl rfl rfl (Nat.le_of_ble_eq_true rfl) rfl (fun r17 s17 hE17 => ?_)
    obtain ⟨rfl, hM17, hQ17⟩ := hE17
    show zAW _ _ _ _ _ _ _ [] _
    rw [zM_pm hM17]
    have hI17 := zM_i hM17
    refine za_aload_n dX6_personItem_20 rfl ?_
    refine za_getI dX6_personItem_21 zf_X6_204 rfl rfl ?_
    rw [show (zpm s17 τ).1 34 11 = mw true from hQ17.2.2.2.2]
    refine za_if_eq 28 dX6_personItem_24 (by decide) (fun c24 => absurd c24 (by decide)) (fun c24 => ?_)
    exact za_vret hM dX6_personItem_27 (by rw [p_pers_8 (hz.trans h8)]; exact ⟨rfl, _, _, rfl, hI17, hQ17, fun z => by cases z⟩)
  · by_cases h1 : (p_part B L 6 4 63 n (l_nx B L s) (p_ad τ (nI k))).1 = true
    · refine za_aload_n dX6_personItem_0 rfl ?_
      refine za_aload_n dX6_personItem_1 rfl ?_
      refine za_getR dX6_personItem_2 zf_X6_7 rfl rfl ?_
      refine za_iconst (nI 1) dX6_personItem_5 (by decide) ?_
      refine zm_ald1 dX6_personItem_6 ?_
      rw [hn]
      refine za_bipush (nI 8) dX6_personItem_7 (by decide) ?_
      refine za_icmp_ge 16 dX6_personItem_9 (by decide) (fun c9 => absurd c9 (nI_ge (show n < 8 by omega) (by decide))) (fun c9 => ?_)
      refine za_iconst (nI 1) dX6_personItem_12 (by decide) ?_
      refine za_goto 17 dX6_personItem_13 (by decide) ?_
      refine za_callV (As := [.int (nI 1)]) (rest := []) dX6_personItem_17 zm_X6_218 zw_X6_must zv_X6_must (m_must_t (S := zpm σ τ) (mQ_pm hQ)) (by decide) rfl rfl rfl rfl (Nat.le_of_ble_eq_true rfl) rfl (fun r17 s17 hE17 => ?_)
      obtain ⟨rfl, hM17, hQ17, hv17⟩ := hE17
      show zAW _ _ _ _ _ _ _ [] _
      rw [zM_pm hM17]
      have hI17 := zM_i hM17
      refine za_aload_n dX6_personItem_20 rfl ?_
      refine za_getI dX6_personItem_21 zf_X6_204 rfl rfl ?_
      rw [show (zpm s17 τ).1 34 11 = mw false from hQ17.2.2.2.2]
      refine za_if_eq 28 dX6_personItem_24 (by decide) (fun c24 => ?_) (fun c24 => absurd (by decide) c24)
      refine za_aload_n dX6_personItem_28 rfl ?_
      refine za_iload_n dX6_personItem_29 rfl ?_
      refine za_cV1 dX6_personItem_30 zm_X6_107 zw_X6_adds zv_X6_adds (m_adds (σ := s17) (τ := τ) (n := n) (by omega) hn) (by decide) rfl rfl rfl (Nat.le_of_ble_eq_true rfl) ?_
      refine za_istore_n (lv' := [_, _, _]) dX6_personItem_33 hN (by decide) rfl ?_
      refine za_aload_n dX6_personItem_34 rfl ?_
      refine za_ldc2 (v := lN 12748243) dX6_personItem_35 zk_X6_245 ?_
      rw [show lN 12748243 = l_C 6 from l_C_v.2.2.2.2.2.2.1.symm]
      refine za_iload_n dX6_personItem_38 rfl ?_
      refine za_iconst (nI 1) dX6_personItem_39 (by decide) ?_
      refine za_cS2 dX6_personItem_40 zm_X6_42 zw_X6_spot zs_X6_spot (m_spot) (by decide) (Nat.le_of_ble_eq_true rfl) ?_
      refine za_bipush (nI 63) dX6_personItem_43 (by decide) ?_
      refine za_callV (As := [.long (l_C 6), .int (nI (16 + 4 * n + 1)), .int (nI 63)]) (rest := []) dX6_personItem_45 zm_X6_247 zw_X6_partItem zv_X6_partItem (m_part (σ := s17) (τ := (p_ad τ (nI k))) hQ17 (i := 6) (p := n) (w := 1) (most := 63) (by decide) (by omega) (by decide) (by decide)) (by decide) rfl rfl rfl rfl (Nat.le_of_ble_eq_true rfl) rfl (fun r45 s45 hE45 => ?_)
      obtain ⟨rfl, σ45, τ45, rfl, hI45, hQ45, hτ45⟩ := hE45
      show zAW _ _ _ _ _ _ _ [] _
      refine za_aload_n dX6_personItem_48 rfl ?_
      refine za_ldc2 (v := lN 16955493) dX6_personItem_49 zk_X6_251 ?_
      rw [show lN 16955493 = l_C 7 from l_C_v.2.2.2.2.2.2.2.1.symm]
      refine za_iload_n dX6_personItem_52 rfl ?_
      refine za_iconst (nI 2) dX6_personItem_53 (by decide) ?_
      refine za_cS2 dX6_personItem_54 zm_X6_42 zw_X6_spot zs_X6_spot (m_spot) (by decide) (Nat.le_of_ble_eq_true rfl) ?_
      refine za_sipush (nI 9999) dX6_personItem_57 (by decide) ?_
      refine za_callV (As := [.long (l_C 7), .int (nI (16 + 4 * n + 2)), .int (nI 9999)]) (rest := []) dX6_personItem_60 zm_X6_247 zw_X6_partItem zv_X6_partItem (m_part (σ := σ45) (τ := τ45) (by rw [h1] at hQ45; exact hQ45) (i := 7) (p := n) (w := 2) (most := 9999) (by decide) (by omega) (by decide) (by decide)) (by decide) rfl rfl rfl rfl (Nat.le_of_ble_eq_true rfl) rfl (fun r60 s60 hE60 => ?_)
      obtain ⟨rfl, σ60, τ60, rfl, hI60, hQ60, hτ60⟩ := hE60
      show zAW _ _ _ _ _ _ _ [] _
      exact za_vret hM dX6_personItem_63 (by rw [p_pers_n hz h8, show p_p2 B L n (p_part B L 6 4 63 n (l_nx B L s) (p_ad τ (nI k))) = p_part B L 7 5 9999 n (p_part B L 6 4 63 n (l_nx B L s) (p_ad τ (nI k))).2.1 (p_part B L 6 4 63 n (l_nx B L s) (p_ad τ (nI k))).2.2 from if_pos h1, ← hτ45 h1]; exact ⟨rfl, _, _, rfl, zMi_tr hI17 (zMi_tr hI45 hI60), hQ60, hτ60⟩)
    · refine za_aload_n dX6_personItem_0 rfl ?_
      refine za_aload_n dX6_personItem_1 rfl ?_
      refine za_getR dX6_personItem_2 zf_X6_7 rfl rfl ?_
      refine za_iconst (nI 1) dX6_personItem_5 (by decide) ?_
      refine zm_ald1 dX6_personItem_6 ?_
      rw [hn]
      refine za_bipush (nI 8) dX6_personItem_7 (by decide) ?_
      refine za_icmp_ge 16 dX6_personItem_9 (by decide) (fun c9 => absurd c9 (nI_ge (show n < 8 by omega) (by decide))) (fun c9 => ?_)
      refine za_iconst (nI 1) dX6_personItem_12 (by decide) ?_
      refine za_goto 17 dX6_personItem_13 (by decide) ?_
      refine za_callV (As := [.int (nI 1)]) (rest := []) dX6_personItem_17 zm_X6_218 zw_X6_must zv_X6_must (m_must_t (S := zpm σ τ) (mQ_pm hQ)) (by decide) rfl rfl rfl rfl (Nat.le_of_ble_eq_true rfl) rfl (fun r17 s17 hE17 => ?_)
      obtain ⟨rfl, hM17, hQ17, hv17⟩ := hE17
      show zAW _ _ _ _ _ _ _ [] _
      rw [zM_pm hM17]
      have hI17 := zM_i hM17
      refine za_aload_n dX6_personItem_20 rfl ?_
      refine za_getI dX6_personItem_21 zf_X6_204 rfl rfl ?_
      rw [show (zpm s17 τ).1 34 11 = mw false from hQ17.2.2.2.2]
      refine za_if_eq 28 dX6_personItem_24 (by decide) (fun c24 => ?_) (fun c24 => absurd (by decide) c24)
      refine za_aload_n dX6_personItem_28 rfl ?_
      refine za_iload_n dX6_personItem_29 rfl ?_
      refine za_cV1 dX6_personItem_30 zm_X6_107 zw_X6_adds zv_X6_adds (m_adds (σ := s17) (τ := τ) (n := n) (by omega) hn) (by decide) rfl rfl rfl (Nat.le_of_ble_eq_true rfl) ?_
      refine za_istore_n (lv' := [_, _, _]) dX6_personItem_33 hN (by decide) rfl ?_
      refine za_aload_n dX6_personItem_34 rfl ?_
      refine za_ldc2 (v := lN 12748243) dX6_personItem_35 zk_X6_245 ?_
      rw [show lN 12748243 = l_C 6 from l_C_v.2.2.2.2.2.2.1.symm]
      refine za_iload_n dX6_personItem_38 rfl ?_
      refine za_iconst (nI 1) dX6_personItem_39 (by decide) ?_
      refine za_cS2 dX6_personItem_40 zm_X6_42 zw_X6_spot zs_X6_spot (m_spot) (by decide) (Nat.le_of_ble_eq_true rfl) ?_
      refine za_bipush (nI 63) dX6_personItem_43 (by decide) ?_
      refine za_callV (As := [.long (l_C 6), .int (nI (16 + 4 * n + 1)), .int (nI 63)]) (rest := []) dX6_personItem_45 zm_X6_247 zw_X6_partItem zv_X6_partItem (m_part (σ := s17) (τ := (p_ad τ (nI k))) hQ17 (i := 6) (p := n) (w := 1) (most := 63) (by decide) (by omega) (by decide) (by decide)) (by decide) rfl rfl rfl rfl (Nat.le_of_ble_eq_true rfl) rfl (fun r45 s45 hE45 => ?_)
      obtain ⟨rfl, σ45, τ45, rfl, hI45, hQ45, hτ45⟩ := hE45
      show zAW _ _ _ _ _ _ _ [] _
      refine za_aload_n dX6_personItem_48 rfl ?_
      refine za_ldc2 (v := lN 16955493) dX6_personItem_49 zk_X6_251 ?_
      rw [show lN 16955493 = l_C 7 from l_C_v.2.2.2.2.2.2.2.1.symm]
      refine za_iload_n dX6_personItem_52 rfl ?_
      refine za_iconst (nI 2) dX6_personItem_53 (by decide) ?_
      refine za_cS2 dX6_personItem_54 zm_X6_42 zw_X6_spot zs_X6_spot (m_spot) (by decide) (Nat.le_of_ble_eq_true rfl) ?_
      refine za_sipush (nI 9999) dX6_personItem_57 (by decide) ?_
      refine za_cV3v dX6_personItem_60 zm_X6_247 zw_X6_partItem zv_X6_partItem (m_part_w (σ := σ45) (τ := τ45) (i := 7) (s := (p_part B L 6 4 63 n (l_nx B L s) (p_ad τ (nI k))).2.1) (by rw [Bool.not_eq_true] at h1; rw [h1] at hQ45; exact hQ45) (by decide)) (by decide) rfl rfl rfl (Nat.le_of_ble_eq_true rfl) ?_
      exact za_vret hM dX6_personItem_63 (by rw [p_pers_n hz h8, show p_p2 B L n (p_part B L 6 4 63 n (l_nx B L s) (p_ad τ (nI k))) = (p_part B L 6 4 63 n (l_nx B L s) (p_ad τ (nI k))) from if_neg h1]; exact ⟨rfl, _, _, rfl, zMi_tr hI17 hI45, hQ45, hτ45⟩)

set_option maxRecDepth 20000 in
set_option maxHeartbeats 4000000 in
theorem m_side {g : zG} {σ : zSto} {τ : zTn} {B : Nat → Nat} {L : Nat} {s : Nat} (hQ : mQ σ B L false s) {side : Nat} (hs : side < 2) : zEv g 5 yX6_sideItem cX6_sideItem 3 none [.ref (zad g 34), .int (nI side)] (zpm σ τ) (mE σ B L (p_lyg B L s τ side)) := by
  refine zev_intro (own := RX6) (lv := [some (.ref (zad g 34)), some (.int (nI side)), none]) (by decide +kernel) rfl (Nat.le_of_ble_eq_true rfl) rfl (fun C hM hN => ?_)
  by_cases h1 : l_num B L (l_nx B L s) 5 = true
  · by_cases h2 : l_num B L (l_nx B L (l_nx B L s)) 9999 = true
    · refine za_aload_n dX6_sideItem_0 rfl ?_
      refine za_iconst (nI 1) dX6_sideItem_1 (by decide) ?_
      refine za_callV (As := [.int (nI 1)]) (rest := []) dX6_sideItem_2 zm_X6_218 zw_X6_must zv_X6_must (m_must_t (S := zpm σ τ) (mQ_pm hQ)) (by decide) rfl rfl rfl rfl (Nat.le_of_ble_eq_true rfl) rfl (fun r2 s2 hE2 => ?_)
      obtain ⟨rfl, hM2, hQ2, hv2⟩ := hE2
      show zAW _ _ _ _ _ _ _ [] _
      rw [zM_pm hM2]
      have hI2 := zM_i hM2
      refine za_aload_n dX6_sideItem_5 rfl ?_
      refine za_iconst (nI 0) dX6_sideItem_6 (by decide) ?_
      refine za_iconst (nI 5) dX6_sideItem_7 (by decide) ?_
      refine za_callV (As := [.int (nI 0), .int (nI 5)]) (rest := []) dX6_sideItem_8 zm_X6_242 zw_X6_number zv_X6_number (m_number (S := zpm s2 τ) (mQ_pm hQ2) (hh := nI 5) (by decide) ((l_num_iff (by decide)).mp h1)) (by decide) rfl rfl rfl rfl (Nat.le_of_ble_eq_true rfl) rfl (fun r8 s8 hE8 => ?_)
      obtain ⟨rfl, hM8, hQ8, hv8⟩ := hE8
      show zAW _ _ _ _ _ _ _ [] _
      rw [zM_pm hM8]
      have hI8 := zM_i hM8
      refine za_aload_n dX6_sideItem_11 rfl ?_
      refine za_getI dX6_sideItem_12 zf_X6_215 rfl rfl ?_
      rw [show (zpm s8 τ).1 34 10 = nI (l_v B L (l_nx B L s)) from hv8]
      refine za_istore_n (lv' := [_, _, _]) dX6_sideItem_15 hN (by decide) rfl ?_
      refine za_aload_n dX6_sideItem_16 rfl ?_
      refine za_iconst (nI 0) dX6_sideItem_17 (by decide) ?_
      refine za_sipush (nI 9999) dX6_sideItem_18 (by decide) ?_
      refine za_callV (As := [.int (nI 0), .int (nI 9999)]) (rest := []) dX6_sideItem_21 zm_X6_242 zw_X6_number zv_X6_number (m_number (S := zpm s8 τ) (mQ_pm hQ8) (hh := nI 9999) (by decide) ((l_num_iff (by decide)).mp h2)) (by decide) rfl rfl rfl rfl (Nat.le_of_ble_eq_true rfl) rfl (fun r21 s21 hE21 => ?_)
      obtain ⟨rfl, hM21, hQ21, hv21⟩ := hE21
      show zAW _ _ _ _ _ _ _ [] _
      rw [zM_pm hM21]
      have hI21 := zM_i hM21
      refine za_aload_n dX6_sideItem_24 rfl ?_
      refine za_getI dX6_sideItem_25 zf_X6_204 rfl rfl ?_
      rw [show (zpm s21 τ).1 34 11 = mw false from hQ21.2.2.2.2]
      refine za_if_ne 45 dX6_sideItem_28 (by decide) (fun c28 => absurd (by decide) c28) (fun c28 => ?_)
      refine za_aload_n dX6_sideItem_31 rfl ?_
      refine za_getR dX6_sideItem_32 zf_X6_7 rfl rfl ?_
      refine za_iload_n dX6_sideItem_35 rfl ?_
      refine za_iload_n dX6_sideItem_36 rfl ?_
      refine za_cS2 dX6_sideItem_37 zm_X6_52 zw_X6_basinSpot zs_X6_basinSpot (m_basinSpot) (by decide) (Nat.le_of_ble_eq_true rfl) ?_
      refine za_aload_n dX6_sideItem_40 rfl ?_
      refine za_getI dX6_sideItem_41 zf_X6_215 rfl rfl ?_
      rw [show (zpm s21 τ).1 34 10 = nI (l_v B L (l_nx B L (l_nx B L s))) from hv21]
      refine zm_astB dX6_sideItem_44 (show l_v B L (l_nx B L s) < 6 from Nat.lt_succ_of_le (l_num_v h1).2) hs ?_
      exact za_vret hM dX6_sideItem_45 (by unfold p_lyg; rw [if_pos h1, if_pos h2]; exact ⟨rfl, _, _, rfl, zMi_tr hI2 (zMi_tr hI8 hI21), hQ21, fun _ => rfl⟩)
    · refine za_aload_n dX6_sideItem_0 rfl ?_
      refine za_iconst (nI 1) dX6_sideItem_1 (by decide) ?_
      refine za_callV (As := [.int (nI 1)]) (rest := []) dX6_sideItem_2 zm_X6_218 zw_X6_must zv_X6_must (m_must_t (S := zpm σ τ) (mQ_pm hQ)) (by decide) rfl rfl rfl rfl (Nat.le_of_ble_eq_true rfl) rfl (fun r2 s2 hE2 => ?_)
      obtain ⟨rfl, hM2, hQ2, hv2⟩ := hE2
      show zAW _ _ _ _ _ _ _ [] _
      rw [zM_pm hM2]
      have hI2 := zM_i hM2
      refine za_aload_n dX6_sideItem_5 rfl ?_
      refine za_iconst (nI 0) dX6_sideItem_6 (by decide) ?_
      refine za_iconst (nI 5) dX6_sideItem_7 (by decide) ?_
      refine za_callV (As := [.int (nI 0), .int (nI 5)]) (rest := []) dX6_sideItem_8 zm_X6_242 zw_X6_number zv_X6_number (m_number (S := zpm s2 τ) (mQ_pm hQ2) (hh := nI 5) (by decide) ((l_num_iff (by decide)).mp h1)) (by decide) rfl rfl rfl rfl (Nat.le_of_ble_eq_true rfl) rfl (fun r8 s8 hE8 => ?_)
      obtain ⟨rfl, hM8, hQ8, hv8⟩ := hE8
      show zAW _ _ _ _ _ _ _ [] _
      rw [zM_pm hM8]
      have hI8 := zM_i hM8
      refine za_aload_n dX6_sideItem_11 rfl ?_
      refine za_getI dX6_sideItem_12 zf_X6_215 rfl rfl ?_
      rw [show (zpm s8 τ).1 34 10 = nI (l_v B L (l_nx B L s)) from hv8]
      refine za_istore_n (lv' := [_, _, _]) dX6_sideItem_15 hN (by decide) rfl ?_
      refine za_aload_n dX6_sideItem_16 rfl ?_
      refine za_iconst (nI 0) dX6_sideItem_17 (by decide) ?_
      refine za_sipush (nI 9999) dX6_sideItem_18 (by decide) ?_
      refine za_callV (As := [.int (nI 0), .int (nI 9999)]) (rest := []) dX6_sideItem_21 zm_X6_242 zw_X6_number zv_X6_number (m_number_no (S := zpm s8 τ) (mQ_pm hQ8) (hh := nI 9999) (by decide) (fun z => h2 ((l_num_iff (by decide)).mpr z))) (by decide) rfl rfl rfl rfl (Nat.le_of_ble_eq_true rfl) rfl (fun r21 s21 hE21 => ?_)
      obtain ⟨rfl, hM21, hQ21⟩ := hE21
      show zAW _ _ _ _ _ _ _ [] _
      rw [zM_pm hM21]
      have hI21 := zM_i hM21
      refine za_aload_n dX6_sideItem_24 rfl ?_
      refine za_getI dX6_sideItem_25 zf_X6_204 rfl rfl ?_
      rw [show (zpm s21 τ).1 34 11 = mw true from hQ21.2.2.2.2]
      refine za_if_ne 45 dX6_sideItem_28 (by decide) (fun c28 => ?_) (fun c28 => absurd c28 (by decide))
      exact za_vret hM dX6_sideItem_45 (by unfold p_lyg; rw [if_pos h1, if_neg h2]; exact ⟨rfl, _, _, rfl, zMi_tr hI2 (zMi_tr hI8 hI21), hQ21, fun z => by cases z⟩)
  · refine za_aload_n dX6_sideItem_0 rfl ?_
    refine za_iconst (nI 1) dX6_sideItem_1 (by decide) ?_
    refine za_callV (As := [.int (nI 1)]) (rest := []) dX6_sideItem_2 zm_X6_218 zw_X6_must zv_X6_must (m_must_t (S := zpm σ τ) (mQ_pm hQ)) (by decide) rfl rfl rfl rfl (Nat.le_of_ble_eq_true rfl) rfl (fun r2 s2 hE2 => ?_)
    obtain ⟨rfl, hM2, hQ2, hv2⟩ := hE2
    show zAW _ _ _ _ _ _ _ [] _
    rw [zM_pm hM2]
    have hI2 := zM_i hM2
    refine za_aload_n dX6_sideItem_5 rfl ?_
    refine za_iconst (nI 0) dX6_sideItem_6 (by decide) ?_
    refine za_iconst (nI 5) dX6_sideItem_7 (by decide) ?_
    refine za_callV (As := [.int (nI 0), .int (nI 5)]) (rest := []) dX6_sideItem_8 zm_X6_242 zw_X6_number zv_X6_number (m_number_no (S := zpm s2 τ) (mQ_pm hQ2) (hh := nI 5) (by decide) (fun z => h1 ((l_num_iff (by decide)).mpr z))) (by decide) rfl rfl rfl rfl (Nat.le_of_ble_eq_true rfl) rfl (fun r8 s8 hE8 => ?_)
    obtain ⟨rfl, hM8, hQ8⟩ := hE8
    show zAW _ _ _ _ _ _ _ [] _
    rw [zM_pm hM8]
    have hI8 := zM_i hM8
    refine za_aload_n dX6_sideItem_11 rfl ?_
    refine za_getI dX6_sideItem_12 zf_X6_215 rfl rfl ?_
    refine za_istore_n (lv' := [_, _, _]) dX6_sideItem_15 hN (by decide) rfl ?_
    refine za_aload_n dX6_sideItem_16 rfl ?_
    refine za_iconst (nI 0) dX6_sideItem_17 (by decide) ?_
    refine za_sipush (nI 9999) dX6_sideItem_18 (by decide) ?_
    refine za_cV2v dX6_sideItem_21 zm_X6_242 zw_X6_number zv_X6_number (m_number_w (S := zpm s8 τ) (mQ_pm hQ8)) (by decide) rfl rfl rfl (Nat.le_of_ble_eq_true rfl) ?_
    refine za_aload_n dX6_sideItem_24 rfl ?_
    refine za_getI dX6_sideItem_25 zf_X6_204 rfl rfl ?_
    rw [show (zpm s8 τ).1 34 11 = mw true from hQ8.2.2.2.2]
    refine za_if_ne 45 dX6_sideItem_28 (by decide) (fun c28 => ?_) (fun c28 => absurd c28 (by decide))
    exact za_vret hM dX6_sideItem_45 (by unfold p_lyg; rw [if_neg h1]; exact ⟨rfl, _, _, rfl, zMi_tr hI2 hI8, hQ8, fun z => by cases z⟩)

set_option maxRecDepth 20000 in
set_option maxHeartbeats 4000000 in
theorem m_bribe {g : zG} {σ : zSto} {τ : zTn} {B : Nat → Nat} {L : Nat} {s : Nat} (hQ : mQ σ B L false s)  : zEv g 4 yX6_bribeItem cX6_bribeItem 2 none [.ref (zad g 34)] (zpm σ τ) (mE σ B L (p_brb B L s τ)) := by
  refine zev_intro (own := RX6) (lv := [some (.ref (zad g 34)), none]) (by decide +kernel) rfl (Nat.le_of_ble_eq_true rfl) rfl (fun C hM hN => ?_)
  by_cases h1 : l_w B L (l_nx B L s) 8 = true
  · refine za_aload_n dX6_bribeItem_0 rfl ?_
    refine za_iconst (nI 1) dX6_bribeItem_1 (by decide) ?_
    refine za_callV (As := [.int (nI 1)]) (rest := []) dX6_bribeItem_2 zm_X6_218 zw_X6_must zv_X6_must (m_must_t (S := zpm σ τ) (mQ_pm hQ)) (by decide) rfl rfl rfl rfl (Nat.le_of_ble_eq_true rfl) rfl (fun r2 s2 hE2 => ?_)
    obtain ⟨rfl, hM2, hQ2, hv2⟩ := hE2
    show zAW _ _ _ _ _ _ _ [] _
    rw [zM_pm hM2]
    have hI2 := zM_i hM2
    refine za_aload_n dX6_bribeItem_5 rfl ?_
    refine za_cV0 dX6_bribeItem_6 zm_X6_253 zw_X6_sideHere zv_X6_sideHere (m_sideHere (S := zpm s2 τ) (mQ_pm hQ2)) (by decide) rfl rfl rfl (Nat.le_of_ble_eq_true rfl) ?_
    rw [show l_sr B L (l_nx B L s) = nI 0 from if_pos h1]
    refine za_istore_n (lv' := [_, _]) dX6_bribeItem_9 hN (by decide) rfl ?_
    refine za_aload_n dX6_bribeItem_10 rfl ?_
    refine za_iload_n dX6_bribeItem_11 rfl ?_
    refine za_if_lt 19 dX6_bribeItem_12 (by decide) (fun c12 => absurd c12 (by decide)) (fun c12 => ?_)
    refine za_iconst (nI 1) dX6_bribeItem_15 (by decide) ?_
    refine za_goto 20 dX6_bribeItem_16 (by decide) ?_
    refine za_callV (As := [.int (nI 1)]) (rest := []) dX6_bribeItem_20 zm_X6_218 zw_X6_must zv_X6_must (m_must_t (S := zpm s2 τ) (mQ_pm hQ2)) (by decide) rfl rfl rfl rfl (Nat.le_of_ble_eq_true rfl) rfl (fun r20 s20 hE20 => ?_)
    obtain ⟨rfl, hM20, hQ20, hv20⟩ := hE20
    show zAW _ _ _ _ _ _ _ [] _
    rw [zM_pm hM20]
    have hI20 := zM_i hM20
    refine za_aload_n dX6_bribeItem_23 rfl ?_
    refine za_getR dX6_bribeItem_24 zf_X6_7 rfl rfl ?_
    refine za_iconst (nI 3) dX6_bribeItem_27 (by decide) ?_
    refine za_aload_n dX6_bribeItem_28 rfl ?_
    refine za_getI dX6_bribeItem_29 zf_X6_204 rfl rfl ?_
    rw [show (zpm s20 τ).1 34 11 = mw false from hQ20.2.2.2.2]
    refine za_if_eq 44 dX6_bribeItem_32 (by decide) (fun c32 => ?_) (fun c32 => absurd (by decide) c32)
    refine za_iload_n dX6_bribeItem_44 rfl ?_
    refine zm_ast3 dX6_bribeItem_45 ?_
    exact za_vret hM dX6_bribeItem_46 (by unfold p_brb; rw [if_pos h1]; exact ⟨rfl, _, _, rfl, zMi_tr hI2 hI20, hQ20, fun z => by first | rfl | cases z⟩)
  · by_cases h2 : l_w B L (l_nx B L s) 9 = true
    · refine za_aload_n dX6_bribeItem_0 rfl ?_
      refine za_iconst (nI 1) dX6_bribeItem_1 (by decide) ?_
      refine za_callV (As := [.int (nI 1)]) (rest := []) dX6_bribeItem_2 zm_X6_218 zw_X6_must zv_X6_must (m_must_t (S := zpm σ τ) (mQ_pm hQ)) (by decide) rfl rfl rfl rfl (Nat.le_of_ble_eq_true rfl) rfl (fun r2 s2 hE2 => ?_)
      obtain ⟨rfl, hM2, hQ2, hv2⟩ := hE2
      show zAW _ _ _ _ _ _ _ [] _
      rw [zM_pm hM2]
      have hI2 := zM_i hM2
      refine za_aload_n dX6_bribeItem_5 rfl ?_
      refine za_cV0 dX6_bribeItem_6 zm_X6_253 zw_X6_sideHere zv_X6_sideHere (m_sideHere (S := zpm s2 τ) (mQ_pm hQ2)) (by decide) rfl rfl rfl (Nat.le_of_ble_eq_true rfl) ?_
      rw [show l_sr B L (l_nx B L s) = nI 1 by unfold l_sr; rw [if_neg h1, if_pos h2]]
      refine za_istore_n (lv' := [_, _]) dX6_bribeItem_9 hN (by decide) rfl ?_
      refine za_aload_n dX6_bribeItem_10 rfl ?_
      refine za_iload_n dX6_bribeItem_11 rfl ?_
      refine za_if_lt 19 dX6_bribeItem_12 (by decide) (fun c12 => absurd c12 (by decide)) (fun c12 => ?_)
      refine za_iconst (nI 1) dX6_bribeItem_15 (by decide) ?_
      refine za_goto 20 dX6_bribeItem_16 (by decide) ?_
      refine za_callV (As := [.int (nI 1)]) (rest := []) dX6_bribeItem_20 zm_X6_218 zw_X6_must zv_X6_must (m_must_t (S := zpm s2 τ) (mQ_pm hQ2)) (by decide) rfl rfl rfl rfl (Nat.le_of_ble_eq_true rfl) rfl (fun r20 s20 hE20 => ?_)
      obtain ⟨rfl, hM20, hQ20, hv20⟩ := hE20
      show zAW _ _ _ _ _ _ _ [] _
      rw [zM_pm hM20]
      have hI20 := zM_i hM20
      refine za_aload_n dX6_bribeItem_23 rfl ?_
      refine za_getR dX6_bribeItem_24 zf_X6_7 rfl rfl ?_
      refine za_iconst (nI 3) dX6_bribeItem_27 (by decide) ?_
      refine za_aload_n dX6_bribeItem_28 rfl ?_
      refine za_getI dX6_bribeItem_29 zf_X6_204 rfl rfl ?_
      rw [show (zpm s20 τ).1 34 11 = mw false from hQ20.2.2.2.2]
      refine za_if_eq 44 dX6_bribeItem_32 (by decide) (fun c32 => ?_) (fun c32 => absurd (by decide) c32)
      refine za_iload_n dX6_bribeItem_44 rfl ?_
      refine zm_ast3 dX6_bribeItem_45 ?_
      exact za_vret hM dX6_bribeItem_46 (by unfold p_brb; rw [if_neg h1, if_pos h2]; exact ⟨rfl, _, _, rfl, zMi_tr hI2 hI20, hQ20, fun z => by first | rfl | cases z⟩)
    · refine za_aload_n dX6_bribeItem_0 rfl ?_
      refine za_iconst (nI 1) dX6_bribeItem_1 (by decide) ?_
      refine za_callV (As := [.int (nI 1)]) (rest := []) dX6_bribeItem_2 zm_X6_218 zw_X6_must zv_X6_must (m_must_t (S := zpm σ τ) (mQ_pm hQ)) (by decide) rfl rfl rfl rfl (Nat.le_of_ble_eq_true rfl) rfl (fun r2 s2 hE2 => ?_)
      obtain ⟨rfl, hM2, hQ2, hv2⟩ := hE2
      show zAW _ _ _ _ _ _ _ [] _
      rw [zM_pm hM2]
      have hI2 := zM_i hM2
      refine za_aload_n dX6_bribeItem_5 rfl ?_
      refine za_cV0 dX6_bribeItem_6 zm_X6_253 zw_X6_sideHere zv_X6_sideHere (m_sideHere (S := zpm s2 τ) (mQ_pm hQ2)) (by decide) rfl rfl rfl (Nat.le_of_ble_eq_true rfl) ?_
      rw [show l_sr B L (l_nx B L s) = -1 by unfold l_sr; rw [if_neg h1, if_neg h2]]
      refine za_istore_n (lv' := [_, _]) dX6_bribeItem_9 hN (by decide) rfl ?_
      refine za_aload_n dX6_bribeItem_10 rfl ?_
      refine za_iload_n dX6_bribeItem_11 rfl ?_
      refine za_if_lt 19 dX6_bribeItem_12 (by decide) (fun c12 => ?_) (fun c12 => absurd (by decide) c12)
      refine za_iconst (nI 0) dX6_bribeItem_19 (by decide) ?_
      refine za_callV (As := [.int (nI 0)]) (rest := []) dX6_bribeItem_20 zm_X6_218 zw_X6_must zv_X6_must (m_must_f (S := zpm s2 τ) (mQ_pm hQ2)) (by decide) rfl rfl rfl rfl (Nat.le_of_ble_eq_true rfl) rfl (fun r20 s20 hE20 => ?_)
      obtain ⟨rfl, hM20, hQ20⟩ := hE20
      show zAW _ _ _ _ _ _ _ [] _
      rw [zM_pm hM20]
      have hI20 := zM_i hM20
      refine za_aload_n dX6_bribeItem_23 rfl ?_
      refine za_getR dX6_bribeItem_24 zf_X6_7 rfl rfl ?_
      refine za_iconst (nI 3) dX6_bribeItem_27 (by decide) ?_
      refine za_aload_n dX6_bribeItem_28 rfl ?_
      refine za_getI dX6_bribeItem_29 zf_X6_204 rfl rfl ?_
      rw [show (zpm s20 τ).1 34 11 = mw true from hQ20.2.2.2.2]
      refine za_if_eq 44 dX6_bribeItem_32 (by decide) (fun c32 => absurd c32 (by decide)) (fun c32 => ?_)
      refine za_aload_n dX6_bribeItem_35 rfl ?_
      refine za_getR dX6_bribeItem_36 zf_X6_7 rfl rfl ?_
      refine za_iconst (nI 3) dX6_bribeItem_39 (by decide) ?_
      refine zm_ald3 dX6_bribeItem_40 ?_
      refine za_goto 45 dX6_bribeItem_41 (by decide) ?_
      refine zm_ast3 dX6_bribeItem_45 ?_
      exact za_vret hM dX6_bribeItem_46 (by unfold p_brb; rw [if_neg h1, if_neg h2]; exact ⟨rfl, _, _, rfl, zMi_tr hI2 hI20, hQ20, fun z => by first | rfl | cases z⟩)

theorem zaw9 {x : Int32} {n : Nat} (hx : x = nI n) (h : n < 9) : x - nI 1 ≤ nI 9999 := by
  have h1 : ∀ k : Fin 9, nI k.val - nI 1 ≤ nI 9999 := by decide +kernel
  rw [hx]; exact h1 ⟨n, h⟩

set_option maxRecDepth 20000 in
set_option maxHeartbeats 4000000 in
theorem m_away {g : zG} {σ : zSto} {τ : zTn} {B : Nat → Nat} {L : Nat} {s : Nat} (hQ : mQ σ B L false s) {n : Nat} (hn : τ 0 3 = nI n) (h9 : n < 9)  : zEv g 5 yX6_awayItem cX6_awayItem 1 none [.ref (zad g 34)] (zpm σ τ) (mE σ B L (p_awy B L s τ)) := by
  refine zev_intro (own := RX6) (lv := [some (.ref (zad g 34))]) (by decide +kernel) rfl (Nat.le_of_ble_eq_true rfl) rfl (fun C hM hN => ?_)
  have hz : zn (τ 0 3) = n := by rw [hn]; exact zn_nI (by omega)
  by_cases h1 : l_K B L (l_nx B L s) = 2 ∧ l_v B L (l_nx B L s) < n
  · refine za_aload_n dX6_awayItem_0 rfl ?_
    refine za_iconst (nI 1) dX6_awayItem_1 (by decide) ?_
    refine za_callV (As := [.int (nI 1)]) (rest := []) dX6_awayItem_2 zm_X6_218 zw_X6_must zv_X6_must (m_must_t (S := zpm σ τ) (mQ_pm hQ)) (by decide) rfl rfl rfl rfl (Nat.le_of_ble_eq_true rfl) rfl (fun r2 s2 hE2 => ?_)
    obtain ⟨rfl, hM2, hQ2, hv2⟩ := hE2
    show zAW _ _ _ _ _ _ _ [] _
    rw [zM_pm hM2]
    have hI2 := zM_i hM2
    refine za_aload_n dX6_awayItem_5 rfl ?_
    refine za_iconst (nI 0) dX6_awayItem_6 (by decide) ?_
    refine za_aload_n dX6_awayItem_7 rfl ?_
    refine za_getR dX6_awayItem_8 zf_X6_7 rfl rfl ?_
    refine za_iconst (nI 1) dX6_awayItem_11 (by decide) ?_
    refine zm_ald1 dX6_awayItem_12 ?_
    refine za_iconst (nI 1) dX6_awayItem_13 (by decide) ?_
    refine za_isub dX6_awayItem_14 ?_
    refine za_callV (As := [.int (nI 0), .int (τ 0 3 - nI 1)]) (rest := []) dX6_awayItem_15 zm_X6_242 zw_X6_number zv_X6_number (m_number (S := zpm s2 τ) (mQ_pm hQ2) (hh := τ 0 3 - nI 1) (zaw9 hn h9) ((zaw hn h9).mpr h1)) (by decide) rfl rfl rfl rfl (Nat.le_of_ble_eq_true rfl) rfl (fun r15 s15 hE15 => ?_)
    obtain ⟨rfl, hM15, hQ15, hv15⟩ := hE15
    show zAW _ _ _ _ _ _ _ [] _
    rw [zM_pm hM15]
    have hI15 := zM_i hM15
    refine za_aload_n dX6_awayItem_18 rfl ?_
    refine za_getI dX6_awayItem_19 zf_X6_204 rfl rfl ?_
    rw [show (zpm s15 τ).1 34 11 = mw false from hQ15.2.2.2.2]
    refine za_if_ne 39 dX6_awayItem_22 (by decide) (fun c22 => absurd (by decide) c22) (fun c22 => ?_)
    refine za_aload_n dX6_awayItem_25 rfl ?_
    refine za_getR dX6_awayItem_26 zf_X6_7 rfl rfl ?_
    refine za_aload_n dX6_awayItem_29 rfl ?_
    refine za_getI dX6_awayItem_30 zf_X6_215 rfl rfl ?_
    rw [show (zpm s15 τ).1 34 10 = nI (l_v B L (l_nx B L s)) from hv15]
    refine za_iconst (nI 3) dX6_awayItem_33 (by decide) ?_
    refine za_cS2 dX6_awayItem_34 zm_X6_42 zw_X6_spot zs_X6_spot (m_spot) (by decide) (Nat.le_of_ble_eq_true rfl) ?_
    refine za_iconst (nI 1) dX6_awayItem_37 (by decide) ?_
    refine zm_astP dX6_awayItem_38 (by omega) (by decide) ?_
    exact za_vret hM dX6_awayItem_39 (by unfold p_awy; rw [hz, if_pos h1]; exact ⟨rfl, _, _, rfl, zMi_tr hI2 hI15, hQ15, fun _ => rfl⟩)
  · refine za_aload_n dX6_awayItem_0 rfl ?_
    refine za_iconst (nI 1) dX6_awayItem_1 (by decide) ?_
    refine za_callV (As := [.int (nI 1)]) (rest := []) dX6_awayItem_2 zm_X6_218 zw_X6_must zv_X6_must (m_must_t (S := zpm σ τ) (mQ_pm hQ)) (by decide) rfl rfl rfl rfl (Nat.le_of_ble_eq_true rfl) rfl (fun r2 s2 hE2 => ?_)
    obtain ⟨rfl, hM2, hQ2, hv2⟩ := hE2
    show zAW _ _ _ _ _ _ _ [] _
    rw [zM_pm hM2]
    have hI2 := zM_i hM2
    refine za_aload_n dX6_awayItem_5 rfl ?_
    refine za_iconst (nI 0) dX6_awayItem_6 (by decide) ?_
    refine za_aload_n dX6_awayItem_7 rfl ?_
    refine za_getR dX6_awayItem_8 zf_X6_7 rfl rfl ?_
    refine za_iconst (nI 1) dX6_awayItem_11 (by decide) ?_
    refine zm_ald1 dX6_awayItem_12 ?_
    refine za_iconst (nI 1) dX6_awayItem_13 (by decide) ?_
    refine za_isub dX6_awayItem_14 ?_
    refine za_callV (As := [.int (nI 0), .int (τ 0 3 - nI 1)]) (rest := []) dX6_awayItem_15 zm_X6_242 zw_X6_number zv_X6_number (m_number_no (S := zpm s2 τ) (mQ_pm hQ2) (hh := τ 0 3 - nI 1) (zaw9 hn h9) (fun z => h1 ((zaw hn h9).mp z))) (by decide) rfl rfl rfl rfl (Nat.le_of_ble_eq_true rfl) rfl (fun r15 s15 hE15 => ?_)
    obtain ⟨rfl, hM15, hQ15⟩ := hE15
    show zAW _ _ _ _ _ _ _ [] _
    rw [zM_pm hM15]
    have hI15 := zM_i hM15
    refine za_aload_n dX6_awayItem_18 rfl ?_
    refine za_getI dX6_awayItem_19 zf_X6_204 rfl rfl ?_
    rw [show (zpm s15 τ).1 34 11 = mw true from hQ15.2.2.2.2]
    refine za_if_ne 39 dX6_awayItem_22 (by decide) (fun c22 => ?_) (fun c22 => absurd c22 (by decide))
    exact za_vret hM dX6_awayItem_39 (by unfold p_awy; rw [hz, if_neg h1]; exact ⟨rfl, _, _, rfl, zMi_tr hI2 hI15, hQ15, fun z => by cases z⟩)

theorem nI_nneg {k : Nat} (h : k < 6) : ¬ nI k < 0 := by
  have h1 : ∀ k : Fin 6, ¬ nI k.val < 0 := by decide +kernel
  exact h1 ⟨k, h⟩

set_option maxRecDepth 20000 in
set_option maxHeartbeats 4000000 in
theorem m_item {g : zG} {σ : zSto} {τ : zTn} {B : Nat → Nat} {L : Nat} {s : Nat} (hQ : mQ σ B L false s) {n : Nat} (hn : τ 0 3 = nI n) (h9 : n < 9)  : zEv g 7 yX6_item cX6_item 5 none [.ref (zad g 34)] (zpm σ τ) (mE σ B L (p_item B L s τ)) := by
  refine zev_intro (own := RX6) (lv := [some (.ref (zad g 34)), none, none, none, none]) (by decide +kernel) rfl (Nat.le_of_ble_eq_true rfl) rfl (fun C hM hN => ?_)
  by_cases hk : l_kd B L s < 6
  · refine za_aload_n dX6_item_0 rfl ?_
    refine za_cV0 dX6_item_1 zm_X6_256 zw_X6_kindHere zv_X6_kindHere (m_kindHere (S := zpm σ τ) (mQ_pm hQ)) (by decide) rfl rfl rfl (Nat.le_of_ble_eq_true rfl) ?_
    rw [l_kr_1 hk]
    refine za_istore_n (lv' := [_, _, _, _, _]) dX6_item_4 hN (by decide) rfl ?_
    refine za_aload_n dX6_item_5 rfl ?_
    refine za_cV0 dX6_item_6 zm_X6_253 zw_X6_sideHere zv_X6_sideHere (m_sideHere (S := zpm σ τ) (mQ_pm hQ)) (by decide) rfl rfl rfl (Nat.le_of_ble_eq_true rfl) ?_
    refine za_istore_n (lv' := [_, _, _, _, _]) dX6_item_9 hN (by decide) rfl ?_
    refine za_aload_n dX6_item_10 rfl ?_
    refine za_cV0 dX6_item_11 zm_X6_222 zw_X6_word zv_X6_word (m_word (S := zpm σ τ) (mQ_pm hQ)) (by decide) rfl rfl rfl (Nat.le_of_ble_eq_true rfl) ?_
    refine za_lstore_n (lv' := [_, _, _, _, _]) dX6_item_14 hN (by decide) rfl ?_
    refine za_iload_n dX6_item_15 rfl ?_
    refine za_if_lt 27 dX6_item_16 (by decide) (fun c16 => absurd c16 (nI_nneg hk)) (fun c16 => ?_)
    refine za_aload_n dX6_item_19 rfl ?_
    refine za_iload_n dX6_item_20 rfl ?_
    refine za_callV (As := [.int (nI (l_kd B L s))]) (rest := []) dX6_item_21 zm_X6_259 zw_X6_personItem zv_X6_personItem (m_person hQ hn h9 (k := l_kd B L s)) (by decide) rfl rfl rfl rfl (Nat.le_of_ble_eq_true rfl) rfl (fun r21 s21 hE21 => ?_)
    obtain ⟨rfl, σ21, τ21, rfl, hI21, hQ21, hτ21⟩ := hE21
    show zAW _ _ _ _ _ _ _ [] _
    refine za_goto 74 dX6_item_24 (by decide) ?_
    exact za_vret hM dX6_item_74 (by unfold p_item; rw [if_pos hk]; exact ⟨rfl, _, _, rfl, hI21, hQ21, hτ21⟩)
  · by_cases h8 : l_w B L s 8 = true
    · refine za_aload_n dX6_item_0 rfl ?_
      refine za_cV0 dX6_item_1 zm_X6_256 zw_X6_kindHere zv_X6_kindHere (m_kindHere (S := zpm σ τ) (mQ_pm hQ)) (by decide) rfl rfl rfl (Nat.le_of_ble_eq_true rfl) ?_
      rw [l_kr_0 hk]
      refine za_istore_n (lv' := [_, _, _, _, _]) dX6_item_4 hN (by decide) rfl ?_
      refine za_aload_n dX6_item_5 rfl ?_
      refine za_cV0 dX6_item_6 zm_X6_253 zw_X6_sideHere zv_X6_sideHere (m_sideHere (S := zpm σ τ) (mQ_pm hQ)) (by decide) rfl rfl rfl (Nat.le_of_ble_eq_true rfl) ?_
      rw [show l_sr B L s = nI 0 by unfold l_sr; rw [if_pos h8]]
      refine za_istore_n (lv' := [_, _, _, _, _]) dX6_item_9 hN (by decide) rfl ?_
      refine za_aload_n dX6_item_10 rfl ?_
      refine za_cV0 dX6_item_11 zm_X6_222 zw_X6_word zv_X6_word (m_word (S := zpm σ τ) (mQ_pm hQ)) (by decide) rfl rfl rfl (Nat.le_of_ble_eq_true rfl) ?_
      refine za_lstore_n (lv' := [_, _, _, _, _]) dX6_item_14 hN (by decide) rfl ?_
      refine za_iload_n dX6_item_15 rfl ?_
      refine za_if_lt 27 dX6_item_16 (by decide) (fun c16 => ?_) (fun c16 => absurd (by decide) c16)
      refine za_iload_n dX6_item_27 rfl ?_
      refine za_if_lt 39 dX6_item_28 (by decide) (fun c28 => absurd c28 (by decide)) (fun c28 => ?_)
      refine za_aload_n dX6_item_31 rfl ?_
      refine za_iload_n dX6_item_32 rfl ?_
      refine za_callV (As := [.int (nI 0)]) (rest := []) dX6_item_33 zm_X6_262 zw_X6_sideItem zv_X6_sideItem (m_side hQ (side := 0) (by decide)) (by decide) rfl rfl rfl rfl (Nat.le_of_ble_eq_true rfl) rfl (fun r33 s33 hE33 => ?_)
      obtain ⟨rfl, σ33, τ33, rfl, hI33, hQ33, hτ33⟩ := hE33
      show zAW _ _ _ _ _ _ _ [] _
      refine za_goto 74 dX6_item_36 (by decide) ?_
      exact za_vret hM dX6_item_74 (by unfold p_item; rw [if_neg hk, if_pos h8]; exact ⟨rfl, _, _, rfl, hI33, hQ33, hτ33⟩)
    · by_cases h9w : l_w B L s 9 = true
      · refine za_aload_n dX6_item_0 rfl ?_
        refine za_cV0 dX6_item_1 zm_X6_256 zw_X6_kindHere zv_X6_kindHere (m_kindHere (S := zpm σ τ) (mQ_pm hQ)) (by decide) rfl rfl rfl (Nat.le_of_ble_eq_true rfl) ?_
        rw [l_kr_0 hk]
        refine za_istore_n (lv' := [_, _, _, _, _]) dX6_item_4 hN (by decide) rfl ?_
        refine za_aload_n dX6_item_5 rfl ?_
        refine za_cV0 dX6_item_6 zm_X6_253 zw_X6_sideHere zv_X6_sideHere (m_sideHere (S := zpm σ τ) (mQ_pm hQ)) (by decide) rfl rfl rfl (Nat.le_of_ble_eq_true rfl) ?_
        rw [show l_sr B L s = nI 1 by unfold l_sr; rw [if_neg h8, if_pos h9w]]
        refine za_istore_n (lv' := [_, _, _, _, _]) dX6_item_9 hN (by decide) rfl ?_
        refine za_aload_n dX6_item_10 rfl ?_
        refine za_cV0 dX6_item_11 zm_X6_222 zw_X6_word zv_X6_word (m_word (S := zpm σ τ) (mQ_pm hQ)) (by decide) rfl rfl rfl (Nat.le_of_ble_eq_true rfl) ?_
        refine za_lstore_n (lv' := [_, _, _, _, _]) dX6_item_14 hN (by decide) rfl ?_
        refine za_iload_n dX6_item_15 rfl ?_
        refine za_if_lt 27 dX6_item_16 (by decide) (fun c16 => ?_) (fun c16 => absurd (by decide) c16)
        refine za_iload_n dX6_item_27 rfl ?_
        refine za_if_lt 39 dX6_item_28 (by decide) (fun c28 => absurd c28 (by decide)) (fun c28 => ?_)
        refine za_aload_n dX6_item_31 rfl ?_
        refine za_iload_n dX6_item_32 rfl ?_
        refine za_callV (As := [.int (nI 1)]) (rest := []) dX6_item_33 zm_X6_262 zw_X6_sideItem zv_X6_sideItem (m_side hQ (side := 1) (by decide)) (by decide) rfl rfl rfl rfl (Nat.le_of_ble_eq_true rfl) rfl (fun r33 s33 hE33 => ?_)
        obtain ⟨rfl, σ33, τ33, rfl, hI33, hQ33, hτ33⟩ := hE33
        show zAW _ _ _ _ _ _ _ [] _
        refine za_goto 74 dX6_item_36 (by decide) ?_
        exact za_vret hM dX6_item_74 (by unfold p_item; rw [if_neg hk, if_neg h8, if_pos h9w]; exact ⟨rfl, _, _, rfl, hI33, hQ33, hτ33⟩)
      · by_cases h10 : l_w B L s 10 = true
        · refine za_aload_n dX6_item_0 rfl ?_
          refine za_cV0 dX6_item_1 zm_X6_256 zw_X6_kindHere zv_X6_kindHere (m_kindHere (S := zpm σ τ) (mQ_pm hQ)) (by decide) rfl rfl rfl (Nat.le_of_ble_eq_true rfl) ?_
          rw [l_kr_0 hk]
          refine za_istore_n (lv' := [_, _, _, _, _]) dX6_item_4 hN (by decide) rfl ?_
          refine za_aload_n dX6_item_5 rfl ?_
          refine za_cV0 dX6_item_6 zm_X6_253 zw_X6_sideHere zv_X6_sideHere (m_sideHere (S := zpm σ τ) (mQ_pm hQ)) (by decide) rfl rfl rfl (Nat.le_of_ble_eq_true rfl) ?_
          rw [show l_sr B L s = -1 by unfold l_sr; rw [if_neg h8, if_neg h9w]]
          refine za_istore_n (lv' := [_, _, _, _, _]) dX6_item_9 hN (by decide) rfl ?_
          refine za_aload_n dX6_item_10 rfl ?_
          refine za_cV0 dX6_item_11 zm_X6_222 zw_X6_word zv_X6_word (m_word (S := zpm σ τ) (mQ_pm hQ)) (by decide) rfl rfl rfl (Nat.le_of_ble_eq_true rfl) ?_
          refine za_lstore_n (lv' := [_, _, _, _, _]) dX6_item_14 hN (by decide) rfl ?_
          refine za_iload_n dX6_item_15 rfl ?_
          refine za_if_lt 27 dX6_item_16 (by decide) (fun c16 => ?_) (fun c16 => absurd (by decide) c16)
          refine za_iload_n dX6_item_27 rfl ?_
          refine za_if_lt 39 dX6_item_28 (by decide) (fun c28 => ?_) (fun c28 => absurd (by decide) c28)
          refine za_lload_n dX6_item_39 rfl ?_
          refine za_ldc2 (v := lN 2696261) dX6_item_40 zk_X6_265 ?_
          refine za_lcmp dX6_item_43 ?_
          refine za_if_ne 54 dX6_item_44 (by decide) (fun c44 => absurd ((lwd hQ (i := 10) (by decide) l_C_v.2.2.2.2.2.2.2.2.2.2.1).mpr h10) c44) (fun c44 => ?_)
          refine za_aload_n dX6_item_47 rfl ?_
          refine za_callV (As := []) (rest := []) dX6_item_48 zm_X6_267 zw_X6_bribeItem zv_X6_bribeItem (m_bribe hQ) (by decide) rfl rfl rfl rfl (Nat.le_of_ble_eq_true rfl) rfl (fun r48 s48 hE48 => ?_)
          obtain ⟨rfl, σ48, τ48, rfl, hI48, hQ48, hτ48⟩ := hE48
          show zAW _ _ _ _ _ _ _ [] _
          refine za_goto 74 dX6_item_51 (by decide) ?_
          exact za_vret hM dX6_item_74 (by unfold p_item; rw [if_neg hk, if_neg h8, if_neg h9w, if_pos h10]; exact ⟨rfl, _, _, rfl, hI48, hQ48, hτ48⟩)
        · by_cases h11 : l_w B L s 11 = true
          · refine za_aload_n dX6_item_0 rfl ?_
            refine za_cV0 dX6_item_1 zm_X6_256 zw_X6_kindHere zv_X6_kindHere (m_kindHere (S := zpm σ τ) (mQ_pm hQ)) (by decide) rfl rfl rfl (Nat.le_of_ble_eq_true rfl) ?_
            rw [l_kr_0 hk]
            refine za_istore_n (lv' := [_, _, _, _, _]) dX6_item_4 hN (by decide) rfl ?_
            refine za_aload_n dX6_item_5 rfl ?_
            refine za_cV0 dX6_item_6 zm_X6_253 zw_X6_sideHere zv_X6_sideHere (m_sideHere (S := zpm σ τ) (mQ_pm hQ)) (by decide) rfl rfl rfl (Nat.le_of_ble_eq_true rfl) ?_
            rw [show l_sr B L s = -1 by unfold l_sr; rw [if_neg h8, if_neg h9w]]
            refine za_istore_n (lv' := [_, _, _, _, _]) dX6_item_9 hN (by decide) rfl ?_
            refine za_aload_n dX6_item_10 rfl ?_
            refine za_cV0 dX6_item_11 zm_X6_222 zw_X6_word zv_X6_word (m_word (S := zpm σ τ) (mQ_pm hQ)) (by decide) rfl rfl rfl (Nat.le_of_ble_eq_true rfl) ?_
            refine za_lstore_n (lv' := [_, _, _, _, _]) dX6_item_14 hN (by decide) rfl ?_
            refine za_iload_n dX6_item_15 rfl ?_
            refine za_if_lt 27 dX6_item_16 (by decide) (fun c16 => ?_) (fun c16 => absurd (by decide) c16)
            refine za_iload_n dX6_item_27 rfl ?_
            refine za_if_lt 39 dX6_item_28 (by decide) (fun c28 => ?_) (fun c28 => absurd (by decide) c28)
            refine za_lload_n dX6_item_39 rfl ?_
            refine za_ldc2 (v := lN 2696261) dX6_item_40 zk_X6_265 ?_
            refine za_lcmp dX6_item_43 ?_
            refine za_if_ne 54 dX6_item_44 (by decide) (fun c44 => ?_) (fun c44 => absurd c44 (fun z => h10 ((lwd hQ (i := 10) (by decide) l_C_v.2.2.2.2.2.2.2.2.2.2.1).mp z)))
            refine za_lload_n dX6_item_54 rfl ?_
            refine za_ldc2 (v := lN 56377) dX6_item_55 zk_X6_270 ?_
            refine za_lcmp dX6_item_58 ?_
            refine za_if_ne 69 dX6_item_59 (by decide) (fun c59 => absurd ((lwd hQ (i := 11) (by decide) l_C_v.2.2.2.2.2.2.2.2.2.2.2).mpr h11) c59) (fun c59 => ?_)
            refine za_aload_n dX6_item_62 rfl ?_
            refine za_callV (As := []) (rest := []) dX6_item_63 zm_X6_272 zw_X6_awayItem zv_X6_awayItem (m_away hQ hn h9) (by decide) rfl rfl rfl rfl (Nat.le_of_ble_eq_true rfl) rfl (fun r63 s63 hE63 => ?_)
            obtain ⟨rfl, σ63, τ63, rfl, hI63, hQ63, hτ63⟩ := hE63
            show zAW _ _ _ _ _ _ _ [] _
            refine za_goto 74 dX6_item_66 (by decide) ?_
            exact za_vret hM dX6_item_74 (by unfold p_item; rw [if_neg hk, if_neg h8, if_neg h9w, if_neg h10, if_pos h11]; exact ⟨rfl, _, _, rfl, hI63, hQ63, hτ63⟩)
          · refine za_aload_n dX6_item_0 rfl ?_
            refine za_cV0 dX6_item_1 zm_X6_256 zw_X6_kindHere zv_X6_kindHere (m_kindHere (S := zpm σ τ) (mQ_pm hQ)) (by decide) rfl rfl rfl (Nat.le_of_ble_eq_true rfl) ?_
            rw [l_kr_0 hk]
            refine za_istore_n (lv' := [_, _, _, _, _]) dX6_item_4 hN (by decide) rfl ?_
            refine za_aload_n dX6_item_5 rfl ?_
            refine za_cV0 dX6_item_6 zm_X6_253 zw_X6_sideHere zv_X6_sideHere (m_sideHere (S := zpm σ τ) (mQ_pm hQ)) (by decide) rfl rfl rfl (Nat.le_of_ble_eq_true rfl) ?_
            rw [show l_sr B L s = -1 by unfold l_sr; rw [if_neg h8, if_neg h9w]]
            refine za_istore_n (lv' := [_, _, _, _, _]) dX6_item_9 hN (by decide) rfl ?_
            refine za_aload_n dX6_item_10 rfl ?_
            refine za_cV0 dX6_item_11 zm_X6_222 zw_X6_word zv_X6_word (m_word (S := zpm σ τ) (mQ_pm hQ)) (by decide) rfl rfl rfl (Nat.le_of_ble_eq_true rfl) ?_
            refine za_lstore_n (lv' := [_, _, _, _, _]) dX6_item_14 hN (by decide) rfl ?_
            refine za_iload_n dX6_item_15 rfl ?_
            refine za_if_lt 27 dX6_item_16 (by decide) (fun c16 => ?_) (fun c16 => absurd (by decide) c16)
            refine za_iload_n dX6_item_27 rfl ?_
            refine za_if_lt 39 dX6_item_28 (by decide) (fun c28 => ?_) (fun c28 => absurd (by decide) c28)
            refine za_lload_n dX6_item_39 rfl ?_
            refine za_ldc2 (v := lN 2696261) dX6_item_40 zk_X6_265 ?_
            refine za_lcmp dX6_item_43 ?_
            refine za_if_ne 54 dX6_item_44 (by decide) (fun c44 => ?_) (fun c44 => absurd c44 (fun z => h10 ((lwd hQ (i := 10) (by decide) l_C_v.2.2.2.2.2.2.2.2.2.2.1).mp z)))
            refine za_lload_n dX6_item_54 rfl ?_
            refine za_ldc2 (v := lN 56377) dX6_item_55 zk_X6_270 ?_
            refine za_lcmp dX6_item_58 ?_
            refine za_if_ne 69 dX6_item_59 (by decide) (fun c59 => ?_) (fun c59 => absurd c59 (fun z => h11 ((lwd hQ (i := 11) (by decide) l_C_v.2.2.2.2.2.2.2.2.2.2.2).mp z)))
            refine za_aload_n dX6_item_69 rfl ?_
            refine za_iconst (nI 0) dX6_item_70 (by decide) ?_
            refine za_callV (As := [.int (nI 0)]) (rest := []) dX6_item_71 zm_X6_218 zw_X6_must zv_X6_must (m_must_f (S := zpm σ τ) (mQ_pm hQ)) (by decide) rfl rfl rfl rfl (Nat.le_of_ble_eq_true rfl) rfl (fun r71 s71 hE71 => ?_)
            obtain ⟨rfl, hM71, hQ71⟩ := hE71
            show zAW _ _ _ _ _ _ _ [] _
            rw [zM_pm hM71]
            have hI71 := zM_i hM71
            exact za_vret hM dX6_item_74 (by unfold p_item; rw [if_neg hk, if_neg h8, if_neg h9w, if_neg h10, if_neg h11]; exact ⟨rfl, _, _, rfl, hI71, hQ71, fun z => by cases z⟩)
