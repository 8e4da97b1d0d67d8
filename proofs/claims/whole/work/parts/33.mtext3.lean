/-- the town after the text -/
def p_tw (q : Bool × Nat × Nat × zTn) (τ : zTn) : zTn := if q.1 = true then q.2.2.2 else τ
theorem zM_Mi {S S' : zSto} (h : zM S S') : zMi S S' := ⟨fun x i hx _ => h.1 x i hx, h.2⟩
def mF (σ : zSto) (τ : zTn) (q : Bool × Nat × Nat × zTn) : Option Value → zSto → Prop := fun r' s' => r' = some (.int (zans q)) ∧ ∃ T, zJ σ T ∧ s' = zsi (zpm T (p_tw q τ)) 34 7 (nI 0)
theorem mF_i {σ σ' : zSto} {τ t : zTn} {q : Bool × Nat × Nat × zTn} {v : Int32} (hI : zMi (zps σ 37 τ) σ') (h1 : v = zans q) (h2 : t = p_tw q τ) : mF σ τ q (some (.int v)) (zsi (zpm σ' t) 34 7 (nI 0)) := by
  obtain ⟨T, hT, e⟩ := zMi_T hI
  refine ⟨by rw [h1], T, zJ_tr zJ_37 (zM_J hT), ?_⟩
  rw [e, h2]

theorem m_saves' {g : zG} {σ : zSto} {τ : zTn} : zEd g 0 yX6_saves cX6_saves 2 none [.ref (zad g 34)] (zpm σ τ) none (zpm (zps σ 37 τ) τ) := by
  have h := m_saves (g := g) (σ := zpm σ τ)
  unfold zpm at h ⊢
  rw [zcp_ps (by decide)] at h
  exact h

set_option maxRecDepth 20000 in
set_option maxHeartbeats 4000000 in
theorem n_town {g : zG} {σ : zSto} {τ : zTn} {B : Nat → Nat} {L : Nat} (hT : mT σ B L) (hI : zTI 100000 τ) : zEv g 8 yX6_town cX6_town 2 (some .int) [.ref (zad g 34)] (zpm σ τ) (mF σ τ (p_txt B L τ)) := by
  refine zev_intro (own := RX6) (lv := [some (.ref (zad g 34)), none]) (by decide +kernel) rfl (Nat.le_of_ble_eq_true rfl) rfl (fun C hM hN => ?_)
  have h120 := hT.2.1
  have hb := mT_b hT
  have h37 : ∀ σ' : zSto, zMi (zps σ 37 τ) σ' → ∀ i, i < 48 → σ'.1 37 i = zix τ i := fun σ' h i hi => (h.1 37 i (by omega) (by omega)).trans (if_pos ⟨rfl, hi⟩)
  have hW : ∀ (i s' : Nat) (σ' : zSto) (t τ' : zTn), zMi (zps σ 37 τ) σ' → mQ σ' B L true s' → p_txt B L τ = (false, i, s', τ') → zAW g C 8 cX6_town RX6 59 [some (.ref (zad g 34)), some (.int (nI i))] [] (zpm σ' t) := by
    intro i s' σ' t τ' hI' hQ' hE
    have hIv : zMi (zps σ 37 τ) (zsi σ' 34 11 (nI 1)) := zMi_tr hI' (zM_Mi (zM_si zM_rf (by decide)))
    refine za_aload_n dX6_town_59 rfl ?_
    refine za_aload_n dX6_town_60 rfl ?_
    refine za_getI dX6_town_61 zf_X6_204 rfl rfl ?_
    rw [show (zpm σ' t).1 34 11 = mw true from hQ'.2.2.2.2]
    refine za_if_ne 78 dX6_town_64 (by decide) (fun c64 => ?_) (fun c64 => absurd c64 (by decide))
    refine za_iconst (nI 1) dX6_town_78 (by decide) ?_
    refine za_goto 83 dX6_town_79 (by decide) ?_
    refine za_putG dX6_town_83 zf_X6_204 zp_X6_11 rfl rfl (by decide) (by decide) ?_
    rw [zsi_pm]
    refine za_aload_n dX6_town_86 rfl ?_
    refine za_getI dX6_town_87 zf_X6_204 rfl rfl ?_
    rw [show (zpm (zsi σ' 34 11 (nI 1)) t).1 34 11 = nI 1 from rfl]
    refine za_if_eq 97 dX6_town_90 (by decide) (fun c90 => absurd c90 (by decide)) (fun c90 => ?_)
    refine za_aload_n dX6_town_93 rfl ?_
    refine za_cV0v dX6_town_94 zm_X6_281 zw_X6_putsBack zv_X6_putsBack (m_putsBack) (by decide) rfl rfl rfl (Nat.le_of_ble_eq_true rfl) ?_
    rw [zcp_back (σ := (zsi σ' 34 11 (nI 1))) (τ := τ) (h37 _ hIv)]
    refine za_aload_n dX6_town_97 rfl ?_
    refine za_iconst (nI 0) dX6_town_98 (by decide) ?_
    refine za_putI dX6_town_99 zf_X6_177 zp_X6_7 rfl rfl ?_
    refine za_aload_n dX6_town_102 rfl ?_
    refine za_getI dX6_town_103 zf_X6_204 rfl rfl ?_
    rw [show (zsi (zpm (zsi σ' 34 11 (nI 1)) τ) 34 7 (nI 0)).1 34 11 = nI 1 from rfl]
    refine za_if_eq 118 dX6_town_106 (by decide) (fun c106 => absurd c106 (by decide)) (fun c106 => ?_)
    refine za_iconst (-1) dX6_town_109 (by decide) ?_
    refine za_aload_n dX6_town_110 rfl ?_
    refine za_getI dX6_town_111 zf_X6_192 rfl rfl ?_
    rw [show (zsi (zpm (zsi σ' 34 11 (nI 1)) τ) 34 7 (nI 0)).1 34 8 = nI s' from hQ'.2.2.1]
    refine za_isub dX6_town_114 ?_
    refine za_goto 119 dX6_town_115 (by decide) ?_
    exact za_iret hM dX6_town_119 (mF_i hIv (by rw [hE]; rfl) (by rw [hE]; rfl))
  have hF : ∀ (i s' : Nat) (σ' : zSto) (t τ' : zTn), zMi (zps σ 37 τ) σ' → mQ σ' B L false s' → s' < L → p_txt B L τ = (false, i, s', τ') → zAW g C 8 cX6_town RX6 59 [some (.ref (zad g 34)), some (.int (nI i))] [] (zpm σ' t) := by
    intro i s' σ' t τ' hI' hQ' hlt hE
    have hIv : zMi (zps σ 37 τ) (zsi σ' 34 11 (nI 1)) := zMi_tr hI' (zM_Mi (zM_si zM_rf (by decide)))
    refine za_aload_n dX6_town_59 rfl ?_
    refine za_aload_n dX6_town_60 rfl ?_
    refine za_getI dX6_town_61 zf_X6_204 rfl rfl ?_
    rw [show (zpm σ' t).1 34 11 = mw false from hQ'.2.2.2.2]
    refine za_if_ne 78 dX6_town_64 (by decide) (fun c64 => absurd (by decide) c64) (fun c64 => ?_)
    refine za_aload_n dX6_town_67 rfl ?_
    refine za_getI dX6_town_68 zf_X6_192 rfl rfl ?_
    rw [show (zpm σ' t).1 34 8 = nI s' from hQ'.2.2.1]
    refine za_aload_n dX6_town_71 rfl ?_
    refine za_getI dX6_town_72 zf_X6_177 rfl rfl ?_
    rw [show (zpm σ' t).1 34 7 = nI L from hQ'.1.1]
    refine za_icmp_ge 82 dX6_town_75 (by decide) (fun c75 => absurd c75 (nI_ge hlt (by omega))) (fun c75 => ?_)
    refine za_iconst (nI 1) dX6_town_78 (by decide) ?_
    refine za_goto 83 dX6_town_79 (by decide) ?_
    refine za_putG dX6_town_83 zf_X6_204 zp_X6_11 rfl rfl (by decide) (by decide) ?_
    rw [zsi_pm]
    refine za_aload_n dX6_town_86 rfl ?_
    refine za_getI dX6_town_87 zf_X6_204 rfl rfl ?_
    rw [show (zpm (zsi σ' 34 11 (nI 1)) t).1 34 11 = nI 1 from rfl]
    refine za_if_eq 97 dX6_town_90 (by decide) (fun c90 => absurd c90 (by decide)) (fun c90 => ?_)
    refine za_aload_n dX6_town_93 rfl ?_
    refine za_cV0v dX6_town_94 zm_X6_281 zw_X6_putsBack zv_X6_putsBack (m_putsBack) (by decide) rfl rfl rfl (Nat.le_of_ble_eq_true rfl) ?_
    rw [zcp_back (σ := (zsi σ' 34 11 (nI 1))) (τ := τ) (h37 _ hIv)]
    refine za_aload_n dX6_town_97 rfl ?_
    refine za_iconst (nI 0) dX6_town_98 (by decide) ?_
    refine za_putI dX6_town_99 zf_X6_177 zp_X6_7 rfl rfl ?_
    refine za_aload_n dX6_town_102 rfl ?_
    refine za_getI dX6_town_103 zf_X6_204 rfl rfl ?_
    rw [show (zsi (zpm (zsi σ' 34 11 (nI 1)) τ) 34 7 (nI 0)).1 34 11 = nI 1 from rfl]
    refine za_if_eq 118 dX6_town_106 (by decide) (fun c106 => absurd c106 (by decide)) (fun c106 => ?_)
    refine za_iconst (-1) dX6_town_109 (by decide) ?_
    refine za_aload_n dX6_town_110 rfl ?_
    refine za_getI dX6_town_111 zf_X6_192 rfl rfl ?_
    rw [show (zsi (zpm (zsi σ' 34 11 (nI 1)) τ) 34 7 (nI 0)).1 34 8 = nI s' from hQ'.2.2.1]
    refine za_isub dX6_town_114 ?_
    refine za_goto 119 dX6_town_115 (by decide) ?_
    exact za_iret hM dX6_town_119 (mF_i hIv (by rw [hE]; rfl) (by rw [hE]; rfl))
  have hO : ∀ (i s' : Nat) (σ' : zSto) (t : zTn), zMi (zps σ 37 τ) σ' → mQ σ' B L false s' → ¬ s' < L → p_txt B L τ = (true, i, s', t) → zAW g C 8 cX6_town RX6 59 [some (.ref (zad g 34)), some (.int (nI i))] [] (zpm σ' t) := by
    intro i s' σ' t hI' hQ' hlt hE
    have hs' := hQ'.2.1
    have hIv : zMi (zps σ 37 τ) (zsi σ' 34 11 (nI 0)) := zMi_tr hI' (zM_Mi (zM_si zM_rf (by decide)))
    refine za_aload_n dX6_town_59 rfl ?_
    refine za_aload_n dX6_town_60 rfl ?_
    refine za_getI dX6_town_61 zf_X6_204 rfl rfl ?_
    rw [show (zpm σ' t).1 34 11 = mw false from hQ'.2.2.2.2]
    refine za_if_ne 78 dX6_town_64 (by decide) (fun c64 => absurd (by decide) c64) (fun c64 => ?_)
    refine za_aload_n dX6_town_67 rfl ?_
    refine za_getI dX6_town_68 zf_X6_192 rfl rfl ?_
    rw [show (zpm σ' t).1 34 8 = nI s' from hQ'.2.2.1]
    refine za_aload_n dX6_town_71 rfl ?_
    refine za_getI dX6_town_72 zf_X6_177 rfl rfl ?_
    rw [show (zpm σ' t).1 34 7 = nI L from hQ'.1.1]
    refine za_icmp_ge 82 dX6_town_75 (by decide) (fun c75 => ?_) (fun c75 => absurd (nI_le (by omega) (by omega)) c75)
    refine za_iconst (nI 0) dX6_town_82 (by decide) ?_
    refine za_putG dX6_town_83 zf_X6_204 zp_X6_11 rfl rfl (by decide) (by decide) ?_
    rw [zsi_pm]
    refine za_aload_n dX6_town_86 rfl ?_
    refine za_getI dX6_town_87 zf_X6_204 rfl rfl ?_
    rw [show (zpm (zsi σ' 34 11 (nI 0)) t).1 34 11 = nI 0 from rfl]
    refine za_if_eq 97 dX6_town_90 (by decide) (fun c90 => ?_) (fun c90 => absurd (by decide) c90)
    refine za_aload_n dX6_town_97 rfl ?_
    refine za_iconst (nI 0) dX6_town_98 (by decide) ?_
    refine za_putI dX6_town_99 zf_X6_177 zp_X6_7 rfl rfl ?_
    refine za_aload_n dX6_town_102 rfl ?_
    refine za_getI dX6_town_103 zf_X6_204 rfl rfl ?_
    rw [show (zsi (zpm (zsi σ' 34 11 (nI 0)) t) 34 7 (nI 0)).1 34 11 = nI 0 from rfl]
    refine za_if_eq 118 dX6_town_106 (by decide) (fun c106 => ?_) (fun c106 => absurd (by decide) c106)
    refine za_iload_n dX6_town_118 rfl ?_
    exact za_iret hM dX6_town_119 (mF_i hIv (by rw [hE]; rfl) (by rw [hE]; rfl))
  have hloop : ∀ (f i si : Nat) (τi : zTn) (σ' : zSto) (t : zTn), i + f = 121 → 2 * i ≤ si + 2 → si ≤ L → zTI 100000 τi → zMi (zps σ 37 τ) σ' → mQ σ' B L (!(p_item B L si τi).1) (p_item B L si τi).2.1 → ((p_item B L si τi).1 = true → t = (p_item B L si τi).2.2) → p_txt B L τ = p_run B L (f + 1) si τi i → zAW g C 8 cX6_town RX6 24 [some (.ref (zad g 34)), some (.int (nI i))] [] (zpm σ' t) := by
    intro f
    induction f with
    | zero => intro i si τi σ' t h1 h2 h3; omega
    | succ f ih =>
      intro i si τi σ' t hf hi hsL hIi hI' hQ' ht hE
      have hpos := p_item_pos (B := B) (τ := τi) hsL
      unfold p_run at hE
      by_cases h1 : (p_item B L si τi).1 = true
      · rw [h1] at hQ'
        rw [if_pos h1] at hE
        have hq : mQ σ' B L false (p_item B L si τi).2.1 := hQ'
        have ht' := ht h1
        subst ht'
        have hI2 := zTI_item (B := B) (L := L) (s := si) hIi
        obtain ⟨n, h9, hn⟩ := hI2.2.2.2.1
        refine za_aload_n dX6_town_24 rfl ?_
        refine za_getI dX6_town_25 zf_X6_204 rfl rfl ?_
        rw [show (zpm σ' (p_item B L si τi).2.2).1 34 11 = mw false from hq.2.2.2.2]
        refine za_if_ne 59 dX6_town_28 (by decide) (fun c28 => absurd (by decide) c28) (fun c28 => ?_)
        refine za_aload_n dX6_town_31 rfl ?_
        refine za_aload_n dX6_town_32 rfl ?_
        refine za_getI dX6_town_33 zf_X6_192 rfl rfl ?_
        rw [show (zpm σ' (p_item B L si τi).2.2).1 34 8 = nI (p_item B L si τi).2.1 from hq.2.2.1]
        refine za_cV1 dX6_town_36 zm_X6_195 zw_X6_byteAt zv_X6_byteAt (m_byteAt (S := zpm σ' (p_item B L si τi).2.2) (mT_pm hq.1) hq.2.1) (by decide) rfl rfl rfl (Nat.le_of_ble_eq_true rfl) ?_
        refine za_bipush (nI 59) dX6_town_39 (by decide) ?_
        refine za_icmp_ne 59 dX6_town_41 (by decide) (fun c41 => ?_) (fun c41 => ?_)
        · by_cases hlt : (p_item B L si τi).2.1 < L
          · rw [if_neg (fun z => l_K_0 z hlt), if_neg (fun z => c41 ((l_by_59 hb).mpr (l_K_3 z)))] at hE
            exact hF _ _ σ' _ _ hI' hq hlt hE
          · rw [if_pos (l_K_e hlt)] at hE
            exact hO _ _ σ' _ hI' hq hlt hE
        · have h59 := (l_by_59 hb).mp c41
          have hK3 : l_K B L (p_item B L si τi).2.1 = 3 := l_K_s h59.1 (by rw [h59.2]; decide) (by rw [h59.2]; decide) h59.2
          rw [if_neg (by rw [hK3]; decide), if_pos hK3] at hE
          refine za_aload_n dX6_town_44 rfl ?_
          refine za_iconst (nI 1) dX6_town_45 (by decide) ?_
          refine za_callV (As := [.int (nI 1)]) (rest := []) dX6_town_46 zm_X6_218 zw_X6_must zv_X6_must (m_must_t (S := zpm σ' (p_item B L si τi).2.2) (mQ_pm hq)) (by decide) rfl rfl rfl rfl (Nat.le_of_ble_eq_true rfl) rfl (fun r46 s46 hE46 => ?_)
          obtain ⟨rfl, hM46, hQ46, hv46⟩ := hE46
          show zAW _ _ _ _ _ _ _ [] _
          rw [zM_pm hM46]
          have hI46 := zM_i hM46
          refine za_aload_n dX6_town_49 rfl ?_
          refine za_callV (As := []) (rest := []) dX6_town_50 zm_X6_278 zw_X6_item zv_X6_item (m_item hQ46 hn h9) (by decide) rfl rfl rfl rfl (Nat.le_of_ble_eq_true rfl) rfl (fun r50 s50 hE50 => ?_)
          obtain ⟨rfl, σ50, τ50, rfl, hI50, hQ50, hτ50⟩ := hE50
          show zAW _ _ _ _ _ _ _ [] _
          refine za_iinc (nI (_ + 1)) (lv' := [_, _]) dX6_town_53 rfl hN (by decide) (znext _) rfl ?_
          refine za_goto 24 dX6_town_56 (by decide) ?_
          have hg := l_nx_gt (B := B) h59.1
          have hg1 := hpos.2 h1
          exact ih (i + 1) (l_nx B L (p_item B L si τi).2.1) (p_item B L si τi).2.2 σ50 τ50 (by omega) (by omega) (l_nx_le hpos.1) hI2 (zMi_tr hI' (zMi_tr hI46 hI50)) hQ50 hτ50 hE
      · rw [if_neg h1] at hE
        rw [Bool.not_eq_true] at h1
        rw [h1] at hQ'
        have hq : mQ σ' B L true (p_item B L si τi).2.1 := hQ'
        refine za_aload_n dX6_town_24 rfl ?_
        refine za_getI dX6_town_25 zf_X6_204 rfl rfl ?_
        rw [show (zpm σ' t).1 34 11 = mw true from hq.2.2.2.2]
        refine za_if_ne 59 dX6_town_28 (by decide) (fun c28 => ?_) (fun c28 => absurd c28 (by decide))
        exact hW _ _ σ' _ _ hI' hq hE
  obtain ⟨n, h9, hn⟩ := hI.2.2.2.1
  refine za_aload_n dX6_town_0 rfl ?_
  refine za_cV0v dX6_town_1 zm_X6_275 zw_X6_saves zv_X6_saves (m_saves') (by decide) rfl rfl rfl (Nat.le_of_ble_eq_true rfl) ?_
  refine za_aload_n dX6_town_4 rfl ?_
  refine za_iconst (nI 0) dX6_town_5 (by decide) ?_
  refine za_putG dX6_town_6 zf_X6_204 zp_X6_11 rfl rfl (by decide) (by decide) ?_
  rw [zsi_pm]
  refine za_aload_n dX6_town_9 rfl ?_
  refine za_iconst (nI 0) dX6_town_10 (by decide) ?_
  refine za_putI dX6_town_11 zf_X6_189 zp_X6_9 rfl rfl ?_
  rw [zsi_pm]
  refine za_aload_n dX6_town_14 rfl ?_
  refine za_callV (As := []) (rest := []) dX6_town_15 zm_X6_208 zw_X6_token zv_X6_token (m_token (S := zpm (zsi (zsi (zps σ 37 τ) 34 11 (nI 0)) 34 9 (nI 0)) τ) (B := B) (L := L) (e := 0) hT rfl (Nat.zero_le _)) (by decide) rfl rfl rfl rfl (Nat.le_of_ble_eq_true rfl) rfl (fun r15 s15 hE15 => ?_)
  obtain ⟨rfl, hM15, hR15, h1115, h1015⟩ := hE15
  show zAW _ _ _ _ _ _ _ [] _
  rw [zM_pm hM15]
  have hI15 : zMi (zps σ 37 τ) s15 := zMi_tr (zM_Mi (zM_si (zM_si zM_rf (by decide)) (by decide))) (zM_i hM15)
  have hT0 : mT (zpm (zsi (zsi (zps σ 37 τ) 34 11 (nI 0)) 34 9 (nI 0)) τ) B L := hT
  have hQ15 : mQ s15 B L false (l_sk B L 0) := ⟨mT_M hT0 hM15, hR15.1, hR15.2.1, hR15.2.2, h1115.trans rfl⟩
  refine za_iconst (nI 1) dX6_town_18 (by decide) ?_
  refine za_istore_n (lv' := [_, _]) dX6_town_19 hN (by decide) rfl ?_
  refine za_aload_n dX6_town_20 rfl ?_
  refine za_callV (As := []) (rest := []) dX6_town_21 zm_X6_278 zw_X6_item zv_X6_item (m_item hQ15 hn h9) (by decide) rfl rfl rfl rfl (Nat.le_of_ble_eq_true rfl) rfl (fun r21 s21 hE21 => ?_)
  obtain ⟨rfl, σ21, τ21, rfl, hI21, hQ21, hτ21⟩ := hE21
  show zAW _ _ _ _ _ _ _ [] _
  exact hloop 120 1 (l_sk B L 0) τ σ21 τ21 rfl (by omega) (l_sk_le (Nat.zero_le _)) hI (zMi_tr hI15 hI21) hQ21 hτ21 rfl
