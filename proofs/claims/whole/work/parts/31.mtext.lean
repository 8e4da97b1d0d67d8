set_option maxRecDepth 20000 in
set_option maxHeartbeats 4000000 in
theorem m_byteAt {g : zG} {S : zSto} {B : Nat → Nat} {L : Nat} (hT : mT S B L) {i : Nat} (hi : i ≤ L) : zEd g 0 yX6_byteAt cX6_byteAt 2 (some .int) [.ref (zad g 34), .int (nI i)] S (some (.int (l_by B L i))) S := by
  refine zev_intro (own := RX6) (lv := [some (.ref (zad g 34)), some (.int (nI i))]) (by decide +kernel) rfl (Nat.le_of_ble_eq_true rfl) rfl (fun C hM hN => ?_)
  have h120 := hT.2.1
  refine za_iload_n dX6_byteAt_0 rfl ?_
  refine za_aload_n dX6_byteAt_1 rfl ?_
  refine za_getI dX6_byteAt_2 zf_X6_177 rfl rfl ?_
  rw [hT.1]
  refine za_icmp_ge 17 dX6_byteAt_5 (by decide) (fun c5 => ?_) (fun c5 => ?_)
  · refine za_iconst (-1) dX6_byteAt_17 (by decide) ?_
    exact za_iret hM dX6_byteAt_18 (by first | exact ⟨congrArg (fun z => some (Value.int z)) (show l_by B L i = nI (B i) from if_pos hl).symm, rfl⟩ | exact ⟨congrArg (fun z => some (Value.int z)) (show l_by B L i = -1 from if_neg (fun z => absurd c5 (nI_ge z (by omega)))).symm, rfl⟩)
  · have hl : i < L := Nat.lt_of_not_le (fun z => c5 (nI_le z (by omega)))
    refine za_aload_n dX6_byteAt_8 rfl ?_
    refine za_getR dX6_byteAt_9 zf_X6_25 rfl rfl ?_
    refine za_iload_n dX6_byteAt_12 rfl ?_
    refine za_iald dX6_byteAt_13 rfl (by omega) ?_
    rw [(hT.2.2 i hl).2]
    refine za_goto 18 dX6_byteAt_14 (by decide) ?_
    exact za_iret hM dX6_byteAt_18 (by first | exact ⟨congrArg (fun z => some (Value.int z)) (show l_by B L i = nI (B i) from if_pos hl).symm, rfl⟩ | exact ⟨congrArg (fun z => some (Value.int z)) (show l_by B L i = -1 from if_neg (fun z => absurd c5 (nI_ge z (by omega)))).symm, rfl⟩)

set_option maxRecDepth 20000 in
set_option maxHeartbeats 4000000 in
theorem m_token {g : zG} {S : zSto} {B : Nat → Nat} {L : Nat} (hT : mT S B L) {e : Nat} (he : S.1 34 9 = nI e) (hel : e ≤ L) : zEv g 2 yX6_token cX6_token 3 none [.ref (zad g 34)] S (fun r' s' => r' = none ∧ zM S s' ∧ (l_sk B L e ≤ L ∧ s'.1 34 8 = nI (l_sk B L e) ∧ s'.1 34 9 = nI (l_te B L (l_sk B L e))) ∧ s'.1 34 11 = S.1 34 11 ∧ s'.1 34 10 = S.1 34 10) := by
  refine zev_intro (own := RX6) (lv := [some (.ref (zad g 34)), none, none]) (by decide +kernel) rfl (Nat.le_of_ble_eq_true rfl) rfl (fun C hM hN => ?_)
  have h120 := hT.2.1
  have hb := mT_b hT
  have hT1 : ∀ j : Nat, mT (zsi S 34 8 (nI j)) B L := fun j => mT_M hT (zM_si zM_rf (by decide))
  have hT2 : ∀ j k : Nat, mT (zsi (zsi S 34 8 (nI j)) 34 9 (nI k)) B L := fun j k => mT_M hT (zM_si (zM_si zM_rf (by decide)) (by decide))
  have htail : ∀ j : Nat, j ≤ L → l_sk B L e = j → zAW g C 2 cX6_token RX6 34 [some (.ref (zad g 34)), none, none] [] (zsi S 34 8 (nI j)) := by
    intro j hjL hE
    by_cases hlt : j < L
    · by_cases hl : l_let (B j) = true
      · have hlp : ∀ (m k : Nat), k + m = L → l_te B L j = l_end (fun i => l_let (B i)) L k → zAW g C 2 cX6_token RX6 86 [some (.ref (zad g 34)), some (.int (nI 1)), some (.int (nI 0))] [] (zsi (zsi S 34 8 (nI j)) 34 9 (nI k)) := by
          intro m
          induction m with
          | zero =>
            intro k hk hE2
            obtain rfl : k = L := by omega
            refine za_iload_n dX6_token_86 rfl ?_
            refine za_if_eq 104 dX6_token_87 (by decide) (fun c87 => absurd c87 (by decide)) (fun c87 => ?_)
            refine za_aload_n dX6_token_90 rfl ?_
            refine za_aload_n dX6_token_91 rfl ?_
            refine za_getI dX6_token_92 zf_X6_189 rfl rfl ?_
            rw [show (zsi (zsi S 34 8 (nI j)) 34 9 (nI k)).1 34 9 = nI k from rfl]
            refine za_cV1 dX6_token_95 zm_X6_195 zw_X6_byteAt zv_X6_byteAt (m_byteAt (hT2 j k) (Nat.le_refl _)) (by decide) rfl rfl rfl (Nat.le_of_ble_eq_true rfl) ?_
            refine za_cS1 dX6_token_98 zm_X6_198 zw_X6_isLetter zs_X6_isLetter (m_isLetter _) (by decide) (Nat.le_of_ble_eq_true rfl) ?_
            refine za_if_neB 122 dX6_token_101 (by decide) (fun c101 => absurd c101 (fun z => Nat.lt_irrefl _ ((l_by_let hb).mp z).1)) (fun c101 => ?_)
            refine za_iload_n dX6_token_104 rfl ?_
            refine za_if_eq 135 dX6_token_105 (by decide) (fun c105 => ?_) (fun c105 => absurd (by decide) c105)
            exact za_vret hM dX6_token_135 (by exact ⟨rfl, zM_si (zM_si zM_rf (by decide)) (by decide), ⟨by rw [hE]; exact hjL, by rw [hE]; rfl, by rw [hE, hE2, l_end_0 (fun z => Nat.lt_irrefl _ z.1)]; rfl⟩, rfl, rfl⟩)
          | succ m ih =>
            intro k hk hE2
            refine za_iload_n dX6_token_86 rfl ?_
            refine za_if_eq 104 dX6_token_87 (by decide) (fun c87 => absurd c87 (by decide)) (fun c87 => ?_)
            refine za_aload_n dX6_token_90 rfl ?_
            refine za_aload_n dX6_token_91 rfl ?_
            refine za_getI dX6_token_92 zf_X6_189 rfl rfl ?_
            rw [show (zsi (zsi S 34 8 (nI j)) 34 9 (nI k)).1 34 9 = nI k from rfl]
            refine za_cV1 dX6_token_95 zm_X6_195 zw_X6_byteAt zv_X6_byteAt (m_byteAt (hT2 j k) (by omega)) (by decide) rfl rfl rfl (Nat.le_of_ble_eq_true rfl) ?_
            refine za_cS1 dX6_token_98 zm_X6_198 zw_X6_isLetter zs_X6_isLetter (m_isLetter _) (by decide) (Nat.le_of_ble_eq_true rfl) ?_
            refine za_if_neB 122 dX6_token_101 (by decide) (fun c101 => ?_) (fun c101 => ?_)
            · refine za_aload_n dX6_token_122 rfl ?_
              refine za_dup dX6_token_123 rfl ?_
              refine za_getI dX6_token_124 zf_X6_189 rfl rfl ?_
              rw [show (zsi (zsi S 34 8 (nI j)) 34 9 (nI k)).1 34 9 = nI k from rfl]
              refine za_iconst (nI 1) dX6_token_127 (by decide) ?_
              refine za_iadd dX6_token_128 ?_
              rw [nI_add]
              refine za_putI dX6_token_129 zf_X6_189 zp_X6_9 rfl rfl ?_
              rw [zsi_zsi]
              refine za_goto 86 dX6_token_132 (by decide) ?_
              exact ih (k + 1) (by omega) (by rw [hE2]; exact l_end_1 (P := fun i => l_let (B i)) (by omega) ((l_by_let hb).mp c101).2)
            · refine za_iload_n dX6_token_104 rfl ?_
              refine za_if_eq 135 dX6_token_105 (by decide) (fun c105 => ?_) (fun c105 => absurd (by decide) c105)
              exact za_vret hM dX6_token_135 (by exact ⟨rfl, zM_si (zM_si zM_rf (by decide)) (by decide), ⟨by rw [hE]; exact hjL, by rw [hE]; rfl, by rw [hE, hE2, l_end_0 (P := fun i => l_let (B i)) (i := k) (fun z => c101 ((l_by_let hb).mpr z))]; rfl⟩, rfl, rfl⟩)
        refine za_aload_n dX6_token_34 rfl ?_
        refine za_aload_n dX6_token_35 rfl ?_
        refine za_getI dX6_token_36 zf_X6_192 rfl rfl ?_
        rw [show (zsi S 34 8 (nI j)).1 34 8 = nI j from rfl]
        refine za_cV1 dX6_token_39 zm_X6_195 zw_X6_byteAt zv_X6_byteAt (m_byteAt (hT1 j) hjL) (by decide) rfl rfl rfl (Nat.le_of_ble_eq_true rfl) ?_
        refine za_cS1 dX6_token_42 zm_X6_198 zw_X6_isLetter zs_X6_isLetter (m_isLetter _) (by decide) (Nat.le_of_ble_eq_true rfl) ?_
        rw [zb_1 ((l_by_let hb).mpr ⟨hlt, hl⟩)]
        refine za_istore_n (lv' := [_, _, _]) dX6_token_45 hN (by decide) rfl ?_
        refine za_aload_n dX6_token_46 rfl ?_
        refine za_aload_n dX6_token_47 rfl ?_
        refine za_getI dX6_token_48 zf_X6_192 rfl rfl ?_
        rw [show (zsi S 34 8 (nI j)).1 34 8 = nI j from rfl]
        refine za_cV1 dX6_token_51 zm_X6_195 zw_X6_byteAt zv_X6_byteAt (m_byteAt (hT1 j) hjL) (by decide) rfl rfl rfl (Nat.le_of_ble_eq_true rfl) ?_
        refine za_cS1 dX6_token_54 zm_X6_201 zw_X6_isDigit zs_X6_isDigit (m_isDigit _) (by decide) (Nat.le_of_ble_eq_true rfl) ?_
        rw [zb_f (fun z => l_let_dig ((l_by_dig hb).mp z).2 hl)]
        refine za_istore_n (lv' := [_, _, _]) dX6_token_57 hN (by decide) rfl ?_
        refine za_aload_n dX6_token_58 rfl ?_
        refine za_aload_n dX6_token_59 rfl ?_
        refine za_getI dX6_token_60 zf_X6_192 rfl rfl ?_
        rw [show (zsi S 34 8 (nI j)).1 34 8 = nI j from rfl]
        refine za_aload_n dX6_token_63 rfl ?_
        refine za_getI dX6_token_64 zf_X6_177 rfl rfl ?_
        rw [show (zsi S 34 8 (nI j)).1 34 7 = nI L from hT.1]
        refine za_icmp_ge 79 dX6_token_67 (by decide) (fun c67 => absurd c67 (nI_ge hlt (by omega))) (fun c67 => ?_)
        refine za_aload_n dX6_token_70 rfl ?_
        refine za_getI dX6_token_71 zf_X6_192 rfl rfl ?_
        rw [show (zsi S 34 8 (nI j)).1 34 8 = nI j from rfl]
        refine za_iconst (nI 1) dX6_token_74 (by decide) ?_
        refine za_iadd dX6_token_75 ?_
        rw [nI_add]
        refine za_goto 83 dX6_token_76 (by decide) ?_
        refine za_putI dX6_token_83 zf_X6_189 zp_X6_9 rfl rfl ?_
        exact hlp (L - (j + 1)) (j + 1) (by omega) (by rw [l_te_w hlt hl]; exact l_end_1 (P := fun i => l_let (B i)) hlt hl)
      · by_cases hd : l_dig (B j) = true
        · have hlp : ∀ (m k : Nat), k + m = L → l_te B L j = l_end (fun i => l_dig (B i)) L k → zAW g C 2 cX6_token RX6 86 [some (.ref (zad g 34)), some (.int (nI 0)), some (.int (nI 1))] [] (zsi (zsi S 34 8 (nI j)) 34 9 (nI k)) := by
            intro m
            induction m with
            | zero =>
              intro k hk hE2
              obtain rfl : k = L := by omega
              refine za_iload_n dX6_token_86 rfl ?_
              refine za_if_eq 104 dX6_token_87 (by decide) (fun c87 => ?_) (fun c87 => absurd (by decide) c87)
              refine za_iload_n dX6_token_104 rfl ?_
              refine za_if_eq 135 dX6_token_105 (by decide) (fun c105 => absurd c105 (by decide)) (fun c105 => ?_)
              refine za_aload_n dX6_token_108 rfl ?_
              refine za_aload_n dX6_token_109 rfl ?_
              refine za_getI dX6_token_110 zf_X6_189 rfl rfl ?_
              rw [show (zsi (zsi S 34 8 (nI j)) 34 9 (nI k)).1 34 9 = nI k from rfl]
              refine za_cV1 dX6_token_113 zm_X6_195 zw_X6_byteAt zv_X6_byteAt (m_byteAt (hT2 j k) (Nat.le_refl _)) (by decide) rfl rfl rfl (Nat.le_of_ble_eq_true rfl) ?_
              refine za_cS1 dX6_token_116 zm_X6_201 zw_X6_isDigit zs_X6_isDigit (m_isDigit _) (by decide) (Nat.le_of_ble_eq_true rfl) ?_
              refine za_if_eqB 135 dX6_token_119 (by decide) (fun c119 => ?_) (fun c119 => absurd c119 (fun z => Nat.lt_irrefl _ ((l_by_dig hb).mp z).1))
              exact za_vret hM dX6_token_135 (by exact ⟨rfl, zM_si (zM_si zM_rf (by decide)) (by decide), ⟨by rw [hE]; exact hjL, by rw [hE]; rfl, by rw [hE, hE2, l_end_0 (fun z => Nat.lt_irrefl _ z.1)]; rfl⟩, rfl, rfl⟩)
            | succ m ih =>
              intro k hk hE2
              refine za_iload_n dX6_token_86 rfl ?_
              refine za_if_eq 104 dX6_token_87 (by decide) (fun c87 => ?_) (fun c87 => absurd (by decide) c87)
              refine za_iload_n dX6_token_104 rfl ?_
              refine za_if_eq 135 dX6_token_105 (by decide) (fun c105 => absurd c105 (by decide)) (fun c105 => ?_)
              refine za_aload_n dX6_token_108 rfl ?_
              refine za_aload_n dX6_token_109 rfl ?_
              refine za_getI dX6_token_110 zf_X6_189 rfl rfl ?_
              rw [show (zsi (zsi S 34 8 (nI j)) 34 9 (nI k)).1 34 9 = nI k from rfl]
              refine za_cV1 dX6_token_113 zm_X6_195 zw_X6_byteAt zv_X6_byteAt (m_byteAt (hT2 j k) (by omega)) (by decide) rfl rfl rfl (Nat.le_of_ble_eq_true rfl) ?_
              refine za_cS1 dX6_token_116 zm_X6_201 zw_X6_isDigit zs_X6_isDigit (m_isDigit _) (by decide) (Nat.le_of_ble_eq_true rfl) ?_
              refine za_if_eqB 135 dX6_token_119 (by decide) (fun c119 => ?_) (fun c119 => ?_)
              · exact za_vret hM dX6_token_135 (by exact ⟨rfl, zM_si (zM_si zM_rf (by decide)) (by decide), ⟨by rw [hE]; exact hjL, by rw [hE]; rfl, by rw [hE, hE2, l_end_0 (P := fun i => l_dig (B i)) (i := k) (fun z => c119 ((l_by_dig hb).mpr z))]; rfl⟩, rfl, rfl⟩)
              · refine za_aload_n dX6_token_122 rfl ?_
                refine za_dup dX6_token_123 rfl ?_
                refine za_getI dX6_token_124 zf_X6_189 rfl rfl ?_
                rw [show (zsi (zsi S 34 8 (nI j)) 34 9 (nI k)).1 34 9 = nI k from rfl]
                refine za_iconst (nI 1) dX6_token_127 (by decide) ?_
                refine za_iadd dX6_token_128 ?_
                rw [nI_add]
                refine za_putI dX6_token_129 zf_X6_189 zp_X6_9 rfl rfl ?_
                rw [zsi_zsi]
                refine za_goto 86 dX6_token_132 (by decide) ?_
                exact ih (k + 1) (by omega) (by rw [hE2]; exact l_end_1 (P := fun i => l_dig (B i)) (by omega) ((l_by_dig hb).mp c119).2)
          refine za_aload_n dX6_token_34 rfl ?_
          refine za_aload_n dX6_token_35 rfl ?_
          refine za_getI dX6_token_36 zf_X6_192 rfl rfl ?_
          rw [show (zsi S 34 8 (nI j)).1 34 8 = nI j from rfl]
          refine za_cV1 dX6_token_39 zm_X6_195 zw_X6_byteAt zv_X6_byteAt (m_byteAt (hT1 j) hjL) (by decide) rfl rfl rfl (Nat.le_of_ble_eq_true rfl) ?_
          refine za_cS1 dX6_token_42 zm_X6_198 zw_X6_isLetter zs_X6_isLetter (m_isLetter _) (by decide) (Nat.le_of_ble_eq_true rfl) ?_
          rw [zb_f (fun z => l_let_dig hd ((l_by_let hb).mp z).2)]
          refine za_istore_n (lv' := [_, _, _]) dX6_token_45 hN (by decide) rfl ?_
          refine za_aload_n dX6_token_46 rfl ?_
          refine za_aload_n dX6_token_47 rfl ?_
          refine za_getI dX6_token_48 zf_X6_192 rfl rfl ?_
          rw [show (zsi S 34 8 (nI j)).1 34 8 = nI j from rfl]
          refine za_cV1 dX6_token_51 zm_X6_195 zw_X6_byteAt zv_X6_byteAt (m_byteAt (hT1 j) hjL) (by decide) rfl rfl rfl (Nat.le_of_ble_eq_true rfl) ?_
          refine za_cS1 dX6_token_54 zm_X6_201 zw_X6_isDigit zs_X6_isDigit (m_isDigit _) (by decide) (Nat.le_of_ble_eq_true rfl) ?_
          rw [zb_1 ((l_by_dig hb).mpr ⟨hlt, hd⟩)]
          refine za_istore_n (lv' := [_, _, _]) dX6_token_57 hN (by decide) rfl ?_
          refine za_aload_n dX6_token_58 rfl ?_
          refine za_aload_n dX6_token_59 rfl ?_
          refine za_getI dX6_token_60 zf_X6_192 rfl rfl ?_
          rw [show (zsi S 34 8 (nI j)).1 34 8 = nI j from rfl]
          refine za_aload_n dX6_token_63 rfl ?_
          refine za_getI dX6_token_64 zf_X6_177 rfl rfl ?_
          rw [show (zsi S 34 8 (nI j)).1 34 7 = nI L from hT.1]
          refine za_icmp_ge 79 dX6_token_67 (by decide) (fun c67 => absurd c67 (nI_ge hlt (by omega))) (fun c67 => ?_)
          refine za_aload_n dX6_token_70 rfl ?_
          refine za_getI dX6_token_71 zf_X6_192 rfl rfl ?_
          rw [show (zsi S 34 8 (nI j)).1 34 8 = nI j from rfl]
          refine za_iconst (nI 1) dX6_token_74 (by decide) ?_
          refine za_iadd dX6_token_75 ?_
          rw [nI_add]
          refine za_goto 83 dX6_token_76 (by decide) ?_
          refine za_putI dX6_token_83 zf_X6_189 zp_X6_9 rfl rfl ?_
          exact hlp (L - (j + 1)) (j + 1) (by omega) (by rw [l_te_d hlt hd]; exact l_end_1 (P := fun i => l_dig (B i)) hlt hd)
        · refine za_aload_n dX6_token_34 rfl ?_
          refine za_aload_n dX6_token_35 rfl ?_
          refine za_getI dX6_token_36 zf_X6_192 rfl rfl ?_
          rw [show (zsi S 34 8 (nI j)).1 34 8 = nI j from rfl]
          refine za_cV1 dX6_token_39 zm_X6_195 zw_X6_byteAt zv_X6_byteAt (m_byteAt (hT1 j) hjL) (by decide) rfl rfl rfl (Nat.le_of_ble_eq_true rfl) ?_
          refine za_cS1 dX6_token_42 zm_X6_198 zw_X6_isLetter zs_X6_isLetter (m_isLetter _) (by decide) (Nat.le_of_ble_eq_true rfl) ?_
          rw [zb_f (fun z => hl ((l_by_let hb).mp z).2)]
          refine za_istore_n (lv' := [_, _, _]) dX6_token_45 hN (by decide) rfl ?_
          refine za_aload_n dX6_token_46 rfl ?_
          refine za_aload_n dX6_token_47 rfl ?_
          refine za_getI dX6_token_48 zf_X6_192 rfl rfl ?_
          rw [show (zsi S 34 8 (nI j)).1 34 8 = nI j from rfl]
          refine za_cV1 dX6_token_51 zm_X6_195 zw_X6_byteAt zv_X6_byteAt (m_byteAt (hT1 j) hjL) (by decide) rfl rfl rfl (Nat.le_of_ble_eq_true rfl) ?_
          refine za_cS1 dX6_token_54 zm_X6_201 zw_X6_isDigit zs_X6_isDigit (m_isDigit _) (by decide) (Nat.le_of_ble_eq_true rfl) ?_
          rw [zb_f (fun z => hd ((l_by_dig hb).mp z).2)]
          refine za_istore_n (lv' := [_, _, _]) dX6_token_57 hN (by decide) rfl ?_
          refine za_aload_n dX6_token_58 rfl ?_
          refine za_aload_n dX6_token_59 rfl ?_
          refine za_getI dX6_token_60 zf_X6_192 rfl rfl ?_
          rw [show (zsi S 34 8 (nI j)).1 34 8 = nI j from rfl]
          refine za_aload_n dX6_token_63 rfl ?_
          refine za_getI dX6_token_64 zf_X6_177 rfl rfl ?_
          rw [show (zsi S 34 8 (nI j)).1 34 7 = nI L from hT.1]
          refine za_icmp_ge 79 dX6_token_67 (by decide) (fun c67 => absurd c67 (nI_ge hlt (by omega))) (fun c67 => ?_)
          refine za_aload_n dX6_token_70 rfl ?_
          refine za_getI dX6_token_71 zf_X6_192 rfl rfl ?_
          rw [show (zsi S 34 8 (nI j)).1 34 8 = nI j from rfl]
          refine za_iconst (nI 1) dX6_token_74 (by decide) ?_
          refine za_iadd dX6_token_75 ?_
          rw [nI_add]
          refine za_goto 83 dX6_token_76 (by decide) ?_
          refine za_putI dX6_token_83 zf_X6_189 zp_X6_9 rfl rfl ?_
          refine za_iload_n dX6_token_86 rfl ?_
          refine za_if_eq 104 dX6_token_87 (by decide) (fun c87 => ?_) (fun c87 => absurd (by decide) c87)
          refine za_iload_n dX6_token_104 rfl ?_
          refine za_if_eq 135 dX6_token_105 (by decide) (fun c105 => ?_) (fun c105 => absurd (by decide) c105)
          exact za_vret hM dX6_token_135 (by exact ⟨rfl, zM_si (zM_si zM_rf (by decide)) (by decide), ⟨by rw [hE]; exact hjL, by rw [hE]; rfl, by rw [hE, l_te_o hlt hl hd]; rfl⟩, rfl, rfl⟩)
    · refine za_aload_n dX6_token_34 rfl ?_
      refine za_aload_n dX6_token_35 rfl ?_
      refine za_getI dX6_token_36 zf_X6_192 rfl rfl ?_
      rw [show (zsi S 34 8 (nI j)).1 34 8 = nI j from rfl]
      refine za_cV1 dX6_token_39 zm_X6_195 zw_X6_byteAt zv_X6_byteAt (m_byteAt (hT1 j) hjL) (by decide) rfl rfl rfl (Nat.le_of_ble_eq_true rfl) ?_
      refine za_cS1 dX6_token_42 zm_X6_198 zw_X6_isLetter zs_X6_isLetter (m_isLetter _) (by decide) (Nat.le_of_ble_eq_true rfl) ?_
      rw [zb_f (fun z => hlt ((l_by_let hb).mp z).1)]
      refine za_istore_n (lv' := [_, _, _]) dX6_token_45 hN (by decide) rfl ?_
      refine za_aload_n dX6_token_46 rfl ?_
      refine za_aload_n dX6_token_47 rfl ?_
      refine za_getI dX6_token_48 zf_X6_192 rfl rfl ?_
      rw [show (zsi S 34 8 (nI j)).1 34 8 = nI j from rfl]
      refine za_cV1 dX6_token_51 zm_X6_195 zw_X6_byteAt zv_X6_byteAt (m_byteAt (hT1 j) hjL) (by decide) rfl rfl rfl (Nat.le_of_ble_eq_true rfl) ?_
      refine za_cS1 dX6_token_54 zm_X6_201 zw_X6_isDigit zs_X6_isDigit (m_isDigit _) (by decide) (Nat.le_of_ble_eq_true rfl) ?_
      rw [zb_f (fun z => hlt ((l_by_dig hb).mp z).1)]
      refine za_istore_n (lv' := [_, _, _]) dX6_token_57 hN (by decide) rfl ?_
      refine za_aload_n dX6_token_58 rfl ?_
      refine za_aload_n dX6_token_59 rfl ?_
      refine za_getI dX6_token_60 zf_X6_192 rfl rfl ?_
      rw [show (zsi S 34 8 (nI j)).1 34 8 = nI j from rfl]
      refine za_aload_n dX6_token_63 rfl ?_
      refine za_getI dX6_token_64 zf_X6_177 rfl rfl ?_
      rw [show (zsi S 34 8 (nI j)).1 34 7 = nI L from hT.1]
      refine za_icmp_ge 79 dX6_token_67 (by decide) (fun c67 => ?_) (fun c67 => absurd (nI_le (Nat.not_lt.mp hlt) (by omega)) c67)
      refine za_aload_n dX6_token_79 rfl ?_
      refine za_getI dX6_token_80 zf_X6_192 rfl rfl ?_
      rw [show (zsi S 34 8 (nI j)).1 34 8 = nI j from rfl]
      refine za_putI dX6_token_83 zf_X6_189 zp_X6_9 rfl rfl ?_
      refine za_iload_n dX6_token_86 rfl ?_
      refine za_if_eq 104 dX6_token_87 (by decide) (fun c87 => ?_) (fun c87 => absurd (by decide) c87)
      refine za_iload_n dX6_token_104 rfl ?_
      refine za_if_eq 135 dX6_token_105 (by decide) (fun c105 => ?_) (fun c105 => absurd (by decide) c105)
      exact za_vret hM dX6_token_135 (by exact ⟨rfl, zM_si (zM_si zM_rf (by decide)) (by decide), ⟨by rw [hE]; exact hjL, by rw [hE]; rfl, by rw [hE, l_te_e hlt]; rfl⟩, rfl, rfl⟩)
  have hloop : ∀ (m j : Nat), j + m = L → l_sk B L e = l_sk B L j → zAW g C 2 cX6_token RX6 8 [some (.ref (zad g 34)), none, none] [] (zsi S 34 8 (nI j)) := by
    intro m
    induction m with
    | zero =>
      intro j hj hE
      obtain rfl : j = L := by omega
      refine za_aload_n dX6_token_8 rfl ?_
      refine za_aload_n dX6_token_9 rfl ?_
      refine za_getI dX6_token_10 zf_X6_192 rfl rfl ?_
      rw [show (zsi S 34 8 (nI j)).1 34 8 = nI j from rfl]
      refine za_cV1 dX6_token_13 zm_X6_195 zw_X6_byteAt zv_X6_byteAt (m_byteAt (hT1 j) (Nat.le_refl _)) (by decide) rfl rfl rfl (Nat.le_of_ble_eq_true rfl) ?_
      refine za_bipush (nI 32) dX6_token_16 (by decide) ?_
      refine za_icmp_ne 34 dX6_token_18 (by decide) (fun c18 => ?_) (fun c18 => absurd c18 (fun z => Nat.lt_irrefl _ ((l_by_32 hb).mp z).1))
      exact htail j (Nat.le_refl _) (by rw [hE]; exact l_end_0 (fun z => Nat.lt_irrefl _ z.1))
    | succ m ih =>
      intro j hj hE
      refine za_aload_n dX6_token_8 rfl ?_
      refine za_aload_n dX6_token_9 rfl ?_
      refine za_getI dX6_token_10 zf_X6_192 rfl rfl ?_
      rw [show (zsi S 34 8 (nI j)).1 34 8 = nI j from rfl]
      refine za_cV1 dX6_token_13 zm_X6_195 zw_X6_byteAt zv_X6_byteAt (m_byteAt (hT1 j) (by omega)) (by decide) rfl rfl rfl (Nat.le_of_ble_eq_true rfl) ?_
      refine za_bipush (nI 32) dX6_token_16 (by decide) ?_
      refine za_icmp_ne 34 dX6_token_18 (by decide) (fun c18 => ?_) (fun c18 => ?_)
      · exact htail j (by omega) (by rw [hE]; exact l_end_0 (fun z => c18 ((l_by_32 hb).mpr ⟨z.1, of_decide_eq_true z.2⟩)))
      · refine za_aload_n dX6_token_21 rfl ?_
        refine za_dup dX6_token_22 rfl ?_
        refine za_getI dX6_token_23 zf_X6_192 rfl rfl ?_
        rw [show (zsi S 34 8 (nI j)).1 34 8 = nI j from rfl]
        refine za_iconst (nI 1) dX6_token_26 (by decide) ?_
        refine za_iadd dX6_token_27 ?_
        rw [nI_add]
        refine za_putI dX6_token_28 zf_X6_192 zp_X6_8 rfl rfl ?_
        rw [zsi_zsi]
        refine za_goto 8 dX6_token_31 (by decide) ?_
        exact ih (j + 1) (by omega) (by rw [hE]; exact l_end_1 (P := fun j => decide (B j = 32)) (by omega) (decide_eq_true ((l_by_32 hb).mp c18).2))
  refine za_aload_n dX6_token_0 rfl ?_
  refine za_aload_n dX6_token_1 rfl ?_
  refine za_getI dX6_token_2 zf_X6_189 rfl rfl ?_
  rw [he]
  refine za_putI dX6_token_5 zf_X6_192 zp_X6_8 rfl rfl ?_
  exact hloop (L - e) e (by omega) rfl

set_option maxRecDepth 20000 in
set_option maxHeartbeats 4000000 in
theorem m_must_w {g : zG} {S : zSto} {B : Nat → Nat} {L : Nat} {s : Nat} (hQ : mQ S B L true s) {v : Int32} : zEv g 3 yX6_must cX6_must 2 none [.ref (zad g 34), .int v] S (fun r' s' => r' = none ∧ zM S s' ∧ mQ s' B L true s) := by
  refine zev_intro (own := RX6) (lv := [some (.ref (zad g 34)), some (.int v)]) (by decide +kernel) rfl (Nat.le_of_ble_eq_true rfl) rfl (fun C hM hN => ?_)
  refine za_aload_n dX6_must_0 rfl ?_
  refine za_aload_n dX6_must_1 rfl ?_
  refine za_getI dX6_must_2 zf_X6_204 rfl rfl ?_
  rw [hQ.2.2.2.2]
  refine za_if_ne 12 dX6_must_5 (by decide) (fun c5 => ?_) (fun c5 => absurd c5 (by decide))
  refine za_iconst (nI 1) dX6_must_12 (by decide) ?_
  refine za_goto 17 dX6_must_13 (by decide) ?_
  refine za_putG dX6_must_17 zf_X6_204 zp_X6_11 rfl rfl (by decide) (by decide) ?_
  refine za_aload_n dX6_must_20 rfl ?_
  refine za_getI dX6_must_21 zf_X6_204 rfl rfl ?_
  rw [show (zsi S 34 11 (nI 1)).1 34 11 = nI 1 from rfl]
  refine za_if_ne 31 dX6_must_24 (by decide) (fun c24 => ?_) (fun c24 => absurd c24 (by decide))
  exact za_vret hM dX6_must_31 ⟨rfl, zM_si zM_rf (by decide), ⟨mT_M hQ.1 (zM_si zM_rf (by decide)), hQ.2.1, hQ.2.2.1, hQ.2.2.2.1, rfl⟩⟩

set_option maxRecDepth 20000 in
set_option maxHeartbeats 4000000 in
theorem m_must_f {g : zG} {S : zSto} {B : Nat → Nat} {L : Nat} {s : Nat} (hQ : mQ S B L false s)  : zEv g 3 yX6_must cX6_must 2 none [.ref (zad g 34), .int (nI 0)] S (fun r' s' => r' = none ∧ zM S s' ∧ mQ s' B L true s) := by
  refine zev_intro (own := RX6) (lv := [some (.ref (zad g 34)), some (.int (nI 0))]) (by decide +kernel) rfl (Nat.le_of_ble_eq_true rfl) rfl (fun C hM hN => ?_)
  refine za_aload_n dX6_must_0 rfl ?_
  refine za_aload_n dX6_must_1 rfl ?_
  refine za_getI dX6_must_2 zf_X6_204 rfl rfl ?_
  rw [hQ.2.2.2.2]
  refine za_if_ne 12 dX6_must_5 (by decide) (fun c5 => absurd (by decide) c5) (fun c5 => ?_)
  refine za_iload_n dX6_must_8 rfl ?_
  refine za_if_ne 16 dX6_must_9 (by decide) (fun c9 => absurd (by decide) c9) (fun c9 => ?_)
  refine za_iconst (nI 1) dX6_must_12 (by decide) ?_
  refine za_goto 17 dX6_must_13 (by decide) ?_
  refine za_putG dX6_must_17 zf_X6_204 zp_X6_11 rfl rfl (by decide) (by decide) ?_
  refine za_aload_n dX6_must_20 rfl ?_
  refine za_getI dX6_must_21 zf_X6_204 rfl rfl ?_
  rw [show (zsi S 34 11 (nI 1)).1 34 11 = nI 1 from rfl]
  refine za_if_ne 31 dX6_must_24 (by decide) (fun c24 => ?_) (fun c24 => absurd c24 (by decide))
  exact za_vret hM dX6_must_31 ⟨rfl, zM_si zM_rf (by decide), ⟨mT_M hQ.1 (zM_si zM_rf (by decide)), hQ.2.1, hQ.2.2.1, hQ.2.2.2.1, rfl⟩⟩

set_option maxRecDepth 20000 in
set_option maxHeartbeats 4000000 in
theorem m_must_t {g : zG} {S : zSto} {B : Nat → Nat} {L : Nat} {s : Nat} (hQ : mQ S B L false s)  : zEv g 3 yX6_must cX6_must 2 none [.ref (zad g 34), .int (nI 1)] S (fun r' s' => r' = none ∧ zM S s' ∧ mQ s' B L false (l_nx B L s) ∧ s'.1 34 10 = S.1 34 10) := by
  refine zev_intro (own := RX6) (lv := [some (.ref (zad g 34)), some (.int (nI 1))]) (by decide +kernel) rfl (Nat.le_of_ble_eq_true rfl) rfl (fun C hM hN => ?_)
  refine za_aload_n dX6_must_0 rfl ?_
  refine za_aload_n dX6_must_1 rfl ?_
  refine za_getI dX6_must_2 zf_X6_204 rfl rfl ?_
  rw [hQ.2.2.2.2]
  refine za_if_ne 12 dX6_must_5 (by decide) (fun c5 => absurd (by decide) c5) (fun c5 => ?_)
  refine za_iload_n dX6_must_8 rfl ?_
  refine za_if_ne 16 dX6_must_9 (by decide) (fun c9 => ?_) (fun c9 => absurd c9 (by decide))
  refine za_iconst (nI 0) dX6_must_16 (by decide) ?_
  refine za_putG dX6_must_17 zf_X6_204 zp_X6_11 rfl rfl (by decide) (by decide) ?_
  refine za_aload_n dX6_must_20 rfl ?_
  refine za_getI dX6_must_21 zf_X6_204 rfl rfl ?_
  rw [show (zsi S 34 11 (nI 0)).1 34 11 = nI 0 from rfl]
  refine za_if_ne 31 dX6_must_24 (by decide) (fun c24 => absurd (by decide) c24) (fun c24 => ?_)
  refine za_aload_n dX6_must_27 rfl ?_
  refine za_callV (As := []) (rest := []) dX6_must_28 zm_X6_208 zw_X6_token zv_X6_token (m_token (S := zsi S 34 11 (nI 0)) (e := l_te B L s) (mT_M hQ.1 (zM_si zM_rf (by decide))) hQ.2.2.2.1 (l_te_le hQ.2.1)) (by decide) rfl rfl rfl rfl (Nat.le_of_ble_eq_true rfl) rfl (fun r28 s28 hE28 => ?_)
  obtain ⟨rfl, hM28, hR28, h1128, h1028⟩ := hE28
  show zAW _ _ _ _ _ _ _ [] _
  exact za_vret hM dX6_must_31 ⟨rfl, zM_tr (zM_si zM_rf (by decide)) hM28, ⟨mT_M hQ.1 (zM_tr (zM_si zM_rf (by decide)) hM28), hR28.1, hR28.2.1, hR28.2.2, h1128.trans rfl⟩, h1028⟩

set_option maxRecDepth 20000 in
set_option maxHeartbeats 4000000 in
theorem m_word_w {g : zG} {S : zSto} {B : Nat → Nat} {L : Nat} {s : Nat} (hQ : mQ S B L true s)  : zEd g 2 yX6_word cX6_word 4 (some .long) [.ref (zad g 34)] S (some (.long (lN 0))) S := by
  refine zev_intro (own := RX6) (lv := [some (.ref (zad g 34)), none, none, none]) (by decide +kernel) rfl (Nat.le_of_ble_eq_true rfl) rfl (fun C hM hN => ?_)
  have h120 := hQ.1.2.1
  have hb := mT_b hQ.1
  have hle := l_te_le (B := B) hQ.2.1
  have hge := l_te_ge (B := B) (L := L) (s := s)
  have hloop : ∀ (m j : Nat), s + j + m = l_te B L s → zAW g C 2 cX6_word RX6 7 [some (.ref (zad g 34)), some (.long (l_mw B s j)), none, some (.int (nI (s + j)))] [] S := by
    intro m
    induction m with
    | zero =>
      intro j hj
      obtain rfl : j = l_te B L s - s := by omega
      refine za_iload_n dX6_word_7 rfl ?_
      refine za_aload_n dX6_word_8 rfl ?_
      refine za_getI dX6_word_9 zf_X6_189 rfl rfl ?_
      rw [hQ.2.2.2.1]
      refine za_icmp_ge 50 dX6_word_12 (by decide) (fun c12 => ?_) (fun c12 => absurd (nI_le (by omega) (by omega)) c12)
      refine za_aload_n dX6_word_50 rfl ?_
      refine za_getI dX6_word_51 zf_X6_204 rfl rfl ?_
      rw [hQ.2.2.2.2]
      refine za_if_ne 71 dX6_word_54 (by decide) (fun c54 => ?_) (fun c54 => absurd c54 (by decide))
      refine za_lconst (lN 0) dX6_word_71 (by decide) ?_
      refine za_goto 76 dX6_word_72 (by decide) ?_
      exact za_lret hM dX6_word_76 ⟨rfl, rfl⟩
    | succ m ih =>
      intro j hj
      refine za_iload_n dX6_word_7 rfl ?_
      refine za_aload_n dX6_word_8 rfl ?_
      refine za_getI dX6_word_9 zf_X6_189 rfl rfl ?_
      rw [hQ.2.2.2.1]
      refine za_icmp_ge 50 dX6_word_12 (by decide) (fun c12 => absurd c12 (nI_ge (by omega) (by omega))) (fun c12 => ?_)
      refine za_lload_n dX6_word_15 rfl ?_
      refine za_ldc2 dX6_word_16 zk_X6_211 ?_
      rw [show (36028797018963967 : Int64) = lN 36028797018963967 from rfl]
      refine za_lcmp dX6_word_19 ?_
      refine za_if_le 27 dX6_word_20 (by decide) (fun c20 => ?_) (fun c20 => ?_)
      · refine za_ldc2 (v := lN 32) dX6_word_27 zk_X6_213 ?_
        refine za_lload_n dX6_word_30 rfl ?_
        refine za_lmul dX6_word_31 ?_
        refine za_aload_n dX6_word_32 rfl ?_
        refine za_getR dX6_word_33 zf_X6_25 rfl rfl ?_
        refine za_iload_n dX6_word_36 rfl ?_
        refine za_iald dX6_word_37 rfl (by omega) ?_
        rw [(hQ.1.2.2 (s + j) (by omega)).2]
        refine za_bipush (nI 96) dX6_word_38 (by decide) ?_
        refine za_isub dX6_word_40 ?_
        refine za_i2l dX6_word_41 ?_
        refine za_ladd dX6_word_42 ?_
        refine za_lstore_n (lv' := [_, _, _, _]) dX6_word_43 hN (by decide) rfl ?_
        refine za_iinc (nI (_ + 1)) (lv' := [_, _, _, _]) dX6_word_44 rfl hN (by decide) (znext _) rfl ?_
        refine za_goto 7 dX6_word_47 (by decide) ?_
        have hh := ih (j + 1) (by omega)
        rw [show s + (j + 1) = s + j + 1 by omega] at hh
        first
          | (rw [l_mw_1 (Int64.not_le.mp (fun z => c20 ((lg_cmp_le _ _).mpr z)))] at hh; exact hh)
          | (rw [l_mw_2 (Int64.not_lt.mpr ((lg_cmp_le _ _).mp c20))] at hh; exact hh)
      · refine za_lload_n dX6_word_23 rfl ?_
        refine za_goto 43 dX6_word_24 (by decide) ?_
        refine za_lstore_n (lv' := [_, _, _, _]) dX6_word_43 hN (by decide) rfl ?_
        refine za_iinc (nI (_ + 1)) (lv' := [_, _, _, _]) dX6_word_44 rfl hN (by decide) (znext _) rfl ?_
        refine za_goto 7 dX6_word_47 (by decide) ?_
        have hh := ih (j + 1) (by omega)
        rw [show s + (j + 1) = s + j + 1 by omega] at hh
        first
          | (rw [l_mw_1 (Int64.not_le.mp (fun z => c20 ((lg_cmp_le _ _).mpr z)))] at hh; exact hh)
          | (rw [l_mw_2 (Int64.not_lt.mpr ((lg_cmp_le _ _).mp c20))] at hh; exact hh)
  refine za_lconst (lN 0) dX6_word_0 (by decide) ?_
  refine za_lstore_n (lv' := [_, _, _, _]) dX6_word_1 hN (by decide) rfl ?_
  refine za_aload_n dX6_word_2 rfl ?_
  refine za_getI dX6_word_3 zf_X6_192 rfl rfl ?_
  rw [hQ.2.2.1]
  refine za_istore_n (lv' := [_, _, _, _]) dX6_word_6 hN (by decide) rfl ?_
  exact hloop (l_te B L s - s) 0 (by omega)

set_option maxRecDepth 20000 in
set_option maxHeartbeats 4000000 in
theorem m_word {g : zG} {S : zSto} {B : Nat → Nat} {L : Nat} {s : Nat} (hQ : mQ S B L false s)  : zEd g 2 yX6_word cX6_word 4 (some .long) [.ref (zad g 34)] S (some (.long (l_wd B L s))) S := by
  refine zev_intro (own := RX6) (lv := [some (.ref (zad g 34)), none, none, none]) (by decide +kernel) rfl (Nat.le_of_ble_eq_true rfl) rfl (fun C hM hN => ?_)
  have h120 := hQ.1.2.1
  have hb := mT_b hQ.1
  have hle := l_te_le (B := B) hQ.2.1
  have hge := l_te_ge (B := B) (L := L) (s := s)
  have hloop : ∀ (m j : Nat), s + j + m = l_te B L s → zAW g C 2 cX6_word RX6 7 [some (.ref (zad g 34)), some (.long (l_mw B s j)), none, some (.int (nI (s + j)))] [] S := by
    intro m
    induction m with
    | zero =>
      intro j hj
      obtain rfl : j = l_te B L s - s := by omega
      refine za_iload_n dX6_word_7 rfl ?_
      refine za_aload_n dX6_word_8 rfl ?_
      refine za_getI dX6_word_9 zf_X6_189 rfl rfl ?_
      rw [hQ.2.2.2.1]
      refine za_icmp_ge 50 dX6_word_12 (by decide) (fun c12 => ?_) (fun c12 => absurd (nI_le (by omega) (by omega)) c12)
      refine za_aload_n dX6_word_50 rfl ?_
      refine za_getI dX6_word_51 zf_X6_204 rfl rfl ?_
      rw [hQ.2.2.2.2]
      refine za_if_ne 71 dX6_word_54 (by decide) (fun c54 => absurd (by decide) c54) (fun c54 => ?_)
      refine za_aload_n dX6_word_57 rfl ?_
      refine za_aload_n dX6_word_58 rfl ?_
      refine za_getI dX6_word_59 zf_X6_192 rfl rfl ?_
      rw [hQ.2.2.1]
      refine za_cV1 dX6_word_62 zm_X6_195 zw_X6_byteAt zv_X6_byteAt (m_byteAt hQ.1 hQ.2.1) (by decide) rfl rfl rfl (Nat.le_of_ble_eq_true rfl) ?_
      refine za_cS1 dX6_word_65 zm_X6_198 zw_X6_isLetter zs_X6_isLetter (m_isLetter _) (by decide) (Nat.le_of_ble_eq_true rfl) ?_
      refine za_if_neB 75 dX6_word_68 (by decide) (fun c68 => ?_) (fun c68 => ?_)
      · refine za_lload_n dX6_word_75 rfl ?_
        exact za_lret hM dX6_word_76 ⟨by first | exact congrArg (fun z => some (Value.long z)) (show l_wd B L s = l_mw B s (l_te B L s - s) from if_pos (l_K_w ((l_by_let hb).mp c68).1 ((l_by_let hb).mp c68).2)).symm | exact congrArg (fun z => some (Value.long z)) (show l_wd B L s = lN 0 from if_neg (fun z => c68 ((l_by_let hb).mpr (l_K_1 z)))).symm, rfl⟩
      · refine za_lconst (lN 0) dX6_word_71 (by decide) ?_
        refine za_goto 76 dX6_word_72 (by decide) ?_
        exact za_lret hM dX6_word_76 ⟨by first | exact congrArg (fun z => some (Value.long z)) (show l_wd B L s = l_mw B s (l_te B L s - s) from if_pos (l_K_w ((l_by_let hb).mp c68).1 ((l_by_let hb).mp c68).2)).symm | exact congrArg (fun z => some (Value.long z)) (show l_wd B L s = lN 0 from if_neg (fun z => c68 ((l_by_let hb).mpr (l_K_1 z)))).symm, rfl⟩
    | succ m ih =>
      intro j hj
      refine za_iload_n dX6_word_7 rfl ?_
      refine za_aload_n dX6_word_8 rfl ?_
      refine za_getI dX6_word_9 zf_X6_189 rfl rfl ?_
      rw [hQ.2.2.2.1]
      refine za_icmp_ge 50 dX6_word_12 (by decide) (fun c12 => absurd c12 (nI_ge (by omega) (by omega))) (fun c12 => ?_)
      refine za_lload_n dX6_word_15 rfl ?_
      refine za_ldc2 dX6_word_16 zk_X6_211 ?_
      rw [show (36028797018963967 : Int64) = lN 36028797018963967 from rfl]
      refine za_lcmp dX6_word_19 ?_
      refine za_if_le 27 dX6_word_20 (by decide) (fun c20 => ?_) (fun c20 => ?_)
      · refine za_ldc2 (v := lN 32) dX6_word_27 zk_X6_213 ?_
        refine za_lload_n dX6_word_30 rfl ?_
        refine za_lmul dX6_word_31 ?_
        refine za_aload_n dX6_word_32 rfl ?_
        refine za_getR dX6_word_33 zf_X6_25 rfl rfl ?_
        refine za_iload_n dX6_word_36 rfl ?_
        refine za_iald dX6_word_37 rfl (by omega) ?_
        rw [(hQ.1.2.2 (s + j) (by omega)).2]
        refine za_bipush (nI 96) dX6_word_38 (by decide) ?_
        refine za_isub dX6_word_40 ?_
        refine za_i2l dX6_word_41 ?_
        refine za_ladd dX6_word_42 ?_
        refine za_lstore_n (lv' := [_, _, _, _]) dX6_word_43 hN (by decide) rfl ?_
        refine za_iinc (nI (_ + 1)) (lv' := [_, _, _, _]) dX6_word_44 rfl hN (by decide) (znext _) rfl ?_
        refine za_goto 7 dX6_word_47 (by decide) ?_
        have hh := ih (j + 1) (by omega)
        rw [show s + (j + 1) = s + j + 1 by omega] at hh
        first
          | (rw [l_mw_1 (Int64.not_le.mp (fun z => c20 ((lg_cmp_le _ _).mpr z)))] at hh; exact hh)
          | (rw [l_mw_2 (Int64.not_lt.mpr ((lg_cmp_le _ _).mp c20))] at hh; exact hh)
      · refine za_lload_n dX6_word_23 rfl ?_
        refine za_goto 43 dX6_word_24 (by decide) ?_
        refine za_lstore_n (lv' := [_, _, _, _]) dX6_word_43 hN (by decide) rfl ?_
        refine za_iinc (nI (_ + 1)) (lv' := [_, _, _, _]) dX6_word_44 rfl hN (by decide) (znext _) rfl ?_
        refine za_goto 7 dX6_word_47 (by decide) ?_
        have hh := ih (j + 1) (by omega)
        rw [show s + (j + 1) = s + j + 1 by omega] at hh
        first
          | (rw [l_mw_1 (Int64.not_le.mp (fun z => c20 ((lg_cmp_le _ _).mpr z)))] at hh; exact hh)
          | (rw [l_mw_2 (Int64.not_lt.mpr ((lg_cmp_le _ _).mp c20))] at hh; exact hh)
  refine za_lconst (lN 0) dX6_word_0 (by decide) ?_
  refine za_lstore_n (lv' := [_, _, _, _]) dX6_word_1 hN (by decide) rfl ?_
  refine za_aload_n dX6_word_2 rfl ?_
  refine za_getI dX6_word_3 zf_X6_192 rfl rfl ?_
  rw [hQ.2.2.1]
  refine za_istore_n (lv' := [_, _, _, _]) dX6_word_6 hN (by decide) rfl ?_
  exact hloop (l_te B L s - s) 0 (by omega)

theorem m_in4 {g : zG} {σ : zSto} (x y : Int32) : zEd g 0 yX6_in cX6_in 6 (some .boolean) [.long x.toInt64, .long (nI 0).toInt64, .long y.toInt64] σ (some (.int (zb (nI 0 ≤ x ∧ x ≤ y)))) σ := by
  have e := m_in (g := g) (σ := σ) x.toInt64 (nI 0).toInt64 y.toInt64
  rw [zb_congr (c' := nI 0 ≤ x ∧ x ≤ y) (by rw [zlong_le, zlong_le])] at e
  exact e
/-- the value against a bound -/
theorem l_mv_b {B : Nat → Nat} {s k : Nat} {hh : Int32} (hd : ∀ j, j < k → 48 ≤ B (s + j) ∧ B (s + j) ≤ 57) (h9 : hh ≤ nI 9999) : (nI 0 ≤ nI (l_mv B s k) ∧ nI (l_mv B s k) ≤ hh) ↔ nI (l_cv B s k) ≤ hh := by
  have h := l_mv_cv (B := B) (s := s) k hd
  have h0 : nI 0 ≤ nI (l_mv B s k) := nI_le (Nat.zero_le _) (by omega)
  rcases h.2 with ⟨a, b⟩ | ⟨a, b⟩
  · rw [b]; exact ⟨fun z => z.2, fun z => ⟨h0, z⟩⟩
  · rw [b]
    refine ⟨fun z => absurd (Int32.le_trans z.2 h9) (nI_ge a (by omega)), fun z => absurd (Int32.le_trans z h9) (by decide)⟩

set_option maxRecDepth 20000 in
set_option maxHeartbeats 4000000 in
theorem m_number_w {g : zG} {S : zSto} {B : Nat → Nat} {L : Nat} {s : Nat} (hQ : mQ S B L true s) {lo hh : Int32} : zEd g 4 yX6_number cX6_number 6 none [.ref (zad g 34), .int lo, .int hh] S none S := by
  refine zev_intro (own := RX6) (lv := [some (.ref (zad g 34)), some (.int lo), some (.int hh), none, none, none]) (by decide +kernel) rfl (Nat.le_of_ble_eq_true rfl) rfl (fun C hM hN => ?_)
  refine za_aload_n dX6_number_0 rfl ?_
  refine za_getI dX6_number_1 zf_X6_204 rfl rfl ?_
  rw [hQ.2.2.2.2]
  refine za_if_eq 8 dX6_number_4 (by decide) (fun c4 => absurd c4 (by decide)) (fun c4 => ?_)
  exact za_vret hM dX6_number_7 ⟨by rfl, by rfl⟩

set_option maxRecDepth 20000 in
set_option maxHeartbeats 4000000 in
theorem m_number {g : zG} {S : zSto} {B : Nat → Nat} {L : Nat} {s : Nat} (hQ : mQ S B L false s) {hh : Int32} (h9 : hh ≤ nI 9999) (hc : l_K B L s = 2 ∧ nI (l_v B L s) ≤ hh) : zEv g 4 yX6_number cX6_number 6 none [.ref (zad g 34), .int (nI 0), .int hh] S (fun r' s' => r' = none ∧ zM S s' ∧ mQ s' B L false (l_nx B L s) ∧ s'.1 34 10 = nI (l_v B L s)) := by
  refine zev_intro (own := RX6) (lv := [some (.ref (zad g 34)), some (.int (nI 0)), some (.int hh), none, none, none]) (by decide +kernel) rfl (Nat.le_of_ble_eq_true rfl) rfl (fun C hM hN => ?_)
  have h120 := hQ.1.2.1
  have hb := mT_b hQ.1
  have hle := l_te_le (B := B) hQ.2.1
  have hge := l_te_ge (B := B) (L := L) (s := s)
  have hd := l_K_2 hc.1
  have hdg : ∀ j, j < l_te B L s - s → 48 ≤ B (s + j) ∧ B (s + j) ≤ 57 := fun j hj => l_dig_b (l_end_all (P := fun j => l_dig (B j)) (L := L) (i := s) (by omega) (by rw [← l_te_d hd.1 hd.2]; omega))
  have hlp : ∀ (m j : Nat), s + j + m = l_te B L s → zAW g C 4 cX6_number RX6 29 [some (.ref (zad g 34)), some (.int (nI 0)), some (.int hh), some (.int (nI 1)), some (.int (nI (l_mv B s j))), some (.int (nI (s + j)))] [] S := by
    intro m
    induction m with
    | zero =>
      intro j hj
      obtain rfl : j = l_te B L s - s := by omega
      have hmv := l_mv_cv (B := B) (s := s) _ hdg
      refine za_iload dX6_number_29 rfl ?_
      refine za_aload_n dX6_number_31 rfl ?_
      refine za_getI dX6_number_32 zf_X6_189 rfl rfl ?_
      rw [hQ.2.2.2.1]
      refine za_icmp_ge 79 dX6_number_35 (by decide) (fun c35 => ?_) (fun c35 => absurd (nI_le (by omega) (by omega)) c35)
      refine za_aload_n dX6_number_79 rfl ?_
      refine za_iload dX6_number_80 rfl ?_
      refine za_putI dX6_number_82 zf_X6_215 zp_X6_10 rfl rfl ?_
      refine za_aload_n dX6_number_85 rfl ?_
      refine za_iload_n dX6_number_86 rfl ?_
      refine za_if_eq 107 dX6_number_87 (by decide) (fun c87 => absurd c87 (by decide)) (fun c87 => ?_)
      refine za_iload dX6_number_90 rfl ?_
      refine za_i2l dX6_number_92 ?_
      refine za_iload_n dX6_number_93 rfl ?_
      refine za_i2l dX6_number_94 ?_
      refine za_iload_n dX6_number_95 rfl ?_
      refine za_i2l dX6_number_96 ?_
      refine za_cS3 dX6_number_97 zm_X6_46 zw_X6_in zs_X6_in (m_in4 _ _) (by decide) (Nat.le_of_ble_eq_true rfl) ?_
      refine za_if_eqB 107 dX6_number_100 (by decide) (fun c100 => absurd ((l_mv_b hdg h9).mpr hc.2) c100) (fun c100 => ?_)
      refine za_iconst (nI 1) dX6_number_103 (by decide) ?_
      refine za_goto 108 dX6_number_104 (by decide) ?_
      refine za_callV (As := [.int (nI 1)]) (rest := []) dX6_number_108 zm_X6_218 zw_X6_must zv_X6_must (m_must_t (S := zsi S 34 10 _) (B := B) (L := L) (s := s) ⟨mT_M hQ.1 (zM_si zM_rf (by decide)), hQ.2⟩) (by decide) rfl rfl rfl rfl (Nat.le_of_ble_eq_true rfl) rfl (fun r108 s108 hE108 => ?_)
      obtain ⟨rfl, hM108, hQ108, hv108⟩ := hE108
      show zAW _ _ _ _ _ _ _ [] _
      exact za_vret hM dX6_number_111 (by refine ⟨rfl, zM_tr (zM_si zM_rf (by decide)) hM108, hQ108, hv108.trans ?_⟩; show nI (l_mv B s (l_te B L s - s)) = nI (l_cv B s (l_te B L s - s)); rcases hmv.2 with ⟨_, q⟩ | ⟨_, q⟩; rw [q]; exact absurd (Int32.le_trans (show nI (l_cv B s (l_te B L s - s)) ≤ hh from hc.2) h9) (by rw [q]; decide))
    | succ m ih =>
      intro j hj
      have hmv := l_mv_cv (B := B) (s := s) j (fun i hi => hdg i (by omega))
      have hdj := hdg j (by omega)
      refine za_iload dX6_number_29 rfl ?_
      refine za_aload_n dX6_number_31 rfl ?_
      refine za_getI dX6_number_32 zf_X6_189 rfl rfl ?_
      rw [hQ.2.2.2.1]
      refine za_icmp_ge 79 dX6_number_35 (by decide) (fun c35 => absurd c35 (nI_ge (by omega) (by omega))) (fun c35 => ?_)
      refine za_iload_n dX6_number_38 rfl ?_
      refine za_if_eq 79 dX6_number_39 (by decide) (fun c39 => absurd c39 (by decide)) (fun c39 => ?_)
      refine za_iload dX6_number_42 rfl ?_
      refine za_sipush (nI 9999) dX6_number_44 (by decide) ?_
      refine za_icmp_le 55 dX6_number_47 (by decide) (fun c47 => ?_) (fun c47 => ?_)
      · refine za_bipush (nI 10) dX6_number_55 (by decide) ?_
        refine za_iload dX6_number_57 rfl ?_
        refine za_imul dX6_number_59 ?_
        rw [pk_mul]
        refine za_aload_n dX6_number_60 rfl ?_
        refine za_getR dX6_number_61 zf_X6_25 rfl rfl ?_
        refine za_iload dX6_number_64 rfl ?_
        refine za_iald dX6_number_66 rfl (by omega) ?_
        rw [(hQ.1.2.2 (s + j) (by omega)).2]
        refine za_iadd dX6_number_67 ?_
        rw [nI_add]
        refine za_bipush (nI 48) dX6_number_68 (by decide) ?_
        refine za_isub dX6_number_70 ?_
        rw [pk_sub (by omega)]
        refine za_istore (lv' := [_, _, _, _, _, _]) dX6_number_71 hN (by decide) rfl ?_
        refine za_iinc (nI (_ + 1)) (lv' := [_, _, _, _, _, _]) dX6_number_73 rfl hN (by decide) (znext _) rfl ?_
        refine za_goto 29 dX6_number_76 (by decide) ?_
        have hh' := ih (j + 1) (by omega)
        rw [show s + (j + 1) = s + j + 1 by omega] at hh'
        first
          | (rw [l_mv_1 (Nat.lt_of_not_le (fun z => c47 (nI_le z (by omega))))] at hh'; exact hh')
          | (rw [l_mv_2 (fun z => absurd c47 (nI_ge z (by omega))), show 10 * l_mv B s j + (B (s + j) - 48) = 10 * l_mv B s j + B (s + j) - 48 by omega] at hh'; exact hh')
      · refine za_iload dX6_number_50 rfl ?_
        refine za_goto 71 dX6_number_52 (by decide) ?_
        refine za_istore (lv' := [_, _, _, _, _, _]) dX6_number_71 hN (by decide) rfl ?_
        refine za_iinc (nI (_ + 1)) (lv' := [_, _, _, _, _, _]) dX6_number_73 rfl hN (by decide) (znext _) rfl ?_
        refine za_goto 29 dX6_number_76 (by decide) ?_
        have hh' := ih (j + 1) (by omega)
        rw [show s + (j + 1) = s + j + 1 by omega] at hh'
        first
          | (rw [l_mv_1 (Nat.lt_of_not_le (fun z => c47 (nI_le z (by omega))))] at hh'; exact hh')
          | (rw [l_mv_2 (fun z => absurd c47 (nI_ge z (by omega))), show 10 * l_mv B s j + (B (s + j) - 48) = 10 * l_mv B s j + B (s + j) - 48 by omega] at hh'; exact hh')
  refine za_aload_n dX6_number_0 rfl ?_
  refine za_getI dX6_number_1 zf_X6_204 rfl rfl ?_
  rw [hQ.2.2.2.2]
  refine za_if_eq 8 dX6_number_4 (by decide) (fun c4 => ?_) (fun c4 => absurd (by decide) c4)
  refine za_aload_n dX6_number_8 rfl ?_
  refine za_aload_n dX6_number_9 rfl ?_
  refine za_getI dX6_number_10 zf_X6_192 rfl rfl ?_
  rw [hQ.2.2.1]
  refine za_cV1 dX6_number_13 zm_X6_195 zw_X6_byteAt zv_X6_byteAt (m_byteAt hQ.1 hQ.2.1) (by decide) rfl rfl rfl (Nat.le_of_ble_eq_true rfl) ?_
  refine za_cS1 dX6_number_16 zm_X6_201 zw_X6_isDigit zs_X6_isDigit (m_isDigit _) (by decide) (Nat.le_of_ble_eq_true rfl) ?_
  rw [zb_1 ((l_by_dig hb).mpr hd)]
  refine za_istore_n (lv' := [_, _, _, _, _, _]) dX6_number_19 hN (by decide) rfl ?_
  refine za_iconst (nI 0) dX6_number_20 (by decide) ?_
  refine za_istore (lv' := [_, _, _, _, _, _]) dX6_number_21 hN (by decide) rfl ?_
  refine za_aload_n dX6_number_23 rfl ?_
  refine za_getI dX6_number_24 zf_X6_192 rfl rfl ?_
  rw [hQ.2.2.1]
  refine za_istore (lv' := [_, _, _, _, _, _]) dX6_number_27 hN (by decide) rfl ?_
  exact hlp (l_te B L s - s) 0 (by omega)

set_option maxRecDepth 20000 in
set_option maxHeartbeats 4000000 in
theorem m_number_no {g : zG} {S : zSto} {B : Nat → Nat} {L : Nat} {s : Nat} (hQ : mQ S B L false s) {hh : Int32} (h9 : hh ≤ nI 9999) (hc : ¬ (l_K B L s = 2 ∧ nI (l_v B L s) ≤ hh)) : zEv g 4 yX6_number cX6_number 6 none [.ref (zad g 34), .int (nI 0), .int hh] S (fun r' s' => r' = none ∧ zM S s' ∧ mQ s' B L true s) := by
  refine zev_intro (own := RX6) (lv := [some (.ref (zad g 34)), some (.int (nI 0)), some (.int hh), none, none, none]) (by decide +kernel) rfl (Nat.le_of_ble_eq_true rfl) rfl (fun C hM hN => ?_)
  have h120 := hQ.1.2.1
  have hb := mT_b hQ.1
  have hle := l_te_le (B := B) hQ.2.1
  have hge := l_te_ge (B := B) (L := L) (s := s)
  by_cases hd : s < L ∧ l_dig (B s) = true
  · have hdg : ∀ j, j < l_te B L s - s → 48 ≤ B (s + j) ∧ B (s + j) ≤ 57 := fun j hj => l_dig_b (l_end_all (P := fun j => l_dig (B j)) (L := L) (i := s) (by omega) (by rw [← l_te_d hd.1 hd.2]; omega))
    have hlp : ∀ (m j : Nat), s + j + m = l_te B L s → zAW g C 4 cX6_number RX6 29 [some (.ref (zad g 34)), some (.int (nI 0)), some (.int hh), some (.int (nI 1)), some (.int (nI (l_mv B s j))), some (.int (nI (s + j)))] [] S := by
      intro m
      induction m with
      | zero =>
        intro j hj
        obtain rfl : j = l_te B L s - s := by omega
        have hmv := l_mv_cv (B := B) (s := s) _ hdg
        refine za_iload dX6_number_29 rfl ?_
        refine za_aload_n dX6_number_31 rfl ?_
        refine za_getI dX6_number_32 zf_X6_189 rfl rfl ?_
        rw [hQ.2.2.2.1]
        refine za_icmp_ge 79 dX6_number_35 (by decide) (fun c35 => ?_) (fun c35 => absurd (nI_le (by omega) (by omega)) c35)
        refine za_aload_n dX6_number_79 rfl ?_
        refine za_iload dX6_number_80 rfl ?_
        refine za_putI dX6_number_82 zf_X6_215 zp_X6_10 rfl rfl ?_
        refine za_aload_n dX6_number_85 rfl ?_
        refine za_iload_n dX6_number_86 rfl ?_
        refine za_if_eq 107 dX6_number_87 (by decide) (fun c87 => absurd c87 (by decide)) (fun c87 => ?_)
        refine za_iload dX6_number_90 rfl ?_
        refine za_i2l dX6_number_92 ?_
        refine za_iload_n dX6_number_93 rfl ?_
        refine za_i2l dX6_number_94 ?_
        refine za_iload_n dX6_number_95 rfl ?_
        refine za_i2l dX6_number_96 ?_
        refine za_cS3 dX6_number_97 zm_X6_46 zw_X6_in zs_X6_in (m_in4 _ _) (by decide) (Nat.le_of_ble_eq_true rfl) ?_
        refine za_if_eqB 107 dX6_number_100 (by decide) (fun c100 => ?_) (fun c100 => absurd c100 (fun z => hc ⟨l_K_d hd.1 hd.2, (l_mv_b hdg h9).mp z⟩))
        refine za_iconst (nI 0) dX6_number_107 (by decide) ?_
        refine za_callV (As := [.int (nI 0)]) (rest := []) dX6_number_108 zm_X6_218 zw_X6_must zv_X6_must (m_must_f (S := zsi S 34 10 _) (B := B) (L := L) (s := s) ⟨mT_M hQ.1 (zM_si zM_rf (by decide)), hQ.2⟩) (by decide) rfl rfl rfl rfl (Nat.le_of_ble_eq_true rfl) rfl (fun r108 s108 hE108 => ?_)
        obtain ⟨rfl, hM108, hQ108⟩ := hE108
        show zAW _ _ _ _ _ _ _ [] _
        exact za_vret hM dX6_number_111 ⟨rfl, zM_tr (zM_si zM_rf (by decide)) hM108, hQ108⟩
      | succ m ih =>
        intro j hj
        have hmv := l_mv_cv (B := B) (s := s) j (fun i hi => hdg i (by omega))
        have hdj := hdg j (by omega)
        refine za_iload dX6_number_29 rfl ?_
        refine za_aload_n dX6_number_31 rfl ?_
        refine za_getI dX6_number_32 zf_X6_189 rfl rfl ?_
        rw [hQ.2.2.2.1]
        refine za_icmp_ge 79 dX6_number_35 (by decide) (fun c35 => absurd c35 (nI_ge (by omega) (by omega))) (fun c35 => ?_)
        refine za_iload_n dX6_number_38 rfl ?_
        refine za_if_eq 79 dX6_number_39 (by decide) (fun c39 => absurd c39 (by decide)) (fun c39 => ?_)
        refine za_iload dX6_number_42 rfl ?_
        refine za_sipush (nI 9999) dX6_number_44 (by decide) ?_
        refine za_icmp_le 55 dX6_number_47 (by decide) (fun c47 => ?_) (fun c47 => ?_)
        · refine za_bipush (nI 10) dX6_number_55 (by decide) ?_
          refine za_iload dX6_number_57 rfl ?_
          refine za_imul dX6_number_59 ?_
          rw [pk_mul]
          refine za_aload_n dX6_number_60 rfl ?_
          refine za_getR dX6_number_61 zf_X6_25 rfl rfl ?_
          refine za_iload dX6_number_64 rfl ?_
          refine za_iald dX6_number_66 rfl (by omega) ?_
          rw [(hQ.1.2.2 (s + j) (by omega)).2]
          refine za_iadd dX6_number_67 ?_
          rw [nI_add]
          refine za_bipush (nI 48) dX6_number_68 (by decide) ?_
          refine za_isub dX6_number_70 ?_
          rw [pk_sub (by omega)]
          refine za_istore (lv' := [_, _, _, _, _, _]) dX6_number_71 hN (by decide) rfl ?_
          refine za_iinc (nI (_ + 1)) (lv' := [_, _, _, _, _, _]) dX6_number_73 rfl hN (by decide) (znext _) rfl ?_
          refine za_goto 29 dX6_number_76 (by decide) ?_
          have hh' := ih (j + 1) (by omega)
          rw [show s + (j + 1) = s + j + 1 by omega] at hh'
          first
            | (rw [l_mv_1 (Nat.lt_of_not_le (fun z => c47 (nI_le z (by omega))))] at hh'; exact hh')
            | (rw [l_mv_2 (fun z => absurd c47 (nI_ge z (by omega))), show 10 * l_mv B s j + (B (s + j) - 48) = 10 * l_mv B s j + B (s + j) - 48 by omega] at hh'; exact hh')
        · refine za_iload dX6_number_50 rfl ?_
          refine za_goto 71 dX6_number_52 (by decide) ?_
          refine za_istore (lv' := [_, _, _, _, _, _]) dX6_number_71 hN (by decide) rfl ?_
          refine za_iinc (nI (_ + 1)) (lv' := [_, _, _, _, _, _]) dX6_number_73 rfl hN (by decide) (znext _) rfl ?_
          refine za_goto 29 dX6_number_76 (by decide) ?_
          have hh' := ih (j + 1) (by omega)
          rw [show s + (j + 1) = s + j + 1 by omega] at hh'
          first
            | (rw [l_mv_1 (Nat.lt_of_not_le (fun z => c47 (nI_le z (by omega))))] at hh'; exact hh')
            | (rw [l_mv_2 (fun z => absurd c47 (nI_ge z (by omega))), show 10 * l_mv B s j + (B (s + j) - 48) = 10 * l_mv B s j + B (s + j) - 48 by omega] at hh'; exact hh')
    refine za_aload_n dX6_number_0 rfl ?_
    refine za_getI dX6_number_1 zf_X6_204 rfl rfl ?_
    rw [hQ.2.2.2.2]
    refine za_if_eq 8 dX6_number_4 (by decide) (fun c4 => ?_) (fun c4 => absurd (by decide) c4)
    refine za_aload_n dX6_number_8 rfl ?_
    refine za_aload_n dX6_number_9 rfl ?_
    refine za_getI dX6_number_10 zf_X6_192 rfl rfl ?_
    rw [hQ.2.2.1]
    refine za_cV1 dX6_number_13 zm_X6_195 zw_X6_byteAt zv_X6_byteAt (m_byteAt hQ.1 hQ.2.1) (by decide) rfl rfl rfl (Nat.le_of_ble_eq_true rfl) ?_
    refine za_cS1 dX6_number_16 zm_X6_201 zw_X6_isDigit zs_X6_isDigit (m_isDigit _) (by decide) (Nat.le_of_ble_eq_true rfl) ?_
    rw [zb_1 ((l_by_dig hb).mpr hd)]
    refine za_istore_n (lv' := [_, _, _, _, _, _]) dX6_number_19 hN (by decide) rfl ?_
    refine za_iconst (nI 0) dX6_number_20 (by decide) ?_
    refine za_istore (lv' := [_, _, _, _, _, _]) dX6_number_21 hN (by decide) rfl ?_
    refine za_aload_n dX6_number_23 rfl ?_
    refine za_getI dX6_number_24 zf_X6_192 rfl rfl ?_
    rw [hQ.2.2.1]
    refine za_istore (lv' := [_, _, _, _, _, _]) dX6_number_27 hN (by decide) rfl ?_
    exact hlp (l_te B L s - s) 0 (by omega)
  · refine za_aload_n dX6_number_0 rfl ?_
    refine za_getI dX6_number_1 zf_X6_204 rfl rfl ?_
    rw [hQ.2.2.2.2]
    refine za_if_eq 8 dX6_number_4 (by decide) (fun c4 => ?_) (fun c4 => absurd (by decide) c4)
    refine za_aload_n dX6_number_8 rfl ?_
    refine za_aload_n dX6_number_9 rfl ?_
    refine za_getI dX6_number_10 zf_X6_192 rfl rfl ?_
    rw [hQ.2.2.1]
    refine za_cV1 dX6_number_13 zm_X6_195 zw_X6_byteAt zv_X6_byteAt (m_byteAt hQ.1 hQ.2.1) (by decide) rfl rfl rfl (Nat.le_of_ble_eq_true rfl) ?_
    refine za_cS1 dX6_number_16 zm_X6_201 zw_X6_isDigit zs_X6_isDigit (m_isDigit _) (by decide) (Nat.le_of_ble_eq_true rfl) ?_
    rw [zb_f (fun z => hd ((l_by_dig hb).mp z))]
    refine za_istore_n (lv' := [_, _, _, _, _, _]) dX6_number_19 hN (by decide) rfl ?_
    refine za_iconst (nI 0) dX6_number_20 (by decide) ?_
    refine za_istore (lv' := [_, _, _, _, _, _]) dX6_number_21 hN (by decide) rfl ?_
    refine za_aload_n dX6_number_23 rfl ?_
    refine za_getI dX6_number_24 zf_X6_192 rfl rfl ?_
    rw [hQ.2.2.1]
    refine za_istore (lv' := [_, _, _, _, _, _]) dX6_number_27 hN (by decide) rfl ?_
    refine za_iload dX6_number_29 rfl ?_
    refine za_aload_n dX6_number_31 rfl ?_
    refine za_getI dX6_number_32 zf_X6_189 rfl rfl ?_
    rw [hQ.2.2.2.1]
    refine za_icmp_ge 79 dX6_number_35 (by decide) (fun c35 => ?_) (fun c35 => ?_)
    · refine za_aload_n dX6_number_79 rfl ?_
      refine za_iload dX6_number_80 rfl ?_
      refine za_putI dX6_number_82 zf_X6_215 zp_X6_10 rfl rfl ?_
      refine za_aload_n dX6_number_85 rfl ?_
      refine za_iload_n dX6_number_86 rfl ?_
      refine za_if_eq 107 dX6_number_87 (by decide) (fun c87 => ?_) (fun c87 => absurd (by decide) c87)
      refine za_iconst (nI 0) dX6_number_107 (by decide) ?_
      refine za_callV (As := [.int (nI 0)]) (rest := []) dX6_number_108 zm_X6_218 zw_X6_must zv_X6_must (m_must_f (S := zsi S 34 10 _) (B := B) (L := L) (s := s) ⟨mT_M hQ.1 (zM_si zM_rf (by decide)), hQ.2⟩) (by decide) rfl rfl rfl rfl (Nat.le_of_ble_eq_true rfl) rfl (fun r108 s108 hE108 => ?_)
      obtain ⟨rfl, hM108, hQ108⟩ := hE108
      show zAW _ _ _ _ _ _ _ [] _
      exact za_vret hM dX6_number_111 ⟨rfl, zM_tr (zM_si zM_rf (by decide)) hM108, hQ108⟩
    · refine za_iload_n dX6_number_38 rfl ?_
      refine za_if_eq 79 dX6_number_39 (by decide) (fun c39 => ?_) (fun c39 => absurd (by decide) c39)
      refine za_aload_n dX6_number_79 rfl ?_
      refine za_iload dX6_number_80 rfl ?_
      refine za_putI dX6_number_82 zf_X6_215 zp_X6_10 rfl rfl ?_
      refine za_aload_n dX6_number_85 rfl ?_
      refine za_iload_n dX6_number_86 rfl ?_
      refine za_if_eq 107 dX6_number_87 (by decide) (fun c87 => ?_) (fun c87 => absurd (by decide) c87)
      refine za_iconst (nI 0) dX6_number_107 (by decide) ?_
      refine za_callV (As := [.int (nI 0)]) (rest := []) dX6_number_108 zm_X6_218 zw_X6_must zv_X6_must (m_must_f (S := zsi S 34 10 _) (B := B) (L := L) (s := s) ⟨mT_M hQ.1 (zM_si zM_rf (by decide)), hQ.2⟩) (by decide) rfl rfl rfl rfl (Nat.le_of_ble_eq_true rfl) rfl (fun r108 s108 hE108 => ?_)
      obtain ⟨rfl, hM108, hQ108⟩ := hE108
      show zAW _ _ _ _ _ _ _ [] _
      exact za_vret hM dX6_number_111 ⟨rfl, zM_tr (zM_si zM_rf (by decide)) hM108, hQ108⟩
