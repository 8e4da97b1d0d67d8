set_option maxRecDepth 20000 in
set_option maxHeartbeats 4000000 in
theorem n_lays_ok {g : zG} {σ : zSto} {τ : zTn} {s : Nat} (hs : s < 4) (hb : ¬ σ.1 41 s = 0) {a : Nat} (ha : σ.1 42 s = nI a) (ha1 : a ≤ 40) {n : Nat} (hn : τ 0 3 = nI n) (h9 : n < 9) : zEd g 8 yX6_lays cX6_lays 6 (some .int) [.ref (zad g 34), .int (nI s)] (zpm σ τ) (some (.int (p_ly (fun i => σ.2 43 (40 * s + i)) τ (min a n)).2)) (zpm σ (p_ly (fun i => σ.2 43 (40 * s + i)) τ (min a n)).1) := by
  refine zev_intro (own := RX6) (lv := [some (.ref (zad g 34)), some (.int (nI s)), none, none, none, none]) (by decide +kernel) rfl (Nat.le_of_ble_eq_true rfl) rfl (fun C hM hN => ?_)
  have hloop : ∀ (m : Nat) (j : Nat) (l5 : Option Value), j + m = min a n → zAW g C 8 cX6_lays RX6 21 [some (.ref (zad g 34)), some (.int (nI s)), some (.int (nI 0)), some (.int (p_ly (fun i => σ.2 43 (40 * s + i)) τ j).2), some (.int (nI j)), l5] [] (zpm σ (p_ly (fun i => σ.2 43 (40 * s + i)) τ j).1) := by
    intro m
    induction m with
    | zero =>
      intro j l5 hj
      refine za_iload dX6_lays_21 rfl ?_
      refine za_aload_n dX6_lays_23 rfl ?_
      refine za_getR dX6_lays_24 zf_X6_31 rfl rfl ?_
      refine za_iload_n dX6_lays_27 rfl ?_
      refine za_iald dX6_lays_28 rfl hs ?_
      rw [show (zpm σ (p_ly (fun i => σ.2 43 (40 * s + i)) τ j).1).1 42 s = nI a from ha]
      refine za_icmp_ge 122 dX6_lays_29 (by decide) (fun c29 => ?_) (fun c29 => ?_)
      · refine za_iload_n dX6_lays_122 rfl ?_
        exact za_iret hM dX6_lays_123 ⟨by rw [show min a n = j by omega], by rw [show min a n = j by omega]⟩
      · refine za_iload dX6_lays_32 rfl ?_
        refine za_aload_n dX6_lays_34 rfl ?_
        refine za_getR dX6_lays_35 zf_X6_7 rfl rfl ?_
        refine za_iconst (nI 1) dX6_lays_38 (by decide) ?_
        refine zm_ald1 dX6_lays_39 ?_
        rw [p_ly_03, hn]
        refine za_icmp_ge 122 dX6_lays_40 (by decide) (fun c40 => ?_) (fun c40 => absurd (nI_le (by have := mt (fun h => nI_le (a := a) h (by omega)) c29; omega) (by omega)) c40)
        refine za_iload_n dX6_lays_122 rfl ?_
        exact za_iret hM dX6_lays_123 ⟨by rw [show min a n = j by omega], by rw [show min a n = j by omega]⟩
    | succ m ih =>
      intro j l5 hj
      refine za_iload dX6_lays_21 rfl ?_
      refine za_aload_n dX6_lays_23 rfl ?_
      refine za_getR dX6_lays_24 zf_X6_31 rfl rfl ?_
      refine za_iload_n dX6_lays_27 rfl ?_
      refine za_iald dX6_lays_28 rfl hs ?_
      rw [show (zpm σ (p_ly (fun i => σ.2 43 (40 * s + i)) τ j).1).1 42 s = nI a from ha]
      refine za_icmp_ge 122 dX6_lays_29 (by decide) (fun c29 => absurd c29 (nI_ge (show j < a by omega) (by omega))) (fun c29 => ?_)
      refine za_iload dX6_lays_32 rfl ?_
      refine za_aload_n dX6_lays_34 rfl ?_
      refine za_getR dX6_lays_35 zf_X6_7 rfl rfl ?_
      refine za_iconst (nI 1) dX6_lays_38 (by decide) ?_
      refine zm_ald1 dX6_lays_39 ?_
      rw [p_ly_03, hn]
      refine za_icmp_ge 122 dX6_lays_40 (by decide) (fun c40 => absurd c40 (nI_ge (show j < n by omega) (by omega))) (fun c40 => ?_)
      refine za_aload_n dX6_lays_43 rfl ?_
      refine za_getR dX6_lays_44 zf_X6_34 rfl rfl ?_
      refine za_bipush (nI 40) dX6_lays_47 (by decide) ?_
      refine za_iload_n dX6_lays_49 rfl ?_
      refine za_imul dX6_lays_50 ?_
      rw [pk_mul]
      refine za_iload dX6_lays_51 rfl ?_
      refine za_iadd dX6_lays_53 ?_
      rw [nI_add]
      refine za_lald dX6_lays_54 rfl (by omega) ?_
      refine za_lconst (lN 0) dX6_lays_55 (by decide) ?_
      refine za_ldc2 (v := lN 9999) dX6_lays_56 zk_X6_58 ?_
      refine za_cS3 dX6_lays_59 zm_X6_46 zw_X6_in zs_X6_in (m_in _ _ _) (by decide) (Nat.le_of_ble_eq_true rfl) ?_
      refine za_istore (lv' := [_, _, _, _, _, _]) dX6_lays_62 hN (by decide) rfl ?_
      refine za_aload_n dX6_lays_64 rfl ?_
      refine za_getR dX6_lays_65 zf_X6_7 rfl rfl ?_
      refine za_iload dX6_lays_68 rfl ?_
      refine za_iconst (nI 2) dX6_lays_70 (by decide) ?_
      refine za_cS2 dX6_lays_71 zm_X6_42 zw_X6_spot zs_X6_spot (m_spot) (by decide) (Nat.le_of_ble_eq_true rfl) ?_
      refine za_iload dX6_lays_74 rfl ?_
      refine za_if_eqB 95 dX6_lays_76 (by decide) (fun c76 => ?_) (fun c76 => ?_)
      · refine za_aload_n dX6_lays_95 rfl ?_
        refine za_iload dX6_lays_96 rfl ?_
        refine za_iconst (nI 2) dX6_lays_98 (by decide) ?_
        refine za_cV2 dX6_lays_99 zm_X6_55 zw_X6_its zv_X6_its (m_its (by omega) (by decide)) (by decide) rfl rfl rfl (Nat.le_of_ble_eq_true rfl) ?_
        refine zm_astP dX6_lays_102 (by omega) (by decide) ?_
        refine za_iload_n dX6_lays_103 rfl ?_
        refine za_iload dX6_lays_104 rfl ?_
        refine za_if_eqB 113 dX6_lays_106 (by decide) (fun c106 => ?_) (fun c106 => ?_)
        · refine za_iconst (nI 0) dX6_lays_113 (by decide) ?_
          refine za_iadd dX6_lays_114 ?_
          refine za_istore_n (lv' := [_, _, _, _, _, _]) dX6_lays_115 hN (by decide) rfl ?_
          refine za_iinc (nI (_ + 1)) (lv' := [_, _, _, _, _, _]) dX6_lays_116 rfl hN (by decide) (znext _) rfl ?_
          refine za_goto 21 dX6_lays_119 (by decide) ?_
          first
            | exact absurd c76 c106
            | exact absurd c106 c76
            | (have hh := fun l5 => ih (j + 1) l5 (by omega); first | (rw [p_ly_1 (f := (fun i => σ.2 43 (40 * s + i))) (k := j) c76] at hh; exact hh _) | (rw [p_ly_0 (f := (fun i => σ.2 43 (40 * s + i))) (k := j) c76] at hh; rw [show zup (p_ly (fun i => σ.2 43 (40 * s + i)) τ j).1 (3 + 2) j ((p_ly (fun i => σ.2 43 (40 * s + i)) τ j).1 (3 + 2) j) = (p_ly (fun i => σ.2 43 (40 * s + i)) τ j).1 from zup_self _ 5 j, zadd0]; exact hh _))
        · refine za_iconst (nI 1) dX6_lays_109 (by decide) ?_
          refine za_goto 114 dX6_lays_110 (by decide) ?_
          refine za_iadd dX6_lays_114 ?_
          refine za_istore_n (lv' := [_, _, _, _, _, _]) dX6_lays_115 hN (by decide) rfl ?_
          refine za_iinc (nI (_ + 1)) (lv' := [_, _, _, _, _, _]) dX6_lays_116 rfl hN (by decide) (znext _) rfl ?_
          refine za_goto 21 dX6_lays_119 (by decide) ?_
          first
            | exact absurd c76 c106
            | exact absurd c106 c76
            | (have hh := fun l5 => ih (j + 1) l5 (by omega); first | (rw [p_ly_1 (f := (fun i => σ.2 43 (40 * s + i))) (k := j) c76] at hh; exact hh _) | (rw [p_ly_0 (f := (fun i => σ.2 43 (40 * s + i))) (k := j) c76] at hh; rw [show zup (p_ly (fun i => σ.2 43 (40 * s + i)) τ j).1 (3 + 2) j ((p_ly (fun i => σ.2 43 (40 * s + i)) τ j).1 (3 + 2) j) = (p_ly (fun i => σ.2 43 (40 * s + i)) τ j).1 from zup_self _ 5 j, zadd0]; exact hh _))
      · refine za_aload_n dX6_lays_79 rfl ?_
        refine za_getR dX6_lays_80 zf_X6_34 rfl rfl ?_
        refine za_bipush (nI 40) dX6_lays_83 (by decide) ?_
        refine za_iload_n dX6_lays_85 rfl ?_
        refine za_imul dX6_lays_86 ?_
        rw [pk_mul]
        refine za_iload dX6_lays_87 rfl ?_
        refine za_iadd dX6_lays_89 ?_
        rw [nI_add]
        refine za_lald dX6_lays_90 rfl (by omega) ?_
        refine za_l2i dX6_lays_91 ?_
        refine za_goto 102 dX6_lays_92 (by decide) ?_
        refine zm_astP dX6_lays_102 (by omega) (by decide) ?_
        refine za_iload_n dX6_lays_103 rfl ?_
        refine za_iload dX6_lays_104 rfl ?_
        refine za_if_eqB 113 dX6_lays_106 (by decide) (fun c106 => ?_) (fun c106 => ?_)
        · refine za_iconst (nI 0) dX6_lays_113 (by decide) ?_
          refine za_iadd dX6_lays_114 ?_
          refine za_istore_n (lv' := [_, _, _, _, _, _]) dX6_lays_115 hN (by decide) rfl ?_
          refine za_iinc (nI (_ + 1)) (lv' := [_, _, _, _, _, _]) dX6_lays_116 rfl hN (by decide) (znext _) rfl ?_
          refine za_goto 21 dX6_lays_119 (by decide) ?_
          first
            | exact absurd c76 c106
            | exact absurd c106 c76
            | (have hh := fun l5 => ih (j + 1) l5 (by omega); first | (rw [p_ly_1 (f := (fun i => σ.2 43 (40 * s + i))) (k := j) c76] at hh; exact hh _) | (rw [p_ly_0 (f := (fun i => σ.2 43 (40 * s + i))) (k := j) c76] at hh; rw [show zup (p_ly (fun i => σ.2 43 (40 * s + i)) τ j).1 (3 + 2) j ((p_ly (fun i => σ.2 43 (40 * s + i)) τ j).1 (3 + 2) j) = (p_ly (fun i => σ.2 43 (40 * s + i)) τ j).1 from zup_self _ 5 j, zadd0]; exact hh _))
        · refine za_iconst (nI 1) dX6_lays_109 (by decide) ?_
          refine za_goto 114 dX6_lays_110 (by decide) ?_
          refine za_iadd dX6_lays_114 ?_
          refine za_istore_n (lv' := [_, _, _, _, _, _]) dX6_lays_115 hN (by decide) rfl ?_
          refine za_iinc (nI (_ + 1)) (lv' := [_, _, _, _, _, _]) dX6_lays_116 rfl hN (by decide) (znext _) rfl ?_
          refine za_goto 21 dX6_lays_119 (by decide) ?_
          first
            | exact absurd c76 c106
            | exact absurd c106 c76
            | (have hh := fun l5 => ih (j + 1) l5 (by omega); first | (rw [p_ly_1 (f := (fun i => σ.2 43 (40 * s + i))) (k := j) c76] at hh; exact hh _) | (rw [p_ly_0 (f := (fun i => σ.2 43 (40 * s + i))) (k := j) c76] at hh; rw [show zup (p_ly (fun i => σ.2 43 (40 * s + i)) τ j).1 (3 + 2) j ((p_ly (fun i => σ.2 43 (40 * s + i)) τ j).1 (3 + 2) j) = (p_ly (fun i => σ.2 43 (40 * s + i)) τ j).1 from zup_self _ 5 j, zadd0]; exact hh _))
  refine za_aload_n dX6_lays_0 rfl ?_
  refine za_iload_n dX6_lays_1 rfl ?_
  refine za_cV1 dX6_lays_2 zm_X6_289 zw_X6_wrongSheet zv_X6_wrongSheet (m_ws_ok hs hb) (by decide) rfl rfl rfl (Nat.le_of_ble_eq_true rfl) ?_
  refine za_istore_n (lv' := [_, _, _, _, _, _]) dX6_lays_5 hN (by decide) rfl ?_
  refine za_iload_n dX6_lays_6 rfl ?_
  refine za_if_eq 16 dX6_lays_7 (by decide) (fun c7 => ?_) (fun c7 => absurd (by decide) c7)
  refine za_iconst (nI 0) dX6_lays_16 (by decide) ?_
  refine za_istore_n (lv' := [_, _, _, _, _, _]) dX6_lays_17 hN (by decide) rfl ?_
  refine za_iconst (nI 0) dX6_lays_18 (by decide) ?_
  refine za_istore (lv' := [_, _, _, _, _, _]) dX6_lays_19 hN (by decide) rfl ?_
  exact hloop (min a n) 0 none (by omega)

set_option maxRecDepth 20000 in
set_option maxHeartbeats 4000000 in
theorem n_lays_no {g : zG} {σ : zSto} {τ : zTn} {s : Int32} (hno : ¬ (nI 0 ≤ s ∧ s ≤ nI 3)) : zEd g 8 yX6_lays cX6_lays 6 (some .int) [.ref (zad g 34), .int s] (zpm σ τ) (some (.int (zfd 0))) (zfin (zpm σ τ) 39 0) := by
  refine zev_intro (own := RX6) (lv := [some (.ref (zad g 34)), some (.int s), none, none, none, none]) (by decide +kernel) rfl (Nat.le_of_ble_eq_true rfl) rfl (fun C hM hN => ?_)
  refine za_aload_n dX6_lays_0 rfl ?_
  refine za_iload_n dX6_lays_1 rfl ?_
  refine za_cV1 dX6_lays_2 zm_X6_289 zw_X6_wrongSheet zv_X6_wrongSheet (m_ws_no hno) (by decide) rfl rfl rfl (Nat.le_of_ble_eq_true rfl) ?_
  refine za_istore_n (lv' := [_, _, _, _, _, _]) dX6_lays_5 hN (by decide) rfl ?_
  refine za_iload_n dX6_lays_6 rfl ?_
  refine za_if_eq 16 dX6_lays_7 (by decide) (fun c7 => absurd c7 (by decide)) (fun c7 => ?_)
  refine za_aload_n dX6_lays_10 rfl ?_
  refine za_iload_n dX6_lays_11 rfl ?_
  refine za_cV1 dX6_lays_12 zm_X6_67 zw_X6_finds zv_X6_finds (m_finds (k := 0) (by decide)) (by decide) rfl rfl rfl (Nat.le_of_ble_eq_true rfl) ?_
  exact za_iret hM dX6_lays_15 ⟨by rfl, by rfl⟩

set_option maxRecDepth 20000 in
set_option maxHeartbeats 4000000 in
theorem n_lays_mis {g : zG} {σ : zSto} {τ : zTn} {s : Nat} (hs : s < 4) (hb : σ.1 41 s = 0)  : zEd g 8 yX6_lays cX6_lays 6 (some .int) [.ref (zad g 34), .int (nI s)] (zpm σ τ) (some (.int (zfd 5))) (zfin (zpm σ τ) 39 5) := by
  refine zev_intro (own := RX6) (lv := [some (.ref (zad g 34)), some (.int (nI s)), none, none, none, none]) (by decide +kernel) rfl (Nat.le_of_ble_eq_true rfl) rfl (fun C hM hN => ?_)
  refine za_aload_n dX6_lays_0 rfl ?_
  refine za_iload_n dX6_lays_1 rfl ?_
  refine za_cV1 dX6_lays_2 zm_X6_289 zw_X6_wrongSheet zv_X6_wrongSheet (m_ws_mis hs hb) (by decide) rfl rfl rfl (Nat.le_of_ble_eq_true rfl) ?_
  refine za_istore_n (lv' := [_, _, _, _, _, _]) dX6_lays_5 hN (by decide) rfl ?_
  refine za_iload_n dX6_lays_6 rfl ?_
  refine za_if_eq 16 dX6_lays_7 (by decide) (fun c7 => absurd c7 (by decide)) (fun c7 => ?_)
  refine za_aload_n dX6_lays_10 rfl ?_
  refine za_iload_n dX6_lays_11 rfl ?_
  refine za_cV1 dX6_lays_12 zm_X6_67 zw_X6_finds zv_X6_finds (m_finds (k := 5) (by decide)) (by decide) rfl rfl rfl (Nat.le_of_ble_eq_true rfl) ?_
  exact za_iret hM dX6_lays_15 ⟨by rfl, by rfl⟩

set_option maxRecDepth 20000 in
set_option maxHeartbeats 4000000 in
theorem n_book_ok {g : zG} {σ : zSto} {τ : zTn} {s : Nat} (hs : s < 4) (hb : ¬ σ.1 41 s = 0) {a : Nat} (ha : σ.1 42 s = nI a) (ha1 : a ≤ 40) (hI : zTI 100000 τ) {n p : Nat} (hn : τ 0 3 = nI n) (h9 : n < 9) (hpn : p < n)  : zEv g 8 yX6_book cX6_book 5 (some .int) [.ref (zad g 34), .int (nI s), .int (nI p)] (zpm σ τ) (fun r' s' => r' = some (.int (nI a)) ∧ zJ (zpm (zwr σ 43 (40 * s) (p_bf (σ.1 41 s) τ p) a) τ) s') := by
  refine zev_intro (own := RX6) (lv := [some (.ref (zad g 34)), some (.int (nI s)), some (.int (nI p)), none, none]) (by decide +kernel) rfl (Nat.le_of_ble_eq_true rfl) rfl (fun C hM hN => ?_)
  have hp : p < 8 := by omega
  have hP := zper hn h9 hpn
  have hloop : ∀ (m : Nat) (j : Nat), j + m = a → zAW g C 8 cX6_book RX6 38 [some (.ref (zad g 34)), some (.int (nI s)), some (.int (nI p)), some (.int (nI 0)), some (.int (nI j))] [] (zpm (zps (zwr σ 43 (40 * s) (p_bf (σ.1 41 s) τ p) j) 38 τ) (p_days τ j)) := by
    intro m
    induction m with
    | zero =>
      intro j hj
      obtain rfl : j = a := by omega
      refine za_iload dX6_book_38 rfl ?_
      refine za_aload_n dX6_book_40 rfl ?_
      refine za_getR dX6_book_41 zf_X6_31 rfl rfl ?_
      refine za_iload_n dX6_book_44 rfl ?_
      refine za_iald dX6_book_45 rfl hs ?_
      rw [show (zpm (zps (zwr σ 43 (40 * s) (p_bf (σ.1 41 s) τ p) j) 38 τ) (p_days τ j)).1 42 s = nI j from ha]
      refine za_icmp_ge 87 dX6_book_46 (by decide) (fun c46 => ?_) (fun c46 => absurd (nI_le (Nat.le_refl _) (by omega)) c46)
      refine za_aload_n dX6_book_87 rfl ?_
      refine za_aload_n dX6_book_88 rfl ?_
      refine za_getR dX6_book_89 zf_X6_31 rfl rfl ?_
      refine za_iload_n dX6_book_92 rfl ?_
      refine za_iald dX6_book_93 rfl hs ?_
      rw [show (zpm (zps (zwr σ 43 (40 * s) (p_bf (σ.1 41 s) τ p) j) 38 τ) (p_days τ j)).1 42 s = nI j from ha]
      refine za_cV1 dX6_book_94 zm_X6_152 zw_X6_takesBack zv_X6_takesBack (m_takesBack') (by decide) rfl rfl rfl (Nat.le_of_ble_eq_true rfl) ?_
      exact za_iret hM dX6_book_97 ⟨by rfl, zJ_m38⟩
    | succ m ih =>
      intro j hj
      refine za_iload dX6_book_38 rfl ?_
      refine za_aload_n dX6_book_40 rfl ?_
      refine za_getR dX6_book_41 zf_X6_31 rfl rfl ?_
      refine za_iload_n dX6_book_44 rfl ?_
      refine za_iald dX6_book_45 rfl hs ?_
      rw [show (zpm (zps (zwr σ 43 (40 * s) (p_bf (σ.1 41 s) τ p) j) 38 τ) (p_days τ j)).1 42 s = nI a from ha]
      refine za_icmp_ge 87 dX6_book_46 (by decide) (fun c46 => absurd c46 (nI_ge (show j < a by omega) (by omega))) (fun c46 => ?_)
      refine za_aload_n dX6_book_49 rfl ?_
      refine za_getR dX6_book_50 zf_X6_34 rfl rfl ?_
      refine za_bipush (nI 40) dX6_book_53 (by decide) ?_
      refine za_iload_n dX6_book_55 rfl ?_
      refine za_imul dX6_book_56 ?_
      rw [pk_mul]
      refine za_iload dX6_book_57 rfl ?_
      refine za_iadd dX6_book_59 ?_
      rw [nI_add]
      refine za_aload_n dX6_book_60 rfl ?_
      refine za_getR dX6_book_61 zf_X6_28 rfl rfl ?_
      refine za_iload_n dX6_book_64 rfl ?_
      refine za_iald dX6_book_65 rfl hs ?_
      refine za_aload_n dX6_book_66 rfl ?_
      refine za_iload_n dX6_book_67 rfl ?_
      refine za_iconst (nI 2) dX6_book_68 (by decide) ?_
      refine za_cV2 dX6_book_69 zm_X6_55 zw_X6_its zv_X6_its (m_its hp (by decide)) (by decide) rfl rfl rfl (Nat.le_of_ble_eq_true rfl) ?_
      refine za_i2l dX6_book_72 ?_
      refine za_cS2 dX6_book_73 zm_X6_292 zw_X6_narrowed zs_X6_narrowed (m_narrowed) (by decide) (Nat.le_of_ble_eq_true rfl) ?_
      refine za_last dX6_book_76 rfl (by omega) ?_
      rw [show zsl (zpm (zps (zwr σ 43 (40 * s) (p_bf (σ.1 41 s) τ p) j) 38 τ) (p_days τ j)) 43 (40 * s + j) (znar ((zpm (zps (zwr σ 43 (40 * s) (p_bf (σ.1 41 s) τ p) j) 38 τ) (p_days τ j)).1 41 s) (p_days τ j (3 + 2) p).toInt64) = zpm (zps (zsl (zwr σ 43 (40 * s) (p_bf (σ.1 41 s) τ p) j) 43 (40 * s + j) ((p_bf (σ.1 41 s) τ p) j)) 38 τ) (p_days τ j) from rfl, zwr_next]
      refine za_aload_n dX6_book_77 rfl ?_
      refine za_cV0v dX6_book_78 zm_X6_137 zw_X6_day zv_X6_day (m_day (zTI_days hI j) (by omega)) (by decide) rfl rfl rfl (Nat.le_of_ble_eq_true rfl) ?_
      refine za_iinc (nI (_ + 1)) (lv' := [_, _, _, _, _]) dX6_book_81 rfl hN (by decide) (znext _) rfl ?_
      refine za_goto 38 dX6_book_84 (by decide) ?_
      exact ih (j + 1) (by omega)
  refine za_aload_n dX6_book_0 rfl ?_
  refine za_iload_n dX6_book_1 rfl ?_
  refine za_cV1 dX6_book_2 zm_X6_289 zw_X6_wrongSheet zv_X6_wrongSheet (m_ws_ok hs hb) (by decide) rfl rfl rfl (Nat.le_of_ble_eq_true rfl) ?_
  refine za_istore_n (lv' := [_, _, _, _, _]) dX6_book_5 hN (by decide) rfl ?_
  refine za_iload_n dX6_book_6 rfl ?_
  refine za_if_eq 16 dX6_book_7 (by decide) (fun c7 => ?_) (fun c7 => absurd (by decide) c7)
  refine za_aload_n dX6_book_16 rfl ?_
  refine za_iload_n dX6_book_17 rfl ?_
  refine za_cV1 dX6_book_18 zm_X6_110 zw_X6_isPerson zv_X6_isPerson (m_isPerson) (by decide) rfl rfl rfl (Nat.le_of_ble_eq_true rfl) ?_
  refine za_if_neB 31 dX6_book_21 (by decide) (fun c21 => ?_) (fun c21 => absurd hP c21)
  refine za_aload_n dX6_book_31 rfl ?_
  refine za_cV0v dX6_book_32 zm_X6_149 zw_X6_laysAside zv_X6_laysAside (m_laysAside') (by decide) rfl rfl rfl (Nat.le_of_ble_eq_true rfl) ?_
  refine za_iconst (nI 0) dX6_book_35 (by decide) ?_
  refine za_istore (lv' := [_, _, _, _, _]) dX6_book_36 hN (by decide) rfl ?_
  have h0 := hloop a 0 (by omega)
  rw [zwr_0] at h0
  exact h0

set_option maxRecDepth 20000 in
set_option maxHeartbeats 4000000 in
theorem n_book_no {g : zG} {σ : zSto} {τ : zTn} {s p : Int32} (hno : ¬ (nI 0 ≤ s ∧ s ≤ nI 3)) : zEd g 8 yX6_book cX6_book 5 (some .int) [.ref (zad g 34), .int s, .int p] (zpm σ τ) (some (.int (zfd 0))) (zfin (zpm σ τ) 39 0) := by
  refine zev_intro (own := RX6) (lv := [some (.ref (zad g 34)), some (.int s), some (.int p), none, none]) (by decide +kernel) rfl (Nat.le_of_ble_eq_true rfl) rfl (fun C hM hN => ?_)
  refine za_aload_n dX6_book_0 rfl ?_
  refine za_iload_n dX6_book_1 rfl ?_
  refine za_cV1 dX6_book_2 zm_X6_289 zw_X6_wrongSheet zv_X6_wrongSheet (m_ws_no hno) (by decide) rfl rfl rfl (Nat.le_of_ble_eq_true rfl) ?_
  refine za_istore_n (lv' := [_, _, _, _, _]) dX6_book_5 hN (by decide) rfl ?_
  refine za_iload_n dX6_book_6 rfl ?_
  refine za_if_eq 16 dX6_book_7 (by decide) (fun c7 => absurd c7 (by decide)) (fun c7 => ?_)
  refine za_aload_n dX6_book_10 rfl ?_
  refine za_iload_n dX6_book_11 rfl ?_
  refine za_cV1 dX6_book_12 zm_X6_67 zw_X6_finds zv_X6_finds (m_finds (k := 0) (by decide)) (by decide) rfl rfl rfl (Nat.le_of_ble_eq_true rfl) ?_
  exact za_iret hM dX6_book_15 ⟨by rfl, by rfl⟩

set_option maxRecDepth 20000 in
set_option maxHeartbeats 4000000 in
theorem n_book_mis {g : zG} {σ : zSto} {τ : zTn} {s : Nat} (hs : s < 4) (hb : σ.1 41 s = 0) {p : Int32} : zEd g 8 yX6_book cX6_book 5 (some .int) [.ref (zad g 34), .int (nI s), .int p] (zpm σ τ) (some (.int (zfd 5))) (zfin (zpm σ τ) 39 5) := by
  refine zev_intro (own := RX6) (lv := [some (.ref (zad g 34)), some (.int (nI s)), some (.int p), none, none]) (by decide +kernel) rfl (Nat.le_of_ble_eq_true rfl) rfl (fun C hM hN => ?_)
  refine za_aload_n dX6_book_0 rfl ?_
  refine za_iload_n dX6_book_1 rfl ?_
  refine za_cV1 dX6_book_2 zm_X6_289 zw_X6_wrongSheet zv_X6_wrongSheet (m_ws_mis hs hb) (by decide) rfl rfl rfl (Nat.le_of_ble_eq_true rfl) ?_
  refine za_istore_n (lv' := [_, _, _, _, _]) dX6_book_5 hN (by decide) rfl ?_
  refine za_iload_n dX6_book_6 rfl ?_
  refine za_if_eq 16 dX6_book_7 (by decide) (fun c7 => absurd c7 (by decide)) (fun c7 => ?_)
  refine za_aload_n dX6_book_10 rfl ?_
  refine za_iload_n dX6_book_11 rfl ?_
  refine za_cV1 dX6_book_12 zm_X6_67 zw_X6_finds zv_X6_finds (m_finds (k := 5) (by decide)) (by decide) rfl rfl rfl (Nat.le_of_ble_eq_true rfl) ?_
  exact za_iret hM dX6_book_15 ⟨by rfl, by rfl⟩

set_option maxRecDepth 20000 in
set_option maxHeartbeats 4000000 in
theorem n_book_out {g : zG} {σ : zSto} {τ : zTn} {s : Nat} (hs : s < 4) (hb : ¬ σ.1 41 s = 0) {p : Int32} (hno : ¬ (nI 0 ≤ p ∧ p ≤ τ 0 3 - nI 1)) : zEd g 8 yX6_book cX6_book 5 (some .int) [.ref (zad g 34), .int (nI s), .int p] (zpm σ τ) (some (.int (zfd 0))) (zfin (zpm σ τ) 39 0) := by
  refine zev_intro (own := RX6) (lv := [some (.ref (zad g 34)), some (.int (nI s)), some (.int p), none, none]) (by decide +kernel) rfl (Nat.le_of_ble_eq_true rfl) rfl (fun C hM hN => ?_)
  refine za_aload_n dX6_book_0 rfl ?_
  refine za_iload_n dX6_book_1 rfl ?_
  refine za_cV1 dX6_book_2 zm_X6_289 zw_X6_wrongSheet zv_X6_wrongSheet (m_ws_ok hs hb) (by decide) rfl rfl rfl (Nat.le_of_ble_eq_true rfl) ?_
  refine za_istore_n (lv' := [_, _, _, _, _]) dX6_book_5 hN (by decide) rfl ?_
  refine za_iload_n dX6_book_6 rfl ?_
  refine za_if_eq 16 dX6_book_7 (by decide) (fun c7 => ?_) (fun c7 => absurd (by decide) c7)
  refine za_aload_n dX6_book_16 rfl ?_
  refine za_iload_n dX6_book_17 rfl ?_
  refine za_cV1 dX6_book_18 zm_X6_110 zw_X6_isPerson zv_X6_isPerson (m_isPerson) (by decide) rfl rfl rfl (Nat.le_of_ble_eq_true rfl) ?_
  refine za_if_neB 31 dX6_book_21 (by decide) (fun c21 => ?_) (fun c21 => ?_)
  · exact absurd c21 hno
  · refine za_aload_n dX6_book_24 rfl ?_
    refine za_ldc dX6_book_25 zk_X6_41 ?_
    rw [show (-1000000001 : Int32) = zfd 0 from rfl]
    refine za_cV1 dX6_book_27 zm_X6_67 zw_X6_finds zv_X6_finds (m_finds (by decide)) (by decide) rfl rfl rfl (Nat.le_of_ble_eq_true rfl) ?_
    exact za_iret hM dX6_book_30 ⟨by rfl, by rfl⟩

set_option maxRecDepth 20000 in
set_option maxHeartbeats 4000000 in
theorem m_isBook {g : zG} {σ : zSto} {t : zTn} {s p a : Nat} (hs : s < 4) (hp : p < 8) (ha : σ.1 42 s = nI a) (ha1 : a ≤ 40) (hI : zTI 100000 t) : zEv g 6 yX6_isBook cX6_isBook 4 (some .boolean) [.ref (zad g 34), .int (nI s), .int (nI p)] (zpm σ t) (fun r' s' => r' = some (.int (zb (p_bk (fun i => σ.2 43 (40 * s + i)) t p a = true))) ∧ ∃ t', s' = zpm σ t') := by
  refine zev_intro (own := RX6) (lv := [some (.ref (zad g 34)), some (.int (nI s)), some (.int (nI p)), none]) (by decide +kernel) rfl (Nat.le_of_ble_eq_true rfl) rfl (fun C hM hN => ?_)
  have hloop : ∀ (m : Nat) (j : Nat), j + m = a ∧ p_bk (fun i => σ.2 43 (40 * s + i)) t p j = true → zAW g C 6 cX6_isBook RX6 2 [some (.ref (zad g 34)), some (.int (nI s)), some (.int (nI p)), some (.int (nI j))] [] (zpm σ (p_days t j)) := by
    intro m
    induction m with
    | zero =>
      intro j hj
      obtain rfl : j = a := by omega
      refine za_iload_n dX6_isBook_2 rfl ?_
      refine za_aload_n dX6_isBook_3 rfl ?_
      refine za_getR dX6_isBook_4 zf_X6_31 rfl rfl ?_
      refine za_iload_n dX6_isBook_7 rfl ?_
      refine za_iald dX6_isBook_8 rfl hs ?_
      rw [show (zpm σ (p_days t j)).1 42 s = nI j from ha]
      refine za_icmp_ge 46 dX6_isBook_9 (by decide) (fun c9 => ?_) (fun c9 => absurd (nI_le (Nat.le_refl _) (by omega)) c9)
      refine za_iconst (nI 1) dX6_isBook_46 (by decide) ?_
      exact za_zretG hM dX6_isBook_47 (by decide) ⟨congrArg (fun z => some (Value.int z)) (zb_1 hj.2).symm, _, rfl⟩
    | succ m ih =>
      intro j hj
      refine za_iload_n dX6_isBook_2 rfl ?_
      refine za_aload_n dX6_isBook_3 rfl ?_
      refine za_getR dX6_isBook_4 zf_X6_31 rfl rfl ?_
      refine za_iload_n dX6_isBook_7 rfl ?_
      refine za_iald dX6_isBook_8 rfl hs ?_
      rw [show (zpm σ (p_days t j)).1 42 s = nI a from ha]
      refine za_icmp_ge 46 dX6_isBook_9 (by decide) (fun c9 => absurd c9 (nI_ge (show j < a by omega) (by omega))) (fun c9 => ?_)
      refine za_aload_n dX6_isBook_12 rfl ?_
      refine za_getR dX6_isBook_13 zf_X6_34 rfl rfl ?_
      refine za_bipush (nI 40) dX6_isBook_16 (by decide) ?_
      refine za_iload_n dX6_isBook_18 rfl ?_
      refine za_imul dX6_isBook_19 ?_
      rw [pk_mul]
      refine za_iload_n dX6_isBook_20 rfl ?_
      refine za_iadd dX6_isBook_21 ?_
      rw [nI_add]
      refine za_lald dX6_isBook_22 rfl (by omega) ?_
      refine za_aload_n dX6_isBook_23 rfl ?_
      refine za_iload_n dX6_isBook_24 rfl ?_
      refine za_iconst (nI 2) dX6_isBook_25 (by decide) ?_
      refine za_cV2 dX6_isBook_26 zm_X6_55 zw_X6_its zv_X6_its (m_its hp (by decide)) (by decide) rfl rfl rfl (Nat.le_of_ble_eq_true rfl) ?_
      refine za_i2l dX6_isBook_29 ?_
      refine za_lcmp dX6_isBook_30 ?_
      refine za_if_eq 36 dX6_isBook_31 (by decide) (fun c31 => ?_) (fun c31 => ?_)
      · refine za_aload_n dX6_isBook_36 rfl ?_
        refine za_cV0v dX6_isBook_37 zm_X6_137 zw_X6_day zv_X6_day (m_day (zTI_days hI j) (by omega)) (by decide) rfl rfl rfl (Nat.le_of_ble_eq_true rfl) ?_
        refine za_iinc (nI (_ + 1)) (lv' := [_, _, _, _]) dX6_isBook_40 rfl hN (by decide) (znext _) rfl ?_
        refine za_goto 2 dX6_isBook_43 (by decide) ?_
        exact ih (j + 1) ⟨by omega, p_bk_t (f := (fun i => σ.2 43 (40 * s + i))) hj.2 ((lg_cmp_eq _ _).mp c31)⟩
      · refine za_iconst (nI 0) dX6_isBook_34 (by decide) ?_
        exact za_zretG hM dX6_isBook_35 (by decide) ⟨congrArg (fun z => some (Value.int z)) (zb_f (fun z => by rw [p_bk_f (f := (fun i => σ.2 43 (40 * s + i))) (t := t) (k := j) (fun q => c31 ((lg_cmp_eq _ _).mpr q)) a (by omega)] at z; cases z)).symm, _, rfl⟩
  refine za_iconst (nI 0) dX6_isBook_0 (by decide) ?_
  refine za_istore_n (lv' := [_, _, _, _]) dX6_isBook_1 hN (by decide) rfl ?_
  exact hloop a 0 ⟨by omega, rfl⟩

set_option maxRecDepth 20000 in
set_option maxHeartbeats 4000000 in
theorem n_read_ok {g : zG} {σ : zSto} {τ : zTn} {s : Nat} (hs : s < 4) (hb : ¬ σ.1 41 s = 0) {a : Nat} (ha : σ.1 42 s = nI a) (ha1 : a ≤ 40) (hI : zTI 100000 τ) {n p : Nat} (hn : τ 0 3 = nI n) (h9 : n < 9) (hpn : p < n) {q : Nat} (hqn : q < n) (hpq : ¬ p = q)  : zEv g 8 yX6_read cX6_read 7 (some .int) [.ref (zad g 34), .int (nI s), .int (nI p), .int (nI q)] (zpm σ τ) (fun r' s' => r' = some (.int (p_pc (fun i => p_bk (fun i => σ.2 43 (40 * s + i)) (p_pr τ p q i) p a) 36)) ∧ zJ (zpm σ τ) s') := by
  refine zev_intro (own := RX6) (lv := [some (.ref (zad g 34)), some (.int (nI s)), some (.int (nI p)), some (.int (nI q)), none, none, none]) (by decide +kernel) rfl (Nat.le_of_ble_eq_true rfl) rfl (fun C hM hN => ?_)
  have hp : p < 8 := by omega
  have hP := zper hn h9 hpn
  have hq : q < 8 := by omega
  have hQ := zper hn h9 hqn
  have hloop : ∀ (m : Nat) (j : Nat), j + m = 36 → zAW g C 8 cX6_read RX6 57 [some (.ref (zad g 34)), some (.int (nI s)), some (.int (nI p)), some (.int (nI q)), some (.int (nI 0)), some (.int (p_pc (fun i => p_bk (fun i => σ.2 43 (40 * s + i)) (p_pr τ p q i) p a) j)), some (.int (nI j))] [] (zpm (zps σ 38 τ) τ) := by
    intro m
    induction m with
    | zero =>
      intro j hj
      obtain rfl : j = 36 := by omega
      refine za_iload dX6_read_57 rfl ?_
      refine za_bipush (nI 36) dX6_read_59 (by decide) ?_
      refine za_icmp_ge 123 dX6_read_61 (by decide) (fun c61 => ?_) (fun c61 => absurd (by decide) c61)
      refine za_iload dX6_read_123 rfl ?_
      exact za_iret hM dX6_read_125 ⟨by rfl, zJ_m38⟩
    | succ m ih =>
      intro j hj
      refine za_iload dX6_read_57 rfl ?_
      refine za_bipush (nI 36) dX6_read_59 (by decide) ?_
      refine za_icmp_ge 123 dX6_read_61 (by decide) (fun c61 => absurd c61 (nI_ge (show j < 36 by omega) (by decide))) (fun c61 => ?_)
      refine za_aload_n dX6_read_64 rfl ?_
      refine za_getR dX6_read_65 zf_X6_7 rfl rfl ?_
      refine za_iload_n dX6_read_68 rfl ?_
      refine za_iconst (nI 0) dX6_read_69 (by decide) ?_
      refine za_cS2 dX6_read_70 zm_X6_42 zw_X6_spot zs_X6_spot (m_spot) (by decide) (Nat.le_of_ble_eq_true rfl) ?_
      refine za_iload dX6_read_73 rfl ?_
      refine za_bipush (nI 6) dX6_read_75 (by decide) ?_
      refine za_idiv dX6_read_77 (by decide) ?_
      rw [pk_div (by omega) (by decide) (by decide)]
      refine zm_astP dX6_read_78 hp (by decide) ?_
      refine za_aload_n dX6_read_79 rfl ?_
      refine za_getR dX6_read_80 zf_X6_7 rfl rfl ?_
      refine za_iload_n dX6_read_83 rfl ?_
      refine za_iconst (nI 0) dX6_read_84 (by decide) ?_
      refine za_cS2 dX6_read_85 zm_X6_42 zw_X6_spot zs_X6_spot (m_spot) (by decide) (Nat.le_of_ble_eq_true rfl) ?_
      refine za_iload dX6_read_88 rfl ?_
      refine za_bipush (nI 6) dX6_read_90 (by decide) ?_
      refine za_irem dX6_read_92 (by decide) ?_
      rw [pk_rem (by omega) (by decide) (by decide)]
      refine zm_astP dX6_read_93 hq (by decide) ?_
      refine za_aload_n dX6_read_94 rfl ?_
      refine za_iload dX6_read_95 rfl ?_
      refine za_aload_n dX6_read_97 rfl ?_
      refine za_iload_n dX6_read_98 rfl ?_
      refine za_iload_n dX6_read_99 rfl ?_
      rw [show zup (zup τ (3 + 0) p (nI (j / 6))) (3 + 0) q (nI (j % 6)) = p_pr τ p q j from rfl]
      refine za_callV (As := [.int (nI s), .int (nI p)]) (rest := [.int (p_pc (fun i => p_bk (fun i => σ.2 43 (40 * s + i)) (p_pr τ p q i) p a) j), .ref (zad g 34)]) dX6_read_100 zm_X6_296 zw_X6_isBook zv_X6_isBook (m_isBook (σ := zps σ 38 τ) (t := p_pr τ p q j) hs hp ha ha1 (zTI_pr hI (by omega))) (by decide) rfl rfl rfl rfl (Nat.le_of_ble_eq_true rfl) rfl (fun r1 s1 hE => ?_)
      obtain ⟨rfl, t1, rfl⟩ := hE
      show zAW _ _ _ _ _ _ _ (.int (zb _) :: _) _
      refine za_if_eqB 110 dX6_read_103 (by decide) (fun c103 => ?_) (fun c103 => ?_)
      · refine za_iconst (nI 0) dX6_read_110 (by decide) ?_
        refine za_iadd dX6_read_111 ?_
        refine za_cV1 dX6_read_112 zm_X6_152 zw_X6_takesBack zv_X6_takesBack (m_takesBack') (by decide) rfl rfl rfl (Nat.le_of_ble_eq_true rfl) ?_
        refine za_istore (lv' := [_, _, _, _, _, _, _]) dX6_read_115 hN (by decide) rfl ?_
        refine za_iinc (nI (_ + 1)) (lv' := [_, _, _, _, _, _, _]) dX6_read_117 rfl hN (by decide) (znext _) rfl ?_
        refine za_goto 57 dX6_read_120 (by decide) ?_
        have hh := ih (j + 1) (by omega)
        first
          | (rw [p_pc_1 (f := (fun i => p_bk (fun i => σ.2 43 (40 * s + i)) (p_pr τ p q i) p a)) c103] at hh; exact hh)
          | (rw [p_pc_0 (f := (fun i => p_bk (fun i => σ.2 43 (40 * s + i)) (p_pr τ p q i) p a)) c103] at hh; rw [zadd0]; exact hh)
      · refine za_iconst (nI 1) dX6_read_106 (by decide) ?_
        refine za_goto 111 dX6_read_107 (by decide) ?_
        refine za_iadd dX6_read_111 ?_
        refine za_cV1 dX6_read_112 zm_X6_152 zw_X6_takesBack zv_X6_takesBack (m_takesBack') (by decide) rfl rfl rfl (Nat.le_of_ble_eq_true rfl) ?_
        refine za_istore (lv' := [_, _, _, _, _, _, _]) dX6_read_115 hN (by decide) rfl ?_
        refine za_iinc (nI (_ + 1)) (lv' := [_, _, _, _, _, _, _]) dX6_read_117 rfl hN (by decide) (znext _) rfl ?_
        refine za_goto 57 dX6_read_120 (by decide) ?_
        have hh := ih (j + 1) (by omega)
        first
          | (rw [p_pc_1 (f := (fun i => p_bk (fun i => σ.2 43 (40 * s + i)) (p_pr τ p q i) p a)) c103] at hh; exact hh)
          | (rw [p_pc_0 (f := (fun i => p_bk (fun i => σ.2 43 (40 * s + i)) (p_pr τ p q i) p a)) c103] at hh; rw [zadd0]; exact hh)
  refine za_aload_n dX6_read_0 rfl ?_
  refine za_iload_n dX6_read_1 rfl ?_
  refine za_cV1 dX6_read_2 zm_X6_289 zw_X6_wrongSheet zv_X6_wrongSheet (m_ws_ok hs hb) (by decide) rfl rfl rfl (Nat.le_of_ble_eq_true rfl) ?_
  refine za_istore (lv' := [_, _, _, _, _, _, _]) dX6_read_5 hN (by decide) rfl ?_
  refine za_iload dX6_read_7 rfl ?_
  refine za_if_eq 19 dX6_read_9 (by decide) (fun c9 => ?_) (fun c9 => absurd (by decide) c9)
  refine za_aload_n dX6_read_19 rfl ?_
  refine za_iload_n dX6_read_20 rfl ?_
  refine za_cV1 dX6_read_21 zm_X6_110 zw_X6_isPerson zv_X6_isPerson (m_isPerson) (by decide) rfl rfl rfl (Nat.le_of_ble_eq_true rfl) ?_
  refine za_if_eqB 40 dX6_read_24 (by decide) (fun c24 => absurd hP c24) (fun c24 => ?_)
  refine za_aload_n dX6_read_27 rfl ?_
  refine za_iload_n dX6_read_28 rfl ?_
  refine za_cV1 dX6_read_29 zm_X6_110 zw_X6_isPerson zv_X6_isPerson (m_isPerson) (by decide) rfl rfl rfl (Nat.le_of_ble_eq_true rfl) ?_
  refine za_if_eqB 40 dX6_read_32 (by decide) (fun c32 => absurd hQ c32) (fun c32 => ?_)
  refine za_iload_n dX6_read_35 rfl ?_
  refine za_iload_n dX6_read_36 rfl ?_
  refine za_icmp_ne 47 dX6_read_37 (by decide) (fun c37 => ?_) (fun c37 => absurd c37 (fun z => hpq (zinj z (by omega) (by omega))))
  refine za_aload_n dX6_read_47 rfl ?_
  refine za_cV0v dX6_read_48 zm_X6_149 zw_X6_laysAside zv_X6_laysAside (m_laysAside') (by decide) rfl rfl rfl (Nat.le_of_ble_eq_true rfl) ?_
  refine za_iconst (nI 0) dX6_read_51 (by decide) ?_
  refine za_istore (lv' := [_, _, _, _, _, _, _]) dX6_read_52 hN (by decide) rfl ?_
  refine za_iconst (nI 0) dX6_read_54 (by decide) ?_
  refine za_istore (lv' := [_, _, _, _, _, _, _]) dX6_read_55 hN (by decide) rfl ?_
  exact hloop 36 0 rfl

set_option maxRecDepth 20000 in
set_option maxHeartbeats 4000000 in
theorem n_read_no {g : zG} {σ : zSto} {τ : zTn} {s p q : Int32} (hno : ¬ (nI 0 ≤ s ∧ s ≤ nI 3)) : zEd g 8 yX6_read cX6_read 7 (some .int) [.ref (zad g 34), .int s, .int p, .int q] (zpm σ τ) (some (.int (zfd 0))) (zfin (zpm σ τ) 39 0) := by
  refine zev_intro (own := RX6) (lv := [some (.ref (zad g 34)), some (.int s), some (.int p), some (.int q), none, none, none]) (by decide +kernel) rfl (Nat.le_of_ble_eq_true rfl) rfl (fun C hM hN => ?_)
  refine za_aload_n dX6_read_0 rfl ?_
  refine za_iload_n dX6_read_1 rfl ?_
  refine za_cV1 dX6_read_2 zm_X6_289 zw_X6_wrongSheet zv_X6_wrongSheet (m_ws_no hno) (by decide) rfl rfl rfl (Nat.le_of_ble_eq_true rfl) ?_
  refine za_istore (lv' := [_, _, _, _, _, _, _]) dX6_read_5 hN (by decide) rfl ?_
  refine za_iload dX6_read_7 rfl ?_
  refine za_if_eq 19 dX6_read_9 (by decide) (fun c9 => absurd c9 (by decide)) (fun c9 => ?_)
  refine za_aload_n dX6_read_12 rfl ?_
  refine za_iload dX6_read_13 rfl ?_
  refine za_cV1 dX6_read_15 zm_X6_67 zw_X6_finds zv_X6_finds (m_finds (k := 0) (by decide)) (by decide) rfl rfl rfl (Nat.le_of_ble_eq_true rfl) ?_
  exact za_iret hM dX6_read_18 ⟨by rfl, by rfl⟩

set_option maxRecDepth 20000 in
set_option maxHeartbeats 4000000 in
theorem n_read_mis {g : zG} {σ : zSto} {τ : zTn} {s : Nat} (hs : s < 4) (hb : σ.1 41 s = 0) {p q : Int32} : zEd g 8 yX6_read cX6_read 7 (some .int) [.ref (zad g 34), .int (nI s), .int p, .int q] (zpm σ τ) (some (.int (zfd 5))) (zfin (zpm σ τ) 39 5) := by
  refine zev_intro (own := RX6) (lv := [some (.ref (zad g 34)), some (.int (nI s)), some (.int p), some (.int q), none, none, none]) (by decide +kernel) rfl (Nat.le_of_ble_eq_true rfl) rfl (fun C hM hN => ?_)
  refine za_aload_n dX6_read_0 rfl ?_
  refine za_iload_n dX6_read_1 rfl ?_
  refine za_cV1 dX6_read_2 zm_X6_289 zw_X6_wrongSheet zv_X6_wrongSheet (m_ws_mis hs hb) (by decide) rfl rfl rfl (Nat.le_of_ble_eq_true rfl) ?_
  refine za_istore (lv' := [_, _, _, _, _, _, _]) dX6_read_5 hN (by decide) rfl ?_
  refine za_iload dX6_read_7 rfl ?_
  refine za_if_eq 19 dX6_read_9 (by decide) (fun c9 => absurd c9 (by decide)) (fun c9 => ?_)
  refine za_aload_n dX6_read_12 rfl ?_
  refine za_iload dX6_read_13 rfl ?_
  refine za_cV1 dX6_read_15 zm_X6_67 zw_X6_finds zv_X6_finds (m_finds (k := 5) (by decide)) (by decide) rfl rfl rfl (Nat.le_of_ble_eq_true rfl) ?_
  exact za_iret hM dX6_read_18 ⟨by rfl, by rfl⟩

set_option maxRecDepth 20000 in
set_option maxHeartbeats 4000000 in
theorem n_read_out {g : zG} {σ : zSto} {τ : zTn} {s : Nat} (hs : s < 4) (hb : ¬ σ.1 41 s = 0) {p q : Int32} (hno : ¬ ((nI 0 ≤ p ∧ p ≤ τ 0 3 - nI 1) ∧ (nI 0 ≤ q ∧ q ≤ τ 0 3 - nI 1) ∧ ¬ p = q)) : zEd g 8 yX6_read cX6_read 7 (some .int) [.ref (zad g 34), .int (nI s), .int p, .int q] (zpm σ τ) (some (.int (zfd 0))) (zfin (zpm σ τ) 39 0) := by
  refine zev_intro (own := RX6) (lv := [some (.ref (zad g 34)), some (.int (nI s)), some (.int p), some (.int q), none, none, none]) (by decide +kernel) rfl (Nat.le_of_ble_eq_true rfl) rfl (fun C hM hN => ?_)
  refine za_aload_n dX6_read_0 rfl ?_
  refine za_iload_n dX6_read_1 rfl ?_
  refine za_cV1 dX6_read_2 zm_X6_289 zw_X6_wrongSheet zv_X6_wrongSheet (m_ws_ok hs hb) (by decide) rfl rfl rfl (Nat.le_of_ble_eq_true rfl) ?_
  refine za_istore (lv' := [_, _, _, _, _, _, _]) dX6_read_5 hN (by decide) rfl ?_
  refine za_iload dX6_read_7 rfl ?_
  refine za_if_eq 19 dX6_read_9 (by decide) (fun c9 => ?_) (fun c9 => absurd (by decide) c9)
  refine za_aload_n dX6_read_19 rfl ?_
  refine za_iload_n dX6_read_20 rfl ?_
  refine za_cV1 dX6_read_21 zm_X6_110 zw_X6_isPerson zv_X6_isPerson (m_isPerson) (by decide) rfl rfl rfl (Nat.le_of_ble_eq_true rfl) ?_
  refine za_if_eqB 40 dX6_read_24 (by decide) (fun c24 => ?_) (fun c24 => ?_)
  · refine za_aload_n dX6_read_40 rfl ?_
    refine za_ldc dX6_read_41 zk_X6_41 ?_
    rw [show (-1000000001 : Int32) = zfd 0 from rfl]
    refine za_cV1 dX6_read_43 zm_X6_67 zw_X6_finds zv_X6_finds (m_finds (by decide)) (by decide) rfl rfl rfl (Nat.le_of_ble_eq_true rfl) ?_
    exact za_iret hM dX6_read_46 ⟨by rfl, by rfl⟩
  · refine za_aload_n dX6_read_27 rfl ?_
    refine za_iload_n dX6_read_28 rfl ?_
    refine za_cV1 dX6_read_29 zm_X6_110 zw_X6_isPerson zv_X6_isPerson (m_isPerson) (by decide) rfl rfl rfl (Nat.le_of_ble_eq_true rfl) ?_
    refine za_if_eqB 40 dX6_read_32 (by decide) (fun c32 => ?_) (fun c32 => ?_)
    · refine za_aload_n dX6_read_40 rfl ?_
      refine za_ldc dX6_read_41 zk_X6_41 ?_
      rw [show (-1000000001 : Int32) = zfd 0 from rfl]
      refine za_cV1 dX6_read_43 zm_X6_67 zw_X6_finds zv_X6_finds (m_finds (by decide)) (by decide) rfl rfl rfl (Nat.le_of_ble_eq_true rfl) ?_
      exact za_iret hM dX6_read_46 ⟨by rfl, by rfl⟩
    · refine za_iload_n dX6_read_35 rfl ?_
      refine za_iload_n dX6_read_36 rfl ?_
      refine za_icmp_ne 47 dX6_read_37 (by decide) (fun c37 => ?_) (fun c37 => ?_)
      · exact absurd ⟨c24, c32, c37⟩ hno
      · refine za_aload_n dX6_read_40 rfl ?_
        refine za_ldc dX6_read_41 zk_X6_41 ?_
        rw [show (-1000000001 : Int32) = zfd 0 from rfl]
        refine za_cV1 dX6_read_43 zm_X6_67 zw_X6_finds zv_X6_finds (m_finds (by decide)) (by decide) rfl rfl rfl (Nat.le_of_ble_eq_true rfl) ?_
        exact za_iret hM dX6_read_46 ⟨by rfl, by rfl⟩
