abbrev zok (v : Int64) : Prop := lN 0 ≤ v ∧ v ≤ lN 9999
/-- numbers f 0, f 1 .. become the pence of people 0, 1, .. below n, where they may: the town, how many -/
def p_ly (f : Nat → Int64) (τ : zTn) : Nat → zTn × Int32
  | 0 => (τ, nI 0)
  | k + 1 => if zok (f k) then (zup (p_ly f τ k).1 5 k (f k).toInt32, (p_ly f τ k).2 + nI 1) else p_ly f τ k
theorem p_ly_1 {f : Nat → Int64} {τ : zTn} {k : Nat} (h : zok (f k)) : p_ly f τ (k + 1) = (zup (p_ly f τ k).1 5 k (f k).toInt32, (p_ly f τ k).2 + nI 1) := if_pos h
theorem p_ly_0 {f : Nat → Int64} {τ : zTn} {k : Nat} (h : ¬ zok (f k)) : p_ly f τ (k + 1) = p_ly f τ k := if_neg h
theorem p_ly_03 {f : Nat → Int64} {τ : zTn} : ∀ k, (p_ly f τ k).1 0 3 = τ 0 3
  | 0 => rfl
  | k + 1 => by
    by_cases h : zok (f k)
    · rw [p_ly_1 h]; exact p_ly_03 k
    · rw [p_ly_0 h]; exact p_ly_03 k
theorem zinc1 (x : Int32) : x + Int32.ofInt 1 = x + nI 1 := rfl

set_option maxRecDepth 20000 in
set_option maxHeartbeats 4000000 in
theorem c_lays_ok {g : zG} {S : zSto} {τ : zTn} {s : Nat} (hs : s < 4) (hb : ¬ S.1 31 s = 0) (h1 : zHd S 1 τ) {a n : Nat} (ha : S.1 32 s = nI a) (ha1 : a ≤ 40) (hn : τ 0 3 = nI n) (h9 : n < 9) : zEd g 8 yX5_lays cX5_lays 7 (some .int) [.ref (zad g 0), .int (nI s)] S (some (.int (p_ly (S.2 (27 + s)) τ (min a n)).2)) (zpt S 1 (p_ly (S.2 (27 + s)) τ (min a n)).1) := by
  refine zev_intro (own := RX5) (lv := [some (.ref (zad g 0)), some (.int (nI s)), none, none, none, none, none]) (by decide +kernel) rfl (Nat.le_of_ble_eq_true rfl) rfl (fun C hM hN => ?_)
  have hloop : ∀ (m : Nat) (j : Nat) (l5 : Option Value) (l6 : Option Value), j + m = min a n → zAW g C 8 cX5_lays RX5 55 [some (.ref (zad g 0)), some (.int (nI s)), some (.int (p_ly (S.2 (27 + s)) τ j).2), some (.int (nI (min a n))), some (.int (nI j)), l5, l6] [] (zpt S 1 (p_ly (S.2 (27 + s)) τ j).1) := by
    intro m
    induction m with
    | zero =>
      intro j l5 l6 hj
      obtain rfl : j = min a n := by omega
      refine za_iload dX5_lays_55 rfl ?_
      refine za_iload_n dX5_lays_57 rfl ?_
      refine za_icmp_ge 113 dX5_lays_58 (by decide) (fun c58 => ?_) (fun c58 => absurd (nI_le (Nat.le_refl _) (by omega)) c58)
      refine za_iload_n dX5_lays_113 rfl ?_
      exact za_iret hM dX5_lays_114 ⟨by rfl, by rfl⟩
    | succ m ih =>
      intro j l5 l6 hj
      refine za_iload dX5_lays_55 rfl ?_
      refine za_iload_n dX5_lays_57 rfl ?_
      refine za_icmp_ge 113 dX5_lays_58 (by decide) (fun c58 => absurd c58 (nI_ge (show j < min a n by omega) (by omega))) (fun c58 => ?_)
      refine za_aload_n dX5_lays_61 rfl ?_
      refine za_getR dX5_lays_62 zf_X5_45 rfl rfl ?_
      refine za_getR dX5_lays_65 zf_X5_208 rfl rfl ?_
      refine za_iload_n dX5_lays_68 rfl ?_
      refine za_aald dX5_lays_69 rfl (z27 hs) (by omega) ?_
      refine za_iload dX5_lays_70 rfl ?_
      refine za_lald dX5_lays_72 (z27s hs) (by omega) ?_
      refine za_lstore (lv' := [_, _, _, _, _, _, _]) dX5_lays_73 hN (by decide) rfl ?_
      refine za_lload dX5_lays_75 rfl ?_
      refine za_lconst (lN 0) dX5_lays_77 (by decide) ?_
      refine za_lcmp dX5_lays_78 ?_
      refine za_if_lt 107 dX5_lays_79 (by decide) (fun c79 => ?_) (fun c79 => ?_)
      · refine za_iinc (nI (_ + 1)) (lv' := [_, _, _, _, _, _, _]) dX5_lays_107 rfl hN (by decide) (znext _) rfl ?_
        refine za_goto 55 dX5_lays_110 (by decide) ?_
        have hh := fun l5 l6 => ih (j + 1) l5 l6 (by omega)
        first
          | (rw [p_ly_1 (f := S.2 (27 + s)) (k := j) (⟨Int64.not_lt.mp (fun z => c79 ((lg_cmp_lt _ _).mpr z)), Int64.not_lt.mp (fun z => c88 ((lg_cmp_gt _ _).mpr z))⟩)] at hh; exact hh _ _)
          | (rw [p_ly_0 (f := S.2 (27 + s)) (k := j) (fun z => absurd z.1 (Int64.not_le.mpr ((lg_cmp_lt _ _).mp c79)))] at hh; exact hh _ _)
          | (rw [p_ly_0 (f := S.2 (27 + s)) (k := j) (fun z => absurd z.2 (Int64.not_le.mpr ((lg_cmp_gt _ _).mp c88)))] at hh; exact hh _ _)
      · refine za_lload dX5_lays_82 rfl ?_
        refine za_ldc2 (v := lN 9999) dX5_lays_84 zk_X5_233 ?_
        refine za_lcmp dX5_lays_87 ?_
        refine za_if_gt 107 dX5_lays_88 (by decide) (fun c88 => ?_) (fun c88 => ?_)
        · refine za_iinc (nI (_ + 1)) (lv' := [_, _, _, _, _, _, _]) dX5_lays_107 rfl hN (by decide) (znext _) rfl ?_
          refine za_goto 55 dX5_lays_110 (by decide) ?_
          have hh := fun l5 l6 => ih (j + 1) l5 l6 (by omega)
          first
            | (rw [p_ly_1 (f := S.2 (27 + s)) (k := j) (⟨Int64.not_lt.mp (fun z => c79 ((lg_cmp_lt _ _).mpr z)), Int64.not_lt.mp (fun z => c88 ((lg_cmp_gt _ _).mpr z))⟩)] at hh; exact hh _ _)
            | (rw [p_ly_0 (f := S.2 (27 + s)) (k := j) (fun z => absurd z.1 (Int64.not_le.mpr ((lg_cmp_lt _ _).mp c79)))] at hh; exact hh _ _)
            | (rw [p_ly_0 (f := S.2 (27 + s)) (k := j) (fun z => absurd z.2 (Int64.not_le.mpr ((lg_cmp_gt _ _).mp c88)))] at hh; exact hh _ _)
        · refine za_aload_n dX5_lays_91 rfl ?_
          refine za_getR dX5_lays_92 zf_X5_10 rfl rfl ?_
          refine za_getR dX5_lays_95 zf_X5_127 (tn0 zT1) rfl ?_
          refine za_iload dX5_lays_98 rfl ?_
          refine za_lload dX5_lays_100 rfl ?_
          refine za_l2i dX5_lays_102 ?_
          refine zt_iast zT1 (by decide) dX5_lays_103 (zv5 (by omega)) ?_
          refine za_iinc (_ + nI 1) (lv' := [_, _, _, _, _, _, _]) dX5_lays_104 rfl hN (by decide) (zinc1 _) rfl ?_
          refine za_iinc (nI (_ + 1)) (lv' := [_, _, _, _, _, _, _]) dX5_lays_107 rfl hN (by decide) (znext _) rfl ?_
          refine za_goto 55 dX5_lays_110 (by decide) ?_
          have hh := fun l5 l6 => ih (j + 1) l5 l6 (by omega)
          first
            | (rw [p_ly_1 (f := S.2 (27 + s)) (k := j) (⟨Int64.not_lt.mp (fun z => c79 ((lg_cmp_lt _ _).mpr z)), Int64.not_lt.mp (fun z => c88 ((lg_cmp_gt _ _).mpr z))⟩)] at hh; exact hh _ _)
            | (rw [p_ly_0 (f := S.2 (27 + s)) (k := j) (fun z => absurd z.1 (Int64.not_le.mpr ((lg_cmp_lt _ _).mp c79)))] at hh; exact hh _ _)
            | (rw [p_ly_0 (f := S.2 (27 + s)) (k := j) (fun z => absurd z.2 (Int64.not_le.mpr ((lg_cmp_gt _ _).mp c88)))] at hh; exact hh _ _)
  refine za_iload_n dX5_lays_0 rfl ?_
  refine za_cS1 dX5_lays_1 zm_X5_193 zw_X5_isSheet zs_X5_isSheet (e_isSheet _) (by decide) (Nat.le_of_ble_eq_true rfl) ?_
  refine za_if_neB 13 dX5_lays_4 (by decide) (fun c4 => ?_) (fun c4 => absurd (zrng (Nat.zero_le _) (by omega) (by decide)) c4)
  refine za_aload_n dX5_lays_13 rfl ?_
  refine za_getR dX5_lays_14 zf_X5_45 rfl rfl ?_
  refine za_iload_n dX5_lays_17 rfl ?_
  refine za_cV1 dX5_lays_18 zm_X5_205 zw_X1_isMissing zv_X1_isMissing (s_isMissing hs) (by decide) rfl rfl rfl (Nat.le_of_ble_eq_true rfl) ?_
  refine za_if_eqB 30 dX5_lays_21 (by decide) (fun c21 => ?_) (fun c21 => absurd c21 hb)
  refine za_iconst (nI 0) dX5_lays_30 (by decide) ?_
  refine za_istore_n (lv' := [_, _, _, _, _, _, _]) dX5_lays_31 hN (by decide) rfl ?_
  refine za_aload_n dX5_lays_32 rfl ?_
  refine za_getR dX5_lays_33 zf_X5_45 rfl rfl ?_
  refine za_getR dX5_lays_36 zf_X5_202 rfl rfl ?_
  refine za_iload_n dX5_lays_39 rfl ?_
  refine za_iald dX5_lays_40 rfl (by omega) ?_
  rw [ha]
  refine za_aload_n dX5_lays_41 rfl ?_
  refine za_getR dX5_lays_42 zf_X5_10 rfl rfl ?_
  refine zh_getI zT1 (by first | exact h1 | exact zHd_8 h1) dX5_lays_45 zf_X5_175 (by decide) ?_
  rw [hn]
  refine za_mmin dX5_lays_48 zm_X5_228 (by decide) (Nat.le_of_ble_eq_true rfl) ?_
  rw [zmin_n (by omega) (by omega)]
  refine za_istore_n (lv' := [_, _, _, _, _, _, _]) dX5_lays_51 hN (by decide) rfl ?_
  refine za_iconst (nI 0) dX5_lays_52 (by decide) ?_
  refine za_istore (lv' := [_, _, _, _, _, _, _]) dX5_lays_53 hN (by decide) rfl ?_
  have h0 := hloop (min a n) 0 none none (by omega)
  have e : zpt S 1 (p_ly (S.2 (27 + s)) τ 0).1 = S := h1
  rw [e] at h0
  exact h0

set_option maxRecDepth 20000 in
set_option maxHeartbeats 4000000 in
theorem c_lays_no {g : zG} {S : zSto} {s : Int32} (hno : ¬ (nI 0 ≤ s ∧ s ≤ nI 3)) : zEd g 8 yX5_lays cX5_lays 7 (some .int) [.ref (zad g 0), .int s] S (some (.int (zfd 0))) (zfin S 33 0) := by
  refine zev_intro (own := RX5) (lv := [some (.ref (zad g 0)), some (.int s), none, none, none, none, none]) (by decide +kernel) rfl (Nat.le_of_ble_eq_true rfl) rfl (fun C hM hN => ?_)
  refine za_iload_n dX5_lays_0 rfl ?_
  refine za_cS1 dX5_lays_1 zm_X5_193 zw_X5_isSheet zs_X5_isSheet (e_isSheet _) (by decide) (Nat.le_of_ble_eq_true rfl) ?_
  refine za_if_neB 13 dX5_lays_4 (by decide) (fun c4 => ?_) (fun c4 => ?_)
  · exact absurd c4 hno
  · refine za_aload_n dX5_lays_7 rfl ?_
    refine za_iconst (nI 0) dX5_lays_8 (by decide) ?_
    refine za_cV1 dX5_lays_9 zm_X5_63 zw_X5_finding zv_X5_finding (c_finding (by decide)) (by decide) rfl rfl rfl (Nat.le_of_ble_eq_true rfl) ?_
    exact za_iret hM dX5_lays_12 ⟨by rfl, by rfl⟩

set_option maxRecDepth 20000 in
set_option maxHeartbeats 4000000 in
theorem c_lays_mis {g : zG} {S : zSto} {s : Nat} (hs : s < 4) (hb : S.1 31 s = 0) : zEd g 8 yX5_lays cX5_lays 7 (some .int) [.ref (zad g 0), .int (nI s)] S (some (.int (zfd 5))) (zfin S 33 5) := by
  refine zev_intro (own := RX5) (lv := [some (.ref (zad g 0)), some (.int (nI s)), none, none, none, none, none]) (by decide +kernel) rfl (Nat.le_of_ble_eq_true rfl) rfl (fun C hM hN => ?_)
  refine za_iload_n dX5_lays_0 rfl ?_
  refine za_cS1 dX5_lays_1 zm_X5_193 zw_X5_isSheet zs_X5_isSheet (e_isSheet _) (by decide) (Nat.le_of_ble_eq_true rfl) ?_
  refine za_if_neB 13 dX5_lays_4 (by decide) (fun c4 => ?_) (fun c4 => absurd (zrng (Nat.zero_le _) (by omega) (by decide)) c4)
  refine za_aload_n dX5_lays_13 rfl ?_
  refine za_getR dX5_lays_14 zf_X5_45 rfl rfl ?_
  refine za_iload_n dX5_lays_17 rfl ?_
  refine za_cV1 dX5_lays_18 zm_X5_205 zw_X1_isMissing zv_X1_isMissing (s_isMissing hs) (by decide) rfl rfl rfl (Nat.le_of_ble_eq_true rfl) ?_
  refine za_if_eqB 30 dX5_lays_21 (by decide) (fun c21 => absurd hb c21) (fun c21 => ?_)
  refine za_aload_n dX5_lays_24 rfl ?_
  refine za_iconst (nI 5) dX5_lays_25 (by decide) ?_
  refine za_cV1 dX5_lays_26 zm_X5_63 zw_X5_finding zv_X5_finding (c_finding (by decide)) (by decide) rfl rfl rfl (Nat.le_of_ble_eq_true rfl) ?_
  exact za_iret hM dX5_lays_29 ⟨by rfl, by rfl⟩

/-- g 0, g 1, .. come to the row o of longs from b on, j of them -/
def zwr (S : zSto) (o b : Nat) (f : Nat → Int64) (j : Nat) : zSto := (S.1, fun a i => if a = o ∧ b ≤ i ∧ i < b + j then f (i - b) else S.2 a i)
theorem zwr_0 {S : zSto} {o b : Nat} {f : Nat → Int64} : zwr S o b f 0 = S := by
  refine Prod.ext rfl (funext fun a => funext fun i => ?_)
  exact if_neg (fun z => by omega)
theorem zwr_next {S : zSto} {o b j : Nat} {f : Nat → Int64} : zsl (zwr S o b f j) o (b + j) (f j) = zwr S o b f (j + 1) := by
  refine Prod.ext rfl (funext fun a => funext fun i => ?_)
  show (if a = o ∧ i = b + j then f j else if a = o ∧ b ≤ i ∧ i < b + j then f (i - b) else S.2 a i) = (if a = o ∧ b ≤ i ∧ i < b + (j + 1) then f (i - b) else S.2 a i)
  by_cases h : a = o ∧ i = b + j
  · rw [if_pos h, if_pos ⟨h.1, by omega, by omega⟩, show i - b = j by omega]
  · rw [if_neg h]
    by_cases h2 : a = o ∧ b ≤ i ∧ i < b + j
    · rw [if_pos h2, if_pos ⟨h2.1, h2.2.1, by omega⟩]
    · rw [if_neg h2, if_neg (fun z => by by_cases q : i = b + j; exact h ⟨z.1, q⟩; exact h2 ⟨z.1, z.2.1, by omega⟩)]
theorem zwr_n0 {S : zSto} {o j : Nat} {f : Nat → Int64} : zsl (zwr S o 0 f j) o j (f j) = zwr S o 0 f (j + 1) := by
  have h := zwr_next (S := S) (o := o) (b := 0) (j := j) (f := f)
  rw [Nat.zero_add] at h
  exact h
def p_bf (b : Int32) (τ : zTn) (p i : Nat) : Int64 := znar b (p_days τ i 5 p).toInt64

set_option maxRecDepth 20000 in
set_option maxHeartbeats 4000000 in
theorem c_book_ok {g : zG} {S : zSto} {τ : zTn} {s : Nat} (hs : s < 4) (hb : ¬ S.1 31 s = 0) (h1 : zHd S 1 τ) (hI : zTI 100000 τ) {n p : Nat} (hn : τ 0 3 = nI n) (h9 : n < 9) (hpn : p < n) {a : Nat} (ha : S.1 32 s = nI a) (ha1 : a ≤ 40) : zEv g 8 yX5_book cX5_book 4 (some .int) [.ref (zad g 0), .int (nI s), .int (nI p)] S (fun r' s' => r' = some (.int (nI a)) ∧ zJ (zwr S (27 + s) 0 (p_bf (S.1 31 s) τ p) a) s') := by
  refine zev_intro (own := RX5) (lv := [some (.ref (zad g 0)), some (.int (nI s)), some (.int (nI p)), none]) (by decide +kernel) rfl (Nat.le_of_ble_eq_true rfl) rfl (fun C hM hN => ?_)
  have hp : p < 8 := by omega
  have hP := zper hn h9 hpn
  have hloop : ∀ (m : Nat) (j : Nat), j + m = a → zAW g C 8 cX5_book RX5 57 [some (.ref (zad g 0)), some (.int (nI s)), some (.int (nI p)), some (.int (nI j))] [] (zpt (zwr S (27 + s) 0 (p_bf (S.1 31 s) τ p) j) 8 (p_days τ j)) := by
    intro m
    induction m with
    | zero =>
      intro j hj
      obtain rfl : j = a := by omega
      refine za_iload_n dX5_book_57 rfl ?_
      refine za_aload_n dX5_book_58 rfl ?_
      refine za_getR dX5_book_59 zf_X5_45 rfl rfl ?_
      refine za_getR dX5_book_62 zf_X5_202 rfl rfl ?_
      refine za_iload_n dX5_book_65 rfl ?_
      refine za_iald dX5_book_66 rfl (by omega) ?_
      rw [show (zpt (zwr S (27 + s) 0 (p_bf (S.1 31 s) τ p) j) 8 (p_days τ j)).1 32 s = nI j from ha]
      refine za_icmp_ge 102 dX5_book_67 (by decide) (fun c67 => ?_) (fun c67 => absurd (nI_le (Nat.le_refl _) (by omega)) c67)
      refine za_aload_n dX5_book_102 rfl ?_
      refine za_getR dX5_book_103 zf_X5_45 rfl rfl ?_
      refine za_getR dX5_book_106 zf_X5_202 rfl rfl ?_
      refine za_iload_n dX5_book_109 rfl ?_
      refine za_iald dX5_book_110 rfl (by omega) ?_
      rw [show (zpt (zwr S (27 + s) 0 (p_bf (S.1 31 s) τ p) j) 8 (p_days τ j)).1 32 s = nI j from ha]
      exact za_iret hM dX5_book_111 ⟨by rfl, zJ_8⟩
    | succ m ih =>
      intro j hj
      refine za_iload_n dX5_book_57 rfl ?_
      refine za_aload_n dX5_book_58 rfl ?_
      refine za_getR dX5_book_59 zf_X5_45 rfl rfl ?_
      refine za_getR dX5_book_62 zf_X5_202 rfl rfl ?_
      refine za_iload_n dX5_book_65 rfl ?_
      refine za_iald dX5_book_66 rfl (by omega) ?_
      rw [show (zpt (zwr S (27 + s) 0 (p_bf (S.1 31 s) τ p) j) 8 (p_days τ j)).1 32 s = nI a from ha]
      refine za_icmp_ge 102 dX5_book_67 (by decide) (fun c67 => absurd c67 (nI_ge (show j < a by omega) (by omega))) (fun c67 => ?_)
      refine za_aload_n dX5_book_70 rfl ?_
      refine za_getR dX5_book_71 zf_X5_45 rfl rfl ?_
      refine za_iload_n dX5_book_74 rfl ?_
      refine za_iload_n dX5_book_75 rfl ?_
      refine za_aload_n dX5_book_76 rfl ?_
      refine za_getR dX5_book_77 zf_X5_16 rfl rfl ?_
      refine za_getR dX5_book_80 zf_X5_127 (tn0 zT8) rfl ?_
      refine za_iload_n dX5_book_83 rfl ?_
      refine zt_iald zT8 (by decide) dX5_book_84 (zv5 (by omega)) ?_
      refine za_i2l dX5_book_85 ?_
      refine za_cV3v dX5_book_86 zm_X5_212 zw_X1_put zv_X1_put (s_put hs (by omega)) (by decide) rfl rfl rfl (Nat.le_of_ble_eq_true rfl) ?_
      rw [show zsl (zpt (zwr S (27 + s) 0 (p_bf (S.1 31 s) τ p) j) 8 (p_days τ j)) (27 + s) j (znar ((zpt (zwr S (27 + s) 0 (p_bf (S.1 31 s) τ p) j) 8 (p_days τ j)).1 31 s) (p_days τ j 5 p).toInt64) = zpt (zsl (zwr S (27 + s) 0 (p_bf (S.1 31 s) τ p) j) (27 + s) j ((p_bf (S.1 31 s) τ p) j)) 8 (p_days τ j) from rfl, zwr_n0]
      refine za_aload_n dX5_book_89 rfl ?_
      refine za_getR dX5_book_90 zf_X5_16 rfl rfl ?_
      refine za_cV0v dX5_book_93 zm_X5_167 zw_X4_goDay zv_X4_goDay (tc_goDay zT8 (zTI_days hI j) (by omega)) (by decide) (tn0 zT8) rfl rfl (Nat.le_of_ble_eq_true rfl) ?_
      refine za_iinc (nI (_ + 1)) (lv' := [_, _, _, _]) dX5_book_96 rfl hN (by decide) (znext _) rfl ?_
      refine za_goto 57 dX5_book_99 (by decide) ?_
      exact ih (j + 1) (by omega)
  refine za_iload_n dX5_book_0 rfl ?_
  refine za_cS1 dX5_book_1 zm_X5_193 zw_X5_isSheet zs_X5_isSheet (e_isSheet _) (by decide) (Nat.le_of_ble_eq_true rfl) ?_
  refine za_if_neB 13 dX5_book_4 (by decide) (fun c4 => ?_) (fun c4 => absurd (zrng (Nat.zero_le _) (by omega) (by decide)) c4)
  refine za_aload_n dX5_book_13 rfl ?_
  refine za_getR dX5_book_14 zf_X5_45 rfl rfl ?_
  refine za_iload_n dX5_book_17 rfl ?_
  refine za_cV1 dX5_book_18 zm_X5_205 zw_X1_isMissing zv_X1_isMissing (s_isMissing hs) (by decide) rfl rfl rfl (Nat.le_of_ble_eq_true rfl) ?_
  refine za_if_eqB 30 dX5_book_21 (by decide) (fun c21 => ?_) (fun c21 => absurd c21 hb)
  refine za_aload_n dX5_book_30 rfl ?_
  refine za_iload_n dX5_book_31 rfl ?_
  refine za_cV1 dX5_book_32 zm_X5_118 zw_X5_isPerson zv_X5_isPerson (c_isPerson h1) (by decide) rfl rfl rfl (Nat.le_of_ble_eq_true rfl) ?_
  refine za_if_neB 44 dX5_book_35 (by decide) (fun c35 => ?_) (fun c35 => absurd hP c35)
  refine za_aload_n dX5_book_44 rfl ?_
  refine za_getR dX5_book_45 zf_X5_16 rfl rfl ?_
  refine za_aload_n dX5_book_48 rfl ?_
  refine za_getR dX5_book_49 zf_X5_10 rfl rfl ?_
  refine za_cV1v dX5_book_52 zm_X5_163 zw_X4_become zv_X4_become (tc_become8 h1) (by decide) (tn0 zT8) rfl rfl (Nat.le_of_ble_eq_true rfl) ?_
  refine za_iconst (nI 0) dX5_book_55 (by decide) ?_
  refine za_istore_n (lv' := [_, _, _, _]) dX5_book_56 hN (by decide) rfl ?_
  have h0 := hloop a 0 (by omega)
  rw [zwr_0] at h0
  exact h0

set_option maxRecDepth 20000 in
set_option maxHeartbeats 4000000 in
theorem c_book_no {g : zG} {S : zSto} {s p : Int32} (hno : ¬ (nI 0 ≤ s ∧ s ≤ nI 3)) : zEd g 8 yX5_book cX5_book 4 (some .int) [.ref (zad g 0), .int s, .int p] S (some (.int (zfd 0))) (zfin S 33 0) := by
  refine zev_intro (own := RX5) (lv := [some (.ref (zad g 0)), some (.int s), some (.int p), none]) (by decide +kernel) rfl (Nat.le_of_ble_eq_true rfl) rfl (fun C hM hN => ?_)
  refine za_iload_n dX5_book_0 rfl ?_
  refine za_cS1 dX5_book_1 zm_X5_193 zw_X5_isSheet zs_X5_isSheet (e_isSheet _) (by decide) (Nat.le_of_ble_eq_true rfl) ?_
  refine za_if_neB 13 dX5_book_4 (by decide) (fun c4 => ?_) (fun c4 => ?_)
  · exact absurd c4 hno
  · refine za_aload_n dX5_book_7 rfl ?_
    refine za_iconst (nI 0) dX5_book_8 (by decide) ?_
    refine za_cV1 dX5_book_9 zm_X5_63 zw_X5_finding zv_X5_finding (c_finding (by decide)) (by decide) rfl rfl rfl (Nat.le_of_ble_eq_true rfl) ?_
    exact za_iret hM dX5_book_12 ⟨by rfl, by rfl⟩

set_option maxRecDepth 20000 in
set_option maxHeartbeats 4000000 in
theorem c_book_mis {g : zG} {S : zSto} {s : Nat} (hs : s < 4) (hb : S.1 31 s = 0){p : Int32} : zEd g 8 yX5_book cX5_book 4 (some .int) [.ref (zad g 0), .int (nI s), .int p] S (some (.int (zfd 5))) (zfin S 33 5) := by
  refine zev_intro (own := RX5) (lv := [some (.ref (zad g 0)), some (.int (nI s)), some (.int p), none]) (by decide +kernel) rfl (Nat.le_of_ble_eq_true rfl) rfl (fun C hM hN => ?_)
  refine za_iload_n dX5_book_0 rfl ?_
  refine za_cS1 dX5_book_1 zm_X5_193 zw_X5_isSheet zs_X5_isSheet (e_isSheet _) (by decide) (Nat.le_of_ble_eq_true rfl) ?_
  refine za_if_neB 13 dX5_book_4 (by decide) (fun c4 => ?_) (fun c4 => absurd (zrng (Nat.zero_le _) (by omega) (by decide)) c4)
  refine za_aload_n dX5_book_13 rfl ?_
  refine za_getR dX5_book_14 zf_X5_45 rfl rfl ?_
  refine za_iload_n dX5_book_17 rfl ?_
  refine za_cV1 dX5_book_18 zm_X5_205 zw_X1_isMissing zv_X1_isMissing (s_isMissing hs) (by decide) rfl rfl rfl (Nat.le_of_ble_eq_true rfl) ?_
  refine za_if_eqB 30 dX5_book_21 (by decide) (fun c21 => absurd hb c21) (fun c21 => ?_)
  refine za_aload_n dX5_book_24 rfl ?_
  refine za_iconst (nI 5) dX5_book_25 (by decide) ?_
  refine za_cV1 dX5_book_26 zm_X5_63 zw_X5_finding zv_X5_finding (c_finding (by decide)) (by decide) rfl rfl rfl (Nat.le_of_ble_eq_true rfl) ?_
  exact za_iret hM dX5_book_29 ⟨by rfl, by rfl⟩

set_option maxRecDepth 20000 in
set_option maxHeartbeats 4000000 in
theorem c_book_out {g : zG} {S : zSto} {τ : zTn} {s : Nat} (hs : s < 4) (hb : ¬ S.1 31 s = 0) (h1 : zHd S 1 τ) {p : Int32} (hno : ¬ (nI 0 ≤ p ∧ p ≤ τ 0 3 - nI 1)) : zEd g 8 yX5_book cX5_book 4 (some .int) [.ref (zad g 0), .int (nI s), .int p] S (some (.int (zfd 0))) (zfin S 33 0) := by
  refine zev_intro (own := RX5) (lv := [some (.ref (zad g 0)), some (.int (nI s)), some (.int p), none]) (by decide +kernel) rfl (Nat.le_of_ble_eq_true rfl) rfl (fun C hM hN => ?_)
  refine za_iload_n dX5_book_0 rfl ?_
  refine za_cS1 dX5_book_1 zm_X5_193 zw_X5_isSheet zs_X5_isSheet (e_isSheet _) (by decide) (Nat.le_of_ble_eq_true rfl) ?_
  refine za_if_neB 13 dX5_book_4 (by decide) (fun c4 => ?_) (fun c4 => absurd (zrng (Nat.zero_le _) (by omega) (by decide)) c4)
  refine za_aload_n dX5_book_13 rfl ?_
  refine za_getR dX5_book_14 zf_X5_45 rfl rfl ?_
  refine za_iload_n dX5_book_17 rfl ?_
  refine za_cV1 dX5_book_18 zm_X5_205 zw_X1_isMissing zv_X1_isMissing (s_isMissing hs) (by decide) rfl rfl rfl (Nat.le_of_ble_eq_true rfl) ?_
  refine za_if_eqB 30 dX5_book_21 (by decide) (fun c21 => ?_) (fun c21 => absurd c21 hb)
  refine za_aload_n dX5_book_30 rfl ?_
  refine za_iload_n dX5_book_31 rfl ?_
  refine za_cV1 dX5_book_32 zm_X5_118 zw_X5_isPerson zv_X5_isPerson (c_isPerson h1) (by decide) rfl rfl rfl (Nat.le_of_ble_eq_true rfl) ?_
  refine za_if_neB 44 dX5_book_35 (by decide) (fun c35 => ?_) (fun c35 => ?_)
  · exact absurd c35 hno
  · refine za_aload_n dX5_book_38 rfl ?_
    refine za_iconst (nI 0) dX5_book_39 (by decide) ?_
    refine za_cV1 dX5_book_40 zm_X5_63 zw_X5_finding zv_X5_finding (c_finding (by decide)) (by decide) rfl rfl rfl (Nat.le_of_ble_eq_true rfl) ?_
    exact za_iret hM dX5_book_43 ⟨by rfl, by rfl⟩

/-- the numbers f 0 .. f (n - 1) are the pence of p on the days ahead of the town t -/
def p_bk (f : Nat → Int64) (t : zTn) (p : Nat) : Nat → Bool
  | 0 => true
  | k + 1 => p_bk f t p k && decide (f k = (p_days t k 5 p).toInt64)
theorem p_bk_f {f : Nat → Int64} {t : zTn} {p k : Nat} (h : ¬ f k = (p_days t k 5 p).toInt64) : ∀ n, k < n → p_bk f t p n = false
  | 0, hn => absurd hn (Nat.not_lt_zero _)
  | n + 1, hn => by
    unfold p_bk
    by_cases e : n = k
    · subst e; rw [decide_eq_false h, Bool.and_false]
    · rw [p_bk_f h n (by omega), Bool.false_and]
theorem p_bk_t {f : Nat → Int64} {t : zTn} {p k : Nat} (h0 : p_bk f t p k = true) (h : f k = (p_days t k 5 p).toInt64) : p_bk f t p (k + 1) = true := by
  unfold p_bk
  rw [h0, decide_eq_true h]; rfl
/-- of how many k below n is f k so -/
def p_pc (f : Nat → Bool) : Nat → Int32
  | 0 => nI 0
  | k + 1 => if f k = true then p_pc f k + nI 1 else p_pc f k
theorem p_pc_1 {f : Nat → Bool} {k : Nat} (h : f k = true) : p_pc f (k + 1) = p_pc f k + nI 1 := if_pos h
theorem p_pc_0 {f : Nat → Bool} {k : Nat} (h : ¬ f k = true) : p_pc f (k + 1) = p_pc f k := if_neg h
def p_pr (τ : zTn) (p q k : Nat) : zTn := zup (zup τ 3 p (nI (k / 6))) 3 q (nI (k % 6))
theorem zTI_pr {B : Nat} {τ : zTn} {p q k : Nat} (h : zTI B τ) (hk : k < 36) : zTI B (p_pr τ p q k) := zTI_3 (zTI_3 h (by omega)) (by omega)

set_option maxRecDepth 20000 in
set_option maxHeartbeats 4000000 in
theorem c_tgab {g : zG} {S : zSto} {t : zTn} {s p a : Nat} (hs : s < 4) (hp : p < 8) (ha : S.1 32 s = nI a) (ha1 : a ≤ 40) (hI : zTI 100000 t) : zEv g 5 yX5_trialGoesAsBooked cX5_trialGoesAsBooked 4 (some .boolean) [.ref (zad g 0), .int (nI s), .int (nI p)] (zpt S 8 t) (fun r' s' => r' = some (.int (zb (p_bk (S.2 (27 + s)) t p a = true))) ∧ ∃ t', s' = zpt S 8 t') := by
  refine zev_intro (own := RX5) (lv := [some (.ref (zad g 0)), some (.int (nI s)), some (.int (nI p)), none]) (by decide +kernel) rfl (Nat.le_of_ble_eq_true rfl) rfl (fun C hM hN => ?_)
  have hloop : ∀ (m : Nat) (j : Nat), j + m = a ∧ p_bk (S.2 (27 + s)) t p j = true → zAW g C 5 cX5_trialGoesAsBooked RX5 2 [some (.ref (zad g 0)), some (.int (nI s)), some (.int (nI p)), some (.int (nI j))] [] (zpt S 8 (p_days t j)) := by
    intro m
    induction m with
    | zero =>
      intro j hj
      obtain rfl : j = a := by omega
      refine za_iload_n dX5_trialGoesAsBooked_2 rfl ?_
      refine za_aload_n dX5_trialGoesAsBooked_3 rfl ?_
      refine za_getR dX5_trialGoesAsBooked_4 zf_X5_45 rfl rfl ?_
      refine za_getR dX5_trialGoesAsBooked_7 zf_X5_202 rfl rfl ?_
      refine za_iload_n dX5_trialGoesAsBooked_10 rfl ?_
      refine za_iald dX5_trialGoesAsBooked_11 rfl (by omega) ?_
      rw [show (zpt S 8 (p_days t j)).1 32 s = nI j from ha]
      refine za_icmp_ge 55 dX5_trialGoesAsBooked_12 (by decide) (fun c12 => ?_) (fun c12 => absurd (nI_le (Nat.le_refl _) (by omega)) c12)
      refine za_iconst (nI 1) dX5_trialGoesAsBooked_55 (by decide) ?_
      exact za_zretG hM dX5_trialGoesAsBooked_56 (by decide) ⟨congrArg (fun z => some (Value.int z)) (zb_1 hj.2).symm, _, rfl⟩
    | succ m ih =>
      intro j hj
      refine za_iload_n dX5_trialGoesAsBooked_2 rfl ?_
      refine za_aload_n dX5_trialGoesAsBooked_3 rfl ?_
      refine za_getR dX5_trialGoesAsBooked_4 zf_X5_45 rfl rfl ?_
      refine za_getR dX5_trialGoesAsBooked_7 zf_X5_202 rfl rfl ?_
      refine za_iload_n dX5_trialGoesAsBooked_10 rfl ?_
      refine za_iald dX5_trialGoesAsBooked_11 rfl (by omega) ?_
      rw [show (zpt S 8 (p_days t j)).1 32 s = nI a from ha]
      refine za_icmp_ge 55 dX5_trialGoesAsBooked_12 (by decide) (fun c12 => absurd c12 (nI_ge (show j < a by omega) (by omega))) (fun c12 => ?_)
      refine za_aload_n dX5_trialGoesAsBooked_15 rfl ?_
      refine za_getR dX5_trialGoesAsBooked_16 zf_X5_45 rfl rfl ?_
      refine za_getR dX5_trialGoesAsBooked_19 zf_X5_208 rfl rfl ?_
      refine za_iload_n dX5_trialGoesAsBooked_22 rfl ?_
      refine za_aald dX5_trialGoesAsBooked_23 rfl (z27 hs) (by omega) ?_
      refine za_iload_n dX5_trialGoesAsBooked_24 rfl ?_
      refine za_lald dX5_trialGoesAsBooked_25 (z27s hs) (by omega) ?_
      refine za_aload_n dX5_trialGoesAsBooked_26 rfl ?_
      refine za_getR dX5_trialGoesAsBooked_27 zf_X5_16 rfl rfl ?_
      refine za_getR dX5_trialGoesAsBooked_30 zf_X5_127 (tn0 zT8) rfl ?_
      refine za_iload_n dX5_trialGoesAsBooked_33 rfl ?_
      refine zt_iald zT8 (by decide) dX5_trialGoesAsBooked_34 (zv5 (by omega)) ?_
      refine za_i2l dX5_trialGoesAsBooked_35 ?_
      refine za_lcmp dX5_trialGoesAsBooked_36 ?_
      refine za_if_eq 42 dX5_trialGoesAsBooked_37 (by decide) (fun c37 => ?_) (fun c37 => ?_)
      · refine za_aload_n dX5_trialGoesAsBooked_42 rfl ?_
        refine za_getR dX5_trialGoesAsBooked_43 zf_X5_16 rfl rfl ?_
        refine za_cV0v dX5_trialGoesAsBooked_46 zm_X5_167 zw_X4_goDay zv_X4_goDay (tc_goDay zT8 (zTI_days hI j) (by omega)) (by decide) (tn0 zT8) rfl rfl (Nat.le_of_ble_eq_true rfl) ?_
        refine za_iinc (nI (_ + 1)) (lv' := [_, _, _, _]) dX5_trialGoesAsBooked_49 rfl hN (by decide) (znext _) rfl ?_
        refine za_goto 2 dX5_trialGoesAsBooked_52 (by decide) ?_
        exact ih (j + 1) ⟨by omega, p_bk_t hj.2 ((lg_cmp_eq _ _).mp c37)⟩
      · refine za_iconst (nI 0) dX5_trialGoesAsBooked_40 (by decide) ?_
        exact za_zretG hM dX5_trialGoesAsBooked_41 (by decide) ⟨congrArg (fun z => some (Value.int z)) (zb_f (fun z => by rw [p_bk_f (f := S.2 (27 + s)) (t := t) (k := j) (fun q => c37 ((lg_cmp_eq _ _).mpr q)) a (by omega)] at z; cases z)).symm, _, rfl⟩
  refine za_iconst (nI 0) dX5_trialGoesAsBooked_0 (by decide) ?_
  refine za_istore_n (lv' := [_, _, _, _]) dX5_trialGoesAsBooked_1 hN (by decide) rfl ?_
  exact hloop a 0 ⟨by omega, rfl⟩

set_option maxRecDepth 20000 in
set_option maxHeartbeats 4000000 in
theorem c_read_ok {g : zG} {S : zSto} {τ : zTn} {s : Nat} (hs : s < 4) (hb : ¬ S.1 31 s = 0) (h1 : zHd S 1 τ) (hI : zTI 100000 τ) {n p : Nat} (hn : τ 0 3 = nI n) (h9 : n < 9) (hpn : p < n) {q : Nat} (hqn : q < n) (hpq : ¬ p = q) {a : Nat} (ha : S.1 32 s = nI a) (ha1 : a ≤ 40) : zEv g 8 yX5_read cX5_read 7 (some .int) [.ref (zad g 0), .int (nI s), .int (nI p), .int (nI q)] S (fun r' s' => r' = some (.int (p_pc (fun i => p_bk (S.2 (27 + s)) (p_pr τ p q i) p a) 36)) ∧ zJ S s') := by
  refine zev_intro (own := RX5) (lv := [some (.ref (zad g 0)), some (.int (nI s)), some (.int (nI p)), some (.int (nI q)), none, none, none]) (by decide +kernel) rfl (Nat.le_of_ble_eq_true rfl) rfl (fun C hM hN => ?_)
  have hp : p < 8 := by omega
  have hP := zper hn h9 hpn
  have hq : q < 8 := by omega
  have hQ := zper hn h9 hqn
  have hin : ∀ (k : Nat), k < 6 → (∀ (t : zTn) (l6 : Option Value), zAW g C 8 cX5_read RX5 63 [some (.ref (zad g 0)), some (.int (nI s)), some (.int (nI p)), some (.int (nI q)), some (.int (p_pc (fun i => p_bk (S.2 (27 + s)) (p_pr τ p q i) p a) (6 * (k + 1)))), some (.int (nI (k + 1))), l6] [] (zpt S 8 t)) → ∀ (m j : Nat) (t : zTn), j + m = 6 → zAW g C 8 cX5_read RX5 73 [some (.ref (zad g 0)), some (.int (nI s)), some (.int (nI p)), some (.int (nI q)), some (.int (p_pc (fun i => p_bk (S.2 (27 + s)) (p_pr τ p q i) p a) (6 * k + j))), some (.int (nI k)), some (.int (nI j))] [] (zpt S 8 t) := by
    intro k hk6 hout m
    induction m with
    | zero =>
      intro j t hj
      obtain rfl : j = 6 := by omega
      refine za_iload dX5_read_73 rfl ?_
      refine za_bipush (nI 6) dX5_read_75 (by decide) ?_
      refine za_icmp_ge 131 dX5_read_77 (by decide) (fun c77 => ?_) (fun c77 => absurd (by decide) c77)
      refine za_iinc (nI (_ + 1)) (lv' := [_, _, _, _, _, _, _]) dX5_read_131 rfl hN (by decide) (znext _) rfl ?_
      refine za_goto 63 dX5_read_134 (by decide) ?_
      exact hout _ _
    | succ m ih =>
      intro j t hj
      refine za_iload dX5_read_73 rfl ?_
      refine za_bipush (nI 6) dX5_read_75 (by decide) ?_
      refine za_icmp_ge 131 dX5_read_77 (by decide) (fun c77 => absurd c77 (nI_ge (show j < 6 by omega) (by decide))) (fun c77 => ?_)
      refine za_aload_n dX5_read_80 rfl ?_
      refine za_getR dX5_read_81 zf_X5_16 rfl rfl ?_
      refine za_aload_n dX5_read_84 rfl ?_
      refine za_getR dX5_read_85 zf_X5_10 rfl rfl ?_
      refine za_cV1v dX5_read_88 zm_X5_163 zw_X4_become zv_X4_become (tc_become8' h1) (by decide) (tn0 zT8) rfl rfl (Nat.le_of_ble_eq_true rfl) ?_
      refine za_aload_n dX5_read_91 rfl ?_
      refine za_getR dX5_read_92 zf_X5_16 rfl rfl ?_
      refine za_getR dX5_read_95 zf_X5_121 (tn0 zT8) rfl ?_
      refine za_iload_n dX5_read_98 rfl ?_
      refine za_iload dX5_read_99 rfl ?_
      refine zt_iast zT8 (by decide) dX5_read_101 (zv3 hp) ?_
      refine za_aload_n dX5_read_102 rfl ?_
      refine za_getR dX5_read_103 zf_X5_16 rfl rfl ?_
      refine za_getR dX5_read_106 zf_X5_121 (tn0 zT8) rfl ?_
      refine za_iload_n dX5_read_109 rfl ?_
      refine za_iload dX5_read_110 rfl ?_
      refine zt_iast zT8 (by decide) dX5_read_112 (zv3 hq) ?_
      rw [show zup (zup τ 3 p (nI k)) 3 q (nI j) = p_pr τ p q (6 * k + j) by unfold p_pr; rw [show (6 * k + j) / 6 = k by omega, show (6 * k + j) % 6 = j by omega]]
      refine za_aload_n dX5_read_113 rfl ?_
      refine za_iload_n dX5_read_114 rfl ?_
      refine za_iload_n dX5_read_115 rfl ?_
      refine za_callV (As := [.int (nI s), .int (nI p)]) (rest := []) dX5_read_116 zm_X5_235 zw_X5_trialGoesAsBooked zv_X5_trialGoesAsBooked (c_tgab (t := p_pr τ p q (6 * k + j)) hs hp ha ha1 (zTI_pr hI (by omega))) (by decide) rfl rfl rfl rfl (Nat.le_of_ble_eq_true rfl) rfl (fun r1 s1 hE => ?_)
      obtain ⟨rfl, t1, rfl⟩ := hE
      show zAW _ _ _ _ _ _ _ [.int (zb _)] _
      refine za_if_eqB 125 dX5_read_119 (by decide) (fun c119 => ?_) (fun c119 => ?_)
      · refine za_iinc (nI (_ + 1)) (lv' := [_, _, _, _, _, _, _]) dX5_read_125 rfl hN (by decide) (znext _) rfl ?_
        refine za_goto 73 dX5_read_128 (by decide) ?_
        have hh := fun t => ih (j + 1) t (by omega)
        first
          | (rw [show 6 * k + (j + 1) = (6 * k + j) + 1 by omega, p_pc_1 (f := (fun i => p_bk (S.2 (27 + s)) (p_pr τ p q i) p a)) c119] at hh; exact hh _)
          | (rw [show 6 * k + (j + 1) = (6 * k + j) + 1 by omega, p_pc_0 (f := (fun i => p_bk (S.2 (27 + s)) (p_pr τ p q i) p a)) c119] at hh; exact hh _)
      · refine za_iinc (_ + nI 1) (lv' := [_, _, _, _, _, _, _]) dX5_read_122 rfl hN (by decide) (zinc1 _) rfl ?_
        refine za_iinc (nI (_ + 1)) (lv' := [_, _, _, _, _, _, _]) dX5_read_125 rfl hN (by decide) (znext _) rfl ?_
        refine za_goto 73 dX5_read_128 (by decide) ?_
        have hh := fun t => ih (j + 1) t (by omega)
        first
          | (rw [show 6 * k + (j + 1) = (6 * k + j) + 1 by omega, p_pc_1 (f := (fun i => p_bk (S.2 (27 + s)) (p_pr τ p q i) p a)) c119] at hh; exact hh _)
          | (rw [show 6 * k + (j + 1) = (6 * k + j) + 1 by omega, p_pc_0 (f := (fun i => p_bk (S.2 (27 + s)) (p_pr τ p q i) p a)) c119] at hh; exact hh _)
  have hloop : ∀ (m k : Nat) (t : zTn) (l6 : Option Value), k + m = 6 → zAW g C 8 cX5_read RX5 63 [some (.ref (zad g 0)), some (.int (nI s)), some (.int (nI p)), some (.int (nI q)), some (.int (p_pc (fun i => p_bk (S.2 (27 + s)) (p_pr τ p q i) p a) (6 * k))), some (.int (nI k)), l6] [] (zpt S 8 t) := by
    intro m
    induction m with
    | zero =>
      intro k t l6 hj
      obtain rfl : k = 6 := by omega
      refine za_iload dX5_read_63 rfl ?_
      refine za_bipush (nI 6) dX5_read_65 (by decide) ?_
      refine za_icmp_ge 137 dX5_read_67 (by decide) (fun c67 => ?_) (fun c67 => absurd (by decide) c67)
      refine za_iload dX5_read_137 rfl ?_
      exact za_iret hM dX5_read_139 ⟨by rfl, zJ_8⟩
    | succ m ih =>
      intro k t l6 hj
      refine za_iload dX5_read_63 rfl ?_
      refine za_bipush (nI 6) dX5_read_65 (by decide) ?_
      refine za_icmp_ge 137 dX5_read_67 (by decide) (fun c67 => absurd c67 (nI_ge (show k < 6 by omega) (by decide))) (fun c67 => ?_)
      refine za_iconst (nI 0) dX5_read_70 (by decide) ?_
      refine za_istore (lv' := [_, _, _, _, _, _, _]) dX5_read_71 hN (by decide) rfl ?_
      exact hin k (by omega) (fun t l6 => ih (k + 1) t l6 (by omega)) 6 0 t rfl
  refine za_iload_n dX5_read_0 rfl ?_
  refine za_cS1 dX5_read_1 zm_X5_193 zw_X5_isSheet zs_X5_isSheet (e_isSheet _) (by decide) (Nat.le_of_ble_eq_true rfl) ?_
  refine za_if_neB 13 dX5_read_4 (by decide) (fun c4 => ?_) (fun c4 => absurd (zrng (Nat.zero_le _) (by omega) (by decide)) c4)
  refine za_aload_n dX5_read_13 rfl ?_
  refine za_getR dX5_read_14 zf_X5_45 rfl rfl ?_
  refine za_iload_n dX5_read_17 rfl ?_
  refine za_cV1 dX5_read_18 zm_X5_205 zw_X1_isMissing zv_X1_isMissing (s_isMissing hs) (by decide) rfl rfl rfl (Nat.le_of_ble_eq_true rfl) ?_
  refine za_if_eqB 30 dX5_read_21 (by decide) (fun c21 => ?_) (fun c21 => absurd c21 hb)
  refine za_aload_n dX5_read_30 rfl ?_
  refine za_iload_n dX5_read_31 rfl ?_
  refine za_cV1 dX5_read_32 zm_X5_118 zw_X5_isPerson zv_X5_isPerson (c_isPerson h1) (by decide) rfl rfl rfl (Nat.le_of_ble_eq_true rfl) ?_
  refine za_if_eqB 51 dX5_read_35 (by decide) (fun c35 => absurd hP c35) (fun c35 => ?_)
  refine za_aload_n dX5_read_38 rfl ?_
  refine za_iload_n dX5_read_39 rfl ?_
  refine za_cV1 dX5_read_40 zm_X5_118 zw_X5_isPerson zv_X5_isPerson (c_isPerson h1) (by decide) rfl rfl rfl (Nat.le_of_ble_eq_true rfl) ?_
  refine za_if_eqB 51 dX5_read_43 (by decide) (fun c43 => absurd hQ c43) (fun c43 => ?_)
  refine za_iload_n dX5_read_46 rfl ?_
  refine za_iload_n dX5_read_47 rfl ?_
  refine za_icmp_ne 57 dX5_read_48 (by decide) (fun c48 => ?_) (fun c48 => absurd c48 (fun z => hpq (zinj z (by omega) (by omega))))
  refine za_iconst (nI 0) dX5_read_57 (by decide) ?_
  refine za_istore (lv' := [_, _, _, _, _, _, _]) dX5_read_58 hN (by decide) rfl ?_
  refine za_iconst (nI 0) dX5_read_60 (by decide) ?_
  refine za_istore (lv' := [_, _, _, _, _, _, _]) dX5_read_61 hN (by decide) rfl ?_
  have h0 := hloop 6 0 (ztw S 8) none rfl
  rw [zpt_tw] at h0
  exact h0

set_option maxRecDepth 20000 in
set_option maxHeartbeats 4000000 in
theorem c_read_no {g : zG} {S : zSto} {s p q : Int32} (hno : ¬ (nI 0 ≤ s ∧ s ≤ nI 3)) : zEd g 8 yX5_read cX5_read 7 (some .int) [.ref (zad g 0), .int s, .int p, .int q] S (some (.int (zfd 0))) (zfin S 33 0) := by
  refine zev_intro (own := RX5) (lv := [some (.ref (zad g 0)), some (.int s), some (.int p), some (.int q), none, none, none]) (by decide +kernel) rfl (Nat.le_of_ble_eq_true rfl) rfl (fun C hM hN => ?_)
  refine za_iload_n dX5_read_0 rfl ?_
  refine za_cS1 dX5_read_1 zm_X5_193 zw_X5_isSheet zs_X5_isSheet (e_isSheet _) (by decide) (Nat.le_of_ble_eq_true rfl) ?_
  refine za_if_neB 13 dX5_read_4 (by decide) (fun c4 => ?_) (fun c4 => ?_)
  · exact absurd c4 hno
  · refine za_aload_n dX5_read_7 rfl ?_
    refine za_iconst (nI 0) dX5_read_8 (by decide) ?_
    refine za_cV1 dX5_read_9 zm_X5_63 zw_X5_finding zv_X5_finding (c_finding (by decide)) (by decide) rfl rfl rfl (Nat.le_of_ble_eq_true rfl) ?_
    exact za_iret hM dX5_read_12 ⟨by rfl, by rfl⟩

set_option maxRecDepth 20000 in
set_option maxHeartbeats 4000000 in
theorem c_read_mis {g : zG} {S : zSto} {s : Nat} (hs : s < 4) (hb : S.1 31 s = 0){p q : Int32} : zEd g 8 yX5_read cX5_read 7 (some .int) [.ref (zad g 0), .int (nI s), .int p, .int q] S (some (.int (zfd 5))) (zfin S 33 5) := by
  refine zev_intro (own := RX5) (lv := [some (.ref (zad g 0)), some (.int (nI s)), some (.int p), some (.int q), none, none, none]) (by decide +kernel) rfl (Nat.le_of_ble_eq_true rfl) rfl (fun C hM hN => ?_)
  refine za_iload_n dX5_read_0 rfl ?_
  refine za_cS1 dX5_read_1 zm_X5_193 zw_X5_isSheet zs_X5_isSheet (e_isSheet _) (by decide) (Nat.le_of_ble_eq_true rfl) ?_
  refine za_if_neB 13 dX5_read_4 (by decide) (fun c4 => ?_) (fun c4 => absurd (zrng (Nat.zero_le _) (by omega) (by decide)) c4)
  refine za_aload_n dX5_read_13 rfl ?_
  refine za_getR dX5_read_14 zf_X5_45 rfl rfl ?_
  refine za_iload_n dX5_read_17 rfl ?_
  refine za_cV1 dX5_read_18 zm_X5_205 zw_X1_isMissing zv_X1_isMissing (s_isMissing hs) (by decide) rfl rfl rfl (Nat.le_of_ble_eq_true rfl) ?_
  refine za_if_eqB 30 dX5_read_21 (by decide) (fun c21 => absurd hb c21) (fun c21 => ?_)
  refine za_aload_n dX5_read_24 rfl ?_
  refine za_iconst (nI 5) dX5_read_25 (by decide) ?_
  refine za_cV1 dX5_read_26 zm_X5_63 zw_X5_finding zv_X5_finding (c_finding (by decide)) (by decide) rfl rfl rfl (Nat.le_of_ble_eq_true rfl) ?_
  exact za_iret hM dX5_read_29 ⟨by rfl, by rfl⟩

set_option maxRecDepth 20000 in
set_option maxHeartbeats 4000000 in
theorem c_read_out {g : zG} {S : zSto} {τ : zTn} {s : Nat} (hs : s < 4) (hb : ¬ S.1 31 s = 0) (h1 : zHd S 1 τ) {p q : Int32} (hno : ¬ ((nI 0 ≤ p ∧ p ≤ τ 0 3 - nI 1) ∧ (nI 0 ≤ q ∧ q ≤ τ 0 3 - nI 1) ∧ ¬ p = q)) : zEd g 8 yX5_read cX5_read 7 (some .int) [.ref (zad g 0), .int (nI s), .int p, .int q] S (some (.int (zfd 0))) (zfin S 33 0) := by
  refine zev_intro (own := RX5) (lv := [some (.ref (zad g 0)), some (.int (nI s)), some (.int p), some (.int q), none, none, none]) (by decide +kernel) rfl (Nat.le_of_ble_eq_true rfl) rfl (fun C hM hN => ?_)
  refine za_iload_n dX5_read_0 rfl ?_
  refine za_cS1 dX5_read_1 zm_X5_193 zw_X5_isSheet zs_X5_isSheet (e_isSheet _) (by decide) (Nat.le_of_ble_eq_true rfl) ?_
  refine za_if_neB 13 dX5_read_4 (by decide) (fun c4 => ?_) (fun c4 => absurd (zrng (Nat.zero_le _) (by omega) (by decide)) c4)
  refine za_aload_n dX5_read_13 rfl ?_
  refine za_getR dX5_read_14 zf_X5_45 rfl rfl ?_
  refine za_iload_n dX5_read_17 rfl ?_
  refine za_cV1 dX5_read_18 zm_X5_205 zw_X1_isMissing zv_X1_isMissing (s_isMissing hs) (by decide) rfl rfl rfl (Nat.le_of_ble_eq_true rfl) ?_
  refine za_if_eqB 30 dX5_read_21 (by decide) (fun c21 => ?_) (fun c21 => absurd c21 hb)
  refine za_aload_n dX5_read_30 rfl ?_
  refine za_iload_n dX5_read_31 rfl ?_
  refine za_cV1 dX5_read_32 zm_X5_118 zw_X5_isPerson zv_X5_isPerson (c_isPerson h1) (by decide) rfl rfl rfl (Nat.le_of_ble_eq_true rfl) ?_
  refine za_if_eqB 51 dX5_read_35 (by decide) (fun c35 => ?_) (fun c35 => ?_)
  · refine za_aload_n dX5_read_51 rfl ?_
    refine za_iconst (nI 0) dX5_read_52 (by decide) ?_
    refine za_cV1 dX5_read_53 zm_X5_63 zw_X5_finding zv_X5_finding (c_finding (by decide)) (by decide) rfl rfl rfl (Nat.le_of_ble_eq_true rfl) ?_
    exact za_iret hM dX5_read_56 ⟨by rfl, by rfl⟩
  · refine za_aload_n dX5_read_38 rfl ?_
    refine za_iload_n dX5_read_39 rfl ?_
    refine za_cV1 dX5_read_40 zm_X5_118 zw_X5_isPerson zv_X5_isPerson (c_isPerson h1) (by decide) rfl rfl rfl (Nat.le_of_ble_eq_true rfl) ?_
    refine za_if_eqB 51 dX5_read_43 (by decide) (fun c43 => ?_) (fun c43 => ?_)
    · refine za_aload_n dX5_read_51 rfl ?_
      refine za_iconst (nI 0) dX5_read_52 (by decide) ?_
      refine za_cV1 dX5_read_53 zm_X5_63 zw_X5_finding zv_X5_finding (c_finding (by decide)) (by decide) rfl rfl rfl (Nat.le_of_ble_eq_true rfl) ?_
      exact za_iret hM dX5_read_56 ⟨by rfl, by rfl⟩
    · refine za_iload_n dX5_read_46 rfl ?_
      refine za_iload_n dX5_read_47 rfl ?_
      refine za_icmp_ne 57 dX5_read_48 (by decide) (fun c48 => ?_) (fun c48 => ?_)
      · exact absurd ⟨c35, c43, c48⟩ hno
      · refine za_aload_n dX5_read_51 rfl ?_
        refine za_iconst (nI 0) dX5_read_52 (by decide) ?_
        refine za_cV1 dX5_read_53 zm_X5_63 zw_X5_finding zv_X5_finding (c_finding (by decide)) (by decide) rfl rfl rfl (Nat.le_of_ble_eq_true rfl) ?_
        exact za_iret hM dX5_read_56 ⟨by rfl, by rfl⟩
