theorem lN_0 {n : Nat} (h : n ≤ 64) : lN n = 0 ↔ n = 0 := lN_eq (b := 0) (by omega) (by decide)
set_option maxHeartbeats 4000000 in
set_option maxRecDepth 20000 in
theorem c_Mod_inLeastTerms (G : ZG) (w : va_W) (a b : Nat) (ha : a ≤ 64) (hb : b ≤ 64) (hb0 : 0 < b) (which : Int32) : ZM G y_Mod_inLeastTerms b_Mod_inLeastTerms 11 (some .long) r_Mod_inLeastTerms [.long (lN a), .long (lN b), .int which] w (zdl (if which = 0 then lN (a / Nat.gcd a b) else lN (b / Nat.gcd a b)) w) := by
  refine ZM.of "SameTuesdayModel" "inLeastTerms" rfl rfl (by decide) (Nat.le_of_ble_eq_true rfl) (fun Y C hq => ?_)
  change ZV G Y 0 0 0 [(0, .long (lN a)), (2, .long (lN b)), (4, .int which)] [] w
  have loop : ∀ n x y, y ≤ n → x ≤ 64 → y ≤ 64 → 0 < x + y → Nat.gcd x y = Nat.gcd a b → ZV G Y 0 0 6 [(0, .long (lN a)), (2, .long (lN b)), (4, .int which), (5, .long (lN x)), (7, .long (lN y))] [] w := by
    intro n
    induction n with
    | zero =>
      intro x y hn hx hy hxy hg
      obtain rfl : y = 0 := Nat.le_zero.mp hn
      have hxg : x = Nat.gcd a b := by rw [← hg, Nat.gcd_zero_right]
      have hx0 : ¬ lN x = 0 := fun z => absurd ((lN_0 hx).mp z) (by omega)
      have dv : ∀ c, c ≤ 64 → lN c / lN x = lN (c / Nat.gcd a b) := fun c hc => by rw [pk_lDiv (by omega) (by omega) (by omega), hxg]
      refine zx_lload C d_Mod_inLeastTerms_6 rfl ?_
      refine zx_lc C d_Mod_inLeastTerms_8 ?_
      refine zx_lcmp C d_Mod_inLeastTerms_9 ?_
      refine zx_if_eq C d_Mod_inLeastTerms_10 (fun h10 => ?_) (fun h10 => ?_)
      · refine zx_iload C d_Mod_inLeastTerms_31 rfl ?_
        refine zx_if_ne C d_Mod_inLeastTerms_33 (fun h33 => ?_) (fun h33 => ?_)
        · have ev := dv b hb
          refine zx_lload C d_Mod_inLeastTerms_43 rfl ?_
          refine zx_lload C d_Mod_inLeastTerms_44 rfl ?_
          refine zx_ldiv C hx0 d_Mod_inLeastTerms_46 ?_
          exact zx_lret C hq d_Mod_inLeastTerms_47 (⟨by rw [ev]; first | rw [if_pos h33] | rw [if_neg h33], rfl⟩)
        · have ev := dv a ha
          refine zx_lload C d_Mod_inLeastTerms_36 rfl ?_
          refine zx_lload C d_Mod_inLeastTerms_37 rfl ?_
          refine zx_ldiv C hx0 d_Mod_inLeastTerms_39 ?_
          refine zx_goto C d_Mod_inLeastTerms_40 ?_
          exact zx_lret C hq d_Mod_inLeastTerms_47 (⟨by rw [ev]; first | rw [if_pos h33] | rw [if_neg h33], rfl⟩)
      · exact absurd (lg_cmp0.mpr rfl) h10
    | succ n ih =>
      intro x y hn hx hy hxy hg
      by_cases hy0 : y = 0
      · exact ih x y (by omega) hx hy hxy hg
      · have hyl : ¬ lN y = 0 := fun z => absurd ((lN_0 hy).mp z) hy0
        have er : lN x - lN x / lN y * lN y = lN (x % y) := pk_lRem (by omega) (by omega) (by omega)
        have hlt : x % y < y := Nat.mod_lt _ (by omega)
        refine zx_lload C d_Mod_inLeastTerms_6 rfl ?_
        refine zx_lc C d_Mod_inLeastTerms_8 ?_
        refine zx_lcmp C d_Mod_inLeastTerms_9 ?_
        refine zx_if_eq C d_Mod_inLeastTerms_10 (fun h10 => ?_) (fun h10 => ?_)
        · exact absurd (lg_cmp0.mp h10) hyl
        · refine zx_lload C d_Mod_inLeastTerms_13 rfl ?_
          refine zx_lload C d_Mod_inLeastTerms_15 rfl ?_
          refine zx_lrem C hyl d_Mod_inLeastTerms_17 ?_
          rw [er]
          refine zx_lstore C d_Mod_inLeastTerms_18 (by decide) (lv1 := [(9, _), (0, _), (2, _), (4, _), (5, _), (7, _)]) rfl ?_
          refine zx_lload C d_Mod_inLeastTerms_20 rfl ?_
          refine zx_lstore C d_Mod_inLeastTerms_22 (by decide) (lv1 := [(5, _), (9, _), (0, _), (2, _), (4, _), (7, _)]) rfl ?_
          refine zx_lload C d_Mod_inLeastTerms_24 rfl ?_
          refine zx_lstore C d_Mod_inLeastTerms_26 (by decide) (lv1 := [(7, _), (5, _), (9, _), (0, _), (2, _), (4, _)]) rfl ?_
          refine zx_goto C d_Mod_inLeastTerms_28 ?_
          exact zx_lv [0, 2, 4, 5, 7] rfl (ih y (x % y) (by omega) hy (by omega) (by omega) (by rw [← hg, Nat.gcd_comm y (x % y), ← Nat.gcd_rec, Nat.gcd_comm]))
  refine zx_lload C d_Mod_inLeastTerms_0 rfl ?_
  refine zx_lstore C d_Mod_inLeastTerms_1 (by decide) (lv1 := [(5, _), (0, _), (2, _), (4, _)]) rfl ?_
  refine zx_lload C d_Mod_inLeastTerms_3 rfl ?_
  refine zx_lstore C d_Mod_inLeastTerms_4 (by decide) (lv1 := [(7, _), (5, _), (0, _), (2, _), (4, _)]) rfl ?_
  exact zx_lv [0, 2, 4, 5, 7] rfl (loop b a b (Nat.le_refl _) ha hb (by omega) rfl)
theorem odds_bad {S : ZA} {t : Int32 × Int32} {x : Int64 × ZA} {c f : Int32} (h : t = (c, f)) (hc : ¬ c = 0 := by decide) : (if ¬ t.1 = 0 then ((-9223372036854775808 : Int64), sf S t.2) else x) = (-9223372036854775808, sf S f) := by rw [h]; exact if_pos hc
theorem odds_ne {S : ZA} {t u : Int32 × Int32} {x : Int64 × ZA} (h : t = u) (hc : ¬ u.1 = 0) : (if ¬ t.1 = 0 then ((-9223372036854775808 : Int64), sf S t.2) else x) = (-9223372036854775808, sf S u.2) := by rw [h]; exact if_pos hc
theorem odds_go {S : ZA} {t u : Int32 × Int32} {x : Int64 × ZA} (h : t = u) (hc : u.1 = 0) : (if ¬ t.1 = 0 then ((-9223372036854775808 : Int64), sf S t.2) else x) = x := by rw [h]; exact if_neg (fun z => z hc)
set_option maxHeartbeats 4000000 in
set_option maxRecDepth 20000 in
theorem c_Mod_odds (G : ZG) (o : Nat) (ad : Nat → Nat) (F : Nat → Int32) (R : Nat → Nat → Int32) (X : va_W) (S : ZA) (hm : mrp S F R) (set sh l i n which : Int32) : ZM G y_Mod_odds b_Mod_odds 9 (some .long) r_Mod_odds [.ref o, .int set, .int sh, .int l, .int i, .int n, .int which] (mw G o ad F R ++ X) (mpostL G o ad X (ap_odds S set sh l i n which).1 (ap_odds S set sh l i n which).2) := by
  refine ZM.of "SameTuesdayModel" "odds" rfl rfl (by decide) (Nat.le_of_ble_eq_true rfl) (fun Y C hq => ?_)
  change ZV G Y 0 0 0 [(0, .ref o), (1, .int set), (2, .int sh), (3, .int l), (4, .int i), (5, .int n), (6, .int which)] [] (mw G o ad F R ++ X)
  refine zx_aload C d_Mod_odds_0 rfl ?_
  refine zx_ic C d_Mod_odds_1 ?_
  refine zm_p C p_Mod_78_12 d_Mod_odds_2 zb_fit_i (Nat.le_of_ble_eq_true rfl) zms_0 ?_
  refine zx_iload C d_Mod_odds_5 rfl ?_
  refine zr_di (zr_S C l_Mod_210 d_Mod_odds_6 (As := [_]) rfl rfl (Nat.le_of_ble_eq_true rfl) (c_Mod_isSet G _ _) ⟨Nat.le_of_ble_eq_true rfl, Nat.le_of_ble_eq_true rfl, Nat.le_of_ble_eq_true rfl, Nat.le_of_ble_eq_true rfl⟩) ?_
  refine zx_ifB_eq C d_Mod_odds_9 (fun h9 => ?_) (fun h9 => ?_)
  · have hm2 := mrp_f hm 0
    have ev : ap_odds S set sh l i n which = (-9223372036854775808, sf S 0) := by
      by_cases hs : ¬ sh < 0 ∧ ¬ 3 < sh
      · exact odds_bad (trow_2 hs (Or.inr (fun q => h9 q.1)))
      · exact odds_bad (trow_1 (nand_or hs))
    refine zx_lc C d_Mod_odds_38 ?_
    exact zx_lret C hq d_Mod_odds_41 (by rw [ev]; exact mpost_l rfl hm2)
  · refine zx_iload C d_Mod_odds_12 rfl ?_
    refine zx_ic C d_Mod_odds_14 ?_
    refine zx_ic C d_Mod_odds_15 ?_
    refine zr_di (zr_S C l_Mod_83 d_Mod_odds_16 (As := [_, _, _]) rfl rfl (Nat.le_of_ble_eq_true rfl) (c_Mod_within G _ _ _ _) ⟨Nat.le_of_ble_eq_true rfl, Nat.le_of_ble_eq_true rfl, Nat.le_of_ble_eq_true rfl, Nat.le_of_ble_eq_true rfl⟩) ?_
    refine zx_ifB_eq C d_Mod_odds_19 (fun h19 => ?_) (fun h19 => ?_)
    · have hm2 := mrp_f hm 0
      have ev : ap_odds S set sh l i n which = (-9223372036854775808, sf S 0) := by
        by_cases hs : ¬ sh < 0 ∧ ¬ 3 < sh
        · exact odds_bad (trow_2 hs (Or.inr (fun q => h19 q.2)))
        · exact odds_bad (trow_1 (nand_or hs))
      refine zx_lc C d_Mod_odds_38 ?_
      exact zx_lret C hq d_Mod_odds_41 (by rw [ev]; exact mpost_l rfl hm2)
    · refine zx_iload C d_Mod_odds_22 rfl ?_
      refine zr_di (zr_S C l_Mod_96 d_Mod_odds_23 (As := [_]) rfl rfl (Nat.le_of_ble_eq_true rfl) (c_Mod_isSheet G _ _) ⟨Nat.le_of_ble_eq_true rfl, Nat.le_of_ble_eq_true rfl, Nat.le_of_ble_eq_true rfl, Nat.le_of_ble_eq_true rfl⟩) ?_
      refine zx_ifB_eq C d_Mod_odds_26 (fun h26 => ?_) (fun h26 => ?_)
      · have hm2 := mrp_f hm 0
        have ev : ap_odds S set sh l i n which = (-9223372036854775808, sf S 0) := odds_bad (trow_1 (nand_or h26))
        refine zx_lc C d_Mod_odds_38 ?_
        exact zx_lret C hq d_Mod_odds_41 (by rw [ev]; exact mpost_l rfl hm2)
      · refine zx_iload C d_Mod_odds_29 rfl ?_
        refine zx_iload C d_Mod_odds_30 rfl ?_
        refine zr_di (zr_S C l_Mod_175 d_Mod_odds_32 (As := [_, _]) rfl rfl (Nat.le_of_ble_eq_true rfl) (c_Mod_arePairs G _ _ _) ⟨Nat.le_of_ble_eq_true rfl, Nat.le_of_ble_eq_true rfl, Nat.le_of_ble_eq_true rfl, Nat.le_of_ble_eq_true rfl⟩) ?_
        refine zx_ifB_ne C d_Mod_odds_35 (fun h35 => ?_) (fun h35 => ?_)
        · obtain ⟨z, hz, rfl⟩ := ix_le (n := 63) (by decide) h9.1 h9.2
          have hz : z < 64 := by omega
          obtain ⟨k, hk, rfl⟩ := ix_le (n := 3) (by decide) h26.1 h26.2
          obtain ⟨nn, hnn, rfl⟩ := ix_le (n := 20) (by decide) h35.2.1 h35.2.2
          have etr := trow_3 (S := S) (l := l) (i := i) (fits := ((¬ nI z < 0 ∧ ¬ 63 < nI z) ∧ (¬ which < 0 ∧ ¬ 1 < which))) hk hnn h26 h35 ⟨h9, h19⟩
          refine zx_aload C d_Mod_odds_42 rfl ?_
          refine zx_iload C d_Mod_odds_43 rfl ?_
          refine zx_iload C d_Mod_odds_44 rfl ?_
          refine zx_iload C d_Mod_odds_45 rfl ?_
          refine zx_iload C d_Mod_odds_47 rfl ?_
          refine zr_i (zr_V C l_Mod_178 d_Mod_odds_49 (As := [_, _, _, _]) rfl rfl (Nat.le_of_ble_eq_true rfl) (c_Mod_layRow G _ _ _ _ _ (sf S 0) (by exact mrp_f hm 0) k nn (by omega) hnn l i) 0 rfl rfl ⟨Nat.le_of_ble_eq_true rfl, Nat.le_of_ble_eq_true rfl, Nat.le_of_ble_eq_true rfl, Nat.le_of_ble_eq_true rfl⟩) (fun r w1 hp => ?_)
          obtain ⟨rfl, F1, R1, rfl, hm1, hpr⟩ := hp
          refine zx_if_eq C d_Mod_odds_52 (fun h52 => ?_) (fun h52 => ?_)
          · obtain ⟨g1, g2, g3, g4⟩ := lrow_0 h52
            rw [g3] at hm1
            have hm1 : mrp (sf S 0) F1 R1 := hm1
            have hp1 : prow (aT S) (rowP S k i.toNatClampNeg nn) F1 R1 := hpr h52
            have ev0 : ap_odds S (nI z) (nI k) l i (nI nn) which = _ := odds_go etr h52
            rw [apR_n hk hnn, nI_cl (by omega)] at ev0
            have ht := mrp_tok hm
            have hpk := prow_pok hp1
            have hT6 : (aT S).1 ≤ 6 := ht.1
            have h64 : 2 ^ (aT S).1 ≤ 64 := show 2 ^ (aT S).1 ≤ 2 ^ 6 from Nat.pow_le_pow_right (by decide) hT6
            have hpos : 0 < 2 ^ (aT S).1 := Nat.pow_pos (by decide)
            have eb : (1 : Int32) <<< (F1 5 &&& 31) = nI (2 ^ (aT S).1) := by rw [show F1 5 = nI (aT S).1 from mrp_e5 (S := sf S 0) hm1]; exact q_shl1 _ (by omega)
            have eL : (1 : Int64) <<< ((F1 5).toInt64 &&& 63) = lN (2 ^ (aT S).1) := by rw [show F1 5 = nI (aT S).1 from mrp_e5 (S := sf S 0) hm1]; exact q_shl1L _ (by omega)
            have hc := ctw_le (aT S) (rowP S k i.toNatClampNeg nn) z (2 ^ (aT S).1)
            have loop : ∀ n c fa rb, c + n = 2 ^ (aT S).1 → ZV G Y 0 0 65 [(0, .ref o), (1, .int (nI z)), (2, .int (nI k)), (3, .int l), (4, .int i), (5, .int (nI nn)), (6, .int which), (7, .int (nI (ctw (aT S) (rowP S k i.toNatClampNeg nn) z c))), (8, .int (nI c))] [] (mw G o ad (upd F1 27 fa) (ur R1 24 rb) ++ X) := by
              intro n
              induction n with
              | zero =>
                intro c fa rb hh
                obtain rfl : c = 2 ^ (aT S).1 := by omega
                refine zx_iload C d_Mod_odds_65 rfl ?_
                refine zx_ic C d_Mod_odds_67 ?_
                refine zx_aload C d_Mod_odds_68 rfl ?_
                refine zm_g C f_Mod_87_12 d_Mod_odds_69 rfl ?_
                refine zx_ishl C d_Mod_odds_72 ?_
                rw [show upd F1 27 fa 5 = F1 5 from rfl, eb]
                refine zx_ic_ge C d_Mod_odds_73 (fun h73 => ?_) (fun h73 => ?_)
                · refine zx_iload C d_Mod_odds_105 rfl ?_
                  refine zx_i2l C d_Mod_odds_107 ?_
                  refine zx_lc C d_Mod_odds_108 ?_
                  refine zx_aload C d_Mod_odds_109 rfl ?_
                  refine zm_g C f_Mod_87_12 d_Mod_odds_110 rfl ?_
                  refine zx_lshl C d_Mod_odds_113 ?_
                  rw [show upd F1 27 fa 5 = F1 5 from rfl, eL, nI_l (by omega)]
                  refine zx_iload C d_Mod_odds_114 rfl ?_
                  refine zr_dl (zr_S C l_Mod_228 d_Mod_odds_116 (As := [_, _, _]) rfl rfl (Nat.le_of_ble_eq_true rfl) (c_Mod_inLeastTerms G _ _ _ (by omega) h64 hpos which) ⟨Nat.le_of_ble_eq_true rfl, Nat.le_of_ble_eq_true rfl, Nat.le_of_ble_eq_true rfl, Nat.le_of_ble_eq_true rfl⟩) ?_
                  exact zx_lret C hq d_Mod_odds_119 (by rw [ev0]; exact mpost_l rfl hm1)
                · exact absurd (Int32.le_refl _) h73
              | succ n ih =>
                intro c fa rb hh
                have hc2 := ctw_le (aT S) (rowP S k i.toNatClampNeg nn) z c
                have e1 := run_end_lt ht hpk (wo := c)
                have hu : ctw (aT S) (rowP S k i.toNatClampNeg nn) z (c + 1) = ctw (aT S) (rowP S k i.toNatClampNeg nn) z c + (if z &&& endA (aT S) (rowP S k i.toNatClampNeg nn) c = z then 1 else 0) := rfl
                refine zx_iload C d_Mod_odds_65 rfl ?_
                refine zx_ic C d_Mod_odds_67 ?_
                refine zx_aload C d_Mod_odds_68 rfl ?_
                refine zm_g C f_Mod_87_12 d_Mod_odds_69 rfl ?_
                refine zx_ishl C d_Mod_odds_72 ?_
                rw [show upd F1 27 fa 5 = F1 5 from rfl, eb]
                refine zx_ic_ge C d_Mod_odds_73 (fun h73 => ?_) (fun h73 => ?_)
                · exact absurd h73 (nI_ge (by omega) (by omega))
                · refine zx_iload C d_Mod_odds_76 rfl ?_
                  refine zx_iload C d_Mod_odds_78 rfl ?_
                  refine zx_aload C d_Mod_odds_79 rfl ?_
                  refine zx_iload C d_Mod_odds_80 rfl ?_
                  refine zr_di (zr_V C l_Mod_181 d_Mod_odds_82 (As := [_]) rfl rfl (Nat.le_of_ble_eq_true rfl) (c_Mod_ends G _ _ _ _ _ (aT S) (by exact hm1.2.2.2.2.1) (rowP S k i.toNatClampNeg nn) (by exact hp1) none (by exact hm1.2.2.2.2.2.1) (by intro q hq; cases hq) c (by omega)) 0 rfl rfl ⟨Nat.le_of_ble_eq_true rfl, Nat.le_of_ble_eq_true rfl, Nat.le_of_ble_eq_true rfl, Nat.le_of_ble_eq_true rfl⟩) ?_
                  rw [upd_upd, ur_ur]
                  refine zx_ic C d_Mod_odds_85 ?_
                  refine zx_ixor C d_Mod_odds_86 ?_
                  refine zx_iand C d_Mod_odds_87 ?_
                  refine zx_if_ne C d_Mod_odds_88 (fun h88 => ?_) (fun h88 => ?_)
                  · rw [if_neg (fun q => h88 ((q_subI hz e1).mpr q))] at hu
                    refine zx_ic C d_Mod_odds_95 ?_
                    refine zx_iadd C d_Mod_odds_96 ?_
                    refine zx_istore C d_Mod_odds_97 (by decide) (lv1 := [(7, _), (0, _), (1, _), (2, _), (3, _), (4, _), (5, _), (6, _), (8, _)]) rfl ?_
                    refine zx_iinc C d_Mod_odds_99 (by decide) rfl (lv1 := [(8, _), (7, _), (0, _), (1, _), (2, _), (3, _), (4, _), (5, _), (6, _)]) rfl ?_
                    refine zx_goto C d_Mod_odds_102 ?_
                    have k1 := ih (c + 1) (gbg (aT S) (rowP S k i.toNatClampNeg nn) c none (aT S).2.2.1) (wrow (rowP S k i.toNatClampNeg nn).1 (run (aT S) (rowP S k i.toNatClampNeg nn) c (oeF (aT S) (rowP S k i.toNatClampNeg nn) c none) (aT S).2.2.1).2.2.2 (ur R1 24 rb 24)) (by omega)
                    rw [hu, ← nI_add, nI_succ c] at k1
                    exact zx_lv [0, 1, 2, 3, 4, 5, 6, 7, 8] rfl k1
                  · rw [if_pos ((q_subI hz e1).mp h88)] at hu
                    refine zx_ic C d_Mod_odds_91 ?_
                    refine zx_goto C d_Mod_odds_92 ?_
                    refine zx_iadd C d_Mod_odds_96 ?_
                    refine zx_istore C d_Mod_odds_97 (by decide) (lv1 := [(7, _), (0, _), (1, _), (2, _), (3, _), (4, _), (5, _), (6, _), (8, _)]) rfl ?_
                    refine zx_iinc C d_Mod_odds_99 (by decide) rfl (lv1 := [(8, _), (7, _), (0, _), (1, _), (2, _), (3, _), (4, _), (5, _), (6, _)]) rfl ?_
                    refine zx_goto C d_Mod_odds_102 ?_
                    have k1 := ih (c + 1) (gbg (aT S) (rowP S k i.toNatClampNeg nn) c none (aT S).2.2.1) (wrow (rowP S k i.toNatClampNeg nn).1 (run (aT S) (rowP S k i.toNatClampNeg nn) c (oeF (aT S) (rowP S k i.toNatClampNeg nn) c none) (aT S).2.2.1).2.2.2 (ur R1 24 rb 24)) (by omega)
                    rw [hu, ← nI_add, nI_succ c] at k1
                    exact zx_lv [0, 1, 2, 3, 4, 5, 6, 7, 8] rfl k1
            refine zx_ic C d_Mod_odds_59 ?_
            refine zx_istore C d_Mod_odds_60 (by decide) (lv1 := [(7, _), (0, _), (1, _), (2, _), (3, _), (4, _), (5, _), (6, _)]) rfl ?_
            refine zx_ic C d_Mod_odds_62 ?_
            refine zx_istore C d_Mod_odds_63 (by decide) (lv1 := [(8, _), (7, _), (0, _), (1, _), (2, _), (3, _), (4, _), (5, _), (6, _)]) rfl ?_
            exact zx_lv [0, 1, 2, 3, 4, 5, 6, 7, 8] rfl (by have k1 := loop (2 ^ (aT S).1) 0 (F1 27) (R1 24) (by omega); rw [upd_self, ur_self] at k1; exact k1)
          · have ev : ap_odds S (nI z) (nI k) l i (nI nn) which = _ := odds_ne etr h52
            have hm2 := hm1
            refine zx_lc C d_Mod_odds_55 ?_
            exact zx_lret C hq d_Mod_odds_58 (by rw [ev]; exact mpost_l rfl hm2)
        · have hm2 := mrp_f hm 0
          have ev : ap_odds S set sh l i n which = (-9223372036854775808, sf S 0) := odds_bad (trow_2 h26 (Or.inl (nand4 h35)))
          refine zx_lc C d_Mod_odds_38 ?_
          exact zx_lret C hq d_Mod_odds_41 (by rw [ev]; exact mpost_l rfl hm2)
set_option maxHeartbeats 4000000 in
set_option maxRecDepth 20000 in
theorem c_Mod_others (G : ZG) (o : Nat) (ad : Nat → Nat) (F : Nat → Int32) (R : Nat → Nat → Int32) (X : va_W) (S : ZA) (hm : mrp S F R) (set kk sh l i n : Int32) : ZM G y_Mod_others b_Mod_others 12 (some .int) r_Mod_others [.ref o, .int set, .int kk, .int sh, .int l, .int i, .int n] (mw G o ad F R ++ X) (mpost G o ad X (ap_others S set kk sh l i n).1 (ap_others S set kk sh l i n).2) := by
  refine ZM.of "SameTuesdayModel" "others" rfl rfl (by decide) (Nat.le_of_ble_eq_true rfl) (fun Y C hq => ?_)
  change ZV G Y 0 0 0 [(0, .ref o), (1, .int set), (2, .int kk), (3, .int sh), (4, .int l), (5, .int i), (6, .int n)] [] (mw G o ad F R ++ X)
  refine zx_aload C d_Mod_others_0 rfl ?_
  refine zx_ic C d_Mod_others_1 ?_
  refine zm_p C p_Mod_78_12 d_Mod_others_2 zb_fit_i (Nat.le_of_ble_eq_true rfl) zms_0 ?_
  refine zx_iload C d_Mod_others_5 rfl ?_
  refine zx_ic C d_Mod_others_6 ?_
  refine zx_ic_lt C d_Mod_others_7 (fun h7 => ?_) (fun h7 => ?_)
  · have ev : ap_others S set kk sh l i n = (-1, sf S 0) := if_pos h7
    have hm2 := mrp_f hm 0
    refine zx_ic C d_Mod_others_17 ?_
    exact zx_iret C hq d_Mod_others_18 (by rw [ev]; exact mpost_i rfl hm2)
  · have evk : ap_others S set kk sh l i n = _ := if_neg h7
    refine zx_iload C d_Mod_others_10 rfl ?_
    refine zr_di (zr_S C l_Mod_96 d_Mod_others_11 (As := [_]) rfl rfl (Nat.le_of_ble_eq_true rfl) (c_Mod_isSheet G _ _) ⟨Nat.le_of_ble_eq_true rfl, Nat.le_of_ble_eq_true rfl, Nat.le_of_ble_eq_true rfl, Nat.le_of_ble_eq_true rfl⟩) ?_
    refine zx_ifB_ne C d_Mod_others_14 (fun h14 => ?_) (fun h14 => ?_)
    · refine zx_iload C d_Mod_others_19 rfl ?_
      refine zr_di (zr_S C l_Mod_210 d_Mod_others_20 (As := [_]) rfl rfl (Nat.le_of_ble_eq_true rfl) (c_Mod_isSet G _ _) ⟨Nat.le_of_ble_eq_true rfl, Nat.le_of_ble_eq_true rfl, Nat.le_of_ble_eq_true rfl, Nat.le_of_ble_eq_true rfl⟩) ?_
      refine zx_ifB_eq C d_Mod_others_23 (fun h23 => ?_) (fun h23 => ?_)
      · have ev : ap_others S set kk sh l i n = (-2, sf S 0) := evk.trans (apT_bad (trow_2 h14 (Or.inr h23)) (by decide))
        have hm2 := mrp_f hm 0
        refine zx_ic C d_Mod_others_36 ?_
        exact zx_iret C hq d_Mod_others_38 (by rw [ev]; exact mpost_i rfl hm2)
      · refine zx_iload C d_Mod_others_26 rfl ?_
        refine zx_iload C d_Mod_others_28 rfl ?_
        refine zr_di (zr_S C l_Mod_175 d_Mod_others_30 (As := [_, _]) rfl rfl (Nat.le_of_ble_eq_true rfl) (c_Mod_arePairs G _ _ _) ⟨Nat.le_of_ble_eq_true rfl, Nat.le_of_ble_eq_true rfl, Nat.le_of_ble_eq_true rfl, Nat.le_of_ble_eq_true rfl⟩) ?_
        refine zx_ifB_ne C d_Mod_others_33 (fun h33 => ?_) (fun h33 => ?_)
        · obtain ⟨z, hz, rfl⟩ := ix_le (n := 63) (by decide) h23.1 h23.2
          obtain ⟨k, hk, rfl⟩ := ix_le (n := 3) (by decide) h14.1 h14.2
          obtain ⟨nn, hnn, rfl⟩ := ix_le (n := 20) (by decide) h33.2.1 h33.2.2
          have etr := trow_3 (S := S) (l := l) (i := i) (fits := (¬ nI z < 0 ∧ ¬ 63 < nI z)) hk hnn h14 h33 h23
          refine zx_aload C d_Mod_others_39 rfl ?_
          refine zx_iload C d_Mod_others_40 rfl ?_
          refine zx_iload C d_Mod_others_41 rfl ?_
          refine zx_iload C d_Mod_others_43 rfl ?_
          refine zx_iload C d_Mod_others_45 rfl ?_
          refine zr_i (zr_V C l_Mod_178 d_Mod_others_47 (As := [_, _, _, _]) rfl rfl (Nat.le_of_ble_eq_true rfl) (c_Mod_layRow G _ _ _ _ _ (sf S 0) (by exact mrp_f hm 0) k nn (by omega) hnn l i) 0 rfl rfl ⟨Nat.le_of_ble_eq_true rfl, Nat.le_of_ble_eq_true rfl, Nat.le_of_ble_eq_true rfl, Nat.le_of_ble_eq_true rfl⟩) (fun r w1 hp => ?_)
          obtain ⟨rfl, F1, R1, rfl, hm1, hpr⟩ := hp
          refine zx_istore C d_Mod_others_50 (by decide) (lv1 := [(7, _), (0, _), (1, _), (2, _), (3, _), (4, _), (5, _), (6, _)]) rfl ?_
          refine zx_iload C d_Mod_others_52 rfl ?_
          refine zx_if_eq C d_Mod_others_54 (fun h54 => ?_) (fun h54 => ?_)
          · obtain ⟨g1, g2, g3, g4⟩ := lrow_0 h54
            rw [g3] at hm1
            have hm1 : mrp (sf S 0) F1 R1 := hm1
            have hp1 : prow (aT S) (rowP S k i.toNatClampNeg nn) F1 R1 := hpr h54
            have ev0 : ap_others S (nI z) kk (nI k) l i (nI nn) = _ := evk.trans (apT_go etr h54)
            rw [apR_n hk hnn, nI_cl (by omega)] at ev0
            have ht := mrp_tok hm
            rw [h54]
            have hpk := prow_pok hp1
            have hD5 : (aT S).2.1 ≤ 5 := ht.2.1
            have hM : (aT S).2.2.1 ≤ 60 := ht.2.2.1
            have outer : ∀ n m Fc Rc, m + n = (aT S).2.2.1 → oSt F1 R1 Fc Rc → ZV G Y 0 0 70 [(0, .ref o), (1, .int (nI z)), (2, .int kk), (3, .int (nI k)), (4, .int l), (5, .int i), (6, .int (nI nn)), (7, .int 0), (8, .int (nI (olpM (aT S) (rowP S k i.toNatClampNeg nn) z kk m).1)), (9, .int (olpM (aT S) (rowP S k i.toNatClampNeg nn) z kk m).2), (10, .int (nI m))] [] (mw G o ad Fc Rc ++ X) := by
              intro n
              induction n with
              | zero =>
                intro m Fc Rc hmn ho
                obtain rfl : m = (aT S).2.2.1 := by omega
                have c7 : Fc 7 = nI (aT S).2.2.1 := (ho.1 7 (by decide) (by decide) (by decide)).trans (mrp_e7 (S := sf S 0) hm1)
                refine zx_iload C d_Mod_others_70 rfl ?_
                refine zx_aload C d_Mod_others_72 rfl ?_
                refine zm_g C f_Mod_120_12 d_Mod_others_73 rfl ?_
                refine zx_ic_ge C d_Mod_others_76 (fun h76 => ?_) (fun h76 => ?_)
                · refine zx_aload C d_Mod_others_155 rfl ?_
                  refine zx_ic C d_Mod_others_156 ?_
                  refine zm_p C p_Mod_59_12 d_Mod_others_158 zb_fit_i (Nat.le_of_ble_eq_true rfl) zms_25 ?_
                  refine zx_iload C d_Mod_others_161 rfl ?_
                  refine zx_ic C d_Mod_others_162 ?_
                  refine zx_ic_ne C d_Mod_others_163 (fun h163 => ?_) (fun h163 => ?_)
                  · rw [if_neg h163] at ev0
                    refine zx_iload C d_Mod_others_171 rfl ?_
                    exact zx_iret C hq d_Mod_others_173 (by rw [ev0]; exact mpost_i rfl (oSt_mrp ho hm1))
                  · rw [if_pos h163] at ev0
                    refine zx_iload C d_Mod_others_166 rfl ?_
                    refine zx_goto C d_Mod_others_168 ?_
                    exact zx_iret C hq d_Mod_others_173 (by rw [ev0]; exact mpost_i rfl (oSt_mrp ho hm1))
                · exact absurd (by rw [c7]; exact Int32.le_refl _) h76
              | succ n ihm =>
                intro m Fc Rc hmn ho
                have c7 : Fc 7 = nI (aT S).2.2.1 := (ho.1 7 (by decide) (by decide) (by decide)).trans (mrp_e7 (S := sf S 0) hm1)
                have inner : ∀ n d Fc Rc, d + n = (aT S).2.1 → oSt F1 R1 Fc Rc → ZV G Y 0 0 82 [(0, .ref o), (1, .int (nI z)), (2, .int kk), (3, .int (nI k)), (4, .int l), (5, .int i), (6, .int (nI nn)), (7, .int 0), (8, .int (nI (olpD (aT S) (rowP S k i.toNatClampNeg nn) z kk m d (olpM (aT S) (rowP S k i.toNatClampNeg nn) z kk m)).1)), (9, .int (olpD (aT S) (rowP S k i.toNatClampNeg nn) z kk m d (olpM (aT S) (rowP S k i.toNatClampNeg nn) z kk m)).2), (10, .int (nI m)), (11, .int (nI d))] [] (mw G o ad Fc Rc ++ X) := by
                  intro n
                  induction n with
                  | zero =>
                    intro d Fc Rc hd ho
                    obtain rfl : d = (aT S).2.1 := by omega
                    have c6 : Fc 6 = nI (aT S).2.1 := (ho.1 6 (by decide) (by decide) (by decide)).trans (mrp_e6 (S := sf S 0) hm1)
                    refine zx_iload C d_Mod_others_82 rfl ?_
                    refine zx_aload C d_Mod_others_84 rfl ?_
                    refine zm_g C f_Mod_90_12 d_Mod_others_85 rfl ?_
                    refine zx_ic_ge C d_Mod_others_88 (fun h88 => ?_) (fun h88 => ?_)
                    · refine zx_iinc C d_Mod_others_149 (by decide) rfl (lv1 := [(10, _), (0, _), (1, _), (2, _), (3, _), (4, _), (5, _), (6, _), (7, _), (8, _), (9, _), (11, _)]) rfl ?_
                      refine zx_goto C d_Mod_others_152 ?_
                      have k1 := ihm (m + 1) Fc Rc (by omega) ho
                      rw [nI_succ m] at k1
                      exact zx_lv [0, 1, 2, 3, 4, 5, 6, 7, 8, 9, 10] rfl k1
                    · exact absurd (by rw [c6]; exact Int32.le_refl _) h88
                  | succ n ih =>
                    intro d Fc Rc hd ho
                    have c6 : Fc 6 = nI (aT S).2.1 := (ho.1 6 (by decide) (by decide) (by decide)).trans (mrp_e6 (S := sf S 0) hm1)
                    have hdl : d < (aT S).2.1 := by omega
                    have hcn : (olpD (aT S) (rowP S k i.toNatClampNeg nn) z kk m d (olpM (aT S) (rowP S k i.toNatClampNeg nn) z kk m)).1 ≤ 5 * m + d := by have := olpM_le hD5 (P := (rowP S k i.toNatClampNeg nn)) (set := z) (k := kk) (m := m); have := olpD_le (T := (aT S)) (P := (rowP S k i.toNatClampNeg nn)) (set := z) (m := m) (k := kk) (s := (olpM (aT S) (rowP S k i.toNatClampNeg nn) z kk m)) (d := d); omega
                    have hu : olpD (aT S) (rowP S k i.toNatClampNeg nn) z kk m (d + 1) (olpM (aT S) (rowP S k i.toNatClampNeg nn) z kk m) = ostp (aT S) (rowP S k i.toNatClampNeg nn) z kk m d (olpD (aT S) (rowP S k i.toNatClampNeg nn) z kk m d (olpM (aT S) (rowP S k i.toNatClampNeg nn) z kk m)) := rfl
                    have er := (run_ok ht hpk (wo := 0) (oeF_lt (P := (rowP S k i.toNatClampNeg nn)) (wo := 0) (oth := some (m, d)) (fun q hq => by cases hq; exact hdl)) (m := (aT S).2.2.1) ht.2.2.1).1
                    have hon : oSt F1 R1 (upd (upd (upd Fc 25 (nI d)) 26 (nI m)) 27 (gbg (aT S) (rowP S k i.toNatClampNeg nn) 0 (some (m, d)) (aT S).2.2.1)) (ur Rc 24 (wrow (rowP S k i.toNatClampNeg nn).1 (run (aT S) (rowP S k i.toNatClampNeg nn) 0 (oeF (aT S) (rowP S k i.toNatClampNeg nn) 0 (some (m, d))) (aT S).2.2.1).2.2.2 (Rc 24))) := oSt_R (oSt_F (oSt_F (oSt_F ho 25 _ (Or.inl rfl)) 26 _ (Or.inr (Or.inl rfl))) 27 _ (Or.inr (Or.inr rfl))) _
                    have ho2 : oSt F1 R1 (upd (upd Fc 25 (nI d)) 26 (nI m)) Rc := oSt_F (oSt_F ho 25 _ (Or.inl rfl)) 26 _ (Or.inr (Or.inl rfl))
                    have k143 : ∀ (c1 : Nat) (i1 : Int32), (olpD (aT S) (rowP S k i.toNatClampNeg nn) z kk m (d + 1) (olpM (aT S) (rowP S k i.toNatClampNeg nn) z kk m)) = (c1, i1) → ZV G Y 0 0 143 [(0, .ref o), (1, .int (nI z)), (2, .int kk), (3, .int (nI k)), (4, .int l), (5, .int i), (6, .int (nI nn)), (7, .int 0), (8, .int (nI c1)), (9, .int i1), (10, .int (nI m)), (11, .int (nI d))] [] (mw G o ad (upd (upd (upd Fc 25 (nI d)) 26 (nI m)) 27 (gbg (aT S) (rowP S k i.toNatClampNeg nn) 0 (some (m, d)) (aT S).2.2.1)) (ur Rc 24 (wrow (rowP S k i.toNatClampNeg nn).1 (run (aT S) (rowP S k i.toNatClampNeg nn) 0 (oeF (aT S) (rowP S k i.toNatClampNeg nn) 0 (some (m, d))) (aT S).2.2.1).2.2.2 (Rc 24))) ++ X) := by
                      intro c1 i1 hc1
                      refine zx_iinc C d_Mod_others_143 (by decide) rfl (lv1 := [(11, _), (0, _), (1, _), (2, _), (3, _), (4, _), (5, _), (6, _), (7, _), (8, _), (9, _), (10, _)]) rfl ?_
                      refine zx_goto C d_Mod_others_146 ?_
                      have k1 := ih (d + 1) _ _ (by omega) hon
                      rw [hc1, nI_succ d] at k1
                      exact zx_lv [0, 1, 2, 3, 4, 5, 6, 7, 8, 9, 10, 11] rfl k1
                    refine zx_iload C d_Mod_others_82 rfl ?_
                    refine zx_aload C d_Mod_others_84 rfl ?_
                    refine zm_g C f_Mod_90_12 d_Mod_others_85 rfl ?_
                    refine zx_ic_ge C d_Mod_others_88 (fun h88 => ?_) (fun h88 => ?_)
                    · exact absurd h88 (by rw [c6]; exact nI_ge (by omega) (by omega))
                    · refine zx_aload C d_Mod_others_91 rfl ?_
                      refine zx_iload C d_Mod_others_92 rfl ?_
                      refine zm_p C p_Mod_59_12 d_Mod_others_94 zb_fit_i (Nat.le_of_ble_eq_true rfl) zms_25 ?_
                      refine zx_aload C d_Mod_others_97 rfl ?_
                      refine zx_iload C d_Mod_others_98 rfl ?_
                      refine zm_p C p_Mod_163_12 d_Mod_others_100 zb_fit_i (Nat.le_of_ble_eq_true rfl) zms_26 ?_
                      refine zx_aload C d_Mod_others_103 rfl ?_
                      refine zx_ic C d_Mod_others_104 ?_
                      refine zr_di (zr_V C l_Mod_181 d_Mod_others_105 (As := [_]) rfl rfl (Nat.le_of_ble_eq_true rfl) (c_Mod_ends G _ _ _ _ _ (aT S) (by exact oSt_mrep ho2 hm1.2.2.2.2.1) (rowP S k i.toNatClampNeg nn) (by exact oSt_prow ho2 hp1) (some (m, d)) (by rfl) (by intro q hq; cases hq; exact ⟨rfl, by omega, hdl⟩) 0 (by decide)) 0 rfl rfl ⟨Nat.le_of_ble_eq_true rfl, Nat.le_of_ble_eq_true rfl, Nat.le_of_ble_eq_true rfl, Nat.le_of_ble_eq_true rfl⟩) ?_
                      refine zx_iload C d_Mod_others_108 rfl ?_
                      refine zx_ic_ne C d_Mod_others_109 (fun h109 => ?_) (fun h109 => ?_)
                      · rw [ostp_no (oth1_no1 (fun q => h109 (congrArg nI q)))] at hu
                        have k1 := k143 _ _ hu
                        try rw [nI_succ] at k1
                        exact zx_lv [0, 1, 2, 3, 4, 5, 6, 7, 8, 9, 10, 11] rfl k1
                      · have e109 := (nI_eq (by omega) (by omega)).mp h109
                        refine zx_aload C d_Mod_others_112 rfl ?_
                        refine zm_g C f_Mod_152_12 d_Mod_others_113 rfl ?_
                        refine zx_if_eq C d_Mod_others_116 (fun h116 => ?_) (fun h116 => ?_)
                        · rw [ostp_no (oth1_no2 (by omega) h116)] at hu
                          have k1 := k143 _ _ hu
                          try rw [nI_succ] at k1
                          exact zx_lv [0, 1, 2, 3, 4, 5, 6, 7, 8, 9, 10, 11] rfl k1
                        · rw [ostp_yes (oth1_of (by omega) e109 h116)] at hu
                          refine zx_iload C d_Mod_others_119 rfl ?_
                          refine zx_iload C d_Mod_others_121 rfl ?_
                          refine zx_ic_ne C d_Mod_others_122 (fun h122 => ?_) (fun h122 => ?_)
                          · rw [if_neg h122] at hu
                            skip
                            refine zx_iload C d_Mod_others_136 rfl ?_
                            refine zx_istore C d_Mod_others_138 (by decide) (lv1 := [(9, _), (0, _), (1, _), (2, _), (3, _), (4, _), (5, _), (6, _), (7, _), (8, _), (10, _), (11, _)]) rfl ?_
                            refine zx_iinc C d_Mod_others_140 (by decide) rfl (lv1 := [(8, _), (9, _), (0, _), (1, _), (2, _), (3, _), (4, _), (5, _), (6, _), (7, _), (10, _), (11, _)]) rfl ?_
                            have k1 := k143 _ _ hu
                            try rw [nI_succ] at k1
                            exact zx_lv [0, 1, 2, 3, 4, 5, 6, 7, 8, 9, 10, 11] rfl k1
                          · rw [if_pos h122] at hu
                            have e10 : (10 : Int32) * nI m + nI d = nI (10 * m + d) := by rw [show (10 : Int32) = nI 10 from rfl, pk_mul, nI_add]
                            rw [← e10] at hu
                            refine zx_ic C d_Mod_others_125 ?_
                            refine zx_iload C d_Mod_others_127 rfl ?_
                            refine zx_imul C d_Mod_others_129 ?_
                            refine zx_iload C d_Mod_others_130 rfl ?_
                            refine zx_iadd C d_Mod_others_132 ?_
                            refine zx_goto C d_Mod_others_133 ?_
                            refine zx_istore C d_Mod_others_138 (by decide) (lv1 := [(9, _), (0, _), (1, _), (2, _), (3, _), (4, _), (5, _), (6, _), (7, _), (8, _), (10, _), (11, _)]) rfl ?_
                            refine zx_iinc C d_Mod_others_140 (by decide) rfl (lv1 := [(8, _), (9, _), (0, _), (1, _), (2, _), (3, _), (4, _), (5, _), (6, _), (7, _), (10, _), (11, _)]) rfl ?_
                            have k1 := k143 _ _ hu
                            try rw [nI_succ] at k1
                            exact zx_lv [0, 1, 2, 3, 4, 5, 6, 7, 8, 9, 10, 11] rfl k1
                refine zx_iload C d_Mod_others_70 rfl ?_
                refine zx_aload C d_Mod_others_72 rfl ?_
                refine zm_g C f_Mod_120_12 d_Mod_others_73 rfl ?_
                refine zx_ic_ge C d_Mod_others_76 (fun h76 => ?_) (fun h76 => ?_)
                · exact absurd h76 (by rw [c7]; exact nI_ge (by omega) (by omega))
                · refine zx_ic C d_Mod_others_79 ?_
                  refine zx_istore C d_Mod_others_80 (by decide) (lv1 := [(11, _), (0, _), (1, _), (2, _), (3, _), (4, _), (5, _), (6, _), (7, _), (8, _), (9, _), (10, _)]) rfl ?_
                  exact zx_lv [0, 1, 2, 3, 4, 5, 6, 7, 8, 9, 10, 11] rfl (inner (aT S).2.1 0 Fc Rc (by omega) ho)
            refine zx_ic C d_Mod_others_60 ?_
            refine zx_istore C d_Mod_others_61 (by decide) (lv1 := [(8, _), (7, _), (0, _), (1, _), (2, _), (3, _), (4, _), (5, _), (6, _)]) rfl ?_
            refine zx_ic C d_Mod_others_63 ?_
            refine zx_istore C d_Mod_others_65 (by decide) (lv1 := [(9, _), (8, _), (7, _), (0, _), (1, _), (2, _), (3, _), (4, _), (5, _), (6, _)]) rfl ?_
            refine zx_ic C d_Mod_others_67 ?_
            refine zx_istore C d_Mod_others_68 (by decide) (lv1 := [(10, _), (9, _), (8, _), (7, _), (0, _), (1, _), (2, _), (3, _), (4, _), (5, _), (6, _)]) rfl ?_
            exact zx_lv [0, 1, 2, 3, 4, 5, 6, 7, 8, 9, 10] rfl (outer (aT S).2.2.1 0 F1 R1 (by omega) ⟨fun _ _ _ _ => rfl, fun _ _ => rfl⟩)
          · have ev : ap_others S (nI z) kk (nI k) l i (nI nn) = _ := evk.trans (apT_ne etr h54)
            have hm2 := hm1
            refine zx_iload C d_Mod_others_57 rfl ?_
            exact zx_iret C hq d_Mod_others_59 (by rw [ev]; exact mpost_i rfl hm2)
        · have ev : ap_others S set kk sh l i n = (-2, sf S 0) := evk.trans (apT_bad (trow_2 h14 (Or.inl (nand4 h33))) (by decide))
          have hm2 := mrp_f hm 0
          refine zx_ic C d_Mod_others_36 ?_
          exact zx_iret C hq d_Mod_others_38 (by rw [ev]; exact mpost_i rfl hm2)
    · have ev : ap_others S set kk sh l i n = (-1, sf S 0) := evk.trans (apT_bad (trow_1 (nand_or h14)) (by decide))
      have hm2 := mrp_f hm 0
      refine zx_ic C d_Mod_others_17 ?_
      exact zx_iret C hq d_Mod_others_18 (by rw [ev]; exact mpost_i rfl hm2)
