theorem p2_64 {n : Nat} (h : n ≤ 6) : 2 ^ n ≤ 64 := Nat.pow_le_pow_right (n := 2) (by decide) h
set_option maxHeartbeats 600000 in
set_option maxRecDepth 20000 in
theorem c_Life_countWaysTo (G : ZG) (ad : Nat → Nat) (I : Nat → Int32) (L : Nat → Int64) (g : Option Nat) (QH QD : Nat → Option Nat) (RI : Nat → Nat → Int32) (RL : Nat → Nat → Int64) (X : va_W) (S : ZA) (hA dA : Nat → Nat) (hm : crp S hA dA I L QH QD RI RL) (P : ZP) (hp : cprow (aT S) P I RI) (h1 : 1 ≤ (aT S).2.2.1) (set : Nat) (hs : set < 64) : ZM G y_Life_countWaysTo b_Life_countWaysTo 4 (some .int) r_Life_countWaysTo [.ref (ad 13), .int (nI set)] (cw G ad I L g none QH QD RI RL ++ pw hA dA (aT S) X) (zpi (fun r w => r = nI (ctw (aT S) P set (2 ^ (aT S).1)) ∧ ∃ (I2 : Nat → Int32) (L2 : Nat → Int64) (g2 : Option Nat) (RL2 : Nat → Nat → Int64), w = cw G ad I2 L2 g2 none QH QD RI RL2 ++ pw hA dA (aT S) X ∧ crp S hA dA I2 L2 QH QD RI RL2)) := by
  refine ZM.of "SameTuesday$Life" "countWaysTo" rfl rfl (by decide) (Nat.le_of_ble_eq_true rfl) (fun Y C hq => ?_)
  change ZV G Y 0 0 0 [(0, .ref (ad 13)), (1, .int (nI set))] [] (cw G ad I L g none QH QD RI RL ++ pw hA dA (aT S) X)
  have h60 := hm.1.2.1.2.2.1
  have h6 := hm.1.2.1.1
  have hpw := p2_64 h6
  have lp : ∀ c t (I3 : Nat → Int32) (L3 : Nat → Int64) (g3 : Option Nat) (RL3 : Nat → Nat → Int64), t + c = (2 ^ (aT S).1) → crp S hA dA I3 L3 QH QD RI RL3 → cprow (aT S) P I3 RI → ZV G Y 0 0 4 [(0, .ref (ad 13)), (1, .int (nI set)), (2, .int (nI (cntN (wyE (aT S) P set) t))), (3, .int (nI t))] [] (cw G ad I3 L3 g3 none QH QD RI RL3 ++ pw hA dA (aT S) X) := by
    intro c
    induction c with
    | zero =>
      intro t I3 L3 g3 RL3 hc hm3 hp3
      obtain rfl : t = (2 ^ (aT S).1) := by omega
      refine zx_iload C d_Life_countWaysTo_4 rfl ?_
      refine zx_ic C d_Life_countWaysTo_5 ?_
      refine zx_aload C d_Life_countWaysTo_6 rfl ?_
      refine zx_get C f_Life_9_4 d_Life_countWaysTo_7 13 zcw_13 rfl ?_
      refine zr_di (zr_V C l_Life_124 d_Life_countWaysTo_10 (As := []) rfl rfl (Nat.le_of_ble_eq_true rfl) (c_Twn_happeningCount G _ _ _ _ _ _ _ _ _ _) 10 zcw_10 rfl ⟨Nat.le_of_ble_eq_true rfl, Nat.le_of_ble_eq_true rfl, Nat.le_of_ble_eq_true rfl, Nat.le_of_ble_eq_true rfl⟩) ?_
      refine zx_ishl C d_Life_countWaysTo_13 ?_
      rw [show I3 9 = nI (aT S).1 from hm3.2.2.2.2.2.2.1.1, q_shl1 _ (by omega)]
      refine zx_ic_ge C d_Life_countWaysTo_14 (fun h14 => ?_) (fun h14 => ?_)
      · refine zx_iload C d_Life_countWaysTo_39 rfl ?_
        exact zx_iret C hq d_Life_countWaysTo_40 (⟨_, rfl, by rw [ctw_rev h6], I3, L3, g3, RL3, rfl, hm3⟩)
      · exact absurd (Int32.le_refl _) h14
    | succ c ih =>
      intro t I3 L3 g3 RL3 hc hm3 hp3
      have hlt := run_end_lt (T := aT S) (P := P) (wo := 63 - t) hm.1.2.1 ⟨hp.1, fun k hk => ⟨(hp.2.2 k hk).2.1, (hp.2.2 k hk).2.2.2⟩⟩
      have hal2 : endA (aT S) P (63 - t) &&& set < 64 := Nat.lt_of_le_of_lt Nat.and_le_right hs
      refine zx_iload C d_Life_countWaysTo_4 rfl ?_
      refine zx_ic C d_Life_countWaysTo_5 ?_
      refine zx_aload C d_Life_countWaysTo_6 rfl ?_
      refine zx_get C f_Life_9_4 d_Life_countWaysTo_7 13 zcw_13 rfl ?_
      refine zr_di (zr_V C l_Life_124 d_Life_countWaysTo_10 (As := []) rfl rfl (Nat.le_of_ble_eq_true rfl) (c_Twn_happeningCount G _ _ _ _ _ _ _ _ _ _) 10 zcw_10 rfl ⟨Nat.le_of_ble_eq_true rfl, Nat.le_of_ble_eq_true rfl, Nat.le_of_ble_eq_true rfl, Nat.le_of_ble_eq_true rfl⟩) ?_
      refine zx_ishl C d_Life_countWaysTo_13 ?_
      rw [show I3 9 = nI (aT S).1 from hm3.2.2.2.2.2.2.1.1, q_shl1 _ (by omega)]
      refine zx_ic_ge C d_Life_countWaysTo_14 (fun h14 => ?_) (fun h14 => ?_)
      · exact absurd h14 (nI_ge (by omega) (by omega))
      · refine zx_aload C d_Life_countWaysTo_17 rfl ?_
        refine zx_ic C d_Life_countWaysTo_18 ?_
        refine zx_iload C d_Life_countWaysTo_20 rfl ?_
        refine zr_i (zr_V C l_Life_121 d_Life_countWaysTo_21 (As := [_, _]) rfl rfl (Nat.le_of_ble_eq_true rfl) (c_Life_factsAt G ad I3 L3 g3 QH QD RI RL3 X (aT S) hA dA hm3.1.2.1 (hm3.2.2.2.2.2.2.1) P hp3 none 0 (by decide) (fun d hd => by cases hd) (fun d hd => by cases hd) h1 59 (aT S).2.2.1 (by omega) (by omega) t (63 - t) (by omega) (th_c t (by omega))) 13 zcw_13 rfl ⟨Nat.le_of_ble_eq_true rfl, Nat.le_of_ble_eq_true rfl, Nat.le_of_ble_eq_true rfl, Nat.le_of_ble_eq_true rfl⟩) (fun r w2 hfa => ?_)
        obtain ⟨rfl, I4, L4, g4, RL4, rfl, hm4, hp4, h15, hal⟩ := fa_crp hm3 hp3 hfa
        refine zx_iload C d_Life_countWaysTo_24 rfl ?_
        refine zx_iand C d_Life_countWaysTo_25 ?_
        rw [show nI (run (aT S) P (63 - t) none (aT S).2.2.1).1 &&& nI set = nI (endA (aT S) P (63 - t) &&& set) from q_andN _ hlt _ hs]
        refine zx_iload C d_Life_countWaysTo_26 rfl ?_
        refine zx_ic_ne C d_Life_countWaysTo_27 (fun h27 => ?_) (fun h27 => ?_)
        · have ev : cntN (wyE (aT S) P set) (t + 1) = cntN (wyE (aT S) P set) t := by
            show cntN (wyE (aT S) P set) t + (if wyE (aT S) P set t = true then 1 else 0) = _
            rw [if_neg (show ¬ wyE (aT S) P set t = true from fun y => h27 (congrArg nI (beq_iff_eq.mp y))), Nat.add_zero]
          refine zx_iinc C d_Life_countWaysTo_33 (by decide) rfl (lv1 := [(3, _), (0, _), (1, _), (2, _)]) rfl ?_
          refine zx_goto C d_Life_countWaysTo_36 ?_
          rw [show (1 : Int32) = nI 1 from rfl, nI_add]
          have k1 := ih (t + 1) I4 L4 g4 RL4 (by omega) hm4 hp4
          rw [ev] at k1
          exact zx_lv [0, 1, 2, 3] rfl k1
        · have e0 : endA (aT S) P (63 - t) &&& set = set := (nI_eqz (by omega) (by omega)).mp (by first | exact h27 | exact Classical.byContradiction h27)
          have ev : cntN (wyE (aT S) P set) (t + 1) = cntN (wyE (aT S) P set) t + 1 := by
            show cntN (wyE (aT S) P set) t + (if wyE (aT S) P set t = true then 1 else 0) = _
            rw [if_pos (show wyE (aT S) P set t = true from beq_iff_eq.mpr e0)]
          refine zx_iinc C d_Life_countWaysTo_30 (by decide) rfl (lv1 := [(2, _), (0, _), (1, _), (3, _)]) rfl ?_
          refine zx_iinc C d_Life_countWaysTo_33 (by decide) rfl (lv1 := [(3, _), (2, _), (0, _), (1, _)]) rfl ?_
          refine zx_goto C d_Life_countWaysTo_36 ?_
          rw [show (1 : Int32) = nI 1 from rfl, nI_add, nI_add]
          have k1 := ih (t + 1) I4 L4 g4 RL4 (by omega) hm4 hp4
          rw [ev] at k1
          exact zx_lv [0, 1, 2, 3] rfl k1
  refine zx_ic C d_Life_countWaysTo_0 ?_
  refine zx_istore C d_Life_countWaysTo_1 (by decide) (lv1 := [(2, _), (0, _), (1, _)]) rfl ?_
  refine zx_ic C d_Life_countWaysTo_2 ?_
  refine zx_istore C d_Life_countWaysTo_3 (by decide) (lv1 := [(3, _), (2, _), (0, _), (1, _)]) rfl ?_
  exact zx_lv [0, 1, 2, 3] rfl (lp (2 ^ (aT S).1) 0 I L g RL (by omega) hm hp)
set_option maxHeartbeats 600000 in
set_option maxRecDepth 20000 in
theorem c_Tue_greatestCommon (G : ZG) (w : va_W) (a b : Nat) (ha : a ≤ 64) (hb : b ≤ 64) : ZM G y_Tue_greatestCommon b_Tue_greatestCommon 6 (some .int) r_Tue_greatestCommon [.int (nI a), .int (nI b)] w (zdi (nI (Nat.gcd a b)) w) := by
  refine ZM.of "SameTuesday" "greatestCommon" rfl rfl (by decide) (Nat.le_of_ble_eq_true rfl) (fun Y C hq => ?_)
  change ZV G Y 0 0 0 [(0, .int (nI a)), (1, .int (nI b))] [] w
  have lp : ∀ c x y st, y ≤ c → x ≤ 64 → st + y ≤ 64 → Nat.gcd x y = Nat.gcd a b → ZV G Y 0 0 7 [(0, .int (nI a)), (1, .int (nI b)), (2, .int (nI x)), (3, .int (nI y)), (4, .int (nI st))] [] w := by
    intro c
    induction c with
    | zero =>
      intro x y st hc hx hy hg
      obtain rfl : y = 0 := Nat.le_zero.mp hc
      have hxg : x = Nat.gcd a b := by rw [← hg, Nat.gcd_zero_right]
      refine zx_iload C d_Tue_greatestCommon_7 rfl ?_
      refine zx_ic C d_Tue_greatestCommon_9 ?_
      refine zx_ic_ge C d_Tue_greatestCommon_11 (fun h11 => ?_) (fun h11 => ?_)
      · refine zx_iload C d_Tue_greatestCommon_34 rfl ?_
        exact zx_iret C hq d_Tue_greatestCommon_35 (⟨by rw [hxg], rfl⟩)
      · refine zx_iload C d_Tue_greatestCommon_14 rfl ?_
        refine zx_if_le C d_Tue_greatestCommon_15 (fun h15 => ?_) (fun h15 => ?_)
        · refine zx_iload C d_Tue_greatestCommon_34 rfl ?_
          exact zx_iret C hq d_Tue_greatestCommon_35 (⟨by rw [hxg], rfl⟩)
        · exact absurd (Int32.le_refl _) h15
    | succ c ih =>
      intro x y st hc hx hy hg
      by_cases hy0 : y = 0
      · exact ih x y st (by omega) hx hy hg
      · have hyn : ¬ nI y = 0 := fun z => hy0 ((nI_e0 (by omega)).mp z)
        have er : nI x - nI x / nI y * nI y = nI (x % y) := pk_rem (by omega) (by omega) (by omega)
        have hlt : x % y < y := Nat.mod_lt _ (by omega)
        refine zx_iload C d_Tue_greatestCommon_7 rfl ?_
        refine zx_ic C d_Tue_greatestCommon_9 ?_
        refine zx_ic_ge C d_Tue_greatestCommon_11 (fun h11 => ?_) (fun h11 => ?_)
        · exact absurd h11 (nI_ge (b := 64) (by omega) (by omega))
        · refine zx_iload C d_Tue_greatestCommon_14 rfl ?_
          refine zx_if_le C d_Tue_greatestCommon_15 (fun h15 => ?_) (fun h15 => ?_)
          · exact absurd ((nI_np (by omega)).mp h15) hy0
          · refine zx_iload C d_Tue_greatestCommon_18 rfl ?_
            refine zx_iload C d_Tue_greatestCommon_19 rfl ?_
            refine zx_irem C hyn d_Tue_greatestCommon_20 ?_
            rw [er]
            refine zx_istore C d_Tue_greatestCommon_21 (by decide) (lv1 := [(5, _), (0, _), (1, _), (2, _), (3, _), (4, _)]) rfl ?_
            refine zx_iload C d_Tue_greatestCommon_23 rfl ?_
            refine zx_istore C d_Tue_greatestCommon_24 (by decide) (lv1 := [(2, _), (5, _), (0, _), (1, _), (3, _), (4, _)]) rfl ?_
            refine zx_iload C d_Tue_greatestCommon_25 rfl ?_
            refine zx_istore C d_Tue_greatestCommon_27 (by decide) (lv1 := [(3, _), (2, _), (5, _), (0, _), (1, _), (4, _)]) rfl ?_
            refine zx_iinc C d_Tue_greatestCommon_28 (by decide) rfl (lv1 := [(4, _), (3, _), (2, _), (5, _), (0, _), (1, _)]) rfl ?_
            refine zx_goto C d_Tue_greatestCommon_31 ?_
            rw [show (1 : Int32) = nI 1 from rfl, nI_add]
            exact zx_lv [0, 1, 2, 3, 4] rfl (ih y (x % y) (st + 1) (by omega) (by omega) (by omega) (by rw [← hg, Nat.gcd_comm y (x % y), ← Nat.gcd_rec, Nat.gcd_comm]))
  refine zx_iload C d_Tue_greatestCommon_0 rfl ?_
  refine zx_istore C d_Tue_greatestCommon_1 (by decide) (lv1 := [(2, _), (0, _), (1, _)]) rfl ?_
  refine zx_iload C d_Tue_greatestCommon_2 rfl ?_
  refine zx_istore C d_Tue_greatestCommon_3 (by decide) (lv1 := [(3, _), (2, _), (0, _), (1, _)]) rfl ?_
  refine zx_ic C d_Tue_greatestCommon_4 ?_
  refine zx_istore C d_Tue_greatestCommon_5 (by decide) (lv1 := [(4, _), (3, _), (2, _), (0, _), (1, _)]) rfl ?_
  exact zx_lv [0, 1, 2, 3, 4] rfl (lp b a b 0 (Nat.le_refl _) ha (by omega) rfl)
set_option maxHeartbeats 600000 in
set_option maxRecDepth 20000 in
theorem c_Tue_odds (G : ZG) (ad : Nat → Nat) (I : Nat → Int32) (L : Nat → Int64) (g : Option Nat) (QH QD : Nat → Option Nat) (RI : Nat → Nat → Int32) (RL : Nat → Nat → Int64) (X : va_W) (S : ZA) (hA dA : Nat → Nat) (hm : crp S hA dA I L QH QD RI RL) (set sh l i n which : Int32) : ZM G y_Tue_odds b_Tue_odds 11 (some .long) r_Tue_odds [.ref (ad 0), .int set, .int sh, .int l, .int i, .int n, .int which] (cw G ad I L g none QH QD RI RL ++ pw hA dA (aT S) X) (cpl G ad X (ap_odds S set sh l i n which).1 (ap_odds S set sh l i n which).2) := by
  refine ZM.of "SameTuesday" "odds" rfl rfl (by decide) (Nat.le_of_ble_eq_true rfl) (fun Y C hq => ?_)
  change ZV G Y 0 0 0 [(0, .ref (ad 0)), (1, .int set), (2, .int sh), (3, .int l), (4, .int i), (5, .int n), (6, .int which)] [] (cw G ad I L g none QH QD RI RL ++ pw hA dA (aT S) X)
  have s30 : ∀ b : Int32, b = zB ((¬ set < 0 ∧ ¬ 63 < set) ∧ (¬ which < 0 ∧ ¬ 1 < which)) → ZV G Y 0 0 30 [(0, .ref (ad 0)), (1, .int set), (2, .int sh), (3, .int l), (4, .int i), (5, .int n), (6, .int which)] [.int b, .int n, .int i, .int l, .int sh, .ref (ad 0)] (cw G ad I L g none QH QD RI RL ++ pw hA dA (aT S) X) := by
    intro b hb
    subst hb
    refine zr_i (zr_V C l_Tue_143 d_Tue_odds_30 (As := [_, _, _, _, _]) rfl rfl (Nat.le_of_ble_eq_true rfl) (c_Tue_takeRow G _ _ _ _ _ _ _ _ _ S hA dA hm _ _ _ _ (((¬ set < 0 ∧ ¬ 63 < set) ∧ (¬ which < 0 ∧ ¬ 1 < which)))) 0 zcw_0 rfl ⟨Nat.le_of_ble_eq_true rfl, Nat.le_of_ble_eq_true rfl, Nat.le_of_ble_eq_true rfl, Nat.le_of_ble_eq_true rfl⟩) (fun q w1 hpq => ?_)
    obtain ⟨rfl, I2, RI2, rfl, hm2, hp2⟩ := hpq
    refine zx_istore C d_Tue_odds_33 (by decide) (lv1 := [(7, _), (0, _), (1, _), (2, _), (3, _), (4, _), (5, _), (6, _)]) rfl ?_
    refine zx_iload C d_Tue_odds_35 rfl ?_
    refine zx_if_eq C d_Tue_odds_37 (fun hz => ?_) (fun hz => ?_)
    · obtain ⟨hz2, hz1, hfit⟩ := trow_z hz
      have hm3 : crp (sf S 0) hA dA I2 L QH QD RI2 RL := by rw [← hz2]; exact hm2
      have hp3 : cprow (aT S) (apR S sh i n) I2 RI2 := hp2 hz
      have h1 : 1 ≤ (aT S).2.2.1 := hm.1.2.2.1 (by omega)
      have h60 := hm.1.2.1.2.2.1
      obtain ⟨x, hx, rfl⟩ := ix_le (n := 63) (by decide) hfit.1.1 hfit.1.2
      have hx : x < 64 := by omega
      have hpw := p2_64 hm.1.2.1.1
      have hct := ctw_le (aT S) (apR S sh i n) x (2 ^ (aT S).1)
      have hpp : 0 < 2 ^ (aT S).1 := Nat.pow_pos (by decide)
      have hgp : 0 < (Nat.gcd (ctw (aT S) (apR S sh i n) x (2 ^ (aT S).1)) (2 ^ (aT S).1)) := Nat.gcd_pos_of_pos_right _ hpp
      have hgl : (Nat.gcd (ctw (aT S) (apR S sh i n) x (2 ^ (aT S).1)) (2 ^ (aT S).1)) ≤ 64 := Nat.le_trans (Nat.le_of_dvd hpp (Nat.gcd_dvd_right _ _)) hpw
      have hg0 : ¬ nI (Nat.gcd (ctw (aT S) (apR S sh i n) x (2 ^ (aT S).1)) (2 ^ (aT S).1)) = 0 := fun z => by have := (nI_e0 (by omega)).mp z; omega
      have ev : ap_odds S (nI x) sh l i n which = (if which = 0 then lN ((ctw (aT S) (apR S sh i n) x (2 ^ (aT S).1)) / (Nat.gcd (ctw (aT S) (apR S sh i n) x (2 ^ (aT S).1)) (2 ^ (aT S).1))) else lN (2 ^ (aT S).1 / (Nat.gcd (ctw (aT S) (apR S sh i n) x (2 ^ (aT S).1)) (2 ^ (aT S).1))), sf S 0) := by rw [ap_odds, if_neg (fun y => y hz), nI_cl (by omega)]
      refine zx_ic C d_Tue_odds_44 ?_
      refine zx_aload C d_Tue_odds_45 rfl ?_
      refine zx_get C f_Tue_21_11 d_Tue_odds_46 0 zcw_0 rfl ?_
      refine zr_di (zr_V C l_Tue_90 d_Tue_odds_49 (As := []) rfl rfl (Nat.le_of_ble_eq_true rfl) (c_Twn_happeningCount G _ _ _ _ _ _ _ _ _ _) 10 zcw_10 rfl ⟨Nat.le_of_ble_eq_true rfl, Nat.le_of_ble_eq_true rfl, Nat.le_of_ble_eq_true rfl, Nat.le_of_ble_eq_true rfl⟩) ?_
      rw [show I2 9 = nI (aT S).1 from hm3.2.2.2.2.2.2.1.1]
      refine zx_ishl C d_Tue_odds_52 ?_
      rw [q_shl1 _ (by have := hm.1.2.1.1; omega)]
      refine zx_istore C d_Tue_odds_53 (by decide) (lv1 := [(8, _), (7, _), (0, _), (1, _), (2, _), (3, _), (4, _), (5, _), (6, _)]) rfl ?_
      refine zx_aload C d_Tue_odds_55 rfl ?_
      refine zx_get C f_Tue_30_11 d_Tue_odds_56 0 zcw_0 rfl ?_
      refine zx_iload C d_Tue_odds_59 rfl ?_
      refine zr_i (zr_V C l_Tue_207 d_Tue_odds_60 (As := [_]) rfl rfl (Nat.le_of_ble_eq_true rfl) (c_Life_countWaysTo G ad I2 L g QH QD RI2 RL X (sf S 0) hA dA hm3 (apR S sh i n) hp3 h1 x hx) 13 zcw_13 rfl ⟨Nat.le_of_ble_eq_true rfl, Nat.le_of_ble_eq_true rfl, Nat.le_of_ble_eq_true rfl, Nat.le_of_ble_eq_true rfl⟩) (fun r w2 hfa => ?_)
      obtain ⟨rfl, I4, L4, g4, RL4, rfl, hm4⟩ := hfa
      refine zx_istore C d_Tue_odds_63 (by decide) (lv1 := [(9, _), (8, _), (7, _), (0, _), (1, _), (2, _), (3, _), (4, _), (5, _), (6, _)]) rfl ?_
      refine zx_iload C d_Tue_odds_65 rfl ?_
      refine zx_iload C d_Tue_odds_67 rfl ?_
      refine zr_di (zr_S C l_Tue_210 d_Tue_odds_69 (As := [_, _]) rfl rfl (Nat.le_of_ble_eq_true rfl) (c_Tue_greatestCommon G _ (ctw (aT S) (apR S sh i n) x (2 ^ (aT S).1)) (2 ^ (aT S).1) (Nat.le_trans hct hpw) hpw) ⟨Nat.le_of_ble_eq_true rfl, Nat.le_of_ble_eq_true rfl, Nat.le_of_ble_eq_true rfl, Nat.le_of_ble_eq_true rfl⟩) ?_
      refine zx_istore C d_Tue_odds_72 (by decide) (lv1 := [(10, _), (9, _), (8, _), (7, _), (0, _), (1, _), (2, _), (3, _), (4, _), (5, _), (6, _)]) rfl ?_
      refine zx_iload C d_Tue_odds_74 rfl ?_
      refine zx_ic C d_Tue_odds_76 ?_
      refine zx_ic_ge C d_Tue_odds_77 (fun h77 => ?_) (fun h77 => ?_)
      · refine zx_iload C d_Tue_odds_84 rfl ?_
        refine zx_if_ne C d_Tue_odds_86 (fun h86 => ?_) (fun h86 => ?_)
        · have dv1 : (nI (2 ^ (aT S).1) / nI (Nat.gcd (ctw (aT S) (apR S sh i n) x (2 ^ (aT S).1)) (2 ^ (aT S).1))).toInt64 = lN (2 ^ (aT S).1 / (Nat.gcd (ctw (aT S) (apR S sh i n) x (2 ^ (aT S).1)) (2 ^ (aT S).1))) := by rw [pk_div (by omega) hgp (by omega), nI_l (by have := Nat.div_le_self (2 ^ (aT S).1) (Nat.gcd (ctw (aT S) (apR S sh i n) x (2 ^ (aT S).1)) (2 ^ (aT S).1)); omega)]
          have ev2 : ap_odds S (nI x) sh l i n which = (lN (2 ^ (aT S).1 / (Nat.gcd (ctw (aT S) (apR S sh i n) x (2 ^ (aT S).1)) (2 ^ (aT S).1))), sf S 0) := by rw [ev, if_neg h86]
          refine zx_iload C d_Tue_odds_98 rfl ?_
          refine zx_iload C d_Tue_odds_100 rfl ?_
          refine zx_idiv C hg0 d_Tue_odds_102 ?_
          refine zx_i2l C d_Tue_odds_103 ?_
          exact zx_lret C hq d_Tue_odds_104 (by rw [ev2]; exact cpl_l dv1 hm4)
        · have dv1 : (nI (ctw (aT S) (apR S sh i n) x (2 ^ (aT S).1)) / nI (Nat.gcd (ctw (aT S) (apR S sh i n) x (2 ^ (aT S).1)) (2 ^ (aT S).1))).toInt64 = lN ((ctw (aT S) (apR S sh i n) x (2 ^ (aT S).1)) / (Nat.gcd (ctw (aT S) (apR S sh i n) x (2 ^ (aT S).1)) (2 ^ (aT S).1))) := by rw [pk_div (by omega) hgp (by omega), nI_l (by have := Nat.div_le_self (ctw (aT S) (apR S sh i n) x (2 ^ (aT S).1)) (Nat.gcd (ctw (aT S) (apR S sh i n) x (2 ^ (aT S).1)) (2 ^ (aT S).1)); omega)]
          have ev2 : ap_odds S (nI x) sh l i n which = (lN ((ctw (aT S) (apR S sh i n) x (2 ^ (aT S).1)) / (Nat.gcd (ctw (aT S) (apR S sh i n) x (2 ^ (aT S).1)) (2 ^ (aT S).1))), sf S 0) := by rw [ev, if_pos (by first | exact h86 | exact Classical.byContradiction h86)]
          refine zx_iload C d_Tue_odds_89 rfl ?_
          refine zx_iload C d_Tue_odds_91 rfl ?_
          refine zx_idiv C hg0 d_Tue_odds_93 ?_
          refine zx_i2l C d_Tue_odds_94 ?_
          refine zx_goto C d_Tue_odds_95 ?_
          exact zx_lret C hq d_Tue_odds_104 (by rw [ev2]; exact cpl_l dv1 hm4)
      · exact absurd ((nI_leI (a := 1) (by omega) (by omega)).mpr hgp) h77
    · have ev : ap_odds S set sh l i n which = (-9223372036854775808, sf S (trow S sh l i n ((¬ set < 0 ∧ ¬ 63 < set) ∧ (¬ which < 0 ∧ ¬ 1 < which))).2) := if_pos hz
      refine zx_lc C d_Tue_odds_40 ?_
      exact zx_lret C hq d_Tue_odds_43 (by rw [ev]; exact cpl_l rfl hm2)
  refine zx_aload C d_Tue_odds_0 rfl ?_
  refine zx_iload C d_Tue_odds_1 rfl ?_
  refine zx_iload C d_Tue_odds_2 rfl ?_
  refine zx_iload C d_Tue_odds_3 rfl ?_
  refine zx_iload C d_Tue_odds_5 rfl ?_
  refine zx_iload C d_Tue_odds_7 rfl ?_
  refine zr_di (zr_S C l_Tue_157 d_Tue_odds_8 (As := [_]) rfl rfl (Nat.le_of_ble_eq_true rfl) (c_Tue_isSet G _ _) ⟨Nat.le_of_ble_eq_true rfl, Nat.le_of_ble_eq_true rfl, Nat.le_of_ble_eq_true rfl, Nat.le_of_ble_eq_true rfl⟩) ?_
  refine zx_ifB_eq C d_Tue_odds_11 (fun h11 => ?_) (fun h11 => ?_)
  · have hb : (0 : Int32) = zB ((¬ set < 0 ∧ ¬ 63 < set) ∧ (¬ which < 0 ∧ ¬ 1 < which)) := (zB_f (fun y => h11 y.1)).symm
    refine zx_ic C d_Tue_odds_29 ?_
    exact s30 _ hb
  · refine zx_iload C d_Tue_odds_14 rfl ?_
    refine zx_if_eq C d_Tue_odds_16 (fun h16 => ?_) (fun h16 => ?_)
    · have hb : (1 : Int32) = zB ((¬ set < 0 ∧ ¬ 63 < set) ∧ (¬ which < 0 ∧ ¬ 1 < which)) := (zB_t ⟨h11, by rw [show which = 0 by first | exact h16 | exact Classical.byContradiction h16]; decide⟩).symm
      refine zx_ic C d_Tue_odds_25 ?_
      refine zx_goto C d_Tue_odds_26 ?_
      exact s30 _ hb
    · refine zx_iload C d_Tue_odds_19 rfl ?_
      refine zx_ic C d_Tue_odds_21 ?_
      refine zx_ic_ne C d_Tue_odds_22 (fun h22 => ?_) (fun h22 => ?_)
      · have hb : (0 : Int32) = zB ((¬ set < 0 ∧ ¬ 63 < set) ∧ (¬ which < 0 ∧ ¬ 1 < which)) := (zB_f (fun y => by
          obtain ⟨x, hx, rfl⟩ := ix_le (n := 1) (by decide) y.2.1 y.2.2
          rcases (by omega : x = 0 ∨ x = 1) with rfl | rfl
          · exact absurd rfl h16
          · exact absurd rfl h22)).symm
        refine zx_ic C d_Tue_odds_29 ?_
        exact s30 _ hb
      · have hb : (1 : Int32) = zB ((¬ set < 0 ∧ ¬ 63 < set) ∧ (¬ which < 0 ∧ ¬ 1 < which)) := (zB_t ⟨h11, by rw [show which = 1 by first | exact h22 | exact Classical.byContradiction h22]; decide⟩).symm
        refine zx_ic C d_Tue_odds_25 ?_
        refine zx_goto C d_Tue_odds_26 ?_
        exact s30 _ hb
