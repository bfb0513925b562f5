set_option maxHeartbeats 600000 in
set_option maxRecDepth 20000 in
theorem c_Tue_live (G : ZG) (ad : Nat → Nat) (I : Nat → Int32) (L : Nat → Int64) (g : Option Nat) (QH QD : Nat → Option Nat) (RI : Nat → Nat → Int32) (RL : Nat → Nat → Int64) (X : va_W) (S : ZA) (hA dA : Nat → Nat) (hm : crp S hA dA I L QH QD RI RL) (sh l i n what : Int32) : ZM G y_Tue_live b_Tue_live 8 (some .int) r_Tue_live [.ref (ad 0), .int sh, .int l, .int i, .int n, .int what] (cw G ad I L g none QH QD RI RL ++ pw hA dA (aT S) X) (cpi G ad X (ap_live S sh l i n what).1 (ap_live S sh l i n what).2) := by
  refine ZM.of "SameTuesday" "live" rfl rfl (by decide) (Nat.le_of_ble_eq_true rfl) (fun Y C hq => ?_)
  change ZV G Y 0 0 0 [(0, .ref (ad 0)), (1, .int sh), (2, .int l), (3, .int i), (4, .int n), (5, .int what)] [] (cw G ad I L g none QH QD RI RL ++ pw hA dA (aT S) X)
  have s22 : ∀ b : Int32, b = zB (¬ what < 0 ∧ ¬ 1 < what) → ZV G Y 0 0 22 [(0, .ref (ad 0)), (1, .int sh), (2, .int l), (3, .int i), (4, .int n), (5, .int what)] [.int b, .int n, .int i, .int l, .int sh, .ref (ad 0)] (cw G ad I L g none QH QD RI RL ++ pw hA dA (aT S) X) := by
    intro b hb
    subst hb
    refine zr_i (zr_V C l_Tue_143 d_Tue_live_22 (As := [_, _, _, _, _]) rfl rfl (Nat.le_of_ble_eq_true rfl) (c_Tue_takeRow G _ _ _ _ _ _ _ _ _ S hA dA hm _ _ _ _ ((¬ what < 0 ∧ ¬ 1 < what))) 0 zcw_0 rfl ⟨Nat.le_of_ble_eq_true rfl, Nat.le_of_ble_eq_true rfl, Nat.le_of_ble_eq_true rfl, Nat.le_of_ble_eq_true rfl⟩) (fun q w1 hpq => ?_)
    obtain ⟨rfl, I2, RI2, rfl, hm2, hp2⟩ := hpq
    refine zx_istore C d_Tue_live_25 (by decide) (lv1 := [(6, _), (0, _), (1, _), (2, _), (3, _), (4, _), (5, _)]) rfl ?_
    refine zx_iload C d_Tue_live_27 rfl ?_
    refine zx_if_eq C d_Tue_live_29 (fun hz => ?_) (fun hz => ?_)
    · obtain ⟨hz2, hz1, hfit⟩ := trow_z hz
      have hm3 : crp (sf S 0) hA dA I2 L QH QD RI2 RL := by rw [← hz2]; exact hm2
      have hp3 : cprow (aT S) (apR S sh i n) I2 RI2 := hp2 hz
      have h1 : 1 ≤ (aT S).2.2.1 := hm.1.2.2.1 (by omega)
      have h60 := hm.1.2.1.2.2.1
      refine zx_aload C d_Tue_live_35 rfl ?_
      refine zx_get C f_Tue_30_11 d_Tue_live_36 0 zcw_0 rfl ?_
      refine zx_ic C d_Tue_live_39 ?_
      refine zx_ic C d_Tue_live_41 ?_
      refine zr_i (zr_V C l_Tue_147 d_Tue_live_43 (As := [_, _]) rfl rfl (Nat.le_of_ble_eq_true rfl) (c_Life_factsAt G ad I2 L g QH QD RI2 RL X (aT S) hA dA hm3.1.2.1 (hm3.2.2.2.2.2.2.1) (apR S sh i n) hp3 none 0 (by decide) (fun d hd => by cases hd) (fun d hd => by cases hd) h1 59 (aT S).2.2.1 (by omega) (by omega) 63 0 (by decide) th_0) 13 zcw_13 rfl ⟨Nat.le_of_ble_eq_true rfl, Nat.le_of_ble_eq_true rfl, Nat.le_of_ble_eq_true rfl, Nat.le_of_ble_eq_true rfl⟩) (fun r w2 hfa => ?_)
      obtain ⟨rfl, I4, L4, g4, RL4, rfl, hm4, hp4, h15, hal⟩ := fa_crp (S := sf S 0) hm3 hp3 hfa
      refine zx_istore C d_Tue_live_46 (by decide) (lv1 := [(7, _), (6, _), (0, _), (1, _), (2, _), (3, _), (4, _), (5, _)]) rfl ?_
      refine zx_iload C d_Tue_live_48 rfl ?_
      refine zx_if_ne C d_Tue_live_50 (fun h50 => ?_) (fun h50 => ?_)
      · have h50 : what = 1 := by
          obtain ⟨x, hx, rfl⟩ := ix_le (n := 1) (by decide) hfit.1 hfit.2
          rcases (by omega : x = 0 ∨ x = 1) with rfl | rfl
          · exact absurd rfl h50
          · rfl
        have ev : ap_live S sh l i n what = (nI (endA (aT S) (apR S sh i n) 0), sf S 0) := by rw [ap_live, if_neg (fun y => y hz), if_pos h50]
        refine zx_iload C d_Tue_live_63 rfl ?_
        exact zx_iret C hq d_Tue_live_65 (by rw [ev]; first | exact cpi_i rfl hm4 | exact cpi_i h15 hm4)
      · have ev : ap_live S sh l i n what = (ffw (run (aT S) (apR S sh i n) 0 none (aT S).2.2.1).2.2.2 n.toNatClampNeg 0, sf S 0) := by rw [ap_live, if_neg (fun y => y hz), if_neg (by rw [h50]; decide)]
        refine zx_aload C d_Tue_live_53 rfl ?_
        refine zx_get C f_Tue_30_11 d_Tue_live_54 0 zcw_0 rfl ?_
        refine zr_di (zr_V C l_Tue_151 d_Tue_live_57 (As := []) rfl rfl (Nat.le_of_ble_eq_true rfl) (c_Life_firstWrong G _ _ _ _ _ _ _ _ _ _) 13 zcw_13 rfl ⟨Nat.le_of_ble_eq_true rfl, Nat.le_of_ble_eq_true rfl, Nat.le_of_ble_eq_true rfl, Nat.le_of_ble_eq_true rfl⟩) ?_
        refine zx_goto C d_Tue_live_60 ?_
        exact zx_iret C hq d_Tue_live_65 (by rw [ev]; first | exact cpi_i rfl hm4 | exact cpi_i h15 hm4)
    · have ev : ap_live S sh l i n what = ((trow S sh l i n (¬ what < 0 ∧ ¬ 1 < what)).1, sf S (trow S sh l i n (¬ what < 0 ∧ ¬ 1 < what)).2) := if_pos hz
      refine zx_iload C d_Tue_live_32 rfl ?_
      exact zx_iret C hq d_Tue_live_34 (by rw [ev]; exact cpi_i rfl hm2)
  refine zx_aload C d_Tue_live_0 rfl ?_
  refine zx_iload C d_Tue_live_1 rfl ?_
  refine zx_iload C d_Tue_live_2 rfl ?_
  refine zx_iload C d_Tue_live_3 rfl ?_
  refine zx_iload C d_Tue_live_4 rfl ?_
  refine zx_iload C d_Tue_live_6 rfl ?_
  refine zx_if_eq C d_Tue_live_8 (fun h8 => ?_) (fun h8 => ?_)
  · have hb : (1 : Int32) = zB (¬ what < 0 ∧ ¬ 1 < what) := (zB_t (by rw [h8]; decide)).symm
    refine zx_ic C d_Tue_live_17 ?_
    refine zx_goto C d_Tue_live_18 ?_
    exact s22 _ hb
  · refine zx_iload C d_Tue_live_11 rfl ?_
    refine zx_ic C d_Tue_live_13 ?_
    refine zx_ic_ne C d_Tue_live_14 (fun h14 => ?_) (fun h14 => ?_)
    · have hb : (0 : Int32) = zB (¬ what < 0 ∧ ¬ 1 < what) := (zB_f (fun y => by
        obtain ⟨x, hx, rfl⟩ := ix_le (n := 1) (by decide) y.1 y.2
        rcases (by omega : x = 0 ∨ x = 1) with rfl | rfl
        · exact absurd rfl h8
        · exact absurd rfl h14)).symm
      refine zx_ic C d_Tue_live_21 ?_
      exact s22 _ hb
    · have hb : (1 : Int32) = zB (¬ what < 0 ∧ ¬ 1 < what) := (zB_t (by rw [show what = 1 by first | exact h14 | exact Classical.byContradiction h14]; decide)).symm
      refine zx_ic C d_Tue_live_17 ?_
      refine zx_goto C d_Tue_live_18 ?_
      exact s22 _ hb
set_option maxHeartbeats 600000 in
set_option maxRecDepth 20000 in
theorem c_Tue_at (G : ZG) (ad : Nat → Nat) (I : Nat → Int32) (L : Nat → Int64) (g : Option Nat) (QH QD : Nat → Option Nat) (RI : Nat → Nat → Int32) (RL : Nat → Nat → Int64) (X : va_W) (S : ZA) (hA dA : Nat → Nat) (hm : crp S hA dA I L QH QD RI RL) (m sh l i n : Int32) : ZM G y_Tue_at b_Tue_at 7 (some .int) r_Tue_at [.ref (ad 0), .int m, .int sh, .int l, .int i, .int n] (cw G ad I L g none QH QD RI RL ++ pw hA dA (aT S) X) (cpi G ad X (ap_at S m sh l i n).1 (ap_at S m sh l i n).2) := by
  refine ZM.of "SameTuesday" "at" rfl rfl (by decide) (Nat.le_of_ble_eq_true rfl) (fun Y C hq => ?_)
  change ZV G Y 0 0 0 [(0, .ref (ad 0)), (1, .int m), (2, .int sh), (3, .int l), (4, .int i), (5, .int n)] [] (cw G ad I L g none QH QD RI RL ++ pw hA dA (aT S) X)
  refine zx_aload C d_Tue_at_0 rfl ?_
  refine zx_iload C d_Tue_at_1 rfl ?_
  refine zx_iload C d_Tue_at_2 rfl ?_
  refine zx_iload C d_Tue_at_3 rfl ?_
  refine zx_iload C d_Tue_at_5 rfl ?_
  refine zx_iload C d_Tue_at_7 rfl ?_
  refine zr_di (zr_S C l_Tue_135 d_Tue_at_8 (As := [_]) rfl rfl (Nat.le_of_ble_eq_true rfl) (c_Tue_isMinute G _ _) ⟨Nat.le_of_ble_eq_true rfl, Nat.le_of_ble_eq_true rfl, Nat.le_of_ble_eq_true rfl, Nat.le_of_ble_eq_true rfl⟩) ?_
  refine zr_i (zr_V C l_Tue_143 d_Tue_at_11 (As := [_, _, _, _, _]) rfl rfl (Nat.le_of_ble_eq_true rfl) (c_Tue_takeRow G _ _ _ _ _ _ _ _ _ S hA dA hm _ _ _ _ ((¬ m < 0 ∧ ¬ 59 < m))) 0 zcw_0 rfl ⟨Nat.le_of_ble_eq_true rfl, Nat.le_of_ble_eq_true rfl, Nat.le_of_ble_eq_true rfl, Nat.le_of_ble_eq_true rfl⟩) (fun q w1 hpq => ?_)
  obtain ⟨rfl, I2, RI2, rfl, hm2, hp2⟩ := hpq
  refine zx_istore C d_Tue_at_14 (by decide) (lv1 := [(6, _), (0, _), (1, _), (2, _), (3, _), (4, _), (5, _)]) rfl ?_
  refine zx_iload C d_Tue_at_16 rfl ?_
  refine zx_if_eq C d_Tue_at_18 (fun hz => ?_) (fun hz => ?_)
  · obtain ⟨hz2, hz1, hfit⟩ := trow_z hz
    have hm3 : crp (sf S 0) hA dA I2 L QH QD RI2 RL := by rw [← hz2]; exact hm2
    have hp3 : cprow (aT S) (apR S sh i n) I2 RI2 := hp2 hz
    have h1 : 1 ≤ (aT S).2.2.1 := hm.1.2.2.1 (by omega)
    have h60 := hm.1.2.1.2.2.1
    obtain ⟨mm, hmm, rfl⟩ := ix_le (n := 59) (by decide) hfit.1 hfit.2
    have ev : ap_at S (nI mm) sh l i n = (nI (run (aT S) (apR S sh i n) 0 none (min (aT S).2.2.1 (mm + 1))).1, sf S 0) := by rw [ap_at, if_neg (fun y => y hz), nI_cl (by omega)]
    refine zx_aload C d_Tue_at_26 rfl ?_
    refine zx_get C f_Tue_30_11 d_Tue_at_27 0 zcw_0 rfl ?_
    refine zx_iload C d_Tue_at_30 rfl ?_
    refine zx_ic C d_Tue_at_31 ?_
    refine zr_i (zr_V C l_Tue_147 d_Tue_at_33 (As := [_, _]) rfl rfl (Nat.le_of_ble_eq_true rfl) (c_Life_factsAt G ad I2 L g QH QD RI2 RL X (aT S) hA dA hm3.1.2.1 (hm3.2.2.2.2.2.2.1) (apR S sh i n) hp3 none 0 (by decide) (fun d hd => by cases hd) (fun d hd => by cases hd) h1 mm (min (aT S).2.2.1 (mm + 1)) (by omega) rfl 63 0 (by decide) th_0) 13 zcw_13 rfl ⟨Nat.le_of_ble_eq_true rfl, Nat.le_of_ble_eq_true rfl, Nat.le_of_ble_eq_true rfl, Nat.le_of_ble_eq_true rfl⟩) (fun r w2 hfa => ?_)
    obtain ⟨rfl, I4, L4, g4, RL4, rfl, hm4, hp4, h15, hal⟩ := fa_crp (S := sf S 0) hm3 hp3 hfa
    exact zx_iret C hq d_Tue_at_36 (by rw [ev]; first | exact cpi_i rfl hm2 | exact cpi_i rfl hm4)
  · have ev : ap_at S m sh l i n = ((trow S sh l i n (¬ m < 0 ∧ ¬ 59 < m)).1, sf S (trow S sh l i n (¬ m < 0 ∧ ¬ 59 < m)).2) := if_pos hz
    refine zx_iload C d_Tue_at_21 rfl ?_
    refine zx_goto C d_Tue_at_23 ?_
    exact zx_iret C hq d_Tue_at_36 (by rw [ev]; first | exact cpi_i rfl hm2 | exact cpi_i rfl hm4)
theorem hgs64b {T : ZT} {P : ZP} {h : Nat} (hh : h ≤ 6) : hgs T P h < 64 := Nat.lt_of_lt_of_le (hgs64 hh) (Nat.pow_le_pow_right (n := 2) (by decide) hh)
set_option maxHeartbeats 600000 in
set_option maxRecDepth 20000 in
theorem c_Life_hangsOn (G : ZG) (ad : Nat → Nat) (I : Nat → Int32) (L : Nat → Int64) (g : Option Nat) (QH QD : Nat → Option Nat) (RI : Nat → Nat → Int32) (RL : Nat → Nat → Int64) (X : va_W) (S : ZA) (hA dA : Nat → Nat) (hm : crp S hA dA I L QH QD RI RL) (P : ZP) (hp : cprow (aT S) P I RI) (h1 : 1 ≤ (aT S).2.2.1) : ZM G y_Life_hangsOn b_Life_hangsOn 4 (some .int) r_Life_hangsOn [.ref (ad 13)] (cw G ad I L g none QH QD RI RL ++ pw hA dA (aT S) X) (zpi (fun r w => r = nI (hgs (aT S) P (aT S).1) ∧ ∃ (I2 : Nat → Int32) (L2 : Nat → Int64) (g2 : Option Nat) (RL2 : Nat → Nat → Int64), w = cw G ad I2 L2 g2 none QH QD RI RL2 ++ pw hA dA (aT S) X ∧ crp S hA dA I2 L2 QH QD RI RL2)) := by
  refine ZM.of "SameTuesday$Life" "hangsOn" rfl rfl (by decide) (Nat.le_of_ble_eq_true rfl) (fun Y C hq => ?_)
  change ZV G Y 0 0 0 [(0, .ref (ad 13))] [] (cw G ad I L g none QH QD RI RL ++ pw hA dA (aT S) X)
  have h60 := hm.1.2.1.2.2.1
  have h6 := hm.1.2.1.1
  have lp : ∀ c h (I3 : Nat → Int32) (L3 : Nat → Int64) (g3 : Option Nat) (RL3 : Nat → Nat → Int64), h + c = (aT S).1 → crp S hA dA I3 L3 QH QD RI RL3 → cprow (aT S) P I3 RI → ZV G Y 0 0 13 [(0, .ref (ad 13)), (1, .int (nI (endA (aT S) P 0))), (2, .int (nI (hgs (aT S) P h))), (3, .int (nI h))] [] (cw G ad I3 L3 g3 none QH QD RI RL3 ++ pw hA dA (aT S) X) := by
    intro c
    induction c with
    | zero =>
      intro h I3 L3 g3 RL3 hc hm3 hp3
      obtain rfl : h = (aT S).1 := by omega
      refine zx_iload C d_Life_hangsOn_13 rfl ?_
      refine zx_aload C d_Life_hangsOn_14 rfl ?_
      refine zx_get C f_Life_9_4 d_Life_hangsOn_15 13 zcw_13 rfl ?_
      refine zr_di (zr_V C l_Life_124 d_Life_hangsOn_18 (As := []) rfl rfl (Nat.le_of_ble_eq_true rfl) (c_Twn_happeningCount G _ _ _ _ _ _ _ _ _ _) 10 zcw_10 rfl ⟨Nat.le_of_ble_eq_true rfl, Nat.le_of_ble_eq_true rfl, Nat.le_of_ble_eq_true rfl, Nat.le_of_ble_eq_true rfl⟩) ?_
      refine zx_ic_ge C d_Life_hangsOn_21 (fun h21 => ?_) (fun h21 => ?_)
      · refine zx_iload C d_Life_hangsOn_54 rfl ?_
        exact zx_iret C hq d_Life_hangsOn_55 (⟨_, rfl, rfl, I3, L3, g3, RL3, rfl, hm3⟩)
      · exact absurd (by rw [hm3.2.2.2.2.2.2.1.1]; exact Int32.le_refl _) h21
    | succ c ih =>
      intro h I3 L3 g3 RL3 hc hm3 hp3
      have hlt := hgs64b (T := aT S) (P := P) (h := h) (by omega)
      have h2 : 2 ^ h ≤ 32 := Nat.pow_le_pow_right (n := 2) (by decide) (show h ≤ 5 by omega)
      refine zx_iload C d_Life_hangsOn_13 rfl ?_
      refine zx_aload C d_Life_hangsOn_14 rfl ?_
      refine zx_get C f_Life_9_4 d_Life_hangsOn_15 13 zcw_13 rfl ?_
      refine zr_di (zr_V C l_Life_124 d_Life_hangsOn_18 (As := []) rfl rfl (Nat.le_of_ble_eq_true rfl) (c_Twn_happeningCount G _ _ _ _ _ _ _ _ _ _) 10 zcw_10 rfl ⟨Nat.le_of_ble_eq_true rfl, Nat.le_of_ble_eq_true rfl, Nat.le_of_ble_eq_true rfl, Nat.le_of_ble_eq_true rfl⟩) ?_
      refine zx_ic_ge C d_Life_hangsOn_21 (fun h21 => ?_) (fun h21 => ?_)
      · exact absurd h21 (by rw [hm3.2.2.2.2.2.2.1.1]; exact nI_ge (by omega) (by omega))
      · refine zx_aload C d_Life_hangsOn_24 rfl ?_
        refine zx_ic C d_Life_hangsOn_25 ?_
        refine zx_ic C d_Life_hangsOn_27 ?_
        refine zx_ic C d_Life_hangsOn_29 ?_
        refine zx_iload C d_Life_hangsOn_30 rfl ?_
        refine zx_ishl C d_Life_hangsOn_31 ?_
        refine zx_ic C d_Life_hangsOn_32 ?_
        refine zx_ixor C d_Life_hangsOn_33 ?_
        refine zx_iand C d_Life_hangsOn_34 ?_
        refine zx_eq rfl (st1 := [.int (nI (63 - 2 ^ h)), .int 59, .ref (ad 13)]) (by rw [q_out h (by omega)]) rfl ?_
        refine zr_i (zr_V C l_Life_121 d_Life_hangsOn_35 (As := [_, _]) rfl rfl (Nat.le_of_ble_eq_true rfl) (c_Life_factsAt G ad I3 L3 g3 QH QD RI RL3 X (aT S) hA dA hm3.1.2.1 (hm3.2.2.2.2.2.2.1) P hp3 none 0 (by decide) (fun d hd => by cases hd) (fun d hd => by cases hd) h1 59 (aT S).2.2.1 (by omega) (by omega) (63 - 2 ^ h) (2 ^ h) (Nat.lt_of_le_of_lt (Nat.sub_le _ _) (by decide)) (th_h h (by omega))) 13 zcw_13 rfl ⟨Nat.le_of_ble_eq_true rfl, Nat.le_of_ble_eq_true rfl, Nat.le_of_ble_eq_true rfl, Nat.le_of_ble_eq_true rfl⟩) (fun r w2 hfa => ?_)
        obtain ⟨rfl, I4, L4, g4, RL4, rfl, hm4, hp4, h15, hal⟩ := fa_crp hm3 hp3 hfa
        refine zx_iload C d_Life_hangsOn_38 rfl ?_
        refine zx_ic_eq C d_Life_hangsOn_39 (fun h39 => ?_) (fun h39 => ?_)
        · have e : endA (aT S) P (2 ^ h) = endA (aT S) P 0 := (nI_eqz (by have := run_end_lt (T := aT S) (P := P) (wo := 2 ^ h) hm.1.2.1 ⟨hp.1, fun k hk => ⟨(hp.2.2 k hk).2.1, (hp.2.2 k hk).2.2.2⟩⟩; omega) (by have := run_end_lt (T := aT S) (P := P) (wo := 0) hm.1.2.1 ⟨hp.1, fun k hk => ⟨(hp.2.2 k hk).2.1, (hp.2.2 k hk).2.2.2⟩⟩; omega)).mp h39
          have ev : hgs (aT S) P (h + 1) = hgs (aT S) P h := by rw [hgs, if_pos e, Nat.or_zero]
          refine zx_iinc C d_Life_hangsOn_48 (by decide) rfl (lv1 := [(3, _), (0, _), (1, _), (2, _)]) rfl ?_
          refine zx_goto C d_Life_hangsOn_51 ?_
          rw [show (1 : Int32) = nI 1 from rfl, nI_add]
          have k1 := ih (h + 1) I4 L4 g4 RL4 (by omega) hm4 hp4
          rw [ev] at k1
          exact zx_lv [0, 1, 2, 3] rfl k1
        · have e : ¬ endA (aT S) P (2 ^ h) = endA (aT S) P 0 := fun y => h39 (congrArg nI y)
          have ev : hgs (aT S) P (h + 1) = hgs (aT S) P h ||| 2 ^ h := by rw [hgs, if_neg e]
          refine zx_iload C d_Life_hangsOn_42 rfl ?_
          refine zx_ic C d_Life_hangsOn_43 ?_
          refine zx_iload C d_Life_hangsOn_44 rfl ?_
          refine zx_ishl C d_Life_hangsOn_45 ?_
          refine zx_ior C d_Life_hangsOn_46 ?_
          rw [q_shl1 h (by omega), q_orN _ (by omega) _ (by omega)]
          refine zx_istore C d_Life_hangsOn_47 (by decide) (lv1 := [(2, _), (0, _), (1, _), (3, _)]) rfl ?_
          refine zx_iinc C d_Life_hangsOn_48 (by decide) rfl (lv1 := [(3, _), (2, _), (0, _), (1, _)]) rfl ?_
          refine zx_goto C d_Life_hangsOn_51 ?_
          rw [show (1 : Int32) = nI 1 from rfl, nI_add]
          have k1 := ih (h + 1) I4 L4 g4 RL4 (by omega) hm4 hp4
          rw [ev] at k1
          exact zx_lv [0, 1, 2, 3] rfl k1
  refine zx_aload C d_Life_hangsOn_0 rfl ?_
  refine zx_ic C d_Life_hangsOn_1 ?_
  refine zx_ic C d_Life_hangsOn_3 ?_
  refine zr_i (zr_V C l_Life_121 d_Life_hangsOn_5 (As := [_, _]) rfl rfl (Nat.le_of_ble_eq_true rfl) (c_Life_factsAt G ad I L g QH QD RI RL X (aT S) hA dA hm.1.2.1 (hm.2.2.2.2.2.2.1) P hp none 0 (by decide) (fun d hd => by cases hd) (fun d hd => by cases hd) h1 59 (aT S).2.2.1 (by omega) (by omega) 63 0 (by decide) th_0) 13 zcw_13 rfl ⟨Nat.le_of_ble_eq_true rfl, Nat.le_of_ble_eq_true rfl, Nat.le_of_ble_eq_true rfl, Nat.le_of_ble_eq_true rfl⟩) (fun r w2 hfa => ?_)
  obtain ⟨rfl, I4, L4, g4, RL4, rfl, hm4, hp4, h15, hal⟩ := fa_crp hm hp hfa
  refine zx_istore C d_Life_hangsOn_8 (by decide) (lv1 := [(1, _), (0, _)]) rfl ?_
  refine zx_ic C d_Life_hangsOn_9 ?_
  refine zx_istore C d_Life_hangsOn_10 (by decide) (lv1 := [(2, _), (1, _), (0, _)]) rfl ?_
  refine zx_ic C d_Life_hangsOn_11 ?_
  refine zx_istore C d_Life_hangsOn_12 (by decide) (lv1 := [(3, _), (2, _), (1, _), (0, _)]) rfl ?_
  exact zx_lv [0, 1, 2, 3] rfl (lp (aT S).1 0 I4 L4 g4 RL4 (by omega) hm4 hp4)
set_option maxHeartbeats 600000 in
set_option maxRecDepth 20000 in
theorem c_Tue_hangs (G : ZG) (ad : Nat → Nat) (I : Nat → Int32) (L : Nat → Int64) (g : Option Nat) (QH QD : Nat → Option Nat) (RI : Nat → Nat → Int32) (RL : Nat → Nat → Int64) (X : va_W) (S : ZA) (hA dA : Nat → Nat) (hm : crp S hA dA I L QH QD RI RL) (sh l i n : Int32) : ZM G y_Tue_hangs b_Tue_hangs 6 (some .int) r_Tue_hangs [.ref (ad 0), .int sh, .int l, .int i, .int n] (cw G ad I L g none QH QD RI RL ++ pw hA dA (aT S) X) (cpi G ad X (ap_hangs S sh l i n).1 (ap_hangs S sh l i n).2) := by
  refine ZM.of "SameTuesday" "hangs" rfl rfl (by decide) (Nat.le_of_ble_eq_true rfl) (fun Y C hq => ?_)
  change ZV G Y 0 0 0 [(0, .ref (ad 0)), (1, .int sh), (2, .int l), (3, .int i), (4, .int n)] [] (cw G ad I L g none QH QD RI RL ++ pw hA dA (aT S) X)
  refine zx_aload C d_Tue_hangs_0 rfl ?_
  refine zx_iload C d_Tue_hangs_1 rfl ?_
  refine zx_iload C d_Tue_hangs_2 rfl ?_
  refine zx_iload C d_Tue_hangs_3 rfl ?_
  refine zx_iload C d_Tue_hangs_4 rfl ?_
  refine zx_ic C d_Tue_hangs_6 ?_
  refine zx_eq rfl (st1 := [.int (zB True), .int n, .int i, .int l, .int sh, .ref (ad 0)]) rfl rfl ?_
  refine zr_i (zr_V C l_Tue_143 d_Tue_hangs_7 (As := [_, _, _, _, _]) rfl rfl (Nat.le_of_ble_eq_true rfl) (c_Tue_takeRow G _ _ _ _ _ _ _ _ _ S hA dA hm _ _ _ _ (True)) 0 zcw_0 rfl ⟨Nat.le_of_ble_eq_true rfl, Nat.le_of_ble_eq_true rfl, Nat.le_of_ble_eq_true rfl, Nat.le_of_ble_eq_true rfl⟩) (fun q w1 hpq => ?_)
  obtain ⟨rfl, I2, RI2, rfl, hm2, hp2⟩ := hpq
  refine zx_istore C d_Tue_hangs_10 (by decide) (lv1 := [(5, _), (0, _), (1, _), (2, _), (3, _), (4, _)]) rfl ?_
  refine zx_iload C d_Tue_hangs_12 rfl ?_
  refine zx_if_eq C d_Tue_hangs_14 (fun hz => ?_) (fun hz => ?_)
  · obtain ⟨hz2, hz1, hfit⟩ := trow_z hz
    have hm3 : crp (sf S 0) hA dA I2 L QH QD RI2 RL := by rw [← hz2]; exact hm2
    have hp3 : cprow (aT S) (apR S sh i n) I2 RI2 := hp2 hz
    have h1 : 1 ≤ (aT S).2.2.1 := hm.1.2.2.1 (by omega)
    have h60 := hm.1.2.1.2.2.1
    have ev : ap_hangs S sh l i n = (nI (hgs (aT S) (apR S sh i n) (aT S).1), sf S 0) := if_neg (fun y => y hz)
    refine zx_aload C d_Tue_hangs_22 rfl ?_
    refine zx_get C f_Tue_30_11 d_Tue_hangs_23 0 zcw_0 rfl ?_
    refine zr_i (zr_V C l_Tue_154 d_Tue_hangs_26 (As := []) rfl rfl (Nat.le_of_ble_eq_true rfl) (c_Life_hangsOn G ad I2 L g QH QD RI2 RL X (sf S 0) hA dA hm3 (apR S sh i n) hp3 h1) 13 zcw_13 rfl ⟨Nat.le_of_ble_eq_true rfl, Nat.le_of_ble_eq_true rfl, Nat.le_of_ble_eq_true rfl, Nat.le_of_ble_eq_true rfl⟩) (fun r w2 hfa => ?_)
    obtain ⟨rfl, I4, L4, g4, RL4, rfl, hm4⟩ := hfa
    exact zx_iret C hq d_Tue_hangs_29 (by rw [ev]; first | exact cpi_i rfl hm2 | exact cpi_i rfl hm4)
  · have ev : ap_hangs S sh l i n = ((trow S sh l i n True).1, sf S (trow S sh l i n True).2) := if_pos hz
    refine zx_iload C d_Tue_hangs_17 rfl ?_
    refine zx_goto C d_Tue_hangs_19 ?_
    exact zx_iret C hq d_Tue_hangs_29 (by rw [ev]; first | exact cpi_i rfl hm2 | exact cpi_i rfl hm4)
