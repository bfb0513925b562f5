set_option maxHeartbeats 600000 in
set_option maxRecDepth 20000 in
theorem c_Mod_ofHappening (G : ZG) (o : Nat) (ad : Nat → Nat) (F : Nat → Int32) (R : Nat → Nat → Int32) (X : va_W) (S : ZA) (hm : mrp S F R) (h what : Int32) : ZM G y_Mod_ofHappening b_Mod_ofHappening 3 (some .int) r_Mod_ofHappening [.ref o, .int h, .int what] (mw G o ad F R ++ X) (mpost G o ad X (ap_ofH S h what) S) := by
  refine ZM.of "SameTuesdayModel" "ofHappening" rfl rfl (by decide) (Nat.le_of_ble_eq_true rfl) (fun Y C hq => ?_)
  change ZV G Y 0 0 0 [(0, .ref o), (1, .int h), (2, .int what)] [] (mw G o ad F R ++ X)
  refine zx_aload C d_Mod_ofHappening_0 rfl ?_
  refine zx_iload C d_Mod_ofHappening_1 rfl ?_
  refine zr_di (zr_V C l_Mod_140 d_Mod_ofHappening_2 (As := [_]) rfl rfl (Nat.le_of_ble_eq_true rfl) (c_Mod_isHappening G _ _ _ _ _ _) 0 rfl rfl ⟨Nat.le_of_ble_eq_true rfl, Nat.le_of_ble_eq_true rfl, Nat.le_of_ble_eq_true rfl, Nat.le_of_ble_eq_true rfl⟩) ?_
  refine zx_ifB_ne C d_Mod_ofHappening_5 (fun h5 => ?_) (fun h5 => ?_)
  · rw [mrp_e5 hm] at h5
    obtain ⟨j, hj, rfl⟩ := ix_of (by have := (mrp_tok hm).1; omega) h5.1 h5.2
    have hj6 : j < 6 := by have := (mrp_tok hm).1; omega
    have hj31 : j < 2 ^ 31 := by omega
    obtain ⟨e8, e9, e10, e11⟩ := mrp_H hm hj
    refine zx_iload C d_Mod_ofHappening_10 rfl ?_
    refine zx_if_ne C d_Mod_ofHappening_11 (fun h11 => ?_) (fun h11 => ?_)
    · refine zx_iload C d_Mod_ofHappening_23 rfl ?_
      refine zx_ic C d_Mod_ofHappening_24 ?_
      refine zx_ic_ne C d_Mod_ofHappening_25 (fun h25 => ?_) (fun h25 => ?_)
      · refine zx_iload C d_Mod_ofHappening_37 rfl ?_
        refine zx_ic C d_Mod_ofHappening_38 ?_
        refine zx_ic_ne C d_Mod_ofHappening_39 (fun h39 => ?_) (fun h39 => ?_)
        · refine zx_iload C d_Mod_ofHappening_51 rfl ?_
          refine zx_ic C d_Mod_ofHappening_52 ?_
          refine zx_ic_ne C d_Mod_ofHappening_53 (fun h53 => ?_) (fun h53 => ?_)
          · have ev : (-2 : Int32) = ap_ofH S (nI j) what := by rw [ap_ofH, if_neg (nor_of h5), if_neg h11, if_neg h25, if_neg h39, if_neg h53]
            refine zx_ic C d_Mod_ofHappening_65 ?_
            exact zx_iret C hq d_Mod_ofHappening_67 (mpost_i ev hm)
          · have ev : R 11 j = ap_ofH S (nI j) what := by rw [e11, ap_ofH, if_neg (nor_of h5), if_neg h11, if_neg h25, if_neg h39, if_pos h53, nI_cl hj31]
            refine zx_aload C d_Mod_ofHappening_56 rfl ?_
            refine zm_g C f_Mod_28_12 d_Mod_ofHappening_57 rfl ?_
            refine zx_iload C d_Mod_ofHappening_60 rfl ?_
            refine zm_ld11 C d_Mod_ofHappening_61 j rfl (by omega) ?_
            refine zx_goto C d_Mod_ofHappening_62 ?_
            exact zx_iret C hq d_Mod_ofHappening_67 (mpost_i ev hm)
        · have ev : R 10 j = ap_ofH S (nI j) what := by rw [e10, ap_ofH, if_neg (nor_of h5), if_neg h11, if_neg h25, if_pos h39, nI_cl hj31]
          refine zx_aload C d_Mod_ofHappening_42 rfl ?_
          refine zm_g C f_Mod_25_12 d_Mod_ofHappening_43 rfl ?_
          refine zx_iload C d_Mod_ofHappening_46 rfl ?_
          refine zm_ld10 C d_Mod_ofHappening_47 j rfl (by omega) ?_
          refine zx_goto C d_Mod_ofHappening_48 ?_
          exact zx_iret C hq d_Mod_ofHappening_67 (mpost_i ev hm)
      · have ev : R 9 j = ap_ofH S (nI j) what := by rw [e9, ap_ofH, if_neg (nor_of h5), if_neg h11, if_pos h25, nI_cl hj31]
        refine zx_aload C d_Mod_ofHappening_28 rfl ?_
        refine zm_g C f_Mod_22_12 d_Mod_ofHappening_29 rfl ?_
        refine zx_iload C d_Mod_ofHappening_32 rfl ?_
        refine zm_ld9 C d_Mod_ofHappening_33 j rfl (by omega) ?_
        refine zx_goto C d_Mod_ofHappening_34 ?_
        exact zx_iret C hq d_Mod_ofHappening_67 (mpost_i ev hm)
    · have ev : R 8 j = ap_ofH S (nI j) what := by rw [e8, ap_ofH, if_neg (nor_of h5), if_pos h11, nI_cl hj31]
      refine zx_aload C d_Mod_ofHappening_14 rfl ?_
      refine zm_g C f_Mod_19_12 d_Mod_ofHappening_15 rfl ?_
      refine zx_iload C d_Mod_ofHappening_18 rfl ?_
      refine zm_ld8 C d_Mod_ofHappening_19 j rfl (by omega) ?_
      refine zx_goto C d_Mod_ofHappening_20 ?_
      exact zx_iret C hq d_Mod_ofHappening_67 (mpost_i ev hm)
  · rw [mrp_e5 hm] at h5
    have ev : (-1 : Int32) = ap_ofH S h what := (if_pos (nand_or h5)).symm
    refine zx_ic C d_Mod_ofHappening_8 ?_
    exact zx_iret C hq d_Mod_ofHappening_9 (mpost_i ev hm)
set_option maxHeartbeats 600000 in
set_option maxRecDepth 20000 in
theorem c_Mod_ofDeed (G : ZG) (o : Nat) (ad : Nat → Nat) (F : Nat → Int32) (R : Nat → Nat → Int32) (X : va_W) (S : ZA) (hm : mrp S F R) (h what : Int32) : ZM G y_Mod_ofDeed b_Mod_ofDeed 3 (some .int) r_Mod_ofDeed [.ref o, .int h, .int what] (mw G o ad F R ++ X) (mpost G o ad X (ap_ofD S h what) S) := by
  refine ZM.of "SameTuesdayModel" "ofDeed" rfl rfl (by decide) (Nat.le_of_ble_eq_true rfl) (fun Y C hq => ?_)
  change ZV G Y 0 0 0 [(0, .ref o), (1, .int h), (2, .int what)] [] (mw G o ad F R ++ X)
  refine zx_aload C d_Mod_ofDeed_0 rfl ?_
  refine zx_iload C d_Mod_ofDeed_1 rfl ?_
  refine zr_di (zr_V C l_Mod_143 d_Mod_ofDeed_2 (As := [_]) rfl rfl (Nat.le_of_ble_eq_true rfl) (c_Mod_isDeed G _ _ _ _ _ _) 0 rfl rfl ⟨Nat.le_of_ble_eq_true rfl, Nat.le_of_ble_eq_true rfl, Nat.le_of_ble_eq_true rfl, Nat.le_of_ble_eq_true rfl⟩) ?_
  refine zx_ifB_ne C d_Mod_ofDeed_5 (fun h5 => ?_) (fun h5 => ?_)
  · rw [mrp_e6 hm] at h5
    obtain ⟨j, hj, rfl⟩ := ix_of (by have := (mrp_tok hm).2.1; omega) h5.1 h5.2
    have hj6 : j < 5 := by have := (mrp_tok hm).2.1; omega
    have hj31 : j < 2 ^ 31 := by omega
    obtain ⟨e12, e13, e14, e15⟩ := mrp_D hm hj
    refine zx_iload C d_Mod_ofDeed_10 rfl ?_
    refine zx_if_ne C d_Mod_ofDeed_11 (fun h11 => ?_) (fun h11 => ?_)
    · refine zx_iload C d_Mod_ofDeed_23 rfl ?_
      refine zx_ic C d_Mod_ofDeed_24 ?_
      refine zx_ic_ne C d_Mod_ofDeed_25 (fun h25 => ?_) (fun h25 => ?_)
      · refine zx_iload C d_Mod_ofDeed_37 rfl ?_
        refine zx_ic C d_Mod_ofDeed_38 ?_
        refine zx_ic_ne C d_Mod_ofDeed_39 (fun h39 => ?_) (fun h39 => ?_)
        · refine zx_iload C d_Mod_ofDeed_51 rfl ?_
          refine zx_ic C d_Mod_ofDeed_52 ?_
          refine zx_ic_ne C d_Mod_ofDeed_53 (fun h53 => ?_) (fun h53 => ?_)
          · have ev : (-2 : Int32) = ap_ofD S (nI j) what := by rw [ap_ofD, if_neg (nor_of h5), if_neg h11, if_neg h25, if_neg h39, if_neg h53]
            refine zx_ic C d_Mod_ofDeed_65 ?_
            exact zx_iret C hq d_Mod_ofDeed_67 (mpost_i ev hm)
          · have ev : R 15 j = ap_ofD S (nI j) what := by rw [e15, ap_ofD, if_neg (nor_of h5), if_neg h11, if_neg h25, if_neg h39, if_pos h53, nI_cl hj31]
            refine zx_aload C d_Mod_ofDeed_56 rfl ?_
            refine zm_g C f_Mod_40_12 d_Mod_ofDeed_57 rfl ?_
            refine zx_iload C d_Mod_ofDeed_60 rfl ?_
            refine zm_ld15 C d_Mod_ofDeed_61 j rfl (by omega) ?_
            refine zx_goto C d_Mod_ofDeed_62 ?_
            exact zx_iret C hq d_Mod_ofDeed_67 (mpost_i ev hm)
        · have ev : R 14 j = ap_ofD S (nI j) what := by rw [e14, ap_ofD, if_neg (nor_of h5), if_neg h11, if_neg h25, if_pos h39, nI_cl hj31]
          refine zx_aload C d_Mod_ofDeed_42 rfl ?_
          refine zm_g C f_Mod_37_12 d_Mod_ofDeed_43 rfl ?_
          refine zx_iload C d_Mod_ofDeed_46 rfl ?_
          refine zm_ld14 C d_Mod_ofDeed_47 j rfl (by omega) ?_
          refine zx_goto C d_Mod_ofDeed_48 ?_
          exact zx_iret C hq d_Mod_ofDeed_67 (mpost_i ev hm)
      · have ev : R 13 j = ap_ofD S (nI j) what := by rw [e13, ap_ofD, if_neg (nor_of h5), if_neg h11, if_pos h25, nI_cl hj31]
        refine zx_aload C d_Mod_ofDeed_28 rfl ?_
        refine zm_g C f_Mod_34_12 d_Mod_ofDeed_29 rfl ?_
        refine zx_iload C d_Mod_ofDeed_32 rfl ?_
        refine zm_ld13 C d_Mod_ofDeed_33 j rfl (by omega) ?_
        refine zx_goto C d_Mod_ofDeed_34 ?_
        exact zx_iret C hq d_Mod_ofDeed_67 (mpost_i ev hm)
    · have ev : R 12 j = ap_ofD S (nI j) what := by rw [e12, ap_ofD, if_neg (nor_of h5), if_pos h11, nI_cl hj31]
      refine zx_aload C d_Mod_ofDeed_14 rfl ?_
      refine zm_g C f_Mod_31_12 d_Mod_ofDeed_15 rfl ?_
      refine zx_iload C d_Mod_ofDeed_18 rfl ?_
      refine zm_ld12 C d_Mod_ofDeed_19 j rfl (by omega) ?_
      refine zx_goto C d_Mod_ofDeed_20 ?_
      exact zx_iret C hq d_Mod_ofDeed_67 (mpost_i ev hm)
  · rw [mrp_e6 hm] at h5
    have ev : (-1 : Int32) = ap_ofD S h what := (if_pos (nand_or h5)).symm
    refine zx_ic C d_Mod_ofDeed_8 ?_
    exact zx_iret C hq d_Mod_ofDeed_9 (mpost_i ev hm)
set_option maxHeartbeats 600000 in
set_option maxRecDepth 20000 in
theorem c_Mod_minutes (G : ZG) (o : Nat) (ad : Nat → Nat) (F : Nat → Int32) (R : Nat → Nat → Int32) (X : va_W) (S : ZA) (hm : mrp S F R) (v : Int32) : ZM G y_Mod_minutes b_Mod_minutes 3 (some .int) r_Mod_minutes [.ref o, .int v] (mw G o ad F R ++ X) (mpost G o ad X (ap_min S v).1 (ap_min S v).2) := by
  refine ZM.of "SameTuesdayModel" "minutes" rfl rfl (by decide) (Nat.le_of_ble_eq_true rfl) (fun Y C hq => ?_)
  change ZV G Y 0 0 0 [(0, .ref o), (1, .int v)] [] (mw G o ad F R ++ X)
  refine zx_iload C d_Mod_minutes_0 rfl ?_
  refine zx_ic C d_Mod_minutes_1 ?_
  refine zx_ic C d_Mod_minutes_2 ?_
  refine zr_di (zr_S C l_Mod_83 d_Mod_minutes_4 (As := [_, _, _]) rfl rfl (Nat.le_of_ble_eq_true rfl) (c_Mod_within G _ _ _ _) ⟨Nat.le_of_ble_eq_true rfl, Nat.le_of_ble_eq_true rfl, Nat.le_of_ble_eq_true rfl, Nat.le_of_ble_eq_true rfl⟩) ?_
  refine zx_ifB_ne C d_Mod_minutes_7 (fun h7 => ?_) (fun h7 => ?_)
  · refine zx_aload C d_Mod_minutes_13 rfl ?_
    refine zm_g C f_Mod_87_12 d_Mod_minutes_14 rfl ?_
    refine zx_if_ne C d_Mod_minutes_17 (fun h17 => ?_) (fun h17 => ?_)
    · obtain ⟨j, hj, rfl⟩ := ix_le (n := 60) (by decide) (fun z => h7.1 (by rw [Int32.lt_iff_toInt_lt] at z ⊢; rw [show (0 : Int32).toInt = 0 by decide] at z; rw [show (1 : Int32).toInt = 1 by decide]; omega)) h7.2
      have hj1 : 1 ≤ j := by
        refine Nat.pos_of_ne_zero (fun z => h7.1 ?_)
        rw [z]; decide
      have ev : ap_min S (nI j) = (nI (aT S).2.2.1, sT S ((aT S).1, (aT S).2.1, j, (aT S).2.2.2)) := by rw [ap_min, if_neg (nor_of h7), if_neg (fun z => h17 ((mrp_0 hm).mpr z)), nI_cl (by omega)]
      have hm2 := mrp_min hm hj1 hj
      rw [← mrp_e7 hm] at ev
      refine zx_aload C d_Mod_minutes_23 rfl ?_
      refine zm_g C f_Mod_120_12 d_Mod_minutes_24 rfl ?_
      refine zx_istore C d_Mod_minutes_27 (by decide) (lv1 := [(2, _), (0, _), (1, _)]) rfl ?_
      refine zx_aload C d_Mod_minutes_28 rfl ?_
      refine zx_iload C d_Mod_minutes_29 rfl ?_
      refine zm_p C p_Mod_120_12 d_Mod_minutes_30 zb_fit_i (Nat.le_of_ble_eq_true rfl) zms_7 ?_
      refine zx_iload C d_Mod_minutes_33 rfl ?_
      exact zx_iret C hq d_Mod_minutes_34 (by rw [ev]; exact mpost_i rfl hm2)
    · have ev : ap_min S v = (-3, S) := by rw [ap_min, if_neg (nor_of h7), if_pos ((mrp_0 hm).mp h17)]
      have hm2 := hm
      refine zx_ic C d_Mod_minutes_20 ?_
      exact zx_iret C hq d_Mod_minutes_22 (by rw [ev]; exact mpost_i rfl hm2)
  · have ev : ap_min S v = (-2, S) := if_pos (nand_or h7)
    have hm2 := hm
    refine zx_ic C d_Mod_minutes_10 ?_
    exact zx_iret C hq d_Mod_minutes_12 (by rw [ev]; exact mpost_i rfl hm2)
set_option maxHeartbeats 600000 in
set_option maxRecDepth 20000 in
theorem c_Mod_shift (G : ZG) (o : Nat) (ad : Nat → Nat) (F : Nat → Int32) (R : Nat → Nat → Int32) (X : va_W) (S : ZA) (hm : mrp S F R) (h v : Int32) : ZM G y_Mod_shift b_Mod_shift 4 (some .int) r_Mod_shift [.ref o, .int h, .int v] (mw G o ad F R ++ X) (mpost G o ad X (ap_shift S h v).1 (ap_shift S h v).2) := by
  refine ZM.of "SameTuesdayModel" "shift" rfl rfl (by decide) (Nat.le_of_ble_eq_true rfl) (fun Y C hq => ?_)
  change ZV G Y 0 0 0 [(0, .ref o), (1, .int h), (2, .int v)] [] (mw G o ad F R ++ X)
  refine zx_aload C d_Mod_shift_0 rfl ?_
  refine zx_iload C d_Mod_shift_1 rfl ?_
  refine zr_di (zr_V C l_Mod_140 d_Mod_shift_2 (As := [_]) rfl rfl (Nat.le_of_ble_eq_true rfl) (c_Mod_isHappening G _ _ _ _ _ _) 0 rfl rfl ⟨Nat.le_of_ble_eq_true rfl, Nat.le_of_ble_eq_true rfl, Nat.le_of_ble_eq_true rfl, Nat.le_of_ble_eq_true rfl⟩) ?_
  refine zx_ifB_ne C d_Mod_shift_5 (fun h5 => ?_) (fun h5 => ?_)
  · rw [mrp_e5 hm] at h5
    obtain ⟨j, hj, rfl⟩ := ix_of (by have := (mrp_tok hm).1; omega) h5.1 h5.2
    have hj6 : j < 6 := by have := (mrp_tok hm).1; omega
    have hj31 : j < 2 ^ 31 := by omega
    obtain ⟨e8, e9, e10, e11⟩ := mrp_H hm hj
    refine zx_iload C d_Mod_shift_10 rfl ?_
    refine zx_ic C d_Mod_shift_11 ?_
    refine zx_ic C d_Mod_shift_12 ?_
    refine zr_di (zr_S C l_Mod_83 d_Mod_shift_14 (As := [_, _, _]) rfl rfl (Nat.le_of_ble_eq_true rfl) (c_Mod_within G _ _ _ _) ⟨Nat.le_of_ble_eq_true rfl, Nat.le_of_ble_eq_true rfl, Nat.le_of_ble_eq_true rfl, Nat.le_of_ble_eq_true rfl⟩) ?_
    refine zx_ifB_ne C d_Mod_shift_17 (fun h17 => ?_) (fun h17 => ?_)
    · obtain ⟨x, hx, rfl⟩ := ix_le (n := 59) (by decide) h17.1 h17.2
      have ev : ap_shift S (nI j) (nI x) = (R 9 j, sT S ((aT S).1, (aT S).2.1, (aT S).2.2.1, tmv (aT S).2.2.2 j x)) := by rw [ap_shift, if_neg (nor_of h5), if_neg (nor_of h17), nI_cl hj31, nI_cl (by omega), e9]
      have hm2 := mrp_shift hm hj hx
      refine zx_aload C d_Mod_shift_23 rfl ?_
      refine zm_g C f_Mod_22_12 d_Mod_shift_24 rfl ?_
      refine zx_iload C d_Mod_shift_27 rfl ?_
      refine zm_ld9 C d_Mod_shift_28 j rfl (by omega) ?_
      refine zx_istore C d_Mod_shift_29 (by decide) (lv1 := [(3, _), (0, _), (1, _), (2, _)]) rfl ?_
      refine zx_aload C d_Mod_shift_30 rfl ?_
      refine zm_g C f_Mod_22_12 d_Mod_shift_31 rfl ?_
      refine zx_iload C d_Mod_shift_34 rfl ?_
      refine zx_iload C d_Mod_shift_35 rfl ?_
      refine zm_st9 C d_Mod_shift_36 j rfl (by omega) ?_
      refine zx_iload C d_Mod_shift_37 rfl ?_
      exact zx_iret C hq d_Mod_shift_38 (by rw [ev]; exact mpost_i rfl hm2)
    · have ev : ap_shift S (nI j) v = (-2, S) := by rw [ap_shift, if_neg (nor_of h5), if_pos (nand_or h17)]
      have hm2 := hm
      refine zx_ic C d_Mod_shift_20 ?_
      exact zx_iret C hq d_Mod_shift_22 (by rw [ev]; exact mpost_i rfl hm2)
  · rw [mrp_e5 hm] at h5
    have ev : ap_shift S h v = (-1, S) := if_pos (nand_or h5)
    have hm2 := hm
    refine zx_ic C d_Mod_shift_8 ?_
    exact zx_iret C hq d_Mod_shift_9 (by rw [ev]; exact mpost_i rfl hm2)
set_option maxHeartbeats 600000 in
set_option maxRecDepth 20000 in
theorem c_Mod_day (G : ZG) (o : Nat) (ad : Nat → Nat) (F : Nat → Int32) (R : Nat → Nat → Int32) (X : va_W) (S : ZA) (hm : mrp S F R) (v : Int32) : ZM G y_Mod_day b_Mod_day 2 (some .int) r_Mod_day [.ref o, .int v] (mw G o ad F R ++ X) (mpost G o ad X (ap_day S v).1 (ap_day S v).2) := by
  refine ZM.of "SameTuesdayModel" "day" rfl rfl (by decide) (Nat.le_of_ble_eq_true rfl) (fun Y C hq => ?_)
  change ZV G Y 0 0 0 [(0, .ref o), (1, .int v)] [] (mw G o ad F R ++ X)
  have e32 := mrp_e32 hm
  have h8 : and8 S ≤ 8 := hm.1.2.2.2.1
  refine zx_iload C d_Mod_day_0 rfl ?_
  refine zr_di (zr_S C l_Mod_210 d_Mod_day_1 (As := [_]) rfl rfl (Nat.le_of_ble_eq_true rfl) (c_Mod_isSet G _ _) ⟨Nat.le_of_ble_eq_true rfl, Nat.le_of_ble_eq_true rfl, Nat.le_of_ble_eq_true rfl, Nat.le_of_ble_eq_true rfl⟩) ?_
  refine zx_ifB_ne C d_Mod_day_4 (fun h4 => ?_) (fun h4 => ?_)
  · obtain ⟨x, hx, rfl⟩ := ix_le (n := 63) (by decide) h4.1 h4.2
    refine zx_aload C d_Mod_day_10 rfl ?_
    refine zm_g C f_Mod_87_12 d_Mod_day_11 rfl ?_
    refine zx_if_ne C d_Mod_day_14 (fun h14 => ?_) (fun h14 => ?_)
    · refine zx_aload C d_Mod_day_20 rfl ?_
      refine zm_g C f_Mod_123_12 d_Mod_day_21 rfl ?_
      refine zx_ic C d_Mod_day_24 ?_
      refine zx_ic_ne C d_Mod_day_26 (fun h26 => ?_) (fun h26 => ?_)
      · have e8 : ¬ and8 S = 8 := fun z => h26 (e32.trans (by rw [z]; rfl))
        have ev : ap_day S (nI x) = (F 32 + 1 - 1, sD S (and8 S + 1) (dput (ady S) (and8 S) x)) := by rw [ap_day, if_neg (nor_of h4), if_neg (fun z => h14 ((mrp_0 hm).mpr z)), if_neg e8, nI_cl (by omega), e32, Int32.add_sub_cancel]
        have hm2 := mrp_day hm (v := x) (by omega) (by omega)
        refine zx_aload C d_Mod_day_32 rfl ?_
        refine zm_g C f_Mod_75_12 d_Mod_day_33 rfl ?_
        refine zx_aload C d_Mod_day_36 rfl ?_
        refine zm_g C f_Mod_123_12 d_Mod_day_37 rfl ?_
        refine zx_iload C d_Mod_day_40 rfl ?_
        refine zm_st33 C d_Mod_day_41 (and8 S) e32 (by omega) ?_
        refine zx_aload C d_Mod_day_42 rfl ?_
        refine zx_dup C rfl d_Mod_day_43 ?_
        refine zm_g C f_Mod_123_12 d_Mod_day_44 rfl ?_
        refine zx_ic C d_Mod_day_47 ?_
        refine zx_iadd C d_Mod_day_48 ?_
        refine zm_p C p_Mod_123_12 d_Mod_day_49 zb_fit_i (Nat.le_of_ble_eq_true rfl) zms_32 ?_
        refine zx_aload C d_Mod_day_52 rfl ?_
        refine zm_g C f_Mod_123_12 d_Mod_day_53 rfl ?_
        refine zx_ic C d_Mod_day_56 ?_
        refine zx_isub C d_Mod_day_57 ?_
        exact zx_iret C hq d_Mod_day_58 (by rw [ev]; exact mpost_i rfl hm2)
      · have e8 : and8 S = 8 := (nI_eq (by omega) (by decide)).mp (e32.symm.trans h26)
        have ev : ap_day S (nI x) = (-4, S) := by rw [ap_day, if_neg (nor_of h4), if_neg (fun z => h14 ((mrp_0 hm).mpr z)), if_pos e8]
        have hm2 := hm
        refine zx_ic C d_Mod_day_29 ?_
        exact zx_iret C hq d_Mod_day_31 (by rw [ev]; exact mpost_i rfl hm2)
    · have ev : ap_day S (nI x) = (-3, S) := by rw [ap_day, if_neg (nor_of h4), if_pos ((mrp_0 hm).mp h14)]
      have hm2 := hm
      refine zx_ic C d_Mod_day_17 ?_
      exact zx_iret C hq d_Mod_day_19 (by rw [ev]; exact mpost_i rfl hm2)
  · have ev : ap_day S v = (-2, S) := if_pos (nand_or h4)
    have hm2 := hm
    refine zx_ic C d_Mod_day_7 ?_
    exact zx_iret C hq d_Mod_day_9 (by rw [ev]; exact mpost_i rfl hm2)
set_option maxHeartbeats 600000 in
set_option maxRecDepth 20000 in
theorem c_Mod_forget (G : ZG) (o : Nat) (ad : Nat → Nat) (F : Nat → Int32) (R : Nat → Nat → Int32) (X : va_W) (S : ZA) (hm : mrp S F R) (k : Int32) : ZM G y_Mod_forget b_Mod_forget 2 (some .int) r_Mod_forget [.ref o, .int k] (mw G o ad F R ++ X) (mpost G o ad X (ap_forget S k).1 (ap_forget S k).2) := by
  refine ZM.of "SameTuesdayModel" "forget" rfl rfl (by decide) (Nat.le_of_ble_eq_true rfl) (fun Y C hq => ?_)
  change ZV G Y 0 0 0 [(0, .ref o), (1, .int k)] [] (mw G o ad F R ++ X)
  have e32 := mrp_e32 hm
  have h8 : and8 S ≤ 8 := hm.1.2.2.2.1
  refine zx_iload C d_Mod_forget_0 rfl ?_
  refine zx_ic C d_Mod_forget_1 ?_
  refine zx_aload C d_Mod_forget_2 rfl ?_
  refine zm_g C f_Mod_123_12 d_Mod_forget_3 rfl ?_
  refine zr_di (zr_S C l_Mod_83 d_Mod_forget_6 (As := [_, _, _]) rfl rfl (Nat.le_of_ble_eq_true rfl) (c_Mod_within G _ _ _ _) ⟨Nat.le_of_ble_eq_true rfl, Nat.le_of_ble_eq_true rfl, Nat.le_of_ble_eq_true rfl, Nat.le_of_ble_eq_true rfl⟩) ?_
  refine zx_ifB_ne C d_Mod_forget_9 (fun h9 => ?_) (fun h9 => ?_)
  · rw [e32] at h9
    obtain ⟨x, hx, rfl⟩ := ix_le (by omega) h9.1 h9.2
    have ev : ap_forget S (nI x) = (F 32 - nI x, sD S (and8 S - x) (ady S)) := by rw [ap_forget, if_neg (nor_of h9), nI_cl (by omega), e32, pk_sub hx]
    have hm2 := mrp_forget hm hx
    refine zx_aload C d_Mod_forget_15 rfl ?_
    refine zx_dup C rfl d_Mod_forget_16 ?_
    refine zm_g C f_Mod_123_12 d_Mod_forget_17 rfl ?_
    refine zx_iload C d_Mod_forget_20 rfl ?_
    refine zx_isub C d_Mod_forget_21 ?_
    refine zm_p C p_Mod_123_12 d_Mod_forget_22 zb_fit_i (Nat.le_of_ble_eq_true rfl) zms_32 ?_
    refine zx_aload C d_Mod_forget_25 rfl ?_
    refine zm_g C f_Mod_123_12 d_Mod_forget_26 rfl ?_
    exact zx_iret C hq d_Mod_forget_29 (by rw [ev]; exact mpost_i rfl hm2)
  · rw [e32] at h9
    have ev : ap_forget S k = (-2, S) := if_pos (nand_or h9)
    have hm2 := hm
    refine zx_ic C d_Mod_forget_12 ?_
    exact zx_iret C hq d_Mod_forget_14 (by rw [ev]; exact mpost_i rfl hm2)
set_option maxHeartbeats 600000 in
set_option maxRecDepth 20000 in
theorem c_Mod_lose (G : ZG) (o : Nat) (ad : Nat → Nat) (F : Nat → Int32) (R : Nat → Nat → Int32) (X : va_W) (S : ZA) (hm : mrp S F R) (k : Int32) : ZM G y_Mod_lose b_Mod_lose 3 (some .int) r_Mod_lose [.ref o, .int k] (mw G o ad F R ++ X) (mpost G o ad X (ap_lose S k).1 (ap_lose S k).2) := by
  refine ZM.of "SameTuesdayModel" "lose" rfl rfl (by decide) (Nat.le_of_ble_eq_true rfl) (fun Y C hq => ?_)
  change ZV G Y 0 0 0 [(0, .ref o), (1, .int k)] [] (mw G o ad F R ++ X)
  refine zx_iload C d_Mod_lose_0 rfl ?_
  refine zr_di (zr_S C l_Mod_96 d_Mod_lose_1 (As := [_]) rfl rfl (Nat.le_of_ble_eq_true rfl) (c_Mod_isSheet G _ _) ⟨Nat.le_of_ble_eq_true rfl, Nat.le_of_ble_eq_true rfl, Nat.le_of_ble_eq_true rfl, Nat.le_of_ble_eq_true rfl⟩) ?_
  refine zx_ifB_ne C d_Mod_lose_4 (fun h4 => ?_) (fun h4 => ?_)
  · obtain ⟨j, hj, rfl⟩ := ix_le (n := 3) (by decide) h4.1 h4.2
    have hj4 : j < 4 := by omega
    have e2 := (hm.2.2.2.1 j hj4).1
    have hln := (hm.1.1 j hj4).1
    have hm2 := mrp_lose hm hj4
    refine zx_aload C d_Mod_lose_9 rfl ?_
    refine zm_g C f_Mod_9_12 d_Mod_lose_10 rfl ?_
    refine zx_iload C d_Mod_lose_13 rfl ?_
    refine zm_ld2 C d_Mod_lose_14 j rfl (by omega) ?_
    refine zx_ic C d_Mod_lose_15 ?_
    refine zx_ic_ne C d_Mod_lose_17 (fun h17 => ?_) (fun h17 => ?_)
    · have ev : ap_lose S (nI j) = (1, sS S (iput (aln S) j (-1)) (iput (asz S) j 0) (ace S)) := by rw [ap_lose, if_neg (nor_of h4), nI_cl (by omega), if_neg (fun z => h17 (e2.trans ((mlane_9 hln).mpr z)))]
      refine zx_ic C d_Mod_lose_24 ?_
      refine zx_istore C d_Mod_lose_25 (by decide) (lv1 := [(2, _), (0, _), (1, _)]) rfl ?_
      refine zx_aload C d_Mod_lose_26 rfl ?_
      refine zm_g C f_Mod_9_12 d_Mod_lose_27 rfl ?_
      refine zx_iload C d_Mod_lose_30 rfl ?_
      refine zx_ic C d_Mod_lose_31 ?_
      refine zm_st2 C d_Mod_lose_33 j rfl (by omega) ?_
      refine zx_iload C d_Mod_lose_34 rfl ?_
      exact zx_iret C hq d_Mod_lose_35 (by rw [ev]; exact mpost_i rfl hm2)
    · have ev : ap_lose S (nI j) = (0, sS S (iput (aln S) j (-1)) (iput (asz S) j 0) (ace S)) := by rw [ap_lose, if_neg (nor_of h4), nI_cl (by omega), if_pos ((mlane_9 hln).mp (e2.symm.trans h17))]
      refine zx_ic C d_Mod_lose_20 ?_
      refine zx_goto C d_Mod_lose_21 ?_
      refine zx_istore C d_Mod_lose_25 (by decide) (lv1 := [(2, _), (0, _), (1, _)]) rfl ?_
      refine zx_aload C d_Mod_lose_26 rfl ?_
      refine zm_g C f_Mod_9_12 d_Mod_lose_27 rfl ?_
      refine zx_iload C d_Mod_lose_30 rfl ?_
      refine zx_ic C d_Mod_lose_31 ?_
      refine zm_st2 C d_Mod_lose_33 j rfl (by omega) ?_
      refine zx_iload C d_Mod_lose_34 rfl ?_
      exact zx_iret C hq d_Mod_lose_35 (by rw [ev]; exact mpost_i rfl hm2)
  · have ev : ap_lose S k = (-1, S) := if_pos (nand_or h4)
    have hm2 := hm
    refine zx_ic C d_Mod_lose_7 ?_
    exact zx_iret C hq d_Mod_lose_8 (by rw [ev]; exact mpost_i rfl hm2)
set_option maxHeartbeats 600000 in
set_option maxRecDepth 20000 in
theorem c_Mod_put (G : ZG) (o : Nat) (ad : Nat → Nat) (F : Nat → Int32) (R : Nat → Nat → Int32) (X : va_W) (S : ZA) (hm : mrp S F R) (k i v : Int32) : ZM G y_Mod_put b_Mod_put 4 (some .int) r_Mod_put [.ref o, .int k, .int i, .int v] (mw G o ad F R ++ X) (mpost G o ad X (ap_put S k i v).1 (ap_put S k i v).2) := by
  refine ZM.of "SameTuesdayModel" "put" rfl rfl (by decide) (Nat.le_of_ble_eq_true rfl) (fun Y C hq => ?_)
  change ZV G Y 0 0 0 [(0, .ref o), (1, .int k), (2, .int i), (3, .int v)] [] (mw G o ad F R ++ X)
  refine zx_aload C d_Mod_put_0 rfl ?_
  refine zx_ic C d_Mod_put_1 ?_
  refine zm_p C p_Mod_78_12 d_Mod_put_2 zb_fit_i (Nat.le_of_ble_eq_true rfl) zms_0 ?_
  refine zx_iload C d_Mod_put_5 rfl ?_
  refine zr_di (zr_S C l_Mod_96 d_Mod_put_6 (As := [_]) rfl rfl (Nat.le_of_ble_eq_true rfl) (c_Mod_isSheet G _ _) ⟨Nat.le_of_ble_eq_true rfl, Nat.le_of_ble_eq_true rfl, Nat.le_of_ble_eq_true rfl, Nat.le_of_ble_eq_true rfl⟩) ?_
  refine zx_ifB_ne C d_Mod_put_9 (fun h9 => ?_) (fun h9 => ?_)
  · obtain ⟨j, hj, rfl⟩ := ix_le (n := 3) (by decide) h9.1 h9.2
    have hj4 : j < 4 := by omega
    obtain ⟨e2, e3, e4⟩ := hm.2.2.2.1 j hj4
    have hln := (hm.1.1 j hj4).1
    have hsz := (hm.1.1 j hj4).2.1
    refine zx_aload C d_Mod_put_14 rfl ?_
    refine zm_g C f_Mod_9_12 d_Mod_put_15 rfl ?_
    refine zx_iload C d_Mod_put_18 rfl ?_
    refine zm_ld2 C d_Mod_put_19 j rfl (by omega) ?_
    refine zx_ic C d_Mod_put_20 ?_
    refine zx_ic_ne C d_Mod_put_22 (fun h22 => ?_) (fun h22 => ?_)
    · have hn1 : ¬ aln S j = -1 := fun z => h22 (e2.trans ((mlane_9 hln).mpr z))
      have e3 := e3 hn1
      have cz : (R 3 j - 1 < i) ↔ nI (asz S j) ≤ i := by rw [e3]; exact sub1_lt hsz
      refine zx_iload C d_Mod_put_31 rfl ?_
      refine zx_ic C d_Mod_put_32 ?_
      refine zx_aload C d_Mod_put_33 rfl ?_
      refine zm_g C f_Mod_13_12 d_Mod_put_34 rfl ?_
      refine zx_iload C d_Mod_put_37 rfl ?_
      refine zm_ld3 C d_Mod_put_38 j rfl (by omega) ?_
      refine zx_ic C d_Mod_put_39 ?_
      refine zx_isub C d_Mod_put_40 ?_
      refine zr_di (zr_S C l_Mod_83 d_Mod_put_41 (As := [_, _, _]) rfl rfl (Nat.le_of_ble_eq_true rfl) (c_Mod_within G _ _ _ _) ⟨Nat.le_of_ble_eq_true rfl, Nat.le_of_ble_eq_true rfl, Nat.le_of_ble_eq_true rfl, Nat.le_of_ble_eq_true rfl⟩) ?_
      refine zx_ifB_ne C d_Mod_put_44 (fun h44 => ?_) (fun h44 => ?_)
      · obtain ⟨x, hx, rfl⟩ := ix_of (by omega) h44.1 (fun z => h44.2 (cz.mpr z))
        have e2n : R 2 j = aln S j := e2.trans (mlane_n hn1)
        have ev0 : ap_put S (nI j) (nI x) v = (1, sS (sf S 0) (aln S) (asz S) (iput (ace S) j (iput (ace S j) x (cutv (aln S j) v)))) := by rw [ap_put, if_neg (nor_of h9), nI_cl (by omega), nI_cl (by omega), if_neg hn1, if_neg (nor_of ⟨h44.1, fun z => h44.2 (cz.mpr z)⟩)]
        have hm3 := fun u => mrp_put (mrp_f hm 0) (v := u) hj4 (by omega : x < 60)
        refine zx_aload C d_Mod_put_53 rfl ?_
        refine zm_g C f_Mod_16_12 d_Mod_put_54 rfl ?_
        refine zx_ic C d_Mod_put_57 ?_
        refine zx_iload C d_Mod_put_59 rfl ?_
        refine zx_imul C d_Mod_put_60 ?_
        refine zx_iload C d_Mod_put_61 rfl ?_
        refine zx_iadd C d_Mod_put_62 ?_
        refine zx_aload C d_Mod_put_63 rfl ?_
        refine zm_g C f_Mod_9_12 d_Mod_put_64 rfl ?_
        refine zx_iload C d_Mod_put_67 rfl ?_
        refine zm_ld2 C d_Mod_put_68 j rfl (by omega) ?_
        refine zx_if_ne C d_Mod_put_69 (fun h69 => ?_) (fun h69 => ?_)
        · refine zx_aload C d_Mod_put_77 rfl ?_
          refine zm_g C f_Mod_9_12 d_Mod_put_78 rfl ?_
          refine zx_iload C d_Mod_put_81 rfl ?_
          refine zm_ld2 C d_Mod_put_82 j rfl (by omega) ?_
          refine zx_ic C d_Mod_put_83 ?_
          refine zx_ic_ne C d_Mod_put_84 (fun h84 => ?_) (fun h84 => ?_)
          · rw [cutv, if_neg (e2n ▸ h69), if_neg (e2n ▸ h84)] at ev0
            have ev := ev0
            have hm2 := hm3 v
            refine zx_iload C d_Mod_put_92 rfl ?_
            refine zm_st4 C d_Mod_put_93 (60 * j + x) (by rw [show (60 : Int32) = nI 60 from rfl, pk_mul, nI_add]) (by omega) ?_
            refine zx_ic C d_Mod_put_94 ?_
            exact zx_iret C hq d_Mod_put_95 (by rw [ev]; exact mpost_i rfl hm2)
          · rw [cutv, if_neg (e2n ▸ h69), if_pos (e2n ▸ h84)] at ev0
            have ev := ev0
            have hm2 := hm3 v.toInt16.toInt32
            refine zx_iload C d_Mod_put_87 rfl ?_
            refine zx_i2s C d_Mod_put_88 ?_
            refine zx_goto C d_Mod_put_89 ?_
            refine zm_st4 C d_Mod_put_93 (60 * j + x) (by rw [show (60 : Int32) = nI 60 from rfl, pk_mul, nI_add]) (by omega) ?_
            refine zx_ic C d_Mod_put_94 ?_
            exact zx_iret C hq d_Mod_put_95 (by rw [ev]; exact mpost_i rfl hm2)
        · rw [cutv, if_pos (e2n ▸ h69)] at ev0
          have ev := ev0
          have hm2 := hm3 v.toInt8.toInt32
          refine zx_iload C d_Mod_put_72 rfl ?_
          refine zx_i2b C d_Mod_put_73 ?_
          refine zx_goto C d_Mod_put_74 ?_
          refine zm_st4 C d_Mod_put_93 (60 * j + x) (by rw [show (60 : Int32) = nI 60 from rfl, pk_mul, nI_add]) (by omega) ?_
          refine zx_ic C d_Mod_put_94 ?_
          exact zx_iret C hq d_Mod_put_95 (by rw [ev]; exact mpost_i rfl hm2)
      · have ev : ap_put S (nI j) i v = (-13, sf S 3) := by rw [ap_put, if_neg (nor_of h9), nI_cl (by omega), if_neg hn1, if_pos ((nand_or h44).imp id (fun z => cz.mp z))]
        have hm2 : mrp (sf S 3) (upd (upd F 0 0) 0 3) R := by rw [upd_upd]; exact mrp_f hm 3
        refine zx_aload C d_Mod_put_47 rfl ?_
        refine zx_ic C d_Mod_put_48 ?_
        refine zr_di (zr_V C l_Mod_107 d_Mod_put_49 (As := [_]) rfl rfl (Nat.le_of_ble_eq_true rfl) (c_Mod_fails G _ _ _ _ _ _) 0 rfl rfl ⟨Nat.le_of_ble_eq_true rfl, Nat.le_of_ble_eq_true rfl, Nat.le_of_ble_eq_true rfl, Nat.le_of_ble_eq_true rfl⟩) ?_
        exact zx_iret C hq d_Mod_put_52 (by rw [ev]; exact mpost_i rfl hm2)
    · have ev : ap_put S (nI j) i v = (-11, sf S 1) := by rw [ap_put, if_neg (nor_of h9), nI_cl (by omega), if_pos ((mlane_9 hln).mp (e2.symm.trans h22))]
      have hm2 : mrp (sf S 1) (upd (upd F 0 0) 0 1) R := by rw [upd_upd]; exact mrp_f hm 1
      refine zx_aload C d_Mod_put_25 rfl ?_
      refine zx_ic C d_Mod_put_26 ?_
      refine zr_di (zr_V C l_Mod_107 d_Mod_put_27 (As := [_]) rfl rfl (Nat.le_of_ble_eq_true rfl) (c_Mod_fails G _ _ _ _ _ _) 0 rfl rfl ⟨Nat.le_of_ble_eq_true rfl, Nat.le_of_ble_eq_true rfl, Nat.le_of_ble_eq_true rfl, Nat.le_of_ble_eq_true rfl⟩) ?_
      exact zx_iret C hq d_Mod_put_30 (by rw [ev]; exact mpost_i rfl hm2)
  · have ev : ap_put S k i v = (-1, sf S 0) := if_pos (nand_or h9)
    have hm2 := mrp_f hm 0
    refine zx_ic C d_Mod_put_12 ?_
    exact zx_iret C hq d_Mod_put_13 (by rw [ev]; exact mpost_i rfl hm2)
set_option maxHeartbeats 600000 in
set_option maxRecDepth 20000 in
theorem c_Mod_cell (G : ZG) (o : Nat) (ad : Nat → Nat) (F : Nat → Int32) (R : Nat → Nat → Int32) (X : va_W) (S : ZA) (hm : mrp S F R) (k i l : Int32) : ZM G y_Mod_cell b_Mod_cell 4 (some .long) r_Mod_cell [.ref o, .int k, .int i, .int l] (mw G o ad F R ++ X) (mpostL G o ad X (ap_cell S k i l).1 (ap_cell S k i l).2) := by
  refine ZM.of "SameTuesdayModel" "cell" rfl rfl (by decide) (Nat.le_of_ble_eq_true rfl) (fun Y C hq => ?_)
  change ZV G Y 0 0 0 [(0, .ref o), (1, .int k), (2, .int i), (3, .int l)] [] (mw G o ad F R ++ X)
  refine zx_aload C d_Mod_cell_0 rfl ?_
  refine zx_ic C d_Mod_cell_1 ?_
  refine zm_p C p_Mod_78_12 d_Mod_cell_2 zb_fit_i (Nat.le_of_ble_eq_true rfl) zms_0 ?_
  refine zx_iload C d_Mod_cell_5 rfl ?_
  refine zr_di (zr_S C l_Mod_96 d_Mod_cell_6 (As := [_]) rfl rfl (Nat.le_of_ble_eq_true rfl) (c_Mod_isSheet G _ _) ⟨Nat.le_of_ble_eq_true rfl, Nat.le_of_ble_eq_true rfl, Nat.le_of_ble_eq_true rfl, Nat.le_of_ble_eq_true rfl⟩) ?_
  refine zx_ifB_eq C d_Mod_cell_9 (fun h9 => ?_) (fun h9 => ?_)
  · have ev : ap_cell S k i l = (-9223372036854775808, sf S 0) := if_pos (Or.inl (nand_or h9))
    have hm2 := mrp_f hm 0
    refine zx_lc C d_Mod_cell_19 ?_
    exact zx_lret C hq d_Mod_cell_22 (by rw [ev]; exact mpost_l rfl hm2)
  · refine zx_iload C d_Mod_cell_12 rfl ?_
    refine zr_di (zr_S C l_Mod_100 d_Mod_cell_13 (As := [_]) rfl rfl (Nat.le_of_ble_eq_true rfl) (c_Mod_isSort G _ _) ⟨Nat.le_of_ble_eq_true rfl, Nat.le_of_ble_eq_true rfl, Nat.le_of_ble_eq_true rfl, Nat.le_of_ble_eq_true rfl⟩) ?_
    refine zx_ifB_ne C d_Mod_cell_16 (fun h16 => ?_) (fun h16 => ?_)
    · obtain ⟨j, hj, rfl⟩ := ix_le (n := 3) (by decide) h9.1 h9.2
      have hj4 : j < 4 := by omega
      obtain ⟨e2, e3, e4⟩ := hm.2.2.2.1 j hj4
      have hln := (hm.1.1 j hj4).1
      have hsz := (hm.1.1 j hj4).2.1
      have hm3 : ∀ u, mrp (sf S u) (upd (upd F 0 0) 0 u) R := fun u => by rw [upd_upd]; exact mrp_f hm u
      have ev0 : ap_cell S (nI j) i l = _ := if_neg (nor_of ⟨nor_of h9, nor_of h16⟩)
      rw [nI_cl (by omega)] at ev0
      refine zx_aload C d_Mod_cell_23 rfl ?_
      refine zm_g C f_Mod_9_12 d_Mod_cell_24 rfl ?_
      refine zx_iload C d_Mod_cell_27 rfl ?_
      refine zm_ld2 C d_Mod_cell_28 j rfl (by omega) ?_
      refine zx_ic C d_Mod_cell_29 ?_
      refine zx_ic_eq C d_Mod_cell_31 (fun h31 => ?_) (fun h31 => ?_)
      · have e1 : aln S j = -1 := (mlane_9 hln).mp (e2.symm.trans h31)
        refine zx_aload C d_Mod_cell_50 rfl ?_
        refine zm_g C f_Mod_9_12 d_Mod_cell_51 rfl ?_
        refine zx_iload C d_Mod_cell_54 rfl ?_
        refine zm_ld2 C d_Mod_cell_55 j rfl (by omega) ?_
        refine zx_ic C d_Mod_cell_56 ?_
        refine zx_ic_ne C d_Mod_cell_58 (fun h58 => ?_) (fun h58 => ?_)
        · have hn1 : ¬ aln S j = -1 := fun z => h58 (e2.trans ((mlane_9 hln).mpr z))
          have e3 := e3 hn1
          have cz : (R 3 j - 1 < i) ↔ nI (asz S j) ≤ i := by rw [e3]; exact sub1_lt hsz
          have hl2 : aln S j = l := by first | exact hl | exact absurd e1 hn1
          refine zx_iload C d_Mod_cell_67 rfl ?_
          refine zx_ic C d_Mod_cell_68 ?_
          refine zx_aload C d_Mod_cell_69 rfl ?_
          refine zm_g C f_Mod_13_12 d_Mod_cell_70 rfl ?_
          refine zx_iload C d_Mod_cell_73 rfl ?_
          refine zm_ld3 C d_Mod_cell_74 j rfl (by omega) ?_
          refine zx_ic C d_Mod_cell_75 ?_
          refine zx_isub C d_Mod_cell_76 ?_
          refine zr_di (zr_S C l_Mod_83 d_Mod_cell_77 (As := [_, _, _]) rfl rfl (Nat.le_of_ble_eq_true rfl) (c_Mod_within G _ _ _ _) ⟨Nat.le_of_ble_eq_true rfl, Nat.le_of_ble_eq_true rfl, Nat.le_of_ble_eq_true rfl, Nat.le_of_ble_eq_true rfl⟩) ?_
          refine zx_ifB_ne C d_Mod_cell_80 (fun h80 => ?_) (fun h80 => ?_)
          · obtain ⟨x, hx, rfl⟩ := ix_of (by omega) h80.1 (fun z => h80.2 (cz.mpr z))
            have hg : ag (aln S j) (asz S j) l (nI x) 1 = 0 := by rw [ag, if_neg (fun z => z.2 hl2), if_neg hn1, if_neg (by decide), if_neg (fun z => ((ag_ix hsz).mp z).elim h80.1 (fun z => h80.2 (cz.mpr z)))]
            rw [hg, if_pos rfl, nI_cl (by omega), ← e4 x (by omega)] at ev0
            have ev := ev0
            have hm2 := mrp_f hm 0
            refine zx_aload C d_Mod_cell_89 rfl ?_
            refine zm_g C f_Mod_16_12 d_Mod_cell_90 rfl ?_
            refine zx_ic C d_Mod_cell_93 ?_
            refine zx_iload C d_Mod_cell_95 rfl ?_
            refine zx_imul C d_Mod_cell_96 ?_
            refine zx_iload C d_Mod_cell_97 rfl ?_
            refine zx_iadd C d_Mod_cell_98 ?_
            refine zm_ld4 C d_Mod_cell_99 (60 * j + x) (by rw [show (60 : Int32) = nI 60 from rfl, pk_mul, nI_add]) (by omega) ?_
            refine zx_i2l C d_Mod_cell_100 ?_
            exact zx_lret C hq d_Mod_cell_101 (by rw [ev]; exact mpost_l rfl hm2)
          · have hg : ag (aln S j) (asz S j) l i 1 = 3 := by rw [ag, if_neg (fun z => z.2 hl2), if_neg hn1, if_neg (by decide), if_pos ((ag_ix hsz).mpr ((nand_or h80).imp id (fun z => cz.mp z)))]
            rw [hg, if_neg (by decide)] at ev0
            have ev := ev0
            have hm2 := hm3 3
            refine zx_aload C d_Mod_cell_83 rfl ?_
            refine zx_ic C d_Mod_cell_84 ?_
            refine zr_dl (zr_V C l_Mod_232 d_Mod_cell_85 (As := [_]) rfl rfl (Nat.le_of_ble_eq_true rfl) (c_Mod_lost G _ _ _ _ _ _) 0 rfl rfl ⟨Nat.le_of_ble_eq_true rfl, Nat.le_of_ble_eq_true rfl, Nat.le_of_ble_eq_true rfl, Nat.le_of_ble_eq_true rfl⟩) ?_
            exact zx_lret C hq d_Mod_cell_88 (by rw [ev]; exact mpost_l rfl hm2)
        · have e1 : aln S j = -1 := (mlane_9 hln).mp (e2.symm.trans h58)
          have hg : ag (aln S j) (asz S j) l i 1 = 1 := by rw [ag, if_neg (fun z => z.1 e1), if_pos e1]
          rw [hg, if_neg (by decide)] at ev0
          have ev := ev0
          have hm2 := hm3 1
          refine zx_aload C d_Mod_cell_61 rfl ?_
          refine zx_ic C d_Mod_cell_62 ?_
          refine zr_dl (zr_V C l_Mod_232 d_Mod_cell_63 (As := [_]) rfl rfl (Nat.le_of_ble_eq_true rfl) (c_Mod_lost G _ _ _ _ _ _) 0 rfl rfl ⟨Nat.le_of_ble_eq_true rfl, Nat.le_of_ble_eq_true rfl, Nat.le_of_ble_eq_true rfl, Nat.le_of_ble_eq_true rfl⟩) ?_
          exact zx_lret C hq d_Mod_cell_66 (by rw [ev]; exact mpost_l rfl hm2)
      · have hn1 : ¬ aln S j = -1 := fun z => h31 (e2.trans ((mlane_9 hln).mpr z))
        have e2n : R 2 j = aln S j := e2.trans (mlane_n hn1)
        refine zx_aload C d_Mod_cell_34 rfl ?_
        refine zm_g C f_Mod_9_12 d_Mod_cell_35 rfl ?_
        refine zx_iload C d_Mod_cell_38 rfl ?_
        refine zm_ld2 C d_Mod_cell_39 j rfl (by omega) ?_
        refine zx_iload C d_Mod_cell_40 rfl ?_
        refine zx_ic_eq C d_Mod_cell_41 (fun h41 => ?_) (fun h41 => ?_)
        · have hl : aln S j = l := e2n.symm.trans h41
          refine zx_aload C d_Mod_cell_50 rfl ?_
          refine zm_g C f_Mod_9_12 d_Mod_cell_51 rfl ?_
          refine zx_iload C d_Mod_cell_54 rfl ?_
          refine zm_ld2 C d_Mod_cell_55 j rfl (by omega) ?_
          refine zx_ic C d_Mod_cell_56 ?_
          refine zx_ic_ne C d_Mod_cell_58 (fun h58 => ?_) (fun h58 => ?_)
          · have hn1 : ¬ aln S j = -1 := fun z => h58 (e2.trans ((mlane_9 hln).mpr z))
            have e3 := e3 hn1
            have cz : (R 3 j - 1 < i) ↔ nI (asz S j) ≤ i := by rw [e3]; exact sub1_lt hsz
            have hl2 : aln S j = l := by first | exact hl | exact absurd e1 hn1
            refine zx_iload C d_Mod_cell_67 rfl ?_
            refine zx_ic C d_Mod_cell_68 ?_
            refine zx_aload C d_Mod_cell_69 rfl ?_
            refine zm_g C f_Mod_13_12 d_Mod_cell_70 rfl ?_
            refine zx_iload C d_Mod_cell_73 rfl ?_
            refine zm_ld3 C d_Mod_cell_74 j rfl (by omega) ?_
            refine zx_ic C d_Mod_cell_75 ?_
            refine zx_isub C d_Mod_cell_76 ?_
            refine zr_di (zr_S C l_Mod_83 d_Mod_cell_77 (As := [_, _, _]) rfl rfl (Nat.le_of_ble_eq_true rfl) (c_Mod_within G _ _ _ _) ⟨Nat.le_of_ble_eq_true rfl, Nat.le_of_ble_eq_true rfl, Nat.le_of_ble_eq_true rfl, Nat.le_of_ble_eq_true rfl⟩) ?_
            refine zx_ifB_ne C d_Mod_cell_80 (fun h80 => ?_) (fun h80 => ?_)
            · obtain ⟨x, hx, rfl⟩ := ix_of (by omega) h80.1 (fun z => h80.2 (cz.mpr z))
              have hg : ag (aln S j) (asz S j) l (nI x) 1 = 0 := by rw [ag, if_neg (fun z => z.2 hl2), if_neg hn1, if_neg (by decide), if_neg (fun z => ((ag_ix hsz).mp z).elim h80.1 (fun z => h80.2 (cz.mpr z)))]
              rw [hg, if_pos rfl, nI_cl (by omega), ← e4 x (by omega)] at ev0
              have ev := ev0
              have hm2 := mrp_f hm 0
              refine zx_aload C d_Mod_cell_89 rfl ?_
              refine zm_g C f_Mod_16_12 d_Mod_cell_90 rfl ?_
              refine zx_ic C d_Mod_cell_93 ?_
              refine zx_iload C d_Mod_cell_95 rfl ?_
              refine zx_imul C d_Mod_cell_96 ?_
              refine zx_iload C d_Mod_cell_97 rfl ?_
              refine zx_iadd C d_Mod_cell_98 ?_
              refine zm_ld4 C d_Mod_cell_99 (60 * j + x) (by rw [show (60 : Int32) = nI 60 from rfl, pk_mul, nI_add]) (by omega) ?_
              refine zx_i2l C d_Mod_cell_100 ?_
              exact zx_lret C hq d_Mod_cell_101 (by rw [ev]; exact mpost_l rfl hm2)
            · have hg : ag (aln S j) (asz S j) l i 1 = 3 := by rw [ag, if_neg (fun z => z.2 hl2), if_neg hn1, if_neg (by decide), if_pos ((ag_ix hsz).mpr ((nand_or h80).imp id (fun z => cz.mp z)))]
              rw [hg, if_neg (by decide)] at ev0
              have ev := ev0
              have hm2 := hm3 3
              refine zx_aload C d_Mod_cell_83 rfl ?_
              refine zx_ic C d_Mod_cell_84 ?_
              refine zr_dl (zr_V C l_Mod_232 d_Mod_cell_85 (As := [_]) rfl rfl (Nat.le_of_ble_eq_true rfl) (c_Mod_lost G _ _ _ _ _ _) 0 rfl rfl ⟨Nat.le_of_ble_eq_true rfl, Nat.le_of_ble_eq_true rfl, Nat.le_of_ble_eq_true rfl, Nat.le_of_ble_eq_true rfl⟩) ?_
              exact zx_lret C hq d_Mod_cell_88 (by rw [ev]; exact mpost_l rfl hm2)
          · have e1 : aln S j = -1 := (mlane_9 hln).mp (e2.symm.trans h58)
            have hg : ag (aln S j) (asz S j) l i 1 = 1 := by rw [ag, if_neg (fun z => z.1 e1), if_pos e1]
            rw [hg, if_neg (by decide)] at ev0
            have ev := ev0
            have hm2 := hm3 1
            refine zx_aload C d_Mod_cell_61 rfl ?_
            refine zx_ic C d_Mod_cell_62 ?_
            refine zr_dl (zr_V C l_Mod_232 d_Mod_cell_63 (As := [_]) rfl rfl (Nat.le_of_ble_eq_true rfl) (c_Mod_lost G _ _ _ _ _ _) 0 rfl rfl ⟨Nat.le_of_ble_eq_true rfl, Nat.le_of_ble_eq_true rfl, Nat.le_of_ble_eq_true rfl, Nat.le_of_ble_eq_true rfl⟩) ?_
            exact zx_lret C hq d_Mod_cell_66 (by rw [ev]; exact mpost_l rfl hm2)
        · have hg : ag (aln S j) (asz S j) l i 1 = 2 := if_pos ⟨hn1, fun z => h41 (e2n.trans z)⟩
          rw [hg, if_neg (by decide)] at ev0
          have ev := ev0
          have hm2 := hm3 2
          refine zx_aload C d_Mod_cell_44 rfl ?_
          refine zx_ic C d_Mod_cell_45 ?_
          refine zr_dl (zr_V C l_Mod_232 d_Mod_cell_46 (As := [_]) rfl rfl (Nat.le_of_ble_eq_true rfl) (c_Mod_lost G _ _ _ _ _ _) 0 rfl rfl ⟨Nat.le_of_ble_eq_true rfl, Nat.le_of_ble_eq_true rfl, Nat.le_of_ble_eq_true rfl, Nat.le_of_ble_eq_true rfl⟩) ?_
          exact zx_lret C hq d_Mod_cell_49 (by rw [ev]; exact mpost_l rfl hm2)
    · have ev : ap_cell S k i l = (-9223372036854775808, sf S 0) := if_pos (Or.inr (nand_or h16))
      have hm2 := mrp_f hm 0
      refine zx_lc C d_Mod_cell_19 ?_
      exact zx_lret C hq d_Mod_cell_22 (by rw [ev]; exact mpost_l rfl hm2)
set_option maxHeartbeats 600000 in
set_option maxRecDepth 20000 in
theorem c_Mod_sheet (G : ZG) (o : Nat) (ad : Nat → Nat) (F : Nat → Int32) (R : Nat → Nat → Int32) (X : va_W) (S : ZA) (hm : mrp S F R) (k l n : Int32) : ZM G y_Mod_sheet b_Mod_sheet 5 (some .int) r_Mod_sheet [.ref o, .int k, .int l, .int n] (mw G o ad F R ++ X) (mpost G o ad X (ap_sheet S k l n).1 (ap_sheet S k l n).2) := by
  refine ZM.of "SameTuesdayModel" "sheet" rfl rfl (by decide) (Nat.le_of_ble_eq_true rfl) (fun Y C hq => ?_)
  change ZV G Y 0 0 0 [(0, .ref o), (1, .int k), (2, .int l), (3, .int n)] [] (mw G o ad F R ++ X)
  refine zx_aload C d_Mod_sheet_0 rfl ?_
  refine zx_ic C d_Mod_sheet_1 ?_
  refine zm_p C p_Mod_78_12 d_Mod_sheet_2 zb_fit_i (Nat.le_of_ble_eq_true rfl) zms_0 ?_
  refine zx_iload C d_Mod_sheet_5 rfl ?_
  refine zr_di (zr_S C l_Mod_96 d_Mod_sheet_6 (As := [_]) rfl rfl (Nat.le_of_ble_eq_true rfl) (c_Mod_isSheet G _ _) ⟨Nat.le_of_ble_eq_true rfl, Nat.le_of_ble_eq_true rfl, Nat.le_of_ble_eq_true rfl, Nat.le_of_ble_eq_true rfl⟩) ?_
  refine zx_ifB_ne C d_Mod_sheet_9 (fun h9 => ?_) (fun h9 => ?_)
  · obtain ⟨j, hj, rfl⟩ := ix_le (n := 3) (by decide) h9.1 h9.2
    have hj4 : j < 4 := by omega
    obtain ⟨e2, e3, e4⟩ := hm.2.2.2.1 j hj4
    have hln := (hm.1.1 j hj4).1
    have hsz := (hm.1.1 j hj4).2.1
    refine zx_iload C d_Mod_sheet_14 rfl ?_
    refine zr_di (zr_S C l_Mod_100 d_Mod_sheet_15 (As := [_]) rfl rfl (Nat.le_of_ble_eq_true rfl) (c_Mod_isSort G _ _) ⟨Nat.le_of_ble_eq_true rfl, Nat.le_of_ble_eq_true rfl, Nat.le_of_ble_eq_true rfl, Nat.le_of_ble_eq_true rfl⟩) ?_
    refine zx_ifB_eq C d_Mod_sheet_18 (fun h18 => ?_) (fun h18 => ?_)
    · have ev : ap_sheet S (nI j) l n = (-2, sf S 0) := by rw [ap_sheet, if_neg (nor_of h9), if_pos (Or.inl (nand_or h18))]
      have hm2 := mrp_f hm 0
      refine zx_ic C d_Mod_sheet_27 ?_
      exact zx_iret C hq d_Mod_sheet_29 (by rw [ev]; exact mpost_i rfl hm2)
    · refine zx_iload C d_Mod_sheet_21 rfl ?_
      refine zx_ic C d_Mod_sheet_22 ?_
      refine zx_ic_le C d_Mod_sheet_24 (fun h24 => ?_) (fun h24 => ?_)
      · have ev0 : ap_sheet S (nI j) l n = _ := if_neg (nor_of h9)
        rw [if_neg (nor_of ⟨nor_of h18, Int32.not_lt.mpr h24⟩)] at ev0
        refine zx_iload C d_Mod_sheet_30 rfl ?_
        refine zx_if_ge C d_Mod_sheet_31 (fun h31 => ?_) (fun h31 => ?_)
        · rw [if_neg (Int32.not_lt.mpr h31)] at ev0
          obtain ⟨x, hx, rfl⟩ := ix_le (n := 60) (by decide) (Int32.not_lt.mpr h31) (Int32.not_lt.mpr h24)
          rw [nI_cl (by omega), nI_cl (by omega)] at ev0
          obtain ⟨y, hy, rfl⟩ := ix_le (n := 2) (by decide) h18.1 h18.2
          have hl3 : nI y = 0 ∨ nI y = 1 ∨ nI y = 2 := by
            rcases (show y = 0 ∨ y = 1 ∨ y = 2 by omega) with rfl | rfl | rfl
            · exact Or.inl rfl
            · exact Or.inr (Or.inl rfl)
            · exact Or.inr (Or.inr rfl)
          have hm2 := mrp_sheet (mrp_f hm 0) (n := x) hj4 hx hl3
          generalize nI y = l at *
          have loop : ∀ n i, i + n = 60 → ZV G Y 0 0 57 [(0, .ref o), (1, .int (nI j)), (2, .int l), (3, .int (nI x)), (4, .int (nI i))] [] (mw G o ad (upd F 0 0) (ur (ur (ur R 2 (upd (R 2) j l)) 3 (upd (R 3) j (nI x))) 4 (zrow (R 4) j i)) ++ X) := by
            intro n
            induction n with
            | zero =>
              intro i hi
              obtain rfl : i = 60 := by omega
              refine zx_iload C d_Mod_sheet_57 rfl ?_
              refine zx_ic C d_Mod_sheet_59 ?_
              refine zx_ic_ge C d_Mod_sheet_61 (fun h61 => ?_) (fun h61 => ?_)
              · refine zx_ic C d_Mod_sheet_83 ?_
                exact zx_iret C hq d_Mod_sheet_84 (by rw [ev0]; exact mpost_i rfl hm2)
              · exact absurd (Int32.le_refl _) h61
            | succ n ih =>
              intro i hi
              refine zx_iload C d_Mod_sheet_57 rfl ?_
              refine zx_ic C d_Mod_sheet_59 ?_
              refine zx_ic_ge C d_Mod_sheet_61 (fun h61 => ?_) (fun h61 => ?_)
              · exact absurd h61 (nI_ge (a := i) (b := 60) (by omega) (by omega))
              · refine zx_aload C d_Mod_sheet_64 rfl ?_
                refine zm_g C f_Mod_16_12 d_Mod_sheet_65 rfl ?_
                refine zx_ic C d_Mod_sheet_68 ?_
                refine zx_iload C d_Mod_sheet_70 rfl ?_
                refine zx_imul C d_Mod_sheet_71 ?_
                refine zx_iload C d_Mod_sheet_72 rfl ?_
                refine zx_iadd C d_Mod_sheet_74 ?_
                refine zx_ic C d_Mod_sheet_75 ?_
                refine zm_st4 C d_Mod_sheet_76 (60 * j + i) (by rw [show (60 : Int32) = nI 60 from rfl, pk_mul, nI_add]) (by omega) ?_
                rw [zr_s]
                refine zx_iinc C d_Mod_sheet_77 (by decide) rfl (lv1 := [(4, _), (0, _), (1, _), (2, _), (3, _)]) rfl ?_
                refine zx_goto C d_Mod_sheet_80 ?_
                have k := ih (i + 1) (by omega)
                rw [nI_succ i] at k
                exact zx_lv [0, 1, 2, 3, 4] rfl k
          refine zx_aload C d_Mod_sheet_40 rfl ?_
          refine zm_g C f_Mod_9_12 d_Mod_sheet_41 rfl ?_
          refine zx_iload C d_Mod_sheet_44 rfl ?_
          refine zx_iload C d_Mod_sheet_45 rfl ?_
          refine zm_st2 C d_Mod_sheet_46 j rfl (by omega) ?_
          refine zx_aload C d_Mod_sheet_47 rfl ?_
          refine zm_g C f_Mod_13_12 d_Mod_sheet_48 rfl ?_
          refine zx_iload C d_Mod_sheet_51 rfl ?_
          refine zx_iload C d_Mod_sheet_52 rfl ?_
          refine zm_st3 C d_Mod_sheet_53 j rfl (by omega) ?_
          refine zx_ic C d_Mod_sheet_54 ?_
          refine zx_istore C d_Mod_sheet_55 (by decide) (lv1 := [(4, _), (0, _), (1, _), (2, _), (3, _)]) rfl ?_
          have k := loop 60 0 (by omega)
          rw [zrow_0] at k
          refine zx_eq rfl rfl ?_ (zx_lv [0, 1, 2, 3, 4] rfl k)
          rw [show ∀ Q : Nat → Nat → Int32, Q 4 = R 4 → ur Q 4 (R 4) = Q from fun Q hQ => by rw [← hQ, ur_self]]
          all_goals rfl
        · rw [if_pos (Int32.not_le.mp h31)] at ev0
          have ev := ev0
          have hm2 : mrp (sf S 4) (upd (upd F 0 0) 0 4) R := by rw [upd_upd]; exact mrp_f hm 4
          refine zx_aload C d_Mod_sheet_34 rfl ?_
          refine zx_ic C d_Mod_sheet_35 ?_
          refine zr_di (zr_V C l_Mod_107 d_Mod_sheet_36 (As := [_]) rfl rfl (Nat.le_of_ble_eq_true rfl) (c_Mod_fails G _ _ _ _ _ _) 0 rfl rfl ⟨Nat.le_of_ble_eq_true rfl, Nat.le_of_ble_eq_true rfl, Nat.le_of_ble_eq_true rfl, Nat.le_of_ble_eq_true rfl⟩) ?_
          exact zx_iret C hq d_Mod_sheet_39 (by rw [ev]; exact mpost_i rfl hm2)
      · have ev : ap_sheet S (nI j) l n = (-2, sf S 0) := by rw [ap_sheet, if_neg (nor_of h9), if_pos (Or.inr (Int32.not_le.mp h24))]
        have hm2 := mrp_f hm 0
        refine zx_ic C d_Mod_sheet_27 ?_
        exact zx_iret C hq d_Mod_sheet_29 (by rw [ev]; exact mpost_i rfl hm2)
  · have ev : ap_sheet S k l n = (-1, sf S 0) := if_pos (nand_or h9)
    have hm2 := mrp_f hm 0
    refine zx_ic C d_Mod_sheet_12 ?_
    exact zx_iret C hq d_Mod_sheet_13 (by rw [ev]; exact mpost_i rfl hm2)
set_option maxHeartbeats 600000 in
set_option maxRecDepth 20000 in
theorem c_Mod_rhyme (G : ZG) (o : Nat) (ad : Nat → Nat) (F : Nat → Int32) (R : Nat → Nat → Int32) (X : va_W) (S : ZA) (hm : mrp S F R) (h : Int32) : ZM G y_Mod_rhyme b_Mod_rhyme 2 (some .int) r_Mod_rhyme [.ref o, .int h] (mw G o ad F R ++ X) (mpost G o ad X (ap_rhyme S h).1 (ap_rhyme S h).2) := by
  refine ZM.of "SameTuesdayModel" "rhyme" rfl rfl (by decide) (Nat.le_of_ble_eq_true rfl) (fun Y C hq => ?_)
  change ZV G Y 0 0 0 [(0, .ref o), (1, .int h)] [] (mw G o ad F R ++ X)
  refine zx_aload C d_Mod_rhyme_0 rfl ?_
  refine zx_iload C d_Mod_rhyme_1 rfl ?_
  refine zr_di (zr_V C l_Mod_140 d_Mod_rhyme_2 (As := [_]) rfl rfl (Nat.le_of_ble_eq_true rfl) (c_Mod_isHappening G _ _ _ _ _ _) 0 rfl rfl ⟨Nat.le_of_ble_eq_true rfl, Nat.le_of_ble_eq_true rfl, Nat.le_of_ble_eq_true rfl, Nat.le_of_ble_eq_true rfl⟩) ?_
  refine zx_ifB_ne C d_Mod_rhyme_5 (fun h5 => ?_) (fun h5 => ?_)
  · rw [mrp_e5 hm] at h5
    obtain ⟨j, hj, rfl⟩ := ix_of (by have := (mrp_tok hm).1; omega) h5.1 h5.2
    have hj6 : j < 6 := by have := (mrp_tok hm).1; omega
    have hj31 : j < 2 ^ 31 := by omega
    obtain ⟨e8, e9, e10, e11⟩ := mrp_H hm hj
    have b8 := (mrp_tok hm).2.2.2.1 j hj
    have c2 : R 8 j = 2 ↔ tq (aT S) 0 j = 2 := by rw [e8]; exact nI_eq (b := 2) (by omega) (by decide)
    refine zx_aload C d_Mod_rhyme_10 rfl ?_
    refine zx_aload C d_Mod_rhyme_11 rfl ?_
    refine zm_g C f_Mod_19_12 d_Mod_rhyme_12 rfl ?_
    refine zx_iload C d_Mod_rhyme_15 rfl ?_
    refine zm_ld8 C d_Mod_rhyme_16 j rfl (by omega) ?_
    refine zx_ic C d_Mod_rhyme_17 ?_
    refine zx_ic_ne C d_Mod_rhyme_18 (fun h18 => ?_) (fun h18 => ?_)
    · have ev : ap_rhyme S (nI j) = (nI j, st_ S (31 * F 1 + 4)) := by rw [ap_rhyme, if_neg (nor_of h5), nI_cl hj31, if_neg (fun z => h18 (c2.mpr z)), hm.2.2.1]
      have hm2 := mrp_t hm (31 * F 1 + 4)
      refine zx_ic C d_Mod_rhyme_25 ?_
      refine zr_dv (zr_V C l_Mod_239 d_Mod_rhyme_26 (As := [_]) rfl rfl (Nat.le_of_ble_eq_true rfl) (c_Mod_begins G _ _ _ _ _ _) 0 rfl rfl ⟨Nat.le_of_ble_eq_true rfl, Nat.le_of_ble_eq_true rfl, Nat.le_of_ble_eq_true rfl, Nat.le_of_ble_eq_true rfl⟩) ?_
      refine zx_aload C d_Mod_rhyme_29 rfl ?_
      refine zm_g C f_Mod_19_12 d_Mod_rhyme_30 rfl ?_
      refine zx_iload C d_Mod_rhyme_33 rfl ?_
      refine zm_ld8 C d_Mod_rhyme_34 j rfl (by omega) ?_
      refine zx_ic C d_Mod_rhyme_35 ?_
      refine zx_ic_ne C d_Mod_rhyme_36 (fun h36 => ?_) (fun h36 => ?_)
      · refine zx_iload C d_Mod_rhyme_44 rfl ?_
        exact zx_iret C hq d_Mod_rhyme_45 (by first | (rw [ev]; exact mpost_i rfl hm2) | exact absurd h36 h18 | exact absurd h18 h36)
      · first | skip | skip
        refine zx_ic C d_Mod_rhyme_39 ?_
        refine zx_goto C d_Mod_rhyme_41 ?_
        exact zx_iret C hq d_Mod_rhyme_45 (by first | (rw [ev]; exact mpost_i rfl hm2) | exact absurd h36 h18 | exact absurd h18 h36)
    · have ev : ap_rhyme S (nI j) = (40, st_ S (31 * F 1 + 5)) := by rw [ap_rhyme, if_neg (nor_of h5), nI_cl hj31, if_pos (c2.mp h18), hm.2.2.1]
      have hm2 := mrp_t hm (31 * F 1 + 5)
      refine zx_ic C d_Mod_rhyme_21 ?_
      refine zx_goto C d_Mod_rhyme_22 ?_
      refine zr_dv (zr_V C l_Mod_239 d_Mod_rhyme_26 (As := [_]) rfl rfl (Nat.le_of_ble_eq_true rfl) (c_Mod_begins G _ _ _ _ _ _) 0 rfl rfl ⟨Nat.le_of_ble_eq_true rfl, Nat.le_of_ble_eq_true rfl, Nat.le_of_ble_eq_true rfl, Nat.le_of_ble_eq_true rfl⟩) ?_
      refine zx_aload C d_Mod_rhyme_29 rfl ?_
      refine zm_g C f_Mod_19_12 d_Mod_rhyme_30 rfl ?_
      refine zx_iload C d_Mod_rhyme_33 rfl ?_
      refine zm_ld8 C d_Mod_rhyme_34 j rfl (by omega) ?_
      refine zx_ic C d_Mod_rhyme_35 ?_
      refine zx_ic_ne C d_Mod_rhyme_36 (fun h36 => ?_) (fun h36 => ?_)
      · refine zx_iload C d_Mod_rhyme_44 rfl ?_
        exact zx_iret C hq d_Mod_rhyme_45 (by first | (rw [ev]; exact mpost_i rfl hm2) | exact absurd h36 h18 | exact absurd h18 h36)
      · first | skip | skip
        refine zx_ic C d_Mod_rhyme_39 ?_
        refine zx_goto C d_Mod_rhyme_41 ?_
        exact zx_iret C hq d_Mod_rhyme_45 (by first | (rw [ev]; exact mpost_i rfl hm2) | exact absurd h36 h18 | exact absurd h18 h36)
  · rw [mrp_e5 hm] at h5
    have ev : ap_rhyme S h = (-1, S) := if_pos (nand_or h5)
    have hm2 := hm
    refine zx_ic C d_Mod_rhyme_8 ?_
    exact zx_iret C hq d_Mod_rhyme_9 (by first | (rw [ev]; exact mpost_i rfl hm2) | exact absurd h36 h18 | exact absurd h18 h36)
set_option maxHeartbeats 600000 in
set_option maxRecDepth 20000 in
theorem c_Mod_as (G : ZG) (o : Nat) (ad : Nat → Nat) (F : Nat → Int32) (R : Nat → Nat → Int32) (X : va_W) (S : ZA) (hm : mrp S F R) (h k : Int32) : ZM G y_Mod_as b_Mod_as 3 (some .int) r_Mod_as [.ref o, .int h, .int k] (mw G o ad F R ++ X) (mpost G o ad X (ap_as S h k).1 (ap_as S h k).2) := by
  refine ZM.of "SameTuesdayModel" "as" rfl rfl (by decide) (Nat.le_of_ble_eq_true rfl) (fun Y C hq => ?_)
  change ZV G Y 0 0 0 [(0, .ref o), (1, .int h), (2, .int k)] [] (mw G o ad F R ++ X)
  refine zx_aload C d_Mod_as_0 rfl ?_
  refine zx_ic C d_Mod_as_1 ?_
  refine zm_p C p_Mod_78_12 d_Mod_as_2 zb_fit_i (Nat.le_of_ble_eq_true rfl) zms_0 ?_
  refine zx_aload C d_Mod_as_5 rfl ?_
  refine zx_iload C d_Mod_as_6 rfl ?_
  refine zr_di (zr_V C l_Mod_140 d_Mod_as_7 (As := [_]) rfl rfl (Nat.le_of_ble_eq_true rfl) (c_Mod_isHappening G _ _ _ _ _ _) 0 rfl rfl ⟨Nat.le_of_ble_eq_true rfl, Nat.le_of_ble_eq_true rfl, Nat.le_of_ble_eq_true rfl, Nat.le_of_ble_eq_true rfl⟩) ?_
  refine zx_ifB_ne C d_Mod_as_10 (fun h5 => ?_) (fun h5 => ?_)
  · have e5z := mrp_e5 (mrp_f hm 0)
    rw [show upd F 0 0 5 = nI (aT S).1 from e5z] at h5
    obtain ⟨j, hj, rfl⟩ := ix_of (by have := (mrp_tok hm).1; omega) h5.1 h5.2
    have hj6 : j < 6 := by have := (mrp_tok hm).1; omega
    have hj31 : j < 2 ^ 31 := by omega
    obtain ⟨e8, e9, e10, e11⟩ := mrp_H hm hj
    refine zx_iload C d_Mod_as_15 rfl ?_
    refine zx_ic C d_Mod_as_16 ?_
    refine zx_ic C d_Mod_as_17 ?_
    refine zr_di (zr_S C l_Mod_83 d_Mod_as_18 (As := [_, _, _]) rfl rfl (Nat.le_of_ble_eq_true rfl) (c_Mod_within G _ _ _ _) ⟨Nat.le_of_ble_eq_true rfl, Nat.le_of_ble_eq_true rfl, Nat.le_of_ble_eq_true rfl, Nat.le_of_ble_eq_true rfl⟩) ?_
    refine zx_ifB_ne C d_Mod_as_21 (fun h21 => ?_) (fun h21 => ?_)
    · have ev0 : ap_as S (nI j) k = _ := if_neg (nor_of h5)
      rw [if_neg (nor_of h21), nI_cl hj31, ← e8] at ev0
      refine zx_aload C d_Mod_as_27 rfl ?_
      refine zm_g C f_Mod_19_12 d_Mod_as_28 rfl ?_
      refine zx_iload C d_Mod_as_31 rfl ?_
      refine zm_ld8 C d_Mod_as_32 j rfl (by omega) ?_
      refine zx_iload C d_Mod_as_33 rfl ?_
      refine zx_ic_lt C d_Mod_as_34 (fun h34 => ?_) (fun h34 => ?_)
      · rw [if_neg (Int32.not_le.mpr h34)] at ev0
        have ev := ev0
        have hm2 : mrp (sf S 2) (upd (upd F 0 0) 0 2) R := by rw [upd_upd]; exact mrp_f hm 2
        refine zx_aload C d_Mod_as_41 rfl ?_
        refine zx_ic C d_Mod_as_42 ?_
        refine zr_di (zr_V C l_Mod_107 d_Mod_as_43 (As := [_]) rfl rfl (Nat.le_of_ble_eq_true rfl) (c_Mod_fails G _ _ _ _ _ _) 0 rfl rfl ⟨Nat.le_of_ble_eq_true rfl, Nat.le_of_ble_eq_true rfl, Nat.le_of_ble_eq_true rfl, Nat.le_of_ble_eq_true rfl⟩) ?_
        exact zx_iret C hq d_Mod_as_46 (by rw [ev]; exact mpost_i rfl hm2)
      · rw [if_pos (Int32.not_lt.mp h34)] at ev0
        have ev := ev0
        have hm2 := mrp_f hm 0
        refine zx_ic C d_Mod_as_37 ?_
        refine zx_goto C d_Mod_as_38 ?_
        exact zx_iret C hq d_Mod_as_46 (by rw [ev]; exact mpost_i rfl hm2)
    · have ev : ap_as S (nI j) k = (-2, sf S 0) := by rw [ap_as, if_neg (nor_of h5), if_pos (nand_or h21)]
      have hm2 := mrp_f hm 0
      refine zx_ic C d_Mod_as_24 ?_
      exact zx_iret C hq d_Mod_as_26 (by rw [ev]; exact mpost_i rfl hm2)
  · have e5z := mrp_e5 (mrp_f hm 0)
    rw [show upd F 0 0 5 = nI (aT S).1 from e5z] at h5
    have ev : ap_as S h k = (-1, sf S 0) := if_pos (nand_or h5)
    have hm2 := mrp_f hm 0
    refine zx_ic C d_Mod_as_13 ?_
    exact zx_iret C hq d_Mod_as_14 (by rw [ev]; exact mpost_i rfl hm2)
set_option maxHeartbeats 600000 in
set_option maxRecDepth 20000 in
theorem c_Mod_tell (G : ZG) (o : Nat) (ad : Nat → Nat) (F : Nat → Int32) (R : Nat → Nat → Int32) (X : va_W) (S : ZA) (hm : mrp S F R) (h : Int32) : ZM G y_Mod_tell b_Mod_tell 3 (some .int) r_Mod_tell [.ref o, .int h] (mw G o ad F R ++ X) (mpost G o ad X (ap_tell S h).1 (ap_tell S h).2) := by
  refine ZM.of "SameTuesdayModel" "tell" rfl rfl (by decide) (Nat.le_of_ble_eq_true rfl) (fun Y C hq => ?_)
  change ZV G Y 0 0 0 [(0, .ref o), (1, .int h)] [] (mw G o ad F R ++ X)
  by_cases hh : h < 0 ∨ nI (aT S).1 ≤ h
  · refine zx_aload C d_Mod_tell_0 rfl ?_
    refine zx_iload C d_Mod_tell_1 rfl ?_
    refine zr_di (zr_V C l_Mod_140 d_Mod_tell_2 (As := [_]) rfl rfl (Nat.le_of_ble_eq_true rfl) (c_Mod_isHappening G _ _ _ _ _ _) 0 rfl rfl ⟨Nat.le_of_ble_eq_true rfl, Nat.le_of_ble_eq_true rfl, Nat.le_of_ble_eq_true rfl, Nat.le_of_ble_eq_true rfl⟩) ?_
    refine zx_ifB_ne C d_Mod_tell_5 (fun h5 => ?_) (fun h5 => ?_)
    · exact absurd hh (nor_of (by rw [mrp_e5 hm] at h5; exact h5))
    · have ev : ap_tell S h = (-1, S) := if_pos hh
      have hm2 := hm
      refine zx_ic C d_Mod_tell_8 ?_
      exact zx_iret C hq d_Mod_tell_9 (by rw [ev]; exact mpost_i rfl hm2)
  · obtain ⟨j, hj, rfl⟩ := ix_of (by have := (mrp_tok hm).1; omega) (fun z => hh (Or.inl z)) (fun z => hh (Or.inr z))
    have hj6 : j < 6 := by have := (mrp_tok hm).1; omega
    have hj31 : j < 2 ^ 31 := by omega
    obtain ⟨e8, e9, e10, e11⟩ := mrp_H hm hj
    have b8 := (mrp_tok hm).2.2.2.1 j hj
    have ev0 : ap_tell S (nI j) = _ := if_neg hh
    rw [nI_cl hj31, ← e9] at ev0
    have e1 := hm.2.2.1
    rcases (show tq (aT S) 0 j = 0 ∨ tq (aT S) 0 j = 1 ∨ tq (aT S) 0 j = 2 by omega) with hk | hk | hk
    · have ev : ap_tell S (nI j) = (R 9 j, st_ S (31 * F 1 + 1)) := by rw [ev0, if_pos hk, e1]
      refine zx_aload C d_Mod_tell_0 rfl ?_
      refine zx_iload C d_Mod_tell_1 rfl ?_
      refine zr_di (zr_V C l_Mod_140 d_Mod_tell_2 (As := [_]) rfl rfl (Nat.le_of_ble_eq_true rfl) (c_Mod_isHappening G _ _ _ _ _ _) 0 rfl rfl ⟨Nat.le_of_ble_eq_true rfl, Nat.le_of_ble_eq_true rfl, Nat.le_of_ble_eq_true rfl, Nat.le_of_ble_eq_true rfl⟩) ?_
      refine zx_ifB_ne C d_Mod_tell_5 (fun h5 => ?_) (fun h5 => ?_)
      · refine zx_aload C d_Mod_tell_10 rfl ?_
        refine zm_g C f_Mod_22_12 d_Mod_tell_11 rfl ?_
        refine zx_iload C d_Mod_tell_14 rfl ?_
        refine zm_ld9 C d_Mod_tell_15 j rfl (by omega) ?_
        refine zx_istore C d_Mod_tell_16 (by decide) (lv1 := [(2, _), (0, _), (1, _)]) rfl ?_
        refine zx_aload C d_Mod_tell_17 rfl ?_
        refine zm_g C f_Mod_19_12 d_Mod_tell_18 rfl ?_
        refine zx_iload C d_Mod_tell_21 rfl ?_
        refine zm_ld8 C d_Mod_tell_22 j rfl (by omega) ?_
        refine zx_lookup C d_Mod_tell_23 (by decide) ⟨90, by rw [e8, hk]; decide, ?_⟩
        refine zx_aload C d_Mod_tell_90 rfl ?_
        refine zx_ic C d_Mod_tell_91 ?_
        refine zr_dv (zr_V C l_Mod_239 d_Mod_tell_92 (As := [_]) rfl rfl (Nat.le_of_ble_eq_true rfl) (c_Mod_begins G _ _ _ _ _ _) 0 rfl rfl ⟨Nat.le_of_ble_eq_true rfl, Nat.le_of_ble_eq_true rfl, Nat.le_of_ble_eq_true rfl, Nat.le_of_ble_eq_true rfl⟩) ?_
        refine zx_iload C d_Mod_tell_95 rfl ?_
        exact zx_iret C hq d_Mod_tell_96 (by rw [ev]; exact mpost_i rfl (mrp_t hm _))
      · exact absurd (nand_or (by rw [mrp_e5 hm] at h5; exact h5)) hh
    · have ev : ap_tell S (nI j) = (R 9 j + 100, st_ S (31 * (31 * F 1 + 2) + 1)) := by rw [ev0, if_neg (by omega), if_pos hk, e1]
      refine zx_aload C d_Mod_tell_0 rfl ?_
      refine zx_iload C d_Mod_tell_1 rfl ?_
      refine zr_di (zr_V C l_Mod_140 d_Mod_tell_2 (As := [_]) rfl rfl (Nat.le_of_ble_eq_true rfl) (c_Mod_isHappening G _ _ _ _ _ _) 0 rfl rfl ⟨Nat.le_of_ble_eq_true rfl, Nat.le_of_ble_eq_true rfl, Nat.le_of_ble_eq_true rfl, Nat.le_of_ble_eq_true rfl⟩) ?_
      refine zx_ifB_ne C d_Mod_tell_5 (fun h5 => ?_) (fun h5 => ?_)
      · refine zx_aload C d_Mod_tell_10 rfl ?_
        refine zm_g C f_Mod_22_12 d_Mod_tell_11 rfl ?_
        refine zx_iload C d_Mod_tell_14 rfl ?_
        refine zm_ld9 C d_Mod_tell_15 j rfl (by omega) ?_
        refine zx_istore C d_Mod_tell_16 (by decide) (lv1 := [(2, _), (0, _), (1, _)]) rfl ?_
        refine zx_aload C d_Mod_tell_17 rfl ?_
        refine zm_g C f_Mod_19_12 d_Mod_tell_18 rfl ?_
        refine zx_iload C d_Mod_tell_21 rfl ?_
        refine zm_ld8 C d_Mod_tell_22 j rfl (by omega) ?_
        refine zx_lookup C d_Mod_tell_23 (by decide) ⟨48, by rw [e8, hk]; decide, ?_⟩
        refine zx_aload C d_Mod_tell_48 rfl ?_
        refine zx_ic C d_Mod_tell_49 ?_
        refine zr_dv (zr_V C l_Mod_239 d_Mod_tell_50 (As := [_]) rfl rfl (Nat.le_of_ble_eq_true rfl) (c_Mod_begins G _ _ _ _ _ _) 0 rfl rfl ⟨Nat.le_of_ble_eq_true rfl, Nat.le_of_ble_eq_true rfl, Nat.le_of_ble_eq_true rfl, Nat.le_of_ble_eq_true rfl⟩) ?_
        refine zx_aload C d_Mod_tell_53 rfl ?_
        refine zx_ic C d_Mod_tell_54 ?_
        refine zr_dv (zr_V C l_Mod_239 d_Mod_tell_55 (As := [_]) rfl rfl (Nat.le_of_ble_eq_true rfl) (c_Mod_begins G _ _ _ _ _ _) 0 rfl rfl ⟨Nat.le_of_ble_eq_true rfl, Nat.le_of_ble_eq_true rfl, Nat.le_of_ble_eq_true rfl, Nat.le_of_ble_eq_true rfl⟩) ?_
        refine zx_iload C d_Mod_tell_58 rfl ?_
        refine zx_ic C d_Mod_tell_59 ?_
        refine zx_iadd C d_Mod_tell_61 ?_
        exact zx_iret C hq d_Mod_tell_62 (by rw [ev]; exact mpost_i rfl (by rw [upd_upd]; exact mrp_t hm _))
      · exact absurd (nand_or (by rw [mrp_e5 hm] at h5; exact h5)) hh
    · have ev : ap_tell S (nI j) = (2 * R 9 j + 100, st_ S (31 * (31 * (31 * (31 * F 1 + 3) + 2) + 1) + 1)) := by rw [ev0, if_neg (by omega), if_neg (by omega), e1]
      refine zx_aload C d_Mod_tell_0 rfl ?_
      refine zx_iload C d_Mod_tell_1 rfl ?_
      refine zr_di (zr_V C l_Mod_140 d_Mod_tell_2 (As := [_]) rfl rfl (Nat.le_of_ble_eq_true rfl) (c_Mod_isHappening G _ _ _ _ _ _) 0 rfl rfl ⟨Nat.le_of_ble_eq_true rfl, Nat.le_of_ble_eq_true rfl, Nat.le_of_ble_eq_true rfl, Nat.le_of_ble_eq_true rfl⟩) ?_
      refine zx_ifB_ne C d_Mod_tell_5 (fun h5 => ?_) (fun h5 => ?_)
      · refine zx_aload C d_Mod_tell_10 rfl ?_
        refine zm_g C f_Mod_22_12 d_Mod_tell_11 rfl ?_
        refine zx_iload C d_Mod_tell_14 rfl ?_
        refine zm_ld9 C d_Mod_tell_15 j rfl (by omega) ?_
        refine zx_istore C d_Mod_tell_16 (by decide) (lv1 := [(2, _), (0, _), (1, _)]) rfl ?_
        refine zx_aload C d_Mod_tell_17 rfl ?_
        refine zm_g C f_Mod_19_12 d_Mod_tell_18 rfl ?_
        refine zx_iload C d_Mod_tell_21 rfl ?_
        refine zm_ld8 C d_Mod_tell_22 j rfl (by omega) ?_
        refine zx_lookup C d_Mod_tell_23 (by decide) ⟨63, by rw [e8, hk]; decide, ?_⟩
        refine zx_aload C d_Mod_tell_63 rfl ?_
        refine zx_ic C d_Mod_tell_64 ?_
        refine zr_dv (zr_V C l_Mod_239 d_Mod_tell_65 (As := [_]) rfl rfl (Nat.le_of_ble_eq_true rfl) (c_Mod_begins G _ _ _ _ _ _) 0 rfl rfl ⟨Nat.le_of_ble_eq_true rfl, Nat.le_of_ble_eq_true rfl, Nat.le_of_ble_eq_true rfl, Nat.le_of_ble_eq_true rfl⟩) ?_
        refine zx_aload C d_Mod_tell_68 rfl ?_
        refine zx_ic C d_Mod_tell_69 ?_
        refine zr_dv (zr_V C l_Mod_239 d_Mod_tell_70 (As := [_]) rfl rfl (Nat.le_of_ble_eq_true rfl) (c_Mod_begins G _ _ _ _ _ _) 0 rfl rfl ⟨Nat.le_of_ble_eq_true rfl, Nat.le_of_ble_eq_true rfl, Nat.le_of_ble_eq_true rfl, Nat.le_of_ble_eq_true rfl⟩) ?_
        refine zx_aload C d_Mod_tell_73 rfl ?_
        refine zx_ic C d_Mod_tell_74 ?_
        refine zr_dv (zr_V C l_Mod_239 d_Mod_tell_75 (As := [_]) rfl rfl (Nat.le_of_ble_eq_true rfl) (c_Mod_begins G _ _ _ _ _ _) 0 rfl rfl ⟨Nat.le_of_ble_eq_true rfl, Nat.le_of_ble_eq_true rfl, Nat.le_of_ble_eq_true rfl, Nat.le_of_ble_eq_true rfl⟩) ?_
        refine zx_aload C d_Mod_tell_78 rfl ?_
        refine zx_ic C d_Mod_tell_79 ?_
        refine zr_dv (zr_V C l_Mod_239 d_Mod_tell_80 (As := [_]) rfl rfl (Nat.le_of_ble_eq_true rfl) (c_Mod_begins G _ _ _ _ _ _) 0 rfl rfl ⟨Nat.le_of_ble_eq_true rfl, Nat.le_of_ble_eq_true rfl, Nat.le_of_ble_eq_true rfl, Nat.le_of_ble_eq_true rfl⟩) ?_
        refine zx_ic C d_Mod_tell_83 ?_
        refine zx_iload C d_Mod_tell_84 rfl ?_
        refine zx_imul C d_Mod_tell_85 ?_
        refine zx_ic C d_Mod_tell_86 ?_
        refine zx_iadd C d_Mod_tell_88 ?_
        exact zx_iret C hq d_Mod_tell_89 (by rw [ev]; exact mpost_i rfl (by rw [upd_upd, upd_upd, upd_upd]; exact mrp_t hm _))
      · exact absurd (nand_or (by rw [mrp_e5 hm] at h5; exact h5)) hh
