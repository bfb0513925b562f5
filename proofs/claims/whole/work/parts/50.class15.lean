set_option maxHeartbeats 600000 in
set_option maxRecDepth 20000 in
theorem c_Deed_after (G : ZG) (ad : Nat → Nat) (I : Nat → Int32) (L : Nat → Int64) (g z : Option Nat) (QH QD : Nat → Option Nat) (RI : Nat → Nat → Int32) (RL : Nat → Nat → Int64) (X : va_W) (T : ZT) (hA dA : Nat → Nat) (j : Nat) (hj : j < T.2.1) (hf : tq T 5 j ≤ 5) (hu : tq T 6 j ≤ 6) (x : Int64) : ZM G y_Deed_after b_Deed_after 9 (some .long) r_Deed_after [.ref (dA j), .long x] (cw G ad I L g z QH QD RI RL ++ pw hA dA T X) (zdl (afD (tq T 5 j) (tq T 6 j) x) (cw G ad I L g z QH QD RI RL ++ pw hA dA T X)) := by
  refine ZM.of "SameTuesday$Deed" "after" rfl rfl (by decide) (Nat.le_of_ble_eq_true rfl) (fun Y C hq => ?_)
  change ZV G Y 0 0 0 [(0, .ref (dA j)), (1, .long x)] [] (cw G ad I L g z QH QD RI RL ++ pw hA dA T X)
  refine zx_lload C d_Deed_after_0 rfl ?_
  refine zx_aload C d_Deed_after_1 rfl ?_
  refine zx_get C f_Deed_15_1 d_Deed_after_2 (23 + (T.1 + j)) (zcw_de hj) rfl ?_
  refine zr_dl (zr_N C l_Deed_24 d_Deed_after_5 (As := [_]) rfl rfl (Nat.le_of_ble_eq_true rfl) (c_Tue_worldWith G _ (tq T 5 j) (by omega)) ⟨Nat.le_of_ble_eq_true rfl, Nat.le_of_ble_eq_true rfl, Nat.le_of_ble_eq_true rfl, Nat.le_of_ble_eq_true rfl⟩) ?_
  refine zx_lc C d_Deed_after_8 ?_
  refine zx_lxor C d_Deed_after_11 ?_
  refine zx_land C d_Deed_after_12 ?_
  refine zx_lstore C d_Deed_after_13 (by decide) (lv1 := [(3, _), (0, _), (1, _)]) rfl ?_
  refine zx_lload C d_Deed_after_14 rfl ?_
  refine zx_lload C d_Deed_after_15 rfl ?_
  refine zx_lc C d_Deed_after_16 ?_
  refine zx_lxor C d_Deed_after_19 ?_
  refine zx_land C d_Deed_after_20 ?_
  refine zx_lload C d_Deed_after_21 rfl ?_
  refine zx_ic C d_Deed_after_22 ?_
  refine zx_aload C d_Deed_after_23 rfl ?_
  refine zx_get C f_Deed_15_1 d_Deed_after_24 (23 + (T.1 + j)) (zcw_de hj) rfl ?_
  refine zx_ishl C d_Deed_after_27 ?_
  refine zx_lshl C d_Deed_after_28 ?_
  refine zx_lor C d_Deed_after_29 ?_
  refine zx_lstore C d_Deed_after_30 (by decide) (lv1 := [(5, _), (3, _), (0, _), (1, _)]) rfl ?_
  refine zx_aload C d_Deed_after_32 rfl ?_
  refine zx_get C f_Deed_18_1 d_Deed_after_33 (23 + (T.1 + j)) (zcw_de hj) rfl ?_
  refine zx_ic C d_Deed_after_36 ?_
  refine zx_ic_ne C d_Deed_after_38 (fun h38 => ?_) (fun h38 => ?_)
  · have e1 : ¬ tq T 6 j = 6 := fun z => h38 (by rw [z]; rfl)
    have ev : afD (tq T 5 j) (tq T 6 j) x = dM _ _ _ := if_neg e1
    refine zx_lload C d_Deed_after_44 rfl ?_
    refine zx_aload C d_Deed_after_46 rfl ?_
    refine zx_get C f_Deed_18_1 d_Deed_after_47 (23 + (T.1 + j)) (zcw_de hj) rfl ?_
    refine zr_dl (zr_N C l_Deed_24 d_Deed_after_50 (As := [_]) rfl rfl (Nat.le_of_ble_eq_true rfl) (c_Tue_worldWith G _ (tq T 6 j) (by omega)) ⟨Nat.le_of_ble_eq_true rfl, Nat.le_of_ble_eq_true rfl, Nat.le_of_ble_eq_true rfl, Nat.le_of_ble_eq_true rfl⟩) ?_
    refine zx_land C d_Deed_after_53 ?_
    refine zx_lstore C d_Deed_after_54 (by decide) (lv1 := [(7, _), (5, _), (3, _), (0, _), (1, _)]) rfl ?_
    refine zx_lload C d_Deed_after_56 rfl ?_
    refine zx_lload C d_Deed_after_58 rfl ?_
    refine zx_lc C d_Deed_after_60 ?_
    refine zx_lxor C d_Deed_after_63 ?_
    refine zx_land C d_Deed_after_64 ?_
    refine zx_lload C d_Deed_after_65 rfl ?_
    refine zx_ic C d_Deed_after_67 ?_
    refine zx_aload C d_Deed_after_68 rfl ?_
    refine zx_get C f_Deed_18_1 d_Deed_after_69 (23 + (T.1 + j)) (zcw_de hj) rfl ?_
    refine zx_ishl C d_Deed_after_72 ?_
    refine zx_lushr C d_Deed_after_73 ?_
    refine zx_lor C d_Deed_after_74 ?_
    exact zx_lret C hq d_Deed_after_75 (⟨by rw [ev]; rfl, rfl⟩)
  · have e1 : tq T 6 j = 6 := (nI_e6 (by omega)).mp (by first | exact h38 | exact Classical.byContradiction h38)
    have ev : afD (tq T 5 j) (tq T 6 j) x = dH _ _ _ := if_pos e1
    refine zx_lload C d_Deed_after_41 rfl ?_
    exact zx_lret C hq d_Deed_after_43 (⟨by rw [ev]; rfl, rfl⟩)
set_option maxHeartbeats 600000 in
set_option maxRecDepth 20000 in
theorem c_Twn_happenIn (G : ZG) (ad : Nat → Nat) (I : Nat → Int32) (L : Nat → Int64) (g z : Option Nat) (QH QD : Nat → Option Nat) (RI : Nat → Nat → Int32) (RL : Nat → Nat → Int64) (X : va_W) (T : ZT) (hA dA : Nat → Nat) (h9 : I 9 = nI T.1) (h6 : T.1 ≤ 6) (hQ : ∀ j, j < T.1 → QH j = some (hA j)) (ht : tok T) (h0 : ∀ m, m < 60 → (bt (L 0) m = true ↔ ∃ h, h < T.1 ∧ tq T 1 h = m)) (m : Nat) (hm : m < 60) (x : Int64) (th : Nat) (hth : th < 64) : ZM G y_Twn_happenIn b_Twn_happenIn 9 (some .long) r_Twn_happenIn [.ref (ad 10), .int (nI m), .long x, .int (nI th)] (cw G ad I L g z QH QD RI RL ++ pw hA dA T X) (zdl (hwl T m th T.1 x) (cw G ad I L g z QH QD RI RL ++ pw hA dA T X)) := by
  refine ZM.of "SameTuesday$Town" "happenIn" rfl rfl (by decide) (Nat.le_of_ble_eq_true rfl) (fun Y C hq => ?_)
  change ZV G Y 0 0 0 [(0, .ref (ad 10)), (1, .int (nI m)), (2, .long x), (4, .int (nI th))] [] (cw G ad I L g z QH QD RI RL ++ pw hA dA T X)
  have lp : ∀ c h, h + c = T.1 → ZV G Y 0 0 21 [(0, .ref (ad 10)), (1, .int (nI m)), (2, .long x), (4, .int (nI th)), (5, .long (hwl T m th h x)), (7, .int (nI h))] [] (cw G ad I L g z QH QD RI RL ++ pw hA dA T X) := by
    intro c
    induction c with
    | zero =>
      intro h hc
      obtain rfl : h = T.1 := by omega
      refine zx_iload C d_Twn_happenIn_21 rfl ?_
      refine zx_aload C d_Twn_happenIn_23 rfl ?_
      refine zx_get C f_Twn_23_9 d_Twn_happenIn_24 10 zcw_10 rfl ?_
      refine zx_ic_ge C d_Twn_happenIn_27 (fun h27 => ?_) (fun h27 => ?_)
      · refine zx_lload C d_Twn_happenIn_78 rfl ?_
        exact zx_lret C hq d_Twn_happenIn_80 (⟨rfl, rfl⟩)
      · exact absurd (by show I 9 ≤ _; rw [h9]; exact Int32.le_refl _) h27
    | succ c ih =>
      intro h hc
      have hj : h < T.1 := by omega
      have hk := ht.2.2.2.1 h hj
      refine zx_iload C d_Twn_happenIn_21 rfl ?_
      refine zx_aload C d_Twn_happenIn_23 rfl ?_
      refine zx_get C f_Twn_23_9 d_Twn_happenIn_24 10 zcw_10 rfl ?_
      refine zx_ic_ge C d_Twn_happenIn_27 (fun h27 => ?_) (fun h27 => ?_)
      · exact absurd h27 (by show ¬ I 9 ≤ _; rw [h9]; exact nI_ge (by omega) (by omega))
      · refine zx_aload C d_Twn_happenIn_30 rfl ?_
        refine zx_iload C d_Twn_happenIn_31 rfl ?_
        refine zr_dq (zr_V C l_Twn_61 d_Twn_happenIn_33 (As := [_]) rfl rfl (Nat.le_of_ble_eq_true rfl) (c_Twn_happeningOf G _ _ _ _ _ _ _ _ _ _ T.1 (by exact h9) h6 _) 10 zcw_10 rfl ⟨Nat.le_of_ble_eq_true rfl, Nat.le_of_ble_eq_true rfl, Nat.le_of_ble_eq_true rfl, Nat.le_of_ble_eq_true rfl⟩) ?_
        rw [qof_at hj (by omega), hQ h hj]
        refine zx_astore C d_Twn_happenIn_36 (by decide) (lv1 := [(8, _), (0, _), (1, _), (2, _), (4, _), (5, _), (7, _)]) rfl ?_
        refine zx_aload C d_Twn_happenIn_38 rfl ?_
        refine zx_ifnullR C d_Twn_happenIn_40 ?_
        refine zx_aload C d_Twn_happenIn_43 rfl ?_
        refine zx_get C (fh_Twn_64 _) d_Twn_happenIn_45 (23 + h) (zcw_ha hj) rfl ?_
        refine zx_iload C d_Twn_happenIn_48 rfl ?_
        refine zx_ic_ne C d_Twn_happenIn_49 (fun h49 => ?_) (fun h49 => ?_)
        · have ev : hwl T m th (h + 1) x = hwl T m th h x := if_neg (fun z => h49 (by rw [z.1]))
          refine zx_iinc C d_Twn_happenIn_72 (by decide) rfl (lv1 := [(7, _), (8, _), (0, _), (1, _), (2, _), (4, _), (5, _)]) rfl ?_
          refine zx_goto C d_Twn_happenIn_75 ?_
          rw [show (1 : Int32) = nI 1 from rfl, nI_add]
          have k1 := ih (h + 1) (by omega)
          rw [ev] at k1
          exact zx_lv [0, 1, 2, 4, 5, 7] rfl k1
        · refine zx_iload C d_Twn_happenIn_52 rfl ?_
          refine zx_iload C d_Twn_happenIn_54 rfl ?_
          refine zx_ishr C d_Twn_happenIn_56 ?_
          refine zx_ic C d_Twn_happenIn_57 ?_
          refine zx_iand C d_Twn_happenIn_58 ?_
          refine zx_ic C d_Twn_happenIn_59 ?_
          refine zx_ic_ne C d_Twn_happenIn_60 (fun h60 => ?_) (fun h60 => ?_)
          · have ev : hwl T m th (h + 1) x = hwl T m th h x := if_neg (fun z => h60 ((shr_h th hth h (by omega)).mpr z.2))
            refine zx_iinc C d_Twn_happenIn_72 (by decide) rfl (lv1 := [(7, _), (8, _), (0, _), (1, _), (2, _), (4, _), (5, _)]) rfl ?_
            refine zx_goto C d_Twn_happenIn_75 ?_
            rw [show (1 : Int32) = nI 1 from rfl, nI_add]
            have k1 := ih (h + 1) (by omega)
            rw [ev] at k1
            exact zx_lv [0, 1, 2, 4, 5, 7] rfl k1
          · have ev : hwl T m th (h + 1) x = afX (tq T 0 h) (ww (tq T 2 h)) (ww (tq T 3 h)) ((1 : Int32) <<< (nI (tq T 3 h) &&& 31)) (hwl T m th h x) := if_pos ⟨(nI_eqz (by omega) (by omega)).mp (by first | exact h49 | exact Classical.byContradiction h49), (shr_h th hth h (by omega)).mp (by first | exact h60 | exact Classical.byContradiction h60)⟩
            refine zx_aload C d_Twn_happenIn_63 rfl ?_
            refine zx_lload C d_Twn_happenIn_65 rfl ?_
            refine zr_dl (zq_after ad I L g z QH QD RI RL X T hA dA h hj _ C rfl hk.1 d_Twn_happenIn_67 (Nat.le_of_ble_eq_true rfl) ⟨Nat.le_of_ble_eq_true rfl, Nat.le_of_ble_eq_true rfl, Nat.le_of_ble_eq_true rfl, Nat.le_of_ble_eq_true rfl⟩) ?_
            refine zx_lstore C d_Twn_happenIn_70 (by decide) (lv1 := [(5, _), (8, _), (0, _), (1, _), (2, _), (4, _), (7, _)]) rfl ?_
            refine zx_iinc C d_Twn_happenIn_72 (by decide) rfl (lv1 := [(7, _), (5, _), (8, _), (0, _), (1, _), (2, _), (4, _)]) rfl ?_
            refine zx_goto C d_Twn_happenIn_75 ?_
            rw [show (1 : Int32) = nI 1 from rfl, nI_add]
            have k1 := ih (h + 1) (by omega)
            rw [ev] at k1
            exact zx_lv [0, 1, 2, 4, 5, 7] rfl k1
  refine zx_aload C d_Twn_happenIn_0 rfl ?_
  refine zx_get C f_Twn_33_9 d_Twn_happenIn_1 10 zcw_10 rfl ?_
  refine zx_iload C d_Twn_happenIn_4 rfl ?_
  refine zx_lushr C d_Twn_happenIn_5 ?_
  refine zx_lc C d_Twn_happenIn_6 ?_
  refine zx_land C d_Twn_happenIn_7 ?_
  refine zx_lc C d_Twn_happenIn_8 ?_
  refine zx_lcmp C d_Twn_happenIn_9 ?_
  refine zx_if_ne C d_Twn_happenIn_10 (fun h10 => ?_) (fun h10 => ?_)
  · refine zx_lload C d_Twn_happenIn_15 rfl ?_
    refine zx_lstore C d_Twn_happenIn_16 (by decide) (lv1 := [(5, _), (0, _), (1, _), (2, _), (4, _)]) rfl ?_
    refine zx_ic C d_Twn_happenIn_18 ?_
    refine zx_istore C d_Twn_happenIn_19 (by decide) (lv1 := [(7, _), (5, _), (0, _), (1, _), (2, _), (4, _)]) rfl ?_
    exact zx_lv [0, 1, 2, 4, 5, 7] rfl (lp T.1 0 (by omega))
  · have hb : bt (L 0) m = false := (ev_bit (L 0) (by omega)).mp ((lg_cmp_eq _ _).mp (by first | exact h10 | exact Classical.byContradiction h10))
    have ev : hwl T m th T.1 x = x := hwl_no (fun h hh z => by have := (h0 m hm).mpr ⟨h, hh, z⟩; rw [hb] at this; exact absurd this (by decide))
    refine zx_lload C d_Twn_happenIn_13 rfl ?_
    exact zx_lret C hq d_Twn_happenIn_14 (⟨by rw [ev], rfl⟩)
