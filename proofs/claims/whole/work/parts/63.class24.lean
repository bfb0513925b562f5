def mapN (φ : Int64 → Int64) (r : Nat → Int64) (n : Nat) : Nat → Int64 := fun g => if g < n then φ (r g) else r g
theorem mapN_u (R : Nat → Nat → Int64) (k : Nat) (φ : Int64 → Int64) (r : Nat → Int64) (q : Nat) : urL (urL R k (mapN φ r q)) k (vp_updL (mapN φ r q) q (φ (mapN φ r q q))) = urL R k (mapN φ r (q + 1)) := by
  rw [urL_urL]
  congr 1
  funext g
  show (if g = q then φ (mapN φ r q q) else mapN φ r q g) = mapN φ r (q + 1) g
  unfold mapN
  by_cases h : g = q
  · subst h; rw [if_pos rfl, if_neg (by omega), if_pos (by omega)]
  · rw [if_neg h]
    by_cases h2 : g < q
    · rw [if_pos h2, if_pos (by omega)]
    · rw [if_neg h2, if_neg (by omega)]
theorem mapN_0 (φ : Int64 → Int64) (r : Nat → Int64) : mapN φ r 0 = r := funext fun g => if_neg (Nat.not_lt_zero g)
set_option maxHeartbeats 600000 in
set_option maxRecDepth 20000 in
theorem c_Rch_passHappenings (G : ZG) (ad : Nat → Nat) (I : Nat → Int32) (L : Nat → Int64) (g z : Option Nat) (QH QD : Nat → Option Nat) (RI : Nat → Nat → Int32) (RL : Nat → Nat → Int64) (X : va_W) (T : ZT) (hA dA : Nat → Nat) (h9 : I 9 = nI T.1) (h6 : T.1 ≤ 6) (hQ : ∀ j, j < T.1 → QH j = some (hA j)) (ht : tok T) (h0 : ∀ m, m < 60 → (bt (L 0) m = true ↔ ∃ h, h < T.1 ∧ tq T 1 h = m)) (h10 : I 10 = nI T.2.1) (h11 : I 11 = nI T.2.2.1) (hQD : ∀ j, j < T.2.1 → QD j = some (dA j)) (m : Nat) (hm : m < 60) : ZM G y_Rch_passHappenings b_Rch_passHappenings 3 none r_Rch_passHappenings [.ref (ad 17), .int (nI m)] (cw G ad I L g z QH QD RI RL ++ pw hA dA T X) (zdv (cw G ad I (vp_updL L 2 ((hwl T m 63 T.1) (L 2))) g z QH QD RI (urL RL 2 (mapN (hwl T m 63 T.1) (RL 2) 50)) ++ pw hA dA T X)) := by
  refine ZM.of "SameTuesday$Reach" "passHappenings" rfl rfl (by decide) (Nat.le_of_ble_eq_true rfl) (fun Y C hq => ?_)
  change ZV G Y 0 0 0 [(0, .ref (ad 17)), (1, .int (nI m))] [] (cw G ad I L g z QH QD RI RL ++ pw hA dA T X)
  have lp : ∀ c q, q + c = 50 → ZV G Y 0 0 20 [(0, .ref (ad 17)), (1, .int (nI m)), (2, .int (nI q))] [] (cw G ad I (vp_updL L 2 ((hwl T m 63 T.1) (L 2))) g z QH QD RI (urL RL 2 (mapN (hwl T m 63 T.1) (RL 2) q)) ++ pw hA dA T X) := by
    intro c
    induction c with
    | zero =>
      intro q hc
      obtain rfl : q = 50 := by omega
      refine zx_iload C d_Rch_passHappenings_20 rfl ?_
      refine zx_aload C d_Rch_passHappenings_21 rfl ?_
      refine zx_get C f_Rch_19_6 d_Rch_passHappenings_22 17 zcw_17 rfl ?_
      refine zx_alen C d_Rch_passHappenings_25 19 zcw_19 rfl ?_
      refine zx_ic_ge C d_Rch_passHappenings_26 (fun h26 => ?_) (fun h26 => ?_)
      · exact zx_vret C hq d_Rch_passHappenings_57 (⟨rfl, rfl⟩)
      · exact absurd (Int32.le_refl _) h26
    | succ c ih =>
      intro q hc
      refine zx_iload C d_Rch_passHappenings_20 rfl ?_
      refine zx_aload C d_Rch_passHappenings_21 rfl ?_
      refine zx_get C f_Rch_19_6 d_Rch_passHappenings_22 17 zcw_17 rfl ?_
      refine zx_alen C d_Rch_passHappenings_25 19 zcw_19 rfl ?_
      refine zx_ic_ge C d_Rch_passHappenings_26 (fun h26 => ?_) (fun h26 => ?_)
      · exact absurd h26 (by show ¬ nI 50 ≤ _; exact nI_ge (by omega) (by omega))
      · refine zx_aload C d_Rch_passHappenings_29 rfl ?_
        refine zx_get C f_Rch_19_6 d_Rch_passHappenings_30 17 zcw_17 rfl ?_
        refine zx_iload C d_Rch_passHappenings_33 rfl ?_
        refine zx_aload C d_Rch_passHappenings_34 rfl ?_
        refine zx_get C f_Rch_9_6 d_Rch_passHappenings_35 17 zcw_17 rfl ?_
        refine zx_iload C d_Rch_passHappenings_38 rfl ?_
        refine zx_aload C d_Rch_passHappenings_39 rfl ?_
        refine zx_get C f_Rch_19_6 d_Rch_passHappenings_40 17 zcw_17 rfl ?_
        refine zx_iload C d_Rch_passHappenings_43 rfl ?_
        refine zx_lald C d_Rch_passHappenings_44 19 zcw_19 q rfl (by omega) (by decide) ?_
        refine zx_ic C d_Rch_passHappenings_45 ?_
        refine zr_dl (zr_V C l_Rch_64 d_Rch_passHappenings_47 (As := [_, _, _]) rfl rfl (Nat.le_of_ble_eq_true rfl) (c_Twn_happenIn G _ _ _ _ _ _ _ _ _ _ T hA dA (by exact h9) h6 hQ ht (by exact h0) m hm _ 63 (by decide)) 10 zcw_10 rfl ⟨Nat.le_of_ble_eq_true rfl, Nat.le_of_ble_eq_true rfl, Nat.le_of_ble_eq_true rfl, Nat.le_of_ble_eq_true rfl⟩) ?_
        refine zx_last C d_Rch_passHappenings_50 19 zcw_19 q rfl (by omega) (by decide) zca_19 ?_
        refine zx_eq rfl rfl (w1 := (cw G ad I (vp_updL L 2 ((hwl T m 63 T.1) (L 2))) g z QH QD RI (urL RL 2 (mapN (hwl T m 63 T.1) (RL 2) (q + 1))) ++ pw hA dA T X)) (congrArg (fun R => cw G ad I (vp_updL L 2 ((hwl T m 63 T.1) (L 2))) g z QH QD RI R ++ pw hA dA T X) (mapN_u RL 2 (hwl T m 63 T.1) (RL 2) q)) ?_
        refine zx_iinc C d_Rch_passHappenings_51 (by decide) rfl (lv1 := [(2, _), (0, _), (1, _)]) rfl ?_
        refine zx_goto C d_Rch_passHappenings_54 ?_
        rw [show (1 : Int32) = nI 1 from rfl, nI_add]
        exact zx_lv [0, 1, 2] rfl (ih (q + 1) (by omega))
  refine zx_aload C d_Rch_passHappenings_0 rfl ?_
  refine zx_aload C d_Rch_passHappenings_1 rfl ?_
  refine zx_get C f_Rch_9_6 d_Rch_passHappenings_2 17 zcw_17 rfl ?_
  refine zx_iload C d_Rch_passHappenings_5 rfl ?_
  refine zx_aload C d_Rch_passHappenings_6 rfl ?_
  refine zx_get C f_Rch_22_6 d_Rch_passHappenings_7 17 zcw_17 rfl ?_
  refine zx_ic C d_Rch_passHappenings_10 ?_
  refine zr_dl (zr_V C l_Rch_64 d_Rch_passHappenings_12 (As := [_, _, _]) rfl rfl (Nat.le_of_ble_eq_true rfl) (c_Twn_happenIn G _ _ _ _ _ _ _ _ _ _ T hA dA (by exact h9) h6 hQ ht (by exact h0) m hm _ 63 (by decide)) 10 zcw_10 rfl ⟨Nat.le_of_ble_eq_true rfl, Nat.le_of_ble_eq_true rfl, Nat.le_of_ble_eq_true rfl, Nat.le_of_ble_eq_true rfl⟩) ?_
  refine zx_put C p_Rch_22_6 d_Rch_passHappenings_15 17 zcw_17 zb_fit_l (Nat.le_of_ble_eq_true rfl) zcs_17_3 ?_
  refine zx_ic C d_Rch_passHappenings_18 ?_
  refine zx_istore C d_Rch_passHappenings_19 (by decide) (lv1 := [(2, _), (0, _), (1, _)]) rfl ?_
  have k1 := lp 50 0 (by omega)
  rw [mapN_0, urL_self] at k1
  exact zx_lv [0, 1, 2] rfl k1
theorem eG_0 (go : Nat → Int64) : eG go 0 = go := funext fun g => if_neg (fun z => by omega)
theorem eG_u (R : Nat → Nat → Int64) (go : Nat → Int64) (d : Nat) : urL (urL (urL R 2 (eG go d)) 2 (va_cpy (eG go d) (eG go d) (10 * d + 1 + 1) (10 * d + 1) 8)) 2 (vp_updL (va_cpy (eG go d) (eG go d) (10 * d + 1 + 1) (10 * d + 1) 8) (10 * d + 9) 0) = urL R 2 (eG go (d + 1)) := by
  rw [urL_urL, urL_urL]
  congr 1
  funext g
  show (if g = 10 * d + 9 then 0 else if 10 * d + 1 ≤ g ∧ g < 10 * d + 1 + 8 then eG go d (10 * d + 1 + 1 + (g - (10 * d + 1))) else eG go d g) = eG go (d + 1) g
  unfold eG
  by_cases h9 : g = 10 * d + 9
  · rw [if_pos h9, if_pos (by omega), if_pos (by omega)]
  · rw [if_neg h9]
    by_cases h1 : 10 * d + 1 ≤ g ∧ g < 10 * d + 1 + 8
    · rw [if_pos h1, if_neg (by omega), if_pos (by omega), if_neg (by omega), show 10 * d + 1 + 1 + (g - (10 * d + 1)) = g + 1 by omega]
    · rw [if_neg h1]
      by_cases h2 : g < 10 * d ∧ ¬ g % 10 = 0
      · rw [if_pos h2, if_pos (show g < 10 * (d + 1) ∧ ¬ g % 10 = 0 from ⟨by omega, h2.2⟩)]
      · rw [if_neg h2, if_neg (show ¬ (g < 10 * (d + 1) ∧ ¬ g % 10 = 0) by omega)]
theorem eG_at {go : Nat → Int64} {d : Nat} : eG go d (10 * d + 1) = go (10 * d + 1) := if_neg (by omega)
theorem qof_no {n : Nat} {Q : Nat → Option Nat} {j : Nat} (hj : n ≤ j) (h2 : j < 2 ^ 31) : qof n Q (nI j) = none := if_neg (fun z => z.2 ((nI_leI (by omega) (by omega)).mpr hj))
theorem vuL_self (L : Nat → Int64) (k : Nat) : vp_updL L k (L k) = L := by
  funext j
  show (if j = k then L k else L j) = L j
  split
  · next h => rw [h]
  · rfl
set_option maxHeartbeats 600000 in
set_option maxRecDepth 20000 in
theorem c_Rch_endDeeds (G : ZG) (ad : Nat → Nat) (I : Nat → Int32) (L : Nat → Int64) (g z : Option Nat) (QH QD : Nat → Option Nat) (RI : Nat → Nat → Int32) (RL : Nat → Nat → Int64) (X : va_W) (T : ZT) (hA dA : Nat → Nat) (h9 : I 9 = nI T.1) (h6 : T.1 ≤ 6) (hQ : ∀ j, j < T.1 → QH j = some (hA j)) (ht : tok T) (h0 : ∀ m, m < 60 → (bt (L 0) m = true ↔ ∃ h, h < T.1 ∧ tq T 1 h = m)) (h10 : I 10 = nI T.2.1) (h11 : I 11 = nI T.2.2.1) (hQD : ∀ j, j < T.2.1 → QD j = some (dA j)) : ZM G y_Rch_endDeeds b_Rch_endDeeds 4 none r_Rch_endDeeds [.ref (ad 17)] (cw G ad I L g z QH QD RI RL ++ pw hA dA T X) (zdv (cw G ad I (vp_updL L 2 (eF T (RL 2) (L 2) 5)) g z QH QD RI (urL RL 2 (eG (RL 2) 5)) ++ pw hA dA T X)) := by
  refine ZM.of "SameTuesday$Reach" "endDeeds" rfl rfl (by decide) (Nat.le_of_ble_eq_true rfl) (fun Y C hq => ?_)
  change ZV G Y 0 0 0 [(0, .ref (ad 17))] [] (cw G ad I L g z QH QD RI RL ++ pw hA dA T X)
  have h5 := ht.2.1
  have lp : ∀ c d, d + c = 5 → ZV G Y 0 0 2 [(0, .ref (ad 17)), (1, .int (nI d))] [] (cw G ad I (vp_updL L 2 (eF T (RL 2) (L 2) d)) g z QH QD RI (urL RL 2 (eG (RL 2) d)) ++ pw hA dA T X) := by
    intro c
    induction c with
    | zero =>
      intro d hc
      obtain rfl : d = 5 := by omega
      refine zx_iload C d_Rch_endDeeds_2 rfl ?_
      refine zx_ic C d_Rch_endDeeds_3 ?_
      refine zx_ic_ge C d_Rch_endDeeds_4 (fun h4 => ?_) (fun h4 => ?_)
      · exact zx_vret C hq d_Rch_endDeeds_82 (⟨rfl, rfl⟩)
      · exact absurd (Int32.le_refl _) h4
    | succ c ih =>
      intro d hc
      by_cases hd : d < T.2.1
      · skip
        refine zx_iload C d_Rch_endDeeds_2 rfl ?_
        refine zx_ic C d_Rch_endDeeds_3 ?_
        refine zx_ic_ge C d_Rch_endDeeds_4 (fun h4 => ?_) (fun h4 => ?_)
        · exact absurd h4 (nI_ge (b := 5) (by omega) (by omega))
        · refine zx_aload C d_Rch_endDeeds_7 rfl ?_
          refine zx_get C f_Rch_9_6 d_Rch_endDeeds_8 17 zcw_17 rfl ?_
          refine zx_iload C d_Rch_endDeeds_11 rfl ?_
          refine zr_dq (zr_V C l_Rch_68 d_Rch_endDeeds_12 (As := [_]) rfl rfl (Nat.le_of_ble_eq_true rfl) (c_Twn_deedOf G _ _ _ _ _ _ _ _ _ _ T.2.1 (by exact h10) ht.2.1 _) 10 zcw_10 rfl ⟨Nat.le_of_ble_eq_true rfl, Nat.le_of_ble_eq_true rfl, Nat.le_of_ble_eq_true rfl, Nat.le_of_ble_eq_true rfl⟩) ?_
          rw [qof_at hd (by omega), hQD d hd]
          refine zx_astore C d_Rch_endDeeds_15 (by decide) (lv1 := [(2, _), (0, _), (1, _)]) rfl ?_
          refine zx_ic C d_Rch_endDeeds_16 ?_
          refine zx_iload C d_Rch_endDeeds_18 rfl ?_
          refine zx_imul C d_Rch_endDeeds_19 ?_
          refine zx_ic C d_Rch_endDeeds_20 ?_
          refine zx_iadd C d_Rch_endDeeds_21 ?_
          refine zx_eq rfl (st1 := [.int (nI (10 * d + 1))]) (by rw [show (10 : Int32) = nI 10 from rfl, show (1 : Int32) = nI 1 from rfl, pk_mul, nI_add]) rfl ?_
          refine zx_istore C d_Rch_endDeeds_22 (by decide) (lv1 := [(3, _), (2, _), (0, _), (1, _)]) rfl ?_
          refine zx_aload C d_Rch_endDeeds_23 rfl ?_
          refine zx_ifnullR C d_Rch_endDeeds_24 ?_
          refine zx_aload C d_Rch_endDeeds_27 rfl ?_
          refine zx_dup C rfl d_Rch_endDeeds_28 ?_
          refine zx_get C f_Rch_22_6 d_Rch_endDeeds_29 17 zcw_17 rfl ?_
          refine zx_aload C d_Rch_endDeeds_32 rfl ?_
          refine zx_aload C d_Rch_endDeeds_33 rfl ?_
          refine zx_get C f_Rch_19_6 d_Rch_endDeeds_34 17 zcw_17 rfl ?_
          refine zx_iload C d_Rch_endDeeds_37 rfl ?_
          refine zx_lald C d_Rch_endDeeds_38 19 zcw_19 (10 * d + 1) rfl (by omega) (by decide) ?_
          refine zr_dl (zr_V C l_Rch_72 d_Rch_endDeeds_39 (As := [_]) rfl rfl (Nat.le_of_ble_eq_true rfl) (c_Deed_after G _ _ _ _ _ _ _ _ _ _ T hA dA d hd (ht.2.2.2.2 d hd).2.1 (ht.2.2.2.2 d hd).2.2.1 _) (23 + (T.1 + d)) (zcw_de hd) rfl ⟨Nat.le_of_ble_eq_true rfl, Nat.le_of_ble_eq_true rfl, Nat.le_of_ble_eq_true rfl, Nat.le_of_ble_eq_true rfl⟩) ?_
          refine zx_lor C d_Rch_endDeeds_42 ?_
          refine zx_put C p_Rch_22_6 d_Rch_endDeeds_43 17 zcw_17 zb_fit_l (Nat.le_of_ble_eq_true rfl) zcs_17_3 ?_
          refine zx_eq rfl rfl (w1 := (cw G ad I (vp_updL L 2 (eF T (RL 2) (L 2) (d + 1))) g z QH QD RI (urL RL 2 (eG (RL 2) d)) ++ pw hA dA T X)) (congrArg (fun L => cw G ad I L g z QH QD RI (urL RL 2 (eG (RL 2) d)) ++ pw hA dA T X) ((vu_self L 2 _ _).trans (congrArg (vp_updL L 2) (by rw [show eF T (RL 2) (L 2) (d + 1) = _ from if_pos hd, ← eG_at (go := RL 2) (d := d)]; rfl)))) ?_
          refine zx_aload C d_Rch_endDeeds_46 rfl ?_
          refine zx_get C f_Rch_19_6 d_Rch_endDeeds_47 17 zcw_17 rfl ?_
          refine zx_iload C d_Rch_endDeeds_50 rfl ?_
          refine zx_ic C d_Rch_endDeeds_51 ?_
          refine zx_iadd C d_Rch_endDeeds_52 ?_
          refine zx_aload C d_Rch_endDeeds_53 rfl ?_
          refine zx_get C f_Rch_19_6 d_Rch_endDeeds_54 17 zcw_17 rfl ?_
          refine zx_iload C d_Rch_endDeeds_57 rfl ?_
          refine zx_ic C d_Rch_endDeeds_58 ?_
          refine zx_cpyl C l_Rch_78 d_Rch_endDeeds_60 19 19 zcw_19 zcw_19 (10 * d + 1 + 1) (10 * d + 1) 8 (by rw [show (1 : Int32) = nI 1 from rfl, nI_add]) rfl rfl (by omega) (by omega) (by decide) (by decide) zca_19 (Nat.le_of_ble_eq_true rfl) (by decide) ?_
          refine zx_aload C d_Rch_endDeeds_63 rfl ?_
          refine zx_get C f_Rch_19_6 d_Rch_endDeeds_64 17 zcw_17 rfl ?_
          refine zx_ic C d_Rch_endDeeds_67 ?_
          refine zx_iload C d_Rch_endDeeds_69 rfl ?_
          refine zx_imul C d_Rch_endDeeds_70 ?_
          refine zx_ic C d_Rch_endDeeds_71 ?_
          refine zx_iadd C d_Rch_endDeeds_73 ?_
          refine zx_lc C d_Rch_endDeeds_74 ?_
          refine zx_last C d_Rch_endDeeds_75 19 zcw_19 (10 * d + 9) (by rw [show (10 : Int32) = nI 10 from rfl, show (9 : Int32) = nI 9 from rfl, pk_mul, nI_add]) (by omega) (by decide) zca_19 ?_
          refine zx_eq rfl rfl (w1 := (cw G ad I (vp_updL L 2 (eF T (RL 2) (L 2) (d + 1))) g z QH QD RI (urL RL 2 (eG (RL 2) (d + 1))) ++ pw hA dA T X)) (congrArg (fun R => cw G ad I (vp_updL L 2 (eF T (RL 2) (L 2) (d + 1))) g z QH QD RI R ++ pw hA dA T X) (eG_u RL (RL 2) d)) ?_
          refine zx_iinc C d_Rch_endDeeds_76 (by decide) rfl (lv1 := [(1, _), (3, _), (2, _), (0, _)]) rfl ?_
          refine zx_goto C d_Rch_endDeeds_79 ?_
          rw [show (1 : Int32) = nI 1 from rfl, nI_add]
          exact zx_lv [0, 1] rfl (ih (d + 1) (by omega))
      · skip
        refine zx_iload C d_Rch_endDeeds_2 rfl ?_
        refine zx_ic C d_Rch_endDeeds_3 ?_
        refine zx_ic_ge C d_Rch_endDeeds_4 (fun h4 => ?_) (fun h4 => ?_)
        · exact absurd h4 (nI_ge (b := 5) (by omega) (by omega))
        · refine zx_aload C d_Rch_endDeeds_7 rfl ?_
          refine zx_get C f_Rch_9_6 d_Rch_endDeeds_8 17 zcw_17 rfl ?_
          refine zx_iload C d_Rch_endDeeds_11 rfl ?_
          refine zr_dq (zr_V C l_Rch_68 d_Rch_endDeeds_12 (As := [_]) rfl rfl (Nat.le_of_ble_eq_true rfl) (c_Twn_deedOf G _ _ _ _ _ _ _ _ _ _ T.2.1 (by exact h10) ht.2.1 _) 10 zcw_10 rfl ⟨Nat.le_of_ble_eq_true rfl, Nat.le_of_ble_eq_true rfl, Nat.le_of_ble_eq_true rfl, Nat.le_of_ble_eq_true rfl⟩) ?_
          rw [qof_no (n := T.2.1) (j := d) (by omega) (by omega)]
          refine zx_astoreq C d_Rch_endDeeds_15 (by decide) (lv1 := [(2, _), (0, _), (1, _)]) rfl ?_
          refine zx_ic C d_Rch_endDeeds_16 ?_
          refine zx_iload C d_Rch_endDeeds_18 rfl ?_
          refine zx_imul C d_Rch_endDeeds_19 ?_
          refine zx_ic C d_Rch_endDeeds_20 ?_
          refine zx_iadd C d_Rch_endDeeds_21 ?_
          refine zx_eq rfl (st1 := [.int (nI (10 * d + 1))]) (by rw [show (10 : Int32) = nI 10 from rfl, show (1 : Int32) = nI 1 from rfl, pk_mul, nI_add]) rfl ?_
          refine zx_istore C d_Rch_endDeeds_22 (by decide) (lv1 := [(3, _), (2, _), (0, _), (1, _)]) rfl ?_
          refine zx_aloadq (r := none) C d_Rch_endDeeds_23 rfl ?_
          refine zx_ifnull C d_Rch_endDeeds_24 (fun h24 => ?_) (fun a24 h24 => ?_)
          · refine zx_eq rfl rfl (w1 := (cw G ad I (vp_updL L 2 (eF T (RL 2) (L 2) (d + 1))) g z QH QD RI (urL RL 2 (eG (RL 2) d)) ++ pw hA dA T X)) (congrArg (fun L => cw G ad I L g z QH QD RI (urL RL 2 (eG (RL 2) d)) ++ pw hA dA T X) (congrArg (vp_updL L 2) (show eF T (RL 2) (L 2) d = eF T (RL 2) (L 2) (d + 1) from (if_neg hd).symm))) ?_
            refine zx_aload C d_Rch_endDeeds_46 rfl ?_
            refine zx_get C f_Rch_19_6 d_Rch_endDeeds_47 17 zcw_17 rfl ?_
            refine zx_iload C d_Rch_endDeeds_50 rfl ?_
            refine zx_ic C d_Rch_endDeeds_51 ?_
            refine zx_iadd C d_Rch_endDeeds_52 ?_
            refine zx_aload C d_Rch_endDeeds_53 rfl ?_
            refine zx_get C f_Rch_19_6 d_Rch_endDeeds_54 17 zcw_17 rfl ?_
            refine zx_iload C d_Rch_endDeeds_57 rfl ?_
            refine zx_ic C d_Rch_endDeeds_58 ?_
            refine zx_cpyl C l_Rch_78 d_Rch_endDeeds_60 19 19 zcw_19 zcw_19 (10 * d + 1 + 1) (10 * d + 1) 8 (by rw [show (1 : Int32) = nI 1 from rfl, nI_add]) rfl rfl (by omega) (by omega) (by decide) (by decide) zca_19 (Nat.le_of_ble_eq_true rfl) (by decide) ?_
            refine zx_aload C d_Rch_endDeeds_63 rfl ?_
            refine zx_get C f_Rch_19_6 d_Rch_endDeeds_64 17 zcw_17 rfl ?_
            refine zx_ic C d_Rch_endDeeds_67 ?_
            refine zx_iload C d_Rch_endDeeds_69 rfl ?_
            refine zx_imul C d_Rch_endDeeds_70 ?_
            refine zx_ic C d_Rch_endDeeds_71 ?_
            refine zx_iadd C d_Rch_endDeeds_73 ?_
            refine zx_lc C d_Rch_endDeeds_74 ?_
            refine zx_last C d_Rch_endDeeds_75 19 zcw_19 (10 * d + 9) (by rw [show (10 : Int32) = nI 10 from rfl, show (9 : Int32) = nI 9 from rfl, pk_mul, nI_add]) (by omega) (by decide) zca_19 ?_
            refine zx_eq rfl rfl (w1 := (cw G ad I (vp_updL L 2 (eF T (RL 2) (L 2) (d + 1))) g z QH QD RI (urL RL 2 (eG (RL 2) (d + 1))) ++ pw hA dA T X)) (congrArg (fun R => cw G ad I (vp_updL L 2 (eF T (RL 2) (L 2) (d + 1))) g z QH QD RI R ++ pw hA dA T X) (eG_u RL (RL 2) d)) ?_
            refine zx_iinc C d_Rch_endDeeds_76 (by decide) rfl (lv1 := [(1, _), (3, _), (2, _), (0, _)]) rfl ?_
            refine zx_goto C d_Rch_endDeeds_79 ?_
            rw [show (1 : Int32) = nI 1 from rfl, nI_add]
            exact zx_lv [0, 1] rfl (ih (d + 1) (by omega))
          · cases h24
  refine zx_ic C d_Rch_endDeeds_0 ?_
  refine zx_istore C d_Rch_endDeeds_1 (by decide) (lv1 := [(1, _), (0, _)]) rfl ?_
  have k1 := lp 5 0 (by omega)
  rw [eG_0, urL_self, show vp_updL L 2 (eF T (RL 2) (L 2) 0) = L from vuL_self L 2] at k1
  exact zx_lv [0, 1] rfl k1
theorem bG_0 (T : ZT) (m : Nat) (x : Int64) (go : Nat → Int64) : bG T m x go 0 = go := funext fun g => if_neg (fun z => by omega)
theorem bG_u {T : ZT} (R : Nat → Nat → Int64) (m : Nat) (x : Int64) (go : Nat → Int64) {d : Nat} (hd : d < T.2.1) (h9 : tq T 7 d ≤ 9) {y : Int64} (hy : y = opw T m x d) : urL (urL R 2 (bG T m x go d)) 2 (vp_updL (bG T m x go d) (10 * d + tq T 7 d) (bG T m x go d (10 * d + tq T 7 d) ||| y)) = urL R 2 (bG T m x go (d + 1)) := by
  subst hy
  rw [urL_urL]
  congr 1
  funext g
  show (if g = 10 * d + tq T 7 d then bG T m x go d (10 * d + tq T 7 d) ||| opw T m x d else bG T m x go d g) = bG T m x go (d + 1) g
  have e1 : (10 * d + tq T 7 d) / 10 = d := by omega
  have e2 : (10 * d + tq T 7 d) % 10 = tq T 7 d := by omega
  by_cases h : g = 10 * d + tq T 7 d
  · rw [if_pos h, h, bG, e1, if_neg (fun z => by omega), bG, e1, if_pos ⟨by omega, hd, e2⟩]
  · rw [if_neg h, bG, bG]
    by_cases h2 : g / 10 < d ∧ g / 10 < T.2.1 ∧ g % 10 = tq T 7 (g / 10)
    · rw [if_pos h2, if_pos ⟨by omega, h2.2⟩]
    · rw [if_neg h2, if_neg (fun z => h2 ⟨Classical.byContradiction fun y => by
        have e3 : g / 10 = d := by omega
        rw [e3] at z
        omega, z.2⟩)]
theorem bG_far {T : ZT} {m : Nat} {x : Int64} {go : Nat → Int64} {d : Nat} (hd : ¬ d < T.2.1) : bG T m x go d = bG T m x go (d + 1) := by
  funext g
  rw [bG, bG]
  by_cases h2 : g / 10 < d ∧ g / 10 < T.2.1 ∧ g % 10 = tq T 7 (g / 10)
  · rw [if_pos h2, if_pos ⟨by omega, h2.2⟩]
  · rw [if_neg h2, if_neg (fun z => h2 ⟨by omega, z.2⟩)]
set_option maxHeartbeats 600000 in
set_option maxRecDepth 20000 in
theorem c_Rch_beginDeeds (G : ZG) (ad : Nat → Nat) (I : Nat → Int32) (L : Nat → Int64) (g z : Option Nat) (QH QD : Nat → Option Nat) (RI : Nat → Nat → Int32) (RL : Nat → Nat → Int64) (X : va_W) (T : ZT) (hA dA : Nat → Nat) (h9 : I 9 = nI T.1) (h6 : T.1 ≤ 6) (hQ : ∀ j, j < T.1 → QH j = some (hA j)) (ht : tok T) (h0 : ∀ m, m < 60 → (bt (L 0) m = true ↔ ∃ h, h < T.1 ∧ tq T 1 h = m)) (h10 : I 10 = nI T.2.1) (h11 : I 11 = nI T.2.2.1) (hQD : ∀ j, j < T.2.1 → QD j = some (dA j)) (m : Nat) (hm : m < 60) : ZM G y_Rch_beginDeeds b_Rch_beginDeeds 4 none r_Rch_beginDeeds [.ref (ad 17), .int (nI m)] (cw G ad I L g z QH QD RI RL ++ pw hA dA T X) (zdv (cw G ad I L g z QH QD RI (urL RL 2 (bG T m (L 2) (RL 2) 5)) ++ pw hA dA T X)) := by
  refine ZM.of "SameTuesday$Reach" "beginDeeds" rfl rfl (by decide) (Nat.le_of_ble_eq_true rfl) (fun Y C hq => ?_)
  change ZV G Y 0 0 0 [(0, .ref (ad 17)), (1, .int (nI m))] [] (cw G ad I L g z QH QD RI RL ++ pw hA dA T X)
  have h5 := ht.2.1
  have h60 := ht.2.2.1
  have lp : ∀ c d, d + c = 5 → ZV G Y 0 0 2 [(0, .ref (ad 17)), (1, .int (nI m)), (2, .int (nI d))] [] (cw G ad I L g z QH QD RI (urL RL 2 (bG T m (L 2) (RL 2) d)) ++ pw hA dA T X) := by
    intro c
    induction c with
    | zero =>
      intro d hc
      obtain rfl : d = 5 := by omega
      refine zx_iload C d_Rch_beginDeeds_2 rfl ?_
      refine zx_ic C d_Rch_beginDeeds_3 ?_
      refine zx_ic_ge C d_Rch_beginDeeds_4 (fun h4 => ?_) (fun h4 => ?_)
      · exact zx_vret C hq d_Rch_beginDeeds_72 (⟨rfl, rfl⟩)
      · exact absurd (Int32.le_refl _) h4
    | succ c ih =>
      intro d hc
      by_cases hd : d < T.2.1
      · have hk := ht.2.2.2.2 d hd
        refine zx_iload C d_Rch_beginDeeds_2 rfl ?_
        refine zx_ic C d_Rch_beginDeeds_3 ?_
        refine zx_ic_ge C d_Rch_beginDeeds_4 (fun h4 => ?_) (fun h4 => ?_)
        · exact absurd h4 (nI_ge (b := 5) (by omega) (by omega))
        · refine zx_aload C d_Rch_beginDeeds_7 rfl ?_
          refine zx_get C f_Rch_9_6 d_Rch_beginDeeds_8 17 zcw_17 rfl ?_
          refine zx_iload C d_Rch_beginDeeds_11 rfl ?_
          refine zr_dq (zr_V C l_Rch_68 d_Rch_beginDeeds_12 (As := [_]) rfl rfl (Nat.le_of_ble_eq_true rfl) (c_Twn_deedOf G _ _ _ _ _ _ _ _ _ _ T.2.1 (by exact h10) ht.2.1 _) 10 zcw_10 rfl ⟨Nat.le_of_ble_eq_true rfl, Nat.le_of_ble_eq_true rfl, Nat.le_of_ble_eq_true rfl, Nat.le_of_ble_eq_true rfl⟩) ?_
          rw [qof_at hd (by omega), hQD d hd]
          refine zx_astore C d_Rch_beginDeeds_15 (by decide) (lv1 := [(3, _), (0, _), (1, _), (2, _)]) rfl ?_
          refine zx_aload C d_Rch_beginDeeds_16 rfl ?_
          refine zx_ifnullR C d_Rch_beginDeeds_17 ?_
          refine zx_aload C d_Rch_beginDeeds_20 rfl ?_
          refine zx_get C f_Rch_84_1 d_Rch_beginDeeds_21 (23 + (T.1 + d)) (zcw_de hd) rfl ?_
          refine zx_if_le C d_Rch_beginDeeds_24 (fun h24 => ?_) (fun h24 => ?_)
          · exact absurd ((nI_np (by omega)).mp h24) (by omega)
          · refine zx_aload C d_Rch_beginDeeds_27 rfl ?_
            refine zx_get C f_Rch_84_1 d_Rch_beginDeeds_28 (23 + (T.1 + d)) (zcw_de hd) rfl ?_
            refine zx_ic C d_Rch_beginDeeds_31 ?_
            refine zx_ic_ge C d_Rch_beginDeeds_33 (fun h33 => ?_) (fun h33 => ?_)
            · exact absurd h33 (nI_ge (b := 10) (by omega) (by omega))
            · refine zx_aload C d_Rch_beginDeeds_36 rfl ?_
              refine zx_get C f_Rch_19_6 d_Rch_beginDeeds_37 17 zcw_17 rfl ?_
              refine zx_ic C d_Rch_beginDeeds_40 ?_
              refine zx_iload C d_Rch_beginDeeds_42 rfl ?_
              refine zx_imul C d_Rch_beginDeeds_43 ?_
              refine zx_aload C d_Rch_beginDeeds_44 rfl ?_
              refine zx_get C f_Rch_84_1 d_Rch_beginDeeds_45 (23 + (T.1 + d)) (zcw_de hd) rfl ?_
              refine zx_iadd C d_Rch_beginDeeds_48 ?_
              refine zx_dup2 C rfl rfl d_Rch_beginDeeds_49 ?_
              refine zx_lald C d_Rch_beginDeeds_50 19 zcw_19 (10 * d + tq T 7 d) (by rw [show (10 : Int32) = nI 10 from rfl, pk_mul, nI_add]) (by omega) (by decide) ?_
              refine zx_aload C d_Rch_beginDeeds_51 rfl ?_
              refine zx_get C f_Rch_9_6 d_Rch_beginDeeds_52 17 zcw_17 rfl ?_
              refine zx_aload C d_Rch_beginDeeds_55 rfl ?_
              refine zx_iload C d_Rch_beginDeeds_56 rfl ?_
              refine zx_aload C d_Rch_beginDeeds_57 rfl ?_
              refine zx_get C f_Rch_22_6 d_Rch_beginDeeds_58 17 zcw_17 rfl ?_
              refine zr_dl (zr_V C l_Rch_88 d_Rch_beginDeeds_61 (As := [_, _, _]) rfl rfl (Nat.le_of_ble_eq_true rfl) (c_Twn_openTo G _ _ _ _ _ _ _ _ _ _ (23 + (T.1 + d)) (dA d) _ _ _ _ _ (zcw_de hd) (nI m) _) 10 zcw_10 rfl ⟨Nat.le_of_ble_eq_true rfl, Nat.le_of_ble_eq_true rfl, Nat.le_of_ble_eq_true rfl, Nat.le_of_ble_eq_true rfl⟩) ?_
              refine zx_lor C d_Rch_beginDeeds_64 ?_
              refine zx_last C d_Rch_beginDeeds_65 19 zcw_19 (10 * d + tq T 7 d) (by rw [show (10 : Int32) = nI 10 from rfl, pk_mul, nI_add]) (by omega) (by decide) zca_19 ?_
              refine zx_eq rfl rfl (w1 := (cw G ad I L g z QH QD RI (urL RL 2 (bG T m (L 2) (RL 2) (d + 1))) ++ pw hA dA T X)) (congrArg (fun R => cw G ad I L g z QH QD RI R ++ pw hA dA T X) (bG_u RL m (L 2) (RL 2) hd hk.2.2.2.2 (by rw [opw, h11, nI_add]; by_cases y : T.2.2.1 ≤ m + tq T 7 d; (rw [if_pos y, if_pos ((nI_leI (by omega) (by omega)).mpr y)]); (rw [if_neg y, if_neg (fun u => y ((nI_leI (by omega) (by omega)).mp u))])))) ?_
              refine zx_iinc C d_Rch_beginDeeds_66 (by decide) rfl (lv1 := [(2, _), (3, _), (0, _), (1, _)]) rfl ?_
              refine zx_goto C d_Rch_beginDeeds_69 ?_
              rw [show (1 : Int32) = nI 1 from rfl, nI_add]
              exact zx_lv [0, 1, 2] rfl (ih (d + 1) (by omega))
      · skip
        refine zx_iload C d_Rch_beginDeeds_2 rfl ?_
        refine zx_ic C d_Rch_beginDeeds_3 ?_
        refine zx_ic_ge C d_Rch_beginDeeds_4 (fun h4 => ?_) (fun h4 => ?_)
        · exact absurd h4 (nI_ge (b := 5) (by omega) (by omega))
        · refine zx_aload C d_Rch_beginDeeds_7 rfl ?_
          refine zx_get C f_Rch_9_6 d_Rch_beginDeeds_8 17 zcw_17 rfl ?_
          refine zx_iload C d_Rch_beginDeeds_11 rfl ?_
          refine zr_dq (zr_V C l_Rch_68 d_Rch_beginDeeds_12 (As := [_]) rfl rfl (Nat.le_of_ble_eq_true rfl) (c_Twn_deedOf G _ _ _ _ _ _ _ _ _ _ T.2.1 (by exact h10) ht.2.1 _) 10 zcw_10 rfl ⟨Nat.le_of_ble_eq_true rfl, Nat.le_of_ble_eq_true rfl, Nat.le_of_ble_eq_true rfl, Nat.le_of_ble_eq_true rfl⟩) ?_
          rw [qof_no (n := T.2.1) (j := d) (by omega) (by omega)]
          refine zx_astoreq C d_Rch_beginDeeds_15 (by decide) (lv1 := [(3, _), (0, _), (1, _), (2, _)]) rfl ?_
          refine zx_aloadq (r := none) C d_Rch_beginDeeds_16 rfl ?_
          refine zx_ifnull C d_Rch_beginDeeds_17 (fun h17 => ?_) (fun a17 h17 => ?_)
          · refine zx_eq rfl rfl (w1 := (cw G ad I L g z QH QD RI (urL RL 2 (bG T m (L 2) (RL 2) (d + 1))) ++ pw hA dA T X)) (congrArg (fun R => cw G ad I L g z QH QD RI R ++ pw hA dA T X) (congrArg (urL RL 2) (bG_far hd))) ?_
            refine zx_iinc C d_Rch_beginDeeds_66 (by decide) rfl (lv1 := [(2, _), (3, _), (0, _), (1, _)]) rfl ?_
            refine zx_goto C d_Rch_beginDeeds_69 ?_
            rw [show (1 : Int32) = nI 1 from rfl, nI_add]
            exact zx_lv [0, 1, 2] rfl (ih (d + 1) (by omega))
          · cases h17
  refine zx_ic C d_Rch_beginDeeds_0 ?_
  refine zx_istore C d_Rch_beginDeeds_1 (by decide) (lv1 := [(2, _), (0, _), (1, _)]) rfl ?_
  have k1 := lp 5 0 (by omega)
  rw [bG_0, urL_self] at k1
  exact zx_lv [0, 1, 2] rfl k1
set_option maxHeartbeats 600000 in
set_option maxRecDepth 20000 in
theorem c_Rch_everyWorld (G : ZG) (ad : Nat → Nat) (I : Nat → Int32) (L : Nat → Int64) (g z : Option Nat) (QH QD : Nat → Option Nat) (RI : Nat → Nat → Int32) (RL : Nat → Nat → Int64) (X : va_W) : ZM G y_Rch_everyWorld b_Rch_everyWorld 4 (some .long) r_Rch_everyWorld [.ref (ad 17)] (cw G ad I L g z QH QD RI RL ++ X) (zdl (orN (L 2) (RL 2) 50) (cw G ad I L g z QH QD RI RL ++ X)) := by
  refine ZM.of "SameTuesday$Reach" "everyWorld" rfl rfl (by decide) (Nat.le_of_ble_eq_true rfl) (fun Y C hq => ?_)
  change ZV G Y 0 0 0 [(0, .ref (ad 17))] [] (cw G ad I L g z QH QD RI RL ++ X)
  have lp : ∀ c q, q + c = 50 → ZV G Y 0 0 7 [(0, .ref (ad 17)), (1, .long (orN (L 2) (RL 2) q)), (3, .int (nI q))] [] (cw G ad I L g z QH QD RI RL ++ X) := by
    intro c
    induction c with
    | zero =>
      intro q hc
      obtain rfl : q = 50 := by omega
      refine zx_iload C d_Rch_everyWorld_7 rfl ?_
      refine zx_aload C d_Rch_everyWorld_8 rfl ?_
      refine zx_get C f_Rch_19_6 d_Rch_everyWorld_9 17 zcw_17 rfl ?_
      refine zx_alen C d_Rch_everyWorld_12 19 zcw_19 rfl ?_
      refine zx_ic_ge C d_Rch_everyWorld_13 (fun h13 => ?_) (fun h13 => ?_)
      · refine zx_lload C d_Rch_everyWorld_31 rfl ?_
        exact zx_lret C hq d_Rch_everyWorld_32 (⟨rfl, rfl⟩)
      · exact absurd (Int32.le_refl _) h13
    | succ c ih =>
      intro q hc
      refine zx_iload C d_Rch_everyWorld_7 rfl ?_
      refine zx_aload C d_Rch_everyWorld_8 rfl ?_
      refine zx_get C f_Rch_19_6 d_Rch_everyWorld_9 17 zcw_17 rfl ?_
      refine zx_alen C d_Rch_everyWorld_12 19 zcw_19 rfl ?_
      refine zx_ic_ge C d_Rch_everyWorld_13 (fun h13 => ?_) (fun h13 => ?_)
      · exact absurd h13 (by show ¬ nI 50 ≤ _; exact nI_ge (by omega) (by omega))
      · refine zx_lload C d_Rch_everyWorld_16 rfl ?_
        refine zx_aload C d_Rch_everyWorld_17 rfl ?_
        refine zx_get C f_Rch_19_6 d_Rch_everyWorld_18 17 zcw_17 rfl ?_
        refine zx_iload C d_Rch_everyWorld_21 rfl ?_
        refine zx_lald C d_Rch_everyWorld_22 19 zcw_19 q rfl (by omega) (by decide) ?_
        refine zx_lor C d_Rch_everyWorld_23 ?_
        refine zx_lstore C d_Rch_everyWorld_24 (by decide) (lv1 := [(1, _), (0, _), (3, _)]) rfl ?_
        refine zx_iinc C d_Rch_everyWorld_25 (by decide) rfl (lv1 := [(3, _), (1, _), (0, _)]) rfl ?_
        refine zx_goto C d_Rch_everyWorld_28 ?_
        rw [show (1 : Int32) = nI 1 from rfl, nI_add]
        exact zx_lv [0, 1, 3] rfl (ih (q + 1) (by omega))
  refine zx_aload C d_Rch_everyWorld_0 rfl ?_
  refine zx_get C f_Rch_22_6 d_Rch_everyWorld_1 17 zcw_17 rfl ?_
  refine zx_lstore C d_Rch_everyWorld_4 (by decide) (lv1 := [(1, _), (0, _)]) rfl ?_
  refine zx_ic C d_Rch_everyWorld_5 ?_
  refine zx_istore C d_Rch_everyWorld_6 (by decide) (lv1 := [(3, _), (1, _), (0, _)]) rfl ?_
  exact zx_lv [0, 1, 3] rfl (lp 50 0 (by omega))
