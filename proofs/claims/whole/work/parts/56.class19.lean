set_option maxHeartbeats 600000 in
set_option maxRecDepth 20000 in
theorem c_Life_beginPairs (G : ZG) (ad : Nat → Nat) (I : Nat → Int32) (L : Nat → Int64) (z : Option Nat) (QH QD : Nat → Option Nat) (RI : Nat → Nat → Int32) (RL : Nat → Nat → Int64) (X : va_W) (T : ZT) (hA dA : Nat → Nat) (ht : tok T) (hQD : ∀ j, j < T.2.1 → QD j = some (dA j)) (P : ZP) (hp : cprow T P I RI) (h10 : I 10 = nI T.2.1) (h11 : I 11 = nI T.2.2.1) (f : Nat) (hf : f < 64) (gd : Option Nat) (v0 : Int32) (m : Nat) (hm : m < 60) (till : Nat) (r : Nat → Bool) (hr : ∀ k, npx P m ≤ k → r k = false) (hv : ∀ d, gd = some d → v0 = nI till) : ZM G y_Life_beginPairs b_Life_beginPairs 3 none r_Life_beginPairs [.ref (ad 13), .int (nI m)] (cw G ad (li I v0 (npx P m) (ffw r (npx P m) 0)) (vp_updL L 1 (one f)) (gd.map dA) z QH QD RI RL ++ pw hA dA T X) (zpv (fun w => ∃ v : Int32, (∀ d, (dbeg T P m f gd till r).2.1 = some d → v = nI (dbeg T P m f gd till r).2.2.1) ∧ w = (cw G ad (li I v (npx P (m + 1)) (ffw (dbeg T P m f gd till r).2.2.2 (npx P (m + 1)) 0)) (vp_updL L 1 (one f)) ((dbeg T P m f gd till r).2.1.map dA) z QH QD RI RL ++ pw hA dA T X))) := by
  refine ZM.of "SameTuesday$Life" "beginPairs" rfl rfl (by decide) (Nat.le_of_ble_eq_true rfl) (fun Y C hq => ?_)
  change ZV G Y 0 0 0 [(0, .ref (ad 13)), (1, .int (nI m))] [] (cw G ad (li I v0 (npx P m) (ffw r (npx P m) 0)) (vp_updL L 1 (one f)) (gd.map dA) z QH QD RI RL ++ pw hA dA T X)
  have lp : ∀ (r1 : Nat → Bool) (g : Option Nat) (v : Int32), (∃ v2 : Int32, (∀ d, (dbeg T P m f gd till r).2.1 = some d → v2 = nI (dbeg T P m f gd till r).2.2.1) ∧ (cw G ad (li I v (npx P (m + 1)) (ffw r1 (npx P (m + 1)) 0)) (vp_updL L 1 (one f)) g z QH QD RI RL ++ pw hA dA T X) = (cw G ad (li I v2 (npx P (m + 1)) (ffw (dbeg T P m f gd till r).2.2.2 (npx P (m + 1)) 0)) (vp_updL L 1 (one f)) ((dbeg T P m f gd till r).2.1.map dA) z QH QD RI RL ++ pw hA dA T X)) → ∀ c j, j + c = P.1 → fst_ P (m + 1) c j = npx P (m + 1) → (∀ k, j ≤ k → r1 k = false) → ZV G Y 0 0 2 [(0, .ref (ad 13)), (1, .int (nI m)), (2, .int 1)] [] (cw G ad (li I v (j) (ffw r1 (j) 0)) (vp_updL L 1 (one f)) g z QH QD RI RL ++ pw hA dA T X) := by
    intro r1 g v hend c
    induction c with
    | zero =>
      intro j hc hj hr
      obtain rfl : j = P.1 := by omega
      obtain hj : P.1 = npx P (m + 1) := hj
      refine zx_aload C d_Life_beginPairs_2 rfl ?_
      refine zx_get C f_Life_41_4 d_Life_beginPairs_3 13 zcw_13 rfl ?_
      refine zx_aload C d_Life_beginPairs_6 rfl ?_
      refine zx_get C f_Life_22_4 d_Life_beginPairs_7 13 zcw_13 rfl ?_
      refine zx_ic_ge C d_Life_beginPairs_10 (fun h10 => ?_) (fun h10 => ?_)
      · exact zx_vret C hq d_Life_beginPairs_68 (⟨rfl, by rw [← hj] at hend; rw [← hj]; exact hend⟩)
      · exact absurd (by show I 12 ≤ _; rw [hp.2.1]; exact Int32.le_refl _) h10
    | succ c ih =>
      intro j hc hj hr
      have hjP : j < P.1 := by omega
      have h20 := hp.1
      have e0 := hr j (Nat.le_refl _)
      have hm5 := (hp.2.2 j hjP).2.1
      refine zx_aload C d_Life_beginPairs_2 rfl ?_
      refine zx_get C f_Life_41_4 d_Life_beginPairs_3 13 zcw_13 rfl ?_
      refine zx_aload C d_Life_beginPairs_6 rfl ?_
      refine zx_get C f_Life_22_4 d_Life_beginPairs_7 13 zcw_13 rfl ?_
      refine zx_ic_ge C d_Life_beginPairs_10 (fun h10 => ?_) (fun h10 => ?_)
      · exact absurd h10 (by show ¬ I 12 ≤ _; rw [hp.2.1]; exact nI_ge (by omega) (by omega))
      · refine zx_aload C d_Life_beginPairs_13 rfl ?_
        refine zx_aload C d_Life_beginPairs_14 rfl ?_
        refine zx_get C f_Life_41_4 d_Life_beginPairs_15 13 zcw_13 rfl ?_
        refine zr_di (zr_V C l_Life_104 d_Life_beginPairs_18 (As := [_]) rfl rfl (Nat.le_of_ble_eq_true rfl) (c_Life_minuteOfPair G _ _ _ _ _ _ _ _ _ _ (j) (by omega)) 13 zcw_13 rfl ⟨Nat.le_of_ble_eq_true rfl, Nat.le_of_ble_eq_true rfl, Nat.le_of_ble_eq_true rfl, Nat.le_of_ble_eq_true rfl⟩) ?_
        rw [(hp.2.2 (j) hjP).1]
        refine zx_iload C d_Life_beginPairs_21 rfl ?_
        refine zx_ic_gt C d_Life_beginPairs_22 (fun h22 => ?_) (fun h22 => ?_)
        · have h22 : m < P.2.1 j := (nI_ltI (by omega) (by omega)).mp h22
          have hj : j = npx P (m + 1) := (show fst_ P (m + 1) (c + 1) j = j from if_neg (by omega)).symm.trans hj
          exact zx_vret C hq d_Life_beginPairs_68 (⟨rfl, by rw [← hj] at hend; rw [← hj]; exact hend⟩)
        · have h22 : ¬ m < P.2.1 j := fun y => h22 ((nI_ltI (by omega) (by omega)).mpr y)
          have hj : fst_ P (m + 1) c (j + 1) = npx P (m + 1) := (show fst_ P (m + 1) (c + 1) j = _ from if_pos (by omega)).symm.trans hj
          refine zx_iload C d_Life_beginPairs_25 rfl ?_
          refine zx_if_ne C d_Life_beginPairs_26 (fun h26 => ?_) (fun h26 => ?_)
          · refine zx_aload C d_Life_beginPairs_45 rfl ?_
            refine zx_aload C d_Life_beginPairs_46 rfl ?_
            refine zx_get C f_Life_41_4 d_Life_beginPairs_47 13 zcw_13 rfl ?_
            refine zr_dv (zr_V C l_Life_89 d_Life_beginPairs_50 (As := [_]) rfl rfl (Nat.le_of_ble_eq_true rfl) (c_Life_noteWrong G _ _ _ _ _ _ _ _ _ _ _) 13 zcw_13 rfl ⟨Nat.le_of_ble_eq_true rfl, Nat.le_of_ble_eq_true rfl, Nat.le_of_ble_eq_true rfl, Nat.le_of_ble_eq_true rfl⟩) ?_
            refine zx_eq rfl rfl (w1 := (cw G ad (li I v (j) (ffw r1 (j + 1) 0)) (vp_updL L 1 (one f)) g z QH QD RI RL ++ pw hA dA T X)) (congrArg (fun I => cw G ad I (vp_updL L 1 (one f)) _ z QH QD RI RL ++ pw hA dA T X) (li_nw (by omega) e0)) ?_
            refine zx_ic C d_Life_beginPairs_53 ?_
            refine zx_istore C d_Life_beginPairs_54 (by decide) (lv1 := [(2, _), (0, _), (1, _)]) rfl ?_
            refine zx_aload C d_Life_beginPairs_55 rfl ?_
            refine zx_dup C rfl d_Life_beginPairs_56 ?_
            refine zx_get C f_Life_41_4 d_Life_beginPairs_57 13 zcw_13 rfl ?_
            refine zx_ic C d_Life_beginPairs_60 ?_
            refine zx_iadd C d_Life_beginPairs_61 ?_
            refine zx_put C p_Life_41_4 d_Life_beginPairs_62 13 zcw_13 zb_fit_i (Nat.le_of_ble_eq_true rfl) zcs_13_8 ?_
            refine zx_eq rfl rfl (w1 := (cw G ad (li I v (j + 1) (ffw r1 (j + 1) 0)) (vp_updL L 1 (one f)) g z QH QD RI RL ++ pw hA dA T X)) (congrArg (fun I => cw G ad I (vp_updL L 1 (one f)) _ z QH QD RI RL ++ pw hA dA T X) (li_14 I v (j) _)) ?_
            refine zx_goto C d_Life_beginPairs_65 ?_
            exact zx_lv [0, 1, 2] rfl (ih (j + 1) (by omega) hj (fun k hk => hr k (by omega)))
          · exact absurd h26 (by decide)
  have hJ := npx_le (P := P) (m := m)
  have h20 := hp.1
  have h5 := ht.2.1
  have e0 := hr (npx P m) (Nat.le_refl _)
  refine zx_ic C d_Life_beginPairs_0 ?_
  refine zx_istore C d_Life_beginPairs_1 (by decide) (lv1 := [(2, _), (0, _), (1, _)]) rfl ?_
  refine zx_lv [0, 1, 2] rfl ?_
  refine zx_aload C d_Life_beginPairs_2 rfl ?_
  refine zx_get C f_Life_41_4 d_Life_beginPairs_3 13 zcw_13 rfl ?_
  refine zx_aload C d_Life_beginPairs_6 rfl ?_
  refine zx_get C f_Life_22_4 d_Life_beginPairs_7 13 zcw_13 rfl ?_
  refine zx_ic_ge C d_Life_beginPairs_10 (fun g10 => ?_) (fun g10 => ?_)
  · have e1 : npx P m = P.1 := by
      have y : P.1 ≤ npx P m := (nI_leI (by omega) (by omega)).mp (by rw [← hp.2.1]; exact g10)
      omega
    have e2 := (np_end e1).trans e1.symm
    have ev : (dbeg T P m f gd till r) = (f, gd, till, r) := dbeg_no (pin_no1 e1)
    exact zx_vret C hq d_Life_beginPairs_68 (⟨rfl, v0, by rw [ev]; exact hv, by rw [ev, e2]⟩)
  · have hjP : npx P m < P.1 := Classical.byContradiction fun y => g10 (by show I 12 ≤ _; rw [hp.2.1]; exact (nI_leI (by omega) (by omega)).mpr (by omega))
    have hd := (hp.2.2 (npx P m) hjP).2.2.2
    have hm5 := (hp.2.2 (npx P m) hjP).2.1
    have hst := npx_stop hjP
    refine zx_aload C d_Life_beginPairs_13 rfl ?_
    refine zx_aload C d_Life_beginPairs_14 rfl ?_
    refine zx_get C f_Life_41_4 d_Life_beginPairs_15 13 zcw_13 rfl ?_
    refine zr_di (zr_V C l_Life_104 d_Life_beginPairs_18 (As := [_]) rfl rfl (Nat.le_of_ble_eq_true rfl) (c_Life_minuteOfPair G _ _ _ _ _ _ _ _ _ _ (npx P m) (by omega)) 13 zcw_13 rfl ⟨Nat.le_of_ble_eq_true rfl, Nat.le_of_ble_eq_true rfl, Nat.le_of_ble_eq_true rfl, Nat.le_of_ble_eq_true rfl⟩) ?_
    rw [(hp.2.2 (npx P m) hjP).1]
    refine zx_iload C d_Life_beginPairs_21 rfl ?_
    refine zx_ic_gt C d_Life_beginPairs_22 (fun g22 => ?_) (fun g22 => ?_)
    · have g22 : m < P.2.1 (npx P m) := (nI_ltI (by omega) (by omega)).mp g22
      have e2 := np_stay hjP g22
      have ev : (dbeg T P m f gd till r) = (f, gd, till, r) := dbeg_no (pin_no2 g22)
      exact zx_vret C hq d_Life_beginPairs_68 (⟨rfl, v0, by rw [ev]; exact hv, by rw [ev, e2]⟩)
    · have g22 : P.2.1 (npx P m) = m := by
        have : ¬ m < P.2.1 (npx P m) := fun y => g22 ((nI_ltI (by omega) (by omega)).mpr y)
        omega
      have e2 := np_at hjP g22
      have epin := pin_yes hjP g22
      refine zx_iload C d_Life_beginPairs_25 rfl ?_
      refine zx_if_ne C d_Life_beginPairs_26 (fun h26 => ?_) (fun h26 => ?_)
      · exact absurd rfl h26
      · refine zx_aload C d_Life_beginPairs_29 rfl ?_
        refine zx_aload C d_Life_beginPairs_30 rfl ?_
        refine zx_aload C d_Life_beginPairs_31 rfl ?_
        refine zx_get C f_Life_41_4 d_Life_beginPairs_32 13 zcw_13 rfl ?_
        refine zr_dq (zr_V C l_Life_107 d_Life_beginPairs_35 (As := [_]) rfl rfl (Nat.le_of_ble_eq_true rfl) (c_Life_deedOfPair G _ _ _ _ _ _ _ _ _ _ T.2.1 (by exact h10) ht.2.1 (npx P m) (by omega)) 13 zcw_13 rfl ⟨Nat.le_of_ble_eq_true rfl, Nat.le_of_ble_eq_true rfl, Nat.le_of_ble_eq_true rfl, Nat.le_of_ble_eq_true rfl⟩) ?_
        rw [(hp.2.2 (npx P m) hjP).2.2.1, qof_at hd (by omega), hQD _ hd]
        refine zx_iload C d_Life_beginPairs_38 rfl ?_
        refine zr_di (zr_V C l_Life_110 d_Life_beginPairs_39 (As := [_, _]) rfl rfl (Nat.le_of_ble_eq_true rfl) (c_Life_begin G ad (li I v0 (npx P m) (ffw r (npx P m) 0)) (vp_updL L 1 (one f)) (gd.map dA) z QH QD RI RL X T hA dA (P.2.2 (npx P m)) hd ht (by exact h11) f hf (by exact rfl) m hm) 13 zcw_13 rfl ⟨Nat.le_of_ble_eq_true rfl, Nat.le_of_ble_eq_true rfl, Nat.le_of_ble_eq_true rfl, Nat.le_of_ble_eq_true rfl⟩) ?_
        refine zx_ifB_ne C d_Life_beginPairs_42 (fun g42 => ?_) (fun g42 => ?_)
        · rw [if_pos g42]
          have hgn : gd = none := by
            cases gd with
            | none => rfl
            | some d => exact absurd g42.1 (by simp)
          have ev : (dbeg T P m f gd till r) = (f, some (P.2.2 (npx P m)), m + tq T 7 (P.2.2 (npx P m)), rset r (npx P m)) := by rw [hgn]; exact dbeg_yes epin g42.2
          refine zx_eq rfl rfl (w1 := (cw G ad (li I (nI (m + tq T 7 (P.2.2 (npx P m)))) (npx P m) (ffw (rset r (npx P m)) (npx P m + 1) 0)) (vp_updL L 1 (one f)) (some (dA (P.2.2 (npx P m)))) z QH QD RI RL ++ pw hA dA T X)) (congrArg (fun I => cw G ad I (vp_updL L 1 (one f)) _ z QH QD RI RL ++ pw hA dA T X) ((li_13 I v0 _ _ _).trans (by rw [ffw_good (by omega)]))) ?_
          refine zx_ic C d_Life_beginPairs_53 ?_
          refine zx_istore C d_Life_beginPairs_54 (by decide) (lv1 := [(2, _), (0, _), (1, _)]) rfl ?_
          refine zx_aload C d_Life_beginPairs_55 rfl ?_
          refine zx_dup C rfl d_Life_beginPairs_56 ?_
          refine zx_get C f_Life_41_4 d_Life_beginPairs_57 13 zcw_13 rfl ?_
          refine zx_ic C d_Life_beginPairs_60 ?_
          refine zx_iadd C d_Life_beginPairs_61 ?_
          refine zx_put C p_Life_41_4 d_Life_beginPairs_62 13 zcw_13 zb_fit_i (Nat.le_of_ble_eq_true rfl) zcs_13_8 ?_
          refine zx_eq rfl rfl (w1 := (cw G ad (li I (nI (m + tq T 7 (P.2.2 (npx P m)))) (npx P m + 1) (ffw (rset r (npx P m)) (npx P m + 1) 0)) (vp_updL L 1 (one f)) (some (dA (P.2.2 (npx P m)))) z QH QD RI RL ++ pw hA dA T X)) (congrArg (fun I => cw G ad I (vp_updL L 1 (one f)) _ z QH QD RI RL ++ pw hA dA T X) (li_14 I (nI (m + tq T 7 (P.2.2 (npx P m)))) (npx P m) _)) ?_
          refine zx_goto C d_Life_beginPairs_65 ?_
          exact zx_lv [0, 1, 2] rfl (lp (rset r (npx P m)) (some (dA (P.2.2 (npx P m)))) (nI (m + tq T 7 (P.2.2 (npx P m)))) ⟨_, by rw [ev]; exact fun d hd => rfl, by rw [ev]; rfl⟩ (P.1 - (npx P m + 1)) (npx P m + 1) (by omega) e2 (fun k hk => (if_neg (by omega)).trans (hr k (by omega))))
        · rw [if_neg g42]
          have ev : (dbeg T P m f gd till r) = (f, gd, till, r) := dbeg_not epin (fun y => g42 ⟨by rw [y.1]; rfl, y.2⟩)
          refine zx_aload C d_Life_beginPairs_45 rfl ?_
          refine zx_aload C d_Life_beginPairs_46 rfl ?_
          refine zx_get C f_Life_41_4 d_Life_beginPairs_47 13 zcw_13 rfl ?_
          refine zr_dv (zr_V C l_Life_89 d_Life_beginPairs_50 (As := [_]) rfl rfl (Nat.le_of_ble_eq_true rfl) (c_Life_noteWrong G _ _ _ _ _ _ _ _ _ _ _) 13 zcw_13 rfl ⟨Nat.le_of_ble_eq_true rfl, Nat.le_of_ble_eq_true rfl, Nat.le_of_ble_eq_true rfl, Nat.le_of_ble_eq_true rfl⟩) ?_
          refine zx_eq rfl rfl (w1 := (cw G ad (li I v0 (npx P m) (ffw r (npx P m + 1) 0)) (vp_updL L 1 (one f)) (gd.map dA) z QH QD RI RL ++ pw hA dA T X)) (congrArg (fun I => cw G ad I (vp_updL L 1 (one f)) _ z QH QD RI RL ++ pw hA dA T X) (li_nw (by omega) e0)) ?_
          refine zx_ic C d_Life_beginPairs_53 ?_
          refine zx_istore C d_Life_beginPairs_54 (by decide) (lv1 := [(2, _), (0, _), (1, _)]) rfl ?_
          refine zx_aload C d_Life_beginPairs_55 rfl ?_
          refine zx_dup C rfl d_Life_beginPairs_56 ?_
          refine zx_get C f_Life_41_4 d_Life_beginPairs_57 13 zcw_13 rfl ?_
          refine zx_ic C d_Life_beginPairs_60 ?_
          refine zx_iadd C d_Life_beginPairs_61 ?_
          refine zx_put C p_Life_41_4 d_Life_beginPairs_62 13 zcw_13 zb_fit_i (Nat.le_of_ble_eq_true rfl) zcs_13_8 ?_
          refine zx_eq rfl rfl (w1 := (cw G ad (li I v0 (npx P m + 1) (ffw r (npx P m + 1) 0)) (vp_updL L 1 (one f)) (gd.map dA) z QH QD RI RL ++ pw hA dA T X)) (congrArg (fun I => cw G ad I (vp_updL L 1 (one f)) _ z QH QD RI RL ++ pw hA dA T X) (li_14 I v0 (npx P m) _)) ?_
          refine zx_goto C d_Life_beginPairs_65 ?_
          exact zx_lv [0, 1, 2] rfl (lp r (gd.map dA) v0 ⟨_, by rw [ev]; exact hv, by rw [ev]⟩ (P.1 - (npx P m + 1)) (npx P m + 1) (by omega) e2 (fun k hk => hr k (by omega)))
