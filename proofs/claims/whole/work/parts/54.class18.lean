def ednd (T : ZT) (m s till : Nat) (gd : Option Nat) : Nat × Option Nat := match gd with
  | none => (s, none)
  | some d => if till = m then (den T d s, none) else (s, some d)
set_option maxHeartbeats 600000 in
set_option maxRecDepth 20000 in
theorem c_Life_endDeeds (G : ZG) (ad : Nat → Nat) (I : Nat → Int32) (L : Nat → Int64) (QH QD : Nat → Option Nat) (RI : Nat → Nat → Int32) (RL : Nat → Nat → Int64) (X : va_W) (T : ZT) (hA dA : Nat → Nat) (ht : tok T) (gd zd : Option Nat) (s till ot m : Nat) (hs : s < 64) (hm : m < 60) (htl : till ≤ 70) (hot : ot ≤ 70) (h13 : ∀ d, gd = some d → I 13 = nI till) (h16 : ∀ d, zd = some d → I 16 = nI ot) (hgd : ∀ d, gd = some d → d < T.2.1) (hzd : ∀ d, zd = some d → d < T.2.1) : ZM G y_Life_endDeeds b_Life_endDeeds 2 none r_Life_endDeeds [.ref (ad 13), .int (nI m)] (cw G ad I (vp_updL L 1 (one s)) (gd.map dA) (zd.map dA) QH QD RI RL ++ pw hA dA T X) (zdv (cw G ad I (vp_updL L 1 (one (doth T (zd.map fun d => (ot, d)) m (ednd T m s till gd).1))) ((ednd T m s till gd).2.map dA) (zd.map dA) QH QD RI RL ++ pw hA dA T X)) := by
  refine ZM.of "SameTuesday$Life" "endDeeds" rfl rfl (by decide) (Nat.le_of_ble_eq_true rfl) (fun Y C hq => ?_)
  change ZV G Y 0 0 0 [(0, .ref (ad 13)), (1, .int (nI m))] [] (cw G ad I (vp_updL L 1 (one s)) (gd.map dA) (zd.map dA) QH QD RI RL ++ pw hA dA T X)
  have s35 : ∀ (f : Nat) (b : Option Nat), f < 64 → ednd T m s till gd = (f, b) → ZV G Y 0 0 35 [(0, .ref (ad 13)), (1, .int (nI m))] [] (cw G ad I (vp_updL L 1 (one f)) (b.map dA) (zd.map dA) QH QD RI RL ++ pw hA dA T X) := by
    intro f b hf he
    rw [he] at hq
    cases zd with
    | none =>
      refine zx_aload C d_Life_endDeeds_35 rfl ?_
      refine zx_get C f_Life_47_4 d_Life_endDeeds_36 13 zcw_13 rfl ?_
      refine zx_ifnull C d_Life_endDeeds_39 (fun h39 => ?_) (fun a39 h39 => ?_)
      · exact zx_vret C hq d_Life_endDeeds_65 (⟨rfl, rfl⟩)
      · cases h39
    | some d =>
      have hd := hzd d rfl
      refine zx_aload C d_Life_endDeeds_35 rfl ?_
      refine zx_get C f_Life_47_4 d_Life_endDeeds_36 13 zcw_13 rfl ?_
      refine zx_ifnull C d_Life_endDeeds_39 (fun h39 => ?_) (fun a39 h39 => ?_)
      · cases h39
      · refine zx_aload C d_Life_endDeeds_42 rfl ?_
        refine zx_get C f_Life_50_4 d_Life_endDeeds_43 13 zcw_13 rfl ?_
        refine zx_iload C d_Life_endDeeds_46 rfl ?_
        refine zx_ic_ne C d_Life_endDeeds_47 (fun h47 => ?_) (fun h47 => ?_)
        · have e2 : ¬ ot = m := fun z => h47 (by rw [h16 d rfl, z])
          have ev : doth T (some (ot, d)) m f = f := if_neg e2
          exact zx_vret C hq d_Life_endDeeds_65 (⟨rfl, by show _ = cw G ad I (vp_updL L 1 (one (doth T (some (ot, d)) m f))) _ _ _ _ _ _ ++ _; rw [ev]⟩)
        · have e2 : ot = m := (nI_eqz (by omega) (by omega)).mp (by rw [← h16 d rfl]; first | exact h47 | exact Classical.byContradiction h47)
          have ev : doth T (some (ot, d)) m f = den T d f := if_pos e2
          refine zx_aload C d_Life_endDeeds_50 rfl ?_
          refine zx_aload C d_Life_endDeeds_51 rfl ?_
          refine zx_get C f_Life_47_4 d_Life_endDeeds_52 13 zcw_13 rfl ?_
          refine zx_aload C d_Life_endDeeds_55 rfl ?_
          refine zx_get C f_Life_30_4 d_Life_endDeeds_56 13 zcw_13 rfl ?_
          refine zr_dl (zr_V C l_Life_98 d_Life_endDeeds_59 (As := [_]) rfl rfl (Nat.le_of_ble_eq_true rfl) (c_Deed_after G _ _ _ _ _ _ _ _ _ _ T hA dA d hd (ht.2.2.2.2 d hd).2.1 (ht.2.2.2.2 d hd).2.2.1 _) (23 + (T.1 + d)) (zcw_de hd) rfl ⟨Nat.le_of_ble_eq_true rfl, Nat.le_of_ble_eq_true rfl, Nat.le_of_ble_eq_true rfl, Nat.le_of_ble_eq_true rfl⟩) ?_
          rw [show vp_updL L 1 (one f) 1 = one f from if_pos rfl, afD_den ht hd hf]
          refine zx_put C p_Life_30_4 d_Life_endDeeds_62 13 zcw_13 zb_fit_l (Nat.le_of_ble_eq_true rfl) zcs_13_5 ?_
          rw [vu_self]
          exact zx_vret C hq d_Life_endDeeds_65 (⟨rfl, by show _ = cw G ad I (vp_updL L 1 (one (doth T (some (ot, d)) m f))) _ _ _ _ _ _ ++ _; rw [ev]⟩)
  cases gd with
  | none =>
    refine zx_aload C d_Life_endDeeds_0 rfl ?_
    refine zx_get C f_Life_34_4 d_Life_endDeeds_1 13 zcw_13 rfl ?_
    refine zx_ifnull C d_Life_endDeeds_4 (fun h4 => ?_) (fun a4 h4 => ?_)
    · exact s35 s none hs rfl
    · cases h4
  | some d =>
    have hd := hgd d rfl
    refine zx_aload C d_Life_endDeeds_0 rfl ?_
    refine zx_get C f_Life_34_4 d_Life_endDeeds_1 13 zcw_13 rfl ?_
    refine zx_ifnull C d_Life_endDeeds_4 (fun h4 => ?_) (fun a4 h4 => ?_)
    · cases h4
    · refine zx_aload C d_Life_endDeeds_7 rfl ?_
      refine zx_get C f_Life_38_4 d_Life_endDeeds_8 13 zcw_13 rfl ?_
      refine zx_iload C d_Life_endDeeds_11 rfl ?_
      refine zx_ic_ne C d_Life_endDeeds_12 (fun h12 => ?_) (fun h12 => ?_)
      · have e2 : ¬ till = m := fun z => h12 (by rw [h13 d rfl, z])
        exact s35 s (some d) hs (if_neg e2)
      · have e2 : till = m := (nI_eqz (by omega) (by omega)).mp (by rw [← h13 d rfl]; first | exact h12 | exact Classical.byContradiction h12)
        refine zx_aload C d_Life_endDeeds_15 rfl ?_
        refine zx_aload C d_Life_endDeeds_16 rfl ?_
        refine zx_get C f_Life_34_4 d_Life_endDeeds_17 13 zcw_13 rfl ?_
        refine zx_aload C d_Life_endDeeds_20 rfl ?_
        refine zx_get C f_Life_30_4 d_Life_endDeeds_21 13 zcw_13 rfl ?_
        refine zr_dl (zr_V C l_Life_98 d_Life_endDeeds_24 (As := [_]) rfl rfl (Nat.le_of_ble_eq_true rfl) (c_Deed_after G _ _ _ _ _ _ _ _ _ _ T hA dA d hd (ht.2.2.2.2 d hd).2.1 (ht.2.2.2.2 d hd).2.2.1 _) (23 + (T.1 + d)) (zcw_de hd) rfl ⟨Nat.le_of_ble_eq_true rfl, Nat.le_of_ble_eq_true rfl, Nat.le_of_ble_eq_true rfl, Nat.le_of_ble_eq_true rfl⟩) ?_
        rw [show vp_updL L 1 (one s) 1 = one s from if_pos rfl, afD_den ht hd hs]
        refine zx_put C p_Life_30_4 d_Life_endDeeds_27 13 zcw_13 zb_fit_l (Nat.le_of_ble_eq_true rfl) zcs_13_5 ?_
        rw [vu_self]
        refine zx_aload C d_Life_endDeeds_30 rfl ?_
        refine zx_null C d_Life_endDeeds_31 ?_
        refine zx_put C p_Life_34_4 d_Life_endDeeds_32 13 zcw_13 zb_fit_n (Nat.le_of_ble_eq_true rfl) zcs_13_6N ?_
        exact s35 (den T d s) none (den_64 ht hd hs) (if_pos e2)
