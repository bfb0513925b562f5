set_option maxHeartbeats 600000 in
set_option maxRecDepth 20000 in
theorem c_Tue_sheetOf (G : ZG) (ad : Nat → Nat) (I : Nat → Int32) (L : Nat → Int64) (g z : Option Nat) (QH QD : Nat → Option Nat) (RI : Nat → Nat → Int32) (RL : Nat → Nat → Int64) (X : va_W) (k : Int32) : ZM G y_Tue_sheetOf b_Tue_sheetOf 2 (some (.object "SameTuesday$Sheet")) r_Tue_sheetOf [.ref (ad 0), .int k] (cw G ad I L g z QH QD RI RL ++ X) (zdq (shq ad k) (cw G ad I L g z QH QD RI RL ++ X)) := by
  refine ZM.of "SameTuesday" "sheetOf" rfl rfl (by decide) (Nat.le_of_ble_eq_true rfl) (fun Y C hq => ?_)
  change ZV G Y 0 0 0 [(0, .ref (ad 0)), (1, .int k)] [] (cw G ad I L g z QH QD RI RL ++ X)
  refine zx_iload C d_Tue_sheetOf_0 rfl ?_
  refine zx_if_lt C d_Tue_sheetOf_1 (fun h1 => ?_) (fun h1 => ?_)
  · have e1 : shq ad k = none := if_neg (fun z => z.1 h1)
    refine zx_null C d_Tue_sheetOf_22 ?_
    exact zx_aret C hq (r := none) d_Tue_sheetOf_23 (⟨by rw [e1]; try rfl, rfl⟩)
  · refine zx_iload C d_Tue_sheetOf_4 rfl ?_
    refine zx_aload C d_Tue_sheetOf_5 rfl ?_
    refine zx_get C f_Tue_13_11 d_Tue_sheetOf_6 0 zcw_0 rfl ?_
    refine zx_alen C d_Tue_sheetOf_9 1 zcw_1 rfl ?_
    refine zx_ic_ge C d_Tue_sheetOf_10 (fun h10 => ?_) (fun h10 => ?_)
    · have e1 : shq ad k = none := if_neg (fun z => z.2 (le_s3.mp h10))
      refine zx_null C d_Tue_sheetOf_22 ?_
      exact zx_aret C hq (r := none) d_Tue_sheetOf_23 (⟨by rw [e1]; try rfl, rfl⟩)
    · have h10 : ¬ nI 4 ≤ k := h10
      obtain ⟨j, hj, rfl⟩ := ix_of (n := 4) (by decide) h1 h10
      have e1 : shq ad (nI j) = some (ad (2 + j)) := by rw [shq, if_pos ⟨h1, fun z => h10 (le_s3.mpr z)⟩, nI_cl (by omega)]
      refine zx_aload C d_Tue_sheetOf_13 rfl ?_
      refine zx_get C f_Tue_13_11 d_Tue_sheetOf_14 0 zcw_0 rfl ?_
      refine zx_iload C d_Tue_sheetOf_17 rfl ?_
      refine zx_aald3 C d_Tue_sheetOf_18 1 zcw_1 j rfl (by omega) (by decide) ?_
      refine zx_goto C d_Tue_sheetOf_19 ?_
      exact zx_aret C hq d_Tue_sheetOf_23 (⟨by rw [e1]; try rfl, rfl⟩)
set_option maxHeartbeats 600000 in
set_option maxRecDepth 20000 in
theorem c_Sht_setCell (G : ZG) (ad : Nat → Nat) (I : Nat → Int32) (L : Nat → Int64) (g z : Option Nat) (QH QD : Nat → Option Nat) (RI : Nat → Nat → Int32) (RL : Nat → Nat → Int64) (X : va_W) (k : Nat) (hk : k < 4) (j m : Nat) (hm : I (5 + k) = nI m) (hj : j < m) (h60 : m ≤ 60) (v : Int32) : ZM G y_Sht_setCell b_Sht_setCell 3 none r_Sht_setCell [.ref (ad (2 + k)), .int (nI j), .int v] (cw G ad I L g z QH QD RI RL ++ X) (zdv (cw G ad I L g z QH QD (ur RI k (upd (RI k) j (cutv (I (1 + k)) v))) RL ++ X)) := by
  refine ZM.of "SameTuesday$Sheet" "setCell" rfl rfl (by decide) (Nat.le_of_ble_eq_true rfl) (fun Y C hq => ?_)
  change ZV G Y 0 0 0 [(0, .ref (ad (2 + k))), (1, .int (nI j)), (2, .int v)] [] (cw G ad I L g z QH QD RI RL ++ X)
  refine zx_iload C d_Sht_setCell_0 rfl ?_
  refine zx_if_lt C d_Sht_setCell_1 (fun h1 => ?_) (fun h1 => ?_)
  · exact absurd h1 (nI_nn (by omega))
  · refine zx_iload C d_Sht_setCell_4 rfl ?_
    refine zx_aload C d_Sht_setCell_5 rfl ?_
    refine zx_get C f_Sht_19_7 d_Sht_setCell_6 (2 + k) (zcw_sh hk) rfl ?_
    refine zx_ic_ge C d_Sht_setCell_9 (fun h9 => ?_) (fun h9 => ?_)
    · exact absurd h9 (by show ¬ I (5 + k) ≤ _; rw [hm]; exact nI_ge (by omega) (by omega))
    · refine zx_aload C d_Sht_setCell_12 rfl ?_
      refine zx_get C f_Sht_9_7 d_Sht_setCell_13 (2 + k) (zcw_sh hk) rfl ?_
      refine zx_iload C d_Sht_setCell_16 rfl ?_
      refine zx_aload C d_Sht_setCell_17 rfl ?_
      refine zx_get C f_Sht_15_7 d_Sht_setCell_18 (2 + k) (zcw_sh hk) rfl ?_
      refine zx_if_ne C d_Sht_setCell_21 (fun h21 => ?_) (fun h21 => ?_)
      · have h21 : ¬ I (1 + k) = 0 := h21
        refine zx_aload C d_Sht_setCell_29 rfl ?_
        refine zx_get C f_Sht_15_7 d_Sht_setCell_30 (2 + k) (zcw_sh hk) rfl ?_
        refine zx_ic C d_Sht_setCell_33 ?_
        refine zx_ic_ne C d_Sht_setCell_34 (fun h34 => ?_) (fun h34 => ?_)
        · have e1 : cutv (I (1 + k)) v = v := by rw [cutv, if_neg h21, if_neg h34]
          refine zx_iload C d_Sht_setCell_42 rfl ?_
          refine zx_iast C d_Sht_setCell_43 (6 + k) (zcw_ce hk) j rfl (by omega) (by decide) (zca_ce hk) ?_
          exact zx_vret C hq d_Sht_setCell_44 (⟨rfl, by rw [e1]⟩)
        · have e1 : cutv (I (1 + k)) v = v.toInt16.toInt32 := by rw [cutv, if_neg h21, if_pos h34]
          refine zx_iload C d_Sht_setCell_37 rfl ?_
          refine zx_i2s C d_Sht_setCell_38 ?_
          refine zx_goto C d_Sht_setCell_39 ?_
          refine zx_iast C d_Sht_setCell_43 (6 + k) (zcw_ce hk) j rfl (by omega) (by decide) (zca_ce hk) ?_
          exact zx_vret C hq d_Sht_setCell_44 (⟨rfl, by rw [e1]⟩)
      · have e1 : cutv (I (1 + k)) v = v.toInt8.toInt32 := if_pos h21
        refine zx_iload C d_Sht_setCell_24 rfl ?_
        refine zx_i2b C d_Sht_setCell_25 ?_
        refine zx_goto C d_Sht_setCell_26 ?_
        refine zx_iast C d_Sht_setCell_43 (6 + k) (zcw_ce hk) j rfl (by omega) (by decide) (zca_ce hk) ?_
        exact zx_vret C hq d_Sht_setCell_44 (⟨rfl, by rw [e1]⟩)
set_option maxHeartbeats 600000 in
set_option maxRecDepth 20000 in
theorem c_Sht_takeFrom (G : ZG) (ad : Nat → Nat) (I : Nat → Int32) (L : Nat → Int64) (g z : Option Nat) (QH QD : Nat → Option Nat) (RI : Nat → Nat → Int32) (RL : Nat → Nat → Int64) (X : va_W) (k : Nat) (hk : k < 4) (k2 : Nat) (hk2 : k2 < 4) (x y m s s2 : Nat) (es : I (5 + k) = nI s) (es2 : I (5 + k2) = nI s2) (hs : s ≤ 60) (hs2 : s2 ≤ 60) (h1 : x + m ≤ s2) (h2 : y + m ≤ s) : ZM G y_Sht_takeFrom b_Sht_takeFrom 5 none r_Sht_takeFrom [.ref (ad (2 + k)), .ref (ad (2 + k2)), .int (nI x), .int (nI y), .int (nI m)] (cw G ad I L g z QH QD RI RL ++ X) (zdv (cw G ad I L g z QH QD (ur RI k (va_cpy (RI k2) (RI k) x y m)) RL ++ X)) := by
  refine ZM.of "SameTuesday$Sheet" "takeFrom" rfl rfl (by decide) (Nat.le_of_ble_eq_true rfl) (fun Y C hq => ?_)
  change ZV G Y 0 0 0 [(0, .ref (ad (2 + k))), (1, .ref (ad (2 + k2))), (2, .int (nI x)), (3, .int (nI y)), (4, .int (nI m))] [] (cw G ad I L g z QH QD RI RL ++ X)
  refine zx_aload C d_Sht_takeFrom_0 rfl ?_
  refine zx_iload C d_Sht_takeFrom_1 rfl ?_
  refine zx_iload C d_Sht_takeFrom_2 rfl ?_
  refine zr_di (zr_V C l_Sht_31 d_Sht_takeFrom_4 (As := [_, _]) rfl rfl (Nat.le_of_ble_eq_true rfl) (c_Sht_holds G _ _ _ _ _ _ _ _ _ _ k2 hk2 _ _) (2 + k2) (zcw_sh hk2) rfl ⟨Nat.le_of_ble_eq_true rfl, Nat.le_of_ble_eq_true rfl, Nat.le_of_ble_eq_true rfl, Nat.le_of_ble_eq_true rfl⟩) ?_
  refine zx_ifB_eq C d_Sht_takeFrom_7 (fun h7 => ?_) (fun h7 => ?_)
  · exact absurd (holds_ok es2 hs2 h1) h7
  · refine zx_aload C d_Sht_takeFrom_10 rfl ?_
    refine zx_iload C d_Sht_takeFrom_11 rfl ?_
    refine zx_iload C d_Sht_takeFrom_12 rfl ?_
    refine zr_di (zr_V C l_Sht_31 d_Sht_takeFrom_14 (As := [_, _]) rfl rfl (Nat.le_of_ble_eq_true rfl) (c_Sht_holds G _ _ _ _ _ _ _ _ _ _ k hk _ _) (2 + k) (zcw_sh hk) rfl ⟨Nat.le_of_ble_eq_true rfl, Nat.le_of_ble_eq_true rfl, Nat.le_of_ble_eq_true rfl, Nat.le_of_ble_eq_true rfl⟩) ?_
    refine zx_ifB_eq C d_Sht_takeFrom_17 (fun h17 => ?_) (fun h17 => ?_)
    · exact absurd (holds_ok es hs h2) h17
    · refine zx_aload C d_Sht_takeFrom_20 rfl ?_
      refine zx_get C f_Sht_9_7 d_Sht_takeFrom_21 (2 + k2) (zcw_sh hk2) rfl ?_
      refine zx_iload C d_Sht_takeFrom_24 rfl ?_
      refine zx_aload C d_Sht_takeFrom_25 rfl ?_
      refine zx_get C f_Sht_9_7 d_Sht_takeFrom_26 (2 + k) (zcw_sh hk) rfl ?_
      refine zx_iload C d_Sht_takeFrom_29 rfl ?_
      refine zx_iload C d_Sht_takeFrom_30 rfl ?_
      refine zx_cpyi C l_Sht_35 d_Sht_takeFrom_32 (6 + k2) (6 + k) (zcw_ce hk2) (zcw_ce hk) x y m rfl rfl rfl (by omega) (by omega) (by decide) (by decide) (zca_ce hk) (Nat.le_of_ble_eq_true rfl) (by decide) ?_
      exact zx_vret C hq d_Sht_takeFrom_35 ⟨rfl, rfl⟩
def zro (r : Nat → Int32) (q : Nat) : Nat → Int32 := fun j => if j < q then 0 else r j
theorem zro_s (r : Nat → Int32) (q : Nat) : upd (zro r q) q 0 = zro r (q + 1) := by
  funext j
  by_cases e : j = q
  · subst e; rw [upd_eq]; exact (if_pos (by omega)).symm
  · rw [upd_ne _ _ e]
    by_cases h : j < q
    · exact (if_pos h).trans (if_pos (by omega)).symm
    · exact (if_neg h).trans (if_neg (by omega)).symm
theorem rn_e1 {n : Nat} (hn : n ≤ 60) : (if (0 : Int32) < (if nI 60 < nI n then nI 60 else nI n) then (if nI 60 < nI n then nI 60 else nI n) else 0) = nI n := by
  have h1 : ¬ nI 60 < nI n := fun z => by have := (nI_ltI (a := 60) (b := n) (by omega) (by omega)).mp z; omega
  rw [if_neg h1]
  by_cases z : (0 : Int32) < nI n
  · exact if_pos z
  · rw [if_neg z]
    have : ¬ 0 < n := fun y => z ((nI_ltI (a := 0) (b := n) (by omega) (by omega)).mpr y)
    rw [show n = 0 by omega]
    rfl
set_option maxHeartbeats 600000 in
set_option maxRecDepth 20000 in
theorem c_Sht_renew (G : ZG) (ad : Nat → Nat) (I : Nat → Int32) (L : Nat → Int64) (g z : Option Nat) (QH QD : Nat → Option Nat) (RI : Nat → Nat → Int32) (RL : Nat → Nat → Int64) (X : va_W) (k : Nat) (hk : k < 4) (l : Int32) (n : Nat) (hn : n ≤ 60) : ZM G y_Sht_renew b_Sht_renew 4 none r_Sht_renew [.ref (ad (2 + k)), .int l, .int (nI n)] (cw G ad I L g z QH QD RI RL ++ X) (zdv (cw G ad (upd (upd I (1 + k) l) (5 + k) (nI n)) L g z QH QD (ur RI k (zro (RI k) 60)) RL ++ X)) := by
  refine ZM.of "SameTuesday$Sheet" "renew" rfl rfl (by decide) (Nat.le_of_ble_eq_true rfl) (fun Y C hq => ?_)
  change ZV G Y 0 0 0 [(0, .ref (ad (2 + k))), (1, .int l), (2, .int (nI n))] [] (cw G ad I L g z QH QD RI RL ++ X)
  have lp : ∀ c q, q + c = 60 → ZV G Y 0 0 24 [(0, .ref (ad (2 + k))), (1, .int l), (2, .int (nI n)), (3, .int (nI q))] [] (cw G ad (upd (upd I (1 + k) l) (5 + k) (nI n)) L g z QH QD (ur RI k (zro (RI k) q)) RL ++ X) := by
    intro c
    induction c with
    | zero =>
      intro q hc
      obtain rfl : q = 60 := by omega
      refine zx_iload C d_Sht_renew_24 rfl ?_
      refine zx_aload C d_Sht_renew_25 rfl ?_
      refine zx_get C f_Sht_9_7 d_Sht_renew_26 (2 + k) (zcw_sh hk) rfl ?_
      refine zx_alen C d_Sht_renew_29 (6 + k) (zcw_ce hk) rfl ?_
      refine zx_ic_ge C d_Sht_renew_30 (fun h30 => ?_) (fun h30 => ?_)
      · exact zx_vret C hq d_Sht_renew_46 (⟨rfl, rfl⟩)
      · exact absurd (Int32.le_refl _) h30
    | succ c ih =>
      intro q hc
      refine zx_iload C d_Sht_renew_24 rfl ?_
      refine zx_aload C d_Sht_renew_25 rfl ?_
      refine zx_get C f_Sht_9_7 d_Sht_renew_26 (2 + k) (zcw_sh hk) rfl ?_
      refine zx_alen C d_Sht_renew_29 (6 + k) (zcw_ce hk) rfl ?_
      refine zx_ic_ge C d_Sht_renew_30 (fun h30 => ?_) (fun h30 => ?_)
      · exact absurd h30 (by show ¬ nI 60 ≤ _; exact nI_ge (by omega) (by omega))
      · refine zx_aload C d_Sht_renew_33 rfl ?_
        refine zx_get C f_Sht_9_7 d_Sht_renew_34 (2 + k) (zcw_sh hk) rfl ?_
        refine zx_iload C d_Sht_renew_37 rfl ?_
        refine zx_ic C d_Sht_renew_38 ?_
        refine zx_iast C d_Sht_renew_39 (6 + k) (zcw_ce hk) q rfl (by omega) (by decide) (zca_ce hk) ?_
        rw [show ur (ur RI k (zro (RI k) q)) k (upd (ur RI k (zro (RI k) q) k) q 0) = ur RI k (zro (RI k) (q + 1)) from by rw [ur_ur, ur_eq, zro_s]]
        refine zx_iinc C d_Sht_renew_40 (by decide) rfl (lv1 := [(3, _), (0, _), (1, _), (2, _)]) rfl ?_
        refine zx_goto C d_Sht_renew_43 ?_
        rw [show (1 : Int32) = nI 1 from rfl, nI_add]
        exact zx_lv [0, 1, 2, 3] rfl (ih (q + 1) (by omega))
  have e1 := rn_e1 hn
  refine zx_aload C d_Sht_renew_0 rfl ?_
  refine zx_iload C d_Sht_renew_1 rfl ?_
  refine zx_put C p_Sht_15_7 d_Sht_renew_2 (2 + k) (zcw_sh hk) zb_fit_i (Nat.le_of_ble_eq_true rfl) (zcs_sh_1 hk) ?_
  refine zx_aload C d_Sht_renew_5 rfl ?_
  refine zx_ic C d_Sht_renew_6 ?_
  refine zx_iload C d_Sht_renew_7 rfl ?_
  refine zx_aload C d_Sht_renew_8 rfl ?_
  refine zx_get C f_Sht_9_7 d_Sht_renew_9 (2 + k) (zcw_sh hk) rfl ?_
  refine zx_alen C d_Sht_renew_12 (6 + k) (zcw_ce hk) rfl ?_
  refine zx_mmin C zk_math_Sht_22 d_Sht_renew_13 (Nat.le_of_ble_eq_true rfl) (Nat.le_of_ble_eq_true rfl) (Nat.le_of_ble_eq_true rfl) (Nat.le_of_ble_eq_true rfl) ?_
  refine zx_mmax C zk_math_Sht_28 d_Sht_renew_16 (Nat.le_of_ble_eq_true rfl) (Nat.le_of_ble_eq_true rfl) (Nat.le_of_ble_eq_true rfl) (Nat.le_of_ble_eq_true rfl) ?_
  refine zx_eq rfl (st1 := [.int (nI n), .ref (ad (2 + k))]) (congrArg (fun v => [Value.int v, Value.ref (ad (2 + k))]) e1) rfl ?_
  refine zx_put C p_Sht_19_7 d_Sht_renew_19 (2 + k) (zcw_sh hk) zb_fit_i (Nat.le_of_ble_eq_true rfl) (zcs_sh_2 hk) ?_
  refine zx_ic C d_Sht_renew_22 ?_
  refine zx_istore C d_Sht_renew_23 (by decide) (lv1 := [(3, _), (0, _), (1, _), (2, _)]) rfl ?_
  have k1 := lp 60 0 rfl
  rw [show ur RI k (zro (RI k) 0) = RI from ur_self RI k] at k1
  exact zx_lv [0, 1, 2, 3] rfl k1
set_option maxHeartbeats 600000 in
set_option maxRecDepth 20000 in
theorem c_Tue_refusalOfCells (G : ZG) (ad : Nat → Nat) (I : Nat → Int32) (L : Nat → Int64) (g z : Option Nat) (QH QD : Nat → Option Nat) (RI : Nat → Nat → Int32) (RL : Nat → Nat → Int64) (X : va_W) (k : Nat) (hk : k < 4) (s : Nat) (es : I (5 + k) = nI s) (l i n : Int32) : ZM G y_Tue_refusalOfCells b_Tue_refusalOfCells 5 (some .int) r_Tue_refusalOfCells [.ref (ad 0), .ref (ad (2 + k)), .int l, .int i, .int n] (cw G ad I L g z QH QD RI RL ++ X) (zdi (rfv (I (1 + k)) s l i n) (cw G ad (rfI I (I (1 + k)) s l i n) L g z QH QD RI RL ++ X)) := by
  refine ZM.of "SameTuesday" "refusalOfCells" rfl rfl (by decide) (Nat.le_of_ble_eq_true rfl) (fun Y C hq => ?_)
  change ZV G Y 0 0 0 [(0, .ref (ad 0)), (1, .ref (ad (2 + k))), (2, .int l), (3, .int i), (4, .int n)] [] (cw G ad I L g z QH QD RI RL ++ X)
  refine zx_iload C d_Tue_refusalOfCells_0 rfl ?_
  refine zr_di (zr_S C l_Tue_213 d_Tue_refusalOfCells_1 (As := [_]) rfl rfl (Nat.le_of_ble_eq_true rfl) (c_Tue_isLane G _ _) ⟨Nat.le_of_ble_eq_true rfl, Nat.le_of_ble_eq_true rfl, Nat.le_of_ble_eq_true rfl, Nat.le_of_ble_eq_true rfl⟩) ?_
  refine zx_ifB_ne C d_Tue_refusalOfCells_4 (fun h4 => ?_) (fun h4 => ?_)
  · refine zx_aload C d_Tue_refusalOfCells_10 rfl ?_
    refine zr_di (zr_V C l_Tue_223 d_Tue_refusalOfCells_11 (As := []) rfl rfl (Nat.le_of_ble_eq_true rfl) (c_Sht_hasNothing G _ _ _ _ _ _ _ _ _ _ k hk) (2 + k) (zcw_sh hk) rfl ⟨Nat.le_of_ble_eq_true rfl, Nat.le_of_ble_eq_true rfl, Nat.le_of_ble_eq_true rfl, Nat.le_of_ble_eq_true rfl⟩) ?_
    refine zx_ifB_eq C d_Tue_refusalOfCells_14 (fun h14 => ?_) (fun h14 => ?_)
    · refine zx_aload C d_Tue_refusalOfCells_23 rfl ?_
      refine zx_iload C d_Tue_refusalOfCells_24 rfl ?_
      refine zr_di (zr_V C l_Tue_260 d_Tue_refusalOfCells_25 (As := [_]) rfl rfl (Nat.le_of_ble_eq_true rfl) (c_Sht_isOf G _ _ _ _ _ _ _ _ _ _ k hk _) (2 + k) (zcw_sh hk) rfl ⟨Nat.le_of_ble_eq_true rfl, Nat.le_of_ble_eq_true rfl, Nat.le_of_ble_eq_true rfl, Nat.le_of_ble_eq_true rfl⟩) ?_
      refine zx_ifB_ne C d_Tue_refusalOfCells_28 (fun h28 => ?_) (fun h28 => ?_)
      · refine zx_iload C d_Tue_refusalOfCells_37 rfl ?_
        refine zx_if_ge C d_Tue_refusalOfCells_39 (fun h39 => ?_) (fun h39 => ?_)
        · have h39 : ¬ n < 0 := Int32.not_lt.mpr h39
          refine zx_aload C d_Tue_refusalOfCells_48 rfl ?_
          refine zx_iload C d_Tue_refusalOfCells_49 rfl ?_
          refine zx_iload C d_Tue_refusalOfCells_50 rfl ?_
          refine zr_di (zr_V C l_Tue_229 d_Tue_refusalOfCells_52 (As := [_, _]) rfl rfl (Nat.le_of_ble_eq_true rfl) (c_Sht_holds G _ _ _ _ _ _ _ _ _ _ k hk _ _) (2 + k) (zcw_sh hk) rfl ⟨Nat.le_of_ble_eq_true rfl, Nat.le_of_ble_eq_true rfl, Nat.le_of_ble_eq_true rfl, Nat.le_of_ble_eq_true rfl⟩) ?_
          refine zx_ifB_eq C d_Tue_refusalOfCells_55 (fun h55 => ?_) (fun h55 => ?_)
          · have e1 := rf_g (I := I) (v := 3) h4 (ag_3 es h14 h28 h39 h55) (by decide)
            refine zx_aload C d_Tue_refusalOfCells_62 rfl ?_
            refine zx_ic C d_Tue_refusalOfCells_63 ?_
            refine zr_di (zr_V C l_Tue_216 d_Tue_refusalOfCells_64 (As := [_]) rfl rfl (Nat.le_of_ble_eq_true rfl) (c_Tue_faulty G _ _ _ _ _ _ _ _ _ _ _) 0 zcw_0 rfl ⟨Nat.le_of_ble_eq_true rfl, Nat.le_of_ble_eq_true rfl, Nat.le_of_ble_eq_true rfl, Nat.le_of_ble_eq_true rfl⟩) ?_
            exact zx_iret C hq d_Tue_refusalOfCells_67 (⟨by rw [e1.1]; try rfl, by rw [e1.2]⟩)
          · have e1 := rf_f (I := I) h4 (ag_0 es h14 h28 h55)
            refine zx_ic C d_Tue_refusalOfCells_58 ?_
            refine zx_goto C d_Tue_refusalOfCells_59 ?_
            exact zx_iret C hq d_Tue_refusalOfCells_67 (⟨by rw [e1.1]; try rfl, by rw [e1.2]⟩)
        · have e1 := rf_g (I := I) (v := 4) h4 (ag_4 (i := i) (s := s) h14 h28 (Int32.not_le.mp h39)) (by decide)
          refine zx_aload C d_Tue_refusalOfCells_42 rfl ?_
          refine zx_ic C d_Tue_refusalOfCells_43 ?_
          refine zr_di (zr_V C l_Tue_216 d_Tue_refusalOfCells_44 (As := [_]) rfl rfl (Nat.le_of_ble_eq_true rfl) (c_Tue_faulty G _ _ _ _ _ _ _ _ _ _ _) 0 zcw_0 rfl ⟨Nat.le_of_ble_eq_true rfl, Nat.le_of_ble_eq_true rfl, Nat.le_of_ble_eq_true rfl, Nat.le_of_ble_eq_true rfl⟩) ?_
          exact zx_iret C hq d_Tue_refusalOfCells_47 (⟨by rw [e1.1]; try rfl, by rw [e1.2]⟩)
      · have e1 := rf_g (I := I) (v := 2) h4 (ag_2 (i := i) (n := n) (s := s) h14 h28) (by decide)
        refine zx_aload C d_Tue_refusalOfCells_31 rfl ?_
        refine zx_ic C d_Tue_refusalOfCells_32 ?_
        refine zr_di (zr_V C l_Tue_216 d_Tue_refusalOfCells_33 (As := [_]) rfl rfl (Nat.le_of_ble_eq_true rfl) (c_Tue_faulty G _ _ _ _ _ _ _ _ _ _ _) 0 zcw_0 rfl ⟨Nat.le_of_ble_eq_true rfl, Nat.le_of_ble_eq_true rfl, Nat.le_of_ble_eq_true rfl, Nat.le_of_ble_eq_true rfl⟩) ?_
        exact zx_iret C hq d_Tue_refusalOfCells_36 (⟨by rw [e1.1]; try rfl, by rw [e1.2]⟩)
    · have e1 := rf_g (I := I) (v := 1) h4 (ag_1 (l := l) (i := i) (n := n) (s := s) h14) (by decide)
      refine zx_aload C d_Tue_refusalOfCells_17 rfl ?_
      refine zx_ic C d_Tue_refusalOfCells_18 ?_
      refine zr_di (zr_V C l_Tue_216 d_Tue_refusalOfCells_19 (As := [_]) rfl rfl (Nat.le_of_ble_eq_true rfl) (c_Tue_faulty G _ _ _ _ _ _ _ _ _ _ _) 0 zcw_0 rfl ⟨Nat.le_of_ble_eq_true rfl, Nat.le_of_ble_eq_true rfl, Nat.le_of_ble_eq_true rfl, Nat.le_of_ble_eq_true rfl⟩) ?_
      exact zx_iret C hq d_Tue_refusalOfCells_22 (⟨by rw [e1.1]; try rfl, by rw [e1.2]⟩)
  · have e1 := rf_0 (I := I) (ln := I (1 + k)) (i := i) (n := n) (s := s) h4
    refine zx_ic C d_Tue_refusalOfCells_7 ?_
    exact zx_iret C hq d_Tue_refusalOfCells_9 (⟨by rw [e1.1]; try rfl, by rw [e1.2]⟩)
