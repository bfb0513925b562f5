theorem op_0 {T : ZT} (ht : tok T) {j m s : Nat} {v : Int32} (hj : j < T.2.1) (hs : s < 64) (hm : m < 60) (hv : v = nI T.2.2.1) : (if v ≤ nI m + nI (tq T 7 j) then 0 else one s &&& ww (tq T 4 j)) = (0 : Int64) ↔ ¬ may T j m s = true := by
  subst hv
  have hk := ht.2.2.2.2 j hj
  have h60 := ht.2.2.1
  rw [nI_add, may]
  by_cases h : T.2.2.1 ≤ m + tq T 7 j
  · rw [if_pos ((nI_leI (by omega) (by omega)).mpr h), decide_eq_false (show ¬ m + tq T 7 j < T.2.2.1 by omega)]
    simp
  · rw [if_neg (fun z => h ((nI_leI (by omega) (by omega)).mp z)), decide_eq_true (show m + tq T 7 j < T.2.2.1 by omega), Bool.and_true, one_and _ (by omega) s hs]
    cases fmet (tq T 4 j) s <;> simp
set_option maxHeartbeats 600000 in
set_option maxRecDepth 20000 in
theorem c_Life_begin (G : ZG) (ad : Nat → Nat) (I : Nat → Int32) (L : Nat → Int64) (g z : Option Nat) (QH QD : Nat → Option Nat) (RI : Nat → Nat → Int32) (RL : Nat → Nat → Int64) (X : va_W) (T : ZT) (hA dA : Nat → Nat) (j : Nat) (hj : j < T.2.1) (ht : tok T) (h11 : I 11 = nI T.2.2.1) (s : Nat) (hs : s < 64) (hL : L 1 = one s) (m : Nat) (hm : m < 60) : ZM G y_Life_begin b_Life_begin 3 (some .boolean) r_Life_begin [.ref (ad 13), .ref (dA j), .int (nI m)] (cw G ad I L g z QH QD RI RL ++ pw hA dA T X) (zdi (zB (g = none ∧ may T j m s = true)) (if (g = none ∧ may T j m s = true) then (cw G ad (upd I 13 (nI (m + tq T 7 j))) L (some (dA j)) z QH QD RI RL ++ pw hA dA T X) else (cw G ad I L g z QH QD RI RL ++ pw hA dA T X))) := by
  refine ZM.of "SameTuesday$Life" "begin" rfl rfl (by decide) (Nat.le_of_ble_eq_true rfl) (fun Y C hq => ?_)
  change ZV G Y 0 0 0 [(0, .ref (ad 13)), (1, .ref (dA j)), (2, .int (nI m))] [] (cw G ad I L g z QH QD RI RL ++ pw hA dA T X)
  refine zx_aload C d_Life_begin_0 rfl ?_
  refine zx_ifnullR C d_Life_begin_1 ?_
  refine zx_aload C d_Life_begin_4 rfl ?_
  refine zx_get C f_Life_34_4 d_Life_begin_5 13 zcw_13 rfl ?_
  refine zx_ifnonnull C d_Life_begin_8 (fun a8 h8 => ?_) (fun h8 => ?_)
  · have e : ¬ (g = none ∧ may T j m s = true) := fun z => by rw [z.1] at h8; cases h8
    refine zx_ic C d_Life_begin_29 ?_
    exact zx_zret C hq (by decide) d_Life_begin_30 (⟨by rw [zB_f e], by rw [if_neg e]⟩)
  · refine zx_aload C d_Life_begin_11 rfl ?_
    refine zx_get C f_Life_9_4 d_Life_begin_12 13 zcw_13 rfl ?_
    refine zx_aload C d_Life_begin_15 rfl ?_
    refine zx_iload C d_Life_begin_16 rfl ?_
    refine zx_aload C d_Life_begin_17 rfl ?_
    refine zx_get C f_Life_30_4 d_Life_begin_18 13 zcw_13 rfl ?_
    rw [hL]
    refine zr_dl (zr_V C l_Life_114 d_Life_begin_21 (As := [_, _, _]) rfl rfl (Nat.le_of_ble_eq_true rfl) (c_Twn_openTo G _ _ _ _ _ _ _ _ _ _ (23 + (T.1 + j)) (dA j) _ _ _ _ _ (zcw_de hj) (nI m) _) 10 zcw_10 rfl ⟨Nat.le_of_ble_eq_true rfl, Nat.le_of_ble_eq_true rfl, Nat.le_of_ble_eq_true rfl, Nat.le_of_ble_eq_true rfl⟩) ?_
    refine zx_lc C d_Life_begin_24 ?_
    refine zx_lcmp C d_Life_begin_25 ?_
    refine zx_if_ne C d_Life_begin_26 (fun h26 => ?_) (fun h26 => ?_)
    · have e : (g = none ∧ may T j m s = true) := ⟨h8, Classical.byContradiction fun z => h26 ((lg_cmp_eq _ _).mpr ((op_0 ht hj hs hm h11).mpr z))⟩
      refine zx_aload C d_Life_begin_31 rfl ?_
      refine zx_aload C d_Life_begin_32 rfl ?_
      refine zx_put C p_Life_34_4 d_Life_begin_33 13 zcw_13 zb_fit_r (Nat.le_of_ble_eq_true rfl) zcs_13_6R ?_
      refine zx_aload C d_Life_begin_36 rfl ?_
      refine zx_iload C d_Life_begin_37 rfl ?_
      refine zx_aload C d_Life_begin_38 rfl ?_
      refine zx_get C f_Life_118_1 d_Life_begin_39 (23 + (T.1 + j)) (zcw_de hj) rfl ?_
      refine zx_iadd C d_Life_begin_42 ?_
      refine zx_put C p_Life_38_4 d_Life_begin_43 13 zcw_13 zb_fit_i (Nat.le_of_ble_eq_true rfl) zcs_13_7 ?_
      refine zx_ic C d_Life_begin_46 ?_
      exact zx_zret C hq (by decide) d_Life_begin_47 (⟨by rw [zB_t e], by rw [if_pos e, ← nI_add]⟩)
    · have e : ¬ (g = none ∧ may T j m s = true) := fun z => (op_0 ht hj hs hm h11).mp ((lg_cmp_eq _ _).mp (by first | exact h26 | exact Classical.byContradiction h26)) z.2
      refine zx_ic C d_Life_begin_29 ?_
      exact zx_zret C hq (by decide) d_Life_begin_30 (⟨by rw [zB_f e], by rw [if_neg e]⟩)
