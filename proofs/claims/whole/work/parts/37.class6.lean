set_option maxHeartbeats 600000 in
set_option maxRecDepth 20000 in
theorem c_Hap_kind (G : ZG) (w : va_W) (b : Nat) : ZM G y_Hap_kind b_Hap_kind 1 (some .int) r_Hap_kind [.ref b] w (zdi 0 w) := by
  refine ZM.of "SameTuesday$Happening" "kind" rfl rfl (by decide) (Nat.le_of_ble_eq_true rfl) (fun Y C hq => ?_)
  change ZV G Y 0 0 0 [(0, .ref b)] [] w
  refine zx_ic C d_Hap_kind_0 ?_
  exact zx_iret C hq d_Hap_kind_1 (⟨rfl, rfl⟩)
set_option maxHeartbeats 600000 in
set_option maxRecDepth 20000 in
theorem c_Mis_kind (G : ZG) (w : va_W) (b : Nat) : ZM G y_Mis_kind b_Mis_kind 1 (some .int) r_Mis_kind [.ref b] w (zdi 1 w) := by
  refine ZM.of "SameTuesday$Mishap" "kind" rfl rfl (by decide) (Nat.le_of_ble_eq_true rfl) (fun Y C hq => ?_)
  change ZV G Y 0 0 0 [(0, .ref b)] [] w
  refine zx_ic C d_Mis_kind_0 ?_
  exact zx_iret C hq d_Mis_kind_1 (⟨rfl, rfl⟩)
set_option maxHeartbeats 600000 in
set_option maxRecDepth 20000 in
theorem c_Cap_kind (G : ZG) (w : va_W) (b : Nat) : ZM G y_Cap_kind b_Cap_kind 1 (some .int) r_Cap_kind [.ref b] w (zdi 2 w) := by
  refine ZM.of "SameTuesday$Caprice" "kind" rfl rfl (by decide) (Nat.le_of_ble_eq_true rfl) (fun Y C hq => ?_)
  change ZV G Y 0 0 0 [(0, .ref b)] [] w
  refine zx_ic C d_Cap_kind_0 ?_
  exact zx_iret C hq d_Cap_kind_1 (⟨rfl, rfl⟩)
theorem k3 {k : Nat} (h : k ≤ 2) : k = 0 ∨ k = 1 ∨ k = 2 := by omega
theorem zq_kind {G : ZG} {Y : ZY} {cc : ByteArray} {nm : String} {ret : Option FieldType} {rm : Room} {nl : Nat} {kc ks pc pc1 : Nat} {lv : List (Nat × Value)} {rest : List Value} {w : va_W} {b q : Nat} {fs : List Value} {k idx : Nat} (C : ZC G Y cc "SameTuesday" nm ret rm nl) (hi : idx = 97) (hk : k ≤ 2) (hd : zd cc pc (.invokevirtual idx) 3 pc1) (hro : (rest.map fun v => v.category).sum ≤ 8) (hw : w[q]? = some (b, .inr (hcl k, fs))) (hR : zl_R r_Hap_kind rm 1 kc ks) : ZR G Y kc ks pc pc1 lv (.ref b :: rest) w rest 0 0 (zdi (nI k) w) := by
  subst hi
  rcases k3 hk with rfl | rfl | rfl
  · exact zr_U C u_Tue_97_Hap hd (As := []) rfl rfl hro (c_Hap_kind G w b) q hw rfl hR
  · exact zr_U C u_Tue_97_Mis hd (As := []) rfl rfl hro (c_Mis_kind G w b) q hw rfl hR
  · exact zr_U C u_Tue_97_Cap hd (As := []) rfl rfl hro (c_Cap_kind G w b) q hw rfl hR
set_option maxHeartbeats 600000 in
set_option maxRecDepth 20000 in
theorem c_Hap_plainTelling (G : ZG) (ad : Nat → Nat) (I : Nat → Int32) (L : Nat → Int64) (g z : Option Nat) (QH QD : Nat → Option Nat) (RI : Nat → Nat → Int32) (RL : Nat → Nat → Int64) (X : va_W) (T : ZT) (hA dA : Nat → Nat) (j : Nat) (hj : j < T.1)  : ZM G y_Hap_plainTelling b_Hap_plainTelling 2 (some .int) r_Hap_plainTelling [.ref (hA j), .ref (ad 22)] (cw G ad I L g z QH QD RI RL ++ pw hA dA T X) (zdi (nI (tq T 1 j)) (cw G ad (upd I 19 (31 * I 19 + 1)) L g z QH QD RI RL ++ pw hA dA T X)) := by
  refine ZM.of "SameTuesday$Happening" "plainTelling" rfl rfl (by decide) (Nat.le_of_ble_eq_true rfl) (fun Y C hq => ?_)
  change ZV G Y 0 0 0 [(0, .ref (hA j)), (1, .ref (ad 22))] [] (cw G ad I L g z QH QD RI RL ++ pw hA dA T X)
  refine zx_aload C d_Hap_plainTelling_0 rfl ?_
  refine zx_ic C d_Hap_plainTelling_1 ?_
  refine zr_dv (zr_V C l_Hap_41 d_Hap_plainTelling_2 (As := [_]) rfl rfl (Nat.le_of_ble_eq_true rfl) (c_Trc_leave G _ _ _ _ _ _ _ _ _ _ _) 22 zcw_22 rfl ⟨Nat.le_of_ble_eq_true rfl, Nat.le_of_ble_eq_true rfl, Nat.le_of_ble_eq_true rfl, Nat.le_of_ble_eq_true rfl⟩) ?_
  refine zx_aload C d_Hap_plainTelling_5 rfl ?_
  refine zx_get C (fh_Hap_13 _) d_Hap_plainTelling_6 (23 + j) (zcw_ha hj) rfl ?_
  exact zx_iret C hq d_Hap_plainTelling_9 (⟨rfl, rfl⟩)
set_option maxHeartbeats 600000 in
set_option maxRecDepth 20000 in
theorem c_Hap_telling (G : ZG) (ad : Nat → Nat) (I : Nat → Int32) (L : Nat → Int64) (g z : Option Nat) (QH QD : Nat → Option Nat) (RI : Nat → Nat → Int32) (RL : Nat → Nat → Int64) (X : va_W) (T : ZT) (hA dA : Nat → Nat) (j : Nat) (hj : j < T.1) (hk : tq T 0 j = 0) : ZM G y_Hap_telling b_Hap_telling 2 (some .int) r_Hap_telling [.ref (hA j), .ref (ad 22)] (cw G ad I L g z QH QD RI RL ++ pw hA dA T X) (zdi (nI (tq T 1 j)) (cw G ad (upd I 19 (31 * I 19 + 1)) L g z QH QD RI RL ++ pw hA dA T X)) := by
  refine ZM.of "SameTuesday$Happening" "telling" rfl rfl (by decide) (Nat.le_of_ble_eq_true rfl) (fun Y C hq => ?_)
  change ZV G Y 0 0 0 [(0, .ref (hA j)), (1, .ref (ad 22))] [] (cw G ad I L g z QH QD RI RL ++ pw hA dA T X)
  have hw : ∀ I, (cw G ad I L g z QH QD RI RL ++ pw hA dA T X)[23 + j]? = some (hA j, .inr (2, hfs T j)) := fun I => by rw [zcw_ha hj, hk]; rfl
  refine zx_aload C d_Hap_telling_0 rfl ?_
  refine zx_aload C d_Hap_telling_1 rfl ?_
  refine zr_di (zr_U C u_Hap_37_Hap d_Hap_telling_2 (As := [_]) rfl rfl (Nat.le_of_ble_eq_true rfl) (c_Hap_plainTelling G _ _ _ _ _ _ _ _ _ _ T hA dA j hj) (23 + j) (hw _) rfl ⟨Nat.le_of_ble_eq_true rfl, Nat.le_of_ble_eq_true rfl, Nat.le_of_ble_eq_true rfl, Nat.le_of_ble_eq_true rfl⟩) ?_
  exact zx_iret C hq d_Hap_telling_5 (⟨rfl, rfl⟩)
set_option maxHeartbeats 600000 in
set_option maxRecDepth 20000 in
theorem c_Mis_telling (G : ZG) (ad : Nat → Nat) (I : Nat → Int32) (L : Nat → Int64) (g z : Option Nat) (QH QD : Nat → Option Nat) (RI : Nat → Nat → Int32) (RL : Nat → Nat → Int64) (X : va_W) (T : ZT) (hA dA : Nat → Nat) (j : Nat) (hj : j < T.1) (hk : tq T 0 j = 1) : ZM G y_Mis_telling b_Mis_telling 2 (some .int) r_Mis_telling [.ref (hA j), .ref (ad 22)] (cw G ad I L g z QH QD RI RL ++ pw hA dA T X) (zdi (nI (tq T 1 j) + 100) (cw G ad (upd (upd I 19 (31 * I 19 + 2)) 19 (31 * (upd I 19 (31 * I 19 + 2)) 19 + 1)) L g z QH QD RI RL ++ pw hA dA T X)) := by
  refine ZM.of "SameTuesday$Mishap" "telling" rfl rfl (by decide) (Nat.le_of_ble_eq_true rfl) (fun Y C hq => ?_)
  change ZV G Y 0 0 0 [(0, .ref (hA j)), (1, .ref (ad 22))] [] (cw G ad I L g z QH QD RI RL ++ pw hA dA T X)
  have hw : ∀ I, (cw G ad I L g z QH QD RI RL ++ pw hA dA T X)[23 + j]? = some (hA j, .inr (5, hfs T j)) := fun I => by rw [zcw_ha hj, hk]; rfl
  refine zx_aload C d_Mis_telling_0 rfl ?_
  refine zx_ic C d_Mis_telling_1 ?_
  refine zr_dv (zr_V C l_Mis_22 d_Mis_telling_2 (As := [_]) rfl rfl (Nat.le_of_ble_eq_true rfl) (c_Trc_leave G _ _ _ _ _ _ _ _ _ _ _) 22 zcw_22 rfl ⟨Nat.le_of_ble_eq_true rfl, Nat.le_of_ble_eq_true rfl, Nat.le_of_ble_eq_true rfl, Nat.le_of_ble_eq_true rfl⟩) ?_
  refine zx_aload C d_Mis_telling_5 rfl ?_
  refine zx_aload C d_Mis_telling_6 rfl ?_
  refine zr_di (zr_U C u_Mis_28_Mis d_Mis_telling_7 (As := [_]) rfl rfl (Nat.le_of_ble_eq_true rfl) (c_Hap_plainTelling G _ _ _ _ _ _ _ _ _ _ T hA dA j hj) (23 + j) (hw _) rfl ⟨Nat.le_of_ble_eq_true rfl, Nat.le_of_ble_eq_true rfl, Nat.le_of_ble_eq_true rfl, Nat.le_of_ble_eq_true rfl⟩) ?_
  refine zx_ic C d_Mis_telling_10 ?_
  refine zx_iadd C d_Mis_telling_12 ?_
  exact zx_iret C hq d_Mis_telling_13 (⟨rfl, rfl⟩)
set_option maxHeartbeats 600000 in
set_option maxRecDepth 20000 in
theorem c_Mis_tellingC (G : ZG) (ad : Nat → Nat) (I : Nat → Int32) (L : Nat → Int64) (g z : Option Nat) (QH QD : Nat → Option Nat) (RI : Nat → Nat → Int32) (RL : Nat → Nat → Int64) (X : va_W) (T : ZT) (hA dA : Nat → Nat) (j : Nat) (hj : j < T.1) (hk : tq T 0 j = 2) : ZM G y_Mis_telling b_Mis_telling 2 (some .int) r_Mis_telling [.ref (hA j), .ref (ad 22)] (cw G ad I L g z QH QD RI RL ++ pw hA dA T X) (zdi (nI (tq T 1 j) + 100) (cw G ad (upd (upd I 19 (31 * I 19 + 2)) 19 (31 * (upd I 19 (31 * I 19 + 2)) 19 + 1)) L g z QH QD RI RL ++ pw hA dA T X)) := by
  refine ZM.of "SameTuesday$Mishap" "telling" rfl rfl (by decide) (Nat.le_of_ble_eq_true rfl) (fun Y C hq => ?_)
  change ZV G Y 0 0 0 [(0, .ref (hA j)), (1, .ref (ad 22))] [] (cw G ad I L g z QH QD RI RL ++ pw hA dA T X)
  have hw : ∀ I, (cw G ad I L g z QH QD RI RL ++ pw hA dA T X)[23 + j]? = some (hA j, .inr (0, hfs T j)) := fun I => by rw [zcw_ha hj, hk]; rfl
  refine zx_aload C d_Mis_telling_0 rfl ?_
  refine zx_ic C d_Mis_telling_1 ?_
  refine zr_dv (zr_V C l_Mis_22 d_Mis_telling_2 (As := [_]) rfl rfl (Nat.le_of_ble_eq_true rfl) (c_Trc_leave G _ _ _ _ _ _ _ _ _ _ _) 22 zcw_22 rfl ⟨Nat.le_of_ble_eq_true rfl, Nat.le_of_ble_eq_true rfl, Nat.le_of_ble_eq_true rfl, Nat.le_of_ble_eq_true rfl⟩) ?_
  refine zx_aload C d_Mis_telling_5 rfl ?_
  refine zx_aload C d_Mis_telling_6 rfl ?_
  refine zr_di (zr_U C u_Mis_28_Cap d_Mis_telling_7 (As := [_]) rfl rfl (Nat.le_of_ble_eq_true rfl) (c_Hap_plainTelling G _ _ _ _ _ _ _ _ _ _ T hA dA j hj) (23 + j) (hw _) rfl ⟨Nat.le_of_ble_eq_true rfl, Nat.le_of_ble_eq_true rfl, Nat.le_of_ble_eq_true rfl, Nat.le_of_ble_eq_true rfl⟩) ?_
  refine zx_ic C d_Mis_telling_10 ?_
  refine zx_iadd C d_Mis_telling_12 ?_
  exact zx_iret C hq d_Mis_telling_13 (⟨rfl, rfl⟩)
set_option maxHeartbeats 600000 in
set_option maxRecDepth 20000 in
theorem c_Cap_telling (G : ZG) (ad : Nat → Nat) (I : Nat → Int32) (L : Nat → Int64) (g z : Option Nat) (QH QD : Nat → Option Nat) (RI : Nat → Nat → Int32) (RL : Nat → Nat → Int64) (X : va_W) (T : ZT) (hA dA : Nat → Nat) (j : Nat) (hj : j < T.1) (hk : tq T 0 j = 2) : ZM G y_Cap_telling b_Cap_telling 3 (some .int) r_Cap_telling [.ref (hA j), .ref (ad 22)] (cw G ad I L g z QH QD RI RL ++ pw hA dA T X) (zdi (nI (tq T 1 j) + 100 + nI (tq T 1 j)) (cw G ad (upd (upd (upd (upd I 19 (31 * I 19 + 3)) 19 (31 * (upd I 19 (31 * I 19 + 3)) 19 + 2)) 19 (31 * (upd (upd I 19 (31 * I 19 + 3)) 19 (31 * (upd I 19 (31 * I 19 + 3)) 19 + 2)) 19 + 1)) 19 (31 * (upd (upd (upd I 19 (31 * I 19 + 3)) 19 (31 * (upd I 19 (31 * I 19 + 3)) 19 + 2)) 19 (31 * (upd (upd I 19 (31 * I 19 + 3)) 19 (31 * (upd I 19 (31 * I 19 + 3)) 19 + 2)) 19 + 1)) 19 + 1)) L g z QH QD RI RL ++ pw hA dA T X)) := by
  refine ZM.of "SameTuesday$Caprice" "telling" rfl rfl (by decide) (Nat.le_of_ble_eq_true rfl) (fun Y C hq => ?_)
  change ZV G Y 0 0 0 [(0, .ref (hA j)), (1, .ref (ad 22))] [] (cw G ad I L g z QH QD RI RL ++ pw hA dA T X)
  have hw : ∀ I, (cw G ad I L g z QH QD RI RL ++ pw hA dA T X)[23 + j]? = some (hA j, .inr (0, hfs T j)) := fun I => by rw [zcw_ha hj, hk]; rfl
  refine zx_aload C d_Cap_telling_0 rfl ?_
  refine zx_ic C d_Cap_telling_1 ?_
  refine zr_dv (zr_V C l_Cap_22 d_Cap_telling_2 (As := [_]) rfl rfl (Nat.le_of_ble_eq_true rfl) (c_Trc_leave G _ _ _ _ _ _ _ _ _ _ _) 22 zcw_22 rfl ⟨Nat.le_of_ble_eq_true rfl, Nat.le_of_ble_eq_true rfl, Nat.le_of_ble_eq_true rfl, Nat.le_of_ble_eq_true rfl⟩) ?_
  refine zx_aload C d_Cap_telling_5 rfl ?_
  refine zx_aload C d_Cap_telling_6 rfl ?_
  refine zr_di (zr_P C up_Cap_28 d_Cap_telling_7 (As := [_]) rfl rfl (Nat.le_of_ble_eq_true rfl) (c_Mis_tellingC G _ _ _ _ _ _ _ _ _ _ T hA dA j hj hk) (23 + j) (hw _) rfl ⟨Nat.le_of_ble_eq_true rfl, Nat.le_of_ble_eq_true rfl, Nat.le_of_ble_eq_true rfl, Nat.le_of_ble_eq_true rfl⟩) ?_
  refine zx_istore C d_Cap_telling_10 (by decide) (lv1 := [(2, _), (0, _), (1, _)]) rfl ?_
  refine zx_iload C d_Cap_telling_11 rfl ?_
  refine zx_aload C d_Cap_telling_12 rfl ?_
  refine zx_aload C d_Cap_telling_13 rfl ?_
  refine zr_di (zr_U C u_Cap_32_Cap d_Cap_telling_14 (As := [_]) rfl rfl (Nat.le_of_ble_eq_true rfl) (c_Hap_plainTelling G _ _ _ _ _ _ _ _ _ _ T hA dA j hj) (23 + j) (hw _) rfl ⟨Nat.le_of_ble_eq_true rfl, Nat.le_of_ble_eq_true rfl, Nat.le_of_ble_eq_true rfl, Nat.le_of_ble_eq_true rfl⟩) ?_
  refine zx_iadd C d_Cap_telling_17 ?_
  exact zx_iret C hq d_Cap_telling_18 (⟨rfl, rfl⟩)
set_option maxHeartbeats 600000 in
set_option maxRecDepth 20000 in
theorem c_Hap_rhymed (G : ZG) (ad : Nat → Nat) (I : Nat → Int32) (L : Nat → Int64) (g z : Option Nat) (QH QD : Nat → Option Nat) (RI : Nat → Nat → Int32) (RL : Nat → Nat → Int64) (X : va_W) (T : ZT) (hA dA : Nat → Nat) (j : Nat) (hj : j < T.1)  : ZM G y_Hap_rhymed b_Hap_rhymed 2 (some .int) r_Hap_rhymed [.ref (hA j), .ref (ad 22)] (cw G ad I L g z QH QD RI RL ++ pw hA dA T X) (zdi (nI j) (cw G ad (upd I 19 (31 * I 19 + 4)) L g z QH QD RI RL ++ pw hA dA T X)) := by
  refine ZM.of "SameTuesday$Happening" "rhymed" rfl rfl (by decide) (Nat.le_of_ble_eq_true rfl) (fun Y C hq => ?_)
  change ZV G Y 0 0 0 [(0, .ref (hA j)), (1, .ref (ad 22))] [] (cw G ad I L g z QH QD RI RL ++ pw hA dA T X)
  refine zx_aload C d_Hap_rhymed_0 rfl ?_
  refine zx_ic C d_Hap_rhymed_1 ?_
  refine zr_dv (zr_V C l_Hap_41 d_Hap_rhymed_2 (As := [_]) rfl rfl (Nat.le_of_ble_eq_true rfl) (c_Trc_leave G _ _ _ _ _ _ _ _ _ _ _) 22 zcw_22 rfl ⟨Nat.le_of_ble_eq_true rfl, Nat.le_of_ble_eq_true rfl, Nat.le_of_ble_eq_true rfl, Nat.le_of_ble_eq_true rfl⟩) ?_
  refine zx_aload C d_Hap_rhymed_5 rfl ?_
  refine zx_get C (fh_Hap_7 _) d_Hap_rhymed_6 (23 + j) (zcw_ha hj) rfl ?_
  exact zx_iret C hq d_Hap_rhymed_9 (⟨rfl, rfl⟩)
set_option maxHeartbeats 600000 in
set_option maxRecDepth 20000 in
theorem c_Cap_rhymed (G : ZG) (ad : Nat → Nat) (I : Nat → Int32) (L : Nat → Int64) (g z : Option Nat) (QH QD : Nat → Option Nat) (RI : Nat → Nat → Int32) (RL : Nat → Nat → Int64) (X : va_W) (T : ZT) (hA dA : Nat → Nat) (j : Nat) (hj : j < T.1)  : ZM G y_Cap_rhymed b_Cap_rhymed 2 (some .int) r_Cap_rhymed [.ref (hA j), .ref (ad 22)] (cw G ad I L g z QH QD RI RL ++ pw hA dA T X) (zdi 40 (cw G ad (upd I 19 (31 * I 19 + 5)) L g z QH QD RI RL ++ pw hA dA T X)) := by
  refine ZM.of "SameTuesday$Caprice" "rhymed" rfl rfl (by decide) (Nat.le_of_ble_eq_true rfl) (fun Y C hq => ?_)
  change ZV G Y 0 0 0 [(0, .ref (hA j)), (1, .ref (ad 22))] [] (cw G ad I L g z QH QD RI RL ++ pw hA dA T X)
  refine zx_aload C d_Cap_rhymed_0 rfl ?_
  refine zx_ic C d_Cap_rhymed_1 ?_
  refine zr_dv (zr_V C l_Cap_22 d_Cap_rhymed_2 (As := [_]) rfl rfl (Nat.le_of_ble_eq_true rfl) (c_Trc_leave G _ _ _ _ _ _ _ _ _ _ _) 22 zcw_22 rfl ⟨Nat.le_of_ble_eq_true rfl, Nat.le_of_ble_eq_true rfl, Nat.le_of_ble_eq_true rfl, Nat.le_of_ble_eq_true rfl⟩) ?_
  refine zx_ic C d_Cap_rhymed_5 ?_
  exact zx_iret C hq d_Cap_rhymed_7 (⟨rfl, rfl⟩)
theorem qof_s {n : Nat} {Q : Nat → Option Nat} {h : Int32} {a : Nat} (hn : n < 2 ^ 31) (e : qof n Q h = some a) : ∃ j, j < n ∧ h = nI j ∧ qof n Q h = Q j ∧ ¬ (h < 0 ∨ nI n ≤ h) := by
  unfold qof at e
  split at e
  · next h1 =>
    obtain ⟨j, hj, rfl⟩ := ix_of hn h1.1 h1.2
    exact ⟨j, hj, rfl, by rw [qof, if_pos h1, nI_cl (by omega)], nor_of h1⟩
  · exact absurd e (by simp)
theorem qof_n {n : Nat} {Q : Nat → Option Nat} {a : Nat → Nat} {h : Int32} (hQ : ∀ j, j < n → Q j = some (a j)) (hn : n < 2 ^ 31) (e : qof n Q h = none) : h < 0 ∨ nI n ≤ h := by
  unfold qof at e
  split at e
  · next h1 =>
    obtain ⟨j, hj, rfl⟩ := ix_of hn h1.1 h1.2
    rw [nI_cl (by omega), hQ j hj] at e
    exact absurd e (by simp)
  · next h1 => exact nand_or h1
theorem tl_2 {x : Nat} (h : x ≤ 59) : nI x + 100 + nI x = 2 * nI x + 100 := (by decide : ∀ x, x < 60 → nI x + 100 + nI x = 2 * nI x + 100) x (by omega)
theorem crp_t2 {S : ZA} {hA dA : Nat → Nat} {I : Nat → Int32} {L : Nat → Int64} {QH QD : Nat → Option Nat} {RI : Nat → Nat → Int32} {RL : Nat → Nat → Int64} (h : crp S hA dA I L QH QD RI RL) (v : Int32) : crp (st_ S (31 * atr S + v)) hA dA (upd I 19 (31 * I 19 + v)) L QH QD RI RL := by rw [h.2.2.1]; exact crp_t h _
set_option maxHeartbeats 600000 in
set_option maxRecDepth 20000 in
theorem c_Tue_tell (G : ZG) (ad : Nat → Nat) (I : Nat → Int32) (L : Nat → Int64) (g : Option Nat) (QH QD : Nat → Option Nat) (RI : Nat → Nat → Int32) (RL : Nat → Nat → Int64) (X : va_W) (S : ZA) (hA dA : Nat → Nat) (hm : crp S hA dA I L QH QD RI RL) (h : Int32) : ZM G y_Tue_tell b_Tue_tell 3 (some .int) r_Tue_tell [.ref (ad 0), .int h] (cw G ad I L g none QH QD RI RL ++ pw hA dA (aT S) X) (cpi G ad X (ap_tell S h).1 (ap_tell S h).2) := by
  refine ZM.of "SameTuesday" "tell" rfl rfl (by decide) (Nat.le_of_ble_eq_true rfl) (fun Y C hq => ?_)
  change ZV G Y 0 0 0 [(0, .ref (ad 0)), (1, .int h)] [] (cw G ad I L g none QH QD RI RL ++ pw hA dA (aT S) X)
  refine zx_aload C d_Tue_tell_0 rfl ?_
  refine zx_get C f_Tue_21_11 d_Tue_tell_1 0 zcw_0 rfl ?_
  refine zx_iload C d_Tue_tell_4 rfl ?_
  refine zr_dq (zr_V C l_Tue_93 d_Tue_tell_5 (As := [_]) rfl rfl (Nat.le_of_ble_eq_true rfl) (c_Twn_happeningOf G _ _ _ _ _ _ _ _ _ _ (aT S).1 hm.2.2.2.2.2.2.1.1 hm.1.2.1.1 _) 10 zcw_10 rfl ⟨Nat.le_of_ble_eq_true rfl, Nat.le_of_ble_eq_true rfl, Nat.le_of_ble_eq_true rfl, Nat.le_of_ble_eq_true rfl⟩) ?_
  refine zx_astoreq C d_Tue_tell_8 (by decide) (lv1 := [(2, _), (0, _), (1, _)]) rfl ?_
  refine zx_aloadq C d_Tue_tell_9 rfl ?_
  refine zx_ifnonnull C d_Tue_tell_10 (fun a10 h10 => ?_) (fun h10 => ?_)
  · have h6 := hm.1.2.1.1
    obtain ⟨j, hj, rfl, ej, nj⟩ := qof_s (by omega) h10
    rw [ej, hm.2.2.2.2.2.2.1.2.2.2.2.1 j hj]
    have hk := (hm.1.2.1.2.2.2.1 j hj)
    refine zx_aload C d_Tue_tell_17 rfl ?_
    refine zx_aload C d_Tue_tell_18 rfl ?_
    refine zx_get C f_Tue_51_11 d_Tue_tell_19 0 zcw_0 rfl ?_
    rcases k3 hk.1 with h0 | h0 | h0
    · have hw : (cw G ad I L g none QH QD RI RL ++ pw hA dA (aT S) X)[23 + j]? = some (hA j, .inr (2, hfs (aT S) j)) := by rw [zcw_ha hj, h0]; rfl
      have ev : ap_tell S (nI j) = (nI (tq (aT S) 1 j), st_ S (31 * atr S + 1)) := by rw [ap_tell, if_neg nj, nI_cl (by omega)]; rw [if_pos h0]
      refine zr_di (zr_U C u_Tue_247_Hap d_Tue_tell_22 (As := [_]) rfl rfl (Nat.le_of_ble_eq_true rfl) (c_Hap_telling G _ _ _ _ _ _ _ _ _ _ (aT S) hA dA j hj h0) (23 + j) hw rfl ⟨Nat.le_of_ble_eq_true rfl, Nat.le_of_ble_eq_true rfl, Nat.le_of_ble_eq_true rfl, Nat.le_of_ble_eq_true rfl⟩) ?_
      exact zx_iret C hq d_Tue_tell_25 (by rw [ev]; exact cpi_i rfl (crp_t2 hm 1))
    · have hw : (cw G ad I L g none QH QD RI RL ++ pw hA dA (aT S) X)[23 + j]? = some (hA j, .inr (5, hfs (aT S) j)) := by rw [zcw_ha hj, h0]; rfl
      have ev : ap_tell S (nI j) = (nI (tq (aT S) 1 j) + 100, st_ S (31 * (31 * atr S + 2) + 1)) := by rw [ap_tell, if_neg nj, nI_cl (by omega)]; rw [if_neg (by omega), if_pos h0]
      refine zr_di (zr_U C u_Tue_247_Mis d_Tue_tell_22 (As := [_]) rfl rfl (Nat.le_of_ble_eq_true rfl) (c_Mis_telling G _ _ _ _ _ _ _ _ _ _ (aT S) hA dA j hj h0) (23 + j) hw rfl ⟨Nat.le_of_ble_eq_true rfl, Nat.le_of_ble_eq_true rfl, Nat.le_of_ble_eq_true rfl, Nat.le_of_ble_eq_true rfl⟩) ?_
      exact zx_iret C hq d_Tue_tell_25 (by rw [ev]; exact cpi_i rfl (crp_t2 (crp_t2 hm 2) 1))
    · have hw : (cw G ad I L g none QH QD RI RL ++ pw hA dA (aT S) X)[23 + j]? = some (hA j, .inr (0, hfs (aT S) j)) := by rw [zcw_ha hj, h0]; rfl
      have ev : ap_tell S (nI j) = (2 * nI (tq (aT S) 1 j) + 100, st_ S (31 * (31 * (31 * (31 * atr S + 3) + 2) + 1) + 1)) := by rw [ap_tell, if_neg nj, nI_cl (by omega)]; rw [if_neg (by omega), if_neg (by omega)]
      refine zr_di (zr_U C u_Tue_247_Cap d_Tue_tell_22 (As := [_]) rfl rfl (Nat.le_of_ble_eq_true rfl) (c_Cap_telling G _ _ _ _ _ _ _ _ _ _ (aT S) hA dA j hj h0) (23 + j) hw rfl ⟨Nat.le_of_ble_eq_true rfl, Nat.le_of_ble_eq_true rfl, Nat.le_of_ble_eq_true rfl, Nat.le_of_ble_eq_true rfl⟩) ?_
      exact zx_iret C hq d_Tue_tell_25 (by rw [ev]; exact cpi_i (tl_2 hk.2.1) (crp_t2 (crp_t2 (crp_t2 (crp_t2 hm 3) 2) 1) 1))
  · have ev : ap_tell S h = (-1, S) := if_pos (qof_n hm.2.2.2.2.2.2.1.2.2.2.2.1 (by have := hm.1.2.1.1; omega) h10)
    have hm2 := hm
    refine zx_ic C d_Tue_tell_13 ?_
    refine zx_goto C d_Tue_tell_14 ?_
    exact zx_iret C hq d_Tue_tell_25 (by rw [ev]; exact cpi_i rfl hm2)
set_option maxHeartbeats 600000 in
set_option maxRecDepth 20000 in
theorem c_Tue_rhyme (G : ZG) (ad : Nat → Nat) (I : Nat → Int32) (L : Nat → Int64) (g : Option Nat) (QH QD : Nat → Option Nat) (RI : Nat → Nat → Int32) (RL : Nat → Nat → Int64) (X : va_W) (S : ZA) (hA dA : Nat → Nat) (hm : crp S hA dA I L QH QD RI RL) (h : Int32) : ZM G y_Tue_rhyme b_Tue_rhyme 3 (some .int) r_Tue_rhyme [.ref (ad 0), .int h] (cw G ad I L g none QH QD RI RL ++ pw hA dA (aT S) X) (cpi G ad X (ap_rhyme S h).1 (ap_rhyme S h).2) := by
  refine ZM.of "SameTuesday" "rhyme" rfl rfl (by decide) (Nat.le_of_ble_eq_true rfl) (fun Y C hq => ?_)
  change ZV G Y 0 0 0 [(0, .ref (ad 0)), (1, .int h)] [] (cw G ad I L g none QH QD RI RL ++ pw hA dA (aT S) X)
  refine zx_aload C d_Tue_rhyme_0 rfl ?_
  refine zx_get C f_Tue_21_11 d_Tue_rhyme_1 0 zcw_0 rfl ?_
  refine zx_iload C d_Tue_rhyme_4 rfl ?_
  refine zr_dq (zr_V C l_Tue_93 d_Tue_rhyme_5 (As := [_]) rfl rfl (Nat.le_of_ble_eq_true rfl) (c_Twn_happeningOf G _ _ _ _ _ _ _ _ _ _ (aT S).1 hm.2.2.2.2.2.2.1.1 hm.1.2.1.1 _) 10 zcw_10 rfl ⟨Nat.le_of_ble_eq_true rfl, Nat.le_of_ble_eq_true rfl, Nat.le_of_ble_eq_true rfl, Nat.le_of_ble_eq_true rfl⟩) ?_
  refine zx_astoreq C d_Tue_rhyme_8 (by decide) (lv1 := [(2, _), (0, _), (1, _)]) rfl ?_
  refine zx_aloadq C d_Tue_rhyme_9 rfl ?_
  refine zx_ifnonnull C d_Tue_rhyme_10 (fun a10 h10 => ?_) (fun h10 => ?_)
  · have h6 := hm.1.2.1.1
    obtain ⟨j, hj, rfl, ej, nj⟩ := qof_s (by omega) h10
    rw [ej, hm.2.2.2.2.2.2.1.2.2.2.2.1 j hj]
    have hk := (hm.1.2.1.2.2.2.1 j hj)
    refine zx_aload C d_Tue_rhyme_17 rfl ?_
    refine zx_aload C d_Tue_rhyme_18 rfl ?_
    refine zx_get C f_Tue_51_11 d_Tue_rhyme_19 0 zcw_0 rfl ?_
    rcases k3 hk.1 with h0 | h0 | h0
    · have hw : (cw G ad I L g none QH QD RI RL ++ pw hA dA (aT S) X)[23 + j]? = some (hA j, .inr (2, hfs (aT S) j)) := by rw [zcw_ha hj, h0]; rfl
      have ev : ap_rhyme S (nI j) = (nI j, st_ S (31 * atr S + 4)) := by rw [ap_rhyme, if_neg nj, nI_cl (by omega)]; rw [if_neg (by omega)]
      refine zr_di (zr_U C u_Tue_251_Hap d_Tue_rhyme_22 (As := [_]) rfl rfl (Nat.le_of_ble_eq_true rfl) (c_Hap_rhymed G _ _ _ _ _ _ _ _ _ _ (aT S) hA dA j hj) (23 + j) hw rfl ⟨Nat.le_of_ble_eq_true rfl, Nat.le_of_ble_eq_true rfl, Nat.le_of_ble_eq_true rfl, Nat.le_of_ble_eq_true rfl⟩) ?_
      exact zx_iret C hq d_Tue_rhyme_25 (by rw [ev]; exact cpi_i rfl (crp_t2 hm 4))
    · have hw : (cw G ad I L g none QH QD RI RL ++ pw hA dA (aT S) X)[23 + j]? = some (hA j, .inr (5, hfs (aT S) j)) := by rw [zcw_ha hj, h0]; rfl
      have ev : ap_rhyme S (nI j) = (nI j, st_ S (31 * atr S + 4)) := by rw [ap_rhyme, if_neg nj, nI_cl (by omega)]; rw [if_neg (by omega)]
      refine zr_di (zr_U C u_Tue_251_Mis d_Tue_rhyme_22 (As := [_]) rfl rfl (Nat.le_of_ble_eq_true rfl) (c_Hap_rhymed G _ _ _ _ _ _ _ _ _ _ (aT S) hA dA j hj) (23 + j) hw rfl ⟨Nat.le_of_ble_eq_true rfl, Nat.le_of_ble_eq_true rfl, Nat.le_of_ble_eq_true rfl, Nat.le_of_ble_eq_true rfl⟩) ?_
      exact zx_iret C hq d_Tue_rhyme_25 (by rw [ev]; exact cpi_i rfl (crp_t2 hm 4))
    · have hw : (cw G ad I L g none QH QD RI RL ++ pw hA dA (aT S) X)[23 + j]? = some (hA j, .inr (0, hfs (aT S) j)) := by rw [zcw_ha hj, h0]; rfl
      have ev : ap_rhyme S (nI j) = (40, st_ S (31 * atr S + 5)) := by rw [ap_rhyme, if_neg nj, nI_cl (by omega)]; rw [if_pos h0]
      refine zr_di (zr_U C u_Tue_251_Cap d_Tue_rhyme_22 (As := [_]) rfl rfl (Nat.le_of_ble_eq_true rfl) (c_Cap_rhymed G _ _ _ _ _ _ _ _ _ _ (aT S) hA dA j hj) (23 + j) hw rfl ⟨Nat.le_of_ble_eq_true rfl, Nat.le_of_ble_eq_true rfl, Nat.le_of_ble_eq_true rfl, Nat.le_of_ble_eq_true rfl⟩) ?_
      exact zx_iret C hq d_Tue_rhyme_25 (by rw [ev]; exact cpi_i rfl (crp_t2 hm 5))
  · have ev : ap_rhyme S h = (-1, S) := if_pos (qof_n hm.2.2.2.2.2.2.1.2.2.2.2.1 (by have := hm.1.2.1.1; omega) h10)
    have hm2 := hm
    refine zx_ic C d_Tue_rhyme_13 ?_
    refine zx_goto C d_Tue_rhyme_14 ?_
    exact zx_iret C hq d_Tue_rhyme_25 (by rw [ev]; exact cpi_i rfl hm2)
