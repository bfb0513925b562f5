theorem zb_fit_n {C : String} : zb_fit (.object C) .null := ⟨rfl, rfl⟩
theorem zb_fit_r {C : String} {a : Nat} : zb_fit (.object C) (.ref a) := ⟨rfl, rfl⟩
theorem zb_fit_q {C : String} {r : Option Nat} : zb_fit (.object C) (va_rf r) := by cases r <;> exact ⟨rfl, rfl⟩
theorem le_s2 {v : Int32} : 3 ≤ v ↔ 2 < v := by rw [Int32.le_iff_toInt_le, Int32.lt_iff_toInt_lt, show (3 : Int32).toInt = 3 from rfl, show (2 : Int32).toInt = 2 from rfl]; omega
theorem le_s3 {v : Int32} : 4 ≤ v ↔ 3 < v := by rw [Int32.le_iff_toInt_le, Int32.lt_iff_toInt_lt, show (4 : Int32).toInt = 4 from rfl, show (3 : Int32).toInt = 3 from rfl]; omega
theorem le_s59 {v : Int32} : 60 ≤ v ↔ 59 < v := by rw [Int32.le_iff_toInt_le, Int32.lt_iff_toInt_lt, show (60 : Int32).toInt = 60 from rfl, show (59 : Int32).toInt = 59 from rfl]; omega
theorem le_s63 {v : Int32} : 64 ≤ v ↔ 63 < v := by rw [Int32.le_iff_toInt_le, Int32.lt_iff_toInt_lt, show (64 : Int32).toInt = 64 from rfl, show (63 : Int32).toInt = 63 from rfl]; omega
def qof (n : Nat) (Q : Nat → Option Nat) (h : Int32) : Option Nat := if ¬ h < 0 ∧ ¬ nI n ≤ h then Q h.toNatClampNeg else none
def ww (f : Nat) : Int64 := if f < 6 then zb_so f else -1
set_option maxHeartbeats 4000000 in
set_option maxRecDepth 20000 in
theorem c_Tue_isLane (G : ZG) (w : va_W) (v : Int32) : ZM G y_Tue_isLane b_Tue_isLane 1 (some .boolean) r_Tue_isLane [.int v] w (zdi (zB (¬ v < 0 ∧ ¬ 2 < v)) w) := by
  refine ZM.of "SameTuesday" "isLane" rfl rfl (by decide) (Nat.le_of_ble_eq_true rfl) (fun Y C hq => ?_)
  change ZV G Y 0 0 0 [(0, .int v)] [] w
  refine zx_iload C d_Tue_isLane_0 rfl ?_
  refine zx_if_lt C d_Tue_isLane_1 (fun h1 => ?_) (fun h1 => ?_)
  · refine zx_ic C d_Tue_isLane_13 ?_
    exact zx_zret C hq (by decide) d_Tue_isLane_14 (⟨by unfold zB; split <;> first | rfl | (exfalso; simp_all) | simp_all, rfl⟩)
  · refine zx_iload C d_Tue_isLane_4 rfl ?_
    refine zx_ic C d_Tue_isLane_5 ?_
    refine zx_ic_ge C d_Tue_isLane_6 (fun h6 => ?_) (fun h6 => ?_)
    · rw [le_s2] at h6
      refine zx_ic C d_Tue_isLane_13 ?_
      exact zx_zret C hq (by decide) d_Tue_isLane_14 (⟨by unfold zB; split <;> first | rfl | (exfalso; simp_all) | simp_all, rfl⟩)
    · rw [le_s2] at h6
      refine zx_ic C d_Tue_isLane_9 ?_
      refine zx_goto C d_Tue_isLane_10 ?_
      exact zx_zret C hq (by decide) d_Tue_isLane_14 (⟨by unfold zB; split <;> first | rfl | (exfalso; simp_all) | simp_all, rfl⟩)
set_option maxHeartbeats 4000000 in
set_option maxRecDepth 20000 in
theorem c_Tue_isSet (G : ZG) (w : va_W) (v : Int32) : ZM G y_Tue_isSet b_Tue_isSet 1 (some .boolean) r_Tue_isSet [.int v] w (zdi (zB (¬ v < 0 ∧ ¬ 63 < v)) w) := by
  refine ZM.of "SameTuesday" "isSet" rfl rfl (by decide) (Nat.le_of_ble_eq_true rfl) (fun Y C hq => ?_)
  change ZV G Y 0 0 0 [(0, .int v)] [] w
  refine zx_iload C d_Tue_isSet_0 rfl ?_
  refine zx_if_lt C d_Tue_isSet_1 (fun h1 => ?_) (fun h1 => ?_)
  · refine zx_ic C d_Tue_isSet_14 ?_
    exact zx_zret C hq (by decide) d_Tue_isSet_15 (⟨by unfold zB; split <;> first | rfl | (exfalso; simp_all) | simp_all, rfl⟩)
  · refine zx_iload C d_Tue_isSet_4 rfl ?_
    refine zx_ic C d_Tue_isSet_5 ?_
    refine zx_ic_ge C d_Tue_isSet_7 (fun h7 => ?_) (fun h7 => ?_)
    · rw [le_s63] at h7
      refine zx_ic C d_Tue_isSet_14 ?_
      exact zx_zret C hq (by decide) d_Tue_isSet_15 (⟨by unfold zB; split <;> first | rfl | (exfalso; simp_all) | simp_all, rfl⟩)
    · rw [le_s63] at h7
      refine zx_ic C d_Tue_isSet_10 ?_
      refine zx_goto C d_Tue_isSet_11 ?_
      exact zx_zret C hq (by decide) d_Tue_isSet_15 (⟨by unfold zB; split <;> first | rfl | (exfalso; simp_all) | simp_all, rfl⟩)
set_option maxHeartbeats 4000000 in
set_option maxRecDepth 20000 in
theorem c_Tue_isMinute (G : ZG) (w : va_W) (v : Int32) : ZM G y_Tue_isMinute b_Tue_isMinute 1 (some .boolean) r_Tue_isMinute [.int v] w (zdi (zB (¬ v < 0 ∧ ¬ 59 < v)) w) := by
  refine ZM.of "SameTuesday" "isMinute" rfl rfl (by decide) (Nat.le_of_ble_eq_true rfl) (fun Y C hq => ?_)
  change ZV G Y 0 0 0 [(0, .int v)] [] w
  refine zx_iload C d_Tue_isMinute_0 rfl ?_
  refine zx_if_lt C d_Tue_isMinute_1 (fun h1 => ?_) (fun h1 => ?_)
  · refine zx_ic C d_Tue_isMinute_14 ?_
    exact zx_zret C hq (by decide) d_Tue_isMinute_15 (⟨by unfold zB; split <;> first | rfl | (exfalso; simp_all) | simp_all, rfl⟩)
  · refine zx_iload C d_Tue_isMinute_4 rfl ?_
    refine zx_ic C d_Tue_isMinute_5 ?_
    refine zx_ic_ge C d_Tue_isMinute_7 (fun h7 => ?_) (fun h7 => ?_)
    · rw [le_s59] at h7
      refine zx_ic C d_Tue_isMinute_14 ?_
      exact zx_zret C hq (by decide) d_Tue_isMinute_15 (⟨by unfold zB; split <;> first | rfl | (exfalso; simp_all) | simp_all, rfl⟩)
    · rw [le_s59] at h7
      refine zx_ic C d_Tue_isMinute_10 ?_
      refine zx_goto C d_Tue_isMinute_11 ?_
      exact zx_zret C hq (by decide) d_Tue_isMinute_15 (⟨by unfold zB; split <;> first | rfl | (exfalso; simp_all) | simp_all, rfl⟩)
set_option maxHeartbeats 4000000 in
set_option maxRecDepth 20000 in
theorem c_Tue_fault (G : ZG) (ad : Nat → Nat) (I : Nat → Int32) (L : Nat → Int64) (g z : Option Nat) (QH QD : Nat → Option Nat) (RI : Nat → Nat → Int32) (RL : Nat → Nat → Int64) (X : va_W)  : ZM G y_Tue_fault b_Tue_fault 1 (some .int) r_Tue_fault [.ref (ad 0)] (cw G ad I L g z QH QD RI RL ++ X) (zdi (I 0) (cw G ad I L g z QH QD RI RL ++ X)) := by
  refine ZM.of "SameTuesday" "fault" rfl rfl (by decide) (Nat.le_of_ble_eq_true rfl) (fun Y C hq => ?_)
  change ZV G Y 0 0 0 [(0, .ref (ad 0))] [] (cw G ad I L g z QH QD RI RL ++ X)
  refine zx_aload C d_Tue_fault_0 rfl ?_
  refine zx_get C f_Tue_55_11 d_Tue_fault_1 0 zcw_0 rfl ?_
  exact zx_iret C hq d_Tue_fault_4 (⟨rfl, rfl⟩)
set_option maxHeartbeats 4000000 in
set_option maxRecDepth 20000 in
theorem c_Tue_faulty (G : ZG) (ad : Nat → Nat) (I : Nat → Int32) (L : Nat → Int64) (g z : Option Nat) (QH QD : Nat → Option Nat) (RI : Nat → Nat → Int32) (RL : Nat → Nat → Int64) (X : va_W) (v : Int32) : ZM G y_Tue_faulty b_Tue_faulty 2 (some .int) r_Tue_faulty [.ref (ad 0), .int v] (cw G ad I L g z QH QD RI RL ++ X) (zdi (-10 - v) (cw G ad (upd I 0 v) L g z QH QD RI RL ++ X)) := by
  refine ZM.of "SameTuesday" "faulty" rfl rfl (by decide) (Nat.le_of_ble_eq_true rfl) (fun Y C hq => ?_)
  change ZV G Y 0 0 0 [(0, .ref (ad 0)), (1, .int v)] [] (cw G ad I L g z QH QD RI RL ++ X)
  refine zx_aload C d_Tue_faulty_0 rfl ?_
  refine zx_iload C d_Tue_faulty_1 rfl ?_
  refine zx_put C p_Tue_55_11 d_Tue_faulty_2 0 zcw_0 zb_fit_i (Nat.le_of_ble_eq_true rfl) zcs_0_6 ?_
  refine zx_ic C d_Tue_faulty_5 ?_
  refine zx_iload C d_Tue_faulty_7 rfl ?_
  refine zx_isub C d_Tue_faulty_8 ?_
  exact zx_iret C hq d_Tue_faulty_9 (⟨rfl, rfl⟩)
set_option maxHeartbeats 4000000 in
set_option maxRecDepth 20000 in
theorem c_Trc_value (G : ZG) (ad : Nat → Nat) (I : Nat → Int32) (L : Nat → Int64) (g z : Option Nat) (QH QD : Nat → Option Nat) (RI : Nat → Nat → Int32) (RL : Nat → Nat → Int64) (X : va_W)  : ZM G y_Trc_value b_Trc_value 1 (some .int) r_Trc_value [.ref (ad 22)] (cw G ad I L g z QH QD RI RL ++ X) (zdi (I 19) (cw G ad I L g z QH QD RI RL ++ X)) := by
  refine ZM.of "SameTuesday$Trace" "value" rfl rfl (by decide) (Nat.le_of_ble_eq_true rfl) (fun Y C hq => ?_)
  change ZV G Y 0 0 0 [(0, .ref (ad 22))] [] (cw G ad I L g z QH QD RI RL ++ X)
  refine zx_aload C d_Trc_value_0 rfl ?_
  refine zx_get C f_Trc_7_10 d_Trc_value_1 22 zcw_22 rfl ?_
  exact zx_iret C hq d_Trc_value_4 (⟨rfl, rfl⟩)
set_option maxHeartbeats 4000000 in
set_option maxRecDepth 20000 in
theorem c_Trc_leave (G : ZG) (ad : Nat → Nat) (I : Nat → Int32) (L : Nat → Int64) (g z : Option Nat) (QH QD : Nat → Option Nat) (RI : Nat → Nat → Int32) (RL : Nat → Nat → Int64) (X : va_W) (v : Int32) : ZM G y_Trc_leave b_Trc_leave 2 none r_Trc_leave [.ref (ad 22), .int v] (cw G ad I L g z QH QD RI RL ++ X) (zdv (cw G ad (upd I 19 (31 * I 19 + v)) L g z QH QD RI RL ++ X)) := by
  refine ZM.of "SameTuesday$Trace" "leave" rfl rfl (by decide) (Nat.le_of_ble_eq_true rfl) (fun Y C hq => ?_)
  change ZV G Y 0 0 0 [(0, .ref (ad 22)), (1, .int v)] [] (cw G ad I L g z QH QD RI RL ++ X)
  refine zx_aload C d_Trc_leave_0 rfl ?_
  refine zx_ic C d_Trc_leave_1 ?_
  refine zx_aload C d_Trc_leave_3 rfl ?_
  refine zx_get C f_Trc_7_10 d_Trc_leave_4 22 zcw_22 rfl ?_
  refine zx_imul C d_Trc_leave_7 ?_
  refine zx_iload C d_Trc_leave_8 rfl ?_
  refine zx_iadd C d_Trc_leave_9 ?_
  refine zx_put C p_Trc_7_10 d_Trc_leave_10 22 zcw_22 zb_fit_i (Nat.le_of_ble_eq_true rfl) zcs_22_0 ?_
  exact zx_vret C hq d_Trc_leave_13 (⟨rfl, rfl⟩)
set_option maxHeartbeats 4000000 in
set_option maxRecDepth 20000 in
theorem c_Sht_hasNothing (G : ZG) (ad : Nat → Nat) (I : Nat → Int32) (L : Nat → Int64) (g z : Option Nat) (QH QD : Nat → Option Nat) (RI : Nat → Nat → Int32) (RL : Nat → Nat → Int64) (X : va_W) (k : Nat) (hk : k < 4)  : ZM G y_Sht_hasNothing b_Sht_hasNothing 1 (some .boolean) r_Sht_hasNothing [.ref (ad (2 + k))] (cw G ad I L g z QH QD RI RL ++ X) (zdi (zB (I (1 + k) = -1)) (cw G ad I L g z QH QD RI RL ++ X)) := by
  refine ZM.of "SameTuesday$Sheet" "hasNothing" rfl rfl (by decide) (Nat.le_of_ble_eq_true rfl) (fun Y C hq => ?_)
  change ZV G Y 0 0 0 [(0, .ref (ad (2 + k)))] [] (cw G ad I L g z QH QD RI RL ++ X)
  refine zx_aload C d_Sht_hasNothing_0 rfl ?_
  refine zx_get C f_Sht_15_7 d_Sht_hasNothing_1 (2 + k) (zcw_sh hk) rfl ?_
  refine zx_ic C d_Sht_hasNothing_4 ?_
  refine zx_ic_ne C d_Sht_hasNothing_5 (fun h5 => ?_) (fun h5 => ?_)
  · refine zx_ic C d_Sht_hasNothing_12 ?_
    exact zx_zret C hq (by decide) d_Sht_hasNothing_13 (⟨by unfold zB; split <;> first | rfl | (exfalso; simp_all) | simp_all, rfl⟩)
  · refine zx_ic C d_Sht_hasNothing_8 ?_
    refine zx_goto C d_Sht_hasNothing_9 ?_
    exact zx_zret C hq (by decide) d_Sht_hasNothing_13 (⟨by unfold zB; split <;> first | rfl | (exfalso; simp_all) | simp_all, rfl⟩)
set_option maxHeartbeats 4000000 in
set_option maxRecDepth 20000 in
theorem c_Sht_isOf (G : ZG) (ad : Nat → Nat) (I : Nat → Int32) (L : Nat → Int64) (g z : Option Nat) (QH QD : Nat → Option Nat) (RI : Nat → Nat → Int32) (RL : Nat → Nat → Int64) (X : va_W) (k : Nat) (hk : k < 4) (l : Int32) : ZM G y_Sht_isOf b_Sht_isOf 2 (some .boolean) r_Sht_isOf [.ref (ad (2 + k)), .int l] (cw G ad I L g z QH QD RI RL ++ X) (zdi (zB (I (1 + k) = l)) (cw G ad I L g z QH QD RI RL ++ X)) := by
  refine ZM.of "SameTuesday$Sheet" "isOf" rfl rfl (by decide) (Nat.le_of_ble_eq_true rfl) (fun Y C hq => ?_)
  change ZV G Y 0 0 0 [(0, .ref (ad (2 + k))), (1, .int l)] [] (cw G ad I L g z QH QD RI RL ++ X)
  refine zx_aload C d_Sht_isOf_0 rfl ?_
  refine zx_get C f_Sht_15_7 d_Sht_isOf_1 (2 + k) (zcw_sh hk) rfl ?_
  refine zx_iload C d_Sht_isOf_4 rfl ?_
  refine zx_ic_ne C d_Sht_isOf_5 (fun h5 => ?_) (fun h5 => ?_)
  · refine zx_ic C d_Sht_isOf_12 ?_
    exact zx_zret C hq (by decide) d_Sht_isOf_13 (⟨by unfold zB; split <;> first | rfl | (exfalso; simp_all) | simp_all, rfl⟩)
  · refine zx_ic C d_Sht_isOf_8 ?_
    refine zx_goto C d_Sht_isOf_9 ?_
    exact zx_zret C hq (by decide) d_Sht_isOf_13 (⟨by unfold zB; split <;> first | rfl | (exfalso; simp_all) | simp_all, rfl⟩)
set_option maxHeartbeats 4000000 in
set_option maxRecDepth 20000 in
theorem c_Sht_isLike (G : ZG) (ad : Nat → Nat) (I : Nat → Int32) (L : Nat → Int64) (g z : Option Nat) (QH QD : Nat → Option Nat) (RI : Nat → Nat → Int32) (RL : Nat → Nat → Int64) (X : va_W) (k : Nat) (hk : k < 4) (k2 : Nat) (hk2 : k2 < 4) : ZM G y_Sht_isLike b_Sht_isLike 2 (some .boolean) r_Sht_isLike [.ref (ad (2 + k)), .ref (ad (2 + k2))] (cw G ad I L g z QH QD RI RL ++ X) (zdi (zB (I (1 + k) = I (1 + k2))) (cw G ad I L g z QH QD RI RL ++ X)) := by
  refine ZM.of "SameTuesday$Sheet" "isLike" rfl rfl (by decide) (Nat.le_of_ble_eq_true rfl) (fun Y C hq => ?_)
  change ZV G Y 0 0 0 [(0, .ref (ad (2 + k))), (1, .ref (ad (2 + k2)))] [] (cw G ad I L g z QH QD RI RL ++ X)
  refine zx_aload C d_Sht_isLike_0 rfl ?_
  refine zx_get C f_Sht_15_7 d_Sht_isLike_1 (2 + k) (zcw_sh hk) rfl ?_
  refine zx_aload C d_Sht_isLike_4 rfl ?_
  refine zx_get C f_Sht_15_7 d_Sht_isLike_5 (2 + k2) (zcw_sh hk2) rfl ?_
  refine zx_ic_ne C d_Sht_isLike_8 (fun h8 => ?_) (fun h8 => ?_)
  · refine zx_ic C d_Sht_isLike_15 ?_
    exact zx_zret C hq (by decide) d_Sht_isLike_16 (⟨by unfold zB; split <;> first | rfl | (exfalso; simp_all) | simp_all, rfl⟩)
  · refine zx_ic C d_Sht_isLike_11 ?_
    refine zx_goto C d_Sht_isLike_12 ?_
    exact zx_zret C hq (by decide) d_Sht_isLike_16 (⟨by unfold zB; split <;> first | rfl | (exfalso; simp_all) | simp_all, rfl⟩)
set_option maxHeartbeats 4000000 in
set_option maxRecDepth 20000 in
theorem c_Sht_empty (G : ZG) (ad : Nat → Nat) (I : Nat → Int32) (L : Nat → Int64) (g z : Option Nat) (QH QD : Nat → Option Nat) (RI : Nat → Nat → Int32) (RL : Nat → Nat → Int64) (X : va_W) (k : Nat) (hk : k < 4)  : ZM G y_Sht_empty b_Sht_empty 1 none r_Sht_empty [.ref (ad (2 + k))] (cw G ad I L g z QH QD RI RL ++ X) (zdv (cw G ad (upd (upd I (1 + k) (-1)) (5 + k) 0) L g z QH QD RI RL ++ X)) := by
  refine ZM.of "SameTuesday$Sheet" "empty" rfl rfl (by decide) (Nat.le_of_ble_eq_true rfl) (fun Y C hq => ?_)
  change ZV G Y 0 0 0 [(0, .ref (ad (2 + k)))] [] (cw G ad I L g z QH QD RI RL ++ X)
  refine zx_aload C d_Sht_empty_0 rfl ?_
  refine zx_ic C d_Sht_empty_1 ?_
  refine zx_put C p_Sht_15_7 d_Sht_empty_2 (2 + k) (zcw_sh hk) zb_fit_i (Nat.le_of_ble_eq_true rfl) (zcs_sh_1 hk) ?_
  refine zx_aload C d_Sht_empty_5 rfl ?_
  refine zx_ic C d_Sht_empty_6 ?_
  refine zx_put C p_Sht_19_7 d_Sht_empty_7 (2 + k) (zcw_sh hk) zb_fit_i (Nat.le_of_ble_eq_true rfl) (zcs_sh_2 hk) ?_
  exact zx_vret C hq d_Sht_empty_10 (⟨rfl, rfl⟩)
set_option maxHeartbeats 4000000 in
set_option maxRecDepth 20000 in
theorem c_Sht_holds (G : ZG) (ad : Nat → Nat) (I : Nat → Int32) (L : Nat → Int64) (g z : Option Nat) (QH QD : Nat → Option Nat) (RI : Nat → Nat → Int32) (RL : Nat → Nat → Int64) (X : va_W) (k : Nat) (hk : k < 4) (i n : Int32) : ZM G y_Sht_holds b_Sht_holds 3 (some .boolean) r_Sht_holds [.ref (ad (2 + k)), .int i, .int n] (cw G ad I L g z QH QD RI RL ++ X) (zdi (zB (¬ i < 0 ∧ ¬ n < 0 ∧ ¬ I (5 + k) < i ∧ ¬ I (5 + k) - i < n)) (cw G ad I L g z QH QD RI RL ++ X)) := by
  refine ZM.of "SameTuesday$Sheet" "holds" rfl rfl (by decide) (Nat.le_of_ble_eq_true rfl) (fun Y C hq => ?_)
  change ZV G Y 0 0 0 [(0, .ref (ad (2 + k))), (1, .int i), (2, .int n)] [] (cw G ad I L g z QH QD RI RL ++ X)
  refine zx_iload C d_Sht_holds_0 rfl ?_
  refine zx_if_lt C d_Sht_holds_1 (fun h1 => ?_) (fun h1 => ?_)
  · refine zx_ic C d_Sht_holds_30 ?_
    exact zx_zret C hq (by decide) d_Sht_holds_31 (⟨by unfold zB; split <;> first | rfl | (exfalso; simp_all) | simp_all, rfl⟩)
  · refine zx_iload C d_Sht_holds_4 rfl ?_
    refine zx_if_lt C d_Sht_holds_5 (fun h5 => ?_) (fun h5 => ?_)
    · refine zx_ic C d_Sht_holds_30 ?_
      exact zx_zret C hq (by decide) d_Sht_holds_31 (⟨by unfold zB; split <;> first | rfl | (exfalso; simp_all) | simp_all, rfl⟩)
    · refine zx_iload C d_Sht_holds_8 rfl ?_
      refine zx_aload C d_Sht_holds_9 rfl ?_
      refine zx_get C f_Sht_19_7 d_Sht_holds_10 (2 + k) (zcw_sh hk) rfl ?_
      refine zx_ic_gt C d_Sht_holds_13 (fun h13 => ?_) (fun h13 => ?_)
      · refine zx_ic C d_Sht_holds_30 ?_
        exact zx_zret C hq (by decide) d_Sht_holds_31 (⟨by unfold zB; split <;> first | rfl | (exfalso; simp_all) | simp_all, rfl⟩)
      · refine zx_iload C d_Sht_holds_16 rfl ?_
        refine zx_aload C d_Sht_holds_17 rfl ?_
        refine zx_get C f_Sht_19_7 d_Sht_holds_18 (2 + k) (zcw_sh hk) rfl ?_
        refine zx_iload C d_Sht_holds_21 rfl ?_
        refine zx_isub C d_Sht_holds_22 ?_
        refine zx_ic_gt C d_Sht_holds_23 (fun h23 => ?_) (fun h23 => ?_)
        · refine zx_ic C d_Sht_holds_30 ?_
          exact zx_zret C hq (by decide) d_Sht_holds_31 (⟨by unfold zB; split <;> first | rfl | (exfalso; simp_all) | simp_all, rfl⟩)
        · refine zx_ic C d_Sht_holds_26 ?_
          refine zx_goto C d_Sht_holds_27 ?_
          exact zx_zret C hq (by decide) d_Sht_holds_31 (⟨by unfold zB; split <;> first | rfl | (exfalso; simp_all) | simp_all, rfl⟩)
set_option maxHeartbeats 4000000 in
set_option maxRecDepth 20000 in
theorem c_Sht_cellAt (G : ZG) (ad : Nat → Nat) (I : Nat → Int32) (L : Nat → Int64) (g z : Option Nat) (QH QD : Nat → Option Nat) (RI : Nat → Nat → Int32) (RL : Nat → Nat → Int64) (X : va_W) (k : Nat) (hk : k < 4) (j m : Nat) (hm : I (5 + k) = nI m) (hj : j < m) (h60 : m ≤ 60) : ZM G y_Sht_cellAt b_Sht_cellAt 2 (some .int) r_Sht_cellAt [.ref (ad (2 + k)), .int (nI j)] (cw G ad I L g z QH QD RI RL ++ X) (zdi (RI k j) (cw G ad I L g z QH QD RI RL ++ X)) := by
  refine ZM.of "SameTuesday$Sheet" "cellAt" rfl rfl (by decide) (Nat.le_of_ble_eq_true rfl) (fun Y C hq => ?_)
  change ZV G Y 0 0 0 [(0, .ref (ad (2 + k))), (1, .int (nI j))] [] (cw G ad I L g z QH QD RI RL ++ X)
  refine zx_iload C d_Sht_cellAt_0 rfl ?_
  refine zx_if_lt C d_Sht_cellAt_1 (fun h1 => ?_) (fun h1 => ?_)
  · exact absurd h1 (nI_nn (by omega))
  · refine zx_iload C d_Sht_cellAt_4 rfl ?_
    refine zx_aload C d_Sht_cellAt_5 rfl ?_
    refine zx_get C f_Sht_19_7 d_Sht_cellAt_6 (2 + k) (zcw_sh hk) rfl ?_
    refine zx_ic_ge C d_Sht_cellAt_9 (fun h9 => ?_) (fun h9 => ?_)
    · exact absurd h9 (by show ¬ I (5 + k) ≤ _; rw [hm]; exact nI_ge (by omega) (by omega))
    · refine zx_aload C d_Sht_cellAt_12 rfl ?_
      refine zx_get C f_Sht_9_7 d_Sht_cellAt_13 (2 + k) (zcw_sh hk) rfl ?_
      refine zx_iload C d_Sht_cellAt_16 rfl ?_
      refine zx_iald C d_Sht_cellAt_17 (6 + k) (zcw_ce hk) j rfl (by omega) (by decide) ?_
      refine zx_goto C d_Sht_cellAt_18 ?_
      exact zx_iret C hq d_Sht_cellAt_22 (⟨rfl, rfl⟩)
set_option maxHeartbeats 4000000 in
set_option maxRecDepth 20000 in
theorem c_Twn_isTold (G : ZG) (ad : Nat → Nat) (I : Nat → Int32) (L : Nat → Int64) (g z : Option Nat) (QH QD : Nat → Option Nat) (RI : Nat → Nat → Int32) (RL : Nat → Nat → Int64) (X : va_W) (n : Nat) (hn : I 9 = nI n) (h6 : n ≤ 6) : ZM G y_Twn_isTold b_Twn_isTold 1 (some .boolean) r_Twn_isTold [.ref (ad 10)] (cw G ad I L g z QH QD RI RL ++ X) (zdi (zB (¬ n = 0)) (cw G ad I L g z QH QD RI RL ++ X)) := by
  refine ZM.of "SameTuesday$Town" "isTold" rfl rfl (by decide) (Nat.le_of_ble_eq_true rfl) (fun Y C hq => ?_)
  change ZV G Y 0 0 0 [(0, .ref (ad 10))] [] (cw G ad I L g z QH QD RI RL ++ X)
  refine zx_aload C d_Twn_isTold_0 rfl ?_
  refine zx_get C f_Twn_23_9 d_Twn_isTold_1 10 zcw_10 rfl ?_
  refine zx_if_le C d_Twn_isTold_4 (fun h4 => ?_) (fun h4 => ?_)
  · have h4 : n = 0 := by
      have z := h4
      rw [hn] at z; exact (nI_np (by omega)).mp z
    refine zx_ic C d_Twn_isTold_11 ?_
    exact zx_zret C hq (by decide) d_Twn_isTold_12 (⟨by unfold zB; split <;> first | rfl | (exfalso; simp_all) | simp_all, rfl⟩)
  · have h4 : ¬ n = 0 := by
      have z := h4
      intro z2; exact z (by rw [hn]; exact (nI_np (by omega)).mpr z2)
    refine zx_ic C d_Twn_isTold_7 ?_
    refine zx_goto C d_Twn_isTold_8 ?_
    exact zx_zret C hq (by decide) d_Twn_isTold_12 (⟨by unfold zB; split <;> first | rfl | (exfalso; simp_all) | simp_all, rfl⟩)
set_option maxHeartbeats 4000000 in
set_option maxRecDepth 20000 in
theorem c_Twn_happeningCount (G : ZG) (ad : Nat → Nat) (I : Nat → Int32) (L : Nat → Int64) (g z : Option Nat) (QH QD : Nat → Option Nat) (RI : Nat → Nat → Int32) (RL : Nat → Nat → Int64) (X : va_W)  : ZM G y_Twn_happeningCount b_Twn_happeningCount 1 (some .int) r_Twn_happeningCount [.ref (ad 10)] (cw G ad I L g z QH QD RI RL ++ X) (zdi (I 9) (cw G ad I L g z QH QD RI RL ++ X)) := by
  refine ZM.of "SameTuesday$Town" "happeningCount" rfl rfl (by decide) (Nat.le_of_ble_eq_true rfl) (fun Y C hq => ?_)
  change ZV G Y 0 0 0 [(0, .ref (ad 10))] [] (cw G ad I L g z QH QD RI RL ++ X)
  refine zx_aload C d_Twn_happeningCount_0 rfl ?_
  refine zx_get C f_Twn_23_9 d_Twn_happeningCount_1 10 zcw_10 rfl ?_
  exact zx_iret C hq d_Twn_happeningCount_4 (⟨rfl, rfl⟩)
set_option maxHeartbeats 4000000 in
set_option maxRecDepth 20000 in
theorem c_Twn_deedCount (G : ZG) (ad : Nat → Nat) (I : Nat → Int32) (L : Nat → Int64) (g z : Option Nat) (QH QD : Nat → Option Nat) (RI : Nat → Nat → Int32) (RL : Nat → Nat → Int64) (X : va_W)  : ZM G y_Twn_deedCount b_Twn_deedCount 1 (some .int) r_Twn_deedCount [.ref (ad 10)] (cw G ad I L g z QH QD RI RL ++ X) (zdi (I 10) (cw G ad I L g z QH QD RI RL ++ X)) := by
  refine ZM.of "SameTuesday$Town" "deedCount" rfl rfl (by decide) (Nat.le_of_ble_eq_true rfl) (fun Y C hq => ?_)
  change ZV G Y 0 0 0 [(0, .ref (ad 10))] [] (cw G ad I L g z QH QD RI RL ++ X)
  refine zx_aload C d_Twn_deedCount_0 rfl ?_
  refine zx_get C f_Twn_27_9 d_Twn_deedCount_1 10 zcw_10 rfl ?_
  exact zx_iret C hq d_Twn_deedCount_4 (⟨rfl, rfl⟩)
set_option maxHeartbeats 4000000 in
set_option maxRecDepth 20000 in
theorem c_Twn_minuteCount (G : ZG) (ad : Nat → Nat) (I : Nat → Int32) (L : Nat → Int64) (g z : Option Nat) (QH QD : Nat → Option Nat) (RI : Nat → Nat → Int32) (RL : Nat → Nat → Int64) (X : va_W)  : ZM G y_Twn_minuteCount b_Twn_minuteCount 1 (some .int) r_Twn_minuteCount [.ref (ad 10)] (cw G ad I L g z QH QD RI RL ++ X) (zdi (I 11) (cw G ad I L g z QH QD RI RL ++ X)) := by
  refine ZM.of "SameTuesday$Town" "minuteCount" rfl rfl (by decide) (Nat.le_of_ble_eq_true rfl) (fun Y C hq => ?_)
  change ZV G Y 0 0 0 [(0, .ref (ad 10))] [] (cw G ad I L g z QH QD RI RL ++ X)
  refine zx_aload C d_Twn_minuteCount_0 rfl ?_
  refine zx_get C f_Twn_30_9 d_Twn_minuteCount_1 10 zcw_10 rfl ?_
  exact zx_iret C hq d_Twn_minuteCount_4 (⟨rfl, rfl⟩)
set_option maxHeartbeats 4000000 in
set_option maxRecDepth 20000 in
theorem c_Twn_setMinutes (G : ZG) (ad : Nat → Nat) (I : Nat → Int32) (L : Nat → Int64) (g z : Option Nat) (QH QD : Nat → Option Nat) (RI : Nat → Nat → Int32) (RL : Nat → Nat → Int64) (X : va_W) (v : Int32) : ZM G y_Twn_setMinutes b_Twn_setMinutes 2 none r_Twn_setMinutes [.ref (ad 10), .int v] (cw G ad I L g z QH QD RI RL ++ X) (zdv (cw G ad (upd I 11 v) L g z QH QD RI RL ++ X)) := by
  refine ZM.of "SameTuesday$Town" "setMinutes" rfl rfl (by decide) (Nat.le_of_ble_eq_true rfl) (fun Y C hq => ?_)
  change ZV G Y 0 0 0 [(0, .ref (ad 10)), (1, .int v)] [] (cw G ad I L g z QH QD RI RL ++ X)
  refine zx_aload C d_Twn_setMinutes_0 rfl ?_
  refine zx_iload C d_Twn_setMinutes_1 rfl ?_
  refine zx_put C p_Twn_30_9 d_Twn_setMinutes_2 10 zcw_10 zb_fit_i (Nat.le_of_ble_eq_true rfl) zcs_10_4 ?_
  exact zx_vret C hq d_Twn_setMinutes_5 (⟨rfl, rfl⟩)
set_option maxHeartbeats 4000000 in
set_option maxRecDepth 20000 in
theorem c_Twn_minuteInDay (G : ZG) (ad : Nat → Nat) (I : Nat → Int32) (L : Nat → Int64) (g z : Option Nat) (QH QD : Nat → Option Nat) (RI : Nat → Nat → Int32) (RL : Nat → Nat → Int64) (X : va_W) (m : Int32) : ZM G y_Twn_minuteInDay b_Twn_minuteInDay 2 (some .int) r_Twn_minuteInDay [.ref (ad 10), .int m] (cw G ad I L g z QH QD RI RL ++ X) (zdi (if I 11 - 1 < m then I 11 - 1 else m) (cw G ad I L g z QH QD RI RL ++ X)) := by
  refine ZM.of "SameTuesday$Town" "minuteInDay" rfl rfl (by decide) (Nat.le_of_ble_eq_true rfl) (fun Y C hq => ?_)
  change ZV G Y 0 0 0 [(0, .ref (ad 10)), (1, .int m)] [] (cw G ad I L g z QH QD RI RL ++ X)
  refine zx_iload C d_Twn_minuteInDay_0 rfl ?_
  refine zx_aload C d_Twn_minuteInDay_1 rfl ?_
  refine zx_get C f_Twn_30_9 d_Twn_minuteInDay_2 10 zcw_10 rfl ?_
  refine zx_ic C d_Twn_minuteInDay_5 ?_
  refine zx_isub C d_Twn_minuteInDay_6 ?_
  refine zx_mmin C zk_math_Twn_42 d_Twn_minuteInDay_7 (Nat.le_of_ble_eq_true rfl) (Nat.le_of_ble_eq_true rfl) (Nat.le_of_ble_eq_true rfl) (Nat.le_of_ble_eq_true rfl) ?_
  exact zx_iret C hq d_Twn_minuteInDay_10 (⟨rfl, rfl⟩)
set_option maxHeartbeats 4000000 in
set_option maxRecDepth 20000 in
theorem c_Twn_happeningOf (G : ZG) (ad : Nat → Nat) (I : Nat → Int32) (L : Nat → Int64) (g z : Option Nat) (QH QD : Nat → Option Nat) (RI : Nat → Nat → Int32) (RL : Nat → Nat → Int64) (X : va_W) (n : Nat) (hn : I 9 = nI n) (h6 : n ≤ 6) (h : Int32) : ZM G y_Twn_happeningOf b_Twn_happeningOf 2 (some (.object "SameTuesday$Happening")) r_Twn_happeningOf [.ref (ad 10), .int h] (cw G ad I L g z QH QD RI RL ++ X) (zdq (qof n QH h) (cw G ad I L g z QH QD RI RL ++ X)) := by
  refine ZM.of "SameTuesday$Town" "happeningOf" rfl rfl (by decide) (Nat.le_of_ble_eq_true rfl) (fun Y C hq => ?_)
  change ZV G Y 0 0 0 [(0, .ref (ad 10)), (1, .int h)] [] (cw G ad I L g z QH QD RI RL ++ X)
  refine zx_iload C d_Twn_happeningOf_0 rfl ?_
  refine zx_if_lt C d_Twn_happeningOf_1 (fun h1 => ?_) (fun h1 => ?_)
  · have e1 : qof n QH h = none := if_neg (fun z => z.1 h1)
    refine zx_null C d_Twn_happeningOf_30 ?_
    exact zx_aret C hq (r := none) d_Twn_happeningOf_31 (⟨by rw [e1], rfl⟩)
  · refine zx_iload C d_Twn_happeningOf_4 rfl ?_
    refine zx_aload C d_Twn_happeningOf_5 rfl ?_
    refine zx_get C f_Twn_23_9 d_Twn_happeningOf_6 10 zcw_10 rfl ?_
    refine zx_ic_ge C d_Twn_happeningOf_9 (fun h9 => ?_) (fun h9 => ?_)
    · have e1 : qof n QH h = none := if_neg (fun z => z.2 (by have w := h9; rw [hn] at w; exact w))
      refine zx_null C d_Twn_happeningOf_30 ?_
      exact zx_aret C hq (r := none) d_Twn_happeningOf_31 (⟨by rw [e1], rfl⟩)
    · have h9 : ¬ nI n ≤ h := fun z => h9 (by rw [hn]; exact z)
      have e1 : qof n QH h = QH h.toNatClampNeg := if_pos ⟨h1, h9⟩
      obtain ⟨j, hj, rfl⟩ := ix_of (n := n) (by omega) h1 h9
      rw [nI_cl (by omega)] at e1
      refine zx_iload C d_Twn_happeningOf_12 rfl ?_
      refine zx_aload C d_Twn_happeningOf_13 rfl ?_
      refine zx_get C f_Twn_11_9 d_Twn_happeningOf_14 10 zcw_10 rfl ?_
      refine zx_alen C d_Twn_happeningOf_17 11 zcw_11 rfl ?_
      refine zx_ic_ge C d_Twn_happeningOf_18 (fun h18 => ?_) (fun h18 => ?_)
      · exact absurd h18 (by show ¬ nI 6 ≤ _; exact nI_ge (by omega) (by omega))
      · refine zx_aload C d_Twn_happeningOf_21 rfl ?_
        refine zx_get C f_Twn_11_9 d_Twn_happeningOf_22 10 zcw_10 rfl ?_
        refine zx_iload C d_Twn_happeningOf_25 rfl ?_
        refine zx_aald4 C d_Twn_happeningOf_26 11 zcw_11 j rfl (by omega) (by decide) ?_
        refine zx_goto C d_Twn_happeningOf_27 ?_
        exact zx_aret C hq d_Twn_happeningOf_31 (⟨by rw [e1], rfl⟩)
set_option maxHeartbeats 4000000 in
set_option maxRecDepth 20000 in
theorem c_Twn_deedOf (G : ZG) (ad : Nat → Nat) (I : Nat → Int32) (L : Nat → Int64) (g z : Option Nat) (QH QD : Nat → Option Nat) (RI : Nat → Nat → Int32) (RL : Nat → Nat → Int64) (X : va_W) (n : Nat) (hn : I 10 = nI n) (h6 : n ≤ 5) (h : Int32) : ZM G y_Twn_deedOf b_Twn_deedOf 2 (some (.object "SameTuesday$Deed")) r_Twn_deedOf [.ref (ad 10), .int h] (cw G ad I L g z QH QD RI RL ++ X) (zdq (qof n QD h) (cw G ad I L g z QH QD RI RL ++ X)) := by
  refine ZM.of "SameTuesday$Town" "deedOf" rfl rfl (by decide) (Nat.le_of_ble_eq_true rfl) (fun Y C hq => ?_)
  change ZV G Y 0 0 0 [(0, .ref (ad 10)), (1, .int h)] [] (cw G ad I L g z QH QD RI RL ++ X)
  refine zx_iload C d_Twn_deedOf_0 rfl ?_
  refine zx_if_lt C d_Twn_deedOf_1 (fun h1 => ?_) (fun h1 => ?_)
  · have e1 : qof n QD h = none := if_neg (fun z => z.1 h1)
    refine zx_null C d_Twn_deedOf_30 ?_
    exact zx_aret C hq (r := none) d_Twn_deedOf_31 (⟨by rw [e1], rfl⟩)
  · refine zx_iload C d_Twn_deedOf_4 rfl ?_
    refine zx_aload C d_Twn_deedOf_5 rfl ?_
    refine zx_get C f_Twn_27_9 d_Twn_deedOf_6 10 zcw_10 rfl ?_
    refine zx_ic_ge C d_Twn_deedOf_9 (fun h9 => ?_) (fun h9 => ?_)
    · have e1 : qof n QD h = none := if_neg (fun z => z.2 (by have w := h9; rw [hn] at w; exact w))
      refine zx_null C d_Twn_deedOf_30 ?_
      exact zx_aret C hq (r := none) d_Twn_deedOf_31 (⟨by rw [e1], rfl⟩)
    · have h9 : ¬ nI n ≤ h := fun z => h9 (by rw [hn]; exact z)
      have e1 : qof n QD h = QD h.toNatClampNeg := if_pos ⟨h1, h9⟩
      obtain ⟨j, hj, rfl⟩ := ix_of (n := n) (by omega) h1 h9
      rw [nI_cl (by omega)] at e1
      refine zx_iload C d_Twn_deedOf_12 rfl ?_
      refine zx_aload C d_Twn_deedOf_13 rfl ?_
      refine zx_get C f_Twn_19_9 d_Twn_deedOf_14 10 zcw_10 rfl ?_
      refine zx_alen C d_Twn_deedOf_17 12 zcw_12 rfl ?_
      refine zx_ic_ge C d_Twn_deedOf_18 (fun h18 => ?_) (fun h18 => ?_)
      · exact absurd h18 (by show ¬ nI 5 ≤ _; exact nI_ge (by omega) (by omega))
      · refine zx_aload C d_Twn_deedOf_21 rfl ?_
        refine zx_get C f_Twn_19_9 d_Twn_deedOf_22 10 zcw_10 rfl ?_
        refine zx_iload C d_Twn_deedOf_25 rfl ?_
        refine zx_aald5 C d_Twn_deedOf_26 12 zcw_12 j rfl (by omega) (by decide) ?_
        refine zx_goto C d_Twn_deedOf_27 ?_
        exact zx_aret C hq d_Twn_deedOf_31 (⟨by rw [e1], rfl⟩)
set_option maxHeartbeats 4000000 in
set_option maxRecDepth 20000 in
theorem c_Rch_spoil (G : ZG) (ad : Nat → Nat) (I : Nat → Int32) (L : Nat → Int64) (g z : Option Nat) (QH QD : Nat → Option Nat) (RI : Nat → Nat → Int32) (RL : Nat → Nat → Int64) (X : va_W)  : ZM G y_Rch_spoil b_Rch_spoil 1 none r_Rch_spoil [.ref (ad 17)] (cw G ad I L g z QH QD RI RL ++ X) (zdv (cw G ad (upd I 17 1) L g z QH QD RI RL ++ X)) := by
  refine ZM.of "SameTuesday$Reach" "spoil" rfl rfl (by decide) (Nat.le_of_ble_eq_true rfl) (fun Y C hq => ?_)
  change ZV G Y 0 0 0 [(0, .ref (ad 17))] [] (cw G ad I L g z QH QD RI RL ++ X)
  refine zx_aload C d_Rch_spoil_0 rfl ?_
  refine zx_ic C d_Rch_spoil_1 ?_
  refine zx_put C p_Rch_26_6 d_Rch_spoil_2 17 zcw_17 (zb_fit_z (by decide)) (Nat.le_of_ble_eq_true rfl) zcs_17_4 ?_
  exact zx_vret C hq d_Rch_spoil_5 (⟨rfl, rfl⟩)
set_option maxHeartbeats 4000000 in
set_option maxRecDepth 20000 in
theorem c_Law_dayCount (G : ZG) (ad : Nat → Nat) (I : Nat → Int32) (L : Nat → Int64) (g z : Option Nat) (QH QD : Nat → Option Nat) (RI : Nat → Nat → Int32) (RL : Nat → Nat → Int64) (X : va_W)  : ZM G y_Law_dayCount b_Law_dayCount 1 (some .int) r_Law_dayCount [.ref (ad 20)] (cw G ad I L g z QH QD RI RL ++ X) (zdi (I 18) (cw G ad I L g z QH QD RI RL ++ X)) := by
  refine ZM.of "SameTuesday$Law" "dayCount" rfl rfl (by decide) (Nat.le_of_ble_eq_true rfl) (fun Y C hq => ?_)
  change ZV G Y 0 0 0 [(0, .ref (ad 20))] [] (cw G ad I L g z QH QD RI RL ++ X)
  refine zx_aload C d_Law_dayCount_0 rfl ?_
  refine zx_get C f_Law_15_3 d_Law_dayCount_1 20 zcw_20 rfl ?_
  exact zx_iret C hq d_Law_dayCount_4 (⟨rfl, rfl⟩)
set_option maxHeartbeats 4000000 in
set_option maxRecDepth 20000 in
theorem c_Law_isFull (G : ZG) (ad : Nat → Nat) (I : Nat → Int32) (L : Nat → Int64) (g z : Option Nat) (QH QD : Nat → Option Nat) (RI : Nat → Nat → Int32) (RL : Nat → Nat → Int64) (X : va_W)  : ZM G y_Law_isFull b_Law_isFull 1 (some .boolean) r_Law_isFull [.ref (ad 20)] (cw G ad I L g z QH QD RI RL ++ X) (zdi (zB (¬ I 18 < 8)) (cw G ad I L g z QH QD RI RL ++ X)) := by
  refine ZM.of "SameTuesday$Law" "isFull" rfl rfl (by decide) (Nat.le_of_ble_eq_true rfl) (fun Y C hq => ?_)
  change ZV G Y 0 0 0 [(0, .ref (ad 20))] [] (cw G ad I L g z QH QD RI RL ++ X)
  refine zx_aload C d_Law_isFull_0 rfl ?_
  refine zx_get C f_Law_15_3 d_Law_isFull_1 20 zcw_20 rfl ?_
  refine zx_aload C d_Law_isFull_4 rfl ?_
  refine zx_get C f_Law_9_3 d_Law_isFull_5 20 zcw_20 rfl ?_
  refine zx_alen C d_Law_isFull_8 21 zcw_21 rfl ?_
  refine zx_ic_lt C d_Law_isFull_9 (fun h9 => ?_) (fun h9 => ?_)
  · have h9 : I 18 < 8 := h9
    refine zx_ic C d_Law_isFull_16 ?_
    exact zx_zret C hq (by decide) d_Law_isFull_17 (⟨by unfold zB; split <;> first | rfl | (exfalso; simp_all) | simp_all, rfl⟩)
  · have h9 : ¬ I 18 < 8 := h9
    refine zx_ic C d_Law_isFull_12 ?_
    refine zx_goto C d_Law_isFull_13 ?_
    exact zx_zret C hq (by decide) d_Law_isFull_17 (⟨by unfold zB; split <;> first | rfl | (exfalso; simp_all) | simp_all, rfl⟩)
set_option maxHeartbeats 4000000 in
set_option maxRecDepth 20000 in
theorem c_Law_addDay (G : ZG) (ad : Nat → Nat) (I : Nat → Int32) (L : Nat → Int64) (g z : Option Nat) (QH QD : Nat → Option Nat) (RI : Nat → Nat → Int32) (RL : Nat → Nat → Int64) (X : va_W) (n : Nat) (hn : I 18 = nI n) (h8 : n < 8) (v : Int32) : ZM G y_Law_addDay b_Law_addDay 2 none r_Law_addDay [.ref (ad 20), .int v] (cw G ad I L g z QH QD RI RL ++ X) (zdv (cw G ad (upd I 18 (nI (n + 1))) L g z QH QD (ur RI 6 (upd (RI 6) n v)) RL ++ X)) := by
  refine ZM.of "SameTuesday$Law" "addDay" rfl rfl (by decide) (Nat.le_of_ble_eq_true rfl) (fun Y C hq => ?_)
  change ZV G Y 0 0 0 [(0, .ref (ad 20)), (1, .int v)] [] (cw G ad I L g z QH QD RI RL ++ X)
  refine zx_aload C d_Law_addDay_0 rfl ?_
  refine zx_get C f_Law_15_3 d_Law_addDay_1 20 zcw_20 rfl ?_
  refine zx_if_lt C d_Law_addDay_4 (fun h4 => ?_) (fun h4 => ?_)
  · exact absurd h4 (by rw [hn]; exact nI_nn (by omega))
  · refine zx_aload C d_Law_addDay_7 rfl ?_
    refine zx_get C f_Law_15_3 d_Law_addDay_8 20 zcw_20 rfl ?_
    refine zx_aload C d_Law_addDay_11 rfl ?_
    refine zx_get C f_Law_9_3 d_Law_addDay_12 20 zcw_20 rfl ?_
    refine zx_alen C d_Law_addDay_15 21 zcw_21 rfl ?_
    refine zx_ic_ge C d_Law_addDay_16 (fun h16 => ?_) (fun h16 => ?_)
    · exact absurd h16 (by rw [hn]; exact nI_ge (b := 8) (by omega) (by omega))
    · refine zx_aload C d_Law_addDay_19 rfl ?_
      refine zx_get C f_Law_9_3 d_Law_addDay_20 20 zcw_20 rfl ?_
      refine zx_aload C d_Law_addDay_23 rfl ?_
      refine zx_get C f_Law_15_3 d_Law_addDay_24 20 zcw_20 rfl ?_
      refine zx_iload C d_Law_addDay_27 rfl ?_
      refine zx_iast C d_Law_addDay_28 21 zcw_21 n hn h8 (by decide) zca_21 ?_
      refine zx_aload C d_Law_addDay_29 rfl ?_
      refine zx_dup C rfl d_Law_addDay_30 ?_
      refine zx_get C f_Law_15_3 d_Law_addDay_31 20 zcw_20 rfl ?_
      refine zx_ic C d_Law_addDay_34 ?_
      refine zx_iadd C d_Law_addDay_35 ?_
      rw [hn, show (1 : Int32) = nI 1 from rfl, nI_add]
      refine zx_put C p_Law_15_3 d_Law_addDay_36 20 zcw_20 zb_fit_i (Nat.le_of_ble_eq_true rfl) zcs_20_1 ?_
      exact zx_vret C hq d_Law_addDay_39 (⟨rfl, rfl⟩)
set_option maxHeartbeats 4000000 in
set_option maxRecDepth 20000 in
theorem c_Law_dropLast (G : ZG) (ad : Nat → Nat) (I : Nat → Int32) (L : Nat → Int64) (g z : Option Nat) (QH QD : Nat → Option Nat) (RI : Nat → Nat → Int32) (RL : Nat → Nat → Int64) (X : va_W) (v : Int32) : ZM G y_Law_dropLast b_Law_dropLast 2 none r_Law_dropLast [.ref (ad 20), .int v] (cw G ad I L g z QH QD RI RL ++ X) (zdv (cw G ad (upd I 18 (if 0 < I 18 - v then I 18 - v else 0)) L g z QH QD RI RL ++ X)) := by
  refine ZM.of "SameTuesday$Law" "dropLast" rfl rfl (by decide) (Nat.le_of_ble_eq_true rfl) (fun Y C hq => ?_)
  change ZV G Y 0 0 0 [(0, .ref (ad 20)), (1, .int v)] [] (cw G ad I L g z QH QD RI RL ++ X)
  refine zx_aload C d_Law_dropLast_0 rfl ?_
  refine zx_ic C d_Law_dropLast_1 ?_
  refine zx_aload C d_Law_dropLast_2 rfl ?_
  refine zx_get C f_Law_15_3 d_Law_dropLast_3 20 zcw_20 rfl ?_
  refine zx_iload C d_Law_dropLast_6 rfl ?_
  refine zx_isub C d_Law_dropLast_7 ?_
  refine zx_mmax C zk_math_Law_19 d_Law_dropLast_8 (Nat.le_of_ble_eq_true rfl) (Nat.le_of_ble_eq_true rfl) (Nat.le_of_ble_eq_true rfl) (Nat.le_of_ble_eq_true rfl) ?_
  refine zx_put C p_Law_15_3 d_Law_dropLast_11 20 zcw_20 zb_fit_i (Nat.le_of_ble_eq_true rfl) zcs_20_1 ?_
  exact zx_vret C hq d_Law_dropLast_14 (⟨rfl, rfl⟩)
set_option maxHeartbeats 4000000 in
set_option maxRecDepth 20000 in
theorem c_Life_firstWrong (G : ZG) (ad : Nat → Nat) (I : Nat → Int32) (L : Nat → Int64) (g z : Option Nat) (QH QD : Nat → Option Nat) (RI : Nat → Nat → Int32) (RL : Nat → Nat → Int64) (X : va_W)  : ZM G y_Life_firstWrong b_Life_firstWrong 1 (some .int) r_Life_firstWrong [.ref (ad 13)] (cw G ad I L g z QH QD RI RL ++ X) (zdi (I 15) (cw G ad I L g z QH QD RI RL ++ X)) := by
  refine ZM.of "SameTuesday$Life" "firstWrong" rfl rfl (by decide) (Nat.le_of_ble_eq_true rfl) (fun Y C hq => ?_)
  change ZV G Y 0 0 0 [(0, .ref (ad 13))] [] (cw G ad I L g z QH QD RI RL ++ X)
  refine zx_aload C d_Life_firstWrong_0 rfl ?_
  refine zx_get C f_Life_44_4 d_Life_firstWrong_1 13 zcw_13 rfl ?_
  exact zx_iret C hq d_Life_firstWrong_4 (⟨rfl, rfl⟩)
set_option maxHeartbeats 4000000 in
set_option maxRecDepth 20000 in
theorem c_Life_noteWrong (G : ZG) (ad : Nat → Nat) (I : Nat → Int32) (L : Nat → Int64) (g z : Option Nat) (QH QD : Nat → Option Nat) (RI : Nat → Nat → Int32) (RL : Nat → Nat → Int64) (X : va_W) (v : Int32) : ZM G y_Life_noteWrong b_Life_noteWrong 2 none r_Life_noteWrong [.ref (ad 13), .int v] (cw G ad I L g z QH QD RI RL ++ X) (zdv (cw G ad (upd I 15 (if I 15 = -9 then v else I 15)) L g z QH QD RI RL ++ X)) := by
  refine ZM.of "SameTuesday$Life" "noteWrong" rfl rfl (by decide) (Nat.le_of_ble_eq_true rfl) (fun Y C hq => ?_)
  change ZV G Y 0 0 0 [(0, .ref (ad 13)), (1, .int v)] [] (cw G ad I L g z QH QD RI RL ++ X)
  refine zx_aload C d_Life_noteWrong_0 rfl ?_
  refine zx_get C f_Life_44_4 d_Life_noteWrong_1 13 zcw_13 rfl ?_
  refine zx_ic C d_Life_noteWrong_4 ?_
  refine zx_ic_ne C d_Life_noteWrong_6 (fun h6 => ?_) (fun h6 => ?_)
  · exact zx_vret C hq d_Life_noteWrong_14 (by first | (refine ⟨rfl, ?_⟩; rw [if_neg h6, show upd I 15 (I 15) = I from upd_self I 15]) | (refine ⟨rfl, ?_⟩; rw [if_pos (Classical.byContradiction h6)]) | (refine ⟨rfl, ?_⟩; rw [if_pos h6]))
  · refine zx_aload C d_Life_noteWrong_9 rfl ?_
    refine zx_iload C d_Life_noteWrong_10 rfl ?_
    refine zx_put C p_Life_44_4 d_Life_noteWrong_11 13 zcw_13 zb_fit_i (Nat.le_of_ble_eq_true rfl) zcs_13_9 ?_
    exact zx_vret C hq d_Life_noteWrong_14 (by first | (refine ⟨rfl, ?_⟩; rw [if_neg h6, show upd I 15 (I 15) = I from upd_self I 15]) | (refine ⟨rfl, ?_⟩; rw [if_pos (Classical.byContradiction h6)]) | (refine ⟨rfl, ?_⟩; rw [if_pos h6]))
set_option maxHeartbeats 4000000 in
set_option maxRecDepth 20000 in
theorem c_Life_minuteOfPair (G : ZG) (ad : Nat → Nat) (I : Nat → Int32) (L : Nat → Int64) (g z : Option Nat) (QH QD : Nat → Option Nat) (RI : Nat → Nat → Int32) (RL : Nat → Nat → Int64) (X : va_W) (j : Nat) (hj : j < 20) : ZM G y_Life_minuteOfPair b_Life_minuteOfPair 2 (some .int) r_Life_minuteOfPair [.ref (ad 13), .int (nI j)] (cw G ad I L g z QH QD RI RL ++ X) (zdi (RI 4 j) (cw G ad I L g z QH QD RI RL ++ X)) := by
  refine ZM.of "SameTuesday$Life" "minuteOfPair" rfl rfl (by decide) (Nat.le_of_ble_eq_true rfl) (fun Y C hq => ?_)
  change ZV G Y 0 0 0 [(0, .ref (ad 13)), (1, .int (nI j))] [] (cw G ad I L g z QH QD RI RL ++ X)
  refine zx_iload C d_Life_minuteOfPair_0 rfl ?_
  refine zx_if_lt C d_Life_minuteOfPair_1 (fun h1 => ?_) (fun h1 => ?_)
  · exact absurd h1 (nI_nn (by omega))
  · refine zx_iload C d_Life_minuteOfPair_4 rfl ?_
    refine zx_aload C d_Life_minuteOfPair_5 rfl ?_
    refine zx_get C f_Life_15_4 d_Life_minuteOfPair_6 13 zcw_13 rfl ?_
    refine zx_alen C d_Life_minuteOfPair_9 14 zcw_14 rfl ?_
    refine zx_ic_ge C d_Life_minuteOfPair_10 (fun h10 => ?_) (fun h10 => ?_)
    · exact absurd h10 (by show ¬ nI 20 ≤ _; exact nI_ge (by omega) (by omega))
    · refine zx_aload C d_Life_minuteOfPair_13 rfl ?_
      refine zx_get C f_Life_15_4 d_Life_minuteOfPair_14 13 zcw_13 rfl ?_
      refine zx_iload C d_Life_minuteOfPair_17 rfl ?_
      refine zx_iald C d_Life_minuteOfPair_18 14 zcw_14 j rfl (by omega) (by decide) ?_
      refine zx_goto C d_Life_minuteOfPair_19 ?_
      exact zx_iret C hq d_Life_minuteOfPair_23 (⟨rfl, rfl⟩)
set_option maxHeartbeats 4000000 in
set_option maxRecDepth 20000 in
theorem c_Life_deedOfPair (G : ZG) (ad : Nat → Nat) (I : Nat → Int32) (L : Nat → Int64) (g z : Option Nat) (QH QD : Nat → Option Nat) (RI : Nat → Nat → Int32) (RL : Nat → Nat → Int64) (X : va_W) (n : Nat) (hn : I 10 = nI n) (h5 : n ≤ 5) (j : Nat) (hj : j < 20) : ZM G y_Life_deedOfPair b_Life_deedOfPair 2 (some (.object "SameTuesday$Deed")) r_Life_deedOfPair [.ref (ad 13), .int (nI j)] (cw G ad I L g z QH QD RI RL ++ X) (zdq (qof n QD (RI 5 j)) (cw G ad I L g z QH QD RI RL ++ X)) := by
  refine ZM.of "SameTuesday$Life" "deedOfPair" rfl rfl (by decide) (Nat.le_of_ble_eq_true rfl) (fun Y C hq => ?_)
  change ZV G Y 0 0 0 [(0, .ref (ad 13)), (1, .int (nI j))] [] (cw G ad I L g z QH QD RI RL ++ X)
  refine zx_iload C d_Life_deedOfPair_0 rfl ?_
  refine zx_if_lt C d_Life_deedOfPair_1 (fun h1 => ?_) (fun h1 => ?_)
  · exact absurd h1 (nI_nn (by omega))
  · refine zx_iload C d_Life_deedOfPair_4 rfl ?_
    refine zx_aload C d_Life_deedOfPair_5 rfl ?_
    refine zx_get C f_Life_19_4 d_Life_deedOfPair_6 13 zcw_13 rfl ?_
    refine zx_alen C d_Life_deedOfPair_9 15 zcw_15 rfl ?_
    refine zx_ic_ge C d_Life_deedOfPair_10 (fun h10 => ?_) (fun h10 => ?_)
    · exact absurd h10 (by show ¬ nI 20 ≤ _; exact nI_ge (by omega) (by omega))
    · refine zx_aload C d_Life_deedOfPair_13 rfl ?_
      refine zx_get C f_Life_9_4 d_Life_deedOfPair_14 13 zcw_13 rfl ?_
      refine zx_aload C d_Life_deedOfPair_17 rfl ?_
      refine zx_get C f_Life_19_4 d_Life_deedOfPair_18 13 zcw_13 rfl ?_
      refine zx_iload C d_Life_deedOfPair_21 rfl ?_
      refine zx_iald C d_Life_deedOfPair_22 15 zcw_15 j rfl (by omega) (by decide) ?_
      refine zr_dq (zr_V C l_Life_63 d_Life_deedOfPair_23 (As := [_]) rfl rfl (Nat.le_of_ble_eq_true rfl) (c_Twn_deedOf G _ _ _ _ _ _ _ _ _ _ n (by exact hn) h5 _) 10 zcw_10 rfl ⟨Nat.le_of_ble_eq_true rfl, Nat.le_of_ble_eq_true rfl, Nat.le_of_ble_eq_true rfl, Nat.le_of_ble_eq_true rfl⟩) ?_
      refine zx_goto C d_Life_deedOfPair_26 ?_
      exact zx_aret C hq d_Life_deedOfPair_30 (⟨rfl, rfl⟩)
set_option maxHeartbeats 4000000 in
set_option maxRecDepth 20000 in
theorem c_Twn_openTo (G : ZG) (ad : Nat → Nat) (I : Nat → Int32) (L : Nat → Int64) (g z : Option Nat) (QH QD : Nat → Option Nat) (RI : Nat → Nat → Int32) (RL : Nat → Nat → Int64) (X : va_W) (q b : Nat) (ne fa un la : Int32) (me : Int64) (hd1 : (cw G ad I L g z QH QD RI RL ++ X)[q]? = some (b, .inr (1, [.int ne, .int fa, .int un, .int la, .long me]))) (m : Int32) (x : Int64) : ZM G y_Twn_openTo b_Twn_openTo 5 (some .long) r_Twn_openTo [.ref (ad 10), .ref b, .int m, .long x] (cw G ad I L g z QH QD RI RL ++ X) (zdl (if I 11 ≤ m + la then 0 else x &&& me) (cw G ad I L g z QH QD RI RL ++ X)) := by
  refine ZM.of "SameTuesday$Town" "openTo" rfl rfl (by decide) (Nat.le_of_ble_eq_true rfl) (fun Y C hq => ?_)
  change ZV G Y 0 0 0 [(0, .ref (ad 10)), (1, .ref b), (2, .int m), (3, .long x)] [] (cw G ad I L g z QH QD RI RL ++ X)
  refine zx_iload C d_Twn_openTo_0 rfl ?_
  refine zx_aload C d_Twn_openTo_1 rfl ?_
  refine zx_get C f_Twn_71_1 d_Twn_openTo_2 q hd1 rfl ?_
  refine zx_iadd C d_Twn_openTo_5 ?_
  refine zx_aload C d_Twn_openTo_6 rfl ?_
  refine zx_get C f_Twn_30_9 d_Twn_openTo_7 10 zcw_10 rfl ?_
  refine zx_ic_ge C d_Twn_openTo_10 (fun h10 => ?_) (fun h10 => ?_)
  · refine zx_lc C d_Twn_openTo_22 ?_
    exact zx_lret C hq d_Twn_openTo_23 (by first | exact ⟨by rw [if_pos h10], rfl⟩ | exact ⟨by rw [if_neg h10], rfl⟩)
  · refine zx_lload C d_Twn_openTo_13 rfl ?_
    refine zx_aload C d_Twn_openTo_14 rfl ?_
    refine zx_get C f_Twn_74_1 d_Twn_openTo_15 q hd1 rfl ?_
    refine zx_land C d_Twn_openTo_18 ?_
    refine zx_goto C d_Twn_openTo_19 ?_
    exact zx_lret C hq d_Twn_openTo_23 (by first | exact ⟨by rw [if_pos h10], rfl⟩ | exact ⟨by rw [if_neg h10], rfl⟩)
set_option maxHeartbeats 4000000 in
set_option maxRecDepth 20000 in
theorem c_Tue_worldWith (G : ZG) (w : va_W) (f : Nat) (hf : f ≤ 6) : ZM G y_Tue_worldWith b_Tue_worldWith 1 (some .long) r_Tue_worldWith [.int (nI f)] w (zdl (ww f) w) := by
  refine ZM.of "SameTuesday" "worldWith" rfl rfl (by decide) (Nat.le_of_ble_eq_true rfl) (fun Y C hq => ?_)
  change ZV G Y 0 0 0 [(0, .int (nI f))] [] w
  refine zx_iload C d_Tue_worldWith_0 rfl ?_
  refine zx_if_lt C d_Tue_worldWith_1 (fun h1 => ?_) (fun h1 => ?_)
  · exact absurd h1 (nI_nn (by omega))
  · refine zx_iload C d_Tue_worldWith_4 rfl ?_
    refine zx_gets C (zb_mem 348 rfl rfl) d_Tue_worldWith_5 ?_
    refine zx_solen C d_Tue_worldWith_8 ?_
    refine zx_ic_ge C d_Tue_worldWith_9 (fun h9 => ?_) (fun h9 => ?_)
    · have e1 : ww f = -1 := if_neg (by have := (nI_leI (a := 6) (by omega) (by omega)).mp h9; omega)
      refine zx_lc C d_Tue_worldWith_20 ?_
      exact zx_lret C hq d_Tue_worldWith_23 (⟨by rw [e1], rfl⟩)
    · have hf6 : f < 6 := by
        have z : ¬ 6 ≤ f := fun z => h9 ((nI_leI (a := 6) (by omega) (by omega)).mpr z)
        omega
      have e1 : ww f = zb_so f := if_pos hf6
      refine zx_gets C (zb_mem 348 rfl rfl) d_Tue_worldWith_12 ?_
      refine zx_iload C d_Tue_worldWith_15 rfl ?_
      refine zx_sold C d_Tue_worldWith_16 f rfl hf6 ?_
      refine zx_goto C d_Tue_worldWith_17 ?_
      exact zx_lret C hq d_Tue_worldWith_23 (⟨by rw [e1], rfl⟩)
