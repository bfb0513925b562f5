set_option maxHeartbeats 600000 in
set_option maxRecDepth 20000 in
theorem c_Mod_within (G : ZG) (w : va_W) (v a b : Int32) : ZM G y_Mod_within b_Mod_within 3 (some .boolean) r_Mod_within [.int v, .int a, .int b] w (zdi (zB (¬ v < a ∧ ¬ b < v)) w) := by
  refine ZM.of "SameTuesdayModel" "within" rfl rfl (by decide) (Nat.le_of_ble_eq_true rfl) (fun Y C hq => ?_)
  change ZV G Y 0 0 0 [(0, .int v), (1, .int a), (2, .int b)] [] w
  refine zx_iload C d_Mod_within_0 rfl ?_
  refine zx_iload C d_Mod_within_1 rfl ?_
  refine zx_ic_lt C d_Mod_within_2 (fun h2 => ?_) (fun h2 => ?_)
  · refine zx_ic C d_Mod_within_14 ?_
    exact zx_zret C hq (by decide) d_Mod_within_15 (⟨by unfold zB; split <;> first | rfl | simp_all, rfl⟩)
  · refine zx_iload C d_Mod_within_5 rfl ?_
    refine zx_iload C d_Mod_within_6 rfl ?_
    refine zx_ic_gt C d_Mod_within_7 (fun h7 => ?_) (fun h7 => ?_)
    · refine zx_ic C d_Mod_within_14 ?_
      exact zx_zret C hq (by decide) d_Mod_within_15 (⟨by unfold zB; split <;> first | rfl | simp_all, rfl⟩)
    · refine zx_ic C d_Mod_within_10 ?_
      refine zx_goto C d_Mod_within_11 ?_
      exact zx_zret C hq (by decide) d_Mod_within_15 (⟨by unfold zB; split <;> first | rfl | simp_all, rfl⟩)
set_option maxHeartbeats 600000 in
set_option maxRecDepth 20000 in
theorem c_Mod_isSheet (G : ZG) (w : va_W) (v : Int32) : ZM G y_Mod_isSheet b_Mod_isSheet 1 (some .boolean) r_Mod_isSheet [.int v] w (zdi (zB (¬ v < 0 ∧ ¬ 3 < v)) w) := by
  refine ZM.of "SameTuesdayModel" "isSheet" rfl rfl (by decide) (Nat.le_of_ble_eq_true rfl) (fun Y C hq => ?_)
  change ZV G Y 0 0 0 [(0, .int v)] [] w
  refine zx_iload C d_Mod_isSheet_0 rfl ?_
  refine zx_ic C d_Mod_isSheet_1 ?_
  refine zx_ic C d_Mod_isSheet_2 ?_
  refine zr_di (zr_S C l_Mod_83 d_Mod_isSheet_3 (As := [_, _, _]) rfl rfl (Nat.le_of_ble_eq_true rfl) (c_Mod_within G _ _ _ _) ⟨Nat.le_of_ble_eq_true rfl, Nat.le_of_ble_eq_true rfl, Nat.le_of_ble_eq_true rfl, Nat.le_of_ble_eq_true rfl⟩) ?_
  exact zx_zret C hq zB_01 d_Mod_isSheet_6 (⟨rfl, rfl⟩)
set_option maxHeartbeats 600000 in
set_option maxRecDepth 20000 in
theorem c_Mod_isSort (G : ZG) (w : va_W) (v : Int32) : ZM G y_Mod_isSort b_Mod_isSort 1 (some .boolean) r_Mod_isSort [.int v] w (zdi (zB (¬ v < 0 ∧ ¬ 2 < v)) w) := by
  refine ZM.of "SameTuesdayModel" "isSort" rfl rfl (by decide) (Nat.le_of_ble_eq_true rfl) (fun Y C hq => ?_)
  change ZV G Y 0 0 0 [(0, .int v)] [] w
  refine zx_iload C d_Mod_isSort_0 rfl ?_
  refine zx_ic C d_Mod_isSort_1 ?_
  refine zx_ic C d_Mod_isSort_2 ?_
  refine zr_di (zr_S C l_Mod_83 d_Mod_isSort_3 (As := [_, _, _]) rfl rfl (Nat.le_of_ble_eq_true rfl) (c_Mod_within G _ _ _ _) ⟨Nat.le_of_ble_eq_true rfl, Nat.le_of_ble_eq_true rfl, Nat.le_of_ble_eq_true rfl, Nat.le_of_ble_eq_true rfl⟩) ?_
  exact zx_zret C hq zB_01 d_Mod_isSort_6 (⟨rfl, rfl⟩)
set_option maxHeartbeats 600000 in
set_option maxRecDepth 20000 in
theorem c_Mod_isSet (G : ZG) (w : va_W) (v : Int32) : ZM G y_Mod_isSet b_Mod_isSet 1 (some .boolean) r_Mod_isSet [.int v] w (zdi (zB (¬ v < 0 ∧ ¬ 63 < v)) w) := by
  refine ZM.of "SameTuesdayModel" "isSet" rfl rfl (by decide) (Nat.le_of_ble_eq_true rfl) (fun Y C hq => ?_)
  change ZV G Y 0 0 0 [(0, .int v)] [] w
  refine zx_iload C d_Mod_isSet_0 rfl ?_
  refine zx_ic C d_Mod_isSet_1 ?_
  refine zx_ic C d_Mod_isSet_2 ?_
  refine zr_di (zr_S C l_Mod_83 d_Mod_isSet_4 (As := [_, _, _]) rfl rfl (Nat.le_of_ble_eq_true rfl) (c_Mod_within G _ _ _ _) ⟨Nat.le_of_ble_eq_true rfl, Nat.le_of_ble_eq_true rfl, Nat.le_of_ble_eq_true rfl, Nat.le_of_ble_eq_true rfl⟩) ?_
  exact zx_zret C hq zB_01 d_Mod_isSet_7 (⟨rfl, rfl⟩)
set_option maxHeartbeats 600000 in
set_option maxRecDepth 20000 in
theorem c_Mod_arePairs (G : ZG) (w : va_W) (v n : Int32) : ZM G y_Mod_arePairs b_Mod_arePairs 2 (some .boolean) r_Mod_arePairs [.int v, .int n] w (zdi (zB ((¬ v < 0 ∧ ¬ 2 < v) ∧ (¬ n < 0 ∧ ¬ 20 < n))) w) := by
  refine ZM.of "SameTuesdayModel" "arePairs" rfl rfl (by decide) (Nat.le_of_ble_eq_true rfl) (fun Y C hq => ?_)
  change ZV G Y 0 0 0 [(0, .int v), (1, .int n)] [] w
  refine zx_iload C d_Mod_arePairs_0 rfl ?_
  refine zr_di (zr_S C l_Mod_100 d_Mod_arePairs_1 (As := [_]) rfl rfl (Nat.le_of_ble_eq_true rfl) (c_Mod_isSort G _ _) ⟨Nat.le_of_ble_eq_true rfl, Nat.le_of_ble_eq_true rfl, Nat.le_of_ble_eq_true rfl, Nat.le_of_ble_eq_true rfl⟩) ?_
  refine zx_ifB_eq C d_Mod_arePairs_4 (fun h4 => ?_) (fun h4 => ?_)
  · refine zx_ic C d_Mod_arePairs_21 ?_
    exact zx_zret C hq (by decide) d_Mod_arePairs_22 (⟨by unfold zB; split <;> first | rfl | simp_all, rfl⟩)
  · refine zx_iload C d_Mod_arePairs_7 rfl ?_
    refine zx_ic C d_Mod_arePairs_8 ?_
    refine zx_ic C d_Mod_arePairs_9 ?_
    refine zr_di (zr_S C l_Mod_83 d_Mod_arePairs_11 (As := [_, _, _]) rfl rfl (Nat.le_of_ble_eq_true rfl) (c_Mod_within G _ _ _ _) ⟨Nat.le_of_ble_eq_true rfl, Nat.le_of_ble_eq_true rfl, Nat.le_of_ble_eq_true rfl, Nat.le_of_ble_eq_true rfl⟩) ?_
    refine zx_ifB_eq C d_Mod_arePairs_14 (fun h14 => ?_) (fun h14 => ?_)
    · refine zx_ic C d_Mod_arePairs_21 ?_
      exact zx_zret C hq (by decide) d_Mod_arePairs_22 (⟨by unfold zB; split <;> first | rfl | simp_all, rfl⟩)
    · refine zx_ic C d_Mod_arePairs_17 ?_
      refine zx_goto C d_Mod_arePairs_18 ?_
      exact zx_zret C hq (by decide) d_Mod_arePairs_22 (⟨by unfold zB; split <;> first | rfl | simp_all, rfl⟩)
set_option maxHeartbeats 600000 in
set_option maxRecDepth 20000 in
theorem c_Mod_fails (G : ZG) (o : Nat) (ad : Nat → Nat) (F : Nat → Int32) (R : Nat → Nat → Int32) (X : va_W) (v : Int32) : ZM G y_Mod_fails b_Mod_fails 2 (some .int) r_Mod_fails [.ref o, .int v] (mw G o ad F R ++ X) (zdi (-10 - v) (mw G o ad (upd F 0 v) R ++ X)) := by
  refine ZM.of "SameTuesdayModel" "fails" rfl rfl (by decide) (Nat.le_of_ble_eq_true rfl) (fun Y C hq => ?_)
  change ZV G Y 0 0 0 [(0, .ref o), (1, .int v)] [] (mw G o ad F R ++ X)
  refine zx_aload C d_Mod_fails_0 rfl ?_
  refine zx_iload C d_Mod_fails_1 rfl ?_
  refine zm_p C p_Mod_78_12 d_Mod_fails_2 zb_fit_i (Nat.le_of_ble_eq_true rfl) zms_0 ?_
  refine zx_ic C d_Mod_fails_5 ?_
  refine zx_iload C d_Mod_fails_7 rfl ?_
  refine zx_isub C d_Mod_fails_8 ?_
  exact zx_iret C hq d_Mod_fails_9 (⟨rfl, rfl⟩)
set_option maxHeartbeats 600000 in
set_option maxRecDepth 20000 in
theorem c_Mod_lost (G : ZG) (o : Nat) (ad : Nat → Nat) (F : Nat → Int32) (R : Nat → Nat → Int32) (X : va_W) (v : Int32) : ZM G y_Mod_lost b_Mod_lost 2 (some .long) r_Mod_lost [.ref o, .int v] (mw G o ad F R ++ X) (zdl (-9223372036854775808) (mw G o ad (upd F 0 v) R ++ X)) := by
  refine ZM.of "SameTuesdayModel" "lost" rfl rfl (by decide) (Nat.le_of_ble_eq_true rfl) (fun Y C hq => ?_)
  change ZV G Y 0 0 0 [(0, .ref o), (1, .int v)] [] (mw G o ad F R ++ X)
  refine zx_aload C d_Mod_lost_0 rfl ?_
  refine zx_iload C d_Mod_lost_1 rfl ?_
  refine zm_p C p_Mod_78_12 d_Mod_lost_2 zb_fit_i (Nat.le_of_ble_eq_true rfl) zms_0 ?_
  refine zx_lc C d_Mod_lost_5 ?_
  exact zx_lret C hq d_Mod_lost_8 (⟨rfl, rfl⟩)
set_option maxHeartbeats 600000 in
set_option maxRecDepth 20000 in
theorem c_Mod_isHappening (G : ZG) (o : Nat) (ad : Nat → Nat) (F : Nat → Int32) (R : Nat → Nat → Int32) (X : va_W) (v : Int32) : ZM G y_Mod_isHappening b_Mod_isHappening 2 (some .boolean) r_Mod_isHappening [.ref o, .int v] (mw G o ad F R ++ X) (zdi (zB (¬ v < 0 ∧ ¬ F 5 ≤ v)) (mw G o ad F R ++ X)) := by
  refine ZM.of "SameTuesdayModel" "isHappening" rfl rfl (by decide) (Nat.le_of_ble_eq_true rfl) (fun Y C hq => ?_)
  change ZV G Y 0 0 0 [(0, .ref o), (1, .int v)] [] (mw G o ad F R ++ X)
  refine zx_iload C d_Mod_isHappening_0 rfl ?_
  refine zx_if_lt C d_Mod_isHappening_1 (fun h1 => ?_) (fun h1 => ?_)
  · refine zx_ic C d_Mod_isHappening_16 ?_
    exact zx_zret C hq (by decide) d_Mod_isHappening_17 (⟨by unfold zB; split <;> first | rfl | simp_all, rfl⟩)
  · refine zx_iload C d_Mod_isHappening_4 rfl ?_
    refine zx_aload C d_Mod_isHappening_5 rfl ?_
    refine zm_g C f_Mod_87_12 d_Mod_isHappening_6 rfl ?_
    refine zx_ic_ge C d_Mod_isHappening_9 (fun h9 => ?_) (fun h9 => ?_)
    · refine zx_ic C d_Mod_isHappening_16 ?_
      exact zx_zret C hq (by decide) d_Mod_isHappening_17 (⟨by unfold zB; split <;> first | rfl | simp_all, rfl⟩)
    · refine zx_ic C d_Mod_isHappening_12 ?_
      refine zx_goto C d_Mod_isHappening_13 ?_
      exact zx_zret C hq (by decide) d_Mod_isHappening_17 (⟨by unfold zB; split <;> first | rfl | simp_all, rfl⟩)
set_option maxHeartbeats 600000 in
set_option maxRecDepth 20000 in
theorem c_Mod_isDeed (G : ZG) (o : Nat) (ad : Nat → Nat) (F : Nat → Int32) (R : Nat → Nat → Int32) (X : va_W) (v : Int32) : ZM G y_Mod_isDeed b_Mod_isDeed 2 (some .boolean) r_Mod_isDeed [.ref o, .int v] (mw G o ad F R ++ X) (zdi (zB (¬ v < 0 ∧ ¬ F 6 ≤ v)) (mw G o ad F R ++ X)) := by
  refine ZM.of "SameTuesdayModel" "isDeed" rfl rfl (by decide) (Nat.le_of_ble_eq_true rfl) (fun Y C hq => ?_)
  change ZV G Y 0 0 0 [(0, .ref o), (1, .int v)] [] (mw G o ad F R ++ X)
  refine zx_iload C d_Mod_isDeed_0 rfl ?_
  refine zx_if_lt C d_Mod_isDeed_1 (fun h1 => ?_) (fun h1 => ?_)
  · refine zx_ic C d_Mod_isDeed_16 ?_
    exact zx_zret C hq (by decide) d_Mod_isDeed_17 (⟨by unfold zB; split <;> first | rfl | simp_all, rfl⟩)
  · refine zx_iload C d_Mod_isDeed_4 rfl ?_
    refine zx_aload C d_Mod_isDeed_5 rfl ?_
    refine zm_g C f_Mod_90_12 d_Mod_isDeed_6 rfl ?_
    refine zx_ic_ge C d_Mod_isDeed_9 (fun h9 => ?_) (fun h9 => ?_)
    · refine zx_ic C d_Mod_isDeed_16 ?_
      exact zx_zret C hq (by decide) d_Mod_isDeed_17 (⟨by unfold zB; split <;> first | rfl | simp_all, rfl⟩)
    · refine zx_ic C d_Mod_isDeed_12 ?_
      refine zx_goto C d_Mod_isDeed_13 ?_
      exact zx_zret C hq (by decide) d_Mod_isDeed_17 (⟨by unfold zB; split <;> first | rfl | simp_all, rfl⟩)
set_option maxHeartbeats 600000 in
set_option maxRecDepth 20000 in
theorem c_Mod_begins (G : ZG) (o : Nat) (ad : Nat → Nat) (F : Nat → Int32) (R : Nat → Nat → Int32) (X : va_W) (v : Int32) : ZM G y_Mod_begins b_Mod_begins 2 none r_Mod_begins [.ref o, .int v] (mw G o ad F R ++ X) (zdv (mw G o ad (upd F 1 (31 * F 1 + v)) R ++ X)) := by
  refine ZM.of "SameTuesdayModel" "begins" rfl rfl (by decide) (Nat.le_of_ble_eq_true rfl) (fun Y C hq => ?_)
  change ZV G Y 0 0 0 [(0, .ref o), (1, .int v)] [] (mw G o ad F R ++ X)
  refine zx_aload C d_Mod_begins_0 rfl ?_
  refine zx_ic C d_Mod_begins_1 ?_
  refine zx_aload C d_Mod_begins_3 rfl ?_
  refine zm_g C f_Mod_236_12 d_Mod_begins_4 rfl ?_
  refine zx_imul C d_Mod_begins_7 ?_
  refine zx_iload C d_Mod_begins_8 rfl ?_
  refine zx_iadd C d_Mod_begins_9 ?_
  refine zm_p C p_Mod_236_12 d_Mod_begins_10 zb_fit_i (Nat.le_of_ble_eq_true rfl) zms_1 ?_
  exact zx_vret C hq d_Mod_begins_13 (⟨rfl, rfl⟩)
set_option maxHeartbeats 600000 in
set_option maxRecDepth 20000 in
theorem c_Mod_trace (G : ZG) (o : Nat) (ad : Nat → Nat) (F : Nat → Int32) (R : Nat → Nat → Int32) (X : va_W) : ZM G y_Mod_trace b_Mod_trace 1 (some .int) r_Mod_trace [.ref o] (mw G o ad F R ++ X) (zdi (F 1) (mw G o ad F R ++ X)) := by
  refine ZM.of "SameTuesdayModel" "trace" rfl rfl (by decide) (Nat.le_of_ble_eq_true rfl) (fun Y C hq => ?_)
  change ZV G Y 0 0 0 [(0, .ref o)] [] (mw G o ad F R ++ X)
  refine zx_aload C d_Mod_trace_0 rfl ?_
  refine zm_g C f_Mod_236_12 d_Mod_trace_1 rfl ?_
  exact zx_iret C hq d_Mod_trace_4 (⟨rfl, rfl⟩)
set_option maxHeartbeats 600000 in
set_option maxRecDepth 20000 in
theorem c_Mod_fault (G : ZG) (o : Nat) (ad : Nat → Nat) (F : Nat → Int32) (R : Nat → Nat → Int32) (X : va_W) : ZM G y_Mod_fault b_Mod_fault 1 (some .int) r_Mod_fault [.ref o] (mw G o ad F R ++ X) (zdi (F 0) (mw G o ad F R ++ X)) := by
  refine ZM.of "SameTuesdayModel" "fault" rfl rfl (by decide) (Nat.le_of_ble_eq_true rfl) (fun Y C hq => ?_)
  change ZV G Y 0 0 0 [(0, .ref o)] [] (mw G o ad F R ++ X)
  refine zx_aload C d_Mod_fault_0 rfl ?_
  refine zm_g C f_Mod_78_12 d_Mod_fault_1 rfl ?_
  exact zx_iret C hq d_Mod_fault_4 (⟨rfl, rfl⟩)
set_option maxHeartbeats 600000 in
set_option maxRecDepth 20000 in
theorem c_Mod_isMet (G : ZG) (w : va_W) (n f : Int32) : ZM G y_Mod_isMet b_Mod_isMet 2 (some .boolean) r_Mod_isMet [.int n, .int f] w (zdi (zB (n = 6 ∨ (f >>> (n &&& 31)) &&& 1 = 1)) w) := by
  refine ZM.of "SameTuesdayModel" "isMet" rfl rfl (by decide) (Nat.le_of_ble_eq_true rfl) (fun Y C hq => ?_)
  change ZV G Y 0 0 0 [(0, .int n), (1, .int f)] [] w
  refine zx_iload C d_Mod_isMet_0 rfl ?_
  refine zx_ic C d_Mod_isMet_1 ?_
  refine zx_ic_eq C d_Mod_isMet_3 (fun h3 => ?_) (fun h3 => ?_)
  · refine zx_ic C d_Mod_isMet_15 ?_
    refine zx_goto C d_Mod_isMet_16 ?_
    exact zx_zret C hq (by decide) d_Mod_isMet_20 (⟨by unfold zB; split <;> first | rfl | simp_all, rfl⟩)
  · refine zx_iload C d_Mod_isMet_6 rfl ?_
    refine zx_iload C d_Mod_isMet_7 rfl ?_
    refine zx_ishr C d_Mod_isMet_8 ?_
    refine zx_ic C d_Mod_isMet_9 ?_
    refine zx_iand C d_Mod_isMet_10 ?_
    refine zx_ic C d_Mod_isMet_11 ?_
    refine zx_ic_ne C d_Mod_isMet_12 (fun h12 => ?_) (fun h12 => ?_)
    · refine zx_ic C d_Mod_isMet_19 ?_
      exact zx_zret C hq (by decide) d_Mod_isMet_20 (⟨by unfold zB; split <;> first | rfl | simp_all, rfl⟩)
    · refine zx_ic C d_Mod_isMet_15 ?_
      refine zx_goto C d_Mod_isMet_16 ?_
      exact zx_zret C hq (by decide) d_Mod_isMet_20 (⟨by unfold zB; split <;> first | rfl | simp_all, rfl⟩)
set_option maxHeartbeats 600000 in
set_option maxRecDepth 20000 in
theorem c_Mod_many (G : ZG) (o : Nat) (ad : Nat → Nat) (F : Nat → Int32) (R : Nat → Nat → Int32) (X : va_W) (v : Int32) : ZM G y_Mod_many b_Mod_many 2 (some .int) r_Mod_many [.ref o, .int v] (mw G o ad F R ++ X) (zdi (if v = 0 then F 5 else if v = 1 then F 6 else if v = 2 then F 7 else if v = 3 then F 32 else -2) (mw G o ad F R ++ X)) := by
  refine ZM.of "SameTuesdayModel" "many" rfl rfl (by decide) (Nat.le_of_ble_eq_true rfl) (fun Y C hq => ?_)
  change ZV G Y 0 0 0 [(0, .ref o), (1, .int v)] [] (mw G o ad F R ++ X)
  refine zx_iload C d_Mod_many_0 rfl ?_
  refine zx_if_ne C d_Mod_many_1 (fun h1 => ?_) (fun h1 => ?_)
  · refine zx_iload C d_Mod_many_11 rfl ?_
    refine zx_ic C d_Mod_many_12 ?_
    refine zx_ic_ne C d_Mod_many_13 (fun h13 => ?_) (fun h13 => ?_)
    · refine zx_iload C d_Mod_many_23 rfl ?_
      refine zx_ic C d_Mod_many_24 ?_
      refine zx_ic_ne C d_Mod_many_25 (fun h25 => ?_) (fun h25 => ?_)
      · refine zx_iload C d_Mod_many_35 rfl ?_
        refine zx_ic C d_Mod_many_36 ?_
        refine zx_ic_ne C d_Mod_many_37 (fun h37 => ?_) (fun h37 => ?_)
        · refine zx_ic C d_Mod_many_47 ?_
          exact zx_iret C hq d_Mod_many_49 (⟨by simp [*], rfl⟩)
        · refine zx_aload C d_Mod_many_40 rfl ?_
          refine zm_g C f_Mod_123_12 d_Mod_many_41 rfl ?_
          refine zx_goto C d_Mod_many_44 ?_
          exact zx_iret C hq d_Mod_many_49 (⟨by simp [*], rfl⟩)
      · refine zx_aload C d_Mod_many_28 rfl ?_
        refine zm_g C f_Mod_120_12 d_Mod_many_29 rfl ?_
        refine zx_goto C d_Mod_many_32 ?_
        exact zx_iret C hq d_Mod_many_49 (⟨by simp [*], rfl⟩)
    · refine zx_aload C d_Mod_many_16 rfl ?_
      refine zm_g C f_Mod_90_12 d_Mod_many_17 rfl ?_
      refine zx_goto C d_Mod_many_20 ?_
      exact zx_iret C hq d_Mod_many_49 (⟨by simp [*], rfl⟩)
  · refine zx_aload C d_Mod_many_4 rfl ?_
    refine zm_g C f_Mod_87_12 d_Mod_many_5 rfl ?_
    refine zx_goto C d_Mod_many_8 ?_
    exact zx_iret C hq d_Mod_many_49 (⟨by simp [*], rfl⟩)
set_option maxHeartbeats 600000 in
set_option maxRecDepth 20000 in
theorem c_Mod_place (G : ZG) (w : va_W) (d m f : Int32) : ZM G y_Mod_place b_Mod_place 3 (some .int) r_Mod_place [.int d, .int m, .int f] w (zdi ((10 * d + (m - m / 10 * 10)) * 64 + f) w) := by
  refine ZM.of "SameTuesdayModel" "place" rfl rfl (by decide) (Nat.le_of_ble_eq_true rfl) (fun Y C hq => ?_)
  change ZV G Y 0 0 0 [(0, .int d), (1, .int m), (2, .int f)] [] w
  refine zx_ic C d_Mod_place_0 ?_
  refine zx_iload C d_Mod_place_2 rfl ?_
  refine zx_imul C d_Mod_place_3 ?_
  refine zx_iload C d_Mod_place_4 rfl ?_
  refine zx_ic C d_Mod_place_5 ?_
  refine zx_irem C (by decide) d_Mod_place_7 ?_
  refine zx_iadd C d_Mod_place_8 ?_
  refine zx_ic C d_Mod_place_9 ?_
  refine zx_imul C d_Mod_place_11 ?_
  refine zx_iload C d_Mod_place_12 rfl ?_
  refine zx_iadd C d_Mod_place_13 ?_
  exact zx_iret C hq d_Mod_place_14 (⟨rfl, rfl⟩)
