theorem bt_or (a b : Int64) (m : Nat) : bt (a ||| b) m = (bt a m || bt b m) := by rw [bt, Int64.toBitVec_or, BitVec.getLsbD_or]; rfl
theorem bt_and (a b : Int64) (m : Nat) : bt (a &&& b) m = (bt a m && bt b m) := by rw [bt, Int64.toBitVec_and, BitVec.getLsbD_and]; rfl
theorem bt_0 (m : Nat) : bt 0 m = false := by show (0 : BitVec 64).getLsbD m = false; exact BitVec.getLsbD_zero
theorem bt_one : ∀ k, k < 64 → ∀ m, m < 64 → bt ((1 : Int64) <<< ((nI k).toInt64 &&& 63)) m = decide (m = k) := by decide +kernel
def evw (T : ZT) : Nat → Int64
  | 0 => 0
  | h + 1 => evw T h ||| (1 : Int64) <<< ((nI (tq T 1 h)).toInt64 &&& 63)
theorem evw_bt {T : ZT} (ht : tok T) : ∀ n, n ≤ T.1 → ∀ m, m < 60 → (bt (evw T n) m = true ↔ ∃ h, h < n ∧ tq T 1 h = m)
  | 0, _, m, _ => by rw [evw, bt_0]; exact ⟨fun z => absurd z (by decide), fun ⟨h, hh, _⟩ => absurd hh (by omega)⟩
  | n + 1, hn, m, hm => by
    have h1 := (ht.2.2.2.1 n (by omega)).2.1
    rw [evw, bt_or, bt_one _ (by omega) m (by omega), Bool.or_eq_true, evw_bt ht n (by omega) m hm, decide_eq_true_eq]
    constructor
    · rintro (⟨h, hh, e⟩ | e)
      · exact ⟨h, by omega, e⟩
      · exact ⟨n, by omega, e.symm⟩
    · rintro ⟨h, hh, e⟩
      by_cases z : h = n
      · subst z; exact Or.inr e.symm
      · exact Or.inl ⟨h, by omega, e⟩
theorem vu_self (L : Nat → Int64) (k : Nat) (x y : Int64) : vp_updL (vp_updL L k x) k y = vp_updL L k y := by
  funext j
  by_cases e : j = k
  · exact (if_pos e).trans (if_pos e).symm
  · exact (if_neg e).trans ((if_neg e).trans (if_neg e).symm)
theorem qof_at {n : Nat} {Q : Nat → Option Nat} {j : Nat} (hj : j < n) (hn : n < 2 ^ 31) : qof n Q (nI j) = Q j := by rw [qof, if_pos ⟨nI_nn (by omega), nI_ge hj hn⟩, nI_cl (by omega)]
set_option maxHeartbeats 600000 in
set_option maxRecDepth 20000 in
theorem c_Twn_noteEvents (G : ZG) (ad : Nat → Nat) (I : Nat → Int32) (L : Nat → Int64) (g z : Option Nat) (QH QD : Nat → Option Nat) (RI : Nat → Nat → Int32) (RL : Nat → Nat → Int64) (X : va_W) (T : ZT) (hA dA : Nat → Nat) (h9 : I 9 = nI T.1) (h6 : T.1 ≤ 6) (hQ : ∀ j, j < T.1 → QH j = some (hA j)) : ZM G y_Twn_noteEvents b_Twn_noteEvents 3 none r_Twn_noteEvents [.ref (ad 10)] (cw G ad I L g z QH QD RI RL ++ pw hA dA T X) (zdv (cw G ad I (vp_updL L 0 (evw T T.1)) g z QH QD RI RL ++ pw hA dA T X)) := by
  refine ZM.of "SameTuesday$Town" "noteEvents" rfl rfl (by decide) (Nat.le_of_ble_eq_true rfl) (fun Y C hq => ?_)
  change ZV G Y 0 0 0 [(0, .ref (ad 10))] [] (cw G ad I L g z QH QD RI RL ++ pw hA dA T X)
  have lp : ∀ c h, h + c = T.1 → ZV G Y 0 0 7 [(0, .ref (ad 10)), (1, .int (nI h))] [] (cw G ad I (vp_updL L 0 (evw T h)) g z QH QD RI RL ++ pw hA dA T X) := by
    intro c
    induction c with
    | zero =>
      intro h hc
      obtain rfl : h = T.1 := by omega
      refine zx_iload C d_Twn_noteEvents_7 rfl ?_
      refine zx_aload C d_Twn_noteEvents_8 rfl ?_
      refine zx_get C f_Twn_23_9 d_Twn_noteEvents_9 10 zcw_10 rfl ?_
      refine zx_ic_ge C d_Twn_noteEvents_12 (fun h12 => ?_) (fun h12 => ?_)
      · exact zx_vret C hq d_Twn_noteEvents_46 (⟨rfl, rfl⟩)
      · exact absurd (by show I 9 ≤ _; rw [h9]; exact Int32.le_refl _) h12
    | succ c ih =>
      intro h hc
      have hj : h < T.1 := by omega
      refine zx_iload C d_Twn_noteEvents_7 rfl ?_
      refine zx_aload C d_Twn_noteEvents_8 rfl ?_
      refine zx_get C f_Twn_23_9 d_Twn_noteEvents_9 10 zcw_10 rfl ?_
      refine zx_ic_ge C d_Twn_noteEvents_12 (fun h12 => ?_) (fun h12 => ?_)
      · exact absurd h12 (by show ¬ I 9 ≤ _; rw [h9]; exact nI_ge (by omega) (by omega))
      · refine zx_aload C d_Twn_noteEvents_15 rfl ?_
        refine zx_iload C d_Twn_noteEvents_16 rfl ?_
        refine zr_dq (zr_V C l_Twn_61 d_Twn_noteEvents_17 (As := [_]) rfl rfl (Nat.le_of_ble_eq_true rfl) (c_Twn_happeningOf G _ _ _ _ _ _ _ _ _ _ T.1 (by exact h9) h6 _) 10 zcw_10 rfl ⟨Nat.le_of_ble_eq_true rfl, Nat.le_of_ble_eq_true rfl, Nat.le_of_ble_eq_true rfl, Nat.le_of_ble_eq_true rfl⟩) ?_
        rw [qof_at hj (by omega), hQ h hj]
        refine zx_astore C d_Twn_noteEvents_20 (by decide) (lv1 := [(2, _), (0, _), (1, _)]) rfl ?_
        refine zx_aload C d_Twn_noteEvents_21 rfl ?_
        refine zx_ifnullR C d_Twn_noteEvents_22 ?_
        refine zx_aload C d_Twn_noteEvents_25 rfl ?_
        refine zx_dup C rfl d_Twn_noteEvents_26 ?_
        refine zx_get C f_Twn_33_9 d_Twn_noteEvents_27 10 zcw_10 rfl ?_
        refine zx_lc C d_Twn_noteEvents_30 ?_
        refine zx_aload C d_Twn_noteEvents_31 rfl ?_
        refine zx_get C (fh_Twn_64 _) d_Twn_noteEvents_32 (23 + h) (zcw_ha hj) rfl ?_
        refine zx_lshl C d_Twn_noteEvents_35 ?_
        refine zx_lor C d_Twn_noteEvents_36 ?_
        refine zx_put C p_Twn_33_9 d_Twn_noteEvents_37 10 zcw_10 zb_fit_l (Nat.le_of_ble_eq_true rfl) zcs_10_5 ?_
        rw [vu_self]
        refine zx_iinc C d_Twn_noteEvents_40 (by decide) rfl (lv1 := [(1, _), (2, _), (0, _)]) rfl ?_
        refine zx_goto C d_Twn_noteEvents_43 ?_
        rw [show (1 : Int32) = nI 1 from rfl, nI_add]
        exact zx_lv [0, 1] rfl (ih (h + 1) (by omega))
  refine zx_aload C d_Twn_noteEvents_0 rfl ?_
  refine zx_lc C d_Twn_noteEvents_1 ?_
  refine zx_put C p_Twn_33_9 d_Twn_noteEvents_2 10 zcw_10 zb_fit_l (Nat.le_of_ble_eq_true rfl) zcs_10_5 ?_
  refine zx_ic C d_Twn_noteEvents_5 ?_
  refine zx_istore C d_Twn_noteEvents_6 (by decide) (lv1 := [(1, _), (0, _)]) rfl ?_
  exact zx_lv [0, 1] rfl (lp T.1 0 (by omega))
set_option maxHeartbeats 600000 in
set_option maxRecDepth 20000 in
theorem c_Twn_moveTo (G : ZG) (ad : Nat → Nat) (I : Nat → Int32) (L : Nat → Int64) (g z : Option Nat) (QH QD : Nat → Option Nat) (RI : Nat → Nat → Int32) (RL : Nat → Nat → Int64) (X : va_W) (T : ZT) (hA dA : Nat → Nat) (h9 : I 9 = nI T.1) (h6 : T.1 ≤ 6) (hQ : ∀ j, j < T.1 → QH j = some (hA j)) (j : Nat) (hj : j < T.1) (v : Nat) : ZM G y_Twn_moveTo b_Twn_moveTo 3 none r_Twn_moveTo [.ref (ad 10), .ref (hA j), .int (nI v)] (cw G ad I L g z QH QD RI RL ++ pw hA dA T X) (zdv (cw G ad I (vp_updL L 0 (evw (tmT T j v) T.1)) g z QH QD RI RL ++ pw hA dA (tmT T j v) X)) := by
  refine ZM.of "SameTuesday$Town" "moveTo" rfl rfl (by decide) (Nat.le_of_ble_eq_true rfl) (fun Y C hq => ?_)
  change ZV G Y 0 0 0 [(0, .ref (ad 10)), (1, .ref (hA j)), (2, .int (nI v))] [] (cw G ad I L g z QH QD RI RL ++ pw hA dA T X)
  refine zx_aload C d_Twn_moveTo_0 rfl ?_
  refine zx_iload C d_Twn_moveTo_1 rfl ?_
  refine zx_put C (ph_Twn_64 _) d_Twn_moveTo_2 (23 + j) (zcw_ha hj) zb_fit_i (Nat.le_of_ble_eq_true rfl) (zcs_ha hj) ?_
  refine zx_aload C d_Twn_moveTo_5 rfl ?_
  refine zr_dv (zr_V C l_Twn_58 d_Twn_moveTo_6 (As := []) rfl rfl (Nat.le_of_ble_eq_true rfl) (c_Twn_noteEvents G _ _ _ _ _ _ _ _ _ _ (tmT T j v) hA dA h9 h6 hQ) 10 zcw_10 rfl ⟨Nat.le_of_ble_eq_true rfl, Nat.le_of_ble_eq_true rfl, Nat.le_of_ble_eq_true rfl, Nat.le_of_ble_eq_true rfl⟩) ?_
  exact zx_vret C hq d_Twn_moveTo_9 (⟨rfl, rfl⟩)
theorem crp_mv {S : ZA} {hA dA : Nat → Nat} {I : Nat → Int32} {L : Nat → Int64} {QH QD : Nat → Option Nat} {RI : Nat → Nat → Int32} {RL : Nat → Nat → Int64} (h : crp S hA dA I L QH QD RI RL) {j v : Nat} (hj : j < (aT S).1) (hv : v ≤ 59) : crp (sT S (tmT (aT S) j v)) hA dA (upd I 17 1) (vp_updL L 0 (evw (tmT (aT S) j v) (aT S).1)) QH QD RI RL := by
  obtain ⟨⟨a1, a2, a3, a4⟩, b1, b2, b3, b4, b5, b6, b7⟩ := h
  have e0 : ∀ a i, a ≠ 1 → tq (tmT (aT S) j v) a i = tq (aT S) a i := fun a i ha => if_neg (fun z => ha z.1)
  have tk : tok (tmT (aT S) j v) := ⟨a2.1, a2.2.1, a2.2.2.1, fun i hi => by
    have z := a2.2.2.2.1 i hi
    rw [e0 0 i (by decide), e0 2 i (by decide), e0 3 i (by decide)]
    refine ⟨z.1, ?_, z.2.2⟩
    by_cases e : i = j
    · subst e; rw [show tq (tmT (aT S) i v) 1 i = v from if_pos ⟨rfl, rfl⟩]; exact hv
    · rw [show tq (tmT (aT S) j v) 1 i = tq (aT S) 1 i from if_neg (fun z => e z.2)]; exact z.2.1, fun d hd => by
    rw [e0 4 d (by decide), e0 5 d (by decide), e0 6 d (by decide), e0 7 d (by decide)]
    exact a2.2.2.2.2 d hd⟩
  exact ⟨⟨a1, tk, a3, a4⟩, b1, b2, srp_u2 b3 rfl rfl rfl (by decide), b4, b5, ⟨b6.1, b6.2.1, b6.2.2.1, fun m hm => evw_bt tk (aT S).1 (Nat.le_refl _) m hm, b6.2.2.2.2⟩, Or.inr rfl, fun z => absurd z (by show ¬ (1 : Int32) = 0; decide)⟩
set_option maxHeartbeats 600000 in
set_option maxRecDepth 20000 in
theorem c_Tue_shift (G : ZG) (ad : Nat → Nat) (I : Nat → Int32) (L : Nat → Int64) (g : Option Nat) (QH QD : Nat → Option Nat) (RI : Nat → Nat → Int32) (RL : Nat → Nat → Int64) (X : va_W) (S : ZA) (hA dA : Nat → Nat) (hm : crp S hA dA I L QH QD RI RL) (h v : Int32) : ZM G y_Tue_shift b_Tue_shift 5 (some .int) r_Tue_shift [.ref (ad 0), .int h, .int v] (cw G ad I L g none QH QD RI RL ++ pw hA dA (aT S) X) (cpi G ad X (ap_shift S h v).1 (ap_shift S h v).2) := by
  refine ZM.of "SameTuesday" "shift" rfl rfl (by decide) (Nat.le_of_ble_eq_true rfl) (fun Y C hq => ?_)
  change ZV G Y 0 0 0 [(0, .ref (ad 0)), (1, .int h), (2, .int v)] [] (cw G ad I L g none QH QD RI RL ++ pw hA dA (aT S) X)
  refine zx_aload C d_Tue_shift_0 rfl ?_
  refine zx_get C f_Tue_21_11 d_Tue_shift_1 0 zcw_0 rfl ?_
  refine zx_iload C d_Tue_shift_4 rfl ?_
  refine zr_dq (zr_V C l_Tue_93 d_Tue_shift_5 (As := [_]) rfl rfl (Nat.le_of_ble_eq_true rfl) (c_Twn_happeningOf G _ _ _ _ _ _ _ _ _ _ (aT S).1 hm.2.2.2.2.2.2.1.1 hm.1.2.1.1 _) 10 zcw_10 rfl ⟨Nat.le_of_ble_eq_true rfl, Nat.le_of_ble_eq_true rfl, Nat.le_of_ble_eq_true rfl, Nat.le_of_ble_eq_true rfl⟩) ?_
  refine zx_astoreq C d_Tue_shift_8 (by decide) (lv1 := [(3, _), (0, _), (1, _), (2, _)]) rfl ?_
  refine zx_aloadq C d_Tue_shift_9 rfl ?_
  refine zx_ifnonnull C d_Tue_shift_10 (fun a10 h10 => ?_) (fun h10 => ?_)
  · have h6 := hm.1.2.1.1
    obtain ⟨j, hj, rfl, ej, nj⟩ := qof_s (by omega) h10
    rw [ej, hm.2.2.2.2.2.2.1.2.2.2.2.1 j hj]
    have hk := (hm.1.2.1.2.2.2.1 j hj)
    have evz : ap_shift S (nI j) v = _ := if_neg nj
    rw [nI_cl (by omega)] at evz
    refine zx_iload C d_Tue_shift_15 rfl ?_
    refine zr_di (zr_S C l_Tue_135 d_Tue_shift_16 (As := [_]) rfl rfl (Nat.le_of_ble_eq_true rfl) (c_Tue_isMinute G _ _) ⟨Nat.le_of_ble_eq_true rfl, Nat.le_of_ble_eq_true rfl, Nat.le_of_ble_eq_true rfl, Nat.le_of_ble_eq_true rfl⟩) ?_
    refine zx_ifB_ne C d_Tue_shift_19 (fun h19 => ?_) (fun h19 => ?_)
    · rw [if_neg (nor_of h19)] at evz
      obtain ⟨x, hx, rfl⟩ := ix_le (n := 59) (by decide) h19.1 h19.2
      rw [nI_cl (by omega)] at evz
      have ev := evz
      have hm2 := crp_mv hm hj hx
      refine zx_aload C d_Tue_shift_25 rfl ?_
      refine zx_get C (fh_Tue_102 _) d_Tue_shift_26 (23 + j) (zcw_ha hj) rfl ?_
      refine zx_istore C d_Tue_shift_29 (by decide) (lv1 := [(4, _), (3, _), (0, _), (1, _), (2, _)]) rfl ?_
      refine zx_aload C d_Tue_shift_31 rfl ?_
      refine zx_get C f_Tue_21_11 d_Tue_shift_32 0 zcw_0 rfl ?_
      refine zx_aload C d_Tue_shift_35 rfl ?_
      refine zx_iload C d_Tue_shift_36 rfl ?_
      refine zr_dv (zr_V C l_Tue_139 d_Tue_shift_37 (As := [_, _]) rfl rfl (Nat.le_of_ble_eq_true rfl) (c_Twn_moveTo G _ _ _ _ _ _ _ _ _ _ (aT S) hA dA hm.2.2.2.2.2.2.1.1 hm.1.2.1.1 hm.2.2.2.2.2.2.1.2.2.2.2.1 j hj x) 10 zcw_10 rfl ⟨Nat.le_of_ble_eq_true rfl, Nat.le_of_ble_eq_true rfl, Nat.le_of_ble_eq_true rfl, Nat.le_of_ble_eq_true rfl⟩) ?_
      refine zx_aload C d_Tue_shift_40 rfl ?_
      refine zx_get C f_Tue_37_11 d_Tue_shift_41 0 zcw_0 rfl ?_
      refine zr_dv (zr_V C l_Tue_87 d_Tue_shift_44 (As := []) rfl rfl (Nat.le_of_ble_eq_true rfl) (c_Rch_spoil G _ _ _ _ _ _ _ _ _ _) 17 zcw_17 rfl ⟨Nat.le_of_ble_eq_true rfl, Nat.le_of_ble_eq_true rfl, Nat.le_of_ble_eq_true rfl, Nat.le_of_ble_eq_true rfl⟩) ?_
      refine zx_iload C d_Tue_shift_47 rfl ?_
      exact zx_iret C hq d_Tue_shift_49 (by rw [ev]; exact cpi_i rfl hm2)
    · rw [if_pos (nand_or h19)] at evz
      have ev := evz
      have hm2 := hm
      refine zx_ic C d_Tue_shift_22 ?_
      exact zx_iret C hq d_Tue_shift_24 (by rw [ev]; exact cpi_i rfl hm2)
  · have ev : ap_shift S h v = (-1, S) := if_pos (qof_n hm.2.2.2.2.2.2.1.2.2.2.2.1 (by have := hm.1.2.1.1; omega) h10)
    have hm2 := hm
    refine zx_ic C d_Tue_shift_13 ?_
    exact zx_iret C hq d_Tue_shift_14 (by rw [ev]; exact cpi_i rfl hm2)
