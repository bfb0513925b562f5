theorem cw2 {G : ZG} {ad : Nat → Nat} {I : Nat → Int32} {L1 L2 : Nat → Int64} {g z : Option Nat} {QH QD : Nat → Option Nat} {RI : Nat → Nat → Int32} {R1 R2 : Nat → Nat → Int64} {Y : va_W} (e1 : L1 = L2) (e2 : R1 = R2) : cw G ad I L1 g z QH QD RI R1 ++ Y = cw G ad I L2 g z QH QD RI R2 ++ Y := by rw [e1, e2]
def zrL (r : Nat → Int64) (q : Nat) : Nat → Int64 := fun j => if j < q then 0 else r j
theorem zrL_u (R : Nat → Nat → Int64) (r : Nat → Int64) (q : Nat) : urL (urL R 2 (zrL r q)) 2 (vp_updL (zrL r q) q 0) = urL R 2 (zrL r (q + 1)) := by
  rw [urL_urL]
  congr 1
  funext g
  show (if g = q then 0 else zrL r q g) = zrL r (q + 1) g
  unfold zrL
  by_cases h : g = q
  · rw [if_pos h, if_pos (by omega)]
  · rw [if_neg h]
    by_cases h2 : g < q
    · rw [if_pos h2, if_pos (by omega)]
    · rw [if_neg h2, if_neg (by omega)]
theorem zrL_0 (r : Nat → Int64) : zrL r 0 = r := funext fun g => if_neg (Nat.not_lt_zero g)
theorem urL_2 (R : Nat → Nat → Int64) (a b c : Nat → Int64) : urL (urL (urL R 2 a) 1 b) 2 c = urL (urL R 2 c) 1 b := by
  funext j; unfold urL
  by_cases h : j = 2
  · subst h; rfl
  · simp only [if_neg h]
theorem mid_eq {t mm : Nat} {v : Int32} (hv : v = nI t) (h1 : 1 ≤ t) (h60 : t ≤ 60) (hm : mm < 60) : (if v - 1 < nI mm then v - 1 else nI mm) = nI (min t (mm + 1) - 1) := by
  subst hv
  rw [show nI t - 1 = nI (t - 1) from pk_sub (b := 1) h1]
  by_cases h : t - 1 < mm
  · rw [if_pos ((nI_ltI (by omega) (by omega)).mpr h)]
    congr 1; omega
  · rw [if_neg (fun z => h ((nI_ltI (by omega) (by omega)).mp z))]
    congr 1; omega
theorem crp_rk {S : ZA} {hA dA : Nat → Nat} {I : Nat → Int32} {L : Nat → Int64} {QH QD : Nat → Option Nat} {RI : Nat → Nat → Int32} {RL : Nat → Nat → Int64} (h : crp S hA dA I L QH QD RI RL) {x : Int64} {go wl : Nat → Int64} (hw : ∀ q, q < (aT S).2.2.1 → wrep (wl q) (cbe (aT S) (q + 1))) : crp S hA dA (upd I 17 0) (vp_updL L 2 x) QH QD RI (urL (urL RL 2 go) 1 wl) := by
  obtain ⟨a, b1, b2, b3, b4, b5, b6, b7⟩ := h
  exact ⟨a, b1, b2, srp_u2 b3 rfl rfl rfl (by decide), b4, b5, b6, Or.inl rfl, fun _ m hm s hs => hw m hm s hs⟩
set_option maxHeartbeats 600000 in
set_option maxRecDepth 20000 in
theorem c_Rch_reckon (G : ZG) (ad : Nat → Nat) (I : Nat → Int32) (L : Nat → Int64) (g z : Option Nat) (QH QD : Nat → Option Nat) (RI : Nat → Nat → Int32) (RL : Nat → Nat → Int64) (X : va_W) (T : ZT) (hA dA : Nat → Nat) (h9 : I 9 = nI T.1) (h6 : T.1 ≤ 6) (hQ : ∀ j, j < T.1 → QH j = some (hA j)) (ht : tok T) (h0 : ∀ m, m < 60 → (bt (L 0) m = true ↔ ∃ h, h < T.1 ∧ tq T 1 h = m)) (h10 : I 10 = nI T.2.1) (h11 : I 11 = nI T.2.2.1) (hQD : ∀ j, j < T.2.1 → QD j = some (dA j)) : ZM G y_Rch_reckon b_Rch_reckon 2 none r_Rch_reckon [.ref (ad 17)] (cw G ad I L g z QH QD RI RL ++ pw hA dA T X) (zpv (fun w => ∃ (x : Int64) (go wl : Nat → Int64), (∀ q, q < T.2.2.1 → wrep (wl q) (cbe T (q + 1))) ∧ w = (cw G ad I (vp_updL L 2 x) g z QH QD RI (urL (urL RL 2 go) 1 wl) ++ pw hA dA T X))) := by
  refine ZM.of "SameTuesday$Reach" "reckon" rfl rfl (by decide) (Nat.le_of_ble_eq_true rfl) (fun Y C hq => ?_)
  change ZV G Y 0 0 0 [(0, .ref (ad 17))] [] (cw G ad I L g z QH QD RI RL ++ pw hA dA T X)
  have h60 := ht.2.2.1
  have lp2 : ∀ c m x go wl, m + c = T.2.2.1 → crel T m x go (gst T m) → (∀ q, q < m → wrep (wl q) (cbe T (q + 1))) → ZV G Y 0 0 31 [(0, .ref (ad 17)), (1, .int (nI m))] [] (cw G ad I (vp_updL L 2 x) g z QH QD RI (urL (urL RL 2 go) 1 wl) ++ pw hA dA T X) := by
    intro c
    induction c with
    | zero =>
      intro m x go wl hc hr hw
      obtain rfl : m = T.2.2.1 := by omega
      refine zx_iload C d_Rch_reckon_31 rfl ?_
      refine zx_aload C d_Rch_reckon_32 rfl ?_
      refine zx_get C f_Rch_9_6 d_Rch_reckon_33 17 zcw_17 rfl ?_
      refine zr_di (zr_V C l_Rch_43 d_Rch_reckon_36 (As := []) rfl rfl (Nat.le_of_ble_eq_true rfl) (c_Twn_minuteCount G _ _ _ _ _ _ _ _ _ _) 10 zcw_10 rfl ⟨Nat.le_of_ble_eq_true rfl, Nat.le_of_ble_eq_true rfl, Nat.le_of_ble_eq_true rfl, Nat.le_of_ble_eq_true rfl⟩) ?_
      refine zx_ic_ge C d_Rch_reckon_39 (fun h39 => ?_) (fun h39 => ?_)
      · exact zx_vret C hq d_Rch_reckon_81 (⟨rfl, x, go, wl, hw, rfl⟩)
      · exact absurd (by rw [h11]; exact Int32.le_refl _) h39
    | succ c ih =>
      intro m x go wl hc hr hw
      have hm : m < 60 := by omega
      have r1 := crel_h ht (go2 := (mapN (hwl T m 63 T.1) go 50)) hr (fun g hg => if_pos hg)
      have r2 := crel_e ht (go2 := (eG (mapN (hwl T m 63 T.1) go 50) 5)) r1 (fun g hg => rfl)
      have r3 := crel_b ht (m := m) (go2 := (bG T m (eF T (mapN (hwl T m 63 T.1) go 50) (hwl T m 63 T.1 x) 5) (eG (mapN (hwl T m 63 T.1) go 50) 5) 5)) r2 (fun g hg => rfl)
      have r4 := crel_any ht r3
      refine zx_iload C d_Rch_reckon_31 rfl ?_
      refine zx_aload C d_Rch_reckon_32 rfl ?_
      refine zx_get C f_Rch_9_6 d_Rch_reckon_33 17 zcw_17 rfl ?_
      refine zr_di (zr_V C l_Rch_43 d_Rch_reckon_36 (As := []) rfl rfl (Nat.le_of_ble_eq_true rfl) (c_Twn_minuteCount G _ _ _ _ _ _ _ _ _ _) 10 zcw_10 rfl ⟨Nat.le_of_ble_eq_true rfl, Nat.le_of_ble_eq_true rfl, Nat.le_of_ble_eq_true rfl, Nat.le_of_ble_eq_true rfl⟩) ?_
      refine zx_ic_ge C d_Rch_reckon_39 (fun h39 => ?_) (fun h39 => ?_)
      · exact absurd h39 (by rw [h11]; exact nI_ge (by omega) (by omega))
      · refine zx_iload C d_Rch_reckon_42 rfl ?_
        refine zx_aload C d_Rch_reckon_43 rfl ?_
        refine zx_get C f_Rch_15_6 d_Rch_reckon_44 17 zcw_17 rfl ?_
        refine zx_alen C d_Rch_reckon_47 18 zcw_18 rfl ?_
        refine zx_ic_ge C d_Rch_reckon_48 (fun h48 => ?_) (fun h48 => ?_)
        · exact absurd h48 (by show ¬ nI 60 ≤ _; exact nI_ge (by omega) (by omega))
        · refine zx_aload C d_Rch_reckon_51 rfl ?_
          refine zx_iload C d_Rch_reckon_52 rfl ?_
          refine zr_dv (zr_V C l_Rch_50 d_Rch_reckon_53 (As := [_]) rfl rfl (Nat.le_of_ble_eq_true rfl) (c_Rch_passHappenings G _ _ _ _ _ _ _ _ _ _ T hA dA (by exact h9) h6 hQ ht (by exact h0) (by exact h10) (by exact h11) hQD m hm) 17 zcw_17 rfl ⟨Nat.le_of_ble_eq_true rfl, Nat.le_of_ble_eq_true rfl, Nat.le_of_ble_eq_true rfl, Nat.le_of_ble_eq_true rfl⟩) ?_
          refine zx_eq rfl rfl (w1 := (cw G ad I (vp_updL L 2 (hwl T m 63 T.1 x)) g z QH QD RI (urL (urL RL 2 (mapN (hwl T m 63 T.1) go 50)) 1 wl) ++ pw hA dA T X)) (cw2 (vu_self L 2 _ _) (urL_2 RL go wl _)) ?_
          refine zx_aload C d_Rch_reckon_56 rfl ?_
          refine zr_dv (zr_V C l_Rch_54 d_Rch_reckon_57 (As := []) rfl rfl (Nat.le_of_ble_eq_true rfl) (c_Rch_endDeeds G _ _ _ _ _ _ _ _ _ _ T hA dA (by exact h9) h6 hQ ht (by exact h0) (by exact h10) (by exact h11) hQD) 17 zcw_17 rfl ⟨Nat.le_of_ble_eq_true rfl, Nat.le_of_ble_eq_true rfl, Nat.le_of_ble_eq_true rfl, Nat.le_of_ble_eq_true rfl⟩) ?_
          refine zx_eq rfl rfl (w1 := (cw G ad I (vp_updL L 2 (eF T (mapN (hwl T m 63 T.1) go 50) (hwl T m 63 T.1 x) 5)) g z QH QD RI (urL (urL RL 2 (eG (mapN (hwl T m 63 T.1) go 50) 5)) 1 wl) ++ pw hA dA T X)) (cw2 (vu_self L 2 _ _) (urL_2 RL (mapN (hwl T m 63 T.1) go 50) wl _)) ?_
          refine zx_aload C d_Rch_reckon_60 rfl ?_
          refine zx_iload C d_Rch_reckon_61 rfl ?_
          refine zr_dv (zr_V C l_Rch_57 d_Rch_reckon_62 (As := [_]) rfl rfl (Nat.le_of_ble_eq_true rfl) (c_Rch_beginDeeds G _ _ _ _ _ _ _ _ _ _ T hA dA (by exact h9) h6 hQ ht (by exact h0) (by exact h10) (by exact h11) hQD m hm) 17 zcw_17 rfl ⟨Nat.le_of_ble_eq_true rfl, Nat.le_of_ble_eq_true rfl, Nat.le_of_ble_eq_true rfl, Nat.le_of_ble_eq_true rfl⟩) ?_
          refine zx_eq rfl rfl (w1 := (cw G ad I (vp_updL L 2 (eF T (mapN (hwl T m 63 T.1) go 50) (hwl T m 63 T.1 x) 5)) g z QH QD RI (urL (urL RL 2 (bG T m (eF T (mapN (hwl T m 63 T.1) go 50) (hwl T m 63 T.1 x) 5) (eG (mapN (hwl T m 63 T.1) go 50) 5) 5)) 1 wl) ++ pw hA dA T X)) (congrArg (fun R => cw G ad I (vp_updL L 2 (eF T (mapN (hwl T m 63 T.1) go 50) (hwl T m 63 T.1 x) 5)) g z QH QD RI R ++ pw hA dA T X) (urL_2 RL (eG (mapN (hwl T m 63 T.1) go 50) 5) wl _)) ?_
          refine zx_aload C d_Rch_reckon_65 rfl ?_
          refine zx_get C f_Rch_15_6 d_Rch_reckon_66 17 zcw_17 rfl ?_
          refine zx_iload C d_Rch_reckon_69 rfl ?_
          refine zx_aload C d_Rch_reckon_70 rfl ?_
          refine zr_dl (zr_V C l_Rch_60 d_Rch_reckon_71 (As := []) rfl rfl (Nat.le_of_ble_eq_true rfl) (c_Rch_everyWorld G _ _ _ _ _ _ _ _ _ _) 17 zcw_17 rfl ⟨Nat.le_of_ble_eq_true rfl, Nat.le_of_ble_eq_true rfl, Nat.le_of_ble_eq_true rfl, Nat.le_of_ble_eq_true rfl⟩) ?_
          refine zx_last C d_Rch_reckon_74 18 zcw_18 m rfl (by omega) (by decide) zca_18 ?_
          refine zx_eq rfl rfl (w1 := (cw G ad I (vp_updL L 2 (eF T (mapN (hwl T m 63 T.1) go 50) (hwl T m 63 T.1 x) 5)) g z QH QD RI (urL (urL RL 2 (bG T m (eF T (mapN (hwl T m 63 T.1) go 50) (hwl T m 63 T.1 x) 5) (eG (mapN (hwl T m 63 T.1) go 50) 5) 5)) 1 (vp_updL wl m (orN (eF T (mapN (hwl T m 63 T.1) go 50) (hwl T m 63 T.1 x) 5) (bG T m (eF T (mapN (hwl T m 63 T.1) go 50) (hwl T m 63 T.1 x) 5) (eG (mapN (hwl T m 63 T.1) go 50) 5) 5) 50))) ++ pw hA dA T X)) (congrArg (fun R => cw G ad I (vp_updL L 2 (eF T (mapN (hwl T m 63 T.1) go 50) (hwl T m 63 T.1 x) 5)) g z QH QD RI R ++ pw hA dA T X) (urL_urL (urL RL 2 (bG T m (eF T (mapN (hwl T m 63 T.1) go 50) (hwl T m 63 T.1 x) 5) (eG (mapN (hwl T m 63 T.1) go 50) 5) 5)) 1 wl _)) ?_
          refine zx_iinc C d_Rch_reckon_75 (by decide) rfl (lv1 := [(1, _), (0, _)]) rfl ?_
          refine zx_goto C d_Rch_reckon_78 ?_
          rw [show (1 : Int32) = nI 1 from rfl, nI_add]
          refine zx_lv [0, 1] rfl (ih (m + 1) (eF T (mapN (hwl T m 63 T.1) go 50) (hwl T m 63 T.1 x) 5) (bG T m (eF T (mapN (hwl T m 63 T.1) go 50) (hwl T m 63 T.1 x) 5) (eG (mapN (hwl T m 63 T.1) go 50) 5) 5) (vp_updL wl m (orN (eF T (mapN (hwl T m 63 T.1) go 50) (hwl T m 63 T.1 x) 5) (bG T m (eF T (mapN (hwl T m 63 T.1) go 50) (hwl T m 63 T.1 x) 5) (eG (mapN (hwl T m 63 T.1) go 50) 5) 5) 50)) (by omega) r3 (fun q hq => ?_))
          by_cases e : q = m
          · subst e; rw [show (vp_updL wl q (orN (eF T (mapN (hwl T q 63 T.1) go 50) (hwl T q 63 T.1 x) 5) (bG T q (eF T (mapN (hwl T q 63 T.1) go 50) (hwl T q 63 T.1 x) 5) (eG (mapN (hwl T q 63 T.1) go 50) 5) 5) 50)) q = _ from if_pos rfl]; exact r4
          · rw [show (vp_updL wl m (orN (eF T (mapN (hwl T m 63 T.1) go 50) (hwl T m 63 T.1 x) 5) (bG T m (eF T (mapN (hwl T m 63 T.1) go 50) (hwl T m 63 T.1 x) 5) (eG (mapN (hwl T m 63 T.1) go 50) 5) 5) 50)) q = wl q from if_neg e]; exact hw q (by omega)
  have lp1 : ∀ c q, q + c = 50 → ZV G Y 0 0 7 [(0, .ref (ad 17)), (1, .int (nI q))] [] (cw G ad I (vp_updL L 2 1) g z QH QD RI (urL RL 2 (zrL (RL 2) q)) ++ pw hA dA T X) := by
    intro c
    induction c with
    | zero =>
      intro q hc
      obtain rfl : q = 50 := by omega
      refine zx_iload C d_Rch_reckon_7 rfl ?_
      refine zx_aload C d_Rch_reckon_8 rfl ?_
      refine zx_get C f_Rch_19_6 d_Rch_reckon_9 17 zcw_17 rfl ?_
      refine zx_alen C d_Rch_reckon_12 19 zcw_19 rfl ?_
      refine zx_ic_ge C d_Rch_reckon_13 (fun h13 => ?_) (fun h13 => ?_)
      · refine zx_ic C d_Rch_reckon_29 ?_
        refine zx_istore C d_Rch_reckon_30 (by decide) (lv1 := [(1, _), (0, _)]) rfl ?_
        have k1 := lp2 T.2.2.1 0 1 (zrL (RL 2) 50) (RL 1) (by omega) (crel_0 T (fun g hg => if_pos hg) ht.2.1) (fun q hq => absurd hq (Nat.not_lt_zero q))
        rw [show urL (urL RL 2 (zrL (RL 2) 50)) 1 (RL 1) = urL RL 2 (zrL (RL 2) 50) from urL_self (urL RL 2 (zrL (RL 2) 50)) 1] at k1
        exact zx_lv [0, 1] rfl k1
      · exact absurd (Int32.le_refl _) h13
    | succ c ih =>
      intro q hc
      refine zx_iload C d_Rch_reckon_7 rfl ?_
      refine zx_aload C d_Rch_reckon_8 rfl ?_
      refine zx_get C f_Rch_19_6 d_Rch_reckon_9 17 zcw_17 rfl ?_
      refine zx_alen C d_Rch_reckon_12 19 zcw_19 rfl ?_
      refine zx_ic_ge C d_Rch_reckon_13 (fun h13 => ?_) (fun h13 => ?_)
      · exact absurd h13 (by show ¬ nI 50 ≤ _; exact nI_ge (by omega) (by omega))
      · refine zx_aload C d_Rch_reckon_16 rfl ?_
        refine zx_get C f_Rch_19_6 d_Rch_reckon_17 17 zcw_17 rfl ?_
        refine zx_iload C d_Rch_reckon_20 rfl ?_
        refine zx_lc C d_Rch_reckon_21 ?_
        refine zx_last C d_Rch_reckon_22 19 zcw_19 q rfl (by omega) (by decide) zca_19 ?_
        refine zx_eq rfl rfl (w1 := (cw G ad I (vp_updL L 2 1) g z QH QD RI (urL RL 2 (zrL (RL 2) (q + 1))) ++ pw hA dA T X)) (congrArg (fun R => cw G ad I (vp_updL L 2 1) g z QH QD RI R ++ pw hA dA T X) (zrL_u RL (RL 2) q)) ?_
        refine zx_iinc C d_Rch_reckon_23 (by decide) rfl (lv1 := [(1, _), (0, _)]) rfl ?_
        refine zx_goto C d_Rch_reckon_26 ?_
        rw [show (1 : Int32) = nI 1 from rfl, nI_add]
        exact zx_lv [0, 1] rfl (ih (q + 1) (by omega))
  refine zx_aload C d_Rch_reckon_0 rfl ?_
  refine zx_lc C d_Rch_reckon_1 ?_
  refine zx_put C p_Rch_22_6 d_Rch_reckon_2 17 zcw_17 zb_fit_l (Nat.le_of_ble_eq_true rfl) zcs_17_3 ?_
  refine zx_ic C d_Rch_reckon_5 ?_
  refine zx_istore C d_Rch_reckon_6 (by decide) (lv1 := [(1, _), (0, _)]) rfl ?_
  have k1 := lp1 50 0 (by omega)
  rw [zrL_0, urL_self] at k1
  exact zx_lv [0, 1] rfl k1
set_option maxHeartbeats 600000 in
set_option maxRecDepth 20000 in
theorem c_Rch_worldAt (G : ZG) (ad : Nat → Nat) (I : Nat → Int32) (L : Nat → Int64) (g : Option Nat) (QH QD : Nat → Option Nat) (RI : Nat → Nat → Int32) (RL : Nat → Nat → Int64) (X : va_W) (S : ZA) (hA dA : Nat → Nat) (hm : crp S hA dA I L QH QD RI RL) (h1 : 1 ≤ (aT S).2.2.1) (mm : Nat) (hmm : mm < 60) : ZM G y_Rch_worldAt b_Rch_worldAt 3 (some .long) r_Rch_worldAt [.ref (ad 17), .int (nI mm)] (cw G ad I L g none QH QD RI RL ++ pw hA dA (aT S) X) (zpl (fun r w => wrep r (cbe (aT S) (min (aT S).2.2.1 (mm + 1))) ∧ ∃ (I2 : Nat → Int32) (L2 : Nat → Int64) (RL2 : Nat → Nat → Int64), w = cw G ad I2 L2 g none QH QD RI RL2 ++ pw hA dA (aT S) X ∧ crp S hA dA I2 L2 QH QD RI RL2)) := by
  refine ZM.of "SameTuesday$Reach" "worldAt" rfl rfl (by decide) (Nat.le_of_ble_eq_true rfl) (fun Y C hq => ?_)
  change ZV G Y 0 0 0 [(0, .ref (ad 17)), (1, .int (nI mm))] [] (cw G ad I L g none QH QD RI RL ++ pw hA dA (aT S) X)
  have h60 := hm.1.2.1.2.2.1
  have s16 : ∀ (I3 : Nat → Int32) (L3 : Nat → Int64) (RL3 : Nat → Nat → Int64), crp S hA dA I3 L3 QH QD RI RL3 → I3 17 = 0 → ZV G Y 0 0 16 [(0, .ref (ad 17)), (1, .int (nI mm))] [] (cw G ad I3 L3 g none QH QD RI RL3 ++ pw hA dA (aT S) X) := by
    intro I3 L3 RL3 hm3 h17
    have hc := hm3.2.2.2.2.2.2.2.2 h17 ((min (aT S).2.2.1 (mm + 1)) - 1) (by omega)
    rw [show ((min (aT S).2.2.1 (mm + 1)) - 1) + 1 = (min (aT S).2.2.1 (mm + 1)) by omega] at hc
    refine zx_aload C d_Rch_worldAt_16 rfl ?_
    refine zx_get C f_Rch_9_6 d_Rch_worldAt_17 17 zcw_17 rfl ?_
    refine zx_iload C d_Rch_worldAt_20 rfl ?_
    refine zr_di (zr_V C l_Rch_33 d_Rch_worldAt_21 (As := [_]) rfl rfl (Nat.le_of_ble_eq_true rfl) (c_Twn_minuteInDay G _ _ _ _ _ _ _ _ _ _ _) 10 zcw_10 rfl ⟨Nat.le_of_ble_eq_true rfl, Nat.le_of_ble_eq_true rfl, Nat.le_of_ble_eq_true rfl, Nat.le_of_ble_eq_true rfl⟩) ?_
    refine zx_eq rfl (st1 := [.int (nI ((min (aT S).2.2.1 (mm + 1)) - 1))]) (congrArg (fun v => [Value.int v]) (mid_eq hm3.2.2.2.2.2.2.1.2.2.1 h1 h60 hmm)) rfl ?_
    refine zx_istore C d_Rch_worldAt_24 (by decide) (lv1 := [(2, _), (0, _), (1, _)]) rfl ?_
    refine zx_iload C d_Rch_worldAt_25 rfl ?_
    refine zx_if_lt C d_Rch_worldAt_26 (fun h26 => ?_) (fun h26 => ?_)
    · exact absurd h26 (nI_nn (by omega))
    · refine zx_iload C d_Rch_worldAt_29 rfl ?_
      refine zx_aload C d_Rch_worldAt_30 rfl ?_
      refine zx_get C f_Rch_15_6 d_Rch_worldAt_31 17 zcw_17 rfl ?_
      refine zx_alen C d_Rch_worldAt_34 18 zcw_18 rfl ?_
      refine zx_ic_ge C d_Rch_worldAt_35 (fun h35 => ?_) (fun h35 => ?_)
      · exact absurd h35 (by show ¬ nI 60 ≤ _; exact nI_ge (by omega) (by omega))
      · refine zx_aload C d_Rch_worldAt_38 rfl ?_
        refine zx_get C f_Rch_15_6 d_Rch_worldAt_39 17 zcw_17 rfl ?_
        refine zx_iload C d_Rch_worldAt_42 rfl ?_
        refine zx_lald C d_Rch_worldAt_43 18 zcw_18 ((min (aT S).2.2.1 (mm + 1)) - 1) rfl (by omega) (by decide) ?_
        refine zx_goto C d_Rch_worldAt_44 ?_
        exact zx_lret C hq d_Rch_worldAt_48 (⟨_, rfl, hc, I3, L3, RL3, rfl, hm3⟩)
  refine zx_aload C d_Rch_worldAt_0 rfl ?_
  refine zx_get C f_Rch_26_6 d_Rch_worldAt_1 17 zcw_17 rfl ?_
  refine zx_if_eq C d_Rch_worldAt_4 (fun h4 => ?_) (fun h4 => ?_)
  · exact s16 I L RL hm h4
  · refine zx_aload C d_Rch_worldAt_7 rfl ?_
    refine zr_v (zr_V C l_Rch_30 d_Rch_worldAt_8 (As := []) rfl rfl (Nat.le_of_ble_eq_true rfl) (c_Rch_reckon G _ _ _ _ _ _ _ _ _ _ (aT S) hA dA hm.2.2.2.2.2.2.1.1 hm.1.2.1.1 hm.2.2.2.2.2.2.1.2.2.2.2.1 hm.1.2.1 hm.2.2.2.2.2.2.1.2.2.2.1 hm.2.2.2.2.2.2.1.2.1 hm.2.2.2.2.2.2.1.2.2.1 hm.2.2.2.2.2.2.1.2.2.2.2.2) 17 zcw_17 rfl ⟨Nat.le_of_ble_eq_true rfl, Nat.le_of_ble_eq_true rfl, Nat.le_of_ble_eq_true rfl, Nat.le_of_ble_eq_true rfl⟩) (fun w1 hw1 => ?_)
    obtain ⟨x, go, wl, hwl2, rfl⟩ := hw1
    refine zx_aload C d_Rch_worldAt_11 rfl ?_
    refine zx_ic C d_Rch_worldAt_12 ?_
    refine zx_put C p_Rch_26_6 d_Rch_worldAt_13 17 zcw_17 (zb_fit_z (by decide)) (Nat.le_of_ble_eq_true rfl) zcs_17_4 ?_
    exact s16 _ _ _ (crp_rk hm hwl2) rfl
set_option maxHeartbeats 600000 in
set_option maxRecDepth 20000 in
theorem c_Tue_can (G : ZG) (ad : Nat → Nat) (I : Nat → Int32) (L : Nat → Int64) (g : Option Nat) (QH QD : Nat → Option Nat) (RI : Nat → Nat → Int32) (RL : Nat → Nat → Int64) (X : va_W) (S : ZA) (hA dA : Nat → Nat) (hm : crp S hA dA I L QH QD RI RL) (m set : Int32) : ZM G y_Tue_can b_Tue_can 3 (some .int) r_Tue_can [.ref (ad 0), .int m, .int set] (cw G ad I L g none QH QD RI RL ++ pw hA dA (aT S) X) (cpi G ad X (ap_can S m set) S) := by
  refine ZM.of "SameTuesday" "can" rfl rfl (by decide) (Nat.le_of_ble_eq_true rfl) (fun Y C hq => ?_)
  change ZV G Y 0 0 0 [(0, .ref (ad 0)), (1, .int m), (2, .int set)] [] (cw G ad I L g none QH QD RI RL ++ pw hA dA (aT S) X)
  refine zx_iload C d_Tue_can_0 rfl ?_
  refine zr_di (zr_S C l_Tue_135 d_Tue_can_1 (As := [_]) rfl rfl (Nat.le_of_ble_eq_true rfl) (c_Tue_isMinute G _ _) ⟨Nat.le_of_ble_eq_true rfl, Nat.le_of_ble_eq_true rfl, Nat.le_of_ble_eq_true rfl, Nat.le_of_ble_eq_true rfl⟩) ?_
  refine zx_ifB_eq C d_Tue_can_4 (fun h4 => ?_) (fun h4 => ?_)
  · have ev : ap_can S m set = -2 := if_pos (Or.inl (nand_or h4))
    refine zx_ic C d_Tue_can_14 ?_
    exact zx_iret C hq d_Tue_can_16 (by rw [ev]; exact cpi_i rfl hm)
  · refine zx_iload C d_Tue_can_7 rfl ?_
    refine zr_di (zr_S C l_Tue_157 d_Tue_can_8 (As := [_]) rfl rfl (Nat.le_of_ble_eq_true rfl) (c_Tue_isSet G _ _) ⟨Nat.le_of_ble_eq_true rfl, Nat.le_of_ble_eq_true rfl, Nat.le_of_ble_eq_true rfl, Nat.le_of_ble_eq_true rfl⟩) ?_
    refine zx_ifB_ne C d_Tue_can_11 (fun h11 => ?_) (fun h11 => ?_)
    · refine zx_aload C d_Tue_can_17 rfl ?_
      refine zx_get C f_Tue_21_11 d_Tue_can_18 0 zcw_0 rfl ?_
      refine zr_di (zr_V C l_Tue_125 d_Tue_can_21 (As := []) rfl rfl (Nat.le_of_ble_eq_true rfl) (c_Twn_isTold G _ _ _ _ _ _ _ _ _ _ (aT S).1 hm.2.2.2.2.2.2.1.1 hm.1.2.1.1) 10 zcw_10 rfl ⟨Nat.le_of_ble_eq_true rfl, Nat.le_of_ble_eq_true rfl, Nat.le_of_ble_eq_true rfl, Nat.le_of_ble_eq_true rfl⟩) ?_
      refine zx_ifB_ne C d_Tue_can_24 (fun h24 => ?_) (fun h24 => ?_)
      · have h1 : 1 ≤ (aT S).2.2.1 := hm.1.2.2.1 (by omega)
        obtain ⟨a, ha, rfl⟩ := ix_le (n := 59) (by decide) h4.1 h4.2
        obtain ⟨b, hb, rfl⟩ := ix_le (n := 63) (by decide) h11.1 h11.2
        have ev : ap_can S (nI a) (nI b) = bi (cbe (aT S) (min (aT S).2.2.1 (a + 1)) b) := by rw [ap_can, if_neg (nor_of ⟨nor_of h4, nor_of h11⟩), if_neg h24, nI_cl (by omega), nI_cl (by omega)]
        refine zx_aload C d_Tue_can_30 rfl ?_
        refine zx_get C f_Tue_37_11 d_Tue_can_31 0 zcw_0 rfl ?_
        refine zx_iload C d_Tue_can_34 rfl ?_
        refine zr_l (zr_V C l_Tue_160 d_Tue_can_35 (As := [_]) rfl rfl (Nat.le_of_ble_eq_true rfl) (c_Rch_worldAt G ad I L g QH QD RI RL X S hA dA hm h1 a (by omega)) 17 zcw_17 rfl ⟨Nat.le_of_ble_eq_true rfl, Nat.le_of_ble_eq_true rfl, Nat.le_of_ble_eq_true rfl, Nat.le_of_ble_eq_true rfl⟩) (fun r w1 hw1 => ?_)
        obtain ⟨hwr, I4, L4, RL4, rfl, hm4⟩ := hw1
        refine zx_iload C d_Tue_can_38 rfl ?_
        refine zr_di (zr_S C l_Tue_164 d_Tue_can_39 (As := [_, _]) rfl rfl (Nat.le_of_ble_eq_true rfl) (c_Tue_hasState G _ _ b (by omega)) ⟨Nat.le_of_ble_eq_true rfl, Nat.le_of_ble_eq_true rfl, Nat.le_of_ble_eq_true rfl, Nat.le_of_ble_eq_true rfl⟩) ?_
        refine zx_ifB_eq C d_Tue_can_42 (fun h42 => ?_) (fun h42 => ?_)
        · have ev2 : ap_can S (nI a) (nI b) = 0 := by rw [ev, ← hwr b (by omega)]; exact if_neg h42
          refine zx_ic C d_Tue_can_49 ?_
          exact zx_iret C hq d_Tue_can_50 (by rw [ev2]; exact cpi_i rfl hm4)
        · have ev2 : ap_can S (nI a) (nI b) = 1 := by rw [ev, ← hwr b (by omega)]; exact if_pos (by first | exact h42 | exact Classical.byContradiction h42)
          refine zx_ic C d_Tue_can_45 ?_
          refine zx_goto C d_Tue_can_46 ?_
          exact zx_iret C hq d_Tue_can_50 (by rw [ev2]; exact cpi_i rfl hm4)
      · have ev : ap_can S m set = -3 := by rw [ap_can, if_neg (nor_of ⟨nor_of h4, nor_of h11⟩), if_pos (Classical.byContradiction h24)]
        refine zx_ic C d_Tue_can_27 ?_
        exact zx_iret C hq d_Tue_can_29 (by rw [ev]; exact cpi_i rfl hm)
    · have ev : ap_can S m set = -2 := if_pos (Or.inr (nand_or h11))
      refine zx_ic C d_Tue_can_14 ?_
      exact zx_iret C hq d_Tue_can_16 (by rw [ev]; exact cpi_i rfl hm)
set_option maxHeartbeats 600000 in
set_option maxRecDepth 20000 in
theorem c_Rch_soonestOf (G : ZG) (ad : Nat → Nat) (I : Nat → Int32) (L : Nat → Int64) (g : Option Nat) (QH QD : Nat → Option Nat) (RI : Nat → Nat → Int32) (RL : Nat → Nat → Int64) (X : va_W) (S : ZA) (hA dA : Nat → Nat) (hm : crp S hA dA I L QH QD RI RL) (h1 : 1 ≤ (aT S).2.2.1) (z : Nat) (hz : z < 64) : ZM G y_Rch_soonestOf b_Rch_soonestOf 5 (some .int) r_Rch_soonestOf [.ref (ad 17), .int (nI z)] (cw G ad I L g none QH QD RI RL ++ pw hA dA (aT S) X) (zpi (fun r w => r = (soonF (aT S) z (aT S).2.2.1 0) ∧ ∃ (I2 : Nat → Int32) (L2 : Nat → Int64) (RL2 : Nat → Nat → Int64), w = cw G ad I2 L2 g none QH QD RI RL2 ++ pw hA dA (aT S) X ∧ crp S hA dA I2 L2 QH QD RI RL2)) := by
  refine ZM.of "SameTuesday$Reach" "soonestOf" rfl rfl (by decide) (Nat.le_of_ble_eq_true rfl) (fun Y C hq => ?_)
  change ZV G Y 0 0 0 [(0, .ref (ad 17)), (1, .int (nI z))] [] (cw G ad I L g none QH QD RI RL ++ pw hA dA (aT S) X)
  have h60 := hm.1.2.1.2.2.1
  have lp : ∀ c m I3 L3 RL3, m + c = (aT S).2.2.1 → crp S hA dA I3 L3 QH QD RI RL3 → soonF (aT S) z c m = (soonF (aT S) z (aT S).2.2.1 0) → ZV G Y 0 0 8 [(0, .ref (ad 17)), (1, .int (nI z)), (2, .long (wwa z 6)), (4, .int (nI m))] [] (cw G ad I3 L3 g none QH QD RI RL3 ++ pw hA dA (aT S) X) := by
    intro c
    induction c with
    | zero =>
      intro m I3 L3 RL3 hc hm3 hs
      obtain rfl : m = (aT S).2.2.1 := by omega
      refine zx_iload C d_Rch_soonestOf_8 rfl ?_
      refine zx_aload C d_Rch_soonestOf_10 rfl ?_
      refine zx_get C f_Rch_9_6 d_Rch_soonestOf_11 17 zcw_17 rfl ?_
      refine zr_di (zr_V C l_Rch_43 d_Rch_soonestOf_14 (As := []) rfl rfl (Nat.le_of_ble_eq_true rfl) (c_Twn_minuteCount G _ _ _ _ _ _ _ _ _ _) 10 zcw_10 rfl ⟨Nat.le_of_ble_eq_true rfl, Nat.le_of_ble_eq_true rfl, Nat.le_of_ble_eq_true rfl, Nat.le_of_ble_eq_true rfl⟩) ?_
      refine zx_ic_ge C d_Rch_soonestOf_17 (fun h17 => ?_) (fun h17 => ?_)
      · refine zx_ic C d_Rch_soonestOf_42 ?_
        exact zx_iret C hq d_Rch_soonestOf_44 (⟨_, rfl, hs, I3, L3, RL3, rfl, hm3⟩)
      · exact absurd (by rw [hm3.2.2.2.2.2.2.1.2.2.1]; exact Int32.le_refl _) h17
    | succ c ih =>
      intro m I3 L3 RL3 hc hm3 hs
      rw [soonF] at hs
      refine zx_iload C d_Rch_soonestOf_8 rfl ?_
      refine zx_aload C d_Rch_soonestOf_10 rfl ?_
      refine zx_get C f_Rch_9_6 d_Rch_soonestOf_11 17 zcw_17 rfl ?_
      refine zr_di (zr_V C l_Rch_43 d_Rch_soonestOf_14 (As := []) rfl rfl (Nat.le_of_ble_eq_true rfl) (c_Twn_minuteCount G _ _ _ _ _ _ _ _ _ _) 10 zcw_10 rfl ⟨Nat.le_of_ble_eq_true rfl, Nat.le_of_ble_eq_true rfl, Nat.le_of_ble_eq_true rfl, Nat.le_of_ble_eq_true rfl⟩) ?_
      refine zx_ic_ge C d_Rch_soonestOf_17 (fun h17 => ?_) (fun h17 => ?_)
      · exact absurd h17 (by rw [hm3.2.2.2.2.2.2.1.2.2.1]; exact nI_ge (by omega) (by omega))
      · refine zx_aload C d_Rch_soonestOf_20 rfl ?_
        refine zx_iload C d_Rch_soonestOf_21 rfl ?_
        refine zr_l (zr_V C l_Rch_47 d_Rch_soonestOf_23 (As := [_]) rfl rfl (Nat.le_of_ble_eq_true rfl) (c_Rch_worldAt G ad I3 L3 g QH QD RI RL3 X S hA dA hm3 h1 m (by omega)) 17 zcw_17 rfl ⟨Nat.le_of_ble_eq_true rfl, Nat.le_of_ble_eq_true rfl, Nat.le_of_ble_eq_true rfl, Nat.le_of_ble_eq_true rfl⟩) (fun r w1 hw1 => ?_)
        obtain ⟨hwr, I4, L4, RL4, rfl, hm4⟩ := hw1
        rw [show min (aT S).2.2.1 (m + 1) = m + 1 by omega] at hwr
        refine zx_lload C d_Rch_soonestOf_26 rfl ?_
        refine zx_land C d_Rch_soonestOf_27 ?_
        refine zx_lc C d_Rch_soonestOf_28 ?_
        refine zx_lcmp C d_Rch_soonestOf_29 ?_
        refine zx_if_eq C d_Rch_soonestOf_30 (fun h30 => ?_) (fun h30 => ?_)
        · have e := (and_wone hwr hz).mp ((lg_cmp_eq _ _).mp h30)
          rw [if_neg (by rw [e]; decide)] at hs
          refine zx_iinc C d_Rch_soonestOf_36 (by decide) rfl (lv1 := [(4, _), (0, _), (1, _), (2, _)]) rfl ?_
          refine zx_goto C d_Rch_soonestOf_39 ?_
          rw [show (1 : Int32) = nI 1 from rfl, nI_add]
          exact zx_lv [0, 1, 2, 4] rfl (ih (m + 1) I4 L4 RL4 (by omega) hm4 hs)
        · have e : wone (cbe (aT S) (m + 1)) z 64 = true := Classical.byContradiction fun y => h30 ((lg_cmp_eq _ _).mpr ((and_wone hwr hz).mpr (Bool.eq_false_iff.mpr y)))
          rw [if_pos e] at hs
          refine zx_iload C d_Rch_soonestOf_33 rfl ?_
          exact zx_iret C hq d_Rch_soonestOf_35 (⟨_, rfl, hs, I4, L4, RL4, rfl, hm4⟩)
  refine zx_iload C d_Rch_soonestOf_0 rfl ?_
  refine zr_dl (zr_N C l_Rch_39 d_Rch_soonestOf_1 (As := [_]) rfl rfl (Nat.le_of_ble_eq_true rfl) (c_Tue_worldWithAll G _ z hz) ⟨Nat.le_of_ble_eq_true rfl, Nat.le_of_ble_eq_true rfl, Nat.le_of_ble_eq_true rfl, Nat.le_of_ble_eq_true rfl⟩) ?_
  refine zx_lstore C d_Rch_soonestOf_4 (by decide) (lv1 := [(2, _), (0, _), (1, _)]) rfl ?_
  refine zx_ic C d_Rch_soonestOf_5 ?_
  refine zx_istore C d_Rch_soonestOf_6 (by decide) (lv1 := [(4, _), (2, _), (0, _), (1, _)]) rfl ?_
  exact zx_lv [0, 1, 2, 4] rfl (lp (aT S).2.2.1 0 I L RL (by omega) hm rfl)
def barM (v : Option Int32) (w : Int32) : Int32 := match v with
  | some v => v
  | none => w
theorem barO_s (C : Nat → Bool) (z n a : Nat) : barO C z (n + 1) a = barM (barI C z a (5 - a) (a + 1)) (barO C z n (a + 1)) := by
  show (match barI C z a (5 - a) (a + 1) with | some v => v | none => barO C z n (a + 1)) = _
  unfold barM
  cases barI C z a (5 - a) (a + 1) <;> rfl
set_option maxHeartbeats 600000 in
set_option maxRecDepth 20000 in
theorem c_Rch_barOf (G : ZG) (ad : Nat → Nat) (I : Nat → Int32) (L : Nat → Int64) (g : Option Nat) (QH QD : Nat → Option Nat) (RI : Nat → Nat → Int32) (RL : Nat → Nat → Int64) (X : va_W) (S : ZA) (hA dA : Nat → Nat) (hm : crp S hA dA I L QH QD RI RL) (h1 : 1 ≤ (aT S).2.2.1) (z : Nat) (hz : z < 64) : ZM G y_Rch_barOf b_Rch_barOf 7 (some .int) r_Rch_barOf [.ref (ad 17), .int (nI z)] (cw G ad I L g none QH QD RI RL ++ pw hA dA (aT S) X) (zpi (fun r w => r = (barO (cbe (aT S) (aT S).2.2.1) z 6 0) ∧ ∃ (I2 : Nat → Int32) (L2 : Nat → Int64) (RL2 : Nat → Nat → Int64), w = cw G ad I2 L2 g none QH QD RI RL2 ++ pw hA dA (aT S) X ∧ crp S hA dA I2 L2 QH QD RI RL2)) := by
  refine ZM.of "SameTuesday$Reach" "barOf" rfl rfl (by decide) (Nat.le_of_ble_eq_true rfl) (fun Y C hq => ?_)
  change ZV G Y 0 0 0 [(0, .ref (ad 17)), (1, .int (nI z))] [] (cw G ad I L g none QH QD RI RL ++ pw hA dA (aT S) X)
  have h60 := hm.1.2.1.2.2.1
  refine zx_aload C d_Rch_barOf_0 rfl ?_
  refine zx_ic C d_Rch_barOf_1 ?_
  refine zr_l (zr_V C l_Rch_47 d_Rch_barOf_3 (As := [_]) rfl rfl (Nat.le_of_ble_eq_true rfl) (c_Rch_worldAt G ad I L g QH QD RI RL X S hA dA hm h1 59 (by omega)) 17 zcw_17 rfl ⟨Nat.le_of_ble_eq_true rfl, Nat.le_of_ble_eq_true rfl, Nat.le_of_ble_eq_true rfl, Nat.le_of_ble_eq_true rfl⟩) (fun x w1 hw1 => ?_)
  obtain ⟨hx, I4, L4, RL4, rfl, hm4⟩ := hw1
  rw [show min (aT S).2.2.1 (59 + 1) = (aT S).2.2.1 by omega] at hx
  have lp : ∀ c a, a + c = 6 → barO (cbe (aT S) (aT S).2.2.1) z c a = (barO (cbe (aT S) (aT S).2.2.1) z 6 0) → ZV G Y 0 0 10 [(0, .ref (ad 17)), (1, .int (nI z)), (2, .long x), (4, .int (nI a))] [] (cw G ad I4 L4 g none QH QD RI RL4 ++ pw hA dA (aT S) X) := by
    intro c
    induction c with
    | zero =>
      intro a hc hs
      obtain rfl : a = 6 := by omega
      refine zx_iload C d_Rch_barOf_10 rfl ?_
      refine zx_ic C d_Rch_barOf_12 ?_
      refine zx_ic_ge C d_Rch_barOf_14 (fun h14 => ?_) (fun h14 => ?_)
      · refine zx_ic C d_Rch_barOf_83 ?_
        exact zx_iret C hq d_Rch_barOf_85 (⟨_, rfl, hs, I4, L4, RL4, rfl, hm4⟩)
      · exact absurd (Int32.le_refl _) h14
    | succ c ih =>
      intro a hc hs
      rw [barO_s] at hs
      have lpb : ∀ cb b, b + cb = 6 → barM (barI (cbe (aT S) (aT S).2.2.1) z a cb b) (barO (cbe (aT S) (aT S).2.2.1) z c (a + 1)) = (barO (cbe (aT S) (aT S).2.2.1) z 6 0) → ZV G Y 0 0 23 [(0, .ref (ad 17)), (1, .int (nI z)), (2, .long x), (4, .int (nI a)), (5, .int (nI b))] [] (cw G ad I4 L4 g none QH QD RI RL4 ++ pw hA dA (aT S) X) := by
        intro cb
        induction cb with
        | zero =>
          intro b hb hs
          obtain rfl : b = 6 := by omega
          refine zx_iload C d_Rch_barOf_23 rfl ?_
          refine zx_ic C d_Rch_barOf_25 ?_
          refine zx_ic_ge C d_Rch_barOf_27 (fun h27 => ?_) (fun h27 => ?_)
          · refine zx_iinc C d_Rch_barOf_77 (by decide) rfl (lv1 := [(4, _), (0, _), (1, _), (2, _), (5, _)]) rfl ?_
            refine zx_goto C d_Rch_barOf_80 ?_
            rw [show (1 : Int32) = nI 1 from rfl, nI_add]
            exact zx_lv [0, 1, 2, 4] rfl (ih (a + 1) (by omega) hs)
          · exact absurd (Int32.le_refl _) h27
        | succ cb ihb =>
          intro b hb hs
          have hbo := q_both64 a (by omega) b (by omega)
          rw [barI] at hs
          refine zx_iload C d_Rch_barOf_23 rfl ?_
          refine zx_ic C d_Rch_barOf_25 ?_
          refine zx_ic_ge C d_Rch_barOf_27 (fun h27 => ?_) (fun h27 => ?_)
          · exact absurd h27 (nI_ge (b := 6) (by omega) (by omega))
          · refine zx_ic C d_Rch_barOf_30 ?_
            refine zx_iload C d_Rch_barOf_31 rfl ?_
            refine zx_ishl C d_Rch_barOf_33 ?_
            refine zx_ic C d_Rch_barOf_34 ?_
            refine zx_iload C d_Rch_barOf_35 rfl ?_
            refine zx_ishl C d_Rch_barOf_37 ?_
            refine zx_ior C d_Rch_barOf_38 ?_
            rw [q_both a (by omega) b (by omega)]
            refine zx_istore C d_Rch_barOf_39 (by decide) (lv1 := [(6, _), (0, _), (1, _), (2, _), (4, _), (5, _)]) rfl ?_
            refine zx_iload C d_Rch_barOf_41 rfl ?_
            refine zx_iload C d_Rch_barOf_42 rfl ?_
            refine zx_iand C d_Rch_barOf_44 ?_
            rw [q_andN z hz _ hbo]
            refine zx_iload C d_Rch_barOf_45 rfl ?_
            refine zx_ic_ne C d_Rch_barOf_47 (fun h47 => ?_) (fun h47 => ?_)
            · rw [if_neg (fun y => h47 (congrArg nI y.1))] at hs
              refine zx_iinc C d_Rch_barOf_71 (by decide) rfl (lv1 := [(5, _), (6, _), (0, _), (1, _), (2, _), (4, _)]) rfl ?_
              refine zx_goto C d_Rch_barOf_74 ?_
              rw [show (1 : Int32) = nI 1 from rfl, nI_add]
              exact zx_lv [0, 1, 2, 4, 5] rfl (ihb (b + 1) (by omega) hs)
            · have h47 : z &&& both2 a b = both2 a b := (nI_eqz (by have := Nat.and_le_right (n := z) (m := both2 a b); omega) (by omega)).mp (by first | exact h47 | exact Classical.byContradiction h47)
              refine zx_lload C d_Rch_barOf_50 rfl ?_
              refine zx_iload C d_Rch_barOf_51 rfl ?_
              refine zr_dl (zr_N C l_Rch_39 d_Rch_barOf_53 (As := [_]) rfl rfl (Nat.le_of_ble_eq_true rfl) (c_Tue_worldWithAll G _ (both2 a b) hbo) ⟨Nat.le_of_ble_eq_true rfl, Nat.le_of_ble_eq_true rfl, Nat.le_of_ble_eq_true rfl, Nat.le_of_ble_eq_true rfl⟩) ?_
              refine zx_land C d_Rch_barOf_56 ?_
              refine zx_lc C d_Rch_barOf_57 ?_
              refine zx_lcmp C d_Rch_barOf_58 ?_
              refine zx_if_ne C d_Rch_barOf_59 (fun h59 => ?_) (fun h59 => ?_)
              · rw [if_neg (fun y => h59 ((lg_cmp_eq _ _).mpr ((and_wone hx hbo).mpr y.2)))] at hs
                refine zx_iinc C d_Rch_barOf_71 (by decide) rfl (lv1 := [(5, _), (6, _), (0, _), (1, _), (2, _), (4, _)]) rfl ?_
                refine zx_goto C d_Rch_barOf_74 ?_
                rw [show (1 : Int32) = nI 1 from rfl, nI_add]
                exact zx_lv [0, 1, 2, 4, 5] rfl (ihb (b + 1) (by omega) hs)
              · rw [if_pos ⟨h47, (and_wone hx hbo).mp ((lg_cmp_eq _ _).mp (by first | exact h59 | exact Classical.byContradiction h59))⟩] at hs
                refine zx_ic C d_Rch_barOf_62 ?_
                refine zx_iload C d_Rch_barOf_64 rfl ?_
                refine zx_imul C d_Rch_barOf_66 ?_
                refine zx_iload C d_Rch_barOf_67 rfl ?_
                refine zx_iadd C d_Rch_barOf_69 ?_
                exact zx_iret C hq d_Rch_barOf_70 (⟨_, rfl, by rw [← hs, show (10 : Int32) = nI 10 from rfl, pk_mul, nI_add]; rfl, I4, L4, RL4, rfl, hm4⟩)
      refine zx_iload C d_Rch_barOf_10 rfl ?_
      refine zx_ic C d_Rch_barOf_12 ?_
      refine zx_ic_ge C d_Rch_barOf_14 (fun h14 => ?_) (fun h14 => ?_)
      · exact absurd h14 (nI_ge (b := 6) (by omega) (by omega))
      · refine zx_iload C d_Rch_barOf_17 rfl ?_
        refine zx_ic C d_Rch_barOf_19 ?_
        refine zx_iadd C d_Rch_barOf_20 ?_
        rw [show (1 : Int32) = nI 1 from rfl, nI_add]
        refine zx_istore C d_Rch_barOf_21 (by decide) (lv1 := [(5, _), (0, _), (1, _), (2, _), (4, _)]) rfl ?_
        exact zx_lv [0, 1, 2, 4, 5] rfl (lpb (5 - a) (a + 1) (by omega) hs)
  refine zx_lstore C d_Rch_barOf_6 (by decide) (lv1 := [(2, _), (0, _), (1, _)]) rfl ?_
  refine zx_ic C d_Rch_barOf_7 ?_
  refine zx_istore C d_Rch_barOf_8 (by decide) (lv1 := [(4, _), (2, _), (0, _), (1, _)]) rfl ?_
  exact zx_lv [0, 1, 2, 4] rfl (lp 6 0 (by omega) rfl)
set_option maxHeartbeats 600000 in
set_option maxRecDepth 20000 in
theorem c_Tue_soonest (G : ZG) (ad : Nat → Nat) (I : Nat → Int32) (L : Nat → Int64) (g : Option Nat) (QH QD : Nat → Option Nat) (RI : Nat → Nat → Int32) (RL : Nat → Nat → Int64) (X : va_W) (S : ZA) (hA dA : Nat → Nat) (hm : crp S hA dA I L QH QD RI RL) (set : Int32) : ZM G y_Tue_soonest b_Tue_soonest 2 (some .int) r_Tue_soonest [.ref (ad 0), .int set] (cw G ad I L g none QH QD RI RL ++ pw hA dA (aT S) X) (cpi G ad X (ap_soon S set) S) := by
  refine ZM.of "SameTuesday" "soonest" rfl rfl (by decide) (Nat.le_of_ble_eq_true rfl) (fun Y C hq => ?_)
  change ZV G Y 0 0 0 [(0, .ref (ad 0)), (1, .int set)] [] (cw G ad I L g none QH QD RI RL ++ pw hA dA (aT S) X)
  refine zx_iload C d_Tue_soonest_0 rfl ?_
  refine zr_di (zr_S C l_Tue_157 d_Tue_soonest_1 (As := [_]) rfl rfl (Nat.le_of_ble_eq_true rfl) (c_Tue_isSet G _ _) ⟨Nat.le_of_ble_eq_true rfl, Nat.le_of_ble_eq_true rfl, Nat.le_of_ble_eq_true rfl, Nat.le_of_ble_eq_true rfl⟩) ?_
  refine zx_ifB_ne C d_Tue_soonest_4 (fun h4 => ?_) (fun h4 => ?_)
  · refine zx_aload C d_Tue_soonest_10 rfl ?_
    refine zx_get C f_Tue_21_11 d_Tue_soonest_11 0 zcw_0 rfl ?_
    refine zr_di (zr_V C l_Tue_125 d_Tue_soonest_14 (As := []) rfl rfl (Nat.le_of_ble_eq_true rfl) (c_Twn_isTold G _ _ _ _ _ _ _ _ _ _ (aT S).1 hm.2.2.2.2.2.2.1.1 hm.1.2.1.1) 10 zcw_10 rfl ⟨Nat.le_of_ble_eq_true rfl, Nat.le_of_ble_eq_true rfl, Nat.le_of_ble_eq_true rfl, Nat.le_of_ble_eq_true rfl⟩) ?_
    refine zx_ifB_eq C d_Tue_soonest_17 (fun h17 => ?_) (fun h17 => ?_)
    · have ev : ap_soon S set = -3 := by rw [ap_soon, if_neg (nor_of h4), if_pos (by first | exact h17 | exact Classical.byContradiction h17)]
      refine zx_ic C d_Tue_soonest_31 ?_
      exact zx_iret C hq d_Tue_soonest_33 (by rw [ev]; first | exact cpi_i rfl hm | exact cpi_i rfl hm4)
    · have h1 : 1 ≤ (aT S).2.2.1 := hm.1.2.2.1 (by omega)
      obtain ⟨a, ha, rfl⟩ := ix_le (n := 63) (by decide) h4.1 h4.2
      have ev : ap_soon S (nI a) = soonF (aT S) a (aT S).2.2.1 0 := by rw [ap_soon, if_neg (nor_of h4), if_neg h17, nI_cl (by omega)]
      refine zx_aload C d_Tue_soonest_20 rfl ?_
      refine zx_get C f_Tue_37_11 d_Tue_soonest_21 0 zcw_0 rfl ?_
      refine zx_iload C d_Tue_soonest_24 rfl ?_
      refine zr_i (zr_V C l_Tue_168 d_Tue_soonest_25 (As := [_]) rfl rfl (Nat.le_of_ble_eq_true rfl) (c_Rch_soonestOf G ad I L g QH QD RI RL X S hA dA hm h1 a (by omega)) 17 zcw_17 rfl ⟨Nat.le_of_ble_eq_true rfl, Nat.le_of_ble_eq_true rfl, Nat.le_of_ble_eq_true rfl, Nat.le_of_ble_eq_true rfl⟩) (fun r w1 hw1 => ?_)
      obtain ⟨rfl, I4, L4, RL4, rfl, hm4⟩ := hw1
      refine zx_goto C d_Tue_soonest_28 ?_
      exact zx_iret C hq d_Tue_soonest_33 (by rw [ev]; first | exact cpi_i rfl hm | exact cpi_i rfl hm4)
  · have ev : ap_soon S set = -2 := if_pos (nand_or h4)
    refine zx_ic C d_Tue_soonest_7 ?_
    exact zx_iret C hq d_Tue_soonest_9 (by rw [ev]; exact cpi_i rfl hm)
set_option maxHeartbeats 600000 in
set_option maxRecDepth 20000 in
theorem c_Tue_bar (G : ZG) (ad : Nat → Nat) (I : Nat → Int32) (L : Nat → Int64) (g : Option Nat) (QH QD : Nat → Option Nat) (RI : Nat → Nat → Int32) (RL : Nat → Nat → Int64) (X : va_W) (S : ZA) (hA dA : Nat → Nat) (hm : crp S hA dA I L QH QD RI RL) (set : Int32) : ZM G y_Tue_bar b_Tue_bar 2 (some .int) r_Tue_bar [.ref (ad 0), .int set] (cw G ad I L g none QH QD RI RL ++ pw hA dA (aT S) X) (cpi G ad X (ap_bar S set) S) := by
  refine ZM.of "SameTuesday" "bar" rfl rfl (by decide) (Nat.le_of_ble_eq_true rfl) (fun Y C hq => ?_)
  change ZV G Y 0 0 0 [(0, .ref (ad 0)), (1, .int set)] [] (cw G ad I L g none QH QD RI RL ++ pw hA dA (aT S) X)
  refine zx_iload C d_Tue_bar_0 rfl ?_
  refine zr_di (zr_S C l_Tue_157 d_Tue_bar_1 (As := [_]) rfl rfl (Nat.le_of_ble_eq_true rfl) (c_Tue_isSet G _ _) ⟨Nat.le_of_ble_eq_true rfl, Nat.le_of_ble_eq_true rfl, Nat.le_of_ble_eq_true rfl, Nat.le_of_ble_eq_true rfl⟩) ?_
  refine zx_ifB_ne C d_Tue_bar_4 (fun h4 => ?_) (fun h4 => ?_)
  · refine zx_aload C d_Tue_bar_10 rfl ?_
    refine zx_get C f_Tue_21_11 d_Tue_bar_11 0 zcw_0 rfl ?_
    refine zr_di (zr_V C l_Tue_125 d_Tue_bar_14 (As := []) rfl rfl (Nat.le_of_ble_eq_true rfl) (c_Twn_isTold G _ _ _ _ _ _ _ _ _ _ (aT S).1 hm.2.2.2.2.2.2.1.1 hm.1.2.1.1) 10 zcw_10 rfl ⟨Nat.le_of_ble_eq_true rfl, Nat.le_of_ble_eq_true rfl, Nat.le_of_ble_eq_true rfl, Nat.le_of_ble_eq_true rfl⟩) ?_
    refine zx_ifB_eq C d_Tue_bar_17 (fun h17 => ?_) (fun h17 => ?_)
    · have ev : ap_bar S set = -3 := by rw [ap_bar, if_neg (nor_of h4), if_pos (by first | exact h17 | exact Classical.byContradiction h17)]
      refine zx_ic C d_Tue_bar_31 ?_
      exact zx_iret C hq d_Tue_bar_33 (by rw [ev]; first | exact cpi_i rfl hm | exact cpi_i rfl hm4)
    · have h1 : 1 ≤ (aT S).2.2.1 := hm.1.2.2.1 (by omega)
      obtain ⟨a, ha, rfl⟩ := ix_le (n := 63) (by decide) h4.1 h4.2
      have ev : ap_bar S (nI a) = barO (cbe (aT S) (aT S).2.2.1) a 6 0 := by rw [ap_bar, if_neg (nor_of h4), if_neg h17, nI_cl (by omega)]
      refine zx_aload C d_Tue_bar_20 rfl ?_
      refine zx_get C f_Tue_37_11 d_Tue_bar_21 0 zcw_0 rfl ?_
      refine zx_iload C d_Tue_bar_24 rfl ?_
      refine zr_i (zr_V C l_Tue_172 d_Tue_bar_25 (As := [_]) rfl rfl (Nat.le_of_ble_eq_true rfl) (c_Rch_barOf G ad I L g QH QD RI RL X S hA dA hm h1 a (by omega)) 17 zcw_17 rfl ⟨Nat.le_of_ble_eq_true rfl, Nat.le_of_ble_eq_true rfl, Nat.le_of_ble_eq_true rfl, Nat.le_of_ble_eq_true rfl⟩) (fun r w1 hw1 => ?_)
      obtain ⟨rfl, I4, L4, RL4, rfl, hm4⟩ := hw1
      refine zx_goto C d_Tue_bar_28 ?_
      exact zx_iret C hq d_Tue_bar_33 (by rw [ev]; first | exact cpi_i rfl hm | exact cpi_i rfl hm4)
  · have ev : ap_bar S set = -2 := if_pos (nand_or h4)
    refine zx_ic C d_Tue_bar_7 ?_
    exact zx_iret C hq d_Tue_bar_9 (by rw [ev]; exact cpi_i rfl hm)
set_option maxHeartbeats 600000 in
set_option maxRecDepth 20000 in
theorem c_Tue_next (G : ZG) (ad : Nat → Nat) (I : Nat → Int32) (L : Nat → Int64) (g : Option Nat) (QH QD : Nat → Option Nat) (RI : Nat → Nat → Int32) (RL : Nat → Nat → Int64) (X : va_W) (S : ZA) (hA dA : Nat → Nat) (hm : crp S hA dA I L QH QD RI RL) (what : Int32) : ZM G y_Tue_next b_Tue_next 3 (some .int) r_Tue_next [.ref (ad 0), .int what] (cw G ad I L g none QH QD RI RL ++ pw hA dA (aT S) X) (cpi G ad X (ap_next S what) S) := by
  refine ZM.of "SameTuesday" "next" rfl rfl (by decide) (Nat.le_of_ble_eq_true rfl) (fun Y C hq => ?_)
  change ZV G Y 0 0 0 [(0, .ref (ad 0)), (1, .int what)] [] (cw G ad I L g none QH QD RI RL ++ pw hA dA (aT S) X)
  have s12 : ¬ what < 0 ∧ ¬ 1 < what → ZV G Y 0 0 12 [(0, .ref (ad 0)), (1, .int what)] [] (cw G ad I L g none QH QD RI RL ++ pw hA dA (aT S) X) := by
    intro hwh
    have h60 := hm.1.2.1.2.2.1
    refine zx_aload C d_Tue_next_12 rfl ?_
    refine zx_get C f_Tue_21_11 d_Tue_next_13 0 zcw_0 rfl ?_
    refine zr_di (zr_V C l_Tue_125 d_Tue_next_16 (As := []) rfl rfl (Nat.le_of_ble_eq_true rfl) (c_Twn_isTold G _ _ _ _ _ _ _ _ _ _ (aT S).1 hm.2.2.2.2.2.2.1.1 hm.1.2.1.1) 10 zcw_10 rfl ⟨Nat.le_of_ble_eq_true rfl, Nat.le_of_ble_eq_true rfl, Nat.le_of_ble_eq_true rfl, Nat.le_of_ble_eq_true rfl⟩) ?_
    refine zx_ifB_ne C d_Tue_next_19 (fun h19 => ?_) (fun h19 => ?_)
    · have h1 : 1 ≤ (aT S).2.2.1 := hm.1.2.2.1 (by omega)
      have evz : ap_next S what = if what = 0 then bzv (nxF (cbe (aT S) (aT S).2.2.1) (prt (lwA S)) 64 0 (none, 0)).1 else nI (nxF (cbe (aT S) (aT S).2.2.1) (prt (lwA S)) 64 0 (none, 0)).2 := by rw [ap_next, if_neg (nor_of hwh), if_neg h19]
      refine zx_aload C d_Tue_next_25 rfl ?_
      refine zx_get C f_Tue_44_11 d_Tue_next_26 0 zcw_0 rfl ?_
      refine zx_aload C d_Tue_next_29 rfl ?_
      refine zx_get C f_Tue_37_11 d_Tue_next_30 0 zcw_0 rfl ?_
      refine zx_ic C d_Tue_next_33 ?_
      refine zr_l (zr_V C l_Tue_160 d_Tue_next_35 (As := [_]) rfl rfl (Nat.le_of_ble_eq_true rfl) (c_Rch_worldAt G ad I L g QH QD RI RL X S hA dA hm h1 59 (by omega)) 17 zcw_17 rfl ⟨Nat.le_of_ble_eq_true rfl, Nat.le_of_ble_eq_true rfl, Nat.le_of_ble_eq_true rfl, Nat.le_of_ble_eq_true rfl⟩) (fun yy w1 hw1 => ?_)
      obtain ⟨hx, I4, L4, RL4, rfl, hm4⟩ := hw1
      rw [show min (aT S).2.2.1 (59 + 1) = (aT S).2.2.1 by omega] at hx
      refine zr_di (zr_V C l_Tue_195 d_Tue_next_38 (As := [_]) rfl rfl (Nat.le_of_ble_eq_true rfl) (c_Law_partingBest G _ _ _ _ _ _ _ _ _ _ (and8 S) hm4.2.2.2.2.1 hm4.1.2.2.2.1 (ady S) (fun j hj => ⟨hm4.1.2.2.2.2 j hj, hm4.2.2.2.2.2.1 j hj⟩) (cbe (aT S) (aT S).2.2.1) _ hx) 20 zcw_20 rfl ⟨Nat.le_of_ble_eq_true rfl, Nat.le_of_ble_eq_true rfl, Nat.le_of_ble_eq_true rfl, Nat.le_of_ble_eq_true rfl⟩) ?_
      rw [show nxF (cbe (aT S) (aT S).2.2.1) (prt (ilw (ady S) (and8 S))) 64 0 (none, 0) = (nxF (cbe (aT S) (aT S).2.2.1) (prt (lwA S)) 64 0 (none, 0)) from rfl]
      refine zx_istore C d_Tue_next_41 (by decide) (lv1 := [(2, _), (0, _), (1, _)]) rfl ?_
      refine zx_iload C d_Tue_next_42 rfl ?_
      refine zx_if_ne C d_Tue_next_43 (fun h43 => ?_) (fun h43 => ?_)
      · rw [if_neg h43] at evz
        have hok := nxF_ok (C := cbe (aT S) (aT S).2.2.1) (g := prt (lwA S)) (n := 64) (f := 0) (s := (none, 0)) (by omega) (fun y hy => by cases hy)
        obtain ⟨f, hf, ef⟩ := cbe_ne hm.1.2.1 (aT S).2.2.1
        have hne := hok.2 (Or.inr ⟨f, by omega, by omega, ef⟩)
        obtain ⟨y, ey⟩ : ∃ y, (nxF (cbe (aT S) (aT S).2.2.1) (prt (lwA S)) 64 0 (none, 0)).1 = some y := by
          cases hz : (nxF (cbe (aT S) (aT S).2.2.1) (prt (lwA S)) 64 0 (none, 0)).1 with
          | none => exact absurd hz hne
          | some y => exact ⟨y, rfl⟩
        have hy := hok.1 y ey
        refine zx_aload C d_Tue_next_50 rfl ?_
        refine zx_get C f_Tue_44_11 d_Tue_next_51 0 zcw_0 rfl ?_
        refine zr_dl (zr_V C l_Tue_181 d_Tue_next_54 (As := []) rfl rfl (Nat.le_of_ble_eq_true rfl) (c_Law_possible G _ _ _ _ _ _ _ _ _ _ (and8 S) hm4.2.2.2.2.1 hm4.1.2.2.2.1 (ady S) (fun j hj => ⟨hm4.1.2.2.2.2 j hj, hm4.2.2.2.2.2.1 j hj⟩)) 20 zcw_20 rfl ⟨Nat.le_of_ble_eq_true rfl, Nat.le_of_ble_eq_true rfl, Nat.le_of_ble_eq_true rfl, Nat.le_of_ble_eq_true rfl⟩) ?_
        refine zx_iload C d_Tue_next_57 rfl ?_
        rw [ey]
        refine zx_eq rfl (st1 := [.int (nI y), .long (wpo (ady S) (and8 S))]) rfl rfl ?_
        refine zr_di (zr_S C l_Tue_198 d_Tue_next_58 (As := [_, _]) rfl rfl (Nat.le_of_ble_eq_true rfl) (c_Tue_lesserPart G _ (lwA S) _ y hy.1 (bt_wpo (fun j hj => hm4.1.2.2.2.2 j hj))) ⟨Nat.le_of_ble_eq_true rfl, Nat.le_of_ble_eq_true rfl, Nat.le_of_ble_eq_true rfl, Nat.le_of_ble_eq_true rfl⟩) ?_
        exact zx_iret C hq d_Tue_next_61 (by rw [evz]; first | exact cpi_i rfl hm4 | exact cpi_i (congrArg nI hy.2.symm) hm4)
      · rw [if_pos (by first | exact h43 | exact Classical.byContradiction h43)] at evz
        refine zx_iload C d_Tue_next_46 rfl ?_
        refine zx_goto C d_Tue_next_47 ?_
        exact zx_iret C hq d_Tue_next_61 (by rw [evz]; first | exact cpi_i rfl hm4 | exact cpi_i (congrArg nI hy.2.symm) hm4)
    · have ev : ap_next S what = -3 := by rw [ap_next, if_neg (nor_of hwh), if_pos (Classical.byContradiction h19)]
      refine zx_ic C d_Tue_next_22 ?_
      exact zx_iret C hq d_Tue_next_24 (by rw [ev]; exact cpi_i rfl hm)
  refine zx_iload C d_Tue_next_0 rfl ?_
  refine zx_if_eq C d_Tue_next_1 (fun h1 => ?_) (fun h1 => ?_)
  · have hwh : ¬ what < 0 ∧ ¬ 1 < what := by rw [show what = 0 by first | exact h1 | exact Classical.byContradiction h1]; decide
    exact s12 hwh
  · refine zx_iload C d_Tue_next_4 rfl ?_
    refine zx_ic C d_Tue_next_5 ?_
    refine zx_ic_eq C d_Tue_next_6 (fun h6 => ?_) (fun h6 => ?_)
    · have hwh : ¬ what < 0 ∧ ¬ 1 < what := by rw [show what = 1 by first | exact h6 | exact Classical.byContradiction h6]; decide
      exact s12 hwh
    · have ev : ap_next S what = -2 := if_pos (Classical.byContradiction fun y => by
        obtain ⟨x, hx, rfl⟩ := ix_le (n := 1) (by decide) (fun u => y (Or.inl u)) (fun u => y (Or.inr u))
        rcases (by omega : x = 0 ∨ x = 1) with rfl | rfl
        · exact h1 rfl
        · exact h6 rfl)
      refine zx_ic C d_Tue_next_9 ?_
      exact zx_iret C hq d_Tue_next_11 (by rw [ev]; exact cpi_i rfl hm)
