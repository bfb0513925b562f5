set_option maxHeartbeats 600000 in
set_option maxRecDepth 20000 in
theorem c_Law_ofFewestFacts (G : ZG) (ad : Nat → Nat) (I : Nat → Int32) (L : Nat → Int64) (g z : Option Nat) (QH QD : Nat → Option Nat) (RI : Nat → Nat → Int32) (RL : Nat → Nat → Int64) (X : va_W) (n : Nat) (hn : I 18 = nI n) (h8 : n ≤ 8) (dy : Nat → Nat) (hd : ∀ j, j < n → dy j < 64 ∧ RI 6 j = nI (dy j)) : ZM G y_Law_ofFewestFacts b_Law_ofFewestFacts 6 (some .int) r_Law_ofFewestFacts [.ref (ad 20)] (cw G ad I L g z QH QD RI RL ++ X) (zdi (bzv (fewF (ilw dy n) 64 0 none)) (cw G ad I L g z QH QD RI RL ++ X)) := by
  refine ZM.of "SameTuesday$Law" "ofFewestFacts" rfl rfl (by decide) (Nat.le_of_ble_eq_true rfl) (fun Y C hq => ?_)
  change ZV G Y 0 0 0 [(0, .ref (ad 20))] [] (cw G ad I L g z QH QD RI RL ++ X)
  have hb : ∀ s, s < 64 → bt (wpo dy n) s = ilw dy n s := bt_wpo (fun j hj => (hd j hj).1)
  have lp : ∀ r s b, s + r = 64 → (∀ y, b = some y → y < 64) → fewF (ilw dy n) r s b = fewF (ilw dy n) 64 0 none → ZV G Y 0 0 11 [(0, .ref (ad 20)), (1, .long (wpo dy n)), (3, .int (bzv b)), (4, .int (nI s))] [] (cw G ad I L g z QH QD RI RL ++ X) := by
    intro r
    induction r with
    | zero =>
      intro s b hs hy h3
      obtain rfl : s = 64 := by omega
      rw [fewF] at h3
      refine zx_iload C d_Law_ofFewestFacts_11 rfl ?_
      refine zx_ic C d_Law_ofFewestFacts_13 ?_
      refine zx_ic_ge C d_Law_ofFewestFacts_15 (fun h15 => ?_) (fun h15 => ?_)
      · refine zx_iload C d_Law_ofFewestFacts_66 rfl ?_
        exact zx_iret C hq d_Law_ofFewestFacts_67 (⟨by rw [← h3], rfl⟩)
      · exact absurd (Int32.le_refl _) h15
    | succ r ih =>
      intro s b hs hy h3
      rw [fewF] at h3
      have s41 : ∀ v : Int32, v = zB (fbet s b = true) → ZV G Y 0 0 41 [(0, .ref (ad 20)), (1, .long (wpo dy n)), (3, .int (bzv b)), (4, .int (nI s))] [.int v] (cw G ad I L g z QH QD RI RL ++ X) := by
        intro v hv
        subst hv
        refine zx_istore C d_Law_ofFewestFacts_41 (by decide) (lv1 := [(5, _), (0, _), (1, _), (3, _), (4, _)]) rfl ?_
        refine zx_lload C d_Law_ofFewestFacts_43 rfl ?_
        refine zx_iload C d_Law_ofFewestFacts_44 rfl ?_
        refine zr_di (zr_N C l_Law_35 d_Law_ofFewestFacts_46 (As := [_, _]) rfl rfl (Nat.le_of_ble_eq_true rfl) (c_Tue_hasState G _ _ s (by omega)) ⟨Nat.le_of_ble_eq_true rfl, Nat.le_of_ble_eq_true rfl, Nat.le_of_ble_eq_true rfl, Nat.le_of_ble_eq_true rfl⟩) ?_
        refine zx_ifB_eq C d_Law_ofFewestFacts_49 (fun h49 => ?_) (fun h49 => ?_)
        · rw [if_neg (fun z => h49 ((hb s (by omega)).trans z.1))] at h3
          refine zx_iinc C d_Law_ofFewestFacts_60 (by decide) rfl (lv1 := [(4, _), (5, _), (0, _), (1, _), (3, _)]) rfl ?_
          refine zx_goto C d_Law_ofFewestFacts_63 ?_
          rw [show (1 : Int32) = nI 1 from rfl, nI_add]
          exact zx_lv [0, 1, 3, 4] rfl (ih (s + 1) b (by omega) hy h3)
        · refine zx_iload C d_Law_ofFewestFacts_52 rfl ?_
          refine zx_if_eq C d_Law_ofFewestFacts_54 (fun h54 => ?_) (fun h54 => ?_)
          · have h54 : ¬ fbet s b = true := zB_e0.mp h54
            rw [if_neg (fun z => h54 z.2)] at h3
            refine zx_iinc C d_Law_ofFewestFacts_60 (by decide) rfl (lv1 := [(4, _), (5, _), (0, _), (1, _), (3, _)]) rfl ?_
            refine zx_goto C d_Law_ofFewestFacts_63 ?_
            rw [show (1 : Int32) = nI 1 from rfl, nI_add]
            exact zx_lv [0, 1, 3, 4] rfl (ih (s + 1) b (by omega) hy h3)
          · have h54 : fbet s b = true := Classical.byContradiction fun z => h54 (zB_e0.mpr z)
            rw [if_pos ⟨(hb s (by omega)).symm.trans h49, h54⟩] at h3
            refine zx_iload C d_Law_ofFewestFacts_57 rfl ?_
            refine zx_istore C d_Law_ofFewestFacts_59 (by decide) (lv1 := [(3, _), (5, _), (0, _), (1, _), (4, _)]) rfl ?_
            refine zx_iinc C d_Law_ofFewestFacts_60 (by decide) rfl (lv1 := [(4, _), (3, _), (5, _), (0, _), (1, _)]) rfl ?_
            refine zx_goto C d_Law_ofFewestFacts_63 ?_
            rw [show (1 : Int32) = nI 1 from rfl, nI_add]
            exact zx_lv [0, 1, 3, 4] rfl (ih (s + 1) (some s) (by omega) (fun y hy => by cases hy; omega) h3)
      refine zx_iload C d_Law_ofFewestFacts_11 rfl ?_
      refine zx_ic C d_Law_ofFewestFacts_13 ?_
      refine zx_ic_ge C d_Law_ofFewestFacts_15 (fun h15 => ?_) (fun h15 => ?_)
      · exact absurd h15 (nI_ge (b := 64) (by omega) (by omega))
      · refine zx_iload C d_Law_ofFewestFacts_18 rfl ?_
        refine zx_ic C d_Law_ofFewestFacts_19 ?_
        refine zx_ic_eq C d_Law_ofFewestFacts_21 (fun h21 => ?_) (fun h21 => ?_)
        · have hbn : b = none := (bzv_none (fun d hd => by have := hy d hd; omega)).mp h21
          have ev1 : (1 : Int32) = zB (fbet s b = true) := by rw [hbn]; rfl
          refine zx_ic C d_Law_ofFewestFacts_36 ?_
          refine zx_goto C d_Law_ofFewestFacts_37 ?_
          exact s41 _ ev1
        · obtain ⟨y, rfl⟩ : ∃ y, b = some y := by
            cases b with
            | none => exact absurd rfl h21
            | some y => exact ⟨y, rfl⟩
          refine zx_iload C d_Law_ofFewestFacts_24 rfl ?_
          refine zr_di (zr_S C l_Law_39 d_Law_ofFewestFacts_26 (As := [_]) rfl rfl (Nat.le_of_ble_eq_true rfl) (c_JInt_bitCount G _ s (by omega)) ⟨Nat.le_of_ble_eq_true rfl, Nat.le_of_ble_eq_true rfl, Nat.le_of_ble_eq_true rfl, Nat.le_of_ble_eq_true rfl⟩) ?_
          refine zx_iload C d_Law_ofFewestFacts_29 rfl ?_
          refine zr_di (zr_S C l_Law_39 d_Law_ofFewestFacts_30 (As := [_]) rfl rfl (Nat.le_of_ble_eq_true rfl) (c_JInt_bitCount G _ y (hy y rfl)) ⟨Nat.le_of_ble_eq_true rfl, Nat.le_of_ble_eq_true rfl, Nat.le_of_ble_eq_true rfl, Nat.le_of_ble_eq_true rfl⟩) ?_
          refine zx_ic_ge C d_Law_ofFewestFacts_33 (fun h33 => ?_) (fun h33 => ?_)
          · have ev1 : (0 : Int32) = zB (fbet s (some y) = true) := (zB_f (fun z => by have z := of_decide_eq_true z; have := (nI_leI (by have := @popc_le 6 y; omega) (by have := @popc_le 6 s; omega)).mp h33; omega)).symm
            refine zx_ic C d_Law_ofFewestFacts_40 ?_
            exact s41 _ ev1
          · have ev1 : (1 : Int32) = zB (fbet s (some y) = true) := (zB_t (decide_eq_true (by
              have z : ¬ popc 6 y ≤ popc 6 s := fun z => h33 ((nI_leI (by have := @popc_le 6 y; omega) (by have := @popc_le 6 s; omega)).mpr z)
              omega))).symm
            refine zx_ic C d_Law_ofFewestFacts_36 ?_
            refine zx_goto C d_Law_ofFewestFacts_37 ?_
            exact s41 _ ev1
  refine zx_aload C d_Law_ofFewestFacts_0 rfl ?_
  refine zr_dl (zr_V C l_Law_31 d_Law_ofFewestFacts_1 (As := []) rfl rfl (Nat.le_of_ble_eq_true rfl) (c_Law_possible G _ _ _ _ _ _ _ _ _ _ n hn h8 dy hd) 20 zcw_20 rfl ⟨Nat.le_of_ble_eq_true rfl, Nat.le_of_ble_eq_true rfl, Nat.le_of_ble_eq_true rfl, Nat.le_of_ble_eq_true rfl⟩) ?_
  refine zx_lstore C d_Law_ofFewestFacts_4 (by decide) (lv1 := [(1, _), (0, _)]) rfl ?_
  refine zx_ic C d_Law_ofFewestFacts_5 ?_
  refine zx_istore C d_Law_ofFewestFacts_7 (by decide) (lv1 := [(3, _), (1, _), (0, _)]) rfl ?_
  refine zx_ic C d_Law_ofFewestFacts_8 ?_
  refine zx_istore C d_Law_ofFewestFacts_9 (by decide) (lv1 := [(4, _), (3, _), (1, _), (0, _)]) rfl ?_
  exact zx_lv [0, 1, 3, 4] rfl (lp 64 0 none (by omega) (fun y hy => by cases hy) rfl)
set_option maxHeartbeats 600000 in
set_option maxRecDepth 20000 in
theorem c_Tue_fewest (G : ZG) (ad : Nat → Nat) (I : Nat → Int32) (L : Nat → Int64) (g : Option Nat) (QH QD : Nat → Option Nat) (RI : Nat → Nat → Int32) (RL : Nat → Nat → Int64) (X : va_W) (S : ZA) (hA dA : Nat → Nat) (hm : crp S hA dA I L QH QD RI RL)  : ZM G y_Tue_fewest b_Tue_fewest 1 (some .int) r_Tue_fewest [.ref (ad 0)] (cw G ad I L g none QH QD RI RL ++ pw hA dA (aT S) X) (cpi G ad X (ap_few S) S) := by
  refine ZM.of "SameTuesday" "fewest" rfl rfl (by decide) (Nat.le_of_ble_eq_true rfl) (fun Y C hq => ?_)
  change ZV G Y 0 0 0 [(0, .ref (ad 0))] [] (cw G ad I L g none QH QD RI RL ++ pw hA dA (aT S) X)
  refine zx_aload C d_Tue_fewest_0 rfl ?_
  refine zx_get C f_Tue_21_11 d_Tue_fewest_1 0 zcw_0 rfl ?_
  refine zr_di (zr_V C l_Tue_125 d_Tue_fewest_4 (As := []) rfl rfl (Nat.le_of_ble_eq_true rfl) (c_Twn_isTold G _ _ _ _ _ _ _ _ _ _ (aT S).1 hm.2.2.2.2.2.2.1.1 hm.1.2.1.1) 10 zcw_10 rfl ⟨Nat.le_of_ble_eq_true rfl, Nat.le_of_ble_eq_true rfl, Nat.le_of_ble_eq_true rfl, Nat.le_of_ble_eq_true rfl⟩) ?_
  refine zx_ifB_eq C d_Tue_fewest_7 (fun h7 => ?_) (fun h7 => ?_)
  · have ev : ap_few S = -3 := if_pos (by first | exact h7 | exact Classical.byContradiction h7)
    refine zx_ic C d_Tue_fewest_20 ?_
    exact zx_iret C hq d_Tue_fewest_22 (by rw [ev]; exact cpi_i rfl hm)
  · have ev : ap_few S = bzv (fewF (ilw (ady S) (and8 S)) 64 0 none) := if_neg h7
    refine zx_aload C d_Tue_fewest_10 rfl ?_
    refine zx_get C f_Tue_44_11 d_Tue_fewest_11 0 zcw_0 rfl ?_
    refine zr_di (zr_V C l_Tue_192 d_Tue_fewest_14 (As := []) rfl rfl (Nat.le_of_ble_eq_true rfl) (c_Law_ofFewestFacts G _ _ _ _ _ _ _ _ _ _ (and8 S) hm.2.2.2.2.1 hm.1.2.2.2.1 (ady S) (fun j hj => ⟨hm.1.2.2.2.2 j hj, hm.2.2.2.2.2.1 j hj⟩)) 20 zcw_20 rfl ⟨Nat.le_of_ble_eq_true rfl, Nat.le_of_ble_eq_true rfl, Nat.le_of_ble_eq_true rfl, Nat.le_of_ble_eq_true rfl⟩) ?_
    refine zx_goto C d_Tue_fewest_17 ?_
    exact zx_iret C hq d_Tue_fewest_22 (by rw [ev]; exact cpi_i rfl hm)
theorem lsp_eq {L : Nat → Bool} {x : Int64} {s : Nat} (hs : s < 64) (hL : ∀ z, z < 64 → bt x z = L z) : (if nI (cntN (fun z => bt x z) 64) - nI (cntN (fun z => bt (x &&& wwi s 6) z) 64) < nI (cntN (fun z => bt (x &&& wwi s 6) z) 64) then nI (cntN (fun z => bt x z) 64) - nI (cntN (fun z => bt (x &&& wwi s 6) z) 64) else nI (cntN (fun z => bt (x &&& wwi s 6) z) 64)) = nI (prt L s) := by
  have e1 : cntN (fun z => bt (x &&& wwi s 6) z) 64 = inC L s 64 := cntN_congr (fun z hz => by rw [bt_and, hL z hz, bt_wwi s hs z hz])
  have e2 : cntN (fun z => bt x z) 64 = cntN L 64 := cntN_congr hL
  have e3 := inC_ouC L s 64
  have h1 : inC L s 64 ≤ 64 := cntN_le _ 64
  have h2 : ouC L s 64 ≤ 64 := cntN_le _ 64
  rw [e1, e2, ← e3, pk_sub (by omega), show inC L s 64 + ouC L s 64 - inC L s 64 = ouC L s 64 by omega]
  unfold prt
  by_cases h : ouC L s 64 < inC L s 64
  · rw [if_pos ((nI_ltI (by omega) (by omega)).mpr h), if_neg (by omega)]
  · rw [if_neg (fun z => h ((nI_ltI (by omega) (by omega)).mp z))]
    by_cases h3 : inC L s 64 < ouC L s 64
    · rw [if_pos h3]
    · rw [if_neg h3]; congr 1; omega
set_option maxHeartbeats 600000 in
set_option maxRecDepth 20000 in
theorem c_Tue_lesserPart (G : ZG) (w : va_W) (L : Nat → Bool) (x : Int64) (s : Nat) (hs : s < 64) (hL : ∀ z, z < 64 → bt x z = L z) : ZM G y_Tue_lesserPart b_Tue_lesserPart 4 (some .int) r_Tue_lesserPart [.long x, .int (nI s)] w (zdi (nI (prt L s)) w) := by
  refine ZM.of "SameTuesday" "lesserPart" rfl rfl (by decide) (Nat.le_of_ble_eq_true rfl) (fun Y C hq => ?_)
  change ZV G Y 0 0 0 [(0, .long x), (2, .int (nI s))] [] w
  refine zx_lload C d_Tue_lesserPart_0 rfl ?_
  refine zx_iload C d_Tue_lesserPart_1 rfl ?_
  refine zr_dl (zr_S C l_Tue_276 d_Tue_lesserPart_2 (As := [_]) rfl rfl (Nat.le_of_ble_eq_true rfl) (c_Tue_worldWithin G _ s hs) ⟨Nat.le_of_ble_eq_true rfl, Nat.le_of_ble_eq_true rfl, Nat.le_of_ble_eq_true rfl, Nat.le_of_ble_eq_true rfl⟩) ?_
  refine zx_land C d_Tue_lesserPart_5 ?_
  refine zr_di (zr_S C l_Tue_185 d_Tue_lesserPart_6 (As := [_]) rfl rfl (Nat.le_of_ble_eq_true rfl) (c_JLong_bitCount G _ _) ⟨Nat.le_of_ble_eq_true rfl, Nat.le_of_ble_eq_true rfl, Nat.le_of_ble_eq_true rfl, Nat.le_of_ble_eq_true rfl⟩) ?_
  refine zx_istore C d_Tue_lesserPart_9 (by decide) (lv1 := [(3, _), (0, _), (2, _)]) rfl ?_
  refine zx_iload C d_Tue_lesserPart_10 rfl ?_
  refine zx_lload C d_Tue_lesserPart_11 rfl ?_
  refine zr_di (zr_S C l_Tue_185 d_Tue_lesserPart_12 (As := [_]) rfl rfl (Nat.le_of_ble_eq_true rfl) (c_JLong_bitCount G _ _) ⟨Nat.le_of_ble_eq_true rfl, Nat.le_of_ble_eq_true rfl, Nat.le_of_ble_eq_true rfl, Nat.le_of_ble_eq_true rfl⟩) ?_
  refine zx_iload C d_Tue_lesserPart_15 rfl ?_
  refine zx_isub C d_Tue_lesserPart_16 ?_
  refine zx_mmin C zk_math_Tue_279 d_Tue_lesserPart_17 (Nat.le_of_ble_eq_true rfl) (Nat.le_of_ble_eq_true rfl) (Nat.le_of_ble_eq_true rfl) (Nat.le_of_ble_eq_true rfl) ?_
  exact zx_iret C hq d_Tue_lesserPart_20 (⟨congrArg (fun v => some (Value.int v)) (lsp_eq hs hL), rfl⟩)
def mst (s : Option Nat × Nat) : Int32 := if s.1 = none then -1 else nI s.2
theorem mst_le {s : Option Nat × Nat} {g : Nat} (h1 : s.2 ≤ 64) (h2 : g ≤ 64) : nI g ≤ mst s ↔ ¬ (s.1 = none ∨ s.2 < g) := by
  unfold mst
  by_cases h : s.1 = none
  · rw [if_pos h]
    exact ⟨fun z => absurd (Int32.lt_of_le_of_lt z (by decide : (-1 : Int32) < 0)) (nI_nn (by omega)), fun z => absurd (Or.inl h) z⟩
  · rw [if_neg h, nI_leI (by omega) (by omega)]
    exact ⟨fun z y => y.elim h (fun y => by omega), fun z => Classical.byContradiction fun y => z (Or.inr (by omega))⟩
set_option maxHeartbeats 600000 in
set_option maxRecDepth 20000 in
theorem c_Law_partingBest (G : ZG) (ad : Nat → Nat) (I : Nat → Int32) (L : Nat → Int64) (g z : Option Nat) (QH QD : Nat → Option Nat) (RI : Nat → Nat → Int32) (RL : Nat → Nat → Int64) (X : va_W) (n : Nat) (hn : I 18 = nI n) (h8 : n ≤ 8) (dy : Nat → Nat) (hd : ∀ j, j < n → dy j < 64 ∧ RI 6 j = nI (dy j)) (CC : Nat → Bool) (yy : Int64) (hC : ∀ s, s < 64 → bt yy s = CC s) : ZM G y_Law_partingBest b_Law_partingBest 8 (some .int) r_Law_partingBest [.ref (ad 20), .long yy] (cw G ad I L g z QH QD RI RL ++ X) (zdi (bzv (nxF CC (prt (ilw dy n)) 64 0 (none, 0)).1) (cw G ad I L g z QH QD RI RL ++ X)) := by
  refine ZM.of "SameTuesday$Law" "partingBest" rfl rfl (by decide) (Nat.le_of_ble_eq_true rfl) (fun Y C hq => ?_)
  change ZV G Y 0 0 0 [(0, .ref (ad 20)), (1, .long yy)] [] (cw G ad I L g z QH QD RI RL ++ X)
  have hb : ∀ s, s < 64 → bt (wpo dy n) s = ilw dy n s := bt_wpo (fun j hj => (hd j hj).1)
  have lp : ∀ r s u, s + r = 64 → u.2 ≤ 64 → nxF CC (prt (ilw dy n)) r s u = nxF CC (prt (ilw dy n)) 64 0 (none, 0) → ZV G Y 0 0 15 [(0, .ref (ad 20)), (1, .long yy), (3, .long (wpo dy n)), (5, .int (bzv u.1)), (6, .int (mst u)), (7, .int (nI s))] [] (cw G ad I L g z QH QD RI RL ++ X) := by
    intro r
    induction r with
    | zero =>
      intro s u hs hu h3
      obtain rfl : s = 64 := by omega
      rw [nxF] at h3
      refine zx_iload C d_Law_partingBest_15 rfl ?_
      refine zx_ic C d_Law_partingBest_17 ?_
      refine zx_ic_ge C d_Law_partingBest_19 (fun h19 => ?_) (fun h19 => ?_)
      · refine zx_iload C d_Law_partingBest_60 rfl ?_
        exact zx_iret C hq d_Law_partingBest_62 (⟨by rw [← h3], rfl⟩)
      · exact absurd (Int32.le_refl _) h19
    | succ r ih =>
      intro s u hs hu h3
      rw [nxF] at h3
      have hp : prt (ilw dy n) s ≤ 64 := prt_le _ _
      refine zx_iload C d_Law_partingBest_15 rfl ?_
      refine zx_ic C d_Law_partingBest_17 ?_
      refine zx_ic_ge C d_Law_partingBest_19 (fun h19 => ?_) (fun h19 => ?_)
      · exact absurd h19 (nI_ge (b := 64) (by omega) (by omega))
      · refine zx_lload C d_Law_partingBest_22 rfl ?_
        refine zx_iload C d_Law_partingBest_23 rfl ?_
        refine zr_di (zr_N C l_Law_35 d_Law_partingBest_25 (As := [_, _]) rfl rfl (Nat.le_of_ble_eq_true rfl) (c_Tue_hasState G _ _ s (by omega)) ⟨Nat.le_of_ble_eq_true rfl, Nat.le_of_ble_eq_true rfl, Nat.le_of_ble_eq_true rfl, Nat.le_of_ble_eq_true rfl⟩) ?_
        refine zx_ifB_eq C d_Law_partingBest_28 (fun h28 => ?_) (fun h28 => ?_)
        · rw [if_neg (fun z => h28 ((hC s (by omega)).trans z.1))] at h3
          refine zx_iinc C d_Law_partingBest_54 (by decide) rfl (lv1 := [(7, _), (0, _), (1, _), (3, _), (5, _), (6, _)]) rfl ?_
          refine zx_goto C d_Law_partingBest_57 ?_
          rw [show (1 : Int32) = nI 1 from rfl, nI_add]
          exact zx_lv [0, 1, 3, 5, 6, 7] rfl (ih (s + 1) u (by omega) hu h3)
        · refine zx_lload C d_Law_partingBest_31 rfl ?_
          refine zx_iload C d_Law_partingBest_32 rfl ?_
          refine zr_di (zr_N C l_Law_45 d_Law_partingBest_34 (As := [_, _]) rfl rfl (Nat.le_of_ble_eq_true rfl) (c_Tue_lesserPart G _ (ilw dy n) _ s (by omega) hb) ⟨Nat.le_of_ble_eq_true rfl, Nat.le_of_ble_eq_true rfl, Nat.le_of_ble_eq_true rfl, Nat.le_of_ble_eq_true rfl⟩) ?_
          refine zx_iload C d_Law_partingBest_37 rfl ?_
          refine zx_ic_le C d_Law_partingBest_39 (fun h39 => ?_) (fun h39 => ?_)
          · rw [if_neg (fun z => (mst_le hu hp).mp h39 z.2)] at h3
            refine zx_iinc C d_Law_partingBest_54 (by decide) rfl (lv1 := [(7, _), (0, _), (1, _), (3, _), (5, _), (6, _)]) rfl ?_
            refine zx_goto C d_Law_partingBest_57 ?_
            rw [show (1 : Int32) = nI 1 from rfl, nI_add]
            exact zx_lv [0, 1, 3, 5, 6, 7] rfl (ih (s + 1) u (by omega) hu h3)
          · rw [if_pos ⟨(hC s (by omega)).symm.trans h28, Classical.byContradiction fun z => h39 ((mst_le hu hp).mpr z)⟩] at h3
            refine zx_iload C d_Law_partingBest_42 rfl ?_
            refine zx_istore C d_Law_partingBest_44 (by decide) (lv1 := [(5, _), (0, _), (1, _), (3, _), (6, _), (7, _)]) rfl ?_
            refine zx_lload C d_Law_partingBest_46 rfl ?_
            refine zx_iload C d_Law_partingBest_47 rfl ?_
            refine zr_di (zr_N C l_Law_45 d_Law_partingBest_49 (As := [_, _]) rfl rfl (Nat.le_of_ble_eq_true rfl) (c_Tue_lesserPart G _ (ilw dy n) _ s (by omega) hb) ⟨Nat.le_of_ble_eq_true rfl, Nat.le_of_ble_eq_true rfl, Nat.le_of_ble_eq_true rfl, Nat.le_of_ble_eq_true rfl⟩) ?_
            refine zx_istore C d_Law_partingBest_52 (by decide) (lv1 := [(6, _), (5, _), (0, _), (1, _), (3, _), (7, _)]) rfl ?_
            refine zx_iinc C d_Law_partingBest_54 (by decide) rfl (lv1 := [(7, _), (6, _), (5, _), (0, _), (1, _), (3, _)]) rfl ?_
            refine zx_goto C d_Law_partingBest_57 ?_
            rw [show (1 : Int32) = nI 1 from rfl, nI_add]
            exact zx_lv [0, 1, 3, 5, 6, 7] rfl (ih (s + 1) (some s, prt (ilw dy n) s) (by omega) hp h3)
  refine zx_aload C d_Law_partingBest_0 rfl ?_
  refine zr_dl (zr_V C l_Law_31 d_Law_partingBest_1 (As := []) rfl rfl (Nat.le_of_ble_eq_true rfl) (c_Law_possible G _ _ _ _ _ _ _ _ _ _ n hn h8 dy hd) 20 zcw_20 rfl ⟨Nat.le_of_ble_eq_true rfl, Nat.le_of_ble_eq_true rfl, Nat.le_of_ble_eq_true rfl, Nat.le_of_ble_eq_true rfl⟩) ?_
  refine zx_lstore C d_Law_partingBest_4 (by decide) (lv1 := [(3, _), (0, _), (1, _)]) rfl ?_
  refine zx_ic C d_Law_partingBest_5 ?_
  refine zx_istore C d_Law_partingBest_7 (by decide) (lv1 := [(5, _), (3, _), (0, _), (1, _)]) rfl ?_
  refine zx_ic C d_Law_partingBest_9 ?_
  refine zx_istore C d_Law_partingBest_10 (by decide) (lv1 := [(6, _), (5, _), (3, _), (0, _), (1, _)]) rfl ?_
  refine zx_ic C d_Law_partingBest_12 ?_
  refine zx_istore C d_Law_partingBest_13 (by decide) (lv1 := [(7, _), (6, _), (5, _), (3, _), (0, _), (1, _)]) rfl ?_
  exact zx_lv [0, 1, 3, 5, 6, 7] rfl (lp 64 0 (none, 0) (by omega) (by decide) rfl)
