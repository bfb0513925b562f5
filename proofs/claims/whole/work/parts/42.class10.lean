def wwi (z : Nat) : Nat → Int64
  | 0 => -1
  | f + 1 => if z.testBit f = true then wwi z f else wwi z f &&& (ww f ^^^ (-1))
def wwa (z : Nat) : Nat → Int64
  | 0 => -1
  | f + 1 => if z.testBit f = true then wwa z f &&& ww f else wwa z f
theorem bt_wwi : ∀ z, z < 64 → ∀ s, s < 64 → bt (wwi z 6) s = (s &&& z == s) := by decide +kernel
theorem bt_wwa : ∀ z, z < 64 → ∀ s, s < 64 → bt (wwa z 6) s = (z &&& s == z) := by decide +kernel
theorem shr_b : ∀ z, z < 64 → ∀ f, f < 6 → (nI z >>> (nI f &&& 31)) &&& 1 = if z.testBit f = true then 1 else 0 := by decide +kernel
def wpo (dy : Nat → Nat) : Nat → Int64
  | 0 => -1
  | d + 1 => wpo dy d &&& (wwi (dy d) 6 ^^^ (-1))
theorem bt_wpo {dy : Nat → Nat} : ∀ {n : Nat}, (∀ j, j < n → dy j < 64) → ∀ z, z < 64 → bt (wpo dy n) z = ilw dy n z
  | 0, _, z, hz => bt_m1 z hz
  | n + 1, h, z, hz => by
    rw [wpo, bt_and, bt_wpo (fun j hj => h j (by omega)) z hz, bt_not _ hz, bt_wwi _ (h n (by omega)) z hz]
    rfl
set_option maxHeartbeats 600000 in
set_option maxRecDepth 20000 in
theorem c_Tue_hasState (G : ZG) (w : va_W) (x : Int64) (s : Nat) (hs : s < 64) : ZM G y_Tue_hasState b_Tue_hasState 3 (some .boolean) r_Tue_hasState [.long x, .int (nI s)] w (zdi (zB (bt x s = true)) w) := by
  refine ZM.of "SameTuesday" "hasState" rfl rfl (by decide) (Nat.le_of_ble_eq_true rfl) (fun Y C hq => ?_)
  change ZV G Y 0 0 0 [(0, .long x), (2, .int (nI s))] [] w
  refine zx_lload C d_Tue_hasState_0 rfl ?_
  refine zx_iload C d_Tue_hasState_1 rfl ?_
  refine zx_lushr C d_Tue_hasState_2 ?_
  refine zx_lc C d_Tue_hasState_3 ?_
  refine zx_land C d_Tue_hasState_4 ?_
  refine zx_lc C d_Tue_hasState_5 ?_
  refine zx_lcmp C d_Tue_hasState_6 ?_
  refine zx_if_ne C d_Tue_hasState_7 (fun h7 => ?_) (fun h7 => ?_)
  · have h7 : ¬ bt x s = true := fun z => h7 ((lg_cmp_eq _ _).mpr ((hs_bt x hs).mpr z))
    refine zx_ic C d_Tue_hasState_14 ?_
    exact zx_zret C hq (by decide) d_Tue_hasState_15 (⟨by first | rw [zB_t h7] | rw [zB_f h7], rfl⟩)
  · have h7 : bt x s = true := (hs_bt x hs).mp ((lg_cmp_eq _ _).mp (by first | exact h7 | exact Classical.byContradiction h7))
    refine zx_ic C d_Tue_hasState_10 ?_
    refine zx_goto C d_Tue_hasState_11 ?_
    exact zx_zret C hq (by decide) d_Tue_hasState_15 (⟨by first | rw [zB_t h7] | rw [zB_f h7], rfl⟩)
set_option maxHeartbeats 600000 in
set_option maxRecDepth 20000 in
theorem c_Tue_worldWithin (G : ZG) (w : va_W) (z : Nat) (hz : z < 64) : ZM G y_Tue_worldWithin b_Tue_worldWithin 4 (some .long) r_Tue_worldWithin [.int (nI z)] w (zdl (wwi z 6) w) := by
  refine ZM.of "SameTuesday" "worldWithin" rfl rfl (by decide) (Nat.le_of_ble_eq_true rfl) (fun Y C hq => ?_)
  change ZV G Y 0 0 0 [(0, .int (nI z))] [] w
  have lp : ∀ c f, f + c = 6 → ZV G Y 0 0 6 [(0, .int (nI z)), (1, .long (wwi z f)), (3, .int (nI f))] [] w := by
    intro c
    induction c with
    | zero =>
      intro f hc
      obtain rfl : f = 6 := by omega
      refine zx_iload C d_Tue_worldWithin_6 rfl ?_
      refine zx_ic C d_Tue_worldWithin_7 ?_
      refine zx_ic_ge C d_Tue_worldWithin_9 (fun h9 => ?_) (fun h9 => ?_)
      · refine zx_lload C d_Tue_worldWithin_37 rfl ?_
        exact zx_lret C hq d_Tue_worldWithin_38 (⟨rfl, rfl⟩)
      · exact absurd (Int32.le_refl _) h9
    | succ c ih =>
      intro f hc
      refine zx_iload C d_Tue_worldWithin_6 rfl ?_
      refine zx_ic C d_Tue_worldWithin_7 ?_
      refine zx_ic_ge C d_Tue_worldWithin_9 (fun h9 => ?_) (fun h9 => ?_)
      · exact absurd h9 (nI_ge (b := 6) (by omega) (by omega))
      · refine zx_iload C d_Tue_worldWithin_12 rfl ?_
        refine zx_iload C d_Tue_worldWithin_13 rfl ?_
        refine zx_ishr C d_Tue_worldWithin_14 ?_
        refine zx_ic C d_Tue_worldWithin_15 ?_
        refine zx_iand C d_Tue_worldWithin_16 ?_
        refine zx_if_ne C d_Tue_worldWithin_17 (fun h17 => ?_) (fun h17 => ?_)
        · have e1 : z.testBit f = true := Classical.byContradiction fun y => h17 (by show (nI z >>> (nI f &&& 31)) &&& 1 = 0; rw [shr_b z hz f (by omega), if_neg y])
          refine zx_iinc C d_Tue_worldWithin_31 (by decide) rfl (lv1 := [(3, _), (0, _), (1, _)]) rfl ?_
          refine zx_goto C d_Tue_worldWithin_34 ?_
          rw [show (1 : Int32) = nI 1 from rfl, nI_add]
          have k1 := ih (f + 1) (by omega)
          rw [wwi, e1] at k1
          exact zx_lv [0, 1, 3] rfl k1
        · have e1 : z.testBit f = false := by
            cases hb : z.testBit f with
            | false => rfl
            | true =>
              have h17 : (nI z >>> (nI f &&& 31)) &&& 1 = 0 := by first | exact h17 | exact Classical.byContradiction h17
              rw [shr_b z hz f (by omega), if_pos hb] at h17
              exact absurd h17 (by decide)
          refine zx_lload C d_Tue_worldWithin_20 rfl ?_
          refine zx_iload C d_Tue_worldWithin_21 rfl ?_
          refine zr_dl (zr_S C l_Tue_273 d_Tue_worldWithin_22 (As := [_]) rfl rfl (Nat.le_of_ble_eq_true rfl) (c_Tue_worldWith G _ f (by omega)) ⟨Nat.le_of_ble_eq_true rfl, Nat.le_of_ble_eq_true rfl, Nat.le_of_ble_eq_true rfl, Nat.le_of_ble_eq_true rfl⟩) ?_
          refine zx_lc C d_Tue_worldWithin_25 ?_
          refine zx_lxor C d_Tue_worldWithin_28 ?_
          refine zx_land C d_Tue_worldWithin_29 ?_
          refine zx_lstore C d_Tue_worldWithin_30 (by decide) (lv1 := [(1, _), (0, _), (3, _)]) rfl ?_
          refine zx_iinc C d_Tue_worldWithin_31 (by decide) rfl (lv1 := [(3, _), (1, _), (0, _)]) rfl ?_
          refine zx_goto C d_Tue_worldWithin_34 ?_
          rw [show (1 : Int32) = nI 1 from rfl, nI_add]
          have k1 := ih (f + 1) (by omega)
          rw [wwi, e1] at k1
          exact zx_lv [0, 1, 3] rfl k1
  refine zx_lc C d_Tue_worldWithin_0 ?_
  refine zx_lstore C d_Tue_worldWithin_3 (by decide) (lv1 := [(1, _), (0, _)]) rfl ?_
  refine zx_ic C d_Tue_worldWithin_4 ?_
  refine zx_istore C d_Tue_worldWithin_5 (by decide) (lv1 := [(3, _), (1, _), (0, _)]) rfl ?_
  exact zx_lv [0, 1, 3] rfl (lp 6 0 (by omega))
set_option maxHeartbeats 600000 in
set_option maxRecDepth 20000 in
theorem c_Tue_worldWithAll (G : ZG) (w : va_W) (z : Nat) (hz : z < 64) : ZM G y_Tue_worldWithAll b_Tue_worldWithAll 4 (some .long) r_Tue_worldWithAll [.int (nI z)] w (zdl (wwa z 6) w) := by
  refine ZM.of "SameTuesday" "worldWithAll" rfl rfl (by decide) (Nat.le_of_ble_eq_true rfl) (fun Y C hq => ?_)
  change ZV G Y 0 0 0 [(0, .int (nI z))] [] w
  have lp : ∀ c f, f + c = 6 → ZV G Y 0 0 6 [(0, .int (nI z)), (1, .long (wwa z f)), (3, .int (nI f))] [] w := by
    intro c
    induction c with
    | zero =>
      intro f hc
      obtain rfl : f = 6 := by omega
      refine zx_iload C d_Tue_worldWithAll_6 rfl ?_
      refine zx_ic C d_Tue_worldWithAll_7 ?_
      refine zx_ic_ge C d_Tue_worldWithAll_9 (fun h9 => ?_) (fun h9 => ?_)
      · refine zx_lload C d_Tue_worldWithAll_34 rfl ?_
        exact zx_lret C hq d_Tue_worldWithAll_35 (⟨rfl, rfl⟩)
      · exact absurd (Int32.le_refl _) h9
    | succ c ih =>
      intro f hc
      refine zx_iload C d_Tue_worldWithAll_6 rfl ?_
      refine zx_ic C d_Tue_worldWithAll_7 ?_
      refine zx_ic_ge C d_Tue_worldWithAll_9 (fun h9 => ?_) (fun h9 => ?_)
      · exact absurd h9 (nI_ge (b := 6) (by omega) (by omega))
      · refine zx_iload C d_Tue_worldWithAll_12 rfl ?_
        refine zx_iload C d_Tue_worldWithAll_13 rfl ?_
        refine zx_ishr C d_Tue_worldWithAll_14 ?_
        refine zx_ic C d_Tue_worldWithAll_15 ?_
        refine zx_iand C d_Tue_worldWithAll_16 ?_
        refine zx_ic C d_Tue_worldWithAll_17 ?_
        refine zx_ic_ne C d_Tue_worldWithAll_18 (fun h18 => ?_) (fun h18 => ?_)
        · have e1 : z.testBit f = false := by
            cases hb : z.testBit f with
            | false => rfl
            | true => exact absurd (by show (nI z >>> (nI f &&& 31)) &&& 1 = 1; rw [shr_b z hz f (by omega), if_pos hb]) h18
          refine zx_iinc C d_Tue_worldWithAll_28 (by decide) rfl (lv1 := [(3, _), (0, _), (1, _)]) rfl ?_
          refine zx_goto C d_Tue_worldWithAll_31 ?_
          rw [show (1 : Int32) = nI 1 from rfl, nI_add]
          have k1 := ih (f + 1) (by omega)
          rw [wwa, e1] at k1
          exact zx_lv [0, 1, 3] rfl k1
        · have e1 : z.testBit f = true := Classical.byContradiction fun y => by
            have h18 : (nI z >>> (nI f &&& 31)) &&& 1 = 1 := by first | exact h18 | exact Classical.byContradiction h18
            rw [shr_b z hz f (by omega), if_neg y] at h18
            exact absurd h18 (by decide)
          refine zx_lload C d_Tue_worldWithAll_21 rfl ?_
          refine zx_iload C d_Tue_worldWithAll_22 rfl ?_
          refine zr_dl (zr_S C l_Tue_273 d_Tue_worldWithAll_23 (As := [_]) rfl rfl (Nat.le_of_ble_eq_true rfl) (c_Tue_worldWith G _ f (by omega)) ⟨Nat.le_of_ble_eq_true rfl, Nat.le_of_ble_eq_true rfl, Nat.le_of_ble_eq_true rfl, Nat.le_of_ble_eq_true rfl⟩) ?_
          refine zx_land C d_Tue_worldWithAll_26 ?_
          refine zx_lstore C d_Tue_worldWithAll_27 (by decide) (lv1 := [(1, _), (0, _), (3, _)]) rfl ?_
          refine zx_iinc C d_Tue_worldWithAll_28 (by decide) rfl (lv1 := [(3, _), (1, _), (0, _)]) rfl ?_
          refine zx_goto C d_Tue_worldWithAll_31 ?_
          rw [show (1 : Int32) = nI 1 from rfl, nI_add]
          have k1 := ih (f + 1) (by omega)
          rw [wwa, e1] at k1
          exact zx_lv [0, 1, 3] rfl k1
  refine zx_lc C d_Tue_worldWithAll_0 ?_
  refine zx_lstore C d_Tue_worldWithAll_3 (by decide) (lv1 := [(1, _), (0, _)]) rfl ?_
  refine zx_ic C d_Tue_worldWithAll_4 ?_
  refine zx_istore C d_Tue_worldWithAll_5 (by decide) (lv1 := [(3, _), (1, _), (0, _)]) rfl ?_
  exact zx_lv [0, 1, 3] rfl (lp 6 0 (by omega))
set_option maxHeartbeats 600000 in
set_option maxRecDepth 20000 in
theorem c_Law_possible (G : ZG) (ad : Nat → Nat) (I : Nat → Int32) (L : Nat → Int64) (g z : Option Nat) (QH QD : Nat → Option Nat) (RI : Nat → Nat → Int32) (RL : Nat → Nat → Int64) (X : va_W) (n : Nat) (hn : I 18 = nI n) (h8 : n ≤ 8) (dy : Nat → Nat) (hd : ∀ j, j < n → dy j < 64 ∧ RI 6 j = nI (dy j)) : ZM G y_Law_possible b_Law_possible 4 (some .long) r_Law_possible [.ref (ad 20)] (cw G ad I L g z QH QD RI RL ++ X) (zdl (wpo dy n) (cw G ad I L g z QH QD RI RL ++ X)) := by
  refine ZM.of "SameTuesday$Law" "possible" rfl rfl (by decide) (Nat.le_of_ble_eq_true rfl) (fun Y C hq => ?_)
  change ZV G Y 0 0 0 [(0, .ref (ad 20))] [] (cw G ad I L g z QH QD RI RL ++ X)
  have lp : ∀ c d, d + c = n → ZV G Y 0 0 6 [(0, .ref (ad 20)), (1, .long (wpo dy d)), (3, .int (nI d))] [] (cw G ad I L g z QH QD RI RL ++ X) := by
    intro c
    induction c with
    | zero =>
      intro d hc
      obtain rfl : d = n := by omega
      refine zx_iload C d_Law_possible_6 rfl ?_
      refine zx_aload C d_Law_possible_7 rfl ?_
      refine zx_get C f_Law_15_3 d_Law_possible_8 20 zcw_20 rfl ?_
      refine zx_ic_ge C d_Law_possible_11 (fun h11 => ?_) (fun h11 => ?_)
      · refine zx_lload C d_Law_possible_45 rfl ?_
        exact zx_lret C hq d_Law_possible_46 (⟨rfl, rfl⟩)
      · exact absurd (by show I 18 ≤ _; rw [hn]; exact Int32.le_refl _) h11
    | succ c ih =>
      intro d hc
      obtain ⟨g1, g2⟩ := hd d (by omega)
      refine zx_iload C d_Law_possible_6 rfl ?_
      refine zx_aload C d_Law_possible_7 rfl ?_
      refine zx_get C f_Law_15_3 d_Law_possible_8 20 zcw_20 rfl ?_
      refine zx_ic_ge C d_Law_possible_11 (fun h11 => ?_) (fun h11 => ?_)
      · exact absurd h11 (by show ¬ I 18 ≤ _; rw [hn]; exact nI_ge (by omega) (by omega))
      · refine zx_iload C d_Law_possible_14 rfl ?_
        refine zx_aload C d_Law_possible_15 rfl ?_
        refine zx_get C f_Law_9_3 d_Law_possible_16 20 zcw_20 rfl ?_
        refine zx_alen C d_Law_possible_19 21 zcw_21 rfl ?_
        refine zx_ic_ge C d_Law_possible_20 (fun h20 => ?_) (fun h20 => ?_)
        · exact absurd h20 (by show ¬ nI 8 ≤ _; exact nI_ge (by omega) (by omega))
        · refine zx_lload C d_Law_possible_23 rfl ?_
          refine zx_aload C d_Law_possible_24 rfl ?_
          refine zx_get C f_Law_9_3 d_Law_possible_25 20 zcw_20 rfl ?_
          refine zx_iload C d_Law_possible_28 rfl ?_
          refine zx_iald C d_Law_possible_29 21 zcw_21 d rfl (by omega) (by decide) ?_
          rw [g2]
          refine zr_dl (zr_N C l_Law_27 d_Law_possible_30 (As := [_]) rfl rfl (Nat.le_of_ble_eq_true rfl) (c_Tue_worldWithin G _ (dy d) g1) ⟨Nat.le_of_ble_eq_true rfl, Nat.le_of_ble_eq_true rfl, Nat.le_of_ble_eq_true rfl, Nat.le_of_ble_eq_true rfl⟩) ?_
          refine zx_lc C d_Law_possible_33 ?_
          refine zx_lxor C d_Law_possible_36 ?_
          refine zx_land C d_Law_possible_37 ?_
          refine zx_lstore C d_Law_possible_38 (by decide) (lv1 := [(1, _), (0, _), (3, _)]) rfl ?_
          refine zx_iinc C d_Law_possible_39 (by decide) rfl (lv1 := [(3, _), (1, _), (0, _)]) rfl ?_
          refine zx_goto C d_Law_possible_42 ?_
          rw [show (1 : Int32) = nI 1 from rfl, nI_add]
          exact zx_lv [0, 1, 3] rfl (ih (d + 1) (by omega))
  refine zx_lc C d_Law_possible_0 ?_
  refine zx_lstore C d_Law_possible_3 (by decide) (lv1 := [(1, _), (0, _)]) rfl ?_
  refine zx_ic C d_Law_possible_4 ?_
  refine zx_istore C d_Law_possible_5 (by decide) (lv1 := [(3, _), (1, _), (0, _)]) rfl ?_
  exact zx_lv [0, 1, 3] rfl (lp n 0 (by omega))
