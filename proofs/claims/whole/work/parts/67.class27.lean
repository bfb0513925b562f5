def tcl (ta : Nat) (ad : Nat → Nat) (k st n : Nat) (p nh nd : Int32) : Nat × va_E := (ta, .inr (8, [.ref (ad (2 + k)), .int (nI st), .int (nI n), .int p, .int nh, .int nd]))
theorem zcw_t {G : ZG} {ad : Nat → Nat} {I : Nat → Int32} {L : Nat → Int64} {g z : Option Nat} {QH QD : Nat → Option Nat} {RI : Nat → Nat → Int32} {RL : Nat → Nat → Int64} {Z : va_W} {ta k st n : Nat} {p nh nd : Int32} : (cw G ad I L g z QH QD RI RL ++ (tcl ta ad k st n p nh nd :: Z))[23]? = some (ta, .inr (8, [.ref (ad (2 + k)), .int (nI st), .int (nI n), .int p, .int nh, .int nd])) := rfl
theorem zcs_t_3 {G : ZG} {ad : Nat → Nat} {I : Nat → Int32} {L : Nat → Int64} {g z : Option Nat} {QH QD : Nat → Option Nat} {RI : Nat → Nat → Int32} {RL : Nat → Nat → Int64} {Z : va_W} {ta k st n : Nat} {p nh nd : Int32} {x : Int32} : (cw G ad I L g z QH QD RI RL ++ (tcl ta ad k st n p nh nd :: Z)).set 23 (ta, .inr (8, ([.ref (ad (2 + k)), .int (nI st), .int (nI n), .int p, .int nh, .int nd] : List Value).set 3 (.int x))) = (cw G ad I L g z QH QD RI RL ++ (tcl ta ad k st n x nh nd :: Z)) := rfl
theorem zcs_t_4 {G : ZG} {ad : Nat → Nat} {I : Nat → Int32} {L : Nat → Int64} {g z : Option Nat} {QH QD : Nat → Option Nat} {RI : Nat → Nat → Int32} {RL : Nat → Nat → Int64} {Z : va_W} {ta k st n : Nat} {p nh nd : Int32} {x : Int32} : (cw G ad I L g z QH QD RI RL ++ (tcl ta ad k st n p nh nd :: Z)).set 23 (ta, .inr (8, ([.ref (ad (2 + k)), .int (nI st), .int (nI n), .int p, .int nh, .int nd] : List Value).set 4 (.int x))) = (cw G ad I L g z QH QD RI RL ++ (tcl ta ad k st n p x nd :: Z)) := rfl
theorem zcs_t_5 {G : ZG} {ad : Nat → Nat} {I : Nat → Int32} {L : Nat → Int64} {g z : Option Nat} {QH QD : Nat → Option Nat} {RI : Nat → Nat → Int32} {RL : Nat → Nat → Int64} {Z : va_W} {ta k st n : Nat} {p nh nd : Int32} {x : Int32} : (cw G ad I L g z QH QD RI RL ++ (tcl ta ad k st n p nh nd :: Z)).set 23 (ta, .inr (8, ([.ref (ad (2 + k)), .int (nI st), .int (nI n), .int p, .int nh, .int nd] : List Value).set 5 (.int x))) = (cw G ad I L g z QH QD RI RL ++ (tcl ta ad k st n p nh x :: Z)) := rfl
set_option maxHeartbeats 600000 in
set_option maxRecDepth 20000 in
theorem c_Txt_codeAt (G : ZG) (ad : Nat → Nat) (I : Nat → Int32) (L : Nat → Int64) (g z : Option Nat) (QH QD : Nat → Option Nat) (RI : Nat → Nat → Int32) (RL : Nat → Nat → Int64) (Z : va_W) (ta k st n : Nat) (hk : k < 4) (sz : Nat) (hz : I (5 + k) = nI sz) (hsz : sz ≤ 60) (hn : st + n ≤ sz) (c : Nat → Int32) (hc : ∀ j, j < n → RI k (st + j) = c j) (p nh nd : Int32) (j : Nat) (hj : j < 2 ^ 31) : ZM G y_Txt_codeAt b_Txt_codeAt 2 (some .int) r_Txt_codeAt [.ref ta, .int (nI j)] (cw G ad I L g z QH QD RI RL ++ (tcl ta ad k st n p nh nd :: Z)) (zdi (cdA c n j) (cw G ad I L g z QH QD RI RL ++ (tcl ta ad k st n p nh nd :: Z))) := by
  refine ZM.of "SameTuesday$Text" "codeAt" rfl rfl (by decide) (Nat.le_of_ble_eq_true rfl) (fun Y C hq => ?_)
  change ZV G Y 0 0 0 [(0, .ref ta), (1, .int (nI j))] [] (cw G ad I L g z QH QD RI RL ++ (tcl ta ad k st n p nh nd :: Z))
  refine zx_iload C d_Txt_codeAt_0 rfl ?_
  refine zx_if_lt C d_Txt_codeAt_1 (fun h1 => ?_) (fun h1 => ?_)
  · exact absurd h1 (nI_nn hj)
  · refine zx_iload C d_Txt_codeAt_4 rfl ?_
    refine zx_aload C d_Txt_codeAt_5 rfl ?_
    refine zx_get C f_Txt_19_8 d_Txt_codeAt_6 23 zcw_t rfl ?_
    refine zx_ic_ge C d_Txt_codeAt_9 (fun h9 => ?_) (fun h9 => ?_)
    · have ev : cdA c n j = -1 := if_neg (by have := (nI_leI (by omega) hj).mp h9; omega)
      refine zx_ic C d_Txt_codeAt_28 ?_
      exact zx_iret C hq d_Txt_codeAt_29 (⟨by rw [ev], rfl⟩)
    · have h9 : j < n := by
        have : ¬ n ≤ j := fun y => h9 ((nI_leI (by omega) hj).mpr y)
        omega
      have ev : cdA c n j = c j := if_pos h9
      refine zx_aload C d_Txt_codeAt_12 rfl ?_
      refine zx_get C f_Txt_9_8 d_Txt_codeAt_13 23 zcw_t rfl ?_
      refine zx_aload C d_Txt_codeAt_16 rfl ?_
      refine zx_get C f_Txt_15_8 d_Txt_codeAt_17 23 zcw_t rfl ?_
      refine zx_iload C d_Txt_codeAt_20 rfl ?_
      refine zx_iadd C d_Txt_codeAt_21 ?_
      refine zx_eq rfl (st1 := [.int (nI (st + j)), .ref (ad (2 + k))]) (by rw [nI_add]) rfl ?_
      refine zr_di (zr_V C l_Txt_53 d_Txt_codeAt_22 (As := [_]) rfl rfl (Nat.le_of_ble_eq_true rfl) (c_Sht_cellAt G _ _ _ _ _ _ _ _ _ _ k hk (st + j) sz (by exact hz) (by omega) hsz) (2 + k) (zcw_sh hk) rfl ⟨Nat.le_of_ble_eq_true rfl, Nat.le_of_ble_eq_true rfl, Nat.le_of_ble_eq_true rfl, Nat.le_of_ble_eq_true rfl⟩) ?_
      rw [hc j h9]
      refine zx_goto C d_Txt_codeAt_25 ?_
      exact zx_iret C hq d_Txt_codeAt_29 (⟨by rw [ev], rfl⟩)
set_option maxHeartbeats 600000 in
set_option maxRecDepth 20000 in
theorem c_Txt_digitAt (G : ZG) (ad : Nat → Nat) (I : Nat → Int32) (L : Nat → Int64) (g z : Option Nat) (QH QD : Nat → Option Nat) (RI : Nat → Nat → Int32) (RL : Nat → Nat → Int64) (Z : va_W) (ta k st n : Nat) (hk : k < 4) (sz : Nat) (hz : I (5 + k) = nI sz) (hsz : sz ≤ 60) (hn : st + n ≤ sz) (c : Nat → Int32) (hc : ∀ j, j < n → RI k (st + j) = c j) (p nh nd : Int32) (j : Nat) (hj : j < 2 ^ 31) : ZM G y_Txt_digitAt b_Txt_digitAt 2 (some .int) r_Txt_digitAt [.ref ta, .int (nI j)] (cw G ad I L g z QH QD RI RL ++ (tcl ta ad k st n p nh nd :: Z)) (zdi (cdA c n j - 48) (cw G ad I L g z QH QD RI RL ++ (tcl ta ad k st n p nh nd :: Z))) := by
  refine ZM.of "SameTuesday$Text" "digitAt" rfl rfl (by decide) (Nat.le_of_ble_eq_true rfl) (fun Y C hq => ?_)
  change ZV G Y 0 0 0 [(0, .ref ta), (1, .int (nI j))] [] (cw G ad I L g z QH QD RI RL ++ (tcl ta ad k st n p nh nd :: Z))
  refine zx_aload C d_Txt_digitAt_0 rfl ?_
  refine zx_iload C d_Txt_digitAt_1 rfl ?_
  refine zr_di (zr_V C l_Txt_31 d_Txt_digitAt_2 (As := [_]) rfl rfl (Nat.le_of_ble_eq_true rfl) (c_Txt_codeAt G ad I L g z QH QD RI RL Z ta k st n hk sz hz hsz hn c hc _ _ _ (j) hj) 23 zcw_t rfl ⟨Nat.le_of_ble_eq_true rfl, Nat.le_of_ble_eq_true rfl, Nat.le_of_ble_eq_true rfl, Nat.le_of_ble_eq_true rfl⟩) ?_
  refine zx_ic C d_Txt_digitAt_5 ?_
  refine zx_isub C d_Txt_digitAt_7 ?_
  exact zx_iret C hq d_Txt_digitAt_8 (⟨rfl, rfl⟩)
set_option maxHeartbeats 600000 in
set_option maxRecDepth 20000 in
theorem c_Txt_happeningCount (G : ZG) (ad : Nat → Nat) (I : Nat → Int32) (L : Nat → Int64) (g z : Option Nat) (QH QD : Nat → Option Nat) (RI : Nat → Nat → Int32) (RL : Nat → Nat → Int64) (Z : va_W) (ta k st n : Nat) (hk : k < 4) (sz : Nat) (hz : I (5 + k) = nI sz) (hsz : sz ≤ 60) (hn : st + n ≤ sz) (c : Nat → Int32) (hc : ∀ j, j < n → RI k (st + j) = c j) (p nh nd : Int32) : ZM G y_Txt_happeningCount b_Txt_happeningCount 1 (some .int) r_Txt_happeningCount [.ref ta] (cw G ad I L g z QH QD RI RL ++ (tcl ta ad k st n p nh nd :: Z)) (zdi nh (cw G ad I L g z QH QD RI RL ++ (tcl ta ad k st n p nh nd :: Z))) := by
  refine ZM.of "SameTuesday$Text" "happeningCount" rfl rfl (by decide) (Nat.le_of_ble_eq_true rfl) (fun Y C hq => ?_)
  change ZV G Y 0 0 0 [(0, .ref ta)] [] (cw G ad I L g z QH QD RI RL ++ (tcl ta ad k st n p nh nd :: Z))
  refine zx_aload C d_Txt_happeningCount_0 rfl ?_
  refine zx_get C f_Txt_25_8 d_Txt_happeningCount_1 23 zcw_t rfl ?_
  exact zx_iret C hq d_Txt_happeningCount_4 (⟨rfl, rfl⟩)
set_option maxHeartbeats 600000 in
set_option maxRecDepth 20000 in
theorem c_Txt_deedCount (G : ZG) (ad : Nat → Nat) (I : Nat → Int32) (L : Nat → Int64) (g z : Option Nat) (QH QD : Nat → Option Nat) (RI : Nat → Nat → Int32) (RL : Nat → Nat → Int64) (Z : va_W) (ta k st n : Nat) (hk : k < 4) (sz : Nat) (hz : I (5 + k) = nI sz) (hsz : sz ≤ 60) (hn : st + n ≤ sz) (c : Nat → Int32) (hc : ∀ j, j < n → RI k (st + j) = c j) (p nh nd : Int32) : ZM G y_Txt_deedCount b_Txt_deedCount 1 (some .int) r_Txt_deedCount [.ref ta] (cw G ad I L g z QH QD RI RL ++ (tcl ta ad k st n p nh nd :: Z)) (zdi nd (cw G ad I L g z QH QD RI RL ++ (tcl ta ad k st n p nh nd :: Z))) := by
  refine ZM.of "SameTuesday$Text" "deedCount" rfl rfl (by decide) (Nat.le_of_ble_eq_true rfl) (fun Y C hq => ?_)
  change ZV G Y 0 0 0 [(0, .ref ta)] [] (cw G ad I L g z QH QD RI RL ++ (tcl ta ad k st n p nh nd :: Z))
  refine zx_aload C d_Txt_deedCount_0 rfl ?_
  refine zx_get C f_Txt_28_8 d_Txt_deedCount_1 23 zcw_t rfl ?_
  exact zx_iret C hq d_Txt_deedCount_4 (⟨rfl, rfl⟩)
theorem toI_ne {x y : Int32} (h : ¬ x = y) : ¬ y.toInt = x.toInt := fun z => h (Int32.toInt_inj.mp z.symm)
def isdB (x : Int32) (lo hi : Nat) : Bool := decide (¬ x < nI (48 + lo) ∧ ¬ nI (48 + hi) < x)
def fitH (k : Nat) (x : Int32) : Bool := if k = 1 then !decide (kdc x = -9) else if k = 2 then isdB x 0 5 else if k = 3 then isdB x 0 9 else if k = 4 then isdB x 0 6 else isdB x 0 5
def fitD (k : Nat) (x : Int32) : Bool := if k = 1 then isdB x 0 6 else if k = 2 then isdB x 0 5 else if k = 3 then isdB x 0 6 else isdB x 1 9
set_option maxHeartbeats 600000 in
set_option maxRecDepth 20000 in
theorem c_Txt_kindOf (G : ZG) (w : va_W) (x : Int32) : ZM G y_Txt_kindOf b_Txt_kindOf 1 (some .int) r_Txt_kindOf [.int x] w (zdi (kdc x) w) := by
  refine ZM.of "SameTuesday$Text" "kindOf" rfl rfl (by decide) (Nat.le_of_ble_eq_true rfl) (fun Y C hq => ?_)
  change ZV G Y 0 0 0 [(0, .int x)] [] w
  refine zx_iload C d_Txt_kindOf_0 rfl ?_
  by_cases h1 : x = 99
  · subst h1
    refine zx_lookup C d_Txt_kindOf_1 (by decide) ⟨40, by decide, ?_⟩
    have ev : kdc 99 = 2 := by decide
    refine zx_ic C d_Txt_kindOf_40 ?_
    exact zx_iret C hq d_Txt_kindOf_41 (⟨by rw [ev], rfl⟩)
  · by_cases h2 : x = 104
    · subst h2
      refine zx_lookup C d_Txt_kindOf_1 (by decide) ⟨36, by decide, ?_⟩
      have ev : kdc 104 = 0 := by decide
      refine zx_ic C d_Txt_kindOf_36 ?_
      exact zx_iret C hq d_Txt_kindOf_37 (⟨by rw [ev], rfl⟩)
    · by_cases h3 : x = 109
      · subst h3
        refine zx_lookup C d_Txt_kindOf_1 (by decide) ⟨38, by decide, ?_⟩
        have ev : kdc 109 = 1 := by decide
        refine zx_ic C d_Txt_kindOf_38 ?_
        exact zx_iret C hq d_Txt_kindOf_39 (⟨by rw [ev], rfl⟩)
      · refine zx_lookup C d_Txt_kindOf_1 (by decide) ⟨42, ?_, ?_⟩
        · show (1 : Int) + (if (99 : Int) = x.toInt then 39 else if (104 : Int) = x.toInt then 35 else if (109 : Int) = x.toInt then 37 else 41) = 42
          rw [if_neg (show ¬ (99 : Int) = x.toInt from toI_ne h1), if_neg (show ¬ (104 : Int) = x.toInt from toI_ne h2), if_neg (show ¬ (109 : Int) = x.toInt from toI_ne h3)]; rfl
        · have ev : kdc x = -9 := by rw [kdc, if_neg h2, if_neg h3, if_neg h1]
          refine zx_ic C d_Txt_kindOf_42 ?_
          exact zx_iret C hq d_Txt_kindOf_44 (⟨by rw [ev], rfl⟩)
set_option maxHeartbeats 600000 in
set_option maxRecDepth 20000 in
theorem c_Txt_isDigit (G : ZG) (w : va_W) (x : Int32) (lo hi : Nat) : ZM G y_Txt_isDigit b_Txt_isDigit 3 (some .boolean) r_Txt_isDigit [.int x, .int (nI lo), .int (nI hi)] w (zdi (zB (isdB x lo hi = true)) w) := by
  refine ZM.of "SameTuesday$Text" "isDigit" rfl rfl (by decide) (Nat.le_of_ble_eq_true rfl) (fun Y C hq => ?_)
  change ZV G Y 0 0 0 [(0, .int x), (1, .int (nI lo)), (2, .int (nI hi))] [] w
  refine zx_iload C d_Txt_isDigit_0 rfl ?_
  refine zx_ic C d_Txt_isDigit_1 ?_
  refine zx_iload C d_Txt_isDigit_3 rfl ?_
  refine zx_iadd C d_Txt_isDigit_4 ?_
  rw [show (48 : Int32) = nI 48 from rfl, nI_add]
  refine zx_ic_lt C d_Txt_isDigit_5 (fun h5 => ?_) (fun h5 => ?_)
  · have e : ¬ isdB x lo hi = true := fun y => (of_decide_eq_true y).1 h5
    refine zx_ic C d_Txt_isDigit_20 ?_
    exact zx_zret C hq (by decide) d_Txt_isDigit_21 (by first | exact ⟨by rw [zB_t e], rfl⟩ | exact ⟨by rw [zB_f e], rfl⟩)
  · refine zx_iload C d_Txt_isDigit_8 rfl ?_
    refine zx_ic C d_Txt_isDigit_9 ?_
    refine zx_iload C d_Txt_isDigit_11 rfl ?_
    refine zx_iadd C d_Txt_isDigit_12 ?_
    rw [show (48 : Int32) = nI 48 from rfl, nI_add]
    refine zx_ic_gt C d_Txt_isDigit_13 (fun h13 => ?_) (fun h13 => ?_)
    · have e : ¬ isdB x lo hi = true := fun y => (of_decide_eq_true y).2 h13
      refine zx_ic C d_Txt_isDigit_20 ?_
      exact zx_zret C hq (by decide) d_Txt_isDigit_21 (by first | exact ⟨by rw [zB_t e], rfl⟩ | exact ⟨by rw [zB_f e], rfl⟩)
    · have e : isdB x lo hi = true := decide_eq_true ⟨h5, h13⟩
      refine zx_ic C d_Txt_isDigit_16 ?_
      refine zx_goto C d_Txt_isDigit_17 ?_
      exact zx_zret C hq (by decide) d_Txt_isDigit_21 (by first | exact ⟨by rw [zB_t e], rfl⟩ | exact ⟨by rw [zB_f e], rfl⟩)
set_option maxHeartbeats 600000 in
set_option maxRecDepth 20000 in
theorem c_Txt_fitsHappening (G : ZG) (w : va_W) (k : Nat) (h1 : 1 ≤ k) (h2 : k ≤ 5) (x : Int32) : ZM G y_Txt_fitsHappening b_Txt_fitsHappening 2 (some .boolean) r_Txt_fitsHappening [.int (nI k), .int x] w (zdi (zB (fitH k x = true)) w) := by
  refine ZM.of "SameTuesday$Text" "fitsHappening" rfl rfl (by decide) (Nat.le_of_ble_eq_true rfl) (fun Y C hq => ?_)
  change ZV G Y 0 0 0 [(0, .int (nI k)), (1, .int x)] [] w
  refine zx_iload C d_Txt_fitsHappening_0 rfl ?_
  rcases (by omega : k = 1 ∨ k = 2 ∨ k = 3 ∨ k = 4 ∨ k = 5) with rfl | rfl | rfl | rfl | rfl
  · refine zx_table C d_Txt_fitsHappening_1 (fun h => absurd h (by decide)) (fun _ _ => ⟨31, 32, by decide, by decide, ?_⟩)
    refine zx_iload C d_Txt_fitsHappening_32 rfl ?_
    refine zr_di (zr_S C l_Txt_46 d_Txt_fitsHappening_33 (As := [_]) rfl rfl (Nat.le_of_ble_eq_true rfl) (c_Txt_kindOf G _ _) ⟨Nat.le_of_ble_eq_true rfl, Nat.le_of_ble_eq_true rfl, Nat.le_of_ble_eq_true rfl, Nat.le_of_ble_eq_true rfl⟩) ?_
    refine zx_ic C d_Txt_fitsHappening_36 ?_
    refine zx_ic_eq C d_Txt_fitsHappening_38 (fun h38 => ?_) (fun h38 => ?_)
    · have e : ¬ fitH 1 x = true := fun y => by
        have y : (!decide (kdc x = -9)) = true := y
        rw [decide_eq_true (by first | exact h38 | exact Classical.byContradiction h38)] at y; cases y
      refine zx_ic C d_Txt_fitsHappening_45 ?_
      exact zx_zret C hq (by first | decide | exact zB_01) d_Txt_fitsHappening_46 (by first | exact ⟨by rw [zB_t e], rfl⟩ | exact ⟨by rw [zB_f e], rfl⟩ | exact ⟨rfl, rfl⟩)
    · have e : fitH 1 x = true := by show (!decide (kdc x = -9)) = true; rw [decide_eq_false h38]; rfl
      refine zx_ic C d_Txt_fitsHappening_41 ?_
      refine zx_goto C d_Txt_fitsHappening_42 ?_
      exact zx_zret C hq (by first | decide | exact zB_01) d_Txt_fitsHappening_46 (by first | exact ⟨by rw [zB_t e], rfl⟩ | exact ⟨by rw [zB_f e], rfl⟩ | exact ⟨rfl, rfl⟩)
  · refine zx_table C d_Txt_fitsHappening_1 (fun h => absurd h (by decide)) (fun _ _ => ⟨46, 47, by decide, by decide, ?_⟩)
    refine zx_iload C d_Txt_fitsHappening_47 rfl ?_
    refine zx_ic C d_Txt_fitsHappening_48 ?_
    refine zx_ic C d_Txt_fitsHappening_49 ?_
    refine zr_di (zr_S C l_Txt_49 d_Txt_fitsHappening_50 (As := [_, _, _]) rfl rfl (Nat.le_of_ble_eq_true rfl) (c_Txt_isDigit G _ _ 0 5) ⟨Nat.le_of_ble_eq_true rfl, Nat.le_of_ble_eq_true rfl, Nat.le_of_ble_eq_true rfl, Nat.le_of_ble_eq_true rfl⟩) ?_
    exact zx_zret C hq (by first | decide | exact zB_01) d_Txt_fitsHappening_53 (by first | exact ⟨by rw [zB_t e], rfl⟩ | exact ⟨by rw [zB_f e], rfl⟩ | exact ⟨rfl, rfl⟩)
  · refine zx_table C d_Txt_fitsHappening_1 (fun h => absurd h (by decide)) (fun _ _ => ⟨53, 54, by decide, by decide, ?_⟩)
    refine zx_iload C d_Txt_fitsHappening_54 rfl ?_
    refine zx_ic C d_Txt_fitsHappening_55 ?_
    refine zx_ic C d_Txt_fitsHappening_56 ?_
    refine zr_di (zr_S C l_Txt_49 d_Txt_fitsHappening_58 (As := [_, _, _]) rfl rfl (Nat.le_of_ble_eq_true rfl) (c_Txt_isDigit G _ _ 0 9) ⟨Nat.le_of_ble_eq_true rfl, Nat.le_of_ble_eq_true rfl, Nat.le_of_ble_eq_true rfl, Nat.le_of_ble_eq_true rfl⟩) ?_
    exact zx_zret C hq (by first | decide | exact zB_01) d_Txt_fitsHappening_61 (by first | exact ⟨by rw [zB_t e], rfl⟩ | exact ⟨by rw [zB_f e], rfl⟩ | exact ⟨rfl, rfl⟩)
  · refine zx_table C d_Txt_fitsHappening_1 (fun h => absurd h (by decide)) (fun _ _ => ⟨61, 62, by decide, by decide, ?_⟩)
    refine zx_iload C d_Txt_fitsHappening_62 rfl ?_
    refine zx_ic C d_Txt_fitsHappening_63 ?_
    refine zx_ic C d_Txt_fitsHappening_64 ?_
    refine zr_di (zr_S C l_Txt_49 d_Txt_fitsHappening_66 (As := [_, _, _]) rfl rfl (Nat.le_of_ble_eq_true rfl) (c_Txt_isDigit G _ _ 0 6) ⟨Nat.le_of_ble_eq_true rfl, Nat.le_of_ble_eq_true rfl, Nat.le_of_ble_eq_true rfl, Nat.le_of_ble_eq_true rfl⟩) ?_
    exact zx_zret C hq (by first | decide | exact zB_01) d_Txt_fitsHappening_69 (by first | exact ⟨by rw [zB_t e], rfl⟩ | exact ⟨by rw [zB_f e], rfl⟩ | exact ⟨rfl, rfl⟩)
  · refine zx_table C d_Txt_fitsHappening_1 (fun _ => ⟨70, by decide, ?_⟩) (fun h1 h2 => absurd h2 (by decide))
    refine zx_iload C d_Txt_fitsHappening_70 rfl ?_
    refine zx_ic C d_Txt_fitsHappening_71 ?_
    refine zx_ic C d_Txt_fitsHappening_72 ?_
    refine zr_di (zr_S C l_Txt_49 d_Txt_fitsHappening_73 (As := [_, _, _]) rfl rfl (Nat.le_of_ble_eq_true rfl) (c_Txt_isDigit G _ _ 0 5) ⟨Nat.le_of_ble_eq_true rfl, Nat.le_of_ble_eq_true rfl, Nat.le_of_ble_eq_true rfl, Nat.le_of_ble_eq_true rfl⟩) ?_
    exact zx_zret C hq (by first | decide | exact zB_01) d_Txt_fitsHappening_76 (by first | exact ⟨by rw [zB_t e], rfl⟩ | exact ⟨by rw [zB_f e], rfl⟩ | exact ⟨rfl, rfl⟩)
set_option maxHeartbeats 600000 in
set_option maxRecDepth 20000 in
theorem c_Txt_fitsDeed (G : ZG) (w : va_W) (k : Nat) (h1 : 1 ≤ k) (h2 : k ≤ 4) (x : Int32) : ZM G y_Txt_fitsDeed b_Txt_fitsDeed 2 (some .boolean) r_Txt_fitsDeed [.int (nI k), .int x] w (zdi (zB (fitD k x = true)) w) := by
  refine ZM.of "SameTuesday$Text" "fitsDeed" rfl rfl (by decide) (Nat.le_of_ble_eq_true rfl) (fun Y C hq => ?_)
  change ZV G Y 0 0 0 [(0, .int (nI k)), (1, .int x)] [] w
  refine zx_iload C d_Txt_fitsDeed_0 rfl ?_
  rcases (by omega : k = 1 ∨ k = 2 ∨ k = 3 ∨ k = 4) with rfl | rfl | rfl | rfl
  · refine zx_table C d_Txt_fitsDeed_1 (fun h => absurd h (by decide)) (fun _ _ => ⟨27, 28, by decide, by decide, ?_⟩)
    refine zx_iload C d_Txt_fitsDeed_28 rfl ?_
    refine zx_ic C d_Txt_fitsDeed_29 ?_
    refine zx_ic C d_Txt_fitsDeed_30 ?_
    refine zr_di (zr_S C l_Txt_49 d_Txt_fitsDeed_32 (As := [_, _, _]) rfl rfl (Nat.le_of_ble_eq_true rfl) (c_Txt_isDigit G _ _ 0 6) ⟨Nat.le_of_ble_eq_true rfl, Nat.le_of_ble_eq_true rfl, Nat.le_of_ble_eq_true rfl, Nat.le_of_ble_eq_true rfl⟩) ?_
    exact zx_zret C hq (by first | decide | exact zB_01) d_Txt_fitsDeed_35 (by first | exact ⟨by rw [zB_t e], rfl⟩ | exact ⟨by rw [zB_f e], rfl⟩ | exact ⟨rfl, rfl⟩)
  · refine zx_table C d_Txt_fitsDeed_1 (fun h => absurd h (by decide)) (fun _ _ => ⟨35, 36, by decide, by decide, ?_⟩)
    refine zx_iload C d_Txt_fitsDeed_36 rfl ?_
    refine zx_ic C d_Txt_fitsDeed_37 ?_
    refine zx_ic C d_Txt_fitsDeed_38 ?_
    refine zr_di (zr_S C l_Txt_49 d_Txt_fitsDeed_39 (As := [_, _, _]) rfl rfl (Nat.le_of_ble_eq_true rfl) (c_Txt_isDigit G _ _ 0 5) ⟨Nat.le_of_ble_eq_true rfl, Nat.le_of_ble_eq_true rfl, Nat.le_of_ble_eq_true rfl, Nat.le_of_ble_eq_true rfl⟩) ?_
    exact zx_zret C hq (by first | decide | exact zB_01) d_Txt_fitsDeed_42 (by first | exact ⟨by rw [zB_t e], rfl⟩ | exact ⟨by rw [zB_f e], rfl⟩ | exact ⟨rfl, rfl⟩)
  · refine zx_table C d_Txt_fitsDeed_1 (fun h => absurd h (by decide)) (fun _ _ => ⟨42, 43, by decide, by decide, ?_⟩)
    refine zx_iload C d_Txt_fitsDeed_43 rfl ?_
    refine zx_ic C d_Txt_fitsDeed_44 ?_
    refine zx_ic C d_Txt_fitsDeed_45 ?_
    refine zr_di (zr_S C l_Txt_49 d_Txt_fitsDeed_47 (As := [_, _, _]) rfl rfl (Nat.le_of_ble_eq_true rfl) (c_Txt_isDigit G _ _ 0 6) ⟨Nat.le_of_ble_eq_true rfl, Nat.le_of_ble_eq_true rfl, Nat.le_of_ble_eq_true rfl, Nat.le_of_ble_eq_true rfl⟩) ?_
    exact zx_zret C hq (by first | decide | exact zB_01) d_Txt_fitsDeed_50 (by first | exact ⟨by rw [zB_t e], rfl⟩ | exact ⟨by rw [zB_f e], rfl⟩ | exact ⟨rfl, rfl⟩)
  · refine zx_table C d_Txt_fitsDeed_1 (fun _ => ⟨51, by decide, ?_⟩) (fun h1 h2 => absurd h2 (by decide))
    refine zx_iload C d_Txt_fitsDeed_51 rfl ?_
    refine zx_ic C d_Txt_fitsDeed_52 ?_
    refine zx_ic C d_Txt_fitsDeed_53 ?_
    refine zr_di (zr_S C l_Txt_49 d_Txt_fitsDeed_55 (As := [_, _, _]) rfl rfl (Nat.le_of_ble_eq_true rfl) (c_Txt_isDigit G _ _ 1 9) ⟨Nat.le_of_ble_eq_true rfl, Nat.le_of_ble_eq_true rfl, Nat.le_of_ble_eq_true rfl, Nat.le_of_ble_eq_true rfl⟩) ?_
    exact zx_zret C hq (by first | decide | exact zB_01) d_Txt_fitsDeed_58 (by first | exact ⟨by rw [zB_t e], rfl⟩ | exact ⟨by rw [zB_f e], rfl⟩ | exact ⟨rfl, rfl⟩)
