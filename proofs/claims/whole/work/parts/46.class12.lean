theorem cntN_congr {p q : Nat → Bool} : ∀ {n : Nat}, (∀ z, z < n → p z = q z) → cntN p n = cntN q n
  | 0, _ => rfl
  | n + 1, h => by
    show cntN p n + (if p n = true then 1 else 0) = cntN q n + (if q n = true then 1 else 0)
    rw [cntN_congr (fun z hz => h z (by omega)), h n (by omega)]
theorem inC_ouC (L : Nat → Bool) (f : Nat) : ∀ n, inC L f n + ouC L f n = cntN L n
  | 0 => rfl
  | n + 1 => by
    have z := inC_ouC L f n
    show (inC L f n + (if (L n && (n &&& f == n)) = true then 1 else 0)) + (ouC L f n + (if (L n && !(n &&& f == n)) = true then 1 else 0)) = cntN L n + (if L n = true then 1 else 0)
    cases h1 : L n <;> cases h2 : (n &&& f == n) <;> simp <;> omega
set_option maxHeartbeats 600000 in
set_option maxRecDepth 20000 in
theorem c_Law_possibleAt (G : ZG) (ad : Nat → Nat) (I : Nat → Int32) (L : Nat → Int64) (g z : Option Nat) (QH QD : Nat → Option Nat) (RI : Nat → Nat → Int32) (RL : Nat → Nat → Int64) (X : va_W) (n : Nat) (hn : I 18 = nI n) (h8 : n ≤ 8) (dy : Nat → Nat) (hd : ∀ j, j < n → dy j < 64 ∧ RI 6 j = nI (dy j)) (k : Int32) (hk : ¬ k = -1) : ZM G y_Law_possibleAt b_Law_possibleAt 6 (some .int) r_Law_possibleAt [.ref (ad 20), .int k] (cw G ad I L g z QH QD RI RL ++ X) (zdi (lawsF (ilw dy n) k 64 0 0) (cw G ad I L g z QH QD RI RL ++ X)) := by
  refine ZM.of "SameTuesday$Law" "possibleAt" rfl rfl (by decide) (Nat.le_of_ble_eq_true rfl) (fun Y C hq => ?_)
  change ZV G Y 0 0 0 [(0, .ref (ad 20)), (1, .int k)] [] (cw G ad I L g z QH QD RI RL ++ X)
  have hb : ∀ s, s < 64 → bt (wpo dy n) s = ilw dy n s := bt_wpo (fun j hj => (hd j hj).1)
  have lp : ∀ r s c, s + r = 64 → c ≤ s → lawsF (ilw dy n) k r s c = lawsF (ilw dy n) k 64 0 0 → ZV G Y 0 0 11 [(0, .ref (ad 20)), (1, .int k), (2, .long (wpo dy n)), (4, .int (nI c)), (5, .int (nI s))] [] (cw G ad I L g z QH QD RI RL ++ X) := by
    intro r
    induction r with
    | zero =>
      intro s c hs hc h3
      obtain rfl : s = 64 := by omega
      rw [lawsF, if_neg hk] at h3
      refine zx_iload C d_Law_possibleAt_11 rfl ?_
      refine zx_ic C d_Law_possibleAt_13 ?_
      refine zx_ic_ge C d_Law_possibleAt_15 (fun h15 => ?_) (fun h15 => ?_)
      · refine zx_ic C d_Law_possibleAt_45 ?_
        exact zx_iret C hq d_Law_possibleAt_47 (⟨by rw [← h3], rfl⟩)
      · exact absurd (Int32.le_refl _) h15
    | succ r ih =>
      intro s c hs hc h3
      rw [lawsF] at h3
      refine zx_iload C d_Law_possibleAt_11 rfl ?_
      refine zx_ic C d_Law_possibleAt_13 ?_
      refine zx_ic_ge C d_Law_possibleAt_15 (fun h15 => ?_) (fun h15 => ?_)
      · exact absurd h15 (nI_ge (b := 64) (by omega) (by omega))
      · refine zx_lload C d_Law_possibleAt_18 rfl ?_
        refine zx_iload C d_Law_possibleAt_19 rfl ?_
        refine zr_di (zr_N C l_Law_35 d_Law_possibleAt_21 (As := [_, _]) rfl rfl (Nat.le_of_ble_eq_true rfl) (c_Tue_hasState G _ _ s (by omega)) ⟨Nat.le_of_ble_eq_true rfl, Nat.le_of_ble_eq_true rfl, Nat.le_of_ble_eq_true rfl, Nat.le_of_ble_eq_true rfl⟩) ?_
        refine zx_ifB_eq C d_Law_possibleAt_24 (fun h24 => ?_) (fun h24 => ?_)
        · rw [if_neg (fun z => h24 ((hb s (by omega)).trans z))] at h3
          refine zx_iinc C d_Law_possibleAt_39 (by decide) rfl (lv1 := [(5, _), (0, _), (1, _), (2, _), (4, _)]) rfl ?_
          refine zx_goto C d_Law_possibleAt_42 ?_
          rw [show (1 : Int32) = nI 1 from rfl, nI_add]
          exact zx_lv [0, 1, 2, 4, 5] rfl (ih (s + 1) c (by omega) (by omega) h3)
        · rw [if_pos ((hb s (by omega)).symm.trans h24)] at h3
          refine zx_iload C d_Law_possibleAt_27 rfl ?_
          refine zx_iload C d_Law_possibleAt_29 rfl ?_
          refine zx_ic_ne C d_Law_possibleAt_30 (fun h30 => ?_) (fun h30 => ?_)
          · rw [if_neg h30] at h3
            refine zx_iinc C d_Law_possibleAt_36 (by decide) rfl (lv1 := [(4, _), (0, _), (1, _), (2, _), (5, _)]) rfl ?_
            refine zx_iinc C d_Law_possibleAt_39 (by decide) rfl (lv1 := [(5, _), (4, _), (0, _), (1, _), (2, _)]) rfl ?_
            refine zx_goto C d_Law_possibleAt_42 ?_
            rw [show (1 : Int32) = nI 1 from rfl, nI_add, nI_add]
            exact zx_lv [0, 1, 2, 4, 5] rfl (ih (s + 1) (c + 1) (by omega) (by omega) h3)
          · rw [if_pos (by first | exact h30 | exact Classical.byContradiction h30)] at h3
            refine zx_iload C d_Law_possibleAt_33 rfl ?_
            exact zx_iret C hq d_Law_possibleAt_35 (⟨by rw [← h3], rfl⟩)
  refine zx_aload C d_Law_possibleAt_0 rfl ?_
  refine zr_dl (zr_V C l_Law_31 d_Law_possibleAt_1 (As := []) rfl rfl (Nat.le_of_ble_eq_true rfl) (c_Law_possible G _ _ _ _ _ _ _ _ _ _ n hn h8 dy hd) 20 zcw_20 rfl ⟨Nat.le_of_ble_eq_true rfl, Nat.le_of_ble_eq_true rfl, Nat.le_of_ble_eq_true rfl, Nat.le_of_ble_eq_true rfl⟩) ?_
  refine zx_lstore C d_Law_possibleAt_4 (by decide) (lv1 := [(2, _), (0, _), (1, _)]) rfl ?_
  refine zx_ic C d_Law_possibleAt_5 ?_
  refine zx_istore C d_Law_possibleAt_6 (by decide) (lv1 := [(4, _), (2, _), (0, _), (1, _)]) rfl ?_
  refine zx_ic C d_Law_possibleAt_8 ?_
  refine zx_istore C d_Law_possibleAt_9 (by decide) (lv1 := [(5, _), (4, _), (2, _), (0, _), (1, _)]) rfl ?_
  exact zx_lv [0, 1, 2, 4, 5] rfl (lp 64 0 0 (by omega) (by omega) rfl)
theorem lawsF_m1 (L : Nat → Bool) : ∀ n z c, c + n < 2 ^ 31 → lawsF L (-1) n z c = nI (c + cntN (fun i => L (z + i)) n)
  | 0, z, c, _ => rfl
  | n + 1, z, c, h => by
    rw [lawsF, cntN_sh]
    have e : (fun i => L (z + (i + 1))) = (fun i => L (z + 1 + i)) := funext fun i => by rw [show z + (i + 1) = z + 1 + i by omega]
    by_cases hz : L z = true
    · rw [if_pos hz, if_neg (fun y => nI_nn (a := c) (by omega) (by rw [y]; decide)), lawsF_m1 L n (z + 1) (c + 1) (by omega), if_pos (show L (z + 0) = true from hz), e]
      congr 1
      omega
    · rw [if_neg hz, lawsF_m1 L n (z + 1) c (by omega), if_neg (show ¬ L (z + 0) = true from hz), e]
      congr 1
      omega
set_option maxHeartbeats 600000 in
set_option maxRecDepth 20000 in
theorem c_Tue_laws (G : ZG) (ad : Nat → Nat) (I : Nat → Int32) (L : Nat → Int64) (g : Option Nat) (QH QD : Nat → Option Nat) (RI : Nat → Nat → Int32) (RL : Nat → Nat → Int64) (X : va_W) (S : ZA) (hA dA : Nat → Nat) (hm : crp S hA dA I L QH QD RI RL) (k : Int32) : ZM G y_Tue_laws b_Tue_laws 2 (some .int) r_Tue_laws [.ref (ad 0), .int k] (cw G ad I L g none QH QD RI RL ++ pw hA dA (aT S) X) (cpi G ad X (ap_laws S k) S) := by
  refine ZM.of "SameTuesday" "laws" rfl rfl (by decide) (Nat.le_of_ble_eq_true rfl) (fun Y C hq => ?_)
  change ZV G Y 0 0 0 [(0, .ref (ad 0)), (1, .int k)] [] (cw G ad I L g none QH QD RI RL ++ pw hA dA (aT S) X)
  refine zx_iload C d_Tue_laws_0 rfl ?_
  refine zx_ic C d_Tue_laws_1 ?_
  refine zx_ic_ge C d_Tue_laws_2 (fun h2 => ?_) (fun h2 => ?_)
  · have h2 : ¬ k < -1 := Int32.not_lt.mpr h2
    refine zx_aload C d_Tue_laws_7 rfl ?_
    refine zx_get C f_Tue_21_11 d_Tue_laws_8 0 zcw_0 rfl ?_
    refine zr_di (zr_V C l_Tue_125 d_Tue_laws_11 (As := []) rfl rfl (Nat.le_of_ble_eq_true rfl) (c_Twn_isTold G _ _ _ _ _ _ _ _ _ _ (aT S).1 hm.2.2.2.2.2.2.1.1 hm.1.2.1.1) 10 zcw_10 rfl ⟨Nat.le_of_ble_eq_true rfl, Nat.le_of_ble_eq_true rfl, Nat.le_of_ble_eq_true rfl, Nat.le_of_ble_eq_true rfl⟩) ?_
    refine zx_ifB_ne C d_Tue_laws_14 (fun h14 => ?_) (fun h14 => ?_)
    · refine zx_iload C d_Tue_laws_20 rfl ?_
      refine zx_ic C d_Tue_laws_21 ?_
      refine zx_ic_ne C d_Tue_laws_22 (fun h22 => ?_) (fun h22 => ?_)
      · have ev : ap_laws S k = lawsF (ilw (ady S) (and8 S)) k 64 0 0 := by rw [ap_laws, if_neg h2, if_neg h14]; rfl
        refine zx_aload C d_Tue_laws_38 rfl ?_
        refine zx_get C f_Tue_44_11 d_Tue_laws_39 0 zcw_0 rfl ?_
        refine zx_iload C d_Tue_laws_42 rfl ?_
        refine zr_di (zr_V C l_Tue_189 d_Tue_laws_43 (As := [_]) rfl rfl (Nat.le_of_ble_eq_true rfl) (c_Law_possibleAt G _ _ _ _ _ _ _ _ _ _ (and8 S) hm.2.2.2.2.1 hm.1.2.2.2.1 (ady S) (fun j hj => ⟨hm.1.2.2.2.2 j hj, hm.2.2.2.2.2.1 j hj⟩) _ h22) 20 zcw_20 rfl ⟨Nat.le_of_ble_eq_true rfl, Nat.le_of_ble_eq_true rfl, Nat.le_of_ble_eq_true rfl, Nat.le_of_ble_eq_true rfl⟩) ?_
        exact zx_iret C hq d_Tue_laws_46 (by rw [ev]; exact cpi_i rfl hm)
      · have h22 : k = -1 := by first | exact h22 | exact Classical.byContradiction h22
        subst h22
        have ev : ap_laws S (-1) = nI (cntN (fun s => bt (wpo (ady S) (and8 S)) s) 64) := by
          rw [ap_laws, if_neg h2, if_neg h14, lawsF_m1 _ 64 0 0 (by omega), Nat.zero_add]
          congr 1
          exact cntN_congr (fun z hz => by rw [Nat.zero_add, bt_wpo (fun j hj => hm.1.2.2.2.2 j hj) z hz]; rfl)
        refine zx_aload C d_Tue_laws_25 rfl ?_
        refine zx_get C f_Tue_44_11 d_Tue_laws_26 0 zcw_0 rfl ?_
        refine zr_dl (zr_V C l_Tue_181 d_Tue_laws_29 (As := []) rfl rfl (Nat.le_of_ble_eq_true rfl) (c_Law_possible G _ _ _ _ _ _ _ _ _ _ (and8 S) hm.2.2.2.2.1 hm.1.2.2.2.1 (ady S) (fun j hj => ⟨hm.1.2.2.2.2 j hj, hm.2.2.2.2.2.1 j hj⟩)) 20 zcw_20 rfl ⟨Nat.le_of_ble_eq_true rfl, Nat.le_of_ble_eq_true rfl, Nat.le_of_ble_eq_true rfl, Nat.le_of_ble_eq_true rfl⟩) ?_
        refine zr_di (zr_S C l_Tue_185 d_Tue_laws_32 (As := [_]) rfl rfl (Nat.le_of_ble_eq_true rfl) (c_JLong_bitCount G _ _) ⟨Nat.le_of_ble_eq_true rfl, Nat.le_of_ble_eq_true rfl, Nat.le_of_ble_eq_true rfl, Nat.le_of_ble_eq_true rfl⟩) ?_
        refine zx_goto C d_Tue_laws_35 ?_
        exact zx_iret C hq d_Tue_laws_46 (by rw [ev]; exact cpi_i rfl hm)
    · have ev : ap_laws S k = -3 := by rw [ap_laws, if_neg h2, if_pos (Classical.byContradiction h14)]
      refine zx_ic C d_Tue_laws_17 ?_
      exact zx_iret C hq d_Tue_laws_19 (by rw [ev]; exact cpi_i rfl hm)
  · have ev : ap_laws S k = -1 := if_pos (Int32.not_le.mp h2)
    refine zx_ic C d_Tue_laws_5 ?_
    exact zx_iret C hq d_Tue_laws_6 (by rw [ev]; exact cpi_i rfl hm)
