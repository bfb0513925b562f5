def nwH (hA : Nat → Nat) (T : ZT) (n : Nat) : va_W := (List.range n).map (hcell hA T)
def nwD (dA : Nat → Nat) (T : ZT) (n : Nat) : va_W := (List.range n).map (dcell dA T)
theorem nwH_s (hA : Nat → Nat) (T : ZT) (h q : Nat) : nwH (iput hA h q) T (h + 1) = nwH hA T h ++ [hcell (iput hA h q) T h] := by
  rw [nwH, List.range_succ, List.map_append]
  congr 1
  refine List.map_congr_left (fun i hi => ?_)
  have hi := List.mem_range.mp hi
  rw [hcell, hcell, show iput hA h q i = hA i from if_neg (by omega)]
theorem nwD_s (dA : Nat → Nat) (T : ZT) (d q : Nat) : nwD (iput dA d q) T (d + 1) = nwD dA T d ++ [dcell (iput dA d q) T d] := by
  rw [nwD, List.range_succ, List.map_append]
  congr 1
  refine List.map_congr_left (fun i hi => ?_)
  have hi := List.mem_range.mp hi
  rw [dcell, dcell, show iput dA d q i = dA i from if_neg (by omega)]
theorem hcl_r {k : Nat} (h : k ≤ 2) : ∃ r, zb_cl[hcl k]? = some r ∧ (r.1 = "SameTuesday$Happening" ∨ (r.1, "SameTuesday$Happening") ∈ zb_ca) := by
  rcases k3 h with rfl | rfl | rfl
  · exact ⟨_, rfl, Or.inl rfl⟩
  · exact ⟨_, rfl, Or.inr (List.mem_of_getElem? (i := 0) rfl)⟩
  · exact ⟨_, rfl, Or.inr (List.mem_of_getElem? (i := 1) rfl)⟩
theorem pos_l {A Y : va_W} {t c : Nat × va_E} : (A ++ (t :: (Y ++ [c])))[A.length + (1 + Y.length)]? = some c := by
  rw [List.getElem?_append_right (by omega), Nat.add_sub_cancel_left, Nat.add_comm 1, List.getElem?_cons_succ, List.getElem?_append_right (Nat.le_refl _), Nat.sub_self]
  rfl
theorem pm_H {A Z : va_W} {t : Nat × va_E} (hA : Nat → Nat) (T : ZT) (h q : Nat) : (A ++ (t :: (nwH (iput hA h q) T (h + 1) ++ Z))).Perm (A ++ (t :: ((nwH hA T h ++ Z) ++ [hcell (iput hA h q) T h]))) := by
  rw [nwH_s, List.append_assoc]
  exact List.Perm.append_left _ (List.Perm.cons _ pm_mid)
theorem pm_D {A B Z : va_W} {t : Nat × va_E} (dA : Nat → Nat) (T : ZT) (d q : Nat) : (A ++ (t :: (B ++ (nwD (iput dA d q) T (d + 1) ++ Z)))).Perm (A ++ (t :: ((B ++ (nwD dA T d ++ Z)) ++ [dcell (iput dA d q) T d]))) := by
  rw [nwD_s, List.append_assoc, List.append_assoc B]
  exact List.Perm.append_left _ (List.Perm.cons _ (List.Perm.append_left _ pm_mid))
theorem sb_pw {A Z X : va_W} {t : Nat × va_E} {hA dA : Nat → Nat} {T : ZT} (h : X.Sublist Z) : (A ++ pw hA dA T X).Sublist (A ++ (t :: (nwH hA T T.1 ++ (nwD dA T T.2.1 ++ Z)))) :=
  List.Sublist.append (List.Sublist.refl A) (List.Sublist.cons _ (List.Sublist.append (List.Sublist.refl _) (List.Sublist.append (List.Sublist.refl _) h)))
theorem sb_X {hA dA : Nat → Nat} {T : ZT} {X : va_W} : X.Sublist (pw hA dA T X) := (List.sublist_append_right _ X).trans (List.sublist_append_right _ _)
theorem mn_eq {a b : Nat} (h : a ≤ b) (hb : b < 2 ^ 31) : (if nI b < nI a then nI b else nI a) = nI a := if_neg (fun z => by have := (nI_ltI hb (by omega)).mp z; omega)
set_option maxHeartbeats 600000 in
set_option maxRecDepth 20000 in
theorem c_Twn_retell (G : ZG) (ad : Nat → Nat) (I : Nat → Int32) (L : Nat → Int64) (g z : Option Nat) (QH QD : Nat → Option Nat) (RI : Nat → Nat → Int32) (RL : Nat → Nat → Int64) (Z : va_W) (ta k st n : Nat) (hk : k < 4) (sz : Nat) (hz : I (5 + k) = nI sz) (hsz : sz ≤ 60) (hn : st + n ≤ sz) (c : Nat → Int32) (hc : ∀ j, j < n → RI k (st + j) = c j) (p nh nd : Nat) (q : Nat → Nat → Nat) (ht : tok ((nh, nd, 60, q) : ZT)) (hts : tsp c n nh nd q) (X : va_W) (hX : X.Sublist Z) : ZM G y_Twn_retell b_Twn_retell 3 none r_Twn_retell [.ref (ad 10), .ref ta] (cw G ad I L g z QH QD RI RL ++ (tcl ta ad k st n (nI p) (nI nh) (nI nd) :: Z)) (zpv (fun w => ∃ (hA1 dA1 : Nat → Nat) (QH1 QD1 : Nat → Option Nat), (∀ j, j < nh → QH1 j = some (hA1 j)) ∧ (∀ j, j < nd → QD1 j = some (dA1 j)) ∧ w = cw G ad (upd (upd (upd I 9 (nI nh)) 10 (nI nd)) 11 60) (vp_updL L 0 (evw ((nh, nd, 60, q) : ZT) nh)) g z QH1 QD1 RI RL ++ pw hA1 dA1 ((nh, nd, 60, q) : ZT) X)) := by
  refine ZM.of "SameTuesday$Town" "retell" rfl rfl (by decide) (Nat.le_of_ble_eq_true rfl) (fun Y C hq => ?_)
  change ZV G Y 0 0 0 [(0, .ref (ad 10)), (1, .ref ta)] [] (cw G ad I L g z QH QD RI RL ++ (tcl ta ad k st n (nI p) (nI nh) (nI nd) :: Z))
  have h6 : nh ≤ 6 := ht.1
  have h5 : nd ≤ 5 := ht.2.1
  have hz2 := hz
  have lpD : ∀ (hA1 : Nat → Nat) (QH1 : Nat → Option Nat), (∀ j, j < nh → QH1 j = some (hA1 j)) → ∀ c2 d (dA1 : Nat → Nat) (QD1 : Nat → Option Nat), d + c2 = nd → (∀ j, j < d → QD1 j = some (dA1 j)) → ZV G Y (nh + d) (6 * nh + 5 * d) 61 [(0, .ref (ad 10)), (1, .ref ta), (2, .int (nI d))] [] (cw G ad (upd (upd I 9 (nI nh)) 10 (nI nd)) L g z QH1 QD1 RI RL ++ (tcl ta ad k st n (nI p) (nI nh) (nI nd) :: (nwH hA1 ((nh, nd, 60, q) : ZT) nh ++ (nwD dA1 ((nh, nd, 60, q) : ZT) d ++ Z)))) := by
    intro hA1 QH1 hQ c2
    induction c2 with
    | zero =>
      intro d dA1 QD1 hc2 hQD
      obtain rfl : d = nd := by omega
      refine zx_iload C d_Twn_retell_61 rfl ?_
      refine zx_aload C d_Twn_retell_62 rfl ?_
      refine zx_get C f_Twn_27_9 d_Twn_retell_63 10 zcw_10 rfl ?_
      refine zx_ic_ge C d_Twn_retell_66 (fun h66 => ?_) (fun h66 => ?_)
      · refine zx_aload C d_Twn_retell_86 rfl ?_
        refine zx_ic C d_Twn_retell_87 ?_
        refine zx_put C p_Twn_30_9 d_Twn_retell_89 10 zcw_10 zb_fit_i (Nat.le_of_ble_eq_true rfl) zcs_10_4 ?_
        refine zx_drop (sb_pw (T := ((nh, d, 60, q) : ZT)) hX) ?_
        refine zx_aload C d_Twn_retell_92 rfl ?_
        refine zr_dv (zr_V C l_Twn_58 d_Twn_retell_93 (As := []) rfl rfl (Nat.le_of_ble_eq_true rfl) (c_Twn_noteEvents G ad _ L g z QH1 QD1 RI RL X ((nh, d, 60, q) : ZT) hA1 dA1 rfl (by exact h6) hQ) 10 zcw_10 rfl ⟨(Nat.le_of_ble_eq_true rfl), (Nat.le_of_ble_eq_true rfl), (by show nh + d + 0 ≤ 11; omega), (by show 6 * nh + 5 * d + 0 ≤ 61; omega)⟩) ?_
        refine zx_widen (kc1 := 11) (ks1 := 61) (by omega) (by omega) ?_
        exact zx_vret C hq d_Twn_retell_96 ⟨rfl, hA1, dA1, QH1, QD1, hQ, hQD, rfl⟩
      · exact absurd (Int32.le_refl _) h66
    | succ c2 ih =>
      intro d dA1 QD1 hc2 hQD
      obtain ⟨p1, hr⟩ := hts.2 d (by omega)
      refine zx_iload C d_Twn_retell_61 rfl ?_
      refine zx_aload C d_Twn_retell_62 rfl ?_
      refine zx_get C f_Twn_27_9 d_Twn_retell_63 10 zcw_10 rfl ?_
      refine zx_ic_ge C d_Twn_retell_66 (fun h66 => ?_) (fun h66 => ?_)
      · exact absurd h66 (nI_ge (by omega) (by omega))
      · refine zx_aload C d_Twn_retell_69 rfl ?_
        refine zx_get C f_Twn_19_9 d_Twn_retell_70 10 zcw_10 rfl ?_
        refine zx_iload C d_Twn_retell_73 rfl ?_
        refine zx_aload C d_Twn_retell_74 rfl ?_
        refine zx_iload C d_Twn_retell_75 rfl ?_
        refine zr_qA (zr_V C l_Twn_54 d_Twn_retell_76 (As := [_]) rfl rfl (Nat.le_of_ble_eq_true rfl) (c_Txt_newDeed G ad (upd (upd I 9 (nI nh)) 10 (nI nd)) L g z QH1 QD1 RI RL (nwH hA1 ((nh, nd, 60, q) : ZT) nh ++ (nwD dA1 ((nh, nd, 60, q) : ZT) d ++ Z)) ta k st n hk sz (by exact (upd_far (by omega)).trans ((upd_far (by omega)).trans hz2)) hsz hn c hc p nh nd (by omega) d (by omega) p1 (q 4 d, q 5 d, q 6 d, q 7 d) hr) 23 zcw_t rfl ⟨(Nat.le_of_ble_eq_true rfl), (Nat.le_of_ble_eq_true rfl), (by show nh + d + 1 ≤ 11; omega), (by show 6 * nh + 5 * d + 5 ≤ 61; omega)⟩) (fun r w1 hw1 => ?_)
        obtain ⟨a, rfl, rfl⟩ := hw1
        refine zx_eq rfl rfl ap_tz.symm ?_
        refine zx_aast C d_Twn_retell_79 12 5 zcw_12 rfl _ 1 pos_l rfl (Or.inl rfl) d rfl (by omega) (by decide) zca_12 ?_
        refine zx_perm (w1 := (cw G ad (upd (upd I 9 (nI nh)) 10 (nI nd)) L g z QH1 (va_up QD1 d (some a)) RI RL ++ (tcl ta ad k st n (nI p) (nI nh) (nI nd) :: (nwH hA1 ((nh, nd, 60, q) : ZT) nh ++ (nwD (iput dA1 d a) ((nh, nd, 60, q) : ZT) (d + 1) ++ Z))))) ?_ ?_
        · have e1 := pm_D (A := cw G ad (upd (upd I 9 (nI nh)) 10 (nI nd)) L g z QH1 (va_up QD1 d (some a)) RI RL) (B := nwH hA1 ((nh, nd, 60, q) : ZT) nh) (Z := Z) (t := tcl ta ad k st n (nI p) (nI nh) (nI nd)) dA1 ((nh, nd, 60, q) : ZT) d a
          rw [show dcell (iput dA1 d a) ((nh, nd, 60, q) : ZT) d = (a, .inr (1, dfs ((nh, nd, 60, q) : ZT) d)) from by rw [dcell, show iput dA1 d a d = a from if_pos rfl]] at e1
          exact e1
        · skip
          refine zx_iinc C d_Twn_retell_80 (by decide) rfl (lv1 := [(2, _), (0, _), (1, _)]) rfl ?_
          refine zx_goto C d_Twn_retell_83 ?_
          rw [show (1 : Int32) = nI 1 from rfl, nI_add]
          refine zx_widen (kc1 := nh + (d + 1)) (ks1 := 6 * nh + 5 * (d + 1)) (Nat.le_refl _) (by show 6 * nh + 5 * d + 5 ≤ 6 * nh + 5 * (d + 1); omega) ?_
          refine zx_lv [0, 1, 2] rfl (ih (d + 1) (iput dA1 d a) (va_up QD1 d (some a)) (by omega) (fun j hj => ?_))
          by_cases e : j = d
          · subst e; rw [show iput dA1 j a j = a from if_pos rfl]; exact if_pos rfl
          · rw [show iput dA1 d a j = dA1 j from if_neg e]; exact (if_neg e).trans (hQD j (by omega))
  have lpH : ∀ c2 h (hA1 : Nat → Nat) (QH1 : Nat → Option Nat), h + c2 = nh → (∀ j, j < h → QH1 j = some (hA1 j)) → ZV G Y h (6 * h) 18 [(0, .ref (ad 10)), (1, .ref ta), (2, .int (nI h))] [] (cw G ad (upd I 9 (nI nh)) L g z QH1 QD RI RL ++ (tcl ta ad k st n (nI p) (nI nh) (nI nd) :: (nwH hA1 ((nh, nd, 60, q) : ZT) h ++ Z))) := by
    intro c2
    induction c2 with
    | zero =>
      intro h hA1 QH1 hc2 hQ
      obtain rfl : h = nh := by omega
      refine zx_iload C d_Twn_retell_18 rfl ?_
      refine zx_aload C d_Twn_retell_19 rfl ?_
      refine zx_get C f_Twn_23_9 d_Twn_retell_20 10 zcw_10 rfl ?_
      refine zx_ic_ge C d_Twn_retell_23 (fun h23 => ?_) (fun h23 => ?_)
      · refine zx_aload C d_Twn_retell_43 rfl ?_
        refine zx_aload C d_Twn_retell_44 rfl ?_
        refine zr_di (zr_V C l_Twn_52 d_Twn_retell_45 (As := []) rfl rfl (Nat.le_of_ble_eq_true rfl) (c_Txt_deedCount G ad (upd I 9 (nI h)) L g z QH1 QD RI RL _ ta k st n hk sz (by exact (upd_far (by omega)).trans hz2) hsz hn c hc _ _ _) 23 zcw_t rfl ⟨(Nat.le_of_ble_eq_true rfl), (Nat.le_of_ble_eq_true rfl), (by show h + 0 ≤ 11; omega), (by show 6 * h + 0 ≤ 61; omega)⟩) ?_
        refine zx_aload C d_Twn_retell_48 rfl ?_
        refine zx_get C f_Twn_19_9 d_Twn_retell_49 10 zcw_10 rfl ?_
        refine zx_alen C d_Twn_retell_52 12 zcw_12 rfl ?_
        refine zx_mmin C zk_math_Twn_42 d_Twn_retell_53 (Nat.le_of_ble_eq_true rfl) (Nat.le_of_ble_eq_true rfl) (by show h ≤ 11; omega) (by show 6 * h ≤ 61; omega) ?_
        refine zx_eq rfl (st1 := [.int (nI nd), .ref (ad 10)]) (congrArg (fun v => [Value.int v, Value.ref (ad 10)]) (mn_eq (b := 5) h5 (by decide))) rfl ?_
        refine zx_put C p_Twn_27_9 d_Twn_retell_56 10 zcw_10 zb_fit_i (Nat.le_of_ble_eq_true rfl) zcs_10_3 ?_
        refine zx_ic C d_Twn_retell_59 ?_
        refine zx_istore C d_Twn_retell_60 (by decide) (lv1 := [(2, _), (0, _), (1, _)]) rfl ?_
        refine zx_widen (kc1 := h + 0) (ks1 := 6 * h + 5 * 0) (by omega) (by omega) ?_
        exact zx_lv [0, 1, 2] rfl (lpD hA1 QH1 hQ nd 0 (fun j => 0) QD (by omega) (fun j hj => absurd hj (Nat.not_lt_zero j)))
      · exact absurd (Int32.le_refl _) h23
    | succ c2 ih =>
      intro h hA1 QH1 hc2 hQ
      obtain ⟨p1, hr⟩ := hts.1 h (by omega)
      refine zx_iload C d_Twn_retell_18 rfl ?_
      refine zx_aload C d_Twn_retell_19 rfl ?_
      refine zx_get C f_Twn_23_9 d_Twn_retell_20 10 zcw_10 rfl ?_
      refine zx_ic_ge C d_Twn_retell_23 (fun h23 => ?_) (fun h23 => ?_)
      · exact absurd h23 (nI_ge (by omega) (by omega))
      · refine zx_aload C d_Twn_retell_26 rfl ?_
        refine zx_get C f_Twn_11_9 d_Twn_retell_27 10 zcw_10 rfl ?_
        refine zx_iload C d_Twn_retell_30 rfl ?_
        refine zx_aload C d_Twn_retell_31 rfl ?_
        refine zx_iload C d_Twn_retell_32 rfl ?_
        refine zr_qA (zr_V C l_Twn_48 d_Twn_retell_33 (As := [_]) rfl rfl (Nat.le_of_ble_eq_true rfl) (c_Txt_newHappening G ad (upd I 9 (nI nh)) L g z QH1 QD RI RL (nwH hA1 ((nh, nd, 60, q) : ZT) h ++ Z) ta k st n hk sz (by exact (upd_far (by omega)).trans hz2) hsz hn c hc p nh nd h (by omega) p1 (q 0 h, q 1 h, q 2 h, q 3 h) hr) 23 zcw_t rfl ⟨(Nat.le_of_ble_eq_true rfl), (Nat.le_of_ble_eq_true rfl), (by show h + 1 ≤ 11; omega), (by show 6 * h + 6 ≤ 61; omega)⟩) (fun r w1 hw1 => ?_)
        obtain ⟨a, rfl, rfl⟩ := hw1
        refine zx_eq rfl rfl ap_tz.symm ?_
        obtain ⟨rc, hrc, hrE⟩ := hcl_r (rdH_ok hr).1
        refine zx_aast C d_Twn_retell_36 11 4 zcw_11 rfl _ _ pos_l hrc hrE h rfl (by omega) (by decide) zca_11 ?_
        refine zx_perm (w1 := (cw G ad (upd I 9 (nI nh)) L g z (va_up QH1 h (some a)) QD RI RL ++ (tcl ta ad k st n (nI p) (nI nh) (nI nd) :: (nwH (iput hA1 h a) ((nh, nd, 60, q) : ZT) (h + 1) ++ Z)))) ?_ ?_
        · have e1 := pm_H (A := cw G ad (upd I 9 (nI nh)) L g z (va_up QH1 h (some a)) QD RI RL) (Z := Z) (t := tcl ta ad k st n (nI p) (nI nh) (nI nd)) hA1 ((nh, nd, 60, q) : ZT) h a
          rw [show hcell (iput hA1 h a) ((nh, nd, 60, q) : ZT) h = (a, .inr (hcl (q 0 h), hfs ((nh, nd, 60, q) : ZT) h)) from by rw [hcell, show iput hA1 h a h = a from if_pos rfl]; rfl] at e1
          exact e1
        · skip
          refine zx_iinc C d_Twn_retell_37 (by decide) rfl (lv1 := [(2, _), (0, _), (1, _)]) rfl ?_
          refine zx_goto C d_Twn_retell_40 ?_
          rw [show (1 : Int32) = nI 1 from rfl, nI_add]
          refine zx_widen (kc1 := h + 1) (ks1 := 6 * (h + 1)) (Nat.le_refl _) (by show 6 * h + 6 ≤ 6 * (h + 1); omega) ?_
          refine zx_lv [0, 1, 2] rfl (ih (h + 1) (iput hA1 h a) (va_up QH1 h (some a)) (by omega) (fun j hj => ?_))
          by_cases e : j = h
          · subst e; rw [show iput hA1 j a j = a from if_pos rfl]; exact if_pos rfl
          · rw [show iput hA1 h a j = hA1 j from if_neg e]; exact (if_neg e).trans (hQ j (by omega))
  refine zx_aload C d_Twn_retell_0 rfl ?_
  refine zx_aload C d_Twn_retell_1 rfl ?_
  refine zr_di (zr_V C l_Twn_37 d_Twn_retell_2 (As := []) rfl rfl (Nat.le_of_ble_eq_true rfl) (c_Txt_happeningCount G ad I L g z QH QD RI RL Z ta k st n hk sz hz hsz hn c hc _ _ _) 23 zcw_t rfl ⟨Nat.le_of_ble_eq_true rfl, Nat.le_of_ble_eq_true rfl, Nat.le_of_ble_eq_true rfl, Nat.le_of_ble_eq_true rfl⟩) ?_
  refine zx_aload C d_Twn_retell_5 rfl ?_
  refine zx_get C f_Twn_11_9 d_Twn_retell_6 10 zcw_10 rfl ?_
  refine zx_alen C d_Twn_retell_9 11 zcw_11 rfl ?_
  refine zx_mmin C zk_math_Twn_42 d_Twn_retell_10 (Nat.le_of_ble_eq_true rfl) (Nat.le_of_ble_eq_true rfl) (Nat.le_of_ble_eq_true rfl) (Nat.le_of_ble_eq_true rfl) ?_
  refine zx_eq rfl (st1 := [.int (nI nh), .ref (ad 10)]) (congrArg (fun v => [Value.int v, Value.ref (ad 10)]) (mn_eq (b := 6) h6 (by decide))) rfl ?_
  refine zx_put C p_Twn_23_9 d_Twn_retell_13 10 zcw_10 zb_fit_i (Nat.le_of_ble_eq_true rfl) zcs_10_2 ?_
  refine zx_ic C d_Twn_retell_16 ?_
  refine zx_istore C d_Twn_retell_17 (by decide) (lv1 := [(2, _), (0, _), (1, _)]) rfl ?_
  exact zx_lv [0, 1, 2] rfl (lpH nh 0 (fun j => 0) QH (by omega) (fun j hj => absurd hj (Nat.not_lt_zero j)))
