set_option maxHeartbeats 600000 in
set_option maxRecDepth 20000 in
theorem c_Tue_sheet (G : ZG) (ad : Nat → Nat) (I : Nat → Int32) (L : Nat → Int64) (g : Option Nat) (QH QD : Nat → Option Nat) (RI : Nat → Nat → Int32) (RL : Nat → Nat → Int64) (X : va_W) (S : ZA) (hA dA : Nat → Nat) (hm : crp S hA dA I L QH QD RI RL) (k l n : Int32) : ZM G y_Tue_sheet b_Tue_sheet 5 (some .int) r_Tue_sheet [.ref (ad 0), .int k, .int l, .int n] (cw G ad I L g none QH QD RI RL ++ pw hA dA (aT S) X) (cpi G ad X (ap_sheet S k l n).1 (ap_sheet S k l n).2) := by
  refine ZM.of "SameTuesday" "sheet" rfl rfl (by decide) (Nat.le_of_ble_eq_true rfl) (fun Y C hq => ?_)
  change ZV G Y 0 0 0 [(0, .ref (ad 0)), (1, .int k), (2, .int l), (3, .int n)] [] (cw G ad I L g none QH QD RI RL ++ pw hA dA (aT S) X)
  refine zx_aload C d_Tue_sheet_0 rfl ?_
  refine zx_ic C d_Tue_sheet_1 ?_
  refine zx_put C p_Tue_55_11 d_Tue_sheet_2 0 zcw_0 zb_fit_i (Nat.le_of_ble_eq_true rfl) zcs_0_6 ?_
  refine zx_aload C d_Tue_sheet_5 rfl ?_
  refine zx_iload C d_Tue_sheet_6 rfl ?_
  refine zr_dq (zr_V C l_Tue_59 d_Tue_sheet_7 (As := [_]) rfl rfl (Nat.le_of_ble_eq_true rfl) (c_Tue_sheetOf G _ _ _ _ _ _ _ _ _ _ _) 0 zcw_0 rfl ⟨Nat.le_of_ble_eq_true rfl, Nat.le_of_ble_eq_true rfl, Nat.le_of_ble_eq_true rfl, Nat.le_of_ble_eq_true rfl⟩) ?_
  refine zx_astoreq C d_Tue_sheet_10 (by decide) (lv1 := [(4, _), (0, _), (1, _), (2, _), (3, _)]) rfl ?_
  refine zx_aloadq C d_Tue_sheet_12 rfl ?_
  refine zx_ifnonnull C d_Tue_sheet_14 (fun a14 h14 => ?_) (fun h14 => ?_)
  · obtain ⟨j, hj, rfl, ej, nj⟩ := shq_some h14
    rw [ej]
    obtain ⟨p1j, p2j, p3j⟩ := hm.2.2.2.1 j hj
    have qj := hm.1.1 j hj
    have evz : ap_sheet S (nI j) l n = _ := if_neg nj
    rw [nI_cl (by omega)] at evz
    refine zx_iload C d_Tue_sheet_19 rfl ?_
    refine zr_di (zr_S C l_Tue_213 d_Tue_sheet_20 (As := [_]) rfl rfl (Nat.le_of_ble_eq_true rfl) (c_Tue_isLane G _ _) ⟨Nat.le_of_ble_eq_true rfl, Nat.le_of_ble_eq_true rfl, Nat.le_of_ble_eq_true rfl, Nat.le_of_ble_eq_true rfl⟩) ?_
    refine zx_ifB_eq C d_Tue_sheet_23 (fun h23 => ?_) (fun h23 => ?_)
    · rw [if_pos (Or.inl (nand_or h23))] at evz
      have ev := evz
      have hm2 := crp_f hm 0
      refine zx_ic C d_Tue_sheet_32 ?_
      exact zx_iret C hq d_Tue_sheet_34 (by rw [ev]; exact cpi_i rfl hm2)
    · refine zx_iload C d_Tue_sheet_26 rfl ?_
      refine zx_ic C d_Tue_sheet_27 ?_
      refine zx_ic_le C d_Tue_sheet_29 (fun h29 => ?_) (fun h29 => ?_)
      · have h60 : ¬ 60 < n := Int32.not_lt.mpr h29
        rw [if_neg (nor_of ⟨nor_of h23, h60⟩)] at evz
        refine zx_iload C d_Tue_sheet_35 rfl ?_
        refine zx_if_ge C d_Tue_sheet_36 (fun h36 => ?_) (fun h36 => ?_)
        · have h0 : ¬ n < 0 := Int32.not_lt.mpr h36
          rw [if_neg h0] at evz
          obtain ⟨nn, hnn, rfl⟩ := ix_le (n := 60) (by decide) h0 h60
          rw [nI_cl (by omega)] at evz
          have ev := evz
          have hl : l = 0 ∨ l = 1 ∨ l = 2 := by
            obtain ⟨x, hx, rfl⟩ := ix_le (n := 2) (by decide) h23.1 h23.2
            rcases (by omega : x = 0 ∨ x = 1 ∨ x = 2) with rfl | rfl | rfl
            · exact Or.inl rfl
            · exact Or.inr (Or.inl rfl)
            · exact Or.inr (Or.inr rfl)
          have hm2 := crp_s (ce := fun _ => 0) (r := zro (RI j) 60) (crp_f hm 0) hj (l := l) (s := nn) (Or.inr hl) hnn (fun z => by rcases hl with y | y | y <;> (subst y; exact absurd z (by decide))) (fun i hi => if_pos hi)
          refine zx_aload C d_Tue_sheet_45 rfl ?_
          refine zx_iload C d_Tue_sheet_47 rfl ?_
          refine zx_iload C d_Tue_sheet_48 rfl ?_
          refine zr_dv (zr_V C l_Tue_219 d_Tue_sheet_49 (As := [_, _]) rfl rfl (Nat.le_of_ble_eq_true rfl) (c_Sht_renew G _ _ _ _ _ _ _ _ _ _ j hj _ nn hnn) (2 + j) (zcw_sh hj) rfl ⟨Nat.le_of_ble_eq_true rfl, Nat.le_of_ble_eq_true rfl, Nat.le_of_ble_eq_true rfl, Nat.le_of_ble_eq_true rfl⟩) ?_
          refine zx_ic C d_Tue_sheet_52 ?_
          exact zx_iret C hq d_Tue_sheet_53 (by rw [ev]; exact cpi_i rfl hm2)
        · rw [if_pos (Int32.not_le.mp h36)] at evz
          have ev := evz
          have hm2 := crp_0 hm 4
          refine zx_aload C d_Tue_sheet_39 rfl ?_
          refine zx_ic C d_Tue_sheet_40 ?_
          refine zr_di (zr_V C l_Tue_216 d_Tue_sheet_41 (As := [_]) rfl rfl (Nat.le_of_ble_eq_true rfl) (c_Tue_faulty G _ _ _ _ _ _ _ _ _ _ _) 0 zcw_0 rfl ⟨Nat.le_of_ble_eq_true rfl, Nat.le_of_ble_eq_true rfl, Nat.le_of_ble_eq_true rfl, Nat.le_of_ble_eq_true rfl⟩) ?_
          exact zx_iret C hq d_Tue_sheet_44 (by rw [ev]; exact cpi_i rfl hm2)
      · rw [if_pos (Or.inr (Int32.not_le.mp h29))] at evz
        have ev := evz
        have hm2 := crp_f hm 0
        refine zx_ic C d_Tue_sheet_32 ?_
        exact zx_iret C hq d_Tue_sheet_34 (by rw [ev]; exact cpi_i rfl hm2)
  · have ev : ap_sheet S k l n = (-1, sf S 0) := if_pos (shq_none h14)
    have hm2 := crp_f hm 0
    refine zx_ic C d_Tue_sheet_17 ?_
    exact zx_iret C hq d_Tue_sheet_18 (by rw [ev]; exact cpi_i rfl hm2)
set_option maxHeartbeats 600000 in
set_option maxRecDepth 20000 in
theorem c_Tue_lose (G : ZG) (ad : Nat → Nat) (I : Nat → Int32) (L : Nat → Int64) (g : Option Nat) (QH QD : Nat → Option Nat) (RI : Nat → Nat → Int32) (RL : Nat → Nat → Int64) (X : va_W) (S : ZA) (hA dA : Nat → Nat) (hm : crp S hA dA I L QH QD RI RL) (k : Int32) : ZM G y_Tue_lose b_Tue_lose 4 (some .int) r_Tue_lose [.ref (ad 0), .int k] (cw G ad I L g none QH QD RI RL ++ pw hA dA (aT S) X) (cpi G ad X (ap_lose S k).1 (ap_lose S k).2) := by
  refine ZM.of "SameTuesday" "lose" rfl rfl (by decide) (Nat.le_of_ble_eq_true rfl) (fun Y C hq => ?_)
  change ZV G Y 0 0 0 [(0, .ref (ad 0)), (1, .int k)] [] (cw G ad I L g none QH QD RI RL ++ pw hA dA (aT S) X)
  refine zx_aload C d_Tue_lose_0 rfl ?_
  refine zx_iload C d_Tue_lose_1 rfl ?_
  refine zr_dq (zr_V C l_Tue_59 d_Tue_lose_2 (As := [_]) rfl rfl (Nat.le_of_ble_eq_true rfl) (c_Tue_sheetOf G _ _ _ _ _ _ _ _ _ _ _) 0 zcw_0 rfl ⟨Nat.le_of_ble_eq_true rfl, Nat.le_of_ble_eq_true rfl, Nat.le_of_ble_eq_true rfl, Nat.le_of_ble_eq_true rfl⟩) ?_
  refine zx_astoreq C d_Tue_lose_5 (by decide) (lv1 := [(2, _), (0, _), (1, _)]) rfl ?_
  refine zx_aloadq C d_Tue_lose_6 rfl ?_
  refine zx_ifnonnull C d_Tue_lose_7 (fun a7 h7 => ?_) (fun h7 => ?_)
  · obtain ⟨j, hj, rfl, ej, nj⟩ := shq_some h7
    rw [ej]
    obtain ⟨p1j, p2j, p3j⟩ := hm.2.2.2.1 j hj
    have qj := hm.1.1 j hj
    have ev : ap_lose S (nI j) = _ := if_neg nj
    rw [nI_cl (by omega)] at ev
    have hm2 := crp_s (ce := ace S j) (r := RI j) hm hj (l := -1) (s := 0) (Or.inl rfl) (by omega) (fun _ => rfl) p3j
    rw [iput_self, show ur RI j (RI j) = RI from ur_self RI j] at hm2
    refine zx_aload C d_Tue_lose_12 rfl ?_
    refine zr_di (zr_V C l_Tue_223 d_Tue_lose_13 (As := []) rfl rfl (Nat.le_of_ble_eq_true rfl) (c_Sht_hasNothing G _ _ _ _ _ _ _ _ _ _ j hj) (2 + j) (zcw_sh hj) rfl ⟨Nat.le_of_ble_eq_true rfl, Nat.le_of_ble_eq_true rfl, Nat.le_of_ble_eq_true rfl, Nat.le_of_ble_eq_true rfl⟩) ?_
    refine zx_ifB_ne C d_Tue_lose_16 (fun h16 => ?_) (fun h16 => ?_)
    · have h16 : aln S j = -1 := p1j.symm.trans h16
      rw [if_pos h16] at ev
      refine zx_ic C d_Tue_lose_23 ?_
      refine zx_istore C d_Tue_lose_24 (by decide) (lv1 := [(3, _), (2, _), (0, _), (1, _)]) rfl ?_
      refine zx_aload C d_Tue_lose_25 rfl ?_
      refine zr_dv (zr_V C l_Tue_226 d_Tue_lose_26 (As := []) rfl rfl (Nat.le_of_ble_eq_true rfl) (c_Sht_empty G _ _ _ _ _ _ _ _ _ _ j hj) (2 + j) (zcw_sh hj) rfl ⟨Nat.le_of_ble_eq_true rfl, Nat.le_of_ble_eq_true rfl, Nat.le_of_ble_eq_true rfl, Nat.le_of_ble_eq_true rfl⟩) ?_
      refine zx_iload C d_Tue_lose_29 rfl ?_
      refine zx_if_eq C d_Tue_lose_30 (fun h30 => ?_) (fun h30 => ?_)
      · refine zx_ic C d_Tue_lose_37 ?_
        exact zx_iret C hq d_Tue_lose_38 (by rw [ev]; first | exact cpi_i rfl hm2 | (exfalso; exact absurd h30 (by decide)) | exact absurd rfl h30)
      · refine zx_ic C d_Tue_lose_33 ?_
        refine zx_goto C d_Tue_lose_34 ?_
        exact zx_iret C hq d_Tue_lose_38 (by rw [ev]; first | exact cpi_i rfl hm2 | (exfalso; exact absurd h30 (by decide)) | exact absurd rfl h30)
    · have h16 : ¬ aln S j = -1 := fun z => h16 (p1j.trans z)
      rw [if_neg h16] at ev
      refine zx_ic C d_Tue_lose_19 ?_
      refine zx_goto C d_Tue_lose_20 ?_
      refine zx_istore C d_Tue_lose_24 (by decide) (lv1 := [(3, _), (2, _), (0, _), (1, _)]) rfl ?_
      refine zx_aload C d_Tue_lose_25 rfl ?_
      refine zr_dv (zr_V C l_Tue_226 d_Tue_lose_26 (As := []) rfl rfl (Nat.le_of_ble_eq_true rfl) (c_Sht_empty G _ _ _ _ _ _ _ _ _ _ j hj) (2 + j) (zcw_sh hj) rfl ⟨Nat.le_of_ble_eq_true rfl, Nat.le_of_ble_eq_true rfl, Nat.le_of_ble_eq_true rfl, Nat.le_of_ble_eq_true rfl⟩) ?_
      refine zx_iload C d_Tue_lose_29 rfl ?_
      refine zx_if_eq C d_Tue_lose_30 (fun h30 => ?_) (fun h30 => ?_)
      · refine zx_ic C d_Tue_lose_37 ?_
        exact zx_iret C hq d_Tue_lose_38 (by rw [ev]; first | exact cpi_i rfl hm2 | (exfalso; exact absurd h30 (by decide)) | exact absurd rfl h30)
      · refine zx_ic C d_Tue_lose_33 ?_
        refine zx_goto C d_Tue_lose_34 ?_
        exact zx_iret C hq d_Tue_lose_38 (by rw [ev]; first | exact cpi_i rfl hm2 | (exfalso; exact absurd h30 (by decide)) | exact absurd rfl h30)
  · have ev : ap_lose S k = (-1, S) := if_pos (shq_none h7)
    have hm2 := hm
    refine zx_ic C d_Tue_lose_10 ?_
    exact zx_iret C hq d_Tue_lose_11 (by rw [ev]; exact cpi_i rfl hm2)
set_option maxHeartbeats 600000 in
set_option maxRecDepth 20000 in
theorem c_Tue_put (G : ZG) (ad : Nat → Nat) (I : Nat → Int32) (L : Nat → Int64) (g : Option Nat) (QH QD : Nat → Option Nat) (RI : Nat → Nat → Int32) (RL : Nat → Nat → Int64) (X : va_W) (S : ZA) (hA dA : Nat → Nat) (hm : crp S hA dA I L QH QD RI RL) (k i v : Int32) : ZM G y_Tue_put b_Tue_put 5 (some .int) r_Tue_put [.ref (ad 0), .int k, .int i, .int v] (cw G ad I L g none QH QD RI RL ++ pw hA dA (aT S) X) (cpi G ad X (ap_put S k i v).1 (ap_put S k i v).2) := by
  refine ZM.of "SameTuesday" "put" rfl rfl (by decide) (Nat.le_of_ble_eq_true rfl) (fun Y C hq => ?_)
  change ZV G Y 0 0 0 [(0, .ref (ad 0)), (1, .int k), (2, .int i), (3, .int v)] [] (cw G ad I L g none QH QD RI RL ++ pw hA dA (aT S) X)
  refine zx_aload C d_Tue_put_0 rfl ?_
  refine zx_ic C d_Tue_put_1 ?_
  refine zx_put C p_Tue_55_11 d_Tue_put_2 0 zcw_0 zb_fit_i (Nat.le_of_ble_eq_true rfl) zcs_0_6 ?_
  refine zx_aload C d_Tue_put_5 rfl ?_
  refine zx_iload C d_Tue_put_6 rfl ?_
  refine zr_dq (zr_V C l_Tue_59 d_Tue_put_7 (As := [_]) rfl rfl (Nat.le_of_ble_eq_true rfl) (c_Tue_sheetOf G _ _ _ _ _ _ _ _ _ _ _) 0 zcw_0 rfl ⟨Nat.le_of_ble_eq_true rfl, Nat.le_of_ble_eq_true rfl, Nat.le_of_ble_eq_true rfl, Nat.le_of_ble_eq_true rfl⟩) ?_
  refine zx_astoreq C d_Tue_put_10 (by decide) (lv1 := [(4, _), (0, _), (1, _), (2, _), (3, _)]) rfl ?_
  refine zx_aloadq C d_Tue_put_12 rfl ?_
  refine zx_ifnonnull C d_Tue_put_14 (fun a14 h14 => ?_) (fun h14 => ?_)
  · obtain ⟨j, hj, rfl, ej, nj⟩ := shq_some h14
    rw [ej]
    obtain ⟨p1j, p2j, p3j⟩ := hm.2.2.2.1 j hj
    have qj := hm.1.1 j hj
    have evz : ap_put S (nI j) i v = _ := if_neg nj
    rw [nI_cl (by omega)] at evz
    have u1 : upd I 0 0 (1 + j) = aln S j := (upd_far (by omega)).trans p1j
    have u2 : upd I 0 0 (5 + j) = nI (asz S j) := (upd_far (by omega)).trans p2j
    refine zx_aload C d_Tue_put_19 rfl ?_
    refine zr_di (zr_V C l_Tue_223 d_Tue_put_21 (As := []) rfl rfl (Nat.le_of_ble_eq_true rfl) (c_Sht_hasNothing G _ _ _ _ _ _ _ _ _ _ j hj) (2 + j) (zcw_sh hj) rfl ⟨Nat.le_of_ble_eq_true rfl, Nat.le_of_ble_eq_true rfl, Nat.le_of_ble_eq_true rfl, Nat.le_of_ble_eq_true rfl⟩) ?_
    refine zx_ifB_eq C d_Tue_put_24 (fun h24 => ?_) (fun h24 => ?_)
    · rw [if_neg (fun z => h24 (u1.trans z))] at evz
      refine zx_aload C d_Tue_put_33 rfl ?_
      refine zx_iload C d_Tue_put_35 rfl ?_
      refine zx_ic C d_Tue_put_36 ?_
      refine zr_di (zr_V C l_Tue_229 d_Tue_put_37 (As := [_, _]) rfl rfl (Nat.le_of_ble_eq_true rfl) (c_Sht_holds G _ _ _ _ _ _ _ _ _ _ j hj _ _) (2 + j) (zcw_sh hj) rfl ⟨Nat.le_of_ble_eq_true rfl, Nat.le_of_ble_eq_true rfl, Nat.le_of_ble_eq_true rfl, Nat.le_of_ble_eq_true rfl⟩) ?_
      refine zx_ifB_ne C d_Tue_put_40 (fun h40 => ?_) (fun h40 => ?_)
      · obtain ⟨x, m, rfl, e1, hx⟩ := holds_get u2 qj.2.1 h40
        have hx1 : x < asz S j := Classical.byContradiction fun z => h40.2.2.2 (by
          have hx2 : x = asz S j := by omega
          rw [u2, hx2, pk_sub (Nat.le_refl _), Nat.sub_self]; decide)
        rw [if_neg (nor_of ⟨nI_nn (by omega), fun z => by have := (nI_leI (by omega) (by omega)).mp z; omega⟩), nI_cl (by omega)] at evz
        have ev := evz
        have hm2 := crp_c (ce := iput (ace S j) x (cutv (aln S j) v)) (r := upd (RI j) x (cutv (upd I 0 0 (1 + j)) v)) (crp_f hm 0) hj (fun i hi => by rw [u1]; by_cases e : i = x; (subst e; rw [upd_eq]; exact (if_pos rfl).symm); (rw [upd_ne _ _ e]; exact (p3j i hi).trans (if_neg e).symm))
        refine zx_aload C d_Tue_put_49 rfl ?_
        refine zx_iload C d_Tue_put_51 rfl ?_
        refine zx_iload C d_Tue_put_52 rfl ?_
        refine zr_dv (zr_V C l_Tue_233 d_Tue_put_53 (As := [_, _]) rfl rfl (Nat.le_of_ble_eq_true rfl) (c_Sht_setCell G _ _ _ _ _ _ _ _ _ _ j hj x (asz S j) (by exact (upd_far (by omega)).trans p2j) (by omega) qj.2.1 _) (2 + j) (zcw_sh hj) rfl ⟨Nat.le_of_ble_eq_true rfl, Nat.le_of_ble_eq_true rfl, Nat.le_of_ble_eq_true rfl, Nat.le_of_ble_eq_true rfl⟩) ?_
        refine zx_ic C d_Tue_put_56 ?_
        exact zx_iret C hq d_Tue_put_57 (by rw [ev]; exact cpi_i rfl hm2)
      · have hb : i < 0 ∨ nI (asz S j) ≤ i := Classical.byContradiction fun z => h40 (by
          obtain ⟨x, hx, rfl⟩ := ix_of (n := asz S j) (by omega) (fun y => z (Or.inl y)) (fun y => z (Or.inr y))
          exact holds_ok (m := 1) u2 qj.2.1 hx)
        rw [if_pos hb] at evz
        have ev := evz
        have hm2 := crp_0 hm 3
        refine zx_aload C d_Tue_put_43 rfl ?_
        refine zx_ic C d_Tue_put_44 ?_
        refine zr_di (zr_V C l_Tue_216 d_Tue_put_45 (As := [_]) rfl rfl (Nat.le_of_ble_eq_true rfl) (c_Tue_faulty G _ _ _ _ _ _ _ _ _ _ _) 0 zcw_0 rfl ⟨Nat.le_of_ble_eq_true rfl, Nat.le_of_ble_eq_true rfl, Nat.le_of_ble_eq_true rfl, Nat.le_of_ble_eq_true rfl⟩) ?_
        exact zx_iret C hq d_Tue_put_48 (by rw [ev]; exact cpi_i rfl hm2)
    · rw [if_pos (u1.symm.trans h24)] at evz
      have ev := evz
      have hm2 := crp_0 hm 1
      refine zx_aload C d_Tue_put_27 rfl ?_
      refine zx_ic C d_Tue_put_28 ?_
      refine zr_di (zr_V C l_Tue_216 d_Tue_put_29 (As := [_]) rfl rfl (Nat.le_of_ble_eq_true rfl) (c_Tue_faulty G _ _ _ _ _ _ _ _ _ _ _) 0 zcw_0 rfl ⟨Nat.le_of_ble_eq_true rfl, Nat.le_of_ble_eq_true rfl, Nat.le_of_ble_eq_true rfl, Nat.le_of_ble_eq_true rfl⟩) ?_
      exact zx_iret C hq d_Tue_put_32 (by rw [ev]; exact cpi_i rfl hm2)
  · have ev : ap_put S k i v = (-1, sf S 0) := if_pos (shq_none h14)
    have hm2 := crp_f hm 0
    refine zx_ic C d_Tue_put_17 ?_
    exact zx_iret C hq d_Tue_put_18 (by rw [ev]; exact cpi_i rfl hm2)
theorem ag_rng (ln : Int32) (s : Nat) (l i n : Int32) : ag ln s l i n = 0 ∨ ag ln s l i n = 1 ∨ ag ln s l i n = 2 ∨ ag ln s l i n = 3 ∨ ag ln s l i n = 4 := by
  unfold ag
  split
  · exact Or.inr (Or.inr (Or.inl rfl))
  · split
    · exact Or.inr (Or.inl rfl)
    · split
      · exact Or.inr (Or.inr (Or.inr (Or.inr rfl)))
      · split
        · exact Or.inr (Or.inr (Or.inr (Or.inl rfl)))
        · exact Or.inl rfl
theorem rf_zero {ln l i n : Int32} {s : Nat} (h : rfv ln s l i n = 0) : (¬ l < 0 ∧ ¬ 2 < l) ∧ ag ln s l i n = 0 := by
  unfold rfv at h
  split at h
  · exact absurd h (by decide)
  · next h1 =>
    refine ⟨⟨fun z => h1 (Or.inl z), fun z => h1 (Or.inr z)⟩, ?_⟩
    split at h
    · next h2 => exact h2
    · rcases ag_rng ln s l i n with z | z | z | z | z
      · exact z
      all_goals rw [z] at h; exact absurd h (by decide)
theorem rf_cell {S : ZA} {I : Nat → Int32} {j : Nat} {l i : Int32} (hj : j < 4) (u1 : I (1 + j) = aln S j) (nj : ¬ (nI j < 0 ∨ 3 < nI j)) (h : ¬ rfv (I (1 + j)) (asz S j) l i 1 = 0) : ∃ v, ap_cell S (nI j) i l = (-9223372036854775808, sf S v) ∧ ((v = 0 ∧ rfI I (I (1 + j)) (asz S j) l i 1 = I) ∨ rfI I (I (1 + j)) (asz S j) l i 1 = upd I 0 v) := by
  rw [u1] at h ⊢
  by_cases hl : l < 0 ∨ 2 < l
  · exact ⟨0, if_pos (Or.inr hl), Or.inl ⟨rfl, if_pos hl⟩⟩
  · have ha : ¬ ag (aln S j) (asz S j) l i 1 = 0 := fun z => h (by rw [rfv, if_neg hl, if_pos z])
    refine ⟨ag (aln S j) (asz S j) l i 1, ?_, Or.inr (by rw [rfI, if_neg hl, if_neg ha])⟩
    rw [ap_cell, if_neg (nor_of ⟨nj, hl⟩), nI_cl (by omega), if_neg ha]
set_option maxHeartbeats 600000 in
set_option maxRecDepth 20000 in
theorem c_Tue_cell (G : ZG) (ad : Nat → Nat) (I : Nat → Int32) (L : Nat → Int64) (g : Option Nat) (QH QD : Nat → Option Nat) (RI : Nat → Nat → Int32) (RL : Nat → Nat → Int64) (X : va_W) (S : ZA) (hA dA : Nat → Nat) (hm : crp S hA dA I L QH QD RI RL) (k i l : Int32) : ZM G y_Tue_cell b_Tue_cell 5 (some .long) r_Tue_cell [.ref (ad 0), .int k, .int i, .int l] (cw G ad I L g none QH QD RI RL ++ pw hA dA (aT S) X) (cpl G ad X (ap_cell S k i l).1 (ap_cell S k i l).2) := by
  refine ZM.of "SameTuesday" "cell" rfl rfl (by decide) (Nat.le_of_ble_eq_true rfl) (fun Y C hq => ?_)
  change ZV G Y 0 0 0 [(0, .ref (ad 0)), (1, .int k), (2, .int i), (3, .int l)] [] (cw G ad I L g none QH QD RI RL ++ pw hA dA (aT S) X)
  refine zx_aload C d_Tue_cell_0 rfl ?_
  refine zx_ic C d_Tue_cell_1 ?_
  refine zx_put C p_Tue_55_11 d_Tue_cell_2 0 zcw_0 zb_fit_i (Nat.le_of_ble_eq_true rfl) zcs_0_6 ?_
  refine zx_aload C d_Tue_cell_5 rfl ?_
  refine zx_iload C d_Tue_cell_6 rfl ?_
  refine zr_dq (zr_V C l_Tue_59 d_Tue_cell_7 (As := [_]) rfl rfl (Nat.le_of_ble_eq_true rfl) (c_Tue_sheetOf G _ _ _ _ _ _ _ _ _ _ _) 0 zcw_0 rfl ⟨Nat.le_of_ble_eq_true rfl, Nat.le_of_ble_eq_true rfl, Nat.le_of_ble_eq_true rfl, Nat.le_of_ble_eq_true rfl⟩) ?_
  refine zx_astoreq C d_Tue_cell_10 (by decide) (lv1 := [(4, _), (0, _), (1, _), (2, _), (3, _)]) rfl ?_
  refine zx_aloadq C d_Tue_cell_12 rfl ?_
  refine zx_ifnull C d_Tue_cell_14 (fun h14 => ?_) (fun a14 h14 => ?_)
  · have ev : ap_cell S k i l = (-9223372036854775808, sf S 0) := if_pos (Or.inl (shq_none h14))
    have hm2 := crp_f hm 0
    refine zx_lc C d_Tue_cell_29 ?_
    exact zx_lret C hq d_Tue_cell_32 (by rw [ev]; exact cpl_l rfl hm2)
  · obtain ⟨j, hj, rfl, ej, nj⟩ := shq_some h14
    rw [ej]
    obtain ⟨p1j, p2j, p3j⟩ := hm.2.2.2.1 j hj
    have qj := hm.1.1 j hj
    have u1 : upd I 0 0 (1 + j) = aln S j := (upd_far (by omega)).trans p1j
    refine zx_aload C d_Tue_cell_17 rfl ?_
    refine zx_aload C d_Tue_cell_18 rfl ?_
    refine zx_iload C d_Tue_cell_20 rfl ?_
    refine zx_iload C d_Tue_cell_21 rfl ?_
    refine zx_ic C d_Tue_cell_22 ?_
    refine zr_di (zr_V C l_Tue_63 d_Tue_cell_23 (As := [_, _, _, _]) rfl rfl (Nat.le_of_ble_eq_true rfl) (c_Tue_refusalOfCells G _ _ _ _ _ _ _ _ _ _ j hj (asz S j) (by exact (upd_far (by omega)).trans p2j) _ _ _) 0 zcw_0 rfl ⟨Nat.le_of_ble_eq_true rfl, Nat.le_of_ble_eq_true rfl, Nat.le_of_ble_eq_true rfl, Nat.le_of_ble_eq_true rfl⟩) ?_
    refine zx_if_eq C d_Tue_cell_26 (fun h26 => ?_) (fun h26 => ?_)
    · obtain ⟨hl, ha⟩ := rf_zero h26
      rw [u1] at ha
      obtain ⟨_, _, x, rfl, hx⟩ := ag_fine (m := 1) qj.2.1 (by decide) ha
      have ev : ap_cell S (nI j) (nI x) l = ((ace S j x).toInt64, sf S 0) := by rw [ap_cell, if_neg (nor_of ⟨nj, nor_of hl⟩), nI_cl (by omega), if_pos ha, nI_cl (by omega)]
      rw [(rf_f (I := upd I 0 0) hl (u1.symm ▸ ha)).2]
      have hm2 := crp_f hm 0
      refine zx_aload C d_Tue_cell_33 rfl ?_
      refine zx_iload C d_Tue_cell_35 rfl ?_
      refine zr_di (zr_V C l_Tue_236 d_Tue_cell_36 (As := [_]) rfl rfl (Nat.le_of_ble_eq_true rfl) (c_Sht_cellAt G _ _ _ _ _ _ _ _ _ _ j hj x (asz S j) (by exact (upd_far (by omega)).trans p2j) (by omega) qj.2.1) (2 + j) (zcw_sh hj) rfl ⟨Nat.le_of_ble_eq_true rfl, Nat.le_of_ble_eq_true rfl, Nat.le_of_ble_eq_true rfl, Nat.le_of_ble_eq_true rfl⟩) ?_
      refine zx_i2l C d_Tue_cell_39 ?_
      exact zx_lret C hq d_Tue_cell_40 (by rw [ev, p3j x (by omega)]; exact cpl_l rfl hm2)
    · obtain ⟨v, ev, hv⟩ := rf_cell (S := S) (I := upd I 0 0) hj u1 nj h26
      have hm2 : crp (sf S v) hA dA (rfI (upd I 0 0) (upd I 0 0 (1 + j)) (asz S j) l i 1) L QH QD RI RL := by
        rcases hv with ⟨rfl, e⟩ | e
        · rw [e]; exact crp_f hm 0
        · rw [e]; exact crp_0 hm v
      refine zx_lc C d_Tue_cell_29 ?_
      exact zx_lret C hq d_Tue_cell_32 (by rw [ev]; exact cpl_l rfl hm2)
set_option maxHeartbeats 600000 in
set_option maxRecDepth 20000 in
theorem c_Tue_copy (G : ZG) (ad : Nat → Nat) (I : Nat → Int32) (L : Nat → Int64) (g : Option Nat) (QH QD : Nat → Option Nat) (RI : Nat → Nat → Int32) (RL : Nat → Nat → Int64) (X : va_W) (S : ZA) (hA dA : Nat → Nat) (hm : crp S hA dA I L QH QD RI RL) (k i k2 j n : Int32) : ZM G y_Tue_copy b_Tue_copy 8 (some .int) r_Tue_copy [.ref (ad 0), .int k, .int i, .int k2, .int j, .int n] (cw G ad I L g none QH QD RI RL ++ pw hA dA (aT S) X) (cpi G ad X (ap_copy S k i k2 j n).1 (ap_copy S k i k2 j n).2) := by
  refine ZM.of "SameTuesday" "copy" rfl rfl (by decide) (Nat.le_of_ble_eq_true rfl) (fun Y C hq => ?_)
  change ZV G Y 0 0 0 [(0, .ref (ad 0)), (1, .int k), (2, .int i), (3, .int k2), (4, .int j), (5, .int n)] [] (cw G ad I L g none QH QD RI RL ++ pw hA dA (aT S) X)
  refine zx_aload C d_Tue_copy_0 rfl ?_
  refine zx_ic C d_Tue_copy_1 ?_
  refine zx_put C p_Tue_55_11 d_Tue_copy_2 0 zcw_0 zb_fit_i (Nat.le_of_ble_eq_true rfl) zcs_0_6 ?_
  refine zx_aload C d_Tue_copy_5 rfl ?_
  refine zx_iload C d_Tue_copy_6 rfl ?_
  refine zr_dq (zr_V C l_Tue_59 d_Tue_copy_7 (As := [_]) rfl rfl (Nat.le_of_ble_eq_true rfl) (c_Tue_sheetOf G _ _ _ _ _ _ _ _ _ _ _) 0 zcw_0 rfl ⟨Nat.le_of_ble_eq_true rfl, Nat.le_of_ble_eq_true rfl, Nat.le_of_ble_eq_true rfl, Nat.le_of_ble_eq_true rfl⟩) ?_
  refine zx_astoreq C d_Tue_copy_10 (by decide) (lv1 := [(6, _), (0, _), (1, _), (2, _), (3, _), (4, _), (5, _)]) rfl ?_
  refine zx_aload C d_Tue_copy_12 rfl ?_
  refine zx_iload C d_Tue_copy_13 rfl ?_
  refine zr_dq (zr_V C l_Tue_59 d_Tue_copy_14 (As := [_]) rfl rfl (Nat.le_of_ble_eq_true rfl) (c_Tue_sheetOf G _ _ _ _ _ _ _ _ _ _ _) 0 zcw_0 rfl ⟨Nat.le_of_ble_eq_true rfl, Nat.le_of_ble_eq_true rfl, Nat.le_of_ble_eq_true rfl, Nat.le_of_ble_eq_true rfl⟩) ?_
  refine zx_astoreq C d_Tue_copy_17 (by decide) (lv1 := [(7, va_rf (shq ad k2)), (6, va_rf (shq ad k)), (0, .ref (ad 0)), (1, .int k), (2, .int i), (3, .int k2), (4, .int j), (5, .int n)]) (by cases shq ad k <;> rfl) ?_
  refine zx_aloadq C d_Tue_copy_19 rfl ?_
  refine zx_ifnull C d_Tue_copy_21 (fun h21 => ?_) (fun a21 h21 => ?_)
  · have ev : ap_copy S k i k2 j n = (-1, sf S 0) := if_pos (Or.inl (shq_none h21))
    have hm2 := crp_f hm 0
    refine zx_ic C d_Tue_copy_29 ?_
    exact zx_iret C hq d_Tue_copy_30 (by rw [ev]; exact cpi_i rfl hm2)
  · refine zx_aloadq C d_Tue_copy_24 rfl ?_
    refine zx_ifnonnull C d_Tue_copy_26 (fun a26 h26 => ?_) (fun h26 => ?_)
    · obtain ⟨a, ha, rfl, ea, na⟩ := shq_some h21
      rw [ea]
      obtain ⟨p1a, p2a, p3a⟩ := hm.2.2.2.1 a ha
      have qa := hm.1.1 a ha
      obtain ⟨b, hb, rfl, eb, nb⟩ := shq_some h26
      rw [eb]
      obtain ⟨p1b, p2b, p3b⟩ := hm.2.2.2.1 b hb
      have qb := hm.1.1 b hb
      have evz : ap_copy S (nI a) i (nI b) j n = _ := if_neg (nor_of ⟨na, nb⟩)
      rw [nI_cl (by omega), nI_cl (by omega)] at evz
      have u1 : upd I 0 0 (1 + a) = aln S a := (upd_far (by omega)).trans p1a
      have u2 : upd I 0 0 (5 + a) = nI (asz S a) := (upd_far (by omega)).trans p2a
      have w1 : upd I 0 0 (1 + b) = aln S b := (upd_far (by omega)).trans p1b
      have w2 : upd I 0 0 (5 + b) = nI (asz S b) := (upd_far (by omega)).trans p2b
      refine zx_aload C d_Tue_copy_31 rfl ?_
      refine zr_di (zr_V C l_Tue_223 d_Tue_copy_33 (As := []) rfl rfl (Nat.le_of_ble_eq_true rfl) (c_Sht_hasNothing G _ _ _ _ _ _ _ _ _ _ a ha) (2 + a) (zcw_sh ha) rfl ⟨Nat.le_of_ble_eq_true rfl, Nat.le_of_ble_eq_true rfl, Nat.le_of_ble_eq_true rfl, Nat.le_of_ble_eq_true rfl⟩) ?_
      refine zx_ifB_ne C d_Tue_copy_36 (fun h36 => ?_) (fun h36 => ?_)
      · rw [if_pos (Or.inl (u1.symm.trans h36))] at evz
        have ev := evz
        have hm2 := crp_0 hm 1
        refine zx_aload C d_Tue_copy_47 rfl ?_
        refine zx_ic C d_Tue_copy_48 ?_
        refine zr_di (zr_V C l_Tue_216 d_Tue_copy_49 (As := [_]) rfl rfl (Nat.le_of_ble_eq_true rfl) (c_Tue_faulty G _ _ _ _ _ _ _ _ _ _ _) 0 zcw_0 rfl ⟨Nat.le_of_ble_eq_true rfl, Nat.le_of_ble_eq_true rfl, Nat.le_of_ble_eq_true rfl, Nat.le_of_ble_eq_true rfl⟩) ?_
        exact zx_iret C hq d_Tue_copy_52 (by rw [ev]; exact cpi_i rfl hm2)
      · refine zx_aload C d_Tue_copy_39 rfl ?_
        refine zr_di (zr_V C l_Tue_223 d_Tue_copy_41 (As := []) rfl rfl (Nat.le_of_ble_eq_true rfl) (c_Sht_hasNothing G _ _ _ _ _ _ _ _ _ _ b hb) (2 + b) (zcw_sh hb) rfl ⟨Nat.le_of_ble_eq_true rfl, Nat.le_of_ble_eq_true rfl, Nat.le_of_ble_eq_true rfl, Nat.le_of_ble_eq_true rfl⟩) ?_
        refine zx_ifB_eq C d_Tue_copy_44 (fun h44 => ?_) (fun h44 => ?_)
        · rw [if_neg (nor_of ⟨fun z => h36 (u1.trans z), fun z => h44 (w1.trans z)⟩)] at evz
          refine zx_aload C d_Tue_copy_53 rfl ?_
          refine zx_aload C d_Tue_copy_55 rfl ?_
          refine zr_di (zr_V C l_Tue_239 d_Tue_copy_57 (As := [_]) rfl rfl (Nat.le_of_ble_eq_true rfl) (c_Sht_isLike G _ _ _ _ _ _ _ _ _ _ a ha b hb) (2 + a) (zcw_sh ha) rfl ⟨Nat.le_of_ble_eq_true rfl, Nat.le_of_ble_eq_true rfl, Nat.le_of_ble_eq_true rfl, Nat.le_of_ble_eq_true rfl⟩) ?_
          refine zx_ifB_ne C d_Tue_copy_60 (fun h60 => ?_) (fun h60 => ?_)
          · rw [if_neg (fun z => z (u1.symm.trans (h60.trans w1)))] at evz
            refine zx_aload C d_Tue_copy_69 rfl ?_
            refine zx_iload C d_Tue_copy_71 rfl ?_
            refine zx_iload C d_Tue_copy_72 rfl ?_
            refine zr_di (zr_V C l_Tue_229 d_Tue_copy_74 (As := [_, _]) rfl rfl (Nat.le_of_ble_eq_true rfl) (c_Sht_holds G _ _ _ _ _ _ _ _ _ _ a ha _ _) (2 + a) (zcw_sh ha) rfl ⟨Nat.le_of_ble_eq_true rfl, Nat.le_of_ble_eq_true rfl, Nat.le_of_ble_eq_true rfl, Nat.le_of_ble_eq_true rfl⟩) ?_
            refine zx_ifB_eq C d_Tue_copy_77 (fun h77 => ?_) (fun h77 => ?_)
            · have ev : ap_copy S (nI a) i (nI b) j n = (-13, sf S 3) := by
                rw [evz, if_pos]
                refine Or.inl (Classical.byContradiction fun z => h77 ?_)
                rw [u2]
                exact ⟨fun y => z (Or.inl y), fun y => z (Or.inr (Or.inl y)), fun y => z (Or.inr (Or.inr (Or.inl y))), fun y => z (Or.inr (Or.inr (Or.inr y)))⟩
              have hm2 := crp_0 hm 3
              refine zx_aload C d_Tue_copy_92 rfl ?_
              refine zx_ic C d_Tue_copy_93 ?_
              refine zr_di (zr_V C l_Tue_216 d_Tue_copy_94 (As := [_]) rfl rfl (Nat.le_of_ble_eq_true rfl) (c_Tue_faulty G _ _ _ _ _ _ _ _ _ _ _) 0 zcw_0 rfl ⟨Nat.le_of_ble_eq_true rfl, Nat.le_of_ble_eq_true rfl, Nat.le_of_ble_eq_true rfl, Nat.le_of_ble_eq_true rfl⟩) ?_
              exact zx_iret C hq d_Tue_copy_97 (by rw [ev]; exact cpi_i rfl hm2)
            · refine zx_aload C d_Tue_copy_80 rfl ?_
              refine zx_iload C d_Tue_copy_82 rfl ?_
              refine zx_iload C d_Tue_copy_84 rfl ?_
              refine zr_di (zr_V C l_Tue_229 d_Tue_copy_86 (As := [_, _]) rfl rfl (Nat.le_of_ble_eq_true rfl) (c_Sht_holds G _ _ _ _ _ _ _ _ _ _ b hb _ _) (2 + b) (zcw_sh hb) rfl ⟨Nat.le_of_ble_eq_true rfl, Nat.le_of_ble_eq_true rfl, Nat.le_of_ble_eq_true rfl, Nat.le_of_ble_eq_true rfl⟩) ?_
              refine zx_ifB_ne C d_Tue_copy_89 (fun h89 => ?_) (fun h89 => ?_)
              · have g1 := h77
                have g2 := h89
                rw [u2] at g1
                rw [w2] at g2
                rw [if_neg (nor_of ⟨fun z => z.elim g1.1 (fun z => z.elim g1.2.1 (fun z => z.elim g1.2.2.1 g1.2.2.2)), fun z => z.elim g2.1 (fun z => z.elim g2.2.2.1 g2.2.2.2)⟩)] at evz
                obtain ⟨x, m, rfl, rfl, hx⟩ := holds_get u2 qa.2.1 h77
                obtain ⟨y, m2, rfl, e3, hy⟩ := holds_get w2 qb.2.1 h89
                have hm2e : m = m2 := (nI_eq (by omega) (by omega)).mp e3
                subst hm2e
                rw [nI_cl (by omega), nI_cl (by omega), nI_cl (by omega)] at evz
                have ev := evz
                have hm2 := crp_c (ce := ccpy (ace S a) (ace S b) x y m) (r := va_cpy (RI a) (RI b) x y m) (crp_f hm 0) hb (fun c hc => by
                  by_cases e : y ≤ c ∧ c < y + m
                  · exact (if_pos e).trans ((p3a _ (by omega)).trans (if_pos e).symm)
                  · exact (if_neg e).trans ((p3b c hc).trans (if_neg e).symm))
                refine zx_aload C d_Tue_copy_98 rfl ?_
                refine zx_aload C d_Tue_copy_100 rfl ?_
                refine zx_iload C d_Tue_copy_102 rfl ?_
                refine zx_iload C d_Tue_copy_103 rfl ?_
                refine zx_iload C d_Tue_copy_105 rfl ?_
                refine zr_dv (zr_V C l_Tue_243 d_Tue_copy_107 (As := [_, _, _, _]) rfl rfl (Nat.le_of_ble_eq_true rfl) (c_Sht_takeFrom G _ _ _ _ _ _ _ _ _ _ b hb a ha x y m (asz S b) (asz S a) (by exact w2) (by exact u2) qb.2.1 qa.2.1 hx hy) (2 + b) (zcw_sh hb) rfl ⟨Nat.le_of_ble_eq_true rfl, Nat.le_of_ble_eq_true rfl, Nat.le_of_ble_eq_true rfl, Nat.le_of_ble_eq_true rfl⟩) ?_
                refine zx_iload C d_Tue_copy_110 rfl ?_
                exact zx_iret C hq d_Tue_copy_112 (by rw [ev]; exact cpi_i rfl hm2)
              · have ev : ap_copy S (nI a) i (nI b) j n = (-13, sf S 3) := by
                  rw [evz, if_pos]
                  refine Or.inr (Classical.byContradiction fun z => h89 ?_)
                  rw [w2]
                  exact ⟨fun y => z (Or.inl y), h77.2.1, fun y => z (Or.inr (Or.inl y)), fun y => z (Or.inr (Or.inr y))⟩
                have hm2 := crp_0 hm 3
                refine zx_aload C d_Tue_copy_92 rfl ?_
                refine zx_ic C d_Tue_copy_93 ?_
                refine zr_di (zr_V C l_Tue_216 d_Tue_copy_94 (As := [_]) rfl rfl (Nat.le_of_ble_eq_true rfl) (c_Tue_faulty G _ _ _ _ _ _ _ _ _ _ _) 0 zcw_0 rfl ⟨Nat.le_of_ble_eq_true rfl, Nat.le_of_ble_eq_true rfl, Nat.le_of_ble_eq_true rfl, Nat.le_of_ble_eq_true rfl⟩) ?_
                exact zx_iret C hq d_Tue_copy_97 (by rw [ev]; exact cpi_i rfl hm2)
          · rw [if_pos (fun z => h60 (u1.trans (z.trans w1.symm)))] at evz
            have ev := evz
            have hm2 := crp_0 hm 2
            refine zx_aload C d_Tue_copy_63 rfl ?_
            refine zx_ic C d_Tue_copy_64 ?_
            refine zr_di (zr_V C l_Tue_216 d_Tue_copy_65 (As := [_]) rfl rfl (Nat.le_of_ble_eq_true rfl) (c_Tue_faulty G _ _ _ _ _ _ _ _ _ _ _) 0 zcw_0 rfl ⟨Nat.le_of_ble_eq_true rfl, Nat.le_of_ble_eq_true rfl, Nat.le_of_ble_eq_true rfl, Nat.le_of_ble_eq_true rfl⟩) ?_
            exact zx_iret C hq d_Tue_copy_68 (by rw [ev]; exact cpi_i rfl hm2)
        · rw [if_pos (Or.inr (w1.symm.trans h44))] at evz
          have ev := evz
          have hm2 := crp_0 hm 1
          refine zx_aload C d_Tue_copy_47 rfl ?_
          refine zx_ic C d_Tue_copy_48 ?_
          refine zr_di (zr_V C l_Tue_216 d_Tue_copy_49 (As := [_]) rfl rfl (Nat.le_of_ble_eq_true rfl) (c_Tue_faulty G _ _ _ _ _ _ _ _ _ _ _) 0 zcw_0 rfl ⟨Nat.le_of_ble_eq_true rfl, Nat.le_of_ble_eq_true rfl, Nat.le_of_ble_eq_true rfl, Nat.le_of_ble_eq_true rfl⟩) ?_
          exact zx_iret C hq d_Tue_copy_52 (by rw [ev]; exact cpi_i rfl hm2)
    · have ev : ap_copy S k i k2 j n = (-1, sf S 0) := if_pos (Or.inr (shq_none h26))
      have hm2 := crp_f hm 0
      refine zx_ic C d_Tue_copy_29 ?_
      exact zx_iret C hq d_Tue_copy_30 (by rw [ev]; exact cpi_i rfl hm2)
set_option maxHeartbeats 600000 in
set_option maxRecDepth 20000 in
theorem c_Tue_day (G : ZG) (ad : Nat → Nat) (I : Nat → Int32) (L : Nat → Int64) (g : Option Nat) (QH QD : Nat → Option Nat) (RI : Nat → Nat → Int32) (RL : Nat → Nat → Int64) (X : va_W) (S : ZA) (hA dA : Nat → Nat) (hm : crp S hA dA I L QH QD RI RL) (v : Int32) : ZM G y_Tue_day b_Tue_day 2 (some .int) r_Tue_day [.ref (ad 0), .int v] (cw G ad I L g none QH QD RI RL ++ pw hA dA (aT S) X) (cpi G ad X (ap_day S v).1 (ap_day S v).2) := by
  refine ZM.of "SameTuesday" "day" rfl rfl (by decide) (Nat.le_of_ble_eq_true rfl) (fun Y C hq => ?_)
  change ZV G Y 0 0 0 [(0, .ref (ad 0)), (1, .int v)] [] (cw G ad I L g none QH QD RI RL ++ pw hA dA (aT S) X)
  refine zx_iload C d_Tue_day_0 rfl ?_
  refine zr_di (zr_S C l_Tue_157 d_Tue_day_1 (As := [_]) rfl rfl (Nat.le_of_ble_eq_true rfl) (c_Tue_isSet G _ _) ⟨Nat.le_of_ble_eq_true rfl, Nat.le_of_ble_eq_true rfl, Nat.le_of_ble_eq_true rfl, Nat.le_of_ble_eq_true rfl⟩) ?_
  refine zx_ifB_ne C d_Tue_day_4 (fun h4 => ?_) (fun h4 => ?_)
  · refine zx_aload C d_Tue_day_10 rfl ?_
    refine zx_get C f_Tue_21_11 d_Tue_day_11 0 zcw_0 rfl ?_
    refine zr_di (zr_V C l_Tue_125 d_Tue_day_14 (As := []) rfl rfl (Nat.le_of_ble_eq_true rfl) (c_Twn_isTold G _ _ _ _ _ _ _ _ _ _ (aT S).1 hm.2.2.2.2.2.2.1.1 hm.1.2.1.1) 10 zcw_10 rfl ⟨Nat.le_of_ble_eq_true rfl, Nat.le_of_ble_eq_true rfl, Nat.le_of_ble_eq_true rfl, Nat.le_of_ble_eq_true rfl⟩) ?_
    refine zx_ifB_ne C d_Tue_day_17 (fun h17 => ?_) (fun h17 => ?_)
    · refine zx_aload C d_Tue_day_23 rfl ?_
      refine zx_get C f_Tue_44_11 d_Tue_day_24 0 zcw_0 rfl ?_
      refine zr_di (zr_V C l_Tue_175 d_Tue_day_27 (As := []) rfl rfl (Nat.le_of_ble_eq_true rfl) (c_Law_isFull G _ _ _ _ _ _ _ _ _ _) 20 zcw_20 rfl ⟨Nat.le_of_ble_eq_true rfl, Nat.le_of_ble_eq_true rfl, Nat.le_of_ble_eq_true rfl, Nat.le_of_ble_eq_true rfl⟩) ?_
      refine zx_ifB_eq C d_Tue_day_30 (fun h30 => ?_) (fun h30 => ?_)
      · have h30 : I 18 < 8 := Classical.byContradiction h30
        rw [hm.2.2.2.2.1] at h30
        have e8 : and8 S < 8 := (nI_ltI (b := 8) (by have := hm.1.2.2.2.1; omega) (by decide)).mp h30
        obtain ⟨x, hx, rfl⟩ := ix_le (n := 63) (by decide) h4.1 h4.2
        have ev : ap_day S (nI x) = (nI (and8 S), sD S (and8 S + 1) (dput (ady S) (and8 S) x)) := by rw [ap_day, if_neg (nor_of h4), if_neg h17, if_neg (by omega), nI_cl (by omega)]
        have hm2 := crp_D (n := and8 S + 1) (d := dput (ady S) (and8 S) x) (r := upd (RI 6) (and8 S) (nI x)) hm (by omega) (fun j hj => by
          by_cases e : j = and8 S
          · subst e; rw [upd_eq, show dput (ady S) (and8 S) x (and8 S) = x from if_pos rfl]; exact ⟨by omega, rfl⟩
          · rw [upd_ne _ _ e, show dput (ady S) (and8 S) x j = ady S j from if_neg e]; exact ⟨hm.1.2.2.2.2 j (by omega), hm.2.2.2.2.2.1 j (by omega)⟩)
        refine zx_aload C d_Tue_day_36 rfl ?_
        refine zx_get C f_Tue_44_11 d_Tue_day_37 0 zcw_0 rfl ?_
        refine zx_iload C d_Tue_day_40 rfl ?_
        refine zr_dv (zr_V C l_Tue_178 d_Tue_day_41 (As := [_]) rfl rfl (Nat.le_of_ble_eq_true rfl) (c_Law_addDay G _ _ _ _ _ _ _ _ _ _ (and8 S) hm.2.2.2.2.1 (by omega) _) 20 zcw_20 rfl ⟨Nat.le_of_ble_eq_true rfl, Nat.le_of_ble_eq_true rfl, Nat.le_of_ble_eq_true rfl, Nat.le_of_ble_eq_true rfl⟩) ?_
        refine zx_aload C d_Tue_day_44 rfl ?_
        refine zx_get C f_Tue_44_11 d_Tue_day_45 0 zcw_0 rfl ?_
        refine zr_di (zr_V C l_Tue_80 d_Tue_day_48 (As := []) rfl rfl (Nat.le_of_ble_eq_true rfl) (c_Law_dayCount G _ _ _ _ _ _ _ _ _ _) 20 zcw_20 rfl ⟨Nat.le_of_ble_eq_true rfl, Nat.le_of_ble_eq_true rfl, Nat.le_of_ble_eq_true rfl, Nat.le_of_ble_eq_true rfl⟩) ?_
        refine zx_ic C d_Tue_day_51 ?_
        refine zx_isub C d_Tue_day_52 ?_
        exact zx_iret C hq d_Tue_day_53 (by rw [ev]; exact cpi_i (show nI (and8 S + 1) - 1 = nI (and8 S) by rw [show (1 : Int32) = nI 1 from rfl, pk_sub (by omega)]; rfl) hm2)
      · have h8 := hm.1.2.2.2.1
        have e8 : and8 S = 8 := Classical.byContradiction fun z => h30 (by rw [hm.2.2.2.2.1]; exact (nI_ltI (b := 8) (by omega) (by decide)).mpr (by omega))
        have ev : ap_day S v = (-4, S) := by rw [ap_day, if_neg (nor_of h4), if_neg h17, if_pos e8]
        have hm2 := hm
        refine zx_ic C d_Tue_day_33 ?_
        exact zx_iret C hq d_Tue_day_35 (by rw [ev]; exact cpi_i rfl hm2)
    · have ev : ap_day S v = (-3, S) := by rw [ap_day, if_neg (nor_of h4), if_pos (Classical.byContradiction h17)]
      have hm2 := hm
      refine zx_ic C d_Tue_day_20 ?_
      exact zx_iret C hq d_Tue_day_22 (by rw [ev]; exact cpi_i rfl hm2)
  · have ev : ap_day S v = (-2, S) := if_pos (nand_or h4)
    have hm2 := hm
    refine zx_ic C d_Tue_day_7 ?_
    exact zx_iret C hq d_Tue_day_9 (by rw [ev]; exact cpi_i rfl hm2)
set_option maxHeartbeats 600000 in
set_option maxRecDepth 20000 in
theorem c_Tue_forget (G : ZG) (ad : Nat → Nat) (I : Nat → Int32) (L : Nat → Int64) (g : Option Nat) (QH QD : Nat → Option Nat) (RI : Nat → Nat → Int32) (RL : Nat → Nat → Int64) (X : va_W) (S : ZA) (hA dA : Nat → Nat) (hm : crp S hA dA I L QH QD RI RL) (k : Int32) : ZM G y_Tue_forget b_Tue_forget 2 (some .int) r_Tue_forget [.ref (ad 0), .int k] (cw G ad I L g none QH QD RI RL ++ pw hA dA (aT S) X) (cpi G ad X (ap_forget S k).1 (ap_forget S k).2) := by
  refine ZM.of "SameTuesday" "forget" rfl rfl (by decide) (Nat.le_of_ble_eq_true rfl) (fun Y C hq => ?_)
  change ZV G Y 0 0 0 [(0, .ref (ad 0)), (1, .int k)] [] (cw G ad I L g none QH QD RI RL ++ pw hA dA (aT S) X)
  refine zx_iload C d_Tue_forget_0 rfl ?_
  refine zx_if_lt C d_Tue_forget_1 (fun h1 => ?_) (fun h1 => ?_)
  · have ev : ap_forget S k = (-2, S) := if_pos (Or.inl h1)
    have hm2 := hm
    refine zx_ic C d_Tue_forget_15 ?_
    exact zx_iret C hq d_Tue_forget_17 (by rw [ev]; exact cpi_i rfl hm2)
  · refine zx_iload C d_Tue_forget_4 rfl ?_
    refine zx_aload C d_Tue_forget_5 rfl ?_
    refine zx_get C f_Tue_44_11 d_Tue_forget_6 0 zcw_0 rfl ?_
    refine zr_di (zr_V C l_Tue_80 d_Tue_forget_9 (As := []) rfl rfl (Nat.le_of_ble_eq_true rfl) (c_Law_dayCount G _ _ _ _ _ _ _ _ _ _) 20 zcw_20 rfl ⟨Nat.le_of_ble_eq_true rfl, Nat.le_of_ble_eq_true rfl, Nat.le_of_ble_eq_true rfl, Nat.le_of_ble_eq_true rfl⟩) ?_
    refine zx_ic_le C d_Tue_forget_12 (fun h12 => ?_) (fun h12 => ?_)
    · have h8 := hm.1.2.2.2.1
      have h12b : ¬ nI (and8 S) < k := by rw [← hm.2.2.2.2.1]; exact Int32.not_lt.mpr h12
      obtain ⟨x, hx, rfl⟩ := ix_le (n := and8 S) (by omega) h1 h12b
      have ev : ap_forget S (nI x) = (nI (and8 S - x), sD S (and8 S - x) (ady S)) := by rw [ap_forget, if_neg (nor_of ⟨h1, h12b⟩), nI_cl (by omega)]
      have e1 : (if 0 < I 18 - nI x then I 18 - nI x else 0) = nI (and8 S - x) := by
        rw [hm.2.2.2.2.1, pk_sub hx]
        by_cases z : (0 : Int32) < nI (and8 S - x)
        · exact if_pos z
        · rw [if_neg z]
          have : ¬ 0 < and8 S - x := fun y => z ((nI_ltI (a := 0) (by omega) (by omega)).mpr y)
          rw [show and8 S - x = 0 by omega]
          rfl
      have hm2 := crp_D (n := and8 S - x) (d := ady S) (r := RI 6) hm (by omega) (fun j hj => ⟨hm.1.2.2.2.2 j (by omega), hm.2.2.2.2.2.1 j (by omega)⟩)
      rw [show ur RI 6 (RI 6) = RI from ur_self RI 6] at hm2
      refine zx_aload C d_Tue_forget_18 rfl ?_
      refine zx_get C f_Tue_44_11 d_Tue_forget_19 0 zcw_0 rfl ?_
      refine zx_iload C d_Tue_forget_22 rfl ?_
      refine zr_dv (zr_V C l_Tue_83 d_Tue_forget_23 (As := [_]) rfl rfl (Nat.le_of_ble_eq_true rfl) (c_Law_dropLast G _ _ _ _ _ _ _ _ _ _ _) 20 zcw_20 rfl ⟨Nat.le_of_ble_eq_true rfl, Nat.le_of_ble_eq_true rfl, Nat.le_of_ble_eq_true rfl, Nat.le_of_ble_eq_true rfl⟩) ?_
      rw [e1]
      refine zx_aload C d_Tue_forget_26 rfl ?_
      refine zx_get C f_Tue_44_11 d_Tue_forget_27 0 zcw_0 rfl ?_
      refine zr_di (zr_V C l_Tue_80 d_Tue_forget_30 (As := []) rfl rfl (Nat.le_of_ble_eq_true rfl) (c_Law_dayCount G _ _ _ _ _ _ _ _ _ _) 20 zcw_20 rfl ⟨Nat.le_of_ble_eq_true rfl, Nat.le_of_ble_eq_true rfl, Nat.le_of_ble_eq_true rfl, Nat.le_of_ble_eq_true rfl⟩) ?_
      exact zx_iret C hq d_Tue_forget_33 (by rw [ev]; exact cpi_i rfl hm2)
    · have ev : ap_forget S k = (-2, S) := if_pos (Or.inr (by rw [← hm.2.2.2.2.1]; exact Int32.not_le.mp h12))
      have hm2 := hm
      refine zx_ic C d_Tue_forget_15 ?_
      exact zx_iret C hq d_Tue_forget_17 (by rw [ev]; exact cpi_i rfl hm2)
set_option maxHeartbeats 600000 in
set_option maxRecDepth 20000 in
theorem c_Tue_trace (G : ZG) (ad : Nat → Nat) (I : Nat → Int32) (L : Nat → Int64) (g : Option Nat) (QH QD : Nat → Option Nat) (RI : Nat → Nat → Int32) (RL : Nat → Nat → Int64) (X : va_W) (S : ZA) (hA dA : Nat → Nat) (hm : crp S hA dA I L QH QD RI RL)  : ZM G y_Tue_trace b_Tue_trace 1 (some .int) r_Tue_trace [.ref (ad 0)] (cw G ad I L g none QH QD RI RL ++ pw hA dA (aT S) X) (cpi G ad X (atr S) S) := by
  refine ZM.of "SameTuesday" "trace" rfl rfl (by decide) (Nat.le_of_ble_eq_true rfl) (fun Y C hq => ?_)
  change ZV G Y 0 0 0 [(0, .ref (ad 0))] [] (cw G ad I L g none QH QD RI RL ++ pw hA dA (aT S) X)
  refine zx_aload C d_Tue_trace_0 rfl ?_
  refine zx_get C f_Tue_51_11 d_Tue_trace_1 0 zcw_0 rfl ?_
  refine zr_di (zr_V C l_Tue_254 d_Tue_trace_4 (As := []) rfl rfl (Nat.le_of_ble_eq_true rfl) (c_Trc_value G _ _ _ _ _ _ _ _ _ _) 22 zcw_22 rfl ⟨Nat.le_of_ble_eq_true rfl, Nat.le_of_ble_eq_true rfl, Nat.le_of_ble_eq_true rfl, Nat.le_of_ble_eq_true rfl⟩) ?_
  exact zx_iret C hq d_Tue_trace_7 (cpi_i hm.2.2.1 hm)
