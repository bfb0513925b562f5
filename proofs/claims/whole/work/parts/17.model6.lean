set_option maxHeartbeats 4000000 in
set_option maxRecDepth 20000 in
theorem c_Mod_live (G : ZG) (o : Nat) (ad : Nat → Nat) (F : Nat → Int32) (R : Nat → Nat → Int32) (X : va_W) (S : ZA) (hm : mrp S F R) (sh l i n what : Int32) : ZM G y_Mod_live b_Mod_live 9 (some .int) r_Mod_live [.ref o, .int sh, .int l, .int i, .int n, .int what] (mw G o ad F R ++ X) (mpost G o ad X (ap_live S sh l i n what).1 (ap_live S sh l i n what).2) := by
  refine ZM.of "SameTuesdayModel" "live" rfl rfl (by decide) (Nat.le_of_ble_eq_true rfl) (fun Y C hq => ?_)
  change ZV G Y 0 0 0 [(0, .ref o), (1, .int sh), (2, .int l), (3, .int i), (4, .int n), (5, .int what)] [] (mw G o ad F R ++ X)
  refine zx_aload C d_Mod_live_0 rfl ?_
  refine zx_ic C d_Mod_live_1 ?_
  refine zm_p C p_Mod_78_12 d_Mod_live_2 zb_fit_i (Nat.le_of_ble_eq_true rfl) zms_0 ?_
  refine zx_iload C d_Mod_live_5 rfl ?_
  refine zr_di (zr_S C l_Mod_96 d_Mod_live_6 (As := [_]) rfl rfl (Nat.le_of_ble_eq_true rfl) (c_Mod_isSheet G _ _) ⟨Nat.le_of_ble_eq_true rfl, Nat.le_of_ble_eq_true rfl, Nat.le_of_ble_eq_true rfl, Nat.le_of_ble_eq_true rfl⟩) ?_
  refine zx_ifB_ne C d_Mod_live_9 (fun h9 => ?_) (fun h9 => ?_)
  · refine zx_iload C d_Mod_live_14 rfl ?_
    refine zx_iload C d_Mod_live_15 rfl ?_
    refine zr_di (zr_S C l_Mod_175 d_Mod_live_17 (As := [_, _]) rfl rfl (Nat.le_of_ble_eq_true rfl) (c_Mod_arePairs G _ _ _) ⟨Nat.le_of_ble_eq_true rfl, Nat.le_of_ble_eq_true rfl, Nat.le_of_ble_eq_true rfl, Nat.le_of_ble_eq_true rfl⟩) ?_
    refine zx_ifB_eq C d_Mod_live_20 (fun h20 => ?_) (fun h20 => ?_)
    · have ev : ap_live S sh l i n what = (-2, sf S 0) := apT_bad (trow_2 h9 (Or.inl (nand4 h20))) (by decide)
      have hm2 := mrp_f hm 0
      refine zx_ic C d_Mod_live_33 ?_
      exact zx_iret C hq d_Mod_live_35 (by rw [ev]; exact mpost_i rfl hm2)
    · refine zx_iload C d_Mod_live_23 rfl ?_
      refine zx_ic C d_Mod_live_25 ?_
      refine zx_ic C d_Mod_live_26 ?_
      refine zr_di (zr_S C l_Mod_83 d_Mod_live_27 (As := [_, _, _]) rfl rfl (Nat.le_of_ble_eq_true rfl) (c_Mod_within G _ _ _ _) ⟨Nat.le_of_ble_eq_true rfl, Nat.le_of_ble_eq_true rfl, Nat.le_of_ble_eq_true rfl, Nat.le_of_ble_eq_true rfl⟩) ?_
      refine zx_ifB_ne C d_Mod_live_30 (fun h30 => ?_) (fun h30 => ?_)
      · obtain ⟨k, hk, rfl⟩ := ix_le (n := 3) (by decide) h9.1 h9.2
        obtain ⟨nn, hnn, rfl⟩ := ix_le (n := 20) (by decide) h20.2.1 h20.2.2
        have etr := trow_3 (S := S) (l := l) (i := i) (fits := (¬ what < 0 ∧ ¬ 1 < what)) hk hnn h9 h20 h30
        refine zx_aload C d_Mod_live_36 rfl ?_
        refine zx_iload C d_Mod_live_37 rfl ?_
        refine zx_iload C d_Mod_live_38 rfl ?_
        refine zx_iload C d_Mod_live_39 rfl ?_
        refine zx_iload C d_Mod_live_40 rfl ?_
        refine zr_i (zr_V C l_Mod_178 d_Mod_live_42 (As := [_, _, _, _]) rfl rfl (Nat.le_of_ble_eq_true rfl) (c_Mod_layRow G _ _ _ _ _ (sf S 0) (by exact mrp_f hm 0) k nn (by omega) hnn l i) 0 rfl rfl ⟨Nat.le_of_ble_eq_true rfl, Nat.le_of_ble_eq_true rfl, Nat.le_of_ble_eq_true rfl, Nat.le_of_ble_eq_true rfl⟩) (fun r w1 hp => ?_)
        obtain ⟨rfl, F1, R1, rfl, hm1, hpr⟩ := hp
        refine zx_istore C d_Mod_live_45 (by decide) (lv1 := [(6, _), (0, _), (1, _), (2, _), (3, _), (4, _), (5, _)]) rfl ?_
        refine zx_iload C d_Mod_live_47 rfl ?_
        refine zx_if_eq C d_Mod_live_49 (fun h49 => ?_) (fun h49 => ?_)
        · obtain ⟨g1, g2, g3, g4⟩ := lrow_0 h49
          rw [g3] at hm1
          have hm1 : mrp (sf S 0) F1 R1 := hm1
          have hp1 : prow (aT S) (rowP S k i.toNatClampNeg nn) F1 R1 := hpr h49
          have ev0 : ap_live S (nI k) l i (nI nn) what = _ := apT_go etr h49
          rw [apR_n hk hnn] at ev0
          have ht := mrp_tok hm
          rw [h49]
          refine zx_aload C d_Mod_live_55 rfl ?_
          refine zx_ic C d_Mod_live_56 ?_
          refine zr_di (zr_V C l_Mod_181 d_Mod_live_57 (As := [_]) rfl rfl (Nat.le_of_ble_eq_true rfl) (c_Mod_ends G _ _ _ _ _ (aT S) (by exact hm1.2.2.2.2.1) (rowP S k i.toNatClampNeg nn) (by exact hp1) none (by exact hm1.2.2.2.2.2.1) (by intro q hq; cases hq) 0 (by decide)) 0 rfl rfl ⟨Nat.le_of_ble_eq_true rfl, Nat.le_of_ble_eq_true rfl, Nat.le_of_ble_eq_true rfl, Nat.le_of_ble_eq_true rfl⟩) ?_
          refine zx_istore C d_Mod_live_60 (by decide) (lv1 := [(7, _), (6, _), (0, _), (1, _), (2, _), (3, _), (4, _), (5, _)]) rfl ?_
          refine zx_iload C d_Mod_live_62 rfl ?_
          refine zx_ic C d_Mod_live_64 ?_
          refine zx_ic_ne C d_Mod_live_65 (fun h65 => ?_) (fun h65 => ?_)
          · rw [if_neg h65] at ev0
            rw [nI_cl (by omega)] at ev0
            have hm2 : mrp (sf S 0) (upd F1 27 0) (ur R1 24 (wrow nn (run (aT S) (rowP S k i.toNatClampNeg nn) 0 none (aT S).2.2.1).2.2.2 (R1 24))) := hm1
            have e21 : F1 21 = nI nn := hp1.2.1
            have loop : ∀ n p, p + n = nn → ffw (run (aT S) (rowP S k i.toNatClampNeg nn) 0 none (aT S).2.2.1).2.2.2 n p = ffw (run (aT S) (rowP S k i.toNatClampNeg nn) 0 none (aT S).2.2.1).2.2.2 nn 0 → ZV G Y 0 0 74 [(0, .ref o), (1, .int (nI k)), (2, .int l), (3, .int i), (4, .int (nI nn)), (5, .int what), (6, .int 0), (7, .int (nI (run (aT S) (rowP S k i.toNatClampNeg nn) 0 none (aT S).2.2.1).1)), (8, .int (nI p))] [] (mw G o ad (upd F1 27 0) (ur R1 24 (wrow nn (run (aT S) (rowP S k i.toNatClampNeg nn) 0 none (aT S).2.2.1).2.2.2 (R1 24))) ++ X) := by
              intro n
              induction n with
              | zero =>
                intro p hpn hf
                refine zx_iload C d_Mod_live_74 rfl ?_
                refine zx_aload C d_Mod_live_76 rfl ?_
                refine zm_g C f_Mod_149_12 d_Mod_live_77 rfl ?_
                refine zx_ic_ge C d_Mod_live_80 (fun h80 => ?_) (fun h80 => ?_)
                · refine zx_ic C d_Mod_live_102 ?_
                  exact zx_iret C hq d_Mod_live_104 (by rw [ev0, ← hf]; exact mpost_i rfl hm2)
                · exact absurd (by show F1 21 ≤ nI p; rw [e21]; exact nI_le (by omega) (by omega)) h80
              | succ n ih =>
                intro p hpn hf
                have cw : wrow nn (run (aT S) (rowP S k i.toNatClampNeg nn) 0 none (aT S).2.2.1).2.2.2 (R1 24) p = if (run (aT S) (rowP S k i.toNatClampNeg nn) 0 none (aT S).2.2.1).2.2.2 p = true then 0 else 1 := wrow_at (by omega) _ _
                rw [ffw] at hf
                refine zx_iload C d_Mod_live_74 rfl ?_
                refine zx_aload C d_Mod_live_76 rfl ?_
                refine zm_g C f_Mod_149_12 d_Mod_live_77 rfl ?_
                refine zx_ic_ge C d_Mod_live_80 (fun h80 => ?_) (fun h80 => ?_)
                · exact absurd h80 (by show ¬ F1 21 ≤ nI p; rw [e21]; exact nI_ge (by omega) (by omega))
                · refine zx_aload C d_Mod_live_83 rfl ?_
                  refine zm_g C f_Mod_55_12 d_Mod_live_84 rfl ?_
                  refine zx_iload C d_Mod_live_87 rfl ?_
                  refine zm_zld24 C d_Mod_live_89 p rfl (by omega) ?_
                  refine zx_eq rfl (st1 := [.int (if (run (aT S) (rowP S k i.toNatClampNeg nn) 0 none (aT S).2.2.1).2.2.2 p = true then 0 else 1)]) (by rw [← cw]; rfl) rfl ?_
                  refine zx_if_eq C d_Mod_live_90 (fun h90 => ?_) (fun h90 => ?_)
                  · have hy : (run (aT S) (rowP S k i.toNatClampNeg nn) 0 none (aT S).2.2.1).2.2.2 p = true := Classical.byContradiction fun z => by rw [if_neg z] at h90; exact absurd h90 (by decide)
                    rw [if_pos hy] at hf
                    refine zx_iinc C d_Mod_live_96 (by decide) rfl (lv1 := [(8, _), (0, _), (1, _), (2, _), (3, _), (4, _), (5, _), (6, _), (7, _)]) rfl ?_
                    refine zx_goto C d_Mod_live_99 ?_
                    have k1 := ih (p + 1) (by omega) hf
                    rw [nI_succ p] at k1
                    exact zx_lv [0, 1, 2, 3, 4, 5, 6, 7, 8] rfl k1
                  · have hy : ¬ (run (aT S) (rowP S k i.toNatClampNeg nn) 0 none (aT S).2.2.1).2.2.2 p = true := fun z => h90 (by rw [if_pos z])
                    rw [if_neg hy] at hf
                    refine zx_iload C d_Mod_live_93 rfl ?_
                    exact zx_iret C hq d_Mod_live_95 (by rw [ev0, ← hf]; exact mpost_i rfl hm2)
            refine zx_ic C d_Mod_live_71 ?_
            refine zx_istore C d_Mod_live_72 (by decide) (lv1 := [(8, _), (7, _), (6, _), (0, _), (1, _), (2, _), (3, _), (4, _), (5, _)]) rfl ?_
            exact zx_lv [0, 1, 2, 3, 4, 5, 6, 7, 8] rfl (loop nn 0 (by omega) rfl)
          · rw [if_pos h65] at ev0
            have ev := ev0
            have hm2 : mrp (sf S 0) (upd F1 27 0) (ur R1 24 (wrow nn (run (aT S) (rowP S k i.toNatClampNeg nn) 0 none (aT S).2.2.1).2.2.2 (R1 24))) := hm1
            refine zx_iload C d_Mod_live_68 rfl ?_
            exact zx_iret C hq d_Mod_live_70 (by rw [ev]; exact mpost_i rfl hm2)
        · have ev : ap_live S (nI k) l i (nI nn) what = _ := apT_ne etr h49
          have hm2 := hm1
          refine zx_iload C d_Mod_live_52 rfl ?_
          exact zx_iret C hq d_Mod_live_54 (by rw [ev]; exact mpost_i rfl hm2)
      · have ev : ap_live S sh l i n what = (-2, sf S 0) := apT_bad (trow_2 h9 (Or.inr h30)) (by decide)
        have hm2 := mrp_f hm 0
        refine zx_ic C d_Mod_live_33 ?_
        exact zx_iret C hq d_Mod_live_35 (by rw [ev]; exact mpost_i rfl hm2)
  · have ev : ap_live S sh l i n what = (-1, sf S 0) := apT_bad (trow_1 (nand_or h9)) (by decide)
    have hm2 := mrp_f hm 0
    refine zx_ic C d_Mod_live_12 ?_
    exact zx_iret C hq d_Mod_live_13 (by rw [ev]; exact mpost_i rfl hm2)
set_option maxHeartbeats 4000000 in
set_option maxRecDepth 20000 in
theorem c_Mod_at (G : ZG) (o : Nat) (ad : Nat → Nat) (F : Nat → Int32) (R : Nat → Nat → Int32) (X : va_W) (S : ZA) (hm : mrp S F R) (m sh l i n : Int32) : ZM G y_Mod_at b_Mod_at 7 (some .int) r_Mod_at [.ref o, .int m, .int sh, .int l, .int i, .int n] (mw G o ad F R ++ X) (mpost G o ad X (ap_at S m sh l i n).1 (ap_at S m sh l i n).2) := by
  refine ZM.of "SameTuesdayModel" "at" rfl rfl (by decide) (Nat.le_of_ble_eq_true rfl) (fun Y C hq => ?_)
  change ZV G Y 0 0 0 [(0, .ref o), (1, .int m), (2, .int sh), (3, .int l), (4, .int i), (5, .int n)] [] (mw G o ad F R ++ X)
  refine zx_aload C d_Mod_at_0 rfl ?_
  refine zx_ic C d_Mod_at_1 ?_
  refine zm_p C p_Mod_78_12 d_Mod_at_2 zb_fit_i (Nat.le_of_ble_eq_true rfl) zms_0 ?_
  refine zx_iload C d_Mod_at_5 rfl ?_
  refine zr_di (zr_S C l_Mod_96 d_Mod_at_6 (As := [_]) rfl rfl (Nat.le_of_ble_eq_true rfl) (c_Mod_isSheet G _ _) ⟨Nat.le_of_ble_eq_true rfl, Nat.le_of_ble_eq_true rfl, Nat.le_of_ble_eq_true rfl, Nat.le_of_ble_eq_true rfl⟩) ?_
  refine zx_ifB_ne C d_Mod_at_9 (fun h9 => ?_) (fun h9 => ?_)
  · refine zx_iload C d_Mod_at_14 rfl ?_
    refine zx_iload C d_Mod_at_15 rfl ?_
    refine zr_di (zr_S C l_Mod_175 d_Mod_at_17 (As := [_, _]) rfl rfl (Nat.le_of_ble_eq_true rfl) (c_Mod_arePairs G _ _ _) ⟨Nat.le_of_ble_eq_true rfl, Nat.le_of_ble_eq_true rfl, Nat.le_of_ble_eq_true rfl, Nat.le_of_ble_eq_true rfl⟩) ?_
    refine zx_ifB_eq C d_Mod_at_20 (fun h20 => ?_) (fun h20 => ?_)
    · have ev : ap_at S m sh l i n = (-2, sf S 0) := apT_bad (trow_2 h9 (Or.inl (nand4 h20))) (by decide)
      have hm2 := mrp_f hm 0
      refine zx_ic C d_Mod_at_33 ?_
      exact zx_iret C hq d_Mod_at_35 (by rw [ev]; exact mpost_i rfl hm2)
    · refine zx_iload C d_Mod_at_23 rfl ?_
      refine zx_ic C d_Mod_at_24 ?_
      refine zx_ic C d_Mod_at_25 ?_
      refine zr_di (zr_S C l_Mod_83 d_Mod_at_27 (As := [_, _, _]) rfl rfl (Nat.le_of_ble_eq_true rfl) (c_Mod_within G _ _ _ _) ⟨Nat.le_of_ble_eq_true rfl, Nat.le_of_ble_eq_true rfl, Nat.le_of_ble_eq_true rfl, Nat.le_of_ble_eq_true rfl⟩) ?_
      refine zx_ifB_ne C d_Mod_at_30 (fun h30 => ?_) (fun h30 => ?_)
      · obtain ⟨k, hk, rfl⟩ := ix_le (n := 3) (by decide) h9.1 h9.2
        obtain ⟨nn, hnn, rfl⟩ := ix_le (n := 20) (by decide) h20.2.1 h20.2.2
        have etr := trow_3 (S := S) (l := l) (i := i) (fits := (¬ m < 0 ∧ ¬ 59 < m)) hk hnn h9 h20 h30
        obtain ⟨x, hx, rfl⟩ := ix_le (n := 59) (by decide) h30.1 h30.2
        refine zx_aload C d_Mod_at_36 rfl ?_
        refine zx_iload C d_Mod_at_37 rfl ?_
        refine zx_iload C d_Mod_at_38 rfl ?_
        refine zx_iload C d_Mod_at_39 rfl ?_
        refine zx_iload C d_Mod_at_41 rfl ?_
        refine zr_i (zr_V C l_Mod_178 d_Mod_at_43 (As := [_, _, _, _]) rfl rfl (Nat.le_of_ble_eq_true rfl) (c_Mod_layRow G _ _ _ _ _ (sf S 0) (by exact mrp_f hm 0) k nn (by omega) hnn l i) 0 rfl rfl ⟨Nat.le_of_ble_eq_true rfl, Nat.le_of_ble_eq_true rfl, Nat.le_of_ble_eq_true rfl, Nat.le_of_ble_eq_true rfl⟩) (fun r w1 hp => ?_)
        obtain ⟨rfl, F1, R1, rfl, hm1, hpr⟩ := hp
        refine zx_istore C d_Mod_at_46 (by decide) (lv1 := [(6, _), (0, _), (1, _), (2, _), (3, _), (4, _), (5, _)]) rfl ?_
        refine zx_iload C d_Mod_at_48 rfl ?_
        refine zx_if_ne C d_Mod_at_50 (fun h50 => ?_) (fun h50 => ?_)
        · have ev : ap_at S (nI x) (nI k) l i (nI nn) = _ := apT_ne etr h50
          have hm2 := hm1
          refine zx_iload C d_Mod_at_62 rfl ?_
          exact zx_iret C hq d_Mod_at_64 (by rw [ev]; exact mpost_i rfl hm2)
        · obtain ⟨g1, g2, g3, g4⟩ := lrow_0 h50
          rw [g3] at hm1
          have hm1 : mrp (sf S 0) F1 R1 := hm1
          have hp1 : prow (aT S) (rowP S k i.toNatClampNeg nn) F1 R1 := hpr h50
          have ev0 : ap_at S (nI x) (nI k) l i (nI nn) = _ := apT_go etr h50
          rw [apR_n hk hnn] at ev0
          have ht := mrp_tok hm
          rw [nI_cl (by omega)] at ev0
          have ev := ev0
          have hm2 := hm1
          refine zx_aload C d_Mod_at_53 rfl ?_
          refine zx_iload C d_Mod_at_54 rfl ?_
          refine zx_ic C d_Mod_at_55 ?_
          refine zr_di (zr_V C l_Mod_172 d_Mod_at_56 (As := [_, _]) rfl rfl (Nat.le_of_ble_eq_true rfl) (c_Mod_goTo G _ _ _ _ _ (aT S) (by exact hm1.2.2.2.2.1) (rowP S k i.toNatClampNeg nn) (by exact hp1) none (by exact hm1.2.2.2.2.2.1) (by intro q hq; cases hq) x 0 (by omega) (by decide)) 0 rfl rfl ⟨Nat.le_of_ble_eq_true rfl, Nat.le_of_ble_eq_true rfl, Nat.le_of_ble_eq_true rfl, Nat.le_of_ble_eq_true rfl⟩) ?_
          refine zx_goto C d_Mod_at_59 ?_
          exact zx_iret C hq d_Mod_at_64 (by rw [ev]; exact mpost_i rfl hm2)
      · have ev : ap_at S m sh l i n = (-2, sf S 0) := apT_bad (trow_2 h9 (Or.inr h30)) (by decide)
        have hm2 := mrp_f hm 0
        refine zx_ic C d_Mod_at_33 ?_
        exact zx_iret C hq d_Mod_at_35 (by rw [ev]; exact mpost_i rfl hm2)
  · have ev : ap_at S m sh l i n = (-1, sf S 0) := apT_bad (trow_1 (nand_or h9)) (by decide)
    have hm2 := mrp_f hm 0
    refine zx_ic C d_Mod_at_12 ?_
    exact zx_iret C hq d_Mod_at_13 (by rw [ev]; exact mpost_i rfl hm2)
set_option maxHeartbeats 4000000 in
set_option maxRecDepth 20000 in
theorem c_Mod_hangs (G : ZG) (o : Nat) (ad : Nat → Nat) (F : Nat → Int32) (R : Nat → Nat → Int32) (X : va_W) (S : ZA) (hm : mrp S F R) (sh l i n : Int32) : ZM G y_Mod_hangs b_Mod_hangs 9 (some .int) r_Mod_hangs [.ref o, .int sh, .int l, .int i, .int n] (mw G o ad F R ++ X) (mpost G o ad X (ap_hangs S sh l i n).1 (ap_hangs S sh l i n).2) := by
  refine ZM.of "SameTuesdayModel" "hangs" rfl rfl (by decide) (Nat.le_of_ble_eq_true rfl) (fun Y C hq => ?_)
  change ZV G Y 0 0 0 [(0, .ref o), (1, .int sh), (2, .int l), (3, .int i), (4, .int n)] [] (mw G o ad F R ++ X)
  refine zx_aload C d_Mod_hangs_0 rfl ?_
  refine zx_ic C d_Mod_hangs_1 ?_
  refine zm_p C p_Mod_78_12 d_Mod_hangs_2 zb_fit_i (Nat.le_of_ble_eq_true rfl) zms_0 ?_
  refine zx_iload C d_Mod_hangs_5 rfl ?_
  refine zr_di (zr_S C l_Mod_96 d_Mod_hangs_6 (As := [_]) rfl rfl (Nat.le_of_ble_eq_true rfl) (c_Mod_isSheet G _ _) ⟨Nat.le_of_ble_eq_true rfl, Nat.le_of_ble_eq_true rfl, Nat.le_of_ble_eq_true rfl, Nat.le_of_ble_eq_true rfl⟩) ?_
  refine zx_ifB_ne C d_Mod_hangs_9 (fun h9 => ?_) (fun h9 => ?_)
  · refine zx_iload C d_Mod_hangs_14 rfl ?_
    refine zx_iload C d_Mod_hangs_15 rfl ?_
    refine zr_di (zr_S C l_Mod_175 d_Mod_hangs_17 (As := [_, _]) rfl rfl (Nat.le_of_ble_eq_true rfl) (c_Mod_arePairs G _ _ _) ⟨Nat.le_of_ble_eq_true rfl, Nat.le_of_ble_eq_true rfl, Nat.le_of_ble_eq_true rfl, Nat.le_of_ble_eq_true rfl⟩) ?_
    refine zx_ifB_ne C d_Mod_hangs_20 (fun h20 => ?_) (fun h20 => ?_)
    · obtain ⟨k, hk, rfl⟩ := ix_le (n := 3) (by decide) h9.1 h9.2
      obtain ⟨nn, hnn, rfl⟩ := ix_le (n := 20) (by decide) h20.2.1 h20.2.2
      have etr := trow_3 (S := S) (l := l) (i := i) (fits := True) hk hnn h9 h20 trivial
      refine zx_aload C d_Mod_hangs_26 rfl ?_
      refine zx_iload C d_Mod_hangs_27 rfl ?_
      refine zx_iload C d_Mod_hangs_28 rfl ?_
      refine zx_iload C d_Mod_hangs_29 rfl ?_
      refine zx_iload C d_Mod_hangs_30 rfl ?_
      refine zr_i (zr_V C l_Mod_178 d_Mod_hangs_32 (As := [_, _, _, _]) rfl rfl (Nat.le_of_ble_eq_true rfl) (c_Mod_layRow G _ _ _ _ _ (sf S 0) (by exact mrp_f hm 0) k nn (by omega) hnn l i) 0 rfl rfl ⟨Nat.le_of_ble_eq_true rfl, Nat.le_of_ble_eq_true rfl, Nat.le_of_ble_eq_true rfl, Nat.le_of_ble_eq_true rfl⟩) (fun r w1 hp => ?_)
      obtain ⟨rfl, F1, R1, rfl, hm1, hpr⟩ := hp
      refine zx_istore C d_Mod_hangs_35 (by decide) (lv1 := [(5, _), (0, _), (1, _), (2, _), (3, _), (4, _)]) rfl ?_
      refine zx_iload C d_Mod_hangs_37 rfl ?_
      refine zx_if_eq C d_Mod_hangs_39 (fun h39 => ?_) (fun h39 => ?_)
      · obtain ⟨g1, g2, g3, g4⟩ := lrow_0 h39
        rw [g3] at hm1
        have hm1 : mrp (sf S 0) F1 R1 := hm1
        have hp1 : prow (aT S) (rowP S k i.toNatClampNeg nn) F1 R1 := hpr h39
        have ev0 : ap_hangs S (nI k) l i (nI nn) = _ := apT_go etr h39
        rw [apR_n hk hnn] at ev0
        have ht := mrp_tok hm
        rw [h39]
        have ev := ev0
        have hpk := prow_pok hp1
        have hT6 : (aT S).1 ≤ 6 := ht.1
        have loop : ∀ n h fa rb, h + n = (aT S).1 → ZV G Y 0 0 58 [(0, .ref o), (1, .int (nI k)), (2, .int l), (3, .int i), (4, .int (nI nn)), (5, .int 0), (6, .int (nI (endA (aT S) (rowP S k i.toNatClampNeg nn) 0))), (7, .int (nI (hgs (aT S) (rowP S k i.toNatClampNeg nn) h))), (8, .int (nI h))] [] (mw G o ad (upd F1 27 fa) (ur R1 24 rb) ++ X) := by
          intro n
          induction n with
          | zero =>
            intro h fa rb hh
            refine zx_iload C d_Mod_hangs_58 rfl ?_
            refine zx_aload C d_Mod_hangs_60 rfl ?_
            refine zm_g C f_Mod_87_12 d_Mod_hangs_61 rfl ?_
            refine zx_ic_ge C d_Mod_hangs_64 (fun h64 => ?_) (fun h64 => ?_)
            · refine zx_iload C d_Mod_hangs_99 rfl ?_
              exact zx_iret C hq d_Mod_hangs_101 (by rw [ev, show h = (aT S).1 by omega]; exact mpost_i rfl hm1)
            · exact absurd (by show F1 5 ≤ nI h; rw [mrp_e5 hm1]; exact nI_le (a := (aT S).1) (by omega) (by omega)) h64
          | succ n ih =>
            intro h fa rb hh
            have hg := hgs64 (T := aT S) (P := (rowP S k i.toNatClampNeg nn)) (by omega : h ≤ 6)
            have h2h : 2 ^ h < 64 := Nat.pow_lt_pow_right (a := 2) (m := h) (n := 6) (by decide) (by omega)
            have e1 := run_end_lt ht hpk (wo := 2 ^ h)
            have e0 := run_end_lt ht hpk (wo := 0)
            have hgl : hgs (aT S) (rowP S k i.toNatClampNeg nn) h < 64 := Nat.lt_of_lt_of_le hg (show 2 ^ h ≤ 2 ^ 6 from Nat.pow_le_pow_right (by decide) (by omega))
            have hu : hgs (aT S) (rowP S k i.toNatClampNeg nn) (h + 1) = hgs (aT S) (rowP S k i.toNatClampNeg nn) h ||| (if endA (aT S) (rowP S k i.toNatClampNeg nn) (2 ^ h) = endA (aT S) (rowP S k i.toNatClampNeg nn) 0 then 0 else 2 ^ h) := rfl
            refine zx_iload C d_Mod_hangs_58 rfl ?_
            refine zx_aload C d_Mod_hangs_60 rfl ?_
            refine zm_g C f_Mod_87_12 d_Mod_hangs_61 rfl ?_
            refine zx_ic_ge C d_Mod_hangs_64 (fun h64 => ?_) (fun h64 => ?_)
            · exact absurd h64 (by show ¬ F1 5 ≤ nI h; rw [mrp_e5 hm1]; exact nI_ge (b := (aT S).1) (by omega) (by omega))
            · refine zx_iload C d_Mod_hangs_67 rfl ?_
              refine zx_aload C d_Mod_hangs_69 rfl ?_
              refine zx_ic C d_Mod_hangs_70 ?_
              refine zx_iload C d_Mod_hangs_71 rfl ?_
              refine zx_ishl C d_Mod_hangs_73 ?_
              rw [q_shl1 h (by omega)]
              refine zr_di (zr_V C l_Mod_181 d_Mod_hangs_74 (As := [_]) rfl rfl (Nat.le_of_ble_eq_true rfl) (c_Mod_ends G _ _ _ _ _ (aT S) (by exact hm1.2.2.2.2.1) (rowP S k i.toNatClampNeg nn) (by exact hp1) none (by exact hm1.2.2.2.2.2.1) (by intro q hq; cases hq) (2 ^ h) h2h) 0 rfl rfl ⟨Nat.le_of_ble_eq_true rfl, Nat.le_of_ble_eq_true rfl, Nat.le_of_ble_eq_true rfl, Nat.le_of_ble_eq_true rfl⟩) ?_
              rw [upd_upd, ur_ur]
              refine zx_iload C d_Mod_hangs_77 rfl ?_
              refine zx_ic_ne C d_Mod_hangs_79 (fun h79 => ?_) (fun h79 => ?_)
              · have hy : ¬ endA (aT S) (rowP S k i.toNatClampNeg nn) (2 ^ h) = endA (aT S) (rowP S k i.toNatClampNeg nn) 0 := fun z => h79 (congrArg nI z)
                rw [if_neg hy] at hu
                refine zx_ic C d_Mod_hangs_86 ?_
                refine zx_iload C d_Mod_hangs_87 rfl ?_
                refine zx_ishl C d_Mod_hangs_89 ?_
                refine zx_ior C d_Mod_hangs_90 ?_
                have hv : ∀ v : Int32, v = nI (hgs (aT S) (rowP S k i.toNatClampNeg nn) (h + 1)) → ZV G Y 0 0 91 [(0, .ref o), (1, .int (nI k)), (2, .int l), (3, .int i), (4, .int (nI nn)), (5, .int 0), (6, .int (nI (endA (aT S) (rowP S k i.toNatClampNeg nn) 0))), (7, .int (nI (hgs (aT S) (rowP S k i.toNatClampNeg nn) h))), (8, .int (nI h))] [.int v] (mw G o ad (upd F1 27 (gbg (aT S) (rowP S k i.toNatClampNeg nn) (2 ^ h) none (aT S).2.2.1)) (ur R1 24 (wrow (rowP S k i.toNatClampNeg nn).1 (run (aT S) (rowP S k i.toNatClampNeg nn) (2 ^ h) (oeF (aT S) (rowP S k i.toNatClampNeg nn) (2 ^ h) none) (aT S).2.2.1).2.2.2 (ur R1 24 rb 24))) ++ X) := by
                  intro v hv
                  refine zx_istore C d_Mod_hangs_91 (by decide) (lv1 := [(7, _), (0, _), (1, _), (2, _), (3, _), (4, _), (5, _), (6, _), (8, _)]) rfl ?_
                  refine zx_iinc C d_Mod_hangs_93 (by decide) rfl (lv1 := [(8, _), (7, _), (0, _), (1, _), (2, _), (3, _), (4, _), (5, _), (6, _)]) rfl ?_
                  refine zx_goto C d_Mod_hangs_96 ?_
                  have k1 := ih (h + 1) (gbg (aT S) (rowP S k i.toNatClampNeg nn) (2 ^ h) none (aT S).2.2.1) (wrow (rowP S k i.toNatClampNeg nn).1 (run (aT S) (rowP S k i.toNatClampNeg nn) (2 ^ h) (oeF (aT S) (rowP S k i.toNatClampNeg nn) (2 ^ h) none) (aT S).2.2.1).2.2.2 (ur R1 24 rb 24)) (by omega)
                  rw [← hv, nI_succ h] at k1
                  exact zx_lv [0, 1, 2, 3, 4, 5, 6, 7, 8] rfl k1
                exact zx_lv [0, 1, 2, 3, 4, 5, 6, 7, 8] rfl (hv _ (by rw [hu, ← q_orN _ hgl _ (by first | exact h2h | decide)]; first | rfl | rw [q_shl1 h (by omega)]))
              · have hy : endA (aT S) (rowP S k i.toNatClampNeg nn) (2 ^ h) = endA (aT S) (rowP S k i.toNatClampNeg nn) 0 := (nI_eq (by omega) (by omega)).mp h79
                rw [if_pos hy] at hu
                refine zx_ic C d_Mod_hangs_82 ?_
                refine zx_goto C d_Mod_hangs_83 ?_
                refine zx_ior C d_Mod_hangs_90 ?_
                have hv : ∀ v : Int32, v = nI (hgs (aT S) (rowP S k i.toNatClampNeg nn) (h + 1)) → ZV G Y 0 0 91 [(0, .ref o), (1, .int (nI k)), (2, .int l), (3, .int i), (4, .int (nI nn)), (5, .int 0), (6, .int (nI (endA (aT S) (rowP S k i.toNatClampNeg nn) 0))), (7, .int (nI (hgs (aT S) (rowP S k i.toNatClampNeg nn) h))), (8, .int (nI h))] [.int v] (mw G o ad (upd F1 27 (gbg (aT S) (rowP S k i.toNatClampNeg nn) (2 ^ h) none (aT S).2.2.1)) (ur R1 24 (wrow (rowP S k i.toNatClampNeg nn).1 (run (aT S) (rowP S k i.toNatClampNeg nn) (2 ^ h) (oeF (aT S) (rowP S k i.toNatClampNeg nn) (2 ^ h) none) (aT S).2.2.1).2.2.2 (ur R1 24 rb 24))) ++ X) := by
                  intro v hv
                  refine zx_istore C d_Mod_hangs_91 (by decide) (lv1 := [(7, _), (0, _), (1, _), (2, _), (3, _), (4, _), (5, _), (6, _), (8, _)]) rfl ?_
                  refine zx_iinc C d_Mod_hangs_93 (by decide) rfl (lv1 := [(8, _), (7, _), (0, _), (1, _), (2, _), (3, _), (4, _), (5, _), (6, _)]) rfl ?_
                  refine zx_goto C d_Mod_hangs_96 ?_
                  have k1 := ih (h + 1) (gbg (aT S) (rowP S k i.toNatClampNeg nn) (2 ^ h) none (aT S).2.2.1) (wrow (rowP S k i.toNatClampNeg nn).1 (run (aT S) (rowP S k i.toNatClampNeg nn) (2 ^ h) (oeF (aT S) (rowP S k i.toNatClampNeg nn) (2 ^ h) none) (aT S).2.2.1).2.2.2 (ur R1 24 rb 24)) (by omega)
                  rw [← hv, nI_succ h] at k1
                  exact zx_lv [0, 1, 2, 3, 4, 5, 6, 7, 8] rfl k1
                exact zx_lv [0, 1, 2, 3, 4, 5, 6, 7, 8] rfl (hv _ (by rw [hu, ← q_orN _ hgl _ (by first | exact h2h | decide)]; first | rfl | rw [q_shl1 h (by omega)]))
        refine zx_aload C d_Mod_hangs_45 rfl ?_
        refine zx_ic C d_Mod_hangs_46 ?_
        refine zr_di (zr_V C l_Mod_181 d_Mod_hangs_47 (As := [_]) rfl rfl (Nat.le_of_ble_eq_true rfl) (c_Mod_ends G _ _ _ _ _ (aT S) (by exact hm1.2.2.2.2.1) (rowP S k i.toNatClampNeg nn) (by exact hp1) none (by exact hm1.2.2.2.2.2.1) (by intro q hq; cases hq) 0 (by decide)) 0 rfl rfl ⟨Nat.le_of_ble_eq_true rfl, Nat.le_of_ble_eq_true rfl, Nat.le_of_ble_eq_true rfl, Nat.le_of_ble_eq_true rfl⟩) ?_
        refine zx_istore C d_Mod_hangs_50 (by decide) (lv1 := [(6, _), (5, _), (0, _), (1, _), (2, _), (3, _), (4, _)]) rfl ?_
        refine zx_ic C d_Mod_hangs_52 ?_
        refine zx_istore C d_Mod_hangs_53 (by decide) (lv1 := [(7, _), (6, _), (5, _), (0, _), (1, _), (2, _), (3, _), (4, _)]) rfl ?_
        refine zx_ic C d_Mod_hangs_55 ?_
        refine zx_istore C d_Mod_hangs_56 (by decide) (lv1 := [(8, _), (7, _), (6, _), (5, _), (0, _), (1, _), (2, _), (3, _), (4, _)]) rfl ?_
        exact zx_lv [0, 1, 2, 3, 4, 5, 6, 7, 8] rfl (loop (aT S).1 0 _ _ (by omega))
      · have ev : ap_hangs S (nI k) l i (nI nn) = _ := apT_ne etr h39
        have hm2 := hm1
        refine zx_iload C d_Mod_hangs_42 rfl ?_
        exact zx_iret C hq d_Mod_hangs_44 (by rw [ev]; exact mpost_i rfl hm2)
    · have ev : ap_hangs S sh l i n = (-2, sf S 0) := apT_bad (trow_2 h9 (Or.inl (nand4 h20))) (by decide)
      have hm2 := mrp_f hm 0
      refine zx_ic C d_Mod_hangs_23 ?_
      exact zx_iret C hq d_Mod_hangs_25 (by rw [ev]; exact mpost_i rfl hm2)
  · have ev : ap_hangs S sh l i n = (-1, sf S 0) := apT_bad (trow_1 (nand_or h9)) (by decide)
    have hm2 := mrp_f hm 0
    refine zx_ic C d_Mod_hangs_12 ?_
    exact zx_iret C hq d_Mod_hangs_13 (by rw [ev]; exact mpost_i rfl hm2)
