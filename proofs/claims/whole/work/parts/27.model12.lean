set_option maxHeartbeats 4000000 in
set_option maxRecDepth 20000 in
theorem c_Mod_readOneDeed (G : ZG) (o : Nat) (ad : Nat → Nat) (F : Nat → Int32) (R : Nat → Nat → Int32) (X : va_W) (c : Nat → Int32) (fs n p : Nat) (hc : ∀ j, j < n → R 4 (fs + j) = c j) (hfn : fs + n ≤ 240) (hp : p ≤ n) (e16 : F 16 = nI (fs + p)) (d : Nat) (hd : d < 5) (e18 : F 18 = nI d) : ZM G y_Mod_readOneDeed b_Mod_readOneDeed 5 (some .boolean) r_Mod_readOneDeed [.ref o, .int (nI (fs + n))] (mw G o ad F R ++ X) (zpi (fun r w => ∃ (F1 : Nat → Int32) (r1 : Nat → Int32), w = mw G o ad F1 (ur R 20 r1) ++ X ∧ F1 16 = nI (fs + (rdD c n p).1) ∧ (∀ j, j ≠ 16 → j ≠ 18 → F1 j = F j) ∧ (∀ j, j < 4 * d → r1 j = R 20 j) ∧ ((rdD c n p).2 = none → r = 0) ∧ ∀ x, (rdD c n p).2 = some x → r = 1 ∧ F1 18 = nI (d + 1) ∧ r1 (4 * d) = nI x.1 ∧ r1 (4 * d + 1) = nI x.2.1 ∧ r1 (4 * d + 2) = nI x.2.2.1 ∧ r1 (4 * d + 3) = nI x.2.2.2)) := by
  refine ZM.of "SameTuesdayModel" "readOneDeed" rfl rfl (by decide) (Nat.le_of_ble_eq_true rfl) (fun Y C hq => ?_)
  change ZV G Y 0 0 0 [(0, .ref o), (1, .int (nI (fs + n)))] [] (mw G o ad F R ++ X)
  have h4 : (4 : Int32) * F 18 = nI (4 * d) := by rw [e18, show (4 : Int32) = nI 4 from rfl, pk_mul]
  have i0 : nI (4 * d) + 0 = nI (4 * d + 0) := by rw [show (0 : Int32) = nI 0 from rfl, nI_add]
  have i1 : nI (4 * d) + 1 = nI (4 * d + 1) := by rw [show (1 : Int32) = nI 1 from rfl, nI_add]
  have i2 : nI (4 * d) + 2 = nI (4 * d + 2) := by rw [show (2 : Int32) = nI 2 from rfl, nI_add]
  have i3 : nI (4 * d) + 3 = nI (4 * d + 3) := by rw [show (3 : Int32) = nI 3 from rfl, nI_add]
  cases ha : dg c n p 0 6 with
  | none =>
    have hH : rdD c n p = (p, none) := by rw [rdD, ha]
    refine zx_ic C d_Mod_readOneDeed_0 ?_
    refine zx_aload C d_Mod_readOneDeed_1 rfl ?_
    refine zm_g C f_Mod_117_12 d_Mod_readOneDeed_2 rfl ?_
    refine zx_imul C d_Mod_readOneDeed_5 ?_
    rw [h4]
    refine zx_istore C d_Mod_readOneDeed_6 (by decide) (lv1 := [(2, _), (0, _), (1, _)]) rfl ?_
    refine zx_ic C d_Mod_readOneDeed_7 ?_
    refine zx_istore C d_Mod_readOneDeed_8 (by decide) (lv1 := [(3, _), (2, _), (0, _), (1, _)]) rfl ?_
    refine zx_lv [0, 1, 2, 3] rfl ?_
    refine zx_iload C d_Mod_readOneDeed_9 rfl ?_
    refine zx_ic C d_Mod_readOneDeed_10 ?_
    refine zx_ic_ge C d_Mod_readOneDeed_11 (fun h11 => ?_) (fun h11 => ?_)
    · exact absurd h11 (by decide)
    · refine zx_iload C d_Mod_readOneDeed_14 rfl ?_
      refine zx_ic C d_Mod_readOneDeed_15 ?_
      refine zx_ic_ne C d_Mod_readOneDeed_16 (fun h16 => ?_) (fun h16 => ?_)
      · refine zx_iload C d_Mod_readOneDeed_23 rfl ?_
        refine zx_ic C d_Mod_readOneDeed_24 ?_
        refine zx_ic_ne C d_Mod_readOneDeed_25 (fun h25 => ?_) (fun h25 => ?_)
        · refine zx_ic C d_Mod_readOneDeed_33 ?_
          refine zx_istore C d_Mod_readOneDeed_35 (by decide) (lv1 := [(4, _), (0, _), (1, _), (2, _), (3, _)]) rfl ?_
          refine zx_aload C d_Mod_readOneDeed_37 rfl ?_
          refine zm_g C f_Mod_46_12 d_Mod_readOneDeed_38 rfl ?_
          refine zx_iload C d_Mod_readOneDeed_41 rfl ?_
          refine zx_iload C d_Mod_readOneDeed_42 rfl ?_
          refine zx_iadd C d_Mod_readOneDeed_43 ?_
          refine zx_aload C d_Mod_readOneDeed_44 rfl ?_
          refine zx_iload C d_Mod_readOneDeed_45 rfl ?_
          refine zx_iload C d_Mod_readOneDeed_46 rfl ?_
          refine zx_ic C d_Mod_readOneDeed_47 ?_
          refine zx_ic_ne C d_Mod_readOneDeed_48 (fun h48 => ?_) (fun h48 => ?_)
          · refine zx_ic C d_Mod_readOneDeed_55 ?_
            refine zx_iload C d_Mod_readOneDeed_56 rfl ?_
            refine zr_di (zr_V C l_Mod_136 d_Mod_readOneDeed_58 (As := [_, _, _]) rfl rfl (Nat.le_of_ble_eq_true rfl) (c_Mod_digit G _ _ _ _ _ c fs n (p) (by exact hc) hfn (by omega) (by exact e16) 0 6 (by decide) (by decide)) 0 rfl rfl ⟨Nat.le_of_ble_eq_true rfl, Nat.le_of_ble_eq_true rfl, Nat.le_of_ble_eq_true rfl, Nat.le_of_ble_eq_true rfl⟩) ?_
            rw [ha]
            rw [bzv_0, adv_n]
            refine zm_st20 C d_Mod_readOneDeed_61 (4 * d + 0) i0 (by omega) ?_
            refine zx_aload C d_Mod_readOneDeed_62 rfl ?_
            refine zm_g C f_Mod_46_12 d_Mod_readOneDeed_63 rfl ?_
            refine zx_iload C d_Mod_readOneDeed_66 rfl ?_
            refine zx_iload C d_Mod_readOneDeed_67 rfl ?_
            refine zx_iadd C d_Mod_readOneDeed_68 ?_
            refine zm_ld20 C d_Mod_readOneDeed_69 (4 * d + 0) i0 (by omega) ?_
            refine zx_ic C d_Mod_readOneDeed_70 ?_
            refine zx_ic_ne C d_Mod_readOneDeed_72 (fun h72 => ?_) (fun h72 => ?_)
            · exact absurd (upd_eq _ _ _) h72
            · refine zx_ic C d_Mod_readOneDeed_75 ?_
              exact zx_zret C hq (by decide) d_Mod_readOneDeed_76 (⟨0, rfl, _, _, rfl, by rw [hH]; exact e16, fun j _ _ => rfl, fun j hj => by rw [upd_ne _ _ (by omega)], fun _ => rfl, fun x hx => by rw [hH] at hx; cases hx⟩)
          · exact absurd h48 (by decide)
        · exact absurd h25 (by decide)
      · exact absurd h16 (by decide)
  | some a =>
    have xa := dg_some (by decide) (by decide) ha
    cases hb : dg c n (p + 1) 0 5 with
    | none =>
      have hH : rdD c n p = (p + 1, none) := by rw [rdD, ha]; show (match dg c n (p + 1) 0 5 with | none => (p + 1, none) | some x => _) = _; rw [hb]
      refine zx_ic C d_Mod_readOneDeed_0 ?_
      refine zx_aload C d_Mod_readOneDeed_1 rfl ?_
      refine zm_g C f_Mod_117_12 d_Mod_readOneDeed_2 rfl ?_
      refine zx_imul C d_Mod_readOneDeed_5 ?_
      rw [h4]
      refine zx_istore C d_Mod_readOneDeed_6 (by decide) (lv1 := [(2, _), (0, _), (1, _)]) rfl ?_
      refine zx_ic C d_Mod_readOneDeed_7 ?_
      refine zx_istore C d_Mod_readOneDeed_8 (by decide) (lv1 := [(3, _), (2, _), (0, _), (1, _)]) rfl ?_
      refine zx_lv [0, 1, 2, 3] rfl ?_
      refine zx_iload C d_Mod_readOneDeed_9 rfl ?_
      refine zx_ic C d_Mod_readOneDeed_10 ?_
      refine zx_ic_ge C d_Mod_readOneDeed_11 (fun h11 => ?_) (fun h11 => ?_)
      · exact absurd h11 (by decide)
      · refine zx_iload C d_Mod_readOneDeed_14 rfl ?_
        refine zx_ic C d_Mod_readOneDeed_15 ?_
        refine zx_ic_ne C d_Mod_readOneDeed_16 (fun h16 => ?_) (fun h16 => ?_)
        · refine zx_iload C d_Mod_readOneDeed_23 rfl ?_
          refine zx_ic C d_Mod_readOneDeed_24 ?_
          refine zx_ic_ne C d_Mod_readOneDeed_25 (fun h25 => ?_) (fun h25 => ?_)
          · refine zx_ic C d_Mod_readOneDeed_33 ?_
            refine zx_istore C d_Mod_readOneDeed_35 (by decide) (lv1 := [(4, _), (0, _), (1, _), (2, _), (3, _)]) rfl ?_
            refine zx_aload C d_Mod_readOneDeed_37 rfl ?_
            refine zm_g C f_Mod_46_12 d_Mod_readOneDeed_38 rfl ?_
            refine zx_iload C d_Mod_readOneDeed_41 rfl ?_
            refine zx_iload C d_Mod_readOneDeed_42 rfl ?_
            refine zx_iadd C d_Mod_readOneDeed_43 ?_
            refine zx_aload C d_Mod_readOneDeed_44 rfl ?_
            refine zx_iload C d_Mod_readOneDeed_45 rfl ?_
            refine zx_iload C d_Mod_readOneDeed_46 rfl ?_
            refine zx_ic C d_Mod_readOneDeed_47 ?_
            refine zx_ic_ne C d_Mod_readOneDeed_48 (fun h48 => ?_) (fun h48 => ?_)
            · refine zx_ic C d_Mod_readOneDeed_55 ?_
              refine zx_iload C d_Mod_readOneDeed_56 rfl ?_
              refine zr_di (zr_V C l_Mod_136 d_Mod_readOneDeed_58 (As := [_, _, _]) rfl rfl (Nat.le_of_ble_eq_true rfl) (c_Mod_digit G _ _ _ _ _ c fs n (p) (by exact hc) hfn (by omega) (by exact e16) 0 6 (by decide) (by decide)) 0 rfl rfl ⟨Nat.le_of_ble_eq_true rfl, Nat.le_of_ble_eq_true rfl, Nat.le_of_ble_eq_true rfl, Nat.le_of_ble_eq_true rfl⟩) ?_
              rw [ha]
              rw [bzv_s, adv_s]
              refine zm_st20 C d_Mod_readOneDeed_61 (4 * d + 0) i0 (by omega) ?_
              refine zx_aload C d_Mod_readOneDeed_62 rfl ?_
              refine zm_g C f_Mod_46_12 d_Mod_readOneDeed_63 rfl ?_
              refine zx_iload C d_Mod_readOneDeed_66 rfl ?_
              refine zx_iload C d_Mod_readOneDeed_67 rfl ?_
              refine zx_iadd C d_Mod_readOneDeed_68 ?_
              refine zm_ld20 C d_Mod_readOneDeed_69 (4 * d + 0) i0 (by omega) ?_
              refine zx_ic C d_Mod_readOneDeed_70 ?_
              refine zx_ic_ne C d_Mod_readOneDeed_72 (fun h72 => ?_) (fun h72 => ?_)
              · refine zx_iinc C d_Mod_readOneDeed_77 (by decide) rfl (lv1 := [(3, _), (4, _), (0, _), (1, _), (2, _)]) rfl ?_
                refine zx_goto C d_Mod_readOneDeed_80 ?_
                rw [show (0 : Int32) + 1 = 1 from by decide]
                refine zx_iload C d_Mod_readOneDeed_9 rfl ?_
                refine zx_ic C d_Mod_readOneDeed_10 ?_
                refine zx_ic_ge C d_Mod_readOneDeed_11 (fun h11 => ?_) (fun h11 => ?_)
                · exact absurd h11 (by decide)
                · refine zx_iload C d_Mod_readOneDeed_14 rfl ?_
                  refine zx_ic C d_Mod_readOneDeed_15 ?_
                  refine zx_ic_ne C d_Mod_readOneDeed_16 (fun h16 => ?_) (fun h16 => ?_)
                  · exact absurd rfl h16
                  · refine zx_ic C d_Mod_readOneDeed_19 ?_
                    refine zx_goto C d_Mod_readOneDeed_20 ?_
                    refine zx_istore C d_Mod_readOneDeed_35 (by decide) (lv1 := [(4, _), (3, _), (0, _), (1, _), (2, _)]) rfl ?_
                    refine zx_aload C d_Mod_readOneDeed_37 rfl ?_
                    refine zm_g C f_Mod_46_12 d_Mod_readOneDeed_38 rfl ?_
                    refine zx_iload C d_Mod_readOneDeed_41 rfl ?_
                    refine zx_iload C d_Mod_readOneDeed_42 rfl ?_
                    refine zx_iadd C d_Mod_readOneDeed_43 ?_
                    refine zx_aload C d_Mod_readOneDeed_44 rfl ?_
                    refine zx_iload C d_Mod_readOneDeed_45 rfl ?_
                    refine zx_iload C d_Mod_readOneDeed_46 rfl ?_
                    refine zx_ic C d_Mod_readOneDeed_47 ?_
                    refine zx_ic_ne C d_Mod_readOneDeed_48 (fun h48 => ?_) (fun h48 => ?_)
                    · refine zx_ic C d_Mod_readOneDeed_55 ?_
                      refine zx_iload C d_Mod_readOneDeed_56 rfl ?_
                      refine zr_di (zr_V C l_Mod_136 d_Mod_readOneDeed_58 (As := [_, _, _]) rfl rfl (Nat.le_of_ble_eq_true rfl) (c_Mod_digit G _ _ _ _ _ c fs n (p + 1) (by exact hc) hfn (by omega) (by exact rfl) 0 5 (by decide) (by decide)) 0 rfl rfl ⟨Nat.le_of_ble_eq_true rfl, Nat.le_of_ble_eq_true rfl, Nat.le_of_ble_eq_true rfl, Nat.le_of_ble_eq_true rfl⟩) ?_
                      rw [hb]
                      rw [bzv_0, adv_n]
                      refine zm_st20 C d_Mod_readOneDeed_61 (4 * d + 1) i1 (by omega) ?_
                      rw [ur_ur, ur_eq]
                      refine zx_aload C d_Mod_readOneDeed_62 rfl ?_
                      refine zm_g C f_Mod_46_12 d_Mod_readOneDeed_63 rfl ?_
                      refine zx_iload C d_Mod_readOneDeed_66 rfl ?_
                      refine zx_iload C d_Mod_readOneDeed_67 rfl ?_
                      refine zx_iadd C d_Mod_readOneDeed_68 ?_
                      refine zm_ld20 C d_Mod_readOneDeed_69 (4 * d + 1) i1 (by omega) ?_
                      refine zx_ic C d_Mod_readOneDeed_70 ?_
                      refine zx_ic_ne C d_Mod_readOneDeed_72 (fun h72 => ?_) (fun h72 => ?_)
                      · exact absurd (upd_eq _ _ _) h72
                      · refine zx_ic C d_Mod_readOneDeed_75 ?_
                        exact zx_zret C hq (by decide) d_Mod_readOneDeed_76 (⟨0, rfl, _, _, rfl, by rw [hH]; rfl, fun j h16 h18 => upd_ne _ _ h16, fun j hj => by rw [upd_ne _ _ (by omega), upd_ne _ _ (by omega)], fun _ => rfl, fun x hx => by rw [hH] at hx; cases hx⟩)
                    · exact absurd h48 (by decide)
              · exact absurd ((upd_eq _ _ _).symm.trans h72) (nI_n9 (by omega))
            · exact absurd h48 (by decide)
          · exact absurd h25 (by decide)
        · exact absurd h16 (by decide)
    | some b =>
      have xb := dg_some (by decide) (by decide) hb
      cases he : dg c n (p + 2) 0 6 with
      | none =>
        have hH : rdD c n p = (p + 2, none) := by rw [rdD, ha]; show (match dg c n (p + 1) 0 5 with | none => (p + 1, none) | some x => _) = _; rw [hb]; show (match dg c n (p + 2) 0 6 with | none => (p + 2, none) | some x => _) = _; rw [he]
        refine zx_ic C d_Mod_readOneDeed_0 ?_
        refine zx_aload C d_Mod_readOneDeed_1 rfl ?_
        refine zm_g C f_Mod_117_12 d_Mod_readOneDeed_2 rfl ?_
        refine zx_imul C d_Mod_readOneDeed_5 ?_
        rw [h4]
        refine zx_istore C d_Mod_readOneDeed_6 (by decide) (lv1 := [(2, _), (0, _), (1, _)]) rfl ?_
        refine zx_ic C d_Mod_readOneDeed_7 ?_
        refine zx_istore C d_Mod_readOneDeed_8 (by decide) (lv1 := [(3, _), (2, _), (0, _), (1, _)]) rfl ?_
        refine zx_lv [0, 1, 2, 3] rfl ?_
        refine zx_iload C d_Mod_readOneDeed_9 rfl ?_
        refine zx_ic C d_Mod_readOneDeed_10 ?_
        refine zx_ic_ge C d_Mod_readOneDeed_11 (fun h11 => ?_) (fun h11 => ?_)
        · exact absurd h11 (by decide)
        · refine zx_iload C d_Mod_readOneDeed_14 rfl ?_
          refine zx_ic C d_Mod_readOneDeed_15 ?_
          refine zx_ic_ne C d_Mod_readOneDeed_16 (fun h16 => ?_) (fun h16 => ?_)
          · refine zx_iload C d_Mod_readOneDeed_23 rfl ?_
            refine zx_ic C d_Mod_readOneDeed_24 ?_
            refine zx_ic_ne C d_Mod_readOneDeed_25 (fun h25 => ?_) (fun h25 => ?_)
            · refine zx_ic C d_Mod_readOneDeed_33 ?_
              refine zx_istore C d_Mod_readOneDeed_35 (by decide) (lv1 := [(4, _), (0, _), (1, _), (2, _), (3, _)]) rfl ?_
              refine zx_aload C d_Mod_readOneDeed_37 rfl ?_
              refine zm_g C f_Mod_46_12 d_Mod_readOneDeed_38 rfl ?_
              refine zx_iload C d_Mod_readOneDeed_41 rfl ?_
              refine zx_iload C d_Mod_readOneDeed_42 rfl ?_
              refine zx_iadd C d_Mod_readOneDeed_43 ?_
              refine zx_aload C d_Mod_readOneDeed_44 rfl ?_
              refine zx_iload C d_Mod_readOneDeed_45 rfl ?_
              refine zx_iload C d_Mod_readOneDeed_46 rfl ?_
              refine zx_ic C d_Mod_readOneDeed_47 ?_
              refine zx_ic_ne C d_Mod_readOneDeed_48 (fun h48 => ?_) (fun h48 => ?_)
              · refine zx_ic C d_Mod_readOneDeed_55 ?_
                refine zx_iload C d_Mod_readOneDeed_56 rfl ?_
                refine zr_di (zr_V C l_Mod_136 d_Mod_readOneDeed_58 (As := [_, _, _]) rfl rfl (Nat.le_of_ble_eq_true rfl) (c_Mod_digit G _ _ _ _ _ c fs n (p) (by exact hc) hfn (by omega) (by exact e16) 0 6 (by decide) (by decide)) 0 rfl rfl ⟨Nat.le_of_ble_eq_true rfl, Nat.le_of_ble_eq_true rfl, Nat.le_of_ble_eq_true rfl, Nat.le_of_ble_eq_true rfl⟩) ?_
                rw [ha]
                rw [bzv_s, adv_s]
                refine zm_st20 C d_Mod_readOneDeed_61 (4 * d + 0) i0 (by omega) ?_
                refine zx_aload C d_Mod_readOneDeed_62 rfl ?_
                refine zm_g C f_Mod_46_12 d_Mod_readOneDeed_63 rfl ?_
                refine zx_iload C d_Mod_readOneDeed_66 rfl ?_
                refine zx_iload C d_Mod_readOneDeed_67 rfl ?_
                refine zx_iadd C d_Mod_readOneDeed_68 ?_
                refine zm_ld20 C d_Mod_readOneDeed_69 (4 * d + 0) i0 (by omega) ?_
                refine zx_ic C d_Mod_readOneDeed_70 ?_
                refine zx_ic_ne C d_Mod_readOneDeed_72 (fun h72 => ?_) (fun h72 => ?_)
                · refine zx_iinc C d_Mod_readOneDeed_77 (by decide) rfl (lv1 := [(3, _), (4, _), (0, _), (1, _), (2, _)]) rfl ?_
                  refine zx_goto C d_Mod_readOneDeed_80 ?_
                  rw [show (0 : Int32) + 1 = 1 from by decide]
                  refine zx_iload C d_Mod_readOneDeed_9 rfl ?_
                  refine zx_ic C d_Mod_readOneDeed_10 ?_
                  refine zx_ic_ge C d_Mod_readOneDeed_11 (fun h11 => ?_) (fun h11 => ?_)
                  · exact absurd h11 (by decide)
                  · refine zx_iload C d_Mod_readOneDeed_14 rfl ?_
                    refine zx_ic C d_Mod_readOneDeed_15 ?_
                    refine zx_ic_ne C d_Mod_readOneDeed_16 (fun h16 => ?_) (fun h16 => ?_)
                    · exact absurd rfl h16
                    · refine zx_ic C d_Mod_readOneDeed_19 ?_
                      refine zx_goto C d_Mod_readOneDeed_20 ?_
                      refine zx_istore C d_Mod_readOneDeed_35 (by decide) (lv1 := [(4, _), (3, _), (0, _), (1, _), (2, _)]) rfl ?_
                      refine zx_aload C d_Mod_readOneDeed_37 rfl ?_
                      refine zm_g C f_Mod_46_12 d_Mod_readOneDeed_38 rfl ?_
                      refine zx_iload C d_Mod_readOneDeed_41 rfl ?_
                      refine zx_iload C d_Mod_readOneDeed_42 rfl ?_
                      refine zx_iadd C d_Mod_readOneDeed_43 ?_
                      refine zx_aload C d_Mod_readOneDeed_44 rfl ?_
                      refine zx_iload C d_Mod_readOneDeed_45 rfl ?_
                      refine zx_iload C d_Mod_readOneDeed_46 rfl ?_
                      refine zx_ic C d_Mod_readOneDeed_47 ?_
                      refine zx_ic_ne C d_Mod_readOneDeed_48 (fun h48 => ?_) (fun h48 => ?_)
                      · refine zx_ic C d_Mod_readOneDeed_55 ?_
                        refine zx_iload C d_Mod_readOneDeed_56 rfl ?_
                        refine zr_di (zr_V C l_Mod_136 d_Mod_readOneDeed_58 (As := [_, _, _]) rfl rfl (Nat.le_of_ble_eq_true rfl) (c_Mod_digit G _ _ _ _ _ c fs n (p + 1) (by exact hc) hfn (by omega) (by exact rfl) 0 5 (by decide) (by decide)) 0 rfl rfl ⟨Nat.le_of_ble_eq_true rfl, Nat.le_of_ble_eq_true rfl, Nat.le_of_ble_eq_true rfl, Nat.le_of_ble_eq_true rfl⟩) ?_
                        rw [hb]
                        rw [bzv_s, adv_s, upd_upd]
                        refine zm_st20 C d_Mod_readOneDeed_61 (4 * d + 1) i1 (by omega) ?_
                        rw [ur_ur, ur_eq]
                        refine zx_aload C d_Mod_readOneDeed_62 rfl ?_
                        refine zm_g C f_Mod_46_12 d_Mod_readOneDeed_63 rfl ?_
                        refine zx_iload C d_Mod_readOneDeed_66 rfl ?_
                        refine zx_iload C d_Mod_readOneDeed_67 rfl ?_
                        refine zx_iadd C d_Mod_readOneDeed_68 ?_
                        refine zm_ld20 C d_Mod_readOneDeed_69 (4 * d + 1) i1 (by omega) ?_
                        refine zx_ic C d_Mod_readOneDeed_70 ?_
                        refine zx_ic_ne C d_Mod_readOneDeed_72 (fun h72 => ?_) (fun h72 => ?_)
                        · refine zx_iinc C d_Mod_readOneDeed_77 (by decide) rfl (lv1 := [(3, _), (4, _), (0, _), (1, _), (2, _)]) rfl ?_
                          refine zx_goto C d_Mod_readOneDeed_80 ?_
                          rw [show (1 : Int32) + 1 = 2 from by decide]
                          refine zx_iload C d_Mod_readOneDeed_9 rfl ?_
                          refine zx_ic C d_Mod_readOneDeed_10 ?_
                          refine zx_ic_ge C d_Mod_readOneDeed_11 (fun h11 => ?_) (fun h11 => ?_)
                          · exact absurd h11 (by decide)
                          · refine zx_iload C d_Mod_readOneDeed_14 rfl ?_
                            refine zx_ic C d_Mod_readOneDeed_15 ?_
                            refine zx_ic_ne C d_Mod_readOneDeed_16 (fun h16 => ?_) (fun h16 => ?_)
                            · refine zx_iload C d_Mod_readOneDeed_23 rfl ?_
                              refine zx_ic C d_Mod_readOneDeed_24 ?_
                              refine zx_ic_ne C d_Mod_readOneDeed_25 (fun h25 => ?_) (fun h25 => ?_)
                              · refine zx_ic C d_Mod_readOneDeed_33 ?_
                                refine zx_istore C d_Mod_readOneDeed_35 (by decide) (lv1 := [(4, _), (3, _), (0, _), (1, _), (2, _)]) rfl ?_
                                refine zx_aload C d_Mod_readOneDeed_37 rfl ?_
                                refine zm_g C f_Mod_46_12 d_Mod_readOneDeed_38 rfl ?_
                                refine zx_iload C d_Mod_readOneDeed_41 rfl ?_
                                refine zx_iload C d_Mod_readOneDeed_42 rfl ?_
                                refine zx_iadd C d_Mod_readOneDeed_43 ?_
                                refine zx_aload C d_Mod_readOneDeed_44 rfl ?_
                                refine zx_iload C d_Mod_readOneDeed_45 rfl ?_
                                refine zx_iload C d_Mod_readOneDeed_46 rfl ?_
                                refine zx_ic C d_Mod_readOneDeed_47 ?_
                                refine zx_ic_ne C d_Mod_readOneDeed_48 (fun h48 => ?_) (fun h48 => ?_)
                                · refine zx_ic C d_Mod_readOneDeed_55 ?_
                                  refine zx_iload C d_Mod_readOneDeed_56 rfl ?_
                                  refine zr_di (zr_V C l_Mod_136 d_Mod_readOneDeed_58 (As := [_, _, _]) rfl rfl (Nat.le_of_ble_eq_true rfl) (c_Mod_digit G _ _ _ _ _ c fs n (p + 2) (by exact hc) hfn (by omega) (by exact rfl) 0 6 (by decide) (by decide)) 0 rfl rfl ⟨Nat.le_of_ble_eq_true rfl, Nat.le_of_ble_eq_true rfl, Nat.le_of_ble_eq_true rfl, Nat.le_of_ble_eq_true rfl⟩) ?_
                                  rw [he]
                                  rw [bzv_0, adv_n]
                                  refine zm_st20 C d_Mod_readOneDeed_61 (4 * d + 2) i2 (by omega) ?_
                                  rw [ur_ur, ur_eq]
                                  refine zx_aload C d_Mod_readOneDeed_62 rfl ?_
                                  refine zm_g C f_Mod_46_12 d_Mod_readOneDeed_63 rfl ?_
                                  refine zx_iload C d_Mod_readOneDeed_66 rfl ?_
                                  refine zx_iload C d_Mod_readOneDeed_67 rfl ?_
                                  refine zx_iadd C d_Mod_readOneDeed_68 ?_
                                  refine zm_ld20 C d_Mod_readOneDeed_69 (4 * d + 2) i2 (by omega) ?_
                                  refine zx_ic C d_Mod_readOneDeed_70 ?_
                                  refine zx_ic_ne C d_Mod_readOneDeed_72 (fun h72 => ?_) (fun h72 => ?_)
                                  · exact absurd (upd_eq _ _ _) h72
                                  · refine zx_ic C d_Mod_readOneDeed_75 ?_
                                    exact zx_zret C hq (by decide) d_Mod_readOneDeed_76 (⟨0, rfl, _, _, rfl, by rw [hH]; rfl, fun j h16 h18 => upd_ne _ _ h16, fun j hj => by rw [upd_ne _ _ (by omega), upd_ne _ _ (by omega), upd_ne _ _ (by omega)], fun _ => rfl, fun x hx => by rw [hH] at hx; cases hx⟩)
                                · exact absurd h48 (by decide)
                              · exact absurd h25 (by decide)
                            · exact absurd h16 (by decide)
                        · exact absurd ((upd_eq _ _ _).symm.trans h72) (nI_n9 (by omega))
                      · exact absurd h48 (by decide)
                · exact absurd ((upd_eq _ _ _).symm.trans h72) (nI_n9 (by omega))
              · exact absurd h48 (by decide)
            · exact absurd h25 (by decide)
          · exact absurd h16 (by decide)
      | some e =>
        have xe := dg_some (by decide) (by decide) he
        cases hf : dg c n (p + 3) 1 9 with
        | none =>
          have hH : rdD c n p = (p + 3, none) := by rw [rdD, ha]; show (match dg c n (p + 1) 0 5 with | none => (p + 1, none) | some x => _) = _; rw [hb]; show (match dg c n (p + 2) 0 6 with | none => (p + 2, none) | some x => _) = _; rw [he]; show (match dg c n (p + 3) 1 9 with | none => (p + 3, none) | some x => _) = _; rw [hf]
          refine zx_ic C d_Mod_readOneDeed_0 ?_
          refine zx_aload C d_Mod_readOneDeed_1 rfl ?_
          refine zm_g C f_Mod_117_12 d_Mod_readOneDeed_2 rfl ?_
          refine zx_imul C d_Mod_readOneDeed_5 ?_
          rw [h4]
          refine zx_istore C d_Mod_readOneDeed_6 (by decide) (lv1 := [(2, _), (0, _), (1, _)]) rfl ?_
          refine zx_ic C d_Mod_readOneDeed_7 ?_
          refine zx_istore C d_Mod_readOneDeed_8 (by decide) (lv1 := [(3, _), (2, _), (0, _), (1, _)]) rfl ?_
          refine zx_lv [0, 1, 2, 3] rfl ?_
          refine zx_iload C d_Mod_readOneDeed_9 rfl ?_
          refine zx_ic C d_Mod_readOneDeed_10 ?_
          refine zx_ic_ge C d_Mod_readOneDeed_11 (fun h11 => ?_) (fun h11 => ?_)
          · exact absurd h11 (by decide)
          · refine zx_iload C d_Mod_readOneDeed_14 rfl ?_
            refine zx_ic C d_Mod_readOneDeed_15 ?_
            refine zx_ic_ne C d_Mod_readOneDeed_16 (fun h16 => ?_) (fun h16 => ?_)
            · refine zx_iload C d_Mod_readOneDeed_23 rfl ?_
              refine zx_ic C d_Mod_readOneDeed_24 ?_
              refine zx_ic_ne C d_Mod_readOneDeed_25 (fun h25 => ?_) (fun h25 => ?_)
              · refine zx_ic C d_Mod_readOneDeed_33 ?_
                refine zx_istore C d_Mod_readOneDeed_35 (by decide) (lv1 := [(4, _), (0, _), (1, _), (2, _), (3, _)]) rfl ?_
                refine zx_aload C d_Mod_readOneDeed_37 rfl ?_
                refine zm_g C f_Mod_46_12 d_Mod_readOneDeed_38 rfl ?_
                refine zx_iload C d_Mod_readOneDeed_41 rfl ?_
                refine zx_iload C d_Mod_readOneDeed_42 rfl ?_
                refine zx_iadd C d_Mod_readOneDeed_43 ?_
                refine zx_aload C d_Mod_readOneDeed_44 rfl ?_
                refine zx_iload C d_Mod_readOneDeed_45 rfl ?_
                refine zx_iload C d_Mod_readOneDeed_46 rfl ?_
                refine zx_ic C d_Mod_readOneDeed_47 ?_
                refine zx_ic_ne C d_Mod_readOneDeed_48 (fun h48 => ?_) (fun h48 => ?_)
                · refine zx_ic C d_Mod_readOneDeed_55 ?_
                  refine zx_iload C d_Mod_readOneDeed_56 rfl ?_
                  refine zr_di (zr_V C l_Mod_136 d_Mod_readOneDeed_58 (As := [_, _, _]) rfl rfl (Nat.le_of_ble_eq_true rfl) (c_Mod_digit G _ _ _ _ _ c fs n (p) (by exact hc) hfn (by omega) (by exact e16) 0 6 (by decide) (by decide)) 0 rfl rfl ⟨Nat.le_of_ble_eq_true rfl, Nat.le_of_ble_eq_true rfl, Nat.le_of_ble_eq_true rfl, Nat.le_of_ble_eq_true rfl⟩) ?_
                  rw [ha]
                  rw [bzv_s, adv_s]
                  refine zm_st20 C d_Mod_readOneDeed_61 (4 * d + 0) i0 (by omega) ?_
                  refine zx_aload C d_Mod_readOneDeed_62 rfl ?_
                  refine zm_g C f_Mod_46_12 d_Mod_readOneDeed_63 rfl ?_
                  refine zx_iload C d_Mod_readOneDeed_66 rfl ?_
                  refine zx_iload C d_Mod_readOneDeed_67 rfl ?_
                  refine zx_iadd C d_Mod_readOneDeed_68 ?_
                  refine zm_ld20 C d_Mod_readOneDeed_69 (4 * d + 0) i0 (by omega) ?_
                  refine zx_ic C d_Mod_readOneDeed_70 ?_
                  refine zx_ic_ne C d_Mod_readOneDeed_72 (fun h72 => ?_) (fun h72 => ?_)
                  · refine zx_iinc C d_Mod_readOneDeed_77 (by decide) rfl (lv1 := [(3, _), (4, _), (0, _), (1, _), (2, _)]) rfl ?_
                    refine zx_goto C d_Mod_readOneDeed_80 ?_
                    rw [show (0 : Int32) + 1 = 1 from by decide]
                    refine zx_iload C d_Mod_readOneDeed_9 rfl ?_
                    refine zx_ic C d_Mod_readOneDeed_10 ?_
                    refine zx_ic_ge C d_Mod_readOneDeed_11 (fun h11 => ?_) (fun h11 => ?_)
                    · exact absurd h11 (by decide)
                    · refine zx_iload C d_Mod_readOneDeed_14 rfl ?_
                      refine zx_ic C d_Mod_readOneDeed_15 ?_
                      refine zx_ic_ne C d_Mod_readOneDeed_16 (fun h16 => ?_) (fun h16 => ?_)
                      · exact absurd rfl h16
                      · refine zx_ic C d_Mod_readOneDeed_19 ?_
                        refine zx_goto C d_Mod_readOneDeed_20 ?_
                        refine zx_istore C d_Mod_readOneDeed_35 (by decide) (lv1 := [(4, _), (3, _), (0, _), (1, _), (2, _)]) rfl ?_
                        refine zx_aload C d_Mod_readOneDeed_37 rfl ?_
                        refine zm_g C f_Mod_46_12 d_Mod_readOneDeed_38 rfl ?_
                        refine zx_iload C d_Mod_readOneDeed_41 rfl ?_
                        refine zx_iload C d_Mod_readOneDeed_42 rfl ?_
                        refine zx_iadd C d_Mod_readOneDeed_43 ?_
                        refine zx_aload C d_Mod_readOneDeed_44 rfl ?_
                        refine zx_iload C d_Mod_readOneDeed_45 rfl ?_
                        refine zx_iload C d_Mod_readOneDeed_46 rfl ?_
                        refine zx_ic C d_Mod_readOneDeed_47 ?_
                        refine zx_ic_ne C d_Mod_readOneDeed_48 (fun h48 => ?_) (fun h48 => ?_)
                        · refine zx_ic C d_Mod_readOneDeed_55 ?_
                          refine zx_iload C d_Mod_readOneDeed_56 rfl ?_
                          refine zr_di (zr_V C l_Mod_136 d_Mod_readOneDeed_58 (As := [_, _, _]) rfl rfl (Nat.le_of_ble_eq_true rfl) (c_Mod_digit G _ _ _ _ _ c fs n (p + 1) (by exact hc) hfn (by omega) (by exact rfl) 0 5 (by decide) (by decide)) 0 rfl rfl ⟨Nat.le_of_ble_eq_true rfl, Nat.le_of_ble_eq_true rfl, Nat.le_of_ble_eq_true rfl, Nat.le_of_ble_eq_true rfl⟩) ?_
                          rw [hb]
                          rw [bzv_s, adv_s, upd_upd]
                          refine zm_st20 C d_Mod_readOneDeed_61 (4 * d + 1) i1 (by omega) ?_
                          rw [ur_ur, ur_eq]
                          refine zx_aload C d_Mod_readOneDeed_62 rfl ?_
                          refine zm_g C f_Mod_46_12 d_Mod_readOneDeed_63 rfl ?_
                          refine zx_iload C d_Mod_readOneDeed_66 rfl ?_
                          refine zx_iload C d_Mod_readOneDeed_67 rfl ?_
                          refine zx_iadd C d_Mod_readOneDeed_68 ?_
                          refine zm_ld20 C d_Mod_readOneDeed_69 (4 * d + 1) i1 (by omega) ?_
                          refine zx_ic C d_Mod_readOneDeed_70 ?_
                          refine zx_ic_ne C d_Mod_readOneDeed_72 (fun h72 => ?_) (fun h72 => ?_)
                          · refine zx_iinc C d_Mod_readOneDeed_77 (by decide) rfl (lv1 := [(3, _), (4, _), (0, _), (1, _), (2, _)]) rfl ?_
                            refine zx_goto C d_Mod_readOneDeed_80 ?_
                            rw [show (1 : Int32) + 1 = 2 from by decide]
                            refine zx_iload C d_Mod_readOneDeed_9 rfl ?_
                            refine zx_ic C d_Mod_readOneDeed_10 ?_
                            refine zx_ic_ge C d_Mod_readOneDeed_11 (fun h11 => ?_) (fun h11 => ?_)
                            · exact absurd h11 (by decide)
                            · refine zx_iload C d_Mod_readOneDeed_14 rfl ?_
                              refine zx_ic C d_Mod_readOneDeed_15 ?_
                              refine zx_ic_ne C d_Mod_readOneDeed_16 (fun h16 => ?_) (fun h16 => ?_)
                              · refine zx_iload C d_Mod_readOneDeed_23 rfl ?_
                                refine zx_ic C d_Mod_readOneDeed_24 ?_
                                refine zx_ic_ne C d_Mod_readOneDeed_25 (fun h25 => ?_) (fun h25 => ?_)
                                · refine zx_ic C d_Mod_readOneDeed_33 ?_
                                  refine zx_istore C d_Mod_readOneDeed_35 (by decide) (lv1 := [(4, _), (3, _), (0, _), (1, _), (2, _)]) rfl ?_
                                  refine zx_aload C d_Mod_readOneDeed_37 rfl ?_
                                  refine zm_g C f_Mod_46_12 d_Mod_readOneDeed_38 rfl ?_
                                  refine zx_iload C d_Mod_readOneDeed_41 rfl ?_
                                  refine zx_iload C d_Mod_readOneDeed_42 rfl ?_
                                  refine zx_iadd C d_Mod_readOneDeed_43 ?_
                                  refine zx_aload C d_Mod_readOneDeed_44 rfl ?_
                                  refine zx_iload C d_Mod_readOneDeed_45 rfl ?_
                                  refine zx_iload C d_Mod_readOneDeed_46 rfl ?_
                                  refine zx_ic C d_Mod_readOneDeed_47 ?_
                                  refine zx_ic_ne C d_Mod_readOneDeed_48 (fun h48 => ?_) (fun h48 => ?_)
                                  · refine zx_ic C d_Mod_readOneDeed_55 ?_
                                    refine zx_iload C d_Mod_readOneDeed_56 rfl ?_
                                    refine zr_di (zr_V C l_Mod_136 d_Mod_readOneDeed_58 (As := [_, _, _]) rfl rfl (Nat.le_of_ble_eq_true rfl) (c_Mod_digit G _ _ _ _ _ c fs n (p + 2) (by exact hc) hfn (by omega) (by exact rfl) 0 6 (by decide) (by decide)) 0 rfl rfl ⟨Nat.le_of_ble_eq_true rfl, Nat.le_of_ble_eq_true rfl, Nat.le_of_ble_eq_true rfl, Nat.le_of_ble_eq_true rfl⟩) ?_
                                    rw [he]
                                    rw [bzv_s, adv_s, upd_upd]
                                    refine zm_st20 C d_Mod_readOneDeed_61 (4 * d + 2) i2 (by omega) ?_
                                    rw [ur_ur, ur_eq]
                                    refine zx_aload C d_Mod_readOneDeed_62 rfl ?_
                                    refine zm_g C f_Mod_46_12 d_Mod_readOneDeed_63 rfl ?_
                                    refine zx_iload C d_Mod_readOneDeed_66 rfl ?_
                                    refine zx_iload C d_Mod_readOneDeed_67 rfl ?_
                                    refine zx_iadd C d_Mod_readOneDeed_68 ?_
                                    refine zm_ld20 C d_Mod_readOneDeed_69 (4 * d + 2) i2 (by omega) ?_
                                    refine zx_ic C d_Mod_readOneDeed_70 ?_
                                    refine zx_ic_ne C d_Mod_readOneDeed_72 (fun h72 => ?_) (fun h72 => ?_)
                                    · refine zx_iinc C d_Mod_readOneDeed_77 (by decide) rfl (lv1 := [(3, _), (4, _), (0, _), (1, _), (2, _)]) rfl ?_
                                      refine zx_goto C d_Mod_readOneDeed_80 ?_
                                      rw [show (2 : Int32) + 1 = 3 from by decide]
                                      refine zx_iload C d_Mod_readOneDeed_9 rfl ?_
                                      refine zx_ic C d_Mod_readOneDeed_10 ?_
                                      refine zx_ic_ge C d_Mod_readOneDeed_11 (fun h11 => ?_) (fun h11 => ?_)
                                      · exact absurd h11 (by decide)
                                      · refine zx_iload C d_Mod_readOneDeed_14 rfl ?_
                                        refine zx_ic C d_Mod_readOneDeed_15 ?_
                                        refine zx_ic_ne C d_Mod_readOneDeed_16 (fun h16 => ?_) (fun h16 => ?_)
                                        · refine zx_iload C d_Mod_readOneDeed_23 rfl ?_
                                          refine zx_ic C d_Mod_readOneDeed_24 ?_
                                          refine zx_ic_ne C d_Mod_readOneDeed_25 (fun h25 => ?_) (fun h25 => ?_)
                                          · exact absurd rfl h25
                                          · refine zx_ic C d_Mod_readOneDeed_28 ?_
                                            refine zx_goto C d_Mod_readOneDeed_30 ?_
                                            refine zx_istore C d_Mod_readOneDeed_35 (by decide) (lv1 := [(4, _), (3, _), (0, _), (1, _), (2, _)]) rfl ?_
                                            refine zx_aload C d_Mod_readOneDeed_37 rfl ?_
                                            refine zm_g C f_Mod_46_12 d_Mod_readOneDeed_38 rfl ?_
                                            refine zx_iload C d_Mod_readOneDeed_41 rfl ?_
                                            refine zx_iload C d_Mod_readOneDeed_42 rfl ?_
                                            refine zx_iadd C d_Mod_readOneDeed_43 ?_
                                            refine zx_aload C d_Mod_readOneDeed_44 rfl ?_
                                            refine zx_iload C d_Mod_readOneDeed_45 rfl ?_
                                            refine zx_iload C d_Mod_readOneDeed_46 rfl ?_
                                            refine zx_ic C d_Mod_readOneDeed_47 ?_
                                            refine zx_ic_ne C d_Mod_readOneDeed_48 (fun h48 => ?_) (fun h48 => ?_)
                                            · exact absurd rfl h48
                                            · refine zx_ic C d_Mod_readOneDeed_51 ?_
                                              refine zx_goto C d_Mod_readOneDeed_52 ?_
                                              refine zx_iload C d_Mod_readOneDeed_56 rfl ?_
                                              refine zr_di (zr_V C l_Mod_136 d_Mod_readOneDeed_58 (As := [_, _, _]) rfl rfl (Nat.le_of_ble_eq_true rfl) (c_Mod_digit G _ _ _ _ _ c fs n (p + 3) (by exact hc) hfn (by omega) (by exact rfl) 1 9 (by decide) (by decide)) 0 rfl rfl ⟨Nat.le_of_ble_eq_true rfl, Nat.le_of_ble_eq_true rfl, Nat.le_of_ble_eq_true rfl, Nat.le_of_ble_eq_true rfl⟩) ?_
                                              rw [hf]
                                              rw [bzv_0, adv_n]
                                              refine zm_st20 C d_Mod_readOneDeed_61 (4 * d + 3) i3 (by omega) ?_
                                              rw [ur_ur, ur_eq]
                                              refine zx_aload C d_Mod_readOneDeed_62 rfl ?_
                                              refine zm_g C f_Mod_46_12 d_Mod_readOneDeed_63 rfl ?_
                                              refine zx_iload C d_Mod_readOneDeed_66 rfl ?_
                                              refine zx_iload C d_Mod_readOneDeed_67 rfl ?_
                                              refine zx_iadd C d_Mod_readOneDeed_68 ?_
                                              refine zm_ld20 C d_Mod_readOneDeed_69 (4 * d + 3) i3 (by omega) ?_
                                              refine zx_ic C d_Mod_readOneDeed_70 ?_
                                              refine zx_ic_ne C d_Mod_readOneDeed_72 (fun h72 => ?_) (fun h72 => ?_)
                                              · exact absurd (upd_eq _ _ _) h72
                                              · refine zx_ic C d_Mod_readOneDeed_75 ?_
                                                exact zx_zret C hq (by decide) d_Mod_readOneDeed_76 (⟨0, rfl, _, _, rfl, by rw [hH]; rfl, fun j h16 h18 => upd_ne _ _ h16, fun j hj => by rw [upd_ne _ _ (by omega), upd_ne _ _ (by omega), upd_ne _ _ (by omega), upd_ne _ _ (by omega)], fun _ => rfl, fun x hx => by rw [hH] at hx; cases hx⟩)
                                        · exact absurd h16 (by decide)
                                    · exact absurd ((upd_eq _ _ _).symm.trans h72) (nI_n9 (by omega))
                                  · exact absurd h48 (by decide)
                                · exact absurd h25 (by decide)
                              · exact absurd h16 (by decide)
                          · exact absurd ((upd_eq _ _ _).symm.trans h72) (nI_n9 (by omega))
                        · exact absurd h48 (by decide)
                  · exact absurd ((upd_eq _ _ _).symm.trans h72) (nI_n9 (by omega))
                · exact absurd h48 (by decide)
              · exact absurd h25 (by decide)
            · exact absurd h16 (by decide)
        | some f =>
          have xf := dg_some (by decide) (by decide) hf
          have hH : rdD c n p = (p + 4, some (a, b, e, f)) := by rw [rdD, ha]; show (match dg c n (p + 1) 0 5 with | none => (p + 1, none) | some x => _) = _; rw [hb]; show (match dg c n (p + 2) 0 6 with | none => (p + 2, none) | some x => _) = _; rw [he]; show (match dg c n (p + 3) 1 9 with | none => (p + 3, none) | some x => _) = _; rw [hf]
          refine zx_ic C d_Mod_readOneDeed_0 ?_
          refine zx_aload C d_Mod_readOneDeed_1 rfl ?_
          refine zm_g C f_Mod_117_12 d_Mod_readOneDeed_2 rfl ?_
          refine zx_imul C d_Mod_readOneDeed_5 ?_
          rw [h4]
          refine zx_istore C d_Mod_readOneDeed_6 (by decide) (lv1 := [(2, _), (0, _), (1, _)]) rfl ?_
          refine zx_ic C d_Mod_readOneDeed_7 ?_
          refine zx_istore C d_Mod_readOneDeed_8 (by decide) (lv1 := [(3, _), (2, _), (0, _), (1, _)]) rfl ?_
          refine zx_lv [0, 1, 2, 3] rfl ?_
          refine zx_iload C d_Mod_readOneDeed_9 rfl ?_
          refine zx_ic C d_Mod_readOneDeed_10 ?_
          refine zx_ic_ge C d_Mod_readOneDeed_11 (fun h11 => ?_) (fun h11 => ?_)
          · exact absurd h11 (by decide)
          · refine zx_iload C d_Mod_readOneDeed_14 rfl ?_
            refine zx_ic C d_Mod_readOneDeed_15 ?_
            refine zx_ic_ne C d_Mod_readOneDeed_16 (fun h16 => ?_) (fun h16 => ?_)
            · refine zx_iload C d_Mod_readOneDeed_23 rfl ?_
              refine zx_ic C d_Mod_readOneDeed_24 ?_
              refine zx_ic_ne C d_Mod_readOneDeed_25 (fun h25 => ?_) (fun h25 => ?_)
              · refine zx_ic C d_Mod_readOneDeed_33 ?_
                refine zx_istore C d_Mod_readOneDeed_35 (by decide) (lv1 := [(4, _), (0, _), (1, _), (2, _), (3, _)]) rfl ?_
                refine zx_aload C d_Mod_readOneDeed_37 rfl ?_
                refine zm_g C f_Mod_46_12 d_Mod_readOneDeed_38 rfl ?_
                refine zx_iload C d_Mod_readOneDeed_41 rfl ?_
                refine zx_iload C d_Mod_readOneDeed_42 rfl ?_
                refine zx_iadd C d_Mod_readOneDeed_43 ?_
                refine zx_aload C d_Mod_readOneDeed_44 rfl ?_
                refine zx_iload C d_Mod_readOneDeed_45 rfl ?_
                refine zx_iload C d_Mod_readOneDeed_46 rfl ?_
                refine zx_ic C d_Mod_readOneDeed_47 ?_
                refine zx_ic_ne C d_Mod_readOneDeed_48 (fun h48 => ?_) (fun h48 => ?_)
                · refine zx_ic C d_Mod_readOneDeed_55 ?_
                  refine zx_iload C d_Mod_readOneDeed_56 rfl ?_
                  refine zr_di (zr_V C l_Mod_136 d_Mod_readOneDeed_58 (As := [_, _, _]) rfl rfl (Nat.le_of_ble_eq_true rfl) (c_Mod_digit G _ _ _ _ _ c fs n (p) (by exact hc) hfn (by omega) (by exact e16) 0 6 (by decide) (by decide)) 0 rfl rfl ⟨Nat.le_of_ble_eq_true rfl, Nat.le_of_ble_eq_true rfl, Nat.le_of_ble_eq_true rfl, Nat.le_of_ble_eq_true rfl⟩) ?_
                  rw [ha]
                  rw [bzv_s, adv_s]
                  refine zm_st20 C d_Mod_readOneDeed_61 (4 * d + 0) i0 (by omega) ?_
                  refine zx_aload C d_Mod_readOneDeed_62 rfl ?_
                  refine zm_g C f_Mod_46_12 d_Mod_readOneDeed_63 rfl ?_
                  refine zx_iload C d_Mod_readOneDeed_66 rfl ?_
                  refine zx_iload C d_Mod_readOneDeed_67 rfl ?_
                  refine zx_iadd C d_Mod_readOneDeed_68 ?_
                  refine zm_ld20 C d_Mod_readOneDeed_69 (4 * d + 0) i0 (by omega) ?_
                  refine zx_ic C d_Mod_readOneDeed_70 ?_
                  refine zx_ic_ne C d_Mod_readOneDeed_72 (fun h72 => ?_) (fun h72 => ?_)
                  · refine zx_iinc C d_Mod_readOneDeed_77 (by decide) rfl (lv1 := [(3, _), (4, _), (0, _), (1, _), (2, _)]) rfl ?_
                    refine zx_goto C d_Mod_readOneDeed_80 ?_
                    rw [show (0 : Int32) + 1 = 1 from by decide]
                    refine zx_iload C d_Mod_readOneDeed_9 rfl ?_
                    refine zx_ic C d_Mod_readOneDeed_10 ?_
                    refine zx_ic_ge C d_Mod_readOneDeed_11 (fun h11 => ?_) (fun h11 => ?_)
                    · exact absurd h11 (by decide)
                    · refine zx_iload C d_Mod_readOneDeed_14 rfl ?_
                      refine zx_ic C d_Mod_readOneDeed_15 ?_
                      refine zx_ic_ne C d_Mod_readOneDeed_16 (fun h16 => ?_) (fun h16 => ?_)
                      · exact absurd rfl h16
                      · refine zx_ic C d_Mod_readOneDeed_19 ?_
                        refine zx_goto C d_Mod_readOneDeed_20 ?_
                        refine zx_istore C d_Mod_readOneDeed_35 (by decide) (lv1 := [(4, _), (3, _), (0, _), (1, _), (2, _)]) rfl ?_
                        refine zx_aload C d_Mod_readOneDeed_37 rfl ?_
                        refine zm_g C f_Mod_46_12 d_Mod_readOneDeed_38 rfl ?_
                        refine zx_iload C d_Mod_readOneDeed_41 rfl ?_
                        refine zx_iload C d_Mod_readOneDeed_42 rfl ?_
                        refine zx_iadd C d_Mod_readOneDeed_43 ?_
                        refine zx_aload C d_Mod_readOneDeed_44 rfl ?_
                        refine zx_iload C d_Mod_readOneDeed_45 rfl ?_
                        refine zx_iload C d_Mod_readOneDeed_46 rfl ?_
                        refine zx_ic C d_Mod_readOneDeed_47 ?_
                        refine zx_ic_ne C d_Mod_readOneDeed_48 (fun h48 => ?_) (fun h48 => ?_)
                        · refine zx_ic C d_Mod_readOneDeed_55 ?_
                          refine zx_iload C d_Mod_readOneDeed_56 rfl ?_
                          refine zr_di (zr_V C l_Mod_136 d_Mod_readOneDeed_58 (As := [_, _, _]) rfl rfl (Nat.le_of_ble_eq_true rfl) (c_Mod_digit G _ _ _ _ _ c fs n (p + 1) (by exact hc) hfn (by omega) (by exact rfl) 0 5 (by decide) (by decide)) 0 rfl rfl ⟨Nat.le_of_ble_eq_true rfl, Nat.le_of_ble_eq_true rfl, Nat.le_of_ble_eq_true rfl, Nat.le_of_ble_eq_true rfl⟩) ?_
                          rw [hb]
                          rw [bzv_s, adv_s, upd_upd]
                          refine zm_st20 C d_Mod_readOneDeed_61 (4 * d + 1) i1 (by omega) ?_
                          rw [ur_ur, ur_eq]
                          refine zx_aload C d_Mod_readOneDeed_62 rfl ?_
                          refine zm_g C f_Mod_46_12 d_Mod_readOneDeed_63 rfl ?_
                          refine zx_iload C d_Mod_readOneDeed_66 rfl ?_
                          refine zx_iload C d_Mod_readOneDeed_67 rfl ?_
                          refine zx_iadd C d_Mod_readOneDeed_68 ?_
                          refine zm_ld20 C d_Mod_readOneDeed_69 (4 * d + 1) i1 (by omega) ?_
                          refine zx_ic C d_Mod_readOneDeed_70 ?_
                          refine zx_ic_ne C d_Mod_readOneDeed_72 (fun h72 => ?_) (fun h72 => ?_)
                          · refine zx_iinc C d_Mod_readOneDeed_77 (by decide) rfl (lv1 := [(3, _), (4, _), (0, _), (1, _), (2, _)]) rfl ?_
                            refine zx_goto C d_Mod_readOneDeed_80 ?_
                            rw [show (1 : Int32) + 1 = 2 from by decide]
                            refine zx_iload C d_Mod_readOneDeed_9 rfl ?_
                            refine zx_ic C d_Mod_readOneDeed_10 ?_
                            refine zx_ic_ge C d_Mod_readOneDeed_11 (fun h11 => ?_) (fun h11 => ?_)
                            · exact absurd h11 (by decide)
                            · refine zx_iload C d_Mod_readOneDeed_14 rfl ?_
                              refine zx_ic C d_Mod_readOneDeed_15 ?_
                              refine zx_ic_ne C d_Mod_readOneDeed_16 (fun h16 => ?_) (fun h16 => ?_)
                              · refine zx_iload C d_Mod_readOneDeed_23 rfl ?_
                                refine zx_ic C d_Mod_readOneDeed_24 ?_
                                refine zx_ic_ne C d_Mod_readOneDeed_25 (fun h25 => ?_) (fun h25 => ?_)
                                · refine zx_ic C d_Mod_readOneDeed_33 ?_
                                  refine zx_istore C d_Mod_readOneDeed_35 (by decide) (lv1 := [(4, _), (3, _), (0, _), (1, _), (2, _)]) rfl ?_
                                  refine zx_aload C d_Mod_readOneDeed_37 rfl ?_
                                  refine zm_g C f_Mod_46_12 d_Mod_readOneDeed_38 rfl ?_
                                  refine zx_iload C d_Mod_readOneDeed_41 rfl ?_
                                  refine zx_iload C d_Mod_readOneDeed_42 rfl ?_
                                  refine zx_iadd C d_Mod_readOneDeed_43 ?_
                                  refine zx_aload C d_Mod_readOneDeed_44 rfl ?_
                                  refine zx_iload C d_Mod_readOneDeed_45 rfl ?_
                                  refine zx_iload C d_Mod_readOneDeed_46 rfl ?_
                                  refine zx_ic C d_Mod_readOneDeed_47 ?_
                                  refine zx_ic_ne C d_Mod_readOneDeed_48 (fun h48 => ?_) (fun h48 => ?_)
                                  · refine zx_ic C d_Mod_readOneDeed_55 ?_
                                    refine zx_iload C d_Mod_readOneDeed_56 rfl ?_
                                    refine zr_di (zr_V C l_Mod_136 d_Mod_readOneDeed_58 (As := [_, _, _]) rfl rfl (Nat.le_of_ble_eq_true rfl) (c_Mod_digit G _ _ _ _ _ c fs n (p + 2) (by exact hc) hfn (by omega) (by exact rfl) 0 6 (by decide) (by decide)) 0 rfl rfl ⟨Nat.le_of_ble_eq_true rfl, Nat.le_of_ble_eq_true rfl, Nat.le_of_ble_eq_true rfl, Nat.le_of_ble_eq_true rfl⟩) ?_
                                    rw [he]
                                    rw [bzv_s, adv_s, upd_upd]
                                    refine zm_st20 C d_Mod_readOneDeed_61 (4 * d + 2) i2 (by omega) ?_
                                    rw [ur_ur, ur_eq]
                                    refine zx_aload C d_Mod_readOneDeed_62 rfl ?_
                                    refine zm_g C f_Mod_46_12 d_Mod_readOneDeed_63 rfl ?_
                                    refine zx_iload C d_Mod_readOneDeed_66 rfl ?_
                                    refine zx_iload C d_Mod_readOneDeed_67 rfl ?_
                                    refine zx_iadd C d_Mod_readOneDeed_68 ?_
                                    refine zm_ld20 C d_Mod_readOneDeed_69 (4 * d + 2) i2 (by omega) ?_
                                    refine zx_ic C d_Mod_readOneDeed_70 ?_
                                    refine zx_ic_ne C d_Mod_readOneDeed_72 (fun h72 => ?_) (fun h72 => ?_)
                                    · refine zx_iinc C d_Mod_readOneDeed_77 (by decide) rfl (lv1 := [(3, _), (4, _), (0, _), (1, _), (2, _)]) rfl ?_
                                      refine zx_goto C d_Mod_readOneDeed_80 ?_
                                      rw [show (2 : Int32) + 1 = 3 from by decide]
                                      refine zx_iload C d_Mod_readOneDeed_9 rfl ?_
                                      refine zx_ic C d_Mod_readOneDeed_10 ?_
                                      refine zx_ic_ge C d_Mod_readOneDeed_11 (fun h11 => ?_) (fun h11 => ?_)
                                      · exact absurd h11 (by decide)
                                      · refine zx_iload C d_Mod_readOneDeed_14 rfl ?_
                                        refine zx_ic C d_Mod_readOneDeed_15 ?_
                                        refine zx_ic_ne C d_Mod_readOneDeed_16 (fun h16 => ?_) (fun h16 => ?_)
                                        · refine zx_iload C d_Mod_readOneDeed_23 rfl ?_
                                          refine zx_ic C d_Mod_readOneDeed_24 ?_
                                          refine zx_ic_ne C d_Mod_readOneDeed_25 (fun h25 => ?_) (fun h25 => ?_)
                                          · exact absurd rfl h25
                                          · refine zx_ic C d_Mod_readOneDeed_28 ?_
                                            refine zx_goto C d_Mod_readOneDeed_30 ?_
                                            refine zx_istore C d_Mod_readOneDeed_35 (by decide) (lv1 := [(4, _), (3, _), (0, _), (1, _), (2, _)]) rfl ?_
                                            refine zx_aload C d_Mod_readOneDeed_37 rfl ?_
                                            refine zm_g C f_Mod_46_12 d_Mod_readOneDeed_38 rfl ?_
                                            refine zx_iload C d_Mod_readOneDeed_41 rfl ?_
                                            refine zx_iload C d_Mod_readOneDeed_42 rfl ?_
                                            refine zx_iadd C d_Mod_readOneDeed_43 ?_
                                            refine zx_aload C d_Mod_readOneDeed_44 rfl ?_
                                            refine zx_iload C d_Mod_readOneDeed_45 rfl ?_
                                            refine zx_iload C d_Mod_readOneDeed_46 rfl ?_
                                            refine zx_ic C d_Mod_readOneDeed_47 ?_
                                            refine zx_ic_ne C d_Mod_readOneDeed_48 (fun h48 => ?_) (fun h48 => ?_)
                                            · exact absurd rfl h48
                                            · refine zx_ic C d_Mod_readOneDeed_51 ?_
                                              refine zx_goto C d_Mod_readOneDeed_52 ?_
                                              refine zx_iload C d_Mod_readOneDeed_56 rfl ?_
                                              refine zr_di (zr_V C l_Mod_136 d_Mod_readOneDeed_58 (As := [_, _, _]) rfl rfl (Nat.le_of_ble_eq_true rfl) (c_Mod_digit G _ _ _ _ _ c fs n (p + 3) (by exact hc) hfn (by omega) (by exact rfl) 1 9 (by decide) (by decide)) 0 rfl rfl ⟨Nat.le_of_ble_eq_true rfl, Nat.le_of_ble_eq_true rfl, Nat.le_of_ble_eq_true rfl, Nat.le_of_ble_eq_true rfl⟩) ?_
                                              rw [hf]
                                              rw [bzv_s, adv_s, upd_upd]
                                              refine zm_st20 C d_Mod_readOneDeed_61 (4 * d + 3) i3 (by omega) ?_
                                              rw [ur_ur, ur_eq]
                                              refine zx_aload C d_Mod_readOneDeed_62 rfl ?_
                                              refine zm_g C f_Mod_46_12 d_Mod_readOneDeed_63 rfl ?_
                                              refine zx_iload C d_Mod_readOneDeed_66 rfl ?_
                                              refine zx_iload C d_Mod_readOneDeed_67 rfl ?_
                                              refine zx_iadd C d_Mod_readOneDeed_68 ?_
                                              refine zm_ld20 C d_Mod_readOneDeed_69 (4 * d + 3) i3 (by omega) ?_
                                              refine zx_ic C d_Mod_readOneDeed_70 ?_
                                              refine zx_ic_ne C d_Mod_readOneDeed_72 (fun h72 => ?_) (fun h72 => ?_)
                                              · refine zx_iinc C d_Mod_readOneDeed_77 (by decide) rfl (lv1 := [(3, _), (4, _), (0, _), (1, _), (2, _)]) rfl ?_
                                                refine zx_goto C d_Mod_readOneDeed_80 ?_
                                                rw [show (3 : Int32) + 1 = 4 from by decide]
                                                refine zx_iload C d_Mod_readOneDeed_9 rfl ?_
                                                refine zx_ic C d_Mod_readOneDeed_10 ?_
                                                refine zx_ic_ge C d_Mod_readOneDeed_11 (fun h11 => ?_) (fun h11 => ?_)
                                                · refine zx_aload C d_Mod_readOneDeed_83 rfl ?_
                                                  refine zx_dup C rfl d_Mod_readOneDeed_84 ?_
                                                  refine zm_g C f_Mod_117_12 d_Mod_readOneDeed_85 rfl ?_
                                                  refine zx_ic C d_Mod_readOneDeed_88 ?_
                                                  refine zx_iadd C d_Mod_readOneDeed_89 ?_
                                                  refine zm_p C p_Mod_117_12 d_Mod_readOneDeed_90 zb_fit_i (Nat.le_of_ble_eq_true rfl) zms_18 ?_
                                                  refine zx_ic C d_Mod_readOneDeed_93 ?_
                                                  exact zx_zret C hq (by decide) d_Mod_readOneDeed_94 (⟨1, rfl, _, _, rfl, by rw [hH]; rfl, fun j h16 h18 => by rw [upd_ne _ _ h18, upd_ne _ _ h16], fun j hj => by rw [upd_ne _ _ (by omega), upd_ne _ _ (by omega), upd_ne _ _ (by omega), upd_ne _ _ (by omega)], fun z => (by rw [hH] at z; cases z), fun x hx => by rw [hH] at hx; cases hx; exact ⟨rfl, by rw [upd_eq]; show F 18 + 1 = _; rw [e18, ← nI_succ], by rw [upd_ne _ _ (by omega), upd_ne _ _ (by omega), upd_ne _ _ (by omega)]; exact upd_eq _ _ _, by rw [upd_ne _ _ (by omega), upd_ne _ _ (by omega), upd_eq], by rw [upd_ne _ _ (by omega), upd_eq], upd_eq _ _ _⟩⟩)
                                                · exact absurd (by decide) h11
                                              · exact absurd ((upd_eq _ _ _).symm.trans h72) (nI_n9 (by omega))
                                        · exact absurd h16 (by decide)
                                    · exact absurd ((upd_eq _ _ _).symm.trans h72) (nI_n9 (by omega))
                                  · exact absurd h48 (by decide)
                                · exact absurd h25 (by decide)
                              · exact absurd h16 (by decide)
                          · exact absurd ((upd_eq _ _ _).symm.trans h72) (nI_n9 (by omega))
                        · exact absurd h48 (by decide)
                  · exact absurd ((upd_eq _ _ _).symm.trans h72) (nI_n9 (by omega))
                · exact absurd h48 (by decide)
              · exact absurd h25 (by decide)
            · exact absurd h16 (by decide)
/-- what has been read of a TEXT: HAPPENINGS, DEEDS, in their rows -/
def rdrep (q : Nat → Nat → Nat) (nh nd : Nat) (r19 r20 : Nat → Int32) : Prop := (∀ h, h < nh → r19 (4 * h) = nI (q 0 h) ∧ r19 (4 * h + 1) = nI (q 1 h) ∧ r19 (4 * h + 2) = nI (q 2 h) ∧ r19 (4 * h + 3) = nI (q 3 h)) ∧ ∀ d, d < nd → r20 (4 * d) = nI (q 4 d) ∧ r20 (4 * d + 1) = nI (q 5 d) ∧ r20 (4 * d + 2) = nI (q 6 d) ∧ r20 (4 * d + 3) = nI (q 7 d)
theorem rdrep_H {q : Nat → Nat → Nat} {nh : Nat} {r19 r20 r1 : Nat → Int32} {x : Nat × Nat × Nat × Nat} (h : rdrep q nh 0 r19 r20) (hk : ∀ j, j < 4 * nh → r1 j = r19 j) (h0 : r1 (4 * nh) = nI x.1) (h1 : r1 (4 * nh + 1) = nI x.2.1) (h2 : r1 (4 * nh + 2) = nI x.2.2.1) (h3 : r1 (4 * nh + 3) = nI x.2.2.2) : rdrep (put4 q 0 nh x) (nh + 1) 0 r1 r20 := by
  refine ⟨fun j hj => ?_, fun d hd => by omega⟩
  by_cases e : j = nh
  · subst e; simp only [put4, if_true]; exact ⟨h0, h1, h2, h3⟩
  · simp only [put4, if_neg e]
    rw [hk _ (by omega), hk _ (by omega), hk _ (by omega), hk _ (by omega)]
    exact h.1 j (by omega)
theorem rdrep_D {q : Nat → Nat → Nat} {nh nd : Nat} {r19 r20 r1 : Nat → Int32} {x : Nat × Nat × Nat × Nat} (h : rdrep q nh nd r19 r20) (hk : ∀ j, j < 4 * nd → r1 j = r20 j) (h0 : r1 (4 * nd) = nI x.1) (h1 : r1 (4 * nd + 1) = nI x.2.1) (h2 : r1 (4 * nd + 2) = nI x.2.2.1) (h3 : r1 (4 * nd + 3) = nI x.2.2.2) : rdrep (put4 q 4 nd x) nh (nd + 1) r19 r1 := by
  refine ⟨fun j hj => ?_, fun j hj => ?_⟩
  · have e := h.1 j hj
    by_cases z : j = nd
    · subst z; simpa [put4] using e
    · simpa [put4, z] using e
  · by_cases e : j = nd
    · subst e; simp only [put4, if_true]; exact ⟨h0, h1, h2, h3⟩
    · simp only [put4, if_neg e]
      rw [hk _ (by omega), hk _ (by omega), hk _ (by omega), hk _ (by omega)]
      exact h.2 j (by omega)
theorem rdH_le {c : Nat → Int32} {n p : Nat} (hp : p ≤ n) : p ≤ (rdH c n p).1 ∧ (rdH c n p).1 ≤ n := by
  unfold rdH
  cases hk : kdO c n p with
  | none => exact ⟨Nat.le_refl _, hp⟩
  | some k =>
    have hpn : p < n := Classical.byContradiction fun z => by rw [kdO, if_neg z] at hk; cases hk
    cases ha : dg c n (p + 1) 0 5 with
    | none => exact ⟨by show p ≤ p + 1; omega, by show p + 1 ≤ n; omega⟩
    | some a =>
      have xa := (dg_some (by decide) (by decide) ha).1
      cases hb : dg c n (p + 2) 0 9 with
      | none => exact ⟨by show p ≤ p + 2; omega, by show p + 2 ≤ n; omega⟩
      | some b =>
        have xb := (dg_some (by decide) (by decide) hb).1
        cases he : dg c n (p + 3) 0 6 with
        | none => exact ⟨by show p ≤ p + 3; omega, by show p + 3 ≤ n; omega⟩
        | some e =>
          have xe := (dg_some (by decide) (by decide) he).1
          cases hf : dg c n (p + 4) 0 5 with
          | none => exact ⟨by show p ≤ p + 4; omega, by show p + 4 ≤ n; omega⟩
          | some f =>
            have xf := (dg_some (by decide) (by decide) hf).1
            exact ⟨by show p ≤ p + 5; omega, by show p + 5 ≤ n; omega⟩
theorem rdD_le {c : Nat → Int32} {n p : Nat} (hp : p ≤ n) : p ≤ (rdD c n p).1 ∧ (rdD c n p).1 ≤ n := by
  unfold rdD
  cases ha : dg c n p 0 6 with
  | none => exact ⟨Nat.le_refl _, hp⟩
  | some a =>
    have xa := (dg_some (by decide) (by decide) ha).1
    cases hb : dg c n (p + 1) 0 5 with
    | none => exact ⟨by show p ≤ p + 1; omega, by show p + 1 ≤ n; omega⟩
    | some b =>
      have xb := (dg_some (by decide) (by decide) hb).1
      cases he : dg c n (p + 2) 0 6 with
      | none => exact ⟨by show p ≤ p + 2; omega, by show p + 2 ≤ n; omega⟩
      | some e =>
        have xe := (dg_some (by decide) (by decide) he).1
        cases hf : dg c n (p + 3) 1 9 with
        | none => exact ⟨by show p ≤ p + 3; omega, by show p + 3 ≤ n; omega⟩
        | some f =>
          have xf := (dg_some (by decide) (by decide) hf).1
          exact ⟨by show p ≤ p + 4; omega, by show p + 4 ≤ n; omega⟩
